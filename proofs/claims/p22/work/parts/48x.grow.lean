/-! FROM 48x.grow.lean.txt -/
section
/-! THE FOREST GROWS (q_xg's parts, by name: kinds, references, lengths) -/
def y_rt (X X' : XW) : Prop := ∀ c, q_kd X c ≠ 0 → y_root X c → y_root X' c
theorem y_rt.rf {X : XW} : y_rt X X := fun _ _ h => h
theorem y_rt.tr {X X1 X2 : XW} (h : y_rt X X1) (k : y_rt X1 X2) (hk : ∀ c, q_kd X c ≠ 0 → q_kd X1 c ≠ 0) : y_rt X X2 := fun c hc hr => k c (hk c hc) (h c hc hr)
/-- X' is X with an object h of kind k, references rf, length n -/
def y_ad1 (X X' : XW) (h k n : Nat) (rf : Nat → Nat) : Prop := (∀ a, q_kd X' a = if a = h then k else q_kd X a) ∧ (∀ a f, q_rf X' a f = if a = h then rf f else q_rf X a f) ∧ ∀ a, q_ln X' a = if a = h then n else q_ln X a
section YG
variable {X X' : XW} {h k n : Nat} {rf : Nat → Nat}
theorem y_Fo.add (F : y_Fo X) (T : q_T X) (A : y_ad1 X X' h k n rf) (h0 : q_kd X h = 0) (hrk : ∀ f, q_rk k f ≠ 0 → q_kd X (rf f) = q_rk k f) (hup : ∀ f, q_rk k f ≠ 0 → h < rf f) (hinj : ∀ f g, q_rk k f ≠ 0 → q_rk k g ≠ 0 → rf f = rf g → f = g) (hroot : ∀ f, q_rk k f ≠ 0 → y_root X (rf f)) (hrow : ∀ f, q_rk k f = 5 → q_ln X (q_rf X (rf f) 0) = y_rl k f) : y_Fo X' := by
  obtain ⟨A1, A2, A3⟩ := A
  obtain ⟨F1, F2, F3⟩ := F
  have ne : ∀ a, q_kd X a ≠ 0 → a ≠ h := fun a ha e => ha (by rw [e]; exact h0)
  refine ⟨fun a f hf => ?_, fun a f b g hf hg e => ?_, fun a f hf => ?_⟩
  · rw [A1] at hf
    rw [A2]
    by_cases q : a = h
    · rw [if_pos q] at hf ⊢
      rw [q]
      exact hup f hf
    · rw [if_neg q] at hf ⊢
      exact F1 a f hf
  · rw [A1] at hf hg
    rw [A2, A2] at e
    by_cases q : a = h
    · rw [if_pos q] at hf e
      by_cases q2 : b = h
      · rw [if_pos q2] at hg e
        exact ⟨q.trans q2.symm, hinj f g hf hg e⟩
      · rw [if_neg q2] at hg e
        exact absurd e.symm (hroot f hf b g hg)
    · rw [if_neg q] at hf e
      by_cases q2 : b = h
      · rw [if_pos q2] at hg e
        exact absurd e (hroot g hg a f hf)
      · rw [if_neg q2] at hg e
        exact F2 a f b g hf hg e
  · rw [A1] at hf ⊢
    rw [A2 a f]
    by_cases q : a = h
    · rw [if_pos q] at hf ⊢
      rw [if_pos q]
      have k5 : q_kd X (rf f) = 5 := (hrk f (by rw [hf]; decide)).trans hf
      have n1 : rf f ≠ h := ne _ (by rw [k5]; decide)
      have k20 : q_kd X (q_rf X (rf f) 0) = 20 := (T.1 (rf f) 0 (by rw [k5]; decide)).trans (by rw [k5]; rfl)
      have n2 : q_rf X (rf f) 0 ≠ h := ne _ (by rw [k20]; decide)
      rw [A2, if_neg n1, A3, if_neg n2]
      exact hrow f hf
    · rw [if_neg q] at hf ⊢
      rw [if_neg q]
      have k5 : q_kd X (q_rf X a f) = 5 := (T.1 a f (by rw [hf]; decide)).trans hf
      have n1 : q_rf X a f ≠ h := ne _ (by rw [k5]; decide)
      have k20 : q_kd X (q_rf X (q_rf X a f) 0) = 20 := (T.1 (q_rf X a f) 0 (by rw [k5]; decide)).trans (by rw [k5]; rfl)
      have n2 : q_rf X (q_rf X a f) 0 ≠ h := ne _ (by rw [k20]; decide)
      rw [A2, if_neg n1, A3, if_neg n2]
      exact F3 a f hf
theorem y_root.add {c : Nat} (R : y_root X c) (A : y_ad1 X X' h k n rf) (hne : ∀ f, q_rk k f ≠ 0 → rf f ≠ c) : y_root X' c := by
  obtain ⟨A1, A2, A3⟩ := A
  intro a f hf
  rw [A1] at hf
  rw [A2]
  by_cases q : a = h
  · rw [if_pos q] at hf ⊢
    exact hne f hf
  · rw [if_neg q] at hf ⊢
    exact R a f hf
/-- what is not in the world is no one's -/
theorem y_root.out {c : Nat} (T : q_T X) (h0 : q_kd X c = 0) : y_root X c := fun a f hf e => hf (by rw [← T.1 a f hf, e]; exact h0)
theorem y_rt.add {X0 : XW} (R : y_rt X0 X) (A : y_ad1 X X' h k n rf) (hne : ∀ f, q_rk k f ≠ 0 → q_kd X0 (rf f) = 0) : y_rt X0 X' := fun c hc hr => (R c hc hr).add A (fun f hf e => hc (by rw [← e]; exact hne f hf))
end YG
end
/-! FROM 48y.apart.lean.txt -/
section
/-! WHICH FIELDS REFER, AND THAT RISING REFERENCES ARE APART -/
theorem y_rk40 {k f : Nat} (h : 40 ≤ f) : q_rk k f = 0 := by
  unfold q_rk
  split <;> first | rfl | (split <;> first | rfl | omega)
theorem y_fs1 {f : Nat} (h : q_rk 1 f ≠ 0) : f = 0 ∨ f = 1 ∨ f = 2 ∨ f = 3 ∨ f = 8 ∨ f = 10 := by
  by_cases q : f < 40
  · exact (by decide : ∀ f, f < 40 → q_rk 1 f ≠ 0 → (f = 0 ∨ f = 1 ∨ f = 2 ∨ f = 3 ∨ f = 8 ∨ f = 10)) f q h
  · exact absurd (y_rk40 (by omega)) h
theorem y_in1 {rf : Nat → Nat} (a0 : rf 0 < rf 1) (a1 : rf 1 < rf 2) (a2 : rf 2 < rf 3) (a3 : rf 3 < rf 8) (a4 : rf 8 < rf 10) : ∀ f g, q_rk 1 f ≠ 0 → q_rk 1 g ≠ 0 → rf f = rf g → f = g := by
  intro f g hf hg e
  rcases y_fs1 hf with rfl | rfl | rfl | rfl | rfl | rfl <;> rcases y_fs1 hg with rfl | rfl | rfl | rfl | rfl | rfl <;> first | rfl | (exfalso; omega)
theorem y_fs2 {f : Nat} (h : q_rk 2 f ≠ 0) : f = 0 ∨ f = 1 ∨ f = 2 ∨ f = 3 ∨ f = 4 ∨ f = 5 ∨ f = 6 := by
  by_cases q : f < 40
  · exact (by decide : ∀ f, f < 40 → q_rk 2 f ≠ 0 → (f = 0 ∨ f = 1 ∨ f = 2 ∨ f = 3 ∨ f = 4 ∨ f = 5 ∨ f = 6)) f q h
  · exact absurd (y_rk40 (by omega)) h
theorem y_in2 {rf : Nat → Nat} (a0 : rf 0 < rf 1) (a1 : rf 1 < rf 2) (a2 : rf 2 < rf 3) (a3 : rf 3 < rf 4) (a4 : rf 4 < rf 5) (a5 : rf 5 < rf 6) : ∀ f g, q_rk 2 f ≠ 0 → q_rk 2 g ≠ 0 → rf f = rf g → f = g := by
  intro f g hf hg e
  rcases y_fs2 hf with rfl | rfl | rfl | rfl | rfl | rfl | rfl <;> rcases y_fs2 hg with rfl | rfl | rfl | rfl | rfl | rfl | rfl <;> first | rfl | (exfalso; omega)
theorem y_fs3 {f : Nat} (h : q_rk 3 f ≠ 0) : f = 2 ∨ f = 3 ∨ f = 4 ∨ f = 5 := by
  by_cases q : f < 40
  · exact (by decide : ∀ f, f < 40 → q_rk 3 f ≠ 0 → (f = 2 ∨ f = 3 ∨ f = 4 ∨ f = 5)) f q h
  · exact absurd (y_rk40 (by omega)) h
theorem y_in3 {rf : Nat → Nat} (a0 : rf 2 < rf 3) (a1 : rf 3 < rf 4) (a2 : rf 4 < rf 5) : ∀ f g, q_rk 3 f ≠ 0 → q_rk 3 g ≠ 0 → rf f = rf g → f = g := by
  intro f g hf hg e
  rcases y_fs3 hf with rfl | rfl | rfl | rfl <;> rcases y_fs3 hg with rfl | rfl | rfl | rfl <;> first | rfl | (exfalso; omega)
theorem y_fs4 {f : Nat} (h : q_rk 4 f ≠ 0) : f = 8 ∨ f = 9 := by
  by_cases q : f < 40
  · exact (by decide : ∀ f, f < 40 → q_rk 4 f ≠ 0 → (f = 8 ∨ f = 9)) f q h
  · exact absurd (y_rk40 (by omega)) h
theorem y_in4 {rf : Nat → Nat} (a0 : rf 8 < rf 9) : ∀ f g, q_rk 4 f ≠ 0 → q_rk 4 g ≠ 0 → rf f = rf g → f = g := by
  intro f g hf hg e
  rcases y_fs4 hf with rfl | rfl <;> rcases y_fs4 hg with rfl | rfl <;> first | rfl | (exfalso; omega)
theorem y_fs5 {f : Nat} (h : q_rk 5 f ≠ 0) : f = 0 := by
  by_cases q : f < 40
  · exact (by decide : ∀ f, f < 40 → q_rk 5 f ≠ 0 → (f = 0)) f q h
  · exact absurd (y_rk40 (by omega)) h
theorem y_in5 {rf : Nat → Nat} : ∀ f g, q_rk 5 f ≠ 0 → q_rk 5 g ≠ 0 → rf f = rf g → f = g := by
  intro f g hf hg e
  rw [y_fs5 hf, y_fs5 hg]
theorem y_fs6 {f : Nat} (h : q_rk 6 f ≠ 0) : f = 5 ∨ f = 6 ∨ f = 7 := by
  by_cases q : f < 40
  · exact (by decide : ∀ f, f < 40 → q_rk 6 f ≠ 0 → (f = 5 ∨ f = 6 ∨ f = 7)) f q h
  · exact absurd (y_rk40 (by omega)) h
theorem y_in6 {rf : Nat → Nat} (a0 : rf 5 < rf 6) (a1 : rf 6 < rf 7) : ∀ f g, q_rk 6 f ≠ 0 → q_rk 6 g ≠ 0 → rf f = rf g → f = g := by
  intro f g hf hg e
  rcases y_fs6 hf with rfl | rfl | rfl <;> rcases y_fs6 hg with rfl | rfl | rfl <;> first | rfl | (exfalso; omega)
theorem y_fs7 {f : Nat} (h : q_rk 7 f ≠ 0) : f = 7 := by
  by_cases q : f < 40
  · exact (by decide : ∀ f, f < 40 → q_rk 7 f ≠ 0 → (f = 7)) f q h
  · exact absurd (y_rk40 (by omega)) h
theorem y_in7 {rf : Nat → Nat} : ∀ f g, q_rk 7 f ≠ 0 → q_rk 7 g ≠ 0 → rf f = rf g → f = g := by
  intro f g hf hg e
  rw [y_fs7 hf, y_fs7 hg]
theorem y_fs8 {f : Nat} (h : q_rk 8 f ≠ 0) : f = 3 ∨ f = 4 ∨ f = 5 ∨ f = 6 ∨ f = 7 := by
  by_cases q : f < 40
  · exact (by decide : ∀ f, f < 40 → q_rk 8 f ≠ 0 → (f = 3 ∨ f = 4 ∨ f = 5 ∨ f = 6 ∨ f = 7)) f q h
  · exact absurd (y_rk40 (by omega)) h
theorem y_in8 {rf : Nat → Nat} (a0 : rf 3 < rf 4) (a1 : rf 4 < rf 5) (a2 : rf 5 < rf 6) (a3 : rf 6 < rf 7) : ∀ f g, q_rk 8 f ≠ 0 → q_rk 8 g ≠ 0 → rf f = rf g → f = g := by
  intro f g hf hg e
  rcases y_fs8 hf with rfl | rfl | rfl | rfl | rfl <;> rcases y_fs8 hg with rfl | rfl | rfl | rfl | rfl <;> first | rfl | (exfalso; omega)
theorem y_fs9 {f : Nat} (h : q_rk 9 f ≠ 0) : f = 8 ∨ f = 11 := by
  by_cases q : f < 40
  · exact (by decide : ∀ f, f < 40 → q_rk 9 f ≠ 0 → (f = 8 ∨ f = 11)) f q h
  · exact absurd (y_rk40 (by omega)) h
theorem y_in9 {rf : Nat → Nat} (a0 : rf 8 < rf 11) : ∀ f g, q_rk 9 f ≠ 0 → q_rk 9 g ≠ 0 → rf f = rf g → f = g := by
  intro f g hf hg e
  rcases y_fs9 hf with rfl | rfl <;> rcases y_fs9 hg with rfl | rfl <;> first | rfl | (exfalso; omega)
theorem y_fs10 {f : Nat} (h : q_rk 10 f ≠ 0) : f = 2 := by
  by_cases q : f < 40
  · exact (by decide : ∀ f, f < 40 → q_rk 10 f ≠ 0 → (f = 2)) f q h
  · exact absurd (y_rk40 (by omega)) h
theorem y_in10 {rf : Nat → Nat} : ∀ f g, q_rk 10 f ≠ 0 → q_rk 10 g ≠ 0 → rf f = rf g → f = g := by
  intro f g hf hg e
  rw [y_fs10 hf, y_fs10 hg]
theorem y_fs11 {f : Nat} (h : q_rk 11 f ≠ 0) : f = 3 ∨ f = 4 ∨ f = 8 ∨ f = 9 ∨ f = 10 ∨ f = 12 ∨ f = 13 ∨ f = 14 ∨ f = 15 := by
  by_cases q : f < 40
  · exact (by decide : ∀ f, f < 40 → q_rk 11 f ≠ 0 → (f = 3 ∨ f = 4 ∨ f = 8 ∨ f = 9 ∨ f = 10 ∨ f = 12 ∨ f = 13 ∨ f = 14 ∨ f = 15)) f q h
  · exact absurd (y_rk40 (by omega)) h
theorem y_in11 {rf : Nat → Nat} (a0 : rf 3 < rf 4) (a1 : rf 4 < rf 8) (a2 : rf 8 < rf 9) (a3 : rf 9 < rf 10) (a4 : rf 10 < rf 12) (a5 : rf 12 < rf 13) (a6 : rf 13 < rf 14) (a7 : rf 14 < rf 15) : ∀ f g, q_rk 11 f ≠ 0 → q_rk 11 g ≠ 0 → rf f = rf g → f = g := by
  intro f g hf hg e
  rcases y_fs11 hf with rfl | rfl | rfl | rfl | rfl | rfl | rfl | rfl | rfl <;> rcases y_fs11 hg with rfl | rfl | rfl | rfl | rfl | rfl | rfl | rfl | rfl <;> first | rfl | (exfalso; omega)
theorem y_fs12 {f : Nat} (h : q_rk 12 f ≠ 0) : f = 4 ∨ f = 5 ∨ f = 6 ∨ f = 7 ∨ f = 20 ∨ f = 21 ∨ f = 22 ∨ f = 23 ∨ f = 28 ∨ f = 29 ∨ f = 32 ∨ f = 36 := by
  by_cases q : f < 40
  · exact (by decide : ∀ f, f < 40 → q_rk 12 f ≠ 0 → (f = 4 ∨ f = 5 ∨ f = 6 ∨ f = 7 ∨ f = 20 ∨ f = 21 ∨ f = 22 ∨ f = 23 ∨ f = 28 ∨ f = 29 ∨ f = 32 ∨ f = 36)) f q h
  · exact absurd (y_rk40 (by omega)) h
theorem y_in12 {rf : Nat → Nat} (a0 : rf 4 < rf 5) (a1 : rf 5 < rf 6) (a2 : rf 6 < rf 7) (a3 : rf 7 < rf 20) (a4 : rf 20 < rf 21) (a5 : rf 21 < rf 22) (a6 : rf 22 < rf 23) (a7 : rf 23 < rf 28) (a8 : rf 28 < rf 29) (a9 : rf 29 < rf 32) (a10 : rf 32 < rf 36) : ∀ f g, q_rk 12 f ≠ 0 → q_rk 12 g ≠ 0 → rf f = rf g → f = g := by
  intro f g hf hg e
  rcases y_fs12 hf with rfl | rfl | rfl | rfl | rfl | rfl | rfl | rfl | rfl | rfl | rfl | rfl <;> rcases y_fs12 hg with rfl | rfl | rfl | rfl | rfl | rfl | rfl | rfl | rfl | rfl | rfl | rfl <;> first | rfl | (exfalso; omega)
theorem y_fs23 {f : Nat} (h : q_rk 23 f ≠ 0) : f = 0 ∨ f = 1 ∨ f = 2 ∨ f = 3 := by
  by_cases q : f < 40
  · exact (by decide : ∀ f, f < 40 → q_rk 23 f ≠ 0 → (f = 0 ∨ f = 1 ∨ f = 2 ∨ f = 3)) f q h
  · exact absurd (y_rk40 (by omega)) h
theorem y_in23 {rf : Nat → Nat} (a0 : rf 0 < rf 1) (a1 : rf 1 < rf 2) (a2 : rf 2 < rf 3) : ∀ f g, q_rk 23 f ≠ 0 → q_rk 23 g ≠ 0 → rf f = rf g → f = g := by
  intro f g hf hg e
  rcases y_fs23 hf with rfl | rfl | rfl | rfl <;> rcases y_fs23 hg with rfl | rfl | rfl | rfl <;> first | rfl | (exfalso; omega)
theorem y_fs24 {f : Nat} (h : q_rk 24 f ≠ 0) : f = 0 ∨ f = 1 ∨ f = 2 := by
  by_cases q : f < 40
  · exact (by decide : ∀ f, f < 40 → q_rk 24 f ≠ 0 → (f = 0 ∨ f = 1 ∨ f = 2)) f q h
  · exact absurd (y_rk40 (by omega)) h
theorem y_in24 {rf : Nat → Nat} (a0 : rf 0 < rf 1) (a1 : rf 1 < rf 2) : ∀ f g, q_rk 24 f ≠ 0 → q_rk 24 g ≠ 0 → rf f = rf g → f = g := by
  intro f g hf hg e
  rcases y_fs24 hf with rfl | rfl | rfl <;> rcases y_fs24 hg with rfl | rfl | rfl <;> first | rfl | (exfalso; omega)
end
/-! FROM 49a.merged.lean.txt -/
section
/-! FROM 49a.game.lean.txt -/
/-! THE GAME OF BOTH: the relation; a laying left, a player bent -/
def rg_t (V : Nat → Int → Int) (c : Int → Int) : Prop := V 1 0 = c 0 ∧ V 1 1 = c 1 ∧ V 1 2 = c 3 ∧ V 1 3 = c 4 ∧ V 1 4 = c 2 ∧ 0 ≤ c 3 ∧ c 3 ≤ 2
def rg_s (V : Nat → Int → Int) (c : Int → Int) : Prop := V 0 4 = c 5 ∧ V 0 5 = (if c 2 = 0 then 0 else c 6) ∧ (V 0 6 = c 8 ∧ -1 ≤ c 8) ∧ V 0 7 = c 7
def rg_p (V : Nat → Int → Int) (c : Int → Int) : Prop := ∀ p : Int, 0 ≤ p → p < 6 → V 10 p = c (10 + p) ∧ V 11 p = c (16 + p) ∧ V 12 p = c (22 + p) ∧ V 13 p = c (28 + p)
def rg_h (V : Nat → Int → Int) (c : Int → Int) : Prop := (∀ j : Int, 0 ≤ j → j < 60 → V 7 j = c (34 + j)) ∧ ∀ p : Int, 0 ≤ p → p < 6 → V 9 p = m_S c (34 + 10 * p) 10
def rg_l (V : Nat → Int → Int) (c : Int → Int) : Prop := V 2 0 = c 9 ∧ V 2 1 = m_L c (c 9).toNat ∧ ∀ k : Int, 0 ≤ k → k < c 9 → V 14 k = c (94 + 7 * k) ∧ V 15 k = c (94 + 7 * k + 1) ∧ V 16 k = c (94 + 7 * k + 2) ∧ (0 ≤ c (94 + 7 * k) ∧ c (94 + 7 * k) < 6) ∧ ∀ i : Int, 0 ≤ i → i < c (94 + 7 * k + 2) → V 17 (4 * k + i) = c (94 + 7 * k + 3 + i)
def rg_a (V : Nat → Int → Int) (c : Int → Int) : Prop := (∀ p k : Int, 0 ≤ p → p < 6 → 0 ≤ k → k < 10 → V 8 (10 * p + k) = m_A c p k (c 9).toNat) ∧ ∀ k : Int, 0 ≤ k → k < 10 → V 4 k = m_I c k
def rg (V : Nat → Int → Int) (c : Int → Int) : Prop := rg_t V c ∧ rg_s V c ∧ rg_p V c ∧ rg_h V c ∧ rg_l V c ∧ rg_a V c
theorem gm_xor (x y : Int32) : (x ^^^ y).toInt < 0 ↔ ¬ (x.toInt < 0 ↔ y.toInt < 0) := by
  have h1 : (x ^^^ y).toBitVec.msb = (x.toBitVec.msb ^^ y.toBitVec.msb) := BitVec.msb_xor
  rw [BitVec.msb_eq_toInt, BitVec.msb_eq_toInt, BitVec.msb_eq_toInt] at h1
  have a : (x ^^^ y).toBitVec.toInt = (x ^^^ y).toInt := rfl
  have b : x.toBitVec.toInt = x.toInt := rfl
  have d : y.toBitVec.toInt = y.toInt := rfl
  rw [a, b, d] at h1
  by_cases p : x.toInt < 0 <;> by_cases q : y.toInt < 0 <;> by_cases r : (x ^^^ y).toInt < 0 <;> simp [p, q, r] at h1 ⊢
/-- what floorMod answers -/
theorem gm_fm {X : XW} {σ : ST} {x y : Int32} {a k : Int} (hx : x.toInt = a) (hy : y.toInt = k) (ha : -1000 ≤ a ∧ a ≤ 1000) (hk : 0 < k ∧ k ≤ 1000) : (F_J9_floorMod_7cf53 X σ x y).toInt = a % k := by
  have hm : (x % y).toInt = a.tmod k := by rw [Int32.toInt_mod, hx, hy]
  have n1 := Int.emod_nonneg a (by omega : k ≠ 0)
  have n2 := Int.emod_lt_of_pos a hk.1
  have hxr := gm_xor x y
  rw [hx, hy] at hxr
  unfold F_J9_floorMod_7cf53
  rw [q_letE, q_letE, q_letE, hm]
  by_cases q : a < 0
  · rw [if_pos (hxr.mpr (by omega))]
    have e := Int.tmod_add_mul_tdiv a k
    have t0 : a.tmod k = a % k ∨ a.tmod k = a % k - k := by
      have z := @Int.tmod_eq_emod a k
      rw [z]
      have kk : (k.natAbs : Int) = k := by omega
      split
      · exact Or.inl (by omega)
      · exact Or.inr (by omega)
    by_cases q2 : a.tmod k = 0
    · rw [if_pos q2, hm]
      omega
    · rw [if_neg q2]
      have t1 : a.tmod k ≤ 0 := by
        have z := Int.neg_tmod (-a) k
        rw [Int.neg_neg] at z
        rw [z]
        have y2 : 0 ≤ (-a).tmod k := by rw [Int.tmod_eq_emod_of_nonneg (by omega)]; exact Int.emod_nonneg _ (by omega)
        omega
      rw [ar_add, hm, hy, ar_wr (by omega) (by omega)]
      omega
  · rw [if_neg (fun z => by have := hxr.mp z; omega), hm, Int.tmod_eq_emod_of_nonneg (by omega)]
section GA
variable {X : XW} {lb : Nat → Nat} {g o a : Nat} {σ τ σ0 τ0 : ST} {V : Nat → Int → Int} {c : Int → Int}
theorem y_W.rd (w : y_W X lb g o σ0 σ V) {id : Nat} (h : id < 25) (f : Nat) {i : Int} (hi : (f : Int) = i) : (σ.1 (y_gA X g id) f).toInt = V id i := by
  rw [y_v_rdn h, w.2.2, hi]
/-- sums read the same behind a change below 34 -/
theorem gm_low {c' : Int → Int} (h : ∀ j : Int, 34 ≤ j → c' j = c j) : (∀ b n, 34 ≤ b → m_S c' b n = m_S c b n) ∧ (∀ n, m_L c' n = m_L c n) ∧ (∀ w k n, 34 ≤ w → m_K c' w k n = m_K c w k n) ∧ (∀ p k n, m_A c' p k n = m_A c p k n) ∧ ∀ k n, 0 ≤ k → m_P c' k n = m_P c k n := by
  have hK : ∀ (w k : Int) (n : Nat), 34 ≤ w → m_K c' w k n = m_K c w k n := by
    intro w k n hw
    induction n with
    | zero => rfl
    | succ n ih =>
      show m_K c' w k n + (if k < 0 ∨ c' (w + 3 + (n : Int)) = k then 1 else 0) = m_K c w k n + (if k < 0 ∨ c (w + 3 + (n : Int)) = k then 1 else 0)
      rw [ih, h _ (by omega)]
  refine ⟨fun b n hb => m_S_ext (fun j a1 a2 => h j (by omega)), fun n => ?_, hK, fun p k n => ?_, fun k n hk => ?_⟩
  · induction n with
    | zero => rfl
    | succ n ih =>
      show m_L c' n + c' (94 + 7 * (n : Int) + 2) = m_L c n + c (94 + 7 * (n : Int) + 2)
      rw [ih, h _ (by omega)]
  · induction n with
    | zero => rfl
    | succ n ih =>
      show m_A c' p k n + (if 0 ≤ p ∧ c' (94 + 7 * (n : Int)) ≠ p then 0 else m_K c' (94 + 7 * (n : Int)) k (c' (94 + 7 * (n : Int) + 2)).toNat) = m_A c p k n + (if 0 ≤ p ∧ c (94 + 7 * (n : Int)) ≠ p then 0 else m_K c (94 + 7 * (n : Int)) k (c (94 + 7 * (n : Int) + 2)).toNat)
      rw [ih, h _ (by omega), h _ (by omega), hK _ _ _ (by omega)]
  · induction n with
    | zero => rfl
    | succ n ih =>
      show m_P c' k n + c' (34 + 10 * (n : Int) + k) = m_P c k n + c (34 + 10 * (n : Int) + k)
      rw [ih, h _ (by omega)]
/-- kind, turn, winner, open anew: the rest stands -/
theorem rg.st {V' : Nat → Int → Int} {c' : Int → Int} (h : rg V c) (hV : ∀ id i, id ≠ 0 → V' id i = V id i) (hc : ∀ j : Int, j ≠ 5 → j ≠ 6 → j ≠ 7 → j ≠ 8 → c' j = c j) (s : rg_s V' c') : rg V' c' := by
  obtain ⟨⟨t1, t2, t3, t4, t5, t6⟩, -, hp, ⟨h1, h2⟩, ⟨l1, l2, l3⟩, ⟨a1, a2⟩⟩ := h
  obtain ⟨lS, lL, lK, lA, lP⟩ := gm_low (c := c) (c' := c') (fun j hj => hc j (by omega) (by omega) (by omega) (by omega))
  have e9 : c' 9 = c 9 := hc 9 (by decide) (by decide) (by decide) (by decide)
  have e2 : c' 2 = c 2 := hc 2 (by decide) (by decide) (by decide) (by decide)
  refine ⟨⟨?_, ?_, ?_, ?_, ?_, ?_⟩, s, fun p p0 p1 => ?_, ⟨fun j j0 j1 => ?_, fun p p0 p1 => ?_⟩, ⟨?_, ?_, fun k k0 k1 => ?_⟩, ⟨fun p k p0 p1 k0 k1 => ?_, fun k k0 k1 => ?_⟩⟩
  · rw [hV 1 0 (by decide), hc 0 (by decide) (by decide) (by decide) (by decide)]; exact t1
  · rw [hV 1 1 (by decide), hc 1 (by decide) (by decide) (by decide) (by decide)]; exact t2
  · rw [hV 1 2 (by decide), hc 3 (by decide) (by decide) (by decide) (by decide)]; exact t3
  · rw [hV 1 3 (by decide), hc 4 (by decide) (by decide) (by decide) (by decide)]; exact t4
  · rw [hV 1 4 (by decide), e2]; exact t5
  · rw [hc 3 (by decide) (by decide) (by decide) (by decide)]; exact t6
  · rw [hV 10 p (by decide), hV 11 p (by decide), hV 12 p (by decide), hV 13 p (by decide), hc _ (by omega) (by omega) (by omega) (by omega), hc _ (by omega) (by omega) (by omega) (by omega), hc _ (by omega) (by omega) (by omega) (by omega), hc _ (by omega) (by omega) (by omega) (by omega)]
    exact hp p p0 p1
  · rw [hV 7 j (by decide), hc _ (by omega) (by omega) (by omega) (by omega)]; exact h1 j j0 j1
  · rw [hV 9 p (by decide), lS _ _ (by omega)]; exact h2 p p0 p1
  · rw [hV 2 0 (by decide), e9]; exact l1
  · rw [hV 2 1 (by decide), e9, lL]; exact l2
  · rw [e9] at k1
    obtain ⟨y1, y2, y3, y5, y4⟩ := l3 k k0 k1
    rw [hV 14 k (by decide), hV 15 k (by decide), hV 16 k (by decide), hc _ (by omega) (by omega) (by omega) (by omega), hc _ (by omega) (by omega) (by omega) (by omega), hc _ (by omega) (by omega) (by omega) (by omega)]
    refine ⟨y1, y2, y3, y5, fun i i0 i1 => ?_⟩
    rw [hV 17 _ (by decide), hc _ (by omega) (by omega) (by omega) (by omega)]
    exact y4 i i0 i1
  · rw [hV 8 _ (by decide), e9, lA]; exact a1 p k p0 p1 k0 k1
  · rw [hV 4 k (by decide)]
    unfold m_I
    rw [e9, e2, lA, lP _ _ k0]
    exact a2 k k0 k1
end GA

/-! FROM 49b.leave.lean.txt -/
/-! A LAYING LEFT, A PLAYER BENT -/
/-- the kind behind k, where no one doubted -/
def gm_nk (c : Int → Int) (k : Int) : Int := if c 3 = 2 then k else if c 3 = 0 then (k + 1) % c 0 else (k - 1) % c 0
section GB
variable {X : XW} {lb : Nat → Nat} {g o a : Nat} {σ τ σ0 τ0 : ST} {V : Nat → Int → Int} {c : Int → Int}
theorem gm_back {k K : Int} : (k + K - 1) % K = (k - 1) % K := by
  have e : k + K - 1 = (k - 1) + K * 1 := by omega
  rw [e, Int.add_mul_emod_self_left]
theorem gm_cell (hc : m_c X τ a = c) {i : Int32} {A : Int} (h : i.toInt = A) : (τ.1 (q_rf X a 20) i.toNatClampNeg).toInt = c A := by
  have z := m_rd (X := X) (σ := τ) (a := a) rfl h
  rw [hc] at z
  exact z
/-- the class: the kind that follows -/
theorem gm_kindAfter (w : y_W X lb g o σ0 σ V) (t : rg_t V c) (h : m_H c) {x : Int32} {k : Int} (hx : x.toInt = k) (hk : 0 ≤ k ∧ k < c 0) : (F_X6_kindAfter X σ (q_rf X g 0) x 1).toInt = gm_nk c k := by
  obtain ⟨t1, t2, t3, t4, t5, t6⟩ := t
  have one : (1 : Int32).toInt = 1 := rfl
  have e2 : (σ.1 (q_rf X g 0) 2).toInt = c 3 := (w.rd (id := 1) (by decide) 2 rfl).trans t3
  have e0 : (σ.1 (q_rf X g 0) 0).toInt = c 0 := (w.rd (id := 1) (by decide) 0 rfl).trans t1
  have h0 := h.1
  unfold F_X6_kindAfter gm_nk
  rw [q_letE (σ.1 (q_rf X g 0) 2), e2]
  by_cases q : c 3 = 2
  · rw [if_pos q, if_pos q]
    exact hx
  · rw [if_neg q, if_neg q, q_letE (σ.1 (q_rf X g 0) 0), e0, if_pos (by omega), q_letE (σ.1 (q_rf X g 0) 2), e2]
    by_cases q0 : c 3 = 0
    · rw [if_pos q0, if_pos q0, q_letE, q_letE, q_letE]
      exact gm_fm (by rw [ar_add, hx, one, ar_wr (by omega) (by omega)]) e0 ⟨by omega, by omega⟩ ⟨by omega, by omega⟩
    · rw [if_neg q0, if_neg q0, q_letE, q_letE, q_letE]
      exact gm_fm (by rw [ar_sub, hx, one, ar_wr (by omega) (by omega)]) e0 ⟨by omega, by omega⟩ ⟨by omega, by omega⟩
/-- the reference's -/
theorem gm_nextKind (hc : m_c X τ a = c) (h0 : 2 ≤ c 0 ∧ c 0 ≤ 10) (h5 : 0 ≤ c 5 ∧ c 5 < c 0) (h3 : 0 ≤ c 3 ∧ c 3 ≤ 2) : (F_X12_nextKind X τ a 1).toInt = gm_nk c (c 5) := by
  have one : (1 : Int32).toInt = 1 := rfl
  have r0 : (τ.1 (q_rf X a 20) (0 : Int32).toNatClampNeg).toInt = c 0 := gm_cell hc rfl
  have r3 : (τ.1 (q_rf X a 20) (3 : Int32).toNatClampNeg).toInt = c 3 := gm_cell hc rfl
  have r5 : (τ.1 (q_rf X a 20) (5 : Int32).toNatClampNeg).toInt = c 5 := gm_cell hc rfl
  have rm : ∀ (x : Int32) (k : Int), x.toInt = k → 0 ≤ k → (x % τ.1 (q_rf X a 20) (0 : Int32).toNatClampNeg).toInt = k % c 0 := by
    intro x k hx h0'
    rw [Int32.toInt_mod, hx, r0, Int.tmod_eq_emod_of_nonneg h0']
  unfold F_X12_nextKind gm_nk
  rw [q_letE (τ.1 (q_rf X a 20) (0 : Int32).toNatClampNeg), q_letE (τ.1 (q_rf X a 20) (3 : Int32).toNatClampNeg), r3]
  by_cases q0 : c 3 = 0
  · rw [if_pos q0, if_neg (by omega), if_pos q0, q_letE, q_letE, q_letE]
    exact rm _ _ (by rw [ar_add, r5, one, ar_wr (by omega) (by omega)]) (by omega)
  · rw [if_neg q0, q_letE (τ.1 (q_rf X a 20) (3 : Int32).toNatClampNeg), r3]
    by_cases q1 : c 3 = 1
    · rw [if_pos q1, q_letE (τ.1 (q_rf X a 20) (3 : Int32).toNatClampNeg), r3, if_pos q1, if_neg (by omega), if_neg q0, q_letE, q_letE, q_letE, q_letE]
      rw [rm _ (c 5 + c 0 - 1) (by rw [ar_sub, ar_add, r5, r0, one, ar_wr (n := c 5 + c 0) (by omega) (by omega), ar_wr (by omega) (by omega)]) (by omega)]
      exact gm_back
    · rw [if_neg q1, one, if_neg (by decide), q_letE (τ.1 (q_rf X a 20) (3 : Int32).toNatClampNeg), r3, if_neg q1, if_pos (by omega), q_letE]
      exact r5
/-- who follows -/
theorem gm_playerAfter (w : y_W X lb g o σ0 σ V) (t : rg_t V c) (h : m_H c) {x : Int32} {p : Int} (hx : x.toInt = p) (hp : 0 ≤ p ∧ p < c 2) : (F_X6_playerAfter X σ (q_rf X g 0) x 1).toInt = (p + 1) % c 2 := by
  have one : (1 : Int32).toInt = 1 := rfl
  have h2 := h.2.1
  have e4 : (σ.1 (q_rf X g 0) 4).toInt = c 2 := (w.rd (id := 1) (by decide) 4 rfl).trans t.2.2.2.2.1
  unfold F_X6_playerAfter
  rw [q_letE (σ.1 (q_rf X g 0) 4), e4, if_pos (by omega), q_letE, q_letE, q_letE]
  exact gm_fm (by rw [ar_add, hx, one, ar_wr (by omega) (by omega)]) e4 ⟨by omega, by omega⟩ ⟨by omega, by omega⟩
theorem gm_behindOf (hc : m_c X τ a = c) (h2 : 0 ≤ c 2 ∧ c 2 ≤ 6) {x : Int32} {p : Int} (hx : x.toInt = p) (hp : 0 ≤ p ∧ p < c 2) : (F_X12_behindOf X τ a x).toInt = (p + 1) % c 2 := by
  have one : (1 : Int32).toInt = 1 := rfl
  have r2 : (τ.1 (q_rf X a 20) (2 : Int32).toNatClampNeg).toInt = c 2 := gm_cell hc rfl
  unfold F_X12_behindOf
  rw [q_letE, q_letE, q_letE, Int32.toInt_mod, ar_add, hx, one, ar_wr (by omega) (by omega), r2, Int.tmod_eq_emod_of_nonneg (by omega)]
/-- the reference's cards of a player -/
theorem gm_handOf (hc : m_c X τ a = c) {x y : Int32} {p k : Int} (hx : x.toInt = p) (hy : y.toInt = k) (hp : 0 ≤ p ∧ p < 6) (hk : 0 ≤ k ∧ k < 10) : (F_X12_handOf X τ a x y).toInt = c (34 + 10 * p + k) := by
  have e10 : (10 : Int32).toInt = 10 := rfl
  have e34 : (34 : Int32).toInt = 34 := rfl
  unfold F_X12_handOf
  rw [q_letE, q_letE, q_letE, q_letE]
  exact gm_cell hc (by rw [ar_add, ar_add, ar_mul, e34, e10, hx, hy, ar_wr (n := 10 * p) (by omega) (by omega), ar_wr (n := 34 + 10 * p) (by omega) (by omega), ar_wr (by omega) (by omega)])
theorem gm_cardsL (hc : m_c X τ a = c) (hb : ∀ p k : Int, 0 ≤ p → p < 6 → 0 ≤ k → k < 10 → 0 ≤ c (34 + 10 * p + k) ∧ c (34 + 10 * p + k) ≤ 80) {v : Int32} {p : Int} (hv : v.toInt = p) (hp : 0 ≤ p ∧ p < 6) (k : Nat) : ∀ x y : Int32, (2147483647 - y.toInt).toNat < k → 0 ≤ y.toInt → y.toInt ≤ 10 → x.toInt = m_S c (34 + 10 * p) y.toInt.toNat → 0 ≤ x.toInt → x.toInt ≤ 80 * y.toInt → (F_X12_cardsOf_L4_1 X τ a v k x y).toInt = m_S c (34 + 10 * p) 10 := by
  induction k with
  | zero => intro x y hm; exact absurd hm (Nat.not_lt_zero _)
  | succ k ih =>
    intro x y hm y0 y1 hx x0 x1
    rw [F_X12_cardsOf_L4_1_s]
    unfold F_X12_cardsOf_B4_1
    by_cases q : y.toInt < 10
    · have hh := gm_handOf hc hv (y := y) rfl hp ⟨y0, q⟩
      have bb := hb p y.toInt hp.1 hp.2 y0 q
      have e1 : (y + 1).toInt = y.toInt + 1 := y_inc (by omega)
      have ex : (x + F_X12_handOf X τ a v y).toInt = x.toInt + c (34 + 10 * p + y.toInt) := by rw [ar_add, hh, ar_wr (by omega) (by omega)]
      rw [if_pos q, q_letE, q_letE, q_letE]
      refine ih _ _ (by omega) (by omega) (by omega) ?_ (by omega) (by omega)
      rw [ex, e1, hx]
      have et : (y.toInt + 1).toNat = y.toInt.toNat + 1 := by omega
      rw [et]
      show _ = m_S c (34 + 10 * p) y.toInt.toNat + c (34 + 10 * p + (y.toInt.toNat : Int))
      have ec : (y.toInt.toNat : Int) = y.toInt := by omega
      rw [ec]
    · have ey : y.toInt = 10 := by omega
      rw [if_neg q, hx, ey]
      rfl
theorem gm_cardsOf (hc : m_c X τ a = c) (hG : m_G c) {v : Int32} {p : Int} (hv : v.toInt = p) (hp : 0 ≤ p ∧ p < 6) : (F_X12_cardsOf X τ a v).toInt = m_S c (34 + 10 * p) 10 := by
  unfold F_X12_cardsOf
  have z0 : (0 : Int32).toInt = 0 := rfl
  exact gm_cardsL hc (fun p k a1 a2 a3 a4 => hG.h80 a1 a2 a3 a4) hv hp _ 0 0 (by decide) (by decide) (by decide) (by rw [z0]; rfl) (by decide) (by decide)
end GB

/-! FROM 49c.letlie.lean.txt -/
/-! A LAYING LEFT: class and reference -/
section GC
variable {X : XW} {lb : Nat → Nat} {g o a : Nat} {σ τ σ0 τ0 : ST} {V : Nat → Int → Int} {c : Int → Int}
theorem gm_winIfRid (Y : y_S X lb) (G : y_G X lb g o) (w : y_W X lb g o σ0 σ V) {p : Int} (h5 : V 0 5 = p) (hp : 0 ≤ p ∧ p < 6) : y_W X lb g o σ0 (F_X0_winIfRid X σ g) (y_up V 0 6 (if V 9 p = 0 then p else V 0 6)) := by
  have e5 : (σ.1 g 5).toInt = p := (w.rd (id := 0) (by decide) 5 rfl).trans h5
  have gn9 : ((y_gn 9 : Nat) : Int) = 6 := rfl
  have e9 : (F_X5_get X σ (q_rf X (q_rf X g 1) 2) (σ.1 g 5)).toInt = V 9 p := y_getI Y G w (id := 9) ⟨by decide, by decide⟩ rfl e5 hp.1 (by rw [gn9]; exact hp.2)
  unfold F_X0_winIfRid
  rw [q_letE (σ.1 g 5), q_letE (F_X5_get X σ (q_rf X (q_rf X g 1) 2) (σ.1 g 5)), e9]
  by_cases q : V 9 p = 0
  · rw [if_pos q, if_pos q, q_letE, q_letE]
    have w2 := w.si Y G (id := 0) (by decide) 6 (σ.1 g 5)
    rw [e5] at w2
    exact w2
  · rw [if_neg q, if_neg q, y_up_id]
    exact w
theorem gm_letLie (Y : y_S X lb) (G : y_G X lb g o) (ha : q_kd X a = 12) (w : y_W X lb g o σ0 σ V) (R : rg V c) (hG : m_G c) (hc : m_c X τ a = c) (h7 : c 7 = 1) :
    ∃ (V' : Nat → Int → Int) (c' : Int → Int), y_W X lb g o σ0 (F_X0_letLie X σ g) V' ∧ m_c X (F_X12_leaves X τ a) a = c' ∧ tkl (fun b _ => b = q_rf X a 20) (fun _ _ => False) τ (F_X12_leaves X τ a) ∧ rg V' c' ∧ (∀ id i, id ≠ 0 → V' id i = V id i) ∧ (∀ j : Int, j ≠ 5 → j ≠ 6 → j ≠ 7 → j ≠ 8 → c' j = c j) ∧ m_G c' := by
  have hH := hG.1
  obtain ⟨b0, b2, b4, b5, b6, b7, b9, b79⟩ := hG.1
  obtain ⟨P, hP⟩ : ∃ P, P = c 6 := ⟨_, rfl⟩
  have pr : 0 ≤ P ∧ P < c 2 := by omega
  have rs := R.2.1
  have rt := R.1
  have n2 : ¬ c 2 = 0 := by omega
  have v5 : V 0 5 = P := by
    have z := rs.2.1
    rw [if_neg n2] at z
    exact z.trans hP.symm
  have z0 : (0 : Int32).toInt = 0 := rfl
  obtain ⟨W, hW⟩ : ∃ W : Int, W = (if m_S c (34 + 10 * P) 10 = 0 then P else c 8) := ⟨_, rfl⟩
  obtain ⟨Kd, hKd⟩ : ∃ K, K = gm_nk c (c 5) := ⟨_, rfl⟩
  obtain ⟨Tn, hTn⟩ : ∃ T, T = (P + 1) % c 2 := ⟨_, rfl⟩
  -- the class
  have cls : y_W X lb g o σ0 (F_X0_letLie X σ g) (y_up (y_up (y_up (y_up V 0 7 0) 0 6 W) 0 4 Kd) 0 5 Tn) := by
    have w1 : y_W X lb g o σ0 (q_si σ g 7 0) (y_up V 0 7 0) := w.si Y G (id := 0) (by decide) 7 0
    unfold F_X0_letLie
    rw [q_letE (q_si σ g 7 0)]
    obtain ⟨σ1, e1⟩ : ∃ s, s = q_si σ g 7 0 := ⟨_, rfl⟩
    rw [← e1] at w1 ⊢
    have w2 := gm_winIfRid Y G w1 (p := P) ((y_up_ne (Or.inr (by decide))).trans v5) ⟨pr.1, by omega⟩
    have r9 : y_up V 0 7 0 9 P = m_S c (34 + 10 * P) 10 := (y_up_ne (Or.inl (by decide))).trans (R.2.2.2.1.2 P pr.1 (by omega))
    have r6 : y_up V 0 7 0 0 6 = c 8 := (y_up_ne (Or.inr (by decide))).trans rs.2.2.1.1
    rw [r9, r6, ← hW] at w2
    rw [q_letE (F_X0_winIfRid X σ1 g)]
    obtain ⟨σ2, e2⟩ : ∃ s, s = F_X0_winIfRid X σ1 g := ⟨_, rfl⟩
    rw [← e2] at w2 ⊢
    have k4 : (σ2.1 g 4).toInt = c 5 := by
      refine (w2.rd (id := 0) (by decide) 4 rfl).trans ?_
      rw [y_up_ne (Or.inr (by decide)), y_up_ne (Or.inr (by decide))]
      exact rs.1
    have t2 : rg_t (y_up (y_up V 0 7 0) 0 6 W) c := by
      obtain ⟨t1, t2, t3, t4, t5, t6⟩ := rt
      refine ⟨?_, ?_, ?_, ?_, ?_, t6⟩
      · rw [y_up_ne (Or.inl (by decide)), y_up_ne (Or.inl (by decide))]; exact t1
      · rw [y_up_ne (Or.inl (by decide)), y_up_ne (Or.inl (by decide))]; exact t2
      · rw [y_up_ne (Or.inl (by decide)), y_up_ne (Or.inl (by decide))]; exact t3
      · rw [y_up_ne (Or.inl (by decide)), y_up_ne (Or.inl (by decide))]; exact t4
      · rw [y_up_ne (Or.inl (by decide)), y_up_ne (Or.inl (by decide))]; exact t5
    have ka := gm_kindAfter w2 t2 hH k4 b5
    rw [← hKd] at ka
    rw [q_letE (σ2.1 g 4), q_letE (F_X6_kindAfter X σ2 (q_rf X g 0) (σ2.1 g 4) 1)]
    have w3 : y_W X lb g o σ0 (q_si σ2 g 4 (F_X6_kindAfter X σ2 (q_rf X g 0) (σ2.1 g 4) 1)) _ := w2.si Y G (id := 0) (by decide) 4 (F_X6_kindAfter X σ2 (q_rf X g 0) (σ2.1 g 4) 1)
    rw [ka] at w3
    rw [q_letE (q_si σ2 g 4 (F_X6_kindAfter X σ2 (q_rf X g 0) (σ2.1 g 4) 1))]
    obtain ⟨σ3, e3⟩ : ∃ s, s = q_si σ2 g 4 (F_X6_kindAfter X σ2 (q_rf X g 0) (σ2.1 g 4) 1) := ⟨_, rfl⟩
    rw [← e3] at w3 ⊢
    have w3' : y_W X lb g o σ0 σ3 (y_up (y_up (y_up V 0 7 0) 0 6 W) 0 4 Kd) := w3
    have k5 : (σ3.1 g 5).toInt = P := by
      refine (w3'.rd (id := 0) (by decide) 5 rfl).trans ?_
      rw [y_up_ne (Or.inr (by decide)), y_up_ne (Or.inr (by decide)), y_up_ne (Or.inr (by decide))]
      exact v5
    have t3 : rg_t (y_up (y_up (y_up V 0 7 0) 0 6 W) 0 4 Kd) c := by
      obtain ⟨s1, s2, s3, s4, s5, s6⟩ := t2
      refine ⟨?_, ?_, ?_, ?_, ?_, s6⟩
      · rw [y_up_ne (Or.inl (by decide))]; exact s1
      · rw [y_up_ne (Or.inl (by decide))]; exact s2
      · rw [y_up_ne (Or.inl (by decide))]; exact s3
      · rw [y_up_ne (Or.inl (by decide))]; exact s4
      · rw [y_up_ne (Or.inl (by decide))]; exact s5
    have pa := gm_playerAfter w3' t3 hH k5 pr
    rw [← hTn] at pa
    rw [q_letE (σ3.1 g 5), q_letE (F_X6_playerAfter X σ3 (q_rf X g 0) (σ3.1 g 5) 1), q_letE]
    have w4 : y_W X lb g o σ0 (q_si σ3 g 5 (F_X6_playerAfter X σ3 (q_rf X g 0) (σ3.1 g 5) 1)) _ := w3'.si Y G (id := 0) (by decide) 5 (F_X6_playerAfter X σ3 (q_rf X g 0) (σ3.1 g 5) 1)
    rw [pa] at w4
    exact w4
  -- the reference
  have mdl : m_c X (F_X12_leaves X τ a) a = m_up (m_up (m_up (m_up c 7 0) 8 W) 5 Kd) 6 Tn ∧ tkl (fun b _ => b = q_rf X a 20) (fun _ _ => False) τ (F_X12_leaves X τ a) := by
    have r6 : (τ.1 (q_rf X a 20) (6 : Int32).toNatClampNeg).toInt = P := (gm_cell hc rfl).trans hP.symm
    unfold F_X12_leaves
    rw [q_letE (τ.1 (q_rf X a 20) (6 : Int32).toNatClampNeg)]
    obtain ⟨f, hf⟩ : ∃ f, f = τ.1 (q_rf X a 20) (6 : Int32).toNatClampNeg := ⟨_, rfl⟩
    rw [← hf] at r6 ⊢
    have c1 : m_c X (q_si τ (q_rf X a 20) (7 : Int32).toNatClampNeg 0) a = m_up c 7 0 := by
      rw [m_c_up 7 (by decide) rfl, hc, z0]
    have k1 : tkl (fun b _ => b = q_rf X a 20) (fun _ _ => False) τ (q_si τ (q_rf X a 20) (7 : Int32).toNatClampNeg 0) := tkl.rf.si _ rfl
    rw [q_letE (q_si τ (q_rf X a 20) (7 : Int32).toNatClampNeg 0)]
    obtain ⟨τ1, e1⟩ : ∃ s, s = q_si τ (q_rf X a 20) (7 : Int32).toNatClampNeg 0 := ⟨_, rfl⟩
    rw [← e1] at c1 k1 ⊢
    have cd : (F_X12_cardsOf X τ1 a f).toInt = m_S c (34 + 10 * P) 10 := by
      have z := gm_cardsL c1 (fun p k a1 a2 a3 a4 => by rw [m_up_ne (by omega)]; exact hG.h80 a1 a2 a3 a4) r6 ⟨pr.1, by omega⟩ ((2147483647 - (0 : Int32).toInt).toNat + 1) 0 0 (by decide) (by decide) (by decide) (by rw [z0]; rfl) (by decide) (by decide)
      unfold F_X12_cardsOf
      rw [z]
      exact m_S_ext (fun j a1 a2 => m_up_ne (by omega))
    rw [q_letE (F_X12_cardsOf X τ1 a f), cd]
    -- kind and turn behind the winner
    have fin : ∀ τ2 : ST, m_c X τ2 a = m_up (m_up c 7 0) 8 W → tkl (fun b _ => b = q_rf X a 20) (fun _ _ => False) τ τ2 →
        m_c X (q_let (F_X12_nextKind X τ2 a (1 : Int32) : Int32) (fun r_8 => q_let (q_si τ2 (q_rf X a 20) (5 : Int32).toNatClampNeg r_8 : ST) (fun σ_10 => q_let (F_X12_behindOf X σ_10 a f : Int32) (fun r_11 => q_let (q_si σ_10 (q_rf X a 20) (6 : Int32).toNatClampNeg r_11 : ST) (fun σ_13 => σ_13))))) a = m_up (m_up (m_up (m_up c 7 0) 8 W) 5 Kd) 6 Tn ∧
        tkl (fun b _ => b = q_rf X a 20) (fun _ _ => False) τ (q_let (F_X12_nextKind X τ2 a (1 : Int32) : Int32) (fun r_8 => q_let (q_si τ2 (q_rf X a 20) (5 : Int32).toNatClampNeg r_8 : ST) (fun σ_10 => q_let (F_X12_behindOf X σ_10 a f : Int32) (fun r_11 => q_let (q_si σ_10 (q_rf X a 20) (6 : Int32).toNatClampNeg r_11 : ST) (fun σ_13 => σ_13))))) := by
      intro τ2 c2 k2
      have d : ∀ j : Int, j ≠ 7 → j ≠ 8 → m_up (m_up c 7 0) 8 W j = c j := fun j a1 a2 => by rw [m_up_ne a2, m_up_ne a1]
      have nk := gm_nextKind c2 (by rw [d 0 (by decide) (by decide)]; exact b0) (by rw [d 5 (by decide) (by decide), d 0 (by decide) (by decide)]; exact b5) (by rw [d 3 (by decide) (by decide)]; exact rt.2.2.2.2.2)
      have ek : gm_nk (m_up (m_up c 7 0) 8 W) (m_up (m_up c 7 0) 8 W 5) = Kd := by
        unfold gm_nk at hKd ⊢
        rw [d 3 (by decide) (by decide), d 5 (by decide) (by decide), d 0 (by decide) (by decide)]
        exact hKd.symm
      rw [ek] at nk
      rw [q_letE (F_X12_nextKind X τ2 a 1)]
      have c3 : m_c X (q_si τ2 (q_rf X a 20) (5 : Int32).toNatClampNeg (F_X12_nextKind X τ2 a 1)) a = m_up (m_up (m_up c 7 0) 8 W) 5 Kd := by
        rw [m_c_up 5 (by decide) rfl, c2, nk]
      have k3 : tkl (fun b _ => b = q_rf X a 20) (fun _ _ => False) τ (q_si τ2 (q_rf X a 20) (5 : Int32).toNatClampNeg (F_X12_nextKind X τ2 a 1)) := k2.si _ rfl
      rw [q_letE (q_si τ2 (q_rf X a 20) (5 : Int32).toNatClampNeg (F_X12_nextKind X τ2 a 1))]
      obtain ⟨τ3, e3⟩ : ∃ s, s = q_si τ2 (q_rf X a 20) (5 : Int32).toNatClampNeg (F_X12_nextKind X τ2 a 1) := ⟨_, rfl⟩
      rw [← e3] at c3 k3 ⊢
      have d2 : m_up (m_up (m_up c 7 0) 8 W) 5 Kd 2 = c 2 := by rw [m_up_ne (by decide)]; exact d 2 (by decide) (by decide)
      have bh := gm_behindOf c3 (by rw [d2]; exact b2) r6 (by rw [d2]; exact pr)
      rw [d2, ← hTn] at bh
      rw [q_letE (F_X12_behindOf X τ3 a f), q_letE]
      refine ⟨?_, k3.si _ rfl⟩
      rw [m_c_up 6 (by decide) rfl, c3, bh]
    by_cases q : m_S c (34 + 10 * P) 10 = 0
    · rw [if_pos q] at hW
      rw [if_pos q, q_letE (q_si τ1 (q_rf X a 20) (8 : Int32).toNatClampNeg f)]
      exact fin _ (by rw [m_c_up 8 (by decide) rfl, c1, r6, hW]) (k1.si _ rfl)
    · rw [if_neg q] at hW
      rw [if_neg q]
      refine fin τ1 ?_ k1
      rw [c1, hW]
      have e8 : m_up c 7 0 8 = c 8 := m_up_ne (by decide)
      have z := m_up_id (m_up c 7 0) 8
      rw [e8] at z
      exact z.symm
  have hV' : ∀ id i, id ≠ 0 → y_up (y_up (y_up (y_up V 0 7 0) 0 6 W) 0 4 Kd) 0 5 Tn id i = V id i := fun id i h => by
    rw [y_up_ne (Or.inl h), y_up_ne (Or.inl h), y_up_ne (Or.inl h), y_up_ne (Or.inl h)]
  have hc' : ∀ j : Int, j ≠ 5 → j ≠ 6 → j ≠ 7 → j ≠ 8 → m_up (m_up (m_up (m_up c 7 0) 8 W) 5 Kd) 6 Tn j = c j := fun j a1 a2 a3 a4 => by
    rw [m_up_ne a2, m_up_ne a1, m_up_ne a4, m_up_ne a3]
  have kb : 0 ≤ Kd ∧ Kd < c 0 := by
    rw [hKd]
    unfold gm_nk
    have n0 : c 0 ≠ 0 := by omega
    have m1 := Int.emod_nonneg (c 5 + 1) n0
    have m2 := Int.emod_lt_of_pos (c 5 + 1) (by omega : 0 < c 0)
    have m3 := Int.emod_nonneg (c 5 - 1) n0
    have m4 := Int.emod_lt_of_pos (c 5 - 1) (by omega : 0 < c 0)
    split
    · exact b5
    · split
      · exact ⟨m1, m2⟩
      · exact ⟨m3, m4⟩
  have tb : 0 ≤ Tn ∧ Tn < c 2 := by
    rw [hTn]
    exact ⟨Int.emod_nonneg _ (by omega), Int.emod_lt_of_pos _ (by omega)⟩
  have g1 : m_G (m_up c 7 0) := hG.wr m_up_e (Or.inl ⟨rfl, rfl⟩)
  have g2 : m_G (m_up (m_up c 7 0) 8 W) := g1.wr m_up_e (Or.inr (Or.inl rfl))
  have e20 : m_up (m_up c 7 0) 8 W 0 = c 0 := by rw [m_up_ne (by decide), m_up_ne (by decide)]
  have g3 : m_G (m_up (m_up (m_up c 7 0) 8 W) 5 Kd) := g2.wr m_up_e (Or.inr (Or.inr (Or.inr (Or.inl ⟨rfl, kb.1, by rw [e20]; exact kb.2⟩))))
  have e32 : m_up (m_up (m_up c 7 0) 8 W) 5 Kd 2 = c 2 := by rw [m_up_ne (by decide), m_up_ne (by decide), m_up_ne (by decide)]
  have e37 : m_up (m_up (m_up c 7 0) 8 W) 5 Kd 7 = 0 := by rw [m_up_ne (by decide), m_up_ne (by decide), m_up_eq]
  have g4 : m_G (m_up (m_up (m_up (m_up c 7 0) 8 W) 5 Kd) 6 Tn) := g3.wr m_up_e (Or.inr (Or.inr (Or.inr (Or.inr (Or.inl ⟨rfl, tb.1, by rw [e32]; exact tb.2, e37⟩)))))
  refine ⟨_, _, cls, mdl.1, mdl.2, R.st hV' hc' ⟨?_, ?_, ⟨?_, ?_⟩, ?_⟩, hV', hc', g4⟩
  · rw [y_up_ne (Or.inr (by decide)), y_up_eq, m_up_ne (by decide), m_up_eq]
  · rw [y_up_eq, hc' 2 (by decide) (by decide) (by decide) (by decide), if_neg n2, m_up_eq]
  · rw [y_up_ne (Or.inr (by decide)), y_up_ne (Or.inr (by decide)), y_up_eq, m_up_ne (by decide), m_up_ne (by decide), m_up_eq]
  · rw [m_up_ne (by decide), m_up_ne (by decide), m_up_eq, hW]
    have w8 := rs.2.2.1.2
    split <;> omega
  · rw [y_up_ne (Or.inr (by decide)), y_up_ne (Or.inr (by decide)), y_up_ne (Or.inr (by decide)), y_up_eq, m_up_ne (by decide), m_up_ne (by decide), m_up_ne (by decide), m_up_eq]
end GC

/-! FROM 49d.laydown.lean.txt -/
/-! CARDS LAID DOWN: the reference -/
theorem gl_mono {l : Int → Int} (h : ∀ t : Int, 0 ≤ t → t < 10 → 0 ≤ l t) {t k : Int} (h0 : 0 ≤ t) (h1 : t ≤ k) (h2 : k ≤ 10) : m_S l 0 t.toNat ≤ m_S l 0 k.toNat := by
  have z := m_S_add l 0 t.toNat (k.toNat - t.toNat)
  have e : t.toNat + (k.toNat - t.toNat) = k.toNat := by omega
  rw [e] at z
  have y : 0 ≤ m_S l (0 + (t.toNat : Int)) (k.toNat - t.toNat) := m_S_nn (fun j a b => h j (by omega) (by omega))
  omega
theorem gl_succ (l : Int → Int) {k : Int} (h : 0 ≤ k) : m_S l 0 (k + 1).toNat = m_S l 0 k.toNat + l k := by
  have z := m_S_succ l 0 k h
  rw [Int.zero_add] at z
  exact z
/-- which kind the q-th card laid is of -/
theorem gl_at {l : Int → Int} (n : Nat) (q : Int) (h0 : 0 ≤ q) (h1 : q < m_S l 0 n) : ∃ t : Int, 0 ≤ t ∧ t < (n : Int) ∧ m_S l 0 t.toNat ≤ q ∧ q < m_S l 0 t.toNat + l t := by
  induction n with
  | zero =>
    have e : m_S l 0 0 = 0 := rfl
    omega
  | succ n ih =>
    have e : m_S l 0 (n + 1) = m_S l 0 n + l (0 + (n : Int)) := rfl
    rw [Int.zero_add] at e
    by_cases c : q < m_S l 0 n
    · obtain ⟨t, t0, t1, t2, t3⟩ := ih c
      exact ⟨t, t0, by omega, t2, t3⟩
    · refine ⟨(n : Int), by omega, by omega, ?_, ?_⟩
      · have en : ((n : Int)).toNat = n := by omega
        rw [en]; omega
      · have en : ((n : Int)).toNat = n := by omega
        rw [en]; omega
/-- how far the reference is, laying l of p's cards: the kinds below k, i cards of k -/
def gl_c (c0 c l : Int → Int) (p k i : Int) : Prop :=
  (∀ j : Int, 0 ≤ j → ¬ (34 + 10 * p ≤ j ∧ j < 34 + 10 * p + k) → ¬ (94 + 7 * c0 9 ≤ j ∧ j < 101 + 7 * c0 9) → c j = c0 j) ∧ (∀ t : Int, 0 ≤ t → t < k → c (34 + 10 * p + t) = c0 (34 + 10 * p + t) - l t) ∧ c (94 + 7 * c0 9) = p ∧ c (94 + 7 * c0 9 + 1) = c0 5 ∧ (∀ t q : Int, 0 ≤ t → t < k → m_S l 0 t.toNat ≤ q → q < m_S l 0 t.toNat + l t → c (94 + 7 * c0 9 + 3 + q) = t) ∧ ∀ q : Int, m_S l 0 k.toNat ≤ q → q < m_S l 0 k.toNat + i → c (94 + 7 * c0 9 + 3 + q) = k
/-- what the reference has behind it -/
def gl_r (c0 c l : Int → Int) (p : Int) : Prop :=
  (∀ j : Int, 0 ≤ j → ¬ (34 + 10 * p ≤ j ∧ j < 44 + 10 * p) → ¬ (94 + 7 * c0 9 ≤ j ∧ j < 101 + 7 * c0 9) → j ≠ 9 → j ≠ 7 → c j = c0 j) ∧ (∀ t : Int, 0 ≤ t → t < 10 → c (34 + 10 * p + t) = c0 (34 + 10 * p + t) - l t) ∧ c (94 + 7 * c0 9) = p ∧ c (94 + 7 * c0 9 + 1) = c0 5 ∧ c (94 + 7 * c0 9 + 2) = m_S l 0 10 ∧ c 9 = c0 9 + 1 ∧ c 7 = 1 ∧ ∀ t q : Int, 0 ≤ t → t < 10 → m_S l 0 t.toNat ≤ q → q < m_S l 0 t.toNat + l t → c (94 + 7 * c0 9 + 3 + q) = t
theorem gl_c.card {c0 c l : Int → Int} {p k i n : Int} (h : gl_c c0 c l p k i) (hl : m_lo c0 l p) (hk : 0 ≤ k ∧ k < 10) (hi : 0 ≤ i ∧ i < l k) (hn : n = m_S l 0 k.toNat + i) : gl_c c0 (m_up c (94 + 7 * c0 9 + 3 + n) k) l p k (i + 1) := by
  obtain ⟨h1, h2, h3, h4, h5, h6⟩ := h
  have b := hl.c9
  have hp := hl.2.1
  have nn : ∀ t : Int, 0 ≤ t → t < 10 → 0 ≤ l t := fun t a b => (hl.2.2.1 t a b).1
  have s4 := hl.2.2.2
  have mk := gl_mono nn hk.1 (by omega : k ≤ k + 1) (by omega)
  have mk2 := gl_mono nn (t := k + 1) (k := 10) (by omega) (by omega) (by omega)
  have ms := gl_succ l hk.1
  have m0 := gl_mono nn (t := 0) (k := k) (by omega) (by omega) (by omega)
  have z0 : m_S l 0 (0 : Int).toNat = 0 := rfl
  have z10 : m_S l 0 (10 : Int).toNat = m_S l 0 10 := rfl
  refine ⟨fun j j0 j1 j2 => ?_, fun t t0 t1 => ?_, ?_, ?_, fun t q t0 t1 q0 q1 => ?_, fun q q0 q1 => ?_⟩
  · rw [m_up_ne (by omega)]; exact h1 j j0 j1 j2
  · rw [m_up_ne (by omega)]; exact h2 t t0 t1
  · rw [m_up_ne (by omega)]; exact h3
  · rw [m_up_ne (by omega)]; exact h4
  · have mt := gl_mono nn (t := t + 1) (k := k) (by omega) (by omega) (by omega)
    have ts := gl_succ l t0
    rw [m_up_ne (by omega)]; exact h5 t q t0 t1 q0 q1
  · by_cases e : q = n
    · rw [e, m_up_eq]
    · rw [m_up_ne (by omega)]; exact h6 q q0 (by omega)
theorem gl_c.hand {c0 c l : Int → Int} {p k v : Int} (h : gl_c c0 c l p k (l k)) (hl : m_lo c0 l p) (hk : 0 ≤ k ∧ k < 10) (hv : v = c (34 + 10 * p + k) - l k) : gl_c c0 (m_up c (34 + 10 * p + k) v) l p (k + 1) 0 := by
  obtain ⟨h1, h2, h3, h4, h5, h6⟩ := h
  have b := hl.c9
  have hp := hl.2.1
  have nn : ∀ t : Int, 0 ≤ t → t < 10 → 0 ≤ l t := fun t a b => (hl.2.2.1 t a b).1
  have z0 : m_S l 0 (0 : Int).toNat = 0 := rfl
  refine ⟨fun j j0 j1 j2 => ?_, fun t t0 t1 => ?_, ?_, ?_, fun t q t0 t1 q0 q1 => ?_, fun q q0 q1 => by omega⟩
  · rw [m_up_ne (by omega)]; exact h1 j j0 (by omega) j2
  · by_cases e : t = k
    · rw [e, m_up_eq, hv, h1 _ (by omega) (by omega) (by omega)]
    · rw [m_up_ne (by omega)]; exact h2 t t0 (by omega)
  · rw [m_up_ne (by omega)]; exact h3
  · rw [m_up_ne (by omega)]; exact h4
  · have mt := gl_mono nn (t := 0) (k := t) (by omega) t0 (by omega)
    rw [m_up_ne (by omega)]
    by_cases e : t = k
    · subst e
      exact h6 q q0 q1
    · exact h5 t q t0 (by omega) q0 q1
section GD
variable {X : XW} {lb : Nat → Nat} {g o a r2 : Nat} {σ τ σ0 τ0 : ST} {V : Nat → Int → Int} {c c0 l : Int → Int}
theorem gl_in (hne : r2 ≠ q_rf X a 20) {p k : Int} (hl : m_lo c0 l p) (hk : 0 ≤ k ∧ k < 10) {x9 v1 rr : Int32} (hx9 : x9.toInt = k) (hv1 : v1.toInt = p) (hrr : rr.toInt = 94 + 7 * c0 9) (Bf : Int32 → Int32 → ST → ST) (hof : ∀ j : Int, 0 ≤ j → j < 10 → (τ0.1 r2 j.toNat).toInt = l j) (n : Nat) : ∀ (x y : Int32) (τ : ST) (c : Int → Int), (2147483647 - y.toInt).toNat < n → tkl (fun b _ => b = q_rf X a 20) (fun _ _ => False) τ0 τ → m_c X τ a = c → gl_c c0 c l p k y.toInt → m_ld c0 c l p k y.toInt → 0 ≤ y.toInt → y.toInt ≤ l k → x.toInt = m_S l 0 k.toNat + y.toInt →
    ∃ (x' : Int32) (τ' : ST) (c' : Int → Int), F_X12_laysDown_L48_3 X r2 x9 rr a v1 Bf n x y τ = Bf x' (x9 + 1) τ' ∧ x'.toInt = m_S l 0 (k + 1).toNat ∧ tkl (fun b _ => b = q_rf X a 20) (fun _ _ => False) τ0 τ' ∧ m_c X τ' a = c' ∧ gl_c c0 c' l p (k + 1) 0 ∧ m_ld c0 c' l p (k + 1) 0 := by
  have b9 := hl.c9
  have hp := hl.2.1
  have nn : ∀ t : Int, 0 ≤ t → t < 10 → 0 ≤ l t := fun t a b => (hl.2.2.1 t a b).1
  have s4 := hl.2.2.2
  have mk2 := gl_mono nn (t := k + 1) (k := 10) (by omega) (by omega) (by omega)
  have ms := gl_succ l hk.1
  have m0 := gl_mono nn (t := 0) (k := k) (by omega) (by omega) (by omega)
  have z0 : m_S l 0 (0 : Int).toNat = 0 := rfl
  have z10 : m_S l 0 (10 : Int).toNat = m_S l 0 10 := rfl
  have e3 : (3 : Int32).toInt = 3 := rfl
  have e10 : (10 : Int32).toInt = 10 := rfl
  have e34 : (34 : Int32).toInt = 34 := rfl
  induction n with
  | zero => intro x y τ c hm; exact absurd hm (Nat.not_lt_zero _)
  | succ n ih =>
    intro x y τ c hm t hc G D y0 y1 hx
    have fo : (τ.1 r2 x9.toNatClampNeg).toInt = l k := by
      rw [t.1 r2 _ hne, ar_cl, hx9]
      exact hof k hk.1 hk.2
    rw [F_X12_laysDown_L48_3_s]
    unfold F_X12_laysDown_B48_3
    rw [q_letE (τ.1 r2 x9.toNatClampNeg), fo]
    by_cases q : y.toInt < l k
    · have ei : (rr + 3 + x).toInt = 94 + 7 * c0 9 + 3 + (m_S l 0 k.toNat + y.toInt) := by
        rw [ar_add, ar_add, hrr, e3, hx, ar_wr (n := 94 + 7 * c0 9 + 3) (by omega) (by omega), ar_wr (by omega) (by omega)]
      have c1 : m_c X (q_si τ (q_rf X a 20) (rr + 3 + x).toNatClampNeg x9) a = m_up c (94 + 7 * c0 9 + 3 + (m_S l 0 k.toNat + y.toInt)) k := by
        rw [m_c_up _ (by omega) ei, hc, hx9]
      rw [if_pos q, q_letE (rr + 3), q_letE (rr + 3 + x), q_letE (q_si τ (q_rf X a 20) (rr + 3 + x).toNatClampNeg x9), q_letE (x + 1), q_letE (y + 1)]
      have ey : (y + 1).toInt = y.toInt + 1 := y_inc (by omega)
      have ex : (x + 1).toInt = x.toInt + 1 := y_inc (by omega)
      refine ih (x + 1) (y + 1) _ _ (by omega) (t.si _ rfl) c1 ?_ ?_ (by omega) (by omega) (by rw [ex, ey, hx]; omega)
      · rw [ey]
        exact G.card hl hk ⟨y0, q⟩ rfl
      · rw [ey]
        exact D.card hl hk ⟨y0, q⟩ m_up_e rfl rfl
    · have ey : y.toInt = l k := by omega
      rw [ey] at G D
      have ei : ((34 : Int32) + 10 * v1 + x9).toInt = 34 + 10 * p + k := by
        rw [ar_add, ar_add, ar_mul, hx9, hv1, e10, e34, ar_wr (n := 10 * p) (by omega) (by omega), ar_wr (n := 34 + 10 * p) (by omega) (by omega), ar_wr (by omega) (by omega)]
      have fh : (τ.1 (q_rf X a 20) ((34 : Int32) + 10 * v1 + x9).toNatClampNeg).toInt = c (34 + 10 * p + k) := gm_cell hc ei
      have hb := hl.1.h80 (p := p) (k := k) hp.1 hp.2 hk.1 hk.2
      have hc0 := G.1 (34 + 10 * p + k) (by omega) (by omega) (by omega)
      have lk := hl.2.2.1 k hk.1 hk.2
      rw [if_neg q]
      unfold F_X12_laysDown_E79_4
      rw [q_letE ((10 : Int32) * v1), q_letE ((34 : Int32) + 10 * v1), q_letE ((34 : Int32) + 10 * v1 + x9), q_letE (τ.1 (q_rf X a 20) ((34 : Int32) + 10 * v1 + x9).toNatClampNeg), q_letE (τ.1 r2 x9.toNatClampNeg)]
      obtain ⟨u, hu⟩ : ∃ u, u = τ.1 (q_rf X a 20) ((34 : Int32) + 10 * v1 + x9).toNatClampNeg - τ.1 r2 x9.toNatClampNeg := ⟨_, rfl⟩
      have uv : u.toInt = c (34 + 10 * p + k) - l k := by
        rw [hu, ar_sub, fh, fo, ar_wr (by omega) (by omega)]
      rw [← hu, q_letE u, q_letE (q_si τ (q_rf X a 20) ((34 : Int32) + 10 * v1 + x9).toNatClampNeg u), q_letE (x9 + 1)]
      refine ⟨x, _, _, rfl, by omega, t.si _ rfl, m_c_up _ (by omega) ei, ?_, ?_⟩
      · rw [hc, uv]
        exact G.hand hl hk rfl
      · rw [hc, uv]
        exact D.hand hl hk rfl m_up_e rfl
theorem gl_out (hne : r2 ≠ q_rf X a 20) {p : Int} (hl : m_lo c0 l p) (h06 : c0 6 = p) {v1 rr : Int32} (hv1 : v1.toInt = p) (hrr : rr.toInt = 94 + 7 * c0 9) (hof : ∀ j : Int, 0 ≤ j → j < 10 → (τ0.1 r2 j.toNat).toInt = l j) (n : Nat) : ∀ (x y : Int32) (τ : ST) (c : Int → Int), (2147483647 - y.toInt).toNat < n → tkl (fun b _ => b = q_rf X a 20) (fun _ _ => False) τ0 τ → m_c X τ a = c → gl_c c0 c l p y.toInt 0 → m_ld c0 c l p y.toInt 0 → 0 ≤ y.toInt → y.toInt ≤ 10 → x.toInt = m_S l 0 y.toInt.toNat →
    ∃ (c' : Int → Int), m_c X (F_X12_laysDown_L38_1 X r2 rr a v1 n x y τ) a = c' ∧ tkl (fun b _ => b = q_rf X a 20) (fun _ _ => False) τ0 (F_X12_laysDown_L38_1 X r2 rr a v1 n x y τ) ∧ gl_r c0 c' l p ∧ m_G c' := by
  have b9 := hl.c9
  have hp := hl.2.1
  have nn : ∀ t : Int, 0 ≤ t → t < 10 → 0 ≤ l t := fun t a b => (hl.2.2.1 t a b).1
  have s4 := hl.2.2.2
  have e2 : (2 : Int32).toInt = 2 := rfl
  have e1 : (1 : Int32).toInt = 1 := rfl
  induction n with
  | zero => intro x y τ c hm; exact absurd hm (Nat.not_lt_zero _)
  | succ n ih =>
    intro x y τ c hm t hc G D y0 y1 hx
    rw [F_X12_laysDown_L38_1_s]
    unfold F_X12_laysDown_B38_1
    by_cases q : y.toInt < 10
    · rw [if_pos q]
      have lk := hl.2.2.1 y.toInt y0 q
      have z0 : (0 : Int32).toInt = 0 := rfl
      obtain ⟨x', τ', c', i1, i2, i3, i4, i5, i6⟩ := gl_in hne hl ⟨y0, q⟩ (x9 := y) rfl hv1 hrr (F_X12_laysDown_L38_1 X r2 rr a v1 n) hof ((2147483647 - (0 : Int32).toInt).toNat + 1) x 0 τ c (by decide) t hc (by rw [z0]; exact G) (by rw [z0]; exact D) (by decide) (by rw [z0]; exact lk.1) (by rw [z0, hx]; omega)
      rw [i1]
      have ey : (y + 1).toInt = y.toInt + 1 := y_inc (by omega)
      refine ih x' (y + 1) τ' c' (by omega) i3 i4 (by rw [ey]; exact i5) (by rw [ey]; exact i6) (by omega) (by omega) (by rw [ey]; exact i2)
    · rw [if_neg q]
      have ey : y.toInt = 10 := by omega
      rw [ey] at G D hx
      have hx10 : x.toInt = m_S l 0 10 := hx
      obtain ⟨h1, h2, h3, h4, h5, h6⟩ := G
      unfold F_X12_laysDown_E107_2
      have ei : (rr + 2).toInt = 94 + 7 * c0 9 + 2 := by rw [ar_add, hrr, e2, ar_wr (by omega) (by omega)]
      rw [q_letE (rr + 2), q_letE (q_si τ (q_rf X a 20) (rr + 2).toNatClampNeg x)]
      have c1 : m_c X (q_si τ (q_rf X a 20) (rr + 2).toNatClampNeg x) a = m_up c (94 + 7 * c0 9 + 2) (m_S l 0 10) := by
        rw [m_c_up _ (by omega) ei, hc, hx10]
      have t1 : tkl (fun b _ => b = q_rf X a 20) (fun _ _ => False) τ0 (q_si τ (q_rf X a 20) (rr + 2).toNatClampNeg x) := t.si _ rfl
      obtain ⟨τ1, g1⟩ : ∃ s, s = q_si τ (q_rf X a 20) (rr + 2).toNatClampNeg x := ⟨_, rfl⟩
      rw [← g1] at c1 t1 ⊢
      have f9 : (τ1.1 (q_rf X a 20) (9 : Int32).toNatClampNeg).toInt = c0 9 := by
        refine (gm_cell (A := 9) c1 rfl).trans ?_
        rw [m_up_ne (by omega)]
        exact h1 9 (by decide) (by omega) (by omega)
      rw [q_letE (τ1.1 (q_rf X a 20) (9 : Int32).toNatClampNeg)]
      obtain ⟨u, hu⟩ : ∃ u, u = τ1.1 (q_rf X a 20) (9 : Int32).toNatClampNeg + 1 := ⟨_, rfl⟩
      have uv : u.toInt = c0 9 + 1 := by rw [hu, ar_add, f9, e1, ar_wr (by omega) (by omega)]
      rw [← hu, q_letE u, q_letE (q_si τ1 (q_rf X a 20) (9 : Int32).toNatClampNeg u)]
      have c2 : m_c X (q_si τ1 (q_rf X a 20) (9 : Int32).toNatClampNeg u) a = m_up (m_up c (94 + 7 * c0 9 + 2) (m_S l 0 10)) 9 (c0 9 + 1) := by
        rw [m_c_up 9 (by decide) rfl, c1, uv]
      have t2 : tkl (fun b _ => b = q_rf X a 20) (fun _ _ => False) τ0 (q_si τ1 (q_rf X a 20) (9 : Int32).toNatClampNeg u) := t1.si _ rfl
      obtain ⟨τ2, g2⟩ : ∃ s, s = q_si τ1 (q_rf X a 20) (9 : Int32).toNatClampNeg u := ⟨_, rfl⟩
      rw [← g2] at c2 t2 ⊢
      rw [q_letE (q_si τ2 (q_rf X a 20) (7 : Int32).toNatClampNeg 1)]
      have dn := D.done hl h06 (T := m_S l 0 10) rfl (c1 := m_up c (94 + 7 * c0 9 + 2) (m_S l 0 10)) m_up_e (c2 := m_up (m_up c (94 + 7 * c0 9 + 2) (m_S l 0 10)) 9 (c0 9 + 1)) m_up_e rfl (c' := m_up (m_up (m_up c (94 + 7 * c0 9 + 2) (m_S l 0 10)) 9 (c0 9 + 1)) 7 1) m_up_e rfl
      refine ⟨_, m_c_up 7 (by decide) rfl, t2.si _ rfl, ?_, by rw [c2, e1]; exact dn.1⟩
      rw [c2, e1]
      have d : ∀ j : Int, j ≠ 7 → j ≠ 9 → j ≠ 94 + 7 * c0 9 + 2 → m_up (m_up (m_up c (94 + 7 * c0 9 + 2) (m_S l 0 10)) 9 (c0 9 + 1)) 7 1 j = c j := fun j a1 a2 a3 => by
        rw [m_up_ne a1, m_up_ne a2, m_up_ne a3]
      refine ⟨fun j j0 j1 j2 j3 j4 => ?_, fun t t0 t1 => ?_, ?_, ?_, ?_, ?_, ?_, fun t q t0 t1 q0 q1 => ?_⟩
      · rw [d j j4 j3 (by omega)]; exact h1 j j0 (by omega) j2
      · rw [d _ (by omega) (by omega) (by omega)]; exact h2 t t0 t1
      · rw [d _ (by omega) (by omega) (by omega)]; exact h3
      · rw [d _ (by omega) (by omega) (by omega)]; exact h4
      · rw [m_up_ne (by omega), m_up_ne (by omega), m_up_eq]
      · rw [m_up_ne (by omega), m_up_eq]
      · rw [m_up_eq]
      · have mt := gl_mono nn (t := 0) (k := t) (by omega) t0 (by omega)
        have z0 : m_S l 0 (0 : Int).toNat = 0 := rfl
        rw [d _ (by omega) (by omega) (by omega)]
        exact h5 t q t0 t1 q0 q1
/-- the reference lays cards down -/
theorem gm_laysDown (hT : q_T X) (ha : q_kd X a = 12) (hc : m_c X τ a = c) {p : Int} (hl : m_lo c l p) (h6 : c 6 = p) {v1 : Int32} (hv1 : v1.toInt = p) (hof : ∀ j : Int, 0 ≤ j → j < 10 → (τ.1 (q_rf X a 28) j.toNat).toInt = l j) :
    ∃ (c' : Int → Int), m_c X (F_X12_laysDown X τ a v1 (q_rf X a 28)) a = c' ∧ tkl (fun b _ => b = q_rf X a 20) (fun _ _ => False) τ (F_X12_laysDown X τ a v1 (q_rf X a 28)) ∧ gl_r c c' l p ∧ m_G c' := by
  have b9 := hl.c9
  have hp := hl.2.1
  have k28 : q_kd X (q_rf X a 28) = 39 := (hT.1 a 28 (by rw [ha]; decide)).trans (by rw [ha]; rfl)
  have hne : q_rf X a 28 ≠ q_rf X a 20 := m_ne k28 (tb_k hT ha).1 (by decide)
  have e7 : (7 : Int32).toInt = 7 := rfl
  have e94 : (94 : Int32).toInt = 94 := rfl
  have e1 : (1 : Int32).toInt = 1 := rfl
  have f9 : (τ.1 (q_rf X a 20) (9 : Int32).toNatClampNeg).toInt = c 9 := gm_cell hc rfl
  have hrr : (F_X12_laid X τ (τ.1 (q_rf X a 20) (9 : Int32).toNatClampNeg)).toInt = 94 + 7 * c 9 := by
    unfold F_X12_laid
    rw [q_letE, q_letE, ar_add, ar_mul, e94, e7, f9, ar_wr (n := 7 * c 9) (by omega) (by omega), ar_wr (by omega) (by omega)]
  unfold F_X12_laysDown
  rw [q_letE (τ.1 (q_rf X a 20) (9 : Int32).toNatClampNeg), q_letE (F_X12_laid X τ (τ.1 (q_rf X a 20) (9 : Int32).toNatClampNeg))]
  obtain ⟨rr, er⟩ : ∃ r, r = F_X12_laid X τ (τ.1 (q_rf X a 20) (9 : Int32).toNatClampNeg) := ⟨_, rfl⟩
  rw [← er] at hrr ⊢
  rw [q_letE (q_si τ (q_rf X a 20) rr.toNatClampNeg v1)]
  have c1 : m_c X (q_si τ (q_rf X a 20) rr.toNatClampNeg v1) a = m_up c (94 + 7 * c 9) p := by
    rw [m_c_up _ (by omega) hrr, hc, hv1]
  have t1 : tkl (fun b _ => b = q_rf X a 20) (fun _ _ => False) τ (q_si τ (q_rf X a 20) rr.toNatClampNeg v1) := tkl.rf.si _ rfl
  obtain ⟨τ1, g1⟩ : ∃ s, s = q_si τ (q_rf X a 20) rr.toNatClampNeg v1 := ⟨_, rfl⟩
  rw [← g1] at c1 t1 ⊢
  have f5 : (τ1.1 (q_rf X a 20) (5 : Int32).toNatClampNeg).toInt = c 5 := by
    refine (gm_cell (A := 5) c1 rfl).trans ?_
    rw [m_up_ne (by omega)]
  have ei : (rr + 1).toInt = 94 + 7 * c 9 + 1 := by rw [ar_add, hrr, e1, ar_wr (by omega) (by omega)]
  rw [q_letE (rr + 1), q_letE (τ1.1 (q_rf X a 20) (5 : Int32).toNatClampNeg)]
  obtain ⟨u, hu⟩ : ∃ u, u = τ1.1 (q_rf X a 20) (5 : Int32).toNatClampNeg := ⟨_, rfl⟩
  rw [← hu] at f5 ⊢
  rw [q_letE (q_si τ1 (q_rf X a 20) (rr + 1).toNatClampNeg u)]
  have c2 : m_c X (q_si τ1 (q_rf X a 20) (rr + 1).toNatClampNeg u) a = m_up (m_up c (94 + 7 * c 9) p) (94 + 7 * c 9 + 1) (c 5) := by
    rw [m_c_up _ (by omega) ei, c1, f5]
  have t2 : tkl (fun b _ => b = q_rf X a 20) (fun _ _ => False) τ (q_si τ1 (q_rf X a 20) (rr + 1).toNatClampNeg u) := t1.si _ rfl
  obtain ⟨τ2, g2⟩ : ∃ s, s = q_si τ1 (q_rf X a 20) (rr + 1).toNatClampNeg u := ⟨_, rfl⟩
  rw [← g2] at c2 t2 ⊢
  have z0 : (0 : Int32).toInt = 0 := rfl
  refine gl_out hne hl h6 hv1 hrr hof _ 0 0 τ2 _ (by decide) t2 c2 ?_ (by rw [z0]; exact m_ld.start hl (c1 := m_up c (94 + 7 * c 9) p) m_up_e rfl m_up_e) (by decide) (by decide) (by rw [z0]; rfl)
  rw [z0]
  have m0 : m_S l 0 (0 : Int).toNat = 0 := rfl
  refine ⟨fun j j0 j1 j2 => ?_, fun t t0 t1 => by omega, ?_, ?_, fun t q t0 t1 => by omega, fun q q0 q1 => by omega⟩
  · rw [m_up_ne (by omega), m_up_ne (by omega)]
  · rw [m_up_ne (by omega), m_up_eq]
  · rw [m_up_eq]
end GD

/-! FROM 49e.laywant.lean.txt -/
/-! CARDS LAID DOWN: the class -/
/-- cards of one kind added to the topmost laying -/
def gpa (V1 V : Nat → Int → Int) (K k m C i : Int) : Prop :=
  (∀ (id : Nat) (j : Int), ¬ (id = 17 ∧ 4 * K + m ≤ j ∧ j < 4 * K + m + i) → ¬ (id = 16 ∧ j = K) → ¬ (id = 2 ∧ j = 1) → V id j = V1 id j) ∧ V 16 K = m + i ∧ V 2 1 = C + i ∧ ∀ q : Int, m ≤ q → q < m + i → V 17 (4 * K + q) = k
/-- how far the class is, laying l of p's cards: the kinds below k -/
def gl_v (V0 V : Nat → Int → Int) (l : Int → Int) (p K k : Int) : Prop :=
  (∀ (id : Nat) (j : Int), id ≠ 2 → id ≠ 7 → id ≠ 8 → id ≠ 9 → id ≠ 14 → id ≠ 15 → id ≠ 16 → id ≠ 17 → V id j = V0 id j) ∧
  (V 2 0 = K + 1 ∧ V 2 1 = V0 2 1 + m_S l 0 k.toNat) ∧
  (∀ j : Int, ¬ (10 * p ≤ j ∧ j < 10 * p + k) → V 7 j = V0 7 j ∧ V 8 j = V0 8 j) ∧
  (∀ t : Int, 0 ≤ t → t < k → V 7 (10 * p + t) = V0 7 (10 * p + t) - l t ∧ V 8 (10 * p + t) = V0 8 (10 * p + t) + l t) ∧
  (∀ j : Int, j ≠ p → V 9 j = V0 9 j) ∧ V 9 p = V0 9 p - m_S l 0 k.toNat ∧
  (∀ j : Int, j ≠ K → V 14 j = V0 14 j ∧ V 15 j = V0 15 j ∧ V 16 j = V0 16 j) ∧ (V 14 K = p ∧ V 15 K = V0 0 4 ∧ V 16 K = m_S l 0 k.toNat) ∧
  (∀ j : Int, ¬ (4 * K ≤ j ∧ j < 4 * K + 4) → V 17 j = V0 17 j) ∧
  ∀ t q : Int, 0 ≤ t → t < k → m_S l 0 t.toNat ≤ q → q < m_S l 0 t.toNat + l t → V 17 (4 * K + q) = t
section GE
variable {X : XW} {lb : Nat → Nat} {g o a : Nat} {σ τ σ0 τ0 : ST} {V V0 V1 : Nat → Int → Int} {c l : Int → Int}
theorem gp_addL (Y : y_S X lb) (G : y_G X lb g o) {K k m C n : Int} (hK : 0 ≤ K ∧ K < 80) (hm : 0 ≤ m ∧ m + n ≤ 4) (hC : 0 ≤ C ∧ C ≤ 1000) {z2 v1 v2 : Int32} (hz : z2.toInt = K) (hv1 : v1.toInt = k) (hv2 : v2.toInt = n) (fu : Nat) : ∀ (x : Int32) (τ : ST) (V : Nat → Int → Int), (2147483647 - x.toInt).toNat < fu → y_W X lb g o σ0 τ V → gpa V1 V K k m C x.toInt → 0 ≤ x.toInt → x.toInt ≤ n →
    ∃ V' : Nat → Int → Int, y_W X lb g o σ0 (F_X2_add_L10_1 X v2 z2 (q_rf X g 2) v1 fu x τ) V' ∧ gpa V1 V' K k m C n := by
  have gn16 : ((y_gn 16 : Nat) : Int) = 80 := rfl
  have gn17 : ((y_gn 17 : Nat) : Int) = 320 := rfl
  have one : (1 : Int32).toInt = 1 := rfl
  have four : (4 : Int32).toInt = 4 := rfl
  induction fu with
  | zero => intro x τ V h; exact absurd h (Nat.not_lt_zero _)
  | succ fu ih =>
    intro x τ V hf w P x0 x1
    rw [F_X2_add_L10_1_s]
    unfold F_X2_add_B10_1
    rw [hv2]
    by_cases q : x.toInt < n
    · obtain ⟨P1, P2, P3, P4⟩ := P
      have g8 : (F_X5_get X τ (q_rf X (q_rf X g 2) 4) z2).toInt = m + x.toInt := (y_getI Y G w (id := 16) ⟨by decide, by decide⟩ rfl hz hK.1 (by rw [gn16]; exact hK.2)).trans P2
      rw [if_pos q, q_letE (z2 * 4), q_letE (F_X5_get X τ (q_rf X (q_rf X g 2) 4) z2)]
      obtain ⟨r, hr⟩ : ∃ r, r = F_X5_get X τ (q_rf X (q_rf X g 2) 4) z2 := ⟨_, rfl⟩
      rw [← hr] at g8 ⊢
      have ei : (z2 * 4 + r).toInt = 4 * K + (m + x.toInt) := by
        rw [ar_add, ar_mul, hz, four, g8, ar_wr (n := K * 4) (by omega) (by omega), ar_wr (by omega) (by omega)]
        omega
      have w1 := w.set Y G (id := 17) (r := q_rf X (q_rf X g 2) 5) ⟨by decide, by decide⟩ rfl (z2 * 4 + r) v1 (by omega) (by rw [gn17]; omega)
      rw [ei, hv1] at w1
      rw [q_letE (z2 * 4 + r), q_letE (F_X5_set X τ (q_rf X (q_rf X g 2) 5) (z2 * 4 + r) v1)]
      obtain ⟨τ1, e1⟩ : ∃ s, s = F_X5_set X τ (q_rf X (q_rf X g 2) 5) (z2 * 4 + r) v1 := ⟨_, rfl⟩
      rw [← e1] at w1 ⊢
      have w2 := w1.add Y G (id := 16) (r := q_rf X (q_rf X g 2) 4) ⟨by decide, by decide⟩ rfl z2 1 (by omega) (by rw [gn16]; omega)
      rw [hz, y_up_ne (Or.inl (by decide)), P2, one, ar_wr (by omega) (by omega)] at w2
      rw [q_letE (F_X5_add X τ1 (q_rf X (q_rf X g 2) 4) z2 1)]
      obtain ⟨τ2, e2⟩ : ∃ s, s = F_X5_add X τ1 (q_rf X (q_rf X g 2) 4) z2 1 := ⟨_, rfl⟩
      rw [← e2] at w2 ⊢
      have f1 : (τ2.1 (q_rf X g 2) 1).toInt = C + x.toInt := by
        refine (w2.rd (id := 2) (by decide) 1 rfl).trans ?_
        rw [y_up_ne (Or.inl (by decide)), y_up_ne (Or.inl (by decide))]
        exact P3
      rw [q_letE (τ2.1 (q_rf X g 2) 1)]
      obtain ⟨u, hu⟩ : ∃ u, u = τ2.1 (q_rf X g 2) 1 + 1 := ⟨_, rfl⟩
      have uv : u.toInt = C + x.toInt + 1 := by rw [hu, ar_add, f1, one, ar_wr (by omega) (by omega)]
      rw [← hu, q_letE u, q_letE (q_si τ2 (q_rf X g 2) 1 u), q_letE (x + 1)]
      have w3 : y_W X lb g o σ0 (q_si τ2 (q_rf X g 2) 1 u) (y_up (y_up (y_up V 17 (4 * K + (m + x.toInt)) k) 16 K (m + x.toInt + 1)) 2 1 u.toInt) := w2.si Y G (id := 2) (by decide) 1 u
      rw [uv] at w3
      have ex : (x + 1).toInt = x.toInt + 1 := y_inc (by omega)
      refine ih (x + 1) _ _ (by omega) w3 ?_ (by omega) (by omega)
      rw [ex]
      refine ⟨fun id j a1 a2 a3 => ?_, ?_, ?_, fun q q0 q1 => ?_⟩
      · rw [y_up_ne (by omega), y_up_ne (by omega), y_up_ne (by omega)]
        exact P1 id j (by omega) a2 a3
      · rw [y_up_ne (Or.inl (by decide)), y_up_eq]; omega
      · rw [y_up_eq]; omega
      · rw [y_up_ne (Or.inl (by decide)), y_up_ne (Or.inl (by decide))]
        by_cases e : q = m + x.toInt
        · rw [e, y_up_eq]
        · rw [y_up_ne (by omega)]; exact P4 q q0 (by omega)
    · have ex : x.toInt = n := by omega
      rw [if_neg q]
      rw [ex] at P
      exact ⟨V, w, P⟩
/-- cards from the hand to the heap -/
theorem gm_move (Y : y_S X lb) (G : y_G X lb g o) (w : y_W X lb g o σ0 τ V) {v1 v2 v3 : Int32} {p k n : Int} (hv1 : v1.toInt = p) (hv2 : v2.toInt = k) (hv3 : v3.toInt = n) (hp : 0 ≤ p ∧ p < 6) (hk : 0 ≤ k ∧ k < 10) (hn : 0 ≤ n ∧ n ≤ 1000) (b7 : -1000 ≤ V 7 (10 * p + k) ∧ V 7 (10 * p + k) ≤ 1000) (b8 : -1000 ≤ V 8 (10 * p + k) ∧ V 8 (10 * p + k) ≤ 1000) (b9 : -1000 ≤ V 9 p ∧ V 9 p ≤ 1000) :
    y_W X lb g o σ0 (F_X1_moveToHeap X τ (q_rf X g 1) v1 v2 v3) (y_up (y_up (y_up V 7 (10 * p + k) (V 7 (10 * p + k) - n)) 9 p (V 9 p - n)) 8 (10 * p + k) (V 8 (10 * p + k) + n)) := by
  have gn7 : ((y_gn 7 : Nat) : Int) = 60 := rfl
  have gn8 : ((y_gn 8 : Nat) : Int) = 60 := rfl
  have gn9 : ((y_gn 9 : Nat) : Int) = 6 := rfl
  have e10 : (10 : Int32).toInt = 10 := rfl
  have ei : (v1 * 10 + v2).toInt = 10 * p + k := by
    rw [ar_add, ar_mul, hv1, hv2, e10, ar_wr (n := p * 10) (by omega) (by omega), ar_wr (by omega) (by omega)]
    omega
  unfold F_X1_moveToHeap
  rw [q_letE (-v3)]
  obtain ⟨u, hu⟩ : ∃ u, u = -v3 := ⟨_, rfl⟩
  have uv : u.toInt = -n := by rw [hu, ar_neg, hv3, ar_wr (by omega) (by omega)]
  rw [← hu]
  have w1 := w.add Y G (id := 7) (r := q_rf X (q_rf X g 1) 0) ⟨by decide, by decide⟩ rfl (v1 * 10 + v2) u (by omega) (by rw [gn7]; omega)
  rw [ei, uv, ar_wr (by omega) (by omega)] at w1
  have d1 : F_X1_deal X τ (q_rf X g 1) v1 v2 u = F_X5_add X (F_X5_add X τ (q_rf X (q_rf X g 1) 0) (v1 * 10 + v2) u) (q_rf X (q_rf X g 1) 2) v1 u := by
    unfold F_X1_deal
    rw [q_letE, q_letE, q_letE, q_letE]
  rw [d1]
  obtain ⟨τ1, e1⟩ : ∃ s, s = F_X5_add X τ (q_rf X (q_rf X g 1) 0) (v1 * 10 + v2) u := ⟨_, rfl⟩
  rw [← e1] at w1 ⊢
  have w2 := w1.add Y G (id := 9) (r := q_rf X (q_rf X g 1) 2) ⟨by decide, by decide⟩ rfl v1 u (by omega) (by rw [gn9]; omega)
  rw [hv1, uv, y_up_ne (Or.inl (by decide)), ar_wr (by omega) (by omega)] at w2
  rw [q_letE (F_X5_add X τ1 (q_rf X (q_rf X g 1) 2) v1 u), q_letE (v1 * 10), q_letE (v1 * 10 + v2)]
  obtain ⟨τ2, e2⟩ : ∃ s, s = F_X5_add X τ1 (q_rf X (q_rf X g 1) 2) v1 u := ⟨_, rfl⟩
  rw [← e2] at w2 ⊢
  have w3 := w2.add Y G (id := 8) (r := q_rf X (q_rf X g 1) 1) ⟨by decide, by decide⟩ rfl (v1 * 10 + v2) v3 (by omega) (by rw [gn8]; omega)
  rw [ei, hv3, y_up_ne (Or.inl (by decide)), y_up_ne (Or.inl (by decide)), ar_wr (by omega) (by omega)] at w3
  rw [q_letE (F_X5_add X τ2 (q_rf X (q_rf X g 1) 1) (v1 * 10 + v2) v3)]
  exact w3
/-- a laying begun -/
theorem gm_begin (Y : y_S X lb) (G : y_G X lb g o) (w : y_W X lb g o σ0 τ V) {v1 v2 : Int32} {p k K : Int} (hv1 : v1.toInt = p) (hv2 : v2.toInt = k) (hK : V 2 0 = K) (bK : 0 ≤ K ∧ K < 80) :
    y_W X lb g o σ0 (F_X2_begin X τ (q_rf X g 2) v1 v2) (y_up (y_up (y_up (y_up V 14 K p) 15 K k) 16 K 0) 2 0 (K + 1)) := by
  have gn14 : ((y_gn 14 : Nat) : Int) = 80 := rfl
  have gn15 : ((y_gn 15 : Nat) : Int) = 80 := rfl
  have gn16 : ((y_gn 16 : Nat) : Int) = 80 := rfl
  have one : (1 : Int32).toInt = 1 := rfl
  have z0 : (0 : Int32).toInt = 0 := rfl
  unfold F_X2_begin
  have f1 : (τ.1 (q_rf X g 2) 0).toInt = K := (w.rd (id := 2) (by decide) 0 rfl).trans hK
  rw [q_letE (τ.1 (q_rf X g 2) 0)]
  obtain ⟨u, hu⟩ : ∃ u, u = τ.1 (q_rf X g 2) 0 := ⟨_, rfl⟩
  rw [← hu] at f1 ⊢
  have w1 := w.set Y G (id := 14) (r := q_rf X (q_rf X g 2) 2) ⟨by decide, by decide⟩ rfl u v1 (by omega) (by rw [gn14]; omega)
  rw [f1, hv1] at w1
  rw [q_letE (F_X5_set X τ (q_rf X (q_rf X g 2) 2) u v1)]
  obtain ⟨τ1, e1⟩ : ∃ s, s = F_X5_set X τ (q_rf X (q_rf X g 2) 2) u v1 := ⟨_, rfl⟩
  rw [← e1] at w1 ⊢
  have f2 : (τ1.1 (q_rf X g 2) 0).toInt = K := (w1.rd (id := 2) (by decide) 0 rfl).trans ((y_up_ne (Or.inl (by decide))).trans hK)
  rw [q_letE (τ1.1 (q_rf X g 2) 0)]
  obtain ⟨u2, hu2⟩ : ∃ u, u = τ1.1 (q_rf X g 2) 0 := ⟨_, rfl⟩
  rw [← hu2] at f2 ⊢
  have w2 := w1.set Y G (id := 15) (r := q_rf X (q_rf X g 2) 3) ⟨by decide, by decide⟩ rfl u2 v2 (by omega) (by rw [gn15]; omega)
  rw [f2, hv2] at w2
  rw [q_letE (F_X5_set X τ1 (q_rf X (q_rf X g 2) 3) u2 v2)]
  obtain ⟨τ2, e2⟩ : ∃ s, s = F_X5_set X τ1 (q_rf X (q_rf X g 2) 3) u2 v2 := ⟨_, rfl⟩
  rw [← e2] at w2 ⊢
  have f3 : (τ2.1 (q_rf X g 2) 0).toInt = K := (w2.rd (id := 2) (by decide) 0 rfl).trans ((y_up_ne (Or.inl (by decide))).trans ((y_up_ne (Or.inl (by decide))).trans hK))
  rw [q_letE (τ2.1 (q_rf X g 2) 0)]
  obtain ⟨u3, hu3⟩ : ∃ u, u = τ2.1 (q_rf X g 2) 0 := ⟨_, rfl⟩
  rw [← hu3] at f3 ⊢
  have w3 := w2.set Y G (id := 16) (r := q_rf X (q_rf X g 2) 4) ⟨by decide, by decide⟩ rfl u3 0 (by omega) (by rw [gn16]; omega)
  rw [f3, z0] at w3
  rw [q_letE (F_X5_set X τ2 (q_rf X (q_rf X g 2) 4) u3 0)]
  obtain ⟨τ3, e3⟩ : ∃ s, s = F_X5_set X τ2 (q_rf X (q_rf X g 2) 4) u3 0 := ⟨_, rfl⟩
  rw [← e3] at w3 ⊢
  have f4 : (τ3.1 (q_rf X g 2) 0).toInt = K := (w3.rd (id := 2) (by decide) 0 rfl).trans ((y_up_ne (Or.inl (by decide))).trans ((y_up_ne (Or.inl (by decide))).trans ((y_up_ne (Or.inl (by decide))).trans hK)))
  rw [q_letE (τ3.1 (q_rf X g 2) 0)]
  obtain ⟨u4, hu4⟩ : ∃ u, u = τ3.1 (q_rf X g 2) 0 + 1 := ⟨_, rfl⟩
  have uv : u4.toInt = K + 1 := by rw [hu4, ar_add, f4, one, ar_wr (by omega) (by omega)]
  rw [← hu4, q_letE u4, q_letE (q_si τ3 (q_rf X g 2) 0 u4)]
  have w4 : y_W X lb g o σ0 (q_si τ3 (q_rf X g 2) 0 u4) (y_up (y_up (y_up (y_up V 14 K p) 15 K k) 16 K 0) 2 0 u4.toInt) := w3.si Y G (id := 2) (by decide) 0 u4
  rw [uv] at w4
  exact w4
/-- what the class wants of the game that lays -/
def gl_p (V0 : Nat → Int → Int) (l : Int → Int) (p K N : Int) : Prop :=
  V0 0 5 = p ∧ V0 1 0 = N ∧ (0 ≤ p ∧ p < 6) ∧ (0 ≤ K ∧ K < 80) ∧ (0 ≤ N ∧ N ≤ 10) ∧ (∀ t : Int, 0 ≤ t → t < 10 → V0 23 t = l t ∧ 0 ≤ l t) ∧ m_S l 0 10 ≤ 4 ∧ (0 ≤ V0 2 1 ∧ V0 2 1 ≤ 90) ∧ (∀ t : Int, 0 ≤ t → t < 10 → (0 ≤ V0 7 (10 * p + t) ∧ V0 7 (10 * p + t) ≤ 90) ∧ (0 ≤ V0 8 (10 * p + t) ∧ V0 8 (10 * p + t) ≤ 90)) ∧ (0 ≤ V0 9 p ∧ V0 9 p ≤ 90)
theorem gl_vL (Y : y_S X lb) (G : y_G X lb g o) {p K N : Int} (H : gl_p V0 l p K N) (fu : Nat) : ∀ (x : Int32) (τ : ST) (V : Nat → Int → Int), (2147483647 - x.toInt).toNat < fu → y_W X lb g o σ0 τ V → gl_v V0 V l p K x.toInt → 0 ≤ x.toInt → x.toInt ≤ N →
    ∃ V' : Nat → Int → Int, y_W X lb g o σ0 (F_X0_layWanted_L17_1 X g fu x τ) (y_up V' 0 7 1) ∧ gl_v V0 V' l p K N := by
  obtain ⟨H1, H2, Hp, HK, HN, Hw, H4, Hc, Hr, H9⟩ := H
  have gn23 : ((y_gn 23 : Nat) : Int) = 10 := rfl
  have one : (1 : Int32).toInt = 1 := rfl
  have nn : ∀ t : Int, 0 ≤ t → t < 10 → 0 ≤ l t := fun t a b => (Hw t a b).2
  have z10 : m_S l 0 (10 : Int).toNat = m_S l 0 10 := rfl
  have m00 : m_S l 0 (0 : Int).toNat = 0 := rfl
  induction fu with
  | zero => intro x τ V h; exact absurd h (Nat.not_lt_zero _)
  | succ fu ih =>
    intro x τ V hf w P x0 x1
    obtain ⟨P1, ⟨P2, P2b⟩, P3, P4, P5, P6, P7, ⟨P8, P8b, P8c⟩, P9, P10⟩ := P
    have v1 : ∀ j, V 1 j = V0 1 j := fun j => P1 1 j (by decide) (by decide) (by decide) (by decide) (by decide) (by decide) (by decide) (by decide)
    have v0 : ∀ j, V 0 j = V0 0 j := fun j => P1 0 j (by decide) (by decide) (by decide) (by decide) (by decide) (by decide) (by decide) (by decide)
    have v23 : ∀ j, V 23 j = V0 23 j := fun j => P1 23 j (by decide) (by decide) (by decide) (by decide) (by decide) (by decide) (by decide) (by decide)
    have f8 : (τ.1 (q_rf X g 0) 0).toInt = N := (w.rd (id := 1) (by decide) 0 rfl).trans ((v1 _).trans H2)
    rw [F_X0_layWanted_L17_1_s]
    unfold F_X0_layWanted_B17_1
    rw [q_letE (τ.1 (q_rf X g 0) 0), f8]
    by_cases q : x.toInt < N
    · have f11 : (τ.1 g 5).toInt = p := (w.rd (id := 0) (by decide) 5 rfl).trans ((v0 _).trans H1)
      have wx := Hw x.toInt x0 (by omega)
      have f12 : (F_X5_get X τ (q_rf X g 8) x).toInt = l x.toInt := (y_getI Y G w (id := 23) ⟨by decide, by decide⟩ rfl (x := x) rfl x0 (by rw [gn23]; omega)).trans ((v23 _).trans wx.1)
      have mx := gl_mono nn (t := 0) (k := x.toInt) (by omega) x0 (by omega)
      have mx1 := gl_mono nn (t := x.toInt + 1) (k := 10) (by omega) (by omega) (by omega)
      have ms := gl_succ l x0
      have rx := Hr x.toInt x0 (by omega)
      have o7 := P3 (10 * p + x.toInt) (by omega)
      rw [if_pos q, q_letE (τ.1 g 5), q_letE (F_X5_get X τ (q_rf X g 8) x)]
      obtain ⟨n, hn⟩ : ∃ n, n = F_X5_get X τ (q_rf X g 8) x := ⟨_, rfl⟩
      rw [← hn] at f12 ⊢
      obtain ⟨pl, hpl⟩ : ∃ n, n = τ.1 g 5 := ⟨_, rfl⟩
      rw [← hpl] at f11 ⊢
      have w1 := gm_move Y G w (v1 := pl) (v2 := x) (v3 := n) f11 rfl f12 Hp ⟨x0, by omega⟩ ⟨wx.2, by omega⟩ (by rw [o7.1]; omega) (by rw [o7.2]; omega) (by rw [P6]; omega)
      rw [q_letE (F_X1_moveToHeap X τ (q_rf X g 1) pl x n)]
      obtain ⟨τ1, e1⟩ : ∃ s, s = F_X1_moveToHeap X τ (q_rf X g 1) pl x n := ⟨_, rfl⟩
      rw [← e1] at w1 ⊢
      obtain ⟨V1, hV1⟩ : ∃ v, v = y_up (y_up (y_up V 7 (10 * p + x.toInt) (V 7 (10 * p + x.toInt) - l x.toInt)) 9 p (V 9 p - l x.toInt)) 8 (10 * p + x.toInt) (V 8 (10 * p + x.toInt) + l x.toInt) := ⟨_, rfl⟩
      rw [← hV1] at w1
      have r1 : ∀ (id : Nat) (j : Int), id ≠ 7 → id ≠ 8 → id ≠ 9 → V1 id j = V id j := fun id j a7 a8 a9 => by
        rw [hV1, y_up_ne (Or.inl a8), y_up_ne (Or.inl a9), y_up_ne (Or.inl a7)]
      have f16 : (F_X5_get X τ1 (q_rf X g 8) x).toInt = l x.toInt := (y_getI Y G w1 (id := 23) ⟨by decide, by decide⟩ rfl (x := x) rfl x0 (by rw [gn23]; omega)).trans ((r1 23 _ (by decide) (by decide) (by decide)).trans ((v23 _).trans wx.1))
      rw [q_letE (F_X5_get X τ1 (q_rf X g 8) x)]
      obtain ⟨n2, hn2⟩ : ∃ n, n = F_X5_get X τ1 (q_rf X g 8) x := ⟨_, rfl⟩
      rw [← hn2] at f16 ⊢
      -- the pile
      have f0 : (τ1.1 (q_rf X g 2) 0).toInt = K + 1 := (w1.rd (id := 2) (by decide) 0 rfl).trans ((r1 2 _ (by decide) (by decide) (by decide)).trans P2)
      have z0 : (0 : Int32).toInt = 0 := rfl
      obtain ⟨V2, w2, A1, A2, A3, A4⟩ := gp_addL (V1 := V1) Y G (K := K) (k := x.toInt) (m := m_S l 0 x.toInt.toNat) (C := V0 2 1 + m_S l 0 x.toInt.toNat) (n := l x.toInt) HK ⟨by omega, by omega⟩ ⟨by omega, by omega⟩ (z2 := τ1.1 (q_rf X g 2) 0 - 1) (v1 := x) (v2 := n2) (by rw [ar_sub, f0, one, ar_wr (by omega) (by omega)]; omega) rfl f16 ((2147483647 - (0 : Int32).toInt).toNat + 1) 0 τ1 V1 (by decide) w1 (by
        rw [z0]
        refine ⟨fun _ _ _ _ _ => rfl, ?_, ?_, fun q q0 q1 => by omega⟩
        · rw [r1 16 _ (by decide) (by decide) (by decide), P8c]; omega
        · rw [r1 2 _ (by decide) (by decide) (by decide), P2b]; omega) (by decide) (by rw [z0]; exact wx.2)
      have d2 : F_X2_add X τ1 (q_rf X g 2) x n2 = F_X2_add_L10_1 X n2 (τ1.1 (q_rf X g 2) 0 - 1) (q_rf X g 2) x ((2147483647 - (0 : Int32).toInt).toNat + 1) 0 τ1 := by
        unfold F_X2_add
        rw [q_letE, q_letE]
      rw [← d2] at w2
      rw [q_letE (F_X2_add X τ1 (q_rf X g 2) x n2), q_letE (x + 1)]
      have ex : (x + 1).toInt = x.toInt + 1 := y_inc (by omega)
      refine ih (x + 1) _ V2 (by omega) w2 ?_ (by omega) (by omega)
      rw [ex]
      have r2 : ∀ (id : Nat) (j : Int), id ≠ 17 → id ≠ 16 → id ≠ 2 → V2 id j = V1 id j := fun id j a1 a2 a3 => A1 id j (fun z => a1 z.1) (fun z => a2 z.1) (fun z => a3 z.1)
      refine ⟨fun id j b2 b7 b8 b9 b14 b15 b16 b17 => ?_, ⟨?_, ?_⟩, fun j hj => ⟨?_, ?_⟩, fun t t0 t1 => ⟨?_, ?_⟩, fun j hj => ?_, ?_, fun j hj => ⟨?_, ?_, ?_⟩, ⟨?_, ?_, ?_⟩, fun j hj => ?_, fun t q t0 t1 q0 q1 => ?_⟩
      · rw [r2 id j b17 b16 b2, r1 id j b7 b8 b9]; exact P1 id j b2 b7 b8 b9 b14 b15 b16 b17
      · rw [A1 2 0 (by omega) (by omega) (by omega), r1 2 _ (by decide) (by decide) (by decide)]; exact P2
      · rw [A3, ms]; omega
      · rw [r2 7 j (by decide) (by decide) (by decide), hV1, y_up_ne (Or.inl (by decide)), y_up_ne (Or.inl (by decide)), y_up_ne (by omega)]
        exact (P3 j (by omega)).1
      · rw [r2 8 j (by decide) (by decide) (by decide), hV1, y_up_ne (by omega), y_up_ne (Or.inl (by decide)), y_up_ne (Or.inl (by decide))]
        exact (P3 j (by omega)).2
      · rw [r2 7 _ (by decide) (by decide) (by decide), hV1, y_up_ne (Or.inl (by decide)), y_up_ne (Or.inl (by decide))]
        by_cases e : t = x.toInt
        · rw [e, y_up_eq, o7.1]
        · rw [y_up_ne (by omega)]; exact (P4 t t0 (by omega)).1
      · rw [r2 8 _ (by decide) (by decide) (by decide), hV1]
        by_cases e : t = x.toInt
        · rw [e, y_up_eq, o7.2]
        · rw [y_up_ne (by omega), y_up_ne (Or.inl (by decide)), y_up_ne (Or.inl (by decide))]; exact (P4 t t0 (by omega)).2
      · rw [r2 9 _ (by decide) (by decide) (by decide), hV1, y_up_ne (Or.inl (by decide)), y_up_ne (by omega), y_up_ne (Or.inl (by decide))]
        exact P5 j hj
      · rw [r2 9 _ (by decide) (by decide) (by decide), hV1, y_up_ne (Or.inl (by decide)), y_up_eq, P6, ms]
        omega
      · rw [r2 14 _ (by decide) (by decide) (by decide), r1 14 _ (by decide) (by decide) (by decide)]; exact (P7 j hj).1
      · rw [r2 15 _ (by decide) (by decide) (by decide), r1 15 _ (by decide) (by decide) (by decide)]; exact (P7 j hj).2.1
      · rw [A1 16 j (by omega) (by omega) (by omega), r1 16 _ (by decide) (by decide) (by decide)]; exact (P7 j hj).2.2
      · rw [r2 14 _ (by decide) (by decide) (by decide), r1 14 _ (by decide) (by decide) (by decide)]; exact P8
      · rw [r2 15 _ (by decide) (by decide) (by decide), r1 15 _ (by decide) (by decide) (by decide)]; exact P8b
      · rw [A2, ms]
      · rw [A1 17 j (by omega) (by omega) (by omega), r1 17 _ (by decide) (by decide) (by decide)]; exact P9 j hj
      · by_cases e : t = x.toInt
        · subst e
          exact A4 q q0 q1
        · have mt := gl_mono nn (t := t + 1) (k := x.toInt) (by omega) (by omega) (by omega)
          have ts := gl_succ l t0
          rw [A1 17 _ (by omega) (by omega) (by omega), r1 17 _ (by decide) (by decide) (by decide)]
          exact P10 t q t0 (by omega) q0 q1
    · have ex : x.toInt = N := by omega
      rw [if_neg q]
      rw [ex] at P2b P3 P4 P6 P8c P10
      unfold F_X0_layWanted_E70_2
      rw [q_letE (q_si τ g 7 1)]
      have w5 : y_W X lb g o σ0 (q_si τ g 7 1) (y_up V 0 7 1) := w.si Y G (id := 0) (by decide) 7 1
      exact ⟨V, w5, P1, ⟨P2, P2b⟩, P3, P4, P5, P6, P7, ⟨P8, P8b, P8c⟩, P9, P10⟩
/-- the class lays down what is wanted -/
theorem gm_layWanted (Y : y_S X lb) (G : y_G X lb g o) (w : y_W X lb g o σ0 τ V) {p K N : Int} (H : gl_p V l p K N) (h20 : V 2 0 = K) :
    ∃ V' : Nat → Int → Int, y_W X lb g o σ0 (F_X0_layWanted X τ g) (y_up V' 0 7 1) ∧ gl_v V V' l p K N := by
  have H' := H
  obtain ⟨H1, H2, Hp, HK, HN, Hw, H4, Hc, Hr, H9⟩ := H'
  have z0 : (0 : Int32).toInt = 0 := rfl
  have m00 : m_S l 0 (0 : Int).toNat = 0 := rfl
  unfold F_X0_layWanted
  rw [q_letE (τ.1 g 5), q_letE (τ.1 g 4)]
  have f5 : (τ.1 g 5).toInt = p := (w.rd (id := 0) (by decide) 5 rfl).trans H1
  have f4 : (τ.1 g 4).toInt = V 0 4 := w.rd (id := 0) (by decide) 4 rfl
  have w1 := gm_begin Y G w f5 f4 h20 HK
  rw [q_letE (F_X2_begin X τ (q_rf X g 2) (τ.1 g 5) (τ.1 g 4))]
  obtain ⟨τ1, e1⟩ : ∃ s, s = F_X2_begin X τ (q_rf X g 2) (τ.1 g 5) (τ.1 g 4) := ⟨_, rfl⟩
  rw [← e1] at w1 ⊢
  refine gl_vL Y G H _ 0 τ1 _ (by decide) w1 ?_ (by decide) (by rw [z0]; exact HN.1)
  rw [z0]
  refine ⟨fun id j b2 b7 b8 b9 b14 b15 b16 b17 => ?_, ⟨?_, ?_⟩, fun j hj => ⟨?_, ?_⟩, fun t t0 t1 => by omega, fun j hj => ?_, ?_, fun j hj => ⟨?_, ?_, ?_⟩, ⟨?_, ?_, ?_⟩, fun j hj => ?_, fun t q t0 t1 => by omega⟩
  · rw [y_up_ne (Or.inl b2), y_up_ne (Or.inl b16), y_up_ne (Or.inl b15), y_up_ne (Or.inl b14)]
  · rw [y_up_eq]
  · rw [y_up_ne (Or.inr (by decide)), y_up_ne (Or.inl (by decide)), y_up_ne (Or.inl (by decide)), y_up_ne (Or.inl (by decide)), m00]; omega
  · rw [y_up_ne (Or.inl (by decide)), y_up_ne (Or.inl (by decide)), y_up_ne (Or.inl (by decide)), y_up_ne (Or.inl (by decide))]
  · rw [y_up_ne (Or.inl (by decide)), y_up_ne (Or.inl (by decide)), y_up_ne (Or.inl (by decide)), y_up_ne (Or.inl (by decide))]
  · rw [y_up_ne (Or.inl (by decide)), y_up_ne (Or.inl (by decide)), y_up_ne (Or.inl (by decide)), y_up_ne (Or.inl (by decide))]
  · rw [y_up_ne (Or.inl (by decide)), y_up_ne (Or.inl (by decide)), y_up_ne (Or.inl (by decide)), y_up_ne (Or.inl (by decide)), m00]; omega
  · rw [y_up_ne (Or.inl (by decide)), y_up_ne (Or.inl (by decide)), y_up_ne (Or.inl (by decide)), y_up_ne (Or.inr hj)]
  · rw [y_up_ne (Or.inl (by decide)), y_up_ne (Or.inl (by decide)), y_up_ne (Or.inr hj), y_up_ne (Or.inl (by decide))]
  · rw [y_up_ne (Or.inl (by decide)), y_up_ne (Or.inr hj), y_up_ne (Or.inl (by decide)), y_up_ne (Or.inl (by decide))]
  · rw [y_up_ne (Or.inl (by decide)), y_up_ne (Or.inl (by decide)), y_up_ne (Or.inl (by decide)), y_up_eq]
  · rw [y_up_ne (Or.inl (by decide)), y_up_ne (Or.inl (by decide)), y_up_eq]
  · rw [y_up_ne (Or.inl (by decide)), y_up_eq, m00]
  · rw [y_up_ne (Or.inl (by decide)), y_up_ne (Or.inl (by decide)), y_up_ne (Or.inl (by decide)), y_up_ne (Or.inl (by decide))]
end GE

/-! FROM 49f.rglay.lean.txt -/
/-! CARDS LAID DOWN: the games stay the same -/
theorem gm_Kx {c c' : Int → Int} {w k : Int} {n : Nat} (h : ∀ j : Int, w + 3 ≤ j → j < w + 3 + (n : Int) → c' j = c j) : m_K c' w k n = m_K c w k n := by
  induction n with
  | zero => rfl
  | succ n ih =>
    show m_K c' w k n + (if k < 0 ∨ c' (w + 3 + (n : Int)) = k then 1 else 0) = m_K c w k n + (if k < 0 ∨ c (w + 3 + (n : Int)) = k then 1 else 0)
    rw [ih (fun j a b => h j a (by omega)), h _ (by omega) (by omega)]
/-- the layings below n are the same -/
theorem gm_Lx {c c' : Int → Int} {n : Nat} (h4 : ∀ i : Int, 0 ≤ i → i < (n : Int) → c (94 + 7 * i + 2) ≤ 4) (h : ∀ j : Int, 94 ≤ j → j < 94 + 7 * (n : Int) → c' j = c j) : m_L c' n = m_L c n ∧ ∀ p k : Int, m_A c' p k n = m_A c p k n := by
  induction n with
  | zero => exact ⟨rfl, fun _ _ => rfl⟩
  | succ n ih =>
    obtain ⟨i1, i2⟩ := ih (fun i a b => h4 i a (by omega)) (fun j a b => h j a (by omega))
    have s4 := h4 (n : Int) (by omega) (by omega)
    refine ⟨?_, fun p k => ?_⟩
    · show m_L c' n + c' (94 + 7 * (n : Int) + 2) = m_L c n + c (94 + 7 * (n : Int) + 2)
      rw [i1, h _ (by omega) (by omega)]
    · show m_A c' p k n + (if 0 ≤ p ∧ c' (94 + 7 * (n : Int)) ≠ p then 0 else m_K c' (94 + 7 * (n : Int)) k (c' (94 + 7 * (n : Int) + 2)).toNat) = m_A c p k n + (if 0 ≤ p ∧ c (94 + 7 * (n : Int)) ≠ p then 0 else m_K c (94 + 7 * (n : Int)) k (c (94 + 7 * (n : Int) + 2)).toNat)
      rw [i2 p k, h _ (by omega) (by omega), h (94 + 7 * (n : Int) + 2) (by omega) (by omega), gm_Kx (c := c) (fun j a b => h j (by omega) (by omega))]
theorem gl_K {c l : Int → Int} {w k : Int} (nn : ∀ t : Int, 0 ≤ t → t < 10 → 0 ≤ l t) (hk : 0 ≤ k ∧ k < 10) (hq : ∀ t q : Int, 0 ≤ t → t < 10 → m_S l 0 t.toNat ≤ q → q < m_S l 0 t.toNat + l t → c (w + 3 + q) = t) (t : Nat) (ht : t ≤ 10) : m_K c w k (m_S l 0 t).toNat = if k < (t : Int) then l k else 0 := by
  induction t with
  | zero =>
    rw [if_neg (by omega)]
    rfl
  | succ t ih =>
    have i1 := ih (by omega)
    have et : ((t : Int)).toNat = t := by omega
    have lt := nn (t : Int) (by omega) (by omega)
    have s0 : 0 ≤ m_S l 0 t := m_S_nn (fun j a b => nn j a (by omega))
    have hs : m_S l 0 (t + 1) = m_S l 0 t + l (t : Int) := by
      show m_S l 0 t + l (0 + (t : Int)) = _
      rw [Int.zero_add]
    have st : ∀ i : Nat, (i : Int) ≤ l (t : Int) → m_K c w k ((m_S l 0 t).toNat + i) = m_K c w k (m_S l 0 t).toNat + (if (t : Int) = k then (i : Int) else 0) := by
      intro i
      induction i with
      | zero =>
        intro _
        show m_K c w k (m_S l 0 t).toNat = _
        split <;> omega
      | succ i ih2 =>
        intro hi
        have i2 := ih2 (by omega)
        have hc := hq (t : Int) (m_S l 0 t + (i : Int)) (by omega) (by omega) (by rw [et]; omega) (by rw [et]; omega)
        have ec : (((m_S l 0 t).toNat + i : Nat) : Int) = m_S l 0 t + (i : Int) := by omega
        show m_K c w k ((m_S l 0 t).toNat + i) + (if k < 0 ∨ c (w + 3 + (((m_S l 0 t).toNat + i : Nat) : Int)) = k then 1 else 0) = _
        rw [i2, ec, hc]
        by_cases q : (t : Int) = k
        · rw [if_pos q, if_pos q, if_pos (Or.inr q)]; omega
        · rw [if_neg q, if_neg q, if_neg (by omega)]; omega
    have hf := st (l (t : Int)).toNat (by omega)
    have es : (m_S l 0 (t + 1)).toNat = (m_S l 0 t).toNat + (l (t : Int)).toNat := by omega
    rw [es, hf, i1]
    by_cases q : (t : Int) = k
    · rw [if_pos q, if_neg (by omega), if_pos (by omega), ← q]; omega
    · rw [if_neg q]
      by_cases q2 : k < (t : Int)
      · rw [if_pos q2, if_pos (by omega)]; omega
      · rw [if_neg q2, if_neg (by omega)]; rfl
theorem gl_P {c c' l : Int → Int} {p k : Int} (hp : 0 ≤ p) (h1 : c' (34 + 10 * p + k) = c (34 + 10 * p + k) - l k) (h2 : ∀ q : Int, 0 ≤ q → q < 6 → q ≠ p → c' (34 + 10 * q + k) = c (34 + 10 * q + k)) (n : Nat) (hn : n ≤ 6) : m_P c' k n = m_P c k n - (if p < (n : Int) then l k else 0) := by
  induction n with
  | zero =>
    rw [if_neg (by omega)]
    rfl
  | succ n ih =>
    have i1 := ih (by omega)
    show m_P c' k n + c' (34 + 10 * (n : Int) + k) = m_P c k n + c (34 + 10 * (n : Int) + k) - _
    rw [i1]
    by_cases q : (n : Int) = p
    · rw [q, h1, if_neg (by omega), if_pos (by omega)]; omega
    · rw [h2 (n : Int) (by omega) (by omega) q]
      by_cases q2 : p < (n : Int)
      · rw [if_pos q2, if_pos (by omega)]; omega
      · rw [if_neg q2, if_neg (by omega)]; omega
theorem gl_cut {l : Int → Int} (n m : Nat) (h : ∀ t : Int, (n : Int) ≤ t → t < ((n + m : Nat) : Int) → l t = 0) : m_S l 0 (n + m) = m_S l 0 n := by
  induction m with
  | zero => rfl
  | succ m ih =>
    show m_S l 0 (n + m) + l (0 + ((n + m : Nat) : Int)) = _
    rw [ih (fun t a b => h t a (by omega)), h _ (by omega) (by omega)]
    omega
theorem rg.lay {V V' : Nat → Int → Int} {c c' l : Int → Int} {p : Int} (R : rg V c) (hl : m_lo c l p) (h6 : c 6 = p) (v : gl_v V V' l p (c 9) (c 0)) (r : gl_r c c' l p) : rg (y_up V' 0 7 1) c' := by
  have b9 := hl.c9
  have hp := hl.2.1
  have hG := hl.1
  obtain ⟨b0, b2, b4, b5, b6, b7, b9', b79⟩ := hG.1
  have nn : ∀ t : Int, 0 ≤ t → t < 10 → 0 ≤ l t := fun t a b => (hl.2.2.1 t a b).1
  have zl : ∀ t : Int, c 0 ≤ t → t < 10 → l t = 0 := fun t a b => by
    have z := hl.2.2.1 t (by omega) b
    have y := (hG.2.1 p t hp.1 hp.2 (by omega) b).2 a
    omega
  have hN : m_S l 0 (c 0).toNat = m_S l 0 10 := by
    have z := gl_cut (l := l) (c 0).toNat (10 - (c 0).toNat) (fun t a b => zl t (by omega) (by omega))
    have e : (c 0).toNat + (10 - (c 0).toNat) = 10 := by omega
    rw [e] at z
    exact z.symm
  obtain ⟨⟨t1, t2, t3, t4, t5, t6⟩, ⟨s1, s2, s3, s4⟩, hpp, ⟨g1, g2⟩, ⟨l1, l2, l3⟩, ⟨a1, a2⟩⟩ := R
  obtain ⟨P1, ⟨P2, P2b⟩, P3, P4, P5, P6, P7, ⟨P8, P8b, P8c⟩, P9, P10⟩ := v
  obtain ⟨r1, r2, r3, r4, r5, r6, r7, r8⟩ := r
  rw [hN] at P2b P6 P8c
  have d : ∀ j : Int, 0 ≤ j → j < 34 → j ≠ 9 → j ≠ 7 → c' j = c j := fun j j0 j1 j2 j3 => r1 j j0 (by omega) (by omega) j2 j3
  have dl : ∀ j : Int, 94 ≤ j → j < 94 + 7 * c 9 → c' j = c j := fun j j0 j1 => r1 j (by omega) (by omega) (by omega) (by omega) (by omega)
  have u : ∀ (id : Nat) (j : Int), id ≠ 0 → y_up V' 0 7 1 id j = V' id j := fun id j h => y_up_ne (Or.inl h)
  have w : ∀ (id : Nat) (j : Int), id ≠ 0 → id ≠ 2 → id ≠ 7 → id ≠ 8 → id ≠ 9 → id ≠ 14 → id ≠ 15 → id ≠ 16 → id ≠ 17 → y_up V' 0 7 1 id j = V id j := fun id j q0 q2 q7 q8 q9 q14 q15 q16 q17 => (u id j q0).trans (P1 id j q2 q7 q8 q9 q14 q15 q16 q17)
  have w0 : ∀ j : Int, j ≠ 7 → y_up V' 0 7 1 0 j = V 0 j := fun j h => (y_up_ne (Or.inr h)).trans (P1 0 j (by decide) (by decide) (by decide) (by decide) (by decide) (by decide) (by decide) (by decide))
  have Lx := gm_Lx (c := c) (c' := c') (n := (c 9).toNat) (fun i i0 i1 => ((hG.2.2.1 i i0 (by omega)).1).2) (fun j j0 j1 => dl j j0 (by omega))
  have e9 : (c' 9).toNat = (c 9 + 1).toNat := by rw [r6]
  have kk : ∀ k : Int, 0 ≤ k → k < 10 → m_K c' (94 + 7 * c 9) k (c' (94 + 7 * c 9 + 2)).toNat = l k := by
    intro k k0 k1
    have z := gl_K (c := c') (w := 94 + 7 * c 9) nn ⟨k0, k1⟩ r8 10 (Nat.le_refl 10)
    rw [if_pos (by omega)] at z
    rw [r5]
    exact z
  refine ⟨⟨?_, ?_, ?_, ?_, ?_, ?_⟩, ⟨?_, ?_, ?_, ?_⟩, fun q q0 q1 => ⟨?_, ?_, ?_, ?_⟩, ⟨fun j j0 j1 => ?_, fun q q0 q1 => ?_⟩, ⟨?_, ?_, fun k k0 k1 => ?_⟩, ⟨fun q k q0 q1 k0 k1 => ?_, fun k k0 k1 => ?_⟩⟩
  · rw [w 1 0 (by decide) (by decide) (by decide) (by decide) (by decide) (by decide) (by decide) (by decide) (by decide), d 0 (by decide) (by decide) (by decide) (by decide)]; exact t1
  · rw [w 1 1 (by decide) (by decide) (by decide) (by decide) (by decide) (by decide) (by decide) (by decide) (by decide), d 1 (by decide) (by decide) (by decide) (by decide)]; exact t2
  · rw [w 1 2 (by decide) (by decide) (by decide) (by decide) (by decide) (by decide) (by decide) (by decide) (by decide), d 3 (by decide) (by decide) (by decide) (by decide)]; exact t3
  · rw [w 1 3 (by decide) (by decide) (by decide) (by decide) (by decide) (by decide) (by decide) (by decide) (by decide), d 4 (by decide) (by decide) (by decide) (by decide)]; exact t4
  · rw [w 1 4 (by decide) (by decide) (by decide) (by decide) (by decide) (by decide) (by decide) (by decide) (by decide), d 2 (by decide) (by decide) (by decide) (by decide)]; exact t5
  · rw [d 3 (by decide) (by decide) (by decide) (by decide)]; exact t6
  · rw [w0 4 (by decide), d 5 (by decide) (by decide) (by decide) (by decide)]; exact s1
  · rw [w0 5 (by decide), d 2 (by decide) (by decide) (by decide) (by decide), d 6 (by decide) (by decide) (by decide) (by decide)]; exact s2
  · rw [w0 6 (by decide), d 8 (by decide) (by decide) (by decide) (by decide)]; exact s3
  · rw [y_up_eq, r7]
  · rw [w 10 q (by decide) (by decide) (by decide) (by decide) (by decide) (by decide) (by decide) (by decide) (by decide), d _ (by omega) (by omega) (by omega) (by omega)]; exact (hpp q q0 q1).1
  · rw [w 11 q (by decide) (by decide) (by decide) (by decide) (by decide) (by decide) (by decide) (by decide) (by decide), d _ (by omega) (by omega) (by omega) (by omega)]; exact (hpp q q0 q1).2.1
  · rw [w 12 q (by decide) (by decide) (by decide) (by decide) (by decide) (by decide) (by decide) (by decide) (by decide), d _ (by omega) (by omega) (by omega) (by omega)]; exact (hpp q q0 q1).2.2.1
  · rw [w 13 q (by decide) (by decide) (by decide) (by decide) (by decide) (by decide) (by decide) (by decide) (by decide), d _ (by omega) (by omega) (by omega) (by omega)]; exact (hpp q q0 q1).2.2.2
  · rw [u 7 j (by decide)]
    by_cases e : 10 * p ≤ j ∧ j < 10 * p + 10
    · obtain ⟨t, ht⟩ : ∃ t, t = j - 10 * p := ⟨_, rfl⟩
      have ej : j = 10 * p + t := by omega
      subst ej
      have ec : (34 : Int) + (10 * p + t) = 34 + 10 * p + t := by omega
      have gg := g1 (10 * p + t) j0 j1
      rw [ec] at gg
      rw [ec, r2 t (by omega) (by omega)]
      by_cases e2 : t < c 0
      · rw [(P4 t (by omega) e2).1, gg]
      · rw [(P3 _ (by omega)).1, gg, zl t (by omega) (by omega)]; omega
    · rw [(P3 _ (by omega)).1, r1 _ (by omega) (by omega) (by omega) (by omega) (by omega)]
      exact g1 j j0 j1
  · rw [u 9 q (by decide)]
    by_cases e : q = p
    · rw [e, P6, g2 p hp.1 hp.2, m_S_sub (c' := c') (c := c) (f := l) (b := 34 + 10 * p) (n := 10) (fun t a b => r2 t a (by omega))]
    · rw [P5 q e, g2 q q0 q1]
      exact (m_S_ext (fun j x y => r1 j (by omega) (by omega) (by omega) (by omega) (by omega))).symm
  · rw [u 2 0 (by decide), P2, r6]
  · rw [u 2 1 (by decide), P2b, l2, e9, m_L_succ c' (c 9) b9.1, Lx.1, r5]
  · rw [u 14 k (by decide), u 15 k (by decide), u 16 k (by decide)]
    rw [r6] at k1
    by_cases e : k = c 9
    · subst e
      rw [P8, P8b, P8c, r3, r4, r5]
      refine ⟨rfl, s1, rfl, hp, fun i i0 i1 => ?_⟩
      obtain ⟨t, x0, x1, x2, x3⟩ := gl_at 10 i i0 i1
      have tk := hl.kind x0 (by omega) (by omega)
      rw [u 17 _ (by decide), P10 t i x0 tk x2 x3, r8 t i x0 (by omega) x2 x3]
    · have z := P7 k e
      obtain ⟨y1, y2, y3, y5, y4⟩ := l3 k k0 (by omega)
      have z4 := ((hG.2.2.1 k k0 (by omega)).1).2
      rw [z.1, z.2.1, z.2.2, dl _ (by omega) (by omega), dl _ (by omega) (by omega), dl _ (by omega) (by omega)]
      refine ⟨y1, y2, y3, y5, fun i i0 i1 => ?_⟩
      rw [u 17 _ (by decide), P9 _ (by omega), dl _ (by omega) (by omega)]
      exact y4 i i0 i1
  · rw [u 8 _ (by decide), e9, m_A_succ c' q k (c 9) b9.1, Lx.2, r3]
    by_cases e : q = p
    · subst e
      rw [if_neg (fun z => z.2 rfl), kk k k0 k1]
      by_cases e2 : k < c 0
      · rw [(P4 k k0 e2).2, a1 q k q0 q1 k0 k1]
      · rw [(P3 _ (by omega)).2, a1 q k q0 q1 k0 k1, zl k (by omega) k1]; omega
    · rw [if_pos ⟨q0, fun z => e z.symm⟩, (P3 _ (by omega)).2, a1 q k q0 q1 k0 k1]; omega
  · rw [w 4 k (by decide) (by decide) (by decide) (by decide) (by decide) (by decide) (by decide) (by decide) (by decide), a2 k k0 k1]
    unfold m_I
    rw [e9, d 2 (by decide) (by decide) (by decide) (by decide), m_A_succ c' (-1) k (c 9) b9.1, Lx.2, if_neg (fun z => absurd z.1 (by decide)), kk k k0 k1, gl_P (l := l) hp.1 (r2 k k0 k1) (fun q q0 q1 q2 => r1 _ (by omega) (by omega) (by omega) (by omega) (by omega)) (c 2).toNat (by omega), if_pos (by omega)]
    omega

/-! FROM 49g.truth.lean.txt -/
/-! TRUE, MIXED, FALSE -/
def g_ct (f : Int → Int) (b : Int) : Nat → Int
  | 0 => 0
  | n + 1 => g_ct f b n + (if f (n : Int) = b then 1 else 0)
def g_tr (f : Int → Int) (b n : Int) : Int := if g_ct f b n.toNat = n then 0 else if g_ct f b n.toNat = 0 then 2 else 1
theorem g_ct_s (f : Int → Int) (b : Int) {x : Int} (h : 0 ≤ x) : g_ct f b (x + 1).toNat = g_ct f b x.toNat + (if f x = b then 1 else 0) := by
  have e : (x + 1).toNat = x.toNat + 1 := by omega
  have e2 : (x.toNat : Int) = x := by omega
  rw [e]
  show g_ct f b x.toNat + (if f (x.toNat : Int) = b then 1 else 0) = _
  rw [e2]
theorem g_ct_b (f : Int → Int) (b : Int) (n : Nat) : 0 ≤ g_ct f b n ∧ g_ct f b n ≤ (n : Int) := by
  induction n with
  | zero => exact ⟨Int.le_refl _, Int.le_refl _⟩
  | succ n ih =>
    have e : g_ct f b (n + 1) = g_ct f b n + (if f (n : Int) = b then 1 else 0) := rfl
    rw [e]
    split <;> omega
theorem g_ct_x {f f' : Int → Int} {b : Int} {n : Nat} (h : ∀ i : Int, 0 ≤ i → i < (n : Int) → f i = f' i) : g_ct f b n = g_ct f' b n := by
  induction n with
  | zero => rfl
  | succ n ih =>
    show g_ct f b n + (if f (n : Int) = b then 1 else 0) = g_ct f' b n + (if f' (n : Int) = b then 1 else 0)
    rw [ih (fun i a c => h i a (by omega)), h (n : Int) (by omega) (by omega)]
theorem g_tr_x {f f' : Int → Int} {b n : Int} (h : ∀ i : Int, 0 ≤ i → i < n → f i = f' i) : g_tr f b n = g_tr f' b n := by
  unfold g_tr
  rw [g_ct_x (f := f) (f' := f') (n := n.toNat) (fun i a c => h i a (by omega))]
section GF
variable {X : XW} {lb : Nat → Nat} {g o a : Nat} {σ τ σ0 τ0 : ST} {V : Nat → Int → Int} {c : Int → Int}
theorem gm_truthL (Y : y_S X lb) (G : y_G X lb g o) (w : y_W X lb g o σ0 σ V) {v1 : Int32} {k n : Int} (hv : v1.toInt = k) (hk : 0 ≤ k ∧ k < 80) (hs : V 16 k = n) (hn : 0 ≤ n ∧ n ≤ 4) (fu : Nat) : ∀ x1 x2 : Int32, (2147483647 - x2.toInt).toNat < fu → 0 ≤ x2.toInt → x2.toInt ≤ n → x1.toInt = g_ct (fun i => V 17 (4 * k + i)) (V 15 k) x2.toInt.toNat → (F_X2_truth_L4_1 X σ (q_rf X g 2) v1 fu x1 x2).toInt = g_tr (fun i => V 17 (4 * k + i)) (V 15 k) n := by
  have gn15 : ((y_gn 15 : Nat) : Int) = 80 := rfl
  have gn16 : ((y_gn 16 : Nat) : Int) = 80 := rfl
  have gn17 : ((y_gn 17 : Nat) : Int) = 320 := rfl
  have e4 : (4 : Int32).toInt = 4 := rfl
  have r4 : (F_X5_get X σ (q_rf X (q_rf X g 2) 4) v1).toInt = n := (y_getI Y G w (id := 16) ⟨by decide, by decide⟩ rfl hv hk.1 (by rw [gn16]; exact hk.2)).trans hs
  have r15 : (F_X5_get X σ (q_rf X (q_rf X g 2) 3) v1).toInt = V 15 k := y_getI Y G w (id := 15) ⟨by decide, by decide⟩ rfl hv hk.1 (by rw [gn15]; exact hk.2)
  induction fu with
  | zero => intro x1 x2 h; exact absurd h (Nat.not_lt_zero _)
  | succ fu ih =>
    intro x1 x2 hf y0 y1 hx
    have cb := g_ct_b (fun i => V 17 (4 * k + i)) (V 15 k) x2.toInt.toNat
    rw [F_X2_truth_L4_1_s]
    unfold F_X2_truth_B4_1
    rw [q_letE (F_X5_get X σ (q_rf X (q_rf X g 2) 4) v1), r4]
    by_cases q : x2.toInt < n
    · have ei : (v1 * 4 + x2).toInt = 4 * k + x2.toInt := by
        rw [ar_add, ar_mul, hv, e4, ar_wr (n := k * 4) (by omega) (by omega), ar_wr (by omega) (by omega)]
        omega
      have r13 : (F_X5_get X σ (q_rf X (q_rf X g 2) 5) (v1 * 4 + x2)).toInt = V 17 (4 * k + x2.toInt) := y_getI Y G w (id := 17) ⟨by decide, by decide⟩ rfl ei (by omega) (by rw [gn17]; omega)
      have ex1 : (x1 + 1).toInt = x1.toInt + 1 := y_inc (by omega)
      have ex2 : (x2 + 1).toInt = x2.toInt + 1 := y_inc (by omega)
      have cs := g_ct_s (fun i => V 17 (4 * k + i)) (V 15 k) y0
      rw [if_pos q, q_letE (v1 * 4), q_letE (v1 * 4 + x2), q_letE (F_X5_get X σ (q_rf X (q_rf X g 2) 5) (v1 * 4 + x2)), q_letE (F_X5_get X σ (q_rf X (q_rf X g 2) 3) v1), r13, r15]
      by_cases q2 : V 17 (4 * k + x2.toInt) = V 15 k
      · rw [if_pos q2, q_letE (x1 + 1), q_letE (x2 + 1)]
        rw [if_pos q2] at cs
        exact ih _ _ (by omega) (by omega) (by omega) (by rw [ex1, ex2, cs, hx])
      · rw [if_neg q2, q_letE (x2 + 1)]
        rw [if_neg q2] at cs
        exact ih _ _ (by omega) (by omega) (by omega) (by rw [ex2, cs, hx]; omega)
    · have ey : x2.toInt = n := by omega
      rw [ey] at hx
      rw [if_neg q]
      unfold F_X2_truth_E48_2
      rw [q_letE, r4, hx]
      unfold g_tr
      by_cases q2 : g_ct (fun i => V 17 (4 * k + i)) (V 15 k) n.toNat = n
      · rw [if_pos q2, if_pos q2]; rfl
      · rw [if_neg q2, if_neg q2]
        by_cases q3 : g_ct (fun i => V 17 (4 * k + i)) (V 15 k) n.toNat = 0
        · rw [if_pos q3, if_pos q3]; rfl
        · rw [if_neg q3, if_neg q3]; rfl
theorem gm_truth (Y : y_S X lb) (G : y_G X lb g o) (w : y_W X lb g o σ0 σ V) {v1 : Int32} {k n : Int} (hv : v1.toInt = k) (hk : 0 ≤ k ∧ k < 80) (hs : V 16 k = n) (hn : 0 ≤ n ∧ n ≤ 4) : (F_X2_truth X σ (q_rf X g 2) v1).toInt = g_tr (fun i => V 17 (4 * k + i)) (V 15 k) n := by
  have z0 : (0 : Int32).toInt = 0 := rfl
  unfold F_X2_truth
  exact gm_truthL Y G w hv hk hs hn _ 0 0 (by decide) (by decide) (by rw [z0]; exact hn.1) (by rw [z0]; rfl)
theorem gm_laid {v : Int32} {k : Int} (hv : v.toInt = k) (hk : 0 ≤ k ∧ k ≤ 80) : (F_X12_laid X τ v).toInt = 94 + 7 * k := by
  have e7 : (7 : Int32).toInt = 7 := rfl
  have e94 : (94 : Int32).toInt = 94 := rfl
  unfold F_X12_laid
  rw [q_letE, q_letE, ar_add, ar_mul, e94, e7, hv, ar_wr (n := 7 * k) (by omega) (by omega), ar_wr (by omega) (by omega)]
theorem gm_sortL (hc : m_c X τ a = c) {rr : Int32} {k n : Int} (hr : rr.toInt = 94 + 7 * k) (hk : 0 ≤ k ∧ k < 80) (hs : c (94 + 7 * k + 2) = n) (hn : 0 ≤ n ∧ n ≤ 4) (fu : Nat) : ∀ x1 x2 : Int32, (2147483647 - x2.toInt).toNat < fu → 0 ≤ x2.toInt → x2.toInt ≤ n → x1.toInt = g_ct (fun i => c (94 + 7 * k + 3 + i)) (c (94 + 7 * k + 1)) x2.toInt.toNat → (F_X12_sortOf_L10_1 X rr τ a fu x1 x2).toInt = g_tr (fun i => c (94 + 7 * k + 3 + i)) (c (94 + 7 * k + 1)) n := by
  have e1 : (1 : Int32).toInt = 1 := rfl
  have e2 : (2 : Int32).toInt = 2 := rfl
  have e3 : (3 : Int32).toInt = 3 := rfl
  have z0 : (0 : Int32).toInt = 0 := rfl
  have i1 : (rr + 1).toInt = 94 + 7 * k + 1 := by rw [ar_add, hr, e1, ar_wr (by omega) (by omega)]
  have i2 : (rr + 2).toInt = 94 + 7 * k + 2 := by rw [ar_add, hr, e2, ar_wr (by omega) (by omega)]
  have i3 : (rr + 3).toInt = 94 + 7 * k + 3 := by rw [ar_add, hr, e3, ar_wr (by omega) (by omega)]
  have r2 : (τ.1 (q_rf X a 20) (rr + 2).toNatClampNeg).toInt = n := (gm_cell hc i2).trans hs
  have r1 : (τ.1 (q_rf X a 20) (rr + 1).toNatClampNeg).toInt = c (94 + 7 * k + 1) := gm_cell hc i1
  induction fu with
  | zero => intro x1 x2 h; exact absurd h (Nat.not_lt_zero _)
  | succ fu ih =>
    intro x1 x2 hf y0 y1 hx
    have cb := g_ct_b (fun i => c (94 + 7 * k + 3 + i)) (c (94 + 7 * k + 1)) x2.toInt.toNat
    rw [F_X12_sortOf_L10_1_s]
    unfold F_X12_sortOf_B10_1
    rw [q_letE (rr + 2), q_letE (τ.1 (q_rf X a 20) (rr + 2).toNatClampNeg), r2]
    by_cases q : x2.toInt < n
    · have ei : (rr + 3 + x2).toInt = 94 + 7 * k + 3 + x2.toInt := by rw [ar_add, i3, ar_wr (by omega) (by omega)]
      have r13 : (τ.1 (q_rf X a 20) (rr + 3 + x2).toNatClampNeg).toInt = c (94 + 7 * k + 3 + x2.toInt) := gm_cell hc ei
      have ex1 : (x1 + 1).toInt = x1.toInt + 1 := y_inc (by omega)
      have ex0 : (x1 + 0).toInt = x1.toInt := by rw [ar_add, z0, ar_wr (by omega) (by omega)]; omega
      have ex2 : (x2 + 1).toInt = x2.toInt + 1 := y_inc (by omega)
      have cs := g_ct_s (fun i => c (94 + 7 * k + 3 + i)) (c (94 + 7 * k + 1)) y0
      rw [if_pos q, q_letE (rr + 3), q_letE (rr + 3 + x2), q_letE (τ.1 (q_rf X a 20) (rr + 3 + x2).toNatClampNeg), q_letE (rr + 1), q_letE (τ.1 (q_rf X a 20) (rr + 1).toNatClampNeg), r13, r1]
      by_cases q2 : c (94 + 7 * k + 3 + x2.toInt) = c (94 + 7 * k + 1)
      · rw [if_pos q2, q_letE (x1 + 1), q_letE (x2 + 1)]
        rw [if_pos q2] at cs
        exact ih _ _ (by omega) (by omega) (by omega) (by rw [ex1, ex2, cs, hx])
      · rw [if_neg q2, q_letE (x1 + 0), q_letE (x2 + 1)]
        rw [if_neg q2] at cs
        exact ih _ _ (by omega) (by omega) (by omega) (by rw [ex0, ex2, cs, hx]; omega)
    · have ey : x2.toInt = n := by omega
      rw [ey] at hx
      rw [if_neg q]
      unfold F_X12_sortOf_E59_2
      rw [q_letE, q_letE, r2, hx]
      unfold g_tr
      by_cases q2 : g_ct (fun i => c (94 + 7 * k + 3 + i)) (c (94 + 7 * k + 1)) n.toNat = n
      · rw [if_pos q2, if_pos q2]; rfl
      · rw [if_neg q2, if_neg q2]
        by_cases q3 : g_ct (fun i => c (94 + 7 * k + 3 + i)) (c (94 + 7 * k + 1)) n.toNat = 0
        · rw [if_pos q3, if_pos q3]; rfl
        · rw [if_neg q3, if_neg q3]; rfl
theorem gm_sortOf (hc : m_c X τ a = c) {v1 : Int32} {k n : Int} (hv : v1.toInt = k) (hk : 0 ≤ k ∧ k < 80) (hs : c (94 + 7 * k + 2) = n) (hn : 0 ≤ n ∧ n ≤ 4) : (F_X12_sortOf X τ a v1).toInt = g_tr (fun i => c (94 + 7 * k + 3 + i)) (c (94 + 7 * k + 1)) n := by
  have z0 : (0 : Int32).toInt = 0 := rfl
  unfold F_X12_sortOf
  rw [q_letE]
  exact gm_sortL hc (gm_laid hv ⟨hk.1, by omega⟩) hk hs hn _ 0 0 (by decide) (by decide) (by rw [z0]; exact hn.1) (by rw [z0]; rfl)
/-- both find the same sort -/
theorem rg.sort (Y : y_S X lb) (G : y_G X lb g o) (w : y_W X lb g o σ0 σ V) (R : rg V c) (hG : m_G c) (hc : m_c X τ a = c) {v1 v1' : Int32} {k : Int} (hv : v1.toInt = k) (hv' : v1'.toInt = k) (hk : 0 ≤ k ∧ k < c 9) : (F_X2_truth X σ (q_rf X g 2) v1).toInt = (F_X12_sortOf X τ a v1').toInt ∧ 0 ≤ (F_X12_sortOf X τ a v1').toInt ∧ (F_X12_sortOf X τ a v1').toInt ≤ 2 := by
  have b9 := hG.1.2.2.2.2.2.2.1
  have y4 := (hG.2.2.1 k hk.1 hk.2).1
  obtain ⟨y1, y2, y3, y5, y6⟩ := R.2.2.2.2.1.2.2 k hk.1 hk.2
  have a1 := gm_truth Y G w hv ⟨hk.1, by omega⟩ y3 ⟨by omega, by omega⟩
  have a2 := gm_sortOf hc hv' ⟨hk.1, by omega⟩ rfl ⟨by omega, by omega⟩
  rw [a1, a2, y2]
  refine ⟨g_tr_x (fun i i0 i1 => y6 i i0 i1), ?_, ?_⟩
  · unfold g_tr
    split
    · decide
    · split <;> decide
  · unfold g_tr
    split
    · decide
    · split <;> decide
end GF

/-! FROM 49h.takes.lean.txt -/
/-! THE HEAP TAKEN -/
def gq (f : Int → Int) (d : Int) : Nat → Int
  | 0 => 0
  | n + 1 => gq f d n + f (10 * (n : Int) + d)
theorem gq_s (f : Int → Int) (d : Int) {p : Int} (h : 0 ≤ p) : gq f d (p + 1).toNat = gq f d p.toNat + f (10 * p + d) := by
  have e : (p + 1).toNat = p.toNat + 1 := by omega
  have e2 : (p.toNat : Int) = p := by omega
  rw [e]
  show gq f d p.toNat + f (10 * (p.toNat : Int) + d) = _
  rw [e2]
theorem gq_b {f : Int → Int} {d : Int} (n : Nat) (h : ∀ p : Int, 0 ≤ p → p < (n : Int) → 0 ≤ f (10 * p + d) ∧ f (10 * p + d) ≤ 80) : 0 ≤ gq f d n ∧ gq f d n ≤ 80 * (n : Int) := by
  induction n with
  | zero => exact ⟨Int.le_refl _, Int.le_refl _⟩
  | succ n ih =>
    have i := ih (fun p a b => h p a (by omega))
    have d0 := h (n : Int) (by omega) (by omega)
    show 0 ≤ gq f d n + f (10 * (n : Int) + d) ∧ gq f d n + f (10 * (n : Int) + d) ≤ _
    omega
/-- all players' cards of a kind in the heap -/
theorem gq_A {c : Int → Int} {d : Int} (n : Nat) (hl : ∀ i : Int, 0 ≤ i → i < (n : Int) → 0 ≤ c (94 + 7 * i) ∧ c (94 + 7 * i) < 6) : m_A c 0 d n + m_A c 1 d n + m_A c 2 d n + m_A c 3 d n + m_A c 4 d n + m_A c 5 d n = m_A c (-1) d n := by
  induction n with
  | zero => rfl
  | succ n ih =>
    have i := ih (fun t a b => hl t a (by omega))
    have l := hl (n : Int) (by omega) (by omega)
    have s : ∀ q : Int, m_A c q d (n + 1) = m_A c q d n + (if 0 ≤ q ∧ c (94 + 7 * (n : Int)) ≠ q then 0 else m_K c (94 + 7 * (n : Int)) d (c (94 + 7 * (n : Int) + 2)).toNat) := fun q => rfl
    have sm : m_A c (-1) d (n + 1) = m_A c (-1) d n + m_K c (94 + 7 * (n : Int)) d (c (94 + 7 * (n : Int) + 2)).toNat := by rw [s (-1), if_neg (fun z => absurd z.1 (by decide))]
    rw [s 0, s 1, s 2, s 3, s 4, s 5, sm, ← i]
    obtain ⟨L, hL⟩ : ∃ L, L = c (94 + 7 * (n : Int)) := ⟨_, rfl⟩
    obtain ⟨M, hM⟩ : ∃ M, M = m_K c (94 + 7 * (n : Int)) d (c (94 + 7 * (n : Int) + 2)).toNat := ⟨_, rfl⟩
    rw [← hL] at l ⊢
    rw [← hM]
    rcases (by omega : L = 0 ∨ L = 1 ∨ L = 2 ∨ L = 3 ∨ L = 4 ∨ L = 5) with e | e | e | e | e | e <;> rw [e] <;> simp <;> omega
/-- how far the class is: the rows of the players below p, the first k of p's -/
def gt_v (V0 V : Nat → Int → Int) (t p k : Int) : Prop :=
  (∀ (id : Nat) (j : Int), id ≠ 7 → id ≠ 9 → V id j = V0 id j) ∧ (∀ j : Int, ¬ (10 * t ≤ j ∧ j < 10 * t + 10) → V 7 j = V0 7 j) ∧ (∀ d : Int, 0 ≤ d → d < 10 → V 7 (10 * t + d) = V0 7 (10 * t + d) + gq (V0 8) d (if d < k then p + 1 else p).toNat) ∧ (∀ j : Int, j ≠ t → V 9 j = V0 9 j) ∧ V 9 t = m_S (V 7) (10 * t) 10 ∧ 0 ≤ V 9 t ∧ V 9 t ≤ 100 + 80 * (10 * p + k)
def gt_V (V0 V : Nat → Int → Int) (t : Int) : Prop :=
  (∀ (id : Nat) (j : Int), id ≠ 7 → id ≠ 8 → id ≠ 9 → V id j = V0 id j) ∧ (∀ j : Int, ¬ (10 * t ≤ j ∧ j < 10 * t + 10) → V 7 j = V0 7 j) ∧ (∀ d : Int, 0 ≤ d → d < 10 → V 7 (10 * t + d) = V0 7 (10 * t + d) + gq (V0 8) d 6) ∧ (∀ j : Int, j ≠ t → V 9 j = V0 9 j) ∧ V 9 t = m_S (V 7) (10 * t) 10 ∧ ∀ j : Int, 0 ≤ j → j < 60 → V 8 j = 0
/-- what it wants of the game -/
def gt_p (V0 : Nat → Int → Int) (t : Int) : Prop := (0 ≤ t ∧ t < 6) ∧ (∀ j : Int, 0 ≤ j → j < 60 → (0 ≤ V0 7 j ∧ V0 7 j ≤ 80) ∧ 0 ≤ V0 8 j ∧ V0 8 j ≤ 80) ∧ V0 9 t = m_S (V0 7) (10 * t) 10 ∧ 0 ≤ V0 9 t ∧ V0 9 t ≤ 100
section GH
variable {X : XW} {lb : Nat → Nat} {g o a : Nat} {σ τ σ0 τ0 : ST} {V V0 : Nat → Int → Int} {c c0 : Int → Int}
theorem gm_deal (Y : y_S X lb) (G : y_G X lb g o) (w : y_W X lb g o σ0 τ V) {v1 v2 v3 : Int32} {p k n : Int} (hv1 : v1.toInt = p) (hv2 : v2.toInt = k) (hv3 : v3.toInt = n) (hp : 0 ≤ p ∧ p < 6) (hk : 0 ≤ k ∧ k < 10) (hn : -1000 ≤ n ∧ n ≤ 1000) (b7 : -100000 ≤ V 7 (10 * p + k) ∧ V 7 (10 * p + k) ≤ 100000) (b9 : -100000 ≤ V 9 p ∧ V 9 p ≤ 100000) :
    y_W X lb g o σ0 (F_X1_deal X τ (q_rf X g 1) v1 v2 v3) (y_up (y_up V 7 (10 * p + k) (V 7 (10 * p + k) + n)) 9 p (V 9 p + n)) := by
  have gn7 : ((y_gn 7 : Nat) : Int) = 60 := rfl
  have gn9 : ((y_gn 9 : Nat) : Int) = 6 := rfl
  have e10 : (10 : Int32).toInt = 10 := rfl
  have ei : (v1 * 10 + v2).toInt = 10 * p + k := by
    rw [ar_add, ar_mul, hv1, hv2, e10, ar_wr (n := p * 10) (by omega) (by omega), ar_wr (by omega) (by omega)]
    omega
  have w1 := w.add Y G (id := 7) (r := q_rf X (q_rf X g 1) 0) ⟨by decide, by decide⟩ rfl (v1 * 10 + v2) v3 (by omega) (by rw [gn7]; omega)
  rw [ei, hv3, ar_wr (by omega) (by omega)] at w1
  unfold F_X1_deal
  rw [q_letE (v1 * 10), q_letE (v1 * 10 + v2), q_letE (F_X5_add X τ (q_rf X (q_rf X g 1) 0) (v1 * 10 + v2) v3)]
  obtain ⟨τ1, e1⟩ : ∃ s, s = F_X5_add X τ (q_rf X (q_rf X g 1) 0) (v1 * 10 + v2) v3 := ⟨_, rfl⟩
  rw [← e1] at w1 ⊢
  have w2 := w1.add Y G (id := 9) (r := q_rf X (q_rf X g 1) 2) ⟨by decide, by decide⟩ rfl v1 v3 (by omega) (by rw [gn9]; omega)
  rw [hv1, hv3, y_up_ne (Or.inl (by decide)), ar_wr (by omega) (by omega)] at w2
  rw [q_letE (F_X5_add X τ1 (q_rf X (q_rf X g 1) 2) v1 v3)]
  exact w2
theorem gt_step {t p k n : Int} (H : gt_p V0 t) (hp : 0 ≤ p ∧ p < 6) (hk : 0 ≤ k ∧ k < 10) (P : gt_v V0 V t p k) (hn : n = V0 8 (10 * p + k)) : gt_v V0 (y_up (y_up V 7 (10 * t + k) (V 7 (10 * t + k) + n)) 9 t (V 9 t + n)) t p (k + 1) := by
  obtain ⟨Ht, Hb, H9, -, -⟩ := H
  obtain ⟨P1, P2, P3, P4, P5, P6, P7⟩ := P
  have bn := (Hb (10 * p + k) (by omega) (by omega)).2
  refine ⟨fun id j i7 i9 => ?_, fun j hj => ?_, fun d d0 d1 => ?_, fun j hj => ?_, ?_, ?_, ?_⟩
  · rw [y_up_ne (Or.inl i9), y_up_ne (Or.inl i7)]; exact P1 id j i7 i9
  · rw [y_up_ne (Or.inl (by decide)), y_up_ne (by omega)]; exact P2 j hj
  · rw [y_up_ne (Or.inl (by decide))]
    by_cases e : d = k
    · subst e
      have z := P3 d d0 d1
      rw [if_neg (by omega)] at z
      rw [y_up_eq, z, if_pos (by omega), gq_s _ _ hp.1, hn]
      omega
    · rw [y_up_ne (by omega), P3 d d0 d1]
      by_cases e2 : d < k
      · rw [if_pos e2, if_pos (by omega)]
      · rw [if_neg e2, if_neg (by omega)]
  · rw [y_up_ne (by omega), y_up_ne (Or.inl (by decide))]; exact P4 j hj
  · rw [y_up_eq]
    have z := m_S_upd (c := V 7) (c' := (y_up (y_up V 7 (10 * t + k) (V 7 (10 * t + k) + n)) 9 t (V 9 t + n)) 7) (b := 10 * t) (A := 10 * t + k) (v := V 7 (10 * t + k) + n) (n := 10) (fun j a1 a2 => by
      rw [y_up_ne (Or.inl (by decide))]
      by_cases e : j = 10 * t + k
      · rw [e, y_up_eq, if_pos rfl]
      · rw [y_up_ne (Or.inr e), if_neg e]) (by omega) (by omega)
    rw [z, P5]
    omega
  · rw [y_up_eq]; omega
  · rw [y_up_eq]; omega
theorem gt_in (Y : y_S X lb) (G : y_G X lb g o) {t p : Int} (H : gt_p V0 t) (hp : 0 ≤ p ∧ p < 6) {x1 v1 : Int32} (hx1 : x1.toInt = p) (hv1 : v1.toInt = t) (Bf : Int32 → ST → ST) (fu : Nat) : ∀ (x : Int32) (τ : ST) (V : Nat → Int → Int), (2147483647 - x.toInt).toNat < fu → y_W X lb g o σ0 τ V → gt_v V0 V t p x.toInt → 0 ≤ x.toInt → x.toInt ≤ 10 →
    ∃ (τ' : ST) (V' : Nat → Int → Int), F_X1_takeHeap_L10_3 X (q_rf X g 1) x1 v1 Bf fu x τ = Bf (x1 + 1) τ' ∧ y_W X lb g o σ0 τ' V' ∧ gt_v V0 V' t (p + 1) 0 := by
  have gn8 : ((y_gn 8 : Nat) : Int) = 60 := rfl
  have e10 : (10 : Int32).toInt = 10 := rfl
  induction fu with
  | zero => intro x τ V h; exact absurd h (Nat.not_lt_zero _)
  | succ fu ih =>
    intro x τ V hf w P x0 x1'
    rw [F_X1_takeHeap_L10_3_s]
    unfold F_X1_takeHeap_B10_3
    by_cases q : x.toInt < 10
    · have ei : (x1 * 10 + x).toInt = 10 * p + x.toInt := by
        rw [ar_add, ar_mul, hx1, e10, ar_wr (n := p * 10) (by omega) (by omega), ar_wr (by omega) (by omega)]
        omega
      have lb8 : (F_X1_laidBy X τ (q_rf X g 1) x1 x).toInt = V0 8 (10 * p + x.toInt) := by
        unfold F_X1_laidBy
        rw [q_letE, q_letE, q_letE]
        exact (y_getI Y G w (id := 8) ⟨by decide, by decide⟩ rfl ei (by omega) (by rw [gn8]; omega)).trans (P.1 8 _ (by decide) (by decide))
      have bn := (H.2.1 (10 * p + x.toInt) (by omega) (by omega)).2
      have b7 := (H.2.1 (10 * t + x.toInt) (by have := H.1; omega) (by have := H.1; omega)).1
      have q7 := P.2.2.1 x.toInt x0 q
      rw [if_neg (by omega)] at q7
      have gb := gq_b (f := V0 8) (d := x.toInt) p.toNat (fun r r0 r1 => (H.2.1 (10 * r + x.toInt) (by omega) (by omega)).2)
      have p9 := P.2.2.2.2.2
      rw [if_pos q, q_letE (F_X1_laidBy X τ (q_rf X g 1) x1 x)]
      obtain ⟨n, hn⟩ : ∃ n, n = F_X1_laidBy X τ (q_rf X g 1) x1 x := ⟨_, rfl⟩
      rw [← hn] at lb8 ⊢
      have w1 := gm_deal Y G w (v1 := v1) (v2 := x) (v3 := n) hv1 rfl rfl H.1 ⟨x0, q⟩ (by omega) (by omega) (by omega)
      rw [q_letE (F_X1_deal X τ (q_rf X g 1) v1 x n), q_letE (x + 1)]
      have ex : (x + 1).toInt = x.toInt + 1 := y_inc (by omega)
      exact ih (x + 1) _ _ (by omega) w1 (by rw [ex]; exact gt_step H hp ⟨x0, q⟩ P lb8) (by omega) (by omega)
    · have ex : x.toInt = 10 := by omega
      rw [ex] at P
      rw [if_neg q]
      unfold F_X1_takeHeap_E34_4
      rw [q_letE (x1 + 1)]
      obtain ⟨P1, P2, P3, P4, P5, P6, P7⟩ := P
      refine ⟨τ, V, rfl, w, P1, P2, fun d d0 d1 => ?_, P4, P5, P6, by omega⟩
      rw [P3 d d0 d1, if_pos d1, if_neg (by omega)]
theorem gt_out (Y : y_S X lb) (G : y_G X lb g o) {t : Int} (H : gt_p V0 t) {v1 : Int32} (hv1 : v1.toInt = t) (fu : Nat) : ∀ (x : Int32) (τ : ST) (V : Nat → Int → Int), (2147483647 - x.toInt).toNat < fu → y_W X lb g o σ0 τ V → gt_v V0 V t x.toInt 0 → 0 ≤ x.toInt → x.toInt ≤ 6 →
    ∃ V' : Nat → Int → Int, y_W X lb g o σ0 (F_X1_takeHeap_L2_1 X (q_rf X g 1) v1 fu x τ) V' ∧ gt_V V0 V' t := by
  induction fu with
  | zero => intro x τ V h; exact absurd h (Nat.not_lt_zero _)
  | succ fu ih =>
    intro x τ V hf w P x0 x1'
    have z0 : (0 : Int32).toInt = 0 := rfl
    rw [F_X1_takeHeap_L2_1_s]
    unfold F_X1_takeHeap_B2_1
    by_cases q : x.toInt < 6
    · rw [if_pos q]
      obtain ⟨τ', V', e, w', P'⟩ := gt_in Y G H ⟨x0, q⟩ (x1 := x) rfl hv1 (F_X1_takeHeap_L2_1 X (q_rf X g 1) v1 fu) ((2147483647 - (0 : Int32).toInt).toNat + 1) 0 τ V (by decide) w (by rw [z0]; exact P) (by decide) (by decide)
      rw [e]
      have ex : (x + 1).toInt = x.toInt + 1 := y_inc (by omega)
      exact ih (x + 1) τ' V' (by omega) w' (by rw [ex]; exact P') (by omega) (by omega)
    · have ex : x.toInt = 6 := by omega
      rw [ex] at P
      rw [if_neg q]
      unfold F_X1_takeHeap_E40_2
      rw [q_letE (F_X5_clear X τ (q_rf X (q_rf X g 1) 1))]
      have w1 := w.clear Y G (id := 8) (r := q_rf X (q_rf X g 1) 1) ⟨by decide, by decide⟩ rfl
      obtain ⟨P1, P2, P3, P4, P5, P6, P7⟩ := P
      have r : ∀ (id : Nat) (j : Int), id ≠ 8 → y_bl V 8 ((y_gn 8 : Nat) : Int) (fun _ => 0) id j = V id j := fun id j h => if_neg (fun z => h z.1)
      refine ⟨_, w1, fun id j i7 i8 i9 => ?_, fun j hj => ?_, fun d d0 d1 => ?_, fun j hj => ?_, ?_, fun j j0 j1 => ?_⟩
      · rw [r id j i8]; exact P1 id j i7 i9
      · rw [r 7 j (by decide)]; exact P2 j hj
      · rw [r 7 _ (by decide), P3 d d0 d1, if_neg (by omega)]; rfl
      · rw [r 9 j (by decide)]; exact P4 j hj
      · rw [r 9 t (by decide), P5]
        exact (m_S_ext (fun j a b => r 7 j (by decide))).symm
      · exact if_pos ⟨rfl, j0, j1⟩
/-- the class's player takes the heap -/
theorem gm_takeHeap (Y : y_S X lb) (G : y_G X lb g o) (w : y_W X lb g o σ0 τ V) {t : Int} (H : gt_p V t) {v1 : Int32} (hv1 : v1.toInt = t) : ∃ V' : Nat → Int → Int, y_W X lb g o σ0 (F_X1_takeHeap X τ (q_rf X g 1) v1) V' ∧ gt_V V V' t := by
  have z0 : (0 : Int32).toInt = 0 := rfl
  unfold F_X1_takeHeap
  refine gt_out Y G H hv1 _ 0 τ V (by decide) w ?_ (by decide) (by decide)
  rw [z0]
  refine ⟨fun _ _ _ _ => rfl, fun _ _ => rfl, fun d d0 d1 => ?_, fun _ _ => rfl, H.2.2.1, H.2.2.2.1, by have := H.2.2.2.2; omega⟩
  rw [if_neg (by omega)]
  have e : gq (V 8) d (0 : Int).toNat = 0 := rfl
  omega
/-! the reference -/
def gt_c (c0 c : Int → Int) (p k i : Int) : Prop := (∀ j : Int, 0 ≤ j → ¬ (34 + 10 * p ≤ j ∧ j < 44 + 10 * p) → c j = c0 j) ∧ ∀ d : Int, 0 ≤ d → d < 10 → c (34 + 10 * p + d) = c0 (34 + 10 * p + d) + m_A c0 (-1) d k.toNat + m_K c0 (94 + 7 * k) d i.toNat
theorem gt_c.card {p k i d v : Int} (h : gt_c c0 c p k i) (hp : 0 ≤ p ∧ p < 6) (hk : 0 ≤ k) (hi : 0 ≤ i) (hd : 0 ≤ d ∧ d < 10) (ed : c0 (94 + 7 * k + 3 + i) = d) (hv : v = c (34 + 10 * p + d) + 1) : gt_c c0 (m_up c (34 + 10 * p + d) v) p k (i + 1) := by
  obtain ⟨h1, h2⟩ := h
  refine ⟨fun j j0 j1 => ?_, fun e e0 e1 => ?_⟩
  · rw [m_up_ne (by omega)]; exact h1 j j0 j1
  · rw [m_K_succ _ _ _ _ hi, ed]
    by_cases q : e = d
    · rw [q, m_up_eq, if_pos (Or.inr rfl), hv, h2 d hd.1 hd.2]
      omega
    · rw [m_up_ne (by omega), h2 e e0 e1, if_neg (by omega)]
      omega
theorem gt_c.lay {p k i : Int} (h : gt_c c0 c p k i) (hk : 0 ≤ k) (hi : i = c0 (94 + 7 * k + 2)) : gt_c c0 c p (k + 1) 0 := by
  obtain ⟨h1, h2⟩ := h
  refine ⟨h1, fun d d0 d1 => ?_⟩
  have z : m_K c0 (94 + 7 * (k + 1)) d (0 : Int).toNat = 0 := rfl
  rw [h2 d d0 d1, m_A_succ _ _ _ _ hk, if_neg (fun z => absurd z.1 (by decide)), hi, z]
  omega
theorem gr_in (g0 : m_G c0) {p k : Int} (hp : 0 ≤ p ∧ p < 6) (hk : 0 ≤ k ∧ k < c0 9) {v1 x1 rr : Int32} (hv1 : v1.toInt = p) (hr : rr.toInt = 94 + 7 * k) (Bf : Int32 → ST → ST) (fu : Nat) : ∀ (x : Int32) (τ : ST) (c : Int → Int), (2147483647 - x.toInt).toNat < fu → tkl (fun b _ => b = q_rf X a 20) (fun _ _ => False) τ0 τ → m_c X τ a = c → gt_c c0 c p k x.toInt → m_tk c0 c p k x.toInt → 0 ≤ x.toInt → x.toInt ≤ c0 (94 + 7 * k + 2) →
    ∃ (τ' : ST) (c' : Int → Int), F_X12_takes_L21_3 X rr a v1 x1 Bf fu x τ = Bf (x1 + 1) τ' ∧ tkl (fun b _ => b = q_rf X a 20) (fun _ _ => False) τ0 τ' ∧ m_c X τ' a = c' ∧ gt_c c0 c' p (k + 1) 0 ∧ m_tk c0 c' p (k + 1) 0 := by
  have e1 : (1 : Int32).toInt = 1 := rfl
  have e2 : (2 : Int32).toInt = 2 := rfl
  have e3 : (3 : Int32).toInt = 3 := rfl
  have e10 : (10 : Int32).toInt = 10 := rfl
  have e34 : (34 : Int32).toInt = 34 := rfl
  have b9 := g0.1.2.2.2.2.2.2.1
  have b0 := g0.1.1
  obtain ⟨y4, y5⟩ := g0.2.2.1 k hk.1 hk.2
  have i2 : (rr + 2).toInt = 94 + 7 * k + 2 := by rw [ar_add, hr, e2, ar_wr (by omega) (by omega)]
  have i3 : (rr + 3).toInt = 94 + 7 * k + 3 := by rw [ar_add, hr, e3, ar_wr (by omega) (by omega)]
  have i34 : ((34 : Int32) + 10 * v1).toInt = 34 + 10 * p := by
    rw [ar_add, ar_mul, hv1, e10, e34, ar_wr (n := 10 * p) (by omega) (by omega), ar_wr (by omega) (by omega)]
  induction fu with
  | zero => intro x τ c h; exact absurd h (Nat.not_lt_zero _)
  | succ fu ih =>
    intro x τ c hf t hc P D x0 x1'
    have r2 : (τ.1 (q_rf X a 20) (rr + 2).toNatClampNeg).toInt = c0 (94 + 7 * k + 2) := (gm_cell hc i2).trans (P.1 _ (by omega) (by omega))
    rw [F_X12_takes_L21_3_s]
    unfold F_X12_takes_B21_3
    rw [q_letE (rr + 2), q_letE (τ.1 (q_rf X a 20) (rr + 2).toNatClampNeg), r2]
    by_cases q : x.toInt < c0 (94 + 7 * k + 2)
    · have yd := y5 x.toInt x0 q
      have ei : (rr + 3 + x).toInt = 94 + 7 * k + 3 + x.toInt := by rw [ar_add, i3, ar_wr (by omega) (by omega)]
      have rd : (τ.1 (q_rf X a 20) (rr + 3 + x).toNatClampNeg).toInt = c0 (94 + 7 * k + 3 + x.toInt) := (gm_cell hc ei).trans (P.1 _ (by omega) (by omega))
      rw [if_pos q, q_letE ((10 : Int32) * v1), q_letE ((34 : Int32) + 10 * v1), q_letE (rr + 3), q_letE (rr + 3 + x), q_letE (τ.1 (q_rf X a 20) (rr + 3 + x).toNatClampNeg)]
      obtain ⟨f, hf1⟩ : ∃ f, f = τ.1 (q_rf X a 20) (rr + 3 + x).toNatClampNeg := ⟨_, rfl⟩
      rw [← hf1] at rd ⊢
      obtain ⟨d, hd⟩ : ∃ d, d = c0 (94 + 7 * k + 3 + x.toInt) := ⟨_, rfl⟩
      rw [← hd] at rd yd
      have ej : ((34 : Int32) + 10 * v1 + f).toInt = 34 + 10 * p + d := by rw [ar_add, i34, rd, ar_wr (by omega) (by omega)]
      have fh : (τ.1 (q_rf X a 20) ((34 : Int32) + 10 * v1 + f).toNatClampNeg).toInt = c (34 + 10 * p + d) := gm_cell hc ej
      have ab := g0.A_bd (-1) d k.toNat (by omega)
      have lb := g0.L80 hk.1 (by omega : k ≤ c0 9)
      have kb := m_K_bd c0 (94 + 7 * k) d x.toInt.toNat
      have hb := g0.h80 hp.1 hp.2 yd.1 (by omega : d < 10)
      have pd := P.2 d yd.1 (by omega)
      rw [q_letE ((34 : Int32) + 10 * v1 + f), q_letE (τ.1 (q_rf X a 20) ((34 : Int32) + 10 * v1 + f).toNatClampNeg)]
      obtain ⟨u, hu⟩ : ∃ u, u = τ.1 (q_rf X a 20) ((34 : Int32) + 10 * v1 + f).toNatClampNeg + 1 := ⟨_, rfl⟩
      have uv : u.toInt = c (34 + 10 * p + d) + 1 := by rw [hu, ar_add, fh, e1, ar_wr (by omega) (by omega)]
      rw [← hu, q_letE u, q_letE (q_si τ (q_rf X a 20) ((34 : Int32) + 10 * v1 + f).toNatClampNeg u), q_letE (x + 1)]
      have ex : (x + 1).toInt = x.toInt + 1 := y_inc (by omega)
      have c1 : m_c X (q_si τ (q_rf X a 20) ((34 : Int32) + 10 * v1 + f).toNatClampNeg u) a = m_up c (34 + 10 * p + d) u.toInt := by
        rw [m_c_up _ (by omega) ej, hc]
      exact ih (x + 1) _ _ (by omega) (t.si _ rfl) c1 (by rw [ex]; exact P.card hp hk.1 x0 ⟨yd.1, by omega⟩ hd.symm uv) (by rw [ex]; exact D.card hp yd (by omega) m_up_e uv) (by omega) (by omega)
    · rw [if_neg q]
      unfold F_X12_takes_E68_4
      rw [q_letE (x1 + 1)]
      exact ⟨τ, c, rfl, t, hc, P.lay hk.1 (by omega), D.lay hk.1 (by omega)⟩
theorem gr_out (g0 : m_G c0) (h7 : c0 7 = 0) {p : Int} (hp : 0 ≤ p ∧ p < 6) {v1 : Int32} (hv1 : v1.toInt = p) (fu : Nat) : ∀ (x : Int32) (τ : ST) (c : Int → Int), (2147483647 - x.toInt).toNat < fu → tkl (fun b _ => b = q_rf X a 20) (fun _ _ => False) τ0 τ → m_c X τ a = c → gt_c c0 c p x.toInt 0 → m_tk c0 c p x.toInt 0 → 0 ≤ x.toInt → x.toInt ≤ c0 9 →
    ∃ c' : Int → Int, m_c X (F_X12_takes_L2_1 X a v1 fu x τ) a = m_up c' 9 0 ∧ tkl (fun b _ => b = q_rf X a 20) (fun _ _ => False) τ0 (F_X12_takes_L2_1 X a v1 fu x τ) ∧ gt_c c0 c' p (c0 9) 0 ∧ m_G (m_up c' 9 0) := by
  have b9 := g0.1.2.2.2.2.2.2.1
  have z0 : (0 : Int32).toInt = 0 := rfl
  induction fu with
  | zero => intro x τ c h; exact absurd h (Nat.not_lt_zero _)
  | succ fu ih =>
    intro x τ c hf t hc P D x0 x1'
    have r9 : (τ.1 (q_rf X a 20) (9 : Int32).toNatClampNeg).toInt = c0 9 := (gm_cell (A := 9) hc rfl).trans (P.1 _ (by omega) (by omega))
    rw [F_X12_takes_L2_1_s]
    unfold F_X12_takes_B2_1
    rw [q_letE (τ.1 (q_rf X a 20) (9 : Int32).toNatClampNeg), r9]
    by_cases q : x.toInt < c0 9
    · have y4 := (g0.2.2.1 x.toInt x0 q).1
      rw [if_pos q, q_letE (F_X12_laid X τ x)]
      obtain ⟨τ', c', i1, i2, i3, i4, i5⟩ := gr_in (X := X) (a := a) (τ0 := τ0) g0 hp ⟨x0, q⟩ hv1 (x1 := x) (gm_laid (X := X) (τ := τ) (v := x) rfl ⟨x0, by omega⟩) (F_X12_takes_L2_1 X a v1 fu) ((2147483647 - (0 : Int32).toInt).toNat + 1) 0 τ c (by decide) t hc (by rw [z0]; exact P) (by rw [z0]; exact D) (by decide) (by rw [z0]; omega)
      rw [i1]
      have ex : (x + 1).toInt = x.toInt + 1 := y_inc (by omega)
      exact ih (x + 1) τ' c' (by omega) i2 i3 (by rw [ex]; exact i4) (by rw [ex]; exact i5) (by omega) (by omega)
    · have ex : x.toInt = c0 9 := by omega
      rw [ex] at P D
      rw [if_neg q]
      unfold F_X12_takes_E74_2
      rw [q_letE (q_si τ (q_rf X a 20) (9 : Int32).toNatClampNeg 0)]
      exact ⟨c, by rw [m_c_up 9 (by decide) rfl, hc, z0], t.si _ rfl, P, (D.done g0 hp h7 m_up_e rfl).1⟩
theorem gm_takes (g0 : m_G c) (h7 : c 7 = 0) (hc : m_c X τ a = c) {p : Int} (hp : 0 ≤ p ∧ p < 6) {v1 : Int32} (hv1 : v1.toInt = p) : ∃ c' : Int → Int, m_c X (F_X12_takes X τ a v1) a = m_up c' 9 0 ∧ tkl (fun b _ => b = q_rf X a 20) (fun _ _ => False) τ (F_X12_takes X τ a v1) ∧ gt_c c c' p (c 9) 0 ∧ m_G (m_up c' 9 0) := by
  have z0 : (0 : Int32).toInt = 0 := rfl
  have b9 := g0.1.2.2.2.2.2.2.1
  unfold F_X12_takes
  refine gr_out g0 h7 hp hv1 _ 0 τ c (by decide) tkl.rf hc ?_ (by rw [z0]; exact m_tk.start g0 hp) (by decide) (by rw [z0]; exact b9.1)
  rw [z0]
  refine ⟨fun _ _ _ => rfl, fun d d0 d1 => ?_⟩
  have e1 : m_A c (-1) d (0 : Int).toNat = 0 := rfl
  have e2 : m_K c (94 + 7 * 0) d (0 : Int).toNat = 0 := rfl
  omega
end GH

/-! FROM 49i.doubt.lean.txt -/
/-! A DOUBT: class and reference -/
def gd_nk (c : Int → Int) (k : Int) : Int := if c 3 = 1 then (k - 1) % c 0 else (k + 1) % c 0
/-- what a doubt leaves of the class's game: t takes, P had laid, kd falls, tn is next, W has won, u of P's cards shown were not true -/
def gd_V (V V' : Nat → Int → Int) (t P kd tn W u : Int) : Prop :=
  (∀ (id : Nat) (j : Int), id ≠ 0 → id ≠ 2 → id ≠ 7 → id ≠ 8 → id ≠ 9 → id ≠ 12 → id ≠ 13 → V' id j = V id j) ∧ (V' 0 4 = kd ∧ V' 0 5 = tn ∧ V' 0 6 = W ∧ V' 0 7 = 0) ∧ (V' 2 0 = 0 ∧ V' 2 1 = 0) ∧ (∀ j : Int, ¬ (10 * t ≤ j ∧ j < 10 * t + 10) → V' 7 j = V 7 j) ∧ (∀ d : Int, 0 ≤ d → d < 10 → V' 7 (10 * t + d) = V 7 (10 * t + d) + gq (V 8) d 6) ∧ (∀ j : Int, j ≠ t → V' 9 j = V 9 j) ∧ V' 9 t = m_S (V' 7) (10 * t) 10 ∧ (∀ j : Int, 0 ≤ j → j < 60 → V' 8 j = 0) ∧ ∀ j : Int, V' 12 j = (if j = P then V 12 j + 1 else V 12 j) ∧ V' 13 j = (if j = P then V 13 j + u else V 13 j)
def gd_C (c c' : Int → Int) (t P kd tn W u : Int) : Prop :=
  (∀ j : Int, 0 ≤ j → j ≠ 5 → j ≠ 6 → j ≠ 7 → j ≠ 8 → j ≠ 9 → j ≠ 22 + P → j ≠ 28 + P → ¬ (34 + 10 * t ≤ j ∧ j < 44 + 10 * t) → c' j = c j) ∧ (c' 5 = kd ∧ c' 6 = tn ∧ c' 7 = 0 ∧ c' 8 = W ∧ c' 9 = 0) ∧ c' (22 + P) = c (22 + P) + 1 ∧ c' (28 + P) = c (28 + P) + u ∧ ∀ d : Int, 0 ≤ d → d < 10 → c' (34 + 10 * t + d) = c (34 + 10 * t + d) + m_A c (-1) d (c 9).toNat
theorem rg.doubt {V V' : Nat → Int → Int} {c c' : Int → Int} {t P kd tn W u : Int} (R : rg V c) (hG : m_G c) (hP : 0 ≤ P ∧ P < 6) (ht : 0 ≤ t ∧ t < c 2) (hW : -1 ≤ W) (v : gd_V V V' t P kd tn W u) (r : gd_C c c' t P kd tn W u) : rg V' c' := by
  obtain ⟨b0, b2, b4, b5, b6, b7, b9, b79⟩ := hG.1
  obtain ⟨⟨t1, t2, t3, t4, t5, t6⟩, ⟨s1, s2, s3, s4⟩, hpp, ⟨g1, g2⟩, ⟨l1, l2, l3⟩, ⟨a1, a2⟩⟩ := R
  obtain ⟨P1, ⟨P2, P2b, P2c, P2d⟩, ⟨P3, P3b⟩, P4, P5, P6, P7, P8, P9⟩ := v
  obtain ⟨r1, ⟨r5, r6, r7, r8, r9⟩, r22, r28, rh⟩ := r
  have w : ∀ (id : Nat) (j : Int), id ≠ 0 → id ≠ 2 → id ≠ 7 → id ≠ 8 → id ≠ 9 → id ≠ 12 → id ≠ 13 → V' id j = V id j := P1
  have d : ∀ j : Int, 0 ≤ j → j < 34 → j ≠ 5 → j ≠ 6 → j ≠ 7 → j ≠ 8 → j ≠ 9 → j ≠ 22 + P → j ≠ 28 + P → c' j = c j := fun j j0 j1 j5 j6 j7 j8 j9 j22 j28 => r1 j j0 j5 j6 j7 j8 j9 j22 j28 (by omega)
  have e9 : (c' 9).toNat = 0 := by rw [r9]; rfl
  have qa : ∀ k : Int, 0 ≤ k → k < 10 → gq (V 8) k 6 = m_A c (-1) k (c 9).toNat := by
    intro k k0 k1
    have z := gq_A (c := c) (d := k) (c 9).toNat (fun i i0 i1 => (l3 i i0 (by omega)).2.2.2.1)
    have y0 := a1 0 k (by decide) (by decide) k0 k1
    have y1 := a1 1 k (by decide) (by decide) k0 k1
    have y2 := a1 2 k (by decide) (by decide) k0 k1
    have y3 := a1 3 k (by decide) (by decide) k0 k1
    have y4 := a1 4 k (by decide) (by decide) k0 k1
    have y5 := a1 5 k (by decide) (by decide) k0 k1
    show 0 + V 8 (10 * 0 + k) + V 8 (10 * 1 + k) + V 8 (10 * 2 + k) + V 8 (10 * 3 + k) + V 8 (10 * 4 + k) + V 8 (10 * 5 + k) = _
    omega
  have h7 : ∀ j : Int, 0 ≤ j → j < 60 → V' 7 j = c' (34 + j) := by
    intro j j0 j1
    by_cases e : 10 * t ≤ j ∧ j < 10 * t + 10
    · obtain ⟨q, hq⟩ : ∃ q, q = j - 10 * t := ⟨_, rfl⟩
      have ej : j = 10 * t + q := by omega
      subst ej
      have ec : (34 : Int) + (10 * t + q) = 34 + 10 * t + q := by omega
      have gg := g1 (10 * t + q) j0 j1
      rw [ec] at gg
      rw [ec, P5 q (by omega) (by omega), rh q (by omega) (by omega), gg, qa q (by omega) (by omega)]
    · rw [P4 j e, r1 _ (by omega) (by omega) (by omega) (by omega) (by omega) (by omega) (by omega) (by omega) (by omega)]
      exact g1 j j0 j1
  refine ⟨⟨?_, ?_, ?_, ?_, ?_, ?_⟩, ⟨?_, ?_, ?_, ?_⟩, fun q q0 q1 => ⟨?_, ?_, ?_, ?_⟩, ⟨h7, fun q q0 q1 => ?_⟩, ⟨?_, ?_, fun k k0 k1 => by omega⟩, ⟨fun q k q0 q1 k0 k1 => ?_, fun k k0 k1 => ?_⟩⟩
  · rw [w 1 0 (by decide) (by decide) (by decide) (by decide) (by decide) (by decide) (by decide), d 0 (by decide) (by decide) (by decide) (by decide) (by decide) (by decide) (by decide) (by omega) (by omega)]; exact t1
  · rw [w 1 1 (by decide) (by decide) (by decide) (by decide) (by decide) (by decide) (by decide), d 1 (by decide) (by decide) (by decide) (by decide) (by decide) (by decide) (by decide) (by omega) (by omega)]; exact t2
  · rw [w 1 2 (by decide) (by decide) (by decide) (by decide) (by decide) (by decide) (by decide), d 3 (by decide) (by decide) (by decide) (by decide) (by decide) (by decide) (by decide) (by omega) (by omega)]; exact t3
  · rw [w 1 3 (by decide) (by decide) (by decide) (by decide) (by decide) (by decide) (by decide), d 4 (by decide) (by decide) (by decide) (by decide) (by decide) (by decide) (by decide) (by omega) (by omega)]; exact t4
  · rw [w 1 4 (by decide) (by decide) (by decide) (by decide) (by decide) (by decide) (by decide), d 2 (by decide) (by decide) (by decide) (by decide) (by decide) (by decide) (by decide) (by omega) (by omega)]; exact t5
  · rw [d 3 (by decide) (by decide) (by decide) (by decide) (by decide) (by decide) (by decide) (by omega) (by omega)]; exact t6
  · rw [P2, r5]
  · rw [P2b, r6, d 2 (by decide) (by decide) (by decide) (by decide) (by decide) (by decide) (by decide) (by omega) (by omega), if_neg (by omega)]
  · rw [P2c, r8]; exact ⟨rfl, hW⟩
  · rw [P2d, r7]
  · rw [w 10 q (by decide) (by decide) (by decide) (by decide) (by decide) (by decide) (by decide), d _ (by omega) (by omega) (by omega) (by omega) (by omega) (by omega) (by omega) (by omega) (by omega)]; exact (hpp q q0 q1).1
  · rw [w 11 q (by decide) (by decide) (by decide) (by decide) (by decide) (by decide) (by decide), d _ (by omega) (by omega) (by omega) (by omega) (by omega) (by omega) (by omega) (by omega) (by omega)]; exact (hpp q q0 q1).2.1
  · rw [(P9 q).1]
    by_cases e : q = P
    · rw [if_pos e, e, r22, (hpp P hP.1 hP.2).2.2.1]
    · rw [if_neg e, d _ (by omega) (by omega) (by omega) (by omega) (by omega) (by omega) (by omega) (by omega) (by omega)]; exact (hpp q q0 q1).2.2.1
  · rw [(P9 q).2]
    by_cases e : q = P
    · rw [if_pos e, e, r28, (hpp P hP.1 hP.2).2.2.2]
    · rw [if_neg e, d _ (by omega) (by omega) (by omega) (by omega) (by omega) (by omega) (by omega) (by omega) (by omega)]; exact (hpp q q0 q1).2.2.2
  · by_cases e : q = t
    · rw [e, P7]
      have sh : ∀ n : Nat, n ≤ 10 → m_S (V' 7) (10 * t) n = m_S c' (34 + 10 * t) n := by
        intro n
        induction n with
        | zero => intro _; rfl
        | succ n ih =>
          intro hn
          show m_S (V' 7) (10 * t) n + V' 7 (10 * t + (n : Int)) = m_S c' (34 + 10 * t) n + c' (34 + 10 * t + (n : Int))
          rw [ih (by omega), h7 _ (by omega) (by omega)]
          have ec : (34 : Int) + (10 * t + (n : Int)) = 34 + 10 * t + (n : Int) := by omega
          rw [ec]
      exact sh 10 (Nat.le_refl 10)
    · rw [P6 q e, g2 q q0 q1]
      exact (m_S_ext (fun j x y => r1 j (by omega) (by omega) (by omega) (by omega) (by omega) (by omega) (by omega) (by omega) (by omega))).symm
  · rw [P3, r9]
  · rw [P3b, e9]; rfl
  · rw [P8 _ (by omega) (by omega), e9]; rfl
  · rw [w 4 k (by decide) (by decide) (by decide) (by decide) (by decide) (by decide) (by decide), a2 k k0 k1]
    unfold m_I
    have pp : m_P c' k (c 2).toNat = m_P c k (c 2).toNat - (if t < (((c 2).toNat : Nat) : Int) then -(m_A c (-1) k (c 9).toNat) else 0) := gl_P (l := fun d => -(m_A c (-1) d (c 9).toNat)) ht.1 (by rw [rh k k0 k1]; omega) (fun q q0 q1 q2 => r1 _ (by omega) (by omega) (by omega) (by omega) (by omega) (by omega) (by omega) (by omega) (by omega)) (c 2).toNat (by omega)
    rw [if_pos (by omega)] at pp
    have m0 : m_A c' (-1) k 0 = 0 := rfl
    rw [e9, d 2 (by decide) (by decide) (by decide) (by decide) (by decide) (by decide) (by decide) (by omega) (by omega), pp, m0]
    omega
section GI
variable {X : XW} {lb : Nat → Nat} {g o a : Nat} {σ τ σ0 τ0 : ST} {V V0 : Nat → Int → Int} {c c0 : Int → Int}
theorem gm_kindDoubt (w : y_W X lb g o σ0 σ V) (t0 : V 1 0 = c 0) (t2 : V 1 2 = c 3) (h0 : 2 ≤ c 0 ∧ c 0 ≤ 10) {x : Int32} {k : Int} (hx : x.toInt = k) (hk : 0 ≤ k ∧ k < c 0) : (F_X6_kindAfterDoubt X σ (q_rf X g 0) x).toInt = gd_nk c k := by
  have one : (1 : Int32).toInt = 1 := rfl
  have e2 : (σ.1 (q_rf X g 0) 2).toInt = c 3 := (w.rd (id := 1) (by decide) 2 rfl).trans t2
  have e0 : (σ.1 (q_rf X g 0) 0).toInt = c 0 := (w.rd (id := 1) (by decide) 0 rfl).trans t0
  unfold F_X6_kindAfterDoubt gd_nk
  rw [q_letE (σ.1 (q_rf X g 0) 0), e0, if_pos (by omega : 0 < c 0), q_letE (σ.1 (q_rf X g 0) 2), e2]
  by_cases q : c 3 = 1
  · rw [if_pos q, if_pos q, q_letE, q_letE, q_letE]
    exact gm_fm (by rw [ar_sub, hx, one, ar_wr (by omega) (by omega)]) e0 ⟨by omega, by omega⟩ ⟨by omega, by omega⟩
  · rw [if_neg q, if_neg q, q_letE, q_letE, q_letE]
    exact gm_fm (by rw [ar_add, hx, one, ar_wr (by omega) (by omega)]) e0 ⟨by omega, by omega⟩ ⟨by omega, by omega⟩
theorem gm_nextKind0 (hc : m_c X τ a = c) (h0 : 2 ≤ c 0 ∧ c 0 ≤ 10) (h5 : 0 ≤ c 5 ∧ c 5 < c 0) : (F_X12_nextKind X τ a 0).toInt = gd_nk c (c 5) := by
  have one : (1 : Int32).toInt = 1 := rfl
  have r0 : (τ.1 (q_rf X a 20) (0 : Int32).toNatClampNeg).toInt = c 0 := gm_cell hc rfl
  have r3 : (τ.1 (q_rf X a 20) (3 : Int32).toNatClampNeg).toInt = c 3 := gm_cell hc rfl
  have r5 : (τ.1 (q_rf X a 20) (5 : Int32).toNatClampNeg).toInt = c 5 := gm_cell hc rfl
  have rm : ∀ (x : Int32) (k : Int), x.toInt = k → 0 ≤ k → (x % τ.1 (q_rf X a 20) (0 : Int32).toNatClampNeg).toInt = k % c 0 := by
    intro x k hx h0'
    rw [Int32.toInt_mod, hx, r0, Int.tmod_eq_emod_of_nonneg h0']
  unfold F_X12_nextKind gd_nk
  rw [q_letE (τ.1 (q_rf X a 20) (0 : Int32).toNatClampNeg), q_letE (τ.1 (q_rf X a 20) (3 : Int32).toNatClampNeg), r3]
  by_cases q0 : c 3 = 0
  · rw [if_pos q0, if_neg (by omega), q_letE, q_letE, q_letE]
    exact rm _ _ (by rw [ar_add, r5, one, ar_wr (by omega) (by omega)]) (by omega)
  · rw [if_neg q0, q_letE (τ.1 (q_rf X a 20) (3 : Int32).toNatClampNeg), r3]
    by_cases q1 : c 3 = 1
    · rw [if_pos q1, q_letE (τ.1 (q_rf X a 20) (3 : Int32).toNatClampNeg), r3, if_pos q1, if_pos q1, q_letE, q_letE, q_letE, q_letE]
      rw [rm _ (c 5 + c 0 - 1) (by rw [ar_sub, ar_add, r5, r0, one, ar_wr (n := c 5 + c 0) (by omega) (by omega), ar_wr (by omega) (by omega)]) (by omega)]
      exact gm_back
    · rw [if_neg q1, if_neg q1, if_pos (by decide), q_letE, q_letE, q_letE]
      exact rm _ _ (by rw [ar_add, r5, one, ar_wr (by omega) (by omega)]) (by omega)
/-- behind the cards shown: the class -/
theorem gd_tail (Y : y_S X lb) (G : y_G X lb g o) (w : y_W X lb g o σ0 τ V) {t tn k : Int} (H : gt_p V t) {x4 x5 : Int32} (h4 : x4.toInt = t) (h5 : x5.toInt = tn) (t0 : V 1 0 = c 0) (t2 : V 1 2 = c 3) (h0 : 2 ≤ c 0 ∧ c 0 ≤ 10) (v4 : V 0 4 = k) (hk : 0 ≤ k ∧ k < c 0) :
    ∃ (σ' : ST) (V' VT : Nat → Int → Int), q_let (F_X1_takeHeap X τ (q_rf X g 1) x4 : ST) (fun σ_16 => q_let (F_X2_clear X σ_16 (q_rf X g 2) : ST) (fun σ_18 => q_let (q_si σ_18 g 7 (0 : Int32) : ST) (fun σ_19 => q_let (σ_19.1 g 4 : Int32) (fun f_20 => q_let (F_X6_kindAfterDoubt X σ_19 (q_rf X g 0) f_20 : Int32) (fun r_21 => q_let (q_si σ_19 g 4 r_21 : ST) (fun σ_23 => q_let (q_si σ_23 g 5 x5 : ST) (fun σ_24 => (x4, σ_24)))))))) = (x4, σ') ∧ y_W X lb g o σ0 σ' V' ∧ gt_V V VT t ∧ V' = y_up (y_up (y_up (y_up (y_up VT 2 0 0) 2 1 0) 0 7 0) 0 4 (gd_nk c k)) 0 5 tn := by
  have z0 : (0 : Int32).toInt = 0 := rfl
  obtain ⟨VT, w1, P⟩ := gm_takeHeap Y G w H h4
  rw [q_letE (F_X1_takeHeap X τ (q_rf X g 1) x4)]
  obtain ⟨τ1, e1⟩ : ∃ s, s = F_X1_takeHeap X τ (q_rf X g 1) x4 := ⟨_, rfl⟩
  rw [← e1] at w1 ⊢
  have d2 : F_X2_clear X τ1 (q_rf X g 2) = q_si (q_si τ1 (q_rf X g 2) 0 0) (q_rf X g 2) 1 0 := by
    unfold F_X2_clear
    rw [q_letE, q_letE]
  have w2 : y_W X lb g o σ0 (q_si τ1 (q_rf X g 2) 0 0) (y_up VT 2 0 0) := w1.si Y G (id := 2) (by decide) 0 0
  have w3 : y_W X lb g o σ0 (q_si (q_si τ1 (q_rf X g 2) 0 0) (q_rf X g 2) 1 0) (y_up (y_up VT 2 0 0) 2 1 0) := w2.si Y G (id := 2) (by decide) 1 0
  rw [← d2] at w3
  rw [q_letE (F_X2_clear X τ1 (q_rf X g 2))]
  obtain ⟨τ2, e2⟩ : ∃ s, s = F_X2_clear X τ1 (q_rf X g 2) := ⟨_, rfl⟩
  rw [← e2] at w3 ⊢
  have w4 : y_W X lb g o σ0 (q_si τ2 g 7 0) (y_up (y_up (y_up VT 2 0 0) 2 1 0) 0 7 0) := w3.si Y G (id := 0) (by decide) 7 0
  rw [q_letE (q_si τ2 g 7 0)]
  obtain ⟨τ3, e3⟩ : ∃ s, s = q_si τ2 g 7 0 := ⟨_, rfl⟩
  rw [← e3] at w4 ⊢
  have u : ∀ (id : Nat) (j : Int), id ≠ 2 → (id ≠ 0 ∨ j ≠ 7) → id ≠ 7 → id ≠ 8 → id ≠ 9 → y_up (y_up (y_up VT 2 0 0) 2 1 0) 0 7 0 id j = V id j := fun id j i2 i0 i7 i8 i9 => by
    rw [y_up_ne i0, y_up_ne (Or.inl i2), y_up_ne (Or.inl i2)]
    exact P.1 id j i7 i8 i9
  have f4 : (τ3.1 g 4).toInt = k := (w4.rd (id := 0) (by decide) 4 rfl).trans ((u 0 4 (by decide) (Or.inr (by decide)) (by decide) (by decide) (by decide)).trans v4)
  have kd := gm_kindDoubt (c := c) w4 ((u 1 0 (by decide) (Or.inl (by decide)) (by decide) (by decide) (by decide)).trans t0) ((u 1 2 (by decide) (Or.inl (by decide)) (by decide) (by decide) (by decide)).trans t2) h0 f4 hk
  rw [q_letE (τ3.1 g 4), q_letE (F_X6_kindAfterDoubt X τ3 (q_rf X g 0) (τ3.1 g 4))]
  obtain ⟨r, hr⟩ : ∃ r, r = F_X6_kindAfterDoubt X τ3 (q_rf X g 0) (τ3.1 g 4) := ⟨_, rfl⟩
  rw [← hr] at kd ⊢
  have w5 : y_W X lb g o σ0 (q_si τ3 g 4 r) (y_up (y_up (y_up (y_up VT 2 0 0) 2 1 0) 0 7 0) 0 4 r.toInt) := w4.si Y G (id := 0) (by decide) 4 r
  rw [kd] at w5
  rw [q_letE (q_si τ3 g 4 r)]
  obtain ⟨τ4, e4⟩ : ∃ s, s = q_si τ3 g 4 r := ⟨_, rfl⟩
  rw [← e4] at w5 ⊢
  have w6 : y_W X lb g o σ0 (q_si τ4 g 5 x5) (y_up (y_up (y_up (y_up (y_up VT 2 0 0) 2 1 0) 0 7 0) 0 4 (gd_nk c k)) 0 5 x5.toInt) := w5.si Y G (id := 0) (by decide) 5 x5
  rw [h5] at w6
  rw [q_letE (q_si τ4 g 5 x5)]
  exact ⟨_, _, VT, rfl, w6, P, rfl⟩
/-- a doubt in the class's game -/
theorem gm_challenge (Y : y_S X lb) (G : y_G X lb g o) (w : y_W X lb g o σ0 τ V) (R : rg V c) (hG : m_G c) (h7 : c 7 = 1) (hW : ∀ q : Int, 0 ≤ q → q < 6 → (0 ≤ c (22 + q) ∧ c (22 + q) ≤ 1000000) ∧ 0 ≤ c (28 + q) ∧ c (28 + q) ≤ 1000000) {v1 : Int32} {q : Int} (hv : v1.toInt = q) (hq : 0 ≤ q ∧ q < c 2) {s : Int} (hs : (F_X2_topTruth X τ (q_rf X g 2)).toInt = s) :
    ∃ (z : Int32) (σ' : ST) (V' : Nat → Int → Int), F_X0_challenge X τ g v1 = (z, σ') ∧ z.toInt = (if s = 0 then q else c 6) ∧ y_W X lb g o σ0 σ' V' ∧ gd_V V V' (if s = 0 then q else c 6) (c 6) (gd_nk c (c 5)) (if s = 0 then c 6 else q) (if s = 0 then (if m_S c (34 + 10 * c 6) 10 = 0 then c 6 else c 8) else c 8) (if s = 0 then 0 else 1) := by
  obtain ⟨b0, b2, b4, b5, b6, b7, b9, b79⟩ := hG.1
  have pr : 0 ≤ c 6 ∧ c 6 < c 2 := by omega
  obtain ⟨P, hP⟩ : ∃ P, P = c 6 := ⟨_, rfl⟩
  rw [← hP] at pr ⊢
  have R' := R
  obtain ⟨⟨t1, t2, t3, t4, t5, t6⟩, ⟨s1, s2, s3, s4⟩, hpp, ⟨g1, g2⟩, ⟨l1, l2, l3⟩, ⟨a1, a2⟩⟩ := R'
  have n2 : ¬ c 2 = 0 := by omega
  rw [if_neg n2, ← hP] at s2
  have z0 : (0 : Int32).toInt = 0 := rfl
  have one : (1 : Int32).toInt = 1 := rfl
  have gn12 : ((y_gn 12 : Nat) : Int) = 6 := rfl
  have gn13 : ((y_gn 13 : Nat) : Int) = 6 := rfl
  have hw := hW P pr.1 (by omega)
  have v12 : V 12 P = c (22 + P) := (hpp P pr.1 (by omega)).2.2.1
  have v13 : V 13 P = c (28 + P) := (hpp P pr.1 (by omega)).2.2.2
  -- who takes: bounds of the rows
  have gtp : ∀ (V1 : Nat → Int → Int) (t : Int), 0 ≤ t → t < 6 → (∀ j, V1 7 j = V 7 j) → (∀ j, V1 8 j = V 8 j) → (∀ j, V1 9 j = V 9 j) → gt_p V1 t := by
    intro V1 t h0 h1 e7 e8 e9
    have sh : ∀ n : Nat, n ≤ 10 → m_S (V1 7) (10 * t) n = m_S c (34 + 10 * t) n := by
      intro n
      induction n with
      | zero => intro _; rfl
      | succ n ih =>
        intro hn
        show m_S (V1 7) (10 * t) n + V1 7 (10 * t + (n : Int)) = m_S c (34 + 10 * t) n + c (34 + 10 * t + (n : Int))
        have ec : (34 : Int) + (10 * t + (n : Int)) = 34 + 10 * t + (n : Int) := by omega
        rw [ih (by omega), e7, g1 _ (by omega) (by omega), ec]
    have s80 := hG.S80 (p := t) (k := 10) h0 h1 (by decide) (by decide)
    have z10 : m_S c (34 + 10 * t) (10 : Int).toNat = m_S c (34 + 10 * t) 10 := rfl
    refine ⟨⟨h0, h1⟩, fun j j0 j1 => ⟨?_, ?_⟩, ?_, ?_⟩
    · rw [e7, g1 j j0 j1]
      have hh := hG.h80 (p := j / 10) (k := j % 10) (by omega) (by omega) (by omega) (by omega)
      have ej : 34 + 10 * (j / 10) + j % 10 = 34 + j := by omega
      rw [ej] at hh
      exact hh
    · rw [e8]
      have ej : 10 * (j / 10) + j % 10 = j := by omega
      have y := a1 (j / 10) (j % 10) (by omega) (by omega) (by omega) (by omega)
      rw [ej] at y
      have ab := hG.A_bd (j / 10) (j % 10) (c 9).toNat (by omega)
      have lb := hG.L80 b9.1 (Int.le_refl (c 9))
      rw [y]
      omega
    · rw [e9, g2 t h0 h1]
      exact (sh 10 (Nat.le_refl 10)).symm
    · rw [e9, g2 t h0 h1]
      omega
  -- turn and cards shown
  have f5 : (τ.1 g 5).toInt = P := (w.rd (id := 0) (by decide) 5 rfl).trans s2
  have w1 := w.add Y G (id := 12) (r := q_rf X (q_rf X g 1) 5) ⟨by decide, by decide⟩ rfl (τ.1 g 5) 1 (by omega) (by rw [gn12]; omega)
  rw [f5, one, ar_wr (by omega) (by omega)] at w1
  unfold F_X0_challenge
  rw [q_letE (F_X2_topTruth X τ (q_rf X g 2)), hs]
  by_cases hs0 : s = 0
  · rw [if_pos hs0, if_pos hs0, if_pos hs0, if_pos hs0, if_pos hs0]
    unfold F_X0_challenge_J15_1
    rw [if_neg (by decide : ¬ (1 : Int32).toInt = 0)]
    unfold F_X0_challenge_J28_2
    rw [if_neg (by decide : ¬ (1 : Int32).toInt = 0), q_letE (τ.1 g 5)]
    unfold F_X0_challenge_J41_3
    rw [q_letE (τ.1 g 5), q_letE (F_X5_add X τ (q_rf X (q_rf X g 1) 5) (τ.1 g 5) 1), if_neg (by decide : ¬ (1 : Int32).toInt = 0)]
    obtain ⟨τ1, e1⟩ : ∃ s, s = F_X5_add X τ (q_rf X (q_rf X g 1) 5) (τ.1 g 5) 1 := ⟨_, rfl⟩
    rw [← e1] at w1 ⊢
    have w2 := gm_winIfRid Y G w1 (p := P) ((y_up_ne (Or.inl (by decide))).trans s2) ⟨pr.1, by omega⟩
    have r9 : y_up V 12 P (V 12 P + 1) 9 P = m_S c (34 + 10 * P) 10 := (y_up_ne (Or.inl (by decide))).trans (g2 P pr.1 (by omega))
    have r6 : y_up V 12 P (V 12 P + 1) 0 6 = c 8 := (y_up_ne (Or.inl (by decide))).trans s3.1
    rw [r9, r6] at w2
    obtain ⟨W, hWn⟩ : ∃ W : Int, W = (if m_S c (34 + 10 * P) 10 = 0 then P else c 8) := ⟨_, rfl⟩
    rw [← hWn] at w2 ⊢
    rw [q_letE (F_X0_winIfRid X τ1 g)]
    obtain ⟨τ2, e2⟩ : ∃ s, s = F_X0_winIfRid X τ1 g := ⟨_, rfl⟩
    rw [← e2] at w2 ⊢
    obtain ⟨V1, hV1⟩ : ∃ v, v = y_up (y_up V 12 P (V 12 P + 1)) 0 6 W := ⟨_, rfl⟩
    rw [← hV1] at w2
    have u : ∀ (id : Nat) (j : Int), id ≠ 12 → (id ≠ 0 ∨ j ≠ 6) → V1 id j = V id j := fun id j i12 i0 => by
      rw [hV1, y_up_ne i0, y_up_ne (Or.inl i12)]
    obtain ⟨σ', V', VT, x1, x2, x3, x4⟩ := gd_tail (c := c) Y G w2 (t := q) (tn := P) (gtp V1 q hq.1 (by omega) (fun j => u 7 j (by decide) (Or.inl (by decide))) (fun j => u 8 j (by decide) (Or.inl (by decide))) (fun j => u 9 j (by decide) (Or.inl (by decide)))) (x4 := v1) (x5 := τ.1 g 5) hv f5 ((u 1 0 (by decide) (Or.inl (by decide))).trans t1) ((u 1 2 (by decide) (Or.inl (by decide))).trans t3) b0 ((u 0 4 (by decide) (Or.inr (by decide))).trans s1) b5
    refine ⟨v1, σ', V', x1, hv, x2, ?_⟩
    obtain ⟨y1, y2, y3, y4, y5, y6⟩ := x3
    have k : ∀ (id : Nat) (j : Int), id ≠ 0 → id ≠ 2 → V' id j = VT id j := fun id j i0 i2 => by
      rw [x4, y_up_ne (Or.inl i0), y_up_ne (Or.inl i0), y_up_ne (Or.inl i0), y_up_ne (Or.inl i2), y_up_ne (Or.inl i2)]
    have k7 : V' 7 = VT 7 := funext (fun j => k 7 j (by decide) (by decide))
    have k8 : V1 8 = V 8 := funext (fun j => u 8 j (by decide) (Or.inl (by decide)))
    refine ⟨fun id j i0 i2 i7 i8 i9 i12 i13 => ?_, ⟨?_, ?_, ?_, ?_⟩, ⟨?_, ?_⟩, fun j hj => ?_, fun d d0 d1 => ?_, fun j hj => ?_, ?_, fun j j0 j1 => ?_, fun j => ⟨?_, ?_⟩⟩
    · rw [k id j i0 i2, y1 id j i7 i8 i9]; exact u id j i12 (Or.inl i0)
    · rw [x4, y_up_ne (Or.inr (by decide)), y_up_eq]
    · rw [x4, y_up_eq]
    · rw [x4, y_up_ne (Or.inr (by decide)), y_up_ne (Or.inr (by decide)), y_up_ne (Or.inr (by decide)), y_up_ne (Or.inl (by decide)), y_up_ne (Or.inl (by decide)), y1 0 6 (by decide) (by decide) (by decide), hV1, y_up_eq]
    · rw [x4, y_up_ne (Or.inr (by decide)), y_up_ne (Or.inr (by decide)), y_up_eq]
    · rw [x4, y_up_ne (Or.inl (by decide)), y_up_ne (Or.inl (by decide)), y_up_ne (Or.inl (by decide)), y_up_ne (Or.inr (by decide)), y_up_eq]
    · rw [x4, y_up_ne (Or.inl (by decide)), y_up_ne (Or.inl (by decide)), y_up_ne (Or.inl (by decide)), y_up_eq]
    · rw [k7, y2 j hj]; exact u 7 j (by decide) (Or.inl (by decide))
    · rw [k7, y3 d d0 d1, k8, u 7 _ (by decide) (Or.inl (by decide))]
    · rw [k 9 j (by decide) (by decide), y4 j hj]; exact u 9 j (by decide) (Or.inl (by decide))
    · rw [k 9 q (by decide) (by decide), y5, k7]
    · rw [k 8 j (by decide) (by decide)]; exact y6 j j0 j1
    · rw [k 12 j (by decide) (by decide), y1 12 j (by decide) (by decide) (by decide), hV1, y_up_ne (Or.inl (by decide))]
      by_cases e : j = P
      · rw [if_pos e, e, y_up_eq]
      · rw [if_neg e, y_up_ne (Or.inr e)]
    · rw [k 13 j (by decide) (by decide), y1 13 j (by decide) (by decide) (by decide), u 13 j (by decide) (Or.inl (by decide))]
      split <;> omega
  · rw [if_neg hs0, if_neg hs0, if_neg hs0, if_neg hs0, if_neg hs0]
    unfold F_X0_challenge_J15_1
    rw [if_pos (by decide : (0 : Int32).toInt = 0), q_letE (τ.1 g 5)]
    unfold F_X0_challenge_J28_2
    rw [if_pos (by decide : (0 : Int32).toInt = 0)]
    unfold F_X0_challenge_J41_3
    rw [q_letE (τ.1 g 5), q_letE (F_X5_add X τ (q_rf X (q_rf X g 1) 5) (τ.1 g 5) 1), if_pos (by decide : (0 : Int32).toInt = 0)]
    obtain ⟨τ1, e1⟩ : ∃ s, s = F_X5_add X τ (q_rf X (q_rf X g 1) 5) (τ.1 g 5) 1 := ⟨_, rfl⟩
    rw [← e1] at w1 ⊢
    have f11 : (τ1.1 g 5).toInt = P := (w1.rd (id := 0) (by decide) 5 rfl).trans ((y_up_ne (Or.inl (by decide))).trans s2)
    have w2 := w1.add Y G (id := 13) (r := q_rf X (q_rf X g 1) 6) ⟨by decide, by decide⟩ rfl (τ1.1 g 5) 1 (by omega) (by rw [gn13]; omega)
    rw [f11, one, y_up_ne (Or.inl (by decide)), ar_wr (by omega) (by omega)] at w2
    rw [q_letE (τ1.1 g 5), q_letE (F_X5_add X τ1 (q_rf X (q_rf X g 1) 6) (τ1.1 g 5) 1)]
    obtain ⟨τ2, e2⟩ : ∃ s, s = F_X5_add X τ1 (q_rf X (q_rf X g 1) 6) (τ1.1 g 5) 1 := ⟨_, rfl⟩
    rw [← e2] at w2 ⊢
    obtain ⟨V1, hV1⟩ : ∃ v, v = y_up (y_up V 12 P (V 12 P + 1)) 13 P (V 13 P + 1) := ⟨_, rfl⟩
    rw [← hV1] at w2
    have u : ∀ (id : Nat) (j : Int), id ≠ 12 → id ≠ 13 → V1 id j = V id j := fun id j i12 i13 => by
      rw [hV1, y_up_ne (Or.inl i13), y_up_ne (Or.inl i12)]
    obtain ⟨σ', V', VT, x1, x2, x3, x4⟩ := gd_tail (c := c) Y G w2 (t := P) (tn := q) (gtp V1 P pr.1 (by omega) (fun j => u 7 j (by decide) (by decide)) (fun j => u 8 j (by decide) (by decide)) (fun j => u 9 j (by decide) (by decide))) (x4 := τ.1 g 5) (x5 := v1) f5 hv ((u 1 0 (by decide) (by decide)).trans t1) ((u 1 2 (by decide) (by decide)).trans t3) b0 ((u 0 4 (by decide) (by decide)).trans s1) b5
    refine ⟨τ.1 g 5, σ', V', x1, f5, x2, ?_⟩
    obtain ⟨y1, y2, y3, y4, y5, y6⟩ := x3
    have k : ∀ (id : Nat) (j : Int), id ≠ 0 → id ≠ 2 → V' id j = VT id j := fun id j i0 i2 => by
      rw [x4, y_up_ne (Or.inl i0), y_up_ne (Or.inl i0), y_up_ne (Or.inl i0), y_up_ne (Or.inl i2), y_up_ne (Or.inl i2)]
    have k7 : V' 7 = VT 7 := funext (fun j => k 7 j (by decide) (by decide))
    have k8 : V1 8 = V 8 := funext (fun j => u 8 j (by decide) (by decide))
    refine ⟨fun id j i0 i2 i7 i8 i9 i12 i13 => ?_, ⟨?_, ?_, ?_, ?_⟩, ⟨?_, ?_⟩, fun j hj => ?_, fun d d0 d1 => ?_, fun j hj => ?_, ?_, fun j j0 j1 => ?_, fun j => ⟨?_, ?_⟩⟩
    · rw [k id j i0 i2, y1 id j i7 i8 i9]; exact u id j i12 i13
    · rw [x4, y_up_ne (Or.inr (by decide)), y_up_eq]
    · rw [x4, y_up_eq]
    · rw [x4, y_up_ne (Or.inr (by decide)), y_up_ne (Or.inr (by decide)), y_up_ne (Or.inr (by decide)), y_up_ne (Or.inl (by decide)), y_up_ne (Or.inl (by decide)), y1 0 6 (by decide) (by decide) (by decide), u 0 6 (by decide) (by decide)]
      exact s3.1
    · rw [x4, y_up_ne (Or.inr (by decide)), y_up_ne (Or.inr (by decide)), y_up_eq]
    · rw [x4, y_up_ne (Or.inl (by decide)), y_up_ne (Or.inl (by decide)), y_up_ne (Or.inl (by decide)), y_up_ne (Or.inr (by decide)), y_up_eq]
    · rw [x4, y_up_ne (Or.inl (by decide)), y_up_ne (Or.inl (by decide)), y_up_ne (Or.inl (by decide)), y_up_eq]
    · rw [k7, y2 j hj]; exact u 7 j (by decide) (by decide)
    · rw [k7, y3 d d0 d1, k8, u 7 _ (by decide) (by decide)]
    · rw [k 9 j (by decide) (by decide), y4 j hj]; exact u 9 j (by decide) (by decide)
    · rw [k 9 P (by decide) (by decide), y5, k7]
    · rw [k 8 j (by decide) (by decide)]; exact y6 j j0 j1
    · rw [k 12 j (by decide) (by decide), y1 12 j (by decide) (by decide) (by decide), hV1, y_up_ne (Or.inl (by decide))]
      by_cases e : j = P
      · rw [if_pos e, e, y_up_eq]
      · rw [if_neg e, y_up_ne (Or.inr e)]
    · rw [k 13 j (by decide) (by decide), y1 13 j (by decide) (by decide) (by decide), hV1]
      by_cases e : j = P
      · rw [if_pos e, e, y_up_eq]
      · rw [if_neg e, y_up_ne (Or.inr e), y_up_ne (Or.inl (by decide))]
end GI

/-! FROM 49j.doubts.lean.txt -/
/-! A DOUBT: the reference, both -/
section GJ
variable {X : XW} {lb : Nat → Nat} {g o a : Nat} {σ τ σ0 τ0 : ST} {V V0 : Nat → Int → Int} {c c0 : Int → Int}
theorem gdr_tail (hG : m_G c) (h7 : c 7 = 0) (hc : m_c X τ a = c) {x y : Int32} {t tn : Int} (hx : x.toInt = t) (ht : 0 ≤ t ∧ t < c 2) (hy : y.toInt = tn) (htn : 0 ≤ tn ∧ tn < c 2) : ∃ ct : Int → Int, m_c X (q_si (q_si (F_X12_takes X τ a x) (q_rf X a 20) (5 : Int32).toNatClampNeg (F_X12_nextKind X (F_X12_takes X τ a x) a 0)) (q_rf X a 20) (6 : Int32).toNatClampNeg y) a = m_up (m_up (m_up ct 9 0) 5 (gd_nk c (c 5))) 6 tn ∧ tkl (fun b _ => b = q_rf X a 20) (fun _ _ => False) τ (q_si (q_si (F_X12_takes X τ a x) (q_rf X a 20) (5 : Int32).toNatClampNeg (F_X12_nextKind X (F_X12_takes X τ a x) a 0)) (q_rf X a 20) (6 : Int32).toNatClampNeg y) ∧ gt_c c ct t (c 9) 0 ∧ m_G (m_up (m_up (m_up ct 9 0) 5 (gd_nk c (c 5))) 6 tn) := by
  obtain ⟨b0, b2, b4, b5, b6, b7, b9, b79⟩ := hG.1
  obtain ⟨ct, i1, i2, i3, i4⟩ := gm_takes (X := X) (τ := τ) (a := a) hG h7 hc ⟨ht.1, by omega⟩ hx
  obtain ⟨τ1, e1⟩ : ∃ s, s = F_X12_takes X τ a x := ⟨_, rfl⟩
  rw [← e1] at i1 i2 ⊢
  have d : ∀ j : Int, 0 ≤ j → j < 9 → m_up ct 9 0 j = c j := fun j j0 j1 => by rw [m_up_ne (by omega)]; exact i3.1 j j0 (by omega)
  have nk := gm_nextKind0 i1 (by rw [d 0 (by decide) (by decide)]; exact b0) (by rw [d 5 (by decide) (by decide), d 0 (by decide) (by decide)]; exact b5)
  have ek : gd_nk (m_up ct 9 0) (m_up ct 9 0 5) = gd_nk c (c 5) := by
    unfold gd_nk
    rw [d 3 (by decide) (by decide), d 5 (by decide) (by decide), d 0 (by decide) (by decide)]
  rw [ek] at nk
  have kb : 0 ≤ gd_nk c (c 5) ∧ gd_nk c (c 5) < c 0 := by
    unfold gd_nk
    split
    · exact ⟨Int.emod_nonneg _ (by omega), Int.emod_lt_of_pos _ (by omega)⟩
    · exact ⟨Int.emod_nonneg _ (by omega), Int.emod_lt_of_pos _ (by omega)⟩
  have c2 : m_c X (q_si τ1 (q_rf X a 20) (5 : Int32).toNatClampNeg (F_X12_nextKind X τ1 a 0)) a = m_up (m_up ct 9 0) 5 (gd_nk c (c 5)) := by
    rw [m_c_up 5 (by decide) rfl, i1, nk]
  have t2 : tkl (fun b _ => b = q_rf X a 20) (fun _ _ => False) τ (q_si τ1 (q_rf X a 20) (5 : Int32).toNatClampNeg (F_X12_nextKind X τ1 a 0)) := i2.si _ rfl
  have g2 : m_G (m_up (m_up ct 9 0) 5 (gd_nk c (c 5))) := i4.wr m_up_e (by rw [d 0 (by decide) (by decide)]; omega)
  have g3 : m_G (m_up (m_up (m_up ct 9 0) 5 (gd_nk c (c 5))) 6 tn) := g2.wr m_up_e (by
    have q2 : m_up (m_up ct 9 0) 5 (gd_nk c (c 5)) 2 = c 2 := (m_up_ne (by decide)).trans (d 2 (by decide) (by decide))
    have q7 : m_up (m_up ct 9 0) 5 (gd_nk c (c 5)) 7 = c 7 := (m_up_ne (by decide)).trans (d 7 (by decide) (by decide))
    rw [q2, q7]
    omega)
  refine ⟨ct, ?_, t2.si _ rfl, i3, g3⟩
  rw [m_c_up 6 (by decide) rfl, c2, hy]
theorem gm_doubts (hc : m_c X τ a = c) (hG : m_G c) (h7 : c 7 = 1) (hW : ∀ q : Int, 0 ≤ q → q < 6 → (0 ≤ c (22 + q) ∧ c (22 + q) ≤ 1000000) ∧ 0 ≤ c (28 + q) ∧ c (28 + q) ≤ 1000000) {v1 : Int32} {q : Int} (hv : v1.toInt = q) (hq : 0 ≤ q ∧ q < c 2) {s : Int} (hs : (F_X12_sortOf X τ a (τ.1 (q_rf X a 20) (9 : Int32).toNatClampNeg - 1)).toInt = s) :
    ∃ (z : Int32) (τ' : ST) (c' : Int → Int), F_X12_doubts X τ a v1 = (z, τ') ∧ z.toInt = (if s = 0 then q else c 6) ∧ m_c X τ' a = c' ∧ tkl (fun b _ => b = q_rf X a 20) (fun _ _ => False) τ τ' ∧ gd_C c c' (if s = 0 then q else c 6) (c 6) (gd_nk c (c 5)) (if s = 0 then c 6 else q) (if s = 0 then (if m_S c (34 + 10 * c 6) 10 = 0 then c 6 else c 8) else c 8) (if s = 0 then 0 else 1) ∧ m_G c' := by
  obtain ⟨b0, b2, b4, b5, b6, b7, b9, b79⟩ := hG.1
  have pr : 0 ≤ c 6 ∧ c 6 < c 2 := by omega
  obtain ⟨P, hP⟩ : ∃ P, P = c 6 := ⟨_, rfl⟩
  rw [← hP] at pr ⊢
  have hw := hW P pr.1 (by omega)
  have z0 : (0 : Int32).toInt = 0 := rfl
  have one : (1 : Int32).toInt = 1 := rfl
  have e22 : (22 : Int32).toInt = 22 := rfl
  have e28 : (28 : Int32).toInt = 28 := rfl
  unfold F_X12_doubts
  rw [q_letE (τ.1 (q_rf X a 20) (6 : Int32).toNatClampNeg), q_letE (τ.1 (q_rf X a 20) (9 : Int32).toNatClampNeg), q_letE (τ.1 (q_rf X a 20) (9 : Int32).toNatClampNeg - 1), q_letE (F_X12_sortOf X τ a (τ.1 (q_rf X a 20) (9 : Int32).toNatClampNeg - 1)), hs]
  have f1 : (τ.1 (q_rf X a 20) (6 : Int32).toNatClampNeg).toInt = P := (gm_cell (A := 6) hc rfl).trans hP.symm
  obtain ⟨f, hf⟩ : ∃ f, f = τ.1 (q_rf X a 20) (6 : Int32).toNatClampNeg := ⟨_, rfl⟩
  rw [← hf] at f1 ⊢
  have c1 : m_c X (q_si τ (q_rf X a 20) (7 : Int32).toNatClampNeg 0) a = m_up c 7 0 := by rw [m_c_up 7 (by decide) rfl, hc, z0]
  have t1 : tkl (fun b _ => b = q_rf X a 20) (fun _ _ => False) τ (q_si τ (q_rf X a 20) (7 : Int32).toNatClampNeg 0) := tkl.rf.si _ rfl
  obtain ⟨τ1, e1⟩ : ∃ s, s = q_si τ (q_rf X a 20) (7 : Int32).toNatClampNeg 0 := ⟨_, rfl⟩
  have i22 : ((22 : Int32) + f).toInt = 22 + P := by rw [ar_add, e22, f1, ar_wr (by omega) (by omega)]
  have i28 : ((28 : Int32) + f).toInt = 28 + P := by rw [ar_add, e28, f1, ar_wr (by omega) (by omega)]
  rw [← e1] at c1 t1
  have r22 : (τ1.1 (q_rf X a 20) ((22 : Int32) + f).toNatClampNeg).toInt = c (22 + P) := (gm_cell c1 i22).trans (m_up_ne (by omega))
  obtain ⟨u, hu⟩ : ∃ u, u = τ1.1 (q_rf X a 20) ((22 : Int32) + f).toNatClampNeg + 1 := ⟨_, rfl⟩
  have uv : u.toInt = c (22 + P) + 1 := by rw [hu, ar_add, r22, one, ar_wr (by omega) (by omega)]
  have c2 : m_c X (q_si τ1 (q_rf X a 20) ((22 : Int32) + f).toNatClampNeg u) a = m_up (m_up c 7 0) (22 + P) (c (22 + P) + 1) := by rw [m_c_up _ (by omega) i22, c1, uv]
  have t2 : tkl (fun b _ => b = q_rf X a 20) (fun _ _ => False) τ (q_si τ1 (q_rf X a 20) ((22 : Int32) + f).toNatClampNeg u) := t1.si _ rfl
  obtain ⟨τ2, e2⟩ : ∃ s, s = q_si τ1 (q_rf X a 20) ((22 : Int32) + f).toNatClampNeg u := ⟨_, rfl⟩
  rw [← e2] at c2 t2
  have r28 : (τ2.1 (q_rf X a 20) ((28 : Int32) + f).toNatClampNeg).toInt = c (28 + P) := (gm_cell c2 i28).trans ((m_up_ne (by omega)).trans (m_up_ne (by omega)))
  have g1 : m_G (m_up c 7 0) := hG.wr m_up_e (by omega)
  have g2 : m_G (m_up (m_up c 7 0) (22 + P) (c (22 + P) + 1)) := g1.wr m_up_e (by omega)
  -- the head: for both answers the same
  have hd : ∀ x : Int32, F_X12_doubts_J29_1 X τ a f v1 x = (if x.toInt = 0 then q_let (τ2.1 (q_rf X a 20) ((28 : Int32) + f).toNatClampNeg + (1 : Int32) : Int32) (fun z_16 => q_let (q_si τ2 (q_rf X a 20) ((28 : Int32) + f).toNatClampNeg z_16 : ST) (fun σ_17 => if x.toInt = 0 then F_X12_doubts_J92_2 X x a f v1 σ_17 else q_let (F_X12_cardsOf X σ_17 a f : Int32) (fun r_45 => if r_45.toInt = 0 then q_let (q_si σ_17 (q_rf X a 20) (8 : Int32).toNatClampNeg f : ST) (fun σ_48 => F_X12_doubts_J92_2 X x a f v1 σ_48) else F_X12_doubts_J92_2 X x a f v1 σ_17))) else q_let (τ2.1 (q_rf X a 20) ((28 : Int32) + f).toNatClampNeg + (0 : Int32) : Int32) (fun z_49 => q_let (q_si τ2 (q_rf X a 20) ((28 : Int32) + f).toNatClampNeg z_49 : ST) (fun σ_50 => if x.toInt = 0 then F_X12_doubts_J92_5 X x a f v1 σ_50 else q_let (F_X12_cardsOf X σ_50 a f : Int32) (fun r_78 => if r_78.toInt = 0 then q_let (q_si σ_50 (q_rf X a 20) (8 : Int32).toNatClampNeg f : ST) (fun σ_81 => F_X12_doubts_J92_5 X x a f v1 σ_81) else F_X12_doubts_J92_5 X x a f v1 σ_50)))) := by
    intro x
    unfold F_X12_doubts_J29_1
    rw [q_letE (q_si τ (q_rf X a 20) (7 : Int32).toNatClampNeg 0), ← e1, q_letE ((22 : Int32) + f), q_letE (τ1.1 (q_rf X a 20) ((22 : Int32) + f).toNatClampNeg), q_letE (τ1.1 (q_rf X a 20) ((22 : Int32) + f).toNatClampNeg + 1), ← hu, q_letE (q_si τ1 (q_rf X a 20) ((22 : Int32) + f).toNatClampNeg u), ← e2, q_letE ((28 : Int32) + f), q_letE (τ2.1 (q_rf X a 20) ((28 : Int32) + f).toNatClampNeg)]
  by_cases hs0 : s = 0
  · rw [if_pos hs0, if_pos hs0, if_pos hs0, if_pos hs0, if_pos hs0, hd 1, if_neg (by decide : ¬ (1 : Int32).toInt = 0)]
    obtain ⟨u3, hu3⟩ : ∃ u, u = τ2.1 (q_rf X a 20) ((28 : Int32) + f).toNatClampNeg + 0 := ⟨_, rfl⟩
    have uv3 : u3.toInt = c (28 + P) + 0 := by rw [hu3, ar_add, r28, z0, ar_wr (by omega) (by omega)]
    rw [← hu3, q_letE u3, q_letE (q_si τ2 (q_rf X a 20) ((28 : Int32) + f).toNatClampNeg u3)]
    have c3 : m_c X (q_si τ2 (q_rf X a 20) ((28 : Int32) + f).toNatClampNeg u3) a = m_up (m_up (m_up c 7 0) (22 + P) (c (22 + P) + 1)) (28 + P) (c (28 + P) + 0) := by rw [m_c_up _ (by omega) i28, c2, uv3]
    have t3 : tkl (fun b _ => b = q_rf X a 20) (fun _ _ => False) τ (q_si τ2 (q_rf X a 20) ((28 : Int32) + f).toNatClampNeg u3) := t2.si _ rfl
    obtain ⟨τ3, e3⟩ : ∃ s, s = q_si τ2 (q_rf X a 20) ((28 : Int32) + f).toNatClampNeg u3 := ⟨_, rfl⟩
    rw [← e3] at c3 t3 ⊢
    have g3 : m_G (m_up (m_up (m_up c 7 0) (22 + P) (c (22 + P) + 1)) (28 + P) (c (28 + P) + 0)) := g2.wr m_up_e (by omega)
    obtain ⟨C3, hC3⟩ : ∃ C, C = m_up (m_up (m_up c 7 0) (22 + P) (c (22 + P) + 1)) (28 + P) (c (28 + P) + 0) := ⟨_, rfl⟩
    rw [← hC3] at c3 g3
    have d3 : ∀ j : Int, j ≠ 7 → j ≠ 22 + P → j ≠ 28 + P → C3 j = c j := fun j a1 a2 a3 => by rw [hC3, m_up_ne a3, m_up_ne a2, m_up_ne a1]
    have cd : (F_X12_cardsOf X τ3 a f).toInt = m_S c (34 + 10 * P) 10 := by
      rw [gm_cardsOf c3 g3 f1 ⟨pr.1, by omega⟩]
      exact m_S_ext (fun j a1 a2 => d3 j (by omega) (by omega) (by omega))
    rw [if_neg (by decide : ¬ (1 : Int32).toInt = 0), q_letE (F_X12_cardsOf X τ3 a f), cd]
    obtain ⟨W, hWn⟩ : ∃ W : Int, W = (if m_S c (34 + 10 * P) 10 = 0 then P else c 8) := ⟨_, rfl⟩
    rw [← hWn]
    have fin : ∀ (τ4 : ST) (C4 : Int → Int), m_c X τ4 a = C4 → m_G C4 → tkl (fun b _ => b = q_rf X a 20) (fun _ _ => False) τ τ4 → C4 8 = W → (∀ j : Int, j ≠ 8 → C4 j = C3 j) → ∃ (z : Int32) (τ' : ST) (c' : Int → Int), F_X12_doubts_J92_5 X 1 a f v1 τ4 = (z, τ') ∧ z.toInt = q ∧ m_c X τ' a = c' ∧ tkl (fun b _ => b = q_rf X a 20) (fun _ _ => False) τ τ' ∧ gd_C c c' q P (gd_nk c (c 5)) P W 0 ∧ m_G c' := by
      intro τ4 C4 c4 g4 t4 w4 o4
      have d4 : ∀ j : Int, j ≠ 7 → j ≠ 8 → j ≠ 22 + P → j ≠ 28 + P → C4 j = c j := fun j a1 a2 a3 a4 => by rw [o4 j a2, d3 j a1 a3 a4]
      obtain ⟨ct, y1, y2, y3, y4⟩ := gdr_tail (X := X) (τ := τ4) (a := a) g4 (by rw [o4 7 (by decide), hC3, m_up_ne (by omega), m_up_ne (by omega), m_up_eq]) c4 (x := v1) (y := f) hv (by rw [d4 2 (by decide) (by decide) (by omega) (by omega)]; exact hq) f1 (by rw [d4 2 (by decide) (by decide) (by omega) (by omega)]; exact pr)
      have ek : gd_nk C4 (C4 5) = gd_nk c (c 5) := by
        unfold gd_nk
        rw [d4 3 (by decide) (by decide) (by omega) (by omega), d4 5 (by decide) (by decide) (by omega) (by omega), d4 0 (by decide) (by decide) (by omega) (by omega)]
      rw [ek] at y1 y4
      unfold F_X12_doubts_J92_5
      rw [if_neg (by decide : ¬ (1 : Int32).toInt = 0), q_letE (F_X12_takes X τ4 a v1)]
      unfold F_X12_doubts_J105_7
      rw [q_letE (F_X12_nextKind X (F_X12_takes X τ4 a v1) a 0), q_letE (q_si (F_X12_takes X τ4 a v1) (q_rf X a 20) (5 : Int32).toNatClampNeg (F_X12_nextKind X (F_X12_takes X τ4 a v1) a 0)), if_neg (by decide : ¬ (1 : Int32).toInt = 0), q_letE, if_neg (by decide : ¬ (1 : Int32).toInt = 0)]
      have e9 : C4 9 = c 9 := d4 9 (by decide) (by decide) (by omega) (by omega)
      rw [e9] at y3
      have Ax : ∀ d : Int, m_A C4 (-1) d (c 9).toNat = m_A c (-1) d (c 9).toNat := fun d => (gm_Lx (c := c) (c' := C4) (n := (c 9).toNat) (fun i i0 i1 => ((hG.2.2.1 i i0 (by omega)).1).2) (fun j j0 j1 => d4 j (by omega) (by omega) (by omega) (by omega))).2 (-1) d
      refine ⟨v1, _, _, rfl, hv, y1, t4.tr y2, ⟨fun j j0 j5 j6 j7 j8 j9 j22 j28 jh => ?_, ⟨?_, ?_, ?_, ?_, ?_⟩, ?_, ?_, fun d d0 d1 => ?_⟩, y4⟩
      · rw [m_up_ne j6, m_up_ne j5, m_up_ne j9, y3.1 j j0 jh, d4 j j7 j8 j22 j28]
      · rw [m_up_ne (by decide), m_up_eq]
      · rw [m_up_eq]
      · rw [m_up_ne (by decide), m_up_ne (by decide), m_up_ne (by decide), y3.1 7 (by decide) (by omega), o4 7 (by decide), hC3, m_up_ne (by omega), m_up_ne (by omega), m_up_eq]
      · rw [m_up_ne (by decide), m_up_ne (by decide), m_up_ne (by decide), y3.1 8 (by decide) (by omega), w4]
      · rw [m_up_ne (by decide), m_up_ne (by decide), m_up_eq]
      · rw [m_up_ne (by omega), m_up_ne (by omega), m_up_ne (by omega), y3.1 _ (by omega) (by omega), o4 _ (by omega), hC3, m_up_ne (by omega), m_up_eq]
      · rw [m_up_ne (by omega), m_up_ne (by omega), m_up_ne (by omega), y3.1 _ (by omega) (by omega), o4 _ (by omega), hC3, m_up_eq]
      · have k0 : m_K C4 (94 + 7 * c 9) d (0 : Int).toNat = 0 := rfl
        rw [m_up_ne (by omega), m_up_ne (by omega), m_up_ne (by omega), y3.2 d d0 d1, Ax d, k0, d4 _ (by omega) (by omega) (by omega) (by omega)]
        omega
    by_cases q0 : m_S c (34 + 10 * P) 10 = 0
    · rw [if_pos q0] at hWn
      rw [if_pos q0, q_letE (q_si τ3 (q_rf X a 20) (8 : Int32).toNatClampNeg f)]
      refine fin _ (m_up C3 8 W) (by rw [m_c_up 8 (by decide) rfl, c3, f1, hWn]) (g3.wr m_up_e (by omega)) (t3.si _ rfl) (m_up_eq _ _ _) (fun j h => m_up_ne h)
    · rw [if_neg q0] at hWn
      rw [if_neg q0]
      refine fin τ3 C3 c3 g3 t3 (by rw [hWn]; exact d3 8 (by decide) (by omega) (by omega)) (fun j _ => rfl)
  · rw [if_neg hs0, if_neg hs0, if_neg hs0, if_neg hs0, if_neg hs0, hd 0, if_pos (by decide : (0 : Int32).toInt = 0)]
    obtain ⟨u3, hu3⟩ : ∃ u, u = τ2.1 (q_rf X a 20) ((28 : Int32) + f).toNatClampNeg + 1 := ⟨_, rfl⟩
    have uv3 : u3.toInt = c (28 + P) + 1 := by rw [hu3, ar_add, r28, one, ar_wr (by omega) (by omega)]
    rw [← hu3, q_letE u3, q_letE (q_si τ2 (q_rf X a 20) ((28 : Int32) + f).toNatClampNeg u3)]
    have c3 : m_c X (q_si τ2 (q_rf X a 20) ((28 : Int32) + f).toNatClampNeg u3) a = m_up (m_up (m_up c 7 0) (22 + P) (c (22 + P) + 1)) (28 + P) (c (28 + P) + 1) := by rw [m_c_up _ (by omega) i28, c2, uv3]
    have t3 : tkl (fun b _ => b = q_rf X a 20) (fun _ _ => False) τ (q_si τ2 (q_rf X a 20) ((28 : Int32) + f).toNatClampNeg u3) := t2.si _ rfl
    obtain ⟨τ4, e4⟩ : ∃ s, s = q_si τ2 (q_rf X a 20) ((28 : Int32) + f).toNatClampNeg u3 := ⟨_, rfl⟩
    rw [← e4] at c3 t3 ⊢
    have g4 : m_G (m_up (m_up (m_up c 7 0) (22 + P) (c (22 + P) + 1)) (28 + P) (c (28 + P) + 1)) := g2.wr m_up_e (by omega)
    obtain ⟨C4, hC4⟩ : ∃ C, C = m_up (m_up (m_up c 7 0) (22 + P) (c (22 + P) + 1)) (28 + P) (c (28 + P) + 1) := ⟨_, rfl⟩
    rw [← hC4] at c3 g4
    have d4 : ∀ j : Int, j ≠ 7 → j ≠ 22 + P → j ≠ 28 + P → C4 j = c j := fun j a1 a2 a3 => by rw [hC4, m_up_ne a3, m_up_ne a2, m_up_ne a1]
    rw [if_pos (by decide : (0 : Int32).toInt = 0)]
    obtain ⟨ct, y1, y2, y3, y4⟩ := gdr_tail (X := X) (τ := τ4) (a := a) g4 (by rw [hC4, m_up_ne (by omega), m_up_ne (by omega), m_up_eq]) c3 (x := f) (y := v1) f1 (by rw [d4 2 (by decide) (by omega) (by omega)]; exact pr) hv (by rw [d4 2 (by decide) (by omega) (by omega)]; exact hq)
    have ek : gd_nk C4 (C4 5) = gd_nk c (c 5) := by
      unfold gd_nk
      rw [d4 3 (by decide) (by omega) (by omega), d4 5 (by decide) (by omega) (by omega), d4 0 (by decide) (by omega) (by omega)]
    rw [ek] at y1 y4
    unfold F_X12_doubts_J92_2
    rw [if_pos (by decide : (0 : Int32).toInt = 0), q_letE (F_X12_takes X τ4 a f)]
    unfold F_X12_doubts_J105_3
    rw [q_letE (F_X12_nextKind X (F_X12_takes X τ4 a f) a 0), q_letE (q_si (F_X12_takes X τ4 a f) (q_rf X a 20) (5 : Int32).toNatClampNeg (F_X12_nextKind X (F_X12_takes X τ4 a f) a 0)), if_pos (by decide : (0 : Int32).toInt = 0), q_letE, if_pos (by decide : (0 : Int32).toInt = 0)]
    have e9 : C4 9 = c 9 := d4 9 (by decide) (by omega) (by omega)
    rw [e9] at y3
    have Ax : ∀ d : Int, m_A C4 (-1) d (c 9).toNat = m_A c (-1) d (c 9).toNat := fun d => (gm_Lx (c := c) (c' := C4) (n := (c 9).toNat) (fun i i0 i1 => ((hG.2.2.1 i i0 (by omega)).1).2) (fun j j0 j1 => d4 j (by omega) (by omega) (by omega))).2 (-1) d
    refine ⟨f, _, _, rfl, f1, y1, t3.tr y2, ⟨fun j j0 j5 j6 j7 j8 j9 j22 j28 jh => ?_, ⟨?_, ?_, ?_, ?_, ?_⟩, ?_, ?_, fun d d0 d1 => ?_⟩, y4⟩
    · rw [m_up_ne j6, m_up_ne j5, m_up_ne j9, y3.1 j j0 jh, d4 j j7 j22 j28]
    · rw [m_up_ne (by decide), m_up_eq]
    · rw [m_up_eq]
    · rw [m_up_ne (by decide), m_up_ne (by decide), m_up_ne (by decide), y3.1 7 (by decide) (by omega), hC4, m_up_ne (by omega), m_up_ne (by omega), m_up_eq]
    · rw [m_up_ne (by decide), m_up_ne (by decide), m_up_ne (by decide), y3.1 8 (by decide) (by omega), d4 8 (by decide) (by omega) (by omega)]
    · rw [m_up_ne (by decide), m_up_ne (by decide), m_up_eq]
    · rw [m_up_ne (by omega), m_up_ne (by omega), m_up_ne (by omega), y3.1 _ (by omega) (by omega), hC4, m_up_ne (by omega), m_up_eq]
    · rw [m_up_ne (by omega), m_up_ne (by omega), m_up_ne (by omega), y3.1 _ (by omega) (by omega), hC4, m_up_eq]
    · have k0 : m_K C4 (94 + 7 * c 9) d (0 : Int).toNat = 0 := rfl
      rw [m_up_ne (by omega), m_up_ne (by omega), m_up_ne (by omega), y3.2 d d0 d1, Ax d, k0, d4 _ (by omega) (by omega) (by omega)]
      omega
/-- both games behind a doubt -/
theorem gm_doubt2 (Y : y_S X lb) (G : y_G X lb g o) (w : y_W X lb g o σ0 σ V) (R : rg V c) (hc : m_c X τ a = c) (hG : m_G c) (h7 : c 7 = 1) (hW : ∀ q : Int, 0 ≤ q → q < 6 → (0 ≤ c (22 + q) ∧ c (22 + q) ≤ 1000000) ∧ 0 ≤ c (28 + q) ∧ c (28 + q) ≤ 1000000) {v v' : Int32} {q : Int} (hv : v.toInt = q) (hv' : v'.toInt = q) (hq : 0 ≤ q ∧ q < c 2) :
    ∃ (z z' : Int32) (σ' τ' : ST) (V' : Nat → Int → Int) (c' : Int → Int) (t P kd tn W u : Int), F_X0_challenge X σ g v = (z, σ') ∧ F_X12_doubts X τ a v' = (z', τ') ∧ z.toInt = t ∧ z'.toInt = t ∧ (t = q ∨ t = c 6) ∧ y_W X lb g o σ0 σ' V' ∧ m_c X τ' a = c' ∧ tkl (fun b _ => b = q_rf X a 20) (fun _ _ => False) τ τ' ∧ rg V' c' ∧ m_G c' ∧ gd_V V V' t P kd tn W u ∧ gd_C c c' t P kd tn W u ∧ P = c 6 ∧ (t = P ↔ ¬ (F_X2_topTruth X σ (q_rf X g 2)).toInt = 0 ∨ q = P) ∧ (u = 0 ∨ u = 1) := by
  obtain ⟨b0, b2, b4, b5, b6, b7, b9, b79⟩ := hG.1
  have one : (1 : Int32).toInt = 1 := rfl
  have r9 : (τ.1 (q_rf X a 20) (9 : Int32).toNatClampNeg).toInt = c 9 := gm_cell (A := 9) hc rfl
  have f20 : (σ.1 (q_rf X g 2) 0).toInt = c 9 := (w.rd (id := 2) (by decide) 0 rfl).trans R.2.2.2.2.1.1
  have so := rg.sort Y G w R hG hc (v1 := σ.1 (q_rf X g 2) 0 - 1) (v1' := τ.1 (q_rf X a 20) (9 : Int32).toNatClampNeg - 1) (k := c 9 - 1) (by rw [ar_sub, f20, one, ar_wr (by omega) (by omega)]) (by rw [ar_sub, r9, one, ar_wr (by omega) (by omega)]) ⟨by omega, by omega⟩
  obtain ⟨s, hs⟩ : ∃ s, s = (F_X12_sortOf X τ a (τ.1 (q_rf X a 20) (9 : Int32).toNatClampNeg - 1)).toInt := ⟨_, rfl⟩
  have tt : (F_X2_topTruth X σ (q_rf X g 2)).toInt = s := by
    unfold F_X2_topTruth
    rw [q_letE, q_letE, q_letE]
    exact so.1.trans hs.symm
  obtain ⟨z, σ', V', x1, x2, x3, x4⟩ := gm_challenge Y G w R hG h7 hW hv hq tt
  obtain ⟨z', τ', c', y1, y2, y3, y4, y5, y6⟩ := gm_doubts hc hG h7 hW hv' hq hs.symm
  have rr := rg.doubt R hG (P := c 6) ⟨by omega, by omega⟩ (by split <;> omega) (by have w8 := R.2.1.2.2.1.2; split <;> (try split) <;> omega) x4 y5
  refine ⟨z, z', σ', τ', V', c', _, _, _, _, _, _, x1, y1, x2, y2, ?_, x3, y3, y4, rr, y6, x4, y5, rfl, ?_, ?_⟩
  · split
    · exact Or.inl rfl
    · exact Or.inr rfl
  · rw [tt]
    by_cases e : s = 0
    · rw [if_pos e]
      constructor
      · intro h; exact Or.inr h
      · rintro (h | h)
        · exact absurd e h
        · exact h
    · rw [if_neg e]
      exact ⟨fun _ => Or.inl e, fun _ => rfl⟩
  · split
    · exact Or.inl rfl
    · exact Or.inr rfl
end GJ

/-! FROM 49k.look.lean.txt -/
/-! WHAT IS LOOKED UP -/
/-- the relation speaks of what a copy takes along -/
theorem rg.x {V V' : Nat → Int → Int} {c c' : Int → Int} (R : rg V c) (hG : m_G c) (hV : ∀ (id : Nat) (i : Int), y_in y_all id i → V' id i = V id i) (hc : ∀ j : Int, 0 ≤ j → j < 654 → c' j = c j) : rg V' c' := by
  obtain ⟨⟨t1, t2, t3, t4, t5, t6⟩, ⟨s1, s2, s3, s4⟩, hpp, ⟨g1, g2⟩, ⟨l1, l2, l3⟩, ⟨a1, a2⟩⟩ := R
  obtain ⟨b0, b2, b4, b5, b6, b7, b9, b79⟩ := hG.1
  have cell : ∀ (id f : Nat), (id, f) ∈ y_all → f ≠ 99 → V' id (f : Int) = V id (f : Int) := fun id f h h9 => hV id _ ⟨(id, f), h, rfl, Or.inr ⟨h9, rfl⟩⟩
  have row : ∀ (id : Nat) (i : Int), (id, 99) ∈ y_all → 0 ≤ i → i < ((y_gn id : Nat) : Int) → V' id i = V id i := fun id i h i0 i1 => hV id i ⟨(id, 99), h, rfl, Or.inl ⟨rfl, i0, i1⟩⟩
  have n4 : ((y_gn 4 : Nat) : Int) = 10 := rfl
  have n7 : ((y_gn 7 : Nat) : Int) = 60 := rfl
  have n8 : ((y_gn 8 : Nat) : Int) = 60 := rfl
  have n9 : ((y_gn 9 : Nat) : Int) = 6 := rfl
  have n10 : ((y_gn 10 : Nat) : Int) = 6 := rfl
  have n11 : ((y_gn 11 : Nat) : Int) = 6 := rfl
  have n12 : ((y_gn 12 : Nat) : Int) = 6 := rfl
  have n13 : ((y_gn 13 : Nat) : Int) = 6 := rfl
  have n14 : ((y_gn 14 : Nat) : Int) = 80 := rfl
  have n15 : ((y_gn 15 : Nat) : Int) = 80 := rfl
  have n16 : ((y_gn 16 : Nat) : Int) = 80 := rfl
  have n17 : ((y_gn 17 : Nat) : Int) = 320 := rfl
  have e9 : c' 9 = c 9 := hc 9 (by decide) (by decide)
  have e2 : c' 2 = c 2 := hc 2 (by decide) (by decide)
  have Lx := gm_Lx (c := c) (c' := c') (n := (c 9).toNat) (fun i i0 i1 => ((hG.2.2.1 i i0 (by omega)).1).2) (fun j j0 j1 => hc j (by omega) (by omega))
  have Px : ∀ (k : Int) (n : Nat), 0 ≤ k → k < 10 → n ≤ 6 → m_P c' k n = m_P c k n := by
    intro k n k0 k1
    induction n with
    | zero => intro _; rfl
    | succ n ih =>
      intro hn
      show m_P c' k n + c' (34 + 10 * (n : Int) + k) = m_P c k n + c (34 + 10 * (n : Int) + k)
      rw [ih (by omega), hc _ (by omega) (by omega)]
  refine ⟨⟨?_, ?_, ?_, ?_, ?_, ?_⟩, ⟨?_, ?_, ?_, ?_⟩, fun q q0 q1 => ⟨?_, ?_, ?_, ?_⟩, ⟨fun j j0 j1 => ?_, fun q q0 q1 => ?_⟩, ⟨?_, ?_, fun k k0 k1 => ?_⟩, ⟨fun q k q0 q1 k0 k1 => ?_, fun k k0 k1 => ?_⟩⟩
  · rw [hc 0 (by decide) (by decide)]; exact (cell 1 0 (by decide) (by decide)).trans t1
  · rw [hc 1 (by decide) (by decide)]; exact (cell 1 1 (by decide) (by decide)).trans t2
  · rw [hc 3 (by decide) (by decide)]; exact (cell 1 2 (by decide) (by decide)).trans t3
  · rw [hc 4 (by decide) (by decide)]; exact (cell 1 3 (by decide) (by decide)).trans t4
  · rw [e2]; exact (cell 1 4 (by decide) (by decide)).trans t5
  · rw [hc 3 (by decide) (by decide)]; exact t6
  · rw [hc 5 (by decide) (by decide)]; exact (cell 0 4 (by decide) (by decide)).trans s1
  · rw [e2, hc 6 (by decide) (by decide)]; exact (cell 0 5 (by decide) (by decide)).trans s2
  · rw [hc 8 (by decide) (by decide)]; exact ⟨(cell 0 6 (by decide) (by decide)).trans s3.1, s3.2⟩
  · rw [hc 7 (by decide) (by decide)]; exact (cell 0 7 (by decide) (by decide)).trans s4
  · rw [row 10 q (by decide) q0 (by omega), hc _ (by omega) (by omega)]; exact (hpp q q0 q1).1
  · rw [row 11 q (by decide) q0 (by omega), hc _ (by omega) (by omega)]; exact (hpp q q0 q1).2.1
  · rw [row 12 q (by decide) q0 (by omega), hc _ (by omega) (by omega)]; exact (hpp q q0 q1).2.2.1
  · rw [row 13 q (by decide) q0 (by omega), hc _ (by omega) (by omega)]; exact (hpp q q0 q1).2.2.2
  · rw [row 7 j (by decide) j0 (by omega), hc _ (by omega) (by omega)]; exact g1 j j0 j1
  · rw [row 9 q (by decide) q0 (by omega), g2 q q0 q1]
    exact (m_S_ext (fun j x y => hc j (by omega) (by omega))).symm
  · rw [e9]; exact (cell 2 0 (by decide) (by decide)).trans l1
  · rw [e9, Lx.1]; exact (cell 2 1 (by decide) (by decide)).trans l2
  · rw [e9] at k1
    obtain ⟨y1, y2, y3, y5, y4⟩ := l3 k k0 k1
    have z4 := ((hG.2.2.1 k k0 k1).1).2
    rw [row 14 k (by decide) k0 (by omega), row 15 k (by decide) k0 (by omega), row 16 k (by decide) k0 (by omega), hc (94 + 7 * k) (by omega) (by omega), hc (94 + 7 * k + 1) (by omega) (by omega), hc (94 + 7 * k + 2) (by omega) (by omega)]
    refine ⟨y1, y2, y3, y5, fun i i0 i1 => ?_⟩
    rw [row 17 _ (by decide) (by omega) (by omega), hc _ (by omega) (by omega)]
    exact y4 i i0 i1
  · rw [row 8 _ (by decide) (by omega) (by omega), e9, Lx.2]; exact a1 q k q0 q1 k0 k1
  · rw [row 4 k (by decide) k0 (by omega), a2 k k0 k1]
    unfold m_I
    rw [e9, e2, Lx.2, Px k _ k0 k1 (by omega)]
/-- what a copy doesn't take along doesn't count -/
theorem rg.w {V V' : Nat → Int → Int} {c : Int → Int} (R : rg V c) (hG : m_G c) (hV : ∀ (id : Nat) (i : Int), id ≠ 23 → id ≠ 24 → (id ≠ 0 ∨ i ≤ 7) → V' id i = V id i) : rg V' c := by
  have a : ∀ e ∈ y_all, e.1 ≠ 23 ∧ e.1 ≠ 24 ∧ (e.1 ≠ 0 ∨ e.2 ≤ 7) := by decide
  refine R.x hG (fun id i h => ?_) (fun _ _ _ => rfl)
  obtain ⟨e, h1, h2, h3⟩ := h
  obtain ⟨x1, x2, x3⟩ := a e h1
  subst h2
  refine hV _ i x1 x2 ?_
  rcases x3 with x3 | x3
  · exact Or.inl x3
  · rcases h3 with h3 | h3
    · exact absurd h3.1 (by omega)
    · exact Or.inr (by omega)
section GK
variable {X : XW} {lb : Nat → Nat} {C a o : Nat} {σ τ σ0 τ0 : ST} {V V0 : Nat → Int → Int} {c c0 : Int → Int}
theorem lk_player (w : y_W X lb (q_rf X C 8) o σ0 σ V) (v : Int32) : (F_X11_isPlayer X σ C v).toInt = if 0 ≤ v.toInt ∧ v.toInt < V 1 4 then 1 else 0 := by
  have e : (σ.1 (q_rf X (q_rf X C 8) 0) 4).toInt = V 1 4 := w.rd (id := 1) (by decide) 4 rfl
  unfold F_X11_isPlayer
  by_cases q : v.toInt < 0
  · rw [if_pos q, if_neg (by omega)]; rfl
  · rw [if_neg q, q_letE, e]
    by_cases q2 : v.toInt < V 1 4
    · rw [if_pos q2, if_pos ⟨by omega, q2⟩]; rfl
    · rw [if_neg q2, if_neg (fun z => q2 z.2)]; rfl
theorem lk_kind (w : y_W X lb (q_rf X C 8) o σ0 σ V) (v : Int32) : (F_X11_isKind X σ C v).toInt = if 0 ≤ v.toInt ∧ v.toInt < V 1 0 then 1 else 0 := by
  have e : (σ.1 (q_rf X (q_rf X C 8) 0) 0).toInt = V 1 0 := w.rd (id := 1) (by decide) 0 rfl
  unfold F_X11_isKind
  by_cases q : v.toInt < 0
  · rw [if_pos q, if_neg (by omega)]; rfl
  · rw [if_neg q, q_letE, e]
    by_cases q2 : v.toInt < V 1 0
    · rw [if_pos q2, if_pos ⟨by omega, q2⟩]; rfl
    · rw [if_neg q2, if_neg (fun z => q2 z.2)]; rfl
theorem lk_kindNone (w : y_W X lb (q_rf X C 8) o σ0 σ V) (v : Int32) : (F_X11_isKindOrNone X σ C v).toInt = if v.toInt = -1 ∨ (0 ≤ v.toInt ∧ v.toInt < V 1 0) then 1 else 0 := by
  unfold F_X11_isKindOrNone
  by_cases q : v.toInt = -1
  · rw [if_pos q, if_pos (Or.inl q)]; rfl
  · rw [if_neg q, q_letE, lk_kind w]
    by_cases q2 : 0 ≤ v.toInt ∧ v.toInt < V 1 0
    · rw [if_pos q2, if_neg (by decide), if_pos (Or.inr q2)]; rfl
    · rw [if_neg q2, if_pos rfl, if_neg (by omega)]; rfl
theorem lk_playerAt (hc : m_c X τ a = c) (h2 : 0 ≤ c 2 ∧ c 2 ≤ 6) (v : Int32) : (F_X12_isPlayerAt X τ a v).toInt = if 0 ≤ v.toInt ∧ v.toInt < c 2 then 1 else 0 := by
  have one : (1 : Int32).toInt = 1 := rfl
  have z0 : (0 : Int64).toInt = 0 := rfl
  have r2 : (τ.1 (q_rf X a 20) (2 : Int32).toNatClampNeg).toInt = c 2 := gm_cell (A := 2) hc rfl
  unfold F_X12_isPlayerAt
  rw [q_letE, q_letE, q_letE, q_letE, q_letE, tm_isIn, ar_i2l, ar_i2l, z0, ar_sub, r2, one, ar_wr (by omega) (by omega)]
  by_cases q : 0 ≤ v.toInt ∧ v.toInt < c 2
  · rw [if_pos q, if_pos (by omega)]
  · rw [if_neg q, if_neg (by omega)]
theorem lk_kindAt (hc : m_c X τ a = c) (h0 : 2 ≤ c 0 ∧ c 0 ≤ 10) (v : Int32) : (F_X12_isKindAt X τ a v).toInt = if 0 ≤ v.toInt ∧ v.toInt < c 0 then 1 else 0 := by
  have one : (1 : Int32).toInt = 1 := rfl
  have z0 : (0 : Int64).toInt = 0 := rfl
  have r2 : (τ.1 (q_rf X a 20) (0 : Int32).toNatClampNeg).toInt = c 0 := gm_cell (A := 0) hc rfl
  unfold F_X12_isKindAt
  rw [q_letE, q_letE, q_letE, q_letE, q_letE, tm_isIn, ar_i2l, ar_i2l, z0, ar_sub, r2, one, ar_wr (by omega) (by omega)]
  by_cases q : 0 ≤ v.toInt ∧ v.toInt < c 0
  · rw [if_pos q, if_pos (by omega)]
  · rw [if_neg q, if_neg (by omega)]
theorem lk_six (v : Int32) : (F_X11_isSixteenths X σ v).toInt = if 0 ≤ v.toInt ∧ v.toInt ≤ 16 then 1 else 0 := by
  unfold F_X11_isSixteenths
  by_cases q : v.toInt < 0
  · rw [if_pos q, if_neg (by omega)]; rfl
  · rw [if_neg q]
    by_cases q2 : 16 < v.toInt
    · rw [if_pos q2, if_neg (by omega)]; rfl
    · rw [if_neg q2, if_pos (by omega)]; rfl
theorem lk_sixAt (v : Int32) : (F_X12_isIn X τ v.toInt64 (0 : Int64) (16 : Int64)).toInt = if 0 ≤ v.toInt ∧ v.toInt ≤ 16 then 1 else 0 := by
  have z0 : (0 : Int64).toInt = 0 := rfl
  have z16 : (16 : Int64).toInt = 16 := rfl
  rw [tm_isIn, ar_i2l, z0, z16]
/-- all cards in the heap -/
theorem lk_heapL (hc : m_c X τ a = c) (hG : m_G c) (fu : Nat) : ∀ x y : Int32, (2147483647 - y.toInt).toNat < fu → 0 ≤ y.toInt → y.toInt ≤ c 9 → x.toInt = m_L c y.toInt.toNat → (F_X12_heapMany_L4_1 X τ a fu x y).toInt = m_L c (c 9).toNat := by
  have b9 := hG.1.2.2.2.2.2.2.1
  have e2 : (2 : Int32).toInt = 2 := rfl
  have r9 : (τ.1 (q_rf X a 20) (9 : Int32).toNatClampNeg).toInt = c 9 := gm_cell (A := 9) hc rfl
  induction fu with
  | zero => intro x y h; exact absurd h (Nat.not_lt_zero _)
  | succ fu ih =>
    intro x y hf y0 y1 hx
    rw [F_X12_heapMany_L4_1_s]
    unfold F_X12_heapMany_B4_1
    rw [q_letE (τ.1 (q_rf X a 20) (9 : Int32).toNatClampNeg), r9]
    by_cases q : y.toInt < c 9
    · have y4 := (hG.2.2.1 y.toInt y0 q).1
      have l80 := hG.L80 y0 y1
      have hl := gm_laid (X := X) (τ := τ) (v := y) rfl ⟨y0, by omega⟩
      have ei : (F_X12_laid X τ y + 2).toInt = 94 + 7 * y.toInt + 2 := by rw [ar_add, hl, e2, ar_wr (by omega) (by omega)]
      have r2 : (τ.1 (q_rf X a 20) (F_X12_laid X τ y + 2).toNatClampNeg).toInt = c (94 + 7 * y.toInt + 2) := gm_cell hc ei
      have ey : (y + 1).toInt = y.toInt + 1 := y_inc (by omega)
      rw [if_pos q, q_letE (F_X12_laid X τ y), q_letE (F_X12_laid X τ y + 2), q_letE (τ.1 (q_rf X a 20) (F_X12_laid X τ y + 2).toNatClampNeg), q_letE, q_letE]
      refine ih _ _ (by omega) (by omega) (by omega) ?_
      rw [ar_add, r2, hx, ey, m_L_succ c y.toInt y0, ar_wr (by omega) (by omega)]
    · have ey : y.toInt = c 9 := by omega
      rw [if_neg q, hx, ey]
theorem lk_heap (hc : m_c X τ a = c) (hG : m_G c) : (F_X12_heapMany X τ a).toInt = m_L c (c 9).toNat := by
  have z0 : (0 : Int32).toInt = 0 := rfl
  unfold F_X12_heapMany
  exact lk_heapL hc hG _ 0 0 (by decide) (by decide) (by rw [z0]; exact hG.1.2.2.2.2.2.2.1.1) (by rw [z0]; rfl)
end GK

/-! FROM 49l.lay.lean.txt -/
/-! A LAYING CALLED -/
abbrev ly_ok (N v : Int) : Prop := v = -1 ∨ (0 ≤ v ∧ v < N)
def ly_n (v : Int) : Int := if v = -1 then 0 else 1
def ly_1 (v j : Int) : Int := if v = j then 1 else 0
def ly_l (p q r s j : Int) : Int := ly_1 p j + ly_1 q j + ly_1 r j + ly_1 s j
theorem ly_1b (v j : Int) : 0 ≤ ly_1 v j ∧ ly_1 v j ≤ 1 := by
  unfold ly_1
  split <;> omega
theorem ly_nb (v : Int) : 0 ≤ ly_n v ∧ ly_n v ≤ 1 := by
  unfold ly_n
  split <;> omega
theorem ly_S1 {v : Int} (h : ly_ok 10 v) : m_S (ly_1 v) 0 10 = ly_n v := by
  rcases (by unfold ly_ok at h; omega : v = -1 ∨ v = 0 ∨ v = 1 ∨ v = 2 ∨ v = 3 ∨ v = 4 ∨ v = 5 ∨ v = 6 ∨ v = 7 ∨ v = 8 ∨ v = 9) with e | e | e | e | e | e | e | e | e | e | e <;> subst e <;> rfl
theorem m_S_plus (f g : Int → Int) (b : Int) (n : Nat) : m_S (fun j => f j + g j) b n = m_S f b n + m_S g b n := by
  induction n with
  | zero => rfl
  | succ n ih =>
    show m_S (fun j => f j + g j) b n + (f (b + (n : Int)) + g (b + (n : Int))) = m_S f b n + f (b + (n : Int)) + (m_S g b n + g (b + (n : Int)))
    rw [ih]
    omega
theorem ly_S {p q r s : Int} (hp : ly_ok 10 p) (hq : ly_ok 10 q) (hr : ly_ok 10 r) (hs : ly_ok 10 s) : m_S (ly_l p q r s) 0 10 = ly_n p + ly_n q + ly_n r + ly_n s := by
  have e : ly_l p q r s = fun j => (fun j => (fun j => ly_1 p j + ly_1 q j) j + ly_1 r j) j + ly_1 s j := rfl
  rw [e, m_S_plus (fun j => (fun j => ly_1 p j + ly_1 q j) j + ly_1 r j) (ly_1 s), m_S_plus (fun j => ly_1 p j + ly_1 q j) (ly_1 r), m_S_plus (ly_1 p) (ly_1 q), ly_S1 hp, ly_S1 hq, ly_S1 hr, ly_S1 hs]
section GL
variable {X : XW} {lb : Nat → Nat} {C g o a : Nat} {σ τ σ0 τ0 : ST} {V V0 : Nat → Int → Int} {c c0 l : Int → Int}
/-! the class -/
theorem ly_want (Y : y_S X lb) (G : y_G X lb g o) (w : y_W X lb g o σ0 τ V) {v : Int32} (h : ly_ok 10 v.toInt) (b : ∀ j : Int, 0 ≤ j → j < 10 → 0 ≤ V 23 j ∧ V 23 j ≤ 10) (b9 : 0 ≤ V 0 9 ∧ V 0 9 ≤ 10) :
    ∃ V' : Nat → Int → Int, y_W X lb g o σ0 (F_X0_want X τ g v 1) V' ∧ (∀ (id : Nat) (i : Int), id ≠ 23 → (id ≠ 0 ∨ i ≠ 9) → V' id i = V id i) ∧ (∀ j : Int, 0 ≤ j → j < 10 → V' 23 j = V 23 j + ly_1 v.toInt j) ∧ V' 0 9 = V 0 9 + ly_n v.toInt := by
  have one : (1 : Int32).toInt = 1 := rfl
  have gn : ((y_gn 23 : Nat) : Int) = 10 := rfl
  unfold F_X0_want ly_n
  by_cases q : v.toInt = -1
  · rw [if_pos q, if_pos q]
    refine ⟨V, w, fun _ _ _ _ => rfl, fun j j0 j1 => ?_, by omega⟩
    unfold ly_1
    rw [if_neg (by omega)]
    omega
  · have hv : 0 ≤ v.toInt ∧ v.toInt < 10 := by
      unfold ly_ok at h
      omega
    have bv := b v.toInt hv.1 hv.2
    rw [if_neg q, if_neg q, q_letE (F_X5_add X τ (q_rf X g 8) v 1)]
    have w1 := w.add Y G (id := 23) (r := q_rf X g 8) ⟨by decide, by decide⟩ rfl v 1 hv.1 (by rw [gn]; exact hv.2)
    rw [one, ar_wr (by omega) (by omega)] at w1
    obtain ⟨τ1, e1⟩ : ∃ s, s = F_X5_add X τ (q_rf X g 8) v 1 := ⟨_, rfl⟩
    rw [← e1] at w1 ⊢
    have f9 : (τ1.1 g 9).toInt = V 0 9 := (w1.rd (id := 0) (by decide) 9 rfl).trans (y_up_ne (Or.inl (by decide)))
    rw [q_letE (τ1.1 g 9)]
    obtain ⟨u, hu⟩ : ∃ u, u = τ1.1 g 9 + 1 := ⟨_, rfl⟩
    have uv : u.toInt = V 0 9 + 1 := by rw [hu, ar_add, f9, one, ar_wr (by omega) (by omega)]
    rw [← hu, q_letE u, q_letE (q_si τ1 g 9 u)]
    have w2 : y_W X lb g o σ0 (q_si τ1 g 9 u) (y_up (y_up V 23 v.toInt (V 23 v.toInt + 1)) 0 9 u.toInt) := w1.si Y G (id := 0) (by decide) 9 u
    rw [uv] at w2
    refine ⟨_, w2, fun id i i23 i0 => ?_, fun j j0 j1 => ?_, y_up_eq _ _ _ _⟩
    · rw [y_up_ne i0, y_up_ne (Or.inl i23)]
    · rw [y_up_ne (Or.inl (by decide))]
      unfold ly_1
      by_cases e : v.toInt = j
      · rw [if_pos e, ← e, y_up_eq]
      · rw [if_neg e, y_up_ne (Or.inr (fun z => e z.symm))]; omega
theorem ly_holdL (Y : y_S X lb) (G : y_G X lb g o) (w : y_W X lb g o σ0 τ V) {N p : Int} (hN : V 1 0 = N) (bN : 0 ≤ N ∧ N ≤ 10) (hp : V 0 5 = p) (bp : 0 ≤ p ∧ p < 6) (fu : Nat) : ∀ x : Int32, (2147483647 - x.toInt).toNat < fu → 0 ≤ x.toInt → x.toInt ≤ N → ((F_X0_holdsWanted_L2_1 X τ g fu x).toInt = 1 ∨ (F_X0_holdsWanted_L2_1 X τ g fu x).toInt = 0) ∧ ((F_X0_holdsWanted_L2_1 X τ g fu x).toInt = 1 ↔ ∀ k : Int, x.toInt ≤ k → k < N → V 23 k ≤ V 7 (10 * p + k)) := by
  have gn7 : ((y_gn 7 : Nat) : Int) = 60 := rfl
  have gn23 : ((y_gn 23 : Nat) : Int) = 10 := rfl
  have e10 : (10 : Int32).toInt = 10 := rfl
  have f0 : (τ.1 (q_rf X g 0) 0).toInt = N := (w.rd (id := 1) (by decide) 0 rfl).trans hN
  have f5 : (τ.1 g 5).toInt = p := (w.rd (id := 0) (by decide) 5 rfl).trans hp
  induction fu with
  | zero => intro x h; exact absurd h (Nat.not_lt_zero _)
  | succ fu ih =>
    intro x hf x0 x1
    rw [F_X0_holdsWanted_L2_1_s]
    unfold F_X0_holdsWanted_B2_1
    rw [q_letE (τ.1 (q_rf X g 0) 0), f0]
    by_cases q : x.toInt < N
    · have ei : (τ.1 g 5 * 10 + x).toInt = 10 * p + x.toInt := by
        rw [ar_add, ar_mul, f5, e10, ar_wr (n := p * 10) (by omega) (by omega), ar_wr (by omega) (by omega)]
        omega
      have h7 : (F_X1_heldBy X τ (q_rf X g 1) (τ.1 g 5) x).toInt = V 7 (10 * p + x.toInt) := by
        unfold F_X1_heldBy
        rw [q_letE, q_letE, q_letE]
        exact y_getI Y G w (id := 7) ⟨by decide, by decide⟩ rfl ei (by omega) (by rw [gn7]; omega)
      have h23 : (F_X5_get X τ (q_rf X g 8) x).toInt = V 23 x.toInt := y_getI Y G w (id := 23) ⟨by decide, by decide⟩ rfl (x := x) rfl x0 (by rw [gn23]; omega)
      have ex : (x + 1).toInt = x.toInt + 1 := y_inc (by omega)
      rw [if_pos q, q_letE (τ.1 g 5), q_letE (F_X1_heldBy X τ (q_rf X g 1) (τ.1 g 5) x), q_letE (F_X5_get X τ (q_rf X g 8) x), h7, h23]
      by_cases q2 : V 7 (10 * p + x.toInt) < V 23 x.toInt
      · rw [if_pos q2]
        refine ⟨Or.inr rfl, ⟨fun h => absurd h (by decide), fun h => ?_⟩⟩
        have := h x.toInt (Int.le_refl _) q
        omega
      · rw [if_neg q2, q_letE (x + 1)]
        obtain ⟨i1, i2⟩ := ih (x + 1) (by omega) (by omega) (by omega)
        refine ⟨i1, i2.trans ⟨fun h k k0 k1 => ?_, fun h k k0 k1 => h k (by omega) k1⟩⟩
        by_cases e : k = x.toInt
        · rw [e]; omega
        · exact h k (by omega) k1
    · rw [if_neg q]
      exact ⟨Or.inl rfl, ⟨fun _ k k0 k1 => by omega, fun _ => rfl⟩⟩
/-! the reference -/
theorem lr_J161 (Bf : Int32 → Int32 → Int32 → Int32 → ST → Int32 × ST) (ha : q_rf X a 28 ≠ q_rf X a 29) {n i v e' g' : Int32} (hv : τ.1 (q_rf X a 29) i.toNatClampNeg = v) (ok : ly_ok 10 v.toInt) (bn : 0 ≤ n.toInt ∧ n.toInt ≤ 10) (bl : ∀ j : Int, 0 ≤ j → j < 10 → 0 ≤ (τ.1 (q_rf X a 28) j.toNat).toInt ∧ (τ.1 (q_rf X a 28) j.toNat).toInt ≤ 10) :
    ∃ (n' : Int32) (τ' : ST), F_X12_lay_J161_10 X τ a i n Bf e' g' = Bf n' g' e' (i + 1) τ' ∧ n'.toInt = n.toInt + ly_n v.toInt ∧ tkl (fun b _ => b = q_rf X a 28) (fun _ _ => False) τ τ' ∧ ∀ j : Int, 0 ≤ j → j < 10 → (τ'.1 (q_rf X a 28) j.toNat).toInt = (τ.1 (q_rf X a 28) j.toNat).toInt + ly_1 v.toInt j := by
  have one : (1 : Int32).toInt = 1 := rfl
  have z0 : (0 : Int32).toInt = 0 := rfl
  unfold F_X12_lay_J161_10 ly_n
  rw [q_letE (τ.1 (q_rf X a 29) i.toNatClampNeg), hv]
  by_cases q : v.toInt = -1
  · rw [if_pos q, if_pos q, q_letE (n + 0), q_letE v, if_pos q, q_letE (i + 1)]
    refine ⟨n + 0, τ, rfl, ?_, tkl.rf, fun j j0 j1 => ?_⟩
    · rw [ar_add, z0, ar_wr (by omega) (by omega)]
    · unfold ly_1
      rw [if_neg (by omega)]
      omega
  · have hv10 : 0 ≤ v.toInt ∧ v.toInt < 10 := by
      unfold ly_ok at ok
      omega
    have bv := bl v.toInt hv10.1 hv10.2
    rw [if_neg q, if_neg q, q_letE (n + 1), q_letE v, if_neg q, q_letE v, q_letE (τ.1 (q_rf X a 28) v.toNatClampNeg)]
    obtain ⟨u, hu⟩ : ∃ u, u = τ.1 (q_rf X a 28) v.toNatClampNeg + 1 := ⟨_, rfl⟩
    have uv : u.toInt = (τ.1 (q_rf X a 28) v.toInt.toNat).toInt + 1 := by
      rw [hu, ar_add, one, ar_cl, ar_wr (by omega) (by omega)]
    rw [← hu, q_letE u, q_letE (q_si τ (q_rf X a 28) v.toNatClampNeg u), q_letE (i + 1)]
    refine ⟨n + 1, _, rfl, ?_, tkl.rf.si _ rfl, fun j j0 j1 => ?_⟩
    · rw [ar_add, one, ar_wr (by omega) (by omega)]
    · unfold ly_1
      show (if q_rf X a 28 = q_rf X a 28 ∧ j.toNat = v.toNatClampNeg then u else τ.1 (q_rf X a 28) j.toNat).toInt = _
      by_cases e : v.toInt = j
      · rw [if_pos e, if_pos ⟨rfl, by rw [ar_cl, e]⟩, uv, e]
      · rw [if_neg e, if_neg (fun z => e (by have := z.2; rw [ar_cl] at this; omega))]
        omega
theorem lr_step (Bf : Int32 → Int32 → Int32 → Int32 → ST → Int32 × ST) (ha : q_rf X a 28 ≠ q_rf X a 29) (hc : m_c X τ a = c) (h0 : 2 ≤ c 0 ∧ c 0 ≤ 10) {n g e i v : Int32} (hi : i.toInt < 4) (hv : τ.1 (q_rf X a 29) i.toNatClampNeg = v) (ok : ly_ok (c 0) v.toInt) (bn : 0 ≤ n.toInt ∧ n.toInt ≤ 10) (bl : ∀ j : Int, 0 ≤ j → j < 10 → 0 ≤ (τ.1 (q_rf X a 28) j.toNat).toInt ∧ (τ.1 (q_rf X a 28) j.toNat).toInt ≤ 10) :
    ∃ (n' g' e' : Int32) (τ' : ST), F_X12_lay_B75_3 X a Bf n g e i τ = Bf n' g' e' (i + 1) τ' ∧ n'.toInt = n.toInt + ly_n v.toInt ∧ (e'.toInt = 0 ↔ e.toInt = 0 ∧ v.toInt ≠ -1) ∧ (g'.toInt = 0 ↔ g.toInt = 0 ∧ (e.toInt = 0 ∨ v.toInt = -1)) ∧ tkl (fun b _ => b = q_rf X a 28) (fun _ _ => False) τ τ' ∧ ∀ j : Int, 0 ≤ j → j < 10 → (τ'.1 (q_rf X a 28) j.toNat).toInt = (τ.1 (q_rf X a 28) j.toNat).toInt + ly_1 v.toInt j := by
  have ok10 : ly_ok 10 v.toInt := by
    unfold ly_ok at ok ⊢
    omega
  have one : (1 : Int32).toInt = 1 := rfl
  have z0 : (0 : Int32).toInt = 0 := rfl
  -- behind the flags
  have fin : ∀ e' g' : Int32, ∃ (n' : Int32) (τ' : ST), F_X12_lay_J161_10 X τ a i n Bf e' g' = Bf n' g' e' (i + 1) τ' ∧ n'.toInt = n.toInt + ly_n v.toInt ∧ tkl (fun b _ => b = q_rf X a 28) (fun _ _ => False) τ τ' ∧ ∀ j : Int, 0 ≤ j → j < 10 → (τ'.1 (q_rf X a 28) j.toNat).toInt = (τ.1 (q_rf X a 28) j.toNat).toInt + ly_1 v.toInt j := fun e' g' => lr_J161 Bf ha hv ok10 bn bl
  have j133 : ∀ e' : Int32, (e'.toInt = 0 ↔ e.toInt = 0 ∧ v.toInt ≠ -1) → ∃ (n' g' : Int32) (τ' : ST), F_X12_lay_J133_9 X g τ a i n Bf e' = Bf n' g' e' (i + 1) τ' ∧ n'.toInt = n.toInt + ly_n v.toInt ∧ (g'.toInt = 0 ↔ g.toInt = 0 ∧ (e.toInt = 0 ∨ v.toInt = -1)) ∧ tkl (fun b _ => b = q_rf X a 28) (fun _ _ => False) τ τ' ∧ ∀ j : Int, 0 ≤ j → j < 10 → (τ'.1 (q_rf X a 28) j.toNat).toInt = (τ.1 (q_rf X a 28) j.toNat).toInt + ly_1 v.toInt j := by
    intro e' he
    unfold F_X12_lay_J133_9
    by_cases q : g.toInt = 0
    · rw [if_pos q]
      by_cases q2 : e'.toInt = 0
      · rw [if_pos q2]
        obtain ⟨n', τ', f1, f2, f3, f4⟩ := fin e' 0
        exact ⟨n', 0, τ', f1, f2, ⟨fun _ => ⟨q, Or.inl (he.mp q2).1⟩, fun _ => rfl⟩, f3, f4⟩
      · rw [if_neg q2, q_letE (τ.1 (q_rf X a 29) i.toNatClampNeg), hv]
        by_cases q3 : v.toInt = -1
        · rw [if_pos q3]
          obtain ⟨n', τ', f1, f2, f3, f4⟩ := fin e' 0
          exact ⟨n', 0, τ', f1, f2, ⟨fun _ => ⟨q, Or.inr q3⟩, fun _ => rfl⟩, f3, f4⟩
        · rw [if_neg q3]
          obtain ⟨n', τ', f1, f2, f3, f4⟩ := fin e' 1
          refine ⟨n', 1, τ', f1, f2, ⟨fun h => absurd h (by decide), fun h => ?_⟩, f3, f4⟩
          rcases h.2 with h | h
          · exact absurd (he.mpr ⟨h, q3⟩) q2
          · exact absurd h q3
    · rw [if_neg q]
      obtain ⟨n', τ', f1, f2, f3, f4⟩ := fin e' 1
      exact ⟨n', 1, τ', f1, f2, ⟨fun h => absurd h (by decide), fun h => absurd h.1 q⟩, f3, f4⟩
  have j112 : ∃ (n' g' e' : Int32) (τ' : ST), F_X12_lay_J112_8 X e τ a i g n Bf = Bf n' g' e' (i + 1) τ' ∧ n'.toInt = n.toInt + ly_n v.toInt ∧ (e'.toInt = 0 ↔ e.toInt = 0 ∧ v.toInt ≠ -1) ∧ (g'.toInt = 0 ↔ g.toInt = 0 ∧ (e.toInt = 0 ∨ v.toInt = -1)) ∧ tkl (fun b _ => b = q_rf X a 28) (fun _ _ => False) τ τ' ∧ ∀ j : Int, 0 ≤ j → j < 10 → (τ'.1 (q_rf X a 28) j.toNat).toInt = (τ.1 (q_rf X a 28) j.toNat).toInt + ly_1 v.toInt j := by
    unfold F_X12_lay_J112_8
    by_cases q : e.toInt = 0
    · rw [if_pos q, q_letE (τ.1 (q_rf X a 29) i.toNatClampNeg), hv]
      by_cases q2 : v.toInt = -1
      · rw [if_pos q2]
        have he : (1 : Int32).toInt = 0 ↔ e.toInt = 0 ∧ v.toInt ≠ -1 := ⟨fun h => absurd h (by decide), fun h => absurd q2 h.2⟩
        obtain ⟨n', g', τ', f1, f2, f3, f4, f5⟩ := j133 1 he
        exact ⟨n', g', 1, τ', f1, f2, he, f3, f4, f5⟩
      · rw [if_neg q2]
        have he : (0 : Int32).toInt = 0 ↔ e.toInt = 0 ∧ v.toInt ≠ -1 := ⟨fun _ => ⟨q, q2⟩, fun _ => rfl⟩
        obtain ⟨n', g', τ', f1, f2, f3, f4, f5⟩ := j133 0 he
        exact ⟨n', g', 0, τ', f1, f2, he, f3, f4, f5⟩
    · rw [if_neg q]
      have he : (1 : Int32).toInt = 0 ↔ e.toInt = 0 ∧ v.toInt ≠ -1 := ⟨fun h => absurd h (by decide), fun h => absurd h.1 q⟩
      obtain ⟨n', g', τ', f1, f2, f3, f4, f5⟩ := j133 1 he
      exact ⟨n', g', 1, τ', f1, f2, he, f3, f4, f5⟩
  unfold F_X12_lay_B75_3
  rw [if_pos hi, q_letE (τ.1 (q_rf X a 29) i.toNatClampNeg), hv]
  by_cases q : v.toInt = -1
  · rw [if_pos q]; exact j112
  · have k := lk_kindAt hc h0 v
    rw [if_pos (by unfold ly_ok at ok; omega)] at k
    rw [if_neg q, q_letE v, q_letE (F_X12_isKindAt X τ a v), k, if_neg (by decide : ¬ (1 : Int) = 0)]
    exact j112
theorem lr_bad (Bf : Int32 → Int32 → Int32 → Int32 → ST → Int32 × ST) (hc : m_c X τ a = c) (h0 : 2 ≤ c 0 ∧ c 0 ≤ 10) {n g e i v : Int32} (hi : i.toInt < 4) (hv : τ.1 (q_rf X a 29) i.toNatClampNeg = v) (ok : ¬ ly_ok (c 0) v.toInt) : F_X12_lay_B75_3 X a Bf n g e i τ = (-1, q_si τ a 0 2) := by
  have q : ¬ v.toInt = -1 := fun h => ok (Or.inl h)
  have k := lk_kindAt hc h0 v
  rw [if_neg (fun h => ok (Or.inr h))] at k
  unfold F_X12_lay_B75_3
  rw [if_pos hi, q_letE (τ.1 (q_rf X a 29) i.toNatClampNeg), hv, if_neg q, q_letE v, q_letE (F_X12_isKindAt X τ a v), k, if_pos rfl]
  unfold F_X12_lay_E106_11 F_X12_refuse
  rw [q_letE]
  rfl
theorem lr_clear (fu : Nat) : ∀ (x : Int32) (τ : ST), (2147483647 - x.toInt).toNat < fu → 0 ≤ x.toInt → x.toInt ≤ 10 → (∀ j : Int, 0 ≤ j → j < x.toInt → (τ.1 (q_rf X a 28) j.toNat).toInt = 0) → ∃ τ' : ST, F_X12_lay_L42_1 X a fu x τ = F_X12_lay_L75_3 X a ((2147483647 - (0 : Int32).toInt).toNat + 1) 0 0 0 0 τ' ∧ tkl (fun b _ => b = q_rf X a 28) (fun _ _ => False) τ τ' ∧ ∀ j : Int, 0 ≤ j → j < 10 → (τ'.1 (q_rf X a 28) j.toNat).toInt = 0 := by
  induction fu with
  | zero => intro x τ h; exact absurd h (Nat.not_lt_zero _)
  | succ fu ih =>
    intro x τ hf x0 x1 hz
    rw [F_X12_lay_L42_1_s]
    unfold F_X12_lay_B42_1
    by_cases q : x.toInt < 10
    · have ex : (x + 1).toInt = x.toInt + 1 := y_inc (by omega)
      rw [if_pos q, q_letE (q_si τ (q_rf X a 28) x.toNatClampNeg 0), q_letE (x + 1)]
      obtain ⟨τ', i1, i2, i3⟩ := ih (x + 1) (q_si τ (q_rf X a 28) x.toNatClampNeg 0) (by omega) (by omega) (by omega) (fun j j0 j1 => by
        show (if q_rf X a 28 = q_rf X a 28 ∧ j.toNat = x.toNatClampNeg then (0 : Int32) else τ.1 (q_rf X a 28) j.toNat).toInt = 0
        by_cases e : j = x.toInt
        · rw [if_pos ⟨rfl, by rw [ar_cl, e]⟩]; rfl
        · rw [if_neg (fun z => e (by have := z.2; rw [ar_cl] at this; omega))]
          exact hz j j0 (by omega))
      have t0 : tkl (fun b _ => b = q_rf X a 28) (fun _ _ => False) τ (q_si τ (q_rf X a 28) x.toNatClampNeg 0) := tkl.rf.si _ rfl
      exact ⟨τ', i1, t0.tr i2, i3⟩
    · rw [if_neg q]
      exact ⟨τ, rfl, tkl.rf, fun j j0 j1 => hz j j0 (by omega)⟩
/-- what the reference writes in a call, beside its table -/
def mv_S (X : XW) (a : Nat) (b f : Nat) : Prop := b = q_rf X a 20 ∨ b = a ∧ (f = 0 ∨ f = 1) ∨ b = q_rf X a 28 ∨ b = q_rf X a 29
theorem lr_asked (hT : q_T X) (ha : q_kd X a = 12) (hc : m_c X τ a = c) (h0 : 2 ≤ c 0 ∧ c 0 ≤ 10) (p q r s : Int32) :
    (¬ (ly_ok (c 0) p.toInt ∧ ly_ok (c 0) q.toInt ∧ ly_ok (c 0) r.toInt ∧ ly_ok (c 0) s.toInt) ∧ ∃ τ' : ST, F_X12_lay X τ a p q r s = (-1, q_si τ' a 0 2) ∧ m_c X τ' a = c ∧ tkl (mv_S X a) (fun _ _ => False) τ τ') ∨
    ((ly_ok (c 0) p.toInt ∧ ly_ok (c 0) q.toInt ∧ ly_ok (c 0) r.toInt ∧ ly_ok (c 0) s.toInt) ∧ ∃ (n g : Int32) (τ' : ST), F_X12_lay X τ a p q r s = F_X12_lay_E217_7 X n τ' a g ∧ n.toInt = ly_n p.toInt + ly_n q.toInt + ly_n r.toInt + ly_n s.toInt ∧ (g.toInt = 0 ↔ (p.toInt = -1 → q.toInt = -1) ∧ (p.toInt = -1 ∨ q.toInt = -1 → r.toInt = -1) ∧ (p.toInt = -1 ∨ q.toInt = -1 ∨ r.toInt = -1 → s.toInt = -1)) ∧ m_c X τ' a = c ∧ (τ'.1 a 0).toInt = 0 ∧ tkl (mv_S X a) (fun _ _ => False) τ τ' ∧ ∀ j : Int, 0 ≤ j → j < 10 → (τ'.1 (q_rf X a 28) j.toNat).toInt = ly_l p.toInt q.toInt r.toInt s.toInt j) := by
  have k28 : q_kd X (q_rf X a 28) = 39 := (hT.1 a 28 (by rw [ha]; decide)).trans (by rw [ha]; rfl)
  have k29 : q_kd X (q_rf X a 29) = 40 := (hT.1 a 29 (by rw [ha]; decide)).trans (by rw [ha]; rfl)
  have k20 := (tb_k hT ha).1
  have n89 : q_rf X a 28 ≠ q_rf X a 29 := m_ne k28 k29 (by decide)
  have n80 : q_rf X a 28 ≠ q_rf X a 20 := m_ne k28 k20 (by decide)
  have n90 : q_rf X a 29 ≠ q_rf X a 20 := m_ne k29 k20 (by decide)
  have na0 : a ≠ q_rf X a 20 := Ne.symm (m_ne k20 ha (by decide))
  have na8 : a ≠ q_rf X a 28 := Ne.symm (m_ne k28 ha (by decide))
  have na9 : a ≠ q_rf X a 29 := Ne.symm (m_ne k29 ha (by decide))
  have z0 : (0 : Int32).toInt = 0 := rfl
  unfold F_X12_lay
  rw [q_letE (q_si τ a 1 0), q_letE (q_si (q_si τ a 1 0) a 0 0), q_letE (q_si (q_si (q_si τ a 1 0) a 0 0) (q_rf X a 29) (0 : Int32).toNatClampNeg p), q_letE (q_si (q_si (q_si (q_si τ a 1 0) a 0 0) (q_rf X a 29) (0 : Int32).toNatClampNeg p) (q_rf X a 29) (1 : Int32).toNatClampNeg q), q_letE (q_si (q_si (q_si (q_si (q_si τ a 1 0) a 0 0) (q_rf X a 29) (0 : Int32).toNatClampNeg p) (q_rf X a 29) (1 : Int32).toNatClampNeg q) (q_rf X a 29) (2 : Int32).toNatClampNeg r), q_letE (q_si (q_si (q_si (q_si (q_si (q_si τ a 1 0) a 0 0) (q_rf X a 29) (0 : Int32).toNatClampNeg p) (q_rf X a 29) (1 : Int32).toNatClampNeg q) (q_rf X a 29) (2 : Int32).toNatClampNeg r) (q_rf X a 29) (3 : Int32).toNatClampNeg s)]
  obtain ⟨τ1, e1⟩ : ∃ t, t = q_si (q_si (q_si (q_si (q_si (q_si τ a 1 0) a 0 0) (q_rf X a 29) (0 : Int32).toNatClampNeg p) (q_rf X a 29) (1 : Int32).toNatClampNeg q) (q_rf X a 29) (2 : Int32).toNatClampNeg r) (q_rf X a 29) (3 : Int32).toNatClampNeg s := ⟨_, rfl⟩
  have t1 : tkl (fun b f => b = a ∧ (f = 0 ∨ f = 1) ∨ b = q_rf X a 29) (fun _ _ => False) τ τ1 := by
    rw [e1]
    exact (((((tkl.rf.si _ (Or.inl ⟨rfl, Or.inr rfl⟩)).si _ (Or.inl ⟨rfl, Or.inl rfl⟩)).si _ (Or.inr rfl)).si _ (Or.inr rfl)).si _ (Or.inr rfl)).si _ (Or.inr rfl)
  have s1 : τ1.1 a 0 = 0 := by
    rw [e1, q_si_ne na9, q_si_ne na9, q_si_ne na9, q_si_ne na9, si_eq]
  have a3 : τ1.1 (q_rf X a 29) (3 : Int32).toNatClampNeg = s := by rw [e1, si_eq]
  have a2 : τ1.1 (q_rf X a 29) (2 : Int32).toNatClampNeg = r := by rw [e1, si_f (by decide), si_eq]
  have a1 : τ1.1 (q_rf X a 29) (1 : Int32).toNatClampNeg = q := by rw [e1, si_f (by decide), si_f (by decide), si_eq]
  have a0 : τ1.1 (q_rf X a 29) (0 : Int32).toNatClampNeg = p := by rw [e1, si_f (by decide), si_f (by decide), si_f (by decide), si_eq]
  rw [← e1]
  have cT : ∀ τ' : ST, tkl (mv_S X a) (fun _ _ => False) τ τ' → True := fun _ _ => trivial
  obtain ⟨τ2, c1, c2, c3⟩ := lr_clear (X := X) (a := a) ((2147483647 - (0 : Int32).toInt).toNat + 1) 0 τ1 (by decide) (by decide) (by decide) (fun j j0 j1 => absurd j1 (by rw [z0]; omega))
  rw [c1]
  obtain ⟨fu, hfu⟩ : ∃ fu : Nat, (2147483647 - (0 : Int32).toInt).toNat + 1 = fu + 5 := ⟨2147483643, by decide⟩
  rw [hfu]
  -- what stays through the steps
  have kc : ∀ τ' : ST, tkl (fun b _ => b = q_rf X a 28) (fun _ _ => False) τ2 τ' → m_c X τ' a = c ∧ (∀ f, τ'.1 (q_rf X a 29) f = τ1.1 (q_rf X a 29) f) ∧ τ'.1 a 0 = 0 ∧ tkl (mv_S X a) (fun _ _ => False) τ τ' := by
    intro τ' h
    have hh := c2.tr h
    refine ⟨?_, fun f => hh.1 _ f (fun z => n89 z.symm), ?_, ?_⟩
    · rw [← hc]
      funext j
      refine congrArg Int32.toInt ?_
      rw [hh.1 _ _ (fun z => n80 z.symm), t1.1 _ _ (fun z => by
        rcases z with z | z
        · exact na0 z.1.symm
        · exact n90 z.symm)]
    · rw [hh.1 a 0 na8]; exact s1
    · refine (t1.mono (fun b f z => ?_) (fun _ _ z => z)).tr (hh.mono (fun b f z => Or.inr (Or.inr (Or.inl z))) (fun _ _ z => z))
      rcases z with z | z
      · exact Or.inr (Or.inl z)
      · exact Or.inr (Or.inr (Or.inr z))
  have e00 : (0 : Int32) + 1 = 1 := by decide
  have e01 : (1 : Int32) + 1 = 2 := by decide
  have e02 : (2 : Int32) + 1 = 3 := by decide
  have e03 : (3 : Int32) + 1 = 4 := by decide
  have k2 := kc τ2 tkl.rf
  rw [F_X12_lay_L75_3_s]
  by_cases op : ¬ ly_ok (c 0) p.toInt
  · exact Or.inl ⟨fun h => op h.1, τ2, lr_bad _ k2.1 h0 (by decide) ((k2.2.1 _).trans a0) op, k2.1, k2.2.2.2⟩
  replace op := Classical.not_not.mp op
  obtain ⟨n3, g3, d3, τ3, x1, x2, x3, x4, x5, x6⟩ := lr_step (F_X12_lay_L75_3 X a (fu + 4)) n89 k2.1 h0 (n := 0) (g := 0) (e := 0) (i := 0) (by decide) ((k2.2.1 _).trans a0) op ⟨by decide, by decide⟩ (fun j j0 j1 => by rw [c3 j j0 j1]; omega)
  rw [x1, e00, F_X12_lay_L75_3_s]
  have k3 := kc τ3 x5
  have np := ly_nb p.toInt
  by_cases oq : ¬ ly_ok (c 0) q.toInt
  · exact Or.inl ⟨fun h => oq h.2.1, τ3, lr_bad _ k3.1 h0 (by decide) ((k3.2.1 _).trans a1) oq, k3.1, k3.2.2.2⟩
  replace oq := Classical.not_not.mp oq
  have v3 : ∀ j : Int, 0 ≤ j → j < 10 → (τ3.1 (q_rf X a 28) j.toNat).toInt = ly_1 p.toInt j := fun j j0 j1 => by rw [x6 j j0 j1, c3 j j0 j1]; omega
  obtain ⟨n4, g4, d4, τ4, y1, y2, y3, y4, y5, y6⟩ := lr_step (F_X12_lay_L75_3 X a (fu + 3)) n89 k3.1 h0 (n := n3) (g := g3) (e := d3) (i := 1) (by decide) ((k3.2.1 _).trans a1) oq (by omega) (fun j j0 j1 => by rw [v3 j j0 j1]; have := ly_1b p.toInt j; omega)
  rw [y1, e01, F_X12_lay_L75_3_s]
  have k4 := kc τ4 (x5.tr y5)
  have nq := ly_nb q.toInt
  by_cases or_ : ¬ ly_ok (c 0) r.toInt
  · exact Or.inl ⟨fun h => or_ h.2.2.1, τ4, lr_bad _ k4.1 h0 (by decide) ((k4.2.1 _).trans a2) or_, k4.1, k4.2.2.2⟩
  replace or_ := Classical.not_not.mp or_
  have v4 : ∀ j : Int, 0 ≤ j → j < 10 → (τ4.1 (q_rf X a 28) j.toNat).toInt = ly_1 p.toInt j + ly_1 q.toInt j := fun j j0 j1 => by rw [y6 j j0 j1, v3 j j0 j1]
  obtain ⟨n5, g5, d5, τ5, w1, w2, w3, w4, w5, w6⟩ := lr_step (F_X12_lay_L75_3 X a (fu + 2)) n89 k4.1 h0 (n := n4) (g := g4) (e := d4) (i := 2) (by decide) ((k4.2.1 _).trans a2) or_ (by omega) (fun j j0 j1 => by rw [v4 j j0 j1]; have := ly_1b p.toInt j; have := ly_1b q.toInt j; omega)
  rw [w1, e02, F_X12_lay_L75_3_s]
  have k5 := kc τ5 ((x5.tr y5).tr w5)
  have nr := ly_nb r.toInt
  by_cases os : ¬ ly_ok (c 0) s.toInt
  · exact Or.inl ⟨fun h => os h.2.2.2, τ5, lr_bad _ k5.1 h0 (by decide) ((k5.2.1 _).trans a3) os, k5.1, k5.2.2.2⟩
  replace os := Classical.not_not.mp os
  have v5 : ∀ j : Int, 0 ≤ j → j < 10 → (τ5.1 (q_rf X a 28) j.toNat).toInt = ly_1 p.toInt j + ly_1 q.toInt j + ly_1 r.toInt j := fun j j0 j1 => by rw [w6 j j0 j1, v4 j j0 j1]
  obtain ⟨n6, g6, d6, τ6, u1, u2, u3, u4, u5, u6⟩ := lr_step (F_X12_lay_L75_3 X a (fu + 1)) n89 k5.1 h0 (n := n5) (g := g5) (e := d5) (i := 3) (by decide) ((k5.2.1 _).trans a3) os (by omega) (fun j j0 j1 => by rw [v5 j j0 j1]; have := ly_1b p.toInt j; have := ly_1b q.toInt j; have := ly_1b r.toInt j; omega)
  rw [u1, e03, F_X12_lay_L75_3_s]
  have k6 := kc τ6 (((x5.tr y5).tr w5).tr u5)
  refine Or.inr ⟨⟨op, oq, or_, os⟩, n6, g6, τ6, ?_, ?_, ?_, k6.1, by rw [k6.2.2.1]; rfl, k6.2.2.2, fun j j0 j1 => ?_⟩
  · unfold F_X12_lay_B75_3
    rw [if_neg (by decide : ¬ (4 : Int32).toInt < 4)]
  · rw [u2, w2, y2, x2, z0]; omega
  · rw [u4, w4, y4, x4, w3, y3, x3]
    have t0 : (0 : Int32).toInt = 0 := rfl
    constructor
    · rintro ⟨⟨⟨⟨-, h1⟩, h2⟩, h3⟩, h4⟩
      refine ⟨fun h => ?_, fun h => ?_, fun h => ?_⟩
      · rcases h2 with h2 | h2
        · exact absurd h h2.2
        · exact h2
      · rcases h3 with h3 | h3
        · rcases h with h | h
          · exact absurd h h3.1.2
          · exact absurd h h3.2
        · exact h3
      · rcases h4 with h4 | h4
        · rcases h with h | h | h
          · exact absurd h h4.1.1.2
          · exact absurd h h4.1.2
          · exact absurd h h4.2
        · exact h4
    · rintro ⟨h1, h2, h3⟩
      refine ⟨⟨⟨⟨t0, Or.inl t0⟩, ?_⟩, ?_⟩, ?_⟩
      · by_cases e : p.toInt = -1
        · exact Or.inr (h1 e)
        · exact Or.inl ⟨t0, e⟩
      · by_cases e : p.toInt = -1 ∨ q.toInt = -1
        · exact Or.inr (h2 e)
        · exact Or.inl ⟨⟨t0, fun z => e (Or.inl z)⟩, fun z => e (Or.inr z)⟩
      · by_cases e : p.toInt = -1 ∨ q.toInt = -1 ∨ r.toInt = -1
        · exact Or.inr (h3 e)
        · exact Or.inl ⟨⟨⟨t0, fun z => e (Or.inl z)⟩, fun z => e (Or.inr (Or.inl z))⟩, fun z => e (Or.inr (Or.inr z))⟩
  · rw [u6 j j0 j1, v5 j j0 j1]
    rfl
end GL

/-! FROM 49m.mvlay.lean.txt -/
/-! A LAYING CALLED: both -/
/-- behind a call both games are the same, and what else stands as it was -/
def mv_R (X : XW) (lb : Nat → Nat) (C a : Nat) (σ σ' τ τ' : ST) (V : Nat → Int → Int) (c : Int → Int) : Prop :=
  ∃ (V' : Nat → Int → Int) (c' : Int → Int), y_v X (q_rf X C 8) σ' = V' ∧ m_c X τ' a = c' ∧ rg V' c' ∧ (∀ (id : Nat) (i : Int), id = 1 ∨ id = 3 ∨ id = 5 ∨ id = 6 ∨ 18 ≤ id ∧ id < 23 → V' id i = V id i) ∧ (∀ j : Int, 0 ≤ j → j ≤ 4 ∨ 654 ≤ j → c' j = c j) ∧ (∀ b, lb b / 8192 ≠ 1 → b ≠ C → ∀ f, σ'.1 b f = σ.1 b f) ∧ (∀ f, f ≠ 0 → σ'.1 C f = σ.1 C f) ∧ σ'.2 = σ.2 ∧ tkl (mv_S X a) (fun _ _ => False) τ τ'
section GM
variable {X : XW} {lb : Nat → Nat} {C a : Nat} {σ τ σ1 τ1 : ST} {V V1 : Nat → Int → Int} {c c1 l : Int → Int}
theorem mv_mk (Y : y_S X lb) (G : y_G X lb (q_rf X C 8) 1) (hC : lb C / 8192 = 0) (w : y_W X lb (q_rf X C 8) 1 σ σ1 V1) (R1 : rg V1 c1) (hV : ∀ (id : Nat) (i : Int), id = 1 ∨ id = 3 ∨ id = 5 ∨ id = 6 ∨ 18 ≤ id ∧ id < 23 → V1 id i = V id i) (hc : ∀ j : Int, 0 ≤ j → j ≤ 4 ∨ 654 ≤ j → c1 j = c j) (k : Int32) (hm : m_c X τ1 a = c1) (ht : tkl (mv_S X a) (fun _ _ => False) τ τ1) : mv_R X lb C a σ (q_si σ1 C 0 k) τ τ1 V c := by
  have hC1 : lb C / 8192 ≠ 1 := by omega
  refine ⟨V1, c1, ?_, hm, R1, hV, hc, fun b b1 b2 f => ?_, fun f f0 => ?_, w.2.1, ht⟩
  · rw [← w.2.2]
    funext id i
    unfold y_v
    by_cases q : id < 25 ∧ 0 ≤ i
    · rw [if_pos q, if_pos q, q_si_ne (Ne.symm (y_gA_ne Y G q.1 hC1))]
    · rw [if_neg q, if_neg q]
  · rw [q_si_ne b2]; exact w.1 b b1 f
  · rw [si_f f0]; exact w.1 C hC1 f
theorem mv_cell (hT : q_T X) (ha : q_kd X a = 12) (f : Nat) (v : Int32) : m_c X (q_si τ a f v) a = m_c X τ a := by
  have k := (tb_k hT ha).1
  funext j
  exact congrArg Int32.toInt (q_si_ne (m_ne k ha (by decide)) _)
theorem mv_none (σ : ST) (k : Int32) : F_X11_none X σ C k = (-1, q_si σ C 0 k) := by
  unfold F_X11_none
  rw [q_letE]
theorem mv_refuse (τ : ST) (k : Int32) : F_X12_refuse X τ a k = (-1, q_si τ a 0 k) := by
  unfold F_X12_refuse
  rw [q_letE]
theorem mv_good (σ : ST) (v : Int32) : F_X11_good X σ C v = (v, q_si σ C 0 0) := by
  unfold F_X11_good
  rw [q_letE]
theorem mv_yes (σ : ST) : F_X11_yes X σ C = (1, q_si σ C 0 0) := by
  unfold F_X11_yes
  rw [q_letE]
theorem mv_no (σ : ST) (k : Int32) : F_X11_no X σ C k = (0, q_si σ C 0 k) := by
  unfold F_X11_no
  rw [q_letE]
theorem mv_noM (τ : ST) (k : Int32) : F_X12_no X τ a k = (0, q_si τ a 0 k) := by
  unfold F_X12_no
  rw [q_letE]
/-- the reference looks whether it is all in the hand -/
theorem lr_holdL (hc : m_c X τ a = c) (hl : ∀ j : Int, 0 ≤ j → j < 10 → (τ.1 (q_rf X a 28) j.toNat).toInt = l j) {P : Int} (hP : c 6 = P) (bP : 0 ≤ P ∧ P < 6) (fu : Nat) : ∀ x : Int32, (2147483647 - x.toInt).toNat < fu → 0 ≤ x.toInt → x.toInt ≤ 10 → ((∀ k : Int, x.toInt ≤ k → k < 10 → l k ≤ c (34 + 10 * P + k)) ∧ F_X12_lay_L292_5 X τ a fu x = F_X12_lay_E335_6 X τ a) ∨ ((∃ k : Int, x.toInt ≤ k ∧ k < 10 ∧ c (34 + 10 * P + k) < l k) ∧ F_X12_lay_L292_5 X τ a fu x = (-1, q_si τ a 0 9)) := by
  have f6 : (τ.1 (q_rf X a 20) (6 : Int32).toNatClampNeg).toInt = P := (gm_cell (A := 6) hc rfl).trans hP
  induction fu with
  | zero => intro x h; exact absurd h (Nat.not_lt_zero _)
  | succ fu ih =>
    intro x hf x0 x1
    rw [F_X12_lay_L292_5_s]
    unfold F_X12_lay_B292_5
    by_cases q : x.toInt < 10
    · have hh := gm_handOf hc f6 (y := x) rfl bP ⟨x0, q⟩
      have hx : (τ.1 (q_rf X a 28) x.toNatClampNeg).toInt = l x.toInt := hl x.toInt x0 q
      have ex : (x + 1).toInt = x.toInt + 1 := y_inc (by omega)
      rw [if_pos q, q_letE (τ.1 (q_rf X a 28) x.toNatClampNeg), q_letE (τ.1 (q_rf X a 20) (6 : Int32).toNatClampNeg), q_letE (F_X12_handOf X τ a (τ.1 (q_rf X a 20) (6 : Int32).toNatClampNeg) x), hh, hx]
      by_cases q2 : c (34 + 10 * P + x.toInt) < l x.toInt
      · rw [if_pos q2]
        unfold F_X12_lay_E322_7
        rw [mv_refuse]
        exact Or.inr ⟨⟨x.toInt, Int.le_refl _, q, q2⟩, rfl⟩
      · rw [if_neg q2, q_letE (x + 1)]
        rcases ih (x + 1) (by omega) (by omega) (by omega) with ⟨i1, i2⟩ | ⟨⟨k, i1, i2, i3⟩, i4⟩
        · refine Or.inl ⟨fun k k0 k1 => ?_, i2⟩
          by_cases e : k = x.toInt
          · rw [e]; omega
          · exact i1 k (by omega) k1
        · exact Or.inr ⟨⟨k, by omega, i2, i3⟩, i4⟩
    · rw [if_neg q]
      exact Or.inl ⟨fun k k0 k1 => by omega, rfl⟩
theorem mv_lay (Y : y_S X lb) (G : y_G X lb (q_rf X C 8) 1) (hC : lb C / 8192 = 0) (ha : q_kd X a = 12) (R : rg (y_v X (q_rf X C 8) σ) c) (hG : m_G c) (hc : m_c X τ a = c) (p q r s : Int32) :
    ∃ (z : Int32) (σ' : ST) (z' : Int32) (τ' : ST), F_X11_lay X σ C p q r s = (z, σ') ∧ F_X12_lay X τ a p q r s = (z', τ') ∧ z.toInt = z'.toInt ∧ (σ'.1 C 0).toInt = (τ'.1 a 0).toInt ∧ mv_R X lb C a σ σ' τ τ' (y_v X (q_rf X C 8) σ) c := by
  obtain ⟨V, hV⟩ : ∃ V, V = y_v X (q_rf X C 8) σ := ⟨_, rfl⟩
  have w : y_W X lb (q_rf X C 8) 1 σ σ V := by
    rw [hV]; exact y_W.rf
  rw [← hV] at R ⊢
  obtain ⟨b0, b2, b4, b5, b6, b7, b9, b79⟩ := hG.1
  have hT := Y.1
  have t1 := R.1.1
  have t4 := R.1.2.2.2.1
  have t5 := R.1.2.2.2.2.1
  have s2 := R.2.1.2.1
  have s3 := R.2.1.2.2.1
  have s4 := R.2.1.2.2.2
  have kn : ∀ v : Int32, (F_X11_isKindOrNone X σ C v).toInt = if ly_ok (c 0) v.toInt then 1 else 0 := fun v => by
    rw [lk_kindNone w v, t1]
  have hV0 : ∀ (id : Nat) (i : Int), id = 1 ∨ id = 3 ∨ id = 5 ∨ id = 6 ∨ 18 ≤ id ∧ id < 23 → V id i = V id i := fun _ _ _ => rfl
  have hc0 : ∀ j : Int, 0 ≤ j → j ≤ 4 ∨ 654 ≤ j → c j = c j := fun _ _ _ => rfl
  rcases lr_asked (X := X) (τ := τ) hT ha hc b0 p q r s with ⟨nok, τ1, e1, m1, k1⟩ | ⟨⟨op, oq, or_, os⟩, n, g, τ1, e1, hn, hg, m1, st1, k1, hl⟩
  · refine ⟨-1, q_si σ C 0 2, -1, q_si τ1 a 0 2, ?_, e1, rfl, by rw [si_eq, si_eq], mv_mk Y G hC w R hV0 hc0 2 ((mv_cell hT ha 0 2).trans m1) (k1.si _ (Or.inr (Or.inl ⟨rfl, Or.inl rfl⟩)))⟩
    unfold F_X11_lay
    rw [q_letE (F_X11_isKindOrNone X σ C p), kn p]
    by_cases op : ly_ok (c 0) p.toInt
    · rw [if_pos op, if_neg (by decide : ¬ (1 : Int) = 0), q_letE (F_X11_isKindOrNone X σ C q), kn q]
      by_cases oq : ly_ok (c 0) q.toInt
      · rw [if_pos oq, if_neg (by decide : ¬ (1 : Int) = 0), q_letE (F_X11_isKindOrNone X σ C r), kn r]
        by_cases or_ : ly_ok (c 0) r.toInt
        · rw [if_pos or_, if_neg (by decide : ¬ (1 : Int) = 0), q_letE (F_X11_isKindOrNone X σ C s), kn s, if_neg (fun os => nok ⟨op, oq, or_, os⟩), if_pos rfl, mv_none]
          rfl
        · rw [if_neg or_, if_pos rfl, mv_none]
          rfl
      · rw [if_neg oq, if_pos rfl, mv_none]
        rfl
    · rw [if_neg op, if_pos rfl, mv_none]
      rfl
  -- all of them kinds or none
  have m10 : ∀ v : Int, ly_ok (c 0) v → ly_ok 10 v := fun v h => by
    unfold ly_ok at h ⊢
    omega
  have np : p.toInt = -1 ∧ ly_n p.toInt = 0 ∨ p.toInt ≠ -1 ∧ ly_n p.toInt = 1 := by
    unfold ly_n
    split
    · exact Or.inl ⟨by assumption, rfl⟩
    · exact Or.inr ⟨by assumption, rfl⟩
  have nq : q.toInt = -1 ∧ ly_n q.toInt = 0 ∨ q.toInt ≠ -1 ∧ ly_n q.toInt = 1 := by
    unfold ly_n
    split
    · exact Or.inl ⟨by assumption, rfl⟩
    · exact Or.inr ⟨by assumption, rfl⟩
  have nr : r.toInt = -1 ∧ ly_n r.toInt = 0 ∨ r.toInt ≠ -1 ∧ ly_n r.toInt = 1 := by
    unfold ly_n
    split
    · exact Or.inl ⟨by assumption, rfl⟩
    · exact Or.inr ⟨by assumption, rfl⟩
  have ns : s.toInt = -1 ∧ ly_n s.toInt = 0 ∨ s.toInt ≠ -1 ∧ ly_n s.toInt = 1 := by
    unfold ly_n
    split
    · exact Or.inl ⟨by assumption, rfl⟩
    · exact Or.inr ⟨by assumption, rfl⟩
  have cls : F_X11_lay X σ C p q r s = if p.toInt ≠ -1 ∧ (q.toInt = -1 → r.toInt = -1) ∧ (r.toInt = -1 → s.toInt = -1) then F_X11_lay_J71_2 X σ C p q r s else (-1, q_si σ C 0 5) := by
    unfold F_X11_lay
    rw [q_letE (F_X11_isKindOrNone X σ C p), kn p, if_pos op, if_neg (by decide : ¬ (1 : Int) = 0), q_letE (F_X11_isKindOrNone X σ C q), kn q, if_pos oq, if_neg (by decide : ¬ (1 : Int) = 0), q_letE (F_X11_isKindOrNone X σ C r), kn r, if_pos or_, if_neg (by decide : ¬ (1 : Int) = 0), q_letE (F_X11_isKindOrNone X σ C s), kn s, if_pos os, if_neg (by decide : ¬ (1 : Int) = 0)]
    by_cases qp : p.toInt = -1
    · rw [if_pos qp, if_neg (fun z => z.1 qp), mv_none]
      rfl
    · rw [if_neg qp]
      have j54 : F_X11_lay_J54_1 X r s σ C p q = if r.toInt = -1 → s.toInt = -1 then F_X11_lay_J71_2 X σ C p q r s else (-1, q_si σ C 0 5) := by
        unfold F_X11_lay_J54_1
        by_cases qr : r.toInt = -1
        · rw [if_pos qr]
          by_cases qs : s.toInt = -1
          · rw [if_pos qs, if_pos (fun _ => qs)]
          · rw [if_neg qs, if_neg (fun z => qs (z qr)), mv_none]
            rfl
        · rw [if_neg qr, if_pos (fun z => absurd z qr)]
      by_cases qq : q.toInt = -1
      · rw [if_pos qq]
        by_cases qr : r.toInt = -1
        · rw [if_pos qr, j54]
          by_cases e : r.toInt = -1 → s.toInt = -1
          · rw [if_pos e, if_pos ⟨qp, fun _ => qr, e⟩]
          · rw [if_neg e, if_neg (fun z => e z.2.2)]
        · rw [if_neg qr, if_neg (fun z => qr (z.2.1 qq)), mv_none]
          rfl
      · rw [if_neg qq, j54]
        by_cases e : r.toInt = -1 → s.toInt = -1
        · rw [if_pos e, if_pos ⟨qp, fun z => absurd z qq, e⟩]
        · rw [if_neg e, if_neg (fun z => e z.2.2)]
  have mref : ∀ k : Int32, m_c X (q_si τ1 a 0 k) a = c := fun k => (mv_cell hT ha 0 k).trans m1
  have tref : ∀ k : Int32, tkl (mv_S X a) (fun _ _ => False) τ (q_si τ1 a 0 k) := fun k => k1.si _ (Or.inr (Or.inl ⟨rfl, Or.inl rfl⟩))
  rw [e1, cls]
  by_cases ord : ¬ (p.toInt ≠ -1 ∧ (q.toInt = -1 → r.toInt = -1) ∧ (r.toInt = -1 → s.toInt = -1))
  · rw [if_neg ord]
    refine ⟨-1, q_si σ C 0 5, -1, q_si τ1 a 0 5, rfl, ?_, rfl, by rw [si_eq, si_eq], mv_mk Y G hC w R hV0 hc0 5 (mref 5) (tref 5)⟩
    unfold F_X12_lay_E217_7
    by_cases n0 : n.toInt = 0
    · rw [if_pos n0, mv_refuse]
      rfl
    · rw [if_neg n0]
      by_cases g0 : g.toInt = 0
      · exfalso
        have h := hg.mp g0
        clear hg hl cls kn hV0 hc0 mref tref m10 e1
        omega
      · rw [if_neg g0, mv_refuse]
        rfl
  have ord' := Classical.not_not.mp ord
  rw [if_pos ord']
  have n1 : 1 ≤ n.toInt ∧ n.toInt ≤ 4 := by
    clear hg hl cls kn hV0 hc0 mref tref m10 e1
    omega
  have g0 : g.toInt = 0 := hg.mpr (by
    clear hg hl cls kn hV0 hc0 mref tref m10 e1
    omega)
  -- what is wanted
  have gn23 : ((y_gn 23 : Nat) : Int) = 10 := rfl
  obtain ⟨σ4, e4, V4, w4, v4, v23, v9⟩ : ∃ σ4 : ST, σ4 = F_X0_want X (F_X0_want X (F_X0_want X (F_X0_want X (F_X0_clearWanted X σ (q_rf X C 8)) (q_rf X C 8) p 1) (q_rf X C 8) q 1) (q_rf X C 8) r 1) (q_rf X C 8) s 1 ∧ ∃ V4 : Nat → Int → Int, y_W X lb (q_rf X C 8) 1 σ σ4 V4 ∧ (∀ (id : Nat) (i : Int), id ≠ 23 → (id ≠ 0 ∨ i ≠ 9) → V4 id i = V id i) ∧ (∀ j : Int, 0 ≤ j → j < 10 → V4 23 j = ly_l p.toInt q.toInt r.toInt s.toInt j) ∧ V4 0 9 = n.toInt := by
    refine ⟨_, rfl, ?_⟩
    have z0 : (0 : Int32).toInt = 0 := rfl
    have dc : F_X0_clearWanted X σ (q_rf X C 8) = q_si (F_X5_clear X σ (q_rf X (q_rf X C 8) 8)) (q_rf X C 8) 9 0 := by
      unfold F_X0_clearWanted
      rw [q_letE, q_letE]
    have wa := w.clear Y G (id := 23) (r := q_rf X (q_rf X C 8) 8) ⟨by decide, by decide⟩ rfl
    have wb : y_W X lb (q_rf X C 8) 1 σ (q_si (F_X5_clear X σ (q_rf X (q_rf X C 8) 8)) (q_rf X C 8) 9 0) (y_up (y_bl V 23 ((y_gn 23 : Nat) : Int) (fun _ => 0)) 0 9 0) := wa.si Y G (id := 0) (by decide) 9 0
    rw [← dc] at wb
    have x23 : ∀ j : Int, 0 ≤ j → j < 10 → y_up (y_bl V 23 ((y_gn 23 : Nat) : Int) (fun _ => 0)) 0 9 0 23 j = 0 := fun j j0 j1 => (y_up_ne (Or.inl (by decide))).trans (if_pos ⟨rfl, j0, by rw [gn23]; exact j1⟩)
    have x9 : y_up (y_bl V 23 ((y_gn 23 : Nat) : Int) (fun _ => 0)) 0 9 0 0 9 = 0 := y_up_eq _ _ _ _
    have xs : ∀ (id : Nat) (i : Int), id ≠ 23 → (id ≠ 0 ∨ i ≠ 9) → y_up (y_bl V 23 ((y_gn 23 : Nat) : Int) (fun _ => 0)) 0 9 0 id i = V id i := fun id i i23 i0 => (y_up_ne i0).trans (if_neg (fun z => i23 z.1))
    obtain ⟨Vb, hVb⟩ : ∃ v, v = y_up (y_bl V 23 ((y_gn 23 : Nat) : Int) (fun _ => 0)) 0 9 0 := ⟨_, rfl⟩
    rw [← hVb] at wb x23 x9 xs
    obtain ⟨Vp, wp, sp, p23, p9⟩ := ly_want Y G wb (m10 _ op) (fun j j0 j1 => by rw [x23 j j0 j1]; omega) (by rw [x9]; omega)
    obtain ⟨Vq, wq, sq, q23, q9⟩ := ly_want Y G wp (m10 _ oq) (fun j j0 j1 => by rw [p23 j j0 j1, x23 j j0 j1]; have := ly_1b p.toInt j; omega) (by rw [p9, x9]; omega)
    obtain ⟨Vr, wr, sr, r23, r9⟩ := ly_want Y G wq (m10 _ or_) (fun j j0 j1 => by rw [q23 j j0 j1, p23 j j0 j1, x23 j j0 j1]; have := ly_1b p.toInt j; have := ly_1b q.toInt j; omega) (by rw [q9, p9, x9]; omega)
    obtain ⟨Vs, ws, ss, s23, s9⟩ := ly_want Y G wr (m10 _ os) (fun j j0 j1 => by rw [r23 j j0 j1, q23 j j0 j1, p23 j j0 j1, x23 j j0 j1]; have := ly_1b p.toInt j; have := ly_1b q.toInt j; have := ly_1b r.toInt j; omega) (by rw [r9, q9, p9, x9]; omega)
    refine ⟨Vs, ws, fun id i i23 i0 => ?_, fun j j0 j1 => ?_, ?_⟩
    · rw [ss id i i23 i0, sr id i i23 i0, sq id i i23 i0, sp id i i23 i0, xs id i i23 i0]
    · rw [s23 j j0 j1, r23 j j0 j1, q23 j j0 j1, p23 j j0 j1, x23 j j0 j1]
      unfold ly_l
      omega
    · rw [s9, r9, q9, p9, x9, hn]; omega
  have R4 : rg V4 c := R.w hG (fun id i i23 i24 i0 => v4 id i i23 (by omega))
  have hV4 : ∀ (id : Nat) (i : Int), id = 1 ∨ id = 3 ∨ id = 5 ∨ id = 6 ∨ 18 ≤ id ∧ id < 23 → V4 id i = V id i := fun id i h => v4 id i (by omega) (by omega)
  have cref : ∀ k : Int32, mv_R X lb C a σ (q_si σ4 C 0 k) τ (q_si τ1 a 0 k) V c := fun k => mv_mk Y G hC w4 R4 hV4 hc0 k (mref k) (tref k)
  have f40 : (σ4.1 (q_rf X C 8) 9).toInt = n.toInt := (w4.rd (id := 0) (by decide) 9 rfl).trans v9
  have f41 : (σ4.1 (q_rf X (q_rf X C 8) 0) 3).toInt = c 4 := (w4.rd (id := 1) (by decide) 3 rfl).trans R4.1.2.2.2.1
  have f43 : (σ4.1 (q_rf X C 8) 7).toInt = c 7 := (w4.rd (id := 0) (by decide) 7 rfl).trans R4.2.1.2.2.2
  have f48 : (σ4.1 (q_rf X C 8) 6).toInt = c 8 := (w4.rd (id := 0) (by decide) 6 rfl).trans R4.2.1.2.2.1.1
  have f53 : (σ4.1 (q_rf X (q_rf X C 8) 0) 4).toInt = c 2 := (w4.rd (id := 1) (by decide) 4 rfl).trans R4.1.2.2.2.2.1
  have g4 : (τ1.1 (q_rf X a 20) (4 : Int32).toNatClampNeg).toInt = c 4 := gm_cell (A := 4) m1 rfl
  have g7 : (τ1.1 (q_rf X a 20) (7 : Int32).toNatClampNeg).toInt = c 7 := gm_cell (A := 7) m1 rfl
  have g8 : (τ1.1 (q_rf X a 20) (8 : Int32).toNatClampNeg).toInt = c 8 := gm_cell (A := 8) m1 rfl
  have g6 : (τ1.1 (q_rf X a 20) (6 : Int32).toNatClampNeg).toInt = c 6 := gm_cell (A := 6) m1 rfl
  unfold F_X11_lay_J71_2 F_X12_lay_E217_7
  rw [q_letE (F_X0_clearWanted X σ (q_rf X C 8)), q_letE (F_X0_want X (F_X0_clearWanted X σ (q_rf X C 8)) (q_rf X C 8) p 1), q_letE (F_X0_want X (F_X0_want X (F_X0_clearWanted X σ (q_rf X C 8)) (q_rf X C 8) p 1) (q_rf X C 8) q 1), q_letE (F_X0_want X (F_X0_want X (F_X0_want X (F_X0_clearWanted X σ (q_rf X C 8)) (q_rf X C 8) p 1) (q_rf X C 8) q 1) (q_rf X C 8) r 1), q_letE (F_X0_want X (F_X0_want X (F_X0_want X (F_X0_want X (F_X0_clearWanted X σ (q_rf X C 8)) (q_rf X C 8) p 1) (q_rf X C 8) q 1) (q_rf X C 8) r 1) (q_rf X C 8) s 1), ← e4]
  rw [q_letE (σ4.1 (q_rf X C 8) 9), q_letE (σ4.1 (q_rf X (q_rf X C 8) 0) 3), f40, f41, if_neg (by omega : ¬ n.toInt = 0), if_pos g0, q_letE (τ1.1 (q_rf X a 20) (4 : Int32).toNatClampNeg), g4]
  by_cases qm : c 4 < n.toInt
  · rw [if_pos qm, if_pos qm, mv_none, mv_refuse]
    exact ⟨-1, _, -1, _, rfl, rfl, rfl, by rw [si_eq, si_eq], cref 7⟩
  rw [if_neg qm, if_neg qm, q_letE (σ4.1 (q_rf X C 8) 7), f43, q_letE (τ1.1 (q_rf X a 20) (7 : Int32).toNatClampNeg), g7]
  by_cases q7 : c 7 = 1
  · rw [if_neg (by omega : ¬ c 7 = 0), if_pos q7, mv_none, mv_refuse]
    exact ⟨-1, _, -1, _, rfl, rfl, rfl, by rw [si_eq, si_eq], cref 9⟩
  rw [if_pos (by omega : c 7 = 0), if_neg q7, q_letE (σ4.1 (q_rf X C 8) 6), f48, q_letE (τ1.1 (q_rf X a 20) (8 : Int32).toNatClampNeg), g8]
  by_cases q8 : ¬ c 8 = -1
  · rw [if_neg q8, if_neg (by have := s3.2; omega : ¬ c 8 < 0), mv_none, mv_refuse]
    exact ⟨-1, _, -1, _, rfl, rfl, rfl, by rw [si_eq, si_eq], cref 9⟩
  have q8' := Classical.not_not.mp q8
  rw [if_pos q8', if_pos (by omega : c 8 < 0), q_letE (σ4.1 (q_rf X (q_rf X C 8) 0) 4), f53, q_letE (τ1.1 (q_rf X a 20) (6 : Int32).toNatClampNeg), g6]
  by_cases q2 : c 2 = 0
  · rw [if_pos q2, if_pos (by omega : c 6 < 0), mv_none, mv_refuse]
    exact ⟨-1, _, -1, _, rfl, rfl, rfl, by rw [si_eq, si_eq], cref 9⟩
  rw [if_neg q2, if_neg (by omega : ¬ c 6 < 0)]
  have hP : 0 ≤ c 6 ∧ c 6 < c 2 := by omega
  have p5 : V4 0 5 = c 6 := by
    have z := R4.2.1.2.1
    rw [if_neg q2] at z
    exact z
  have zero : (0 : Int32).toInt = 0 := rfl
  have ho := ly_holdL Y G w4 (N := c 0) R4.1.1 ⟨by omega, by omega⟩ p5 ⟨hP.1, by omega⟩ ((2147483647 - (0 : Int32).toInt).toNat + 1) 0 (by decide) (by decide) (by rw [zero]; omega)
  have hm := lr_holdL (X := X) (τ := τ1) (l := ly_l p.toInt q.toInt r.toInt s.toInt) m1 hl rfl ⟨hP.1, by omega⟩ ((2147483647 - (0 : Int32).toInt).toNat + 1) 0 (by decide) (by decide) (by decide)
  obtain ⟨FU, hFU⟩ : ∃ f, f = (2147483647 - (0 : Int32).toInt).toNat + 1 := ⟨_, rfl⟩
  rw [← hFU, zero] at ho hm
  -- cards of kinds that are not there are not wanted
  have lz : ∀ k : Int, c 0 ≤ k → k < 10 → ly_l p.toInt q.toInt r.toInt s.toInt k = 0 := fun k k0 k1 => by
    have h1 : ∀ v : Int, ly_ok (c 0) v → ly_1 v k = 0 := fun v h => by
      unfold ly_ok at h
      unfold ly_1
      rw [if_neg (by omega)]
    unfold ly_l
    rw [h1 _ op, h1 _ oq, h1 _ or_, h1 _ os]
    rfl
  have lnn : ∀ k : Int, 0 ≤ ly_l p.toInt q.toInt r.toInt s.toInt k := fun k => by
    have h1 := ly_1b p.toInt k
    have h2 := ly_1b q.toInt k
    have h3 := ly_1b r.toInt k
    have h4 := ly_1b s.toInt k
    unfold ly_l
    omega
  have v7 : ∀ k : Int, 0 ≤ k → k < 10 → V4 7 (10 * c 6 + k) = c (34 + 10 * c 6 + k) := fun k k0 k1 => by
    have z := R4.2.2.2.1.1 (10 * c 6 + k) (by omega) (by omega)
    have e : (34 : Int) + (10 * c 6 + k) = 34 + 10 * c 6 + k := by omega
    rw [e] at z
    exact z
  have hw : F_X0_holdsWanted X σ4 (q_rf X C 8) = F_X0_holdsWanted_L2_1 X σ4 (q_rf X C 8) ((2147483647 - (0 : Int32).toInt).toNat + 1) 0 := rfl
  rw [q_letE (F_X0_holdsWanted X σ4 (q_rf X C 8)), hw, ← hFU]
  rcases hm with ⟨hall, em⟩ | ⟨⟨k, k0, k1, kl⟩, em⟩
  · have h1 := ho.2.mpr (fun k k0 k1 => by rw [v23 k k0 (by omega), v7 k k0 (by omega)]; exact hall k k0 (by omega))
    rw [h1, if_neg (by decide : ¬ (1 : Int) = 0), em]
    have sl : m_S (ly_l p.toInt q.toInt r.toInt s.toInt) 0 10 = n.toInt := by
      rw [ly_S (m10 _ op) (m10 _ oq) (m10 _ or_) (m10 _ os), hn]
    have lo : m_lo c (ly_l p.toInt q.toInt r.toInt s.toInt) (c 6) := ⟨hG, ⟨hP.1, by omega⟩, fun k k0 k1 => ⟨lnn k, hall k k0 k1⟩, by rw [sl]; exact n1⟩
    have b79' := lo.c9
    have s80 := hG.S80 (p := c 6) (k := 10) hP.1 (by omega) (by decide) (by decide)
    have z10 : m_S c (34 + 10 * c 6) (10 : Int).toNat = m_S c (34 + 10 * c 6) 10 := rfl
    have l80 := hG.L80 b9.1 (Int.le_refl (c 9))
    have gp : gl_p V4 (ly_l p.toInt q.toInt r.toInt s.toInt) (c 6) (c 9) (c 0) := by
      refine ⟨p5, R4.1.1, ⟨hP.1, by omega⟩, ⟨by omega, by omega⟩, ⟨by omega, by omega⟩, fun t t0 t1 => ⟨v23 t t0 t1, lnn t⟩, by rw [sl]; exact n1.2, ?_, fun t t0 t1 => ⟨?_, ?_⟩, ?_⟩
      · rw [R4.2.2.2.2.1.2.1]; omega
      · rw [v7 t t0 t1]
        have := hG.h80 (p := c 6) (k := t) hP.1 (by omega) t0 t1
        omega
      · rw [R4.2.2.2.2.2.1 (c 6) t hP.1 (by omega) t0 t1]
        have := hG.A_bd (c 6) t (c 9).toNat (by omega)
        omega
      · rw [R4.2.2.2.1.2 (c 6) hP.1 (by omega)]; omega
    obtain ⟨V5, w5, gv⟩ := gm_layWanted Y G w4 gp R4.2.2.2.2.1.1
    unfold F_X12_lay_E335_6
    rw [q_letE (F_X0_layWanted X σ4 (q_rf X C 8)), q_letE (τ1.1 (q_rf X a 20) (6 : Int32).toNatClampNeg)]
    obtain ⟨c', mc, tc, gr, gG⟩ := gm_laysDown (X := X) (τ := τ1) hT ha m1 lo rfl (v1 := τ1.1 (q_rf X a 20) (6 : Int32).toNatClampNeg) g6 hl
    rw [q_letE (F_X12_laysDown X τ1 a (τ1.1 (q_rf X a 20) (6 : Int32).toNatClampNeg) (q_rf X a 28))]
    obtain ⟨σ5, e5⟩ : ∃ t, t = F_X0_layWanted X σ4 (q_rf X C 8) := ⟨_, rfl⟩
    obtain ⟨τ5, u5⟩ : ∃ t, t = F_X12_laysDown X τ1 a (τ1.1 (q_rf X a 20) (6 : Int32).toNatClampNeg) (q_rf X a 28) := ⟨_, rfl⟩
    rw [← e5] at w5 ⊢
    rw [← u5] at mc tc ⊢
    have R5 := rg.lay R4 lo rfl gv gr
    rw [q_letE (σ5.1 (q_rf X (q_rf X C 8) 2) 1), mv_good, q_letE (F_X12_heapMany X τ5 a)]
    have na0 : a ≠ q_rf X a 20 := Ne.symm (m_ne (tb_k hT ha).1 ha (by decide))
    refine ⟨_, _, _, τ5, rfl, rfl, ?_, ?_, mv_mk Y G hC w5 R5 (fun id i h => ?_) (fun j j0 h => ?_) 0 mc (k1.tr (tc.mono (fun b f z => Or.inl z) (fun _ _ z => z)))⟩
    · rw [lk_heap mc gG]
      exact (w5.rd (id := 2) (by decide) 1 rfl).trans R5.2.2.2.2.1.2.1
    · rw [si_eq, tc.1 a 0 na0, st1]
      rfl
    · rw [y_up_ne (by omega), gv.1 id i (by omega) (by omega) (by omega) (by omega) (by omega) (by omega) (by omega) (by omega)]
      exact hV4 id i h
    · exact gr.1 j j0 (by omega) (by omega) (by omega) (by omega)
  · have h1 : (F_X0_holdsWanted_L2_1 X σ4 (q_rf X C 8) FU 0).toInt = 0 := by
      rcases ho.1 with h | h
      · have z := ho.2.mp h k k0 (by
          by_cases e : c 0 ≤ k
          · have y := lz k e k1
            have x := hG.h80 (p := c 6) (k := k) hP.1 (by omega) k0 k1
            omega
          · omega)
        rw [v23 k k0 k1, v7 k k0 k1] at z
        omega
      · exact h
    rw [h1, if_pos rfl, em, mv_none]
    exact ⟨-1, _, -1, _, rfl, rfl, rfl, by rw [si_eq, si_eq], cref 9⟩
end GM

/-! FROM 49n.movers.lean.txt -/
/-! LEAVE, DOUBT, BEND CALLED -/
theorem rg.bend {V V' : Nat → Int → Int} {c c' : Int → Int} (R : rg V c) (hV : ∀ (id : Nat) (i : Int), id ≠ 10 → id ≠ 11 → V' id i = V id i) (hc : ∀ j : Int, j < 10 ∨ 22 ≤ j → c' j = c j) (hp : ∀ p : Int, 0 ≤ p → p < 6 → V' 10 p = c' (10 + p) ∧ V' 11 p = c' (16 + p)) : rg V' c' := by
  obtain ⟨⟨t1, t2, t3, t4, t5, t6⟩, ⟨s1, s2, s3, s4⟩, hpp, ⟨h1, h2⟩, ⟨l1, l2, l3⟩, ⟨a1, a2⟩⟩ := R
  obtain ⟨lS, lL, lK, lA, lP⟩ := gm_low (c := c) (c' := c') (fun j hj => hc j (by omega))
  have e9 : c' 9 = c 9 := hc 9 (by decide)
  have e2 : c' 2 = c 2 := hc 2 (by decide)
  have u : ∀ (id : Nat) (i : Int), (id < 10 ∨ 11 < id) → V' id i = V id i := fun id i h => hV id i (by omega) (by omega)
  refine ⟨⟨?_, ?_, ?_, ?_, ?_, ?_⟩, ⟨?_, ?_, ?_, ?_⟩, fun p p0 p1 => ⟨(hp p p0 p1).1, (hp p p0 p1).2, ?_, ?_⟩, ⟨fun j j0 j1 => ?_, fun p p0 p1 => ?_⟩, ⟨?_, ?_, fun k k0 k1 => ?_⟩, ⟨fun p k p0 p1 k0 k1 => ?_, fun k k0 k1 => ?_⟩⟩
  · rw [u 1 0 (by decide), hc 0 (by decide)]; exact t1
  · rw [u 1 1 (by decide), hc 1 (by decide)]; exact t2
  · rw [u 1 2 (by decide), hc 3 (by decide)]; exact t3
  · rw [u 1 3 (by decide), hc 4 (by decide)]; exact t4
  · rw [u 1 4 (by decide), e2]; exact t5
  · rw [hc 3 (by decide)]; exact t6
  · rw [u 0 4 (by decide), hc 5 (by decide)]; exact s1
  · rw [u 0 5 (by decide), e2, hc 6 (by decide)]; exact s2
  · rw [u 0 6 (by decide), hc 8 (by decide)]; exact s3
  · rw [u 0 7 (by decide), hc 7 (by decide)]; exact s4
  · rw [u 12 p (by decide), hc _ (by omega)]; exact (hpp p p0 p1).2.2.1
  · rw [u 13 p (by decide), hc _ (by omega)]; exact (hpp p p0 p1).2.2.2
  · rw [u 7 j (by decide), hc _ (by omega)]; exact h1 j j0 j1
  · rw [u 9 p (by decide), lS _ _ (by omega)]; exact h2 p p0 p1
  · rw [u 2 0 (by decide), e9]; exact l1
  · rw [u 2 1 (by decide), e9, lL]; exact l2
  · rw [e9] at k1
    obtain ⟨y1, y2, y3, y5, y4⟩ := l3 k k0 k1
    rw [u 14 k (by decide), u 15 k (by decide), u 16 k (by decide), hc (94 + 7 * k) (by omega), hc (94 + 7 * k + 1) (by omega), hc (94 + 7 * k + 2) (by omega)]
    refine ⟨y1, y2, y3, y5, fun i i0 i1 => ?_⟩
    rw [u 17 _ (by decide), hc _ (by omega)]
    exact y4 i i0 i1
  · rw [u 8 _ (by decide), e9, lA]; exact a1 p k p0 p1 k0 k1
  · rw [u 4 k (by decide)]
    unfold m_I
    rw [e9, e2, lA, lP _ _ k0]
    exact a2 k k0 k1
section GN
variable {X : XW} {lb : Nat → Nat} {C a : Nat} {σ τ σ1 τ1 : ST} {V V1 : Nat → Int → Int} {c c1 l : Int → Int}
/-- the reference's call begins -/
theorem mv_beg (hT : q_T X) (ha : q_kd X a = 12) (hc : m_c X τ a = c) : m_c X (q_si (q_si τ a 1 0) a 0 0) a = c ∧ (q_si (q_si τ a 1 0) a 0 0).1 a 0 = 0 ∧ tkl (mv_S X a) (fun _ _ => False) τ (q_si (q_si τ a 1 0) a 0 0) := by
  refine ⟨?_, si_eq _ _ _ _, (tkl.rf.si _ (Or.inr (Or.inl ⟨rfl, Or.inr rfl⟩))).si _ (Or.inr (Or.inl ⟨rfl, Or.inl rfl⟩))⟩
  rw [mv_cell hT ha 0 0, mv_cell hT ha 1 0, hc]
theorem mv_leave (Y : y_S X lb) (G : y_G X lb (q_rf X C 8) 1) (hC : lb C / 8192 = 0) (ha : q_kd X a = 12) (R : rg (y_v X (q_rf X C 8) σ) c) (hG : m_G c) (hc : m_c X τ a = c) :
    ∃ (z : Int32) (σ' : ST) (z' : Int32) (τ' : ST), F_X11_leave X σ C = (z, σ') ∧ F_X12_leave X τ a = (z', τ') ∧ z.toInt = z'.toInt ∧ (σ'.1 C 0).toInt = (τ'.1 a 0).toInt ∧ mv_R X lb C a σ σ' τ τ' (y_v X (q_rf X C 8) σ) c := by
  obtain ⟨V, hV⟩ : ∃ V, V = y_v X (q_rf X C 8) σ := ⟨_, rfl⟩
  have w : y_W X lb (q_rf X C 8) 1 σ σ V := by
    rw [hV]; exact y_W.rf
  rw [← hV] at R ⊢
  obtain ⟨b0, b2, b4, b5, b6, b7, b9, b79⟩ := hG.1
  obtain ⟨m2, s2, k2⟩ := mv_beg Y.1 ha hc
  have f1 : (σ.1 (q_rf X C 8) 7).toInt = c 7 := (w.rd (id := 0) (by decide) 7 rfl).trans R.2.1.2.2.2
  unfold F_X11_leave F_X12_leave
  rw [q_letE (σ.1 (q_rf X C 8) 7), f1, q_letE (q_si τ a 1 0), q_letE (q_si (q_si τ a 1 0) a 0 0)]
  obtain ⟨τ2, e2⟩ : ∃ t, t = q_si (q_si τ a 1 0) a 0 0 := ⟨_, rfl⟩
  rw [← e2] at m2 s2 k2 ⊢
  have g7 : (τ2.1 (q_rf X a 20) (7 : Int32).toNatClampNeg).toInt = c 7 := gm_cell (A := 7) m2 rfl
  rw [q_letE (τ2.1 (q_rf X a 20) (7 : Int32).toNatClampNeg), g7]
  by_cases q : c 7 = 0
  · rw [if_pos q, if_pos q, mv_none, mv_refuse]
    exact ⟨-1, _, -1, _, rfl, rfl, rfl, by rw [si_eq, si_eq], mv_mk Y G hC w R (fun _ _ _ => rfl) (fun _ _ _ => rfl) 8 ((mv_cell Y.1 ha 0 8).trans m2) (k2.si _ (Or.inr (Or.inl ⟨rfl, Or.inl rfl⟩)))⟩
  · rw [if_neg q, if_neg q]
    obtain ⟨V', c', w3, m3, t3, R3, hV', hc', -⟩ := gm_letLie Y G ha w R hG m2 (by omega)
    rw [q_letE (F_X0_letLie X σ (q_rf X C 8)), q_letE (F_X12_leaves X τ2 a)]
    obtain ⟨σ3, e3⟩ : ∃ t, t = F_X0_letLie X σ (q_rf X C 8) := ⟨_, rfl⟩
    obtain ⟨τ3, u3⟩ : ∃ t, t = F_X12_leaves X τ2 a := ⟨_, rfl⟩
    rw [← e3] at w3 ⊢
    rw [← u3] at m3 t3 ⊢
    rw [q_letE (σ3.1 (q_rf X C 8) 5), q_letE (τ3.1 (q_rf X a 20) (6 : Int32).toNatClampNeg), mv_good]
    have na0 : a ≠ q_rf X a 20 := Ne.symm (m_ne (tb_k Y.1 ha).1 ha (by decide))
    refine ⟨_, _, _, τ3, rfl, rfl, ?_, ?_, mv_mk Y G hC w3 R3 (fun id i h => hV' id i (by omega)) (fun j j0 h => hc' j (by omega) (by omega) (by omega) (by omega)) 0 m3 (k2.tr (t3.mono (fun b f z => Or.inl z) (fun _ _ z => z)))⟩
    · have z5 := R3.2.1.2.1
      rw [if_neg (by rw [hc' 2 (by decide) (by decide) (by decide) (by decide)]; omega)] at z5
      have f5 : (σ3.1 (q_rf X C 8) 5).toInt = V' 0 5 := w3.rd (id := 0) (by decide) 5 rfl
      exact f5.trans (z5.trans (gm_cell (A := 6) m3 rfl).symm)
    · rw [si_eq, t3.1 a 0 na0, s2]
theorem mv_doubt (Y : y_S X lb) (G : y_G X lb (q_rf X C 8) 1) (hC : lb C / 8192 = 0) (ha : q_kd X a = 12) (R : rg (y_v X (q_rf X C 8) σ) c) (hG : m_G c) (hW : ∀ q : Int, 0 ≤ q → q < 6 → (0 ≤ c (22 + q) ∧ c (22 + q) ≤ 1000000) ∧ 0 ≤ c (28 + q) ∧ c (28 + q) ≤ 1000000) (hc : m_c X τ a = c) (v : Int32) :
    ∃ (z : Int32) (σ' : ST) (z' : Int32) (τ' : ST), F_X11_doubt X σ C v = (z, σ') ∧ F_X12_doubt X τ a v = (z', τ') ∧ z.toInt = z'.toInt ∧ (σ'.1 C 0).toInt = (τ'.1 a 0).toInt ∧ mv_R X lb C a σ σ' τ τ' (y_v X (q_rf X C 8) σ) c := by
  obtain ⟨V, hV⟩ : ∃ V, V = y_v X (q_rf X C 8) σ := ⟨_, rfl⟩
  have w : y_W X lb (q_rf X C 8) 1 σ σ V := by
    rw [hV]; exact y_W.rf
  rw [← hV] at R ⊢
  obtain ⟨b0, b2, b4, b5, b6, b7, b9, b79⟩ := hG.1
  obtain ⟨m2, s2, k2⟩ := mv_beg Y.1 ha hc
  have f7 : (σ.1 (q_rf X C 8) 7).toInt = c 7 := (w.rd (id := 0) (by decide) 7 rfl).trans R.2.1.2.2.2
  have f5 : (σ.1 (q_rf X C 8) 5).toInt = V 0 5 := w.rd (id := 0) (by decide) 5 rfl
  have pc := lk_player w v
  rw [R.1.2.2.2.2.1] at pc
  unfold F_X11_doubt F_X11_doubterStatus F_X12_doubt
  rw [q_letE (F_X11_isPlayer X σ C v), pc, q_letE (q_si τ a 1 0), q_letE (q_si (q_si τ a 1 0) a 0 0)]
  obtain ⟨τ2, e2⟩ : ∃ t, t = q_si (q_si τ a 1 0) a 0 0 := ⟨_, rfl⟩
  rw [← e2] at m2 s2 k2 ⊢
  have pm := lk_playerAt m2 b2 v
  have g7 : (τ2.1 (q_rf X a 20) (7 : Int32).toNatClampNeg).toInt = c 7 := gm_cell (A := 7) m2 rfl
  have g6 : (τ2.1 (q_rf X a 20) (6 : Int32).toNatClampNeg).toInt = c 6 := gm_cell (A := 6) m2 rfl
  rw [q_letE (F_X12_isPlayerAt X τ2 a v), pm]
  have ref : ∀ k : Int32, mv_R X lb C a σ (q_si σ C 0 k) τ (q_si τ2 a 0 k) V c := fun k => mv_mk Y G hC w R (fun _ _ _ => rfl) (fun _ _ _ => rfl) k ((mv_cell Y.1 ha 0 k).trans m2) (k2.si _ (Or.inr (Or.inl ⟨rfl, Or.inl rfl⟩)))
  by_cases q : ¬ (0 ≤ v.toInt ∧ v.toInt < c 2)
  · rw [if_neg q, if_pos rfl, if_pos rfl, q_letE (2 : Int32), if_neg (by decide : ¬ (2 : Int32).toInt = 0), mv_none, mv_refuse]
    exact ⟨-1, _, -1, _, rfl, rfl, rfl, by rw [si_eq, si_eq], ref 2⟩
  have q' := Classical.not_not.mp q
  rw [if_pos q', if_neg (by decide : ¬ (1 : Int) = 0), if_neg (by decide : ¬ (1 : Int) = 0), q_letE (σ.1 (q_rf X C 8) 7), f7, q_letE (τ2.1 (q_rf X a 20) (7 : Int32).toNatClampNeg), g7]
  by_cases q7 : c 7 = 0
  · rw [if_pos q7, if_pos q7, q_letE (8 : Int32), if_neg (by decide : ¬ (8 : Int32).toInt = 0), mv_none, mv_refuse]
    exact ⟨-1, _, -1, _, rfl, rfl, rfl, by rw [si_eq, si_eq], ref 8⟩
  have v5 : V 0 5 = c 6 := by
    have z := R.2.1.2.1
    rw [if_neg (by omega)] at z
    exact z
  rw [if_neg q7, if_neg q7, q_letE (σ.1 (q_rf X C 8) 5), f5, v5, q_letE (τ2.1 (q_rf X a 20) (6 : Int32).toNatClampNeg), g6]
  by_cases q6 : v.toInt = c 6
  · rw [if_pos q6, if_pos q6.symm, q_letE (5 : Int32), if_neg (by decide : ¬ (5 : Int32).toInt = 0), mv_none, mv_refuse]
    exact ⟨-1, _, -1, _, rfl, rfl, rfl, by rw [si_eq, si_eq], ref 5⟩
  rw [if_neg q6, if_neg (fun z => q6 z.symm), q_letE (0 : Int32), if_pos (by decide : (0 : Int32).toInt = 0)]
  obtain ⟨z, z', σ', τ', V', c', t, P, kd, tn, W, u, x1, x2, x3, x4, x5, x6, x7, x8, x9, x10, x11, x12, x13, x14⟩ := gm_doubt2 Y G w R m2 hG (by omega) hW (v := v) (v' := v) rfl rfl q'
  rw [x1, q_biP z σ', mv_good, q_biP z, x2, q_biP z' τ']
  have na0 : a ≠ q_rf X a 20 := Ne.symm (m_ne (tb_k Y.1 ha).1 ha (by decide))
  refine ⟨z, _, z', τ', rfl, rfl, by rw [x3, x4], ?_, mv_mk Y G hC x6 x9 (fun id i h => x11.1 id i (by omega) (by omega) (by omega) (by omega) (by omega) (by omega) (by omega)) (fun j j0 h => x12.1 j j0 (by omega) (by omega) (by omega) (by omega) (by omega) (by omega) (by omega) (by omega)) 0 x7 (k2.tr (x8.mono (fun b f z => Or.inl z) (fun _ _ z => z)))⟩
  rw [si_eq, x8.1 a 0 na0, s2]
theorem mv_bend (Y : y_S X lb) (G : y_G X lb (q_rf X C 8) 1) (hC : lb C / 8192 = 0) (ha : q_kd X a = 12) (R : rg (y_v X (q_rf X C 8) σ) c) (hG : m_G c) (hc : m_c X τ a = c) (v x y : Int32) :
    ∃ (z : Int32) (σ' : ST) (z' : Int32) (τ' : ST), F_X11_bend X σ C v x y = (z, σ') ∧ F_X12_bend X τ a v x y = (z', τ') ∧ z.toInt = z'.toInt ∧ (σ'.1 C 0).toInt = (τ'.1 a 0).toInt ∧ mv_R X lb C a σ σ' τ τ' (y_v X (q_rf X C 8) σ) c := by
  obtain ⟨V, hV⟩ : ∃ V, V = y_v X (q_rf X C 8) σ := ⟨_, rfl⟩
  have w : y_W X lb (q_rf X C 8) 1 σ σ V := by
    rw [hV]; exact y_W.rf
  rw [← hV] at R ⊢
  obtain ⟨b0, b2, b4, b5, b6, b7, b9, b79⟩ := hG.1
  obtain ⟨m2, s2, k2⟩ := mv_beg Y.1 ha hc
  have pc := lk_player w v
  rw [R.1.2.2.2.2.1] at pc
  unfold F_X11_bend F_X12_bend
  rw [q_letE (F_X11_isPlayer X σ C v), pc, q_letE (q_si τ a 1 0), q_letE (q_si (q_si τ a 1 0) a 0 0)]
  obtain ⟨τ2, e2⟩ : ∃ t, t = q_si (q_si τ a 1 0) a 0 0 := ⟨_, rfl⟩
  rw [← e2] at m2 s2 k2 ⊢
  have pm := lk_playerAt m2 b2 v
  rw [q_letE (F_X12_isPlayerAt X τ2 a v), pm]
  have ref : ∀ k : Int32, mv_R X lb C a σ (q_si σ C 0 k) τ (q_si τ2 a 0 k) V c := fun k => mv_mk Y G hC w R (fun _ _ _ => rfl) (fun _ _ _ => rfl) k ((mv_cell Y.1 ha 0 k).trans m2) (k2.si _ (Or.inr (Or.inl ⟨rfl, Or.inl rfl⟩)))
  by_cases q : ¬ (0 ≤ v.toInt ∧ v.toInt < c 2)
  · rw [if_neg q, if_pos rfl, if_pos rfl, mv_no, mv_noM]
    exact ⟨0, _, 0, _, rfl, rfl, rfl, by rw [si_eq, si_eq], ref 2⟩
  have q' := Classical.not_not.mp q
  rw [if_pos q', if_neg (by decide : ¬ (1 : Int) = 0), if_neg (by decide : ¬ (1 : Int) = 0), q_letE (F_X11_isSixteenths X σ x), lk_six, q_letE x.toInt64, q_letE (F_X12_isIn X τ2 x.toInt64 (0 : Int64) (16 : Int64)), lk_sixAt]
  by_cases qx : ¬ (0 ≤ x.toInt ∧ x.toInt ≤ 16)
  · rw [if_neg qx, if_pos rfl, if_pos rfl, mv_no, mv_noM]
    exact ⟨0, _, 0, _, rfl, rfl, rfl, by rw [si_eq, si_eq], ref 5⟩
  have qx' := Classical.not_not.mp qx
  rw [if_pos qx', if_neg (by decide : ¬ (1 : Int) = 0), if_neg (by decide : ¬ (1 : Int) = 0), q_letE (F_X11_isSixteenths X σ y), lk_six, q_letE y.toInt64, q_letE (F_X12_isIn X τ2 y.toInt64 (0 : Int64) (16 : Int64)), lk_sixAt]
  by_cases qy : ¬ (0 ≤ y.toInt ∧ y.toInt ≤ 16)
  · rw [if_neg qy, if_pos rfl, if_pos rfl, mv_no, mv_noM]
    exact ⟨0, _, 0, _, rfl, rfl, rfl, by rw [si_eq, si_eq], ref 5⟩
  have qy' := Classical.not_not.mp qy
  have gn10 : ((y_gn 10 : Nat) : Int) = 6 := rfl
  have gn11 : ((y_gn 11 : Nat) : Int) = 6 := rfl
  have e10 : (10 : Int32).toInt = 10 := rfl
  have e16 : (16 : Int32).toInt = 16 := rfl
  have i10 : ((10 : Int32) + v).toInt = 10 + v.toInt := by rw [ar_add, e10, ar_wr (by omega) (by omega)]
  have i16 : ((16 : Int32) + v).toInt = 16 + v.toInt := by rw [ar_add, e16, ar_wr (by omega) (by omega)]
  have w3 := w.set Y G (id := 10) (r := q_rf X (q_rf X (q_rf X C 8) 1) 3) ⟨by decide, by decide⟩ rfl v x q'.1 (by rw [gn10]; omega)
  have w4 := w3.set Y G (id := 11) (r := q_rf X (q_rf X (q_rf X C 8) 1) 4) ⟨by decide, by decide⟩ rfl v y q'.1 (by rw [gn11]; omega)
  rw [if_pos qy', if_neg (by decide : ¬ (1 : Int) = 0), if_neg (by decide : ¬ (1 : Int) = 0), q_letE (F_X5_set X σ (q_rf X (q_rf X (q_rf X C 8) 1) 3) v x), q_letE (F_X5_set X (F_X5_set X σ (q_rf X (q_rf X (q_rf X C 8) 1) 3) v x) (q_rf X (q_rf X (q_rf X C 8) 1) 4) v y), mv_yes, q_letE ((10 : Int32) + v), q_letE (q_si τ2 (q_rf X a 20) ((10 : Int32) + v).toNatClampNeg x), q_letE ((16 : Int32) + v), q_letE (q_si (q_si τ2 (q_rf X a 20) ((10 : Int32) + v).toNatClampNeg x) (q_rf X a 20) ((16 : Int32) + v).toNatClampNeg y)]
  have m4 : m_c X (q_si (q_si τ2 (q_rf X a 20) ((10 : Int32) + v).toNatClampNeg x) (q_rf X a 20) ((16 : Int32) + v).toNatClampNeg y) a = m_up (m_up c (10 + v.toInt) x.toInt) (16 + v.toInt) y.toInt := by
    rw [m_c_up _ (by omega) i16, m_c_up _ (by omega) i10, m2]
  have na0 : a ≠ q_rf X a 20 := Ne.symm (m_ne (tb_k Y.1 ha).1 ha (by decide))
  have R4 : rg (y_up (y_up V 10 v.toInt x.toInt) 11 v.toInt y.toInt) (m_up (m_up c (10 + v.toInt) x.toInt) (16 + v.toInt) y.toInt) := by
    refine R.bend (fun id i h1 h2 => by rw [y_up_ne (Or.inl h2), y_up_ne (Or.inl h1)]) (fun j h => by rw [m_up_ne (by omega), m_up_ne (by omega)]) (fun p p0 p1 => ⟨?_, ?_⟩)
    · rw [y_up_ne (Or.inl (by decide)), m_up_ne (by omega)]
      by_cases e : p = v.toInt
      · rw [e, y_up_eq, m_up_eq]
      · rw [y_up_ne (Or.inr e), m_up_ne (by omega)]; exact (R.2.2.1 p p0 p1).1
    · by_cases e : p = v.toInt
      · rw [e, y_up_eq, m_up_eq]
      · rw [y_up_ne (Or.inr e), y_up_ne (Or.inl (by decide)), m_up_ne (by omega), m_up_ne (by omega)]; exact (R.2.2.1 p p0 p1).2.1
  refine ⟨1, _, 1, _, rfl, rfl, rfl, ?_, mv_mk Y G hC w4 R4 (fun id i h => by rw [y_up_ne (by omega), y_up_ne (by omega)]) (fun j j0 h => by rw [m_up_ne (by omega), m_up_ne (by omega)]) 0 m4 ((k2.si _ (Or.inl rfl)).si _ (Or.inl rfl))⟩
  rw [si_eq, q_si_ne na0, q_si_ne na0, s2]
end GN
end
/-! FROM 49b.merged.lean.txt -/
section
/-! FROM 49o.all.lean.txt -/
/-! THE ROUND IN BOTH; ALL THAT BOTH KEEP -/
/-- a step of the reference and a line of the class -/
def st_l (V : Nat → Int → Int) (c : Int → Int) (s l : Int) : Prop :=
  (c (656 + 9 * s) = 0 ∧ V 18 l = 0) ∨
  (c (656 + 9 * s) = 1 ∧ V 18 l = 1 ∧ V 20 l = c (656 + 9 * s + 1) ∧ V 22 l = c (656 + 9 * s + 2)) ∨
  (c (656 + 9 * s) = 2 ∧ V 18 l = 2 ∧ V 20 l = c (656 + 9 * s + 1) ∧ V 22 l = c (656 + 9 * s + 2)) ∨
  (c (656 + 9 * s) = 5 ∧ V 18 l = 3) ∨
  (c (656 + 9 * s) = 4 ∧ V 18 l = 4 ∧ V 22 l = c (656 + 9 * s + 1) ∧ 1 ≤ c (656 + 9 * s + 1) ∧ c (656 + 9 * s + 1) ≤ 99) ∨
  (c (656 + 9 * s) = 3 ∧ c (656 + 9 * s + 6) = 0 ∧ V 18 l = 5 ∧ V 20 l = c (656 + 9 * s + 1) ∧ V 21 l = c (656 + 9 * s + 7) ∧ V 22 l = c (656 + 9 * s + 2)) ∨
  (c (656 + 9 * s) = 3 ∧ c (656 + 9 * s + 6) = 1 ∧ V 18 l = 6 ∧ V 21 l = c (656 + 9 * s + 7) ∧ V 22 l = c (656 + 9 * s + 2)) ∨
  (c (656 + 9 * s) = 3 ∧ c (656 + 9 * s + 6) = 2 ∧ V 18 l = 7 ∧ V 20 l = c (656 + 9 * s + 1) ∧ V 21 l = c (656 + 9 * s + 7) ∧ V 22 l = c (656 + 9 * s + 2)) ∨
  (c (656 + 9 * s) = 3 ∧ c (656 + 9 * s + 6) = 3 ∧ V 18 l = 8)
/-- the steps from s up to e are the lines from l up to l' -/
def fl (V : Nat → Int → Int) (c : Int → Int) : Nat → Int → Int → Int → Int → Prop
  | 0, s, e, l, l' => s = e ∧ l = l'
  | n + 1, s, e, l, l' => (s = e ∧ l = l') ∨ (s < e ∧ st_l V c s l ∧ ((c (656 + 9 * s) ≠ 3 ∧ c (656 + 9 * s) ≠ 4 ∧ c (656 + 9 * s + 8) = s + 1 ∧ fl V c n (s + 1) e (l + 1) l') ∨ ((c (656 + 9 * s) = 3 ∨ c (656 + 9 * s) = 4) ∧ ∃ m b : Int, c (656 + 9 * s + 8) = b ∧ V 18 m = 9 ∧ V 19 m = l ∧ V 19 l = m ∧ fl V c n (s + 1) b (l + 1) m ∧ fl V c n b e (m + 1) l')))
theorem fl_le {V : Nat → Int → Int} {c : Int → Int} (n : Nat) : ∀ {s e l l' : Int}, fl V c n s e l l' → s ≤ e ∧ l ≤ l' := by
  induction n with
  | zero => intro s e l l' h; have h' : s = e ∧ l = l' := h; omega
  | succ n ih =>
    intro s e l l' h
    rcases h with h | ⟨h1, h2, h3⟩
    · omega
    · rcases h3 with ⟨-, -, -, h3⟩ | ⟨-, m, b, h4, h5, h6, h7, h8, h9⟩
      · have := ih h3; omega
      · have := ih h8
        have := ih h9
        omega
theorem fl_rf (V : Nat → Int → Int) (c : Int → Int) (n : Nat) (s l : Int) : fl V c n s s l l := by
  cases n with
  | zero => exact ⟨rfl, rfl⟩
  | succ n => exact Or.inl ⟨rfl, rfl⟩
theorem fl_s {V : Nat → Int → Int} {c : Int → Int} (n : Nat) : ∀ {s e l l' : Int}, fl V c n s e l l' → fl V c (n + 1) s e l l' := by
  induction n with
  | zero => intro s e l l' h; exact Or.inl h
  | succ n ih =>
    intro s e l l' h
    rcases h with h | ⟨h1, h2, h3⟩
    · exact Or.inl h
    · refine Or.inr ⟨h1, h2, ?_⟩
      rcases h3 with ⟨a1, a2, a3, h3⟩ | ⟨a1, m, b, h4, h5, h6, h7, h8, h9⟩
      · exact Or.inl ⟨a1, a2, a3, ih h3⟩
      · exact Or.inr ⟨a1, m, b, h4, h5, h6, h7, ih h8, ih h9⟩
theorem fl_up {V : Nat → Int → Int} {c : Int → Int} {n : Nat} (k : Nat) {s e l l' : Int} (h : fl V c n s e l l') : fl V c (n + k) s e l l' := by
  induction k with
  | zero => exact h
  | succ k ih => exact fl_s _ ih
theorem fl_app {V : Nat → Int → Int} {c : Int → Int} {k : Nat} {e l' : Int} (n : Nat) : ∀ {s b l m : Int}, fl V c n s b l m → fl V c k b e m l' → fl V c (n + k) s e l l' := by
  induction n with
  | zero =>
    intro s b l m h1 h2
    have h' : s = b ∧ l = m := h1
    rw [h'.1, h'.2, Nat.zero_add]
    exact h2
  | succ n ih =>
    intro s b l m h1 h2
    have ek : n + 1 + k = n + k + 1 := by omega
    rw [ek]
    rcases h1 with h1 | ⟨a1, a2, a3⟩
    · rw [h1.1, h1.2]
      have z := fl_up (n + 1) h2
      have e2 : k + (n + 1) = n + k + 1 := by omega
      rw [e2] at z
      exact z
    · have lb := fl_le k h2
      refine Or.inr ⟨by omega, a2, ?_⟩
      rcases a3 with ⟨b1, b2, b3, h3⟩ | ⟨b1, m', b', h4, h5, h6, h7, h8, h9⟩
      · exact Or.inl ⟨b1, b2, b3, ih h3 h2⟩
      · exact Or.inr ⟨b1, m', b', h4, h5, h6, h7, fl_up k h8, ih h9 h2⟩
theorem st_l.x {V V' : Nat → Int → Int} {c c' : Int → Int} {s l : Int} (hs : 0 ≤ s ∧ s < 30) (hl : 0 ≤ l ∧ l < 60) (hV : ∀ (id : Nat) (i : Int), 18 ≤ id → id < 23 → 0 ≤ i → i < 60 → V' id i = V id i) (hc : ∀ j : Int, 654 ≤ j → j < 930 → c' j = c j) (h : st_l V c s l) : st_l V' c' s l := by
  unfold st_l at h ⊢
  rw [hV 18 l (by decide) (by decide) hl.1 hl.2, hV 20 l (by decide) (by decide) hl.1 hl.2, hV 21 l (by decide) (by decide) hl.1 hl.2, hV 22 l (by decide) (by decide) hl.1 hl.2, hc (656 + 9 * s) (by omega) (by omega), hc (656 + 9 * s + 1) (by omega) (by omega), hc (656 + 9 * s + 2) (by omega) (by omega), hc (656 + 9 * s + 6) (by omega) (by omega), hc (656 + 9 * s + 7) (by omega) (by omega)]
  exact h
theorem fl_x {V V' : Nat → Int → Int} {c c' : Int → Int} (hV : ∀ (id : Nat) (i : Int), 18 ≤ id → id < 23 → 0 ≤ i → i < 60 → V' id i = V id i) (hc : ∀ j : Int, 654 ≤ j → j < 930 → c' j = c j) (n : Nat) : ∀ {s e l l' : Int}, 0 ≤ s → e ≤ 30 → 0 ≤ l → l' ≤ 60 → fl V c n s e l l' → fl V' c' n s e l l' := by
  induction n with
  | zero => intro s e l l' _ _ _ _ h; exact h
  | succ n ih =>
    intro s e l l' s0 e0 l0 l1 h
    rcases h with h | ⟨a1, a2, a3⟩
    · exact Or.inl h
    · rcases a3 with ⟨b1, b2, b3, h3⟩ | ⟨b1, m, b, h4, h5, h6, h7, h8, h9⟩
      · have le := fl_le n h3
        refine Or.inr ⟨a1, a2.x ⟨s0, by omega⟩ ⟨l0, by omega⟩ hV hc, Or.inl ⟨?_, ?_, ?_, ih (by omega) e0 (by omega) l1 h3⟩⟩
        · rw [hc _ (by omega) (by omega)]; exact b1
        · rw [hc _ (by omega) (by omega)]; exact b2
        · rw [hc _ (by omega) (by omega)]; exact b3
      · have le8 := fl_le n h8
        have le9 := fl_le n h9
        refine Or.inr ⟨a1, a2.x ⟨s0, by omega⟩ ⟨l0, by omega⟩ hV hc, Or.inr ⟨?_, m, b, ?_, ?_, ?_, ?_, ih (by omega) (by omega) (by omega) (by omega) h8, ih (by omega) e0 (by omega) l1 h9⟩⟩
        · rw [hc _ (by omega) (by omega)]; exact b1
        · rw [hc _ (by omega) (by omega)]; exact h4
        · rw [hV 18 m (by decide) (by decide) (by omega) (by omega)]; exact h5
        · rw [hV 19 m (by decide) (by decide) (by omega) (by omega)]; exact h6
        · rw [hV 19 l (by decide) (by decide) (by omega) (by omega)]; exact h7
def rs (V : Nat → Int → Int) (c : Int → Int) : Prop := V 3 0 = c 654 ∧ (c 654 = 0 ∨ c 654 = 1) ∧ V 3 1 = c 655 ∧ (0 ≤ V 3 2 ∧ V 3 2 ≤ 60) ∧ ∃ n : Nat, fl V c n 0 (c 655) 0 (V 3 2)
theorem rs.x {V V' : Nat → Int → Int} {c c' : Int → Int} (h : rs V c) (hG : m_G c) (hV : ∀ (id : Nat) (i : Int), y_in y_all id i → V' id i = V id i) (hc : ∀ j : Int, 654 ≤ j → j < 930 → c' j = c j) : rs V' c' := by
  obtain ⟨h1, h2, h3, h4, n, h5⟩ := h
  have cell : ∀ (id f : Nat), (id, f) ∈ y_all → f ≠ 99 → V' id (f : Int) = V id (f : Int) := fun id f h h9 => hV id _ ⟨(id, f), h, rfl, Or.inr ⟨h9, rfl⟩⟩
  have row : ∀ (id : Nat) (i : Int), (id, 99) ∈ y_all → 0 ≤ i → i < ((y_gn id : Nat) : Int) → V' id i = V id i := fun id i h i0 i1 => hV id i ⟨(id, 99), h, rfl, Or.inl ⟨rfl, i0, i1⟩⟩
  have e0 : V' 3 0 = V 3 0 := cell 3 0 (by decide) (by decide)
  have e1 : V' 3 1 = V 3 1 := cell 3 1 (by decide) (by decide)
  have e2 : V' 3 2 = V 3 2 := cell 3 2 (by decide) (by decide)
  have q := hG.2.2.2.2.2.1
  refine ⟨?_, ?_, ?_, ?_, n, ?_⟩
  · rw [e0, hc 654 (by decide) (by decide)]; exact h1
  · rw [hc 654 (by decide) (by decide)]; exact h2
  · rw [e1, hc 655 (by decide) (by decide)]; exact h3
  · rw [e2]; exact h4
  · rw [e2, hc 655 (by decide) (by decide)]
    refine fl_x (fun id i i0 i1 j0 j1 => ?_) hc n (by decide) q.2 (by decide) h4.2 h5
    have mem : ∀ k : Nat, 18 ≤ k → k < 23 → (k, 99) ∈ y_all ∧ y_gn k = 60 := by
      intro k k0 k1
      rcases (by omega : k = 18 ∨ k = 19 ∨ k = 20 ∨ k = 21 ∨ k = 22) with e | e | e | e | e <;> subst e <;> decide
    have m := mem id i0 i1
    exact row id i m.1 j0 (by rw [m.2]; exact j1)
/-- a game, its names, its round -/
def rb (V : Nat → Int → Int) (c w : Int → Int) : Prop := rg V c ∧ y_nm V w 0 (c 2) ∧ rs V c
theorem y_nm.x {V V' : Nat → Int → Int} {w w' : Int → Int} {P : Int} (h : y_nm V w 0 P) (hP : P ≤ 6) (hV : ∀ (id : Nat) (i : Int), y_in y_all id i → V' id i = V id i) (hw : ∀ j : Int, 0 ≤ j → j < 6 → w' j = w j) : y_nm V' w' 0 P := by
  have row : ∀ (id : Nat) (i : Int), (id, 99) ∈ y_all → 0 ≤ i → i < ((y_gn id : Nat) : Int) → V' id i = V id i := fun id i h i0 i1 => hV id i ⟨(id, 99), h, rfl, Or.inl ⟨rfl, i0, i1⟩⟩
  have n5 : ((y_gn 5 : Nat) : Int) = 48 := rfl
  have n6 : ((y_gn 6 : Nat) : Int) = 6 := rfl
  intro p p0 p1
  obtain ⟨a1, a2, a3⟩ := h p p0 p1
  have e6 : V' 6 p = V 6 p := row 6 p (by decide) p0 (by omega)
  have e5 : ∀ i : Int, 0 ≤ i → i < V 6 p → V' 5 (8 * p + i) = V 5 (8 * p + i) := fun i i0 i1 => row 5 _ (by decide) (by omega) (by omega)
  rw [e6]
  refine ⟨a1, fun i i0 i1 => by rw [e5 i i0 i1]; exact a2 i i0 i1, ?_⟩
  rw [hw _ (by omega) (by omega), a3]
  refine tx_wv_ext (fun i hi => ?_)
  show V 5 (8 * p + (0 + (i : Int))) = V' 5 (8 * p + (0 + (i : Int)))
  rw [e5 _ (by omega) (by omega)]
theorem rb.x {V V' : Nat → Int → Int} {c c' w w' : Int → Int} (h : rb V c w) (hG : m_G c) (hV : ∀ (id : Nat) (i : Int), y_in y_all id i → V' id i = V id i) (hc : ∀ j : Int, 0 ≤ j → j < 930 → c' j = c j) (hw : ∀ j : Int, 0 ≤ j → j < 6 → w' j = w j) : rb V' c' w' := by
  refine ⟨h.1.x hG hV (fun j a b => hc j a (by omega)), ?_, h.2.2.x hG hV (fun j a b => hc j (by omega) b)⟩
  rw [hc 2 (by decide) (by decide)]
  exact h.2.1.x hG.1.2.1.2 hV hw
/-- all that both keep: game, names, round, and the marks; the class read in σ, the reference in τ -/
def al_R (X : XW) (C a : Nat) (σ τ : ST) : Prop :=
  rb (y_v X (q_rf X C 8) σ) (m_c X τ a) (m_wd X τ a) ∧ (σ.1 C 11).toInt = (τ.1 a 24).toInt ∧ (0 ≤ (σ.1 C 11).toInt ∧ (σ.1 C 11).toInt ≤ 3) ∧ ∀ b : Nat, 1 ≤ b → (b : Int) ≤ (σ.1 C 11).toInt → rb (y_v X (q_rf X (q_rf X C 10) (b - 1)) σ) (fun j => m_c X τ a (930 * (b : Int) + j)) (fun j => m_wd X τ a (6 * (b : Int) + j))
def al_C (X : XW) (lb : Nat → Nat) (C a : Nat) : Prop := q_kd X C = 11 ∧ q_kd X a = 12 ∧ y_S X lb ∧ lb C = 1 ∧ y_G X lb (q_rf X C 8) 1 ∧ y_G X lb (q_rf X C 9) 2 ∧ ∀ i : Nat, i < 3 → y_G X lb (q_rf X (q_rf X C 10) i) (3 + i)
theorem al_Cmk {X : XW} {lb : Nat → Nat} {C a : Nat} (S : y_S X lb) (hC : q_kd X C = 11) (ha : q_kd X a = 12) (h1 : lb C = 1) : al_C X lb C a := by
  obtain ⟨T, L, N⟩ := id S
  have k8 : q_kd X (q_rf X C 8) = 1 := (T.1 C 8 (by rw [hC]; decide)).trans (by rw [hC]; rfl)
  have l8 : lb (q_rf X C 8) = 8192 * 1 + 1 := (L C 8 (by rw [hC]; decide)).trans (by rw [h1]; decide)
  have k9 : q_kd X (q_rf X C 9) = 1 := (T.1 C 9 (by rw [hC]; decide)).trans (by rw [hC]; rfl)
  have l9 : lb (q_rf X C 9) = 8192 * 2 + 1 := (L C 9 (by rw [hC]; decide)).trans (by rw [h1]; decide)
  have k10 : q_kd X (q_rf X C 10) = 24 := (T.1 C 10 (by rw [hC]; decide)).trans (by rw [hC]; rfl)
  have l10 : lb (q_rf X C 10) = 26 := (L C 10 (by rw [hC]; decide)).trans (by rw [h1]; decide)
  refine ⟨hC, ha, S, h1, ⟨k8, l8, by decide⟩, ⟨k9, l9, by decide⟩, fun i hi => ?_⟩
  have nz : q_rk (q_kd X (q_rf X C 10)) i ≠ 0 := by
    rw [k10]
    rcases (by omega : i = 0 ∨ i = 1 ∨ i = 2) with e | e | e <;> subst e <;> decide
  refine ⟨(T.1 (q_rf X C 10) i nz).trans ?_, (L (q_rf X C 10) i nz).trans ?_, by omega⟩
  · rw [k10]
    rcases (by omega : i = 0 ∨ i = 1 ∨ i = 2) with e | e | e <;> subst e <;> rfl
  · rw [l10]
    rcases (by omega : i = 0 ∨ i = 1 ∨ i = 2) with e | e | e <;> subst e <;> decide
/-- a game whose owner's cells stand is the same -/
theorem y_v.k {X : XW} {lb : Nat → Nat} {g o : Nat} {σ σ' : ST} (S : y_S X lb) (G : y_G X lb g o) (h : ∀ b, lb b / 8192 = o → ∀ f, σ'.1 b f = σ.1 b f) : y_v X g σ' = y_v X g σ := by
  funext id i
  unfold y_v
  by_cases q : id < 25 ∧ 0 ≤ i
  · rw [if_pos q, if_pos q, h _ (y_own S G q.1)]
  · rw [if_neg q, if_neg q]
section GO
variable {X : XW} {lb : Nat → Nat} {C a : Nat} {σ τ σ' τ' : ST} {V : Nat → Int → Int} {c : Int → Int}
/-- a call that moves the game alone -/
theorem al_R.mv {n : Int} (K : al_C X lb C a) (A : al_R X C a σ τ) (M : m_M (m_c X τ a) (τ.1 a 24).toInt n) (h : mv_R X lb C a σ σ' τ τ' (y_v X (q_rf X C 8) σ) (m_c X τ a)) : al_R X C a σ' τ' := by
  obtain ⟨kC, ka, S, lC, G8, G9, GM⟩ := K
  obtain ⟨⟨A1, A1b, A1c⟩, A2, A3, A4⟩ := A
  obtain ⟨V', c', v1, m1, R', fV, fc, fr, fC, f2, ft⟩ := h
  have k20 := (tb_k S.1 ka).1
  have k23 := (tb_k S.1 ka).2.2.1
  have k28 : q_kd X (q_rf X a 28) = 39 := (S.1.1 a 28 (by rw [ka]; decide)).trans (by rw [ka]; rfl)
  have k29 : q_kd X (q_rf X a 29) = 40 := (S.1.1 a 29 (by rw [ka]; decide)).trans (by rw [ka]; rfl)
  have w1 : m_wd X τ' a = m_wd X τ a := by
    funext j
    exact congrArg Int64.toInt (ft.2.1 _ _ (fun z => z))
  have e24 : τ'.1 a 24 = τ.1 a 24 := ft.1 a 24 (fun z => by
    rcases z with z | z | z | z
    · exact m_ne k20 ka (by decide) z.symm
    · exact absurd z.2 (by decide)
    · exact m_ne k28 ka (by decide) z.symm
    · exact m_ne k29 ka (by decide) z.symm)
  have e11 : σ'.1 C 11 = σ.1 C 11 := fC 11 (by decide)
  refine ⟨⟨?_, ?_, ?_⟩, by rw [e11, e24]; exact A2, by rw [e11]; exact A3, fun b b1 b2 => ?_⟩
  · rw [v1, m1]; exact R'
  · rw [v1, m1, w1, fc 2 (by decide) (by decide)]
    intro p p0 p1
    obtain ⟨a1, a2, a3⟩ := A1b p p0 p1
    rw [fV 6 p (by decide)]
    refine ⟨a1, fun i i0 i1 => by rw [fV 5 _ (by decide)]; exact a2 i i0 i1, ?_⟩
    rw [a3]
    refine tx_wv_ext (fun i hi => ?_)
    show y_v X (q_rf X C 8) σ 5 (8 * p + (0 + (i : Int))) = V' 5 (8 * p + (0 + (i : Int)))
    rw [fV 5 _ (by decide)]
  · rw [v1, m1]
    obtain ⟨h1, h2, h3, h4, n, h5⟩ := A1c
    have q := M.1.1.2.2.2.2.2.1
    refine ⟨?_, ?_, ?_, ?_, n, ?_⟩
    · rw [fV 3 0 (by decide), fc 654 (by decide) (by decide)]; exact h1
    · rw [fc 654 (by decide) (by decide)]; exact h2
    · rw [fV 3 1 (by decide), fc 655 (by decide) (by decide)]; exact h3
    · rw [fV 3 2 (by decide)]; exact h4
    · rw [fV 3 2 (by decide), fc 655 (by decide) (by decide)]
      exact fl_x (fun id i i0 i1 j0 j1 => fV id i (by omega)) (fun j j0 j1 => fc j (by omega) (by omega)) n (by decide) q.2 (by decide) h4.2 h5
  · rw [e11] at b2
    have z := A4 b b1 b2
    have gv : y_v X (q_rf X (q_rf X C 10) (b - 1)) σ' = y_v X (q_rf X (q_rf X C 10) (b - 1)) σ := y_v.k S (GM (b - 1) (by omega)) (fun x hx f => fr x (by omega) (fun e => by rw [e, lC] at hx; omega) f)
    refine z.x (M.2 (b : Int) (by omega) (by rw [A2] at b2; exact b2)).1 (fun id i _ => by rw [gv]) (fun j j0 j1 => ?_) (fun j j0 j1 => by rw [w1])
    show m_c X τ' a (930 * (b : Int) + j) = m_c X τ a (930 * (b : Int) + j)
    rw [m1]
    exact fc _ (by omega) (by omega)
/-- a game copied is the same -/
theorem y_C.cp {g1 g o : Nat} {ρ ρ' : ST} (h : y_C X lb g1 o g ρ ρ' y_all) : (∀ b, lb b / 8192 ≠ o → ∀ f, ρ'.1 b f = ρ.1 b f) ∧ ρ'.2 = ρ.2 ∧ ∀ (id : Nat) (i : Int), y_in y_all id i → y_v X g1 ρ' id i = y_v X g ρ id i := by
  obtain ⟨V1, w, e⟩ := h
  refine ⟨w.1, w.2.1, fun id i hi => ?_⟩
  rw [w.2.2]
  exact e id i hi
theorem on_s {α : Type} (r : Nat) (x : α) (k : Nat → α) : q_on (some r) x k = k r := rfl
theorem on_n {α : Type} (x : α) (k : Nat → α) : q_on none x k = x := rfl
theorem al_mark {n : Int} (K : al_C X lb C a) (A : al_R X C a σ τ) (M : m_M (m_c X τ a) (τ.1 a 24).toInt n) : ∃ (z : Int32) (σ' : ST) (z' : Int32) (τ' : ST), F_X11_mark X σ C = (z, σ') ∧ F_X12_mark X τ a = (z', τ') ∧ z.toInt = z'.toInt ∧ (σ'.1 C 0).toInt = (τ'.1 a 0).toInt ∧ al_R X C a σ' τ' := by
  obtain ⟨kC, ka, S, lC, G8, G9, GM⟩ := id K
  obtain ⟨A1, A2, A3, A4⟩ := id A
  have k20 := (tb_k S.1 ka).1
  have k23 := (tb_k S.1 ka).2.2.1
  have na0 : a ≠ q_rf X a 20 := Ne.symm (m_ne k20 ka (by decide))
  have hC1 : ∀ o, 1 ≤ o → lb C / 8192 ≠ o := fun o ho => by omega
  obtain ⟨m2, s2, t2⟩ := mv_beg S.1 ka (rfl : m_c X τ a = m_c X τ a)
  obtain ⟨k, hk⟩ : ∃ k, k = (σ.1 C 11).toInt := ⟨_, rfl⟩
  rw [← hk] at A2 A3 A4
  have f24 : (q_si (q_si τ a 1 0) a 0 0).1 a 24 = τ.1 a 24 := by rw [si_f (by decide), si_f (by decide)]
  have w2 : m_wd X (q_si (q_si τ a 1 0) a 0 0) a = m_wd X τ a := rfl
  unfold F_X11_mark F_X12_mark F_X11_markAt
  rw [q_letE (σ.1 C 11), q_letE (q_si τ a 1 0), q_letE (q_si (q_si τ a 1 0) a 0 0)]
  obtain ⟨τ2, e2⟩ : ∃ t, t = q_si (q_si τ a 1 0) a 0 0 := ⟨_, rfl⟩
  rw [← e2] at m2 s2 t2 f24 w2 ⊢
  rw [q_letE (τ2.1 a 24), f24, ← A2, ← hk, if_neg (by omega : ¬ k < 0)]
  by_cases q3 : k = 3
  · rw [if_neg (by omega : ¬ k < 3), if_pos q3, q_letE, on_n, mv_none, mv_refuse]
    refine ⟨-1, _, -1, _, rfl, rfl, rfl, by rw [si_eq, si_eq], A.mv K M ?_⟩
    exact mv_mk S G8 (by omega) y_W.rf A1.1 (fun _ _ _ => rfl) (fun _ _ _ => rfl) 7 ((mv_cell S.1 ka 0 7).trans m2) (t2.si _ (Or.inr (Or.inl ⟨rfl, Or.inl rfl⟩)))
  · rw [if_pos (by omega : k < 3), if_neg q3, q_letE, on_s]
    have hf : (σ.1 C 11).toNatClampNeg = k.toNat := by rw [ar_cl, ← hk]
    rw [hf]
    have one : (1 : Int32).toInt = 1 := rfl
    have zero : (0 : Int32).toInt = 0 := rfl
    -- the class
    obtain ⟨ow, o2, oV⟩ := (tb_copy (σ := σ) (g := q_rf X C 8) S (GM k.toNat (by omega)) G8 (by omega)).cp
    rw [q_letE (F_X0_copyFrom X σ (q_rf X (q_rf X C 10) k.toNat) (q_rf X C 8))]
    obtain ⟨σ1, e1⟩ : ∃ t, t = F_X0_copyFrom X σ (q_rf X (q_rf X C 10) k.toNat) (q_rf X C 8) := ⟨_, rfl⟩
    rw [← e1] at ow o2 oV ⊢
    have f11 : σ1.1 C 11 = σ.1 C 11 := ow C (hC1 _ (by omega)) 11
    obtain ⟨u, hu⟩ : ∃ u, u = σ1.1 C 11 + 1 := ⟨_, rfl⟩
    have uv : u.toInt = k + 1 := by rw [hu, ar_add, f11, one, ← hk, ar_wr (by omega) (by omega)]
    rw [q_letE (σ1.1 C 11), ← hu, q_letE u, q_letE (q_si σ1 C 11 u), q_letE ((q_si σ1 C 11 u).1 C 11), si_eq, mv_good]
    -- the reference
    have f24' : (τ2.1 a 24).toInt = k := by rw [f24]; exact A2.symm
    obtain ⟨v, hv⟩ : ∃ v, v = τ2.1 a 24 + 1 := ⟨_, rfl⟩
    have vv : v.toInt = k + 1 := by rw [hv, ar_add, f24', one, ar_wr (by omega) (by omega)]
    have hv' : τ.1 a 24 + 1 = v := by rw [hv, f24]
    rw [q_letE (τ.1 a 24), hv', q_letE v, q_letE (q_si τ2 a 24 v), q_letE ((q_si τ2 a 24 v).1 a 24), si_eq]
    have m3 : m_c X (q_si τ2 a 24 v) a = m_c X τ a := (mv_cell S.1 ka 24 v).trans m2
    have w3 : m_wd X (q_si τ2 a 24 v) a = m_wd X τ a := w2
    obtain ⟨tc, mc, wc⟩ := tm_copy (X := X) (τ := q_si τ2 a 24 v) S.1 ka (v1 := 0) (v2 := v) (s := 0) (d := k + 1) rfl vv ⟨by decide, by decide⟩ ⟨by omega, by omega⟩ (by omega)
    rw [m3] at mc
    rw [w3] at wc
    have s3 : (q_si τ2 a 24 v).1 a 0 = 0 := by rw [si_f (by decide), s2]
    have v3 : (q_si τ2 a 24 v).1 a 24 = v := si_eq _ _ _ _
    obtain ⟨τ3, e3⟩ : ∃ t, t = q_si τ2 a 24 v := ⟨_, rfl⟩
    rw [← e3] at tc mc wc s3 v3 ⊢
    rw [q_letE (F_X12_copy X τ3 a 0 v)]
    obtain ⟨τ4, e4⟩ : ∃ t, t = F_X12_copy X τ3 a 0 v := ⟨_, rfl⟩
    rw [← e4] at tc mc wc ⊢
    have g24 : τ4.1 a 24 = v := (tc.1 a 24 na0).trans v3
    rw [q_letE (τ4.1 a 24), g24]
    refine ⟨u, _, v, τ4, rfl, rfl, by rw [uv, vv], ?_, ?_, ?_, ?_, fun b b1 b2 => ?_⟩
    · rw [si_eq, tc.1 a 0 na0, s3]
    · have gv : y_v X (q_rf X C 8) (q_si (q_si σ1 C 11 u) C 0 0) = y_v X (q_rf X C 8) σ := y_v.k S G8 (fun x hx f => by
        have nx : x ≠ C := fun e => by rw [e, lC] at hx; omega
        rw [q_si_ne nx, q_si_ne nx]
        exact ow x (by omega) f)
      rw [gv]
      exact A1.x M.1.1 (fun _ _ _ => rfl) (fun j j0 j1 => by rw [mc j j0, if_neg (by omega)]) (fun j j0 j1 => by rw [wc j j0, if_neg (by omega)])
    · rw [si_f (by decide), si_eq, uv, g24, vv]
    · rw [si_f (by decide), si_eq, uv]; omega
    · rw [si_f (by decide), si_eq, uv] at b2
      by_cases eb : (b : Int) = k + 1
      · have eb' : b - 1 = k.toNat := by omega
        refine A1.x M.1.1 (fun id i hi => ?_) (fun j j0 j1 => ?_) (fun j j0 j1 => ?_)
        · rw [eb', ← oV id i hi]
          refine congrFun (congrFun (y_v.k S (GM k.toNat (by omega)) (fun x hx f => ?_)) id) i
          have nx : x ≠ C := fun e => by rw [e, lC] at hx; omega
          rw [q_si_ne nx, q_si_ne nx]
        · show m_c X τ4 a (930 * (b : Int) + j) = _
          rw [eb, mc _ (by omega), if_pos (by omega)]
          congr 1
          omega
        · show m_wd X τ4 a (6 * (b : Int) + j) = _
          rw [eb, wc _ (by omega), if_pos (by omega)]
          congr 1
          omega
      · refine (A4 b b1 (by omega)).x (M.2 (b : Int) (by omega) (by rw [← A2]; omega)).1 (fun id i _ => ?_) (fun j j0 j1 => ?_) (fun j j0 j1 => ?_)
        · refine congrFun (congrFun (y_v.k S (GM (b - 1) (by omega)) (fun x hx f => ?_)) id) i
          have nx : x ≠ C := fun e => by rw [e, lC] at hx; omega
          rw [q_si_ne nx, q_si_ne nx]
          exact ow x (by omega) f
        · show m_c X τ4 a (930 * (b : Int) + j) = _
          rw [mc _ (by omega), if_neg (by omega)]
        · show m_wd X τ4 a (6 * (b : Int) + j) = _
          rw [wc _ (by omega), if_neg (by omega)]
theorem al_back {n : Int} (K : al_C X lb C a) (A : al_R X C a σ τ) (M : m_M (m_c X τ a) (τ.1 a 24).toInt n) : ∃ (z : Int32) (σ' : ST) (z' : Int32) (τ' : ST), F_X11_back X σ C = (z, σ') ∧ F_X12_back X τ a = (z', τ') ∧ z.toInt = z'.toInt ∧ (σ'.1 C 0).toInt = (τ'.1 a 0).toInt ∧ al_R X C a σ' τ' := by
  obtain ⟨kC, ka, S, lC, G8, G9, GM⟩ := id K
  obtain ⟨A1, A2, A3, A4⟩ := id A
  have k20 := (tb_k S.1 ka).1
  have k23 := (tb_k S.1 ka).2.2.1
  have na0 : a ≠ q_rf X a 20 := Ne.symm (m_ne k20 ka (by decide))
  have hC1 : ∀ o, 1 ≤ o → lb C / 8192 ≠ o := fun o ho => by omega
  obtain ⟨m2, s2, t2⟩ := mv_beg S.1 ka (rfl : m_c X τ a = m_c X τ a)
  obtain ⟨k, hk⟩ : ∃ k, k = (σ.1 C 11).toInt := ⟨_, rfl⟩
  rw [← hk] at A2 A3 A4
  have one : (1 : Int32).toInt = 1 := rfl
  have f24 : (q_si (q_si τ a 1 0) a 0 0).1 a 24 = τ.1 a 24 := by rw [si_f (by decide), si_f (by decide)]
  have w2 : m_wd X (q_si (q_si τ a 1 0) a 0 0) a = m_wd X τ a := rfl
  unfold F_X11_back F_X12_back F_X11_markAt
  rw [q_letE (σ.1 C 11), q_letE (q_si τ a 1 0), q_letE (q_si (q_si τ a 1 0) a 0 0)]
  obtain ⟨τ2, e2⟩ : ∃ t, t = q_si (q_si τ a 1 0) a 0 0 := ⟨_, rfl⟩
  rw [← e2] at m2 s2 t2 f24 w2 ⊢
  have i1 : (σ.1 C 11 - 1).toInt = k - 1 := by rw [ar_sub, one, ← hk, ar_wr (by omega) (by omega)]
  rw [q_letE (σ.1 C 11 - 1), q_letE (τ2.1 a 24), f24, ← A2, i1]
  by_cases q0 : k = 0
  · rw [if_pos (by omega : k - 1 < 0), if_pos q0, q_letE, on_n, mv_none, mv_refuse]
    refine ⟨-1, _, -1, _, rfl, rfl, rfl, by rw [si_eq, si_eq], A.mv K M ?_⟩
    exact mv_mk S G8 (by omega) y_W.rf A1.1 (fun _ _ _ => rfl) (fun _ _ _ => rfl) 8 ((mv_cell S.1 ka 0 8).trans m2) (t2.si _ (Or.inr (Or.inl ⟨rfl, Or.inl rfl⟩)))
  · rw [if_neg (by omega : ¬ k - 1 < 0), if_pos (by omega : k - 1 < 3), if_neg q0, q_letE, on_s]
    have hf : (σ.1 C 11 - 1).toNatClampNeg = (k - 1).toNat := by rw [ar_cl, i1]
    rw [hf]
    have ek : (k - 1).toNat = k.toNat - 1 := by omega
    rw [ek]
    -- the class
    obtain ⟨ow, o2, oV⟩ := (tb_copy (σ := σ) (g := q_rf X (q_rf X C 10) (k.toNat - 1)) S G8 (GM (k.toNat - 1) (by omega)) (by omega)).cp
    rw [q_letE (F_X0_copyFrom X σ (q_rf X C 8) (q_rf X (q_rf X C 10) (k.toNat - 1)))]
    obtain ⟨σ1, e1⟩ : ∃ t, t = F_X0_copyFrom X σ (q_rf X C 8) (q_rf X (q_rf X C 10) (k.toNat - 1)) := ⟨_, rfl⟩
    rw [← e1] at ow o2 oV ⊢
    have f11 : σ1.1 C 11 = σ.1 C 11 := ow C (hC1 _ (by omega)) 11
    obtain ⟨u, hu⟩ : ∃ u, u = σ1.1 C 11 - 1 := ⟨_, rfl⟩
    have uv : u.toInt = k - 1 := by rw [hu, f11, i1]
    rw [q_letE (σ1.1 C 11), ← hu, q_letE u, q_letE (q_si σ1 C 11 u), q_letE ((q_si σ1 C 11 u).1 C 11), si_eq, mv_good]
    -- the reference
    have f24' : (τ.1 a 24).toInt = k := A2.symm
    obtain ⟨tc, mc, wc⟩ := tm_copy (X := X) (τ := τ2) S.1 ka (v1 := τ.1 a 24) (v2 := 0) (s := k) (d := 0) f24' rfl ⟨by omega, by omega⟩ ⟨by decide, by decide⟩ q0
    rw [m2] at mc
    rw [w2] at wc
    rw [q_letE (τ.1 a 24), q_letE (F_X12_copy X τ2 a (τ.1 a 24) 0)]
    obtain ⟨τ3, e3⟩ : ∃ t, t = F_X12_copy X τ2 a (τ.1 a 24) 0 := ⟨_, rfl⟩
    rw [← e3] at tc mc wc ⊢
    have g24 : τ3.1 a 24 = τ.1 a 24 := (tc.1 a 24 na0).trans f24
    obtain ⟨v, hv⟩ : ∃ v, v = τ3.1 a 24 - 1 := ⟨_, rfl⟩
    have vv : v.toInt = k - 1 := by rw [hv, ar_sub, g24, one, f24', ar_wr (by omega) (by omega)]
    rw [q_letE (τ3.1 a 24), ← hv, q_letE v, q_letE (q_si τ3 a 24 v), q_letE ((q_si τ3 a 24 v).1 a 24), si_eq]
    have m4 : m_c X (q_si τ3 a 24 v) a = m_c X τ3 a := mv_cell S.1 ka 24 v
    have w4 : m_wd X (q_si τ3 a 24 v) a = m_wd X τ3 a := rfl
    have Mk := (M.2 k (by omega) (by rw [f24']; omega)).1
    have Ak := A4 k.toNat (by omega) (by omega)
    have ekk : ((k.toNat : Nat) : Int) = k := by omega
    rw [ekk] at Ak
    refine ⟨u, _, v, _, rfl, rfl, by rw [uv, vv], ?_, ?_, ?_, ?_, fun b b1 b2 => ?_⟩
    · rw [si_eq, si_f (by decide), tc.1 a 0 na0, s2]
    · rw [m4, w4]
      refine Ak.x Mk (fun id i hi => ?_) (fun j j0 j1 => ?_) (fun j j0 j1 => ?_)
      · rw [← oV id i hi]
        refine congrFun (congrFun (y_v.k S G8 (fun x hx f => ?_)) id) i
        have nx : x ≠ C := fun e => by rw [e, lC] at hx; omega
        rw [q_si_ne nx, q_si_ne nx]
      · rw [mc j j0, if_pos (by omega)]
        congr 1
        omega
      · rw [wc j j0, if_pos (by omega)]
        congr 1
        omega
    · rw [si_f (by decide), si_eq, uv, si_eq, vv]
    · rw [si_f (by decide), si_eq, uv]; omega
    · rw [si_f (by decide), si_eq, uv] at b2
      rw [m4, w4]
      refine (A4 b b1 (by omega)).x (M.2 (b : Int) (by omega) (by rw [← A2]; omega)).1 (fun id i _ => ?_) (fun j j0 j1 => ?_) (fun j j0 j1 => ?_)
      · refine congrFun (congrFun (y_v.k S (GM (b - 1) (by omega)) (fun x hx f => ?_)) id) i
        have nx : x ≠ C := fun e => by rw [e, lC] at hx; omega
        rw [q_si_ne nx, q_si_ne nx]
        exact ow x (by omega) f
      · show m_c X τ3 a (930 * (b : Int) + j) = _
        rw [mc _ (by omega), if_neg (by omega)]
      · show m_wd X τ3 a (6 * (b : Int) + j) = _
        rw [wc _ (by omega), if_neg (by omega)]
end GO

/-! FROM 49p.tableF.lean.txt -/
/-! TABLE: what it leaves alone -/
section TNF
variable {X : XW} {lb : Nat → Nat} {C a : Nat} {σ τ : ST} {m : Int} {B : Int → Int}
theorem tb_tableF (Cl : tb_Cls X lb C a) (h5 : (σ.1 C 5).toInt = m) (h8 : (τ.1 a 8).toInt = m) (hm : 0 ≤ m ∧ m ≤ 900) (hB : ∀ p : Int, 0 ≤ p → p < m → (σ.1 (q_rf X C 4) p.toNat).toInt = B p ∧ -128 ≤ B p ∧ B p ≤ 127) (hB2 : ∀ p : Int, 0 ≤ p → p < m → (τ.1 (q_rf X a 7) p.toNat).toInt = B p) (v : Int32) :
    ∃ (z : Int32) (σ' : ST) (z' : Int32) (τ' : ST), F_X11_table X σ C v = (z, σ') ∧ F_X12_table X τ a v = (z', τ') ∧ z.toInt = z'.toInt ∧ (σ'.1 C 0).toInt = (τ'.1 a 0).toInt ∧ tb_Out X C a σ τ v m z σ' τ' ∧ ∀ b, lb b / 8192 = 3 ∨ lb b / 8192 = 4 ∨ lb b / 8192 = 5 → ∀ f, σ'.1 b f = σ.1 b f := by
  obtain ⟨kC, ka, Y, H, G1, hTl, hUl, hlC⟩ := Cl
  have z0 : (0 : Int32).toInt = 0 := rfl
  have m1 : ((-1) : Int32).toInt = -1 := rfl
  have e900 : (900 : Int32).toInt = 900 := rfl
  have ku : q_kd X (q_rf X a 7) = 33 := (tb_k Y.1 ka).2.2.2
  have nU : q_rf X a 7 ≠ a := m_ne ku ka (by decide)
  obtain ⟨D, hD⟩ : ∃ D, D = q_rf X C 12 := ⟨_, rfl⟩
  obtain ⟨T, hT⟩ : ∃ T, T = q_rf X C 4 := ⟨_, rfl⟩
  obtain ⟨g, hg⟩ : ∃ g, g = q_rf X D 8 := ⟨_, rfl⟩
  obtain ⟨g1, hg1⟩ : ∃ g, g = q_rf X C 8 := ⟨_, rfl⟩
  rw [← hD, ← hT, ← hg] at H
  rw [← hT] at hTl hB
  rw [← hg1] at G1
  have kD : q_kd X D = 9 := H.1
  have kT : q_kd X T = 22 := H.2.2.2.2.2.2.2.2
  have nTD : T ≠ D := m_ne kT kD (by decide)
  have nCD : C ≠ D := m_ne kC kD (by decide)
  have nCA : C ≠ tb_T X D := m_ne kC H.2.2.2.2.2.2.1 (by decide)
  have hC6 : lb C / 8192 ≠ 6 := by omega
  have hC1 : lb C / 8192 ≠ 1 := by omega
  have hD1 : lb D / 8192 ≠ 1 := by have := H.2.2.2.1; omega
  -- the reference begins
  have t2 : tkl (fun b f => b = a ∧ (f = 0 ∨ f = 1)) (fun _ _ => False) τ (q_si (q_si τ a 1 0) a 0 0) := (tkl.rf.si _ ⟨rfl, Or.inr rfl⟩).si _ ⟨rfl, Or.inl rfl⟩
  have d8 : ((q_si (q_si τ a 1 0) a 0 0).1 a 8).toInt = m := by rw [si_f (by decide), si_f (by decide)]; exact h8
  have d0 : (q_si (q_si τ a 1 0) a 0 0).1 a 0 = 0 := si_eq _ _ _ _
  unfold F_X11_table F_X12_table F_X12_opens F_X12_no F_X11_none F_X11_good
  rw [q_letE (q_si τ a 1 0), q_letE (q_si (q_si τ a 1 0) a 0 0)]
  obtain ⟨τ2, e2⟩ : ∃ s, s = q_si (q_si τ a 1 0) a 0 0 := ⟨_, rfl⟩
  rw [← e2] at t2 d8 d0 ⊢
  have no5 : tkl (fun b f => b = a ∧ (f = 0 ∨ f = 1)) (fun _ _ => False) τ (q_si τ2 a 0 5) := t2.si _ ⟨rfl, Or.inl rfl⟩
  have st5 : ((q_si σ C 0 5).1 C 0).toInt = ((q_si τ2 a 0 5).1 a 0).toInt := by rw [si_eq, si_eq]
  have tc5 : tk (fun b f => b = C ∧ f = 0) σ (q_si σ C 0 5) := tk.rf.si _ ⟨rfl, rfl⟩
  have fr5 : ∀ b, lb b / 8192 = 3 ∨ lb b / 8192 = 4 ∨ lb b / 8192 = 5 → ∀ f, (q_si σ C 0 5).1 b f = σ.1 b f := fun b hb f => tc5.1 b f (fun z => by
    rw [z.1] at hb
    omega)
  have hD0 := H.2.2.2.1
  have hA0 := H.2.2.2.2.2.1
  by_cases q1 : v.toInt < 0
  · rw [if_pos q1, if_pos q1, q_letE, q_biP, q_letE, q_biP, q_biP, if_pos (by decide : (0 : Int32).toInt = 0)]
    exact ⟨-1, _, -1, _, rfl, rfl, rfl, st5, Or.inl ⟨Or.inl q1, tc5, no5⟩, fr5⟩
  · rw [if_neg q1, if_neg q1, q_letE (σ.1 C 5), h5, q_letE (τ2.1 a 8), d8]
    by_cases q2 : m < v.toInt
    · rw [if_pos q2, if_pos q2, q_letE, q_biP, q_letE, q_biP, q_biP, if_pos (by decide : (0 : Int32).toInt = 0)]
      exact ⟨-1, _, -1, _, rfl, rfl, rfl, st5, Or.inl ⟨Or.inr q2, tc5, no5⟩, fr5⟩
    · rw [if_neg q2, if_neg q2, e900, if_neg (by omega : ¬ (900 : Int) < v.toInt)]
      rw [q_letE (q_si τ2 a 9 v), q_letE (q_si (q_si τ2 a 9 v) a 8 0), q_letE (q_si (q_si (q_si τ2 a 9 v) a 8 0) a 16 0), q_letE (q_si (q_si (q_si (q_si τ2 a 9 v) a 8 0) a 16 0) a 12 0)]
      have t3 : tkl (fun b f => b = a ∧ (f = 9 ∨ f = 8 ∨ f = 16 ∨ f = 12)) (fun _ _ => False) τ2 (q_si (q_si (q_si (q_si τ2 a 9 v) a 8 0) a 16 0) a 12 0) := (((tkl.rf.si _ ⟨rfl, Or.inl rfl⟩).si _ ⟨rfl, Or.inr (Or.inl rfl)⟩).si _ ⟨rfl, Or.inr (Or.inr (Or.inl rfl))⟩).si _ ⟨rfl, Or.inr (Or.inr (Or.inr rfl))⟩
      have c9 : (q_si (q_si (q_si (q_si τ2 a 9 v) a 8 0) a 16 0) a 12 0).1 a 9 = v := by rw [si_f (by decide), si_f (by decide), si_f (by decide), si_eq]
      have c8 : (q_si (q_si (q_si (q_si τ2 a 9 v) a 8 0) a 16 0) a 12 0).1 a 8 = 0 := by rw [si_f (by decide), si_f (by decide), si_eq]
      have c16 : (q_si (q_si (q_si (q_si τ2 a 9 v) a 8 0) a 16 0) a 12 0).1 a 16 = 0 := by rw [si_f (by decide), si_eq]
      have c12 : (q_si (q_si (q_si (q_si τ2 a 9 v) a 8 0) a 16 0) a 12 0).1 a 12 = 0 := si_eq _ _ _ _
      obtain ⟨τ3, e3⟩ : ∃ s, s = q_si (q_si (q_si (q_si τ2 a 9 v) a 8 0) a 16 0) a 12 0 := ⟨_, rfl⟩
      rw [← e3] at t3 c9 c8 c16 c12 ⊢
      have c0 : τ3.1 a 0 = 0 := by rw [t3.1 a 0 (fun q => absurd q.2 (by decide)), d0]
      have M0 : tm_E X τ3 a v.toInt B := ⟨by rw [c9], ⟨by omega, by omega⟩, nU, fun p p0 p1 => by
        rw [t3.1 _ _ (fun q => nU q.1), t2.1 _ _ (fun q => nU q.1)]
        exact ⟨hB2 p p0 (by omega), (hB p p0 (by omega)).2⟩⟩
      obtain ⟨z, σ8, τ8, f1, f2, Gf, Pf, out⟩ := tb_takes Y H ka hTl nTD (v := v) rfl ⟨by omega, by omega⟩ (fun p p0 p1 => hB p p0 (by omega)) M0 (by rw [c16]; rfl) (by rw [c12]; rfl) (by rw [c0]; rfl) (by rw [c8]; rfl)
      rw [q_letE (F_X12_next X τ3 a), q_biP (1 : Int32) (F_X12_next X τ3 a), if_neg (by decide : ¬ (1 : Int32).toInt = 0), f2, ← hD, ← hT, ← hg1, f1, q_biP z σ8]
      have C8 : ∀ f, σ8.1 C f = σ.1 C f := Gf.1 C hC6 nCD nCA
      -- the class ends its reading
      unfold F_X11_endReading
      rw [q_letE (q_si σ8 C 5 0), q_letE ((q_si σ8 C 5 0).1 D 6), q_letE (q_si (q_si σ8 C 5 0) C 6 ((q_si σ8 C 5 0).1 D 6)), q_letE ((q_si (q_si σ8 C 5 0) C 6 ((q_si σ8 C 5 0).1 D 6)).1 D 7), q_letE (q_si (q_si (q_si σ8 C 5 0) C 6 ((q_si σ8 C 5 0).1 D 6)) C 7 ((q_si (q_si σ8 C 5 0) C 6 ((q_si σ8 C 5 0).1 D 6)).1 D 7))]
      have t9 : tk (fun b f => b = C ∧ (f = 5 ∨ f = 6 ∨ f = 7)) σ8 (q_si (q_si (q_si σ8 C 5 0) C 6 ((q_si σ8 C 5 0).1 D 6)) C 7 ((q_si (q_si σ8 C 5 0) C 6 ((q_si σ8 C 5 0).1 D 6)).1 D 7)) := ((tk.rf.si _ ⟨rfl, Or.inl rfl⟩).si _ ⟨rfl, Or.inr (Or.inl rfl)⟩).si _ ⟨rfl, Or.inr (Or.inr rfl)⟩
      have g5 : (q_si (q_si (q_si σ8 C 5 0) C 6 ((q_si σ8 C 5 0).1 D 6)) C 7 ((q_si (q_si σ8 C 5 0) C 6 ((q_si σ8 C 5 0).1 D 6)).1 D 7)).1 C 5 = 0 := by rw [si_f (by decide), si_f (by decide), si_eq]
      have g6 : (q_si (q_si (q_si σ8 C 5 0) C 6 ((q_si σ8 C 5 0).1 D 6)) C 7 ((q_si (q_si σ8 C 5 0) C 6 ((q_si σ8 C 5 0).1 D 6)).1 D 7)).1 C 6 = σ8.1 D 6 := by rw [si_f (by decide), si_eq, q_si_ne (Ne.symm nCD)]
      have g7 : (q_si (q_si (q_si σ8 C 5 0) C 6 ((q_si σ8 C 5 0).1 D 6)) C 7 ((q_si (q_si σ8 C 5 0) C 6 ((q_si σ8 C 5 0).1 D 6)).1 D 7)).1 C 7 = σ8.1 D 7 := by rw [si_eq, q_si_ne (Ne.symm nCD), q_si_ne (Ne.symm nCD)]
      obtain ⟨σ9, e9⟩ : ∃ s, s = q_si (q_si (q_si σ8 C 5 0) C 6 ((q_si σ8 C 5 0).1 D 6)) C 7 ((q_si (q_si σ8 C 5 0) C 6 ((q_si σ8 C 5 0).1 D 6)).1 D 7) := ⟨_, rfl⟩
      rw [← e9] at t9 g5 g6 g7 ⊢
      rw [q_letE σ9]
      have vw : ∀ (h o : Nat), y_G X lb h o → o ≠ 0 → ∀ id, id < 25 → ∀ f, σ9.1 (y_gA X h id) f = σ8.1 (y_gA X h id) f := fun h o G ho id hid f => t9.1 _ _ (fun q => by
        have := y_own Y G hid
        rw [q.1] at this
        omega)
      rcases out with ⟨o1, V, r, c, w, t, f9, f10, I⟩ | ⟨o1, o2⟩
      · obtain ⟨S, M, K, h0, Rr⟩ := I
        obtain ⟨zz, τ9, x1, x2, x3, x4, x5, x6, x7⟩ := tm_end1 (X := X) Y.1 ka h0
        rw [x1, if_neg (by omega : ¬ z.toInt = 0), ← hg]
        have cp : y_C X lb g1 1 g σ9 (F_X0_copyFrom X σ9 g1 g) y_all := tb_copy Y G1 H.2.2.1 (by decide)
        rw [q_letE (F_X0_copyFrom X σ9 g1 g)]
        obtain ⟨σ10, e10⟩ : ∃ s, s = F_X0_copyFrom X σ9 g1 g := ⟨_, rfl⟩
        rw [← e10] at cp ⊢
        obtain ⟨V1, W, hV⟩ := cp
        have vg : y_v X g σ9 = V := by
          rw [← S.2.1]
          funext id i
          unfold y_v
          by_cases q : id < 25 ∧ 0 ≤ i
          · rw [if_pos q, if_pos q, vw g 6 H.2.2.1 (by decide) id q.1]
          · rw [if_neg q, if_neg q]
        have p4 : (σ10.1 (q_rf X g1 0) 4).toInt = c 3722 := by
          have z1 := y_v_rdn (X := X) (g := g1) (σ := σ10) (id := 1) (by decide) 4
          rw [W.2.2] at z1
          refine z1.trans ?_
          have z2 := hV 1 ((4 : Nat) : Int) ⟨(1, 4), by decide, rfl, Or.inr ⟨by decide, rfl⟩⟩
          rw [z2, vg]
          exact Rr.b.2.2.1
        have C10 : ∀ f, σ10.1 C f = σ9.1 C f := W.1 C hC1
        have nCg : ∀ id, id < 25 → C ≠ y_gA X g1 id := fun id hid => y_gA_ne Y G1 hid hC1
        rw [q_letE (σ10.1 (q_rf X g1 0) 4), q_letE (q_si σ10 C 0 0), q_biP]
        have c5 : (q_si σ10 C 0 0).1 C 5 = 0 := by rw [si_f (by decide), C10, g5]
        have c6 : (q_si σ10 C 0 0).1 C 6 = σ8.1 D 6 := by rw [si_f (by decide), C10, g6]
        have c7 : (q_si σ10 C 0 0).1 C 7 = σ8.1 D 7 := by rw [si_f (by decide), C10, g7]
        have k67 := K.2.2.2.2.2.2.2.2
        have n20 : a ≠ q_rf X a 20 := Ne.symm (m_ne (tb_k Y.1 ka).1 ka (by decide))
        have a08 : ∀ f, f ≠ 10 → f ≠ 11 → τ9.1 a f = τ8.1 a f := fun f q1 q2 => x5.1 a f (fun q => by
          rcases q with q | q
          · exact n20 q
          · omega)
        have cc : ∀ j : Int, 0 ≤ j → j < 3720 → c j = m_c X τ a j := fun j a1 a2 => by
          rw [← M.2.1, Pf.1 j a1 a2]
          exact congrArg Int32.toInt ((t3.1 _ _ (fun q => n20 q.1.symm)).trans (t2.1 _ _ (fun q => n20 q.1.symm)))
        have ww : ∀ j : Int, 0 ≤ j → j < 24 → w j = m_wd X τ a j := fun j a1 a2 => by
          rw [← M.2.2.1, Pf.2.1 j a1 a2]
          exact congrArg Int64.toInt ((t3.2.1 _ _ (fun q => q)).trans (t2.2.1 _ _ (fun q => q)))
        rw [M.2.1] at x2 x6
        rw [M.2.2.1] at x7
        refine ⟨_, _, zz, τ9, rfl, rfl, p4.trans x2.symm, ?_, Or.inr ⟨⟨by omega, by omega⟩, by rw [c5]; rfl, ?_, ?_, ?_, Or.inr ⟨?_, V, r, c, w, t, Rr, cc, ww, p4, fun id i hi => ?_, x6, x7⟩⟩, fun b hb f => ?_⟩
        · rw [si_eq, a08 0 (by decide) (by decide), M.2.2.2.2.2.2.1]
          rfl
        · rw [a08 8 (by decide) (by decide)]
          exact M.2.2.2.2.2.2.2
        · rw [c6, x3]
          exact k67.1
        · rw [c7, x4]
          exact k67.2
        · rw [c6]
          exact k67.1
        · have z1 := hV id i hi
          rw [vg] at z1
          rw [← hg1, ← z1, ← W.2.2]
          unfold y_v
          by_cases q : id < 25 ∧ 0 ≤ i
          · rw [if_pos q, if_pos q, q_si_ne (Ne.symm (nCg id q.1))]
          · rw [if_neg q, if_neg q]
        · have nb : b ≠ C := fun z => by
            rw [z] at hb
            omega
          rw [q_si_ne nb, W.1 b (by omega) f, t9.1 b f (fun z => nb z.1), Gf.1 b (by omega) (fun z => by
            rw [z] at hb
            omega) (fun z => by
            rw [z] at hb
            omega)]
      · obtain ⟨τ9, x1, x2, x3, x4, x5⟩ := tm_end0 (X := X) o2.2.1
        rw [x1, if_pos o1, q_letE, q_biP]
        have n20 : a ≠ q_rf X a 20 := Ne.symm (m_ne (tb_k Y.1 ka).1 ka (by decide))
        refine ⟨_, _, _, τ9, rfl, rfl, rfl, ?_, Or.inr ⟨⟨by omega, by omega⟩, ?_, ?_, ?_, ?_, Or.inl ⟨rfl, ?_, fun j a1 a2 => ?_, fun j a1 a2 => ?_⟩⟩, fun b hb f => ?_⟩
        · rw [si_eq, x4]
          rfl
        · rw [si_f (by decide), g5]
          rfl
        · rw [x5.1 a 8 (fun q => absurd q.2 (by decide)), Pf.2.2.2, c8]
          rfl
        · rw [si_f (by decide), g6, x2]
          exact o2.1
        · rw [si_f (by decide), g7, x3]
          exact o2.2.2
        · funext id i
          unfold y_v
          by_cases q : id < 25 ∧ 0 ≤ i
          · have own := y_own Y G1 q.1
            rw [if_pos q, if_pos q, ← hg1, q_si_ne (fun z => by rw [z] at own; omega), vw g1 1 G1 (by decide) id q.1, Gf.1 _ (by omega) (fun z => by rw [z] at own; omega) (fun z => by
              rw [z] at own
              have := H.2.2.2.2.2.1
              omega)]
          · rw [if_neg q, if_neg q]
        · have y1 : m_c X τ9 a j = m_c X τ8 a j := congrArg Int32.toInt (x5.1 _ _ (fun q => n20 q.1.symm))
          rw [y1, Pf.1 j a1 a2]
          exact congrArg Int32.toInt ((t3.1 _ _ (fun q => n20 q.1.symm)).trans (t2.1 _ _ (fun q => n20 q.1.symm)))
        · have y1 : m_wd X τ9 a j = m_wd X τ8 a j := congrArg Int64.toInt (x5.2.1 _ _ (fun q => q))
          rw [y1, Pf.2.1 j a1 a2]
          exact congrArg Int64.toInt ((t3.2.1 _ _ (fun q => q)).trans (t2.2.1 _ _ (fun q => q)))
        · have nb : b ≠ C := fun z => by
            rw [z] at hb
            omega
          rw [q_si_ne nb, t9.1 b f (fun z => nb z.1), Gf.1 b (by omega) (fun z => by
            rw [z] at hb
            omega) (fun z => by
            rw [z] at hb
            omega)]
end TNF

/-! FROM 49q.altable.lean.txt -/
/-! A TABLE: all stays the same -/
/-- a new game -/
theorem rb.new {V : Nat → Int → Int} {r c w t c' w' : Int → Int} (h : tb_R V r c w t) (hc : ∀ j : Int, 0 ≤ j → j < 930 → c' j = m_fin c (3720 + j)) (hw : ∀ j : Int, 0 ≤ j → j < 6 → w' j = w (24 + j)) : rb V c' w' := by
  obtain ⟨⟨⟨n1, n2, n3, n4, n5⟩, n6, n7, n8, n9⟩, ⟨z1, z2, z3, z4, z5, z6, z7, z8, z9, z10, z11⟩, nm, ⟨h1, h2, h3⟩, mn, k1, k2, k3⟩ := h
  obtain ⟨b0, b1, b2, b3, b4, x5, x42, x54, xs, x14, xk⟩ := mn
  have d : ∀ j : Int, 0 ≤ j → j < 930 → j ≠ 6 → j ≠ 8 → c' j = c (3720 + j) := fun j j0 j1 j6 j8 => by
    rw [hc j j0 j1]
    unfold m_fin
    rw [m_up_ne (by omega), m_up_ne (by omega)]
  have d8 : c' 8 = -1 := by
    rw [hc 8 (by decide) (by decide)]
    unfold m_fin
    rw [m_up_ne (by decide)]
    exact m_up_eq _ _ _
  have d6 : c' 6 = if c 3722 = 0 then -1 else 0 := by
    rw [hc 6 (by decide) (by decide)]
    exact m_up_eq _ _ _
  have e2 : c' 2 = c 3722 := d 2 (by decide) (by decide) (by decide) (by decide)
  have e9 : c' 9 = 0 := (d 9 (by decide) (by decide) (by decide) (by decide)).trans (x5 3729 (by decide) (by decide))
  have n9' : (c' 9).toNat = 0 := by rw [e9]; rfl
  have hand : ∀ j : Int, 0 ≤ j → j < 60 → c' (34 + j) = c (3754 + j) := fun j j0 j1 => by
    rw [d _ (by omega) (by omega) (by omega) (by omega)]
    congr 1
    omega
  refine ⟨⟨⟨?_, ?_, ?_, ?_, ?_, ?_⟩, ⟨?_, ?_, ⟨?_, ?_⟩, ?_⟩, fun p p0 p1 => ⟨?_, ?_, ?_, ?_⟩, ⟨fun j j0 j1 => ?_, fun p p0 p1 => ?_⟩, ⟨?_, ?_, fun k k0 kk => by omega⟩, ⟨fun p k p0 p1 k0 kk => ?_, fun k k0 kk => ?_⟩⟩, ?_, ⟨?_, ?_, ?_, ?_, 0, ?_⟩⟩
  · rw [d 0 (by decide) (by decide) (by decide) (by decide)]; exact n1
  · rw [d 1 (by decide) (by decide) (by decide) (by decide)]; exact n2
  · rw [d 3 (by decide) (by decide) (by decide) (by decide)]; exact n3
  · rw [d 4 (by decide) (by decide) (by decide) (by decide)]; exact n4
  · rw [e2]; exact n5
  · rw [d 3 (by decide) (by decide) (by decide) (by decide)]; exact b3
  · rw [d 5 (by decide) (by decide) (by decide) (by decide)]; exact z3.trans (x5 3725 (by decide) (by decide)).symm
  · rw [e2, d6, z4]
    by_cases q : c 3722 = 0
    · rw [if_pos q]
    · rw [if_neg q, if_neg q]
  · rw [d8]; exact z5
  · rw [d8]; decide
  · rw [d 7 (by decide) (by decide) (by decide) (by decide)]; exact z6.trans (x5 3727 (by decide) (by decide)).symm
  · rw [d _ (by omega) (by omega) (by omega) (by omega)]
    have z := (n9 p p0 p1).1
    have e : (3730 : Int) + p = 3720 + (10 + p) := by omega
    rw [e] at z
    exact z
  · rw [d _ (by omega) (by omega) (by omega) (by omega)]
    have z := (n9 p p0 p1).2
    have e : (3736 : Int) + p = 3720 + (16 + p) := by omega
    rw [e] at z
    exact z
  · rw [d _ (by omega) (by omega) (by omega) (by omega), (z2 p p0 p1).1]
    exact (x42 _ (by omega) (by omega)).symm
  · rw [d _ (by omega) (by omega) (by omega) (by omega), (z2 p p0 p1).2]
    exact (x42 _ (by omega) (by omega)).symm
  · rw [hand j j0 j1]; exact n7 j j0 j1
  · rw [n8 p p0 p1]
    have sh : ∀ n : Nat, n ≤ 10 → m_S c (3754 + 10 * p) n = m_S c' (34 + 10 * p) n := by
      intro n
      induction n with
      | zero => intro _; rfl
      | succ n ih =>
        intro hn
        show m_S c (3754 + 10 * p) n + c (3754 + 10 * p + (n : Int)) = m_S c' (34 + 10 * p) n + c' (34 + 10 * p + (n : Int))
        have e1 : (34 : Int) + 10 * p + (n : Int) = 34 + (10 * p + (n : Int)) := by omega
        have e3 : (3754 : Int) + 10 * p + (n : Int) = 3754 + (10 * p + (n : Int)) := by omega
        rw [ih (by omega), e1, hand _ (by omega) (by omega), e3]
    exact sh 10 (Nat.le_refl 10)
  · rw [e9]; exact z7
  · rw [n9', z8]; rfl
  · rw [n9', z1 _ (by omega) (by omega)]; rfl
  · rw [n6 k k0 kk]
    unfold m_I
    have m0 : m_A c' (-1) k 0 = 0 := rfl
    rw [n9', m0, e2, m_sum_e]
    have hz : ∀ p : Int, 0 ≤ p → p < 6 → c 3722 ≤ p → c (3754 + 10 * p + k) = 0 := fun p p0 p1 p2 => by
      have y := (h1 (10 * p + k) (by omega) (by omega)).2 (h3 (10 * p + k) (by omega) (by omega) (by omega))
      have e : (3754 : Int) + (10 * p + k) = 3754 + 10 * p + k := by omega
      rw [e] at y
      exact y
    have hp : ∀ p : Int, 0 ≤ p → p < 6 → c' (34 + 10 * p + k) = c (3754 + 10 * p + k) := fun p p0 p1 => by
      have e1 : (34 : Int) + 10 * p + k = 34 + (10 * p + k) := by omega
      have e3 : (3754 : Int) + 10 * p + k = 3754 + (10 * p + k) := by omega
      rw [e1, hand _ (by omega) (by omega), e3]
    have q0 := hp 0 (by decide) (by decide)
    have q1 := hp 1 (by decide) (by decide)
    have q2 := hp 2 (by decide) (by decide)
    have q3 := hp 3 (by decide) (by decide)
    have q4 := hp 4 (by decide) (by decide)
    have q5 := hp 5 (by decide) (by decide)
    have y0 := hz 0 (by decide) (by decide)
    have y1 := hz 1 (by decide) (by decide)
    have y2 := hz 2 (by decide) (by decide)
    have y3 := hz 3 (by decide) (by decide)
    have y4 := hz 4 (by decide) (by decide)
    have y5 := hz 5 (by decide) (by decide)
    have P0 : m_P c' k 0 = 0 := rfl
    have P1 : m_P c' k 1 = m_P c' k 0 + c' (34 + 10 * 0 + k) := rfl
    have P2 : m_P c' k 2 = m_P c' k 1 + c' (34 + 10 * 1 + k) := rfl
    have P3 : m_P c' k 3 = m_P c' k 2 + c' (34 + 10 * 2 + k) := rfl
    have P4 : m_P c' k 4 = m_P c' k 3 + c' (34 + 10 * 3 + k) := rfl
    have P5 : m_P c' k 5 = m_P c' k 4 + c' (34 + 10 * 4 + k) := rfl
    have P6 : m_P c' k 6 = m_P c' k 5 + c' (34 + 10 * 5 + k) := rfl
    clear hp hz hand d hc hw h1 h3 x5 x42 x54 xs x14 xk n6 n7 n8 n9 z1 z2 nm h2
    rcases (by omega : c 3722 = 0 ∨ c 3722 = 1 ∨ c 3722 = 2 ∨ c 3722 = 3 ∨ c 3722 = 4 ∨ c 3722 = 5 ∨ c 3722 = 6) with e | e | e | e | e | e | e
    · rw [e] at y0 y1 y2 y3 y4 y5 ⊢
      show _ = 0 + m_P c' k 0
      omega
    · rw [e] at y0 y1 y2 y3 y4 y5 ⊢
      show _ = 0 + m_P c' k 1
      omega
    · rw [e] at y0 y1 y2 y3 y4 y5 ⊢
      show _ = 0 + m_P c' k 2
      omega
    · rw [e] at y0 y1 y2 y3 y4 y5 ⊢
      show _ = 0 + m_P c' k 3
      omega
    · rw [e] at y0 y1 y2 y3 y4 y5 ⊢
      show _ = 0 + m_P c' k 4
      omega
    · rw [e] at y0 y1 y2 y3 y4 y5 ⊢
      show _ = 0 + m_P c' k 5
      omega
    · rw [e] at y0 y1 y2 y3 y4 y5 ⊢
      show _ = 0 + m_P c' k 6
      omega
  · rw [e2]
    intro p p0 p1
    obtain ⟨a1, a2, a3⟩ := nm p p0 p1
    refine ⟨a1, a2, ?_⟩
    rw [hw _ (by omega) (by omega), Int.zero_add]
    exact a3
  · rw [d 654 (by decide) (by decide) (by decide) (by decide)]; exact z9.trans (x14 _ (by decide) (by decide)).symm
  · rw [d 654 (by decide) (by decide) (by decide) (by decide)]; exact Or.inl (x14 _ (by decide) (by decide))
  · rw [d 655 (by decide) (by decide) (by decide) (by decide)]; exact z10.trans (x14 _ (by decide) (by decide)).symm
  · rw [z11]; omega
  · rw [d 655 (by decide) (by decide) (by decide) (by decide), z11]
    exact ⟨(x14 _ (by decide) (by decide)).symm, rfl⟩
section GQ
variable {X : XW} {lb : Nat → Nat} {C a : Nat} {σ τ : ST} {n m : Int} {B : Int → Int}
theorem al_table (K : al_C X lb C a) (h9 : q_ln X (q_rf X a 7) = 900) (A : al_R X C a σ τ) (M : m_M (m_c X τ a) (τ.1 a 24).toInt n) (h5 : (σ.1 C 5).toInt = m) (h8 : (τ.1 a 8).toInt = m) (hm : 0 ≤ m ∧ m ≤ 900) (hB : ∀ p : Int, 0 ≤ p → p < m → (σ.1 (q_rf X C 4) p.toNat).toInt = B p ∧ -128 ≤ B p ∧ B p ≤ 127) (hB2 : ∀ p : Int, 0 ≤ p → p < m → (τ.1 (q_rf X a 7) p.toNat).toInt = B p) (v : Int32) :
    ∃ (z : Int32) (σ' : ST) (z' : Int32) (τ' : ST), F_X11_table X σ C v = (z, σ') ∧ F_X12_table X τ a v = (z', τ') ∧ z.toInt = z'.toInt ∧ (σ'.1 C 0).toInt = (τ'.1 a 0).toInt ∧ tb_Out X C a σ τ v m z σ' τ' ∧ (m_G (m_c X τ' a) → σ'.1 C 11 = σ.1 C 11 → τ'.1 a 24 = τ.1 a 24 → al_R X C a σ' τ') := by
  obtain ⟨kC, ka, S, lC, G8, G9, GM⟩ := id K
  obtain ⟨z, σ', z', τ', x1, x2, x3, x4, out, fr⟩ := tb_tableF (y_Cls S kC ka lC h9) h5 h8 hm hB hB2 v
  refine ⟨z, σ', z', τ', x1, x2, x3, x4, out, fun hG' e11 e24 => ?_⟩
  obtain ⟨A1, A2, A3, A4⟩ := A
  -- marks stand
  have mk : (∀ j : Int, 930 ≤ j → j < 3720 → m_c X τ' a j = m_c X τ a j) → (∀ j : Int, 6 ≤ j → j < 24 → m_wd X τ' a j = m_wd X τ a j) → ∀ b : Nat, 1 ≤ b → (b : Int) ≤ (σ'.1 C 11).toInt → rb (y_v X (q_rf X (q_rf X C 10) (b - 1)) σ') (fun j => m_c X τ' a (930 * (b : Int) + j)) (fun j => m_wd X τ' a (6 * (b : Int) + j)) := by
    intro hc hw b b1 b2
    rw [e11] at b2
    have gv : y_v X (q_rf X (q_rf X C 10) (b - 1)) σ' = y_v X (q_rf X (q_rf X C 10) (b - 1)) σ := y_v.k S (GM (b - 1) (by omega)) (fun x hx f => fr x (by omega) f)
    refine (A4 b b1 b2).x (M.2 (b : Int) (by omega) (by rw [A2] at b2; exact b2)).1 (fun id i _ => by rw [gv]) (fun j j0 j1 => ?_) (fun j j0 j1 => ?_)
    · exact hc _ (by omega) (by omega)
    · exact hw _ (by omega) (by omega)
  refine ⟨?_, by rw [e11, e24]; exact A2, by rw [e11]; exact A3, ?_⟩
  · rcases out with ⟨-, t1, t2⟩ | ⟨-, -, -, -, -, ⟨-, o1, o2, o3⟩ | ⟨-, V, r, c, w, t, Rr, o1, o2, o3, o4, o5, o6⟩⟩
    · have gv : y_v X (q_rf X C 8) σ' = y_v X (q_rf X C 8) σ := y_v.k S G8 (fun x hx f => t1.1 x f (fun z => by
        rw [z.1] at hx
        omega))
      have k20 := (tb_k S.1 ka).1
      have gc : m_c X τ' a = m_c X τ a := by
        funext j
        exact congrArg Int32.toInt (t2.1 _ _ (fun z => m_ne k20 ka (by decide) z.1))
      have gw : m_wd X τ' a = m_wd X τ a := by
        funext j
        exact congrArg Int64.toInt (t2.2.1 _ _ (fun z => z))
      rw [gv, gc, gw]
      exact A1
    · rw [o1]
      exact A1.x M.1.1 (fun _ _ _ => rfl) (fun j j0 j1 => o2 j j0 (by omega)) (fun j j0 j1 => o3 j j0 (by omega))
    · have N := rb.new (c' := m_c X τ' a) (w' := m_wd X τ' a) Rr (fun j j0 j1 => by rw [o5 j j0, if_pos j1]) (fun j j0 j1 => by rw [o6 j j0, if_pos j1])
      exact N.x hG' (fun id i hi => o4 id i hi) (fun _ _ _ => rfl) (fun _ _ _ => rfl)
  · rcases out with ⟨-, t1, t2⟩ | ⟨-, -, -, -, -, ⟨-, o1, o2, o3⟩ | ⟨-, V, r, c, w, t, Rr, o1, o2, o3, o4, o5, o6⟩⟩
    · have k20 := (tb_k S.1 ka).1
      exact mk (fun j _ _ => congrArg Int32.toInt (t2.1 _ _ (fun z => m_ne k20 ka (by decide) z.1))) (fun j _ _ => congrArg Int64.toInt (t2.2.1 _ _ (fun z => z)))
    · exact mk (fun j j0 j1 => o2 j (by omega) j1) (fun j j0 j1 => o3 j (by omega) j1)
    · refine mk (fun j j0 j1 => ?_) (fun j j0 j1 => ?_)
      · rw [o5 j (by omega), if_neg (by omega), ← o1 j (by omega) j1]
        unfold m_fin
        rw [m_up_ne (by omega), m_up_ne (by omega)]
      · rw [o6 j (by omega), if_neg (by omega)]
        exact o2 j (by omega) j1
end GQ

/-! FROM 49r.rdround.lean.txt -/
/-! A ROUND BEING READ: the class's reader R with its script -/
def rdA (X : XW) (R id : Nat) : Nat := match id with
  | 0 => q_rf X R 8
  | 1 => q_rf X (q_rf X (q_rf X R 8) 3) 0
  | 2 => q_rf X (q_rf X (q_rf X R 8) 4) 0
  | 3 => q_rf X (q_rf X (q_rf X R 8) 5) 0
  | 4 => q_rf X (q_rf X (q_rf X R 8) 6) 0
  | 5 => q_rf X (q_rf X (q_rf X R 8) 7) 0
  | 6 => q_rf X (q_rf X R 9) 0
  | _ => q_rf X R 8
def rdL (id : Nat) : Nat := match id with | 0 => 472 | 1 => 120880 | 2 => 120896 | 3 => 120912 | 4 => 120928 | 5 => 120944 | 6 => 7568 | _ => 0
def rdN (id : Nat) : Nat := match id with | 6 => 3 | _ => 60
def rd_D (X : XW) (lb : Nat → Nat) (R T : Nat) : Prop := q_kd X R = 4 ∧ lb R = 29 ∧ q_kd X T = 22 ∧ lb T = 20 ∧ ∀ id, id < 7 → lb (rdA X R id) = rdL id ∧ (1 ≤ id → q_ln X (rdA X R id) = rdN id ∧ q_kd X (rdA X R id) = 20)
theorem rd_Dmk {X : XW} {lb : Nat → Nat} {C : Nat} (S : y_S X lb) (hC : q_kd X C = 11) (h1 : lb C = 1) : rd_D X lb (q_rf X C 13) (q_rf X C 4) := by
  obtain ⟨T, L, N⟩ := id S
  have kR : q_kd X (q_rf X C 13) = 4 := (T.1 C 13 (by rw [hC]; decide)).trans (by rw [hC]; rfl)
  have lR : lb (q_rf X C 13) = 29 := (L C 13 (by rw [hC]; decide)).trans (by rw [h1]; decide)
  have kT : q_kd X (q_rf X C 4) = 22 := (T.1 C 4 (by rw [hC]; decide)).trans (by rw [hC]; rfl)
  have lT : lb (q_rf X C 4) = 20 := (L C 4 (by rw [hC]; decide)).trans (by rw [h1]; decide)
  have kS : q_kd X (q_rf X (q_rf X C 13) 8) = 8 := (T.1 _ 8 (by rw [kR]; decide)).trans (by rw [kR]; rfl)
  have lS : lb (q_rf X (q_rf X C 13) 8) = 472 := (L _ 8 (by rw [kR]; decide)).trans (by rw [lR]; decide)
  have kO : q_kd X (q_rf X (q_rf X C 13) 9) = 5 := (T.1 _ 9 (by rw [kR]; decide)).trans (by rw [kR]; rfl)
  have lO : lb (q_rf X (q_rf X C 13) 9) = 473 := (L _ 9 (by rw [kR]; decide)).trans (by rw [lR]; decide)
  refine ⟨kR, lR, kT, lT, fun id hid => ?_⟩
  have row : ∀ f, f = 3 ∨ f = 4 ∨ f = 5 ∨ f = 6 ∨ f = 7 → lb (q_rf X (q_rf X (q_rf X (q_rf X C 13) 8) f) 0) = 120832 + 16 * f ∧ q_ln X (q_rf X (q_rf X (q_rf X (q_rf X C 13) 8) f) 0) = 60 ∧ q_kd X (q_rf X (q_rf X (q_rf X (q_rf X C 13) 8) f) 0) = 20 := by
    intro f hf
    have kr : q_kd X (q_rf X (q_rf X (q_rf X C 13) 8) f) = 5 := (T.1 _ f (by rw [kS]; rcases hf with e | e | e | e | e <;> subst e <;> decide)).trans (by rw [kS]; rcases hf with e | e | e | e | e <;> subst e <;> rfl)
    have lr : lb (q_rf X (q_rf X (q_rf X C 13) 8) f) = 7552 + f := (L _ f (by rw [kS]; rcases hf with e | e | e | e | e <;> subst e <;> decide)).trans (by rw [lS]; rcases hf with e | e | e | e | e <;> subst e <;> decide)
    refine ⟨(L _ 0 (by rw [kr]; decide)).trans (by rw [lr]; rcases hf with e | e | e | e | e <;> subst e <;> decide), (N _ f (by rw [kS]; rcases hf with e | e | e | e | e <;> subst e <;> rfl)).trans (by rw [kS]; rcases hf with e | e | e | e | e <;> subst e <;> rfl), (T.1 _ 0 (by rw [kr]; decide)).trans (by rw [kr]; rfl)⟩
  rcases (by omega : id = 0 ∨ id = 1 ∨ id = 2 ∨ id = 3 ∨ id = 4 ∨ id = 5 ∨ id = 6) with e | e | e | e | e | e | e
  · subst e
    exact ⟨lS, fun h => absurd h (by decide)⟩
  · subst e
    exact ⟨(row 3 (by decide)).1, fun _ => (row 3 (by decide)).2⟩
  · subst e
    exact ⟨(row 4 (by decide)).1, fun _ => (row 4 (by decide)).2⟩
  · subst e
    exact ⟨(row 5 (by decide)).1, fun _ => (row 5 (by decide)).2⟩
  · subst e
    exact ⟨(row 6 (by decide)).1, fun _ => (row 6 (by decide)).2⟩
  · subst e
    exact ⟨(row 7 (by decide)).1, fun _ => (row 7 (by decide)).2⟩
  · subst e
    exact ⟨(L _ 0 (by rw [kO]; decide)).trans (by rw [lO]; decide), fun _ => ⟨(N _ 9 (by rw [kR]; rfl)).trans (by rw [kR]; rfl), (T.1 _ 0 (by rw [kO]; decide)).trans (by rw [kO]; rfl)⟩⟩
theorem rdL_inj : ∀ i, i < 7 → ∀ j, j < 7 → rdL i = rdL j → i = j := by decide
theorem rdL_o : ∀ i, i < 7 → (rdL i / 8192 = 0 ∨ rdL i / 8192 = 14) ∧ rdL i ≠ 29 ∧ rdL i ≠ 20 ∧ rdL i ≠ 1 := by decide
theorem rd_D.inj {X : XW} {lb : Nat → Nat} {R T : Nat} (D : rd_D X lb R T) {i j : Nat} (hi : i < 7) (hj : j < 7) (h : rdA X R i = rdA X R j) : i = j := by
  have a := (D.2.2.2.2 i hi).1
  rw [h, (D.2.2.2.2 j hj).1] at a
  exact (rdL_inj j hj i hi a).symm
theorem rd_D.nR {X : XW} {lb : Nat → Nat} {R T : Nat} (D : rd_D X lb R T) {i : Nat} (hi : i < 7) : rdA X R i ≠ R ∧ rdA X R i ≠ T := by
  have a := (D.2.2.2.2 i hi).1
  have b := rdL_o i hi
  refine ⟨fun e => ?_, fun e => ?_⟩
  · rw [e, D.2.1] at a
    exact b.2.1 a.symm
  · rw [e, D.2.2.2.1] at a
    exact b.2.2.1 a.symm
def rv (X : XW) (R : Nat) (σ : ST) : Nat → Int → Int := fun id i => if id < 7 ∧ 0 ≤ i then (σ.1 (rdA X R id) i.toNat).toInt else 0
/-- the class's side: text, script, depth -/
def rd_S (X : XW) (R T : Nat) (σ : ST) (n : Int) (B : Int → Int) (U : Nat → Int → Int) (dp : Int) : Prop := tc_E X σ R T n B ∧ rv X R σ = U ∧ (σ.1 R 10).toInt = dp
def rd_F (X : XW) (R : Nat) (σ σ' : ST) : Prop := (∀ b, b ≠ R → (∀ i, i < 7 → b ≠ rdA X R i) → ∀ f, σ'.1 b f = σ.1 b f) ∧ (∀ f, ¬ (2 ≤ f ∧ f ≤ 7) → f ≠ 10 → σ'.1 R f = σ.1 R f) ∧ σ'.2 = σ.2
theorem rd_F.rf {X : XW} {R : Nat} {σ : ST} : rd_F X R σ σ := ⟨fun _ _ _ _ => rfl, fun _ _ _ => rfl, rfl⟩
theorem rd_F.tr {X : XW} {R : Nat} {σ σ1 σ2 : ST} (h : rd_F X R σ σ1) (k : rd_F X R σ1 σ2) : rd_F X R σ σ2 := ⟨fun b b1 b2 f => (k.1 b b1 b2 f).trans (h.1 b b1 b2 f), fun f f1 f2 => (k.2.1 f f1 f2).trans (h.2.1 f f1 f2), k.2.2.trans h.2.2⟩
/-- the reference's side: text, table, words, steps -/
def rd_M (X : XW) (a : Nat) (τ : ST) (n : Int) (B c w : Int → Int) (s : Int) : Prop := tm_E X τ a n B ∧ m_c X τ a = c ∧ m_wd X τ a = w ∧ (τ.1 a 27).toInt = s ∧ (τ.1 a 0).toInt = 0 ∧ (τ.1 a 8).toInt = 0
section RD
variable {X : XW} {lb : Nat → Nat} {R T a g : Nat} {σ τ σ' τ' : ST} {n dp s : Int} {B c w : Int → Int} {U V : Nat → Int → Int}
theorem rv_n {id : Nat} (h : id < 7) (f : Nat) : (σ.1 (rdA X R id) f).toInt = rv X R σ id (f : Int) := by
  unfold rv
  rw [if_pos ⟨h, Int.natCast_nonneg f⟩]
  rfl
theorem rd_S.rd (D : rd_D X lb R T) (S : rd_S X R T σ n B U dp) (h : tk (tc_S2 R) σ σ') : rd_S X R T σ' n B U dp ∧ rd_F X R σ σ' := by
  obtain ⟨s1, s2, s3⟩ := S
  refine ⟨⟨s1.k2 h, ?_, ?_⟩, fun b b1 _ f => h.1 b f (fun q => b1 q.1), fun f f1 _ => h.1 R f (fun q => f1 q.2), h.2⟩
  · rw [← s2]
    funext id i
    unfold rv
    by_cases q : id < 7 ∧ 0 ≤ i
    · rw [if_pos q, if_pos q, h.1 _ _ (fun z => (D.nR q.1).1 z.1)]
    · rw [if_neg q, if_neg q]
  · rw [h.1 R 10 (fun q => absurd q.2.2 (by decide))]; exact s3
theorem rv_up (D : rd_D X lb R T) {id : Nat} (hid : id < 7) (f : Nat) (v : Int32) : rv X R (q_si σ (rdA X R id) f v) = y_up (rv X R σ) id (f : Int) v.toInt := by
  funext k i
  show (if k < 7 ∧ 0 ≤ i then ((q_si σ (rdA X R id) f v).1 (rdA X R k) i.toNat).toInt else 0) = if k = id ∧ i = (f : Int) then v.toInt else if k < 7 ∧ 0 ≤ i then (σ.1 (rdA X R k) i.toNat).toInt else 0
  by_cases q : k = id ∧ i = (f : Int)
  · rw [if_pos q, if_pos ⟨by omega, by omega⟩, q.1, q.2]
    have e : ((f : Int)).toNat = f := by omega
    rw [e, si_eq]
  · rw [if_neg q]
    by_cases q2 : k < 7 ∧ 0 ≤ i
    · rw [if_pos q2, if_pos q2]
      by_cases q3 : k = id
      · rw [q3, si_f (by omega)]
      · rw [q_si_ne (fun z => q3 (D.inj q2.1 hid z))]
    · rw [if_neg q2, if_neg q2]
theorem rd_S.cell (D : rd_D X lb R T) (S : rd_S X R T σ n B U dp) {id : Nat} (hid : id < 7) (f : Nat) (v : Int32) : rd_S X R T (q_si σ (rdA X R id) f v) n B (y_up U id (f : Int) v.toInt) dp ∧ rd_F X R σ (q_si σ (rdA X R id) f v) := by
  obtain ⟨s1, s2, s3⟩ := S
  have nR := D.nR hid
  have k : tk (fun b g => b = rdA X R id ∧ g = f) σ (q_si σ (rdA X R id) f v) := tk.rf.si _ ⟨rfl, rfl⟩
  refine ⟨⟨s1.k k (fun b g q => ⟨fun e => nR.2 (q.1.symm.trans e), fun e => nR.1 (q.1.symm.trans e.1)⟩), ?_, ?_⟩, fun b b1 b2 f => k.1 b f (fun q => b2 id hid q.1), fun f _ _ => k.1 R f (fun q => nR.1 q.1.symm), k.2⟩
  · rw [rv_up D hid, s2]
  · rw [q_si_ne (Ne.symm nR.1)]; exact s3
theorem rw_set {r : Nat} (Y : y_S X lb) (x v : Int32) {N : Nat} (hN : q_ln X (q_rf X r 0) = N) (h0 : 0 ≤ x.toInt) (h1 : x.toInt < (N : Int)) : F_X5_set X σ r x v = q_si σ (q_rf X r 0) x.toNatClampNeg v := by
  have hl := y_len Y (q_rf X r 0)
  rw [hN] at hl
  simp only [F_X5_set, ↓q_letE]
  rw [hl, if_neg (by omega), if_pos h1]
theorem rw_get {r : Nat} (Y : y_S X lb) (x : Int32) {N : Nat} (hN : q_ln X (q_rf X r 0) = N) (h0 : 0 ≤ x.toInt) (h1 : x.toInt < (N : Int)) : F_X5_get X σ r x = σ.1 (q_rf X r 0) x.toNatClampNeg := by
  have hl := y_len Y (q_rf X r 0)
  rw [hN] at hl
  simp only [F_X5_get, ↓q_letE]
  rw [hl, if_neg (by omega), if_pos h1]
theorem rd_S.set (Y : y_S X lb) (D : rd_D X lb R T) (S : rd_S X R T σ n B U dp) {id r : Nat} (hid : 1 ≤ id ∧ id < 7) (hr : q_rf X r 0 = rdA X R id) {x : Int32} {i : Int} (hx : x.toInt = i) (v : Int32) (h0 : 0 ≤ i) (h1 : i < ((rdN id : Nat) : Int)) : rd_S X R T (F_X5_set X σ r x v) n B (y_up U id i v.toInt) dp ∧ rd_F X R σ (F_X5_set X σ r x v) := by
  have hN := ((D.2.2.2.2 id hid.2).2 hid.1).1
  rw [rw_set Y x v (N := rdN id) (by rw [hr]; exact hN) (by omega) (by omega), hr]
  have z := S.cell D hid.2 x.toNatClampNeg v
  have e : ((x.toNatClampNeg : Nat) : Int) = i := by rw [ar_cl]; omega
  rw [e] at z
  exact z
theorem rd_S.get (Y : y_S X lb) (D : rd_D X lb R T) (S : rd_S X R T σ n B U dp) {id r : Nat} (hid : 1 ≤ id ∧ id < 7) (hr : q_rf X r 0 = rdA X R id) {x : Int32} {i : Int} (hx : x.toInt = i) (h0 : 0 ≤ i) (h1 : i < ((rdN id : Nat) : Int)) : (F_X5_get X σ r x).toInt = U id i := by
  have hN := ((D.2.2.2.2 id hid.2).2 hid.1).1
  rw [rw_get Y x (N := rdN id) (by rw [hr]; exact hN) (by omega) (by omega), hr, rv_n hid.2, S.2.1]
  have e : ((x.toNatClampNeg : Nat) : Int) = i := by rw [ar_cl]; omega
  rw [e]
theorem rd_S.dep (D : rd_D X lb R T) (S : rd_S X R T σ n B U dp) (v : Int32) : rd_S X R T (q_si σ R 10 v) n B U v.toInt ∧ rd_F X R σ (q_si σ R 10 v) := by
  obtain ⟨s1, s2, s3⟩ := S
  have k : tk (fun b g => b = R ∧ g = 10) σ (q_si σ R 10 v) := tk.rf.si _ ⟨rfl, rfl⟩
  refine ⟨⟨s1.k k (fun b g q => ⟨fun e => s1.2.2.2.1 (e.symm.trans q.1), fun e => absurd q.2 (by rw [e.2]; decide)⟩), ?_, by rw [si_eq]⟩, fun b b1 _ f => k.1 b f (fun q => b1 q.1), fun f _ f2 => k.1 R f (fun q => f2 q.2), k.2⟩
  rw [← s2]
  funext id i
  unfold rv
  by_cases q : id < 7 ∧ 0 ≤ i
  · rw [if_pos q, if_pos q, q_si_ne (D.nR q.1).1]
  · rw [if_neg q, if_neg q]
/-- the games stand -/
theorem rd_F.v {o : Nat} (Y : y_S X lb) (D : rd_D X lb R T) (G : y_G X lb g o) (ho : o ≤ 6) (h : rd_F X R σ σ') : y_v X g σ' = y_v X g σ := by
  have o1 := G.2.2
  refine y_v.k Y G (fun b hb f => h.1 b (fun e => ?_) (fun i hi e => ?_) f)
  · rw [e, D.2.1] at hb
    omega
  · rw [e, (D.2.2.2.2 i hi).1] at hb
    have := (rdL_o i hi).1
    omega
/-! the reference's steps -/
theorem rd_M.rd (hT : q_T X) (ha : q_kd X a = 12) (M : rd_M X a τ n B c w s) (h : tkl (tn_S2 a) (tn_L a) τ τ') : rd_M X a τ' n B c w s := by
  obtain ⟨m1, m2, m3, m5, m6, m7⟩ := M
  obtain ⟨k1, k2, k3, k4⟩ := tb_k hT ha
  refine ⟨m1.k2 h, ?_, ?_, ?_, ?_, ?_⟩
  · rw [← m2]; funext j
    exact congrArg Int32.toInt (h.1 _ _ (fun q => m_ne k1 ha (by decide) q.1))
  · rw [← m3]; funext j
    exact congrArg Int64.toInt (h.2.1 _ _ (fun q => m_ne k3 ha (by decide) q.1))
  · rw [h.1 a 27 (fun q => absurd q.2.2 (by decide))]; exact m5
  · rw [h.1 a 0 (fun q => absurd q.2.1 (by decide))]; exact m6
  · rw [h.1 a 8 (fun q => absurd q.2.1 (by decide))]; exact m7
theorem rd_M.cw (hT : q_T X) (ha : q_kd X a = 12) (M : rd_M X a τ n B c w s) {i v : Int32} {A : Int} (hi : i.toInt = A) (hA : 1 ≤ A) : rd_M X a (q_si τ (q_rf X a 20) i.toNatClampNeg v) n B (m_up c A v.toInt) w s ∧ tl_same a τ (q_si τ (q_rf X a 20) i.toNatClampNeg v) := by
  obtain ⟨m1, m2, m3, m5, m6, m7⟩ := M
  obtain ⟨k1, k2, k3, k4⟩ := tb_k hT ha
  have na : a ≠ q_rf X a 20 := Ne.symm (m_ne k1 ha (by decide))
  have k : tkl (fun b f => b = q_rf X a 20) (fun _ _ => False) τ (q_si τ (q_rf X a 20) i.toNatClampNeg v) := tkl.rf.si _ rfl
  refine ⟨⟨m1.k k (fun b f q => ⟨fun e => m_ne k1 k4 (by decide) (q.symm.trans e), fun e => na (e.1.symm.trans q)⟩), ?_, m3, ?_, ?_, ?_⟩, fun f _ _ => k.1 a f na, rfl⟩
  · rw [m_c_up A hA hi, m2]
  · rw [k.1 a 27 na]; exact m5
  · rw [k.1 a 0 na]; exact m6
  · rw [k.1 a 8 na]; exact m7
theorem rd_M.ns (hT : q_T X) (ha : q_kd X a = 12) (M : rd_M X a τ n B c w s) (v : Int32) : rd_M X a (q_si τ a 27 v) n B c w v.toInt ∧ tl_same a τ (q_si τ a 27 v) := by
  obtain ⟨m1, m2, m3, m5, m6, m7⟩ := M
  obtain ⟨k1, k2, k3, k4⟩ := tb_k hT ha
  have k : tkl (fun b f => b = a ∧ f = 27) (fun _ _ => False) τ (q_si τ a 27 v) := tkl.rf.si _ ⟨rfl, rfl⟩
  refine ⟨⟨m1.k k (fun b f q => ⟨fun e => m_ne k4 ha (by decide) (e.symm.trans q.1), fun e => absurd q.2 (by rw [e.2]; decide)⟩), ?_, m3, ?_, ?_, ?_⟩, fun f _ f2 => k.1 a f (fun q => by have := q.2; omega), rfl⟩
  · rw [mv_cell hT ha 27 v]; exact m2
  · rw [si_eq]
  · rw [si_f (by decide)]; exact m6
  · rw [si_f (by decide)]; exact m7
theorem rd_same {id : Nat} (D : rd_D X lb R T) (hid : id < 7) (f : Nat) (v : Int32) : tl_sameC R σ (q_si σ (rdA X R id) f v) := fun _ _ _ => q_si_ne (Ne.symm (D.nR hid).1) _
theorem rd_sameS (Y : y_S X lb) (D : rd_D X lb R T) {id r : Nat} (hid : 1 ≤ id ∧ id < 7) (hr : q_rf X r 0 = rdA X R id) {x : Int32} (v : Int32) (h0 : 0 ≤ x.toInt) (h1 : x.toInt < ((rdN id : Nat) : Int)) : tl_sameC R σ (F_X5_set X σ r x v) := by
  have hN := ((D.2.2.2.2 id hid.2).2 hid.1).1
  rw [rw_set Y x v (N := rdN id) (by rw [hr]; exact hN) h0 h1, hr]
  exact rd_same D hid.2 _ v
theorem rd_sameD (v : Int32) : tl_sameC R σ (q_si σ R 10 v) := fun _ _ h => si_f (by omega) R
end RD

/-! FROM 49s.operands.lean.txt -/
/-! A ROUND BEING READ: operands -/
def rd_T (X : XW) (a : Nat) (b f : Nat) : Prop := b = q_rf X a 20 ∨ b = a ∧ 12 ≤ f ∧ (f ≤ 18 ∨ f = 27)
/-- both read the same, at the same place, without a fault -/
def rd_I (X : XW) (R T a g : Nat) (n : Int) (B : Int → Int) (Vg : Nat → Int → Int) (w : Int → Int) (σ τ : ST) (U : Nat → Int → Int) (dp : Int) (c : Int → Int) (s : Int) : Prop := rd_S X R T σ n B U dp ∧ rd_M X a τ n B c w s ∧ tl_K σ R τ a B n ∧ (τ.1 a 12).toInt = 0 ∧ y_v X g σ = Vg
def rd_Fr (X : XW) (R a : Nat) (σ σ' τ τ' : ST) : Prop := rd_F X R σ σ' ∧ tkl (rd_T X a) (tn_L a) τ τ' ∧ ∀ j : Int, 0 ≤ j → j < 3720 → m_c X τ' a j = m_c X τ a j
theorem rd_Fr.rf {X : XW} {R a : Nat} {σ τ : ST} : rd_Fr X R a σ σ τ τ := ⟨rd_F.rf, tkl.rf, fun _ _ _ => rfl⟩
theorem rd_Fr.tr {X : XW} {R a : Nat} {σ σ1 σ2 τ τ1 τ2 : ST} (h : rd_Fr X R a σ σ1 τ τ1) (k : rd_Fr X R a σ1 σ2 τ1 τ2) : rd_Fr X R a σ σ2 τ τ2 := ⟨h.1.tr k.1, h.2.1.tr k.2.1, fun j a b => (k.2.2 j a b).trans (h.2.2 j a b)⟩
section RO
variable {X : XW} {lb : Nat → Nat} {R T a g : Nat} {σ τ σ' τ' : ST} {n dp s l W : Int} {B c w : Int → Int} {U Vg : Nat → Int → Int}
theorem rd_T2 : ∀ b f, tn_S2 a b f → rd_T X a b f := fun b f h => Or.inr ⟨h.1, h.2.1, Or.inl h.2.2⟩
/-- a step of both readers -/
theorem rd_Fr.rd (hT : q_T X) (ha : q_kd X a = 12) (D : rd_D X lb R T) (S : rd_S X R T σ n B U dp) (h : tk (tc_S2 R) σ σ') (k : tkl (tn_S2 a) (tn_L a) τ τ') : rd_Fr X R a σ σ' τ τ' := by
  refine ⟨(S.rd D h).2, k.mono rd_T2 (fun _ _ z => z), fun j _ _ => ?_⟩
  have k1 := (tb_k hT ha).1
  exact congrArg Int32.toInt (k.1 _ _ (fun q => m_ne k1 ha (by decide) q.1))
/-- a row of the class, a cell of the reference -/
theorem rd_Fr.cw (hT : q_T X) (ha : q_kd X a = 12) (h : rd_F X R σ σ') {i v : Int32} {A : Int} (hi : i.toInt = A) (hA : 3720 ≤ A) : rd_Fr X R a σ σ' τ (q_si τ (q_rf X a 20) i.toNatClampNeg v) := by
  refine ⟨h, tkl.rf.si _ (Or.inl rfl), fun j j0 j1 => ?_⟩
  rw [m_c_up A (by omega) hi, m_up_ne (by omega)]
theorem rd_Fr.cl (h : rd_F X R σ σ') : rd_Fr X R a σ σ' τ τ := ⟨h, tkl.rf, fun _ _ _ => rfl⟩
theorem tl_F.tab (hT : q_T X) (ha : q_kd X a = 12) (h : tl_F σ R τ a) (i : Nat) (v : Int32) : tl_F σ R (q_si τ (q_rf X a 20) i v) a := by
  have na : a ≠ q_rf X a 20 := Ne.symm (m_ne (tb_k hT ha).1 ha (by decide))
  unfold tl_F
  rw [q_si_ne na, q_si_ne na]
  exact h
theorem tl_F.row (Y : y_S X lb) (D : rd_D X lb R T) (h : tl_F σ R τ a) {id r : Nat} (hid : 1 ≤ id ∧ id < 7) (hr : q_rf X r 0 = rdA X R id) {x : Int32} (v : Int32) (h0 : 0 ≤ x.toInt) (h1 : x.toInt < ((rdN id : Nat) : Int)) : tl_F (F_X5_set X σ r x v) R τ a := by
  have z := rd_sameS (σ := σ) Y D hid hr v h0 h1
  unfold tl_F
  rw [z 6 (by decide) (by decide), z 7 (by decide) (by decide)]
  exact h
/-- a player's name -/
theorem op_player (Y : y_S X lb) (D : rd_D X lb R T) (ha : q_kd X a = 12) (G : y_G X lb g 1) (I : rd_I X R T a g n B Vg w σ τ U dp c s) (hP6 : 0 ≤ c 2 ∧ c 2 ≤ 6) (hP : Vg 1 4 = c 2) (N : y_nm Vg w 0 (c 2)) {v x : Int32} (hv : v.toInt = l) (hl : 0 ≤ l ∧ l < 60) (hx : x.toInt = W) (hW : 3720 ≤ W) :
    ∃ (z y : Int32) (σ1 τ1 : ST), F_X3_passPlayer X σ R (q_rf X g 0) = (z, σ1) ∧ F_X12_readTold X τ a 0 = (y, τ1) ∧
      ((z.toInt ≠ -1 ∧ rd_I X R T a g n B Vg w (F_X5_set X σ1 (q_rf X (q_rf X R 8) 5) v z) (q_si τ1 (q_rf X a 20) x.toNatClampNeg y) (y_up U 3 l z.toInt) dp (m_up c W z.toInt) s ∧ rd_Fr X R a σ (F_X5_set X σ1 (q_rf X (q_rf X R 8) 5) v z) τ (q_si τ1 (q_rf X a 20) x.toNatClampNeg y) ∧ (τ.1 a 16).toInt ≤ ((q_si τ1 (q_rf X a 20) x.toNatClampNeg y).1 a 15).toInt) ∨
       (z.toInt = -1 ∧ tl_F σ1 R (q_si τ1 (q_rf X a 20) x.toNatClampNeg y) a ∧ rd_Fr X R a σ σ1 τ (q_si τ1 (q_rf X a 20) x.toNatClampNeg y))) := by
  obtain ⟨S, M, K, h0, hV⟩ := I
  have w0 : y_W X lb g 1 σ σ Vg := by
    rw [← hV]; exact y_W.rf
  have nm : y_nm Vg (m_wd X τ a) (6 * 0) (c 2) := by
    rw [M.2.2.1]
    exact N
  obtain ⟨z, y, σ1, τ1, e1, e2, ⟨o1, o2, o3⟩, v1, v2⟩ := tl_passPlayer Y G w0 S.1 M.1 K h0 (v := 0) (bl := 0) rfl ⟨by decide, by decide⟩ (P := c 2) (by rw [M.2.1]; rfl) hP6 hP nm
  obtain ⟨S1, f1⟩ := S.rd D o1
  have M1 := M.rd Y.1 ha o2
  have fr1 := rd_Fr.rd (σ' := σ1) (τ' := τ1) Y.1 ha D S o1 o2
  have n3 : ((rdN 3 : Nat) : Int) = 60 := rfl
  refine ⟨z, y, σ1, τ1, e1, e2, ?_⟩
  rcases o3 with ⟨q1, K1, h1, g1⟩ | ⟨q1, F1⟩
  · obtain ⟨ev, y0, y1⟩ := v1 q1
    obtain ⟨S2, f2⟩ := S1.set Y D (id := 3) (r := q_rf X (q_rf X R 8) 5) ⟨by decide, by decide⟩ rfl hv z hl.1 (by rw [n3]; exact hl.2)
    obtain ⟨M2, sm2⟩ := M1.cw Y.1 ha (i := x) (v := y) hx (by omega)
    have sc := rd_sameS (σ := σ1) Y D (id := 3) (r := q_rf X (q_rf X R 8) 5) ⟨by decide, by decide⟩ rfl (x := v) z (by omega) (by rw [n3]; omega)
    rw [← ev] at M2
    have fr2 := fr1.tr (rd_Fr.cw (τ := τ1) (v := y) Y.1 ha f2 hx hW)
    refine Or.inl ⟨q1, ⟨S2, M2, K1.same sc sm2, ?_, ?_⟩, fr2, ?_⟩
    · rw [sm2.1 12 (by decide) (by decide)]; exact h1
    · rw [fr2.1.v Y D G (by decide), hV]
    · rw [sm2.1 15 (by decide) (by decide)]; exact g1
  · have qz : z.toInt = -1 := Classical.not_not.mp q1
    exact Or.inr ⟨qz, F1.tab Y.1 ha _ _, fr1.tr (rd_Fr.cw Y.1 ha rd_F.rf hx hW)⟩
/-- a number -/
theorem op_num (Y : y_S X lb) (D : rd_D X lb R T) (ha : q_kd X a = 12) (G : y_G X lb g 1) (I : rd_I X R T a g n B Vg w σ τ U dp c s) (lo hi : Int32) (hlo : 0 ≤ lo.toInt) {v x : Int32} (hv : v.toInt = l) (hl : 0 ≤ l ∧ l < 60) (hx : x.toInt = W) (hW : 3720 ≤ W) :
    ∃ (z y : Int32) (σ1 τ1 : ST), F_X3_passNumber X σ R lo hi = (z, σ1) ∧ F_X12_count X τ a lo hi = (y, τ1) ∧
      ((z.toInt ≠ -1 ∧ rd_I X R T a g n B Vg w (F_X5_set X σ1 (q_rf X (q_rf X R 8) 7) v z) (q_si τ1 (q_rf X a 20) x.toNatClampNeg y) (y_up U 5 l z.toInt) dp (m_up c W z.toInt) s ∧ rd_Fr X R a σ (F_X5_set X σ1 (q_rf X (q_rf X R 8) 7) v z) τ (q_si τ1 (q_rf X a 20) x.toNatClampNeg y) ∧ (τ.1 a 16).toInt ≤ ((q_si τ1 (q_rf X a 20) x.toNatClampNeg y).1 a 15).toInt ∧ lo.toInt ≤ z.toInt ∧ z.toInt ≤ hi.toInt) ∨
       (z.toInt = -1 ∧ tl_F (F_X5_set X σ1 (q_rf X (q_rf X R 8) 7) v z) R (q_si τ1 (q_rf X a 20) x.toNatClampNeg y) a ∧ rd_Fr X R a σ (F_X5_set X σ1 (q_rf X (q_rf X R 8) 7) v z) τ (q_si τ1 (q_rf X a 20) x.toNatClampNeg y))) := by
  obtain ⟨S, M, K, h0, hV⟩ := I
  obtain ⟨z, y, σ1, τ1, e1, e2, ⟨o1, o2, o3⟩, v1, v2⟩ := tl_passNum S.1 M.1 K h0 lo hi hlo
  obtain ⟨S1, f1⟩ := S.rd D o1
  have M1 := M.rd Y.1 ha o2
  have fr1 := rd_Fr.rd (σ' := σ1) (τ' := τ1) Y.1 ha D S o1 o2
  have n5 : ((rdN 5 : Nat) : Int) = 60 := rfl
  obtain ⟨S2, f2⟩ := S1.set Y D (id := 5) (r := q_rf X (q_rf X R 8) 7) ⟨by decide, by decide⟩ rfl hv z hl.1 (by rw [n5]; exact hl.2)
  have fr2 := fr1.tr (rd_Fr.cw (τ := τ1) (v := y) Y.1 ha f2 hx hW)
  refine ⟨z, y, σ1, τ1, e1, e2, ?_⟩
  rcases o3 with ⟨q1, K1, h1, g1⟩ | ⟨q1, F1⟩
  · obtain ⟨ev, y0, y1⟩ := v1 q1
    obtain ⟨M2, sm2⟩ := M1.cw Y.1 ha (i := x) (v := y) hx (by omega)
    have sc := rd_sameS (σ := σ1) Y D (id := 5) (r := q_rf X (q_rf X R 8) 7) ⟨by decide, by decide⟩ rfl (x := v) z (by omega) (by rw [n5]; omega)
    rw [← ev] at M2
    refine Or.inl ⟨q1, ⟨S2, M2, K1.same sc sm2, ?_, ?_⟩, fr2, ?_, by omega, by omega⟩
    · rw [sm2.1 12 (by decide) (by decide)]; exact h1
    · rw [fr2.1.v Y D G (by decide), hV]
    · rw [sm2.1 15 (by decide) (by decide)]; exact g1
  · have qz : z.toInt = -1 := Classical.not_not.mp q1
    exact Or.inr ⟨qz, (F1.row Y D (id := 5) (r := q_rf X (q_rf X R 8) 7) ⟨by decide, by decide⟩ rfl z (by omega) (by rw [n5]; omega)).tab Y.1 ha _ _, fr2⟩
/-- what came of it: the class's answer, both states; Q says what was read -/
def rd_O (X : XW) (R T a g : Nat) (n : Int) (B : Int → Int) (Vg : Nat → Int → Int) (w : Int → Int) (dp s : Int) (σ τ : ST) (z : Int32) (σ' τ' : ST) (Q : (Nat → Int → Int) → (Int → Int) → Prop) : Prop :=
  rd_Fr X R a σ σ' τ τ' ∧ ((z.toInt = 1 ∧ (∃ (U' : Nat → Int → Int) (c' : Int → Int), rd_I X R T a g n B Vg w σ' τ' U' dp c' s ∧ Q U' c') ∧ (τ.1 a 15).toInt ≤ (τ'.1 a 15).toInt) ∨ (z.toInt = 0 ∧ tl_F σ' R τ' a))
/-- nothing but one line and one step are written -/
def rd_1 (U U' : Nat → Int → Int) (c c' : Int → Int) (l W : Int) : Prop := (∀ (id : Nat) (i : Int), id = 0 ∨ id = 2 ∨ id = 6 ∨ i ≠ l → U' id i = U id i) ∧ ∀ j : Int, j ≤ W ∨ W + 8 ≤ j → c' j = c j
theorem rd_out (X : XW) (R T a g : Nat) (v : Int32) (τ0 : ST) (h : 0 < (τ0.1 a 12).toInt) (x : Int32) : q_bi (F_X12_count X τ0 a 0 16) (fun r_11 σ_12 => q_let (q_si σ_12 (q_rf X a 20) x.toNatClampNeg r_11 : ST) (fun σ_13 => σ_13)) = q_si τ0 (q_rf X a 20) x.toNatClampNeg 0 := by
  rw [tm_count2 h, q_biP, q_letE]
/-- lies and doubts -/
theorem op_bends (Y : y_S X lb) (D : rd_D X lb R T) (ha : q_kd X a = 12) (G : y_G X lb g 1) (I : rd_I X R T a g n B Vg w σ τ U dp c s) (hP6 : 0 ≤ c 2 ∧ c 2 ≤ 6) (hP : Vg 1 4 = c 2) (N : y_nm Vg w 0 (c 2)) {v x : Int32} (hv : v.toInt = l) (hl : 0 ≤ l ∧ l < 60) (hx : x.toInt = W) (hW : 3720 ≤ W ∧ W ≤ 5000) (hk : c W = 1 ∨ c W = 2) (hU : U 1 l = c W) :
    ∃ (z : Int32) (σ' : ST), F_X4_readOperands X σ R v (q_rf X g 0) = (z, σ') ∧ rd_O X R T a g n B Vg w dp s σ τ z σ' (F_X12_readRest X τ a x) (fun U' c' => rd_1 U U' c c' l W ∧ U' 1 l = U 1 l ∧ U' 3 l = c' (W + 1) ∧ U' 5 l = c' (W + 2)) := by
  have I0 := I
  obtain ⟨S, M, K, h0, hV⟩ := I
  have one : (1 : Int32).toInt = 1 := rfl
  have two : (2 : Int32).toInt = 2 := rfl
  have n1 : ((rdN 1 : Nat) : Int) = 60 := rfl
  have r1 : (F_X5_get X σ (q_rf X (q_rf X R 8) 3) v).toInt = c W := (S.get Y D (id := 1) (r := q_rf X (q_rf X R 8) 3) ⟨by decide, by decide⟩ rfl hv hl.1 (by rw [n1]; exact hl.2)).trans hU
  have f1 : (τ.1 (q_rf X a 20) x.toNatClampNeg).toInt = c W := gm_cell M.2.1 hx
  have i1 : (x + 1).toInt = W + 1 := by rw [ar_add, hx, one, ar_wr (by omega) (by omega)]
  have i2 : (x + 2).toInt = W + 2 := by rw [ar_add, hx, two, ar_wr (by omega) (by omega)]
  obtain ⟨z, y, σ1, τ1, e1, e2, o⟩ := op_player Y D ha G I0 hP6 hP N hv hl i1 (by omega)
  -- the reference, for lies and for doubts
  have ref : F_X12_readRest X τ a x = q_bi (F_X12_count X (q_si τ1 (q_rf X a 20) (x + 1).toNatClampNeg y) a 0 16) (fun r_11 σ_12 => q_let (q_si σ_12 (q_rf X a 20) (x + 2).toNatClampNeg r_11 : ST) (fun σ_13 => σ_13)) := by
    unfold F_X12_readRest
    rw [q_letE (τ.1 (q_rf X a 20) x.toNatClampNeg), f1]
    rcases hk with hk | hk
    · rw [if_pos hk, q_letE (x + 1), e2, q_biP y τ1, q_letE (q_si τ1 (q_rf X a 20) (x + 1).toNatClampNeg y), q_letE (x + 2)]
    · rw [if_neg (by omega : ¬ c W = 1), if_pos hk, q_letE (x + 1), e2, q_biP y τ1, q_letE (q_si τ1 (q_rf X a 20) (x + 1).toNatClampNeg y), q_letE (x + 2)]
  -- the class
  obtain ⟨r, hr⟩ : ∃ r, r = F_X5_get X σ (q_rf X (q_rf X R 8) 3) v := ⟨_, rfl⟩
  rw [← hr] at r1
  have hn : ∀ σ0 : ST, (F_X8_hasName X σ0 r).toInt = 1 := fun σ0 => by
    unfold F_X8_hasName
    rw [r1]
    rcases hk with hk | hk
    · rw [if_pos hk]; rfl
    · rw [if_neg (by omega), if_pos hk]; rfl
  have hh : ∀ σ0 : ST, (F_X8_hasComparison X σ0 r).toInt = 0 := fun σ0 => by
    unfold F_X8_hasComparison F_X8_isWhen
    rw [r1, if_pos (by omega), q_letE, if_pos (by decide)]
    rfl
  have hi : ∀ σ0 : ST, F_X8_highest X σ0 r = 16 := fun σ0 => by
    unfold F_X8_highest
    rw [r1]
    rcases hk with hk | hk
    · rw [if_pos hk]
    · rw [if_neg (by omega), if_pos hk]
  unfold F_X4_readOperands
  rw [q_letE (F_X5_get X σ (q_rf X (q_rf X R 8) 3) v), ← hr, q_letE (F_X8_hasName X σ r), hn σ, if_neg (by decide : ¬ (1 : Int) = 0), e1, q_biP z σ1, ref]
  rcases o with ⟨q1, I2, fr2, g2⟩ | ⟨q1, F1, fr1⟩
  · rw [if_neg q1, q_letE (F_X5_set X σ1 (q_rf X (q_rf X R 8) 5) v z)]
    obtain ⟨σ2, h2⟩ : ∃ t, t = F_X5_set X σ1 (q_rf X (q_rf X R 8) 5) v z := ⟨_, rfl⟩
    obtain ⟨τ2, u2⟩ : ∃ t, t = q_si τ1 (q_rf X a 20) (x + 1).toNatClampNeg y := ⟨_, rfl⟩
    rw [← h2] at I2 fr2 ⊢
    rw [← u2] at I2 fr2 g2 ⊢
    obtain ⟨z3, y3, σ3, τ3, e3, e4, o⟩ := op_num Y D ha G I2 0 16 (by decide) hv hl i2 (by omega)
    unfold F_X4_readOperands_J47_1
    rw [q_letE (F_X8_hasComparison X σ2 r), hh σ2, if_pos rfl, q_letE (F_X8_highest X σ2 r), hi σ2, if_neg (by decide : ¬ (16 : Int32).toInt = -1), r1, if_neg (by omega : ¬ c W = 4), e3, q_biP z3 σ3, e4, q_biP y3 τ3, q_letE (F_X5_set X σ3 (q_rf X (q_rf X R 8) 7) v z3), q_letE (q_si τ3 (q_rf X a 20) (x + 2).toNatClampNeg y3)]
    have k2 := I2.2.2.1.b
    have k0 := K.b
    rcases o with ⟨q3, I4, fr4, g4, -⟩ | ⟨q3, F3, fr3⟩
    · rw [if_neg q3]
      refine ⟨1, _, rfl, fr2.tr fr4, Or.inl ⟨rfl, ⟨_, _, I4, ⟨fun id i h => ?_, fun j h => ?_⟩, ?_, ?_, ?_⟩, by omega⟩⟩
      · rw [y_up_ne (by omega), y_up_ne (by omega)]
      · rw [m_up_ne (by omega), m_up_ne (by omega)]
      · rw [y_up_ne (Or.inl (by decide)), y_up_ne (Or.inl (by decide))]
      · rw [y_up_ne (Or.inl (by decide)), y_up_eq, m_up_ne (by omega), m_up_eq]
      · rw [y_up_eq, m_up_eq]
    · rw [if_pos q3]
      exact ⟨0, _, rfl, fr2.tr fr3, Or.inr ⟨rfl, F3⟩⟩
  · rw [if_pos q1, rd_out X R T a g v _ F1.2.1]
    exact ⟨0, _, rfl, fr1.tr (rd_Fr.cw Y.1 ha rd_F.rf i2 (by omega)), Or.inr ⟨rfl, F1.tab Y.1 ha _ _⟩⟩
/-- a loop's number -/
theorem op_loop (Y : y_S X lb) (D : rd_D X lb R T) (ha : q_kd X a = 12) (G : y_G X lb g 1) (I : rd_I X R T a g n B Vg w σ τ U dp c s) {v x : Int32} (hv : v.toInt = l) (hl : 0 ≤ l ∧ l < 60) (hx : x.toInt = W) (hW : 3720 ≤ W ∧ W ≤ 5000) (hk : c W = 4) (hU : U 1 l = 4) :
    ∃ (z : Int32) (σ' : ST), F_X4_readOperands X σ R v (q_rf X g 0) = (z, σ') ∧ rd_O X R T a g n B Vg w dp s σ τ z σ' (F_X12_readRest X τ a x) (fun U' c' => rd_1 U U' c c' l W ∧ U' 1 l = U 1 l ∧ U' 5 l = c' (W + 1) ∧ 1 ≤ c' (W + 1) ∧ c' (W + 1) ≤ 99) := by
  have I0 := I
  obtain ⟨S, M, K, h0, hV⟩ := I
  have one : (1 : Int32).toInt = 1 := rfl
  have n1 : ((rdN 1 : Nat) : Int) = 60 := rfl
  have r1 : (F_X5_get X σ (q_rf X (q_rf X R 8) 3) v).toInt = 4 := (S.get Y D (id := 1) (r := q_rf X (q_rf X R 8) 3) ⟨by decide, by decide⟩ rfl hv hl.1 (by rw [n1]; exact hl.2)).trans hU
  have f1 : (τ.1 (q_rf X a 20) x.toNatClampNeg).toInt = 4 := (gm_cell M.2.1 hx).trans hk
  have i1 : (x + 1).toInt = W + 1 := by rw [ar_add, hx, one, ar_wr (by omega) (by omega)]
  obtain ⟨r, hr⟩ : ∃ r, r = F_X5_get X σ (q_rf X (q_rf X R 8) 3) v := ⟨_, rfl⟩
  rw [← hr] at r1
  have hn : (F_X8_hasName X σ r).toInt = 0 := by
    unfold F_X8_hasName
    rw [r1]
    rfl
  have hh : (F_X8_hasComparison X σ r).toInt = 0 := by
    unfold F_X8_hasComparison F_X8_isWhen
    rw [r1, if_pos (by decide), q_letE, if_pos (by decide)]
    rfl
  have hi : F_X8_highest X σ r = 99 := by
    unfold F_X8_highest
    rw [r1]
    rfl
  obtain ⟨z3, y3, σ3, τ3, e3, e4, o⟩ := op_num Y D ha G I0 1 99 (by decide) hv hl i1 (by omega)
  unfold F_X4_readOperands F_X12_readRest
  rw [q_letE (F_X5_get X σ (q_rf X (q_rf X R 8) 3) v), ← hr, q_letE (F_X8_hasName X σ r), hn, if_pos rfl, q_letE (τ.1 (q_rf X a 20) x.toNatClampNeg), f1, if_neg (by decide : ¬ (4 : Int) = 1), if_neg (by decide : ¬ (4 : Int) = 2), if_neg (by decide : ¬ (4 : Int) = 3), if_pos rfl, q_letE (x + 1)]
  unfold F_X4_readOperands_J47_1
  rw [q_letE (F_X8_hasComparison X σ r), hh, if_pos rfl, q_letE (F_X8_highest X σ r), hi, if_neg (by decide : ¬ (99 : Int32).toInt = -1), r1, if_pos rfl, e3, q_biP z3 σ3, e4, q_biP y3 τ3, q_letE (F_X5_set X σ3 (q_rf X (q_rf X R 8) 7) v z3), q_letE (q_si τ3 (q_rf X a 20) (x + 1).toNatClampNeg y3)]
  have k0 := K.b
  rcases o with ⟨q3, I4, fr4, g4, lo⟩ | ⟨q3, F3, fr3⟩
  · rw [if_neg q3]
    refine ⟨1, _, rfl, fr4, Or.inl ⟨rfl, ⟨_, _, I4, ⟨fun id i h => ?_, fun j h => ?_⟩, ?_, ?_, ?_⟩, by omega⟩⟩
    · rw [y_up_ne (by omega)]
    · rw [m_up_ne (by omega)]
    · rw [y_up_ne (Or.inl (by decide))]
    · rw [y_up_eq, m_up_eq]
    · rw [m_up_eq]
      exact lo
  · rw [if_pos q3]
    exact ⟨0, _, rfl, fr3, Or.inr ⟨rfl, F3⟩⟩
/-- turn and stop have none -/
theorem op_none (Y : y_S X lb) (D : rd_D X lb R T) (I : rd_I X R T a g n B Vg w σ τ U dp c s) {v x : Int32} (hv : v.toInt = l) (hl : 0 ≤ l ∧ l < 60) (hx : x.toInt = W) (hk : c W = 0 ∧ U 1 l = 0 ∨ c W = 5 ∧ U 1 l = 3) :
    ∃ (z : Int32) (σ' : ST), F_X4_readOperands X σ R v (q_rf X g 0) = (z, σ') ∧ rd_O X R T a g n B Vg w dp s σ τ z σ' (F_X12_readRest X τ a x) (fun U' c' => rd_1 U U' c c' l W ∧ U' 1 l = U 1 l) := by
  have I0 := I
  obtain ⟨S, M, K, h0, hV⟩ := I
  have n1 : ((rdN 1 : Nat) : Int) = 60 := rfl
  have r1 : (F_X5_get X σ (q_rf X (q_rf X R 8) 3) v).toInt = U 1 l := S.get Y D (id := 1) (r := q_rf X (q_rf X R 8) 3) ⟨by decide, by decide⟩ rfl hv hl.1 (by rw [n1]; exact hl.2)
  have f1 : (τ.1 (q_rf X a 20) x.toNatClampNeg).toInt = c W := gm_cell M.2.1 hx
  obtain ⟨r, hr⟩ : ∃ r, r = F_X5_get X σ (q_rf X (q_rf X R 8) 3) v := ⟨_, rfl⟩
  rw [← hr] at r1
  have hn : (F_X8_hasName X σ r).toInt = 0 := by
    unfold F_X8_hasName
    rcases hk with ⟨_, hk⟩ | ⟨_, hk⟩ <;> rw [r1, hk] <;> rfl
  have hh : (F_X8_hasComparison X σ r).toInt = 0 := by
    unfold F_X8_hasComparison F_X8_isWhen
    rw [r1, if_pos (by omega), q_letE, if_pos (by decide)]
    rfl
  have hi : F_X8_highest X σ r = -1 := by
    unfold F_X8_highest
    rcases hk with ⟨_, hk⟩ | ⟨_, hk⟩ <;> rw [r1, hk] <;> rfl
  unfold F_X4_readOperands F_X12_readRest
  rw [q_letE (F_X5_get X σ (q_rf X (q_rf X R 8) 3) v), ← hr, q_letE (F_X8_hasName X σ r), hn, if_pos rfl, q_letE (τ.1 (q_rf X a 20) x.toNatClampNeg), f1, if_neg (by omega : ¬ c W = 1), if_neg (by omega : ¬ c W = 2), if_neg (by omega : ¬ c W = 3), if_neg (by omega : ¬ c W = 4)]
  unfold F_X4_readOperands_J47_1
  rw [q_letE (F_X8_hasComparison X σ r), hh, if_pos rfl, q_letE (F_X8_highest X σ r), hi, if_pos (by decide : (-1 : Int32).toInt = -1)]
  exact ⟨1, σ, rfl, rd_Fr.rf, Or.inl ⟨rfl, ⟨U, c, I0, ⟨fun _ _ _ => rfl, fun _ _ => rfl⟩, rfl⟩, Int.le_refl _⟩⟩
end RO

/-! FROM 49t.whens.lean.txt -/
/-! A ROUND BEING READ: a when's test -/
theorem is_sg {X : XW} {τ : ST} {a : Nat} (v : Int32) : (F_X12_isSign X τ a v).toInt = if (τ.1 a 14).toInt = 3 ∧ (τ.1 a 17).toInt = v.toInt then 1 else 0 := by
  unfold F_X12_isSign
  rw [q_letE]
  by_cases q : (τ.1 a 14).toInt = 3
  · rw [if_pos q, q_letE]
    by_cases q2 : (τ.1 a 17).toInt = v.toInt
    · rw [if_pos q2, if_pos ⟨q, q2⟩]; rfl
    · rw [if_neg q2, if_neg (fun z => q2 z.2)]; rfl
  · rw [if_neg q, if_neg (fun z => q z.1)]; rfl
noncomputable def tl_q (X : XW) (a : Nat) (x r : Int32) (τ5 : ST) : ST := q_let (x + (2 : Int32) : Int32) (fun z => if r.toInt = 2 then q_bi (F_X12_count X τ5 a (0 : Int32) (999 : Int32)) (fun p q => q_let (q_si q (q_rf X a 20) z.toNatClampNeg p : ST) (fun u => u)) else q_bi (F_X12_count X τ5 a (0 : Int32) (80 : Int32)) (fun p q => q_let (q_si q (q_rf X a 20) z.toNatClampNeg p : ST) (fun u => u)))
theorem tl_q2 {X : XW} {a : Nat} {τ5 : ST} (h : 0 < (τ5.1 a 12).toInt) (x r : Int32) : tl_q X a x r τ5 = q_si τ5 (q_rf X a 20) (x + 2).toNatClampNeg 0 := by
  unfold tl_q
  rw [q_letE]
  by_cases q : r.toInt = 2
  · rw [if_pos q, tm_count2 h, q_biP, q_letE]
  · rw [if_neg q, tm_count2 h, q_biP, q_letE]
section RT
variable {X : XW} {lb : Nat → Nat} {R T a g : Nat} {σ τ σ' τ' : ST} {n dp s l W : Int} {B c w : Int → Int} {U Vg : Nat → Int → Int}
theorem cmp_ref (hT : q_T X) (ha : q_kd X a = 12) (h0 : (τ.1 a 12).toInt = 0) (x r : Int32) (hr : r.toInt ≠ 3) (sg : (τ.1 a 14).toInt = 3 → (τ.1 a 17).toInt = 59 ∨ (τ.1 a 17).toInt = 60 ∨ (τ.1 a 17).toInt = 61 ∨ (τ.1 a 17).toInt = 62) :
    ((τ.1 a 14).toInt = 3 ∧ (τ.1 a 17).toInt ≠ 59 → F_X12_readTest_J50_2 X a r x τ = tl_q X a x r (F_X12_next X (q_si τ (q_rf X a 20) (x + 7).toNatClampNeg (τ.1 a 17)) a)) ∧
    (¬ ((τ.1 a 14).toInt = 3 ∧ (τ.1 a 17).toInt ≠ 59) → ∃ v : Int32, F_X12_readTest_J50_2 X a r x τ = tl_q X a x r (F_X12_wrong X (q_si τ (q_rf X a 20) (x + 7).toNatClampNeg v) a)) := by
  have na : a ≠ q_rf X a 20 := Ne.symm (m_ne (tb_k hT ha).1 ha (by decide))
  have e60 : (60 : Int32).toInt = 60 := rfl
  have e61 : (61 : Int32).toInt = 61 := rfl
  have e62 : (62 : Int32).toInt = 62 := rfl
  have st : ∀ (v : Int32) (f : Nat), (q_si τ (q_rf X a 20) (x + 7).toNatClampNeg v).1 a f = τ.1 a f := fun v f => q_si_ne na f
  have isg : ∀ (v u : Int32), (F_X12_isSign X (q_si τ (q_rf X a 20) (x + 7).toNatClampNeg v) a u).toInt = if (τ.1 a 14).toInt = 3 ∧ (τ.1 a 17).toInt = u.toInt then 1 else 0 := fun v u => by
    rw [is_sg, st, st]
  have is1 : ∀ (v u : Int32), (τ.1 a 14).toInt = 3 ∧ (τ.1 a 17).toInt = u.toInt → (F_X12_isSign X (q_si τ (q_rf X a 20) (x + 7).toNatClampNeg v) a u).toInt = 1 := fun v u h => by rw [isg, if_pos h]
  have is0 : ∀ (v u : Int32), ¬ ((τ.1 a 14).toInt = 3 ∧ (τ.1 a 17).toInt = u.toInt) → (F_X12_isSign X (q_si τ (q_rf X a 20) (x + 7).toNatClampNeg v) a u).toInt = 0 := fun v u h => by rw [isg, if_neg h]
  have m1 : ∀ v : Int32, F_X12_must X (q_si τ (q_rf X a 20) (x + 7).toNatClampNeg v) a 1 = F_X12_next X (q_si τ (q_rf X a 20) (x + 7).toNatClampNeg v) a := fun v => tm_must1 (by rw [st]; exact h0) (by decide)
  have m0 : ∀ v : Int32, F_X12_must X (q_si τ (q_rf X a 20) (x + 7).toNatClampNeg v) a 0 = F_X12_wrong X (q_si τ (q_rf X a 20) (x + 7).toNatClampNeg v) a := fun v => tm_must0 (by rw [st]; exact h0) rfl
  unfold F_X12_readTest_J50_2
  rw [q_letE (τ.1 a 12), h0, if_neg (by decide : ¬ (0 : Int) < 0), if_neg hr, q_letE (x + 7), q_letE (τ.1 a 14)]
  by_cases q3 : (τ.1 a 14).toInt = 3
  · have sg' := sg q3
    rw [if_pos q3, q_letE (τ.1 a 17), q_letE (q_si τ (q_rf X a 20) (x + 7).toNatClampNeg (τ.1 a 17)), q_letE (F_X12_isSign X (q_si τ (q_rf X a 20) (x + 7).toNatClampNeg (τ.1 a 17)) a 60)]
    constructor
    · rintro ⟨-, q59⟩
      by_cases q60 : (τ.1 a 17).toInt = 60
      · rw [is1 _ 60 ⟨q3, q60⟩, if_neg (by decide : ¬ (1 : Int) = 0), q_letE (F_X12_must X (q_si τ (q_rf X a 20) (x + 7).toNatClampNeg (τ.1 a 17)) a 1), m1]
        rfl
      · rw [is0 _ 60 (fun z => q60 z.2), if_pos rfl, q_letE (F_X12_isSign X (q_si τ (q_rf X a 20) (x + 7).toNatClampNeg (τ.1 a 17)) a 62)]
        by_cases q62 : (τ.1 a 17).toInt = 62
        · rw [is1 _ 62 ⟨q3, q62⟩, if_neg (by decide : ¬ (1 : Int) = 0), q_letE (F_X12_must X (q_si τ (q_rf X a 20) (x + 7).toNatClampNeg (τ.1 a 17)) a 1), m1]
          rfl
        · rw [is0 _ 62 (fun z => q62 z.2), if_pos rfl, q_letE (F_X12_isSign X (q_si τ (q_rf X a 20) (x + 7).toNatClampNeg (τ.1 a 17)) a 61), is1 _ 61 ⟨q3, by omega⟩, if_neg (by decide : ¬ (1 : Int) = 0), q_letE (F_X12_must X (q_si τ (q_rf X a 20) (x + 7).toNatClampNeg (τ.1 a 17)) a 1), m1]
          rfl
    · intro q59
      have q59' : (τ.1 a 17).toInt = 59 := Classical.not_not.mp (fun z => q59 ⟨q3, z⟩)
      refine ⟨τ.1 a 17, ?_⟩
      rw [is0 _ 60 (by omega), if_pos rfl, q_letE (F_X12_isSign X (q_si τ (q_rf X a 20) (x + 7).toNatClampNeg (τ.1 a 17)) a 62), is0 _ 62 (by omega), if_pos rfl, q_letE (F_X12_isSign X (q_si τ (q_rf X a 20) (x + 7).toNatClampNeg (τ.1 a 17)) a 61), is0 _ 61 (by omega), if_pos rfl, q_letE (F_X12_must X (q_si τ (q_rf X a 20) (x + 7).toNatClampNeg (τ.1 a 17)) a 0), m0]
      rfl
  · refine ⟨fun z => absurd z.1 q3, fun _ => ⟨0, ?_⟩⟩
    rw [if_neg q3, q_letE (q_si τ (q_rf X a 20) (x + 7).toNatClampNeg 0), q_letE (F_X12_isSign X (q_si τ (q_rf X a 20) (x + 7).toNatClampNeg 0) a 60), is0 _ 60 (fun z => q3 z.1), if_pos rfl, q_letE (F_X12_isSign X (q_si τ (q_rf X a 20) (x + 7).toNatClampNeg 0) a 62), is0 _ 62 (fun z => q3 z.1), if_pos rfl, q_letE (F_X12_isSign X (q_si τ (q_rf X a 20) (x + 7).toNatClampNeg 0) a 61), is0 _ 61 (fun z => q3 z.1), if_pos rfl, q_letE (F_X12_must X (q_si τ (q_rf X a 20) (x + 7).toNatClampNeg 0) a 0), m0]
    rfl
/-- what must be compared, and with which number -/
theorem op_cmp (Y : y_S X lb) (D : rd_D X lb R T) (ha : q_kd X a = 12) (G : y_G X lb g 1) (I : rd_I X R T a g n B Vg w σ τ U dp c s) {v x r t : Int32} (hv : v.toInt = l) (hl : 0 ≤ l ∧ l < 60) (hx : x.toInt = W) (hW : 3720 ≤ W ∧ W ≤ 5000) (ht : 0 ≤ t.toInt ∧ t.toInt ≤ 2) (hr : r.toInt = 5 + t.toInt) :
    ∃ (z : Int32) (σ' : ST), F_X4_readOperands_J47_1 X r R v σ = (z, σ') ∧ rd_O X R T a g n B Vg w dp s σ τ z σ' (F_X12_readTest_J50_2 X a t x τ) (fun U' c' => rd_1 U U' c c' l W ∧ U' 1 l = U 1 l ∧ U' 3 l = U 3 l ∧ c' (W + 1) = c (W + 1) ∧ c' (W + 6) = c (W + 6) ∧ U' 4 l = c' (W + 7) ∧ U' 5 l = c' (W + 2)) := by
  have I0 := I
  obtain ⟨S, M, K, h0, hV⟩ := I
  have kb := K.b
  have nb := S.1.2.2.1
  obtain ⟨k1, k2, k3, k4, k5, k6, k7, k8⟩ := id K
  have two : (2 : Int32).toInt = 2 := rfl
  have e7 : (7 : Int32).toInt = 7 := rfl
  have n4 : ((rdN 4 : Nat) : Int) = 60 := rfl
  have i2 : (x + 2).toInt = W + 2 := by rw [ar_add, hx, two, ar_wr (by omega) (by omega)]
  have i7 : (x + 7).toInt = W + 7 := by rw [ar_add, hx, e7, ar_wr (by omega) (by omega)]
  -- a sign is one of four
  have sgn : (τ.1 a 14).toInt = 3 → (τ.1 a 17).toInt = 59 ∨ (τ.1 a 17).toInt = 60 ∨ (τ.1 a 17).toInt = 61 ∨ (τ.1 a 17).toInt = 62 := fun q => by
    rw [k6.1 q]
    rcases k5 with z | z | z | z
    · omega
    · omega
    · rcases z.2.2.2 with z | z <;> omega
    · rcases z.2.2.2.2 with y | y
      · have y1 := y.1
        unfold tx_sg at y1
        omega
      · omega
  obtain ⟨c1, c2⟩ := cmp_ref (X := X) (τ := τ) Y.1 ha h0 x t (by omega) sgn
  have hh : (F_X8_hasComparison X σ r).toInt = 1 := by
    unfold F_X8_hasComparison F_X8_isWhen
    rw [if_neg (by omega), if_neg (by have e8 : (8 : Int32).toInt = 8 := rfl; omega), q_letE, if_neg (by decide), if_neg (by omega)]
    rfl
  have hh' : ∀ σ0 : ST, F_X8_highest X σ0 r = if t.toInt = 2 then 999 else 80 := fun σ0 => by
    unfold F_X8_highest
    rw [if_neg (by omega), if_neg (by omega), if_neg (by omega), if_neg (by omega)]
    by_cases q : t.toInt = 0
    · rw [if_pos (by omega), if_neg (by omega)]
    · rw [if_neg (by omega)]
      by_cases q2 : t.toInt = 1
      · rw [if_pos (by omega), if_neg (by omega)]
      · rw [if_neg (by omega), if_pos (by omega), if_pos (by omega)]
  unfold F_X4_readOperands_J47_1
  rw [q_letE (F_X8_hasComparison X σ r), hh, if_neg (by decide : ¬ (1 : Int) = 0), q_letE (F_X3_signAt X σ R 0), q_letE (σ.1 R 4), k3]
  by_cases q : (τ.1 a 14).toInt = 3 ∧ (τ.1 a 17).toInt ≠ 59
  · have sg := tc_sig S.1 k1 ⟨k7, by omega⟩ (v := 0) (i := 0) rfl ⟨by decide, by decide⟩
    rw [Int.add_zero, tx_D_in k7 (by omega), ← k6.1 q.1] at sg
    rw [if_pos q.1, sg, if_neg q.2, q_letE (F_X5_set X σ (q_rf X (q_rf X R 8) 6) v (F_X3_signAt X σ R 0)), c1 q]
    obtain ⟨sv, hsv⟩ : ∃ t, t = F_X3_signAt X σ R 0 := ⟨_, rfl⟩
    rw [← hsv] at sg ⊢
    obtain ⟨S1, f1⟩ := S.set Y D (id := 4) (r := q_rf X (q_rf X R 8) 6) ⟨by decide, by decide⟩ rfl hv sv hl.1 (by rw [n4]; exact hl.2)
    obtain ⟨M1, sm1⟩ := M.cw Y.1 ha (i := x + 7) (v := τ.1 a 17) i7 (by omega)
    have sc := rd_sameS (σ := σ) Y D (id := 4) (r := q_rf X (q_rf X R 8) 6) ⟨by decide, by decide⟩ rfl (x := v) sv (by omega) (by rw [n4]; omega)
    have K1 := K.same sc sm1
    have fr1 := rd_Fr.cw (τ := τ) (v := τ.1 a 17) Y.1 ha f1 i7 (by omega)
    obtain ⟨σ1, h1⟩ : ∃ t, t = F_X5_set X σ (q_rf X (q_rf X R 8) 6) v sv := ⟨_, rfl⟩
    obtain ⟨τ1, u1⟩ : ∃ t, t = q_si τ (q_rf X a 20) (x + 7).toNatClampNeg (τ.1 a 17) := ⟨_, rfl⟩
    rw [← h1] at S1 f1 K1 fr1 ⊢
    rw [← u1] at M1 sm1 K1 fr1 ⊢
    obtain ⟨x1, x2, K2, g2⟩ := tl_adv2 S1.1 M1.1 K1
    obtain ⟨S2, f2⟩ := S1.rd D x1.S2
    have M2 := M1.rd Y.1 ha x2.S2
    have fr2 := fr1.tr (rd_Fr.rd (τ := τ1) Y.1 ha D S1 x1.S2 x2.S2)
    have h02 : ((F_X12_next X τ1 a).1 a 12).toInt = 0 := by
      rw [tn_12 x2, sm1.1 12 (by decide) (by decide)]; exact h0
    obtain ⟨σ2, h2⟩ : ∃ t, t = F_X3_advance X σ1 R := ⟨_, rfl⟩
    obtain ⟨τ2, u2⟩ : ∃ t, t = F_X12_next X τ1 a := ⟨_, rfl⟩
    rw [q_letE (F_X3_advance X σ1 R), ← h2, ← u2]
    rw [← h2] at S2 f2 K2 fr2
    rw [← u2] at M2 K2 fr2 h02 g2
    have V2 : y_v X g σ2 = Vg := by rw [fr2.1.v Y D G (by decide), hV]
    have k2b := K2.b
    have e16 : τ1.1 a 16 = τ.1 a 16 := sm1.1 16 (by decide) (by decide)
    rw [q_letE (F_X8_highest X σ2 r), hh' σ2]
    unfold tl_q
    rw [q_letE (x + 2)]
    -- the number
    have fin : ∀ hi : Int32, hi.toInt ≠ -1 → ∃ (z : Int32) (σ' : ST), q_bi (F_X3_passNumber X σ2 R (0 : Int32) hi) (fun r_43 σ_44 => q_let (F_X5_set X σ_44 (q_rf X (q_rf X R 8) 7) v r_43 : ST) (fun σ_46 => if r_43.toInt = (-1) then ((0 : Int32), σ_46) else ((1 : Int32), σ_46))) = (z, σ') ∧ rd_O X R T a g n B Vg w dp s σ τ z σ' (q_bi (F_X12_count X τ2 a (0 : Int32) hi) (fun p q => q_let (q_si q (q_rf X a 20) (x + 2).toNatClampNeg p : ST) (fun u => u))) (fun U' c' => rd_1 U U' c c' l W ∧ U' 1 l = U 1 l ∧ U' 3 l = U 3 l ∧ c' (W + 1) = c (W + 1) ∧ c' (W + 6) = c (W + 6) ∧ U' 4 l = c' (W + 7) ∧ U' 5 l = c' (W + 2)) := by
      intro hi _
      obtain ⟨z3, y3, σ3, τ3, e3, e4, o⟩ := op_num Y D ha G ⟨S2, M2, K2, h02, V2⟩ 0 hi (by decide) hv hl i2 (by omega)
      rw [e3, q_biP z3 σ3, e4, q_biP y3 τ3, q_letE (F_X5_set X σ3 (q_rf X (q_rf X R 8) 7) v z3), q_letE (q_si τ3 (q_rf X a 20) (x + 2).toNatClampNeg y3)]
      rcases o with ⟨q3, I4, fr4, g4, -⟩ | ⟨q3, F3, fr3⟩
      · rw [if_neg q3]
        refine ⟨1, _, rfl, fr2.tr fr4, Or.inl ⟨rfl, ⟨_, _, I4, ⟨fun id i h => ?_, fun j h => ?_⟩, ?_, ?_, ?_, ?_, ?_, ?_⟩, by rw [e16] at g2; omega⟩⟩
        · rw [y_up_ne (by omega), y_up_ne (by omega)]
        · rw [m_up_ne (by omega), m_up_ne (by omega)]
        · rw [y_up_ne (Or.inl (by decide)), y_up_ne (Or.inl (by decide))]
        · rw [y_up_ne (Or.inl (by decide)), y_up_ne (Or.inl (by decide))]
        · rw [m_up_ne (by omega), m_up_ne (by omega)]
        · rw [m_up_ne (by omega), m_up_ne (by omega)]
        · rw [y_up_ne (Or.inl (by decide)), y_up_eq, m_up_ne (by omega), m_up_eq, sg]
        · rw [y_up_eq, m_up_eq]
      · rw [if_pos q3]
        exact ⟨0, _, rfl, fr2.tr fr3, Or.inr ⟨rfl, F3⟩⟩
    by_cases qt : t.toInt = 2
    · rw [if_pos qt, if_pos qt, if_neg (by decide : ¬ (999 : Int32).toInt = -1), if_neg (by omega : ¬ r.toInt = 4)]
      exact fin 999 (by decide)
    · rw [if_neg qt, if_neg qt, if_neg (by decide : ¬ (80 : Int32).toInt = -1), if_neg (by omega : ¬ r.toInt = 4)]
      exact fin 80 (by decide)
  · obtain ⟨u, c2'⟩ := c2 q
    obtain ⟨M1, sm1⟩ := M.cw Y.1 ha (i := x + 7) (v := u) i7 (by omega)
    have K1 := K.same tl_sameC.rf sm1
    have fr1 := rd_Fr.cw (τ := τ) (v := u) Y.1 ha (rd_F.rf (X := X) (R := R) (σ := σ)) i7 (by omega)
    obtain ⟨τ1, u1⟩ : ∃ t, t = q_si τ (q_rf X a 20) (x + 7).toNatClampNeg u := ⟨_, rfl⟩
    rw [← u1] at M1 sm1 K1 fr1 c2'
    have h01 : (τ1.1 a 12).toInt = 0 := by rw [sm1.1 12 (by decide) (by decide)]; exact h0
    obtain ⟨σ', y1, y2, y3, y4⟩ := tl_wrong (X := X) K1 h01
    have fr2 := fr1.tr (rd_Fr.rd (τ := τ1) Y.1 ha D S y2 y3)
    rw [c2', tl_q2 y4.2.1]
    have fin : rd_O X R T a g n B Vg w dp s σ τ 0 σ' (q_si (F_X12_wrong X τ1 a) (q_rf X a 20) (x + 2).toNatClampNeg 0) (fun U' c' => rd_1 U U' c c' l W ∧ U' 1 l = U 1 l ∧ U' 3 l = U 3 l ∧ c' (W + 1) = c (W + 1) ∧ c' (W + 6) = c (W + 6) ∧ U' 4 l = c' (W + 7) ∧ U' 5 l = c' (W + 2)) := ⟨fr2.tr (rd_Fr.cw Y.1 ha rd_F.rf i2 (by omega)), Or.inr ⟨rfl, y4.tab Y.1 ha _ _⟩⟩
    by_cases q3 : (τ.1 a 14).toInt = 3
    · have q59 : (τ.1 a 17).toInt = 59 := Classical.not_not.mp (fun z => q ⟨q3, z⟩)
      have sg := tc_sig S.1 k1 ⟨k7, by omega⟩ (v := 0) (i := 0) rfl ⟨by decide, by decide⟩
      rw [Int.add_zero, tx_D_in k7 (by omega), ← k6.1 q3, q59] at sg
      rw [if_pos q3, if_pos sg, y1, q_biP 0 σ']
      exact ⟨0, σ', rfl, fin⟩
    · rw [if_neg q3, y1, q_biP 0 σ']
      exact ⟨0, σ', rfl, fin⟩
end RT

/-! FROM 49u.when.lean.txt -/
/-! A ROUND BEING READ: a when -/
/-- what a when's line and step have -/
def rd_w (U : Nat → Int → Int) (c : Int → Int) (l W : Int) : Prop :=
  (c (W + 6) = 0 ∧ U 1 l = 5 ∧ U 3 l = c (W + 1) ∧ U 4 l = c (W + 7) ∧ U 5 l = c (W + 2)) ∨ (c (W + 6) = 1 ∧ U 1 l = 6 ∧ U 4 l = c (W + 7) ∧ U 5 l = c (W + 2)) ∨ (c (W + 6) = 2 ∧ U 1 l = 7 ∧ U 3 l = c (W + 1) ∧ U 4 l = c (W + 7) ∧ U 5 l = c (W + 2)) ∨ (c (W + 6) = 3 ∧ U 1 l = 8)
theorem rd_1.tr {U U1 U2 : Nat → Int → Int} {c c1 c2 : Int → Int} {l W : Int} (h : rd_1 U U1 c c1 l W) (k : rd_1 U1 U2 c1 c2 l W) : rd_1 U U2 c c2 l W := ⟨fun id i q => (k.1 id i q).trans (h.1 id i q), fun j q => (k.2 j q).trans (h.2 j q)⟩
section RU
variable {X : XW} {lb : Nat → Nat} {R T a g : Nat} {σ τ σ' τ' : ST} {n dp s l W : Int} {B c w : Int → Int} {U Vg : Nat → Int → Int}
theorem hn_val (r : Int32) {k : Int} (h : r.toInt = k) (σ0 : ST) : (F_X8_hasName X σ0 r).toInt = if k = 1 ∨ k = 2 ∨ k = 5 ∨ k = 7 then 1 else 0 := by
  unfold F_X8_hasName
  rw [h]
  by_cases q1 : k = 1
  · rw [if_pos q1, if_pos (Or.inl q1)]; rfl
  · rw [if_neg q1]
    by_cases q2 : k = 2
    · rw [if_pos q2, if_pos (Or.inr (Or.inl q2))]; rfl
    · rw [if_neg q2]
      by_cases q5 : k = 5
      · rw [if_pos q5, if_pos (Or.inr (Or.inr (Or.inl q5)))]; rfl
      · rw [if_neg q5]
        by_cases q7 : k = 7
        · rw [if_pos q7, if_pos (Or.inr (Or.inr (Or.inr q7)))]; rfl
        · rw [if_neg q7, if_neg (by omega)]; rfl
theorem hn_1 (r : Int32) {k : Int} (h : r.toInt = k) (σ0 : ST) (q : k = 1 ∨ k = 2 ∨ k = 5 ∨ k = 7) : (F_X8_hasName X σ0 r).toInt = 1 := by rw [hn_val r h, if_pos q]
theorem hn_0 (r : Int32) {k : Int} (h : r.toInt = k) (σ0 : ST) (q : ¬ (k = 1 ∨ k = 2 ∨ k = 5 ∨ k = 7)) : (F_X8_hasName X σ0 r).toInt = 0 := by rw [hn_val r h, if_neg q]
/-- the class's operands behind a test: without a name, with one -/
theorem op_tail (Y : y_S X lb) (D : rd_D X lb R T) (ha : q_kd X a = 12) (G : y_G X lb g 1) (I : rd_I X R T a g n B Vg w σ τ U dp c s) (hP6 : 0 ≤ c 2 ∧ c 2 ≤ 6) (hP : Vg 1 4 = c 2) (N : y_nm Vg w 0 (c 2)) {v x t : Int32} (hv : v.toInt = l) (hl : 0 ≤ l ∧ l < 60) (hx : x.toInt = W) (hW : 3720 ≤ W ∧ W ≤ 5000) (ht : 0 ≤ t.toInt ∧ t.toInt ≤ 2) (hU : U 1 l = 5 + t.toInt) (hc6 : c (W + 6) = t.toInt) :
    ∃ (z : Int32) (σ' : ST), F_X4_readOperands X σ R v (q_rf X g 0) = (z, σ') ∧ rd_O X R T a g n B Vg w dp s σ τ z σ' (if t.toInt = 1 then F_X12_readTest_J50_2 X a t x τ else q_let (x + (1 : Int32) : Int32) (fun z_164 => q_bi (F_X12_readTold X τ a (0 : Int32)) (fun r_166 σ_167 => q_let (q_si σ_167 (q_rf X a 20) z_164.toNatClampNeg r_166 : ST) (fun σ_168 => F_X12_readTest_J50_2 X a t x σ_168)))) (fun U' c' => rd_1 U U' c c' l W ∧ rd_w U' c' l W) := by
  have I0 := I
  obtain ⟨S, M, K, h0, hV⟩ := I
  have one : (1 : Int32).toInt = 1 := rfl
  have n1 : ((rdN 1 : Nat) : Int) = 60 := rfl
  have kb := K.b
  have r1 : (F_X5_get X σ (q_rf X (q_rf X R 8) 3) v).toInt = 5 + t.toInt := (S.get Y D (id := 1) (r := q_rf X (q_rf X R 8) 3) ⟨by decide, by decide⟩ rfl hv hl.1 (by rw [n1]; exact hl.2)).trans hU
  have i1 : (x + 1).toInt = W + 1 := by rw [ar_add, hx, one, ar_wr (by omega) (by omega)]
  obtain ⟨r, hr⟩ : ∃ r, r = F_X5_get X σ (q_rf X (q_rf X R 8) 3) v := ⟨_, rfl⟩
  rw [← hr] at r1
  unfold F_X4_readOperands
  rw [q_letE (F_X5_get X σ (q_rf X (q_rf X R 8) 3) v), ← hr, q_letE (F_X8_hasName X σ r)]
  by_cases q : t.toInt = 1
  · rw [hn_0 r r1 σ (by omega), if_pos rfl, if_pos q]
    obtain ⟨z, σ', e, fr, o⟩ := op_cmp Y D ha G I0 hv hl hx hW ht r1
    refine ⟨z, σ', e, fr, ?_⟩
    rcases o with ⟨o1, ⟨U', c', I', p1, p2, p3, p4, p5, p6, p7⟩, o3⟩ | o
    · exact Or.inl ⟨o1, ⟨U', c', I', p1, Or.inr (Or.inl ⟨by rw [p5, hc6]; exact q, by rw [p2, hU]; omega, p6, p7⟩)⟩, o3⟩
    · exact Or.inr o
  · rw [hn_1 r r1 σ (by omega), if_neg (by decide : ¬ (1 : Int) = 0), if_neg q]
    obtain ⟨z, y, σ1, τ1, e1, e2, o⟩ := op_player Y D ha G I0 hP6 hP N hv hl i1 (by omega)
    rw [e1, q_biP z σ1, q_letE (x + 1), e2, q_biP y τ1, q_letE (q_si τ1 (q_rf X a 20) (x + 1).toNatClampNeg y)]
    rcases o with ⟨q1, I2, fr2, g2⟩ | ⟨q1, F1, fr1⟩
    · rw [if_neg q1, q_letE (F_X5_set X σ1 (q_rf X (q_rf X R 8) 5) v z)]
      obtain ⟨z3, σ3, e3, fr3, o⟩ := op_cmp Y D ha G I2 hv hl hx hW ht r1
      rw [e3]
      have k2 := I2.2.2.1.b
      refine ⟨z3, σ3, rfl, fr2.tr fr3, ?_⟩
      rcases o with ⟨o1, ⟨U', c', I', p1, p2, p3, p4, p5, p6, p7⟩, o3⟩ | o
      · refine Or.inl ⟨o1, ⟨U', c', I', ?_, ?_⟩, by omega⟩
        · refine rd_1.tr ⟨fun id i h => ?_, fun j h => ?_⟩ p1
          · rw [y_up_ne (by omega)]
          · rw [m_up_ne (by omega)]
        · have f6 : c' (W + 6) = t.toInt := by rw [p5, m_up_ne (by omega)]; exact hc6
          have fU : U' 1 l = 5 + t.toInt := by rw [p2, y_up_ne (Or.inl (by decide))]; exact hU
          have f3 : U' 3 l = c' (W + 1) := by rw [p3, p4, y_up_eq, m_up_eq]
          by_cases qt : t.toInt = 0
          · exact Or.inl ⟨by omega, by omega, f3, p6, p7⟩
          · exact Or.inr (Or.inr (Or.inl ⟨by omega, by omega, f3, p6, p7⟩))
      · exact Or.inr o
    · have j50 : F_X12_readTest_J50_2 X a t x (q_si τ1 (q_rf X a 20) (x + 1).toNatClampNeg y) = q_si τ1 (q_rf X a 20) (x + 1).toNatClampNeg y := by
        unfold F_X12_readTest_J50_2
        rw [q_letE, if_pos F1.2.1]
      rw [if_pos q1, j50]
      exact ⟨0, σ1, rfl, fr1, Or.inr ⟨rfl, F1⟩⟩
/-- a when: its test, a name, a comparison -/
theorem op_when (Y : y_S X lb) (D : rd_D X lb R T) (ha : q_kd X a = 12) (G : y_G X lb g 1) (I : rd_I X R T a g n B Vg w σ τ U dp c s) (hP6 : 0 ≤ c 2 ∧ c 2 ≤ 6) (hP : Vg 1 4 = c 2) (N : y_nm Vg w 0 (c 2)) {v x : Int32} (hv : v.toInt = l) (hl : 0 ≤ l ∧ l < 60) (hx : x.toInt = W) (hW : 3720 ≤ W ∧ W ≤ 5000) (hk : c W = 3) (hU : U 1 l = 8) :
    ∃ (z : Int32) (σ' : ST), q_bi (F_X4_readTest X σ R v) (fun r1 σ1 => if r1.toInt = 0 then ((0 : Int32), σ1) else F_X4_readOperands X σ1 R v (q_rf X g 0)) = (z, σ') ∧ rd_O X R T a g n B Vg w dp s σ τ z σ' (F_X12_readRest X τ a x) (fun U' c' => rd_1 U U' c c' l W ∧ rd_w U' c' l W) := by
  have I0 := I
  obtain ⟨S, M, K, h0, hV⟩ := I
  have six : (6 : Int32).toInt = 6 := rfl
  have n1 : ((rdN 1 : Nat) : Int) = 60 := rfl
  have kb := K.b
  have i6 : (x + 6).toInt = W + 6 := by rw [ar_add, hx, six, ar_wr (by omega) (by omega)]
  have f1 : (τ.1 (q_rf X a 20) x.toNatClampNeg).toInt = 3 := (gm_cell M.2.1 hx).trans hk
  have hT := Y.1
  have tw := tm_testWord (X := X) (σ := τ) (a := a)
  have c18 : y_cw 18 = 3197075 := rfl
  have c19 : y_cw 19 = 267312 := rfl
  have c20 : y_cw 20 = 20201198 := rfl
  have c21 : y_cw 21 = 24046 := rfl
  rw [← c18, ← c19, ← c20, ← c21] at tw
  have iw : ∀ rr : Nat, y_isw rr → (F_X3_isWord X σ R rr).toInt = if (τ.1 a 14).toInt = 1 ∧ (τ.2.1 a 19).toInt = y_cw rr then 1 else 0 := fun rr hr => tl_isWord S.1 K hr
  have ref : F_X12_readRest X τ a x = F_X12_readTest X τ a x := by
    unfold F_X12_readRest
    rw [q_letE (τ.1 (q_rf X a 20) x.toNatClampNeg), f1, if_neg (by decide : ¬ (3 : Int) = 1), if_neg (by decide : ¬ (3 : Int) = 2), if_pos rfl, q_letE]
  rw [ref]
  unfold F_X12_readTest
  rw [q_letE (F_X12_testWord X τ a)]
  obtain ⟨t, ht⟩ : ∃ t, t = F_X12_testWord X τ a := ⟨_, rfl⟩
  rw [← ht] at tw ⊢
  -- the class's word of test k, the action put down
  have good : ∀ (k A : Int32), t.toInt = k.toInt → 0 ≤ k.toInt → k.toInt ≤ 2 → A.toInt = 5 + k.toInt → ∃ (z : Int32) (σ' : ST), F_X4_readOperands X (F_X3_advance X (F_X5_set X σ (q_rf X (q_rf X R 8) 3) v A) R) R v (q_rf X g 0) = (z, σ') ∧ rd_O X R T a g n B Vg w dp s σ τ z σ' (if t.toInt < 0 then F_X12_readTest_J15_1 X τ a x t (0 : Int32) else F_X12_readTest_J15_1 X τ a x t (1 : Int32)) (fun U' c' => rd_1 U U' c c' l W ∧ rd_w U' c' l W) := by
    intro k A tk0 k0 k2 hA
    obtain ⟨S1, f1'⟩ := S.set Y D (id := 1) (r := q_rf X (q_rf X R 8) 3) ⟨by decide, by decide⟩ rfl hv A hl.1 (by rw [n1]; exact hl.2)
    have sc := rd_sameS (σ := σ) Y D (id := 1) (r := q_rf X (q_rf X R 8) 3) ⟨by decide, by decide⟩ rfl (x := v) A (by omega) (by rw [n1]; omega)
    have K1 := K.same sc (tl_same.rf (a := a) (τ := τ))
    have fr1 : rd_Fr X R a σ _ τ τ := rd_Fr.cl f1'
    obtain ⟨σ1, h1⟩ : ∃ t, t = F_X5_set X σ (q_rf X (q_rf X R 8) 3) v A := ⟨_, rfl⟩
    rw [← h1] at S1 f1' K1 fr1 ⊢
    obtain ⟨x1, x2, K2, g2⟩ := tl_adv2 S1.1 M.1 K1
    obtain ⟨S2, f2⟩ := S1.rd D x1.S2
    have M2 := M.rd hT ha x2.S2
    have fr2 := fr1.tr (rd_Fr.rd (τ := τ) hT ha D S1 x1.S2 x2.S2)
    have h02 : ((F_X12_next X τ a).1 a 12).toInt = 0 := by rw [tn_12 x2]; exact h0
    have mu := tm_must1 (X := X) (v := 1) h0 (by decide)
    obtain ⟨σ2, h2⟩ : ∃ t, t = F_X3_advance X σ1 R := ⟨_, rfl⟩
    obtain ⟨τ2, u2⟩ : ∃ t, t = F_X12_next X τ a := ⟨_, rfl⟩
    rw [← h2] at S2 f2 K2 fr2 ⊢
    rw [← u2] at M2 K2 fr2 h02 g2 mu
    obtain ⟨M3, sm3⟩ := M2.cw hT ha (i := x + 6) (v := t) i6 (by omega)
    have K3 := K2.same tl_sameC.rf sm3
    have fr3 := fr2.tr (rd_Fr.cw (τ := τ2) (v := t) hT ha (rd_F.rf (X := X) (R := R) (σ := σ2)) i6 (by omega))
    have V3 : y_v X g σ2 = Vg := by rw [fr2.1.v Y D G (by decide), hV]
    obtain ⟨τ3, u3⟩ : ∃ t', t' = q_si τ2 (q_rf X a 20) (x + 6).toNatClampNeg t := ⟨_, rfl⟩
    rw [← u3] at M3 sm3 K3 fr3
    have h03 : (τ3.1 a 12).toInt = 0 := by rw [sm3.1 12 (by decide) (by decide)]; exact h02
    rw [hA] at S2
    obtain ⟨z, σ', e, fr4, o⟩ := op_tail Y D ha G (v := v) (x := x) (t := t) ⟨S2, M3, K3, h03, V3⟩ (by rw [m_up_ne (by omega)]; exact hP6) (by rw [m_up_ne (by omega)]; exact hP) (by rw [m_up_ne (by omega)]; exact N) hv hl hx hW (by omega) (by rw [y_up_eq]; omega) (m_up_eq _ _ _)
    have rj : (if t.toInt < 0 then F_X12_readTest_J15_1 X τ a x t (0 : Int32) else F_X12_readTest_J15_1 X τ a x t (1 : Int32)) = (if t.toInt = 1 then F_X12_readTest_J50_2 X a t x τ3 else q_let (x + (1 : Int32) : Int32) (fun z_164 => q_bi (F_X12_readTold X τ3 a (0 : Int32)) (fun r_166 σ_167 => q_let (q_si σ_167 (q_rf X a 20) z_164.toNatClampNeg r_166 : ST) (fun σ_168 => F_X12_readTest_J50_2 X a t x σ_168)))) := by
      rw [if_neg (by omega)]
      unfold F_X12_readTest_J15_1
      rw [mu, q_letE τ2, q_letE (x + 6), q_letE (q_si τ2 (q_rf X a 20) (x + 6).toNatClampNeg t), ← u3]
      by_cases q0 : t.toInt = 0
      · rw [if_pos q0, if_neg (by omega)]
      · rw [if_neg q0]
        by_cases q2 : t.toInt = 2
        · rw [if_pos q2, if_neg (by omega)]
        · rw [if_neg q2, if_pos (by omega)]
    have k3b := K3.b
    have e15 : τ3.1 a 15 = τ2.1 a 15 := sm3.1 15 (by decide) (by decide)
    rw [rj]
    refine ⟨z, σ', e, fr3.tr fr4, ?_⟩
    rcases o with ⟨o1, ⟨U', c', I', p1, p2⟩, o3⟩ | o
    · refine Or.inl ⟨o1, ⟨U', c', I', rd_1.tr ⟨fun id i h => ?_, fun j h => ?_⟩ p1, p2⟩, by rw [e15] at o3; omega⟩
      · rw [y_up_ne (by omega)]
      · rw [m_up_ne (by omega)]
    · exact Or.inr o
  unfold F_X4_readTest
  rw [q_letE (F_X3_isWord X σ R 18), iw 18 ⟨by decide, by decide⟩]
  by_cases w18 : (τ.1 a 14).toInt = 1 ∧ (τ.2.1 a 19).toInt = y_cw 18
  · rw [if_pos w18] at tw
    rw [if_pos w18, if_neg (by decide : ¬ (1 : Int) = 0), q_letE (F_X5_set X σ (q_rf X (q_rf X R 8) 3) v 5), q_letE (F_X3_advance X (F_X5_set X σ (q_rf X (q_rf X R 8) 3) v 5) R), q_biP 1, if_neg (by decide : ¬ (1 : Int32).toInt = 0)]
    exact good 0 5 tw (by decide) (by decide) rfl
  rw [if_neg w18] at tw
  rw [if_neg w18, if_pos rfl, q_letE (F_X3_isWord X σ R 19), iw 19 ⟨by decide, by decide⟩]
  by_cases w19 : (τ.1 a 14).toInt = 1 ∧ (τ.2.1 a 19).toInt = y_cw 19
  · rw [if_pos w19] at tw
    rw [if_pos w19, if_neg (by decide : ¬ (1 : Int) = 0), q_letE (F_X5_set X σ (q_rf X (q_rf X R 8) 3) v 6), q_letE (F_X3_advance X (F_X5_set X σ (q_rf X (q_rf X R 8) 3) v 6) R), q_biP 1, if_neg (by decide : ¬ (1 : Int32).toInt = 0)]
    exact good 1 6 tw (by decide) (by decide) rfl
  rw [if_neg w19] at tw
  rw [if_neg w19, if_pos rfl, q_letE (F_X3_isWord X σ R 20), iw 20 ⟨by decide, by decide⟩]
  by_cases w20 : (τ.1 a 14).toInt = 1 ∧ (τ.2.1 a 19).toInt = y_cw 20
  · rw [if_pos w20] at tw
    rw [if_pos w20, if_neg (by decide : ¬ (1 : Int) = 0), q_letE (F_X5_set X σ (q_rf X (q_rf X R 8) 3) v 7), q_letE (F_X3_advance X (F_X5_set X σ (q_rf X (q_rf X R 8) 3) v 7) R), q_biP 1, if_neg (by decide : ¬ (1 : Int32).toInt = 0)]
    exact good 2 7 tw (by decide) (by decide) rfl
  rw [if_neg w20] at tw
  rw [if_neg w20, if_pos rfl, q_letE (F_X3_isWord X σ R 21), iw 21 ⟨by decide, by decide⟩]
  by_cases w21 : (τ.1 a 14).toInt = 1 ∧ (τ.2.1 a 19).toInt = y_cw 21
  · rw [if_pos w21] at tw
    rw [if_pos w21, if_neg (by decide : ¬ (1 : Int) = 0), q_letE (F_X3_advance X σ R), q_biP 1, if_neg (by decide : ¬ (1 : Int32).toInt = 0)]
    obtain ⟨x1, x2, K2, g2⟩ := tl_adv2 S.1 M.1 K
    obtain ⟨S2, f2⟩ := S.rd D x1.S2
    have M2 := M.rd hT ha x2.S2
    have fr2 := rd_Fr.rd (τ := τ) hT ha D S x1.S2 x2.S2
    have h02 : ((F_X12_next X τ a).1 a 12).toInt = 0 := by rw [tn_12 x2]; exact h0
    have mu := tm_must1 (X := X) (v := 1) h0 (by decide)
    obtain ⟨σ2, h2⟩ : ∃ t, t = F_X3_advance X σ R := ⟨_, rfl⟩
    obtain ⟨τ2, u2⟩ : ∃ t, t = F_X12_next X τ a := ⟨_, rfl⟩
    rw [← h2] at S2 f2 K2 fr2 ⊢
    rw [← u2] at M2 K2 fr2 h02 g2 mu
    obtain ⟨M3, sm3⟩ := M2.cw hT ha (i := x + 6) (v := t) i6 (by omega)
    have K3 := K2.same tl_sameC.rf sm3
    have fr3 := fr2.tr (rd_Fr.cw (τ := τ2) (v := t) hT ha (rd_F.rf (X := X) (R := R) (σ := σ2)) i6 (by omega))
    have V3 : y_v X g σ2 = Vg := by rw [fr2.1.v Y D G (by decide), hV]
    have h03 : ((q_si τ2 (q_rf X a 20) (x + 6).toNatClampNeg t).1 a 12).toInt = 0 := by rw [sm3.1 12 (by decide) (by decide)]; exact h02
    have rj : (if t.toInt < 0 then F_X12_readTest_J15_1 X τ a x t (0 : Int32) else F_X12_readTest_J15_1 X τ a x t (1 : Int32)) = q_si τ2 (q_rf X a 20) (x + 6).toNatClampNeg t := by
      rw [if_neg (by omega)]
      unfold F_X12_readTest_J15_1
      rw [mu, q_letE τ2, q_letE (x + 6), q_letE (q_si τ2 (q_rf X a 20) (x + 6).toNatClampNeg t), if_neg (by omega), if_neg (by omega)]
      unfold F_X12_readTest_J50_2
      rw [q_letE, h03, if_neg (by decide : ¬ (0 : Int) < 0), if_pos tw]
    have r1 : (F_X5_get X σ2 (q_rf X (q_rf X R 8) 3) v).toInt = 8 := (S2.get Y D (id := 1) (r := q_rf X (q_rf X R 8) 3) ⟨by decide, by decide⟩ rfl hv hl.1 (by rw [n1]; exact hl.2)).trans hU
    obtain ⟨r, hr⟩ : ∃ r, r = F_X5_get X σ2 (q_rf X (q_rf X R 8) 3) v := ⟨_, rfl⟩
    rw [← hr] at r1
    have hh : (F_X8_hasComparison X σ2 r).toInt = 0 := by
      unfold F_X8_hasComparison F_X8_isWhen
      have e8 : (8 : Int32).toInt = 8 := rfl
      rw [r1, if_neg (by decide), if_neg (by decide), q_letE, if_neg (by decide), if_pos rfl]
      rfl
    have hi : F_X8_highest X σ2 r = -1 := by
      unfold F_X8_highest
      rw [r1]
      rfl
    rw [rj]
    unfold F_X4_readOperands
    rw [q_letE (F_X5_get X σ2 (q_rf X (q_rf X R 8) 3) v), ← hr, q_letE (F_X8_hasName X σ2 r), hn_0 r r1 σ2 (by decide), if_pos rfl]
    unfold F_X4_readOperands_J47_1
    rw [q_letE (F_X8_hasComparison X σ2 r), hh, if_pos rfl, q_letE (F_X8_highest X σ2 r), hi, if_pos (by decide : (-1 : Int32).toInt = -1)]
    have e15 : (q_si τ2 (q_rf X a 20) (x + 6).toNatClampNeg t).1 a 15 = τ2.1 a 15 := sm3.1 15 (by decide) (by decide)
    refine ⟨1, σ2, rfl, fr3, Or.inl ⟨rfl, ⟨U, _, ⟨S2, M3, K3, h03, V3⟩, ⟨fun _ _ _ => rfl, fun j h => m_up_ne (by omega)⟩, Or.inr (Or.inr (Or.inr ⟨?_, hU⟩))⟩, by rw [e15]; omega⟩⟩
    rw [m_up_eq]
    exact tw
  · rw [if_neg w21] at tw
    obtain ⟨σ', y1, y2, y3, y4⟩ := tl_wrong (X := X) K h0
    have fr2 := rd_Fr.rd (τ := τ) hT ha D S y2 y3
    rw [if_neg w21, if_pos rfl, y1, q_biP 0 σ', q_biP 0 σ', if_pos (by decide : (0 : Int32).toInt = 0)]
    have mu := tm_must0 (X := X) (v := 0) h0 rfl
    have rj : (if t.toInt < 0 then F_X12_readTest_J15_1 X τ a x t (0 : Int32) else F_X12_readTest_J15_1 X τ a x t (1 : Int32)) = q_si (F_X12_wrong X τ a) (q_rf X a 20) (x + 6).toNatClampNeg t := by
      rw [if_pos (by omega)]
      unfold F_X12_readTest_J15_1
      rw [mu, q_letE (F_X12_wrong X τ a), q_letE (x + 6), q_letE (q_si (F_X12_wrong X τ a) (q_rf X a 20) (x + 6).toNatClampNeg t), if_neg (by omega), if_neg (by omega)]
      unfold F_X12_readTest_J50_2
      rw [q_letE, if_pos (y4.tab hT ha (x + 6).toNatClampNeg t).2.1]
    rw [rj]
    exact ⟨0, σ', rfl, fr2.tr (rd_Fr.cw hT ha rd_F.rf i6 (by omega)), Or.inr ⟨rfl, y4.tab hT ha _ _⟩⟩
end RU

/-! FROM 49v.head.lean.txt -/
/-! A ROUND BEING READ: a step up to its semicolon -/
def uV (U : Nat → Int → Int) : Nat → Int → Int := fun id i => U (id - 17) i
def uc (c : Int → Int) : Int → Int := fun j => c (3720 + j)
/-- the reference, from a step's word to behind its semicolon -/
noncomputable def hd_M (X : XW) (a : Nat) (r : Int32) (τ : ST) : ST := F_X12_must X (F_X12_readRest X (q_si (F_X12_next X (q_si τ a 27 (τ.1 a 27 + 1)) a) (q_rf X a 20) ((4376 : Int32) + 9 * τ.1 a 27).toNatClampNeg r) a ((4376 : Int32) + 9 * τ.1 a 27)) a (F_X12_isSign X (F_X12_readRest X (q_si (F_X12_next X (q_si τ a 27 (τ.1 a 27 + 1)) a) (q_rf X a 20) ((4376 : Int32) + 9 * τ.1 a 27).toNatClampNeg r) a ((4376 : Int32) + 9 * τ.1 a 27)) a 59)
theorem ot_eq {A : Int32 × ST} {O : ST → Int32 × ST} {K : Int32 → ST → Int32 × ST} (hK : ∀ (z : Int32) (σ : ST), z.toInt = 0 → K z σ = (0, σ)) : q_bi A (fun r σ => if r.toInt = 0 then ((0 : Int32), σ) else q_bi (O σ) K) = q_bi (q_bi A (fun r σ => if r.toInt = 0 then ((0 : Int32), σ) else O σ)) K := by
  obtain ⟨r, σ⟩ := A
  rw [q_biP r σ, q_biP r σ]
  by_cases q : r.toInt = 0
  · rw [if_pos q, if_pos q, q_biP 0 σ, hK 0 σ rfl]
  · rw [if_neg q, if_neg q]
section RH
variable {X : XW} {lb : Nat → Nat} {R T a g : Nat} {σ τ σ' τ' : ST} {n dp s L : Int} {B c w : Int → Int} {U Vg : Nat → Int → Int}
/-- a line more in the script -/
theorem op_add (Y : y_S X lb) (D : rd_D X lb R T) (S : rd_S X R T σ n B U dp) (hL : U 0 2 = L) (hl : 0 ≤ L ∧ L < 60) (r : Int32) : ∃ (z : Int32) (σ' : ST), F_X8_add X σ (q_rf X R 8) r = (z, σ') ∧ z.toInt = L ∧ rd_S X R T σ' n B (y_up (y_up U 1 L r.toInt) 0 2 (L + 1)) dp ∧ rd_F X R σ σ' ∧ tl_sameC R σ σ' := by
  have one : (1 : Int32).toInt = 1 := rfl
  have n1 : ((rdN 1 : Nat) : Int) = 60 := rfl
  have f1 : (σ.1 (q_rf X R 8) 2).toInt = L := by
    have z := rv_n (X := X) (R := R) (σ := σ) (id := 0) (by decide) 2
    rw [S.2.1] at z
    exact z.trans hL
  unfold F_X8_add
  rw [q_letE (σ.1 (q_rf X R 8) 2)]
  obtain ⟨u, hu⟩ : ∃ u, u = σ.1 (q_rf X R 8) 2 := ⟨_, rfl⟩
  rw [← hu] at f1 ⊢
  obtain ⟨S1, x1⟩ := S.set Y D (id := 1) (r := q_rf X (q_rf X R 8) 3) ⟨by decide, by decide⟩ rfl f1 r hl.1 (by rw [n1]; exact hl.2)
  have sc1 := rd_sameS (σ := σ) Y D (id := 1) (r := q_rf X (q_rf X R 8) 3) ⟨by decide, by decide⟩ rfl (x := u) r (by omega) (by rw [n1]; omega)
  rw [q_letE (F_X5_set X σ (q_rf X (q_rf X R 8) 3) u r)]
  obtain ⟨σ1, h1⟩ : ∃ t, t = F_X5_set X σ (q_rf X (q_rf X R 8) 3) u r := ⟨_, rfl⟩
  rw [← h1] at S1 x1 sc1 ⊢
  have f4 : (σ1.1 (q_rf X R 8) 2).toInt = L := by
    have z := rv_n (X := X) (R := R) (σ := σ1) (id := 0) (by decide) 2
    rw [S1.2.1, y_up_ne (Or.inl (by decide))] at z
    exact z.trans hL
  rw [q_letE (σ1.1 (q_rf X R 8) 2)]
  obtain ⟨u4, hu4⟩ : ∃ u, u = σ1.1 (q_rf X R 8) 2 + 1 := ⟨_, rfl⟩
  have uv : u4.toInt = L + 1 := by rw [hu4, ar_add, f4, one, ar_wr (by omega) (by omega)]
  rw [← hu4, q_letE u4, q_letE (q_si σ1 (q_rf X R 8) 2 u4), q_letE ((q_si σ1 (q_rf X R 8) 2 u4).1 (q_rf X R 8) 2), si_eq, q_letE (u4 - 1)]
  obtain ⟨S2, x2⟩ := S1.cell D (id := 0) (by decide) 2 u4
  rw [uv] at S2
  have sc2 := rd_same (σ := σ1) D (id := 0) (by decide) 2 u4
  refine ⟨u4 - 1, _, rfl, by rw [ar_sub, uv, one, ar_wr (by omega) (by omega)]; omega, S2, x1.tr x2, fun f a1 a2 => (sc2 f a1 a2).trans (sc1 f a1 a2)⟩
/-- which actions go with which kinds -/
def rd_k (k A : Int) : Prop := k = 0 ∧ A = 0 ∨ k = 1 ∧ A = 1 ∨ k = 2 ∧ A = 2 ∨ k = 5 ∧ A = 3 ∨ k = 4 ∧ A = 4 ∨ k = 3 ∧ A = 8
theorem op_any (Y : y_S X lb) (D : rd_D X lb R T) (ha : q_kd X a = 12) (G : y_G X lb g 1) (I : rd_I X R T a g n B Vg w σ τ U dp c s) (hP6 : 0 ≤ c 2 ∧ c 2 ≤ 6) (hP : Vg 1 4 = c 2) (N : y_nm Vg w 0 (c 2)) {v x r : Int32} {j A : Int} (hv : v.toInt = L) (hl : 0 ≤ L ∧ L < 60) (hj : 0 ≤ j ∧ j < 30) (hx : x.toInt = 4376 + 9 * j) (hA : r.toInt = A) (hk : rd_k (c (4376 + 9 * j)) A) (hU : U 1 L = A) :
    ∃ (z : Int32) (σ' : ST), (if (F_X8_isWhen X σ r).toInt = 0 then F_X4_readOperands X σ R v (q_rf X g 0) else q_bi (F_X4_readTest X σ R v) (fun r1 σ1 => if r1.toInt = 0 then ((0 : Int32), σ1) else F_X4_readOperands X σ1 R v (q_rf X g 0))) = (z, σ') ∧ rd_O X R T a g n B Vg w dp s σ τ z σ' (F_X12_readRest X τ a x) (fun U' c' => rd_1 U U' c c' L (4376 + 9 * j) ∧ st_l (uV U') (uc c') j L) := by
  have e0 : (3720 : Int) + (656 + 9 * j) = 4376 + 9 * j := by omega
  have e1 : (3720 : Int) + (656 + 9 * j + 1) = 4376 + 9 * j + 1 := by omega
  have e2 : (3720 : Int) + (656 + 9 * j + 2) = 4376 + 9 * j + 2 := by omega
  have e6 : (3720 : Int) + (656 + 9 * j + 6) = 4376 + 9 * j + 6 := by omega
  have e7 : (3720 : Int) + (656 + 9 * j + 7) = 4376 + 9 * j + 7 := by omega
  have e8_ : (8 : Int32).toInt = 8 := rfl
  obtain ⟨W, hWe⟩ : ∃ W, W = 4376 + 9 * j := ⟨_, rfl⟩
  have hW : 3720 ≤ W ∧ W ≤ 5000 := by omega
  have st : ∀ (U' : Nat → Int → Int) (c' : Int → Int), st_l (uV U') (uc c') j L ↔ ((c' W = 0 ∧ U' 1 L = 0) ∨ (c' W = 1 ∧ U' 1 L = 1 ∧ U' 3 L = c' (W + 1) ∧ U' 5 L = c' (W + 2)) ∨ (c' W = 2 ∧ U' 1 L = 2 ∧ U' 3 L = c' (W + 1) ∧ U' 5 L = c' (W + 2)) ∨ (c' W = 5 ∧ U' 1 L = 3) ∨ (c' W = 4 ∧ U' 1 L = 4 ∧ U' 5 L = c' (W + 1) ∧ 1 ≤ c' (W + 1) ∧ c' (W + 1) ≤ 99) ∨ (c' W = 3 ∧ c' (W + 6) = 0 ∧ U' 1 L = 5 ∧ U' 3 L = c' (W + 1) ∧ U' 4 L = c' (W + 7) ∧ U' 5 L = c' (W + 2)) ∨ (c' W = 3 ∧ c' (W + 6) = 1 ∧ U' 1 L = 6 ∧ U' 4 L = c' (W + 7) ∧ U' 5 L = c' (W + 2)) ∨ (c' W = 3 ∧ c' (W + 6) = 2 ∧ U' 1 L = 7 ∧ U' 3 L = c' (W + 1) ∧ U' 4 L = c' (W + 7) ∧ U' 5 L = c' (W + 2)) ∨ (c' W = 3 ∧ c' (W + 6) = 3 ∧ U' 1 L = 8)) := by
    intro U' c'
    unfold st_l uV uc
    rw [e0, e1, e2, e6, e7, ← hWe]
  rw [← hWe] at hx hk ⊢
  have wn : A ≠ 8 → (F_X8_isWhen X σ r).toInt = 0 := fun h => by
    unfold F_X8_isWhen
    rw [hA, if_pos (by unfold rd_k at hk; omega)]
    rfl
  rcases hk with ⟨k1, k2⟩ | ⟨k1, k2⟩ | ⟨k1, k2⟩ | ⟨k1, k2⟩ | ⟨k1, k2⟩ | ⟨k1, k2⟩
  · rw [if_pos (wn (by omega))]
    obtain ⟨z, σ', e, fr, o⟩ := op_none (g := g) Y D I hv hl hx (Or.inl ⟨k1, by omega⟩)
    refine ⟨z, σ', e, fr, ?_⟩
    rcases o with ⟨o1, ⟨U', c', I', p1, p2⟩, o3⟩ | o
    · have cw := p1.2 W (Or.inl (Int.le_refl _))
      exact Or.inl ⟨o1, ⟨U', c', I', p1, (st U' c').mpr (Or.inl ⟨by omega, by omega⟩)⟩, o3⟩
    · exact Or.inr o
  · rw [if_pos (wn (by omega))]
    obtain ⟨z, σ', e, fr, o⟩ := op_bends Y D ha G I hP6 hP N hv hl hx hW (Or.inl k1) (by omega)
    refine ⟨z, σ', e, fr, ?_⟩
    rcases o with ⟨o1, ⟨U', c', I', p1, p2, p3, p4⟩, o3⟩ | o
    · have cw := p1.2 W (Or.inl (Int.le_refl _))
      exact Or.inl ⟨o1, ⟨U', c', I', p1, (st U' c').mpr (Or.inr (Or.inl ⟨by omega, by omega, p3, p4⟩))⟩, o3⟩
    · exact Or.inr o
  · rw [if_pos (wn (by omega))]
    obtain ⟨z, σ', e, fr, o⟩ := op_bends Y D ha G I hP6 hP N hv hl hx hW (Or.inr k1) (by omega)
    refine ⟨z, σ', e, fr, ?_⟩
    rcases o with ⟨o1, ⟨U', c', I', p1, p2, p3, p4⟩, o3⟩ | o
    · have cw := p1.2 W (Or.inl (Int.le_refl _))
      exact Or.inl ⟨o1, ⟨U', c', I', p1, (st U' c').mpr (Or.inr (Or.inr (Or.inl ⟨by omega, by omega, p3, p4⟩)))⟩, o3⟩
    · exact Or.inr o
  · rw [if_pos (wn (by omega))]
    obtain ⟨z, σ', e, fr, o⟩ := op_none (g := g) Y D I hv hl hx (Or.inr ⟨k1, by omega⟩)
    refine ⟨z, σ', e, fr, ?_⟩
    rcases o with ⟨o1, ⟨U', c', I', p1, p2⟩, o3⟩ | o
    · have cw := p1.2 W (Or.inl (Int.le_refl _))
      exact Or.inl ⟨o1, ⟨U', c', I', p1, (st U' c').mpr (Or.inr (Or.inr (Or.inr (Or.inl ⟨by omega, by omega⟩))))⟩, o3⟩
    · exact Or.inr o
  · rw [if_pos (wn (by omega))]
    obtain ⟨z, σ', e, fr, o⟩ := op_loop Y D ha G I hv hl hx hW k1 (by omega)
    refine ⟨z, σ', e, fr, ?_⟩
    rcases o with ⟨o1, ⟨U', c', I', p1, p2, p3, p4⟩, o3⟩ | o
    · have cw := p1.2 W (Or.inl (Int.le_refl _))
      exact Or.inl ⟨o1, ⟨U', c', I', p1, (st U' c').mpr (Or.inr (Or.inr (Or.inr (Or.inr (Or.inl ⟨by omega, by omega, p3, p4⟩)))))⟩, o3⟩
    · exact Or.inr o
  · have wy : ¬ (F_X8_isWhen X σ r).toInt = 0 := by
      unfold F_X8_isWhen
      rw [hA, if_neg (by omega), if_neg (by omega)]
      decide
    rw [if_neg wy]
    obtain ⟨z, σ', e, fr, o⟩ := op_when Y D ha G I hP6 hP N hv hl hx hW k1 (by omega)
    refine ⟨z, σ', e, fr, ?_⟩
    rcases o with ⟨o1, ⟨U', c', I', p1, p2⟩, o3⟩ | o
    · have cw := p1.2 W (Or.inl (Int.le_refl _))
      refine Or.inl ⟨o1, ⟨U', c', I', p1, (st U' c').mpr ?_⟩, o3⟩
      rcases p2 with ⟨y1, y2, y3, y4, y5⟩ | ⟨y1, y2, y3, y4⟩ | ⟨y1, y2, y3, y4, y5⟩ | ⟨y1, y2⟩
      · exact Or.inr (Or.inr (Or.inr (Or.inr (Or.inr (Or.inl ⟨by omega, y1, y2, y3, y4, y5⟩)))))
      · exact Or.inr (Or.inr (Or.inr (Or.inr (Or.inr (Or.inr (Or.inl ⟨by omega, y1, y2, y3, y4⟩))))))
      · exact Or.inr (Or.inr (Or.inr (Or.inr (Or.inr (Or.inr (Or.inr (Or.inl ⟨by omega, y1, y2, y3, y4, y5⟩)))))))
      · exact Or.inr (Or.inr (Or.inr (Or.inr (Or.inr (Or.inr (Or.inr (Or.inr ⟨by omega, y1, y2⟩)))))))
    · exact Or.inr o
end RH

/-! FROM 49w.step.lean.txt -/
/-! A ROUND BEING READ: a step's line -/
noncomputable def hd_K (X : XW) (R : Nat) : Int32 → ST → Int32 × ST := fun r_17 σ_18 => if r_17.toInt = 0 then ((0 : Int32), σ_18) else q_bi (F_X3_passSemicolon X σ_18 R) (fun r_20 σ_21 => if r_20.toInt = 0 then ((0 : Int32), σ_21) else ((1 : Int32), σ_21))
noncomputable def hd_C (X : XW) (R r1 : Nat) (z8 r : Int32) (σ3 : ST) : Int32 × ST := q_let (F_X3_advance X σ3 R : ST) (fun σ_13 => q_let (F_X8_isWhen X σ_13 r : Int32) (fun r_14 => if r_14.toInt = 0 then q_bi (F_X4_readOperands X σ_13 R z8 r1) (hd_K X R) else q_bi (F_X4_readTest X σ_13 R z8) (fun r_23 σ_24 => if r_23.toInt = 0 then ((0 : Int32), σ_24) else q_bi (F_X4_readOperands X σ_24 R z8 r1) (hd_K X R))))
theorem hd_K0 {X : XW} {R : Nat} (z : Int32) (σ : ST) (h : z.toInt = 0) : hd_K X R z σ = (0, σ) := if_pos h
/-- one line and one step are written anew -/
def rd_2 (U U' : Nat → Int → Int) (c c' : Int → Int) (l W : Int) : Prop := (∀ (id : Nat) (i : Int), id = 0 ∨ id = 2 ∨ id = 6 ∨ i ≠ l → U' id i = U id i) ∧ ∀ j : Int, j < W ∨ W + 8 ≤ j → c' j = c j
section RW
variable {X : XW} {lb : Nat → Nat} {R T a g : Nat} {σ τ σ' τ' : ST} {n dp s L : Int} {B c w : Int → Int} {U Vg : Nat → Int → Int}
/-- what a step's head leaves, k its kind -/
def hd_O (X : XW) (R T a g : Nat) (n : Int) (B : Int → Int) (Vg : Nat → Int → Int) (w : Int → Int) (dp s : Int) (U : Nat → Int → Int) (c : Int → Int) (L k : Int) (σ τ : ST) (z : Int32) (σ' τ' : ST) : Prop :=
  rd_Fr X R a σ σ' τ τ' ∧ ((z.toInt = 1 ∧ (∃ (U' : Nat → Int → Int) (c' : Int → Int), rd_I X R T a g n B Vg w σ' τ' U' dp c' (s + 1) ∧ rd_2 U U' c c' L (4376 + 9 * s) ∧ c' (4376 + 9 * s) = k ∧ st_l (uV U') (uc c') s L) ∧ (τ.1 a 15).toInt < (τ'.1 a 15).toInt) ∨ (z.toInt = 0 ∧ tl_F σ' R τ' a))
theorem rd_1w {U U1 U' : Nat → Int → Int} {c c' : Int → Int} {L W k : Int} (h : rd_1 U U' (m_up c W k) c' L W) : (∀ (id : Nat) (i : Int), id = 0 ∨ id = 2 ∨ id = 6 ∨ i ≠ L → U' id i = U id i) ∧ (∀ j : Int, j < W ∨ W + 8 ≤ j → c' j = c j) ∧ c' W = k := by
  refine ⟨h.1, fun j q => ?_, ?_⟩
  · rw [h.2 j (by omega), m_up_ne (by omega)]
  · rw [h.2 W (by omega), m_up_eq]
/-- both behind the semicolon -/
theorem op_rest (Y : y_S X lb) (D : rd_D X lb R T) (ha : q_kd X a = 12) (G : y_G X lb g 1) (I : rd_I X R T a g n B Vg w σ τ U dp c s) (hP6 : 0 ≤ c 2 ∧ c 2 ≤ 6) (hP : Vg 1 4 = c 2) (N : y_nm Vg w 0 (c 2)) {v r rk : Int32} {A k : Int} (hv : v.toInt = L) (hl : 0 ≤ L ∧ L < 60) (hs : 0 ≤ s ∧ s < 30) (ht : (τ.1 a 14).toInt ≠ 0) (hA : r.toInt = A) (hrk : rk.toInt = k) (hk : rd_k k A) (hU : U 1 L = A) :
    ∃ (z : Int32) (σ' : ST), hd_C X R (q_rf X g 0) v r σ = (z, σ') ∧ rd_Fr X R a σ σ' τ (hd_M X a rk τ) ∧ ((z.toInt = 1 ∧ (∃ (U' : Nat → Int → Int) (c' : Int → Int), rd_I X R T a g n B Vg w σ' (hd_M X a rk τ) U' dp c' (s + 1) ∧ rd_1 U U' (m_up c (4376 + 9 * s) k) c' L (4376 + 9 * s) ∧ st_l (uV U') (uc c') s L) ∧ (τ.1 a 15).toInt < ((hd_M X a rk τ).1 a 15).toInt) ∨ (z.toInt = 0 ∧ tl_F σ' R (hd_M X a rk τ) a)) := by
  obtain ⟨S, M, K, h0, hV⟩ := I
  have kb := K.b
  have hT := Y.1
  have one : (1 : Int32).toInt = 1 := rfl
  have e9 : (9 : Int32).toInt = 9 := rfl
  have eW : (4376 : Int32).toInt = 4376 := rfl
  have f27 : (τ.1 a 27).toInt = s := M.2.2.2.1
  have ns : (τ.1 a 27 + 1).toInt = s + 1 := by rw [ar_add, f27, one, ar_wr (by omega) (by omega)]
  have ix : ((4376 : Int32) + 9 * τ.1 a 27).toInt = 4376 + 9 * s := by
    rw [ar_add, ar_mul, f27, e9, eW, ar_wr (n := 9 * s) (by omega) (by omega), ar_wr (by omega) (by omega)]
  obtain ⟨M1, sm1⟩ := M.ns hT ha (τ.1 a 27 + 1)
  rw [ns] at M1
  have K1 := K.same tl_sameC.rf sm1
  have fr1 : rd_Fr X R a σ σ τ (q_si τ a 27 (τ.1 a 27 + 1)) := ⟨rd_F.rf, tkl.rf.si _ (Or.inr ⟨rfl, by decide, Or.inr rfl⟩), fun j _ _ => by rw [mv_cell hT ha]⟩
  unfold hd_M
  obtain ⟨x, hx⟩ : ∃ x, x = (4376 : Int32) + 9 * τ.1 a 27 := ⟨_, rfl⟩
  rw [← hx] at ix ⊢
  obtain ⟨τ1, u1⟩ : ∃ t, t = q_si τ a 27 (τ.1 a 27 + 1) := ⟨_, rfl⟩
  rw [← u1] at M1 sm1 K1 fr1 ⊢
  have e16 : τ1.1 a 16 = τ.1 a 16 := sm1.1 16 (by decide) (by decide)
  obtain ⟨x1, x2, K2, g2⟩ := tl_adv2 S.1 M1.1 K1
  obtain ⟨S2, f2⟩ := S.rd D x1.S2
  have M2 := M1.rd hT ha x2.S2
  have fr2 := fr1.tr (rd_Fr.rd (τ := τ1) hT ha D S x1.S2 x2.S2)
  have h02 : ((F_X12_next X τ1 a).1 a 12).toInt = 0 := by
    rw [tn_12 x2, sm1.1 12 (by decide) (by decide)]; exact h0
  obtain ⟨σ2, h2⟩ : ∃ t, t = F_X3_advance X σ R := ⟨_, rfl⟩
  obtain ⟨τ2, u2⟩ : ∃ t, t = F_X12_next X τ1 a := ⟨_, rfl⟩
  unfold hd_C
  rw [q_letE (F_X3_advance X σ R), ← h2, ← u2]
  rw [← h2] at S2 f2 K2 fr2
  rw [← u2] at M2 K2 fr2 h02 g2
  obtain ⟨M3, sm3⟩ := M2.cw hT ha (i := x) (v := rk) ix (by omega)
  rw [hrk] at M3
  have K3 := K2.same tl_sameC.rf sm3
  have fr3 := fr2.tr (rd_Fr.cw (τ := τ2) (v := rk) hT ha (rd_F.rf (X := X) (R := R) (σ := σ2)) ix (by omega))
  have V3 : y_v X g σ2 = Vg := by rw [fr2.1.v Y D G (by decide), hV]
  have e15 : (q_si τ2 (q_rf X a 20) x.toNatClampNeg rk).1 a 15 = τ2.1 a 15 := sm3.1 15 (by decide) (by decide)
  have h03 : ((q_si τ2 (q_rf X a 20) x.toNatClampNeg rk).1 a 12).toInt = 0 := by rw [sm3.1 12 (by decide) (by decide)]; exact h02
  obtain ⟨τ3, u3⟩ : ∃ t, t = q_si τ2 (q_rf X a 20) x.toNatClampNeg rk := ⟨_, rfl⟩
  rw [← u3] at M3 sm3 K3 fr3 e15 h03 ⊢
  obtain ⟨z4, σ4, e4, fr4, o⟩ := op_any Y D ha G (r := r) (v := v) (x := x) (A := A) (j := s) ⟨S2, M3, K3, h03, V3⟩ (by rw [m_up_ne (by omega)]; exact hP6) (by rw [m_up_ne (by omega)]; exact hP) (by rw [m_up_ne (by omega)]; exact N) hv hl hs ix hA (by rw [m_up_eq]; exact hk) hU
  have cls : (q_let (F_X8_isWhen X σ2 r : Int32) (fun r_14 => if r_14.toInt = 0 then q_bi (F_X4_readOperands X σ2 R v (q_rf X g 0)) (hd_K X R) else q_bi (F_X4_readTest X σ2 R v) (fun r_23 σ_24 => if r_23.toInt = 0 then ((0 : Int32), σ_24) else q_bi (F_X4_readOperands X σ_24 R v (q_rf X g 0)) (hd_K X R)))) = hd_K X R z4 σ4 := by
    rw [q_letE]
    by_cases q : (F_X8_isWhen X σ2 r).toInt = 0
    · rw [if_pos q] at e4
      rw [if_pos q, e4, q_biP z4 σ4]
    · rw [if_neg q] at e4
      rw [if_neg q, ot_eq hd_K0, e4, q_biP z4 σ4]
  rw [cls]
  obtain ⟨τ4, u4⟩ : ∃ t, t = F_X12_readRest X τ3 a x := ⟨_, rfl⟩
  rw [← u4] at fr4 o ⊢
  rcases o with ⟨o1, ⟨U', c', I', p1, p2⟩, o3⟩ | ⟨o1, o2⟩
  · obtain ⟨S5, M5, K5, h05, V5⟩ := I'
    obtain ⟨z6, σ6, e6, hz6, ⟨y1, y2, y3⟩⟩ := tl_passSemi S5.1 M5.1 K5 h05
    obtain ⟨S6, f6⟩ := S5.rd D y1
    have M6 := M5.rd hT ha y2
    have fr6 := (fr3.tr fr4).tr (rd_Fr.rd (τ := τ4) hT ha D S5 y1 y2)
    have V6 : y_v X g σ6 = Vg := by rw [fr6.1.v Y D G (by decide), hV]
    unfold hd_K
    rw [if_neg (by omega : ¬ z4.toInt = 0), e6, q_biP z6 σ6]
    have k5b := K5.b
    rcases y3 with ⟨q1, K7, h07, g7⟩ | ⟨q1, F7⟩
    · rw [if_neg (by omega : ¬ z6.toInt = 0)]
      refine ⟨1, σ6, rfl, fr6, Or.inl ⟨rfl, ⟨U', c', ⟨S6, M6, K7, h07, V6⟩, p1, p2⟩, ?_⟩⟩
      rw [e15] at o3
      rw [e16] at g2
      omega
    · rw [if_pos (by omega : z6.toInt = 0)]
      exact ⟨0, σ6, rfl, fr6, Or.inr ⟨rfl, F7⟩⟩
  · rw [hd_K0 z4 σ4 o1, tm_must2 o2.2.1]
    exact ⟨0, σ4, rfl, fr3.tr fr4, Or.inr ⟨rfl, o2⟩⟩
/-- the class's counts in the script's head -/
theorem op_cnt (Y : y_S X lb) (D : rd_D X lb R T) (S : rd_S X R T σ n B U dp) (h1 : U 0 1 = s) (hs : 0 ≤ s ∧ s < 30) : (σ.1 (q_rf X R 8) 1).toInt = s ∧ ∀ u : Int32, u.toInt = s + 1 → rd_S X R T (q_si σ (q_rf X R 8) 1 u) n B (y_up U 0 1 (s + 1)) dp ∧ rd_F X R σ (q_si σ (q_rf X R 8) 1 u) ∧ tl_sameC R σ (q_si σ (q_rf X R 8) 1 u) := by
  have z := rv_n (X := X) (R := R) (σ := σ) (id := 0) (by decide) 1
  rw [S.2.1] at z
  refine ⟨z.trans h1, fun u hu => ?_⟩
  obtain ⟨S2, x2⟩ := S.cell D (id := 0) (by decide) 1 u
  rw [hu] at S2
  exact ⟨S2, x2, rd_same D (id := 0) (by decide) 1 u⟩
/-- a step without a body -/
theorem op_flat (Y : y_S X lb) (D : rd_D X lb R T) (ha : q_kd X a = 12) (G : y_G X lb g 1) (I : rd_I X R T a g n B Vg w σ τ U dp c s) (hP6 : 0 ≤ c 2 ∧ c 2 ≤ 6) (hP : Vg 1 4 = c 2) (N : y_nm Vg w 0 (c 2)) {r rk x64 : Int32} {A k : Int} (hU1 : U 0 1 = s) (hL : U 0 2 = L) (hl : 0 ≤ L ∧ L < 60) (hs : 0 ≤ s ∧ s < 30) (ht : (τ.1 a 14).toInt ≠ 0) (hA : r.toInt = A) (hrk : rk.toInt = k) (hk : rd_k k A) (hx : x64.toInt = 0) :
    ∃ (z : Int32) (σ' : ST), F_X4_readStep_J72_4 X σ R r x64 (q_rf X g 0) = (z, σ') ∧ hd_O X R T a g n B Vg w dp s (y_up (y_up U 0 2 (L + 1)) 0 1 (s + 1)) c L k σ τ z σ' (hd_M X a rk τ) := by
  obtain ⟨S, M, K, h0, hV⟩ := I
  have one : (1 : Int32).toInt = 1 := rfl
  obtain ⟨z8, σ1, e1, hz8, S1, x1, sc1⟩ := op_add Y D S hL hl r
  obtain ⟨f8, cn⟩ := op_cnt (s := s) Y D S1 (by rw [y_up_ne (Or.inr (by decide)), y_up_ne (Or.inl (by decide))]; exact hU1) hs
  unfold F_X4_readStep_J72_4
  rw [e1, q_biP z8 σ1, q_letE (σ1.1 (q_rf X R 8) 1)]
  obtain ⟨u, hu⟩ : ∃ u, u = σ1.1 (q_rf X R 8) 1 + 1 := ⟨_, rfl⟩
  have uv : u.toInt = s + 1 := by rw [hu, ar_add, f8, one, ar_wr (by omega) (by omega)]
  obtain ⟨S2, x2, sc2⟩ := cn u uv
  rw [← hu, q_letE u, q_letE (q_si σ1 (q_rf X R 8) 1 u), if_pos hx]
  have fr := rd_Fr.cl (a := a) (τ := τ) (x1.tr x2)
  have V2 : y_v X g (q_si σ1 (q_rf X R 8) 1 u) = Vg := by rw [fr.1.v Y D G (by decide), hV]
  have K2 := K.same (fun f a1 a2 => (sc2 f a1 a2).trans (sc1 f a1 a2)) (tl_same.rf (a := a) (τ := τ))
  obtain ⟨z, σ', e, fr2, o⟩ := op_rest Y D ha G (v := z8) (r := r) (rk := rk) (A := A) (k := k) ⟨S2, M, K2, h0, V2⟩ hP6 hP N hz8 hl hs ht hA hrk hk (by rw [y_up_ne (Or.inl (by decide)), y_up_ne (Or.inl (by decide)), y_up_eq]; exact hA)
  refine ⟨z, σ', e, fr.tr fr2, ?_⟩
  rcases o with ⟨o1, ⟨U', c', I', p1, p2⟩, o3⟩ | o
  · obtain ⟨y1, y2, y3⟩ := rd_1w (U1 := U) p1
    refine Or.inl ⟨o1, ⟨U', c', I', ⟨fun id i h => ?_, y2⟩, y3, p2⟩, o3⟩
    · rw [y1 id i h]
      by_cases q0 : id = 0
      · subst q0
        by_cases q1 : i = 1
        · rw [q1, y_up_eq, y_up_eq]
        · rw [y_up_ne (Or.inr q1), y_up_ne (Or.inr q1)]
          by_cases q2 : i = 2
          · rw [q2, y_up_eq, y_up_eq]
          · rw [y_up_ne (Or.inr q2), y_up_ne (Or.inr q2), y_up_ne (Or.inl (by decide))]
      · rw [y_up_ne (Or.inl q0), y_up_ne (Or.inl q0), y_up_ne (Or.inl q0), y_up_ne (Or.inl q0), y_up_ne (by omega)]
  · exact Or.inr o
/-- a step with a body: the class remembers where it began -/
theorem op_block (Y : y_S X lb) (D : rd_D X lb R T) (ha : q_kd X a = 12) (G : y_G X lb g 1) (I : rd_I X R T a g n B Vg w σ τ U dp c s) (hP6 : 0 ≤ c 2 ∧ c 2 ≤ 6) (hP : Vg 1 4 = c 2) (N : y_nm Vg w 0 (c 2)) {r rk : Int32} {A k : Int} (hU1 : U 0 1 = s) (hL : U 0 2 = L) (hl : 0 ≤ L ∧ L < 60) (hs : 0 ≤ s ∧ s < 30) (hd : 0 ≤ dp ∧ dp < 3) (ht : (τ.1 a 14).toInt ≠ 0) (hA : r.toInt = A) (hrk : rk.toInt = k) (hk : rd_k k A) :
    ∃ (z : Int32) (σ' : ST), F_X4_readStep_J72_2 X σ R r (q_rf X g 0) = (z, σ') ∧ hd_O X R T a g n B Vg w (dp + 1) s (y_up (y_up (y_up U 0 2 (L + 1)) 0 1 (s + 1)) 6 dp L) c L k σ τ z σ' (hd_M X a rk τ) := by
  obtain ⟨S, M, K, h0, hV⟩ := I
  have one : (1 : Int32).toInt = 1 := rfl
  have n6 : ((rdN 6 : Nat) : Int) = 3 := rfl
  obtain ⟨z8, σ1, e1, hz8, S1, x1, sc1⟩ := op_add Y D S hL hl r
  obtain ⟨f8, cn⟩ := op_cnt (s := s) Y D S1 (by rw [y_up_ne (Or.inr (by decide)), y_up_ne (Or.inl (by decide))]; exact hU1) hs
  unfold F_X4_readStep_J72_2
  rw [e1, q_biP z8 σ1, q_letE (σ1.1 (q_rf X R 8) 1)]
  obtain ⟨u, hu⟩ : ∃ u, u = σ1.1 (q_rf X R 8) 1 + 1 := ⟨_, rfl⟩
  have uv : u.toInt = s + 1 := by rw [hu, ar_add, f8, one, ar_wr (by omega) (by omega)]
  obtain ⟨S2, x2, sc2⟩ := cn u uv
  rw [← hu, q_letE u, q_letE (q_si σ1 (q_rf X R 8) 1 u), if_neg (by decide : ¬ (1 : Int) = 0)]
  obtain ⟨σ2, h2⟩ : ∃ t, t = q_si σ1 (q_rf X R 8) 1 u := ⟨_, rfl⟩
  rw [← h2] at S2 x2 sc2 ⊢
  rw [q_letE (σ2.1 R 10)]
  have f10 : (σ2.1 R 10).toInt = dp := S2.2.2
  obtain ⟨S3, x3⟩ := S2.set Y D (id := 6) (r := q_rf X R 9) ⟨by decide, by decide⟩ rfl f10 z8 hd.1 (by rw [n6]; exact hd.2)
  have sc3 := rd_sameS (σ := σ2) Y D (id := 6) (r := q_rf X R 9) ⟨by decide, by decide⟩ rfl (x := σ2.1 R 10) z8 (by omega) (by rw [n6]; omega)
  rw [hz8] at S3
  rw [q_letE (F_X5_set X σ2 (q_rf X R 9) (σ2.1 R 10) z8)]
  obtain ⟨σ3, h3⟩ : ∃ t, t = F_X5_set X σ2 (q_rf X R 9) (σ2.1 R 10) z8 := ⟨_, rfl⟩
  rw [← h3] at S3 x3 sc3 ⊢
  obtain ⟨u4, hu4⟩ : ∃ u, u = σ3.1 R 10 + 1 := ⟨_, rfl⟩
  have uv4 : u4.toInt = dp + 1 := by rw [hu4, ar_add, S3.2.2, one, ar_wr (by omega) (by omega)]
  obtain ⟨S4, x4⟩ := S3.dep D u4
  rw [uv4] at S4
  have sc4 := rd_sameD (σ := σ3) (R := R) u4
  rw [q_letE (σ3.1 R 10), ← hu4, q_letE u4, q_letE (q_si σ3 R 10 u4)]
  have fr := rd_Fr.cl (a := a) (τ := τ) (((x1.tr x2).tr x3).tr x4)
  have V4 : y_v X g (q_si σ3 R 10 u4) = Vg := by rw [fr.1.v Y D G (by decide), hV]
  have K4 := K.same (fun f a1 a2 => (sc4 f a1 a2).trans ((sc3 f a1 a2).trans ((sc2 f a1 a2).trans (sc1 f a1 a2)))) (tl_same.rf (a := a) (τ := τ))
  obtain ⟨z, σ', e, fr2, o⟩ := op_rest Y D ha G (v := z8) (r := r) (rk := rk) (A := A) (k := k) ⟨S4, M, K4, h0, V4⟩ hP6 hP N hz8 hl hs ht hA hrk hk (by rw [y_up_ne (Or.inl (by decide)), y_up_ne (Or.inl (by decide)), y_up_ne (Or.inl (by decide)), y_up_eq]; exact hA)
  refine ⟨z, σ', e, fr.tr fr2, ?_⟩
  rcases o with ⟨o1, ⟨U', c', I', p1, p2⟩, o3⟩ | o
  · obtain ⟨y1, y2, y3⟩ := rd_1w (U1 := U) p1
    refine Or.inl ⟨o1, ⟨U', c', I', ⟨fun id i h => ?_, y2⟩, y3, p2⟩, o3⟩
    rw [y1 id i h]
    by_cases q6 : id = 6 ∧ i = dp
    · rw [q6.1, q6.2, y_up_eq, y_up_eq]
    · rw [y_up_ne (V := y_up (y_up (y_up U 1 L r.toInt) 0 2 (L + 1)) 0 1 (s + 1)) (id := 6) (i := dp) (by omega), y_up_ne (V := y_up (y_up U 0 2 (L + 1)) 0 1 (s + 1)) (id := 6) (i := dp) (by omega)]
      by_cases q0 : id = 0
      · subst q0
        by_cases q1 : i = 1
        · rw [q1, y_up_eq, y_up_eq]
        · rw [y_up_ne (Or.inr q1), y_up_ne (Or.inr q1)]
          by_cases q2 : i = 2
          · rw [q2, y_up_eq, y_up_eq]
          · rw [y_up_ne (Or.inr q2), y_up_ne (Or.inr q2), y_up_ne (Or.inl (by decide))]
      · rw [y_up_ne (Or.inl q0), y_up_ne (Or.inl q0), y_up_ne (Or.inl q0), y_up_ne (Or.inl q0), y_up_ne (by omega)]
  · exact Or.inr o
end RW

/-! FROM 49x.depths.lean.txt -/
/-! A ROUND BEING READ: the reference's step at each depth *d0* to *d3*, up to its body -/
section RX
variable {X : XW} {a : Nat} {τ : ST}
theorem rs_81_0 (r x3 v : Int32) (h : 0 < (τ.1 a 12).toInt) : F_X12_readStep_d0_J81_4 X a r x3 τ = τ := by
  unfold F_X12_readStep_d0_J81_4
  rw [q_letE, if_pos h]
theorem rs_55_0 (r x3 v : Int32) (h : 0 < (τ.1 a 12).toInt) : F_X12_readStep_d0_J55_3 X a x3 r v τ = τ := by
  unfold F_X12_readStep_d0_J55_3
  rw [q_letE, if_neg (by omega), rs_81_0 r x3 v h]
theorem rs_29_0 (r x3 v : Int32) (h : 0 < (τ.1 a 12).toInt) : F_X12_readStep_d0_J29_2 X a x3 r v τ = τ := by
  unfold F_X12_readStep_d0_J29_2
  rw [q_letE, if_neg (by omega), rs_55_0 r x3 v h]
theorem rs_d_0 (v : Int32) : F_X12_readStep_d0 X τ a v = F_X12_readStep_d0_J20_1 X (F_X12_stepWord X τ a) τ a v (if (F_X12_stepWord X τ a).toInt = 3 ∨ (F_X12_stepWord X τ a).toInt = 4 then 1 else 0) := by
  unfold F_X12_readStep_d0
  rw [q_letE]
  by_cases q3 : (F_X12_stepWord X τ a).toInt = 3
  · rw [if_pos q3, if_pos (Or.inl q3)]
  · rw [if_neg q3]
    by_cases q4 : (F_X12_stepWord X τ a).toInt = 4
    · rw [if_pos q4, if_pos (Or.inr q4)]
    · rw [if_neg q4, if_neg (fun z => z.elim q3 q4)]
theorem rs_a_0 (r x3 v : Int32) (hr : r.toInt < 0) (h : 0 < ((F_X12_wrong X τ a).1 a 12).toInt) : F_X12_readStep_d0_J20_1 X r τ a v x3 = F_X12_wrong X τ a := by
  unfold F_X12_readStep_d0_J20_1
  rw [if_pos hr, q_letE, rs_29_0 r x3 v h]
theorem rs_b_0 (r x3 v : Int32) (h0 : (τ.1 a 12).toInt = 0) (hr : ¬ r.toInt < 0) (hs : (τ.1 a 27).toInt = 30) (h : 0 < ((F_X12_fail X τ a 6 (τ.1 a 15)).1 a 12).toInt) : F_X12_readStep_d0_J20_1 X r τ a v x3 = F_X12_fail X τ a 6 (τ.1 a 15) := by
  unfold F_X12_readStep_d0_J20_1 F_X12_readStep_d0_J29_2
  rw [if_neg hr, q_letE (τ.1 a 12), h0, if_pos rfl, q_letE (τ.1 a 27), if_pos hs, q_letE (τ.1 a 15), q_letE, rs_55_0 r x3 v h]
theorem rs_c_0 (r x3 v : Int32) (h0 : (τ.1 a 12).toInt = 0) (hr : ¬ r.toInt < 0) (hs : ¬ (τ.1 a 27).toInt = 30) (hx : ¬ x3.toInt = 0) (hv : v.toInt = 3) (h : 0 < ((F_X12_fail X τ a 7 (τ.1 a 15)).1 a 12).toInt) : F_X12_readStep_d0_J20_1 X r τ a v x3 = F_X12_fail X τ a 7 (τ.1 a 15) := by
  unfold F_X12_readStep_d0_J20_1 F_X12_readStep_d0_J29_2 F_X12_readStep_d0_J55_3
  rw [if_neg hr, q_letE (τ.1 a 12), h0, if_pos rfl, q_letE (τ.1 a 27), if_neg hs, q_letE (τ.1 a 12), h0, if_pos rfl, if_neg hx, if_pos hv, q_letE (τ.1 a 15), q_letE, rs_81_0 r x3 v h]
theorem rs_e_0 (r x3 v : Int32) (h0 : (τ.1 a 12).toInt = 0) (hr : ¬ r.toInt < 0) (hs : ¬ (τ.1 a 27).toInt = 30) (hx : x3.toInt = 0 ∨ ¬ v.toInt = 3) : ∃ fu : Nat, ((901 - ((hd_M X a r τ).1 a 15).toInt).toNat + (1 - ((hd_M X a r τ).1 a 12).toInt).toNat) < fu ∧ F_X12_readStep_d0_J20_1 X r τ a v x3 = F_X12_readStep_d0_L140_5 X x3 ((4376 : Int32) + 9 * τ.1 a 27) a fu (hd_M X a r τ) := by
  refine ⟨(901 - ((hd_M X a r τ).1 a 15).toInt).toNat + (1 - ((hd_M X a r τ).1 a 12).toInt).toNat + 1, Nat.lt_succ_self _, ?_⟩
  have e : F_X12_readStep_d0_J81_4 X a r x3 τ = F_X12_readStep_d0_L140_5 X x3 ((4376 : Int32) + 9 * τ.1 a 27) a ((901 - ((hd_M X a r τ).1 a 15).toInt).toNat + (1 - ((hd_M X a r τ).1 a 12).toInt).toNat + 1) (hd_M X a r τ) := by
    unfold F_X12_readStep_d0_J81_4
    rw [q_letE (τ.1 a 12), h0, if_neg (by decide : ¬ (0 : Int) < 0), q_letE (τ.1 a 27), q_letE ((9 : Int32) * τ.1 a 27), q_letE ((4376 : Int32) + 9 * τ.1 a 27), q_letE (τ.1 a 27), q_letE (τ.1 a 27 + 1), q_letE, q_letE, q_letE, q_letE, q_letE, q_letE]
    rfl
  unfold F_X12_readStep_d0_J20_1 F_X12_readStep_d0_J29_2 F_X12_readStep_d0_J55_3
  rw [if_neg hr, q_letE (τ.1 a 12), h0, if_pos rfl, q_letE (τ.1 a 27), if_neg hs, q_letE (τ.1 a 12), h0, if_pos rfl]
  by_cases q : x3.toInt = 0
  · rw [if_pos q, e]
  · rw [if_neg q]
    rcases hx with hx | hx
    · exact absurd hx q
    · rw [if_neg hx, e]
theorem rs_81_1 (r x3 v : Int32) (h : 0 < (τ.1 a 12).toInt) : F_X12_readStep_d1_J81_4 X a r x3 v τ = τ := by
  unfold F_X12_readStep_d1_J81_4
  rw [q_letE, if_pos h]
theorem rs_55_1 (r x3 v : Int32) (h : 0 < (τ.1 a 12).toInt) : F_X12_readStep_d1_J55_3 X a x3 r v τ = τ := by
  unfold F_X12_readStep_d1_J55_3
  rw [q_letE, if_neg (by omega), rs_81_1 r x3 v h]
theorem rs_29_1 (r x3 v : Int32) (h : 0 < (τ.1 a 12).toInt) : F_X12_readStep_d1_J29_2 X a x3 r v τ = τ := by
  unfold F_X12_readStep_d1_J29_2
  rw [q_letE, if_neg (by omega), rs_55_1 r x3 v h]
theorem rs_d_1 (v : Int32) : F_X12_readStep_d1 X τ a v = F_X12_readStep_d1_J20_1 X (F_X12_stepWord X τ a) τ a v (if (F_X12_stepWord X τ a).toInt = 3 ∨ (F_X12_stepWord X τ a).toInt = 4 then 1 else 0) := by
  unfold F_X12_readStep_d1
  rw [q_letE]
  by_cases q3 : (F_X12_stepWord X τ a).toInt = 3
  · rw [if_pos q3, if_pos (Or.inl q3)]
  · rw [if_neg q3]
    by_cases q4 : (F_X12_stepWord X τ a).toInt = 4
    · rw [if_pos q4, if_pos (Or.inr q4)]
    · rw [if_neg q4, if_neg (fun z => z.elim q3 q4)]
theorem rs_a_1 (r x3 v : Int32) (hr : r.toInt < 0) (h : 0 < ((F_X12_wrong X τ a).1 a 12).toInt) : F_X12_readStep_d1_J20_1 X r τ a v x3 = F_X12_wrong X τ a := by
  unfold F_X12_readStep_d1_J20_1
  rw [if_pos hr, q_letE, rs_29_1 r x3 v h]
theorem rs_b_1 (r x3 v : Int32) (h0 : (τ.1 a 12).toInt = 0) (hr : ¬ r.toInt < 0) (hs : (τ.1 a 27).toInt = 30) (h : 0 < ((F_X12_fail X τ a 6 (τ.1 a 15)).1 a 12).toInt) : F_X12_readStep_d1_J20_1 X r τ a v x3 = F_X12_fail X τ a 6 (τ.1 a 15) := by
  unfold F_X12_readStep_d1_J20_1 F_X12_readStep_d1_J29_2
  rw [if_neg hr, q_letE (τ.1 a 12), h0, if_pos rfl, q_letE (τ.1 a 27), if_pos hs, q_letE (τ.1 a 15), q_letE, rs_55_1 r x3 v h]
theorem rs_e_1 (r x3 v : Int32) (h0 : (τ.1 a 12).toInt = 0) (hr : ¬ r.toInt < 0) (hs : ¬ (τ.1 a 27).toInt = 30) (hx : x3.toInt = 0 ∨ ¬ v.toInt = 3) : ∃ fu : Nat, ((901 - ((hd_M X a r τ).1 a 15).toInt).toNat + (1 - ((hd_M X a r τ).1 a 12).toInt).toNat) < fu ∧ F_X12_readStep_d1_J20_1 X r τ a v x3 = F_X12_readStep_d1_L140_5 X x3 ((4376 : Int32) + 9 * τ.1 a 27) a v fu (hd_M X a r τ) := by
  refine ⟨(901 - ((hd_M X a r τ).1 a 15).toInt).toNat + (1 - ((hd_M X a r τ).1 a 12).toInt).toNat + 1, Nat.lt_succ_self _, ?_⟩
  have e : F_X12_readStep_d1_J81_4 X a r x3 v τ = F_X12_readStep_d1_L140_5 X x3 ((4376 : Int32) + 9 * τ.1 a 27) a v ((901 - ((hd_M X a r τ).1 a 15).toInt).toNat + (1 - ((hd_M X a r τ).1 a 12).toInt).toNat + 1) (hd_M X a r τ) := by
    unfold F_X12_readStep_d1_J81_4
    rw [q_letE (τ.1 a 12), h0, if_neg (by decide : ¬ (0 : Int) < 0), q_letE (τ.1 a 27), q_letE ((9 : Int32) * τ.1 a 27), q_letE ((4376 : Int32) + 9 * τ.1 a 27), q_letE (τ.1 a 27), q_letE (τ.1 a 27 + 1), q_letE, q_letE, q_letE, q_letE, q_letE, q_letE]
    rfl
  unfold F_X12_readStep_d1_J20_1 F_X12_readStep_d1_J29_2 F_X12_readStep_d1_J55_3
  rw [if_neg hr, q_letE (τ.1 a 12), h0, if_pos rfl, q_letE (τ.1 a 27), if_neg hs, q_letE (τ.1 a 12), h0, if_pos rfl]
  by_cases q : x3.toInt = 0
  · rw [if_pos q, e]
  · rw [if_neg q]
    rcases hx with hx | hx
    · exact absurd hx q
    · rw [if_neg hx, e]
theorem rs_81_2 (r x3 v : Int32) (h : 0 < (τ.1 a 12).toInt) : F_X12_readStep_d2_J81_4 X a r x3 v τ = τ := by
  unfold F_X12_readStep_d2_J81_4
  rw [q_letE, if_pos h]
theorem rs_55_2 (r x3 v : Int32) (h : 0 < (τ.1 a 12).toInt) : F_X12_readStep_d2_J55_3 X a x3 r v τ = τ := by
  unfold F_X12_readStep_d2_J55_3
  rw [q_letE, if_neg (by omega), rs_81_2 r x3 v h]
theorem rs_29_2 (r x3 v : Int32) (h : 0 < (τ.1 a 12).toInt) : F_X12_readStep_d2_J29_2 X a x3 r v τ = τ := by
  unfold F_X12_readStep_d2_J29_2
  rw [q_letE, if_neg (by omega), rs_55_2 r x3 v h]
theorem rs_d_2 (v : Int32) : F_X12_readStep_d2 X τ a v = F_X12_readStep_d2_J20_1 X (F_X12_stepWord X τ a) τ a v (if (F_X12_stepWord X τ a).toInt = 3 ∨ (F_X12_stepWord X τ a).toInt = 4 then 1 else 0) := by
  unfold F_X12_readStep_d2
  rw [q_letE]
  by_cases q3 : (F_X12_stepWord X τ a).toInt = 3
  · rw [if_pos q3, if_pos (Or.inl q3)]
  · rw [if_neg q3]
    by_cases q4 : (F_X12_stepWord X τ a).toInt = 4
    · rw [if_pos q4, if_pos (Or.inr q4)]
    · rw [if_neg q4, if_neg (fun z => z.elim q3 q4)]
theorem rs_a_2 (r x3 v : Int32) (hr : r.toInt < 0) (h : 0 < ((F_X12_wrong X τ a).1 a 12).toInt) : F_X12_readStep_d2_J20_1 X r τ a v x3 = F_X12_wrong X τ a := by
  unfold F_X12_readStep_d2_J20_1
  rw [if_pos hr, q_letE, rs_29_2 r x3 v h]
theorem rs_b_2 (r x3 v : Int32) (h0 : (τ.1 a 12).toInt = 0) (hr : ¬ r.toInt < 0) (hs : (τ.1 a 27).toInt = 30) (h : 0 < ((F_X12_fail X τ a 6 (τ.1 a 15)).1 a 12).toInt) : F_X12_readStep_d2_J20_1 X r τ a v x3 = F_X12_fail X τ a 6 (τ.1 a 15) := by
  unfold F_X12_readStep_d2_J20_1 F_X12_readStep_d2_J29_2
  rw [if_neg hr, q_letE (τ.1 a 12), h0, if_pos rfl, q_letE (τ.1 a 27), if_pos hs, q_letE (τ.1 a 15), q_letE, rs_55_2 r x3 v h]
theorem rs_e_2 (r x3 v : Int32) (h0 : (τ.1 a 12).toInt = 0) (hr : ¬ r.toInt < 0) (hs : ¬ (τ.1 a 27).toInt = 30) (hx : x3.toInt = 0 ∨ ¬ v.toInt = 3) : ∃ fu : Nat, ((901 - ((hd_M X a r τ).1 a 15).toInt).toNat + (1 - ((hd_M X a r τ).1 a 12).toInt).toNat) < fu ∧ F_X12_readStep_d2_J20_1 X r τ a v x3 = F_X12_readStep_d2_L140_5 X x3 ((4376 : Int32) + 9 * τ.1 a 27) a v fu (hd_M X a r τ) := by
  refine ⟨(901 - ((hd_M X a r τ).1 a 15).toInt).toNat + (1 - ((hd_M X a r τ).1 a 12).toInt).toNat + 1, Nat.lt_succ_self _, ?_⟩
  have e : F_X12_readStep_d2_J81_4 X a r x3 v τ = F_X12_readStep_d2_L140_5 X x3 ((4376 : Int32) + 9 * τ.1 a 27) a v ((901 - ((hd_M X a r τ).1 a 15).toInt).toNat + (1 - ((hd_M X a r τ).1 a 12).toInt).toNat + 1) (hd_M X a r τ) := by
    unfold F_X12_readStep_d2_J81_4
    rw [q_letE (τ.1 a 12), h0, if_neg (by decide : ¬ (0 : Int) < 0), q_letE (τ.1 a 27), q_letE ((9 : Int32) * τ.1 a 27), q_letE ((4376 : Int32) + 9 * τ.1 a 27), q_letE (τ.1 a 27), q_letE (τ.1 a 27 + 1), q_letE, q_letE, q_letE, q_letE, q_letE, q_letE]
    rfl
  unfold F_X12_readStep_d2_J20_1 F_X12_readStep_d2_J29_2 F_X12_readStep_d2_J55_3
  rw [if_neg hr, q_letE (τ.1 a 12), h0, if_pos rfl, q_letE (τ.1 a 27), if_neg hs, q_letE (τ.1 a 12), h0, if_pos rfl]
  by_cases q : x3.toInt = 0
  · rw [if_pos q, e]
  · rw [if_neg q]
    rcases hx with hx | hx
    · exact absurd hx q
    · rw [if_neg hx, e]
theorem rs_81_3 (r x3 v : Int32) (h : 0 < (τ.1 a 12).toInt) : F_X12_readStep_d3_J81_4 X a r x3 v τ = τ := by
  unfold F_X12_readStep_d3_J81_4
  rw [q_letE, if_pos h]
theorem rs_55_3 (r x3 v : Int32) (h : 0 < (τ.1 a 12).toInt) : F_X12_readStep_d3_J55_3 X a x3 r v τ = τ := by
  unfold F_X12_readStep_d3_J55_3
  rw [q_letE, if_neg (by omega), rs_81_3 r x3 v h]
theorem rs_29_3 (r x3 v : Int32) (h : 0 < (τ.1 a 12).toInt) : F_X12_readStep_d3_J29_2 X a x3 r v τ = τ := by
  unfold F_X12_readStep_d3_J29_2
  rw [q_letE, if_neg (by omega), rs_55_3 r x3 v h]
theorem rs_d_3 (v : Int32) : F_X12_readStep_d3 X τ a v = F_X12_readStep_d3_J20_1 X (F_X12_stepWord X τ a) τ a v (if (F_X12_stepWord X τ a).toInt = 3 ∨ (F_X12_stepWord X τ a).toInt = 4 then 1 else 0) := by
  unfold F_X12_readStep_d3
  rw [q_letE]
  by_cases q3 : (F_X12_stepWord X τ a).toInt = 3
  · rw [if_pos q3, if_pos (Or.inl q3)]
  · rw [if_neg q3]
    by_cases q4 : (F_X12_stepWord X τ a).toInt = 4
    · rw [if_pos q4, if_pos (Or.inr q4)]
    · rw [if_neg q4, if_neg (fun z => z.elim q3 q4)]
theorem rs_a_3 (r x3 v : Int32) (hr : r.toInt < 0) (h : 0 < ((F_X12_wrong X τ a).1 a 12).toInt) : F_X12_readStep_d3_J20_1 X r τ a v x3 = F_X12_wrong X τ a := by
  unfold F_X12_readStep_d3_J20_1
  rw [if_pos hr, q_letE, rs_29_3 r x3 v h]
theorem rs_b_3 (r x3 v : Int32) (h0 : (τ.1 a 12).toInt = 0) (hr : ¬ r.toInt < 0) (hs : (τ.1 a 27).toInt = 30) (h : 0 < ((F_X12_fail X τ a 6 (τ.1 a 15)).1 a 12).toInt) : F_X12_readStep_d3_J20_1 X r τ a v x3 = F_X12_fail X τ a 6 (τ.1 a 15) := by
  unfold F_X12_readStep_d3_J20_1 F_X12_readStep_d3_J29_2
  rw [if_neg hr, q_letE (τ.1 a 12), h0, if_pos rfl, q_letE (τ.1 a 27), if_pos hs, q_letE (τ.1 a 15), q_letE, rs_55_3 r x3 v h]
theorem rs_e_3 (r x3 v : Int32) (h0 : (τ.1 a 12).toInt = 0) (hr : ¬ r.toInt < 0) (hs : ¬ (τ.1 a 27).toInt = 30) (hx : x3.toInt = 0 ∨ ¬ v.toInt = 3) : ∃ fu : Nat, ((901 - ((hd_M X a r τ).1 a 15).toInt).toNat + (1 - ((hd_M X a r τ).1 a 12).toInt).toNat) < fu ∧ F_X12_readStep_d3_J20_1 X r τ a v x3 = F_X12_readStep_d3_L140_5 X x3 ((4376 : Int32) + 9 * τ.1 a 27) a v fu (hd_M X a r τ) := by
  refine ⟨(901 - ((hd_M X a r τ).1 a 15).toInt).toNat + (1 - ((hd_M X a r τ).1 a 12).toInt).toNat + 1, Nat.lt_succ_self _, ?_⟩
  have e : F_X12_readStep_d3_J81_4 X a r x3 v τ = F_X12_readStep_d3_L140_5 X x3 ((4376 : Int32) + 9 * τ.1 a 27) a v ((901 - ((hd_M X a r τ).1 a 15).toInt).toNat + (1 - ((hd_M X a r τ).1 a 12).toInt).toNat + 1) (hd_M X a r τ) := by
    unfold F_X12_readStep_d3_J81_4
    rw [q_letE (τ.1 a 12), h0, if_neg (by decide : ¬ (0 : Int) < 0), q_letE (τ.1 a 27), q_letE ((9 : Int32) * τ.1 a 27), q_letE ((4376 : Int32) + 9 * τ.1 a 27), q_letE (τ.1 a 27), q_letE (τ.1 a 27 + 1), q_letE, q_letE, q_letE, q_letE, q_letE, q_letE]
    rfl
  unfold F_X12_readStep_d3_J20_1 F_X12_readStep_d3_J29_2 F_X12_readStep_d3_J55_3
  rw [if_neg hr, q_letE (τ.1 a 12), h0, if_pos rfl, q_letE (τ.1 a 27), if_neg hs, q_letE (τ.1 a 12), h0, if_pos rfl]
  by_cases q : x3.toInt = 0
  · rw [if_pos q, e]
  · rw [if_neg q]
    rcases hx with hx | hx
    · exact absurd hx q
    · rw [if_neg hx, e]
end RX

/-! FROM 49y.ends.lean.txt -/
/-! A ROUND BEING READ: the body's ends, an end read, a step read by both -/
section RY
variable {X : XW} {lb : Nat → Nat} {R T a g : Nat} {σ τ σ' τ' : ST} {n dp s L : Int} {B c w : Int → Int} {U Vg : Nat → Int → Int}
theorem ls_flat_0 (x3 z v : Int32) (hx : x3.toInt = 0) (fu : Nat) (hf : 0 < fu) : F_X12_readStep_d0_L140_5 X x3 z a fu τ = q_si τ (q_rf X a 20) (z + 8).toNatClampNeg (τ.1 a 27) := by
  obtain ⟨k, rfl⟩ : ∃ k, fu = k + 1 := ⟨fu - 1, by omega⟩
  rw [F_X12_readStep_d0_L140_5_s]
  unfold F_X12_readStep_d0_B140_5
  rw [if_pos hx]
  unfold F_X12_readStep_d0_E168_6
  rw [if_pos hx, q_letE, q_letE, q_letE]
theorem ls_flat_1 (x3 z v : Int32) (hx : x3.toInt = 0) (fu : Nat) (hf : 0 < fu) : F_X12_readStep_d1_L140_5 X x3 z a v fu τ = q_si τ (q_rf X a 20) (z + 8).toNatClampNeg (τ.1 a 27) := by
  obtain ⟨k, rfl⟩ : ∃ k, fu = k + 1 := ⟨fu - 1, by omega⟩
  rw [F_X12_readStep_d1_L140_5_s]
  unfold F_X12_readStep_d1_B140_5
  rw [if_pos hx]
  unfold F_X12_readStep_d1_E168_6
  rw [if_pos hx, q_letE, q_letE, q_letE]
theorem ls_bad_1 (x3 z v : Int32) (hx : ¬ x3.toInt = 0) (fu : Nat) (hf : 0 < fu) (h : 0 < (τ.1 a 12).toInt) : F_X12_readStep_d1_L140_5 X x3 z a v fu τ = q_si τ (q_rf X a 20) (z + 8).toNatClampNeg (τ.1 a 27) := by
  obtain ⟨k, rfl⟩ : ∃ k, fu = k + 1 := ⟨fu - 1, by omega⟩
  rw [F_X12_readStep_d1_L140_5_s]
  unfold F_X12_readStep_d1_B140_5
  rw [if_neg hx, q_letE (τ.1 a 12), if_neg (by omega : ¬ (τ.1 a 12).toInt = 0)]
  unfold F_X12_readStep_d1_E168_7
  rw [if_neg hx, q_letE (F_X12_isEnd X τ a), q_letE (F_X12_must X τ a (F_X12_isEnd X τ a)), tm_must2 h, q_letE (F_X12_isSign X τ a 59), q_letE (F_X12_must X τ a (F_X12_isSign X τ a 59)), tm_must2 h, q_letE, q_letE, q_letE]
theorem ls_end_1 (x3 z v : Int32) (hx : ¬ x3.toInt = 0) (fu : Nat) (hf : 0 < fu) (h : (τ.1 a 12).toInt = 0) (he : ¬ (F_X12_isEnd X τ a).toInt = 0) {τ5 : ST} (h5 : τ5 = F_X12_must X (F_X12_must X τ a (F_X12_isEnd X τ a)) a (F_X12_isSign X (F_X12_must X τ a (F_X12_isEnd X τ a)) a 59)) : F_X12_readStep_d1_L140_5 X x3 z a v fu τ = q_si τ5 (q_rf X a 20) (z + 8).toNatClampNeg (τ5.1 a 27) := by
  obtain ⟨k, rfl⟩ : ∃ k, fu = k + 1 := ⟨fu - 1, by omega⟩
  rw [F_X12_readStep_d1_L140_5_s]
  unfold F_X12_readStep_d1_B140_5
  rw [if_neg hx, q_letE (τ.1 a 12), if_pos h, q_letE (F_X12_isEnd X τ a), if_neg he]
  unfold F_X12_readStep_d1_E168_8
  rw [if_neg hx, q_letE (F_X12_isEnd X τ a), q_letE (F_X12_must X τ a (F_X12_isEnd X τ a)), q_letE (F_X12_isSign X (F_X12_must X τ a (F_X12_isEnd X τ a)) a 59), q_letE, ← h5, q_letE, q_letE, q_letE]
theorem ls_rec_1 (x3 z v : Int32) (hx : ¬ x3.toInt = 0) (fu : Nat) (h : (τ.1 a 12).toInt = 0) (he : (F_X12_isEnd X τ a).toInt = 0) : F_X12_readStep_d1_L140_5 X x3 z a v (fu + 1) τ = F_X12_readStep_d1_L140_5 X x3 z a v fu (F_X12_readStep_d0 X τ a (v + 1)) := by
  rw [F_X12_readStep_d1_L140_5_s]
  unfold F_X12_readStep_d1_B140_5
  rw [if_neg hx, q_letE (τ.1 a 12), if_pos h, q_letE (F_X12_isEnd X τ a), if_pos he, q_letE (v + 1), q_letE]
theorem ls_flat_2 (x3 z v : Int32) (hx : x3.toInt = 0) (fu : Nat) (hf : 0 < fu) : F_X12_readStep_d2_L140_5 X x3 z a v fu τ = q_si τ (q_rf X a 20) (z + 8).toNatClampNeg (τ.1 a 27) := by
  obtain ⟨k, rfl⟩ : ∃ k, fu = k + 1 := ⟨fu - 1, by omega⟩
  rw [F_X12_readStep_d2_L140_5_s]
  unfold F_X12_readStep_d2_B140_5
  rw [if_pos hx]
  unfold F_X12_readStep_d2_E168_6
  rw [if_pos hx, q_letE, q_letE, q_letE]
theorem ls_bad_2 (x3 z v : Int32) (hx : ¬ x3.toInt = 0) (fu : Nat) (hf : 0 < fu) (h : 0 < (τ.1 a 12).toInt) : F_X12_readStep_d2_L140_5 X x3 z a v fu τ = q_si τ (q_rf X a 20) (z + 8).toNatClampNeg (τ.1 a 27) := by
  obtain ⟨k, rfl⟩ : ∃ k, fu = k + 1 := ⟨fu - 1, by omega⟩
  rw [F_X12_readStep_d2_L140_5_s]
  unfold F_X12_readStep_d2_B140_5
  rw [if_neg hx, q_letE (τ.1 a 12), if_neg (by omega : ¬ (τ.1 a 12).toInt = 0)]
  unfold F_X12_readStep_d2_E168_7
  rw [if_neg hx, q_letE (F_X12_isEnd X τ a), q_letE (F_X12_must X τ a (F_X12_isEnd X τ a)), tm_must2 h, q_letE (F_X12_isSign X τ a 59), q_letE (F_X12_must X τ a (F_X12_isSign X τ a 59)), tm_must2 h, q_letE, q_letE, q_letE]
theorem ls_end_2 (x3 z v : Int32) (hx : ¬ x3.toInt = 0) (fu : Nat) (hf : 0 < fu) (h : (τ.1 a 12).toInt = 0) (he : ¬ (F_X12_isEnd X τ a).toInt = 0) {τ5 : ST} (h5 : τ5 = F_X12_must X (F_X12_must X τ a (F_X12_isEnd X τ a)) a (F_X12_isSign X (F_X12_must X τ a (F_X12_isEnd X τ a)) a 59)) : F_X12_readStep_d2_L140_5 X x3 z a v fu τ = q_si τ5 (q_rf X a 20) (z + 8).toNatClampNeg (τ5.1 a 27) := by
  obtain ⟨k, rfl⟩ : ∃ k, fu = k + 1 := ⟨fu - 1, by omega⟩
  rw [F_X12_readStep_d2_L140_5_s]
  unfold F_X12_readStep_d2_B140_5
  rw [if_neg hx, q_letE (τ.1 a 12), if_pos h, q_letE (F_X12_isEnd X τ a), if_neg he]
  unfold F_X12_readStep_d2_E168_8
  rw [if_neg hx, q_letE (F_X12_isEnd X τ a), q_letE (F_X12_must X τ a (F_X12_isEnd X τ a)), q_letE (F_X12_isSign X (F_X12_must X τ a (F_X12_isEnd X τ a)) a 59), q_letE, ← h5, q_letE, q_letE, q_letE]
theorem ls_rec_2 (x3 z v : Int32) (hx : ¬ x3.toInt = 0) (fu : Nat) (h : (τ.1 a 12).toInt = 0) (he : (F_X12_isEnd X τ a).toInt = 0) : F_X12_readStep_d2_L140_5 X x3 z a v (fu + 1) τ = F_X12_readStep_d2_L140_5 X x3 z a v fu (F_X12_readStep_d1 X τ a (v + 1)) := by
  rw [F_X12_readStep_d2_L140_5_s]
  unfold F_X12_readStep_d2_B140_5
  rw [if_neg hx, q_letE (τ.1 a 12), if_pos h, q_letE (F_X12_isEnd X τ a), if_pos he, q_letE (v + 1), q_letE]
theorem ls_flat_3 (x3 z v : Int32) (hx : x3.toInt = 0) (fu : Nat) (hf : 0 < fu) : F_X12_readStep_d3_L140_5 X x3 z a v fu τ = q_si τ (q_rf X a 20) (z + 8).toNatClampNeg (τ.1 a 27) := by
  obtain ⟨k, rfl⟩ : ∃ k, fu = k + 1 := ⟨fu - 1, by omega⟩
  rw [F_X12_readStep_d3_L140_5_s]
  unfold F_X12_readStep_d3_B140_5
  rw [if_pos hx]
  unfold F_X12_readStep_d3_E168_6
  rw [if_pos hx, q_letE, q_letE, q_letE]
theorem ls_bad_3 (x3 z v : Int32) (hx : ¬ x3.toInt = 0) (fu : Nat) (hf : 0 < fu) (h : 0 < (τ.1 a 12).toInt) : F_X12_readStep_d3_L140_5 X x3 z a v fu τ = q_si τ (q_rf X a 20) (z + 8).toNatClampNeg (τ.1 a 27) := by
  obtain ⟨k, rfl⟩ : ∃ k, fu = k + 1 := ⟨fu - 1, by omega⟩
  rw [F_X12_readStep_d3_L140_5_s]
  unfold F_X12_readStep_d3_B140_5
  rw [if_neg hx, q_letE (τ.1 a 12), if_neg (by omega : ¬ (τ.1 a 12).toInt = 0)]
  unfold F_X12_readStep_d3_E168_7
  rw [if_neg hx, q_letE (F_X12_isEnd X τ a), q_letE (F_X12_must X τ a (F_X12_isEnd X τ a)), tm_must2 h, q_letE (F_X12_isSign X τ a 59), q_letE (F_X12_must X τ a (F_X12_isSign X τ a 59)), tm_must2 h, q_letE, q_letE, q_letE]
theorem ls_end_3 (x3 z v : Int32) (hx : ¬ x3.toInt = 0) (fu : Nat) (hf : 0 < fu) (h : (τ.1 a 12).toInt = 0) (he : ¬ (F_X12_isEnd X τ a).toInt = 0) {τ5 : ST} (h5 : τ5 = F_X12_must X (F_X12_must X τ a (F_X12_isEnd X τ a)) a (F_X12_isSign X (F_X12_must X τ a (F_X12_isEnd X τ a)) a 59)) : F_X12_readStep_d3_L140_5 X x3 z a v fu τ = q_si τ5 (q_rf X a 20) (z + 8).toNatClampNeg (τ5.1 a 27) := by
  obtain ⟨k, rfl⟩ : ∃ k, fu = k + 1 := ⟨fu - 1, by omega⟩
  rw [F_X12_readStep_d3_L140_5_s]
  unfold F_X12_readStep_d3_B140_5
  rw [if_neg hx, q_letE (τ.1 a 12), if_pos h, q_letE (F_X12_isEnd X τ a), if_neg he]
  unfold F_X12_readStep_d3_E168_8
  rw [if_neg hx, q_letE (F_X12_isEnd X τ a), q_letE (F_X12_must X τ a (F_X12_isEnd X τ a)), q_letE (F_X12_isSign X (F_X12_must X τ a (F_X12_isEnd X τ a)) a 59), q_letE, ← h5, q_letE, q_letE, q_letE]
theorem ls_rec_3 (x3 z v : Int32) (hx : ¬ x3.toInt = 0) (fu : Nat) (h : (τ.1 a 12).toInt = 0) (he : (F_X12_isEnd X τ a).toInt = 0) : F_X12_readStep_d3_L140_5 X x3 z a v (fu + 1) τ = F_X12_readStep_d3_L140_5 X x3 z a v fu (F_X12_readStep_d2 X τ a (v + 1)) := by
  rw [F_X12_readStep_d3_L140_5_s]
  unfold F_X12_readStep_d3_B140_5
  rw [if_neg hx, q_letE (τ.1 a 12), if_pos h, q_letE (F_X12_isEnd X τ a), if_pos he, q_letE (v + 1), q_letE]
/-- which step stands here, for both -/
theorem rd_act (I : rd_I X R T a g n B Vg w σ τ U dp c s) : ((F_X4_actionHere X σ R).toInt = -1 ∧ (F_X12_stepWord X τ a).toInt = -1) ∨ (rd_k (F_X12_stepWord X τ a).toInt (F_X4_actionHere X σ R).toInt ∧ (τ.1 a 14).toInt = 1) := by
  obtain ⟨S, M, K, h0, hV⟩ := I
  have tw := tm_stepWord (X := X) (σ := τ) (a := a)
  have c14 : y_cw 14 = 677454 := rfl
  have c9 : y_cw 9 = 402611 := rfl
  have c10 : y_cw 10 = 150637203 := rfl
  have c17 : y_cw 17 = 762030 := rfl
  have c16 : y_cw 16 = 409072 := rfl
  have c15 : y_cw 15 = 643568 := rfl
  have iw : ∀ rr : Nat, y_isw rr → (F_X3_isWord X σ R rr).toInt = if (τ.1 a 14).toInt = 1 ∧ (τ.2.1 a 19).toInt = y_cw rr then 1 else 0 := fun rr hr => tl_isWord S.1 K hr
  have i1 : ∀ rr : Nat, y_isw rr → (τ.1 a 14).toInt = 1 ∧ (τ.2.1 a 19).toInt = y_cw rr → ¬ (F_X3_isWord X σ R rr).toInt = 0 := fun rr hr h => by rw [iw rr hr, if_pos h]; decide
  have i0 : ∀ rr : Nat, y_isw rr → ¬ ((τ.1 a 14).toInt = 1 ∧ (τ.2.1 a 19).toInt = y_cw rr) → (F_X3_isWord X σ R rr).toInt = 0 := fun rr hr h => by rw [iw rr hr, if_neg h]
  rw [tw]
  unfold F_X4_actionHere rd_k
  rw [q_letE (F_X3_isWord X σ R 14)]
  by_cases w14 : (τ.1 a 14).toInt = 1 ∧ (τ.2.1 a 19).toInt = 677454
  · rw [if_pos w14, if_neg (i1 14 ⟨by decide, by decide⟩ w14)]
    exact Or.inr ⟨Or.inl ⟨rfl, rfl⟩, w14.1⟩
  rw [if_neg w14, if_pos (i0 14 ⟨by decide, by decide⟩ w14), q_letE (F_X3_isWord X σ R 9)]
  by_cases w9 : (τ.1 a 14).toInt = 1 ∧ (τ.2.1 a 19).toInt = 402611
  · rw [if_pos w9, if_neg (i1 9 ⟨by decide, by decide⟩ w9)]
    exact Or.inr ⟨Or.inr (Or.inl ⟨rfl, rfl⟩), w9.1⟩
  rw [if_neg w9, if_pos (i0 9 ⟨by decide, by decide⟩ w9), q_letE (F_X3_isWord X σ R 10)]
  by_cases w10 : (τ.1 a 14).toInt = 1 ∧ (τ.2.1 a 19).toInt = 150637203
  · rw [if_pos w10, if_neg (i1 10 ⟨by decide, by decide⟩ w10)]
    exact Or.inr ⟨Or.inr (Or.inr (Or.inl ⟨rfl, rfl⟩)), w10.1⟩
  rw [if_neg w10, if_pos (i0 10 ⟨by decide, by decide⟩ w10), q_letE (F_X3_isWord X σ R 15)]
  by_cases w15 : (τ.1 a 14).toInt = 1 ∧ (τ.2.1 a 19).toInt = 643568
  · rw [if_neg (show ¬ ((τ.1 a 14).toInt = 1 ∧ (τ.2.1 a 19).toInt = 762030) from fun z => by omega), if_neg (show ¬ ((τ.1 a 14).toInt = 1 ∧ (τ.2.1 a 19).toInt = 409072) from fun z => by omega), if_pos w15, if_neg (i1 15 ⟨by decide, by decide⟩ w15)]
    exact Or.inr ⟨Or.inr (Or.inr (Or.inr (Or.inl ⟨rfl, rfl⟩))), w15.1⟩
  rw [if_pos (i0 15 ⟨by decide, by decide⟩ w15), q_letE (F_X3_isWord X σ R 16)]
  by_cases w16 : (τ.1 a 14).toInt = 1 ∧ (τ.2.1 a 19).toInt = 409072
  · rw [if_neg (show ¬ ((τ.1 a 14).toInt = 1 ∧ (τ.2.1 a 19).toInt = 762030) from fun z => by omega), if_pos w16, if_neg (i1 16 ⟨by decide, by decide⟩ w16)]
    exact Or.inr ⟨Or.inr (Or.inr (Or.inr (Or.inr (Or.inl ⟨rfl, rfl⟩)))), w16.1⟩
  rw [if_pos (i0 16 ⟨by decide, by decide⟩ w16), q_letE (F_X3_isWord X σ R 17)]
  by_cases w17 : (τ.1 a 14).toInt = 1 ∧ (τ.2.1 a 19).toInt = 762030
  · rw [if_pos w17, if_neg (i1 17 ⟨by decide, by decide⟩ w17)]
    exact Or.inr ⟨Or.inr (Or.inr (Or.inr (Or.inr (Or.inr ⟨rfl, rfl⟩)))), w17.1⟩
  · rw [if_neg w17, if_neg w16, if_neg w15, if_pos (i0 17 ⟨by decide, by decide⟩ w17)]
    exact Or.inl ⟨rfl, rfl⟩
/-- an end read by both -/
theorem op_end (Y : y_S X lb) (D : rd_D X lb R T) (ha : q_kd X a = 12) (G : y_G X lb g 1) (I : rd_I X R T a g n B Vg w σ τ U (dp + 1) c s) (hd : 0 ≤ dp ∧ dp < 3) (hL : U 0 2 = L) (hl : 0 ≤ L ∧ L < 60) {l0 : Int} (h6 : U 6 dp = l0) (hl0 : 0 ≤ l0 ∧ l0 < L) (he : ¬ (F_X12_isEnd X τ a).toInt = 0) {τ5 : ST} (h5 : τ5 = F_X12_must X (F_X12_must X τ a (F_X12_isEnd X τ a)) a (F_X12_isSign X (F_X12_must X τ a (F_X12_isEnd X τ a)) a 59)) :
    ∃ (z : Int32) (σ' : ST), F_X4_readEnd X σ R = (z, σ') ∧ rd_Fr X R a σ σ' τ τ5 ∧ ((z.toInt = 1 ∧ rd_I X R T a g n B Vg w σ' τ5 (y_up (y_up (y_up (y_up U 1 L 9) 0 2 (L + 1)) 2 L l0) 2 l0 L) dp c s ∧ (τ.1 a 15).toInt < (τ5.1 a 15).toInt) ∨ (z.toInt = 0 ∧ tl_F σ' R τ5 a)) := by
  obtain ⟨S, M, K, h0, hV⟩ := I
  have hT := Y.1
  have kb := K.b
  have one : (1 : Int32).toInt = 1 := rfl
  have n6 : ((rdN 6 : Nat) : Int) = 3 := rfl
  have n2 : ((rdN 2 : Nat) : Int) = 60 := rfl
  have ty : (τ.1 a 14).toInt = 1 := by
    rw [tm_isEnd] at he
    by_cases q : (τ.1 a 14).toInt = 1 ∧ (τ.2.1 a 19).toInt = 5572
    · exact q.1
    · rw [if_neg q] at he
      exact absurd rfl he
  unfold F_X4_readEnd
  have f10 : (σ.1 R 10).toInt = dp + 1 := S.2.2
  rw [q_letE (σ.1 R 10), if_neg (by omega : ¬ (σ.1 R 10).toInt = 0), q_letE (σ.1 R 10)]
  obtain ⟨u, hu⟩ : ∃ u, u = σ.1 R 10 - 1 := ⟨_, rfl⟩
  have uv : u.toInt = dp := by rw [hu, ar_sub, f10, one, ar_wr (by omega) (by omega)]; omega
  rw [← hu, q_letE u, q_letE (q_si σ R 10 u)]
  obtain ⟨S1, x1⟩ := S.dep D u
  rw [uv] at S1
  have sc1 := rd_sameD (σ := σ) (R := R) u
  obtain ⟨σ1, e1⟩ : ∃ t, t = q_si σ R 10 u := ⟨_, rfl⟩
  rw [← e1] at S1 x1 sc1 ⊢
  have g7 : (F_X5_get X σ1 (q_rf X R 9) (σ1.1 R 10)).toInt = l0 := (S1.get Y D (id := 6) (r := q_rf X R 9) ⟨by decide, by decide⟩ rfl S1.2.2 hd.1 (by rw [n6]; exact hd.2)).trans h6
  rw [q_letE (σ1.1 R 10), q_letE (F_X5_get X σ1 (q_rf X R 9) (σ1.1 R 10))]
  obtain ⟨r7, hr7⟩ : ∃ u, u = F_X5_get X σ1 (q_rf X R 9) (σ1.1 R 10) := ⟨_, rfl⟩
  rw [← hr7] at g7 ⊢
  obtain ⟨z8, σ2, e2, hz8, S2, x2, sc2⟩ := op_add Y D S1 hL hl 9
  rw [e2, q_biP z8 σ2]
  have e9 : (9 : Int32).toInt = 9 := rfl
  rw [e9] at S2
  obtain ⟨S3, x3⟩ := S2.set Y D (id := 2) (r := q_rf X (q_rf X R 8) 4) ⟨by decide, by decide⟩ rfl hz8 r7 hl.1 (by rw [n2]; exact hl.2)
  have sc3 := rd_sameS (σ := σ2) Y D (id := 2) (r := q_rf X (q_rf X R 8) 4) ⟨by decide, by decide⟩ rfl (x := z8) r7 (by omega) (by rw [n2]; omega)
  rw [g7] at S3
  rw [q_letE (F_X5_set X σ2 (q_rf X (q_rf X R 8) 4) z8 r7)]
  obtain ⟨σ3, e3⟩ : ∃ t, t = F_X5_set X σ2 (q_rf X (q_rf X R 8) 4) z8 r7 := ⟨_, rfl⟩
  rw [← e3] at S3 x3 sc3 ⊢
  obtain ⟨S4, x4⟩ := S3.set Y D (id := 2) (r := q_rf X (q_rf X R 8) 4) ⟨by decide, by decide⟩ rfl g7 z8 hl0.1 (by rw [n2]; omega)
  have sc4 := rd_sameS (σ := σ3) Y D (id := 2) (r := q_rf X (q_rf X R 8) 4) ⟨by decide, by decide⟩ rfl (x := r7) z8 (by omega) (by rw [n2]; omega)
  rw [hz8] at S4
  rw [q_letE (F_X5_set X σ3 (q_rf X (q_rf X R 8) 4) r7 z8)]
  obtain ⟨σ4, e4⟩ : ∃ t, t = F_X5_set X σ3 (q_rf X (q_rf X R 8) 4) r7 z8 := ⟨_, rfl⟩
  rw [← e4] at S4 x4 sc4 ⊢
  have K4 := K.same (fun f a1 a2 => (sc4 f a1 a2).trans ((sc3 f a1 a2).trans ((sc2 f a1 a2).trans (sc1 f a1 a2)))) (tl_same.rf (a := a) (τ := τ))
  have fr4 := rd_Fr.cl (a := a) (τ := τ) (((x1.tr x2).tr x3).tr x4)
  obtain ⟨y1, y2, K5, g5⟩ := tl_adv2 S4.1 M.1 K4
  obtain ⟨S5, f5⟩ := S4.rd D y1.S2
  have M5 := M.rd hT ha y2.S2
  have fr5 := fr4.tr (rd_Fr.rd (τ := τ) hT ha D S4 y1.S2 y2.S2)
  have h05 : ((F_X12_next X τ a).1 a 12).toInt = 0 := by rw [tn_12 y2]; exact h0
  rw [tm_must1 h0 he] at h5
  rw [q_letE (F_X3_advance X σ4 R)]
  obtain ⟨z6, σ6, e6, hz6, ⟨w1, w2, w3⟩⟩ := tl_passSemi S5.1 M5.1 K5 h05
  obtain ⟨S6, f6⟩ := S5.rd D w1
  have M6 := M5.rd hT ha w2
  have fr6 := fr5.tr (rd_Fr.rd (τ := F_X12_next X τ a) hT ha D S5 w1 w2)
  have V6 : y_v X g σ6 = Vg := by rw [fr6.1.v Y D G (by decide), hV]
  rw [← h5] at w2 w3 M6 fr6
  rw [e6, q_biP z6 σ6]
  have k5b := K5.b
  rcases w3 with ⟨q1, K7, h07, g7'⟩ | ⟨q1, F7⟩
  · exact ⟨z6, σ6, rfl, fr6, Or.inl ⟨q1, ⟨S6, M6, K7, h07, V6⟩, by omega⟩⟩
  · exact ⟨z6, σ6, rfl, fr6, Or.inr ⟨by omega, F7⟩⟩
end RY

/-! FROM 49z.loop.lean.txt -/
/-! A ROUND BEING READ: steps with their bodies *d0* to *d3* -/
def rd_Z (U : Nat → Int → Int) (s dp : Int) : Prop := U 0 1 = s ∧ 0 ≤ U 0 2 ∧ U 0 2 + dp ≤ 2 * s ∧ 0 ≤ s ∧ s ≤ 30 ∧ 0 ≤ dp ∧ dp ≤ 3
def rd_p (U U' : Nat → Int → Int) (c c' : Int → Int) (L s dp : Int) : Prop := (∀ (id : Nat) (i : Int), 1 ≤ id → id ≤ 5 → i < L → U' id i = U id i) ∧ (∀ i : Int, i < dp → U' 6 i = U 6 i) ∧ ∀ j : Int, j < 4376 + 9 * s → c' j = c j
theorem rd_p.tr {U U1 U2 : Nat → Int → Int} {c c1 c2 : Int → Int} {L L1 s s1 dp dp1 : Int} (h : rd_p U U1 c c1 L s dp) (k : rd_p U1 U2 c1 c2 L1 s1 dp1) (hL : L ≤ L1) (hs : s ≤ s1) (hd : dp ≤ dp1) : rd_p U U2 c c2 L s dp := ⟨fun id i a b q => (k.1 id i a b (by omega)).trans (h.1 id i a b q), fun i q => (k.2.1 i (by omega)).trans (h.2.1 i q), fun j q => (k.2.2 j (by omega)).trans (h.2.2 j q)⟩
theorem st_l.y {V V' : Nat → Int → Int} {c c' : Int → Int} {s l : Int} (hV : ∀ id : Nat, id = 18 ∨ id = 20 ∨ id = 21 ∨ id = 22 → V' id l = V id l) (hc : ∀ j : Int, 656 + 9 * s ≤ j → j ≤ 656 + 9 * s + 7 → c' j = c j) (h : st_l V c s l) : st_l V' c' s l := by
  unfold st_l at h ⊢
  rw [hV 18 (by decide), hV 20 (by decide), hV 21 (by decide), hV 22 (by decide), hc (656 + 9 * s) (by omega) (by omega), hc (656 + 9 * s + 1) (by omega) (by omega), hc (656 + 9 * s + 2) (by omega) (by omega), hc (656 + 9 * s + 6) (by omega) (by omega), hc (656 + 9 * s + 7) (by omega) (by omega)]
  exact h
/-- what stands between stays -/
theorem fl_y {V V' : Nat → Int → Int} {c c' : Int → Int} (n : Nat) : ∀ {s e l l' : Int}, (∀ (id : Nat) (i : Int), 18 ≤ id → id < 23 → l ≤ i → i < l' → V' id i = V id i) → (∀ j : Int, 656 + 9 * s ≤ j → j < 656 + 9 * e → c' j = c j) → fl V c n s e l l' → fl V' c' n s e l l' := by
  induction n with
  | zero => intro s e l l' _ _ h; exact h
  | succ n ih =>
    intro s e l l' hV hc h
    rcases h with h | ⟨a1, a2, a3⟩
    · exact Or.inl h
    · have st : (l < l') → st_l V' c' s l := fun hl => a2.y (fun id h => hV id l (by omega) (by omega) (Int.le_refl _) hl) (fun j j0 j1 => hc j j0 (by omega))
      rcases a3 with ⟨b1, b2, b3, h3⟩ | ⟨b1, m, b, h4, h5, h6, h7, h8, h9⟩
      · have le := fl_le n h3
        refine Or.inr ⟨a1, st (by omega), Or.inl ⟨?_, ?_, ?_, ih (fun id i q0 q1 q2 q3 => hV id i q0 q1 (by omega) q3) (fun j j0 j1 => hc j (by omega) j1) h3⟩⟩
        · rw [hc _ (by omega) (by omega)]; exact b1
        · rw [hc _ (by omega) (by omega)]; exact b2
        · rw [hc _ (by omega) (by omega)]; exact b3
      · have le8 := fl_le n h8
        have le9 := fl_le n h9
        refine Or.inr ⟨a1, st (by omega), Or.inr ⟨?_, m, b, ?_, ?_, ?_, ?_, ih (fun id i q0 q1 q2 q3 => hV id i q0 q1 (by omega) (by omega)) (fun j j0 j1 => hc j (by omega) (by omega)) h8, ih (fun id i q0 q1 q2 q3 => hV id i q0 q1 (by omega) q3) (fun j j0 j1 => hc j (by omega) j1) h9⟩⟩
        · rw [hc _ (by omega) (by omega)]; exact b1
        · rw [hc _ (by omega) (by omega)]; exact h4
        · rw [hV 18 m (by decide) (by decide) (by omega) (by omega)]; exact h5
        · rw [hV 19 m (by decide) (by decide) (by omega) (by omega)]; exact h6
        · rw [hV 19 l (by decide) (by decide) (by omega) (by omega)]; exact h7
/-- what k lines of the class, and the reference's way to τ', come to -/
def rd_A (X : XW) (R T a g : Nat) (n : Int) (B : Int → Int) (Vg : Nat → Int → Int) (w : Int → Int) (σ τ τ' : ST) (U : Nat → Int → Int) (c : Int → Int) (dp : Int) (Q : (Nat → Int → Int) → (Int → Int) → Int → Prop) : Prop := ∃ k : Nat, 1 ≤ k ∧
  ((∃ (σ' : ST) (U' : Nat → Int → Int) (c' : Int → Int) (s' : Int), (∀ (fu : Nat) (i : Int32), 0 ≤ i.toInt → i.toInt ≤ (τ.1 a 15).toInt → ∃ i' : Int32, i'.toInt = i.toInt + (k : Int) ∧ F_X4_takes_L21_1 X R (q_rf X g 0) (fu + k) i σ = F_X4_takes_L21_1 X R (q_rf X g 0) fu i' σ') ∧ rd_I X R T a g n B Vg w σ' τ' U' dp c' s' ∧ rd_Z U' s' dp ∧ rd_Fr X R a σ σ' τ τ' ∧ Q U' c' s' ∧ (τ.1 a 15).toInt + (k : Int) ≤ (τ'.1 a 15).toInt) ∨
   (∃ σ' : ST, (∀ (fu : Nat) (i : Int32), 0 ≤ i.toInt → i.toInt ≤ (τ.1 a 15).toInt → F_X4_takes_L21_1 X R (q_rf X g 0) (fu + k) i σ = (0, σ')) ∧ tl_F σ' R τ' a ∧ rd_Fr X R a σ σ' τ τ' ∧ (τ.1 a 15).toInt + (k : Int) ≤ 301))
section RZ
variable {X : XW} {lb : Nat → Nat} {R T a g : Nat} {σ τ σ' τ' : ST} {n dp s L : Int} {B c w : Int → Int} {U Vg : Nat → Int → Int}
theorem lc_step (I : rd_I X R T a g n B Vg w σ τ U dp c s) (hn : n ≤ 300) (ht : ¬ (τ.1 a 14).toInt = 0) (he : (F_X12_isEnd X τ a).toInt = 0) (fu : Nat) (i : Int32) (hi : i.toInt ≤ (τ.1 a 15).toInt) : F_X4_takes_L21_1 X R (q_rf X g 0) (fu + 1) i σ = q_bi (F_X4_readStep X σ R (q_rf X g 0)) (fun r_29 σ_30 => if r_29.toInt = 0 then ((0 : Int32), σ_30) else q_let (i + 1 : Int32) (fun z_32 => F_X4_takes_L21_1 X R (q_rf X g 0) fu z_32 σ_30)) := by
  obtain ⟨S, M, K, h0, hV⟩ := I
  have kb := K.b
  have iw := tl_isWord S.1 K (r := 13) ⟨by decide, by decide⟩
  have c13 : y_cw 13 = 5572 := rfl
  rw [tm_isEnd] at he
  rw [c13, he] at iw
  have tt : (σ.1 R 4).toInt = (τ.1 a 14).toInt := K.2.2.1
  rw [F_X4_takes_L21_1_s]
  unfold F_X4_takes_B21_1
  rw [if_pos (by omega), q_letE (σ.1 R 4), tt, if_neg ht, q_letE (F_X3_isWord X σ R 13), iw, if_pos rfl]
theorem lc_end (I : rd_I X R T a g n B Vg w σ τ U dp c s) (hn : n ≤ 300) (he : ¬ (F_X12_isEnd X τ a).toInt = 0) (fu : Nat) (i : Int32) (hi : i.toInt ≤ (τ.1 a 15).toInt) : F_X4_takes_L21_1 X R (q_rf X g 0) (fu + 1) i σ = q_bi (F_X4_readEnd X σ R) (fun r_33 σ_34 => if r_33.toInt = 0 then ((0 : Int32), σ_34) else q_let (i + 1 : Int32) (fun z_36 => F_X4_takes_L21_1 X R (q_rf X g 0) fu z_36 σ_34)) := by
  obtain ⟨S, M, K, h0, hV⟩ := I
  have kb := K.b
  have iw := tl_isWord S.1 K (r := 13) ⟨by decide, by decide⟩
  have c13 : y_cw 13 = 5572 := rfl
  rw [tm_isEnd] at he
  rw [c13] at iw
  have ty : (τ.1 a 14).toInt = 1 := by
    by_cases q : (τ.1 a 14).toInt = 1 ∧ (τ.2.1 a 19).toInt = 5572
    · exact q.1
    · rw [if_neg q] at he
      exact absurd rfl he
  rw [← iw] at he
  have tt : (σ.1 R 4).toInt = (τ.1 a 14).toInt := K.2.2.1
  rw [F_X4_takes_L21_1_s]
  unfold F_X4_takes_B21_1
  rw [if_pos (by omega), q_letE (σ.1 R 4), tt, if_neg (by omega), q_letE (F_X3_isWord X σ R 13), if_neg he]
/-- the text's end -/
theorem lc_fin (I : rd_I X R T a g n B Vg w σ τ U dp c s) (ht : (τ.1 a 14).toInt = 0) (fu : Nat) (i : Int32) : F_X4_takes_L21_1 X R (q_rf X g 0) (fu + 1) i σ = F_X4_takes_E72_3 X σ R := by
  obtain ⟨S, M, K, h0, hV⟩ := I
  have tt : (σ.1 R 4).toInt = (τ.1 a 14).toInt := K.2.2.1
  have e : F_X4_takes_E72_2 X σ R = F_X4_takes_E72_3 X σ R := rfl
  rw [F_X4_takes_L21_1_s]
  unfold F_X4_takes_B21_1
  by_cases q : i.toInt < 300
  · rw [if_pos q, q_letE (σ.1 R 4), tt, if_pos ht]
  · rw [if_neg q, e]
/-- the class's step: a fault, a line, a line with a body -/
theorem cl_step (I : rd_I X R T a g n B Vg w σ τ U dp c s) (hs : U 0 1 = s) :
    ((F_X4_actionHere X σ R).toInt = -1 → F_X4_readStep X σ R (q_rf X g 0) = F_X3_fails X σ R 2) ∧
    ((F_X4_actionHere X σ R).toInt ≠ -1 → ¬ s < 30 → F_X4_readStep X σ R (q_rf X g 0) = F_X3_fails X σ R 6) ∧
    ((F_X4_actionHere X σ R).toInt ≠ -1 → s < 30 → (F_X4_actionHere X σ R).toInt = 4 ∨ (F_X4_actionHere X σ R).toInt = 8 → dp < 3 → F_X4_readStep X σ R (q_rf X g 0) = F_X4_readStep_J72_2 X σ R (F_X4_actionHere X σ R) (q_rf X g 0)) ∧
    ((F_X4_actionHere X σ R).toInt ≠ -1 → s < 30 → (F_X4_actionHere X σ R).toInt = 4 ∨ (F_X4_actionHere X σ R).toInt = 8 → ¬ dp < 3 → F_X4_readStep X σ R (q_rf X g 0) = F_X3_fails X σ R 7) ∧
    ((F_X4_actionHere X σ R).toInt ≠ -1 → s < 30 → 0 ≤ (F_X4_actionHere X σ R).toInt ∧ (F_X4_actionHere X σ R).toInt < 4 → F_X4_readStep X σ R (q_rf X g 0) = F_X4_readStep_J72_4 X σ R (F_X4_actionHere X σ R) 0 (q_rf X g 0)) := by
  obtain ⟨S, M, K, h0, hV⟩ := I
  have f4 : (σ.1 (q_rf X R 8) 1).toInt = s := by
    have z := rv_n (X := X) (R := R) (σ := σ) (id := 0) (by decide) 1
    rw [S.2.1] at z
    exact z.trans hs
  have f10 : (σ.1 R 10).toInt = dp := S.2.2
  have pe : ∀ A : Int32 × ST, q_bi A (fun r s => (r, s)) = A := fun A => by
    obtain ⟨r, s⟩ := A
    rw [q_biP]
  have e8 : (8 : Int32).toInt = 8 := rfl
  have blk : (F_X4_actionHere X σ R).toInt = 4 ∨ (F_X4_actionHere X σ R).toInt = 8 → (if (F_X4_actionHere X σ R).toInt = 4 then F_X4_readStep_J47_1 X σ R (F_X4_actionHere X σ R) (q_rf X g 0) else q_let (F_X8_isWhen X σ (F_X4_actionHere X σ R) : Int32) (fun r_124 => if r_124.toInt = 0 then F_X4_readStep_J52_3 X σ R (F_X4_actionHere X σ R) (q_rf X g 0) (0 : Int32) else F_X4_readStep_J47_1 X σ R (F_X4_actionHere X σ R) (q_rf X g 0))) = F_X4_readStep_J47_1 X σ R (F_X4_actionHere X σ R) (q_rf X g 0) := by
    intro h
    by_cases q : (F_X4_actionHere X σ R).toInt = 4
    · rw [if_pos q]
    · have w : ¬ (F_X8_isWhen X σ (F_X4_actionHere X σ R)).toInt = 0 := by
        unfold F_X8_isWhen
        rw [if_neg (by omega), if_neg (by omega)]
        decide
      rw [if_neg q, q_letE, if_neg w]
  refine ⟨fun h => ?_, fun h hs => ?_, fun h hs hb hd => ?_, fun h hs hb hd => ?_, fun h hs hb => ?_⟩
  · unfold F_X4_readStep
    rw [q_letE, if_pos h, pe]
  · unfold F_X4_readStep
    rw [q_letE, if_neg h, q_letE, f4, if_neg hs, pe]
  · unfold F_X4_readStep
    rw [q_letE, if_neg h, q_letE, f4, if_pos hs, blk hb]
    unfold F_X4_readStep_J47_1
    rw [if_neg (by decide), q_letE, f10, if_pos hd]
  · unfold F_X4_readStep
    rw [q_letE, if_neg h, q_letE, f4, if_pos hs, blk hb]
    unfold F_X4_readStep_J47_1
    rw [if_neg (by decide), q_letE, f10, if_neg hd, pe]
  · have w : (F_X8_isWhen X σ (F_X4_actionHere X σ R)).toInt = 0 := by
      unfold F_X8_isWhen
      rw [if_pos (by omega)]
      rfl
    unfold F_X4_readStep
    rw [q_letE, if_neg h, q_letE, f4, if_pos hs, if_neg (by omega), q_letE, w, if_pos rfl]
    unfold F_X4_readStep_J52_3
    rw [if_pos (by decide)]
end RZ
end
/-! FROM 49c.merged.lean.txt -/
section
/-! FROM 49za.readers.lean.txt -/
/-! A ROUND BEING READ: steps with their bodies, the main induction -/
def rd_Q (U : Nat → Int → Int) (c : Int → Int) (s dp : Int) : (Nat → Int → Int) → (Int → Int) → Int → Prop := fun U' c' s' => (∃ m : Nat, fl (uV U') (uc c') m s s' (U 0 2) (U' 0 2)) ∧ rd_p U U' c c' (U 0 2) s dp
section RA
variable {X : XW} {lb : Nat → Nat} {R T a g : Nat} {σ τ σ1 τ1 σ' τ' : ST} {n dp s L : Int} {B c c1 w : Int → Int} {U U1 Vg : Nat → Int → Int} {Q Q1 : (Nat → Int → Int) → (Int → Int) → Int → Prop}
theorem rA_tr {k1 : Nat} (h1 : ∀ (fu : Nat) (i : Int32), 0 ≤ i.toInt → i.toInt ≤ (τ.1 a 15).toInt → ∃ i' : Int32, i'.toInt = i.toInt + (k1 : Int) ∧ F_X4_takes_L21_1 X R (q_rf X g 0) (fu + k1) i σ = F_X4_takes_L21_1 X R (q_rf X g 0) fu i' σ1) (p1 : (τ.1 a 15).toInt + (k1 : Int) ≤ (τ1.1 a 15).toInt) (f1 : rd_Fr X R a σ σ1 τ τ1) (A : rd_A X R T a g n B Vg w σ1 τ1 τ' U1 c1 dp Q1) (hQ : ∀ U' c' s', Q1 U' c' s' → Q U' c' s') : rd_A X R T a g n B Vg w σ τ τ' U c dp Q := by
  obtain ⟨k, hk, A⟩ := A
  refine ⟨k + k1, by omega, ?_⟩
  rcases A with ⟨σ2, U2, c2, s2, e2, I2, Z2, F2, q2, p2⟩ | ⟨σ2, e2, F2, f2, b2⟩
  · refine Or.inl ⟨σ2, U2, c2, s2, fun fu i i0 i1 => ?_, I2, Z2, f1.tr F2, hQ _ _ _ q2, by rw [Int.natCast_add]; omega⟩
    obtain ⟨i', hi, e⟩ := h1 (fu + k) i i0 i1
    obtain ⟨i2, hi2, e3⟩ := e2 fu i' (by omega) (by omega)
    refine ⟨i2, by rw [hi2, hi, Int.natCast_add]; omega, ?_⟩
    rw [← Nat.add_assoc, e, e3]
  · refine Or.inr ⟨σ2, fun fu i i0 i1 => ?_, F2, f1.tr f2, by rw [Int.natCast_add]; omega⟩
    obtain ⟨i', hi, e⟩ := h1 (fu + k) i i0 i1
    rw [← Nat.add_assoc, e]
    exact e2 fu i' (by omega) (by omega)
theorem rA_1 (I : rd_I X R T a g n B Vg w σ τ U dp c s) (hn : n ≤ 300) (ht : ¬ (τ.1 a 14).toInt = 0) (he : (F_X12_isEnd X τ a).toInt = 0) {z : Int32} (e : F_X4_readStep X σ R (q_rf X g 0) = (z, σ1)) (hz : z.toInt = 1) (fu : Nat) (i : Int32) (i0 : 0 ≤ i.toInt) (i1 : i.toInt ≤ (τ.1 a 15).toInt) : ∃ i' : Int32, i'.toInt = i.toInt + ((1 : Nat) : Int) ∧ F_X4_takes_L21_1 X R (q_rf X g 0) (fu + 1) i σ = F_X4_takes_L21_1 X R (q_rf X g 0) fu i' σ1 := by
  have kb := I.2.2.1.b
  have one : (1 : Int32).toInt = 1 := rfl
  refine ⟨i + 1, by rw [ar_add, one, ar_wr (by omega) (by omega)]; rfl, ?_⟩
  rw [lc_step I hn ht he fu i i1, e, q_biP z σ1, if_neg (by omega), q_letE]
theorem rA_0f (I : rd_I X R T a g n B Vg w σ τ U dp c s) (hn : n ≤ 300) (ht : ¬ (τ.1 a 14).toInt = 0) (he : (F_X12_isEnd X τ a).toInt = 0) {z : Int32} (e : F_X4_readStep X σ R (q_rf X g 0) = (z, σ')) (hz : z.toInt = 0) (f : tl_F σ' R τ' a) (F : rd_Fr X R a σ σ' τ τ') : rd_A X R T a g n B Vg w σ τ τ' U c dp Q := by
  have kb := I.2.2.1.b
  refine ⟨1, Nat.le_refl _, Or.inr ⟨σ', fun fu i i0 i1 => ?_, f, F, by omega⟩⟩
  rw [lc_step I hn ht he fu i i1, e, q_biP z σ', if_pos hz]
theorem rA_1f (I : rd_I X R T a g n B Vg w σ τ U dp c s) (hn : n ≤ 300) (ht : ¬ (τ.1 a 14).toInt = 0) (he : (F_X12_isEnd X τ a).toInt = 0) {z : Int32} (e : F_X4_readStep X σ R (q_rf X g 0) = (z, σ1)) (hz : z.toInt = 1) {s1 dp1 : Int} (I1 : rd_I X R T a g n B Vg w σ1 τ1 U1 dp1 c1 s1) (Z1 : rd_Z U1 s1 dp1) (F : rd_Fr X R a σ σ1 τ τ1) (q : Q U1 c1 s1) (p : (τ.1 a 15).toInt < (τ1.1 a 15).toInt) : rd_A X R T a g n B Vg w σ τ τ1 U c dp1 Q :=
  ⟨1, Nat.le_refl _, Or.inl ⟨σ1, U1, c1, s1, fun fu i i0 i1 => rA_1 I hn ht he e hz fu i i0 i1, I1, Z1, F, q, by omega⟩⟩
/-- a flat step in the round's relation -/
theorem fl_one {V : Nat → Int → Int} {c : Int → Int} {s l : Int} (h : st_l V c s l) (h3 : c (656 + 9 * s) ≠ 3 ∧ c (656 + 9 * s) ≠ 4) (h8 : c (656 + 9 * s + 8) = s + 1) : fl V c 1 s (s + 1) l (l + 1) := Or.inr ⟨by omega, h, Or.inl ⟨h3.1, h3.2, h8, rfl, rfl⟩⟩
theorem uc_e (c : Int → Int) (j : Int) : uc c j = c (3720 + j) := rfl
/-- the reference's last write of a step -/
theorem rd_w8 (hT : q_T X) (ha : q_kd X a = 12) {s0 : Int} (I : rd_I X R T a g n B Vg w σ τ U dp c s) {z : Int32} (hz : z.toInt = 4376 + 9 * s0) (h0 : 0 ≤ s0 ∧ s0 ≤ 30) : rd_I X R T a g n B Vg w σ (q_si τ (q_rf X a 20) (z + 8).toNatClampNeg (τ.1 a 27)) U dp (m_up c (4376 + 9 * s0 + 8) s) s ∧ (z + 8).toInt = 4376 + 9 * s0 + 8 ∧ tl_same a τ (q_si τ (q_rf X a 20) (z + 8).toNatClampNeg (τ.1 a 27)) := by
  obtain ⟨S, M, K, h, hV⟩ := I
  have e8 : (8 : Int32).toInt = 8 := rfl
  have zz : (z + 8).toInt = 4376 + 9 * s0 + 8 := by rw [ar_add, e8, ar_wr (by omega) (by omega), hz]
  obtain ⟨M1, t1⟩ := M.cw hT ha zz (v := τ.1 a 27) (by omega)
  have fs : (τ.1 a 27).toInt = s := M.2.2.2.1
  rw [fs] at M1
  have na : a ≠ q_rf X a 20 := Ne.symm (m_ne (tb_k hT ha).1 ha (by decide))
  exact ⟨⟨S, M1, K.same (fun _ _ _ => rfl) t1, by rw [q_si_ne na]; exact h, hV⟩, zz, t1⟩
theorem rd_p.w8 {U U' : Nat → Int → Int} {c c' : Int → Int} {L s dp s0 v : Int} (h : rd_p U U' c c' L s dp) (hs : s ≤ s0) : rd_p U U' c (m_up c' (4376 + 9 * s0 + 8) v) L s dp := ⟨h.1, h.2.1, fun j q => by rw [m_up_ne (by omega)]; exact h.2.2 j q⟩
/-- a flat step done by both -/
theorem rA_flat (hT : q_T X) (ha : q_kd X a = 12) (I : rd_I X R T a g n B Vg w σ τ U dp c s) (hn : n ≤ 300) (hZ : rd_Z U s dp) (hs : s < 30) (ht : ¬ (τ.1 a 14).toInt = 0) (he : (F_X12_isEnd X τ a).toInt = 0) {k : Int} (hk : k ≠ 3 ∧ k ≠ 4) {z r : Int32} (e : F_X4_readStep X σ R (q_rf X g 0) = (z, σ')) (hz : r.toInt = 4376 + 9 * s) (O : hd_O X R T a g n B Vg w dp s (y_up (y_up U 0 2 (U 0 2 + 1)) 0 1 (s + 1)) c (U 0 2) k σ τ z σ' τ1) : rd_A X R T a g n B Vg w σ τ (q_si τ1 (q_rf X a 20) (r + 8).toNatClampNeg (τ1.1 a 27)) U c dp (rd_Q U c s dp) := by
  obtain ⟨z1, z2, z3, z4, z5, z6, z7⟩ := hZ
  have e8 : (8 : Int32).toInt = 8 := rfl
  have zz : (r + 8).toInt = 4376 + 9 * s + 8 := by rw [ar_add, e8, ar_wr (by omega) (by omega), hz]
  obtain ⟨F, O⟩ := O
  have Fw := F.tr (rd_Fr.cw (R := R) (τ := τ1) (v := τ1.1 a 27) hT ha rd_F.rf zz (by omega))
  rcases O with ⟨o1, ⟨U', c', I', p1, p2, p3⟩, o3⟩ | ⟨o1, o2⟩
  · obtain ⟨Iw, -, tw⟩ := rd_w8 hT ha I' hz ⟨z4, z5⟩
    obtain ⟨x1, x2⟩ := p1
    have u2 : U' 0 2 = U 0 2 + 1 := by rw [x1 0 2 (Or.inl rfl), y_up_ne (Or.inr (by decide)), y_up_eq]
    have u1 : U' 0 1 = s + 1 := by rw [x1 0 1 (Or.inl rfl), y_up_eq]
    have un : ∀ (id : Nat) (i : Int), id = 2 ∨ id = 6 ∨ 1 ≤ id ∧ i ≠ U 0 2 → U' id i = U id i := fun id i h => by rw [x1 id i (by omega), y_up_ne (Or.inl (by omega)), y_up_ne (Or.inl (by omega))]
    refine rA_1f I hn ht he e o1 Iw ⟨u1, by omega, by omega, by omega, by omega, z6, z7⟩ Fw ⟨⟨1, ?_⟩, ?_⟩ (by rw [tw.1 15 (by decide) (by decide)]; exact o3)
    · rw [u2]
      refine fl_one (p3.y (fun id _ => rfl) (fun j j0 j1 => ?_)) ?_ ?_
      · rw [uc_e, uc_e, m_up_ne (by omega)]
      · rw [uc_e, m_up_ne (by omega), (by omega : 3720 + (656 + 9 * s) = 4376 + 9 * s), p2]
        exact hk
      · rw [uc_e, (by omega : 3720 + (656 + 9 * s + 8) = 4376 + 9 * s + 8), m_up_eq]
    · exact ⟨fun id i a b q => un id i (by omega), fun i q => un 6 i (by omega), fun j q => by rw [m_up_ne (by omega), x2 j (by omega)]⟩
  · exact rA_0f I hn ht he e o1 (o2.tab hT ha _ _) Fw

/-- a step with all that belongs to it, 0 bodies deep at most -/
theorem rA_s0 (Y : y_S X lb) (D : rd_D X lb R T) (ha : q_kd X a = 12) (G : y_G X lb g 1) (hn : n ≤ 300) (v : Int32) (I : rd_I X R T a g n B Vg w σ τ U dp c s) (hZ : rd_Z U s dp) (hP6 : 0 ≤ c 2 ∧ c 2 ≤ 6) (hP : Vg 1 4 = c 2) (N : y_nm Vg w 0 (c 2)) (hv : v.toInt = dp) (hd : dp = 3 - 0) (ht : ¬ (τ.1 a 14).toInt = 0) (he : (F_X12_isEnd X τ a).toInt = 0) : rd_A X R T a g n B Vg w σ τ (F_X12_readStep_d0 X τ a v) U c dp (rd_Q U c s dp) := by
  obtain ⟨c1, c2, c3, c4, c5⟩ := cl_step I hZ.1
  have ra := rd_act I
  have I0 := I
  have Z0 := hZ
  obtain ⟨S, M, Kk, h0, hV⟩ := I0
  obtain ⟨z1, z2, z3, z4, z5, z6, z7⟩ := Z0
  have fs : (τ.1 a 27).toInt = s := M.2.2.2.1
  rw [rs_d_0]
  rcases ra with ⟨r1, r2⟩ | ⟨hk, ty⟩
  · obtain ⟨σ', e, t1, t2, f⟩ := tl_wrong Kk h0
    have e7 := c1 r1
    rw [e] at e7
    rw [rs_a_0 _ _ v (by omega) f.2.1]
    exact rA_0f I hn ht he e7 rfl f (rd_Fr.rd Y.1 ha D S t1 t2)
  · have hk0 := hk
    unfold rd_k at hk0
    by_cases hs : s < 30
    · have s30 : ¬ (τ.1 a 27).toInt = 30 := by omega
      have e9 : (9 : Int32).toInt = 9 := rfl
      have e43 : (4376 : Int32).toInt = 4376 := rfl
      have e8 : (8 : Int32).toInt = 8 := rfl
      have zr : ((4376 : Int32) + 9 * τ.1 a 27).toInt = 4376 + 9 * s := by rw [ar_add, ar_mul, e9, e43, fs, ar_wr (n := 9 * s) (by omega) (by omega), ar_wr (by omega) (by omega)]
      have zz8 : (((4376 : Int32) + 9 * τ.1 a 27) + 8).toInt = 4376 + 9 * s + 8 := by rw [ar_add, e8, zr, ar_wr (by omega) (by omega)]
      by_cases hb : (F_X4_actionHere X σ R).toInt = 4 ∨ (F_X4_actionHere X σ R).toInt = 8
      · have x1 : (if (F_X12_stepWord X τ a).toInt = 3 ∨ (F_X12_stepWord X τ a).toInt = 4 then (1 : Int32) else 0) = 1 := if_pos (by omega)
        obtain ⟨σ', e, t1, t2, f⟩ := tl_fail Kk h0 (by omega) (k := 7) (by decide) (w := τ.1 a 15) rfl
        have e7 := c4 (by omega) hs hb (by omega)
        rw [e] at e7
        rw [rs_c_0 _ _ v h0 (by omega) s30 (by rw [x1]; decide) (by omega) f.2.1]
        exact rA_0f I hn ht he e7 rfl f (rd_Fr.rd Y.1 ha D S t1 t2)
      · have x0 : (if (F_X12_stepWord X τ a).toInt = 3 ∨ (F_X12_stepWord X τ a).toInt = 4 then (1 : Int32) else 0).toInt = 0 := by
          rw [if_neg (by omega)]
          rfl
        obtain ⟨fu, hf, e5⟩ := rs_e_0 (X := X) (a := a) (τ := τ) (F_X12_stepWord X τ a) (if (F_X12_stepWord X τ a).toInt = 3 ∨ (F_X12_stepWord X τ a).toInt = 4 then 1 else 0) v h0 (by omega) s30 (Or.inl x0)
        rw [e5, ls_flat_0 (τ := hd_M X a (F_X12_stepWord X τ a) τ) _ _ v x0 fu (by omega)]
        obtain ⟨z, σ', e6, O⟩ := op_flat Y D ha G I hP6 hP N (r := F_X4_actionHere X σ R) (rk := F_X12_stepWord X τ a) (x64 := 0) z1 rfl ⟨z2, by omega⟩ ⟨z4, hs⟩ ht rfl rfl hk rfl
        have e7 := c5 (by omega) hs (by omega)
        rw [e6] at e7
        exact rA_flat Y.1 ha I hn hZ hs ht he (by omega) e7 zr O
    · obtain ⟨σ', e, t1, t2, f⟩ := tl_fail Kk h0 (by omega) (k := 6) (by decide) (w := τ.1 a 15) rfl
      have e7 := c2 (by omega) hs
      rw [e] at e7
      rw [rs_b_0 _ _ v h0 (by omega) (by omega) f.2.1]
      exact rA_0f I hn ht he e7 rfl f (rd_Fr.rd Y.1 ha D S t1 t2)

/-- a body, read line by line to its end -/
theorem rB_1 (Y : y_S X lb) (D : rd_D X lb R T) (ha : q_kd X a = 12) (G : y_G X lb g 1) (hn : n ≤ 300) (v x3 z : Int32) (hx : ¬ x3.toInt = 0) {s0 l0 : Int} {U0 : Nat → Int → Int} {c0 : Int → Int} (hz : z.toInt = 4376 + 9 * s0) (hv : v.toInt = dp) (hd : dp = 3 - 1) (fu : Nat) : ∀ {σ τ : ST} {U : Nat → Int → Int} {c : Int → Int} {s : Int}, rd_I X R T a g n B Vg w σ τ U (dp + 1) c s → rd_Z U s (dp + 1) → 0 ≤ c 2 ∧ c 2 ≤ 6 → Vg 1 4 = c 2 → y_nm Vg w 0 (c 2) → ((901 - (τ.1 a 15).toInt).toNat + (1 - (0 : Int)).toNat) < fu → 0 ≤ s0 ∧ s0 < s → U 6 dp = l0 → 0 ≤ l0 ∧ l0 < U 0 2 → (∃ m : Nat, fl (uV U) (uc c) m (s0 + 1) s (l0 + 1) (U 0 2)) → st_l (uV U) (uc c) s0 l0 → c (4376 + 9 * s0) = 3 ∨ c (4376 + 9 * s0) = 4 → rd_p U0 U c0 c l0 s0 dp → rd_A X R T a g n B Vg w σ τ (F_X12_readStep_d1_L140_5 X x3 z a v fu τ) U c dp (fun U' c' s' => (∃ m : Nat, fl (uV U') (uc c') m s0 s' l0 (U' 0 2)) ∧ rd_p U0 U' c0 c' l0 s0 dp) := by
  have e8 : (8 : Int32).toInt = 8 := rfl
  induction fu with
  | zero => intro σ τ U c s _ _ _ _ _ hf; omega
  | succ fu ih =>
    intro σ τ U c s I hZ hP6 hP N hf hs0 h6 hl0 hF hst hc hp
    have I0 := I
    have Z0 := hZ
    obtain ⟨S, M, Kk, h0, hV⟩ := I0
    obtain ⟨z1, z2, z3, z4, z5, z6, z7⟩ := Z0
    have kb := Kk.b
    have pk0 := Kk.2.2.2.2.2.2.1
    have zz : (z + 8).toInt = 4376 + 9 * s0 + 8 := by rw [ar_add, e8, hz, ar_wr (by omega) (by omega)]
    have one : (1 : Int32).toInt = 1 := rfl
    have hv1 : (v + 1).toInt = dp + 1 := by rw [ar_add, one, hv, ar_wr (by omega) (by omega)]
    by_cases ht : (τ.1 a 14).toInt = 0
    · -- the text's end
      have he : (F_X12_isEnd X τ a).toInt = 0 := by
        rw [tm_isEnd, if_neg (by omega)]
      rw [ls_rec_1 x3 z v hx fu h0 he, rs_d_0]
      have r2 : (F_X12_stepWord X τ a).toInt = -1 := by
        rcases rd_act I with ⟨r1, r2⟩ | ⟨hk, ty⟩
        · exact r2
        · omega
      obtain ⟨S1, x1⟩ := S.cell D (id := 0) (by decide) 0 1
      have sc1 := rd_same (σ := σ) D (id := 0) (by decide) 0 1
      obtain ⟨σ1, e1⟩ : ∃ t, t = q_si σ (rdA X R 0) 0 1 := ⟨_, rfl⟩
      rw [← e1] at S1 x1 sc1
      obtain ⟨σ', e, t1, t2, f⟩ := tl_wrong (Kk.same sc1 (tl_same.rf (a := a) (τ := τ))) h0
      rw [rs_a_0 _ _ (v + 1) (by omega) f.2.1, ls_bad_1 (τ := F_X12_wrong X τ a) x3 z v hx fu (by omega) f.2.1]
      refine ⟨1, Nat.le_refl _, Or.inr ⟨σ', fun fu i i0 i1 => ?_, f.tab Y.1 ha _ _, ((rd_Fr.cl x1).tr (rd_Fr.rd Y.1 ha D S1 t1 t2)).tr (rd_Fr.cw (R := R) (τ := F_X12_wrong X τ a) (v := (F_X12_wrong X τ a).1 a 27) Y.1 ha rd_F.rf zz (by omega)), by omega⟩⟩
      rw [lc_fin I ht fu i]
      unfold F_X4_takes_E72_3
      rw [q_letE (q_si σ (q_rf X R 8) 0 1)]
      have e1' : σ1 = q_si σ (q_rf X R 8) 0 1 := e1
      rw [← e1', q_letE (σ1.1 R 10)]
      have f10 : (σ1.1 R 10).toInt = dp + 1 := S1.2.2
      rw [if_neg (by omega), e, q_biP (0 : Int32) σ', if_pos (by decide)]
    · by_cases he : (F_X12_isEnd X τ a).toInt = 0
      · rw [ls_rec_1 x3 z v hx fu h0 he]
        have A := rA_s0 Y D ha G hn (v + 1) I hZ hP6 hP N hv1 (by omega) ht he
        obtain ⟨τ1, hτ⟩ : ∃ t, t = F_X12_readStep_d0 X τ a (v + 1) := ⟨_, rfl⟩
        rw [← hτ] at A ⊢
        obtain ⟨k, hk, A⟩ := A
        rcases A with ⟨σ1, U1, c1, s1, e2, I1, Z1, F1, ⟨⟨m1, q1⟩, q2⟩, p1⟩ | ⟨σ1, e2, F2, f2, b2⟩
        · have le := fl_le _ q1
          have hU6 : U1 6 dp = l0 := by rw [q2.2.1 dp (by omega)]; exact h6
          obtain ⟨m, hF⟩ := hF
          have hF1 : fl (uV U1) (uc c1) m (s0 + 1) s (l0 + 1) (U 0 2) := fl_y m (fun id i a1 a2 a3 a4 => q2.1 (id - 17) i (by omega) (by omega) a4) (fun j j0 j1 => q2.2.2 (3720 + j) (by omega)) hF
          have cc : ∀ j : Int, j < 4376 + 9 * s → c1 j = c j := q2.2.2
          exact rA_tr e2 p1 F1 (ih I1 Z1 (by rw [cc 2 (by omega)]; exact hP6) (by rw [cc 2 (by omega)]; exact hP) (by rw [cc 2 (by omega)]; exact N) (by omega) ⟨hs0.1, by omega⟩ hU6 ⟨hl0.1, by omega⟩ ⟨m + m1, fl_app m hF1 q1⟩ (hst.y (fun id h => q2.1 (id - 17) l0 (by omega) (by omega) hl0.2) (fun j j0 j1 => cc (3720 + j) (by omega))) (by rw [cc _ (by omega)]; exact hc) (hp.tr q2 (by omega) (by omega) (by omega))) (fun _ _ _ q => q)
        · rw [ls_bad_1 (τ := τ1) x3 z v hx fu (by omega) F2.2.1]
          exact ⟨k, hk, Or.inr ⟨σ1, e2, F2.tab Y.1 ha _ _, f2.tr (rd_Fr.cw (R := R) (τ := τ1) (v := τ1.1 a 27) Y.1 ha rd_F.rf zz (by omega)), b2⟩⟩
      · -- the body's end
        obtain ⟨τ5, h5⟩ : ∃ t, t = F_X12_must X (F_X12_must X τ a (F_X12_isEnd X τ a)) a (F_X12_isSign X (F_X12_must X τ a (F_X12_isEnd X τ a)) a 59) := ⟨_, rfl⟩
        rw [ls_end_1 x3 z v hx (fu + 1) (by omega) h0 he h5]
        obtain ⟨y, σ', e, F, o⟩ := op_end Y D ha G I ⟨by omega, by omega⟩ rfl ⟨z2, by omega⟩ h6 hl0 he h5
        have Fw := F.tr (rd_Fr.cw (R := R) (τ := τ5) (v := τ5.1 a 27) Y.1 ha rd_F.rf zz (by omega))
        rcases o with ⟨o1, o2, o3⟩ | ⟨o1, o2⟩
        · obtain ⟨Iw, -, tw⟩ := rd_w8 Y.1 ha o2 hz ⟨hs0.1, by omega⟩
          obtain ⟨m, hF⟩ := hF
          obtain ⟨U', hU'⟩ : ∃ t, t = y_up (y_up (y_up (y_up U 1 (U 0 2) 9) 0 2 (U 0 2 + 1)) 2 (U 0 2) l0) 2 l0 (U 0 2) := ⟨_, rfl⟩
          rw [← hU'] at Iw o2
          have u2 : U' 0 2 = U 0 2 + 1 := by rw [hU', y_up_ne (Or.inl (by decide)), y_up_ne (Or.inl (by decide)), y_up_eq]
          have u1 : U' 0 1 = s := by rw [hU', y_up_ne (Or.inl (by decide)), y_up_ne (Or.inl (by decide)), y_up_ne (Or.inr (by decide)), y_up_ne (Or.inl (by decide))]; exact z1
          have un : ∀ (id : Nat) (i : Int), 1 ≤ id → i ≠ U 0 2 → (id ≠ 2 ∨ i ≠ l0) → U' id i = U id i := fun id i a1 a2 a3 => by rw [hU', y_up_ne (by omega), y_up_ne (Or.inr a2), y_up_ne (Or.inl (by omega)), y_up_ne (Or.inr a2)]
          have v1 : U' 1 (U 0 2) = 9 := by rw [hU', y_up_ne (Or.inl (by decide)), y_up_ne (Or.inl (by decide)), y_up_ne (Or.inl (by decide)), y_up_eq]
          have v2 : U' 2 (U 0 2) = l0 := by rw [hU', y_up_ne (Or.inr (by omega)), y_up_eq]
          have v3 : U' 2 l0 = U 0 2 := by rw [hU', y_up_eq]
          refine ⟨1, Nat.le_refl _, Or.inl ⟨σ', U', _, s, fun fu i i0 i1 => ⟨i + 1, by rw [ar_add, one, ar_wr (by omega) (by omega)]; rfl, ?_⟩, Iw, ⟨u1, by omega, by omega, z4, z5, by omega, by omega⟩, Fw, ⟨⟨m + 1, ?_⟩, ?_⟩, by rw [tw.1 15 (by decide) (by decide)]; omega⟩⟩
          · rw [lc_end I hn he fu i i1, e, q_biP y σ', if_neg (by omega), q_letE]
          · have hF1 : fl (uV U') (uc (m_up c (4376 + 9 * s0 + 8) s)) m (s0 + 1) s (l0 + 1) (U 0 2) := fl_y m (fun id i a1 a2 a3 a4 => un (id - 17) i (by omega) (by omega) (by omega)) (fun j j0 j1 => by rw [uc_e, uc_e, m_up_ne (by omega)]) hF
            have lee := fl_le _ hF1
            have c8 : uc (m_up c (4376 + 9 * s0 + 8) s) (656 + 9 * s0 + 8) = s := by rw [uc_e, (by omega : 3720 + (656 + 9 * s0 + 8) = 4376 + 9 * s0 + 8), m_up_eq]
            have c0' : uc (m_up c (4376 + 9 * s0 + 8) s) (656 + 9 * s0) = c (4376 + 9 * s0) := by rw [uc_e, m_up_ne (by omega), (by omega : 3720 + (656 + 9 * s0) = 4376 + 9 * s0)]
            rw [u2]
            refine Or.inr ⟨hs0.2, hst.y (fun id h => un (id - 17) l0 (by omega) (by omega) (by omega)) (fun j j0 j1 => by rw [uc_e, uc_e, m_up_ne (by omega)]), Or.inr ⟨by rw [c0']; exact hc, U 0 2, s, c8, v1, v2, v3, hF1, fl_rf _ _ _ _ _⟩⟩
          · exact ⟨fun id i a1 a2 q => (un id i a1 (by omega) (by omega)).trans (hp.1 id i a1 a2 q), fun i q => by rw [hU', y_up_ne (Or.inl (by decide)), y_up_ne (Or.inl (by decide)), y_up_ne (Or.inl (by decide)), y_up_ne (Or.inl (by decide))]; exact hp.2.1 i q, fun j q => by rw [m_up_ne (by omega)]; exact hp.2.2 j q⟩
        · refine ⟨1, Nat.le_refl _, Or.inr ⟨σ', fun fu i i0 i1 => ?_, o2.tab Y.1 ha _ _, Fw, by omega⟩⟩
          rw [lc_end I hn he fu i i1, e, q_biP y σ', if_pos o1]

/-- a step with all that belongs to it, 1 bodies deep at most -/
theorem rA_s1 (Y : y_S X lb) (D : rd_D X lb R T) (ha : q_kd X a = 12) (G : y_G X lb g 1) (hn : n ≤ 300) (v : Int32) (I : rd_I X R T a g n B Vg w σ τ U dp c s) (hZ : rd_Z U s dp) (hP6 : 0 ≤ c 2 ∧ c 2 ≤ 6) (hP : Vg 1 4 = c 2) (N : y_nm Vg w 0 (c 2)) (hv : v.toInt = dp) (hd : dp = 3 - 1) (ht : ¬ (τ.1 a 14).toInt = 0) (he : (F_X12_isEnd X τ a).toInt = 0) : rd_A X R T a g n B Vg w σ τ (F_X12_readStep_d1 X τ a v) U c dp (rd_Q U c s dp) := by
  obtain ⟨c1, c2, c3, c4, c5⟩ := cl_step I hZ.1
  have ra := rd_act I
  have I0 := I
  have Z0 := hZ
  obtain ⟨S, M, Kk, h0, hV⟩ := I0
  obtain ⟨z1, z2, z3, z4, z5, z6, z7⟩ := Z0
  have fs : (τ.1 a 27).toInt = s := M.2.2.2.1
  rw [rs_d_1]
  rcases ra with ⟨r1, r2⟩ | ⟨hk, ty⟩
  · obtain ⟨σ', e, t1, t2, f⟩ := tl_wrong Kk h0
    have e7 := c1 r1
    rw [e] at e7
    rw [rs_a_1 _ _ v (by omega) f.2.1]
    exact rA_0f I hn ht he e7 rfl f (rd_Fr.rd Y.1 ha D S t1 t2)
  · have hk0 := hk
    unfold rd_k at hk0
    by_cases hs : s < 30
    · have s30 : ¬ (τ.1 a 27).toInt = 30 := by omega
      have e9 : (9 : Int32).toInt = 9 := rfl
      have e43 : (4376 : Int32).toInt = 4376 := rfl
      have e8 : (8 : Int32).toInt = 8 := rfl
      have zr : ((4376 : Int32) + 9 * τ.1 a 27).toInt = 4376 + 9 * s := by rw [ar_add, ar_mul, e9, e43, fs, ar_wr (n := 9 * s) (by omega) (by omega), ar_wr (by omega) (by omega)]
      have zz8 : (((4376 : Int32) + 9 * τ.1 a 27) + 8).toInt = 4376 + 9 * s + 8 := by rw [ar_add, e8, zr, ar_wr (by omega) (by omega)]
      by_cases hb : (F_X4_actionHere X σ R).toInt = 4 ∨ (F_X4_actionHere X σ R).toInt = 8
      · have x1 : (if (F_X12_stepWord X τ a).toInt = 3 ∨ (F_X12_stepWord X τ a).toInt = 4 then (1 : Int32) else 0) = 1 := if_pos (by omega)
        obtain ⟨fu, hf, e5⟩ := rs_e_1 (X := X) (a := a) (τ := τ) (F_X12_stepWord X τ a) (if (F_X12_stepWord X τ a).toInt = 3 ∨ (F_X12_stepWord X τ a).toInt = 4 then 1 else 0) v h0 (by omega) s30 (Or.inr (by omega))
        rw [e5]
        obtain ⟨z, σ', e6, F, O⟩ := op_block Y D ha G I hP6 hP N (r := F_X4_actionHere X σ R) (rk := F_X12_stepWord X τ a) z1 rfl ⟨z2, by omega⟩ ⟨z4, hs⟩ ⟨z6, by omega⟩ ht rfl rfl hk
        have e7 := c3 (by omega) hs hb (by omega)
        rw [e6] at e7
        rcases O with ⟨o1, ⟨U', c', I', ⟨y1, y2⟩, p2, p3⟩, o3⟩ | ⟨o1, o2⟩
        · have u2 : U' 0 2 = U 0 2 + 1 := by rw [y1 0 2 (Or.inl rfl), y_up_ne (Or.inl (by decide)), y_up_ne (Or.inr (by decide)), y_up_eq]
          have u1 : U' 0 1 = s + 1 := by rw [y1 0 1 (Or.inl rfl), y_up_ne (Or.inl (by decide)), y_up_eq]
          have u6 : U' 6 dp = U 0 2 := by rw [y1 6 dp (by omega), y_up_eq]
          have un : ∀ (id : Nat) (i : Int), id = 2 ∨ id = 6 ∧ i < dp ∨ 1 ≤ id ∧ id ≠ 6 ∧ i ≠ U 0 2 → U' id i = U id i := fun id i h => by rw [y1 id i (by omega), y_up_ne (by omega), y_up_ne (Or.inl (by omega)), y_up_ne (Or.inl (by omega))]
          have cc : ∀ j : Int, j < 4376 + 9 * s → c' j = c j := fun j q => y2 j (by omega)
          have hM : ((hd_M X a (F_X12_stepWord X τ a) τ).1 a 12).toInt = 0 := I'.2.2.2.1
          rw [hM] at hf
          refine rA_tr (k1 := 1) (fun fu i i0 i1 => rA_1 I hn ht he e7 o1 fu i i0 i1) (by omega) F (rB_1 Y D ha G hn v _ _ (by rw [x1]; decide) zr hv (by omega) fu I' ⟨u1, by omega, by omega, by omega, by omega, by omega, by omega⟩ (by rw [cc 2 (by omega)]; exact hP6) (by rw [cc 2 (by omega)]; exact hP) (by rw [cc 2 (by omega)]; exact N) hf ⟨z4, by omega⟩ u6 ⟨z2, by omega⟩ ⟨0, by rw [u2]; exact ⟨rfl, rfl⟩⟩ p3 (by rw [p2]; omega) ⟨fun id i a1 a2 a3 => un id i (by omega), fun i q => un 6 i (by omega), cc⟩) (fun _ _ _ q => q)
        · have bad : 0 < ((hd_M X a (F_X12_stepWord X τ a) τ).1 a 12).toInt := o2.2.1
          rw [ls_bad_1 (τ := hd_M X a (F_X12_stepWord X τ a) τ) _ _ v (by rw [x1]; decide) fu (by omega) bad]
          exact rA_0f I hn ht he e7 o1 (o2.tab Y.1 ha _ _) (F.tr (rd_Fr.cw (R := R) (τ := hd_M X a (F_X12_stepWord X τ a) τ) (v := (hd_M X a (F_X12_stepWord X τ a) τ).1 a 27) Y.1 ha rd_F.rf zz8 (by omega)))
      · have x0 : (if (F_X12_stepWord X τ a).toInt = 3 ∨ (F_X12_stepWord X τ a).toInt = 4 then (1 : Int32) else 0).toInt = 0 := by
          rw [if_neg (by omega)]
          rfl
        obtain ⟨fu, hf, e5⟩ := rs_e_1 (X := X) (a := a) (τ := τ) (F_X12_stepWord X τ a) (if (F_X12_stepWord X τ a).toInt = 3 ∨ (F_X12_stepWord X τ a).toInt = 4 then 1 else 0) v h0 (by omega) s30 (Or.inl x0)
        rw [e5, ls_flat_1 (τ := hd_M X a (F_X12_stepWord X τ a) τ) _ _ v x0 fu (by omega)]
        obtain ⟨z, σ', e6, O⟩ := op_flat Y D ha G I hP6 hP N (r := F_X4_actionHere X σ R) (rk := F_X12_stepWord X τ a) (x64 := 0) z1 rfl ⟨z2, by omega⟩ ⟨z4, hs⟩ ht rfl rfl hk rfl
        have e7 := c5 (by omega) hs (by omega)
        rw [e6] at e7
        exact rA_flat Y.1 ha I hn hZ hs ht he (by omega) e7 zr O
    · obtain ⟨σ', e, t1, t2, f⟩ := tl_fail Kk h0 (by omega) (k := 6) (by decide) (w := τ.1 a 15) rfl
      have e7 := c2 (by omega) hs
      rw [e] at e7
      rw [rs_b_1 _ _ v h0 (by omega) (by omega) f.2.1]
      exact rA_0f I hn ht he e7 rfl f (rd_Fr.rd Y.1 ha D S t1 t2)

/-- a body, read line by line to its end -/
theorem rB_2 (Y : y_S X lb) (D : rd_D X lb R T) (ha : q_kd X a = 12) (G : y_G X lb g 1) (hn : n ≤ 300) (v x3 z : Int32) (hx : ¬ x3.toInt = 0) {s0 l0 : Int} {U0 : Nat → Int → Int} {c0 : Int → Int} (hz : z.toInt = 4376 + 9 * s0) (hv : v.toInt = dp) (hd : dp = 3 - 2) (fu : Nat) : ∀ {σ τ : ST} {U : Nat → Int → Int} {c : Int → Int} {s : Int}, rd_I X R T a g n B Vg w σ τ U (dp + 1) c s → rd_Z U s (dp + 1) → 0 ≤ c 2 ∧ c 2 ≤ 6 → Vg 1 4 = c 2 → y_nm Vg w 0 (c 2) → ((901 - (τ.1 a 15).toInt).toNat + (1 - (0 : Int)).toNat) < fu → 0 ≤ s0 ∧ s0 < s → U 6 dp = l0 → 0 ≤ l0 ∧ l0 < U 0 2 → (∃ m : Nat, fl (uV U) (uc c) m (s0 + 1) s (l0 + 1) (U 0 2)) → st_l (uV U) (uc c) s0 l0 → c (4376 + 9 * s0) = 3 ∨ c (4376 + 9 * s0) = 4 → rd_p U0 U c0 c l0 s0 dp → rd_A X R T a g n B Vg w σ τ (F_X12_readStep_d2_L140_5 X x3 z a v fu τ) U c dp (fun U' c' s' => (∃ m : Nat, fl (uV U') (uc c') m s0 s' l0 (U' 0 2)) ∧ rd_p U0 U' c0 c' l0 s0 dp) := by
  have e8 : (8 : Int32).toInt = 8 := rfl
  induction fu with
  | zero => intro σ τ U c s _ _ _ _ _ hf; omega
  | succ fu ih =>
    intro σ τ U c s I hZ hP6 hP N hf hs0 h6 hl0 hF hst hc hp
    have I0 := I
    have Z0 := hZ
    obtain ⟨S, M, Kk, h0, hV⟩ := I0
    obtain ⟨z1, z2, z3, z4, z5, z6, z7⟩ := Z0
    have kb := Kk.b
    have pk0 := Kk.2.2.2.2.2.2.1
    have zz : (z + 8).toInt = 4376 + 9 * s0 + 8 := by rw [ar_add, e8, hz, ar_wr (by omega) (by omega)]
    have one : (1 : Int32).toInt = 1 := rfl
    have hv1 : (v + 1).toInt = dp + 1 := by rw [ar_add, one, hv, ar_wr (by omega) (by omega)]
    by_cases ht : (τ.1 a 14).toInt = 0
    · -- the text's end
      have he : (F_X12_isEnd X τ a).toInt = 0 := by
        rw [tm_isEnd, if_neg (by omega)]
      rw [ls_rec_2 x3 z v hx fu h0 he, rs_d_1]
      have r2 : (F_X12_stepWord X τ a).toInt = -1 := by
        rcases rd_act I with ⟨r1, r2⟩ | ⟨hk, ty⟩
        · exact r2
        · omega
      obtain ⟨S1, x1⟩ := S.cell D (id := 0) (by decide) 0 1
      have sc1 := rd_same (σ := σ) D (id := 0) (by decide) 0 1
      obtain ⟨σ1, e1⟩ : ∃ t, t = q_si σ (rdA X R 0) 0 1 := ⟨_, rfl⟩
      rw [← e1] at S1 x1 sc1
      obtain ⟨σ', e, t1, t2, f⟩ := tl_wrong (Kk.same sc1 (tl_same.rf (a := a) (τ := τ))) h0
      rw [rs_a_1 _ _ (v + 1) (by omega) f.2.1, ls_bad_2 (τ := F_X12_wrong X τ a) x3 z v hx fu (by omega) f.2.1]
      refine ⟨1, Nat.le_refl _, Or.inr ⟨σ', fun fu i i0 i1 => ?_, f.tab Y.1 ha _ _, ((rd_Fr.cl x1).tr (rd_Fr.rd Y.1 ha D S1 t1 t2)).tr (rd_Fr.cw (R := R) (τ := F_X12_wrong X τ a) (v := (F_X12_wrong X τ a).1 a 27) Y.1 ha rd_F.rf zz (by omega)), by omega⟩⟩
      rw [lc_fin I ht fu i]
      unfold F_X4_takes_E72_3
      rw [q_letE (q_si σ (q_rf X R 8) 0 1)]
      have e1' : σ1 = q_si σ (q_rf X R 8) 0 1 := e1
      rw [← e1', q_letE (σ1.1 R 10)]
      have f10 : (σ1.1 R 10).toInt = dp + 1 := S1.2.2
      rw [if_neg (by omega), e, q_biP (0 : Int32) σ', if_pos (by decide)]
    · by_cases he : (F_X12_isEnd X τ a).toInt = 0
      · rw [ls_rec_2 x3 z v hx fu h0 he]
        have A := rA_s1 Y D ha G hn (v + 1) I hZ hP6 hP N hv1 (by omega) ht he
        obtain ⟨τ1, hτ⟩ : ∃ t, t = F_X12_readStep_d1 X τ a (v + 1) := ⟨_, rfl⟩
        rw [← hτ] at A ⊢
        obtain ⟨k, hk, A⟩ := A
        rcases A with ⟨σ1, U1, c1, s1, e2, I1, Z1, F1, ⟨⟨m1, q1⟩, q2⟩, p1⟩ | ⟨σ1, e2, F2, f2, b2⟩
        · have le := fl_le _ q1
          have hU6 : U1 6 dp = l0 := by rw [q2.2.1 dp (by omega)]; exact h6
          obtain ⟨m, hF⟩ := hF
          have hF1 : fl (uV U1) (uc c1) m (s0 + 1) s (l0 + 1) (U 0 2) := fl_y m (fun id i a1 a2 a3 a4 => q2.1 (id - 17) i (by omega) (by omega) a4) (fun j j0 j1 => q2.2.2 (3720 + j) (by omega)) hF
          have cc : ∀ j : Int, j < 4376 + 9 * s → c1 j = c j := q2.2.2
          exact rA_tr e2 p1 F1 (ih I1 Z1 (by rw [cc 2 (by omega)]; exact hP6) (by rw [cc 2 (by omega)]; exact hP) (by rw [cc 2 (by omega)]; exact N) (by omega) ⟨hs0.1, by omega⟩ hU6 ⟨hl0.1, by omega⟩ ⟨m + m1, fl_app m hF1 q1⟩ (hst.y (fun id h => q2.1 (id - 17) l0 (by omega) (by omega) hl0.2) (fun j j0 j1 => cc (3720 + j) (by omega))) (by rw [cc _ (by omega)]; exact hc) (hp.tr q2 (by omega) (by omega) (by omega))) (fun _ _ _ q => q)
        · rw [ls_bad_2 (τ := τ1) x3 z v hx fu (by omega) F2.2.1]
          exact ⟨k, hk, Or.inr ⟨σ1, e2, F2.tab Y.1 ha _ _, f2.tr (rd_Fr.cw (R := R) (τ := τ1) (v := τ1.1 a 27) Y.1 ha rd_F.rf zz (by omega)), b2⟩⟩
      · -- the body's end
        obtain ⟨τ5, h5⟩ : ∃ t, t = F_X12_must X (F_X12_must X τ a (F_X12_isEnd X τ a)) a (F_X12_isSign X (F_X12_must X τ a (F_X12_isEnd X τ a)) a 59) := ⟨_, rfl⟩
        rw [ls_end_2 x3 z v hx (fu + 1) (by omega) h0 he h5]
        obtain ⟨y, σ', e, F, o⟩ := op_end Y D ha G I ⟨by omega, by omega⟩ rfl ⟨z2, by omega⟩ h6 hl0 he h5
        have Fw := F.tr (rd_Fr.cw (R := R) (τ := τ5) (v := τ5.1 a 27) Y.1 ha rd_F.rf zz (by omega))
        rcases o with ⟨o1, o2, o3⟩ | ⟨o1, o2⟩
        · obtain ⟨Iw, -, tw⟩ := rd_w8 Y.1 ha o2 hz ⟨hs0.1, by omega⟩
          obtain ⟨m, hF⟩ := hF
          obtain ⟨U', hU'⟩ : ∃ t, t = y_up (y_up (y_up (y_up U 1 (U 0 2) 9) 0 2 (U 0 2 + 1)) 2 (U 0 2) l0) 2 l0 (U 0 2) := ⟨_, rfl⟩
          rw [← hU'] at Iw o2
          have u2 : U' 0 2 = U 0 2 + 1 := by rw [hU', y_up_ne (Or.inl (by decide)), y_up_ne (Or.inl (by decide)), y_up_eq]
          have u1 : U' 0 1 = s := by rw [hU', y_up_ne (Or.inl (by decide)), y_up_ne (Or.inl (by decide)), y_up_ne (Or.inr (by decide)), y_up_ne (Or.inl (by decide))]; exact z1
          have un : ∀ (id : Nat) (i : Int), 1 ≤ id → i ≠ U 0 2 → (id ≠ 2 ∨ i ≠ l0) → U' id i = U id i := fun id i a1 a2 a3 => by rw [hU', y_up_ne (by omega), y_up_ne (Or.inr a2), y_up_ne (Or.inl (by omega)), y_up_ne (Or.inr a2)]
          have v1 : U' 1 (U 0 2) = 9 := by rw [hU', y_up_ne (Or.inl (by decide)), y_up_ne (Or.inl (by decide)), y_up_ne (Or.inl (by decide)), y_up_eq]
          have v2 : U' 2 (U 0 2) = l0 := by rw [hU', y_up_ne (Or.inr (by omega)), y_up_eq]
          have v3 : U' 2 l0 = U 0 2 := by rw [hU', y_up_eq]
          refine ⟨1, Nat.le_refl _, Or.inl ⟨σ', U', _, s, fun fu i i0 i1 => ⟨i + 1, by rw [ar_add, one, ar_wr (by omega) (by omega)]; rfl, ?_⟩, Iw, ⟨u1, by omega, by omega, z4, z5, by omega, by omega⟩, Fw, ⟨⟨m + 1, ?_⟩, ?_⟩, by rw [tw.1 15 (by decide) (by decide)]; omega⟩⟩
          · rw [lc_end I hn he fu i i1, e, q_biP y σ', if_neg (by omega), q_letE]
          · have hF1 : fl (uV U') (uc (m_up c (4376 + 9 * s0 + 8) s)) m (s0 + 1) s (l0 + 1) (U 0 2) := fl_y m (fun id i a1 a2 a3 a4 => un (id - 17) i (by omega) (by omega) (by omega)) (fun j j0 j1 => by rw [uc_e, uc_e, m_up_ne (by omega)]) hF
            have lee := fl_le _ hF1
            have c8 : uc (m_up c (4376 + 9 * s0 + 8) s) (656 + 9 * s0 + 8) = s := by rw [uc_e, (by omega : 3720 + (656 + 9 * s0 + 8) = 4376 + 9 * s0 + 8), m_up_eq]
            have c0' : uc (m_up c (4376 + 9 * s0 + 8) s) (656 + 9 * s0) = c (4376 + 9 * s0) := by rw [uc_e, m_up_ne (by omega), (by omega : 3720 + (656 + 9 * s0) = 4376 + 9 * s0)]
            rw [u2]
            refine Or.inr ⟨hs0.2, hst.y (fun id h => un (id - 17) l0 (by omega) (by omega) (by omega)) (fun j j0 j1 => by rw [uc_e, uc_e, m_up_ne (by omega)]), Or.inr ⟨by rw [c0']; exact hc, U 0 2, s, c8, v1, v2, v3, hF1, fl_rf _ _ _ _ _⟩⟩
          · exact ⟨fun id i a1 a2 q => (un id i a1 (by omega) (by omega)).trans (hp.1 id i a1 a2 q), fun i q => by rw [hU', y_up_ne (Or.inl (by decide)), y_up_ne (Or.inl (by decide)), y_up_ne (Or.inl (by decide)), y_up_ne (Or.inl (by decide))]; exact hp.2.1 i q, fun j q => by rw [m_up_ne (by omega)]; exact hp.2.2 j q⟩
        · refine ⟨1, Nat.le_refl _, Or.inr ⟨σ', fun fu i i0 i1 => ?_, o2.tab Y.1 ha _ _, Fw, by omega⟩⟩
          rw [lc_end I hn he fu i i1, e, q_biP y σ', if_pos o1]

/-- a step with all that belongs to it, 2 bodies deep at most -/
theorem rA_s2 (Y : y_S X lb) (D : rd_D X lb R T) (ha : q_kd X a = 12) (G : y_G X lb g 1) (hn : n ≤ 300) (v : Int32) (I : rd_I X R T a g n B Vg w σ τ U dp c s) (hZ : rd_Z U s dp) (hP6 : 0 ≤ c 2 ∧ c 2 ≤ 6) (hP : Vg 1 4 = c 2) (N : y_nm Vg w 0 (c 2)) (hv : v.toInt = dp) (hd : dp = 3 - 2) (ht : ¬ (τ.1 a 14).toInt = 0) (he : (F_X12_isEnd X τ a).toInt = 0) : rd_A X R T a g n B Vg w σ τ (F_X12_readStep_d2 X τ a v) U c dp (rd_Q U c s dp) := by
  obtain ⟨c1, c2, c3, c4, c5⟩ := cl_step I hZ.1
  have ra := rd_act I
  have I0 := I
  have Z0 := hZ
  obtain ⟨S, M, Kk, h0, hV⟩ := I0
  obtain ⟨z1, z2, z3, z4, z5, z6, z7⟩ := Z0
  have fs : (τ.1 a 27).toInt = s := M.2.2.2.1
  rw [rs_d_2]
  rcases ra with ⟨r1, r2⟩ | ⟨hk, ty⟩
  · obtain ⟨σ', e, t1, t2, f⟩ := tl_wrong Kk h0
    have e7 := c1 r1
    rw [e] at e7
    rw [rs_a_2 _ _ v (by omega) f.2.1]
    exact rA_0f I hn ht he e7 rfl f (rd_Fr.rd Y.1 ha D S t1 t2)
  · have hk0 := hk
    unfold rd_k at hk0
    by_cases hs : s < 30
    · have s30 : ¬ (τ.1 a 27).toInt = 30 := by omega
      have e9 : (9 : Int32).toInt = 9 := rfl
      have e43 : (4376 : Int32).toInt = 4376 := rfl
      have e8 : (8 : Int32).toInt = 8 := rfl
      have zr : ((4376 : Int32) + 9 * τ.1 a 27).toInt = 4376 + 9 * s := by rw [ar_add, ar_mul, e9, e43, fs, ar_wr (n := 9 * s) (by omega) (by omega), ar_wr (by omega) (by omega)]
      have zz8 : (((4376 : Int32) + 9 * τ.1 a 27) + 8).toInt = 4376 + 9 * s + 8 := by rw [ar_add, e8, zr, ar_wr (by omega) (by omega)]
      by_cases hb : (F_X4_actionHere X σ R).toInt = 4 ∨ (F_X4_actionHere X σ R).toInt = 8
      · have x1 : (if (F_X12_stepWord X τ a).toInt = 3 ∨ (F_X12_stepWord X τ a).toInt = 4 then (1 : Int32) else 0) = 1 := if_pos (by omega)
        obtain ⟨fu, hf, e5⟩ := rs_e_2 (X := X) (a := a) (τ := τ) (F_X12_stepWord X τ a) (if (F_X12_stepWord X τ a).toInt = 3 ∨ (F_X12_stepWord X τ a).toInt = 4 then 1 else 0) v h0 (by omega) s30 (Or.inr (by omega))
        rw [e5]
        obtain ⟨z, σ', e6, F, O⟩ := op_block Y D ha G I hP6 hP N (r := F_X4_actionHere X σ R) (rk := F_X12_stepWord X τ a) z1 rfl ⟨z2, by omega⟩ ⟨z4, hs⟩ ⟨z6, by omega⟩ ht rfl rfl hk
        have e7 := c3 (by omega) hs hb (by omega)
        rw [e6] at e7
        rcases O with ⟨o1, ⟨U', c', I', ⟨y1, y2⟩, p2, p3⟩, o3⟩ | ⟨o1, o2⟩
        · have u2 : U' 0 2 = U 0 2 + 1 := by rw [y1 0 2 (Or.inl rfl), y_up_ne (Or.inl (by decide)), y_up_ne (Or.inr (by decide)), y_up_eq]
          have u1 : U' 0 1 = s + 1 := by rw [y1 0 1 (Or.inl rfl), y_up_ne (Or.inl (by decide)), y_up_eq]
          have u6 : U' 6 dp = U 0 2 := by rw [y1 6 dp (by omega), y_up_eq]
          have un : ∀ (id : Nat) (i : Int), id = 2 ∨ id = 6 ∧ i < dp ∨ 1 ≤ id ∧ id ≠ 6 ∧ i ≠ U 0 2 → U' id i = U id i := fun id i h => by rw [y1 id i (by omega), y_up_ne (by omega), y_up_ne (Or.inl (by omega)), y_up_ne (Or.inl (by omega))]
          have cc : ∀ j : Int, j < 4376 + 9 * s → c' j = c j := fun j q => y2 j (by omega)
          have hM : ((hd_M X a (F_X12_stepWord X τ a) τ).1 a 12).toInt = 0 := I'.2.2.2.1
          rw [hM] at hf
          refine rA_tr (k1 := 1) (fun fu i i0 i1 => rA_1 I hn ht he e7 o1 fu i i0 i1) (by omega) F (rB_2 Y D ha G hn v _ _ (by rw [x1]; decide) zr hv (by omega) fu I' ⟨u1, by omega, by omega, by omega, by omega, by omega, by omega⟩ (by rw [cc 2 (by omega)]; exact hP6) (by rw [cc 2 (by omega)]; exact hP) (by rw [cc 2 (by omega)]; exact N) hf ⟨z4, by omega⟩ u6 ⟨z2, by omega⟩ ⟨0, by rw [u2]; exact ⟨rfl, rfl⟩⟩ p3 (by rw [p2]; omega) ⟨fun id i a1 a2 a3 => un id i (by omega), fun i q => un 6 i (by omega), cc⟩) (fun _ _ _ q => q)
        · have bad : 0 < ((hd_M X a (F_X12_stepWord X τ a) τ).1 a 12).toInt := o2.2.1
          rw [ls_bad_2 (τ := hd_M X a (F_X12_stepWord X τ a) τ) _ _ v (by rw [x1]; decide) fu (by omega) bad]
          exact rA_0f I hn ht he e7 o1 (o2.tab Y.1 ha _ _) (F.tr (rd_Fr.cw (R := R) (τ := hd_M X a (F_X12_stepWord X τ a) τ) (v := (hd_M X a (F_X12_stepWord X τ a) τ).1 a 27) Y.1 ha rd_F.rf zz8 (by omega)))
      · have x0 : (if (F_X12_stepWord X τ a).toInt = 3 ∨ (F_X12_stepWord X τ a).toInt = 4 then (1 : Int32) else 0).toInt = 0 := by
          rw [if_neg (by omega)]
          rfl
        obtain ⟨fu, hf, e5⟩ := rs_e_2 (X := X) (a := a) (τ := τ) (F_X12_stepWord X τ a) (if (F_X12_stepWord X τ a).toInt = 3 ∨ (F_X12_stepWord X τ a).toInt = 4 then 1 else 0) v h0 (by omega) s30 (Or.inl x0)
        rw [e5, ls_flat_2 (τ := hd_M X a (F_X12_stepWord X τ a) τ) _ _ v x0 fu (by omega)]
        obtain ⟨z, σ', e6, O⟩ := op_flat Y D ha G I hP6 hP N (r := F_X4_actionHere X σ R) (rk := F_X12_stepWord X τ a) (x64 := 0) z1 rfl ⟨z2, by omega⟩ ⟨z4, hs⟩ ht rfl rfl hk rfl
        have e7 := c5 (by omega) hs (by omega)
        rw [e6] at e7
        exact rA_flat Y.1 ha I hn hZ hs ht he (by omega) e7 zr O
    · obtain ⟨σ', e, t1, t2, f⟩ := tl_fail Kk h0 (by omega) (k := 6) (by decide) (w := τ.1 a 15) rfl
      have e7 := c2 (by omega) hs
      rw [e] at e7
      rw [rs_b_2 _ _ v h0 (by omega) (by omega) f.2.1]
      exact rA_0f I hn ht he e7 rfl f (rd_Fr.rd Y.1 ha D S t1 t2)

/-- a body, read line by line to its end -/
theorem rB_3 (Y : y_S X lb) (D : rd_D X lb R T) (ha : q_kd X a = 12) (G : y_G X lb g 1) (hn : n ≤ 300) (v x3 z : Int32) (hx : ¬ x3.toInt = 0) {s0 l0 : Int} {U0 : Nat → Int → Int} {c0 : Int → Int} (hz : z.toInt = 4376 + 9 * s0) (hv : v.toInt = dp) (hd : dp = 3 - 3) (fu : Nat) : ∀ {σ τ : ST} {U : Nat → Int → Int} {c : Int → Int} {s : Int}, rd_I X R T a g n B Vg w σ τ U (dp + 1) c s → rd_Z U s (dp + 1) → 0 ≤ c 2 ∧ c 2 ≤ 6 → Vg 1 4 = c 2 → y_nm Vg w 0 (c 2) → ((901 - (τ.1 a 15).toInt).toNat + (1 - (0 : Int)).toNat) < fu → 0 ≤ s0 ∧ s0 < s → U 6 dp = l0 → 0 ≤ l0 ∧ l0 < U 0 2 → (∃ m : Nat, fl (uV U) (uc c) m (s0 + 1) s (l0 + 1) (U 0 2)) → st_l (uV U) (uc c) s0 l0 → c (4376 + 9 * s0) = 3 ∨ c (4376 + 9 * s0) = 4 → rd_p U0 U c0 c l0 s0 dp → rd_A X R T a g n B Vg w σ τ (F_X12_readStep_d3_L140_5 X x3 z a v fu τ) U c dp (fun U' c' s' => (∃ m : Nat, fl (uV U') (uc c') m s0 s' l0 (U' 0 2)) ∧ rd_p U0 U' c0 c' l0 s0 dp) := by
  have e8 : (8 : Int32).toInt = 8 := rfl
  induction fu with
  | zero => intro σ τ U c s _ _ _ _ _ hf; omega
  | succ fu ih =>
    intro σ τ U c s I hZ hP6 hP N hf hs0 h6 hl0 hF hst hc hp
    have I0 := I
    have Z0 := hZ
    obtain ⟨S, M, Kk, h0, hV⟩ := I0
    obtain ⟨z1, z2, z3, z4, z5, z6, z7⟩ := Z0
    have kb := Kk.b
    have pk0 := Kk.2.2.2.2.2.2.1
    have zz : (z + 8).toInt = 4376 + 9 * s0 + 8 := by rw [ar_add, e8, hz, ar_wr (by omega) (by omega)]
    have one : (1 : Int32).toInt = 1 := rfl
    have hv1 : (v + 1).toInt = dp + 1 := by rw [ar_add, one, hv, ar_wr (by omega) (by omega)]
    by_cases ht : (τ.1 a 14).toInt = 0
    · -- the text's end
      have he : (F_X12_isEnd X τ a).toInt = 0 := by
        rw [tm_isEnd, if_neg (by omega)]
      rw [ls_rec_3 x3 z v hx fu h0 he, rs_d_2]
      have r2 : (F_X12_stepWord X τ a).toInt = -1 := by
        rcases rd_act I with ⟨r1, r2⟩ | ⟨hk, ty⟩
        · exact r2
        · omega
      obtain ⟨S1, x1⟩ := S.cell D (id := 0) (by decide) 0 1
      have sc1 := rd_same (σ := σ) D (id := 0) (by decide) 0 1
      obtain ⟨σ1, e1⟩ : ∃ t, t = q_si σ (rdA X R 0) 0 1 := ⟨_, rfl⟩
      rw [← e1] at S1 x1 sc1
      obtain ⟨σ', e, t1, t2, f⟩ := tl_wrong (Kk.same sc1 (tl_same.rf (a := a) (τ := τ))) h0
      rw [rs_a_2 _ _ (v + 1) (by omega) f.2.1, ls_bad_3 (τ := F_X12_wrong X τ a) x3 z v hx fu (by omega) f.2.1]
      refine ⟨1, Nat.le_refl _, Or.inr ⟨σ', fun fu i i0 i1 => ?_, f.tab Y.1 ha _ _, ((rd_Fr.cl x1).tr (rd_Fr.rd Y.1 ha D S1 t1 t2)).tr (rd_Fr.cw (R := R) (τ := F_X12_wrong X τ a) (v := (F_X12_wrong X τ a).1 a 27) Y.1 ha rd_F.rf zz (by omega)), by omega⟩⟩
      rw [lc_fin I ht fu i]
      unfold F_X4_takes_E72_3
      rw [q_letE (q_si σ (q_rf X R 8) 0 1)]
      have e1' : σ1 = q_si σ (q_rf X R 8) 0 1 := e1
      rw [← e1', q_letE (σ1.1 R 10)]
      have f10 : (σ1.1 R 10).toInt = dp + 1 := S1.2.2
      rw [if_neg (by omega), e, q_biP (0 : Int32) σ', if_pos (by decide)]
    · by_cases he : (F_X12_isEnd X τ a).toInt = 0
      · rw [ls_rec_3 x3 z v hx fu h0 he]
        have A := rA_s2 Y D ha G hn (v + 1) I hZ hP6 hP N hv1 (by omega) ht he
        obtain ⟨τ1, hτ⟩ : ∃ t, t = F_X12_readStep_d2 X τ a (v + 1) := ⟨_, rfl⟩
        rw [← hτ] at A ⊢
        obtain ⟨k, hk, A⟩ := A
        rcases A with ⟨σ1, U1, c1, s1, e2, I1, Z1, F1, ⟨⟨m1, q1⟩, q2⟩, p1⟩ | ⟨σ1, e2, F2, f2, b2⟩
        · have le := fl_le _ q1
          have hU6 : U1 6 dp = l0 := by rw [q2.2.1 dp (by omega)]; exact h6
          obtain ⟨m, hF⟩ := hF
          have hF1 : fl (uV U1) (uc c1) m (s0 + 1) s (l0 + 1) (U 0 2) := fl_y m (fun id i a1 a2 a3 a4 => q2.1 (id - 17) i (by omega) (by omega) a4) (fun j j0 j1 => q2.2.2 (3720 + j) (by omega)) hF
          have cc : ∀ j : Int, j < 4376 + 9 * s → c1 j = c j := q2.2.2
          exact rA_tr e2 p1 F1 (ih I1 Z1 (by rw [cc 2 (by omega)]; exact hP6) (by rw [cc 2 (by omega)]; exact hP) (by rw [cc 2 (by omega)]; exact N) (by omega) ⟨hs0.1, by omega⟩ hU6 ⟨hl0.1, by omega⟩ ⟨m + m1, fl_app m hF1 q1⟩ (hst.y (fun id h => q2.1 (id - 17) l0 (by omega) (by omega) hl0.2) (fun j j0 j1 => cc (3720 + j) (by omega))) (by rw [cc _ (by omega)]; exact hc) (hp.tr q2 (by omega) (by omega) (by omega))) (fun _ _ _ q => q)
        · rw [ls_bad_3 (τ := τ1) x3 z v hx fu (by omega) F2.2.1]
          exact ⟨k, hk, Or.inr ⟨σ1, e2, F2.tab Y.1 ha _ _, f2.tr (rd_Fr.cw (R := R) (τ := τ1) (v := τ1.1 a 27) Y.1 ha rd_F.rf zz (by omega)), b2⟩⟩
      · -- the body's end
        obtain ⟨τ5, h5⟩ : ∃ t, t = F_X12_must X (F_X12_must X τ a (F_X12_isEnd X τ a)) a (F_X12_isSign X (F_X12_must X τ a (F_X12_isEnd X τ a)) a 59) := ⟨_, rfl⟩
        rw [ls_end_3 x3 z v hx (fu + 1) (by omega) h0 he h5]
        obtain ⟨y, σ', e, F, o⟩ := op_end Y D ha G I ⟨by omega, by omega⟩ rfl ⟨z2, by omega⟩ h6 hl0 he h5
        have Fw := F.tr (rd_Fr.cw (R := R) (τ := τ5) (v := τ5.1 a 27) Y.1 ha rd_F.rf zz (by omega))
        rcases o with ⟨o1, o2, o3⟩ | ⟨o1, o2⟩
        · obtain ⟨Iw, -, tw⟩ := rd_w8 Y.1 ha o2 hz ⟨hs0.1, by omega⟩
          obtain ⟨m, hF⟩ := hF
          obtain ⟨U', hU'⟩ : ∃ t, t = y_up (y_up (y_up (y_up U 1 (U 0 2) 9) 0 2 (U 0 2 + 1)) 2 (U 0 2) l0) 2 l0 (U 0 2) := ⟨_, rfl⟩
          rw [← hU'] at Iw o2
          have u2 : U' 0 2 = U 0 2 + 1 := by rw [hU', y_up_ne (Or.inl (by decide)), y_up_ne (Or.inl (by decide)), y_up_eq]
          have u1 : U' 0 1 = s := by rw [hU', y_up_ne (Or.inl (by decide)), y_up_ne (Or.inl (by decide)), y_up_ne (Or.inr (by decide)), y_up_ne (Or.inl (by decide))]; exact z1
          have un : ∀ (id : Nat) (i : Int), 1 ≤ id → i ≠ U 0 2 → (id ≠ 2 ∨ i ≠ l0) → U' id i = U id i := fun id i a1 a2 a3 => by rw [hU', y_up_ne (by omega), y_up_ne (Or.inr a2), y_up_ne (Or.inl (by omega)), y_up_ne (Or.inr a2)]
          have v1 : U' 1 (U 0 2) = 9 := by rw [hU', y_up_ne (Or.inl (by decide)), y_up_ne (Or.inl (by decide)), y_up_ne (Or.inl (by decide)), y_up_eq]
          have v2 : U' 2 (U 0 2) = l0 := by rw [hU', y_up_ne (Or.inr (by omega)), y_up_eq]
          have v3 : U' 2 l0 = U 0 2 := by rw [hU', y_up_eq]
          refine ⟨1, Nat.le_refl _, Or.inl ⟨σ', U', _, s, fun fu i i0 i1 => ⟨i + 1, by rw [ar_add, one, ar_wr (by omega) (by omega)]; rfl, ?_⟩, Iw, ⟨u1, by omega, by omega, z4, z5, by omega, by omega⟩, Fw, ⟨⟨m + 1, ?_⟩, ?_⟩, by rw [tw.1 15 (by decide) (by decide)]; omega⟩⟩
          · rw [lc_end I hn he fu i i1, e, q_biP y σ', if_neg (by omega), q_letE]
          · have hF1 : fl (uV U') (uc (m_up c (4376 + 9 * s0 + 8) s)) m (s0 + 1) s (l0 + 1) (U 0 2) := fl_y m (fun id i a1 a2 a3 a4 => un (id - 17) i (by omega) (by omega) (by omega)) (fun j j0 j1 => by rw [uc_e, uc_e, m_up_ne (by omega)]) hF
            have lee := fl_le _ hF1
            have c8 : uc (m_up c (4376 + 9 * s0 + 8) s) (656 + 9 * s0 + 8) = s := by rw [uc_e, (by omega : 3720 + (656 + 9 * s0 + 8) = 4376 + 9 * s0 + 8), m_up_eq]
            have c0' : uc (m_up c (4376 + 9 * s0 + 8) s) (656 + 9 * s0) = c (4376 + 9 * s0) := by rw [uc_e, m_up_ne (by omega), (by omega : 3720 + (656 + 9 * s0) = 4376 + 9 * s0)]
            rw [u2]
            refine Or.inr ⟨hs0.2, hst.y (fun id h => un (id - 17) l0 (by omega) (by omega) (by omega)) (fun j j0 j1 => by rw [uc_e, uc_e, m_up_ne (by omega)]), Or.inr ⟨by rw [c0']; exact hc, U 0 2, s, c8, v1, v2, v3, hF1, fl_rf _ _ _ _ _⟩⟩
          · exact ⟨fun id i a1 a2 q => (un id i a1 (by omega) (by omega)).trans (hp.1 id i a1 a2 q), fun i q => by rw [hU', y_up_ne (Or.inl (by decide)), y_up_ne (Or.inl (by decide)), y_up_ne (Or.inl (by decide)), y_up_ne (Or.inl (by decide))]; exact hp.2.1 i q, fun j q => by rw [m_up_ne (by omega)]; exact hp.2.2 j q⟩
        · refine ⟨1, Nat.le_refl _, Or.inr ⟨σ', fun fu i i0 i1 => ?_, o2.tab Y.1 ha _ _, Fw, by omega⟩⟩
          rw [lc_end I hn he fu i i1, e, q_biP y σ', if_pos o1]

/-- a step with all that belongs to it, 3 bodies deep at most -/
theorem rA_s3 (Y : y_S X lb) (D : rd_D X lb R T) (ha : q_kd X a = 12) (G : y_G X lb g 1) (hn : n ≤ 300) (v : Int32) (I : rd_I X R T a g n B Vg w σ τ U dp c s) (hZ : rd_Z U s dp) (hP6 : 0 ≤ c 2 ∧ c 2 ≤ 6) (hP : Vg 1 4 = c 2) (N : y_nm Vg w 0 (c 2)) (hv : v.toInt = dp) (hd : dp = 3 - 3) (ht : ¬ (τ.1 a 14).toInt = 0) (he : (F_X12_isEnd X τ a).toInt = 0) : rd_A X R T a g n B Vg w σ τ (F_X12_readStep_d3 X τ a v) U c dp (rd_Q U c s dp) := by
  obtain ⟨c1, c2, c3, c4, c5⟩ := cl_step I hZ.1
  have ra := rd_act I
  have I0 := I
  have Z0 := hZ
  obtain ⟨S, M, Kk, h0, hV⟩ := I0
  obtain ⟨z1, z2, z3, z4, z5, z6, z7⟩ := Z0
  have fs : (τ.1 a 27).toInt = s := M.2.2.2.1
  rw [rs_d_3]
  rcases ra with ⟨r1, r2⟩ | ⟨hk, ty⟩
  · obtain ⟨σ', e, t1, t2, f⟩ := tl_wrong Kk h0
    have e7 := c1 r1
    rw [e] at e7
    rw [rs_a_3 _ _ v (by omega) f.2.1]
    exact rA_0f I hn ht he e7 rfl f (rd_Fr.rd Y.1 ha D S t1 t2)
  · have hk0 := hk
    unfold rd_k at hk0
    by_cases hs : s < 30
    · have s30 : ¬ (τ.1 a 27).toInt = 30 := by omega
      have e9 : (9 : Int32).toInt = 9 := rfl
      have e43 : (4376 : Int32).toInt = 4376 := rfl
      have e8 : (8 : Int32).toInt = 8 := rfl
      have zr : ((4376 : Int32) + 9 * τ.1 a 27).toInt = 4376 + 9 * s := by rw [ar_add, ar_mul, e9, e43, fs, ar_wr (n := 9 * s) (by omega) (by omega), ar_wr (by omega) (by omega)]
      have zz8 : (((4376 : Int32) + 9 * τ.1 a 27) + 8).toInt = 4376 + 9 * s + 8 := by rw [ar_add, e8, zr, ar_wr (by omega) (by omega)]
      by_cases hb : (F_X4_actionHere X σ R).toInt = 4 ∨ (F_X4_actionHere X σ R).toInt = 8
      · have x1 : (if (F_X12_stepWord X τ a).toInt = 3 ∨ (F_X12_stepWord X τ a).toInt = 4 then (1 : Int32) else 0) = 1 := if_pos (by omega)
        obtain ⟨fu, hf, e5⟩ := rs_e_3 (X := X) (a := a) (τ := τ) (F_X12_stepWord X τ a) (if (F_X12_stepWord X τ a).toInt = 3 ∨ (F_X12_stepWord X τ a).toInt = 4 then 1 else 0) v h0 (by omega) s30 (Or.inr (by omega))
        rw [e5]
        obtain ⟨z, σ', e6, F, O⟩ := op_block Y D ha G I hP6 hP N (r := F_X4_actionHere X σ R) (rk := F_X12_stepWord X τ a) z1 rfl ⟨z2, by omega⟩ ⟨z4, hs⟩ ⟨z6, by omega⟩ ht rfl rfl hk
        have e7 := c3 (by omega) hs hb (by omega)
        rw [e6] at e7
        rcases O with ⟨o1, ⟨U', c', I', ⟨y1, y2⟩, p2, p3⟩, o3⟩ | ⟨o1, o2⟩
        · have u2 : U' 0 2 = U 0 2 + 1 := by rw [y1 0 2 (Or.inl rfl), y_up_ne (Or.inl (by decide)), y_up_ne (Or.inr (by decide)), y_up_eq]
          have u1 : U' 0 1 = s + 1 := by rw [y1 0 1 (Or.inl rfl), y_up_ne (Or.inl (by decide)), y_up_eq]
          have u6 : U' 6 dp = U 0 2 := by rw [y1 6 dp (by omega), y_up_eq]
          have un : ∀ (id : Nat) (i : Int), id = 2 ∨ id = 6 ∧ i < dp ∨ 1 ≤ id ∧ id ≠ 6 ∧ i ≠ U 0 2 → U' id i = U id i := fun id i h => by rw [y1 id i (by omega), y_up_ne (by omega), y_up_ne (Or.inl (by omega)), y_up_ne (Or.inl (by omega))]
          have cc : ∀ j : Int, j < 4376 + 9 * s → c' j = c j := fun j q => y2 j (by omega)
          have hM : ((hd_M X a (F_X12_stepWord X τ a) τ).1 a 12).toInt = 0 := I'.2.2.2.1
          rw [hM] at hf
          refine rA_tr (k1 := 1) (fun fu i i0 i1 => rA_1 I hn ht he e7 o1 fu i i0 i1) (by omega) F (rB_3 Y D ha G hn v _ _ (by rw [x1]; decide) zr hv (by omega) fu I' ⟨u1, by omega, by omega, by omega, by omega, by omega, by omega⟩ (by rw [cc 2 (by omega)]; exact hP6) (by rw [cc 2 (by omega)]; exact hP) (by rw [cc 2 (by omega)]; exact N) hf ⟨z4, by omega⟩ u6 ⟨z2, by omega⟩ ⟨0, by rw [u2]; exact ⟨rfl, rfl⟩⟩ p3 (by rw [p2]; omega) ⟨fun id i a1 a2 a3 => un id i (by omega), fun i q => un 6 i (by omega), cc⟩) (fun _ _ _ q => q)
        · have bad : 0 < ((hd_M X a (F_X12_stepWord X τ a) τ).1 a 12).toInt := o2.2.1
          rw [ls_bad_3 (τ := hd_M X a (F_X12_stepWord X τ a) τ) _ _ v (by rw [x1]; decide) fu (by omega) bad]
          exact rA_0f I hn ht he e7 o1 (o2.tab Y.1 ha _ _) (F.tr (rd_Fr.cw (R := R) (τ := hd_M X a (F_X12_stepWord X τ a) τ) (v := (hd_M X a (F_X12_stepWord X τ a) τ).1 a 27) Y.1 ha rd_F.rf zz8 (by omega)))
      · have x0 : (if (F_X12_stepWord X τ a).toInt = 3 ∨ (F_X12_stepWord X τ a).toInt = 4 then (1 : Int32) else 0).toInt = 0 := by
          rw [if_neg (by omega)]
          rfl
        obtain ⟨fu, hf, e5⟩ := rs_e_3 (X := X) (a := a) (τ := τ) (F_X12_stepWord X τ a) (if (F_X12_stepWord X τ a).toInt = 3 ∨ (F_X12_stepWord X τ a).toInt = 4 then 1 else 0) v h0 (by omega) s30 (Or.inl x0)
        rw [e5, ls_flat_3 (τ := hd_M X a (F_X12_stepWord X τ a) τ) _ _ v x0 fu (by omega)]
        obtain ⟨z, σ', e6, O⟩ := op_flat Y D ha G I hP6 hP N (r := F_X4_actionHere X σ R) (rk := F_X12_stepWord X τ a) (x64 := 0) z1 rfl ⟨z2, by omega⟩ ⟨z4, hs⟩ ht rfl rfl hk rfl
        have e7 := c5 (by omega) hs (by omega)
        rw [e6] at e7
        exact rA_flat Y.1 ha I hn hZ hs ht he (by omega) e7 zr O
    · obtain ⟨σ', e, t1, t2, f⟩ := tl_fail Kk h0 (by omega) (k := 6) (by decide) (w := τ.1 a 15) rfl
      have e7 := c2 (by omega) hs
      rw [e] at e7
      rw [rs_b_3 _ _ v h0 (by omega) (by omega) f.2.1]
      exact rA_0f I hn ht he e7 rfl f (rd_Fr.rd Y.1 ha D S t1 t2)

end RA

/-! FROM 49zb.top.lean.txt -/
/-! A ROUND BEING READ: the whole text -/
section RB
variable {X : XW} {lb : Nat → Nat} {R T a g : Nat} {n : Int} {B w : Int → Int} {Vg : Nat → Int → Int}
/-- what the reading of a whole text comes to -/
def rT_O (X : XW) (R T a g : Nat) (n : Int) (B : Int → Int) (Vg : Nat → Int → Int) (w : Int → Int) (σ τ : ST) (U : Nat → Int → Int) (c : Int → Int) (s : Int) (τ' : ST) : Prop := ∃ (k : Nat) (σ' : ST), (τ.1 a 15).toInt + (k : Int) ≤ 301 ∧
  (((∀ (fu : Nat) (i : Int32), 0 ≤ i.toInt → i.toInt ≤ (τ.1 a 15).toInt → F_X4_takes_L21_1 X R (q_rf X g 0) (fu + k) i σ = (1, σ')) ∧ (∃ (U' : Nat → Int → Int) (c' : Int → Int) (s' : Int), rd_I X R T a g n B Vg w σ' τ' U' 0 c' s' ∧ rd_Z U' s' 0 ∧ U' 0 0 = 1 ∧ (∃ m : Nat, fl (uV U') (uc c') m s s' (U 0 2) (U' 0 2)) ∧ rd_p U U' c c' (U 0 2) s 0) ∧ rd_Fr X R a σ σ' τ τ') ∨
   ((∀ (fu : Nat) (i : Int32), 0 ≤ i.toInt → i.toInt ≤ (τ.1 a 15).toInt → F_X4_takes_L21_1 X R (q_rf X g 0) (fu + k) i σ = (0, σ')) ∧ tl_F σ' R τ' a ∧ rd_Fr X R a σ σ' τ τ'))
theorem rT (Y : y_S X lb) (D : rd_D X lb R T) (ha : q_kd X a = 12) (G : y_G X lb g 1) (hn : n ≤ 300) (fu : Nat) : ∀ {σ τ : ST} {U : Nat → Int → Int} {c : Int → Int} {s : Int}, rd_I X R T a g n B Vg w σ τ U 0 c s → rd_Z U s 0 → 0 ≤ c 2 ∧ c 2 ≤ 6 → Vg 1 4 = c 2 → y_nm Vg w 0 (c 2) → ((901 - (τ.1 a 15).toInt).toNat + (1 - (0 : Int)).toNat) < fu → ∃ τ' : ST, F_X12_round_L28_1 X a fu τ = F_X12_round_J50_2 X τ' a ∧ rT_O X R T a g n B Vg w σ τ U c s τ' := by
  have z0 : (0 : Int32).toInt = 0 := rfl
  induction fu with
  | zero => intro σ τ U c s _ _ _ _ _ hf; omega
  | succ fu ih =>
    intro σ τ U c s I hZ hP6 hP N hf
    have I0 := I
    have Z0 := hZ
    obtain ⟨S, M, Kk, h0, hV⟩ := I0
    obtain ⟨z1, z2, z3, z4, z5, z6, z7⟩ := Z0
    have kb := Kk.b
    have pk0 := Kk.2.2.2.2.2.2.1
    have step : F_X12_round_L28_1 X a (fu + 1) τ = if (τ.1 a 14).toInt = 0 then F_X12_round_J50_2 X τ a else F_X12_round_L28_1 X a fu (F_X12_readStep_d3 X τ a 0) := by
      rw [F_X12_round_L28_1_s]
      unfold F_X12_round_B28_1
      rw [q_letE (τ.1 a 12), if_pos h0, q_letE (τ.1 a 14)]
      by_cases q : (τ.1 a 14).toInt = 0
      · rw [if_pos q, if_pos q]
      · rw [if_neg q, if_neg q, q_letE]
    have bad : ∀ (τ1 : ST) , 0 < (τ1.1 a 12).toInt → F_X12_round_L28_1 X a fu τ1 = F_X12_round_J50_2 X τ1 a := by
      intro τ1 h
      obtain ⟨k, rfl⟩ : ∃ k, fu = k + 1 := ⟨fu - 1, by omega⟩
      rw [F_X12_round_L28_1_s]
      unfold F_X12_round_B28_1
      rw [q_letE (τ1.1 a 12), if_neg (by omega)]
    rw [step]
    by_cases ht : (τ.1 a 14).toInt = 0
    · rw [if_pos ht]
      obtain ⟨S1, x1⟩ := S.cell D (id := 0) (by decide) 0 1
      have sc1 := rd_same (σ := σ) D (id := 0) (by decide) 0 1
      have fr := rd_Fr.cl (a := a) (τ := τ) x1
      refine ⟨τ, rfl, 1, _, by omega, Or.inl ⟨fun fu i i0 i1 => ?_, ⟨_, c, s, ⟨S1, M, Kk.same sc1 (tl_same.rf (a := a) (τ := τ)), h0, by rw [fr.1.v Y D G (by decide), hV]⟩, ?_, ?_, ⟨0, ?_⟩, ?_⟩, fr⟩⟩
      · rw [lc_fin I ht fu i]
        unfold F_X4_takes_E72_3
        rw [q_letE (q_si σ (q_rf X R 8) 0 1)]
        have e1' : q_si σ (q_rf X R 8) 0 1 = q_si σ (rdA X R 0) 0 1 := rfl
        have f10 : ((q_si σ (rdA X R 0) 0 1).1 R 10).toInt = 0 := S1.2.2
        rw [e1', q_letE ((q_si σ (rdA X R 0) 0 1).1 R 10), if_pos f10]
      · refine ⟨?_, ?_, ?_, z4, z5, z6, z7⟩
        · rw [y_up_ne (Or.inr (by decide))]; exact z1
        · rw [y_up_ne (Or.inr (by decide))]; exact z2
        · rw [y_up_ne (Or.inr (by decide))]; exact z3
      · exact y_up_eq _ _ _ _
      · rw [y_up_ne (Or.inr (by decide))]; exact ⟨rfl, rfl⟩
      · exact ⟨fun id i a1 a2 a3 => by rw [y_up_ne (Or.inl (by omega))], fun i q => by rw [y_up_ne (Or.inl (by decide))], fun j q => rfl⟩
    · rw [if_neg ht]
      by_cases he : (F_X12_isEnd X τ a).toInt = 0
      · have A := rA_s3 Y D ha G hn 0 I hZ hP6 hP N z0 (by omega) ht he
        obtain ⟨τ1, hτ⟩ : ∃ t, t = F_X12_readStep_d3 X τ a 0 := ⟨_, rfl⟩
        rw [← hτ] at A ⊢
        obtain ⟨k, hk, A⟩ := A
        rcases A with ⟨σ1, U1, c1, s1, e2, I1, Z1, F1, ⟨⟨m1, q1⟩, q2⟩, p1⟩ | ⟨σ1, e2, F2, f2, b2⟩
        · have le := fl_le _ q1
          have cc : ∀ j : Int, j < 4376 + 9 * s → c1 j = c j := q2.2.2
          obtain ⟨τ', e3, k2, σ', b3, o⟩ := ih I1 Z1 (by rw [cc 2 (by omega)]; exact hP6) (by rw [cc 2 (by omega)]; exact hP) (by rw [cc 2 (by omega)]; exact N) (by omega)
          refine ⟨τ', e3, k2 + k, σ', by rw [Int.natCast_add]; omega, ?_⟩
          rcases o with ⟨o1, ⟨U', c', s', o2, o3, o4, ⟨m, o5⟩, o6⟩, o7⟩ | ⟨o1, o2, o3⟩
          · refine Or.inl ⟨fun fu i i0 i1 => ?_, ⟨U', c', s', o2, o3, o4, ⟨m1 + m, fl_app m1 (fl_y m1 (fun id i a1 a2 a3 a4 => o6.1 (id - 17) i (by omega) (by omega) a4) (fun j j0 j1 => o6.2.2 (3720 + j) (by omega)) q1) o5⟩, q2.tr o6 (by omega) (by omega) (by omega)⟩, F1.tr o7⟩
            obtain ⟨i', hi, e⟩ := e2 (fu + k2) i i0 i1
            rw [← Nat.add_assoc, e]
            exact o1 fu i' (by omega) (by omega)
          · refine Or.inr ⟨fun fu i i0 i1 => ?_, o2, F1.tr o3⟩
            obtain ⟨i', hi, e⟩ := e2 (fu + k2) i i0 i1
            rw [← Nat.add_assoc, e]
            exact o1 fu i' (by omega) (by omega)
        · exact ⟨τ1, bad τ1 F2.2.1, k, σ1, b2, Or.inr ⟨e2, F2, f2⟩⟩
      · -- an end without a body
        have r2 : (F_X12_stepWord X τ a).toInt = -1 := by
          rw [tm_isEnd] at he
          by_cases q : (τ.1 a 14).toInt = 1 ∧ (τ.2.1 a 19).toInt = 5572
          · rw [tm_stepWord, if_neg (by omega), if_neg (by omega), if_neg (by omega), if_neg (by omega), if_neg (by omega), if_neg (by omega)]
          · rw [if_neg q] at he
            exact absurd rfl he
        obtain ⟨σ', e, t1, t2, f⟩ := tl_wrong Kk h0
        rw [rs_d_3, rs_a_3 _ _ 0 (by omega) f.2.1]
        refine ⟨_, bad _ f.2.1, 1, σ', by omega, Or.inr ⟨fun fu i i0 i1 => ?_, f, rd_Fr.rd Y.1 ha D S t1 t2⟩⟩
        rw [lc_end I hn he fu i i1]
        unfold F_X4_readEnd
        have f10 : (σ.1 R 10).toInt = 0 := S.2.2
        rw [q_letE (σ.1 R 10), if_pos f10, e, q_biP (0 : Int32) σ', q_biP (0 : Int32) σ', if_pos (by decide)]
end RB

/-! FROM 49zc.ends.lean.txt -/
/-! A ROUND READ: begin, end, what is copied -/
section RC
variable {X : XW} {lb : Nat → Nat} {R T a g : Nat} {σ τ : ST} {n : Int} {B : Int → Int}
/-- the class's script goes into the game -/
theorem rr_cp (Y : y_S X lb) (D : rd_D X lb R T) (G : y_G X lb g 1) : ∃ V' : Nat → Int → Int, y_W X lb g 1 σ (F_X8_copyFrom X σ (q_rf X g 3) (q_rf X R 8)) V' ∧ V' 3 0 = rv X R σ 0 0 ∧ V' 3 1 = rv X R σ 0 1 ∧ V' 3 2 = rv X R σ 0 2 ∧ (∀ (id : Nat) (i : Int), 18 ≤ id → id < 23 → 0 ≤ i → i < 60 → V' id i = rv X R σ (id - 17) i) ∧ ∀ (id : Nat) (i : Int), id < 3 ∨ 3 < id ∧ id < 18 ∨ 22 < id → V' id i = y_v X g σ id i := by
  have own : ∀ id, id < 7 → lb (rdA X R id) / 8192 ≠ 1 := fun id hid => by
    rw [(D.2.2.2.2 id hid).1]
    have := (rdL_o id hid).1
    omega
  have src : ∀ (ρ : ST) (V : Nat → Int → Int), y_W X lb g 1 σ ρ V → ∀ id, id < 7 → ∀ f, ρ.1 (rdA X R id) f = σ.1 (rdA X R id) f := fun ρ V w id hid f => w.1 _ (own id hid) f
  have ln : ∀ id, 1 ≤ id → id < 6 → q_ln X (rdA X R id) = 60 := fun id h0 h1 => ((D.2.2.2.2 id (by omega)).2 h0).1.trans (by rcases (by omega : id = 1 ∨ id = 2 ∨ id = 3 ∨ id = 4 ∨ id = 5) with e | e | e | e | e <;> subst e <;> rfl)
  have nb : ∀ id k, id < 7 → k < 25 → rdA X R id ≠ y_gA X g k := fun id k h0 h1 => y_gA_ne Y G h1 (own id h0)
  have rw_ : ∀ (ρ : ST) (V : Nat → Int → Int), y_W X lb g 1 σ ρ V → ∀ id, id < 7 → ∀ i : Int, 0 ≤ i → (ρ.1 (rdA X R id) i.toNat).toInt = rv X R σ id i := fun ρ V w id hid i i0 => by
    rw [src ρ V w id hid]
    unfold rv
    rw [if_pos ⟨hid, i0⟩]
  unfold F_X8_copyFrom
  have w0 : y_W X lb g 1 σ σ (y_v X g σ) := y_W.rf
  have w1 := w0.si Y G (id := 3) (by decide) 0 (σ.1 (q_rf X R 8) 0)
  rw [q_letE (σ.1 (q_rf X R 8) 0), q_letE (q_si σ (q_rf X g 3) 0 (σ.1 (q_rf X R 8) 0))]
  obtain ⟨σ1, e1⟩ : ∃ t, t = q_si σ (q_rf X g 3) 0 (σ.1 (q_rf X R 8) 0) := ⟨_, rfl⟩
  have e1' : q_si σ (y_gA X g 3) 0 (σ.1 (q_rf X R 8) 0) = σ1 := e1.symm
  rw [← e1]
  rw [e1'] at w1
  have w2 := w1.si Y G (id := 3) (by decide) 1 (σ1.1 (q_rf X R 8) 1)
  rw [q_letE (σ1.1 (q_rf X R 8) 1), q_letE (q_si σ1 (q_rf X g 3) 1 (σ1.1 (q_rf X R 8) 1))]
  obtain ⟨σ2, e2⟩ : ∃ t, t = q_si σ1 (q_rf X g 3) 1 (σ1.1 (q_rf X R 8) 1) := ⟨_, rfl⟩
  have e2' : q_si σ1 (y_gA X g 3) 1 (σ1.1 (q_rf X R 8) 1) = σ2 := e2.symm
  rw [← e2]
  rw [e2'] at w2
  have w3 := w2.si Y G (id := 3) (by decide) 2 (σ2.1 (q_rf X R 8) 2)
  rw [q_letE (σ2.1 (q_rf X R 8) 2), q_letE (q_si σ2 (q_rf X g 3) 2 (σ2.1 (q_rf X R 8) 2))]
  obtain ⟨σ3, e3⟩ : ∃ t, t = q_si σ2 (q_rf X g 3) 2 (σ2.1 (q_rf X R 8) 2) := ⟨_, rfl⟩
  have e3' : q_si σ2 (y_gA X g 3) 2 (σ2.1 (q_rf X R 8) 2) = σ3 := e3.symm
  rw [← e3]
  rw [e3'] at w3
  have c0 : (σ.1 (q_rf X R 8) 0).toInt = rv X R σ 0 0 := rw_ σ _ w0 0 (by decide) 0 (by decide)
  have c1 : (σ1.1 (q_rf X R 8) 1).toInt = rv X R σ 0 1 := rw_ σ1 _ w1 0 (by decide) 1 (by decide)
  have c2 : (σ2.1 (q_rf X R 8) 2).toInt = rv X R σ 0 2 := rw_ σ2 _ w2 0 (by decide) 2 (by decide)
  have w4 := w3.copy Y G (id := 18) (r := q_rf X (q_rf X g 3) 3) (r' := q_rf X (q_rf X R 8) 3) ⟨by decide, by decide⟩ rfl (ln 1 (by decide) (by decide)) (nb 1 18 (by decide) (by decide))
  rw [q_letE (F_X5_copyFrom X σ3 (q_rf X (q_rf X g 3) 3) (q_rf X (q_rf X R 8) 3))]
  obtain ⟨σ4, e4⟩ : ∃ t, t = F_X5_copyFrom X σ3 (q_rf X (q_rf X g 3) 3) (q_rf X (q_rf X R 8) 3) := ⟨_, rfl⟩
  rw [← e4] at w4 ⊢
  have w5 := w4.copy Y G (id := 19) (r := q_rf X (q_rf X g 3) 4) (r' := q_rf X (q_rf X R 8) 4) ⟨by decide, by decide⟩ rfl (ln 2 (by decide) (by decide)) (nb 2 19 (by decide) (by decide))
  rw [q_letE (F_X5_copyFrom X σ4 (q_rf X (q_rf X g 3) 4) (q_rf X (q_rf X R 8) 4))]
  obtain ⟨σ5, e5⟩ : ∃ t, t = F_X5_copyFrom X σ4 (q_rf X (q_rf X g 3) 4) (q_rf X (q_rf X R 8) 4) := ⟨_, rfl⟩
  rw [← e5] at w5 ⊢
  have w6 := w5.copy Y G (id := 20) (r := q_rf X (q_rf X g 3) 5) (r' := q_rf X (q_rf X R 8) 5) ⟨by decide, by decide⟩ rfl (ln 3 (by decide) (by decide)) (nb 3 20 (by decide) (by decide))
  rw [q_letE (F_X5_copyFrom X σ5 (q_rf X (q_rf X g 3) 5) (q_rf X (q_rf X R 8) 5))]
  obtain ⟨σ6, e6⟩ : ∃ t, t = F_X5_copyFrom X σ5 (q_rf X (q_rf X g 3) 5) (q_rf X (q_rf X R 8) 5) := ⟨_, rfl⟩
  rw [← e6] at w6 ⊢
  have w7 := w6.copy Y G (id := 21) (r := q_rf X (q_rf X g 3) 6) (r' := q_rf X (q_rf X R 8) 6) ⟨by decide, by decide⟩ rfl (ln 4 (by decide) (by decide)) (nb 4 21 (by decide) (by decide))
  rw [q_letE (F_X5_copyFrom X σ6 (q_rf X (q_rf X g 3) 6) (q_rf X (q_rf X R 8) 6))]
  obtain ⟨σ7, e7⟩ : ∃ t, t = F_X5_copyFrom X σ6 (q_rf X (q_rf X g 3) 6) (q_rf X (q_rf X R 8) 6) := ⟨_, rfl⟩
  rw [← e7] at w7 ⊢
  have w8 := w7.copy Y G (id := 22) (r := q_rf X (q_rf X g 3) 7) (r' := q_rf X (q_rf X R 8) 7) ⟨by decide, by decide⟩ rfl (ln 5 (by decide) (by decide)) (nb 5 22 (by decide) (by decide))
  rw [q_letE (F_X5_copyFrom X σ7 (q_rf X (q_rf X g 3) 7) (q_rf X (q_rf X R 8) 7))]
  have n60 : ∀ k, k = 18 ∨ k = 19 ∨ k = 20 ∨ k = 21 ∨ k = 22 → ((y_gn k : Nat) : Int) = 60 := fun k h => by rcases h with e | e | e | e | e <;> subst e <;> rfl
  refine ⟨_, w8, ?_, ?_, ?_, fun id i h0 h1 i0 i1 => ?_, fun id i h => ?_⟩
  · rw [y_bl_ne (by decide), y_bl_ne (by decide), y_bl_ne (by decide), y_bl_ne (by decide), y_bl_ne (by decide), y_up_ne (Or.inr (by decide)), y_up_ne (Or.inr (by decide))]
    exact (y_up_eq _ _ _ _).trans c0
  · rw [y_bl_ne (by decide), y_bl_ne (by decide), y_bl_ne (by decide), y_bl_ne (by decide), y_bl_ne (by decide), y_up_ne (Or.inr (by decide))]
    exact (y_up_eq _ _ _ _).trans c1
  · rw [y_bl_ne (by decide), y_bl_ne (by decide), y_bl_ne (by decide), y_bl_ne (by decide), y_bl_ne (by decide)]
    exact (y_up_eq _ _ _ _).trans c2
  · rcases (by omega : id = 18 ∨ id = 19 ∨ id = 20 ∨ id = 21 ∨ id = 22) with e | e | e | e | e <;> subst e
    · rw [y_bl_ne (by decide), y_bl_ne (by decide), y_bl_ne (by decide), y_bl_ne (by decide), y_bl_in i0 (by rw [n60 18 (by decide)]; exact i1)]
      exact rw_ σ3 _ w3 1 (by decide) i i0
    · rw [y_bl_ne (by decide), y_bl_ne (by decide), y_bl_ne (by decide), y_bl_in i0 (by rw [n60 19 (by decide)]; exact i1)]
      exact rw_ σ4 _ w4 2 (by decide) i i0
    · rw [y_bl_ne (by decide), y_bl_ne (by decide), y_bl_in i0 (by rw [n60 20 (by decide)]; exact i1)]
      exact rw_ σ5 _ w5 3 (by decide) i i0
    · rw [y_bl_ne (by decide), y_bl_in i0 (by rw [n60 21 (by decide)]; exact i1)]
      exact rw_ σ6 _ w6 4 (by decide) i i0
    · rw [y_bl_in i0 (by rw [n60 22 (by decide)]; exact i1)]
      exact rw_ σ7 _ w7 5 (by decide) i i0
  · rw [y_bl_ne (by omega), y_bl_ne (by omega), y_bl_ne (by omega), y_bl_ne (by omega), y_bl_ne (by omega), y_up_ne (Or.inl (by omega)), y_up_ne (Or.inl (by omega)), y_up_ne (Or.inl (by omega))]
/-- the class begins -/
theorem rr_beg (D : rd_D X lb R T) (hTl : q_ln X T = 900) {v : Int32} (hv : v.toInt = n) (hn : 0 ≤ n ∧ n ≤ 900) (hB : ∀ p : Int, 0 ≤ p → p < n → (σ.1 T p.toNat).toInt = B p ∧ -128 ≤ B p ∧ B p ≤ 127) (r3 : Nat) :
    ∃ (ρ : ST) (U : Nat → Int → Int), F_X4_takes X σ R T v r3 = F_X4_takes_L21_1 X R r3 ((2147483647 - (0 : Int32).toInt).toNat + 1) 0 (F_X3_advance X ρ R) ∧ rd_S X R T ρ n B U 0 ∧ U 0 0 = 0 ∧ U 0 1 = 0 ∧ U 0 2 = 0 ∧ (ρ.1 R 3).toInt = 0 ∧ (ρ.1 R 6).toInt = 0 ∧ (ρ.1 R 7).toInt = -1 ∧ ∀ b, b ≠ R → (∀ i, i < 7 → b ≠ rdA X R i) → ∀ f, ρ.1 b f = σ.1 b f := by
  have nR : ∀ id, id < 7 → rdA X R id ≠ R ∧ rdA X R id ≠ T := fun id h => D.nR h
  have n0 := nR 0 (by decide)
  have hTR : T ≠ R := m_ne D.2.2.1 D.1 (by decide)
  unfold F_X4_takes F_X8_clear
  rw [q_letE (q_si σ (q_rf X R 8) 0 0), q_letE (q_si (q_si σ (q_rf X R 8) 0 0) (q_rf X R 8) 1 0), q_letE (q_si (q_si (q_si σ (q_rf X R 8) 0 0) (q_rf X R 8) 1 0) (q_rf X R 8) 2 0), q_letE (q_si (q_si (q_si σ (q_rf X R 8) 0 0) (q_rf X R 8) 1 0) (q_rf X R 8) 2 0), q_letE (q_si (q_si (q_si (q_si σ (q_rf X R 8) 0 0) (q_rf X R 8) 1 0) (q_rf X R 8) 2 0) R 10 0)]
  obtain ⟨σ3, e3⟩ : ∃ t, t = q_si (q_si (q_si (q_si σ (q_rf X R 8) 0 0) (q_rf X R 8) 1 0) (q_rf X R 8) 2 0) R 10 0 := ⟨_, rfl⟩
  rw [← e3]
  have r8 : q_rf X R 8 = rdA X R 0 := rfl
  have fr : ∀ b, b ≠ R → b ≠ rdA X R 0 → ∀ f, σ3.1 b f = σ.1 b f := fun b b1 b2 f => by
    rw [e3, q_si_ne b1, r8, q_si_ne b2, q_si_ne b2, q_si_ne b2]
  obtain ⟨ρ, e, E, c3, c6, c7, t⟩ := tc_start (σ := σ3) (D := R) hTl hTR hv hn (fun p p0 p1 => by rw [fr T hTR (Ne.symm n0.2)]; exact hB p p0 p1)
  rw [e, q_letE]
  have tR : ∀ b, b ≠ R → ∀ f, ρ.1 b f = σ3.1 b f := fun b hb f => t.1 b f (fun z => hb z.1)
  have cu : ∀ i : Nat, i = 0 ∨ i = 1 ∨ i = 2 → rv X R ρ 0 (i : Int) = 0 := fun i hi => by
    rw [← rv_n (by decide) i, tR _ n0.1, e3, q_si_ne n0.1, r8]
    rcases hi with h | h | h <;> subst h
    · rw [si_f (by decide), si_f (by decide), si_eq]; rfl
    · rw [si_f (by decide), si_eq]; rfl
    · rw [si_eq]; rfl
  refine ⟨ρ, rv X R ρ, rfl, ⟨E, rfl, ?_⟩, cu 0 (by decide), cu 1 (by decide), cu 2 (by decide), c3, c6, c7, fun b b1 b2 f => ?_⟩
  · rw [t.1 R 10 (fun z => absurd z.2 (by decide)), e3, si_eq]
    rfl
  · rw [tR b b1, fr b b1 (b2 0 (by decide))]
/-- the reference's round ends with a fault -/
theorem rr_end0 (h : 0 < (τ.1 a 12).toInt) : ∃ τ' : ST, F_X12_round_J50_2 X τ a = (-1, τ') ∧ τ'.1 a 10 = τ.1 a 12 ∧ τ'.1 a 11 = τ.1 a 13 ∧ (τ'.1 a 0).toInt = 10 ∧ tkl (fun b f => b = a ∧ (f = 0 ∨ f = 10 ∨ f = 11)) (fun _ _ => False) τ τ' := by
  have e12 : (q_si τ a 10 (τ.1 a 12)).1 a 12 = τ.1 a 12 := si_f (by decide) a
  have e12' : (q_si (q_si τ a 10 (τ.1 a 12)) a 11 ((q_si τ a 10 (τ.1 a 12)).1 a 13)).1 a 12 = τ.1 a 12 := (si_f (by decide) a).trans e12
  unfold F_X12_round_J50_2 F_X12_isWell F_X12_no
  rw [q_letE (τ.1 a 12), q_letE (q_si τ a 10 (τ.1 a 12)), q_letE ((q_si τ a 10 (τ.1 a 12)).1 a 12), e12, if_neg (by omega), q_letE, q_letE, q_letE, e12', if_neg (by omega), q_letE, q_biP (0 : Int32) (q_si (q_si (q_si τ a 10 (τ.1 a 12)) a 11 ((q_si τ a 10 (τ.1 a 12)).1 a 13)) a 0 10), if_pos (by decide : (0 : Int32).toInt = 0), q_biP (0 : Int32), if_pos (by decide : (0 : Int32).toInt = 0)]
  refine ⟨_, rfl, ?_, ?_, ?_, ?_⟩
  · rw [si_f (by decide), si_f (by decide), si_eq]
  · rw [si_f (by decide), si_eq, si_f (by decide)]
  · rw [si_eq]
    rfl
  · exact ((tkl.rf.si _ ⟨rfl, Or.inr (Or.inl rfl)⟩).si _ ⟨rfl, Or.inr (Or.inr rfl)⟩).si _ ⟨rfl, Or.inl rfl⟩
/-- the steps go to their place -/
theorem rr_L82 (hT : q_T X) (ha : q_kd X a = 12) {s : Int} (hs : 0 ≤ s ∧ s ≤ 30) (fu : Nat) : ∀ (x : Int32) (τ : ST), (τ.1 a 27).toInt = s → 0 ≤ x.toInt → x.toInt ≤ 9 * s → (9 * s - x.toInt).toNat < fu → ∃ (z : Int32) (τ' : ST), F_X12_round_L82_3 X a fu x τ = (z, τ') ∧ z.toInt = s ∧ tkl (fun b _ => b = q_rf X a 20) (fun _ _ => False) τ τ' ∧ ∀ j : Int, 0 ≤ j → m_c X τ' a j = if 656 + x.toInt ≤ j ∧ j < 656 + 9 * s then m_c X τ a (j + 3720) else m_c X τ a j := by
  have na : a ≠ q_rf X a 20 := Ne.symm (m_ne (tb_k hT ha).1 ha (by decide))
  have e9 : (9 : Int32).toInt = 9 := rfl
  have one : (1 : Int32).toInt = 1 := rfl
  have e656 : (656 : Int32).toInt = 656 := rfl
  have e4376 : (4376 : Int32).toInt = 4376 := rfl
  induction fu with
  | zero => intro x τ _ _ _ h; omega
  | succ fu ih =>
    intro x τ h27 h0 h1 hf
    have e99 : ((9 : Int32) * τ.1 a 27).toInt = 9 * s := by rw [ar_mul, e9, h27, ar_wr (by omega) (by omega)]
    rw [F_X12_round_L82_3_s]
    unfold F_X12_round_B82_3
    rw [q_letE (τ.1 a 27), q_letE ((9 : Int32) * τ.1 a 27), e99]
    by_cases q : x.toInt < 9 * s
    · rw [if_pos q, q_letE ((656 : Int32) + x), q_letE ((4376 : Int32) + x), q_letE (τ.1 (q_rf X a 20) ((4376 : Int32) + x).toNatClampNeg)]
      have i1 : ((656 : Int32) + x).toInt = 656 + x.toInt := by rw [ar_add, e656, ar_wr (by omega) (by omega)]
      have i2 : ((4376 : Int32) + x).toInt = 4376 + x.toInt := by rw [ar_add, e4376, ar_wr (by omega) (by omega)]
      have i3 : (x + 1).toInt = x.toInt + 1 := by rw [ar_add, one, ar_wr (by omega) (by omega)]
      have val := m_rd (X := X) (σ := τ) (a := a) (i := (4376 : Int32) + x) (A := 4376 + x.toInt) rfl i2
      obtain ⟨f, hf7⟩ : ∃ f, f = τ.1 (q_rf X a 20) ((4376 : Int32) + x).toNatClampNeg := ⟨_, rfl⟩
      rw [← hf7] at val ⊢
      have mc := m_c_up (X := X) (a := a) (τ := τ) (656 + x.toInt) (by omega) (v := f) i1
      rw [q_letE (q_si τ (q_rf X a 20) ((656 : Int32) + x).toNatClampNeg f), q_letE (x + 1)]
      have t1 : tkl (fun b _ => b = q_rf X a 20) (fun _ _ => False) τ (q_si τ (q_rf X a 20) ((656 : Int32) + x).toNatClampNeg f) := tkl.rf.si _ rfl
      obtain ⟨τ1, e1⟩ : ∃ t, t = q_si τ (q_rf X a 20) ((656 : Int32) + x).toNatClampNeg f := ⟨_, rfl⟩
      rw [← e1] at mc t1 ⊢
      obtain ⟨z, τ', y1, y2, y3, y4⟩ := ih (x + 1) τ1 (by rw [t1.1 a 27 na]; exact h27) (by omega) (by omega) (by omega)
      refine ⟨z, τ', y1, y2, t1.tr y3, fun j j0 => ?_⟩
      rw [y4 j j0, i3, mc]
      by_cases q1 : 656 + (x.toInt + 1) ≤ j ∧ j < 656 + 9 * s
      · rw [if_pos q1, if_pos (by omega), m_up_ne (by omega)]
      · rw [if_neg q1]
        by_cases q2 : j = 656 + x.toInt
        · rw [if_pos (by omega), q2, m_up_eq, val]
          congr 1
          omega
        · rw [if_neg (by omega), m_up_ne q2]
    · rw [if_neg q]
      unfold F_X12_round_E119_4
      rw [q_letE]
      exact ⟨_, _, rfl, h27, tkl.rf, fun j j0 => by rw [if_neg (by omega)]⟩
/-- the reference's round ends well -/
theorem rr_end1 (hT : q_T X) (ha : q_kd X a = 12) (h : (τ.1 a 12).toInt = 0) {s : Int} (hs : 0 ≤ s ∧ s ≤ 30) (h27 : (τ.1 a 27).toInt = s) : ∃ (z : Int32) (τ' : ST), F_X12_round_J50_2 X τ a = (z, τ') ∧ z.toInt = s ∧ (τ'.1 a 10).toInt = 0 ∧ (τ'.1 a 11).toInt = -1 ∧ tkl (fun b f => b = q_rf X a 20 ∨ b = a ∧ (f = 10 ∨ f = 11)) (fun _ _ => False) τ τ' ∧
    m_c X τ' a 654 = 1 ∧ m_c X τ' a 655 = s ∧ ∀ j : Int, 0 ≤ j → j ≠ 654 → j ≠ 655 → m_c X τ' a j = if 656 ≤ j ∧ j < 656 + 9 * s then m_c X τ a (j + 3720) else m_c X τ a j := by
  have na : a ≠ q_rf X a 20 := Ne.symm (m_ne (tb_k hT ha).1 ha (by decide))
  have m1 : ((-1) : Int32).toInt = -1 := rfl
  have e12 : (q_si τ a 10 (τ.1 a 12)).1 a 12 = τ.1 a 12 := si_f (by decide) a
  have e12' : (q_si (q_si τ a 10 (τ.1 a 12)) a 11 (-1)).1 a 12 = τ.1 a 12 := (si_f (by decide) a).trans e12
  unfold F_X12_round_J50_2 F_X12_isWell
  rw [q_letE (τ.1 a 12), q_letE (q_si τ a 10 (τ.1 a 12)), q_letE ((q_si τ a 10 (τ.1 a 12)).1 a 12), e12, if_pos h, q_letE (q_si (q_si τ a 10 (τ.1 a 12)) a 11 (-1)), q_letE ((q_si (q_si τ a 10 (τ.1 a 12)) a 11 (-1)).1 a 12), e12', if_pos h, q_biP (1 : Int32) (q_si (q_si τ a 10 (τ.1 a 12)) a 11 (-1)), if_neg (by decide : ¬ (1 : Int32).toInt = 0)]
  have t1 : tkl (fun b f => b = q_rf X a 20 ∨ b = a ∧ (f = 10 ∨ f = 11)) (fun _ _ => False) τ (q_si (q_si τ a 10 (τ.1 a 12)) a 11 (-1)) := (tkl.rf.si _ (Or.inr ⟨rfl, Or.inl rfl⟩)).si _ (Or.inr ⟨rfl, Or.inr rfl⟩)
  have d10 : ((q_si (q_si τ a 10 (τ.1 a 12)) a 11 (-1)).1 a 10).toInt = 0 := by rw [si_f (by decide), si_eq]; exact h
  have d11 : ((q_si (q_si τ a 10 (τ.1 a 12)) a 11 (-1)).1 a 11).toInt = -1 := by rw [si_eq]; exact m1
  have mc1 : m_c X (q_si (q_si τ a 10 (τ.1 a 12)) a 11 (-1)) a = m_c X τ a := (mv_cell hT ha 11 (-1)).trans (mv_cell hT ha 10 _)
  have d27 : ((q_si (q_si τ a 10 (τ.1 a 12)) a 11 (-1)).1 a 27).toInt = s := by rw [si_f (by decide), si_f (by decide)]; exact h27
  obtain ⟨τ1, e1⟩ : ∃ t, t = q_si (q_si τ a 10 (τ.1 a 12)) a 11 (-1) := ⟨_, rfl⟩
  rw [← e1] at t1 d10 d11 mc1 d27 ⊢
  have mc2 := m_c_up (X := X) (a := a) (τ := τ1) 654 (by decide) (i := 654) (v := 1) rfl
  have t2 := t1.si (a := q_rf X a 20) (f := (654 : Int32).toNatClampNeg) (1 : Int32) (Or.inl rfl)
  rw [q_letE (q_si τ1 (q_rf X a 20) (654 : Int32).toNatClampNeg 1)]
  have f27 : (q_si τ1 (q_rf X a 20) (654 : Int32).toNatClampNeg 1).1 a 27 = τ1.1 a 27 := q_si_ne na _
  rw [q_letE ((q_si τ1 (q_rf X a 20) (654 : Int32).toNatClampNeg 1).1 a 27), f27]
  have a10 : ((q_si τ1 (q_rf X a 20) (654 : Int32).toNatClampNeg 1).1 a 10) = τ1.1 a 10 := q_si_ne na _
  have a11 : ((q_si τ1 (q_rf X a 20) (654 : Int32).toNatClampNeg 1).1 a 11) = τ1.1 a 11 := q_si_ne na _
  obtain ⟨τ2, e2⟩ : ∃ t, t = q_si τ1 (q_rf X a 20) (654 : Int32).toNatClampNeg 1 := ⟨_, rfl⟩
  rw [← e2] at mc2 t2 f27 a10 a11 ⊢
  have mc3 := m_c_up (X := X) (a := a) (τ := τ2) 655 (by decide) (i := 655) (v := τ1.1 a 27) rfl
  have t3 := t2.si (a := q_rf X a 20) (f := (655 : Int32).toNatClampNeg) (τ1.1 a 27) (Or.inl rfl)
  rw [q_letE (q_si τ2 (q_rf X a 20) (655 : Int32).toNatClampNeg (τ1.1 a 27))]
  have g27 : ((q_si τ2 (q_rf X a 20) (655 : Int32).toNatClampNeg (τ1.1 a 27)).1 a 27).toInt = s := by rw [q_si_ne na, f27]; exact d27
  have b10 : ((q_si τ2 (q_rf X a 20) (655 : Int32).toNatClampNeg (τ1.1 a 27)).1 a 10).toInt = 0 := by rw [q_si_ne na, a10]; exact d10
  have b11 : ((q_si τ2 (q_rf X a 20) (655 : Int32).toNatClampNeg (τ1.1 a 27)).1 a 11).toInt = -1 := by rw [q_si_ne na, a11]; exact d11
  obtain ⟨τ3, e3⟩ : ∃ t, t = q_si τ2 (q_rf X a 20) (655 : Int32).toNatClampNeg (τ1.1 a 27) := ⟨_, rfl⟩
  rw [← e3] at mc3 t3 g27 b10 b11 ⊢
  have z0 : (0 : Int32).toInt = 0 := rfl
  obtain ⟨z, τ', y1, y2, y3, y4⟩ := rr_L82 hT ha hs ((2147483647 - (0 : Int32).toInt).toNat + 1) 0 τ3 g27 (by decide) (by omega) (by omega)
  have o1 : (1 : Int32).toInt = 1 := rfl
  rw [mc2, mc1, o1, d27] at mc3
  rw [mc3, z0] at y4
  refine ⟨z, τ', y1, y2, ?_, ?_, t3.tr (y3.mono (fun _ _ z => Or.inl z) (fun _ _ z => z)), ?_, ?_, fun j j0 j1 j2 => ?_⟩
  · rw [y3.1 a 10 na]; exact b10
  · rw [y3.1 a 11 na]; exact b11
  · rw [y4 654 (by decide), if_neg (by omega), m_up_ne (by decide), m_up_eq]
  · rw [y4 655 (by decide), if_neg (by omega), m_up_eq]
  · rw [y4 j j0]
    by_cases q : 656 ≤ j ∧ j < 656 + 9 * s
    · rw [if_pos (by omega), if_pos q, m_up_ne (by omega), m_up_ne (by omega)]
    · rw [if_neg (by omega), if_neg q, m_up_ne j2, m_up_ne j1]
end RC

/-! FROM 49zd.round.lean.txt -/
/-! A ROUND: both answer the same, all stays the same -/
/-- what a round leaves: a refusal, a text read -/
def rr_Out (C a : Nat) (σ τ : ST) (v : Int32) (m : Int) (σ' τ' : ST) : Prop :=
  ((v.toInt < 0 ∨ m < v.toInt ∨ 300 < v.toInt) ∧ tk (fun b f => b = C ∧ f = 0) σ σ' ∧ tkl (fun b f => b = a ∧ (f = 0 ∨ f = 1)) (fun _ _ => False) τ τ') ∨
  ((0 ≤ v.toInt ∧ v.toInt ≤ m ∧ v.toInt ≤ 300) ∧ (σ'.1 C 5).toInt = 0 ∧ (τ'.1 a 8).toInt = 0 ∧ (σ'.1 C 6).toInt = (τ'.1 a 10).toInt ∧ (σ'.1 C 7).toInt = (τ'.1 a 11).toInt)
theorem rg.w3 {V V' : Nat → Int → Int} {c : Int → Int} (R : rg V c) (hV : ∀ (id : Nat) (i : Int), id < 3 ∨ 3 < id ∧ id < 18 → V' id i = V id i) : rg V' c := by
  have h0 : ∀ i, V' 0 i = V 0 i := fun i => hV 0 i (by decide)
  have h1 : ∀ i, V' 1 i = V 1 i := fun i => hV 1 i (by decide)
  have h2 : ∀ i, V' 2 i = V 2 i := fun i => hV 2 i (by decide)
  have h4 : ∀ i, V' 4 i = V 4 i := fun i => hV 4 i (by decide)
  have h7 : ∀ i, V' 7 i = V 7 i := fun i => hV 7 i (by decide)
  have h8 : ∀ i, V' 8 i = V 8 i := fun i => hV 8 i (by decide)
  have h9 : ∀ i, V' 9 i = V 9 i := fun i => hV 9 i (by decide)
  have h10 : ∀ i, V' 10 i = V 10 i := fun i => hV 10 i (by decide)
  have h11 : ∀ i, V' 11 i = V 11 i := fun i => hV 11 i (by decide)
  have h12 : ∀ i, V' 12 i = V 12 i := fun i => hV 12 i (by decide)
  have h13 : ∀ i, V' 13 i = V 13 i := fun i => hV 13 i (by decide)
  have h14 : ∀ i, V' 14 i = V 14 i := fun i => hV 14 i (by decide)
  have h15 : ∀ i, V' 15 i = V 15 i := fun i => hV 15 i (by decide)
  have h16 : ∀ i, V' 16 i = V 16 i := fun i => hV 16 i (by decide)
  have h17 : ∀ i, V' 17 i = V 17 i := fun i => hV 17 i (by decide)
  unfold rg rg_t rg_s rg_p rg_h rg_l rg_a at R ⊢
  simp only [h0, h1, h2, h4, h7, h8, h9, h10, h11, h12, h13, h14, h15, h16, h17]
  exact R
section RDD
variable {X : XW} {lb : Nat → Nat} {C a : Nat} {σ τ : ST} {n m : Int} {B : Int → Int}
theorem rr_open0 (h8 : (τ.1 a 8).toInt = m) {v : Int32} (h : v.toInt < 0 ∨ m < v.toInt ∨ 300 < v.toInt) : F_X12_round X τ a v = (-1, q_si (q_si (q_si τ a 1 0) a 0 0) a 0 5) := by
  have d8 : ((q_si (q_si τ a 1 0) a 0 0).1 a 8).toInt = m := by rw [si_f (by decide), si_f (by decide)]; exact h8
  have e300 : (300 : Int32).toInt = 300 := rfl
  unfold F_X12_round F_X12_opens F_X12_no
  rw [q_letE (q_si τ a 1 0), q_letE (q_si (q_si τ a 1 0) a 0 0)]
  obtain ⟨τ2, e2⟩ : ∃ s, s = q_si (q_si τ a 1 0) a 0 0 := ⟨_, rfl⟩
  rw [← e2] at d8 ⊢
  by_cases q1 : v.toInt < 0
  · rw [if_pos q1, q_letE (q_si τ2 a 0 5), q_biP (0 : Int32) (q_si τ2 a 0 5), q_biP (0 : Int32) (q_si τ2 a 0 5), if_pos (by decide)]
  · rw [if_neg q1, q_letE (τ2.1 a 8), d8]
    by_cases q2 : m < v.toInt
    · rw [if_pos q2, q_letE (q_si τ2 a 0 5), q_biP (0 : Int32) (q_si τ2 a 0 5), q_biP (0 : Int32) (q_si τ2 a 0 5), if_pos (by decide)]
    · rw [if_neg q2, e300, if_pos (by omega), q_letE (q_si τ2 a 0 5), q_biP (0 : Int32) (q_si τ2 a 0 5), q_biP (0 : Int32) (q_si τ2 a 0 5), if_pos (by decide)]
theorem rr_open1 (h8 : (τ.1 a 8).toInt = m) {v : Int32} (h : 0 ≤ v.toInt ∧ v.toInt ≤ m ∧ v.toInt ≤ 300) : ∃ τ3 : ST, τ3 = q_si (q_si (q_si (q_si (q_si (q_si τ a 1 0) a 0 0) a 9 v) a 8 0) a 16 0) a 12 0 ∧ F_X12_round X τ a v = F_X12_round_L28_1 X a ((901 - ((q_si (F_X12_next X τ3 a) a 27 0).1 a 15).toInt).toNat + (1 - ((q_si (F_X12_next X τ3 a) a 27 0).1 a 12).toInt).toNat + 1) (q_si (F_X12_next X τ3 a) a 27 0) := by
  refine ⟨_, rfl, ?_⟩
  have d8 : ((q_si (q_si τ a 1 0) a 0 0).1 a 8).toInt = m := by rw [si_f (by decide), si_f (by decide)]; exact h8
  have e300 : (300 : Int32).toInt = 300 := rfl
  unfold F_X12_round F_X12_opens
  rw [q_letE (q_si τ a 1 0), q_letE (q_si (q_si τ a 1 0) a 0 0)]
  obtain ⟨τ2, e2⟩ : ∃ s, s = q_si (q_si τ a 1 0) a 0 0 := ⟨_, rfl⟩
  rw [← e2] at d8 ⊢
  rw [if_neg (by omega : ¬ v.toInt < 0), q_letE (τ2.1 a 8), d8, if_neg (by omega : ¬ m < v.toInt), e300, if_neg (by omega : ¬ (300 : Int) < v.toInt), q_letE (q_si τ2 a 9 v), q_letE (q_si (q_si τ2 a 9 v) a 8 0), q_letE (q_si (q_si (q_si τ2 a 9 v) a 8 0) a 16 0), q_letE (q_si (q_si (q_si (q_si τ2 a 9 v) a 8 0) a 16 0) a 12 0)]
  obtain ⟨τ3, e3⟩ : ∃ s, s = q_si (q_si (q_si (q_si τ2 a 9 v) a 8 0) a 16 0) a 12 0 := ⟨_, rfl⟩
  rw [← e3, q_letE (F_X12_next X τ3 a), q_biP (1 : Int32) (F_X12_next X τ3 a), if_neg (by decide), q_letE (q_si (F_X12_next X τ3 a) a 27 0)]
theorem rr_cl0 (h5 : (σ.1 C 5).toInt = m) {v : Int32} (h : v.toInt < 0 ∨ m < v.toInt ∨ 300 < v.toInt) : F_X11_round X σ C v = (-1, q_si σ C 0 5) := by
  have e300 : (300 : Int32).toInt = 300 := rfl
  unfold F_X11_round
  rw [mv_none σ 5]
  by_cases q1 : v.toInt < 0
  · rw [if_pos q1, q_biP (-1 : Int32) (q_si σ C 0 5)]
  · rw [if_neg q1, q_letE (σ.1 C 5), h5]
    by_cases q2 : m < v.toInt
    · rw [if_pos q2, q_biP (-1 : Int32) (q_si σ C 0 5)]
    · rw [if_neg q2, if_pos (by omega), q_biP (-1 : Int32) (q_si σ C 0 5)]
theorem rr_cl1 (h5 : (σ.1 C 5).toInt = m) {v : Int32} (h : 0 ≤ v.toInt ∧ v.toInt ≤ m ∧ v.toInt ≤ 300) {z : Int32} {σ' : ST} (e : F_X4_takes X σ (q_rf X C 13) (q_rf X C 4) v (q_rf X (q_rf X C 8) 0) = (z, σ')) : ∃ σ9 : ST, tk (fun b f => b = C ∧ (f = 5 ∨ f = 6 ∨ f = 7)) σ' σ9 ∧ σ9.1 C 5 = 0 ∧ (C ≠ q_rf X C 13 → σ9.1 C 6 = σ'.1 (q_rf X C 13) 6 ∧ σ9.1 C 7 = σ'.1 (q_rf X C 13) 7) ∧
    (z.toInt = 0 → F_X11_round X σ C v = (-1, q_si σ9 C 0 10)) ∧ (z.toInt = 1 → F_X11_round X σ C v = ((F_X8_copyFrom X σ9 (q_rf X (q_rf X C 8) 3) (q_rf X (q_rf X C 13) 8)).1 (q_rf X (q_rf X C 8) 3) 1, q_si (F_X8_copyFrom X σ9 (q_rf X (q_rf X C 8) 3) (q_rf X (q_rf X C 13) 8)) C 0 0)) := by
  have e300 : (300 : Int32).toInt = 300 := rfl
  have t9 : tk (fun b f => b = C ∧ (f = 5 ∨ f = 6 ∨ f = 7)) σ' (q_si (q_si (q_si σ' C 5 0) C 6 ((q_si σ' C 5 0).1 (q_rf X C 13) 6)) C 7 ((q_si (q_si σ' C 5 0) C 6 ((q_si σ' C 5 0).1 (q_rf X C 13) 6)).1 (q_rf X C 13) 7)) := ((tk.rf.si _ ⟨rfl, Or.inl rfl⟩).si _ ⟨rfl, Or.inr (Or.inl rfl)⟩).si _ ⟨rfl, Or.inr (Or.inr rfl)⟩
  have g5 : (q_si (q_si (q_si σ' C 5 0) C 6 ((q_si σ' C 5 0).1 (q_rf X C 13) 6)) C 7 ((q_si (q_si σ' C 5 0) C 6 ((q_si σ' C 5 0).1 (q_rf X C 13) 6)).1 (q_rf X C 13) 7)).1 C 5 = 0 := by rw [si_f (by decide), si_f (by decide), si_eq]
  have g67 : C ≠ q_rf X C 13 → (q_si (q_si (q_si σ' C 5 0) C 6 ((q_si σ' C 5 0).1 (q_rf X C 13) 6)) C 7 ((q_si (q_si σ' C 5 0) C 6 ((q_si σ' C 5 0).1 (q_rf X C 13) 6)).1 (q_rf X C 13) 7)).1 C 6 = σ'.1 (q_rf X C 13) 6 ∧ (q_si (q_si (q_si σ' C 5 0) C 6 ((q_si σ' C 5 0).1 (q_rf X C 13) 6)) C 7 ((q_si (q_si σ' C 5 0) C 6 ((q_si σ' C 5 0).1 (q_rf X C 13) 6)).1 (q_rf X C 13) 7)).1 C 7 = σ'.1 (q_rf X C 13) 7 := fun nCD => ⟨by rw [si_f (by decide), si_eq, q_si_ne (Ne.symm nCD)], by rw [si_eq, q_si_ne (Ne.symm nCD), q_si_ne (Ne.symm nCD)]⟩
  have er : F_X11_endReading X σ' C (q_rf X C 13) = q_si (q_si (q_si σ' C 5 0) C 6 ((q_si σ' C 5 0).1 (q_rf X C 13) 6)) C 7 ((q_si (q_si σ' C 5 0) C 6 ((q_si σ' C 5 0).1 (q_rf X C 13) 6)).1 (q_rf X C 13) 7) := by
    unfold F_X11_endReading
    rw [q_letE (q_si σ' C 5 0), q_letE ((q_si σ' C 5 0).1 (q_rf X C 13) 6), q_letE (q_si (q_si σ' C 5 0) C 6 ((q_si σ' C 5 0).1 (q_rf X C 13) 6)), q_letE ((q_si (q_si σ' C 5 0) C 6 ((q_si σ' C 5 0).1 (q_rf X C 13) 6)).1 (q_rf X C 13) 7), q_letE]
  obtain ⟨σ9, e9⟩ : ∃ s, s = q_si (q_si (q_si σ' C 5 0) C 6 ((q_si σ' C 5 0).1 (q_rf X C 13) 6)) C 7 ((q_si (q_si σ' C 5 0) C 6 ((q_si σ' C 5 0).1 (q_rf X C 13) 6)).1 (q_rf X C 13) 7) := ⟨_, rfl⟩
  rw [← e9] at t9 g5 g67 er
  have main : F_X11_round X σ C v = if z.toInt = 0 then (-1, q_si σ9 C 0 10) else ((F_X8_copyFrom X σ9 (q_rf X (q_rf X C 8) 3) (q_rf X (q_rf X C 13) 8)).1 (q_rf X (q_rf X C 8) 3) 1, q_si (F_X8_copyFrom X σ9 (q_rf X (q_rf X C 8) 3) (q_rf X (q_rf X C 13) 8)) C 0 0) := by
    unfold F_X11_round
    rw [if_neg (by omega : ¬ v.toInt < 0), q_letE (σ.1 C 5), h5, if_neg (by omega : ¬ m < v.toInt), if_neg (by omega), e, q_biP z σ', er, q_letE σ9]
    by_cases q : z.toInt = 0
    · rw [if_pos q, if_pos q, mv_none, q_biP (-1 : Int32) (q_si σ9 C 0 10)]
    · rw [if_neg q, if_neg q]
      obtain ⟨σ10, e10⟩ : ∃ s, s = F_X8_copyFrom X σ9 (q_rf X (q_rf X C 8) 3) (q_rf X (q_rf X C 13) 8) := ⟨_, rfl⟩
      rw [← e10, q_letE σ10, q_letE (σ10.1 (q_rf X (q_rf X C 8) 3) 1), mv_good, q_biP (σ10.1 (q_rf X (q_rf X C 8) 3) 1) (q_si σ10 C 0 0)]
  exact ⟨σ9, t9, g5, g67, fun q => by rw [main, if_pos q], fun q => by rw [main, if_neg (by omega)]⟩
end RDD

/-! FROM 49ze.alround.lean.txt -/
/-! A ROUND: both answer the same, all stays the same: the whole -/
section RE
variable {X : XW} {lb : Nat → Nat} {C a : Nat} {σ τ : ST} {n m : Int} {B : Int → Int}
theorem al_round (K : al_C X lb C a) (h9 : q_ln X (q_rf X a 7) = 900) (A : al_R X C a σ τ) (M : m_M (m_c X τ a) (τ.1 a 24).toInt n) (h5 : (σ.1 C 5).toInt = m) (h8 : (τ.1 a 8).toInt = m) (hm : 0 ≤ m ∧ m ≤ 900) (hB : ∀ p : Int, 0 ≤ p → p < m → (σ.1 (q_rf X C 4) p.toNat).toInt = B p ∧ -128 ≤ B p ∧ B p ≤ 127) (hB2 : ∀ p : Int, 0 ≤ p → p < m → (τ.1 (q_rf X a 7) p.toNat).toInt = B p) (v : Int32) :
    ∃ (z : Int32) (σ' : ST) (z' : Int32) (τ' : ST), F_X11_round X σ C v = (z, σ') ∧ F_X12_round X τ a v = (z', τ') ∧ z.toInt = z'.toInt ∧ (σ'.1 C 0).toInt = (τ'.1 a 0).toInt ∧ rr_Out C a σ τ v m σ' τ' ∧ al_R X C a σ' τ' := by
  obtain ⟨kC, ka, S, lC, G8, G9, GM⟩ := id K
  obtain ⟨A1, A2, A3, A4⟩ := id A
  have hTl : q_ln X (q_rf X C 4) = 900 := (y_Cls S kC ka lC h9).2.2.2.2.2.1
  have D := rd_Dmk S kC lC
  have k20 := (tb_k S.1 ka).1
  have k23 := (tb_k S.1 ka).2.2.1
  have k7 := (tb_k S.1 ka).2.2.2
  have na0 : a ≠ q_rf X a 20 := Ne.symm (m_ne k20 ka (by decide))
  have nU : q_rf X a 7 ≠ a := m_ne k7 ka (by decide)
  obtain ⟨m2, s2, t2⟩ := mv_beg S.1 ka (rfl : m_c X τ a = m_c X τ a)
  by_cases hv : v.toInt < 0 ∨ m < v.toInt ∨ 300 < v.toInt
  · have t2' : tkl (fun b f => b = a ∧ (f = 0 ∨ f = 1)) (fun _ _ => False) τ (q_si (q_si τ a 1 0) a 0 0) := (tkl.rf.si _ ⟨rfl, Or.inr rfl⟩).si _ ⟨rfl, Or.inl rfl⟩
    refine ⟨_, _, _, _, rr_cl0 h5 hv, rr_open0 h8 hv, rfl, by rw [si_eq, si_eq], Or.inl ⟨hv, tk.rf.si _ ⟨rfl, rfl⟩, t2'.si _ ⟨rfl, Or.inl rfl⟩⟩, A.mv K M ?_⟩
    exact mv_mk S G8 (by omega) y_W.rf A1.1 (fun _ _ _ => rfl) (fun _ _ _ => rfl) 5 ((mv_cell S.1 ka 0 5).trans m2) (t2.si _ (Or.inr (Or.inl ⟨rfl, Or.inl rfl⟩)))
  have hv' : 0 ≤ v.toInt ∧ v.toInt ≤ m ∧ v.toInt ≤ 300 := by omega
  obtain ⟨R, hR⟩ : ∃ R, R = q_rf X C 13 := ⟨_, rfl⟩
  obtain ⟨T, hT⟩ : ∃ T, T = q_rf X C 4 := ⟨_, rfl⟩
  obtain ⟨g, hg⟩ : ∃ g, g = q_rf X C 8 := ⟨_, rfl⟩
  rw [← hR, ← hT] at D
  rw [← hT] at hTl hB
  rw [← hg] at G8
  have lR : lb R = 29 := D.2.1
  have nCR : C ≠ R := m_ne kC D.1 (by decide)
  have nCi : ∀ i, i < 7 → C ≠ rdA X R i := fun i hi e => by
    have y := (D.2.2.2.2 i hi).1
    have y2 := (rdL_o i hi).2.2.2
    rw [← e, lC] at y
    exact y2 y.symm
  -- the reference opens
  obtain ⟨τ3, e3, eref⟩ := rr_open1 h8 hv'
  have t3 : tkl (fun b f => b = a ∧ (f = 0 ∨ f = 1 ∨ f = 9 ∨ f = 8 ∨ f = 16 ∨ f = 12)) (fun _ _ => False) τ τ3 := by
    rw [e3]
    exact (((((tkl.rf.si _ ⟨rfl, by omega⟩).si _ ⟨rfl, by omega⟩).si _ ⟨rfl, by omega⟩).si _ ⟨rfl, by omega⟩).si _ ⟨rfl, by omega⟩).si _ ⟨rfl, by omega⟩
  have c0 : τ3.1 a 0 = 0 := by rw [e3, si_f (by decide), si_f (by decide), si_f (by decide), si_f (by decide), si_eq]
  have c9 : τ3.1 a 9 = v := by rw [e3, si_f (by decide), si_f (by decide), si_f (by decide), si_eq]
  have c8 : τ3.1 a 8 = 0 := by rw [e3, si_f (by decide), si_f (by decide), si_eq]
  have c16 : τ3.1 a 16 = 0 := by rw [e3, si_f (by decide), si_eq]
  have c12 : τ3.1 a 12 = 0 := by rw [e3, si_eq]
  clear e3
  have z0 : (0 : Int32).toInt = 0 := rfl
  have M0 : tm_E X τ3 a v.toInt B := ⟨by rw [c9], ⟨by omega, by omega⟩, nU, fun p p0 p1 => by
    rw [t3.1 _ _ (fun q => nU q.1)]
    exact ⟨hB2 p p0 (by omega), (hB p p0 (by omega)).2⟩⟩
  -- the class begins
  obtain ⟨ρ, U, etk, S0, u0, u1, u2, r3, r6, r7, fρ⟩ := rr_beg (σ := σ) (n := v.toInt) (B := B) D hTl rfl ⟨by omega, by omega⟩ (fun p p0 p1 => hB p p0 (by omega)) (q_rf X g 0)
  obtain ⟨x1, x2, Kk, pk⟩ := tl_adv S0.1 M0 r3 (by rw [c16]; exact z0) ⟨Int.le_refl 0, by omega⟩ r6 r7
  obtain ⟨S1, f1⟩ := S0.rd D x1.S2
  obtain ⟨σ1, hσ1⟩ : ∃ s, s = F_X3_advance X ρ R := ⟨_, rfl⟩
  obtain ⟨τ4, hτ4⟩ : ∃ s, s = F_X12_next X τ3 a := ⟨_, rfl⟩
  rw [← hσ1] at Kk S1 f1 etk
  rw [← hτ4] at Kk x2 pk eref
  have M4 := M0.k2 x2.S2
  have h12 : (τ4.1 a 12).toInt = 0 := by rw [tn_12 x2, c12]; exact z0
  have mc4 : m_c X τ4 a = m_c X τ a := by
    funext j
    exact congrArg Int32.toInt ((x2.1 _ _ (fun q => na0 q.1.symm)).trans (t3.1 _ _ (fun q => na0 q.1.symm)))
  have mw4 : m_wd X τ4 a = m_wd X τ a := by
    funext j
    exact congrArg Int64.toInt ((x2.2.1 _ _ (fun q => m_ne k23 ka (by decide) q.1)).trans (t3.2.1 _ _ (fun q => q)))
  have M5 : rd_M X a τ4 v.toInt B (m_c X τ a) (m_wd X τ a) (τ4.1 a 27).toInt := ⟨M4, mc4, mw4, rfl, by rw [x2.1 a 0 (fun q => absurd q.2.1 (by decide)), c0]; exact z0, by rw [x2.1 a 8 (fun q => absurd q.2.1 (by decide)), c8]; exact z0⟩
  obtain ⟨M6, s6⟩ := M5.ns S.1 ka 0
  rw [z0] at M6
  have frσ1 : ∀ b, b ≠ R → (∀ i, i < 7 → b ≠ rdA X R i) → ∀ f, σ1.1 b f = σ.1 b f := fun b b1 b2 f => (f1.1 b b1 b2 f).trans (fρ b b1 b2 f)
  have ownR : ∀ (o : Nat), 1 ≤ o → o ≤ 5 → ∀ b, lb b / 8192 = o → b ≠ R ∧ (∀ i, i < 7 → b ≠ rdA X R i) ∧ b ≠ C := fun o o1 o2 b hb => ⟨fun e => by rw [e, lR] at hb; omega, fun i hi e => by
    have y := (D.2.2.2.2 i hi).1
    have y2 := (rdL_o i hi).1
    rw [e, y] at hb
    omega, fun e => by rw [e, lC] at hb; omega⟩
  have gv1 : y_v X g σ1 = y_v X g σ := y_v.k S G8 (fun b hb f => frσ1 b (ownR 1 (by decide) (by decide) b hb).1 (ownR 1 (by decide) (by decide) b hb).2.1 f)
  obtain ⟨τ5, hτ5⟩ : ∃ s, s = q_si τ4 a 27 0 := ⟨_, rfl⟩
  have t5 : tkl (fun b f => b = a ∧ f = 27) (fun _ _ => False) τ4 τ5 := by rw [hτ5]; exact tkl.rf.si _ ⟨rfl, rfl⟩
  rw [← hτ5] at M6 s6 eref
  have p12 : (τ5.1 a 12).toInt = 0 := by rw [t5.1 a 12 (fun q => absurd q.2 (by decide))]; exact h12
  have I : rd_I X R T a g v.toInt B (y_v X g σ) (m_wd X τ a) σ1 τ5 U 0 (m_c X τ a) 0 := ⟨S1, M6, Kk.same (fun _ _ _ => rfl) s6, p12, gv1⟩
  have mG := M.1.1
  have hP6 : 0 ≤ m_c X τ a 2 ∧ m_c X τ a 2 ≤ 6 := mG.1.2.1
  have Z0 : rd_Z U 0 0 := ⟨u1, by omega, by omega, by decide, by decide, by decide, by decide⟩
  have A1' : rb (y_v X g σ) (m_c X τ a) (m_wd X τ a) := by rw [hg]; exact A1
  have kb := I.2.2.1.b
  have pk0 := I.2.2.1.2.2.2.2.2.2.1
  obtain ⟨τ', eT, k, σ', hk, o⟩ := rT (fu := (901 - (τ5.1 a 15).toInt).toNat + (1 - (τ5.1 a 12).toInt).toNat + 1) S D ka G8 hv'.2.2 I Z0 hP6 A1'.1.1.2.2.2.2.1 A1'.2.1 (by rw [p12]; omega)
  rw [eT] at eref
  have fuel : ((2147483647 - (0 : Int32).toInt).toNat + 1) = (2147483648 - k) + k := by rw [z0]; omega
  rw [fuel] at etk
  -- what stays
  have pre : tkl (fun b f => b = a ∧ (f = 0 ∨ f = 1 ∨ f = 8 ∨ f = 9 ∨ 12 ≤ f ∧ f ≤ 18 ∨ f = 27)) (tn_L a) τ τ5 := ((t3.mono (fun _ _ q => ⟨q.1, by have := q.2; omega⟩) (fun _ _ q => q.elim)).tr (x2.S2.mono (fun _ _ q => ⟨q.1, by have := q.2; omega⟩) (fun _ _ q => q))).tr (t5.mono (fun _ _ q => ⟨q.1, by have := q.2; omega⟩) (fun _ _ q => q.elim))
  have mc5 : m_c X τ5 a = m_c X τ a := M6.2.1
  have nz0 : (0 : Int32).toNatClampNeg = 0 := rfl
  rcases o with ⟨o1, ⟨U', c', s', I', Z', o4, ⟨q, o5⟩, o6⟩, F⟩ | ⟨o1, o2, F⟩
  · -- read
    have e1 := o1 (2147483648 - k) 0 (by decide) (by omega)
    rw [e1] at etk
    obtain ⟨σ9, t9, g5, g67, -, ecl⟩ := rr_cl1 (X := X) (C := C) (σ := σ) h5 hv' (z := 1) (σ' := σ') (by rw [← hR, ← hT, ← hg]; exact etk)
    have ecl := ecl (by decide)
    rw [← hR, ← hg] at ecl
    rw [← hR] at g67
    obtain ⟨g6, g7⟩ := g67 nCR
    obtain ⟨Si, Mi, Ki, i12, iV⟩ := I'
    obtain ⟨y1, y2, y3, y4, y5, y6, y7⟩ := Z'
    obtain ⟨zz, τ9, j1, j2, j3, j4, j5, j6, j7, j8⟩ := rr_end1 (X := X) (τ := τ') S.1 ka i12 ⟨y4, y5⟩ Mi.2.2.2.1
    rw [j1] at eref
    have f9 : ∀ b, b ≠ R → (∀ i, i < 7 → b ≠ rdA X R i) → b ≠ C → ∀ f, σ9.1 b f = σ.1 b f := fun b b1 b2 b3 f => (t9.1 b f (fun q => b3 q.1)).trans ((F.1.1 b b1 b2 f).trans (frσ1 b b1 b2 f))
    have C9 : ∀ f, f ≠ 5 → f ≠ 6 → f ≠ 7 → σ9.1 C f = σ.1 C f := fun f f5 f6 f7 => (t9.1 C f (fun q => by have := q.2; omega)).trans ((F.1.1 C nCR nCi f).trans (frσ1 C nCR nCi f))
    have rv9 : rv X R σ9 = U' := by
      rw [← Si.2.1]
      funext id i
      unfold rv
      by_cases q : id < 7 ∧ 0 ≤ i
      · rw [if_pos q, if_pos q, t9.1 _ _ (fun z => nCi id q.1 z.1.symm)]
      · rw [if_neg q, if_neg q]
    obtain ⟨V', W, v0, v1, v2, v3, v4⟩ := rr_cp (σ := σ9) S D G8
    rw [rv9] at v0 v1 v2 v3
    obtain ⟨σ10, e10⟩ : ∃ s, s = F_X8_copyFrom X σ9 (q_rf X g 3) (q_rf X R 8) := ⟨_, rfl⟩
    rw [← e10] at W ecl
    have gv9 : y_v X g σ9 = y_v X g σ := y_v.k S G8 (fun b hb f => f9 b (ownR 1 (by decide) (by decide) b hb).1 (ownR 1 (by decide) (by decide) b hb).2.1 (ownR 1 (by decide) (by decide) b hb).2.2 f)
    rw [gv9] at v4
    have hC1 : lb C / 8192 ≠ 1 := by omega
    have C10 : ∀ f, σ10.1 C f = σ9.1 C f := W.1 C hC1
    have ans : (σ10.1 (q_rf X g 3) 1).toInt = s' := by
      have z1 := y_v_rdn (X := X) (g := g) (σ := σ10) (id := 3) (by decide) 1
      rw [W.2.2] at z1
      exact z1.trans (v1.trans y1)
    have gvF : y_v X g (q_si σ10 C 0 0) = V' := by
      rw [← W.2.2]
      exact y_v.k S G8 (fun b hb f => by rw [q_si_ne (ownR 1 (by decide) (by decide) b hb).2.2])
    have a9 : ∀ f, f ≠ 10 → f ≠ 11 → τ9.1 a f = τ'.1 a f := fun f q1 q2 => j5.1 a f (fun q => by
      rcases q with q | q
      · exact na0 q
      · have := q.2
        omega)
    have mwF : m_wd X τ9 a = m_wd X τ a := by
      rw [← Mi.2.2.1]
      funext j
      exact congrArg Int64.toInt (j5.2.1 _ _ (fun q => q))
    have mci : m_c X τ' a = c' := Mi.2.1
    have mlow : ∀ j : Int, 0 ≤ j → j < 654 ∨ 930 ≤ j ∧ j < 3720 → m_c X τ9 a j = m_c X τ a j := fun j j0 j1' => by
      rw [j8 j j0 (by omega) (by omega), if_neg (by omega), F.2.2 j j0 (by omega), mc5]
    have e24 : τ9.1 a 24 = τ.1 a 24 := by
      rw [a9 24 (by decide) (by decide), F.2.1.1 a 24 (fun q => by
        rcases q with q | q
        · exact na0 q
        · have := q.2
          omega), pre.1 a 24 (fun q => by have := q.2; omega)]
    have k67 := Ki.2.2.2.2.2.2.2.2
    refine ⟨_, _, zz, τ9, ecl, eref, ans.trans j2.symm, ?_, Or.inr ⟨hv', ?_, ?_, ?_, ?_⟩, ⟨⟨?_, ?_, ?_⟩, ?_, ?_, fun b b1 b2 => ?_⟩⟩
    · rw [si_eq, a9 0 (by decide) (by decide), Mi.2.2.2.2.1]
      exact z0
    · rw [si_f (by decide), C10, g5]
      exact z0
    · rw [a9 8 (by decide) (by decide)]
      exact Mi.2.2.2.2.2
    · rw [si_f (by decide), C10, g6, j3]
      exact k67.1
    · rw [si_f (by decide), C10, g7, j4]
      exact k67.2
    · rw [← hg, gvF]
      exact (A1'.1.x mG (fun _ _ _ => rfl) (fun j a0 a1 => mlow j a0 (Or.inl a1))).w3 (fun id i h => v4 id i (by omega))
    · rw [← hg, gvF, mwF, mlow 2 (by decide) (by decide)]
      intro p p0 p1
      obtain ⟨b1, b2, b3⟩ := A1'.2.1 p p0 p1
      rw [v4 6 p (by decide)]
      refine ⟨b1, fun i i0 i1 => by rw [v4 5 _ (by decide)]; exact b2 i i0 i1, ?_⟩
      rw [b3]
      refine tx_wv_ext (fun i hi => ?_)
      show y_v X g σ 5 (8 * p + (0 + (i : Int))) = V' 5 (8 * p + (0 + (i : Int)))
      rw [v4 5 _ (by decide)]
    · rw [← hg, gvF]
      have le := fl_le _ o5
      refine ⟨by rw [v0, o4, j6], by rw [j6]; exact Or.inr rfl, by rw [v1, y1, j7], by rw [v2]; exact ⟨y2, by omega⟩, q, ?_⟩
      rw [j7, v2]
      rw [u2] at o5
      exact fl_y q (fun id i i0 i1 i2 i3 => v3 id i i0 i1 i2 (by omega)) (fun j j0' j1' => by rw [j8 j (by omega) (by omega) (by omega), if_pos ⟨by omega, by omega⟩, mci, uc_e, Int.add_comm]) o5
    · rw [si_f (by decide), C10, C9 11 (by decide) (by decide) (by decide), e24]
      exact A2
    · rw [si_f (by decide), C10, C9 11 (by decide) (by decide) (by decide)]
      exact A3
    · rw [si_f (by decide), C10, C9 11 (by decide) (by decide) (by decide)] at b2
      have GMb := GM (b - 1) (by omega)
      have gvb : y_v X (q_rf X (q_rf X C 10) (b - 1)) (q_si σ10 C 0 0) = y_v X (q_rf X (q_rf X C 10) (b - 1)) σ := y_v.k S GMb (fun x hx f => by
        have ow := ownR (3 + (b - 1)) (by omega) (by omega) x hx
        rw [q_si_ne ow.2.2, W.1 x (by omega)]
        exact f9 x ow.1 ow.2.1 ow.2.2 f)
      refine (A4 b b1 b2).x (M.2 (b : Int) (by omega) (by rw [← A2]; exact b2)).1 (fun id i _ => by rw [gvb]) (fun j a0 a1 => ?_) (fun j a0 a1 => by rw [mwF])
      exact mlow _ (by omega) (Or.inr ⟨by omega, by omega⟩)
  · -- a fault
    have e1 := o1 (2147483648 - k) 0 (by decide) (by omega)
    rw [e1] at etk
    obtain ⟨σ9, t9, g5, g67, ecl, -⟩ := rr_cl1 (X := X) (C := C) (σ := σ) h5 hv' (z := 0) (σ' := σ') (by rw [← hR, ← hT, ← hg]; exact etk)
    have ecl := ecl (by decide)
    rw [← hR] at g67
    obtain ⟨g6, g7⟩ := g67 nCR
    obtain ⟨τ9, j1, j2, j3, j4, j5⟩ := rr_end0 (X := X) (τ := τ') o2.2.1
    rw [j1] at eref
    have f9 : ∀ b, b ≠ R → (∀ i, i < 7 → b ≠ rdA X R i) → b ≠ C → ∀ f, σ9.1 b f = σ.1 b f := fun b b1 b2 b3 f => (t9.1 b f (fun q => b3 q.1)).trans ((F.1.1 b b1 b2 f).trans (frσ1 b b1 b2 f))
    have C9 : ∀ f, f ≠ 5 → f ≠ 6 → f ≠ 7 → σ9.1 C f = σ.1 C f := fun f f5 f6 f7 => (t9.1 C f (fun q => by have := q.2; omega)).trans ((F.1.1 C nCR nCi f).trans (frσ1 C nCR nCi f))
    have a9 : ∀ f, f ≠ 0 → f ≠ 10 → f ≠ 11 → τ9.1 a f = τ'.1 a f := fun f q0 q1 q2 => j5.1 a f (fun q => by have := q.2; omega)
    have aR : ∀ f, f ≠ 27 → ¬ (12 ≤ f ∧ f ≤ 18) → τ'.1 a f = τ5.1 a f := fun f q1 q2 => F.2.1.1 a f (fun q => by
      rcases q with q | q
      · exact na0 q
      · have := q.2
        omega)
    have mlow : ∀ j : Int, 0 ≤ j → j < 3720 → m_c X τ9 a j = m_c X τ a j := fun j a0 a1 => by
      have y1 : m_c X τ9 a j = m_c X τ' a j := congrArg Int32.toInt (j5.1 _ _ (fun q => na0 q.1.symm))
      rw [y1, F.2.2 j a0 a1, mc5]
    have mwF : m_wd X τ9 a = m_wd X τ a := by
      funext j
      refine congrArg Int64.toInt ((j5.2.1 _ _ (fun q => q)).trans ((F.2.1.2.1 _ _ (fun q => m_ne k23 ka (by decide) q.1)).trans (pre.2.1 _ _ (fun q => m_ne k23 ka (by decide) q.1))))
    have e24 : τ9.1 a 24 = τ.1 a 24 := by rw [a9 24 (by decide) (by decide) (by decide), aR 24 (by decide) (by decide), pre.1 a 24 (fun q => by have := q.2; omega)]
    have gvF : y_v X g (q_si σ9 C 0 10) = y_v X g σ := y_v.k S G8 (fun b hb f => by
      have ow := ownR 1 (by decide) (by decide) b hb
      rw [q_si_ne ow.2.2]
      exact f9 b ow.1 ow.2.1 ow.2.2 f)
    refine ⟨_, _, _, τ9, ecl, eref, rfl, ?_, Or.inr ⟨hv', ?_, ?_, ?_, ?_⟩, ⟨?_, ?_, ?_, fun b b1 b2 => ?_⟩⟩
    · rw [si_eq, j4]
      rfl
    · rw [si_f (by decide), g5]
      exact z0
    · rw [a9 8 (by decide) (by decide) (by decide), aR 8 (by decide) (by decide)]
      exact M6.2.2.2.2.2
    · rw [si_f (by decide), g6, j2]
      exact o2.1
    · rw [si_f (by decide), g7, j3]
      exact o2.2.2
    · rw [← hg, gvF, mwF]
      exact A1'.x mG (fun _ _ _ => rfl) (fun j a0 a1 => mlow j a0 (by omega)) (fun _ _ _ => rfl)
    · rw [si_f (by decide), C9 11 (by decide) (by decide) (by decide), e24]
      exact A2
    · rw [si_f (by decide), C9 11 (by decide) (by decide) (by decide)]
      exact A3
    · rw [si_f (by decide), C9 11 (by decide) (by decide) (by decide)] at b2
      have GMb := GM (b - 1) (by omega)
      have gvb : y_v X (q_rf X (q_rf X C 10) (b - 1)) (q_si σ9 C 0 10) = y_v X (q_rf X (q_rf X C 10) (b - 1)) σ := y_v.k S GMb (fun x hx f => by
        have ow := ownR (3 + (b - 1)) (by omega) (by omega) x hx
        rw [q_si_ne ow.2.2]
        exact f9 x ow.1 ow.2.1 ow.2.2 f)
      refine (A4 b b1 b2).x (M.2 (b : Int) (by omega) (by rw [← A2]; exact b2)).1 (fun id i _ => by rw [gvb]) (fun j a0 a1 => ?_) (fun j a0 a1 => by rw [mwF])
      exact mlow _ (by omega) (by omega)
end RE

/-! FROM 49zf.look2.lean.txt -/
/-! OBSERVERS: both answer the same -/
def ob_O (X : XW) (C a : Nat) (P Q : Int32 × ST) : Prop := P.1.toInt = Q.1.toInt ∧ (P.2.1 C 0).toInt = (Q.2.1 a 0).toInt ∧ al_R X C a P.2 Q.2
theorem ob_pe (A : Int32 × ST) : q_bi A (fun r s => (r, s)) = A := by
  obtain ⟨r, s⟩ := A
  rw [q_biP r s]
section OB
variable {X : XW} {lb : Nat → Nat} {C a : Nat} {σ τ : ST} {n : Int}
theorem al_st (K : al_C X lb C a) (A : al_R X C a σ τ) (M : m_M (m_c X τ a) (τ.1 a 24).toInt n) (k : Int32) : al_R X C a (q_si σ C 0 k) (q_si (q_si τ a 1 0) a 0 0) ∧ ∀ k' : Int32, al_R X C a (q_si σ C 0 k) (q_si (q_si (q_si τ a 1 0) a 0 0) a 0 k') := by
  obtain ⟨kC, ka, S, lC, G8, G9, GM⟩ := id K
  obtain ⟨A1, A2, A3, A4⟩ := id A
  obtain ⟨m2, s2, t2⟩ := mv_beg S.1 ka (rfl : m_c X τ a = m_c X τ a)
  refine ⟨A.mv K M (mv_mk S G8 (by omega) y_W.rf A1.1 (fun _ _ _ => rfl) (fun _ _ _ => rfl) k m2 t2), fun k' => A.mv K M ?_⟩
  exact mv_mk S G8 (by omega) y_W.rf A1.1 (fun _ _ _ => rfl) (fun _ _ _ => rfl) k ((mv_cell S.1 ka 0 k').trans m2) (t2.si _ (Or.inr (Or.inl ⟨rfl, Or.inl rfl⟩)))
theorem ob_none (K : al_C X lb C a) (A : al_R X C a σ τ) (M : m_M (m_c X τ a) (τ.1 a 24).toInt n) (k : Int32) : ob_O X C a (q_bi (F_X11_none X σ C k) (fun r s => (r, s))) (q_bi (F_X12_refuse X (q_si (q_si τ a 1 0) a 0 0) a k) (fun r s => (r, s))) := by
  rw [ob_pe, ob_pe, mv_none, mv_refuse]
  refine ⟨rfl, ?_, (al_st K A M k).2 k⟩
  show ((q_si σ C 0 k).1 C 0).toInt = ((q_si (q_si (q_si τ a 1 0) a 0 0) a 0 k).1 a 0).toInt
  rw [si_eq, si_eq]
end OB

/-! FROM 49zg.laid.lean.txt -/
/-! OBSERVERS: what was laid, what is in the game -/
section OL
variable {X : XW} {lb : Nat → Nat} {C a : Nat} {σ τ : ST} {n : Int} {c : Int → Int}
theorem gm_laidI (hc : m_c X τ a = c) {r v2 : Int32} {w k m s0 : Int} (hr : r.toInt = w) (hw : 0 ≤ w ∧ w ≤ 700) (hk : v2.toInt = k) (hs : c (w + 2) = m) (hm : 0 ≤ m ∧ m ≤ 4) (h0 : 0 ≤ s0 ∧ s0 ≤ 1000) (x2 : Int32) (B5 : Int32 → Int32 → Int32) (fu : Nat) : ∀ x y : Int32, (2147483647 - y.toInt).toNat < fu → 0 ≤ y.toInt → y.toInt ≤ m → x.toInt = s0 + m_K c w k y.toInt.toNat → ∃ x' : Int32, x'.toInt = s0 + m_K c w k m.toNat ∧ F_X12_laidOf_L45_4 X r τ a v2 x2 B5 fu x y = B5 x' (x2 + 1) := by
  have e2 : (2 : Int32).toInt = 2 := rfl
  have e3 : (3 : Int32).toInt = 3 := rfl
  have one : (1 : Int32).toInt = 1 := rfl
  have z0 : (0 : Int32).toInt = 0 := rfl
  have i2 : (r + 2).toInt = w + 2 := by rw [ar_add, hr, e2, ar_wr (by omega) (by omega)]
  have i3 : (r + 3).toInt = w + 3 := by rw [ar_add, hr, e3, ar_wr (by omega) (by omega)]
  have c2 : (τ.1 (q_rf X a 20) (r + 2).toNatClampNeg).toInt = m := (gm_cell (A := w + 2) hc i2).trans hs
  induction fu with
  | zero => intro x y h; exact absurd h (Nat.not_lt_zero _)
  | succ fu ih =>
    intro x y hf y0 y1 hx
    have bd := m_K_bd c w k y.toInt.toNat
    rw [F_X12_laidOf_L45_4_s]
    unfold F_X12_laidOf_B45_4
    rw [q_letE (r + 2), q_letE (τ.1 (q_rf X a 20) (r + 2).toNatClampNeg), c2]
    by_cases q : y.toInt < m
    · have e1 : (y + 1).toInt = y.toInt + 1 := y_inc (by omega)
      have ks := m_K_succ c w k y.toInt y0
      have ex : ∀ d : Int32, d.toInt = 0 ∨ d.toInt = 1 → (x + d).toInt = x.toInt + d.toInt := fun d hd => by rw [ar_add, ar_wr (by omega) (by omega)]
      rw [if_pos q, hk]
      by_cases qk : k < 0
      · rw [if_pos qk, q_letE (x + 1), q_letE (y + 1)]
        rw [if_pos (Or.inl qk)] at ks
        exact ih _ _ (by omega) (by omega) (by omega) (by rw [ex 1 (Or.inr rfl), one, hx, e1, ks]; omega)
      · have i4 : (r + 3 + y).toInt = w + 3 + y.toInt := by rw [ar_add, i3, ar_wr (by omega) (by omega)]
        have c4 : (τ.1 (q_rf X a 20) (r + 3 + y).toNatClampNeg).toInt = c (w + 3 + y.toInt) := gm_cell (A := w + 3 + y.toInt) hc i4
        rw [if_neg qk, q_letE (r + 3), q_letE (r + 3 + y), q_letE (τ.1 (q_rf X a 20) (r + 3 + y).toNatClampNeg), c4]
        by_cases qe : c (w + 3 + y.toInt) = k
        · rw [if_pos qe, q_letE (x + 1), q_letE (y + 1)]
          rw [if_pos (Or.inr qe)] at ks
          exact ih _ _ (by omega) (by omega) (by omega) (by rw [ex 1 (Or.inr rfl), one, hx, e1, ks]; omega)
        · rw [if_neg qe, q_letE (x + 0), q_letE (y + 1)]
          rw [if_neg (by omega)] at ks
          exact ih _ _ (by omega) (by omega) (by omega) (by rw [ex 0 (Or.inl rfl), z0, hx, e1, ks]; omega)
    · have ey : y.toInt = m := by omega
      rw [if_neg q]
      unfold F_X12_laidOf_E93_5
      rw [q_letE]
      exact ⟨x, by rw [hx, ey], rfl⟩
theorem gm_laidL (hc : m_c X τ a = c) (hG : m_G c) {v1 v2 : Int32} {p k : Int} (hp : v1.toInt = p) (hk : v2.toInt = k) (fu : Nat) : ∀ x y : Int32, (2147483647 - y.toInt).toNat < fu → 0 ≤ y.toInt → y.toInt ≤ c 9 → x.toInt = m_A c p k y.toInt.toNat → (F_X12_laidOf_L5_1 X τ a v1 v2 fu x y).toInt = m_A c p k (c 9).toNat := by
  have b9 := hG.1.2.2.2.2.2.2.1
  have z0 : (0 : Int32).toInt = 0 := rfl
  have r9 : (τ.1 (q_rf X a 20) (9 : Int32).toNatClampNeg).toInt = c 9 := gm_cell (A := 9) hc rfl
  induction fu with
  | zero => intro x y h; exact absurd h (Nat.not_lt_zero _)
  | succ fu ih =>
    intro x y hf y0 y1 hx
    rw [F_X12_laidOf_L5_1_s]
    unfold F_X12_laidOf_B5_1
    rw [q_letE (τ.1 (q_rf X a 20) (9 : Int32).toNatClampNeg), r9]
    by_cases q : y.toInt < c 9
    · have e1 : (y + 1).toInt = y.toInt + 1 := y_inc (by omega)
      have lv : (F_X12_laid X τ y).toInt = 94 + 7 * y.toInt := gm_laid rfl ⟨y0, by omega⟩
      have sz := (hG.2.2.1 y.toInt y0 q).1
      have as := m_A_succ c p k y.toInt y0
      have ab := hG.A_bd p k y.toInt.toNat (by omega)
      have l80 := hG.L80 y0 (by omega : y.toInt ≤ c 9)
      have cp : (τ.1 (q_rf X a 20) (F_X12_laid X τ y).toNatClampNeg).toInt = c (94 + 7 * y.toInt) := gm_cell (A := 94 + 7 * y.toInt) hc lv
      rw [if_pos q, q_letE (F_X12_laid X τ y), hp]
      have cnt : (if 0 ≤ p ∧ c (94 + 7 * y.toInt) ≠ p then (0 : Int) else m_K c (94 + 7 * y.toInt) k (c (94 + 7 * y.toInt + 2)).toNat) = m_K c (94 + 7 * y.toInt) k (c (94 + 7 * y.toInt + 2)).toNat → (F_X12_laidOf_J42_3 X (F_X12_laid X τ y) τ a v2 y (F_X12_laidOf_L5_1 X τ a v1 v2 fu) x).toInt = m_A c p k (c 9).toNat := by
        intro h
        obtain ⟨x', h1, h2⟩ := gm_laidI (X := X) (τ := τ) (a := a) hc (k := k) (s0 := m_A c p k y.toInt.toNat) lv ⟨by omega, by omega⟩ hk rfl ⟨by omega, by omega⟩ ⟨by omega, by omega⟩ y (F_X12_laidOf_L5_1 X τ a v1 v2 fu) ((2147483647 - (0 : Int32).toInt).toNat + 1) x 0 (by omega) (by decide) (by rw [z0]; omega) (by rw [hx, z0]; show _ = m_A c p k y.toInt.toNat + 0; omega)
        unfold F_X12_laidOf_J42_3
        rw [h2]
        exact ih _ _ (by omega) (by omega) (by omega) (by rw [h1, e1, as, h])
      by_cases qp : p < 0
      · rw [if_pos qp]
        exact cnt (if_neg (by omega))
      · rw [if_neg qp, q_letE (τ.1 (q_rf X a 20) (F_X12_laid X τ y).toNatClampNeg), cp]
        by_cases qe : c (94 + 7 * y.toInt) = p
        · rw [if_pos qe]
          exact cnt (if_neg (by omega))
        · rw [if_neg qe, q_letE (y + 1)]
          rw [if_pos ⟨by omega, qe⟩] at as
          exact ih _ _ (by omega) (by omega) (by omega) (by rw [hx, e1, as]; omega)
    · have ey : y.toInt = c 9 := by omega
      rw [if_neg q, hx, ey]
/-- what a player laid -/
theorem gm_laidOf (hc : m_c X τ a = c) (hG : m_G c) {v1 v2 : Int32} {p k : Int} (hp : v1.toInt = p) (hk : v2.toInt = k) : (F_X12_laidOf X τ a v1 v2).toInt = m_A c p k (c 9).toNat := by
  have b9 := hG.1.2.2.2.2.2.2.1
  have z0 : (0 : Int32).toInt = 0 := rfl
  unfold F_X12_laidOf
  exact gm_laidL hc hG hp hk _ 0 0 (by decide) (by decide) (by rw [z0]; omega) (by rw [z0]; rfl)
theorem gm_inL (hc : m_c X τ a = c) (hG : m_G c) {v : Int32} {k : Int} (hk : v.toInt = k) (hk10 : 0 ≤ k ∧ k < 10) {s0 : Int} (h0 : 0 ≤ s0 ∧ s0 ≤ 1000) (fu : Nat) : ∀ x y : Int32, (2147483647 - y.toInt).toNat < fu → 0 ≤ y.toInt → y.toInt ≤ c 2 → x.toInt = s0 + m_P c k y.toInt.toNat → (0 ≤ x.toInt ∧ x.toInt ≤ s0 + 80 * y.toInt) → (F_X12_inGameOf_L9_1 X τ a v fu x y).toInt = s0 + m_P c k (c 2).toNat := by
  have h2 : 0 ≤ c 2 ∧ c 2 ≤ 6 := hG.1.2.1
  have r2 : (τ.1 (q_rf X a 20) (2 : Int32).toNatClampNeg).toInt = c 2 := gm_cell (A := 2) hc rfl
  induction fu with
  | zero => intro x y h; exact absurd h (Nat.not_lt_zero _)
  | succ fu ih =>
    intro x y hf y0 y1 hx xb
    rw [F_X12_inGameOf_L9_1_s]
    unfold F_X12_inGameOf_B9_1
    rw [q_letE (τ.1 (q_rf X a 20) (2 : Int32).toNatClampNeg), r2]
    by_cases q : y.toInt < c 2
    · have e1 : (y + 1).toInt = y.toInt + 1 := y_inc (by omega)
      have hh := gm_handOf hc (x := y) (y := v) rfl hk ⟨y0, by omega⟩ hk10
      have bb := hG.h80 y0 (by omega : y.toInt < 6) hk10.1 hk10.2
      have ex : (x + F_X12_handOf X τ a y v).toInt = x.toInt + c (34 + 10 * y.toInt + k) := by rw [ar_add, hh, ar_wr (by omega) (by omega)]
      rw [if_pos q, q_letE (F_X12_handOf X τ a y v), q_letE (x + F_X12_handOf X τ a y v), q_letE (y + 1)]
      refine ih _ _ (by omega) (by omega) (by omega) ?_ ⟨by omega, by omega⟩
      rw [ex, e1, hx, m_P_succ c k y.toInt y0]
      omega
    · have ey : y.toInt = c 2 := by omega
      rw [if_neg q, hx, ey]
/-- how many of a kind are in the game -/
theorem gm_inGameOf (hc : m_c X τ a = c) (hG : m_G c) {v : Int32} {k : Int} (hk : v.toInt = k) (hk10 : 0 ≤ k ∧ k < 10) : (F_X12_inGameOf X τ a v).toInt = m_I c k := by
  have h2 : 0 ≤ c 2 ∧ c 2 ≤ 6 := hG.1.2.1
  have b9 := hG.1.2.2.2.2.2.2.1
  have z0 : (0 : Int32).toInt = 0 := rfl
  have m1 : ((-1) : Int32).toInt = -1 := rfl
  have lo := gm_laidOf (X := X) (τ := τ) (a := a) hc hG (v1 := -1) (v2 := v) m1 hk
  have ab := hG.A_bd (-1) k (c 9).toNat (by omega)
  have l80 := hG.L80 b9.1 (Int.le_refl (c 9))
  unfold F_X12_inGameOf
  rw [q_letE (F_X12_laidOf X τ a (-1) v)]
  exact gm_inL hc hG hk hk10 ⟨ab.1, by omega⟩ _ _ 0 (by decide) (by decide) (by rw [z0]; exact h2.1) (by rw [lo, z0]; show _ = m_A c (-1) k (c 9).toNat + 0; omega) ⟨by omega, by rw [lo, z0]; omega⟩
end OL

/-! FROM 49zh.many.lean.txt -/
/-! OBSERVERS: many, player -/
section OM
variable {X : XW} {lb : Nat → Nat} {C a : Nat} {σ τ : ST} {n : Int}
end OM

/-! FROM 49zi.player.lean.txt -/
/-! OBSERVERS: player -/
section OP
variable {X : XW} {lb : Nat → Nat} {C a : Nat} {σ τ : ST} {n : Int}
end OP

/-! FROM 49zj.known.lean.txt -/
/-! OBSERVERS: known, unknown of a kind -/
section OK
variable {X : XW} {lb : Nat → Nat} {C a : Nat} {σ τ : ST} {n : Int}
theorem rg.know {V : Nat → Int → Int} {c : Int → Int} {g o : Nat} {σ0 : ST} (S : y_S X lb) (G8 : y_G X lb g o) (w : y_W X lb g o σ0 σ V) (R : rg V c) (G : m_G c) (hc : m_c X τ a = c) {v1 v2 : Int32} {p k : Int} (hv1 : v1.toInt = p) (hv2 : v2.toInt = k) (hp : 0 ≤ p ∧ p < c 2) (hk : 0 ≤ k ∧ k < 10) : (F_X1_knownTo X σ (q_rf X g 1) v1 v2).toInt = c (34 + 10 * p + k) + m_A c p k (c 9).toNat ∧ (F_X12_knownOf X τ a v1 v2).toInt = c (34 + 10 * p + k) + m_A c p k (c 9).toNat ∧ (F_X0_unknownTo X σ g v1 v2).toInt = m_U c p k ∧ (F_X12_unknownOf X τ a v1 v2).toInt = m_U c p k := by
  have h2 : 0 ≤ c 2 ∧ c 2 ≤ 6 := G.1.2.1
  have b9 := G.1.2.2.2.2.2.2.1
  have e10 : (10 : Int32).toInt = 10 := rfl
  have n7 : ((y_gn 7 : Nat) : Int) = 60 := rfl
  have n8 : ((y_gn 8 : Nat) : Int) = 60 := rfl
  have n4 : ((y_gn 4 : Nat) : Int) = 10 := rfl
  have ix : (v1 * (10 : Int32) + v2).toInt = 10 * p + k := by
    rw [ar_add, ar_mul, e10, hv1, hv2, ar_wr (n := p * 10) (by omega) (by omega), ar_wr (by omega) (by omega)]
    omega
  have hb := G.h80 hp.1 (by omega : p < 6) hk.1 hk.2
  have ab := G.A_bd p k (c 9).toNat (by omega)
  have l80 := G.L80 b9.1 (Int.le_refl (c 9))
  have ib := G.I_bd hk.1 hk.2
  have ho := gm_handOf (X := X) (τ := τ) (a := a) hc hv1 hv2 ⟨hp.1, by omega⟩ hk
  have lo := gm_laidOf (X := X) (τ := τ) (a := a) hc G hv1 hv2
  have io := gm_inGameOf (X := X) (τ := τ) (a := a) hc G hv2 hk
  have kn1 : (F_X1_knownTo X σ (q_rf X g 1) v1 v2).toInt = c (34 + 10 * p + k) + m_A c p k (c 9).toNat := by
    unfold F_X1_knownTo
    rw [q_letE (v1 * (10 : Int32)), q_letE (v1 * (10 : Int32) + v2), q_letE, q_letE, q_letE, ar_add, y_getI S G8 w (id := 7) (r := q_rf X (q_rf X g 1) 0) ⟨by decide, by decide⟩ rfl ix (by omega) (by rw [n7]; omega), y_getI S G8 w (id := 8) (r := q_rf X (q_rf X g 1) 1) ⟨by decide, by decide⟩ rfl ix (by omega) (by rw [n8]; omega), R.2.2.2.1.1 _ (by omega) (by omega), R.2.2.2.2.2.1 p k hp.1 (by omega) hk.1 hk.2]
    have e : (34 : Int) + (10 * p + k) = 34 + 10 * p + k := by omega
    rw [e, ar_wr (by omega) (by omega)]
  have kn2 : (F_X12_knownOf X τ a v1 v2).toInt = c (34 + 10 * p + k) + m_A c p k (c 9).toNat := by
    unfold F_X12_knownOf
    rw [q_letE (F_X12_handOf X τ a v1 v2), q_letE (F_X12_laidOf X τ a v1 v2), q_letE, ar_add, ho, lo, ar_wr (by omega) (by omega)]
  refine ⟨kn1, kn2, ?_, ?_⟩
  · unfold F_X0_unknownTo
    rw [q_letE, q_letE (F_X1_knownTo X σ (q_rf X g 1) v1 v2), q_letE, ar_sub, kn1, y_getI S G8 w (id := 4) (r := q_rf X (q_rf X g 0) 5) ⟨by decide, by decide⟩ rfl hv2 hk.1 (by rw [n4]; omega), R.2.2.2.2.2.2 k hk.1 hk.2, ar_wr (by omega) (by omega)]
    rfl
  · unfold F_X12_unknownOf
    rw [q_letE (F_X12_inGameOf X τ a v2), q_letE (F_X12_knownOf X τ a v1 v2), q_letE, ar_sub, kn2, io, ar_wr (by omega) (by omega)]
    rfl
end OK

/-! FROM 49zk.card.lean.txt -/
/-! OBSERVERS: cardOf -/
section OC
variable {X : XW} {lb : Nat → Nat} {C a : Nat} {σ τ : ST} {n : Int}
end OC
end
