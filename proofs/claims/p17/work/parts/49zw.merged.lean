/-! FROM 49zw.wrap.lean.txt -/
/-- what an object's cells hold as it begins -/
def y_ik (k : Nat) : Bool := k == 1 || k == 3 || k == 6 || k == 7 || k == 8 || k == 10 || k == 11 || k == 12 || k == 20
def y_iv (k f : Nat) : Int32 := match k with
  | 1 => match f with | 6 => -1 | 12 => -1 | 13 => -1 | 14 => -1 | _ => 0
  | 6 => match f with | 0 => 2 | 1 => 1 | 3 => 4 | _ => 0
  | 10 => match f with | 1 => -1 | _ => 0
  | 11 => match f with | 6 => -1 | 7 => -1 | _ => 0
  | 12 => match f with | 10 => -1 | 11 => -1 | _ => 0
  | _ => 0
def y_il (k f : Nat) : Int64 := match k with
  | 11 => match f with | 2 => 1 | _ => 0
  | 12 => match f with | 3 => 1 | _ => 0
  | _ => 0
def y_IV (X : XW) (σ : ST) : Prop := ∀ a, y_ik (q_kd X a) = true → ∀ f, (20 ≤ q_kd X a ∨ f < 60) → σ.1 a f = y_iv (q_kd X a) f ∧ σ.2.1 a f = y_il (q_kd X a) f
/-! THE MOVERS AS ONE -/
section OW
variable {X : XW} {lb : Nat → Nat} {C a : Nat} {σ τ : ST} {n : Int}
theorem ob_mk {P Q : Int32 × ST} {z z' : Int32} {σ' τ' : ST} (e1 : P = (z, σ')) (e2 : Q = (z', τ')) (h : z.toInt = z'.toInt) (s : (σ'.1 C 0).toInt = (τ'.1 a 0).toInt) (A : al_R X C a σ' τ') : ob_O X C a P Q := by
  rw [e1, e2]
  exact ⟨h, s, A⟩
theorem ob_W (M : m_M (m_c X τ a) (τ.1 a 24).toInt n) (hn : n ≤ 1000000) : ∀ q : Int, 0 ≤ q → q < 6 → (0 ≤ m_c X τ a (22 + q) ∧ m_c X τ a (22 + q) ≤ 1000000) ∧ 0 ≤ m_c X τ a (28 + q) ∧ m_c X τ a (28 + q) ≤ 1000000 := fun q q0 q1 => by
  have := M.1.2 q q0 q1
  omega
theorem ob_lay (K : al_C X lb C a) (A : al_R X C a σ τ) (M : m_M (m_c X τ a) (τ.1 a 24).toInt n) (p q r s : Int32) : ob_O X C a (F_X11_lay X σ C p q r s) (F_X12_lay X τ a p q r s) := by
  obtain ⟨kC, ka, S, lC, G8, G9, GM⟩ := id K
  obtain ⟨z, σ', z', τ', e1, e2, h, s, m⟩ := mv_lay S G8 (by omega) ka A.1.1 M.1.1 rfl p q r s
  exact ob_mk e1 e2 h s (A.mv K M m)
theorem ob_leave (K : al_C X lb C a) (A : al_R X C a σ τ) (M : m_M (m_c X τ a) (τ.1 a 24).toInt n) : ob_O X C a (F_X11_leave X σ C) (F_X12_leave X τ a) := by
  obtain ⟨kC, ka, S, lC, G8, G9, GM⟩ := id K
  obtain ⟨z, σ', z', τ', e1, e2, h, s, m⟩ := mv_leave S G8 (by omega) ka A.1.1 M.1.1 rfl
  exact ob_mk e1 e2 h s (A.mv K M m)
theorem ob_doubt (K : al_C X lb C a) (A : al_R X C a σ τ) (M : m_M (m_c X τ a) (τ.1 a 24).toInt n) (hn : n ≤ 1000000) (v : Int32) : ob_O X C a (F_X11_doubt X σ C v) (F_X12_doubt X τ a v) := by
  obtain ⟨kC, ka, S, lC, G8, G9, GM⟩ := id K
  obtain ⟨z, σ', z', τ', e1, e2, h, s, m⟩ := mv_doubt S G8 (by omega) ka A.1.1 M.1.1 (ob_W M hn) rfl v
  exact ob_mk e1 e2 h s (A.mv K M m)
theorem ob_bend (K : al_C X lb C a) (A : al_R X C a σ τ) (M : m_M (m_c X τ a) (τ.1 a 24).toInt n) (v x y : Int32) : ob_O X C a (F_X11_bend X σ C v x y) (F_X12_bend X τ a v x y) := by
  obtain ⟨kC, ka, S, lC, G8, G9, GM⟩ := id K
  obtain ⟨z, σ', z', τ', e1, e2, h, s, m⟩ := mv_bend S G8 (by omega) ka A.1.1 M.1.1 rfl v x y
  exact ob_mk e1 e2 h s (A.mv K M m)
theorem ob_mark (K : al_C X lb C a) (A : al_R X C a σ τ) (M : m_M (m_c X τ a) (τ.1 a 24).toInt n) : ob_O X C a (F_X11_mark X σ C) (F_X12_mark X τ a) := by
  obtain ⟨z, σ', z', τ', e1, e2, h, s, m⟩ := al_mark K A M
  exact ob_mk e1 e2 h s m
theorem ob_back (K : al_C X lb C a) (A : al_R X C a σ τ) (M : m_M (m_c X τ a) (τ.1 a 24).toInt n) : ob_O X C a (F_X11_back X σ C) (F_X12_back X τ a) := by
  obtain ⟨z, σ', z', τ', e1, e2, h, s, m⟩ := al_back K A M
  exact ob_mk e1 e2 h s m
/-! THE START OF BOTH -/
theorem al_start (K : al_C X lb C a) (I : y_IV X σ) (h24 : σ.1 a 24 = 0) (hc : ∀ j, σ.1 (q_rf X a 20) j = if j = 6 then -1 else if j = 8 then -1 else if j = 4 then 4 else if j = 1 then 1 else if j = 0 then 2 else 0) : al_R X C a σ σ ∧ al_P X C a σ σ ∧ (σ.1 C 0).toInt = (σ.1 a 0).toInt ∧ (σ.1 C 6).toInt = (σ.1 a 10).toInt ∧ (σ.1 C 7).toInt = (σ.1 a 11).toInt ∧ σ.2.1 C 1 = σ.2.1 a 2 ∧ σ.2.1 C 2 = σ.2.1 a 3 := by
  obtain ⟨kC, ka, S, lC, G8, G9, GM⟩ := id K
  have z0 : (0 : Int32).toInt = 0 := rfl
  have c11 : ∀ f, f < 60 → σ.1 C f = y_iv 11 f ∧ σ.2.1 C f = y_il 11 f := fun f hf => by
    have z := I C (by rw [kC]; rfl) f (Or.inr hf)
    rw [kC] at z
    exact z
  have c12 : ∀ f, f < 60 → σ.1 a f = y_iv 12 f ∧ σ.2.1 a f = y_il 12 f := fun f hf => by
    have z := I a (by rw [ka]; rfl) f (Or.inr hf)
    rw [ka] at z
    exact z
  have vk : ∀ (id : Nat) (i : Int), id < 25 → 0 ≤ i → (y_ki id = 20 ∨ i < 60) → y_v X (q_rf X C 8) σ id i = (y_iv (y_ki id) i.toNat).toInt := fun id i h h0 h1 => by
    have k := (y_gf S G8 id h).2.1
    have ik : y_ik (y_ki id) = true := by
      rcases (by omega : id = 0 ∨ id = 1 ∨ id = 2 ∨ id = 3 ∨ 4 ≤ id) with e | e | e | e | e
      · subst e; rfl
      · subst e; rfl
      · subst e; rfl
      · subst e; rfl
      · have : y_ki id = 20 := by
          unfold y_ki
          split <;> first | omega | rfl
        rw [this]
        rfl
    have z := (I (y_gA X (q_rf X C 8) id) (by rw [k]; exact ik) i.toNat (by
      rw [k]
      rcases h1 with h1 | h1
      · exact Or.inl (by omega)
      · exact Or.inr (by omega))).1
    rw [k] at z
    unfold y_v
    rw [if_pos ⟨h, h0⟩, z]
  have v20 : ∀ (id : Nat) (i : Int), 4 ≤ id → id < 25 → 0 ≤ i → y_v X (q_rf X C 8) σ id i = 0 := fun id i h h' h0 => by
    have k : y_ki id = 20 := by
      unfold y_ki
      split <;> first | omega | rfl
    rw [vk id i h' h0 (Or.inl k), k]
    rfl
  have mc : ∀ j : Int, 0 ≤ j → m_c X σ a j = if j = 6 then -1 else if j = 8 then -1 else if j = 4 then 4 else if j = 1 then 1 else if j = 0 then 2 else 0 := fun j j0 => by
    show (σ.1 (q_rf X a 20) j.toNat).toInt = _
    rw [hc]
    rcases (by omega : j = 6 ∨ j = 8 ∨ j = 4 ∨ j = 1 ∨ j = 0 ∨ (j ≠ 6 ∧ j ≠ 8 ∧ j ≠ 4 ∧ j ≠ 1 ∧ j ≠ 0)) with e | e | e | e | e | e
    · subst e; rfl
    · subst e; rfl
    · subst e; rfl
    · subst e; rfl
    · subst e; rfl
    · rw [if_neg (by omega), if_neg (by omega), if_neg (by omega), if_neg (by omega), if_neg (by omega), if_neg e.1, if_neg e.2.1, if_neg e.2.2.1, if_neg e.2.2.2.1, if_neg e.2.2.2.2]
      rfl
  have m0 : ∀ j : Int, j ≠ 6 → j ≠ 8 → j ≠ 4 → j ≠ 1 → 1 ≤ j → m_c X σ a j = 0 := fun j h6 h8 h4 h1 h0 => by
    rw [mc j (by omega), if_neg h6, if_neg h8, if_neg h4, if_neg h1, if_neg (by omega)]
  have c0 : m_c X σ a 0 = 2 := mc 0 (by decide)
  have c1 : m_c X σ a 1 = 1 := mc 1 (by decide)
  have c4 : m_c X σ a 4 = 4 := mc 4 (by decide)
  have c8 : m_c X σ a 8 = -1 := mc 8 (by decide)
  have c2 : m_c X σ a 2 = 0 := m0 2 (by decide) (by decide) (by decide) (by decide) (by decide)
  have c9 : m_c X σ a 9 = 0 := m0 9 (by decide) (by decide) (by decide) (by decide) (by decide)
  have c655 : m_c X σ a 655 = 0 := m0 655 (by decide) (by decide) (by decide) (by decide) (by decide)
  have c654 : m_c X σ a 654 = 0 := m0 654 (by decide) (by decide) (by decide) (by decide) (by decide)
  have e11 : σ.1 C 11 = 0 := (c11 11 (by decide)).1
  refine ⟨⟨⟨⟨⟨?_, ?_, ?_, ?_, ?_, ?_, ?_⟩, ⟨?_, ?_, ⟨?_, ?_⟩, ?_⟩, fun p p0 p1 => ?_, ⟨fun j j0 j1 => ?_, fun p p0 p1 => ?_⟩, ⟨?_, ?_, fun k k0 k1 => ?_⟩, ⟨fun p k p0 p1 k0 k1 => ?_, fun k k0 k1 => ?_⟩⟩, ?_, ?_, ?_, ?_, ?_, 0, ?_⟩, ?_, ?_, fun b b1 b2 => ?_⟩, ⟨?_, ?_⟩, ?_, ?_, ?_, ?_, ?_⟩
  · rw [vk 1 0 (by decide) (by decide) (Or.inr (by decide)), c0]; rfl
  · rw [vk 1 1 (by decide) (by decide) (Or.inr (by decide)), c1]; rfl
  · rw [vk 1 2 (by decide) (by decide) (Or.inr (by decide)), m0 3 (by decide) (by decide) (by decide) (by decide) (by decide)]; rfl
  · rw [vk 1 3 (by decide) (by decide) (Or.inr (by decide)), c4]; rfl
  · rw [vk 1 4 (by decide) (by decide) (Or.inr (by decide)), c2]; rfl
  · rw [m0 3 (by decide) (by decide) (by decide) (by decide) (by decide)]; decide
  · rw [m0 3 (by decide) (by decide) (by decide) (by decide) (by decide)]; decide
  · rw [vk 0 4 (by decide) (by decide) (Or.inr (by decide)), m0 5 (by decide) (by decide) (by decide) (by decide) (by decide)]; rfl
  · rw [vk 0 5 (by decide) (by decide) (Or.inr (by decide)), if_pos c2]; rfl
  · rw [vk 0 6 (by decide) (by decide) (Or.inr (by decide)), c8]; rfl
  · rw [c8]; decide
  · rw [vk 0 7 (by decide) (by decide) (Or.inr (by decide)), m0 7 (by decide) (by decide) (by decide) (by decide) (by decide)]; rfl
  · rw [v20 10 p (by decide) (by decide) p0, v20 11 p (by decide) (by decide) p0, v20 12 p (by decide) (by decide) p0, v20 13 p (by decide) (by decide) p0, m0 _ (by omega) (by omega) (by omega) (by omega) (by omega), m0 _ (by omega) (by omega) (by omega) (by omega) (by omega), m0 _ (by omega) (by omega) (by omega) (by omega) (by omega), m0 _ (by omega) (by omega) (by omega) (by omega) (by omega)]
    exact ⟨rfl, rfl, rfl, rfl⟩
  · rw [v20 7 j (by decide) (by decide) j0, m0 _ (by omega) (by omega) (by omega) (by omega) (by omega)]
  · rw [v20 9 p (by decide) (by decide) p0]
    exact (m_S_z (fun j j0 j1 => m0 j (by omega) (by omega) (by omega) (by omega) (by omega))).symm
  · rw [vk 2 0 (by decide) (by decide) (Or.inr (by decide)), c9]; rfl
  · rw [vk 2 1 (by decide) (by decide) (Or.inr (by decide)), c9]; rfl
  · rw [c9] at k1; omega
  · rw [v20 8 _ (by decide) (by decide) (by omega), c9]; rfl
  · rw [v20 4 k (by decide) (by decide) k0]
    unfold m_I
    rw [c9, c2]
    rfl
  · intro p p0 p1
    rw [c2] at p1
    omega
  · rw [vk 3 0 (by decide) (by decide) (Or.inr (by decide)), c654]; rfl
  · exact Or.inl c654
  · rw [vk 3 1 (by decide) (by decide) (Or.inr (by decide)), c655]; rfl
  · rw [vk 3 2 (by decide) (by decide) (Or.inr (by decide))]; decide
  · rw [vk 3 2 (by decide) (by decide) (Or.inr (by decide)), c655]
    exact ⟨rfl, rfl⟩
  · rw [e11, h24]
  · rw [e11]; decide
  · rw [e11, z0] at b2; omega
  · rw [(c11 16 (by decide)).1, (c12 37 (by decide)).1]; rfl
  · intro h
    exact absurd (by rw [(c12 37 (by decide)).1]; rfl) h
  · rw [(c11 0 (by decide)).1, (c12 0 (by decide)).1]; rfl
  · rw [(c11 6 (by decide)).1, (c12 10 (by decide)).1]; rfl
  · rw [(c11 7 (by decide)).1, (c12 11 (by decide)).1]; rfl
  · rw [(c11 1 (by decide)).2, (c12 2 (by decide)).2]; rfl
  · rw [(c11 2 (by decide)).2, (c12 3 (by decide)).2]; rfl
end OW
