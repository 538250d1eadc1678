/-! FROM 49zv.keep.lean.txt -/
/-! WHAT STANDS BEHIND A CALL THAT MOVES NOTHING -/
def kp_C (L : List (Nat × Nat)) : Bool := L.all (fun x => x.1 != 1 && x.1 != 3 && x.1 != 6 && x.1 != 8 && x.1 != 20 && (x.1 != 11 || (x.2 != 11 && x.2 != 99)))
def kp_M (L M : List (Nat × Nat)) : Bool := L.all (fun x => x.1 != 34 && (x.1 != 12 || (x.2 != 24 && x.2 != 99))) && M.all (fun x => x.1 != 37)
theorem kp_no {L : List (Nat × Nat)} {k f : Nat} (h : L.all (fun x => x.1 != k || (x.2 != f && x.2 != 99)) = true) : q_in2 L k f = false := by
  unfold q_in2
  rw [List.any_eq_false]
  intro x hx
  have h1 := List.all_eq_true.mp h x hx
  intro e
  have e' : x.1 = k ∧ (x.2 = 99 ∨ x.2 = f) := by simpa using e
  have h1' : ¬ x.1 = k ∨ (x.2 ≠ f ∧ x.2 ≠ 99) := by simpa using h1
  have h2 : x.2 ≠ f ∧ x.2 ≠ 99 := by
    rcases h1' with h1' | h1'
    · exact absurd e'.1 h1'
    · exact h1'
  rcases e'.2 with e2 | e2
  · exact h2.2 e2
  · exact h2.1 e2
theorem kp_no1 {L : List (Nat × Nat)} {k : Nat} (h : L.all (fun x => x.1 != k) = true) (f : Nat) : q_in2 L k f = false := by
  refine kp_no (List.all_eq_true.mpr (fun x hx => ?_))
  have h1 := List.all_eq_true.mp h x hx
  rw [Bool.or_eq_true]
  exact Or.inl h1
theorem kp_Ce {L : List (Nat × Nat)} (h : kp_C L = true) : (∀ f, q_in2 L 1 f = false) ∧ (∀ f, q_in2 L 3 f = false) ∧ (∀ f, q_in2 L 6 f = false) ∧ (∀ f, q_in2 L 8 f = false) ∧ (∀ f, q_in2 L 20 f = false) ∧ q_in2 L 11 11 = false := by
  unfold kp_C at h
  rw [List.all_eq_true] at h
  have hs : ∀ x ∈ L, x.1 ≠ 1 ∧ x.1 ≠ 3 ∧ x.1 ≠ 6 ∧ x.1 ≠ 8 ∧ x.1 ≠ 20 ∧ (¬ x.1 = 11 ∨ (x.2 ≠ 11 ∧ x.2 ≠ 99)) := fun x hx => by
    have := h x hx
    simpa [and_assoc] using this
  have one : ∀ k, (∀ x ∈ L, x.1 ≠ k) → ∀ f, q_in2 L k f = false := fun k hk f => kp_no1 (List.all_eq_true.mpr (fun x hx => by simpa using hk x hx)) f
  refine ⟨one 1 (fun x hx => (hs x hx).1), one 3 (fun x hx => (hs x hx).2.1), one 6 (fun x hx => (hs x hx).2.2.1), one 8 (fun x hx => (hs x hx).2.2.2.1), one 20 (fun x hx => (hs x hx).2.2.2.2.1), kp_no (List.all_eq_true.mpr (fun x hx => ?_))⟩
  have := (hs x hx).2.2.2.2.2
  simpa using this
theorem kp_Me {L M : List (Nat × Nat)} (h : kp_M L M = true) : (∀ f, q_in2 L 34 f = false) ∧ q_in2 L 12 24 = false ∧ ∀ f, q_in2 M 37 f = false := by
  unfold kp_M at h
  rw [Bool.and_eq_true, List.all_eq_true, List.all_eq_true] at h
  have hs : ∀ x ∈ L, x.1 ≠ 34 ∧ (¬ x.1 = 12 ∨ (x.2 ≠ 24 ∧ x.2 ≠ 99)) := fun x hx => by
    have := h.1 x hx
    simpa using this
  refine ⟨fun f => kp_no1 (List.all_eq_true.mpr (fun x hx => by simpa using (hs x hx).1)) f, kp_no (List.all_eq_true.mpr (fun x hx => ?_)), fun f => kp_no1 (List.all_eq_true.mpr (fun x hx => h.2 x hx)) f⟩
  have := (hs x hx).2
  simpa using this
section KP
variable {X : XW} {lb : Nat → Nat} {g o C a : Nat} {σ σ' σ1 τ τ' : ST} {L M : List (Nat × Nat)} {n : Int}
theorem kp_v (S : y_S X lb) (G : y_G X lb g o) (ow : q_ow L M X σ σ') (h : kp_C L = true) : y_v X g σ' = y_v X g σ := by
  obtain ⟨h1, h3, h6, h8, h20, -⟩ := kp_Ce h
  funext id i
  unfold y_v
  by_cases q : id < 25 ∧ 0 ≤ i
  · rw [if_pos q, if_pos q]
    have k := (y_gf S G id q.1).2.1
    refine congrArg Int32.toInt (ow.1 _ _ ?_)
    rw [k]
    unfold y_ki
    split
    · exact h1 _
    · exact h6 _
    · exact h3 _
    · exact h8 _
    · exact h20 _
  · rw [if_neg q, if_neg q]
/-- the class's cells stand -/
theorem al_R.post (K : al_C X lb C a) (A : al_R X C a σ τ) (ow : q_ow L M X σ σ') (h : kp_C L = true) : al_R X C a σ' τ := by
  obtain ⟨kC, ka, S, lC, G8, G9, GM⟩ := id K
  obtain ⟨A1, A2, A3, A4⟩ := A
  have e11 : σ'.1 C 11 = σ.1 C 11 := ow.1 C 11 (by rw [kC]; exact (kp_Ce h).2.2.2.2.2)
  refine ⟨by rw [kp_v S G8 ow h]; exact A1, by rw [e11]; exact A2, by rw [e11]; exact A3, fun b b1 b2 => ?_⟩
  rw [e11] at b2
  rw [kp_v S (GM (b - 1) (by omega)) ow h]
  exact A4 b b1 b2
/-- the reference's cells stand -/
theorem al_R.pre (K : al_C X lb C a) (A : al_R X C a σ τ) (ow : q_ow L M X τ τ') (h : kp_M L M = true) : al_R X C a σ τ' := by
  obtain ⟨kC, ka, S, lC, G8, G9, GM⟩ := id K
  obtain ⟨h34, h24, h37⟩ := kp_Me h
  obtain ⟨A1, A2, A3, A4⟩ := A
  obtain ⟨k20, -, k23, -⟩ := tb_k S.1 ka
  have e24 : τ'.1 a 24 = τ.1 a 24 := ow.1 a 24 (by rw [ka]; exact h24)
  have m : m_c X τ' a = m_c X τ a := pl_mc (fun f => ow.1 _ f (by rw [k20]; exact h34 f))
  have w : m_wd X τ' a = m_wd X τ a := by
    funext j
    exact congrArg Int64.toInt (ow.2 _ _ (by rw [k23]; exact h37 _))
  exact ⟨by rw [m, w]; exact A1, by rw [e24]; exact A2, A3, fun b b1 b2 => by rw [m, w]; exact A4 b b1 b2⟩
/-! what a look ahead writes -/
def fs_S (X : XW) (g : Nat) (b f : Nat) : Prop := b = q_rf X (q_rf X g 10) 0 ∨ b = g ∧ 9 ≤ f
theorem fs_set (x v : Int32) : tkl (fs_S X g) (fun _ _ => False) σ (F_X5_set X σ (q_rf X g 10) x v) := by
  unfold F_X5_set
  split
  · exact tkl.rf
  · rw [q_letE (q_len X (q_rf X (q_rf X g 10) 0))]
    split
    · rw [q_letE]
      exact tkl.rf.si _ (Or.inl rfl)
    · exact tkl.rf
theorem fs_add (x v : Int32) : tkl (fs_S X g) (fun _ _ => False) σ (F_X5_add X σ (q_rf X g 10) x v) := by
  unfold F_X5_add
  split
  · exact tkl.rf
  · rw [q_letE (q_len X (q_rf X (q_rf X g 10) 0))]
    split
    · rw [q_letE, q_letE, q_letE]
      exact tkl.rf.si _ (Or.inl rfl)
    · exact tkl.rf
theorem fs_L {v1 v2 r : Int32} (fu : Nat) : ∀ (x : Int32) (σ1 : ST), tkl (fs_S X g) (fun _ _ => False) σ σ1 → tkl (fs_S X g) (fun _ _ => False) σ (F_X0_foresee_L83_4 X v2 g v1 r fu x σ1) := by
  induction fu with
  | zero => intro x σ1 h; exact h
  | succ fu ih =>
    intro x σ1 h
    have s : ∀ {s1 : ST}, tkl (fs_S X g) (fun _ _ => False) σ s1 → ∀ (f : Nat) (v : Int32), 9 ≤ f → tkl (fs_S X g) (fun _ _ => False) σ (q_si s1 g f v) := fun k f v hf => k.si _ (Or.inr ⟨rfl, hf⟩)
    rw [F_X0_foresee_L83_4_s]
    unfold F_X0_foresee_B83_4
    split
    · rw [q_letE (σ1.1 g 12)]
      split
      · rw [q_letE (F_X0_fallingKind X σ1 g v1 x)]
        obtain ⟨k, ek⟩ : ∃ k, k = F_X0_fallingKind X σ1 g v1 x := ⟨_, rfl⟩
        rw [← ek, q_letE (F_X5_get X σ1 (q_rf X g 10) k), q_letE (σ1.1 (q_rf X g 0) 3)]
        obtain ⟨m, em⟩ : ∃ m, m = F_J9_min_7cf53 X σ1 (F_X5_get X σ1 (q_rf X g 10) k) (σ1.1 (q_rf X g 0) 3) := ⟨_, rfl⟩
        rw [← em, q_letE m, q_letE (-m), q_letE (F_X5_add X σ1 (q_rf X g 10) k (-m))]
        have h2 := h.tr (fs_add (X := X) (g := g) (σ := σ1) k (-m))
        obtain ⟨σ2, e2⟩ : ∃ t, t = F_X5_add X σ1 (q_rf X g 10) k (-m) := ⟨_, rfl⟩
        rw [← e2] at h2 ⊢
        rw [q_letE (σ2.1 g 11), q_letE (σ2.1 g 11 + m), q_letE (q_si σ2 g 11 (σ2.1 g 11 + m))]
        have h3 := s h2 11 (σ2.1 g 11 + m) (by decide)
        obtain ⟨σ3, e3⟩ : ∃ t, t = q_si σ2 g 11 (σ2.1 g 11 + m) := ⟨_, rfl⟩
        rw [← e3] at h3 ⊢
        split
        · rw [q_letE (q_si σ3 g 13 k), q_letE ((q_si σ3 g 13 k).1 g 11)]
          have h4 := s h3 13 k (by decide)
          split
          · rw [q_letE (x + 1), q_letE (q_si (q_si σ3 g 13 k) g 12 (x + 1)), q_letE (x + 1)]
            exact ih _ _ (s h4 12 _ (by decide))
          · rw [q_letE (x + 1)]
            exact ih _ _ h4
        · rw [q_letE (σ3.1 g 14)]
          split
          · rw [q_letE (q_si σ3 g 14 x), q_letE ((q_si σ3 g 14 x).1 g 11)]
            have h4 := s h3 14 x (by decide)
            split
            · rw [q_letE (x + 1), q_letE (q_si (q_si σ3 g 14 x) g 12 (x + 1)), q_letE (x + 1)]
              exact ih _ _ (s h4 12 _ (by decide))
            · rw [q_letE (x + 1)]
              exact ih _ _ h4
          · rw [q_letE (σ3.1 g 11)]
            split
            · rw [q_letE (x + 1), q_letE (q_si σ3 g 12 (x + 1)), q_letE (x + 1)]
              exact ih _ _ (s h3 12 _ (by decide))
            · rw [q_letE (x + 1)]
              exact ih _ _ h3
      · exact h
    · exact h
theorem fs_J {v1 v2 r x : Int32} (h : tkl (fs_S X g) (fun _ _ => False) σ σ1) : tkl (fs_S X g) (fun _ _ => False) σ (F_X0_foresee_J67_3 X σ1 g v2 v1 r x) := by
  unfold F_X0_foresee_J67_3
  rw [q_letE, q_letE, q_letE]
  exact fs_L _ _ _ (((h.si _ (Or.inr ⟨rfl, by decide⟩)).si _ (Or.inr ⟨rfl, by decide⟩)).si _ (Or.inr ⟨rfl, by decide⟩))
theorem fs_K {v1 v2 r : Int32} (fu : Nat) : ∀ (x : Int32) (σ1 : ST), tkl (fs_S X g) (fun _ _ => False) σ σ1 → tkl (fs_S X g) (fun _ _ => False) σ (F_X0_foresee_L15_1 X g v1 r v2 fu x σ1) := by
  induction fu with
  | zero => intro x σ1 h; exact h
  | succ fu ih =>
    intro x σ1 h
    rw [F_X0_foresee_L15_1_s]
    unfold F_X0_foresee_B15_1
    rw [q_letE (σ1.1 (q_rf X g 0) 0)]
    split
    · rw [q_letE (F_X1_heldBy X σ1 (q_rf X g 1) v1 x), q_letE (F_X5_set X σ1 (q_rf X g 10) x (F_X1_heldBy X σ1 (q_rf X g 1) v1 x)), q_letE (x + 1)]
      exact ih _ _ (h.tr (fs_set _ _))
    · unfold F_X0_foresee_E52_6
      rw [q_letE (q_si σ1 g 11 0)]
      have h1 : tkl (fs_S X g) (fun _ _ => False) σ (q_si σ1 g 11 0) := h.si _ (Or.inr ⟨rfl, by decide⟩)
      split
      · exact fs_J h1
      · exact fs_J h1
theorem fs_all (v1 v2 : Int32) : tkl (fs_S X g) (fun _ _ => False) σ (F_X0_foresee X σ g v1 v2) := by
  unfold F_X0_foresee
  rw [q_letE (F_X5_get X σ (q_rf X (q_rf X g 1) 2) v1)]
  exact fs_K _ _ _ tkl.rf
/-- behind a look ahead both are the same -/
def fs_C (X : XW) (C : Nat) (b f : Nat) : Prop := fs_S X (q_rf X C 8) b f ∨ b = C ∧ f = 0
theorem al_R.fs (K : al_C X lb C a) (A : al_R X C a σ τ) (M : m_M (m_c X τ a) (τ.1 a 24).toInt n) (h : tkl (fs_C X C) (fun _ _ => False) σ σ') : al_R X C a σ' τ := by
  obtain ⟨kC, ka, S, lC, G8, G9, GM⟩ := id K
  have k8 := G8.1
  have n8 : C ≠ q_rf X C 8 := m_ne kC k8 (by decide)
  have k24 := (y_gf S G8 24 (by decide)).2.1
  have o24 := y_own S G8 (id := 24) (by decide)
  have o0 := y_own S G8 (id := 0) (by decide)
  have e : ∀ (id : Nat) (i : Int), id ≠ 24 → (id ≠ 0 ∨ i ≤ 8) → y_v X (q_rf X C 8) σ' id i = y_v X (q_rf X C 8) σ id i := by
    intro id i h1 h2
    unfold y_v
    by_cases q : id < 25 ∧ 0 ≤ i
    · rw [if_pos q, if_pos q]
      refine congrArg Int32.toInt (h.1 _ _ ?_)
      rintro ((z | ⟨z, z2⟩) | ⟨z, -⟩)
      · exact h1 (y_gA_inj S G8 (i := id) (j := 24) q.1 (by decide) z)
      · have := y_gA_inj S G8 (i := id) (j := 0) q.1 (by decide) z
        omega
      · have := y_own S G8 q.1
        rw [z, lC] at this
        omega
    · rw [if_neg q, if_neg q]
  refine A.fr K M rfl rfl (A.1.1.w M.1.1 (fun id i h1 h2 h3 => e id i h2 (by omega))) ⟨fun id i h1 => e id i (by omega) (by omega), fun _ _ _ => rfl⟩ (fun b hb f => h.1 b f ?_) (h.1 C 11 ?_) rfl rfl
  · rintro ((z | ⟨z, -⟩) | ⟨z, -⟩)
    · have : lb b / 8192 = 1 := by rw [z]; exact o24
      omega
    · have : lb b / 8192 = 1 := by rw [z]; exact o0
      omega
    · rw [z, lC] at hb
      omega
  · rintro ((z | ⟨z, -⟩) | ⟨-, z⟩)
    · have o24' : lb (q_rf X (q_rf X (q_rf X C 8) 10) 0) / 8192 = 1 := o24
      rw [← z, lC] at o24'
      omega
    · exact n8 z
    · omega
theorem fs_C0 (k : Int32) : tkl (fs_C X C) (fun _ _ => False) σ (q_si σ C 0 k) := tkl.rf.si _ (Or.inr ⟨rfl, rfl⟩)
theorem fs_Cs (v1 v2 : Int32) : tkl (fs_C X C) (fun _ _ => False) σ (F_X0_foresee X σ (q_rf X C 8) v1 v2) := (fs_all v1 v2).mono (fun b f z => Or.inl z) (fun _ _ z => z)
theorem fs_gn {σ1 : ST} (h : tkl (fs_C X C) (fun _ _ => False) σ σ1) (v : Int32) : tkl (fs_C X C) (fun _ _ => False) σ (q_bi (F_X11_goodOrNotThere X σ1 C v) (fun r s => (r, s))).2 := by
  rw [ob_pe]
  unfold F_X11_goodOrNotThere
  split
  · rw [ob_pe, mv_none]
    exact h.tr (fs_C0 _)
  · rw [ob_pe, mv_good]
    exact h.tr (fs_C0 _)
theorem fs_honestly (v1 v2 : Int32) : tkl (fs_C X C) (fun _ _ => False) σ (F_X11_honestly X σ C v1 v2).2 := by
  unfold F_X11_honestly
  rw [q_letE (F_X11_forecastStatus X σ C v1 v2)]
  split
  · rw [q_letE (F_X0_foresee X σ (q_rf X C 8) v1 v2), q_letE, ob_pe, mv_good]
    exact (fs_Cs v1 v2).tr (fs_C0 _)
  · rw [ob_pe, mv_none]
    exact fs_C0 _
theorem fs_rid (v1 : Int32) : tkl (fs_C X C) (fun _ _ => False) σ (F_X11_rid X σ C v1).2 := by
  unfold F_X11_rid
  rw [q_letE (F_X11_isPlayer X σ C v1)]
  split
  · rw [ob_pe, mv_none]
    exact fs_C0 _
  · rw [q_letE (F_X0_foresee X σ (q_rf X C 8) v1 60), q_letE]
    exact fs_gn (fs_Cs v1 60) _
theorem fs_mustLie (v1 : Int32) : tkl (fs_C X C) (fun _ _ => False) σ (F_X11_mustLie X σ C v1).2 := by
  unfold F_X11_mustLie
  rw [q_letE (F_X11_isPlayer X σ C v1)]
  split
  · rw [ob_pe, mv_none]
    exact fs_C0 _
  · rw [q_letE (F_X0_foresee X σ (q_rf X C 8) v1 60), q_letE]
    exact fs_gn (fs_Cs v1 60) _
theorem fs_lastKind (v1 : Int32) : tkl (fs_C X C) (fun _ _ => False) σ (F_X11_lastKind X σ C v1).2 := by
  unfold F_X11_lastKind
  rw [q_letE (F_X11_isPlayer X σ C v1)]
  split
  · rw [ob_pe, mv_none]
    exact fs_C0 _
  · rw [q_letE (F_X0_foresee X σ (q_rf X C 8) v1 60)]
    have h := fs_Cs (X := X) (C := C) (σ := σ) v1 60
    obtain ⟨σ6, e6⟩ : ∃ t, t = F_X0_foresee X σ (q_rf X C 8) v1 60 := ⟨_, rfl⟩
    rw [← e6] at h ⊢
    rw [q_letE (σ6.1 (q_rf X C 8) 12)]
    split
    · exact fs_gn h _
    · rw [q_letE (σ6.1 (q_rf X C 8) 13)]
      exact fs_gn h _
theorem fs_soonestL (fu : Nat) : ∀ (x y z : Int32) (σ1 : ST), tkl (fs_C X C) (fun _ _ => False) σ σ1 → tkl (fs_C X C) (fun _ _ => False) σ (F_X11_soonest_L7_1 X C fu x y z σ1).2 := by
  induction fu with
  | zero => intro x y z σ1 h; exact h
  | succ fu ih =>
    intro x y z σ1 h
    rw [F_X11_soonest_L7_1_s]
    unfold F_X11_soonest_B7_1
    rw [q_letE (σ1.1 (q_rf X (q_rf X C 8) 0) 4)]
    split
    · rw [q_letE (F_X0_foresee X σ1 (q_rf X C 8) z 60)]
      have h2 := h.tr (fs_Cs (X := X) (C := C) (σ := σ1) z 60)
      obtain ⟨σ6, e6⟩ : ∃ t, t = F_X0_foresee X σ1 (q_rf X C 8) z 60 := ⟨_, rfl⟩
      rw [← e6] at h2 ⊢
      rw [q_letE (σ6.1 (q_rf X C 8) 12)]
      split
      · rw [q_letE (z + 1)]
        exact ih _ _ _ _ h2
      · rw [q_letE (σ6.1 (q_rf X C 8) 12)]
        split
        · rw [q_letE (σ6.1 (q_rf X C 8) 12), q_letE (z + 1)]
          exact ih _ _ _ _ h2
        · rw [q_letE (z + 1)]
          exact ih _ _ _ _ h2
    · unfold F_X11_soonest_E69_2
      exact fs_gn h _
theorem fs_soonest : tkl (fs_C X C) (fun _ _ => False) σ (F_X11_soonest X σ C).2 := by
  unfold F_X11_soonest
  exact fs_soonestL _ _ _ _ _ tkl.rf
end KP
