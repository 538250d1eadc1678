/-! GAMES COPIED, BLOCKS COPIED -/
def y_in (L : List (Nat × Nat)) (id : Nat) (i : Int) : Prop := ∃ e ∈ L, e.1 = id ∧ (e.2 = 99 ∧ 0 ≤ i ∧ i < (y_gn id : Int) ∨ e.2 ≠ 99 ∧ i = (e.2 : Int))
/-- g1 has taken of g what L names -/
def y_C (X : XW) (lb : Nat → Nat) (g1 o g : Nat) (σ τ : ST) (L : List (Nat × Nat)) : Prop := ∃ V1 : Nat → Int → Int, y_W X lb g1 o σ τ V1 ∧ ∀ id i, y_in L id i → V1 id i = y_v X g σ id i
section YC
variable {X : XW} {lb : Nat → Nat} {g1 g o o' : Nat} {σ τ : ST} {L : List (Nat × Nat)}
theorem y_C.rf : y_C X lb g1 o g σ σ [] := ⟨_, y_W.rf, fun id i h => by obtain ⟨e, he, _⟩ := h; cases he⟩
theorem y_C.si (S : y_S X lb) (G1 : y_G X lb g1 o) (G : y_G X lb g o') (ho : o' ≠ o) (h : y_C X lb g1 o g σ τ L) {id : Nat} (hid : id < 25) (f : Nat) (hf : f ≠ 99) : y_C X lb g1 o g σ (q_si τ (y_gA X g1 id) f (τ.1 (y_gA X g id) f)) ((id, f) :: L) := by
  obtain ⟨V1, W, hd⟩ := h
  have W' := W.si S G1 hid f (τ.1 (y_gA X g id) f)
  have hv : (τ.1 (y_gA X g id) f).toInt = y_v X g σ id (f : Int) := by
    rw [W.1 _ (by rw [y_own S G hid]; exact ho), y_v_rdn hid]
  refine ⟨_, W', fun id' i' hi => ?_⟩
  show (if id' = id ∧ i' = (f : Int) then (τ.1 (y_gA X g id) f).toInt else V1 id' i') = y_v X g σ id' i'
  by_cases q : id' = id ∧ i' = (f : Int)
  · obtain ⟨rfl, rfl⟩ := q
    rw [if_pos ⟨rfl, rfl⟩, hv]
  · rw [if_neg q]
    obtain ⟨e, he, h1, h2⟩ := hi
    rcases List.mem_cons.mp he with he | he
    · subst he
      rcases h2 with ⟨h2, _⟩ | ⟨_, h2⟩
      · exact absurd h2 hf
      · exact absurd ⟨h1.symm, h2⟩ q
    · exact hd id' i' ⟨e, he, h1, h2⟩
theorem y_C.row (S : y_S X lb) (G1 : y_G X lb g1 o) (G : y_G X lb g o') (ho : o' ≠ o) (h : y_C X lb g1 o g σ τ L) {id r r' : Nat} (hid : 4 ≤ id ∧ id < 25) (hr : q_rf X r 0 = y_gA X g1 id) (hr' : q_rf X r' 0 = y_gA X g id) : y_C X lb g1 o g σ (F_X5_copyFrom X τ r r') ((id, 99) :: L) := by
  obtain ⟨V1, W, hd⟩ := h
  have own : lb (y_gA X g id) / 8192 ≠ o := by rw [y_own S G hid.2]; exact ho
  have W' := W.copy S G1 (r' := r') hid hr (by rw [hr']; exact y_ln S G hid) (by rw [hr']; exact y_gA_ne S G1 hid.2 own)
  refine ⟨_, W', fun id' i' hi => ?_⟩
  show (if id' = id ∧ 0 ≤ i' ∧ i' < (y_gn id : Int) then (τ.1 (q_rf X r' 0) i'.toNat).toInt else V1 id' i') = y_v X g σ id' i'
  by_cases q : id' = id ∧ 0 ≤ i' ∧ i' < (y_gn id : Int)
  · obtain ⟨rfl, q0, q1⟩ := q
    rw [if_pos ⟨rfl, q0, q1⟩, hr', W.1 _ own]
    unfold y_v
    rw [if_pos ⟨hid.2, q0⟩]
  · rw [if_neg q]
    obtain ⟨e, he, h1, h2⟩ := hi
    rcases List.mem_cons.mp he with he | he
    · subst he
      rcases h2 with ⟨_, h2⟩ | ⟨h2, _⟩
      · exact absurd ⟨h1.symm, by rw [← h1] at h2; exact h2⟩ q
      · exact absurd rfl h2
    · exact hd id' i' ⟨e, he, h1, h2⟩
def y_all : List (Nat × Nat) := [(0, 7), (0, 6), (0, 5), (0, 4), (22, 99), (21, 99), (20, 99), (19, 99), (18, 99), (3, 2), (3, 1), (3, 0), (17, 99), (16, 99), (15, 99), (14, 99), (2, 1), (2, 0), (13, 99), (12, 99), (11, 99), (10, 99), (9, 99), (8, 99), (7, 99), (6, 99), (5, 99), (4, 99), (1, 4), (1, 3), (1, 2), (1, 1), (1, 0)]
theorem tb_copy (S : y_S X lb) (G1 : y_G X lb g1 o) (G : y_G X lb g o') (ho : o' ≠ o) : y_C X lb g1 o g σ (F_X0_copyFrom X σ g1 g) y_all := by
  have h0 : y_C X lb g1 o g σ σ [] := y_C.rf
  unfold F_X0_copyFrom F_X6_copyFrom F_X1_copyFrom F_X2_copyFrom F_X8_copyFrom
  have h1 := h0.si S G1 G ho (id := 1) (by decide) 0 (by decide)
  rw [q_letE (σ.1 (q_rf X g 0) 0), q_letE (q_si σ (q_rf X g1 0) 0 (σ.1 (q_rf X g 0) 0))]
  obtain ⟨s1, e1⟩ : ∃ s, s = q_si σ (q_rf X g1 0) 0 (σ.1 (q_rf X g 0) 0) := ⟨_, rfl⟩
  have h1' : y_C X lb g1 o g σ (q_si σ (q_rf X g1 0) 0 (σ.1 (q_rf X g 0) 0)) _ := h1
  rw [← e1] at h1' ⊢
  clear h0 h1
  have h1 := h1'
  clear h1' e1
  have h2 := h1.si S G1 G ho (id := 1) (by decide) 1 (by decide)
  rw [q_letE (s1.1 (q_rf X g 0) 1), q_letE (q_si s1 (q_rf X g1 0) 1 (s1.1 (q_rf X g 0) 1))]
  obtain ⟨s2, e2⟩ : ∃ s, s = q_si s1 (q_rf X g1 0) 1 (s1.1 (q_rf X g 0) 1) := ⟨_, rfl⟩
  have h2' : y_C X lb g1 o g σ (q_si s1 (q_rf X g1 0) 1 (s1.1 (q_rf X g 0) 1)) _ := h2
  rw [← e2] at h2' ⊢
  clear h2
  have h2 := h2'
  clear h2' e2
  have h3 := h2.si S G1 G ho (id := 1) (by decide) 2 (by decide)
  rw [q_letE (s2.1 (q_rf X g 0) 2), q_letE (q_si s2 (q_rf X g1 0) 2 (s2.1 (q_rf X g 0) 2))]
  obtain ⟨s3, e3⟩ : ∃ s, s = q_si s2 (q_rf X g1 0) 2 (s2.1 (q_rf X g 0) 2) := ⟨_, rfl⟩
  have h3' : y_C X lb g1 o g σ (q_si s2 (q_rf X g1 0) 2 (s2.1 (q_rf X g 0) 2)) _ := h3
  rw [← e3] at h3' ⊢
  clear h3
  have h3 := h3'
  clear h3' e3
  have h4 := h3.si S G1 G ho (id := 1) (by decide) 3 (by decide)
  rw [q_letE (s3.1 (q_rf X g 0) 3), q_letE (q_si s3 (q_rf X g1 0) 3 (s3.1 (q_rf X g 0) 3))]
  obtain ⟨s4, e4⟩ : ∃ s, s = q_si s3 (q_rf X g1 0) 3 (s3.1 (q_rf X g 0) 3) := ⟨_, rfl⟩
  have h4' : y_C X lb g1 o g σ (q_si s3 (q_rf X g1 0) 3 (s3.1 (q_rf X g 0) 3)) _ := h4
  rw [← e4] at h4' ⊢
  clear h4
  have h4 := h4'
  clear h4' e4
  have h5 := h4.si S G1 G ho (id := 1) (by decide) 4 (by decide)
  rw [q_letE (s4.1 (q_rf X g 0) 4), q_letE (q_si s4 (q_rf X g1 0) 4 (s4.1 (q_rf X g 0) 4))]
  obtain ⟨s5, e5⟩ : ∃ s, s = q_si s4 (q_rf X g1 0) 4 (s4.1 (q_rf X g 0) 4) := ⟨_, rfl⟩
  have h5' : y_C X lb g1 o g σ (q_si s4 (q_rf X g1 0) 4 (s4.1 (q_rf X g 0) 4)) _ := h5
  rw [← e5] at h5' ⊢
  clear h5
  have h5 := h5'
  clear h5' e5
  have h6 := h5.row S G1 G ho (id := 4) (r := q_rf X (q_rf X g1 0) 5) (r' := q_rf X (q_rf X g 0) 5) ⟨by decide, by decide⟩ rfl rfl
  rw [q_letE (F_X5_copyFrom X s5 (q_rf X (q_rf X g1 0) 5) (q_rf X (q_rf X g 0) 5))]
  obtain ⟨s6, e6⟩ : ∃ s, s = F_X5_copyFrom X s5 (q_rf X (q_rf X g1 0) 5) (q_rf X (q_rf X g 0) 5) := ⟨_, rfl⟩
  have h6' : y_C X lb g1 o g σ (F_X5_copyFrom X s5 (q_rf X (q_rf X g1 0) 5) (q_rf X (q_rf X g 0) 5)) _ := h6
  rw [← e6] at h6' ⊢
  clear h6
  have h6 := h6'
  clear h6' e6
  have h7 := h6.row S G1 G ho (id := 5) (r := q_rf X (q_rf X g1 0) 6) (r' := q_rf X (q_rf X g 0) 6) ⟨by decide, by decide⟩ rfl rfl
  rw [q_letE (F_X5_copyFrom X s6 (q_rf X (q_rf X g1 0) 6) (q_rf X (q_rf X g 0) 6))]
  obtain ⟨s7, e7⟩ : ∃ s, s = F_X5_copyFrom X s6 (q_rf X (q_rf X g1 0) 6) (q_rf X (q_rf X g 0) 6) := ⟨_, rfl⟩
  have h7' : y_C X lb g1 o g σ (F_X5_copyFrom X s6 (q_rf X (q_rf X g1 0) 6) (q_rf X (q_rf X g 0) 6)) _ := h7
  rw [← e7] at h7' ⊢
  clear h7
  have h7 := h7'
  clear h7' e7
  have h8 := h7.row S G1 G ho (id := 6) (r := q_rf X (q_rf X g1 0) 7) (r' := q_rf X (q_rf X g 0) 7) ⟨by decide, by decide⟩ rfl rfl
  rw [q_letE (F_X5_copyFrom X s7 (q_rf X (q_rf X g1 0) 7) (q_rf X (q_rf X g 0) 7))]
  obtain ⟨s8, e8⟩ : ∃ s, s = F_X5_copyFrom X s7 (q_rf X (q_rf X g1 0) 7) (q_rf X (q_rf X g 0) 7) := ⟨_, rfl⟩
  have h8' : y_C X lb g1 o g σ (F_X5_copyFrom X s7 (q_rf X (q_rf X g1 0) 7) (q_rf X (q_rf X g 0) 7)) _ := h8
  rw [← e8] at h8' ⊢
  clear h8
  have h8 := h8'
  clear h8' e8
  rw [q_letE s8]
  have h9 := h8.row S G1 G ho (id := 7) (r := q_rf X (q_rf X g1 1) 0) (r' := q_rf X (q_rf X g 1) 0) ⟨by decide, by decide⟩ rfl rfl
  rw [q_letE (F_X5_copyFrom X s8 (q_rf X (q_rf X g1 1) 0) (q_rf X (q_rf X g 1) 0))]
  obtain ⟨s9, e9⟩ : ∃ s, s = F_X5_copyFrom X s8 (q_rf X (q_rf X g1 1) 0) (q_rf X (q_rf X g 1) 0) := ⟨_, rfl⟩
  have h9' : y_C X lb g1 o g σ (F_X5_copyFrom X s8 (q_rf X (q_rf X g1 1) 0) (q_rf X (q_rf X g 1) 0)) _ := h9
  rw [← e9] at h9' ⊢
  clear h9
  have h9 := h9'
  clear h9' e9
  have h10 := h9.row S G1 G ho (id := 8) (r := q_rf X (q_rf X g1 1) 1) (r' := q_rf X (q_rf X g 1) 1) ⟨by decide, by decide⟩ rfl rfl
  rw [q_letE (F_X5_copyFrom X s9 (q_rf X (q_rf X g1 1) 1) (q_rf X (q_rf X g 1) 1))]
  obtain ⟨s10, e10⟩ : ∃ s, s = F_X5_copyFrom X s9 (q_rf X (q_rf X g1 1) 1) (q_rf X (q_rf X g 1) 1) := ⟨_, rfl⟩
  have h10' : y_C X lb g1 o g σ (F_X5_copyFrom X s9 (q_rf X (q_rf X g1 1) 1) (q_rf X (q_rf X g 1) 1)) _ := h10
  rw [← e10] at h10' ⊢
  clear h10
  have h10 := h10'
  clear h10' e10
  have h11 := h10.row S G1 G ho (id := 9) (r := q_rf X (q_rf X g1 1) 2) (r' := q_rf X (q_rf X g 1) 2) ⟨by decide, by decide⟩ rfl rfl
  rw [q_letE (F_X5_copyFrom X s10 (q_rf X (q_rf X g1 1) 2) (q_rf X (q_rf X g 1) 2))]
  obtain ⟨s11, e11⟩ : ∃ s, s = F_X5_copyFrom X s10 (q_rf X (q_rf X g1 1) 2) (q_rf X (q_rf X g 1) 2) := ⟨_, rfl⟩
  have h11' : y_C X lb g1 o g σ (F_X5_copyFrom X s10 (q_rf X (q_rf X g1 1) 2) (q_rf X (q_rf X g 1) 2)) _ := h11
  rw [← e11] at h11' ⊢
  clear h11
  have h11 := h11'
  clear h11' e11
  have h12 := h11.row S G1 G ho (id := 10) (r := q_rf X (q_rf X g1 1) 3) (r' := q_rf X (q_rf X g 1) 3) ⟨by decide, by decide⟩ rfl rfl
  rw [q_letE (F_X5_copyFrom X s11 (q_rf X (q_rf X g1 1) 3) (q_rf X (q_rf X g 1) 3))]
  obtain ⟨s12, e12⟩ : ∃ s, s = F_X5_copyFrom X s11 (q_rf X (q_rf X g1 1) 3) (q_rf X (q_rf X g 1) 3) := ⟨_, rfl⟩
  have h12' : y_C X lb g1 o g σ (F_X5_copyFrom X s11 (q_rf X (q_rf X g1 1) 3) (q_rf X (q_rf X g 1) 3)) _ := h12
  rw [← e12] at h12' ⊢
  clear h12
  have h12 := h12'
  clear h12' e12
  have h13 := h12.row S G1 G ho (id := 11) (r := q_rf X (q_rf X g1 1) 4) (r' := q_rf X (q_rf X g 1) 4) ⟨by decide, by decide⟩ rfl rfl
  rw [q_letE (F_X5_copyFrom X s12 (q_rf X (q_rf X g1 1) 4) (q_rf X (q_rf X g 1) 4))]
  obtain ⟨s13, e13⟩ : ∃ s, s = F_X5_copyFrom X s12 (q_rf X (q_rf X g1 1) 4) (q_rf X (q_rf X g 1) 4) := ⟨_, rfl⟩
  have h13' : y_C X lb g1 o g σ (F_X5_copyFrom X s12 (q_rf X (q_rf X g1 1) 4) (q_rf X (q_rf X g 1) 4)) _ := h13
  rw [← e13] at h13' ⊢
  clear h13
  have h13 := h13'
  clear h13' e13
  have h14 := h13.row S G1 G ho (id := 12) (r := q_rf X (q_rf X g1 1) 5) (r' := q_rf X (q_rf X g 1) 5) ⟨by decide, by decide⟩ rfl rfl
  rw [q_letE (F_X5_copyFrom X s13 (q_rf X (q_rf X g1 1) 5) (q_rf X (q_rf X g 1) 5))]
  obtain ⟨s14, e14⟩ : ∃ s, s = F_X5_copyFrom X s13 (q_rf X (q_rf X g1 1) 5) (q_rf X (q_rf X g 1) 5) := ⟨_, rfl⟩
  have h14' : y_C X lb g1 o g σ (F_X5_copyFrom X s13 (q_rf X (q_rf X g1 1) 5) (q_rf X (q_rf X g 1) 5)) _ := h14
  rw [← e14] at h14' ⊢
  clear h14
  have h14 := h14'
  clear h14' e14
  have h15 := h14.row S G1 G ho (id := 13) (r := q_rf X (q_rf X g1 1) 6) (r' := q_rf X (q_rf X g 1) 6) ⟨by decide, by decide⟩ rfl rfl
  rw [q_letE (F_X5_copyFrom X s14 (q_rf X (q_rf X g1 1) 6) (q_rf X (q_rf X g 1) 6))]
  obtain ⟨s15, e15⟩ : ∃ s, s = F_X5_copyFrom X s14 (q_rf X (q_rf X g1 1) 6) (q_rf X (q_rf X g 1) 6) := ⟨_, rfl⟩
  have h15' : y_C X lb g1 o g σ (F_X5_copyFrom X s14 (q_rf X (q_rf X g1 1) 6) (q_rf X (q_rf X g 1) 6)) _ := h15
  rw [← e15] at h15' ⊢
  clear h15
  have h15 := h15'
  clear h15' e15
  rw [q_letE s15]
  have h16 := h15.si S G1 G ho (id := 2) (by decide) 0 (by decide)
  rw [q_letE (s15.1 (q_rf X g 2) 0), q_letE (q_si s15 (q_rf X g1 2) 0 (s15.1 (q_rf X g 2) 0))]
  obtain ⟨s16, e16⟩ : ∃ s, s = q_si s15 (q_rf X g1 2) 0 (s15.1 (q_rf X g 2) 0) := ⟨_, rfl⟩
  have h16' : y_C X lb g1 o g σ (q_si s15 (q_rf X g1 2) 0 (s15.1 (q_rf X g 2) 0)) _ := h16
  rw [← e16] at h16' ⊢
  clear h16
  have h16 := h16'
  clear h16' e16
  have h17 := h16.si S G1 G ho (id := 2) (by decide) 1 (by decide)
  rw [q_letE (s16.1 (q_rf X g 2) 1), q_letE (q_si s16 (q_rf X g1 2) 1 (s16.1 (q_rf X g 2) 1))]
  obtain ⟨s17, e17⟩ : ∃ s, s = q_si s16 (q_rf X g1 2) 1 (s16.1 (q_rf X g 2) 1) := ⟨_, rfl⟩
  have h17' : y_C X lb g1 o g σ (q_si s16 (q_rf X g1 2) 1 (s16.1 (q_rf X g 2) 1)) _ := h17
  rw [← e17] at h17' ⊢
  clear h17
  have h17 := h17'
  clear h17' e17
  have h18 := h17.row S G1 G ho (id := 14) (r := q_rf X (q_rf X g1 2) 2) (r' := q_rf X (q_rf X g 2) 2) ⟨by decide, by decide⟩ rfl rfl
  rw [q_letE (F_X5_copyFrom X s17 (q_rf X (q_rf X g1 2) 2) (q_rf X (q_rf X g 2) 2))]
  obtain ⟨s18, e18⟩ : ∃ s, s = F_X5_copyFrom X s17 (q_rf X (q_rf X g1 2) 2) (q_rf X (q_rf X g 2) 2) := ⟨_, rfl⟩
  have h18' : y_C X lb g1 o g σ (F_X5_copyFrom X s17 (q_rf X (q_rf X g1 2) 2) (q_rf X (q_rf X g 2) 2)) _ := h18
  rw [← e18] at h18' ⊢
  clear h18
  have h18 := h18'
  clear h18' e18
  have h19 := h18.row S G1 G ho (id := 15) (r := q_rf X (q_rf X g1 2) 3) (r' := q_rf X (q_rf X g 2) 3) ⟨by decide, by decide⟩ rfl rfl
  rw [q_letE (F_X5_copyFrom X s18 (q_rf X (q_rf X g1 2) 3) (q_rf X (q_rf X g 2) 3))]
  obtain ⟨s19, e19⟩ : ∃ s, s = F_X5_copyFrom X s18 (q_rf X (q_rf X g1 2) 3) (q_rf X (q_rf X g 2) 3) := ⟨_, rfl⟩
  have h19' : y_C X lb g1 o g σ (F_X5_copyFrom X s18 (q_rf X (q_rf X g1 2) 3) (q_rf X (q_rf X g 2) 3)) _ := h19
  rw [← e19] at h19' ⊢
  clear h19
  have h19 := h19'
  clear h19' e19
  have h20 := h19.row S G1 G ho (id := 16) (r := q_rf X (q_rf X g1 2) 4) (r' := q_rf X (q_rf X g 2) 4) ⟨by decide, by decide⟩ rfl rfl
  rw [q_letE (F_X5_copyFrom X s19 (q_rf X (q_rf X g1 2) 4) (q_rf X (q_rf X g 2) 4))]
  obtain ⟨s20, e20⟩ : ∃ s, s = F_X5_copyFrom X s19 (q_rf X (q_rf X g1 2) 4) (q_rf X (q_rf X g 2) 4) := ⟨_, rfl⟩
  have h20' : y_C X lb g1 o g σ (F_X5_copyFrom X s19 (q_rf X (q_rf X g1 2) 4) (q_rf X (q_rf X g 2) 4)) _ := h20
  rw [← e20] at h20' ⊢
  clear h20
  have h20 := h20'
  clear h20' e20
  have h21 := h20.row S G1 G ho (id := 17) (r := q_rf X (q_rf X g1 2) 5) (r' := q_rf X (q_rf X g 2) 5) ⟨by decide, by decide⟩ rfl rfl
  rw [q_letE (F_X5_copyFrom X s20 (q_rf X (q_rf X g1 2) 5) (q_rf X (q_rf X g 2) 5))]
  obtain ⟨s21, e21⟩ : ∃ s, s = F_X5_copyFrom X s20 (q_rf X (q_rf X g1 2) 5) (q_rf X (q_rf X g 2) 5) := ⟨_, rfl⟩
  have h21' : y_C X lb g1 o g σ (F_X5_copyFrom X s20 (q_rf X (q_rf X g1 2) 5) (q_rf X (q_rf X g 2) 5)) _ := h21
  rw [← e21] at h21' ⊢
  clear h21
  have h21 := h21'
  clear h21' e21
  rw [q_letE s21]
  have h22 := h21.si S G1 G ho (id := 3) (by decide) 0 (by decide)
  rw [q_letE (s21.1 (q_rf X g 3) 0), q_letE (q_si s21 (q_rf X g1 3) 0 (s21.1 (q_rf X g 3) 0))]
  obtain ⟨s22, e22⟩ : ∃ s, s = q_si s21 (q_rf X g1 3) 0 (s21.1 (q_rf X g 3) 0) := ⟨_, rfl⟩
  have h22' : y_C X lb g1 o g σ (q_si s21 (q_rf X g1 3) 0 (s21.1 (q_rf X g 3) 0)) _ := h22
  rw [← e22] at h22' ⊢
  clear h22
  have h22 := h22'
  clear h22' e22
  have h23 := h22.si S G1 G ho (id := 3) (by decide) 1 (by decide)
  rw [q_letE (s22.1 (q_rf X g 3) 1), q_letE (q_si s22 (q_rf X g1 3) 1 (s22.1 (q_rf X g 3) 1))]
  obtain ⟨s23, e23⟩ : ∃ s, s = q_si s22 (q_rf X g1 3) 1 (s22.1 (q_rf X g 3) 1) := ⟨_, rfl⟩
  have h23' : y_C X lb g1 o g σ (q_si s22 (q_rf X g1 3) 1 (s22.1 (q_rf X g 3) 1)) _ := h23
  rw [← e23] at h23' ⊢
  clear h23
  have h23 := h23'
  clear h23' e23
  have h24 := h23.si S G1 G ho (id := 3) (by decide) 2 (by decide)
  rw [q_letE (s23.1 (q_rf X g 3) 2), q_letE (q_si s23 (q_rf X g1 3) 2 (s23.1 (q_rf X g 3) 2))]
  obtain ⟨s24, e24⟩ : ∃ s, s = q_si s23 (q_rf X g1 3) 2 (s23.1 (q_rf X g 3) 2) := ⟨_, rfl⟩
  have h24' : y_C X lb g1 o g σ (q_si s23 (q_rf X g1 3) 2 (s23.1 (q_rf X g 3) 2)) _ := h24
  rw [← e24] at h24' ⊢
  clear h24
  have h24 := h24'
  clear h24' e24
  have h25 := h24.row S G1 G ho (id := 18) (r := q_rf X (q_rf X g1 3) 3) (r' := q_rf X (q_rf X g 3) 3) ⟨by decide, by decide⟩ rfl rfl
  rw [q_letE (F_X5_copyFrom X s24 (q_rf X (q_rf X g1 3) 3) (q_rf X (q_rf X g 3) 3))]
  obtain ⟨s25, e25⟩ : ∃ s, s = F_X5_copyFrom X s24 (q_rf X (q_rf X g1 3) 3) (q_rf X (q_rf X g 3) 3) := ⟨_, rfl⟩
  have h25' : y_C X lb g1 o g σ (F_X5_copyFrom X s24 (q_rf X (q_rf X g1 3) 3) (q_rf X (q_rf X g 3) 3)) _ := h25
  rw [← e25] at h25' ⊢
  clear h25
  have h25 := h25'
  clear h25' e25
  have h26 := h25.row S G1 G ho (id := 19) (r := q_rf X (q_rf X g1 3) 4) (r' := q_rf X (q_rf X g 3) 4) ⟨by decide, by decide⟩ rfl rfl
  rw [q_letE (F_X5_copyFrom X s25 (q_rf X (q_rf X g1 3) 4) (q_rf X (q_rf X g 3) 4))]
  obtain ⟨s26, e26⟩ : ∃ s, s = F_X5_copyFrom X s25 (q_rf X (q_rf X g1 3) 4) (q_rf X (q_rf X g 3) 4) := ⟨_, rfl⟩
  have h26' : y_C X lb g1 o g σ (F_X5_copyFrom X s25 (q_rf X (q_rf X g1 3) 4) (q_rf X (q_rf X g 3) 4)) _ := h26
  rw [← e26] at h26' ⊢
  clear h26
  have h26 := h26'
  clear h26' e26
  have h27 := h26.row S G1 G ho (id := 20) (r := q_rf X (q_rf X g1 3) 5) (r' := q_rf X (q_rf X g 3) 5) ⟨by decide, by decide⟩ rfl rfl
  rw [q_letE (F_X5_copyFrom X s26 (q_rf X (q_rf X g1 3) 5) (q_rf X (q_rf X g 3) 5))]
  obtain ⟨s27, e27⟩ : ∃ s, s = F_X5_copyFrom X s26 (q_rf X (q_rf X g1 3) 5) (q_rf X (q_rf X g 3) 5) := ⟨_, rfl⟩
  have h27' : y_C X lb g1 o g σ (F_X5_copyFrom X s26 (q_rf X (q_rf X g1 3) 5) (q_rf X (q_rf X g 3) 5)) _ := h27
  rw [← e27] at h27' ⊢
  clear h27
  have h27 := h27'
  clear h27' e27
  have h28 := h27.row S G1 G ho (id := 21) (r := q_rf X (q_rf X g1 3) 6) (r' := q_rf X (q_rf X g 3) 6) ⟨by decide, by decide⟩ rfl rfl
  rw [q_letE (F_X5_copyFrom X s27 (q_rf X (q_rf X g1 3) 6) (q_rf X (q_rf X g 3) 6))]
  obtain ⟨s28, e28⟩ : ∃ s, s = F_X5_copyFrom X s27 (q_rf X (q_rf X g1 3) 6) (q_rf X (q_rf X g 3) 6) := ⟨_, rfl⟩
  have h28' : y_C X lb g1 o g σ (F_X5_copyFrom X s27 (q_rf X (q_rf X g1 3) 6) (q_rf X (q_rf X g 3) 6)) _ := h28
  rw [← e28] at h28' ⊢
  clear h28
  have h28 := h28'
  clear h28' e28
  have h29 := h28.row S G1 G ho (id := 22) (r := q_rf X (q_rf X g1 3) 7) (r' := q_rf X (q_rf X g 3) 7) ⟨by decide, by decide⟩ rfl rfl
  rw [q_letE (F_X5_copyFrom X s28 (q_rf X (q_rf X g1 3) 7) (q_rf X (q_rf X g 3) 7))]
  obtain ⟨s29, e29⟩ : ∃ s, s = F_X5_copyFrom X s28 (q_rf X (q_rf X g1 3) 7) (q_rf X (q_rf X g 3) 7) := ⟨_, rfl⟩
  have h29' : y_C X lb g1 o g σ (F_X5_copyFrom X s28 (q_rf X (q_rf X g1 3) 7) (q_rf X (q_rf X g 3) 7)) _ := h29
  rw [← e29] at h29' ⊢
  clear h29
  have h29 := h29'
  clear h29' e29
  rw [q_letE s29]
  have h30 := h29.si S G1 G ho (id := 0) (by decide) 4 (by decide)
  rw [q_letE (s29.1 (g) 4), q_letE (q_si s29 (g1) 4 (s29.1 (g) 4))]
  obtain ⟨s30, e30⟩ : ∃ s, s = q_si s29 (g1) 4 (s29.1 (g) 4) := ⟨_, rfl⟩
  have h30' : y_C X lb g1 o g σ (q_si s29 (g1) 4 (s29.1 (g) 4)) _ := h30
  rw [← e30] at h30' ⊢
  clear h30
  have h30 := h30'
  clear h30' e30
  have h31 := h30.si S G1 G ho (id := 0) (by decide) 5 (by decide)
  rw [q_letE (s30.1 (g) 5), q_letE (q_si s30 (g1) 5 (s30.1 (g) 5))]
  obtain ⟨s31, e31⟩ : ∃ s, s = q_si s30 (g1) 5 (s30.1 (g) 5) := ⟨_, rfl⟩
  have h31' : y_C X lb g1 o g σ (q_si s30 (g1) 5 (s30.1 (g) 5)) _ := h31
  rw [← e31] at h31' ⊢
  clear h31
  have h31 := h31'
  clear h31' e31
  have h32 := h31.si S G1 G ho (id := 0) (by decide) 6 (by decide)
  rw [q_letE (s31.1 (g) 6), q_letE (q_si s31 (g1) 6 (s31.1 (g) 6))]
  obtain ⟨s32, e32⟩ : ∃ s, s = q_si s31 (g1) 6 (s31.1 (g) 6) := ⟨_, rfl⟩
  have h32' : y_C X lb g1 o g σ (q_si s31 (g1) 6 (s31.1 (g) 6)) _ := h32
  rw [← e32] at h32' ⊢
  clear h32
  have h32 := h32'
  clear h32' e32
  have h33 := h32.si S G1 G ho (id := 0) (by decide) 7 (by decide)
  rw [q_letE (s32.1 (g) 7), q_letE (q_si s32 (g1) 7 (s32.1 (g) 7))]
  obtain ⟨s33, e33⟩ : ∃ s, s = q_si s32 (g1) 7 (s32.1 (g) 7) := ⟨_, rfl⟩
  have h33' : y_C X lb g1 o g σ (q_si s32 (g1) 7 (s32.1 (g) 7)) _ := h33
  rw [← e33] at h33' ⊢
  clear h33
  have h33 := h33'
  clear h33' e33
  exact h33
end YC
section YB
variable {X : XW} {a : Nat} {τ τ0 : ST}
/-- block s to block d -/
theorem tm_copyW {v1 v2 : Int32} {s d : Int} (hv1 : v1.toInt = s) (hv2 : v2.toInt = d) (hs : 0 ≤ s ∧ s ≤ 4) (hd : 0 ≤ d ∧ d ≤ 4) (hsd : s ≠ d) (k : Nat) : ∀ (x : Int32) (τ : ST), (2147483647 - x.toInt).toNat < k → 0 ≤ x.toInt → x.toInt ≤ 6 → tkl (fun _ _ => False) (fun b _ => b = q_rf X a 23) τ0 τ → (∀ j : Int, 0 ≤ j → m_wd X τ a j = if 6 * d ≤ j ∧ j < 6 * d + x.toInt then m_wd X τ0 a (6 * s + (j - 6 * d)) else m_wd X τ0 a j) →
    tkl (fun _ _ => False) (fun b _ => b = q_rf X a 23) τ0 (F_X12_copy_L41_3 X v2 v1 a k x τ) ∧ ∀ j : Int, 0 ≤ j → m_wd X (F_X12_copy_L41_3 X v2 v1 a k x τ) a j = if 6 * d ≤ j ∧ j < 6 * d + 6 then m_wd X τ0 a (6 * s + (j - 6 * d)) else m_wd X τ0 a j := by
  induction k with
  | zero => intro x τ hm; exact absurd hm (Nat.not_lt_zero _)
  | succ k ih =>
    intro x τ hm h0 h1 ht hz
    have hb := ar_bd x
    have e6 : (6 : Int32).toInt = 6 := rfl
    rw [F_X12_copy_L41_3_s]
    unfold F_X12_copy_B41_3
    by_cases q : x.toInt < 6
    · rw [if_pos q, q_letE, q_letE, q_letE, q_letE, q_letE, q_letE, q_letE]
      have e : (x + 1).toInt = x.toInt + 1 := y_inc (by omega)
      have id_ : ((6 : Int32) * v2 + x).toInt = 6 * d + x.toInt := by rw [ar_add, ar_mul, e6, hv2, ar_wr (n := 6 * d) (by omega) (by omega), ar_wr (by omega) (by omega)]
      have is_ : ((6 : Int32) * v1 + x).toInt = 6 * s + x.toInt := by rw [ar_add, ar_mul, e6, hv1, ar_wr (n := 6 * s) (by omega) (by omega), ar_wr (by omega) (by omega)]
      have hg : (τ.2.1 (q_rf X a 23) ((6 : Int32) * v1 + x).toNatClampNeg).toInt = m_wd X τ0 a (6 * s + x.toInt) := by
        have z := hz (6 * s + x.toInt) (by omega)
        rw [if_neg (by omega)] at z
        rw [← z]
        unfold m_wd
        rw [ar_cl, is_]
      refine ih (x + 1) _ (by omega) (by omega) (by omega) (ht.sl _ rfl) (fun j j0 => ?_)
      rw [e]
      show (if q_rf X a 23 = q_rf X a 23 ∧ j.toNat = ((6 : Int32) * v2 + x).toNatClampNeg then τ.2.1 (q_rf X a 23) ((6 : Int32) * v1 + x).toNatClampNeg else τ.2.1 (q_rf X a 23) j.toNat).toInt = _
      by_cases q2 : j = 6 * d + x.toInt
      · rw [if_pos ⟨rfl, by rw [ar_cl, id_, q2]⟩, hg, if_pos ⟨by omega, by omega⟩]
        congr 1
        omega
      · rw [if_neg (fun z => q2 (by have := z.2; rw [ar_cl, id_] at this; omega))]
        have z := hz j j0
        unfold m_wd at z ⊢
        rw [z]
        by_cases q3 : 6 * d ≤ j ∧ j < 6 * d + x.toInt
        · rw [if_pos q3, if_pos ⟨q3.1, by omega⟩]
        · rw [if_neg q3, if_neg (fun z => q3 ⟨z.1, by omega⟩)]
    · rw [if_neg q]
      refine ⟨ht, fun j j0 => ?_⟩
      rw [hz j j0]
      have ex : x.toInt = 6 := by omega
      rw [ex]
theorem tm_copyL {v1 v2 : Int32} {s d : Int} (hv1 : v1.toInt = s) (hv2 : v2.toInt = d) (hs : 0 ≤ s ∧ s ≤ 4) (hd : 0 ≤ d ∧ d ≤ 4) (hsd : s ≠ d) (k : Nat) : ∀ (x : Int32) (τ : ST), (2147483647 - x.toInt).toNat < k → 0 ≤ x.toInt → x.toInt ≤ 930 → tkl (fun b _ => b = q_rf X a 20) (fun _ _ => False) τ0 τ → (∀ j : Int, 0 ≤ j → m_c X τ a j = if 930 * d ≤ j ∧ j < 930 * d + x.toInt then m_c X τ0 a (930 * s + (j - 930 * d)) else m_c X τ0 a j) →
    ∃ τ' : ST, F_X12_copy_L2_1 X v2 v1 a k x τ = F_X12_copy_L41_3 X v2 v1 a ((2147483647 - (0 : Int32).toInt).toNat + 1) (0 : Int32) τ' ∧ tkl (fun b _ => b = q_rf X a 20) (fun _ _ => False) τ0 τ' ∧ ∀ j : Int, 0 ≤ j → m_c X τ' a j = if 930 * d ≤ j ∧ j < 930 * d + 930 then m_c X τ0 a (930 * s + (j - 930 * d)) else m_c X τ0 a j := by
  induction k with
  | zero => intro x τ hm; exact absurd hm (Nat.not_lt_zero _)
  | succ k ih =>
    intro x τ hm h0 h1 ht hz
    have hb := ar_bd x
    have e6 : (930 : Int32).toInt = 930 := rfl
    rw [F_X12_copy_L2_1_s]
    unfold F_X12_copy_B2_1
    by_cases q : x.toInt < 930
    · rw [if_pos q, q_letE, q_letE, q_letE, q_letE, q_letE, q_letE, q_letE]
      have e : (x + 1).toInt = x.toInt + 1 := y_inc (by omega)
      have id_ : ((930 : Int32) * v2 + x).toInt = 930 * d + x.toInt := by rw [ar_add, ar_mul, e6, hv2, ar_wr (n := 930 * d) (by omega) (by omega), ar_wr (by omega) (by omega)]
      have is_ : ((930 : Int32) * v1 + x).toInt = 930 * s + x.toInt := by rw [ar_add, ar_mul, e6, hv1, ar_wr (n := 930 * s) (by omega) (by omega), ar_wr (by omega) (by omega)]
      have hg : (τ.1 (q_rf X a 20) ((930 : Int32) * v1 + x).toNatClampNeg).toInt = m_c X τ0 a (930 * s + x.toInt) := by
        have z := hz (930 * s + x.toInt) (by omega)
        rw [if_neg (by omega)] at z
        rw [← z]
        exact m_rd (X := X) rfl is_
      refine ih (x + 1) _ (by omega) (by omega) (by omega) (ht.si _ rfl) (fun j j0 => ?_)
      rw [e, m_wr (X := X) (a := a) rfl id_ (by omega) j j0]
      by_cases q2 : j = 930 * d + x.toInt
      · rw [if_pos q2, hg, if_pos ⟨by omega, by omega⟩]
        congr 1
        omega
      · rw [if_neg q2, hz j j0]
        by_cases q3 : 930 * d ≤ j ∧ j < 930 * d + x.toInt
        · rw [if_pos q3, if_pos ⟨q3.1, by omega⟩]
        · rw [if_neg q3, if_neg (fun z => q3 ⟨z.1, by omega⟩)]
    · rw [if_neg q]
      refine ⟨τ, rfl, ht, fun j j0 => ?_⟩
      rw [hz j j0]
      have ex : x.toInt = 930 := by omega
      rw [ex]
theorem tm_copy (hT : q_T X) (ha : q_kd X a = 12) {v1 v2 : Int32} {s d : Int} (hv1 : v1.toInt = s) (hv2 : v2.toInt = d) (hs : 0 ≤ s ∧ s ≤ 4) (hd : 0 ≤ d ∧ d ≤ 4) (hsd : s ≠ d) : tkl (fun b _ => b = q_rf X a 20) (fun b _ => b = q_rf X a 23) τ (F_X12_copy X τ a v1 v2) ∧ (∀ j : Int, 0 ≤ j → m_c X (F_X12_copy X τ a v1 v2) a j = if 930 * d ≤ j ∧ j < 930 * d + 930 then m_c X τ a (930 * s + (j - 930 * d)) else m_c X τ a j) ∧ ∀ j : Int, 0 ≤ j → m_wd X (F_X12_copy X τ a v1 v2) a j = if 6 * d ≤ j ∧ j < 6 * d + 6 then m_wd X τ a (6 * s + (j - 6 * d)) else m_wd X τ a j := by
  have z0 : (0 : Int32).toInt = 0 := rfl
  unfold F_X12_copy
  obtain ⟨τ1, e1, t1, c1⟩ := tm_copyL (X := X) (a := a) (τ0 := τ) hv1 hv2 hs hd hsd ((2147483647 - (0 : Int32).toInt).toNat + 1) 0 τ (by decide) (by decide) (by decide) tkl.rf (fun j j0 => by rw [if_neg (by omega)])
  rw [e1]
  have zz := tm_copyW (X := X) (a := a) (τ0 := τ1) hv1 hv2 hs hd hsd ((2147483647 - (0 : Int32).toInt).toNat + 1) 0 τ1 (by decide) (by decide) (by decide) tkl.rf (fun j j0 => by rw [if_neg (by omega)])
  obtain ⟨t2, w2⟩ := zz
  refine ⟨(t1.mono (fun _ _ h => h) (fun _ _ h => h.elim)).tr (t2.mono (fun _ _ h => h.elim) (fun _ _ h => h)), fun j j0 => ?_, fun j j0 => ?_⟩
  · rw [← c1 j j0]
    exact congrArg Int32.toInt (t2.1 _ _ (fun q => q))
  · have mw : ∀ i : Int, m_wd X τ1 a i = m_wd X τ a i := fun i => congrArg Int64.toInt (t1.2.1 _ _ (fun q => q))
    rw [w2 j j0, mw, mw]
/-- the reference's table ends with a fault -/
theorem tm_end0 (h : 0 < (τ.1 a 12).toInt) : ∃ τ' : ST, F_X12_table_E232_6 X τ a = (-1, τ') ∧ τ'.1 a 10 = τ.1 a 12 ∧ τ'.1 a 11 = τ.1 a 13 ∧ (τ'.1 a 0).toInt = 10 ∧ tkl (fun b f => b = a ∧ (f = 0 ∨ f = 10 ∨ f = 11)) (fun _ _ => False) τ τ' := by
  have e12 : (q_si τ a 10 (τ.1 a 12)).1 a 12 = τ.1 a 12 := si_f (by decide) a
  have e12' : (q_si (q_si τ a 10 (τ.1 a 12)) a 11 ((q_si τ a 10 (τ.1 a 12)).1 a 13)).1 a 12 = τ.1 a 12 := (si_f (by decide) a).trans e12
  unfold F_X12_table_E232_6 F_X12_isWell F_X12_no
  rw [q_letE (τ.1 a 12), q_letE (q_si τ a 10 (τ.1 a 12)), q_letE ((q_si τ a 10 (τ.1 a 12)).1 a 12), e12, if_neg (by omega), q_letE, q_letE, q_letE, e12', if_neg (by omega), q_letE, q_biP (0 : Int32) (q_si (q_si (q_si τ a 10 (τ.1 a 12)) a 11 ((q_si τ a 10 (τ.1 a 12)).1 a 13)) a 0 10), if_pos (by decide : (0 : Int32).toInt = 0), q_biP (0 : Int32), if_pos (by decide : (0 : Int32).toInt = 0)]
  refine ⟨_, rfl, ?_, ?_, ?_, ?_⟩
  · rw [si_f (by decide), si_f (by decide), si_eq]
  · rw [si_f (by decide), si_eq, si_f (by decide)]
  · rw [si_eq]
    rfl
  · exact ((tkl.rf.si _ ⟨rfl, Or.inr (Or.inl rfl)⟩).si _ ⟨rfl, Or.inr (Or.inr rfl)⟩).si _ ⟨rfl, Or.inl rfl⟩
/-- what the new block has at last -/
def m_fin (c : Int → Int) : Int → Int := m_up (m_up c 3728 (-1)) 3726 (if c 3722 = 0 then -1 else 0)
theorem tm_end1 (hT : q_T X) (ha : q_kd X a = 12) (h : (τ.1 a 12).toInt = 0) : ∃ (z : Int32) (τ' : ST), F_X12_table_E232_6 X τ a = (z, τ') ∧ z.toInt = m_c X τ a 3722 ∧ (τ'.1 a 10).toInt = 0 ∧ (τ'.1 a 11).toInt = -1 ∧ tkl (fun b f => b = q_rf X a 20 ∨ b = a ∧ (f = 10 ∨ f = 11)) (fun b _ => b = q_rf X a 23) τ τ' ∧
    (∀ j : Int, 0 ≤ j → m_c X τ' a j = if j < 930 then m_fin (m_c X τ a) (3720 + j) else m_fin (m_c X τ a) j) ∧ ∀ j : Int, 0 ≤ j → m_wd X τ' a j = if j < 6 then m_wd X τ a (24 + j) else m_wd X τ a j := by
  have k20 : q_kd X (q_rf X a 20) = 34 := (hT.1 a 20 (by rw [ha]; decide)).trans (by rw [ha]; rfl)
  have n20 : a ≠ q_rf X a 20 := Ne.symm (m_ne k20 ha (by decide))
  have m1 : ((-1) : Int32).toInt = -1 := rfl
  have z0 : (0 : Int32).toInt = 0 := rfl
  have e4 : (4 : Int32).toInt = 4 := rfl
  have e12 : (q_si τ a 10 (τ.1 a 12)).1 a 12 = τ.1 a 12 := si_f (by decide) a
  have e12' : (q_si (q_si τ a 10 (τ.1 a 12)) a 11 (-1)).1 a 12 = τ.1 a 12 := (si_f (by decide) a).trans e12
  unfold F_X12_table_E232_6 F_X12_isWell
  rw [q_letE (τ.1 a 12), q_letE (q_si τ a 10 (τ.1 a 12)), q_letE ((q_si τ a 10 (τ.1 a 12)).1 a 12), e12, if_pos h, q_letE (q_si (q_si τ a 10 (τ.1 a 12)) a 11 (-1)), q_letE ((q_si (q_si τ a 10 (τ.1 a 12)) a 11 (-1)).1 a 12), e12', if_pos h, q_biP, if_neg (by decide : ¬ (1 : Int32).toInt = 0)]
  have t1 : tkl (fun b f => b = a ∧ (f = 10 ∨ f = 11)) (fun _ _ => False) τ (q_si (q_si τ a 10 (τ.1 a 12)) a 11 (-1)) := (tkl.rf.si _ ⟨rfl, Or.inl rfl⟩).si _ ⟨rfl, Or.inr rfl⟩
  have d10 : ((q_si (q_si τ a 10 (τ.1 a 12)) a 11 (-1)).1 a 10).toInt = 0 := by rw [si_f (by decide), si_eq]; exact h
  have d11 : ((q_si (q_si τ a 10 (τ.1 a 12)) a 11 (-1)).1 a 11).toInt = -1 := by rw [si_eq]; exact m1
  obtain ⟨τ1, h1⟩ : ∃ s, s = q_si (q_si τ a 10 (τ.1 a 12)) a 11 (-1) := ⟨_, rfl⟩
  rw [← h1] at t1 d10 d11 ⊢
  have c1 : m_c X τ1 a = m_c X τ a := by
    funext j
    exact congrArg Int32.toInt (t1.1 _ _ (fun q => n20 q.1.symm))
  have w1 : ∀ j : Int, m_wd X τ1 a j = m_wd X τ a j := fun j => congrArg Int64.toInt (t1.2.1 _ _ (fun q => q))
  have c2 : m_c X (q_si τ1 (q_rf X a 20) (3728 : Int32).toNatClampNeg (-1)) a = m_up (m_c X τ a) 3728 (-1) := by
    rw [m_c_up 3728 (by decide) rfl, c1, m1]
  have t2 : tkl (fun b _ => b = q_rf X a 20) (fun _ _ => False) τ1 (q_si τ1 (q_rf X a 20) (3728 : Int32).toNatClampNeg (-1)) := tkl.rf.si _ rfl
  rw [q_letE (q_si τ1 (q_rf X a 20) (3728 : Int32).toNatClampNeg (-1))]
  obtain ⟨τ2, h2⟩ : ∃ s, s = q_si τ1 (q_rf X a 20) (3728 : Int32).toNatClampNeg (-1) := ⟨_, rfl⟩
  rw [← h2] at c2 t2 ⊢
  have r22 : (τ2.1 (q_rf X a 20) (3722 : Int32).toNatClampNeg).toInt = m_c X τ a 3722 := by
    have z := m_rd (X := X) (σ := τ2) (a := a) (i := 3722) (A := 3722) rfl rfl
    rw [c2, m_up_ne (by decide)] at z
    exact z
  rw [q_letE (τ2.1 (q_rf X a 20) (3722 : Int32).toNatClampNeg), r22]
  have fin : ∀ (u : Int32), u.toInt = (if m_c X τ a 3722 = 0 then -1 else 0) → ∃ (z : Int32) (τ' : ST), q_let (q_si τ2 (q_rf X a 20) (3726 : Int32).toNatClampNeg u : ST) (fun σ_57 => q_let (F_X12_copy X σ_57 a (4 : Int32) (0 : Int32) : ST) (fun σ_61 => q_let (σ_61.1 (q_rf X a 20) (2 : Int32).toNatClampNeg : Int32) (fun f_62 => (f_62, σ_61)))) = (z, τ') ∧ z.toInt = m_c X τ a 3722 ∧ (τ'.1 a 10).toInt = 0 ∧ (τ'.1 a 11).toInt = -1 ∧ tkl (fun b f => b = q_rf X a 20 ∨ b = a ∧ (f = 10 ∨ f = 11)) (fun b _ => b = q_rf X a 23) τ τ' ∧
      (∀ j : Int, 0 ≤ j → m_c X τ' a j = if j < 930 then m_fin (m_c X τ a) (3720 + j) else m_fin (m_c X τ a) j) ∧ ∀ j : Int, 0 ≤ j → m_wd X τ' a j = if j < 6 then m_wd X τ a (24 + j) else m_wd X τ a j := by
    intro u hu
    have c3 : m_c X (q_si τ2 (q_rf X a 20) (3726 : Int32).toNatClampNeg u) a = m_fin (m_c X τ a) := by
      rw [m_c_up 3726 (by decide) rfl, c2, hu]
      rfl
    have t3 : tkl (fun b _ => b = q_rf X a 20) (fun _ _ => False) τ1 (q_si τ2 (q_rf X a 20) (3726 : Int32).toNatClampNeg u) := t2.si _ rfl
    rw [q_letE (q_si τ2 (q_rf X a 20) (3726 : Int32).toNatClampNeg u)]
    obtain ⟨τ3, h3⟩ : ∃ s, s = q_si τ2 (q_rf X a 20) (3726 : Int32).toNatClampNeg u := ⟨_, rfl⟩
    rw [← h3] at c3 t3 ⊢
    obtain ⟨t4, c4, w4⟩ := tm_copy (X := X) (τ := τ3) (v1 := 4) (v2 := 0) hT ha e4 z0 ⟨by decide, by decide⟩ ⟨by decide, by decide⟩ (by decide)
    rw [q_letE (F_X12_copy X τ3 a 4 0)]
    obtain ⟨τ4, h4⟩ : ∃ s, s = F_X12_copy X τ3 a 4 0 := ⟨_, rfl⟩
    rw [← h4] at t4 c4 w4 ⊢
    rw [q_letE]
    have w3 : ∀ j : Int, m_wd X τ3 a j = m_wd X τ a j := fun j => (congrArg Int64.toInt (t3.2.1 _ _ (fun q => q))).trans (w1 j)
    have cc : ∀ j : Int, 0 ≤ j → m_c X τ4 a j = if j < 930 then m_fin (m_c X τ a) (3720 + j) else m_fin (m_c X τ a) j := fun j j0 => by
      rw [c4 j j0, c3]
      by_cases q : j < 930
      · rw [if_pos q, if_pos ⟨by omega, by omega⟩]
        congr 1
        omega
      · rw [if_neg q, if_neg (by omega)]
    refine ⟨_, τ4, rfl, ?_, ?_, ?_, ?_, cc, fun j j0 => ?_⟩
    · have z := m_rd (X := X) (σ := τ4) (a := a) (i := 2) (A := 2) rfl rfl
      rw [cc 2 (by decide), if_pos (by decide)] at z
      refine z.trans ?_
      show m_fin (m_c X τ a) 3722 = _
      unfold m_fin
      rw [m_up_ne (by decide), m_up_ne (by decide)]
    · rw [t4.1 a 10 n20, t3.1 a 10 n20]; exact d10
    · rw [t4.1 a 11 n20, t3.1 a 11 n20]; exact d11
    · exact ((t1.mono (fun _ _ h => Or.inr h) (fun _ _ h => h.elim)).tr (t3.mono (fun _ _ h => Or.inl h) (fun _ _ h => h.elim))).tr (t4.mono (fun _ _ h => Or.inl h) (fun _ _ h => h))
    · rw [w4 j j0, w3, w3]
      by_cases q : j < 6
      · rw [if_pos q, if_pos ⟨by omega, by omega⟩]
        congr 1
        omega
      · rw [if_neg q, if_neg (by omega)]
  by_cases q : m_c X τ a 3722 = 0
  · rw [if_pos q]
    exact fin (-1) (by rw [if_pos q]; exact m1)
  · rw [if_neg q]
    exact fin 0 (by rw [if_neg q]; exact z0)
end YB
