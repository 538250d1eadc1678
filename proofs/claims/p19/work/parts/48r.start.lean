/-! FROM 48r.start.lean.txt -/
section
/-! A NEW GAME, THE START OF A READING -/
theorem y_bl_ne {V : Nat → Int → Int} {id id' : Nat} {n i : Int} {f : Int → Int} (h : id' ≠ id) : y_bl V id n f id' i = V id' i := if_neg (fun q => h q.1)
theorem y_bl_in {V : Nat → Int → Int} {id : Nat} {n i : Int} {f : Int → Int} (h0 : 0 ≤ i) (h1 : i < n) : y_bl V id n f id i = f i := if_pos ⟨rfl, h0, h1⟩
def tb_Rv (V : Nat → Int → Int) : Prop :=
  (V 1 2 = 0 ∧ V 1 3 = 4 ∧ V 1 4 = 0) ∧ (∀ k : Int, 0 ≤ k → k < 10 → V 4 k = 0) ∧ (∀ j : Int, 0 ≤ j → j < 60 → V 7 j = 0) ∧ (∀ p : Int, 0 ≤ p → p < 6 → V 9 p = 0 ∧ V 10 p = 0 ∧ V 11 p = 0) ∧ tb_Z V
section TK
variable {X : XW} {lb : Nat → Nat} {D T g a : Nat} {σ τ σ' τ' σ1 τ1 : ST} {n : Int} {B : Int → Int} {V : Nat → Int → Int} {r c w t : Int → Int} {f9 f10 : Int}
theorem tb_reset (Y : y_S X lb) (G : y_G X lb g 6) : ∃ V' : Nat → Int → Int, y_W X lb g 6 σ (F_X0_reset X σ g) V' ∧ tb_Rv V' := by
  obtain ⟨V, hV⟩ : ∃ V, y_v X g σ = V := ⟨_, rfl⟩
  have w0 : y_W X lb g 6 σ σ V := y_W.rf.eq hV
  obtain ⟨V1, hV1⟩ : ∃ v, v = y_up V 1 0 2 := ⟨_, rfl⟩
  have w1 : y_W X lb g 6 σ (q_si σ (y_gA X g 1) 0 2) V1 := (w0.si Y G (id := 1) (by decide) 0 2).eq hV1.symm
  obtain ⟨s1, hs1⟩ : ∃ s, s = q_si σ (y_gA X g 1) 0 2 := ⟨_, rfl⟩
  rw [← hs1] at w1
  obtain ⟨V2, hV2⟩ : ∃ v, v = y_up V1 1 1 1 := ⟨_, rfl⟩
  have w2 : y_W X lb g 6 σ (q_si s1 (y_gA X g 1) 1 1) V2 := (w1.si Y G (id := 1) (by decide) 1 1).eq hV2.symm
  obtain ⟨s2, hs2⟩ : ∃ s, s = q_si s1 (y_gA X g 1) 1 1 := ⟨_, rfl⟩
  rw [← hs2] at w2
  obtain ⟨V3, hV3⟩ : ∃ v, v = y_up V2 1 2 0 := ⟨_, rfl⟩
  have w3 : y_W X lb g 6 σ (q_si s2 (y_gA X g 1) 2 0) V3 := (w2.si Y G (id := 1) (by decide) 2 0).eq hV3.symm
  obtain ⟨s3, hs3⟩ : ∃ s, s = q_si s2 (y_gA X g 1) 2 0 := ⟨_, rfl⟩
  rw [← hs3] at w3
  obtain ⟨V4, hV4⟩ : ∃ v, v = y_up V3 1 3 4 := ⟨_, rfl⟩
  have w4 : y_W X lb g 6 σ (q_si s3 (y_gA X g 1) 3 4) V4 := (w3.si Y G (id := 1) (by decide) 3 4).eq hV4.symm
  obtain ⟨s4, hs4⟩ : ∃ s, s = q_si s3 (y_gA X g 1) 3 4 := ⟨_, rfl⟩
  rw [← hs4] at w4
  obtain ⟨V5, hV5⟩ : ∃ v, v = y_up V4 1 4 0 := ⟨_, rfl⟩
  have w5 : y_W X lb g 6 σ (q_si s4 (y_gA X g 1) 4 0) V5 := (w4.si Y G (id := 1) (by decide) 4 0).eq hV5.symm
  obtain ⟨s5, hs5⟩ : ∃ s, s = q_si s4 (y_gA X g 1) 4 0 := ⟨_, rfl⟩
  rw [← hs5] at w5
  obtain ⟨V6, hV6⟩ : ∃ v, v = y_bl V5 4 10 (fun _ => 0) := ⟨_, rfl⟩
  have w6 : y_W X lb g 6 σ (F_X5_clear X s5 (q_rf X (q_rf X g 0) 5)) V6 := (w5.clear Y G (id := 4) (r := q_rf X (q_rf X g 0) 5) ⟨by decide, by decide⟩ rfl).eq hV6.symm
  obtain ⟨s6, hs6⟩ : ∃ s, s = F_X5_clear X s5 (q_rf X (q_rf X g 0) 5) := ⟨_, rfl⟩
  rw [← hs6] at w6
  obtain ⟨V7, hV7⟩ : ∃ v, v = y_bl V6 7 60 (fun _ => 0) := ⟨_, rfl⟩
  have w7 : y_W X lb g 6 σ (F_X5_clear X s6 (q_rf X (q_rf X g 1) 0)) V7 := (w6.clear Y G (id := 7) (r := q_rf X (q_rf X g 1) 0) ⟨by decide, by decide⟩ rfl).eq hV7.symm
  obtain ⟨s7, hs7⟩ : ∃ s, s = F_X5_clear X s6 (q_rf X (q_rf X g 1) 0) := ⟨_, rfl⟩
  rw [← hs7] at w7
  obtain ⟨V8, hV8⟩ : ∃ v, v = y_bl V7 8 60 (fun _ => 0) := ⟨_, rfl⟩
  have w8 : y_W X lb g 6 σ (F_X5_clear X s7 (q_rf X (q_rf X g 1) 1)) V8 := (w7.clear Y G (id := 8) (r := q_rf X (q_rf X g 1) 1) ⟨by decide, by decide⟩ rfl).eq hV8.symm
  obtain ⟨s8, hs8⟩ : ∃ s, s = F_X5_clear X s7 (q_rf X (q_rf X g 1) 1) := ⟨_, rfl⟩
  rw [← hs8] at w8
  obtain ⟨V9, hV9⟩ : ∃ v, v = y_bl V8 9 6 (fun _ => 0) := ⟨_, rfl⟩
  have w9 : y_W X lb g 6 σ (F_X5_clear X s8 (q_rf X (q_rf X g 1) 2)) V9 := (w8.clear Y G (id := 9) (r := q_rf X (q_rf X g 1) 2) ⟨by decide, by decide⟩ rfl).eq hV9.symm
  obtain ⟨s9, hs9⟩ : ∃ s, s = F_X5_clear X s8 (q_rf X (q_rf X g 1) 2) := ⟨_, rfl⟩
  rw [← hs9] at w9
  obtain ⟨V10, hV10⟩ : ∃ v, v = y_bl V9 10 6 (fun _ => 0) := ⟨_, rfl⟩
  have w10 : y_W X lb g 6 σ (F_X5_clear X s9 (q_rf X (q_rf X g 1) 3)) V10 := (w9.clear Y G (id := 10) (r := q_rf X (q_rf X g 1) 3) ⟨by decide, by decide⟩ rfl).eq hV10.symm
  obtain ⟨s10, hs10⟩ : ∃ s, s = F_X5_clear X s9 (q_rf X (q_rf X g 1) 3) := ⟨_, rfl⟩
  rw [← hs10] at w10
  obtain ⟨V11, hV11⟩ : ∃ v, v = y_bl V10 11 6 (fun _ => 0) := ⟨_, rfl⟩
  have w11 : y_W X lb g 6 σ (F_X5_clear X s10 (q_rf X (q_rf X g 1) 4)) V11 := (w10.clear Y G (id := 11) (r := q_rf X (q_rf X g 1) 4) ⟨by decide, by decide⟩ rfl).eq hV11.symm
  obtain ⟨s11, hs11⟩ : ∃ s, s = F_X5_clear X s10 (q_rf X (q_rf X g 1) 4) := ⟨_, rfl⟩
  rw [← hs11] at w11
  obtain ⟨V12, hV12⟩ : ∃ v, v = y_bl V11 12 6 (fun _ => 0) := ⟨_, rfl⟩
  have w12 : y_W X lb g 6 σ (F_X5_clear X s11 (q_rf X (q_rf X g 1) 5)) V12 := (w11.clear Y G (id := 12) (r := q_rf X (q_rf X g 1) 5) ⟨by decide, by decide⟩ rfl).eq hV12.symm
  obtain ⟨s12, hs12⟩ : ∃ s, s = F_X5_clear X s11 (q_rf X (q_rf X g 1) 5) := ⟨_, rfl⟩
  rw [← hs12] at w12
  obtain ⟨V13, hV13⟩ : ∃ v, v = y_bl V12 13 6 (fun _ => 0) := ⟨_, rfl⟩
  have w13 : y_W X lb g 6 σ (F_X5_clear X s12 (q_rf X (q_rf X g 1) 6)) V13 := (w12.clear Y G (id := 13) (r := q_rf X (q_rf X g 1) 6) ⟨by decide, by decide⟩ rfl).eq hV13.symm
  obtain ⟨s13, hs13⟩ : ∃ s, s = F_X5_clear X s12 (q_rf X (q_rf X g 1) 6) := ⟨_, rfl⟩
  rw [← hs13] at w13
  obtain ⟨V14, hV14⟩ : ∃ v, v = y_up V13 2 0 0 := ⟨_, rfl⟩
  have w14 : y_W X lb g 6 σ (q_si s13 (y_gA X g 2) 0 0) V14 := (w13.si Y G (id := 2) (by decide) 0 0).eq hV14.symm
  obtain ⟨s14, hs14⟩ : ∃ s, s = q_si s13 (y_gA X g 2) 0 0 := ⟨_, rfl⟩
  rw [← hs14] at w14
  obtain ⟨V15, hV15⟩ : ∃ v, v = y_up V14 2 1 0 := ⟨_, rfl⟩
  have w15 : y_W X lb g 6 σ (q_si s14 (y_gA X g 2) 1 0) V15 := (w14.si Y G (id := 2) (by decide) 1 0).eq hV15.symm
  obtain ⟨s15, hs15⟩ : ∃ s, s = q_si s14 (y_gA X g 2) 1 0 := ⟨_, rfl⟩
  rw [← hs15] at w15
  obtain ⟨V16, hV16⟩ : ∃ v, v = y_up V15 3 0 0 := ⟨_, rfl⟩
  have w16 : y_W X lb g 6 σ (q_si s15 (y_gA X g 3) 0 0) V16 := (w15.si Y G (id := 3) (by decide) 0 0).eq hV16.symm
  obtain ⟨s16, hs16⟩ : ∃ s, s = q_si s15 (y_gA X g 3) 0 0 := ⟨_, rfl⟩
  rw [← hs16] at w16
  obtain ⟨V17, hV17⟩ : ∃ v, v = y_up V16 3 1 0 := ⟨_, rfl⟩
  have w17 : y_W X lb g 6 σ (q_si s16 (y_gA X g 3) 1 0) V17 := (w16.si Y G (id := 3) (by decide) 1 0).eq hV17.symm
  obtain ⟨s17, hs17⟩ : ∃ s, s = q_si s16 (y_gA X g 3) 1 0 := ⟨_, rfl⟩
  rw [← hs17] at w17
  obtain ⟨V18, hV18⟩ : ∃ v, v = y_up V17 3 2 0 := ⟨_, rfl⟩
  have w18 : y_W X lb g 6 σ (q_si s17 (y_gA X g 3) 2 0) V18 := (w17.si Y G (id := 3) (by decide) 2 0).eq hV18.symm
  obtain ⟨s18, hs18⟩ : ∃ s, s = q_si s17 (y_gA X g 3) 2 0 := ⟨_, rfl⟩
  rw [← hs18] at w18
  obtain ⟨V19, hV19⟩ : ∃ v, v = y_up V18 0 4 0 := ⟨_, rfl⟩
  have w19 : y_W X lb g 6 σ (q_si s18 (y_gA X g 0) 4 0) V19 := (w18.si Y G (id := 0) (by decide) 4 0).eq hV19.symm
  obtain ⟨s19, hs19⟩ : ∃ s, s = q_si s18 (y_gA X g 0) 4 0 := ⟨_, rfl⟩
  rw [← hs19] at w19
  obtain ⟨V20, hV20⟩ : ∃ v, v = y_up V19 0 5 0 := ⟨_, rfl⟩
  have w20 : y_W X lb g 6 σ (q_si s19 (y_gA X g 0) 5 0) V20 := (w19.si Y G (id := 0) (by decide) 5 0).eq hV20.symm
  obtain ⟨s20, hs20⟩ : ∃ s, s = q_si s19 (y_gA X g 0) 5 0 := ⟨_, rfl⟩
  rw [← hs20] at w20
  obtain ⟨V21, hV21⟩ : ∃ v, v = y_up V20 0 6 (-1) := ⟨_, rfl⟩
  have w21 : y_W X lb g 6 σ (q_si s20 (y_gA X g 0) 6 (-1)) V21 := (w20.si Y G (id := 0) (by decide) 6 (-1)).eq hV21.symm
  obtain ⟨s21, hs21⟩ : ∃ s, s = q_si s20 (y_gA X g 0) 6 (-1) := ⟨_, rfl⟩
  rw [← hs21] at w21
  obtain ⟨V22, hV22⟩ : ∃ v, v = y_up V21 0 7 0 := ⟨_, rfl⟩
  have w22 : y_W X lb g 6 σ (q_si s21 (y_gA X g 0) 7 0) V22 := (w21.si Y G (id := 0) (by decide) 7 0).eq hV22.symm
  obtain ⟨s22, hs22⟩ : ∃ s, s = q_si s21 (y_gA X g 0) 7 0 := ⟨_, rfl⟩
  rw [← hs22] at w22
  refine ⟨V22, ?_, ?_⟩
  · have e : F_X0_reset X σ g = s22 := by
      unfold F_X0_reset F_X6_reset F_X1_reset F_X2_clear F_X8_clear
      rw [q_letE (q_si σ (q_rf X g 0) 0 2)]
      have z1 : q_si σ (q_rf X g 0) 0 2 = s1 := hs1.symm
      rw [z1]
      rw [q_letE (q_si s1 (q_rf X g 0) 1 1)]
      have z2 : q_si s1 (q_rf X g 0) 1 1 = s2 := hs2.symm
      rw [z2]
      rw [q_letE (q_si s2 (q_rf X g 0) 2 0)]
      have z3 : q_si s2 (q_rf X g 0) 2 0 = s3 := hs3.symm
      rw [z3]
      rw [q_letE (q_si s3 (q_rf X g 0) 3 4)]
      have z4 : q_si s3 (q_rf X g 0) 3 4 = s4 := hs4.symm
      rw [z4]
      rw [q_letE (q_si s4 (q_rf X g 0) 4 0)]
      have z5 : q_si s4 (q_rf X g 0) 4 0 = s5 := hs5.symm
      rw [z5]
      rw [q_letE (F_X5_clear X s5 (q_rf X (q_rf X g 0) 5))]
      have z6 : F_X5_clear X s5 (q_rf X (q_rf X g 0) 5) = s6 := hs6.symm
      rw [z6]
      rw [q_letE s6]
      rw [q_letE (F_X5_clear X s6 (q_rf X (q_rf X g 1) 0))]
      have z7 : F_X5_clear X s6 (q_rf X (q_rf X g 1) 0) = s7 := hs7.symm
      rw [z7]
      rw [q_letE (F_X5_clear X s7 (q_rf X (q_rf X g 1) 1))]
      have z8 : F_X5_clear X s7 (q_rf X (q_rf X g 1) 1) = s8 := hs8.symm
      rw [z8]
      rw [q_letE (F_X5_clear X s8 (q_rf X (q_rf X g 1) 2))]
      have z9 : F_X5_clear X s8 (q_rf X (q_rf X g 1) 2) = s9 := hs9.symm
      rw [z9]
      rw [q_letE (F_X5_clear X s9 (q_rf X (q_rf X g 1) 3))]
      have z10 : F_X5_clear X s9 (q_rf X (q_rf X g 1) 3) = s10 := hs10.symm
      rw [z10]
      rw [q_letE (F_X5_clear X s10 (q_rf X (q_rf X g 1) 4))]
      have z11 : F_X5_clear X s10 (q_rf X (q_rf X g 1) 4) = s11 := hs11.symm
      rw [z11]
      rw [q_letE (F_X5_clear X s11 (q_rf X (q_rf X g 1) 5))]
      have z12 : F_X5_clear X s11 (q_rf X (q_rf X g 1) 5) = s12 := hs12.symm
      rw [z12]
      rw [q_letE (F_X5_clear X s12 (q_rf X (q_rf X g 1) 6))]
      have z13 : F_X5_clear X s12 (q_rf X (q_rf X g 1) 6) = s13 := hs13.symm
      rw [z13]
      rw [q_letE s13]
      rw [q_letE (q_si s13 (q_rf X g 2) 0 0)]
      have z14 : q_si s13 (q_rf X g 2) 0 0 = s14 := hs14.symm
      rw [z14]
      rw [q_letE (q_si s14 (q_rf X g 2) 1 0)]
      have z15 : q_si s14 (q_rf X g 2) 1 0 = s15 := hs15.symm
      rw [z15]
      rw [q_letE s15]
      rw [q_letE (q_si s15 (q_rf X g 3) 0 0)]
      have z16 : q_si s15 (q_rf X g 3) 0 0 = s16 := hs16.symm
      rw [z16]
      rw [q_letE (q_si s16 (q_rf X g 3) 1 0)]
      have z17 : q_si s16 (q_rf X g 3) 1 0 = s17 := hs17.symm
      rw [z17]
      rw [q_letE (q_si s17 (q_rf X g 3) 2 0)]
      have z18 : q_si s17 (q_rf X g 3) 2 0 = s18 := hs18.symm
      rw [z18]
      rw [q_letE s18]
      rw [q_letE (q_si s18 (g) 4 0)]
      have z19 : q_si s18 (g) 4 0 = s19 := hs19.symm
      rw [z19]
      rw [q_letE (q_si s19 (g) 5 0)]
      have z20 : q_si s19 (g) 5 0 = s20 := hs20.symm
      rw [z20]
      rw [q_letE (q_si s20 (g) 6 (-1))]
      have z21 : q_si s20 (g) 6 (-1) = s21 := hs21.symm
      rw [z21]
      rw [q_letE (q_si s21 (g) 7 0)]
      have z22 : q_si s21 (g) 7 0 = s22 := hs22.symm
      rw [z22]
    rw [e]
    exact w22
  · refine ⟨⟨?_, ?_, ?_⟩, ?_, ?_, ?_, ?_, ?_, ?_, ?_, ?_, ?_, ?_, ?_, ?_, ?_, ?_⟩
    · rw [hV22, y_up_ne (Or.inl (by decide)), hV21, y_up_ne (Or.inl (by decide)), hV20, y_up_ne (Or.inl (by decide)), hV19, y_up_ne (Or.inl (by decide)), hV18, y_up_ne (Or.inl (by decide)), hV17, y_up_ne (Or.inl (by decide)), hV16, y_up_ne (Or.inl (by decide)), hV15, y_up_ne (Or.inl (by decide)), hV14, y_up_ne (Or.inl (by decide)), hV13, y_bl_ne (by decide), hV12, y_bl_ne (by decide), hV11, y_bl_ne (by decide), hV10, y_bl_ne (by decide), hV9, y_bl_ne (by decide), hV8, y_bl_ne (by decide), hV7, y_bl_ne (by decide), hV6, y_bl_ne (by decide), hV5, y_up_ne (Or.inr (by decide)), hV4, y_up_ne (Or.inr (by decide)), hV3, y_up_eq]
    · rw [hV22, y_up_ne (Or.inl (by decide)), hV21, y_up_ne (Or.inl (by decide)), hV20, y_up_ne (Or.inl (by decide)), hV19, y_up_ne (Or.inl (by decide)), hV18, y_up_ne (Or.inl (by decide)), hV17, y_up_ne (Or.inl (by decide)), hV16, y_up_ne (Or.inl (by decide)), hV15, y_up_ne (Or.inl (by decide)), hV14, y_up_ne (Or.inl (by decide)), hV13, y_bl_ne (by decide), hV12, y_bl_ne (by decide), hV11, y_bl_ne (by decide), hV10, y_bl_ne (by decide), hV9, y_bl_ne (by decide), hV8, y_bl_ne (by decide), hV7, y_bl_ne (by decide), hV6, y_bl_ne (by decide), hV5, y_up_ne (Or.inr (by decide)), hV4, y_up_eq]
    · rw [hV22, y_up_ne (Or.inl (by decide)), hV21, y_up_ne (Or.inl (by decide)), hV20, y_up_ne (Or.inl (by decide)), hV19, y_up_ne (Or.inl (by decide)), hV18, y_up_ne (Or.inl (by decide)), hV17, y_up_ne (Or.inl (by decide)), hV16, y_up_ne (Or.inl (by decide)), hV15, y_up_ne (Or.inl (by decide)), hV14, y_up_ne (Or.inl (by decide)), hV13, y_bl_ne (by decide), hV12, y_bl_ne (by decide), hV11, y_bl_ne (by decide), hV10, y_bl_ne (by decide), hV9, y_bl_ne (by decide), hV8, y_bl_ne (by decide), hV7, y_bl_ne (by decide), hV6, y_bl_ne (by decide), hV5, y_up_eq]
    · intro j a1 a2
      rw [hV22, y_up_ne (Or.inl (by decide)), hV21, y_up_ne (Or.inl (by decide)), hV20, y_up_ne (Or.inl (by decide)), hV19, y_up_ne (Or.inl (by decide)), hV18, y_up_ne (Or.inl (by decide)), hV17, y_up_ne (Or.inl (by decide)), hV16, y_up_ne (Or.inl (by decide)), hV15, y_up_ne (Or.inl (by decide)), hV14, y_up_ne (Or.inl (by decide)), hV13, y_bl_ne (by decide), hV12, y_bl_ne (by decide), hV11, y_bl_ne (by decide), hV10, y_bl_ne (by decide), hV9, y_bl_ne (by decide), hV8, y_bl_ne (by decide), hV7, y_bl_ne (by decide), hV6, y_bl_in a1 a2]
    · intro j a1 a2
      rw [hV22, y_up_ne (Or.inl (by decide)), hV21, y_up_ne (Or.inl (by decide)), hV20, y_up_ne (Or.inl (by decide)), hV19, y_up_ne (Or.inl (by decide)), hV18, y_up_ne (Or.inl (by decide)), hV17, y_up_ne (Or.inl (by decide)), hV16, y_up_ne (Or.inl (by decide)), hV15, y_up_ne (Or.inl (by decide)), hV14, y_up_ne (Or.inl (by decide)), hV13, y_bl_ne (by decide), hV12, y_bl_ne (by decide), hV11, y_bl_ne (by decide), hV10, y_bl_ne (by decide), hV9, y_bl_ne (by decide), hV8, y_bl_ne (by decide), hV7, y_bl_in a1 a2]
    · intro j a1 a2
      refine ⟨?_, ?_, ?_⟩
      · rw [hV22, y_up_ne (Or.inl (by decide)), hV21, y_up_ne (Or.inl (by decide)), hV20, y_up_ne (Or.inl (by decide)), hV19, y_up_ne (Or.inl (by decide)), hV18, y_up_ne (Or.inl (by decide)), hV17, y_up_ne (Or.inl (by decide)), hV16, y_up_ne (Or.inl (by decide)), hV15, y_up_ne (Or.inl (by decide)), hV14, y_up_ne (Or.inl (by decide)), hV13, y_bl_ne (by decide), hV12, y_bl_ne (by decide), hV11, y_bl_ne (by decide), hV10, y_bl_ne (by decide), hV9, y_bl_in a1 a2]
      · rw [hV22, y_up_ne (Or.inl (by decide)), hV21, y_up_ne (Or.inl (by decide)), hV20, y_up_ne (Or.inl (by decide)), hV19, y_up_ne (Or.inl (by decide)), hV18, y_up_ne (Or.inl (by decide)), hV17, y_up_ne (Or.inl (by decide)), hV16, y_up_ne (Or.inl (by decide)), hV15, y_up_ne (Or.inl (by decide)), hV14, y_up_ne (Or.inl (by decide)), hV13, y_bl_ne (by decide), hV12, y_bl_ne (by decide), hV11, y_bl_ne (by decide), hV10, y_bl_in a1 a2]
      · rw [hV22, y_up_ne (Or.inl (by decide)), hV21, y_up_ne (Or.inl (by decide)), hV20, y_up_ne (Or.inl (by decide)), hV19, y_up_ne (Or.inl (by decide)), hV18, y_up_ne (Or.inl (by decide)), hV17, y_up_ne (Or.inl (by decide)), hV16, y_up_ne (Or.inl (by decide)), hV15, y_up_ne (Or.inl (by decide)), hV14, y_up_ne (Or.inl (by decide)), hV13, y_bl_ne (by decide), hV12, y_bl_ne (by decide), hV11, y_bl_in a1 a2]
    · intro j a1 a2
      rw [hV22, y_up_ne (Or.inl (by decide)), hV21, y_up_ne (Or.inl (by decide)), hV20, y_up_ne (Or.inl (by decide)), hV19, y_up_ne (Or.inl (by decide)), hV18, y_up_ne (Or.inl (by decide)), hV17, y_up_ne (Or.inl (by decide)), hV16, y_up_ne (Or.inl (by decide)), hV15, y_up_ne (Or.inl (by decide)), hV14, y_up_ne (Or.inl (by decide)), hV13, y_bl_ne (by decide), hV12, y_bl_ne (by decide), hV11, y_bl_ne (by decide), hV10, y_bl_ne (by decide), hV9, y_bl_ne (by decide), hV8, y_bl_in a1 a2]
    · intro j a1 a2
      refine ⟨?_, ?_⟩
      · rw [hV22, y_up_ne (Or.inl (by decide)), hV21, y_up_ne (Or.inl (by decide)), hV20, y_up_ne (Or.inl (by decide)), hV19, y_up_ne (Or.inl (by decide)), hV18, y_up_ne (Or.inl (by decide)), hV17, y_up_ne (Or.inl (by decide)), hV16, y_up_ne (Or.inl (by decide)), hV15, y_up_ne (Or.inl (by decide)), hV14, y_up_ne (Or.inl (by decide)), hV13, y_bl_ne (by decide), hV12, y_bl_in a1 a2]
      · rw [hV22, y_up_ne (Or.inl (by decide)), hV21, y_up_ne (Or.inl (by decide)), hV20, y_up_ne (Or.inl (by decide)), hV19, y_up_ne (Or.inl (by decide)), hV18, y_up_ne (Or.inl (by decide)), hV17, y_up_ne (Or.inl (by decide)), hV16, y_up_ne (Or.inl (by decide)), hV15, y_up_ne (Or.inl (by decide)), hV14, y_up_ne (Or.inl (by decide)), hV13, y_bl_in a1 a2]
    · rw [hV22, y_up_ne (Or.inr (by decide)), hV21, y_up_ne (Or.inr (by decide)), hV20, y_up_ne (Or.inr (by decide)), hV19, y_up_eq]
    · rw [hV22, y_up_ne (Or.inr (by decide)), hV21, y_up_ne (Or.inr (by decide)), hV20, y_up_eq]
    · rw [hV22, y_up_ne (Or.inr (by decide)), hV21, y_up_eq]
    · rw [hV22, y_up_eq]
    · rw [hV22, y_up_ne (Or.inl (by decide)), hV21, y_up_ne (Or.inl (by decide)), hV20, y_up_ne (Or.inl (by decide)), hV19, y_up_ne (Or.inl (by decide)), hV18, y_up_ne (Or.inl (by decide)), hV17, y_up_ne (Or.inl (by decide)), hV16, y_up_ne (Or.inl (by decide)), hV15, y_up_ne (Or.inr (by decide)), hV14, y_up_eq]
    · rw [hV22, y_up_ne (Or.inl (by decide)), hV21, y_up_ne (Or.inl (by decide)), hV20, y_up_ne (Or.inl (by decide)), hV19, y_up_ne (Or.inl (by decide)), hV18, y_up_ne (Or.inl (by decide)), hV17, y_up_ne (Or.inl (by decide)), hV16, y_up_ne (Or.inl (by decide)), hV15, y_up_eq]
    · rw [hV22, y_up_ne (Or.inl (by decide)), hV21, y_up_ne (Or.inl (by decide)), hV20, y_up_ne (Or.inl (by decide)), hV19, y_up_ne (Or.inl (by decide)), hV18, y_up_ne (Or.inr (by decide)), hV17, y_up_ne (Or.inr (by decide)), hV16, y_up_eq]
    · rw [hV22, y_up_ne (Or.inl (by decide)), hV21, y_up_ne (Or.inl (by decide)), hV20, y_up_ne (Or.inl (by decide)), hV19, y_up_ne (Or.inl (by decide)), hV18, y_up_ne (Or.inr (by decide)), hV17, y_up_eq]
    · rw [hV22, y_up_ne (Or.inl (by decide)), hV21, y_up_ne (Or.inl (by decide)), hV20, y_up_ne (Or.inl (by decide)), hV19, y_up_ne (Or.inl (by decide)), hV18, y_up_eq]
/-- the hands told are none -/
theorem tb_clearL {d A : Nat} (hA : q_rf X d 0 = A) (hl : (q_len X A).toInt = 6) (k : Nat) : ∀ (x : Int32) (τ : ST), (2147483647 - x.toInt).toNat < k → 0 ≤ x.toInt → x.toInt ≤ 6 → tk (fun b _ => b = A) σ τ → (∀ p : Int, 0 ≤ p → p < x.toInt → (τ.1 A p.toNat).toInt = 0) → tk (fun b _ => b = A) σ (F_X5_clear_L2_1 X d k x τ) ∧ ∀ p : Int, 0 ≤ p → p < 6 → ((F_X5_clear_L2_1 X d k x τ).1 A p.toNat).toInt = 0 := by
  induction k with
  | zero => intro x τ hm; exact absurd hm (Nat.not_lt_zero _)
  | succ k ih =>
    intro x τ hm h0 h1 ht hz
    have hb := ar_bd x
    rw [F_X5_clear_L2_1_s]
    unfold F_X5_clear_B2_1
    rw [hA, q_letE, hl]
    by_cases q : x.toInt < 6
    · rw [if_pos q, q_letE, q_letE]
      have e : (x + 1).toInt = x.toInt + 1 := y_inc (by omega)
      refine ih (x + 1) _ (by omega) (by omega) (by omega) (ht.si _ rfl) (fun p p0 p1 => ?_)
      show (if A = A ∧ p.toNat = x.toNatClampNeg then (0 : Int32) else τ.1 A p.toNat).toInt = 0
      by_cases q2 : p = x.toInt
      · rw [if_pos ⟨rfl, by rw [ar_cl, q2]⟩]
        rfl
      · rw [if_neg (fun z => q2 (by have := z.2; rw [ar_cl] at this; omega))]
        exact hz p p0 (by omega)
    · rw [if_neg q]
      exact ⟨ht, fun p p0 p1 => hz p p0 (by omega)⟩
theorem tb_clear (hl : q_ln X (tb_T X D) = 6) : tk (fun b _ => b = tb_T X D) σ (F_X5_clear X σ (q_rf X D 11)) ∧ ∀ p : Int, 0 ≤ p → p < 6 → ((F_X5_clear X σ (q_rf X D 11)).1 (tb_T X D) p.toNat).toInt = 0 := by
  have h6 : (q_len X (tb_T X D)).toInt = 6 := by
    unfold q_len
    rw [hl]
    rfl
  unfold F_X5_clear
  exact tb_clearL (X := X) (σ := σ) (d := q_rf X D 11) (A := tb_T X D) rfl h6 _ 0 σ (by decide) (by decide) (by decide) tk.rf (fun p p0 p1 => by have : (0 : Int32).toInt = 0 := rfl; omega)
/-- cells kept, but for those of S and the reader's text -/
def tkr (S : Nat → Nat → Prop) (R : Nat) (σ τ : ST) : Prop := (∀ b f, ¬ S b f → τ.1 b f = σ.1 b f) ∧ τ.2.1 = σ.2.1 ∧ ∀ b, b ≠ R → τ.2.2 b = σ.2.2 b
theorem tk.kr {S : Nat → Nat → Prop} {R : Nat} (h : tk S σ τ) : tkr S R σ τ := ⟨h.1, by rw [h.2], fun b _ => by rw [h.2]⟩
theorem tkr.tr {S : Nat → Nat → Prop} {R : Nat} {ρ : ST} (h : tkr S R σ τ) (k : tkr S R τ ρ) : tkr S R σ ρ := ⟨fun b f q => (k.1 b f q).trans (h.1 b f q), k.2.1.trans h.2.1, fun b q => (k.2.2 b q).trans (h.2.2 b q)⟩
/-- the class begins to read -/
theorem tc_start (hTl : q_ln X T = 900) (hTD : T ≠ D) {v : Int32} (hv : v.toInt = n) (hn : 0 ≤ n ∧ n ≤ 900) (hB : ∀ p : Int, 0 ≤ p → p < n → (σ.1 T p.toNat).toInt = B p ∧ -128 ≤ B p ∧ B p ≤ 127) :
    ∃ ρ : ST, F_X3_start X σ D T v = F_X3_advance X ρ D ∧ tc_E X ρ D T n B ∧ (ρ.1 D 3).toInt = 0 ∧ (ρ.1 D 6).toInt = 0 ∧ (ρ.1 D 7).toInt = -1 ∧ tkr (fun b f => b = D ∧ (f = 1 ∨ f = 3 ∨ f = 6 ∨ f = 7)) D σ ρ := by
  have hl : (q_len X T).toInt = 900 := tc_len hTl
  have z0 : (0 : Int32).toInt = 0 := rfl
  have mn : (F_J9_min_7cf53 X (q_st σ D T) v (q_len X T)).toInt = n := by
    unfold F_J9_min_7cf53
    rw [hl, hv]
    by_cases q : 900 < n
    · omega
    · rw [if_neg q, hv]
  have mx : (F_J9_max_7cf53 X (q_st σ D T) 0 (F_J9_min_7cf53 X (q_st σ D T) v (q_len X T))).toInt = n := by
    unfold F_J9_max_7cf53
    rw [mn, z0]
    by_cases q : 0 < n
    · rw [if_pos q, mn]
    · rw [if_neg q, z0]
      omega
  unfold F_X3_start
  rw [q_letE (q_st σ D T), q_letE (q_len X T), q_letE (F_J9_min_7cf53 X (q_st σ D T) v (q_len X T)), q_letE (F_J9_max_7cf53 X (q_st σ D T) 0 (F_J9_min_7cf53 X (q_st σ D T) v (q_len X T)))]
  obtain ⟨m, hm⟩ : ∃ m, m = F_J9_max_7cf53 X (q_st σ D T) 0 (F_J9_min_7cf53 X (q_st σ D T) v (q_len X T)) := ⟨_, rfl⟩
  rw [← hm] at mx ⊢
  rw [q_letE, q_letE, q_letE, q_letE, q_letE]
  obtain ⟨ρ, hρ⟩ : ∃ s, s = q_si (q_si (q_si (q_si (q_st σ D T) D 1 m) D 3 0) D 6 0) D 7 (-1) := ⟨_, rfl⟩
  rw [← hρ]
  have t : tk (fun b f => b = D ∧ (f = 1 ∨ f = 3 ∨ f = 6 ∨ f = 7)) (q_st σ D T) ρ := by
    rw [hρ]
    exact ((((tk.rf.si _ ⟨rfl, Or.inl rfl⟩).si _ ⟨rfl, Or.inr (Or.inl rfl)⟩).si _ ⟨rfl, Or.inr (Or.inr (Or.inl rfl))⟩).si _ ⟨rfl, Or.inr (Or.inr (Or.inr rfl))⟩)
  have c1 : ρ.1 D 1 = m := by rw [hρ, si_f (by decide), si_f (by decide), si_f (by decide), si_eq]
  have c3 : ρ.1 D 3 = 0 := by rw [hρ, si_f (by decide), si_f (by decide), si_eq]
  have c6 : ρ.1 D 6 = 0 := by rw [hρ, si_f (by decide), si_eq]
  have c7 : ρ.1 D 7 = -1 := by rw [hρ, si_eq]
  have cT : ρ.2.2 D = T := by
    rw [t.2]
    show (if D = D then T else σ.2.2 D) = T
    rw [if_pos rfl]
  refine ⟨ρ, rfl, ⟨cT, by rw [c1]; exact mx, hn, hTD, hTl, fun p p0 p1 => ?_⟩, by rw [c3]; rfl, by rw [c6]; rfl, by rw [c7]; rfl, fun b f q => ?_, ?_, fun b q => ?_⟩
  · rw [t.1 T _ (fun q => hTD q.1)]
    exact hB p p0 p1
  · exact t.1 b f q
  · rw [t.2]
    rfl
  · rw [t.2]
    show (if b = D then T else σ.2.2 b) = _
    rw [if_neg q]
end TK
end
/-! FROM 48s.takes.lean.txt -/
section
/-! BOTH TAKE A TABLE -/
section TM
variable {X : XW} {lb : Nat → Nat} {D T g a : Nat} {σ τ σ' τ' σ1 τ1 τ0 : ST} {n : Int} {B : Int → Int} {V : Nat → Int → Int} {r c w t : Int → Int} {f9 f10 : Int}
theorem tm_L51 (k : Nat) : ∀ (x : Int32) (τ : ST), (2147483647 - x.toInt).toNat < k → 0 ≤ x.toInt → x.toInt ≤ 60 → tkl (fun b _ => b = q_rf X a 22) (fun _ _ => False) τ0 τ → (∀ j : Int, 0 ≤ j → j < x.toInt → (τ.1 (q_rf X a 22) j.toNat).toInt = 0) →
    ∃ τ' : ST, F_X12_table_L51_3 X a k x τ = F_X12_table_E70_7 X τ' a ∧ tkl (fun b _ => b = q_rf X a 22) (fun _ _ => False) τ0 τ' ∧ ∀ j : Int, 0 ≤ j → j < 60 → (τ'.1 (q_rf X a 22) j.toNat).toInt = 0 := by
  induction k with
  | zero => intro x τ hm; exact absurd hm (Nat.not_lt_zero _)
  | succ k ih =>
    intro x τ hm h0 h1 ht hz
    have hb := ar_bd x
    rw [F_X12_table_L51_3_s]
    unfold F_X12_table_B51_3
    by_cases q : x.toInt < 60
    · rw [if_pos q, q_letE, q_letE]
      have e : (x + 1).toInt = x.toInt + 1 := y_inc (by omega)
      refine ih (x + 1) _ (by omega) (by omega) (by omega) (ht.si _ rfl) (fun p p0 p1 => ?_)
      show (if q_rf X a 22 = q_rf X a 22 ∧ p.toNat = x.toNatClampNeg then (0 : Int32) else τ.1 (q_rf X a 22) p.toNat).toInt = 0
      by_cases q2 : p = x.toInt
      · rw [if_pos ⟨rfl, by rw [ar_cl, q2]⟩]
        rfl
      · rw [if_neg (fun z => q2 (by have := z.2; rw [ar_cl] at this; omega))]
        exact hz p p0 (by omega)
    · rw [if_neg q]
      exact ⟨τ, rfl, ht, fun p p0 p1 => hz p p0 (by omega)⟩
theorem tm_L25 (k : Nat) : ∀ (x : Int32) (τ : ST), (2147483647 - x.toInt).toNat < k → 0 ≤ x.toInt → x.toInt ≤ 930 → tkl (fun b _ => b = q_rf X a 20) (fun _ _ => False) τ0 τ → (∀ j : Int, 0 ≤ j → m_c X τ a j = if 3720 ≤ j ∧ j < 3720 + x.toInt then 0 else m_c X τ0 a j) →
    ∃ τ' : ST, F_X12_table_L25_1 X a k x τ = F_X12_table_L51_3 X a ((2147483647 - (0 : Int32).toInt).toNat + 1) (0 : Int32) τ' ∧ tkl (fun b _ => b = q_rf X a 20) (fun _ _ => False) τ0 τ' ∧ ∀ j : Int, 0 ≤ j → m_c X τ' a j = if 3720 ≤ j ∧ j < 4650 then 0 else m_c X τ0 a j := by
  induction k with
  | zero => intro x τ hm; exact absurd hm (Nat.not_lt_zero _)
  | succ k ih =>
    intro x τ hm h0 h1 ht hz
    have hb := ar_bd x
    rw [F_X12_table_L25_1_s]
    unfold F_X12_table_B25_1
    by_cases q : x.toInt < 930
    · rw [if_pos q, q_letE, q_letE, q_letE]
      have e : (x + 1).toInt = x.toInt + 1 := y_inc (by omega)
      have ei : ((3720 : Int32) + x).toInt = 3720 + x.toInt := by
        have e3 : (3720 : Int32).toInt = 3720 := rfl
        rw [ar_add, e3, ar_wr (by omega) (by omega)]
      refine ih (x + 1) _ (by omega) (by omega) (by omega) (ht.si _ rfl) (fun j j0 => ?_)
      rw [m_wr (X := X) (a := a) rfl ei (by omega) j j0, hz j j0, e]
      have z0 : (0 : Int32).toInt = 0 := rfl
      by_cases q2 : j = 3720 + x.toInt
      · rw [if_pos q2, if_pos ⟨by omega, by omega⟩, z0]
      · rw [if_neg q2]
        by_cases q3 : 3720 ≤ j ∧ j < 3720 + x.toInt
        · rw [if_pos q3, if_pos ⟨q3.1, by omega⟩]
        · rw [if_neg q3, if_neg (fun z => q3 ⟨z.1, by omega⟩)]
    · rw [if_neg q]
      refine ⟨τ, rfl, ht, fun j j0 => ?_⟩
      rw [hz j j0]
      by_cases q3 : 3720 ≤ j ∧ j < 4650
      · rw [if_pos q3, if_pos ⟨q3.1, by omega⟩]
      · rw [if_neg q3, if_neg (fun z => q3 ⟨z.1, by omega⟩)]
/-- cells kept by the class's reading -/
def tb_G (X : XW) (lb : Nat → Nat) (D : Nat) (σ σ' : ST) : Prop := (∀ b, lb b / 8192 ≠ 6 → b ≠ D → b ≠ tb_T X D → ∀ f, σ'.1 b f = σ.1 b f) ∧ σ'.2.1 = σ.2.1 ∧ ∀ b, b ≠ D → σ'.2.2 b = σ.2.2 b
theorem tb_F.tg (h : tb_F X lb D σ σ') : tb_G X lb D σ σ' := ⟨h.1, by rw [h.2.2], fun b _ => by rw [h.2.2]⟩
theorem tb_G.tr {ρ : ST} (h : tb_G X lb D σ σ') (k : tb_G X lb D σ' ρ) : tb_G X lb D σ ρ := ⟨fun b b1 b2 b3 f => (k.1 b b1 b2 b3 f).trans (h.1 b b1 b2 b3 f), k.2.1.trans h.2.1, fun b q => (k.2.2 b q).trans (h.2.2 b q)⟩
theorem tb_TT (H : tb_D X lb D T g) : T ≠ tb_T X D := by
  intro e
  have h7 := H.2.2.2.2.2.2.1
  have h9 := H.2.2.2.2.2.2.2.2
  rw [← e, h9] at h7
  exact absurd h7 (by decide)
/-- the class's new game, its flags and hands, and its text -/
theorem tb_begin (Y : y_S X lb) (H : tb_D X lb D T g) (hTl : q_ln X T = 900) (hTD : T ≠ D) {v : Int32} (hv : v.toInt = n) (hn : 0 ≤ n ∧ n ≤ 900) (hB : ∀ p : Int, 0 ≤ p → p < n → (σ.1 T p.toNat).toInt = B p ∧ -128 ≤ B p ∧ B p ≤ 127) :
    ∃ (ρ : ST) (V : Nat → Int → Int), F_X9_takes X σ D T v = q_bi (F_X9_readHead X (F_X3_advance X ρ D) D) (fun r_9 σ_10 => if r_9.toInt = 0 then ((0 : Int32), σ_10) else F_X9_takes_L41_1 X D ((2147483647 - (0 : Int32).toInt).toNat + 1) (0 : Int32) σ_10) ∧ tb_S X D T g ρ n B V (fun _ => 0) 0 0 ∧ tb_Rv V ∧ (ρ.1 D 3).toInt = 0 ∧ (ρ.1 D 6).toInt = 0 ∧ (ρ.1 D 7).toInt = -1 ∧ tb_G X lb D σ ρ := by
  have hD : lb D / 8192 ≠ 6 := by have := H.2.2.2.1; omega
  have hT : lb T / 8192 ≠ 6 := by have := H.2.2.2.2.1; omega
  have hA : lb (tb_T X D) / 8192 ≠ 6 := by have := H.2.2.2.2.2.1; omega
  have hTA := tb_TT H
  have hDA : D ≠ tb_T X D := Ne.symm (tb_TD H)
  obtain ⟨V, W, Rv⟩ := tb_reset (σ := σ) Y H.2.2.1
  unfold F_X9_takes
  rw [← H.2.1, q_letE (F_X0_reset X σ g)]
  obtain ⟨σ2, h2⟩ : ∃ s, s = F_X0_reset X σ g := ⟨_, rfl⟩
  rw [← h2] at W ⊢
  rw [q_letE (q_si σ2 D 9 0), q_letE (q_si (q_si σ2 D 9 0) D 10 0)]
  have t4 : tk (fun b f => b = D ∧ (f = 9 ∨ f = 10)) σ2 (q_si (q_si σ2 D 9 0) D 10 0) := (tk.rf.si _ ⟨rfl, Or.inl rfl⟩).si _ ⟨rfl, Or.inr rfl⟩
  have d9 : (q_si (q_si σ2 D 9 0) D 10 0).1 D 9 = 0 := by rw [si_f (by decide), si_eq]
  have d10 : (q_si (q_si σ2 D 9 0) D 10 0).1 D 10 = 0 := si_eq _ _ _ _
  obtain ⟨σ4, h4⟩ : ∃ s, s = q_si (q_si σ2 D 9 0) D 10 0 := ⟨_, rfl⟩
  rw [← h4] at t4 d9 d10 ⊢
  rw [q_letE (F_X5_clear X σ4 (q_rf X D 11))]
  obtain ⟨t6, z6⟩ := tb_clear (X := X) (D := D) (σ := σ4) H.2.2.2.2.2.2.2.1
  obtain ⟨σ6, h6⟩ : ∃ s, s = F_X5_clear X σ4 (q_rf X D 11) := ⟨_, rfl⟩
  rw [← h6] at t6 z6 ⊢
  have b6 : ∀ p : Int, 0 ≤ p → p < n → (σ6.1 T p.toNat).toInt = B p ∧ -128 ≤ B p ∧ B p ≤ 127 := fun p p0 p1 => by
    rw [t6.1 T _ hTA, t4.1 T _ (fun q => hTD q.1), W.1 T hT]
    exact hB p p0 p1
  obtain ⟨ρ, e1, E, e3, e6, e7, k⟩ := tc_start hTl hTD hv hn b6
  rw [e1, q_letE (F_X3_advance X ρ D)]
  have kD : ∀ b, b ≠ D → b ≠ tb_T X D → ∀ f, ρ.1 b f = σ2.1 b f := fun b b1 b2 f => by
    rw [k.1 b f (fun q => b1 q.1), t6.1 b f b2, t4.1 b f (fun q => b1 q.1)]
  refine ⟨ρ, V, rfl, ⟨E, ?_, fun p p0 p1 => ?_, ?_, ?_⟩, Rv, e3, e6, e7, fun b b1 b2 b3 f => ?_, ?_, fun b b1 => ?_⟩
  · rw [tb_v Y H (fun b b1 b2 f => kD b b1 b2 f)]
    exact W.2.2
  · rw [k.1 _ _ (fun q => (tb_TD H) q.1)]
    exact z6 p p0 p1
  · rw [k.1 D 9 (fun q => by have := q.2; omega), t6.1 D 9 hDA, d9]
    rfl
  · rw [k.1 D 10 (fun q => by have := q.2; omega), t6.1 D 10 hDA, d10]
    rfl
  · rw [kD b b2 b3]
    exact W.1 b b1 f
  · rw [k.2.1, t6.2, t4.2, W.2.1]
  · rw [k.2.2 b b1, t6.2, t4.2, W.2.1]
/-- both take a table out of the same bytes -/
theorem tb_takes (Y : y_S X lb) (H : tb_D X lb D T g) (ha : q_kd X a = 12) (hTl : q_ln X T = 900) (hTD : T ≠ D) {v : Int32} (hv : v.toInt = n) (hn : 0 ≤ n ∧ n ≤ 900) (hB : ∀ p : Int, 0 ≤ p → p < n → (σ.1 T p.toNat).toInt = B p ∧ -128 ≤ B p ∧ B p ≤ 127) (M0 : tm_E X τ a n B) (h16 : (τ.1 a 16).toInt = 0) (h12 : (τ.1 a 12).toInt = 0) (h0a : (τ.1 a 0).toInt = 0) (h8a : (τ.1 a 8).toInt = 0) :
    ∃ (z : Int32) (σ' τ' : ST), F_X9_takes X σ D T v = (z, σ') ∧ F_X12_table_L25_1 X a ((2147483647 - (0 : Int32).toInt).toNat + 1) (0 : Int32) (F_X12_next X τ a) = F_X12_table_E232_6 X τ' a ∧ tb_G X lb D σ σ' ∧ tb_P X a τ τ' ∧
      ((z.toInt = 1 ∧ ∃ (V : Nat → Int → Int) (r c w t : Int → Int) (f9 f10 : Int), tb_I X D T g a n B σ' τ' V r c w t f9 f10) ∨ (z.toInt = 0 ∧ tl_F σ' D τ' a)) := by
  have z0 : (0 : Int32).toInt = 0 := rfl
  obtain ⟨k20, k22, k23, k7⟩ := tb_k Y.1 ha
  have n20a : a ≠ q_rf X a 20 := Ne.symm (m_ne k20 ha (by decide))
  have n22a : a ≠ q_rf X a 22 := Ne.symm (m_ne k22 ha (by decide))
  have n207 : q_rf X a 7 ≠ q_rf X a 20 := m_ne k7 k20 (by decide)
  have n227 : q_rf X a 7 ≠ q_rf X a 22 := m_ne k7 k22 (by decide)
  obtain ⟨ρ, V, e, S, Rv, e3, e6, e7, G0⟩ := tb_begin Y H hTl hTD hv hn hB
  rw [e]
  obtain ⟨c1, m1, K, -⟩ := tl_adv S.1 M0 e3 h16 ⟨Int.le_refl 0, hn.1⟩ e6 e7
  obtain ⟨S1, f1⟩ := S.rd Y H c1.S2
  have p1 : tb_P X a τ (F_X12_next X τ a) := tb_P.rd Y.1 ha m1.S2
  have M1 := M0.k2 m1.S2
  have h01 : ((F_X12_next X τ a).1 a 12).toInt = 0 := by rw [tn_12 m1]; exact h12
  obtain ⟨σ1, hσ1⟩ : ∃ s, s = F_X3_advance X ρ D := ⟨_, rfl⟩
  obtain ⟨τ1, hτ1⟩ : ∃ s, s = F_X12_next X τ a := ⟨_, rfl⟩
  rw [← hσ1] at K S1 f1 ⊢
  rw [← hτ1] at K M1 h01 p1 ⊢
  obtain ⟨τ2, e2, t2, c2⟩ := tm_L25 (X := X) (a := a) (τ0 := τ1) ((2147483647 - (0 : Int32).toInt).toNat + 1) 0 τ1 (by decide) (by decide) (by decide) tkl.rf (fun j j0 => by rw [if_neg (by omega)])
  obtain ⟨τ3, e4, t3, c3⟩ := tm_L51 (X := X) (a := a) (τ0 := τ2) ((2147483647 - (0 : Int32).toInt).toNat + 1) 0 τ2 (by decide) (by decide) (by decide) tkl.rf (fun j j0 j1 => by omega)
  rw [e2, e4, tm_E70]
  have s13 : tl_same a τ1 τ3 := ⟨fun f _ _ => (t3.1 a f n22a).trans (t2.1 a f n20a), (t3.2.1 a 19 (fun q => q)).trans (t2.2.1 a 19 (fun q => q))⟩
  have M3 : tb_M X a τ3 n B (m_c X τ3 a) (m_wd X τ3 a) (fun _ => 0) (τ3.1 a 25).toInt (τ3.1 a 26).toInt := by
    obtain ⟨x1, x2, x3, x4⟩ := M1
    refine ⟨⟨?_, x2, x3, fun p p0 p1 => ?_⟩, rfl, rfl, c3, rfl, rfl, ?_, ?_⟩
    · rw [t3.1 a 9 n22a, t2.1 a 9 n20a]
      exact x1
    · rw [t3.1 _ _ n227, t2.1 _ _ n207]
      exact x4 p p0 p1
    · rw [t3.1 a 0 n22a, t2.1 a 0 n20a, p1.2.2.1]
      exact h0a
    · rw [t3.1 a 8 n22a, t2.1 a 8 n20a, p1.2.2.2]
      exact h8a
  have mc3 : ∀ j : Int, 0 ≤ j → m_c X τ3 a j = if 3720 ≤ j ∧ j < 4650 then 0 else m_c X τ1 a j := fun j j0 => by
    rw [← c2 j j0]
    exact congrArg Int32.toInt (t3.1 _ _ (m_ne k20 k22 (by decide)))
  have mw3 : ∀ j : Int, m_wd X τ3 a j = m_wd X τ1 a j := fun j => (congrArg Int64.toInt (t3.2.1 _ _ (fun q => q))).trans (congrArg Int64.toInt (t2.2.1 _ _ (fun q => q)))
  obtain ⟨M4, s4⟩ := M3.s9 Y.1 ha 0
  obtain ⟨M5, s5⟩ := M4.s10 Y.1 ha 0
  obtain ⟨M6, s6⟩ := M5.cw Y.1 ha (i := 3724) (v := 4) (A := 3724) rfl (by decide)
  have e4_ : (4 : Int32).toInt = 4 := rfl
  rw [z0, e4_] at M6
  rw [q_letE (q_si τ3 a 25 0), q_letE (q_si (q_si τ3 a 25 0) a 26 0), q_letE (q_si (q_si (q_si τ3 a 25 0) a 26 0) (q_rf X a 20) (3724 : Int32).toNatClampNeg 4)]
  have s16 := ((s13.tr s4).tr s5).tr s6
  obtain ⟨τ6, hτ6⟩ : ∃ s, s = q_si (q_si (q_si τ3 a 25 0) a 26 0) (q_rf X a 20) (3724 : Int32).toNatClampNeg 4 := ⟨_, rfl⟩
  rw [← hτ6] at M6 s16 ⊢
  have K6 := K.same (tl_sameC.rf (σ := σ1)) s16
  have h06 : (τ6.1 a 12).toInt = 0 := by rw [s16.1 12 (by decide) (by decide)]; exact h01
  have R0 : tb_R0 V (fun _ => 0) (m_up (m_c X τ3 a) 3724 4) (fun _ => 0) := by
    obtain ⟨v1, v2, v3, v4, v5⟩ := Rv
    refine ⟨v1, v2, v3, v4, v5, fun _ _ _ => rfl, fun j a1 a2 => ?_, fun _ _ _ => rfl⟩
    show (if j = 3724 then (4 : Int) else m_c X τ3 a j) = if j = 3724 then 4 else 0
    by_cases q : j = 3724
    · rw [if_pos q, if_pos q]
    · rw [if_neg q, if_neg q, mc3 j (by omega), if_pos ⟨a1, a2⟩]
  have p6 : tb_P X a τ1 τ6 := by
    refine ⟨fun j a1 a2 => ?_, fun j a1 a2 => ?_, M6.2.2.2.2.2.2.1.trans (p1.2.2.1.trans h0a).symm, M6.2.2.2.2.2.2.2.trans (p1.2.2.2.trans h8a).symm⟩
    · rw [M6.2.1, m_up_ne (by omega), mc3 j a1, if_neg (by omega)]
    · rw [M6.2.2.1]
      exact mw3 j
  obtain ⟨z1, σ7, τ7, e8, e9, u1, u2, u3⟩ := tb_head Y H ha S1 M6 K6 h06 R0 (tm_Kc X a)
  rw [e8, q_biP, e9]
  rcases u3 with ⟨q1, V', r', c', w', t', f9', f10', I⟩ | ⟨q1, q2⟩
  · rw [if_neg (by omega : ¬ z1.toInt = 0)]
    unfold tm_Kc
    have h07 := I.2.2.2.1
    have b7 := I.2.2.1.2.2.2.2.2.2.1
    obtain ⟨z, σ8, τ8, a1, a2, x1, x2, x3⟩ := tb_takesL Y H ha ((2147483647 - (0 : Int32).toInt).toNat + 1) ((901 - (τ7.1 a 15).toInt).toNat + (1 - (τ7.1 a 12).toInt).toNat + 1) 0 σ7 τ7 V' r' c' w' t' f9' f10' (by decide) (by omega) (by decide) (by rw [z0]; exact b7) I
    rw [a1, a2]
    exact ⟨z, σ8, τ8, rfl, rfl, ((G0.tr f1.tg).tr u1.tg).tr x1.tg, ((p1.tr p6).tr u2).tr x2, x3⟩
  · have q3 := q2.2.1
    rw [if_pos q1]
    unfold tm_Kc
    obtain ⟨m, hm⟩ : ∃ m, m = (901 - (τ7.1 a 15).toInt).toNat + (1 - (τ7.1 a 12).toInt).toNat := ⟨_, rfl⟩
    rw [← hm, F_X12_table_L145_5_s, tm_B145, if_neg (by omega : ¬ (τ7.1 a 12).toInt = 0)]
    exact ⟨0, σ7, τ7, rfl, rfl, (G0.tr f1.tg).tr u1.tg, (p1.tr p6).tr u2, Or.inr ⟨rfl, q2⟩⟩
end TM
end
/-! FROM 48t.copy.lean.txt -/
section
/-! GAMES COPIED, BLOCKS COPIED -/
def y_in (L : List (Nat × Nat)) (id : Nat) (i : Int) : Prop := ∃ e ∈ L, e.1 = id ∧ (e.2 = 99 ∧ 0 ≤ i ∧ i < (y_gn id : Int) ∨ e.2 ≠ 99 ∧ i = (e.2 : Int))
/-- g1 has taken of g what L names -/
def y_C (X : XW) (lb : Nat → Nat) (g1 o g : Nat) (σ τ : ST) (L : List (Nat × Nat)) : Prop := ∃ V1 : Nat → Int → Int, y_W X lb g1 o σ τ V1 ∧ ∀ id i, y_in L id i → V1 id i = y_v X g σ id i
section YC
variable {X : XW} {lb : Nat → Nat} {g1 g o o' : Nat} {σ τ : ST} {L : List (Nat × Nat)}
theorem y_C.rf : y_C X lb g1 o g σ σ [] := ⟨_, y_W.rf, fun id i h => by obtain ⟨e, he, _⟩ := h; cases he⟩
theorem y_C.si (S : y_S X lb) (G1 : y_G X lb g1 o) (G : y_G X lb g o') (ho : o' ≠ o) (h : y_C X lb g1 o g σ τ L) {id : Nat} (hid : id < 25) (f : Nat) (hf : f ≠ 99) : y_C X lb g1 o g σ (q_si τ (y_gA X g1 id) f (τ.1 (y_gA X g id) f)) ((id, f) :: L) := by
  obtain ⟨V1, W, hd⟩ := h
  have W' := W.si S G1 hid f (τ.1 (y_gA X g id) f)
  have hv : (τ.1 (y_gA X g id) f).toInt = y_v X g σ id (f : Int) := by
    rw [W.1 _ (by rw [y_own S G hid]; exact ho), y_v_rdn hid]
  refine ⟨_, W', fun id' i' hi => ?_⟩
  show (if id' = id ∧ i' = (f : Int) then (τ.1 (y_gA X g id) f).toInt else V1 id' i') = y_v X g σ id' i'
  by_cases q : id' = id ∧ i' = (f : Int)
  · obtain ⟨rfl, rfl⟩ := q
    rw [if_pos ⟨rfl, rfl⟩, hv]
  · rw [if_neg q]
    obtain ⟨e, he, h1, h2⟩ := hi
    rcases List.mem_cons.mp he with he | he
    · subst he
      rcases h2 with ⟨h2, _⟩ | ⟨_, h2⟩
      · exact absurd h2 hf
      · exact absurd ⟨h1.symm, h2⟩ q
    · exact hd id' i' ⟨e, he, h1, h2⟩
theorem y_C.row (S : y_S X lb) (G1 : y_G X lb g1 o) (G : y_G X lb g o') (ho : o' ≠ o) (h : y_C X lb g1 o g σ τ L) {id r r' : Nat} (hid : 4 ≤ id ∧ id < 25) (hr : q_rf X r 0 = y_gA X g1 id) (hr' : q_rf X r' 0 = y_gA X g id) : y_C X lb g1 o g σ (F_X5_copyFrom X τ r r') ((id, 99) :: L) := by
  obtain ⟨V1, W, hd⟩ := h
  have own : lb (y_gA X g id) / 8192 ≠ o := by rw [y_own S G hid.2]; exact ho
  have W' := W.copy S G1 (r' := r') hid hr (by rw [hr']; exact y_ln S G hid) (by rw [hr']; exact y_gA_ne S G1 hid.2 own)
  refine ⟨_, W', fun id' i' hi => ?_⟩
  show (if id' = id ∧ 0 ≤ i' ∧ i' < (y_gn id : Int) then (τ.1 (q_rf X r' 0) i'.toNat).toInt else V1 id' i') = y_v X g σ id' i'
  by_cases q : id' = id ∧ 0 ≤ i' ∧ i' < (y_gn id : Int)
  · obtain ⟨rfl, q0, q1⟩ := q
    rw [if_pos ⟨rfl, q0, q1⟩, hr', W.1 _ own]
    unfold y_v
    rw [if_pos ⟨hid.2, q0⟩]
  · rw [if_neg q]
    obtain ⟨e, he, h1, h2⟩ := hi
    rcases List.mem_cons.mp he with he | he
    · subst he
      rcases h2 with ⟨_, h2⟩ | ⟨h2, _⟩
      · exact absurd ⟨h1.symm, by rw [← h1] at h2; exact h2⟩ q
      · exact absurd rfl h2
    · exact hd id' i' ⟨e, he, h1, h2⟩
def y_all : List (Nat × Nat) := [(0, 7), (0, 6), (0, 5), (0, 4), (22, 99), (21, 99), (20, 99), (19, 99), (18, 99), (3, 2), (3, 1), (3, 0), (17, 99), (16, 99), (15, 99), (14, 99), (2, 1), (2, 0), (13, 99), (12, 99), (11, 99), (10, 99), (9, 99), (8, 99), (7, 99), (6, 99), (5, 99), (4, 99), (1, 4), (1, 3), (1, 2), (1, 1), (1, 0)]
theorem tb_copy (S : y_S X lb) (G1 : y_G X lb g1 o) (G : y_G X lb g o') (ho : o' ≠ o) : y_C X lb g1 o g σ (F_X0_copyFrom X σ g1 g) y_all := by
  have h0 : y_C X lb g1 o g σ σ [] := y_C.rf
  unfold F_X0_copyFrom F_X6_copyFrom F_X1_copyFrom F_X2_copyFrom F_X8_copyFrom
  have h1 := h0.si S G1 G ho (id := 1) (by decide) 0 (by decide)
  rw [q_letE (σ.1 (q_rf X g 0) 0), q_letE (q_si σ (q_rf X g1 0) 0 (σ.1 (q_rf X g 0) 0))]
  obtain ⟨s1, e1⟩ : ∃ s, s = q_si σ (q_rf X g1 0) 0 (σ.1 (q_rf X g 0) 0) := ⟨_, rfl⟩
  have h1' : y_C X lb g1 o g σ (q_si σ (q_rf X g1 0) 0 (σ.1 (q_rf X g 0) 0)) _ := h1
  rw [← e1] at h1' ⊢
  clear h0 h1
  have h1 := h1'
  clear h1' e1
  have h2 := h1.si S G1 G ho (id := 1) (by decide) 1 (by decide)
  rw [q_letE (s1.1 (q_rf X g 0) 1), q_letE (q_si s1 (q_rf X g1 0) 1 (s1.1 (q_rf X g 0) 1))]
  obtain ⟨s2, e2⟩ : ∃ s, s = q_si s1 (q_rf X g1 0) 1 (s1.1 (q_rf X g 0) 1) := ⟨_, rfl⟩
  have h2' : y_C X lb g1 o g σ (q_si s1 (q_rf X g1 0) 1 (s1.1 (q_rf X g 0) 1)) _ := h2
  rw [← e2] at h2' ⊢
  clear h2
  have h2 := h2'
  clear h2' e2
  have h3 := h2.si S G1 G ho (id := 1) (by decide) 2 (by decide)
  rw [q_letE (s2.1 (q_rf X g 0) 2), q_letE (q_si s2 (q_rf X g1 0) 2 (s2.1 (q_rf X g 0) 2))]
  obtain ⟨s3, e3⟩ : ∃ s, s = q_si s2 (q_rf X g1 0) 2 (s2.1 (q_rf X g 0) 2) := ⟨_, rfl⟩
  have h3' : y_C X lb g1 o g σ (q_si s2 (q_rf X g1 0) 2 (s2.1 (q_rf X g 0) 2)) _ := h3
  rw [← e3] at h3' ⊢
  clear h3
  have h3 := h3'
  clear h3' e3
  have h4 := h3.si S G1 G ho (id := 1) (by decide) 3 (by decide)
  rw [q_letE (s3.1 (q_rf X g 0) 3), q_letE (q_si s3 (q_rf X g1 0) 3 (s3.1 (q_rf X g 0) 3))]
  obtain ⟨s4, e4⟩ : ∃ s, s = q_si s3 (q_rf X g1 0) 3 (s3.1 (q_rf X g 0) 3) := ⟨_, rfl⟩
  have h4' : y_C X lb g1 o g σ (q_si s3 (q_rf X g1 0) 3 (s3.1 (q_rf X g 0) 3)) _ := h4
  rw [← e4] at h4' ⊢
  clear h4
  have h4 := h4'
  clear h4' e4
  have h5 := h4.si S G1 G ho (id := 1) (by decide) 4 (by decide)
  rw [q_letE (s4.1 (q_rf X g 0) 4), q_letE (q_si s4 (q_rf X g1 0) 4 (s4.1 (q_rf X g 0) 4))]
  obtain ⟨s5, e5⟩ : ∃ s, s = q_si s4 (q_rf X g1 0) 4 (s4.1 (q_rf X g 0) 4) := ⟨_, rfl⟩
  have h5' : y_C X lb g1 o g σ (q_si s4 (q_rf X g1 0) 4 (s4.1 (q_rf X g 0) 4)) _ := h5
  rw [← e5] at h5' ⊢
  clear h5
  have h5 := h5'
  clear h5' e5
  have h6 := h5.row S G1 G ho (id := 4) (r := q_rf X (q_rf X g1 0) 5) (r' := q_rf X (q_rf X g 0) 5) ⟨by decide, by decide⟩ rfl rfl
  rw [q_letE (F_X5_copyFrom X s5 (q_rf X (q_rf X g1 0) 5) (q_rf X (q_rf X g 0) 5))]
  obtain ⟨s6, e6⟩ : ∃ s, s = F_X5_copyFrom X s5 (q_rf X (q_rf X g1 0) 5) (q_rf X (q_rf X g 0) 5) := ⟨_, rfl⟩
  have h6' : y_C X lb g1 o g σ (F_X5_copyFrom X s5 (q_rf X (q_rf X g1 0) 5) (q_rf X (q_rf X g 0) 5)) _ := h6
  rw [← e6] at h6' ⊢
  clear h6
  have h6 := h6'
  clear h6' e6
  have h7 := h6.row S G1 G ho (id := 5) (r := q_rf X (q_rf X g1 0) 6) (r' := q_rf X (q_rf X g 0) 6) ⟨by decide, by decide⟩ rfl rfl
  rw [q_letE (F_X5_copyFrom X s6 (q_rf X (q_rf X g1 0) 6) (q_rf X (q_rf X g 0) 6))]
  obtain ⟨s7, e7⟩ : ∃ s, s = F_X5_copyFrom X s6 (q_rf X (q_rf X g1 0) 6) (q_rf X (q_rf X g 0) 6) := ⟨_, rfl⟩
  have h7' : y_C X lb g1 o g σ (F_X5_copyFrom X s6 (q_rf X (q_rf X g1 0) 6) (q_rf X (q_rf X g 0) 6)) _ := h7
  rw [← e7] at h7' ⊢
  clear h7
  have h7 := h7'
  clear h7' e7
  have h8 := h7.row S G1 G ho (id := 6) (r := q_rf X (q_rf X g1 0) 7) (r' := q_rf X (q_rf X g 0) 7) ⟨by decide, by decide⟩ rfl rfl
  rw [q_letE (F_X5_copyFrom X s7 (q_rf X (q_rf X g1 0) 7) (q_rf X (q_rf X g 0) 7))]
  obtain ⟨s8, e8⟩ : ∃ s, s = F_X5_copyFrom X s7 (q_rf X (q_rf X g1 0) 7) (q_rf X (q_rf X g 0) 7) := ⟨_, rfl⟩
  have h8' : y_C X lb g1 o g σ (F_X5_copyFrom X s7 (q_rf X (q_rf X g1 0) 7) (q_rf X (q_rf X g 0) 7)) _ := h8
  rw [← e8] at h8' ⊢
  clear h8
  have h8 := h8'
  clear h8' e8
  rw [q_letE s8]
  have h9 := h8.row S G1 G ho (id := 7) (r := q_rf X (q_rf X g1 1) 0) (r' := q_rf X (q_rf X g 1) 0) ⟨by decide, by decide⟩ rfl rfl
  rw [q_letE (F_X5_copyFrom X s8 (q_rf X (q_rf X g1 1) 0) (q_rf X (q_rf X g 1) 0))]
  obtain ⟨s9, e9⟩ : ∃ s, s = F_X5_copyFrom X s8 (q_rf X (q_rf X g1 1) 0) (q_rf X (q_rf X g 1) 0) := ⟨_, rfl⟩
  have h9' : y_C X lb g1 o g σ (F_X5_copyFrom X s8 (q_rf X (q_rf X g1 1) 0) (q_rf X (q_rf X g 1) 0)) _ := h9
  rw [← e9] at h9' ⊢
  clear h9
  have h9 := h9'
  clear h9' e9
  have h10 := h9.row S G1 G ho (id := 8) (r := q_rf X (q_rf X g1 1) 1) (r' := q_rf X (q_rf X g 1) 1) ⟨by decide, by decide⟩ rfl rfl
  rw [q_letE (F_X5_copyFrom X s9 (q_rf X (q_rf X g1 1) 1) (q_rf X (q_rf X g 1) 1))]
  obtain ⟨s10, e10⟩ : ∃ s, s = F_X5_copyFrom X s9 (q_rf X (q_rf X g1 1) 1) (q_rf X (q_rf X g 1) 1) := ⟨_, rfl⟩
  have h10' : y_C X lb g1 o g σ (F_X5_copyFrom X s9 (q_rf X (q_rf X g1 1) 1) (q_rf X (q_rf X g 1) 1)) _ := h10
  rw [← e10] at h10' ⊢
  clear h10
  have h10 := h10'
  clear h10' e10
  have h11 := h10.row S G1 G ho (id := 9) (r := q_rf X (q_rf X g1 1) 2) (r' := q_rf X (q_rf X g 1) 2) ⟨by decide, by decide⟩ rfl rfl
  rw [q_letE (F_X5_copyFrom X s10 (q_rf X (q_rf X g1 1) 2) (q_rf X (q_rf X g 1) 2))]
  obtain ⟨s11, e11⟩ : ∃ s, s = F_X5_copyFrom X s10 (q_rf X (q_rf X g1 1) 2) (q_rf X (q_rf X g 1) 2) := ⟨_, rfl⟩
  have h11' : y_C X lb g1 o g σ (F_X5_copyFrom X s10 (q_rf X (q_rf X g1 1) 2) (q_rf X (q_rf X g 1) 2)) _ := h11
  rw [← e11] at h11' ⊢
  clear h11
  have h11 := h11'
  clear h11' e11
  have h12 := h11.row S G1 G ho (id := 10) (r := q_rf X (q_rf X g1 1) 3) (r' := q_rf X (q_rf X g 1) 3) ⟨by decide, by decide⟩ rfl rfl
  rw [q_letE (F_X5_copyFrom X s11 (q_rf X (q_rf X g1 1) 3) (q_rf X (q_rf X g 1) 3))]
  obtain ⟨s12, e12⟩ : ∃ s, s = F_X5_copyFrom X s11 (q_rf X (q_rf X g1 1) 3) (q_rf X (q_rf X g 1) 3) := ⟨_, rfl⟩
  have h12' : y_C X lb g1 o g σ (F_X5_copyFrom X s11 (q_rf X (q_rf X g1 1) 3) (q_rf X (q_rf X g 1) 3)) _ := h12
  rw [← e12] at h12' ⊢
  clear h12
  have h12 := h12'
  clear h12' e12
  have h13 := h12.row S G1 G ho (id := 11) (r := q_rf X (q_rf X g1 1) 4) (r' := q_rf X (q_rf X g 1) 4) ⟨by decide, by decide⟩ rfl rfl
  rw [q_letE (F_X5_copyFrom X s12 (q_rf X (q_rf X g1 1) 4) (q_rf X (q_rf X g 1) 4))]
  obtain ⟨s13, e13⟩ : ∃ s, s = F_X5_copyFrom X s12 (q_rf X (q_rf X g1 1) 4) (q_rf X (q_rf X g 1) 4) := ⟨_, rfl⟩
  have h13' : y_C X lb g1 o g σ (F_X5_copyFrom X s12 (q_rf X (q_rf X g1 1) 4) (q_rf X (q_rf X g 1) 4)) _ := h13
  rw [← e13] at h13' ⊢
  clear h13
  have h13 := h13'
  clear h13' e13
  have h14 := h13.row S G1 G ho (id := 12) (r := q_rf X (q_rf X g1 1) 5) (r' := q_rf X (q_rf X g 1) 5) ⟨by decide, by decide⟩ rfl rfl
  rw [q_letE (F_X5_copyFrom X s13 (q_rf X (q_rf X g1 1) 5) (q_rf X (q_rf X g 1) 5))]
  obtain ⟨s14, e14⟩ : ∃ s, s = F_X5_copyFrom X s13 (q_rf X (q_rf X g1 1) 5) (q_rf X (q_rf X g 1) 5) := ⟨_, rfl⟩
  have h14' : y_C X lb g1 o g σ (F_X5_copyFrom X s13 (q_rf X (q_rf X g1 1) 5) (q_rf X (q_rf X g 1) 5)) _ := h14
  rw [← e14] at h14' ⊢
  clear h14
  have h14 := h14'
  clear h14' e14
  have h15 := h14.row S G1 G ho (id := 13) (r := q_rf X (q_rf X g1 1) 6) (r' := q_rf X (q_rf X g 1) 6) ⟨by decide, by decide⟩ rfl rfl
  rw [q_letE (F_X5_copyFrom X s14 (q_rf X (q_rf X g1 1) 6) (q_rf X (q_rf X g 1) 6))]
  obtain ⟨s15, e15⟩ : ∃ s, s = F_X5_copyFrom X s14 (q_rf X (q_rf X g1 1) 6) (q_rf X (q_rf X g 1) 6) := ⟨_, rfl⟩
  have h15' : y_C X lb g1 o g σ (F_X5_copyFrom X s14 (q_rf X (q_rf X g1 1) 6) (q_rf X (q_rf X g 1) 6)) _ := h15
  rw [← e15] at h15' ⊢
  clear h15
  have h15 := h15'
  clear h15' e15
  rw [q_letE s15]
  have h16 := h15.si S G1 G ho (id := 2) (by decide) 0 (by decide)
  rw [q_letE (s15.1 (q_rf X g 2) 0), q_letE (q_si s15 (q_rf X g1 2) 0 (s15.1 (q_rf X g 2) 0))]
  obtain ⟨s16, e16⟩ : ∃ s, s = q_si s15 (q_rf X g1 2) 0 (s15.1 (q_rf X g 2) 0) := ⟨_, rfl⟩
  have h16' : y_C X lb g1 o g σ (q_si s15 (q_rf X g1 2) 0 (s15.1 (q_rf X g 2) 0)) _ := h16
  rw [← e16] at h16' ⊢
  clear h16
  have h16 := h16'
  clear h16' e16
  have h17 := h16.si S G1 G ho (id := 2) (by decide) 1 (by decide)
  rw [q_letE (s16.1 (q_rf X g 2) 1), q_letE (q_si s16 (q_rf X g1 2) 1 (s16.1 (q_rf X g 2) 1))]
  obtain ⟨s17, e17⟩ : ∃ s, s = q_si s16 (q_rf X g1 2) 1 (s16.1 (q_rf X g 2) 1) := ⟨_, rfl⟩
  have h17' : y_C X lb g1 o g σ (q_si s16 (q_rf X g1 2) 1 (s16.1 (q_rf X g 2) 1)) _ := h17
  rw [← e17] at h17' ⊢
  clear h17
  have h17 := h17'
  clear h17' e17
  have h18 := h17.row S G1 G ho (id := 14) (r := q_rf X (q_rf X g1 2) 2) (r' := q_rf X (q_rf X g 2) 2) ⟨by decide, by decide⟩ rfl rfl
  rw [q_letE (F_X5_copyFrom X s17 (q_rf X (q_rf X g1 2) 2) (q_rf X (q_rf X g 2) 2))]
  obtain ⟨s18, e18⟩ : ∃ s, s = F_X5_copyFrom X s17 (q_rf X (q_rf X g1 2) 2) (q_rf X (q_rf X g 2) 2) := ⟨_, rfl⟩
  have h18' : y_C X lb g1 o g σ (F_X5_copyFrom X s17 (q_rf X (q_rf X g1 2) 2) (q_rf X (q_rf X g 2) 2)) _ := h18
  rw [← e18] at h18' ⊢
  clear h18
  have h18 := h18'
  clear h18' e18
  have h19 := h18.row S G1 G ho (id := 15) (r := q_rf X (q_rf X g1 2) 3) (r' := q_rf X (q_rf X g 2) 3) ⟨by decide, by decide⟩ rfl rfl
  rw [q_letE (F_X5_copyFrom X s18 (q_rf X (q_rf X g1 2) 3) (q_rf X (q_rf X g 2) 3))]
  obtain ⟨s19, e19⟩ : ∃ s, s = F_X5_copyFrom X s18 (q_rf X (q_rf X g1 2) 3) (q_rf X (q_rf X g 2) 3) := ⟨_, rfl⟩
  have h19' : y_C X lb g1 o g σ (F_X5_copyFrom X s18 (q_rf X (q_rf X g1 2) 3) (q_rf X (q_rf X g 2) 3)) _ := h19
  rw [← e19] at h19' ⊢
  clear h19
  have h19 := h19'
  clear h19' e19
  have h20 := h19.row S G1 G ho (id := 16) (r := q_rf X (q_rf X g1 2) 4) (r' := q_rf X (q_rf X g 2) 4) ⟨by decide, by decide⟩ rfl rfl
  rw [q_letE (F_X5_copyFrom X s19 (q_rf X (q_rf X g1 2) 4) (q_rf X (q_rf X g 2) 4))]
  obtain ⟨s20, e20⟩ : ∃ s, s = F_X5_copyFrom X s19 (q_rf X (q_rf X g1 2) 4) (q_rf X (q_rf X g 2) 4) := ⟨_, rfl⟩
  have h20' : y_C X lb g1 o g σ (F_X5_copyFrom X s19 (q_rf X (q_rf X g1 2) 4) (q_rf X (q_rf X g 2) 4)) _ := h20
  rw [← e20] at h20' ⊢
  clear h20
  have h20 := h20'
  clear h20' e20
  have h21 := h20.row S G1 G ho (id := 17) (r := q_rf X (q_rf X g1 2) 5) (r' := q_rf X (q_rf X g 2) 5) ⟨by decide, by decide⟩ rfl rfl
  rw [q_letE (F_X5_copyFrom X s20 (q_rf X (q_rf X g1 2) 5) (q_rf X (q_rf X g 2) 5))]
  obtain ⟨s21, e21⟩ : ∃ s, s = F_X5_copyFrom X s20 (q_rf X (q_rf X g1 2) 5) (q_rf X (q_rf X g 2) 5) := ⟨_, rfl⟩
  have h21' : y_C X lb g1 o g σ (F_X5_copyFrom X s20 (q_rf X (q_rf X g1 2) 5) (q_rf X (q_rf X g 2) 5)) _ := h21
  rw [← e21] at h21' ⊢
  clear h21
  have h21 := h21'
  clear h21' e21
  rw [q_letE s21]
  have h22 := h21.si S G1 G ho (id := 3) (by decide) 0 (by decide)
  rw [q_letE (s21.1 (q_rf X g 3) 0), q_letE (q_si s21 (q_rf X g1 3) 0 (s21.1 (q_rf X g 3) 0))]
  obtain ⟨s22, e22⟩ : ∃ s, s = q_si s21 (q_rf X g1 3) 0 (s21.1 (q_rf X g 3) 0) := ⟨_, rfl⟩
  have h22' : y_C X lb g1 o g σ (q_si s21 (q_rf X g1 3) 0 (s21.1 (q_rf X g 3) 0)) _ := h22
  rw [← e22] at h22' ⊢
  clear h22
  have h22 := h22'
  clear h22' e22
  have h23 := h22.si S G1 G ho (id := 3) (by decide) 1 (by decide)
  rw [q_letE (s22.1 (q_rf X g 3) 1), q_letE (q_si s22 (q_rf X g1 3) 1 (s22.1 (q_rf X g 3) 1))]
  obtain ⟨s23, e23⟩ : ∃ s, s = q_si s22 (q_rf X g1 3) 1 (s22.1 (q_rf X g 3) 1) := ⟨_, rfl⟩
  have h23' : y_C X lb g1 o g σ (q_si s22 (q_rf X g1 3) 1 (s22.1 (q_rf X g 3) 1)) _ := h23
  rw [← e23] at h23' ⊢
  clear h23
  have h23 := h23'
  clear h23' e23
  have h24 := h23.si S G1 G ho (id := 3) (by decide) 2 (by decide)
  rw [q_letE (s23.1 (q_rf X g 3) 2), q_letE (q_si s23 (q_rf X g1 3) 2 (s23.1 (q_rf X g 3) 2))]
  obtain ⟨s24, e24⟩ : ∃ s, s = q_si s23 (q_rf X g1 3) 2 (s23.1 (q_rf X g 3) 2) := ⟨_, rfl⟩
  have h24' : y_C X lb g1 o g σ (q_si s23 (q_rf X g1 3) 2 (s23.1 (q_rf X g 3) 2)) _ := h24
  rw [← e24] at h24' ⊢
  clear h24
  have h24 := h24'
  clear h24' e24
  have h25 := h24.row S G1 G ho (id := 18) (r := q_rf X (q_rf X g1 3) 3) (r' := q_rf X (q_rf X g 3) 3) ⟨by decide, by decide⟩ rfl rfl
  rw [q_letE (F_X5_copyFrom X s24 (q_rf X (q_rf X g1 3) 3) (q_rf X (q_rf X g 3) 3))]
  obtain ⟨s25, e25⟩ : ∃ s, s = F_X5_copyFrom X s24 (q_rf X (q_rf X g1 3) 3) (q_rf X (q_rf X g 3) 3) := ⟨_, rfl⟩
  have h25' : y_C X lb g1 o g σ (F_X5_copyFrom X s24 (q_rf X (q_rf X g1 3) 3) (q_rf X (q_rf X g 3) 3)) _ := h25
  rw [← e25] at h25' ⊢
  clear h25
  have h25 := h25'
  clear h25' e25
  have h26 := h25.row S G1 G ho (id := 19) (r := q_rf X (q_rf X g1 3) 4) (r' := q_rf X (q_rf X g 3) 4) ⟨by decide, by decide⟩ rfl rfl
  rw [q_letE (F_X5_copyFrom X s25 (q_rf X (q_rf X g1 3) 4) (q_rf X (q_rf X g 3) 4))]
  obtain ⟨s26, e26⟩ : ∃ s, s = F_X5_copyFrom X s25 (q_rf X (q_rf X g1 3) 4) (q_rf X (q_rf X g 3) 4) := ⟨_, rfl⟩
  have h26' : y_C X lb g1 o g σ (F_X5_copyFrom X s25 (q_rf X (q_rf X g1 3) 4) (q_rf X (q_rf X g 3) 4)) _ := h26
  rw [← e26] at h26' ⊢
  clear h26
  have h26 := h26'
  clear h26' e26
  have h27 := h26.row S G1 G ho (id := 20) (r := q_rf X (q_rf X g1 3) 5) (r' := q_rf X (q_rf X g 3) 5) ⟨by decide, by decide⟩ rfl rfl
  rw [q_letE (F_X5_copyFrom X s26 (q_rf X (q_rf X g1 3) 5) (q_rf X (q_rf X g 3) 5))]
  obtain ⟨s27, e27⟩ : ∃ s, s = F_X5_copyFrom X s26 (q_rf X (q_rf X g1 3) 5) (q_rf X (q_rf X g 3) 5) := ⟨_, rfl⟩
  have h27' : y_C X lb g1 o g σ (F_X5_copyFrom X s26 (q_rf X (q_rf X g1 3) 5) (q_rf X (q_rf X g 3) 5)) _ := h27
  rw [← e27] at h27' ⊢
  clear h27
  have h27 := h27'
  clear h27' e27
  have h28 := h27.row S G1 G ho (id := 21) (r := q_rf X (q_rf X g1 3) 6) (r' := q_rf X (q_rf X g 3) 6) ⟨by decide, by decide⟩ rfl rfl
  rw [q_letE (F_X5_copyFrom X s27 (q_rf X (q_rf X g1 3) 6) (q_rf X (q_rf X g 3) 6))]
  obtain ⟨s28, e28⟩ : ∃ s, s = F_X5_copyFrom X s27 (q_rf X (q_rf X g1 3) 6) (q_rf X (q_rf X g 3) 6) := ⟨_, rfl⟩
  have h28' : y_C X lb g1 o g σ (F_X5_copyFrom X s27 (q_rf X (q_rf X g1 3) 6) (q_rf X (q_rf X g 3) 6)) _ := h28
  rw [← e28] at h28' ⊢
  clear h28
  have h28 := h28'
  clear h28' e28
  have h29 := h28.row S G1 G ho (id := 22) (r := q_rf X (q_rf X g1 3) 7) (r' := q_rf X (q_rf X g 3) 7) ⟨by decide, by decide⟩ rfl rfl
  rw [q_letE (F_X5_copyFrom X s28 (q_rf X (q_rf X g1 3) 7) (q_rf X (q_rf X g 3) 7))]
  obtain ⟨s29, e29⟩ : ∃ s, s = F_X5_copyFrom X s28 (q_rf X (q_rf X g1 3) 7) (q_rf X (q_rf X g 3) 7) := ⟨_, rfl⟩
  have h29' : y_C X lb g1 o g σ (F_X5_copyFrom X s28 (q_rf X (q_rf X g1 3) 7) (q_rf X (q_rf X g 3) 7)) _ := h29
  rw [← e29] at h29' ⊢
  clear h29
  have h29 := h29'
  clear h29' e29
  rw [q_letE s29]
  have h30 := h29.si S G1 G ho (id := 0) (by decide) 4 (by decide)
  rw [q_letE (s29.1 (g) 4), q_letE (q_si s29 (g1) 4 (s29.1 (g) 4))]
  obtain ⟨s30, e30⟩ : ∃ s, s = q_si s29 (g1) 4 (s29.1 (g) 4) := ⟨_, rfl⟩
  have h30' : y_C X lb g1 o g σ (q_si s29 (g1) 4 (s29.1 (g) 4)) _ := h30
  rw [← e30] at h30' ⊢
  clear h30
  have h30 := h30'
  clear h30' e30
  have h31 := h30.si S G1 G ho (id := 0) (by decide) 5 (by decide)
  rw [q_letE (s30.1 (g) 5), q_letE (q_si s30 (g1) 5 (s30.1 (g) 5))]
  obtain ⟨s31, e31⟩ : ∃ s, s = q_si s30 (g1) 5 (s30.1 (g) 5) := ⟨_, rfl⟩
  have h31' : y_C X lb g1 o g σ (q_si s30 (g1) 5 (s30.1 (g) 5)) _ := h31
  rw [← e31] at h31' ⊢
  clear h31
  have h31 := h31'
  clear h31' e31
  have h32 := h31.si S G1 G ho (id := 0) (by decide) 6 (by decide)
  rw [q_letE (s31.1 (g) 6), q_letE (q_si s31 (g1) 6 (s31.1 (g) 6))]
  obtain ⟨s32, e32⟩ : ∃ s, s = q_si s31 (g1) 6 (s31.1 (g) 6) := ⟨_, rfl⟩
  have h32' : y_C X lb g1 o g σ (q_si s31 (g1) 6 (s31.1 (g) 6)) _ := h32
  rw [← e32] at h32' ⊢
  clear h32
  have h32 := h32'
  clear h32' e32
  have h33 := h32.si S G1 G ho (id := 0) (by decide) 7 (by decide)
  rw [q_letE (s32.1 (g) 7), q_letE (q_si s32 (g1) 7 (s32.1 (g) 7))]
  obtain ⟨s33, e33⟩ : ∃ s, s = q_si s32 (g1) 7 (s32.1 (g) 7) := ⟨_, rfl⟩
  have h33' : y_C X lb g1 o g σ (q_si s32 (g1) 7 (s32.1 (g) 7)) _ := h33
  rw [← e33] at h33' ⊢
  clear h33
  have h33 := h33'
  clear h33' e33
  exact h33
end YC
section YB
variable {X : XW} {a : Nat} {τ τ0 : ST}
/-- block s to block d -/
theorem tm_copyW {v1 v2 : Int32} {s d : Int} (hv1 : v1.toInt = s) (hv2 : v2.toInt = d) (hs : 0 ≤ s ∧ s ≤ 4) (hd : 0 ≤ d ∧ d ≤ 4) (hsd : s ≠ d) (k : Nat) : ∀ (x : Int32) (τ : ST), (2147483647 - x.toInt).toNat < k → 0 ≤ x.toInt → x.toInt ≤ 6 → tkl (fun _ _ => False) (fun b _ => b = q_rf X a 23) τ0 τ → (∀ j : Int, 0 ≤ j → m_wd X τ a j = if 6 * d ≤ j ∧ j < 6 * d + x.toInt then m_wd X τ0 a (6 * s + (j - 6 * d)) else m_wd X τ0 a j) →
    tkl (fun _ _ => False) (fun b _ => b = q_rf X a 23) τ0 (F_X12_copy_L41_3 X v2 v1 a k x τ) ∧ ∀ j : Int, 0 ≤ j → m_wd X (F_X12_copy_L41_3 X v2 v1 a k x τ) a j = if 6 * d ≤ j ∧ j < 6 * d + 6 then m_wd X τ0 a (6 * s + (j - 6 * d)) else m_wd X τ0 a j := by
  induction k with
  | zero => intro x τ hm; exact absurd hm (Nat.not_lt_zero _)
  | succ k ih =>
    intro x τ hm h0 h1 ht hz
    have hb := ar_bd x
    have e6 : (6 : Int32).toInt = 6 := rfl
    rw [F_X12_copy_L41_3_s]
    unfold F_X12_copy_B41_3
    by_cases q : x.toInt < 6
    · rw [if_pos q, q_letE, q_letE, q_letE, q_letE, q_letE, q_letE, q_letE]
      have e : (x + 1).toInt = x.toInt + 1 := y_inc (by omega)
      have id_ : ((6 : Int32) * v2 + x).toInt = 6 * d + x.toInt := by rw [ar_add, ar_mul, e6, hv2, ar_wr (n := 6 * d) (by omega) (by omega), ar_wr (by omega) (by omega)]
      have is_ : ((6 : Int32) * v1 + x).toInt = 6 * s + x.toInt := by rw [ar_add, ar_mul, e6, hv1, ar_wr (n := 6 * s) (by omega) (by omega), ar_wr (by omega) (by omega)]
      have hg : (τ.2.1 (q_rf X a 23) ((6 : Int32) * v1 + x).toNatClampNeg).toInt = m_wd X τ0 a (6 * s + x.toInt) := by
        have z := hz (6 * s + x.toInt) (by omega)
        rw [if_neg (by omega)] at z
        rw [← z]
        unfold m_wd
        rw [ar_cl, is_]
      refine ih (x + 1) _ (by omega) (by omega) (by omega) (ht.sl _ rfl) (fun j j0 => ?_)
      rw [e]
      show (if q_rf X a 23 = q_rf X a 23 ∧ j.toNat = ((6 : Int32) * v2 + x).toNatClampNeg then τ.2.1 (q_rf X a 23) ((6 : Int32) * v1 + x).toNatClampNeg else τ.2.1 (q_rf X a 23) j.toNat).toInt = _
      by_cases q2 : j = 6 * d + x.toInt
      · rw [if_pos ⟨rfl, by rw [ar_cl, id_, q2]⟩, hg, if_pos ⟨by omega, by omega⟩]
        congr 1
        omega
      · rw [if_neg (fun z => q2 (by have := z.2; rw [ar_cl, id_] at this; omega))]
        have z := hz j j0
        unfold m_wd at z ⊢
        rw [z]
        by_cases q3 : 6 * d ≤ j ∧ j < 6 * d + x.toInt
        · rw [if_pos q3, if_pos ⟨q3.1, by omega⟩]
        · rw [if_neg q3, if_neg (fun z => q3 ⟨z.1, by omega⟩)]
    · rw [if_neg q]
      refine ⟨ht, fun j j0 => ?_⟩
      rw [hz j j0]
      have ex : x.toInt = 6 := by omega
      rw [ex]
theorem tm_copyL {v1 v2 : Int32} {s d : Int} (hv1 : v1.toInt = s) (hv2 : v2.toInt = d) (hs : 0 ≤ s ∧ s ≤ 4) (hd : 0 ≤ d ∧ d ≤ 4) (hsd : s ≠ d) (k : Nat) : ∀ (x : Int32) (τ : ST), (2147483647 - x.toInt).toNat < k → 0 ≤ x.toInt → x.toInt ≤ 930 → tkl (fun b _ => b = q_rf X a 20) (fun _ _ => False) τ0 τ → (∀ j : Int, 0 ≤ j → m_c X τ a j = if 930 * d ≤ j ∧ j < 930 * d + x.toInt then m_c X τ0 a (930 * s + (j - 930 * d)) else m_c X τ0 a j) →
    ∃ τ' : ST, F_X12_copy_L2_1 X v2 v1 a k x τ = F_X12_copy_L41_3 X v2 v1 a ((2147483647 - (0 : Int32).toInt).toNat + 1) (0 : Int32) τ' ∧ tkl (fun b _ => b = q_rf X a 20) (fun _ _ => False) τ0 τ' ∧ ∀ j : Int, 0 ≤ j → m_c X τ' a j = if 930 * d ≤ j ∧ j < 930 * d + 930 then m_c X τ0 a (930 * s + (j - 930 * d)) else m_c X τ0 a j := by
  induction k with
  | zero => intro x τ hm; exact absurd hm (Nat.not_lt_zero _)
  | succ k ih =>
    intro x τ hm h0 h1 ht hz
    have hb := ar_bd x
    have e6 : (930 : Int32).toInt = 930 := rfl
    rw [F_X12_copy_L2_1_s]
    unfold F_X12_copy_B2_1
    by_cases q : x.toInt < 930
    · rw [if_pos q, q_letE, q_letE, q_letE, q_letE, q_letE, q_letE, q_letE]
      have e : (x + 1).toInt = x.toInt + 1 := y_inc (by omega)
      have id_ : ((930 : Int32) * v2 + x).toInt = 930 * d + x.toInt := by rw [ar_add, ar_mul, e6, hv2, ar_wr (n := 930 * d) (by omega) (by omega), ar_wr (by omega) (by omega)]
      have is_ : ((930 : Int32) * v1 + x).toInt = 930 * s + x.toInt := by rw [ar_add, ar_mul, e6, hv1, ar_wr (n := 930 * s) (by omega) (by omega), ar_wr (by omega) (by omega)]
      have hg : (τ.1 (q_rf X a 20) ((930 : Int32) * v1 + x).toNatClampNeg).toInt = m_c X τ0 a (930 * s + x.toInt) := by
        have z := hz (930 * s + x.toInt) (by omega)
        rw [if_neg (by omega)] at z
        rw [← z]
        exact m_rd (X := X) rfl is_
      refine ih (x + 1) _ (by omega) (by omega) (by omega) (ht.si _ rfl) (fun j j0 => ?_)
      rw [e, m_wr (X := X) (a := a) rfl id_ (by omega) j j0]
      by_cases q2 : j = 930 * d + x.toInt
      · rw [if_pos q2, hg, if_pos ⟨by omega, by omega⟩]
        congr 1
        omega
      · rw [if_neg q2, hz j j0]
        by_cases q3 : 930 * d ≤ j ∧ j < 930 * d + x.toInt
        · rw [if_pos q3, if_pos ⟨q3.1, by omega⟩]
        · rw [if_neg q3, if_neg (fun z => q3 ⟨z.1, by omega⟩)]
    · rw [if_neg q]
      refine ⟨τ, rfl, ht, fun j j0 => ?_⟩
      rw [hz j j0]
      have ex : x.toInt = 930 := by omega
      rw [ex]
theorem tm_copy (hT : q_T X) (ha : q_kd X a = 12) {v1 v2 : Int32} {s d : Int} (hv1 : v1.toInt = s) (hv2 : v2.toInt = d) (hs : 0 ≤ s ∧ s ≤ 4) (hd : 0 ≤ d ∧ d ≤ 4) (hsd : s ≠ d) : tkl (fun b _ => b = q_rf X a 20) (fun b _ => b = q_rf X a 23) τ (F_X12_copy X τ a v1 v2) ∧ (∀ j : Int, 0 ≤ j → m_c X (F_X12_copy X τ a v1 v2) a j = if 930 * d ≤ j ∧ j < 930 * d + 930 then m_c X τ a (930 * s + (j - 930 * d)) else m_c X τ a j) ∧ ∀ j : Int, 0 ≤ j → m_wd X (F_X12_copy X τ a v1 v2) a j = if 6 * d ≤ j ∧ j < 6 * d + 6 then m_wd X τ a (6 * s + (j - 6 * d)) else m_wd X τ a j := by
  have z0 : (0 : Int32).toInt = 0 := rfl
  unfold F_X12_copy
  obtain ⟨τ1, e1, t1, c1⟩ := tm_copyL (X := X) (a := a) (τ0 := τ) hv1 hv2 hs hd hsd ((2147483647 - (0 : Int32).toInt).toNat + 1) 0 τ (by decide) (by decide) (by decide) tkl.rf (fun j j0 => by rw [if_neg (by omega)])
  rw [e1]
  have zz := tm_copyW (X := X) (a := a) (τ0 := τ1) hv1 hv2 hs hd hsd ((2147483647 - (0 : Int32).toInt).toNat + 1) 0 τ1 (by decide) (by decide) (by decide) tkl.rf (fun j j0 => by rw [if_neg (by omega)])
  obtain ⟨t2, w2⟩ := zz
  refine ⟨(t1.mono (fun _ _ h => h) (fun _ _ h => h.elim)).tr (t2.mono (fun _ _ h => h.elim) (fun _ _ h => h)), fun j j0 => ?_, fun j j0 => ?_⟩
  · rw [← c1 j j0]
    exact congrArg Int32.toInt (t2.1 _ _ (fun q => q))
  · have mw : ∀ i : Int, m_wd X τ1 a i = m_wd X τ a i := fun i => congrArg Int64.toInt (t1.2.1 _ _ (fun q => q))
    rw [w2 j j0, mw, mw]
/-- the reference's table ends with a fault -/
theorem tm_end0 (h : 0 < (τ.1 a 12).toInt) : ∃ τ' : ST, F_X12_table_E232_6 X τ a = (-1, τ') ∧ τ'.1 a 10 = τ.1 a 12 ∧ τ'.1 a 11 = τ.1 a 13 ∧ (τ'.1 a 0).toInt = 10 ∧ tkl (fun b f => b = a ∧ (f = 0 ∨ f = 10 ∨ f = 11)) (fun _ _ => False) τ τ' := by
  have e12 : (q_si τ a 10 (τ.1 a 12)).1 a 12 = τ.1 a 12 := si_f (by decide) a
  have e12' : (q_si (q_si τ a 10 (τ.1 a 12)) a 11 ((q_si τ a 10 (τ.1 a 12)).1 a 13)).1 a 12 = τ.1 a 12 := (si_f (by decide) a).trans e12
  unfold F_X12_table_E232_6 F_X12_isWell F_X12_no
  rw [q_letE (τ.1 a 12), q_letE (q_si τ a 10 (τ.1 a 12)), q_letE ((q_si τ a 10 (τ.1 a 12)).1 a 12), e12, if_neg (by omega), q_letE, q_letE, q_letE, e12', if_neg (by omega), q_letE, q_biP (0 : Int32) (q_si (q_si (q_si τ a 10 (τ.1 a 12)) a 11 ((q_si τ a 10 (τ.1 a 12)).1 a 13)) a 0 10), if_pos (by decide : (0 : Int32).toInt = 0), q_biP (0 : Int32), if_pos (by decide : (0 : Int32).toInt = 0)]
  refine ⟨_, rfl, ?_, ?_, ?_, ?_⟩
  · rw [si_f (by decide), si_f (by decide), si_eq]
  · rw [si_f (by decide), si_eq, si_f (by decide)]
  · rw [si_eq]
    rfl
  · exact ((tkl.rf.si _ ⟨rfl, Or.inr (Or.inl rfl)⟩).si _ ⟨rfl, Or.inr (Or.inr rfl)⟩).si _ ⟨rfl, Or.inl rfl⟩
/-- what the new block has at last -/
def m_fin (c : Int → Int) : Int → Int := m_up (m_up c 3728 (-1)) 3726 (if c 3722 = 0 then -1 else 0)
theorem tm_end1 (hT : q_T X) (ha : q_kd X a = 12) (h : (τ.1 a 12).toInt = 0) : ∃ (z : Int32) (τ' : ST), F_X12_table_E232_6 X τ a = (z, τ') ∧ z.toInt = m_c X τ a 3722 ∧ (τ'.1 a 10).toInt = 0 ∧ (τ'.1 a 11).toInt = -1 ∧ tkl (fun b f => b = q_rf X a 20 ∨ b = a ∧ (f = 10 ∨ f = 11)) (fun b _ => b = q_rf X a 23) τ τ' ∧
    (∀ j : Int, 0 ≤ j → m_c X τ' a j = if j < 930 then m_fin (m_c X τ a) (3720 + j) else m_fin (m_c X τ a) j) ∧ ∀ j : Int, 0 ≤ j → m_wd X τ' a j = if j < 6 then m_wd X τ a (24 + j) else m_wd X τ a j := by
  have k20 : q_kd X (q_rf X a 20) = 34 := (hT.1 a 20 (by rw [ha]; decide)).trans (by rw [ha]; rfl)
  have n20 : a ≠ q_rf X a 20 := Ne.symm (m_ne k20 ha (by decide))
  have m1 : ((-1) : Int32).toInt = -1 := rfl
  have z0 : (0 : Int32).toInt = 0 := rfl
  have e4 : (4 : Int32).toInt = 4 := rfl
  have e12 : (q_si τ a 10 (τ.1 a 12)).1 a 12 = τ.1 a 12 := si_f (by decide) a
  have e12' : (q_si (q_si τ a 10 (τ.1 a 12)) a 11 (-1)).1 a 12 = τ.1 a 12 := (si_f (by decide) a).trans e12
  unfold F_X12_table_E232_6 F_X12_isWell
  rw [q_letE (τ.1 a 12), q_letE (q_si τ a 10 (τ.1 a 12)), q_letE ((q_si τ a 10 (τ.1 a 12)).1 a 12), e12, if_pos h, q_letE (q_si (q_si τ a 10 (τ.1 a 12)) a 11 (-1)), q_letE ((q_si (q_si τ a 10 (τ.1 a 12)) a 11 (-1)).1 a 12), e12', if_pos h, q_biP, if_neg (by decide : ¬ (1 : Int32).toInt = 0)]
  have t1 : tkl (fun b f => b = a ∧ (f = 10 ∨ f = 11)) (fun _ _ => False) τ (q_si (q_si τ a 10 (τ.1 a 12)) a 11 (-1)) := (tkl.rf.si _ ⟨rfl, Or.inl rfl⟩).si _ ⟨rfl, Or.inr rfl⟩
  have d10 : ((q_si (q_si τ a 10 (τ.1 a 12)) a 11 (-1)).1 a 10).toInt = 0 := by rw [si_f (by decide), si_eq]; exact h
  have d11 : ((q_si (q_si τ a 10 (τ.1 a 12)) a 11 (-1)).1 a 11).toInt = -1 := by rw [si_eq]; exact m1
  obtain ⟨τ1, h1⟩ : ∃ s, s = q_si (q_si τ a 10 (τ.1 a 12)) a 11 (-1) := ⟨_, rfl⟩
  rw [← h1] at t1 d10 d11 ⊢
  have c1 : m_c X τ1 a = m_c X τ a := by
    funext j
    exact congrArg Int32.toInt (t1.1 _ _ (fun q => n20 q.1.symm))
  have w1 : ∀ j : Int, m_wd X τ1 a j = m_wd X τ a j := fun j => congrArg Int64.toInt (t1.2.1 _ _ (fun q => q))
  have c2 : m_c X (q_si τ1 (q_rf X a 20) (3728 : Int32).toNatClampNeg (-1)) a = m_up (m_c X τ a) 3728 (-1) := by
    rw [m_c_up 3728 (by decide) rfl, c1, m1]
  have t2 : tkl (fun b _ => b = q_rf X a 20) (fun _ _ => False) τ1 (q_si τ1 (q_rf X a 20) (3728 : Int32).toNatClampNeg (-1)) := tkl.rf.si _ rfl
  rw [q_letE (q_si τ1 (q_rf X a 20) (3728 : Int32).toNatClampNeg (-1))]
  obtain ⟨τ2, h2⟩ : ∃ s, s = q_si τ1 (q_rf X a 20) (3728 : Int32).toNatClampNeg (-1) := ⟨_, rfl⟩
  rw [← h2] at c2 t2 ⊢
  have r22 : (τ2.1 (q_rf X a 20) (3722 : Int32).toNatClampNeg).toInt = m_c X τ a 3722 := by
    have z := m_rd (X := X) (σ := τ2) (a := a) (i := 3722) (A := 3722) rfl rfl
    rw [c2, m_up_ne (by decide)] at z
    exact z
  rw [q_letE (τ2.1 (q_rf X a 20) (3722 : Int32).toNatClampNeg), r22]
  have fin : ∀ (u : Int32), u.toInt = (if m_c X τ a 3722 = 0 then -1 else 0) → ∃ (z : Int32) (τ' : ST), q_let (q_si τ2 (q_rf X a 20) (3726 : Int32).toNatClampNeg u : ST) (fun σ_57 => q_let (F_X12_copy X σ_57 a (4 : Int32) (0 : Int32) : ST) (fun σ_61 => q_let (σ_61.1 (q_rf X a 20) (2 : Int32).toNatClampNeg : Int32) (fun f_62 => (f_62, σ_61)))) = (z, τ') ∧ z.toInt = m_c X τ a 3722 ∧ (τ'.1 a 10).toInt = 0 ∧ (τ'.1 a 11).toInt = -1 ∧ tkl (fun b f => b = q_rf X a 20 ∨ b = a ∧ (f = 10 ∨ f = 11)) (fun b _ => b = q_rf X a 23) τ τ' ∧
      (∀ j : Int, 0 ≤ j → m_c X τ' a j = if j < 930 then m_fin (m_c X τ a) (3720 + j) else m_fin (m_c X τ a) j) ∧ ∀ j : Int, 0 ≤ j → m_wd X τ' a j = if j < 6 then m_wd X τ a (24 + j) else m_wd X τ a j := by
    intro u hu
    have c3 : m_c X (q_si τ2 (q_rf X a 20) (3726 : Int32).toNatClampNeg u) a = m_fin (m_c X τ a) := by
      rw [m_c_up 3726 (by decide) rfl, c2, hu]
      rfl
    have t3 : tkl (fun b _ => b = q_rf X a 20) (fun _ _ => False) τ1 (q_si τ2 (q_rf X a 20) (3726 : Int32).toNatClampNeg u) := t2.si _ rfl
    rw [q_letE (q_si τ2 (q_rf X a 20) (3726 : Int32).toNatClampNeg u)]
    obtain ⟨τ3, h3⟩ : ∃ s, s = q_si τ2 (q_rf X a 20) (3726 : Int32).toNatClampNeg u := ⟨_, rfl⟩
    rw [← h3] at c3 t3 ⊢
    obtain ⟨t4, c4, w4⟩ := tm_copy (X := X) (τ := τ3) (v1 := 4) (v2 := 0) hT ha e4 z0 ⟨by decide, by decide⟩ ⟨by decide, by decide⟩ (by decide)
    rw [q_letE (F_X12_copy X τ3 a 4 0)]
    obtain ⟨τ4, h4⟩ : ∃ s, s = F_X12_copy X τ3 a 4 0 := ⟨_, rfl⟩
    rw [← h4] at t4 c4 w4 ⊢
    rw [q_letE]
    have w3 : ∀ j : Int, m_wd X τ3 a j = m_wd X τ a j := fun j => (congrArg Int64.toInt (t3.2.1 _ _ (fun q => q))).trans (w1 j)
    have cc : ∀ j : Int, 0 ≤ j → m_c X τ4 a j = if j < 930 then m_fin (m_c X τ a) (3720 + j) else m_fin (m_c X τ a) j := fun j j0 => by
      rw [c4 j j0, c3]
      by_cases q : j < 930
      · rw [if_pos q, if_pos ⟨by omega, by omega⟩]
        congr 1
        omega
      · rw [if_neg q, if_neg (by omega)]
    refine ⟨_, τ4, rfl, ?_, ?_, ?_, ?_, cc, fun j j0 => ?_⟩
    · have z := m_rd (X := X) (σ := τ4) (a := a) (i := 2) (A := 2) rfl rfl
      rw [cc 2 (by decide), if_pos (by decide)] at z
      refine z.trans ?_
      show m_fin (m_c X τ a) 3722 = _
      unfold m_fin
      rw [m_up_ne (by decide), m_up_ne (by decide)]
    · rw [t4.1 a 10 n20, t3.1 a 10 n20]; exact d10
    · rw [t4.1 a 11 n20, t3.1 a 11 n20]; exact d11
    · exact ((t1.mono (fun _ _ h => Or.inr h) (fun _ _ h => h.elim)).tr (t3.mono (fun _ _ h => Or.inl h) (fun _ _ h => h.elim))).tr (t4.mono (fun _ _ h => Or.inl h) (fun _ _ h => h))
    · rw [w4 j j0, w3, w3]
      by_cases q : j < 6
      · rw [if_pos q, if_pos ⟨by omega, by omega⟩]
        congr 1
        omega
      · rw [if_neg q, if_neg (by omega)]
  by_cases q : m_c X τ a 3722 = 0
  · rw [if_pos q]
    exact fin (-1) (by rw [if_pos q]; exact m1)
  · rw [if_neg q]
    exact fin 0 (by rw [if_neg q]; exact z0)
end YB
end
/-! FROM 48u.table.lean.txt -/
section
/-! TABLE: both answer the same -/
def tb_Cls (X : XW) (lb : Nat → Nat) (C a : Nat) : Prop := q_kd X C = 11 ∧ q_kd X a = 12 ∧ y_S X lb ∧ tb_D X lb (q_rf X C 12) (q_rf X C 4) (q_rf X (q_rf X C 12) 8) ∧ y_G X lb (q_rf X C 8) 1 ∧ q_ln X (q_rf X C 4) = 900 ∧ q_ln X (q_rf X a 7) = 900 ∧ lb C / 8192 = 0
/-- what a table leaves: a refusal, a fault, a game -/
def tb_Out (X : XW) (C a : Nat) (σ τ : ST) (v : Int32) (m : Int) (z : Int32) (σ' τ' : ST) : Prop :=
  ((v.toInt < 0 ∨ m < v.toInt) ∧ tk (fun b f => b = C ∧ f = 0) σ σ' ∧ tkl (fun b f => b = a ∧ (f = 0 ∨ f = 1)) (fun _ _ => False) τ τ') ∨
  ((0 ≤ v.toInt ∧ v.toInt ≤ m) ∧ (σ'.1 C 5).toInt = 0 ∧ (τ'.1 a 8).toInt = 0 ∧ (σ'.1 C 6).toInt = (τ'.1 a 10).toInt ∧ (σ'.1 C 7).toInt = (τ'.1 a 11).toInt ∧
    ((z.toInt = -1 ∧ y_v X (q_rf X C 8) σ' = y_v X (q_rf X C 8) σ ∧ (∀ j : Int, 0 ≤ j → j < 3720 → m_c X τ' a j = m_c X τ a j) ∧ ∀ j : Int, 0 ≤ j → j < 24 → m_wd X τ' a j = m_wd X τ a j) ∨
     ((σ'.1 C 6).toInt = 0 ∧ ∃ (V : Nat → Int → Int) (r c w t : Int → Int), tb_R V r c w t ∧ (∀ j : Int, 0 ≤ j → j < 3720 → c j = m_c X τ a j) ∧ (∀ j : Int, 0 ≤ j → j < 24 → w j = m_wd X τ a j) ∧ z.toInt = c 3722 ∧ (∀ id i, y_in y_all id i → y_v X (q_rf X C 8) σ' id i = V id i) ∧
       (∀ j : Int, 0 ≤ j → m_c X τ' a j = if j < 930 then m_fin c (3720 + j) else m_fin c j) ∧ ∀ j : Int, 0 ≤ j → m_wd X τ' a j = if j < 6 then w (24 + j) else w j)))
section TN
variable {X : XW} {lb : Nat → Nat} {C a : Nat} {σ τ : ST} {m : Int} {B : Int → Int}
theorem tb_table (Cl : tb_Cls X lb C a) (h5 : (σ.1 C 5).toInt = m) (h8 : (τ.1 a 8).toInt = m) (hm : 0 ≤ m ∧ m ≤ 900) (hB : ∀ p : Int, 0 ≤ p → p < m → (σ.1 (q_rf X C 4) p.toNat).toInt = B p ∧ -128 ≤ B p ∧ B p ≤ 127) (hB2 : ∀ p : Int, 0 ≤ p → p < m → (τ.1 (q_rf X a 7) p.toNat).toInt = B p) (v : Int32) :
    ∃ (z : Int32) (σ' : ST) (z' : Int32) (τ' : ST), F_X11_table X σ C v = (z, σ') ∧ F_X12_table X τ a v = (z', τ') ∧ z.toInt = z'.toInt ∧ (σ'.1 C 0).toInt = (τ'.1 a 0).toInt ∧ tb_Out X C a σ τ v m z σ' τ' := by
  obtain ⟨kC, ka, Y, H, G1, hTl, hUl, hlC⟩ := Cl
  have z0 : (0 : Int32).toInt = 0 := rfl
  have m1 : ((-1) : Int32).toInt = -1 := rfl
  have e900 : (900 : Int32).toInt = 900 := rfl
  have ku : q_kd X (q_rf X a 7) = 33 := (tb_k Y.1 ka).2.2.2
  have nU : q_rf X a 7 ≠ a := m_ne ku ka (by decide)
  obtain ⟨D, hD⟩ : ∃ D, D = q_rf X C 12 := ⟨_, rfl⟩
  obtain ⟨T, hT⟩ : ∃ T, T = q_rf X C 4 := ⟨_, rfl⟩
  obtain ⟨g, hg⟩ : ∃ g, g = q_rf X D 8 := ⟨_, rfl⟩
  obtain ⟨g1, hg1⟩ : ∃ g, g = q_rf X C 8 := ⟨_, rfl⟩
  rw [← hD, ← hT, ← hg] at H
  rw [← hT] at hTl hB
  rw [← hg1] at G1
  have kD : q_kd X D = 9 := H.1
  have kT : q_kd X T = 22 := H.2.2.2.2.2.2.2.2
  have nTD : T ≠ D := m_ne kT kD (by decide)
  have nCD : C ≠ D := m_ne kC kD (by decide)
  have nCA : C ≠ tb_T X D := m_ne kC H.2.2.2.2.2.2.1 (by decide)
  have hC6 : lb C / 8192 ≠ 6 := by omega
  have hC1 : lb C / 8192 ≠ 1 := by omega
  have hD1 : lb D / 8192 ≠ 1 := by have := H.2.2.2.1; omega
  -- the reference begins
  have t2 : tkl (fun b f => b = a ∧ (f = 0 ∨ f = 1)) (fun _ _ => False) τ (q_si (q_si τ a 1 0) a 0 0) := (tkl.rf.si _ ⟨rfl, Or.inr rfl⟩).si _ ⟨rfl, Or.inl rfl⟩
  have d8 : ((q_si (q_si τ a 1 0) a 0 0).1 a 8).toInt = m := by rw [si_f (by decide), si_f (by decide)]; exact h8
  have d0 : (q_si (q_si τ a 1 0) a 0 0).1 a 0 = 0 := si_eq _ _ _ _
  unfold F_X11_table F_X12_table F_X12_opens F_X12_no F_X11_none F_X11_good
  rw [q_letE (q_si τ a 1 0), q_letE (q_si (q_si τ a 1 0) a 0 0)]
  obtain ⟨τ2, e2⟩ : ∃ s, s = q_si (q_si τ a 1 0) a 0 0 := ⟨_, rfl⟩
  rw [← e2] at t2 d8 d0 ⊢
  have no5 : tkl (fun b f => b = a ∧ (f = 0 ∨ f = 1)) (fun _ _ => False) τ (q_si τ2 a 0 5) := t2.si _ ⟨rfl, Or.inl rfl⟩
  have st5 : ((q_si σ C 0 5).1 C 0).toInt = ((q_si τ2 a 0 5).1 a 0).toInt := by rw [si_eq, si_eq]
  have tc5 : tk (fun b f => b = C ∧ f = 0) σ (q_si σ C 0 5) := tk.rf.si _ ⟨rfl, rfl⟩
  by_cases q1 : v.toInt < 0
  · rw [if_pos q1, if_pos q1, q_letE, q_biP, q_letE, q_biP, q_biP, if_pos (by decide : (0 : Int32).toInt = 0)]
    exact ⟨-1, _, -1, _, rfl, rfl, rfl, st5, Or.inl ⟨Or.inl q1, tc5, no5⟩⟩
  · rw [if_neg q1, if_neg q1, q_letE (σ.1 C 5), h5, q_letE (τ2.1 a 8), d8]
    by_cases q2 : m < v.toInt
    · rw [if_pos q2, if_pos q2, q_letE, q_biP, q_letE, q_biP, q_biP, if_pos (by decide : (0 : Int32).toInt = 0)]
      exact ⟨-1, _, -1, _, rfl, rfl, rfl, st5, Or.inl ⟨Or.inr q2, tc5, no5⟩⟩
    · rw [if_neg q2, if_neg q2, e900, if_neg (by omega : ¬ (900 : Int) < v.toInt)]
      rw [q_letE (q_si τ2 a 9 v), q_letE (q_si (q_si τ2 a 9 v) a 8 0), q_letE (q_si (q_si (q_si τ2 a 9 v) a 8 0) a 16 0), q_letE (q_si (q_si (q_si (q_si τ2 a 9 v) a 8 0) a 16 0) a 12 0)]
      have t3 : tkl (fun b f => b = a ∧ (f = 9 ∨ f = 8 ∨ f = 16 ∨ f = 12)) (fun _ _ => False) τ2 (q_si (q_si (q_si (q_si τ2 a 9 v) a 8 0) a 16 0) a 12 0) := (((tkl.rf.si _ ⟨rfl, Or.inl rfl⟩).si _ ⟨rfl, Or.inr (Or.inl rfl)⟩).si _ ⟨rfl, Or.inr (Or.inr (Or.inl rfl))⟩).si _ ⟨rfl, Or.inr (Or.inr (Or.inr rfl))⟩
      have c9 : (q_si (q_si (q_si (q_si τ2 a 9 v) a 8 0) a 16 0) a 12 0).1 a 9 = v := by rw [si_f (by decide), si_f (by decide), si_f (by decide), si_eq]
      have c8 : (q_si (q_si (q_si (q_si τ2 a 9 v) a 8 0) a 16 0) a 12 0).1 a 8 = 0 := by rw [si_f (by decide), si_f (by decide), si_eq]
      have c16 : (q_si (q_si (q_si (q_si τ2 a 9 v) a 8 0) a 16 0) a 12 0).1 a 16 = 0 := by rw [si_f (by decide), si_eq]
      have c12 : (q_si (q_si (q_si (q_si τ2 a 9 v) a 8 0) a 16 0) a 12 0).1 a 12 = 0 := si_eq _ _ _ _
      obtain ⟨τ3, e3⟩ : ∃ s, s = q_si (q_si (q_si (q_si τ2 a 9 v) a 8 0) a 16 0) a 12 0 := ⟨_, rfl⟩
      rw [← e3] at t3 c9 c8 c16 c12 ⊢
      have c0 : τ3.1 a 0 = 0 := by rw [t3.1 a 0 (fun q => absurd q.2 (by decide)), d0]
      have M0 : tm_E X τ3 a v.toInt B := ⟨by rw [c9], ⟨by omega, by omega⟩, nU, fun p p0 p1 => by
        rw [t3.1 _ _ (fun q => nU q.1), t2.1 _ _ (fun q => nU q.1)]
        exact ⟨hB2 p p0 (by omega), (hB p p0 (by omega)).2⟩⟩
      obtain ⟨z, σ8, τ8, f1, f2, Gf, Pf, out⟩ := tb_takes Y H ka hTl nTD (v := v) rfl ⟨by omega, by omega⟩ (fun p p0 p1 => hB p p0 (by omega)) M0 (by rw [c16]; rfl) (by rw [c12]; rfl) (by rw [c0]; rfl) (by rw [c8]; rfl)
      rw [q_letE (F_X12_next X τ3 a), q_biP (1 : Int32) (F_X12_next X τ3 a), if_neg (by decide : ¬ (1 : Int32).toInt = 0), f2, ← hD, ← hT, ← hg1, f1, q_biP z σ8]
      have C8 : ∀ f, σ8.1 C f = σ.1 C f := Gf.1 C hC6 nCD nCA
      -- the class ends its reading
      unfold F_X11_endReading
      rw [q_letE (q_si σ8 C 5 0), q_letE ((q_si σ8 C 5 0).1 D 6), q_letE (q_si (q_si σ8 C 5 0) C 6 ((q_si σ8 C 5 0).1 D 6)), q_letE ((q_si (q_si σ8 C 5 0) C 6 ((q_si σ8 C 5 0).1 D 6)).1 D 7), q_letE (q_si (q_si (q_si σ8 C 5 0) C 6 ((q_si σ8 C 5 0).1 D 6)) C 7 ((q_si (q_si σ8 C 5 0) C 6 ((q_si σ8 C 5 0).1 D 6)).1 D 7))]
      have t9 : tk (fun b f => b = C ∧ (f = 5 ∨ f = 6 ∨ f = 7)) σ8 (q_si (q_si (q_si σ8 C 5 0) C 6 ((q_si σ8 C 5 0).1 D 6)) C 7 ((q_si (q_si σ8 C 5 0) C 6 ((q_si σ8 C 5 0).1 D 6)).1 D 7)) := ((tk.rf.si _ ⟨rfl, Or.inl rfl⟩).si _ ⟨rfl, Or.inr (Or.inl rfl)⟩).si _ ⟨rfl, Or.inr (Or.inr rfl)⟩
      have g5 : (q_si (q_si (q_si σ8 C 5 0) C 6 ((q_si σ8 C 5 0).1 D 6)) C 7 ((q_si (q_si σ8 C 5 0) C 6 ((q_si σ8 C 5 0).1 D 6)).1 D 7)).1 C 5 = 0 := by rw [si_f (by decide), si_f (by decide), si_eq]
      have g6 : (q_si (q_si (q_si σ8 C 5 0) C 6 ((q_si σ8 C 5 0).1 D 6)) C 7 ((q_si (q_si σ8 C 5 0) C 6 ((q_si σ8 C 5 0).1 D 6)).1 D 7)).1 C 6 = σ8.1 D 6 := by rw [si_f (by decide), si_eq, q_si_ne (Ne.symm nCD)]
      have g7 : (q_si (q_si (q_si σ8 C 5 0) C 6 ((q_si σ8 C 5 0).1 D 6)) C 7 ((q_si (q_si σ8 C 5 0) C 6 ((q_si σ8 C 5 0).1 D 6)).1 D 7)).1 C 7 = σ8.1 D 7 := by rw [si_eq, q_si_ne (Ne.symm nCD), q_si_ne (Ne.symm nCD)]
      obtain ⟨σ9, e9⟩ : ∃ s, s = q_si (q_si (q_si σ8 C 5 0) C 6 ((q_si σ8 C 5 0).1 D 6)) C 7 ((q_si (q_si σ8 C 5 0) C 6 ((q_si σ8 C 5 0).1 D 6)).1 D 7) := ⟨_, rfl⟩
      rw [← e9] at t9 g5 g6 g7 ⊢
      rw [q_letE σ9]
      have vw : ∀ (h o : Nat), y_G X lb h o → o ≠ 0 → ∀ id, id < 25 → ∀ f, σ9.1 (y_gA X h id) f = σ8.1 (y_gA X h id) f := fun h o G ho id hid f => t9.1 _ _ (fun q => by
        have := y_own Y G hid
        rw [q.1] at this
        omega)
      rcases out with ⟨o1, V, r, c, w, t, f9, f10, I⟩ | ⟨o1, o2⟩
      · obtain ⟨S, M, K, h0, Rr⟩ := I
        obtain ⟨zz, τ9, x1, x2, x3, x4, x5, x6, x7⟩ := tm_end1 (X := X) Y.1 ka h0
        rw [x1, if_neg (by omega : ¬ z.toInt = 0), ← hg]
        have cp : y_C X lb g1 1 g σ9 (F_X0_copyFrom X σ9 g1 g) y_all := tb_copy Y G1 H.2.2.1 (by decide)
        rw [q_letE (F_X0_copyFrom X σ9 g1 g)]
        obtain ⟨σ10, e10⟩ : ∃ s, s = F_X0_copyFrom X σ9 g1 g := ⟨_, rfl⟩
        rw [← e10] at cp ⊢
        obtain ⟨V1, W, hV⟩ := cp
        have vg : y_v X g σ9 = V := by
          rw [← S.2.1]
          funext id i
          unfold y_v
          by_cases q : id < 25 ∧ 0 ≤ i
          · rw [if_pos q, if_pos q, vw g 6 H.2.2.1 (by decide) id q.1]
          · rw [if_neg q, if_neg q]
        have p4 : (σ10.1 (q_rf X g1 0) 4).toInt = c 3722 := by
          have z1 := y_v_rdn (X := X) (g := g1) (σ := σ10) (id := 1) (by decide) 4
          rw [W.2.2] at z1
          refine z1.trans ?_
          have z2 := hV 1 ((4 : Nat) : Int) ⟨(1, 4), by decide, rfl, Or.inr ⟨by decide, rfl⟩⟩
          rw [z2, vg]
          exact Rr.b.2.2.1
        have C10 : ∀ f, σ10.1 C f = σ9.1 C f := W.1 C hC1
        have nCg : ∀ id, id < 25 → C ≠ y_gA X g1 id := fun id hid => y_gA_ne Y G1 hid hC1
        rw [q_letE (σ10.1 (q_rf X g1 0) 4), q_letE (q_si σ10 C 0 0), q_biP]
        have c5 : (q_si σ10 C 0 0).1 C 5 = 0 := by rw [si_f (by decide), C10, g5]
        have c6 : (q_si σ10 C 0 0).1 C 6 = σ8.1 D 6 := by rw [si_f (by decide), C10, g6]
        have c7 : (q_si σ10 C 0 0).1 C 7 = σ8.1 D 7 := by rw [si_f (by decide), C10, g7]
        have k67 := K.2.2.2.2.2.2.2.2
        have n20 : a ≠ q_rf X a 20 := Ne.symm (m_ne (tb_k Y.1 ka).1 ka (by decide))
        have a08 : ∀ f, f ≠ 10 → f ≠ 11 → τ9.1 a f = τ8.1 a f := fun f q1 q2 => x5.1 a f (fun q => by
          rcases q with q | q
          · exact n20 q
          · omega)
        have cc : ∀ j : Int, 0 ≤ j → j < 3720 → c j = m_c X τ a j := fun j a1 a2 => by
          rw [← M.2.1, Pf.1 j a1 a2]
          exact congrArg Int32.toInt ((t3.1 _ _ (fun q => n20 q.1.symm)).trans (t2.1 _ _ (fun q => n20 q.1.symm)))
        have ww : ∀ j : Int, 0 ≤ j → j < 24 → w j = m_wd X τ a j := fun j a1 a2 => by
          rw [← M.2.2.1, Pf.2.1 j a1 a2]
          exact congrArg Int64.toInt ((t3.2.1 _ _ (fun q => q)).trans (t2.2.1 _ _ (fun q => q)))
        rw [M.2.1] at x2 x6
        rw [M.2.2.1] at x7
        refine ⟨_, _, zz, τ9, rfl, rfl, p4.trans x2.symm, ?_, Or.inr ⟨⟨by omega, by omega⟩, by rw [c5]; rfl, ?_, ?_, ?_, Or.inr ⟨?_, V, r, c, w, t, Rr, cc, ww, p4, fun id i hi => ?_, x6, x7⟩⟩⟩
        · rw [si_eq, a08 0 (by decide) (by decide), M.2.2.2.2.2.2.1]
          rfl
        · rw [a08 8 (by decide) (by decide)]
          exact M.2.2.2.2.2.2.2
        · rw [c6, x3]
          exact k67.1
        · rw [c7, x4]
          exact k67.2
        · rw [c6]
          exact k67.1
        · have z1 := hV id i hi
          rw [vg] at z1
          rw [← hg1, ← z1, ← W.2.2]
          unfold y_v
          by_cases q : id < 25 ∧ 0 ≤ i
          · rw [if_pos q, if_pos q, q_si_ne (Ne.symm (nCg id q.1))]
          · rw [if_neg q, if_neg q]
      · obtain ⟨τ9, x1, x2, x3, x4, x5⟩ := tm_end0 (X := X) o2.2.1
        rw [x1, if_pos o1, q_letE, q_biP]
        have n20 : a ≠ q_rf X a 20 := Ne.symm (m_ne (tb_k Y.1 ka).1 ka (by decide))
        refine ⟨_, _, _, τ9, rfl, rfl, rfl, ?_, Or.inr ⟨⟨by omega, by omega⟩, ?_, ?_, ?_, ?_, Or.inl ⟨rfl, ?_, fun j a1 a2 => ?_, fun j a1 a2 => ?_⟩⟩⟩
        · rw [si_eq, x4]
          rfl
        · rw [si_f (by decide), g5]
          rfl
        · rw [x5.1 a 8 (fun q => absurd q.2 (by decide)), Pf.2.2.2, c8]
          rfl
        · rw [si_f (by decide), g6, x2]
          exact o2.1
        · rw [si_f (by decide), g7, x3]
          exact o2.2.2
        · funext id i
          unfold y_v
          by_cases q : id < 25 ∧ 0 ≤ i
          · have own := y_own Y G1 q.1
            rw [if_pos q, if_pos q, ← hg1, q_si_ne (fun z => by rw [z] at own; omega), vw g1 1 G1 (by decide) id q.1, Gf.1 _ (by omega) (fun z => by rw [z] at own; omega) (fun z => by
              rw [z] at own
              have := H.2.2.2.2.2.1
              omega)]
          · rw [if_neg q, if_neg q]
        · have y1 : m_c X τ9 a j = m_c X τ8 a j := congrArg Int32.toInt (x5.1 _ _ (fun q => n20 q.1.symm))
          rw [y1, Pf.1 j a1 a2]
          exact congrArg Int32.toInt ((t3.1 _ _ (fun q => n20 q.1.symm)).trans (t2.1 _ _ (fun q => n20 q.1.symm)))
        · have y1 : m_wd X τ9 a j = m_wd X τ8 a j := congrArg Int64.toInt (x5.2.1 _ _ (fun q => q))
          rw [y1, Pf.2.1 j a1 a2]
          exact congrArg Int64.toInt ((t3.2.1 _ _ (fun q => q)).trans (t2.2.1 _ _ (fun q => q)))
end TN
end
/-! FROM 48v.feed.lean.txt -/
section
/-! FEED: both tapes take the same bytes -/
def tp_R (X : XW) (C a : Nat) (σ τ : ST) (m : Int) : Prop := (σ.1 C 5).toInt = m ∧ (τ.1 a 8).toInt = m ∧ ∀ p : Int, 0 ≤ p → p < m → σ.1 (q_rf X C 4) p.toNat = τ.1 (q_rf X a 7) p.toNat ∧ -128 ≤ (σ.1 (q_rf X C 4) p.toNat).toInt ∧ (σ.1 (q_rf X C 4) p.toNat).toInt ≤ 127
theorem tp_byte (x : Int32) : -128 ≤ (x.toInt8.toInt32).toInt ∧ (x.toInt8.toInt32).toInt ≤ 127 := by
  have h1 := Int8.le_toInt x.toInt8
  have h2 := Int8.toInt_lt x.toInt8
  rw [Int8.toInt_toInt32]
  omega
section TO
variable {X : XW} {C a : Nat} {σ τ : ST} {m : Int}
theorem tp_step (nC : q_rf X C 4 ≠ C) (na : q_rf X a 7 ≠ a) (R : tp_R X C a σ τ m) (hm : 0 ≤ m ∧ m < 900) {y : Int32} (hy : -128 ≤ y.toInt ∧ y.toInt ≤ 127) :
    tp_R X C a (q_si (q_si σ (q_rf X C 4) (σ.1 C 5).toNatClampNeg y) C 5 ((q_si σ (q_rf X C 4) (σ.1 C 5).toNatClampNeg y).1 C 5 + 1)) (q_si (q_si τ (q_rf X a 7) (τ.1 a 8).toNatClampNeg y) a 8 ((q_si τ (q_rf X a 7) (τ.1 a 8).toNatClampNeg y).1 a 8 + 1)) (m + 1) := by
  obtain ⟨R1, R2, R3⟩ := R
  refine ⟨?_, ?_, fun p p0 p1 => ?_⟩
  · rw [si_eq, q_si_ne (Ne.symm nC), y_inc (by rw [R1]; omega), R1]
  · rw [si_eq, q_si_ne (Ne.symm na), y_inc (by rw [R2]; omega), R2]
  · rw [q_si_ne nC, q_si_ne na]
    show (if q_rf X C 4 = q_rf X C 4 ∧ p.toNat = (σ.1 C 5).toNatClampNeg then y else σ.1 (q_rf X C 4) p.toNat) = (if q_rf X a 7 = q_rf X a 7 ∧ p.toNat = (τ.1 a 8).toNatClampNeg then y else τ.1 (q_rf X a 7) p.toNat) ∧ -128 ≤ (if q_rf X C 4 = q_rf X C 4 ∧ p.toNat = (σ.1 C 5).toNatClampNeg then y else σ.1 (q_rf X C 4) p.toNat).toInt ∧ (if q_rf X C 4 = q_rf X C 4 ∧ p.toNat = (σ.1 C 5).toNatClampNeg then y else σ.1 (q_rf X C 4) p.toNat).toInt ≤ 127
    rw [ar_cl, ar_cl, R1, R2]
    by_cases q : p = m
    · rw [if_pos ⟨rfl, by rw [q]⟩, if_pos ⟨rfl, by rw [q]⟩]
      exact ⟨rfl, hy⟩
    · have nq : ¬ p.toNat = m.toNat := by omega
      rw [if_neg (fun z => nq z.2), if_neg (fun z => nq z.2)]
      exact R3 p p0 (by omega)
/-- one byte of an int -/
theorem tp_it (nC : q_rf X C 4 ≠ C) (na : q_rf X a 7 ≠ a) (R : tp_R X C a σ τ m) (hm : 0 ≤ m ∧ m < 900) (v : Int32) {x x' y y' : Int32} (hx : 0 ≤ x.toInt) (hy : 0 ≤ y.toInt) (ex : x + (-8) = x') (ey : y + (-1) = y') (exy : x = (8 : Int32) * y) (k j : Nat) :
    ∃ σ' τ' : ST, F_X11_tapeInt_L3_1 X C v (k + 1) x σ = F_X11_tapeInt_L3_1 X C v k x' σ' ∧ F_X12_lays_L2_1 X a v (j + 1) y τ = F_X12_lays_L2_1 X a v j y' τ' ∧ tp_R X C a σ' τ' (m + 1) := by
  obtain ⟨R1, R2, R3⟩ := id R
  have st := tp_step nC na R hm (tp_byte (v >>> (((8 : Int32) * y) &&& 31)).toInt8.toInt32)
  rw [F_X11_tapeInt_L3_1_s, F_X12_lays_L2_1_s]
  unfold F_X11_tapeInt_B3_1 F_X12_lays_B2_1
  rw [if_neg (by omega : ¬ x.toInt < 0), q_letE, R1, if_neg (by omega : ¬ m < 0), q_letE, R1, if_pos hm.2, if_neg (by omega : ¬ y.toInt < 0)]
  rw [q_letE (σ.1 C 5), q_letE (v >>> (x &&& 31)), q_letE ((v >>> (x &&& 31)).toInt8.toInt32), q_letE, q_letE, q_letE, q_letE, q_letE]
  rw [q_letE (τ.1 a 8), q_letE ((8 : Int32) * y), q_letE (v >>> (((8 : Int32) * y) &&& 31)), q_letE ((v >>> (((8 : Int32) * y) &&& 31)).toInt8.toInt32), q_letE, q_letE, q_letE, q_letE, q_letE]
  rw [ex, ey, exy]
  exact ⟨_, _, rfl, rfl, st⟩
theorem tp_int (nC : q_rf X C 4 ≠ C) (na : q_rf X a 7 ≠ a) (R : tp_R X C a σ τ m) (hm : 0 ≤ m ∧ m + 4 ≤ 900) (v : Int32) : tp_R X C a (F_X11_tapeInt X σ C v) (F_X12_lays X τ a v) (m + 4) := by
  unfold F_X11_tapeInt F_X12_lays
  have e24 : (24 : Int32).toInt = 24 := rfl
  have e3 : (3 : Int32).toInt = 3 := rfl
  obtain ⟨k, hk⟩ : ∃ k, ((24 : Int32).toInt + 2147483656).toNat + 1 = k + 1 + 1 + 1 + 1 + 1 := ⟨((24 : Int32).toInt + 2147483656).toNat - 4, by rw [e24]; omega⟩
  obtain ⟨j, hj⟩ : ∃ j, ((3 : Int32).toInt + 2147483656).toNat + 1 = j + 1 + 1 + 1 + 1 + 1 := ⟨((3 : Int32).toInt + 2147483656).toNat - 4, by rw [e3]; omega⟩
  rw [hk, hj]
  obtain ⟨σ1, τ1, a1, b1, R1⟩ := tp_it nC na R ⟨hm.1, by omega⟩ v (x := 24) (x' := 16) (y := 3) (y' := 2) (by decide) (by decide) (by decide) (by decide) (by decide) (k + 1 + 1 + 1 + 1) (j + 1 + 1 + 1 + 1)
  obtain ⟨σ2, τ2, a2, b2, R2⟩ := tp_it nC na R1 ⟨by omega, by omega⟩ v (x := 16) (x' := 8) (y := 2) (y' := 1) (by decide) (by decide) (by decide) (by decide) (by decide) (k + 1 + 1 + 1) (j + 1 + 1 + 1)
  obtain ⟨σ3, τ3, a3, b3, R3⟩ := tp_it nC na R2 ⟨by omega, by omega⟩ v (x := 8) (x' := 0) (y := 1) (y' := 0) (by decide) (by decide) (by decide) (by decide) (by decide) (k + 1 + 1) (j + 1 + 1)
  obtain ⟨σ4, τ4, a4, b4, R4⟩ := tp_it nC na R3 ⟨by omega, by omega⟩ v (x := 0) (x' := -8) (y := 0) (y' := -1) (by decide) (by decide) (by decide) (by decide) (by decide) (k + 1) (j + 1)
  rw [a1, a2, a3, a4, b1, b2, b3, b4, F_X11_tapeInt_L3_1_s, F_X12_lays_L2_1_s]
  unfold F_X11_tapeInt_B3_1 F_X12_lays_B2_1
  rw [if_pos (by decide : ((-8) : Int32).toInt < 0), if_pos (by decide : ((-1) : Int32).toInt < 0)]
  have em : m + 1 + 1 + 1 + 1 = m + 4 := by omega
  rw [em] at R4
  exact R4
theorem tp_feed (nC : q_rf X C 4 ≠ C) (na : q_rf X a 7 ≠ a) (R : tp_R X C a σ τ m) (hm : 0 ≤ m ∧ m ≤ 900) (v1 v2 v3 v4 v5 : Int32) : (F_X11_feed X σ C v1 v2 v3 v4 v5).1 = (F_X12_feed X τ a v1 v2 v3 v4 v5).1 ∧ ∃ m' : Int, 0 ≤ m' ∧ m' ≤ 900 ∧ tp_R X C a (F_X11_feed X σ C v1 v2 v3 v4 v5).2 (F_X12_feed X τ a v1 v2 v3 v4 v5).2 m' := by
  have e20 : (20 : Int32).toInt = 20 := rfl
  have R0 : tp_R X C a σ (q_si τ a 1 0) m := by
    obtain ⟨R1, R2, R3⟩ := R
    exact ⟨R1, by rw [si_f (by decide)]; exact R2, fun p p0 p1 => by rw [q_si_ne na]; exact R3 p p0 p1⟩
  unfold F_X11_feed F_X12_feed
  rw [q_letE (q_si τ a 1 0)]
  obtain ⟨τ0, h0⟩ : ∃ s, s = q_si τ a 1 0 := ⟨_, rfl⟩
  rw [← h0] at R0 ⊢
  have z1 : (σ.1 C 5 + 20).toInt = m + 20 := by rw [ar_add, R0.1, e20, ar_wr (by omega) (by omega)]
  have z2 : (τ0.1 a 8 + 20).toInt = m + 20 := by rw [ar_add, R0.2.1, e20, ar_wr (by omega) (by omega)]
  rw [q_letE (σ.1 C 5), q_letE (σ.1 C 5 + 20), q_letE (τ0.1 a 8), q_letE (τ0.1 a 8 + 20), z1, z2]
  by_cases q : 900 < m + 20
  · rw [if_pos q, if_pos q]
    exact ⟨rfl, m, hm.1, hm.2, R0⟩
  · rw [if_neg q, if_neg q]
    have S1 := tp_int nC na R0 ⟨hm.1, by omega⟩ v1
    rw [q_letE (F_X11_tapeInt X σ C v1), q_letE (F_X12_lays X τ0 a v1)]
    obtain ⟨σ1, g1⟩ : ∃ s, s = F_X11_tapeInt X σ C v1 := ⟨_, rfl⟩
    obtain ⟨τ1, h1⟩ : ∃ s, s = F_X12_lays X τ0 a v1 := ⟨_, rfl⟩
    rw [← g1, ← h1] at S1 ⊢
    have S2 := tp_int nC na S1 ⟨by omega, by omega⟩ v2
    rw [q_letE (F_X11_tapeInt X σ1 C v2), q_letE (F_X12_lays X τ1 a v2)]
    obtain ⟨σ2, g2⟩ : ∃ s, s = F_X11_tapeInt X σ1 C v2 := ⟨_, rfl⟩
    obtain ⟨τ2, h2⟩ : ∃ s, s = F_X12_lays X τ1 a v2 := ⟨_, rfl⟩
    rw [← g2, ← h2] at S2 ⊢
    have S3 := tp_int nC na S2 ⟨by omega, by omega⟩ v3
    rw [q_letE (F_X11_tapeInt X σ2 C v3), q_letE (F_X12_lays X τ2 a v3)]
    obtain ⟨σ3, g3⟩ : ∃ s, s = F_X11_tapeInt X σ2 C v3 := ⟨_, rfl⟩
    obtain ⟨τ3, h3⟩ : ∃ s, s = F_X12_lays X τ2 a v3 := ⟨_, rfl⟩
    rw [← g3, ← h3] at S3 ⊢
    have S4 := tp_int nC na S3 ⟨by omega, by omega⟩ v4
    rw [q_letE (F_X11_tapeInt X σ3 C v4), q_letE (F_X12_lays X τ3 a v4)]
    obtain ⟨σ4, g4⟩ : ∃ s, s = F_X11_tapeInt X σ3 C v4 := ⟨_, rfl⟩
    obtain ⟨τ4, h4⟩ : ∃ s, s = F_X12_lays X τ3 a v4 := ⟨_, rfl⟩
    rw [← g4, ← h4] at S4 ⊢
    have S5 := tp_int nC na S4 ⟨by omega, by omega⟩ v5
    rw [q_letE (F_X11_tapeInt X σ4 C v5), q_letE (F_X12_lays X τ4 a v5)]
    obtain ⟨σ5, g5⟩ : ∃ s, s = F_X11_tapeInt X σ4 C v5 := ⟨_, rfl⟩
    obtain ⟨τ5, h5⟩ : ∃ s, s = F_X12_lays X τ4 a v5 := ⟨_, rfl⟩
    rw [← g5, ← h5] at S5 ⊢
    rw [q_letE (σ5.1 C 5), q_letE (τ5.1 a 8)]
    exact ⟨Int32.toInt_inj.mp (S5.1.trans S5.2.1.symm), m + 4 + 4 + 4 + 4 + 4, by omega, by omega, S5⟩
end TO
end
/-! FROM 48w.forest.lean.txt -/
section
/-! THE WORLD IS A FOREST: labels -/
def y_root (X : XW) (c : Nat) : Prop := ∀ a f, q_rk (q_kd X a) f ≠ 0 → q_rf X a f ≠ c
def y_Fo (X : XW) : Prop := (∀ a f, q_rk (q_kd X a) f ≠ 0 → a < q_rf X a f) ∧ (∀ a f b g, q_rk (q_kd X a) f ≠ 0 → q_rk (q_kd X b) g ≠ 0 → q_rf X a f = q_rf X b g → a = b ∧ f = g) ∧ ∀ a f, q_rk (q_kd X a) f = 5 → q_ln X (q_rf X (q_rf X a f) 0) = y_rl (q_kd X a) f
noncomputable def y_par (X : XW) (b : Nat) : Option (Nat × Nat) := @dite _ (∃ p : Nat × Nat, q_rk (q_kd X p.1) p.2 ≠ 0 ∧ q_rf X p.1 p.2 = b) (Classical.propDecidable _) (fun h => some (Classical.choose h)) (fun _ => none)
noncomputable def y_lbn (X : XW) (C : Nat) : Nat → Nat → Nat
  | 0, _ => 0
  | n + 1, b => match y_par X b with | none => (if b = C then 1 else 0) | some p => y_lc (y_lbn X C n p.1) p.2
theorem y_par_s {X : XW} {b : Nat} {p : Nat × Nat} (h : y_par X b = some p) : q_rk (q_kd X p.1) p.2 ≠ 0 ∧ q_rf X p.1 p.2 = b := by
  unfold y_par at h
  by_cases q : ∃ p : Nat × Nat, q_rk (q_kd X p.1) p.2 ≠ 0 ∧ q_rf X p.1 p.2 = b
  · rw [dif_pos q] at h
    have z := Classical.choose_spec q
    rw [Option.some.inj h] at z
    exact z
  · rw [dif_neg q] at h
    cases h
theorem y_par_n {X : XW} {b : Nat} (h : y_root X b) : y_par X b = none := by
  unfold y_par
  refine dif_neg ?_
  rintro ⟨p, h1, h2⟩
  exact h p.1 p.2 h1 h2
theorem y_lbn_st {X : XW} {C : Nat} (F : y_Fo X) : ∀ n m b, b < n → b < m → y_lbn X C n b = y_lbn X C m b := by
  intro n
  induction n with
  | zero => intro m b h; exact absurd h (Nat.not_lt_zero _)
  | succ n ih =>
    intro m b h1 h2
    obtain ⟨m', rfl⟩ : ∃ m', m = m' + 1 := ⟨m - 1, by omega⟩
    show (match y_par X b with | none => (if b = C then 1 else 0) | some p => y_lc (y_lbn X C n p.1) p.2) = (match y_par X b with | none => (if b = C then 1 else 0) | some p => y_lc (y_lbn X C m' p.1) p.2)
    cases e : y_par X b with
    | none => rfl
    | some p =>
      obtain ⟨z1, z2⟩ := y_par_s e
      have z3 := F.1 p.1 p.2 z1
      rw [z2] at z3
      show y_lc (y_lbn X C n p.1) p.2 = y_lc (y_lbn X C m' p.1) p.2
      rw [ih m' p.1 (by omega) (by omega)]
theorem y_Fo.lb {X : XW} (F : y_Fo X) (T : q_T X) {C : Nat} (hC : y_root X C) : ∃ lb : Nat → Nat, y_S X lb ∧ lb C = 1 := by
  refine ⟨fun b => y_lbn X C (b + 1) b, ⟨T, fun a f h => ?_, F.2.2⟩, ?_⟩
  · obtain ⟨b, hb⟩ : ∃ b, b = q_rf X a f := ⟨_, rfl⟩
    have lt := F.1 a f h
    rw [← hb] at lt
    show y_lbn X C (q_rf X a f + 1) (q_rf X a f) = y_lc (y_lbn X C (a + 1) a) f
    rw [← hb]
    show (match y_par X b with | none => (if b = C then 1 else 0) | some p => y_lc (y_lbn X C b p.1) p.2) = _
    cases e : y_par X b with
    | none =>
      exfalso
      unfold y_par at e
      rw [dif_pos ⟨(a, f), h, hb.symm⟩] at e
      cases e
    | some p =>
      obtain ⟨z1, z2⟩ := y_par_s e
      obtain ⟨e1, e2⟩ := F.2.1 p.1 p.2 a f z1 h (z2.trans hb)
      show y_lc (y_lbn X C b p.1) p.2 = _
      rw [e1, e2, y_lbn_st F b (a + 1) a lt (by omega)]
  · show (match y_par X C with | none => (if C = C then 1 else 0) | some p => y_lc (y_lbn X C C p.1) p.2) = 1
    rw [y_par_n hC]
    show (if C = C then 1 else 0) = 1
    rw [if_pos rfl]
/-- the class's root: where its reader, games and tape lie -/
theorem y_Cls {X : XW} {lb : Nat → Nat} {C a : Nat} (S : y_S X lb) (hC : q_kd X C = 11) (ha : q_kd X a = 12) (h1 : lb C = 1) (h9 : q_ln X (q_rf X a 7) = 900) : tb_Cls X lb C a := by
  obtain ⟨T, L, N⟩ := id S
  have kD : q_kd X (q_rf X C 12) = 9 := (T.1 C 12 (by rw [hC]; decide)).trans (by rw [hC]; rfl)
  have lD : lb (q_rf X C 12) = 28 := (L C 12 (by rw [hC]; decide)).trans (by rw [h1]; decide)
  have kG : q_kd X (q_rf X (q_rf X C 12) 8) = 1 := (T.1 (q_rf X C 12) 8 (by rw [kD]; decide)).trans (by rw [kD]; rfl)
  have lG : lb (q_rf X (q_rf X C 12) 8) = 8192 * 6 + 1 := (L (q_rf X C 12) 8 (by rw [kD]; decide)).trans (by rw [lD]; decide)
  have kR : q_kd X (q_rf X (q_rf X C 12) 11) = 5 := (T.1 (q_rf X C 12) 11 (by rw [kD]; decide)).trans (by rw [kD]; rfl)
  have lR : lb (q_rf X (q_rf X C 12) 11) = 459 := (L (q_rf X C 12) 11 (by rw [kD]; decide)).trans (by rw [lD]; decide)
  have kA : q_kd X (tb_T X (q_rf X C 12)) = 20 := (T.1 (q_rf X (q_rf X C 12) 11) 0 (by rw [kR]; decide)).trans (by rw [kR]; rfl)
  have lA : lb (tb_T X (q_rf X C 12)) = 7344 := (L (q_rf X (q_rf X C 12) 11) 0 (by rw [kR]; decide)).trans (by rw [lR]; decide)
  have nA : q_ln X (tb_T X (q_rf X C 12)) = 6 := (N (q_rf X C 12) 11 (by rw [kD]; rfl)).trans (by rw [kD]; rfl)
  have kT : q_kd X (q_rf X C 4) = 22 := (T.1 C 4 (by rw [hC]; decide)).trans (by rw [hC]; rfl)
  have lT : lb (q_rf X C 4) = 20 := (L C 4 (by rw [hC]; decide)).trans (by rw [h1]; decide)
  have k8 : q_kd X (q_rf X C 8) = 1 := (T.1 C 8 (by rw [hC]; decide)).trans (by rw [hC]; rfl)
  have l8 : lb (q_rf X C 8) = 8192 * 1 + 1 := (L C 8 (by rw [hC]; decide)).trans (by rw [h1]; decide)
  refine ⟨hC, ha, S, ⟨kD, rfl, ⟨kG, lG, by decide⟩, by omega, by omega, by omega, kA, nA, kT⟩, ⟨k8, l8, by decide⟩, T.2.2.2 C hC, h9, by omega⟩
end
/-! FROM 48x.grow.lean.txt -/
section
/-! THE FOREST GROWS (q_xg's parts, by name: kinds, references, lengths) -/
def y_rt (X X' : XW) : Prop := ∀ c, q_kd X c ≠ 0 → y_root X c → y_root X' c
theorem y_rt.rf {X : XW} : y_rt X X := fun _ _ h => h
theorem y_rt.tr {X X1 X2 : XW} (h : y_rt X X1) (k : y_rt X1 X2) (hk : ∀ c, q_kd X c ≠ 0 → q_kd X1 c ≠ 0) : y_rt X X2 := fun c hc hr => k c (hk c hc) (h c hc hr)
/-- X' is X with an object h of kind k, references rf, length n -/
def y_ad1 (X X' : XW) (h k n : Nat) (rf : Nat → Nat) : Prop := (∀ a, q_kd X' a = if a = h then k else q_kd X a) ∧ (∀ a f, q_rf X' a f = if a = h then rf f else q_rf X a f) ∧ ∀ a, q_ln X' a = if a = h then n else q_ln X a
section YG
variable {X X' : XW} {h k n : Nat} {rf : Nat → Nat}
theorem y_Fo.add (F : y_Fo X) (T : q_T X) (A : y_ad1 X X' h k n rf) (h0 : q_kd X h = 0) (hrk : ∀ f, q_rk k f ≠ 0 → q_kd X (rf f) = q_rk k f) (hup : ∀ f, q_rk k f ≠ 0 → h < rf f) (hinj : ∀ f g, q_rk k f ≠ 0 → q_rk k g ≠ 0 → rf f = rf g → f = g) (hroot : ∀ f, q_rk k f ≠ 0 → y_root X (rf f)) (hrow : ∀ f, q_rk k f = 5 → q_ln X (q_rf X (rf f) 0) = y_rl k f) : y_Fo X' := by
  obtain ⟨A1, A2, A3⟩ := A
  obtain ⟨F1, F2, F3⟩ := F
  have ne : ∀ a, q_kd X a ≠ 0 → a ≠ h := fun a ha e => ha (by rw [e]; exact h0)
  refine ⟨fun a f hf => ?_, fun a f b g hf hg e => ?_, fun a f hf => ?_⟩
  · rw [A1] at hf
    rw [A2]
    by_cases q : a = h
    · rw [if_pos q] at hf ⊢
      rw [q]
      exact hup f hf
    · rw [if_neg q] at hf ⊢
      exact F1 a f hf
  · rw [A1] at hf hg
    rw [A2, A2] at e
    by_cases q : a = h
    · rw [if_pos q] at hf e
      by_cases q2 : b = h
      · rw [if_pos q2] at hg e
        exact ⟨q.trans q2.symm, hinj f g hf hg e⟩
      · rw [if_neg q2] at hg e
        exact absurd e.symm (hroot f hf b g hg)
    · rw [if_neg q] at hf e
      by_cases q2 : b = h
      · rw [if_pos q2] at hg e
        exact absurd e (hroot g hg a f hf)
      · rw [if_neg q2] at hg e
        exact F2 a f b g hf hg e
  · rw [A1] at hf ⊢
    rw [A2 a f]
    by_cases q : a = h
    · rw [if_pos q] at hf ⊢
      rw [if_pos q]
      have k5 : q_kd X (rf f) = 5 := (hrk f (by rw [hf]; decide)).trans hf
      have n1 : rf f ≠ h := ne _ (by rw [k5]; decide)
      have k20 : q_kd X (q_rf X (rf f) 0) = 20 := (T.1 (rf f) 0 (by rw [k5]; decide)).trans (by rw [k5]; rfl)
      have n2 : q_rf X (rf f) 0 ≠ h := ne _ (by rw [k20]; decide)
      rw [A2, if_neg n1, A3, if_neg n2]
      exact hrow f hf
    · rw [if_neg q] at hf ⊢
      rw [if_neg q]
      have k5 : q_kd X (q_rf X a f) = 5 := (T.1 a f (by rw [hf]; decide)).trans hf
      have n1 : q_rf X a f ≠ h := ne _ (by rw [k5]; decide)
      have k20 : q_kd X (q_rf X (q_rf X a f) 0) = 20 := (T.1 (q_rf X a f) 0 (by rw [k5]; decide)).trans (by rw [k5]; rfl)
      have n2 : q_rf X (q_rf X a f) 0 ≠ h := ne _ (by rw [k20]; decide)
      rw [A2, if_neg n1, A3, if_neg n2]
      exact F3 a f hf
theorem y_root.add {c : Nat} (R : y_root X c) (A : y_ad1 X X' h k n rf) (hne : ∀ f, q_rk k f ≠ 0 → rf f ≠ c) : y_root X' c := by
  obtain ⟨A1, A2, A3⟩ := A
  intro a f hf
  rw [A1] at hf
  rw [A2]
  by_cases q : a = h
  · rw [if_pos q] at hf ⊢
    exact hne f hf
  · rw [if_neg q] at hf ⊢
    exact R a f hf
/-- what is not in the world is no one's -/
theorem y_root.out {c : Nat} (T : q_T X) (h0 : q_kd X c = 0) : y_root X c := fun a f hf e => hf (by rw [← T.1 a f hf, e]; exact h0)
theorem y_rt.add {X0 : XW} (R : y_rt X0 X) (A : y_ad1 X X' h k n rf) (hne : ∀ f, q_rk k f ≠ 0 → q_kd X0 (rf f) = 0) : y_rt X0 X' := fun c hc hr => (R c hc hr).add A (fun f hf e => hc (by rw [← e]; exact hne f hf))
end YG
end
/-! FROM 48y.apart.lean.txt -/
section
/-! WHICH FIELDS REFER, AND THAT RISING REFERENCES ARE APART -/
theorem y_rk40 {k f : Nat} (h : 40 ≤ f) : q_rk k f = 0 := by
  unfold q_rk
  split <;> first | rfl | (split <;> first | rfl | omega)
theorem y_fs1 {f : Nat} (h : q_rk 1 f ≠ 0) : f = 0 ∨ f = 1 ∨ f = 2 ∨ f = 3 ∨ f = 8 ∨ f = 10 := by
  by_cases q : f < 40
  · exact (by decide : ∀ f, f < 40 → q_rk 1 f ≠ 0 → (f = 0 ∨ f = 1 ∨ f = 2 ∨ f = 3 ∨ f = 8 ∨ f = 10)) f q h
  · exact absurd (y_rk40 (by omega)) h
theorem y_in1 {rf : Nat → Nat} (a0 : rf 0 < rf 1) (a1 : rf 1 < rf 2) (a2 : rf 2 < rf 3) (a3 : rf 3 < rf 8) (a4 : rf 8 < rf 10) : ∀ f g, q_rk 1 f ≠ 0 → q_rk 1 g ≠ 0 → rf f = rf g → f = g := by
  intro f g hf hg e
  rcases y_fs1 hf with rfl | rfl | rfl | rfl | rfl | rfl <;> rcases y_fs1 hg with rfl | rfl | rfl | rfl | rfl | rfl <;> first | rfl | (exfalso; omega)
theorem y_fs2 {f : Nat} (h : q_rk 2 f ≠ 0) : f = 0 ∨ f = 1 ∨ f = 2 ∨ f = 3 ∨ f = 4 ∨ f = 5 ∨ f = 6 := by
  by_cases q : f < 40
  · exact (by decide : ∀ f, f < 40 → q_rk 2 f ≠ 0 → (f = 0 ∨ f = 1 ∨ f = 2 ∨ f = 3 ∨ f = 4 ∨ f = 5 ∨ f = 6)) f q h
  · exact absurd (y_rk40 (by omega)) h
theorem y_in2 {rf : Nat → Nat} (a0 : rf 0 < rf 1) (a1 : rf 1 < rf 2) (a2 : rf 2 < rf 3) (a3 : rf 3 < rf 4) (a4 : rf 4 < rf 5) (a5 : rf 5 < rf 6) : ∀ f g, q_rk 2 f ≠ 0 → q_rk 2 g ≠ 0 → rf f = rf g → f = g := by
  intro f g hf hg e
  rcases y_fs2 hf with rfl | rfl | rfl | rfl | rfl | rfl | rfl <;> rcases y_fs2 hg with rfl | rfl | rfl | rfl | rfl | rfl | rfl <;> first | rfl | (exfalso; omega)
theorem y_fs3 {f : Nat} (h : q_rk 3 f ≠ 0) : f = 2 ∨ f = 3 ∨ f = 4 ∨ f = 5 := by
  by_cases q : f < 40
  · exact (by decide : ∀ f, f < 40 → q_rk 3 f ≠ 0 → (f = 2 ∨ f = 3 ∨ f = 4 ∨ f = 5)) f q h
  · exact absurd (y_rk40 (by omega)) h
theorem y_in3 {rf : Nat → Nat} (a0 : rf 2 < rf 3) (a1 : rf 3 < rf 4) (a2 : rf 4 < rf 5) : ∀ f g, q_rk 3 f ≠ 0 → q_rk 3 g ≠ 0 → rf f = rf g → f = g := by
  intro f g hf hg e
  rcases y_fs3 hf with rfl | rfl | rfl | rfl <;> rcases y_fs3 hg with rfl | rfl | rfl | rfl <;> first | rfl | (exfalso; omega)
theorem y_fs4 {f : Nat} (h : q_rk 4 f ≠ 0) : f = 8 ∨ f = 9 := by
  by_cases q : f < 40
  · exact (by decide : ∀ f, f < 40 → q_rk 4 f ≠ 0 → (f = 8 ∨ f = 9)) f q h
  · exact absurd (y_rk40 (by omega)) h
theorem y_in4 {rf : Nat → Nat} (a0 : rf 8 < rf 9) : ∀ f g, q_rk 4 f ≠ 0 → q_rk 4 g ≠ 0 → rf f = rf g → f = g := by
  intro f g hf hg e
  rcases y_fs4 hf with rfl | rfl <;> rcases y_fs4 hg with rfl | rfl <;> first | rfl | (exfalso; omega)
theorem y_fs5 {f : Nat} (h : q_rk 5 f ≠ 0) : f = 0 := by
  by_cases q : f < 40
  · exact (by decide : ∀ f, f < 40 → q_rk 5 f ≠ 0 → (f = 0)) f q h
  · exact absurd (y_rk40 (by omega)) h
theorem y_in5 {rf : Nat → Nat} : ∀ f g, q_rk 5 f ≠ 0 → q_rk 5 g ≠ 0 → rf f = rf g → f = g := by
  intro f g hf hg e
  rw [y_fs5 hf, y_fs5 hg]
theorem y_fs6 {f : Nat} (h : q_rk 6 f ≠ 0) : f = 5 ∨ f = 6 ∨ f = 7 := by
  by_cases q : f < 40
  · exact (by decide : ∀ f, f < 40 → q_rk 6 f ≠ 0 → (f = 5 ∨ f = 6 ∨ f = 7)) f q h
  · exact absurd (y_rk40 (by omega)) h
theorem y_in6 {rf : Nat → Nat} (a0 : rf 5 < rf 6) (a1 : rf 6 < rf 7) : ∀ f g, q_rk 6 f ≠ 0 → q_rk 6 g ≠ 0 → rf f = rf g → f = g := by
  intro f g hf hg e
  rcases y_fs6 hf with rfl | rfl | rfl <;> rcases y_fs6 hg with rfl | rfl | rfl <;> first | rfl | (exfalso; omega)
theorem y_fs7 {f : Nat} (h : q_rk 7 f ≠ 0) : f = 7 := by
  by_cases q : f < 40
  · exact (by decide : ∀ f, f < 40 → q_rk 7 f ≠ 0 → (f = 7)) f q h
  · exact absurd (y_rk40 (by omega)) h
theorem y_in7 {rf : Nat → Nat} : ∀ f g, q_rk 7 f ≠ 0 → q_rk 7 g ≠ 0 → rf f = rf g → f = g := by
  intro f g hf hg e
  rw [y_fs7 hf, y_fs7 hg]
theorem y_fs8 {f : Nat} (h : q_rk 8 f ≠ 0) : f = 3 ∨ f = 4 ∨ f = 5 ∨ f = 6 ∨ f = 7 := by
  by_cases q : f < 40
  · exact (by decide : ∀ f, f < 40 → q_rk 8 f ≠ 0 → (f = 3 ∨ f = 4 ∨ f = 5 ∨ f = 6 ∨ f = 7)) f q h
  · exact absurd (y_rk40 (by omega)) h
theorem y_in8 {rf : Nat → Nat} (a0 : rf 3 < rf 4) (a1 : rf 4 < rf 5) (a2 : rf 5 < rf 6) (a3 : rf 6 < rf 7) : ∀ f g, q_rk 8 f ≠ 0 → q_rk 8 g ≠ 0 → rf f = rf g → f = g := by
  intro f g hf hg e
  rcases y_fs8 hf with rfl | rfl | rfl | rfl | rfl <;> rcases y_fs8 hg with rfl | rfl | rfl | rfl | rfl <;> first | rfl | (exfalso; omega)
theorem y_fs9 {f : Nat} (h : q_rk 9 f ≠ 0) : f = 8 ∨ f = 11 := by
  by_cases q : f < 40
  · exact (by decide : ∀ f, f < 40 → q_rk 9 f ≠ 0 → (f = 8 ∨ f = 11)) f q h
  · exact absurd (y_rk40 (by omega)) h
theorem y_in9 {rf : Nat → Nat} (a0 : rf 8 < rf 11) : ∀ f g, q_rk 9 f ≠ 0 → q_rk 9 g ≠ 0 → rf f = rf g → f = g := by
  intro f g hf hg e
  rcases y_fs9 hf with rfl | rfl <;> rcases y_fs9 hg with rfl | rfl <;> first | rfl | (exfalso; omega)
theorem y_fs10 {f : Nat} (h : q_rk 10 f ≠ 0) : f = 2 := by
  by_cases q : f < 40
  · exact (by decide : ∀ f, f < 40 → q_rk 10 f ≠ 0 → (f = 2)) f q h
  · exact absurd (y_rk40 (by omega)) h
theorem y_in10 {rf : Nat → Nat} : ∀ f g, q_rk 10 f ≠ 0 → q_rk 10 g ≠ 0 → rf f = rf g → f = g := by
  intro f g hf hg e
  rw [y_fs10 hf, y_fs10 hg]
theorem y_fs11 {f : Nat} (h : q_rk 11 f ≠ 0) : f = 3 ∨ f = 4 ∨ f = 8 ∨ f = 9 ∨ f = 10 ∨ f = 12 ∨ f = 13 ∨ f = 14 ∨ f = 15 := by
  by_cases q : f < 40
  · exact (by decide : ∀ f, f < 40 → q_rk 11 f ≠ 0 → (f = 3 ∨ f = 4 ∨ f = 8 ∨ f = 9 ∨ f = 10 ∨ f = 12 ∨ f = 13 ∨ f = 14 ∨ f = 15)) f q h
  · exact absurd (y_rk40 (by omega)) h
theorem y_in11 {rf : Nat → Nat} (a0 : rf 3 < rf 4) (a1 : rf 4 < rf 8) (a2 : rf 8 < rf 9) (a3 : rf 9 < rf 10) (a4 : rf 10 < rf 12) (a5 : rf 12 < rf 13) (a6 : rf 13 < rf 14) (a7 : rf 14 < rf 15) : ∀ f g, q_rk 11 f ≠ 0 → q_rk 11 g ≠ 0 → rf f = rf g → f = g := by
  intro f g hf hg e
  rcases y_fs11 hf with rfl | rfl | rfl | rfl | rfl | rfl | rfl | rfl | rfl <;> rcases y_fs11 hg with rfl | rfl | rfl | rfl | rfl | rfl | rfl | rfl | rfl <;> first | rfl | (exfalso; omega)
theorem y_fs12 {f : Nat} (h : q_rk 12 f ≠ 0) : f = 4 ∨ f = 5 ∨ f = 6 ∨ f = 7 ∨ f = 20 ∨ f = 21 ∨ f = 22 ∨ f = 23 ∨ f = 28 ∨ f = 29 ∨ f = 32 ∨ f = 36 := by
  by_cases q : f < 40
  · exact (by decide : ∀ f, f < 40 → q_rk 12 f ≠ 0 → (f = 4 ∨ f = 5 ∨ f = 6 ∨ f = 7 ∨ f = 20 ∨ f = 21 ∨ f = 22 ∨ f = 23 ∨ f = 28 ∨ f = 29 ∨ f = 32 ∨ f = 36)) f q h
  · exact absurd (y_rk40 (by omega)) h
theorem y_in12 {rf : Nat → Nat} (a0 : rf 4 < rf 5) (a1 : rf 5 < rf 6) (a2 : rf 6 < rf 7) (a3 : rf 7 < rf 20) (a4 : rf 20 < rf 21) (a5 : rf 21 < rf 22) (a6 : rf 22 < rf 23) (a7 : rf 23 < rf 28) (a8 : rf 28 < rf 29) (a9 : rf 29 < rf 32) (a10 : rf 32 < rf 36) : ∀ f g, q_rk 12 f ≠ 0 → q_rk 12 g ≠ 0 → rf f = rf g → f = g := by
  intro f g hf hg e
  rcases y_fs12 hf with rfl | rfl | rfl | rfl | rfl | rfl | rfl | rfl | rfl | rfl | rfl | rfl <;> rcases y_fs12 hg with rfl | rfl | rfl | rfl | rfl | rfl | rfl | rfl | rfl | rfl | rfl | rfl <;> first | rfl | (exfalso; omega)
theorem y_fs23 {f : Nat} (h : q_rk 23 f ≠ 0) : f = 0 ∨ f = 1 ∨ f = 2 ∨ f = 3 := by
  by_cases q : f < 40
  · exact (by decide : ∀ f, f < 40 → q_rk 23 f ≠ 0 → (f = 0 ∨ f = 1 ∨ f = 2 ∨ f = 3)) f q h
  · exact absurd (y_rk40 (by omega)) h
theorem y_in23 {rf : Nat → Nat} (a0 : rf 0 < rf 1) (a1 : rf 1 < rf 2) (a2 : rf 2 < rf 3) : ∀ f g, q_rk 23 f ≠ 0 → q_rk 23 g ≠ 0 → rf f = rf g → f = g := by
  intro f g hf hg e
  rcases y_fs23 hf with rfl | rfl | rfl | rfl <;> rcases y_fs23 hg with rfl | rfl | rfl | rfl <;> first | rfl | (exfalso; omega)
theorem y_fs24 {f : Nat} (h : q_rk 24 f ≠ 0) : f = 0 ∨ f = 1 ∨ f = 2 := by
  by_cases q : f < 40
  · exact (by decide : ∀ f, f < 40 → q_rk 24 f ≠ 0 → (f = 0 ∨ f = 1 ∨ f = 2)) f q h
  · exact absurd (y_rk40 (by omega)) h
theorem y_in24 {rf : Nat → Nat} (a0 : rf 0 < rf 1) (a1 : rf 1 < rf 2) : ∀ f g, q_rk 24 f ≠ 0 → q_rk 24 g ≠ 0 → rf f = rf g → f = g := by
  intro f g hf hg e
  rcases y_fs24 hf with rfl | rfl | rfl <;> rcases y_fs24 hg with rfl | rfl | rfl <;> first | rfl | (exfalso; omega)
end
