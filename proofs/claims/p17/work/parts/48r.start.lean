/-! A NEW GAME, THE START OF A READING -/
theorem y_bl_ne {V : Nat → Int → Int} {id id' : Nat} {n i : Int} {f : Int → Int} (h : id' ≠ id) : y_bl V id n f id' i = V id' i := if_neg (fun q => h q.1)
theorem y_bl_in {V : Nat → Int → Int} {id : Nat} {n i : Int} {f : Int → Int} (h0 : 0 ≤ i) (h1 : i < n) : y_bl V id n f id i = f i := if_pos ⟨rfl, h0, h1⟩
def tb_Rv (V : Nat → Int → Int) : Prop :=
  (V 1 2 = 0 ∧ V 1 3 = 4 ∧ V 1 4 = 0) ∧ (∀ k : Int, 0 ≤ k → k < 10 → V 4 k = 0) ∧ (∀ j : Int, 0 ≤ j → j < 60 → V 7 j = 0) ∧ (∀ p : Int, 0 ≤ p → p < 6 → V 9 p = 0 ∧ V 10 p = 0 ∧ V 11 p = 0) ∧ tb_Z V
section TK
variable {X : XW} {lb : Nat → Nat} {D T g a : Nat} {σ τ σ' τ' σ1 τ1 : ST} {n : Int} {B : Int → Int} {V : Nat → Int → Int} {r c w t : Int → Int} {f9 f10 : Int}
theorem tb_reset (Y : y_S X lb) (G : y_G X lb g 6) : ∃ V' : Nat → Int → Int, y_W X lb g 6 σ (F_X0_reset X σ g) V' ∧ tb_Rv V' := by
  obtain ⟨V, hV⟩ : ∃ V, y_v X g σ = V := ⟨_, rfl⟩
  have w0 : y_W X lb g 6 σ σ V := y_W.rf.eq hV
  obtain ⟨V1, hV1⟩ : ∃ v, v = y_up V 1 0 2 := ⟨_, rfl⟩
  have w1 : y_W X lb g 6 σ (q_si σ (y_gA X g 1) 0 2) V1 := (w0.si Y G (id := 1) (by decide) 0 2).eq hV1.symm
  obtain ⟨s1, hs1⟩ : ∃ s, s = q_si σ (y_gA X g 1) 0 2 := ⟨_, rfl⟩
  rw [← hs1] at w1
  obtain ⟨V2, hV2⟩ : ∃ v, v = y_up V1 1 1 1 := ⟨_, rfl⟩
  have w2 : y_W X lb g 6 σ (q_si s1 (y_gA X g 1) 1 1) V2 := (w1.si Y G (id := 1) (by decide) 1 1).eq hV2.symm
  obtain ⟨s2, hs2⟩ : ∃ s, s = q_si s1 (y_gA X g 1) 1 1 := ⟨_, rfl⟩
  rw [← hs2] at w2
  obtain ⟨V3, hV3⟩ : ∃ v, v = y_up V2 1 2 0 := ⟨_, rfl⟩
  have w3 : y_W X lb g 6 σ (q_si s2 (y_gA X g 1) 2 0) V3 := (w2.si Y G (id := 1) (by decide) 2 0).eq hV3.symm
  obtain ⟨s3, hs3⟩ : ∃ s, s = q_si s2 (y_gA X g 1) 2 0 := ⟨_, rfl⟩
  rw [← hs3] at w3
  obtain ⟨V4, hV4⟩ : ∃ v, v = y_up V3 1 3 4 := ⟨_, rfl⟩
  have w4 : y_W X lb g 6 σ (q_si s3 (y_gA X g 1) 3 4) V4 := (w3.si Y G (id := 1) (by decide) 3 4).eq hV4.symm
  obtain ⟨s4, hs4⟩ : ∃ s, s = q_si s3 (y_gA X g 1) 3 4 := ⟨_, rfl⟩
  rw [← hs4] at w4
  obtain ⟨V5, hV5⟩ : ∃ v, v = y_up V4 1 4 0 := ⟨_, rfl⟩
  have w5 : y_W X lb g 6 σ (q_si s4 (y_gA X g 1) 4 0) V5 := (w4.si Y G (id := 1) (by decide) 4 0).eq hV5.symm
  obtain ⟨s5, hs5⟩ : ∃ s, s = q_si s4 (y_gA X g 1) 4 0 := ⟨_, rfl⟩
  rw [← hs5] at w5
  obtain ⟨V6, hV6⟩ : ∃ v, v = y_bl V5 4 10 (fun _ => 0) := ⟨_, rfl⟩
  have w6 : y_W X lb g 6 σ (F_X5_clear X s5 (q_rf X (q_rf X g 0) 5)) V6 := (w5.clear Y G (id := 4) (r := q_rf X (q_rf X g 0) 5) ⟨by decide, by decide⟩ rfl).eq hV6.symm
  obtain ⟨s6, hs6⟩ : ∃ s, s = F_X5_clear X s5 (q_rf X (q_rf X g 0) 5) := ⟨_, rfl⟩
  rw [← hs6] at w6
  obtain ⟨V7, hV7⟩ : ∃ v, v = y_bl V6 7 60 (fun _ => 0) := ⟨_, rfl⟩
  have w7 : y_W X lb g 6 σ (F_X5_clear X s6 (q_rf X (q_rf X g 1) 0)) V7 := (w6.clear Y G (id := 7) (r := q_rf X (q_rf X g 1) 0) ⟨by decide, by decide⟩ rfl).eq hV7.symm
  obtain ⟨s7, hs7⟩ : ∃ s, s = F_X5_clear X s6 (q_rf X (q_rf X g 1) 0) := ⟨_, rfl⟩
  rw [← hs7] at w7
  obtain ⟨V8, hV8⟩ : ∃ v, v = y_bl V7 8 60 (fun _ => 0) := ⟨_, rfl⟩
  have w8 : y_W X lb g 6 σ (F_X5_clear X s7 (q_rf X (q_rf X g 1) 1)) V8 := (w7.clear Y G (id := 8) (r := q_rf X (q_rf X g 1) 1) ⟨by decide, by decide⟩ rfl).eq hV8.symm
  obtain ⟨s8, hs8⟩ : ∃ s, s = F_X5_clear X s7 (q_rf X (q_rf X g 1) 1) := ⟨_, rfl⟩
  rw [← hs8] at w8
  obtain ⟨V9, hV9⟩ : ∃ v, v = y_bl V8 9 6 (fun _ => 0) := ⟨_, rfl⟩
  have w9 : y_W X lb g 6 σ (F_X5_clear X s8 (q_rf X (q_rf X g 1) 2)) V9 := (w8.clear Y G (id := 9) (r := q_rf X (q_rf X g 1) 2) ⟨by decide, by decide⟩ rfl).eq hV9.symm
  obtain ⟨s9, hs9⟩ : ∃ s, s = F_X5_clear X s8 (q_rf X (q_rf X g 1) 2) := ⟨_, rfl⟩
  rw [← hs9] at w9
  obtain ⟨V10, hV10⟩ : ∃ v, v = y_bl V9 10 6 (fun _ => 0) := ⟨_, rfl⟩
  have w10 : y_W X lb g 6 σ (F_X5_clear X s9 (q_rf X (q_rf X g 1) 3)) V10 := (w9.clear Y G (id := 10) (r := q_rf X (q_rf X g 1) 3) ⟨by decide, by decide⟩ rfl).eq hV10.symm
  obtain ⟨s10, hs10⟩ : ∃ s, s = F_X5_clear X s9 (q_rf X (q_rf X g 1) 3) := ⟨_, rfl⟩
  rw [← hs10] at w10
  obtain ⟨V11, hV11⟩ : ∃ v, v = y_bl V10 11 6 (fun _ => 0) := ⟨_, rfl⟩
  have w11 : y_W X lb g 6 σ (F_X5_clear X s10 (q_rf X (q_rf X g 1) 4)) V11 := (w10.clear Y G (id := 11) (r := q_rf X (q_rf X g 1) 4) ⟨by decide, by decide⟩ rfl).eq hV11.symm
  obtain ⟨s11, hs11⟩ : ∃ s, s = F_X5_clear X s10 (q_rf X (q_rf X g 1) 4) := ⟨_, rfl⟩
  rw [← hs11] at w11
  obtain ⟨V12, hV12⟩ : ∃ v, v = y_bl V11 12 6 (fun _ => 0) := ⟨_, rfl⟩
  have w12 : y_W X lb g 6 σ (F_X5_clear X s11 (q_rf X (q_rf X g 1) 5)) V12 := (w11.clear Y G (id := 12) (r := q_rf X (q_rf X g 1) 5) ⟨by decide, by decide⟩ rfl).eq hV12.symm
  obtain ⟨s12, hs12⟩ : ∃ s, s = F_X5_clear X s11 (q_rf X (q_rf X g 1) 5) := ⟨_, rfl⟩
  rw [← hs12] at w12
  obtain ⟨V13, hV13⟩ : ∃ v, v = y_bl V12 13 6 (fun _ => 0) := ⟨_, rfl⟩
  have w13 : y_W X lb g 6 σ (F_X5_clear X s12 (q_rf X (q_rf X g 1) 6)) V13 := (w12.clear Y G (id := 13) (r := q_rf X (q_rf X g 1) 6) ⟨by decide, by decide⟩ rfl).eq hV13.symm
  obtain ⟨s13, hs13⟩ : ∃ s, s = F_X5_clear X s12 (q_rf X (q_rf X g 1) 6) := ⟨_, rfl⟩
  rw [← hs13] at w13
  obtain ⟨V14, hV14⟩ : ∃ v, v = y_up V13 2 0 0 := ⟨_, rfl⟩
  have w14 : y_W X lb g 6 σ (q_si s13 (y_gA X g 2) 0 0) V14 := (w13.si Y G (id := 2) (by decide) 0 0).eq hV14.symm
  obtain ⟨s14, hs14⟩ : ∃ s, s = q_si s13 (y_gA X g 2) 0 0 := ⟨_, rfl⟩
  rw [← hs14] at w14
  obtain ⟨V15, hV15⟩ : ∃ v, v = y_up V14 2 1 0 := ⟨_, rfl⟩
  have w15 : y_W X lb g 6 σ (q_si s14 (y_gA X g 2) 1 0) V15 := (w14.si Y G (id := 2) (by decide) 1 0).eq hV15.symm
  obtain ⟨s15, hs15⟩ : ∃ s, s = q_si s14 (y_gA X g 2) 1 0 := ⟨_, rfl⟩
  rw [← hs15] at w15
  obtain ⟨V16, hV16⟩ : ∃ v, v = y_up V15 3 0 0 := ⟨_, rfl⟩
  have w16 : y_W X lb g 6 σ (q_si s15 (y_gA X g 3) 0 0) V16 := (w15.si Y G (id := 3) (by decide) 0 0).eq hV16.symm
  obtain ⟨s16, hs16⟩ : ∃ s, s = q_si s15 (y_gA X g 3) 0 0 := ⟨_, rfl⟩
  rw [← hs16] at w16
  obtain ⟨V17, hV17⟩ : ∃ v, v = y_up V16 3 1 0 := ⟨_, rfl⟩
  have w17 : y_W X lb g 6 σ (q_si s16 (y_gA X g 3) 1 0) V17 := (w16.si Y G (id := 3) (by decide) 1 0).eq hV17.symm
  obtain ⟨s17, hs17⟩ : ∃ s, s = q_si s16 (y_gA X g 3) 1 0 := ⟨_, rfl⟩
  rw [← hs17] at w17
  obtain ⟨V18, hV18⟩ : ∃ v, v = y_up V17 3 2 0 := ⟨_, rfl⟩
  have w18 : y_W X lb g 6 σ (q_si s17 (y_gA X g 3) 2 0) V18 := (w17.si Y G (id := 3) (by decide) 2 0).eq hV18.symm
  obtain ⟨s18, hs18⟩ : ∃ s, s = q_si s17 (y_gA X g 3) 2 0 := ⟨_, rfl⟩
  rw [← hs18] at w18
  obtain ⟨V19, hV19⟩ : ∃ v, v = y_up V18 0 4 0 := ⟨_, rfl⟩
  have w19 : y_W X lb g 6 σ (q_si s18 (y_gA X g 0) 4 0) V19 := (w18.si Y G (id := 0) (by decide) 4 0).eq hV19.symm
  obtain ⟨s19, hs19⟩ : ∃ s, s = q_si s18 (y_gA X g 0) 4 0 := ⟨_, rfl⟩
  rw [← hs19] at w19
  obtain ⟨V20, hV20⟩ : ∃ v, v = y_up V19 0 5 0 := ⟨_, rfl⟩
  have w20 : y_W X lb g 6 σ (q_si s19 (y_gA X g 0) 5 0) V20 := (w19.si Y G (id := 0) (by decide) 5 0).eq hV20.symm
  obtain ⟨s20, hs20⟩ : ∃ s, s = q_si s19 (y_gA X g 0) 5 0 := ⟨_, rfl⟩
  rw [← hs20] at w20
  obtain ⟨V21, hV21⟩ : ∃ v, v = y_up V20 0 6 (-1) := ⟨_, rfl⟩
  have w21 : y_W X lb g 6 σ (q_si s20 (y_gA X g 0) 6 (-1)) V21 := (w20.si Y G (id := 0) (by decide) 6 (-1)).eq hV21.symm
  obtain ⟨s21, hs21⟩ : ∃ s, s = q_si s20 (y_gA X g 0) 6 (-1) := ⟨_, rfl⟩
  rw [← hs21] at w21
  obtain ⟨V22, hV22⟩ : ∃ v, v = y_up V21 0 7 0 := ⟨_, rfl⟩
  have w22 : y_W X lb g 6 σ (q_si s21 (y_gA X g 0) 7 0) V22 := (w21.si Y G (id := 0) (by decide) 7 0).eq hV22.symm
  obtain ⟨s22, hs22⟩ : ∃ s, s = q_si s21 (y_gA X g 0) 7 0 := ⟨_, rfl⟩
  rw [← hs22] at w22
  refine ⟨V22, ?_, ?_⟩
  · have e : F_X0_reset X σ g = s22 := by
      unfold F_X0_reset F_X6_reset F_X1_reset F_X2_clear F_X8_clear
      rw [q_letE (q_si σ (q_rf X g 0) 0 2)]
      have z1 : q_si σ (q_rf X g 0) 0 2 = s1 := hs1.symm
      rw [z1]
      rw [q_letE (q_si s1 (q_rf X g 0) 1 1)]
      have z2 : q_si s1 (q_rf X g 0) 1 1 = s2 := hs2.symm
      rw [z2]
      rw [q_letE (q_si s2 (q_rf X g 0) 2 0)]
      have z3 : q_si s2 (q_rf X g 0) 2 0 = s3 := hs3.symm
      rw [z3]
      rw [q_letE (q_si s3 (q_rf X g 0) 3 4)]
      have z4 : q_si s3 (q_rf X g 0) 3 4 = s4 := hs4.symm
      rw [z4]
      rw [q_letE (q_si s4 (q_rf X g 0) 4 0)]
      have z5 : q_si s4 (q_rf X g 0) 4 0 = s5 := hs5.symm
      rw [z5]
      rw [q_letE (F_X5_clear X s5 (q_rf X (q_rf X g 0) 5))]
      have z6 : F_X5_clear X s5 (q_rf X (q_rf X g 0) 5) = s6 := hs6.symm
      rw [z6]
      rw [q_letE s6]
      rw [q_letE (F_X5_clear X s6 (q_rf X (q_rf X g 1) 0))]
      have z7 : F_X5_clear X s6 (q_rf X (q_rf X g 1) 0) = s7 := hs7.symm
      rw [z7]
      rw [q_letE (F_X5_clear X s7 (q_rf X (q_rf X g 1) 1))]
      have z8 : F_X5_clear X s7 (q_rf X (q_rf X g 1) 1) = s8 := hs8.symm
      rw [z8]
      rw [q_letE (F_X5_clear X s8 (q_rf X (q_rf X g 1) 2))]
      have z9 : F_X5_clear X s8 (q_rf X (q_rf X g 1) 2) = s9 := hs9.symm
      rw [z9]
      rw [q_letE (F_X5_clear X s9 (q_rf X (q_rf X g 1) 3))]
      have z10 : F_X5_clear X s9 (q_rf X (q_rf X g 1) 3) = s10 := hs10.symm
      rw [z10]
      rw [q_letE (F_X5_clear X s10 (q_rf X (q_rf X g 1) 4))]
      have z11 : F_X5_clear X s10 (q_rf X (q_rf X g 1) 4) = s11 := hs11.symm
      rw [z11]
      rw [q_letE (F_X5_clear X s11 (q_rf X (q_rf X g 1) 5))]
      have z12 : F_X5_clear X s11 (q_rf X (q_rf X g 1) 5) = s12 := hs12.symm
      rw [z12]
      rw [q_letE (F_X5_clear X s12 (q_rf X (q_rf X g 1) 6))]
      have z13 : F_X5_clear X s12 (q_rf X (q_rf X g 1) 6) = s13 := hs13.symm
      rw [z13]
      rw [q_letE s13]
      rw [q_letE (q_si s13 (q_rf X g 2) 0 0)]
      have z14 : q_si s13 (q_rf X g 2) 0 0 = s14 := hs14.symm
      rw [z14]
      rw [q_letE (q_si s14 (q_rf X g 2) 1 0)]
      have z15 : q_si s14 (q_rf X g 2) 1 0 = s15 := hs15.symm
      rw [z15]
      rw [q_letE s15]
      rw [q_letE (q_si s15 (q_rf X g 3) 0 0)]
      have z16 : q_si s15 (q_rf X g 3) 0 0 = s16 := hs16.symm
      rw [z16]
      rw [q_letE (q_si s16 (q_rf X g 3) 1 0)]
      have z17 : q_si s16 (q_rf X g 3) 1 0 = s17 := hs17.symm
      rw [z17]
      rw [q_letE (q_si s17 (q_rf X g 3) 2 0)]
      have z18 : q_si s17 (q_rf X g 3) 2 0 = s18 := hs18.symm
      rw [z18]
      rw [q_letE s18]
      rw [q_letE (q_si s18 (g) 4 0)]
      have z19 : q_si s18 (g) 4 0 = s19 := hs19.symm
      rw [z19]
      rw [q_letE (q_si s19 (g) 5 0)]
      have z20 : q_si s19 (g) 5 0 = s20 := hs20.symm
      rw [z20]
      rw [q_letE (q_si s20 (g) 6 (-1))]
      have z21 : q_si s20 (g) 6 (-1) = s21 := hs21.symm
      rw [z21]
      rw [q_letE (q_si s21 (g) 7 0)]
      have z22 : q_si s21 (g) 7 0 = s22 := hs22.symm
      rw [z22]
    rw [e]
    exact w22
  · refine ⟨⟨?_, ?_, ?_⟩, ?_, ?_, ?_, ?_, ?_, ?_, ?_, ?_, ?_, ?_, ?_, ?_, ?_, ?_⟩
    · rw [hV22, y_up_ne (Or.inl (by decide)), hV21, y_up_ne (Or.inl (by decide)), hV20, y_up_ne (Or.inl (by decide)), hV19, y_up_ne (Or.inl (by decide)), hV18, y_up_ne (Or.inl (by decide)), hV17, y_up_ne (Or.inl (by decide)), hV16, y_up_ne (Or.inl (by decide)), hV15, y_up_ne (Or.inl (by decide)), hV14, y_up_ne (Or.inl (by decide)), hV13, y_bl_ne (by decide), hV12, y_bl_ne (by decide), hV11, y_bl_ne (by decide), hV10, y_bl_ne (by decide), hV9, y_bl_ne (by decide), hV8, y_bl_ne (by decide), hV7, y_bl_ne (by decide), hV6, y_bl_ne (by decide), hV5, y_up_ne (Or.inr (by decide)), hV4, y_up_ne (Or.inr (by decide)), hV3, y_up_eq]
    · rw [hV22, y_up_ne (Or.inl (by decide)), hV21, y_up_ne (Or.inl (by decide)), hV20, y_up_ne (Or.inl (by decide)), hV19, y_up_ne (Or.inl (by decide)), hV18, y_up_ne (Or.inl (by decide)), hV17, y_up_ne (Or.inl (by decide)), hV16, y_up_ne (Or.inl (by decide)), hV15, y_up_ne (Or.inl (by decide)), hV14, y_up_ne (Or.inl (by decide)), hV13, y_bl_ne (by decide), hV12, y_bl_ne (by decide), hV11, y_bl_ne (by decide), hV10, y_bl_ne (by decide), hV9, y_bl_ne (by decide), hV8, y_bl_ne (by decide), hV7, y_bl_ne (by decide), hV6, y_bl_ne (by decide), hV5, y_up_ne (Or.inr (by decide)), hV4, y_up_eq]
    · rw [hV22, y_up_ne (Or.inl (by decide)), hV21, y_up_ne (Or.inl (by decide)), hV20, y_up_ne (Or.inl (by decide)), hV19, y_up_ne (Or.inl (by decide)), hV18, y_up_ne (Or.inl (by decide)), hV17, y_up_ne (Or.inl (by decide)), hV16, y_up_ne (Or.inl (by decide)), hV15, y_up_ne (Or.inl (by decide)), hV14, y_up_ne (Or.inl (by decide)), hV13, y_bl_ne (by decide), hV12, y_bl_ne (by decide), hV11, y_bl_ne (by decide), hV10, y_bl_ne (by decide), hV9, y_bl_ne (by decide), hV8, y_bl_ne (by decide), hV7, y_bl_ne (by decide), hV6, y_bl_ne (by decide), hV5, y_up_eq]
    · intro j a1 a2
      rw [hV22, y_up_ne (Or.inl (by decide)), hV21, y_up_ne (Or.inl (by decide)), hV20, y_up_ne (Or.inl (by decide)), hV19, y_up_ne (Or.inl (by decide)), hV18, y_up_ne (Or.inl (by decide)), hV17, y_up_ne (Or.inl (by decide)), hV16, y_up_ne (Or.inl (by decide)), hV15, y_up_ne (Or.inl (by decide)), hV14, y_up_ne (Or.inl (by decide)), hV13, y_bl_ne (by decide), hV12, y_bl_ne (by decide), hV11, y_bl_ne (by decide), hV10, y_bl_ne (by decide), hV9, y_bl_ne (by decide), hV8, y_bl_ne (by decide), hV7, y_bl_ne (by decide), hV6, y_bl_in a1 a2]
    · intro j a1 a2
      rw [hV22, y_up_ne (Or.inl (by decide)), hV21, y_up_ne (Or.inl (by decide)), hV20, y_up_ne (Or.inl (by decide)), hV19, y_up_ne (Or.inl (by decide)), hV18, y_up_ne (Or.inl (by decide)), hV17, y_up_ne (Or.inl (by decide)), hV16, y_up_ne (Or.inl (by decide)), hV15, y_up_ne (Or.inl (by decide)), hV14, y_up_ne (Or.inl (by decide)), hV13, y_bl_ne (by decide), hV12, y_bl_ne (by decide), hV11, y_bl_ne (by decide), hV10, y_bl_ne (by decide), hV9, y_bl_ne (by decide), hV8, y_bl_ne (by decide), hV7, y_bl_in a1 a2]
    · intro j a1 a2
      refine ⟨?_, ?_, ?_⟩
      · rw [hV22, y_up_ne (Or.inl (by decide)), hV21, y_up_ne (Or.inl (by decide)), hV20, y_up_ne (Or.inl (by decide)), hV19, y_up_ne (Or.inl (by decide)), hV18, y_up_ne (Or.inl (by decide)), hV17, y_up_ne (Or.inl (by decide)), hV16, y_up_ne (Or.inl (by decide)), hV15, y_up_ne (Or.inl (by decide)), hV14, y_up_ne (Or.inl (by decide)), hV13, y_bl_ne (by decide), hV12, y_bl_ne (by decide), hV11, y_bl_ne (by decide), hV10, y_bl_ne (by decide), hV9, y_bl_in a1 a2]
      · rw [hV22, y_up_ne (Or.inl (by decide)), hV21, y_up_ne (Or.inl (by decide)), hV20, y_up_ne (Or.inl (by decide)), hV19, y_up_ne (Or.inl (by decide)), hV18, y_up_ne (Or.inl (by decide)), hV17, y_up_ne (Or.inl (by decide)), hV16, y_up_ne (Or.inl (by decide)), hV15, y_up_ne (Or.inl (by decide)), hV14, y_up_ne (Or.inl (by decide)), hV13, y_bl_ne (by decide), hV12, y_bl_ne (by decide), hV11, y_bl_ne (by decide), hV10, y_bl_in a1 a2]
      · rw [hV22, y_up_ne (Or.inl (by decide)), hV21, y_up_ne (Or.inl (by decide)), hV20, y_up_ne (Or.inl (by decide)), hV19, y_up_ne (Or.inl (by decide)), hV18, y_up_ne (Or.inl (by decide)), hV17, y_up_ne (Or.inl (by decide)), hV16, y_up_ne (Or.inl (by decide)), hV15, y_up_ne (Or.inl (by decide)), hV14, y_up_ne (Or.inl (by decide)), hV13, y_bl_ne (by decide), hV12, y_bl_ne (by decide), hV11, y_bl_in a1 a2]
    · intro j a1 a2
      rw [hV22, y_up_ne (Or.inl (by decide)), hV21, y_up_ne (Or.inl (by decide)), hV20, y_up_ne (Or.inl (by decide)), hV19, y_up_ne (Or.inl (by decide)), hV18, y_up_ne (Or.inl (by decide)), hV17, y_up_ne (Or.inl (by decide)), hV16, y_up_ne (Or.inl (by decide)), hV15, y_up_ne (Or.inl (by decide)), hV14, y_up_ne (Or.inl (by decide)), hV13, y_bl_ne (by decide), hV12, y_bl_ne (by decide), hV11, y_bl_ne (by decide), hV10, y_bl_ne (by decide), hV9, y_bl_ne (by decide), hV8, y_bl_in a1 a2]
    · intro j a1 a2
      refine ⟨?_, ?_⟩
      · rw [hV22, y_up_ne (Or.inl (by decide)), hV21, y_up_ne (Or.inl (by decide)), hV20, y_up_ne (Or.inl (by decide)), hV19, y_up_ne (Or.inl (by decide)), hV18, y_up_ne (Or.inl (by decide)), hV17, y_up_ne (Or.inl (by decide)), hV16, y_up_ne (Or.inl (by decide)), hV15, y_up_ne (Or.inl (by decide)), hV14, y_up_ne (Or.inl (by decide)), hV13, y_bl_ne (by decide), hV12, y_bl_in a1 a2]
      · rw [hV22, y_up_ne (Or.inl (by decide)), hV21, y_up_ne (Or.inl (by decide)), hV20, y_up_ne (Or.inl (by decide)), hV19, y_up_ne (Or.inl (by decide)), hV18, y_up_ne (Or.inl (by decide)), hV17, y_up_ne (Or.inl (by decide)), hV16, y_up_ne (Or.inl (by decide)), hV15, y_up_ne (Or.inl (by decide)), hV14, y_up_ne (Or.inl (by decide)), hV13, y_bl_in a1 a2]
    · rw [hV22, y_up_ne (Or.inr (by decide)), hV21, y_up_ne (Or.inr (by decide)), hV20, y_up_ne (Or.inr (by decide)), hV19, y_up_eq]
    · rw [hV22, y_up_ne (Or.inr (by decide)), hV21, y_up_ne (Or.inr (by decide)), hV20, y_up_eq]
    · rw [hV22, y_up_ne (Or.inr (by decide)), hV21, y_up_eq]
    · rw [hV22, y_up_eq]
    · rw [hV22, y_up_ne (Or.inl (by decide)), hV21, y_up_ne (Or.inl (by decide)), hV20, y_up_ne (Or.inl (by decide)), hV19, y_up_ne (Or.inl (by decide)), hV18, y_up_ne (Or.inl (by decide)), hV17, y_up_ne (Or.inl (by decide)), hV16, y_up_ne (Or.inl (by decide)), hV15, y_up_ne (Or.inr (by decide)), hV14, y_up_eq]
    · rw [hV22, y_up_ne (Or.inl (by decide)), hV21, y_up_ne (Or.inl (by decide)), hV20, y_up_ne (Or.inl (by decide)), hV19, y_up_ne (Or.inl (by decide)), hV18, y_up_ne (Or.inl (by decide)), hV17, y_up_ne (Or.inl (by decide)), hV16, y_up_ne (Or.inl (by decide)), hV15, y_up_eq]
    · rw [hV22, y_up_ne (Or.inl (by decide)), hV21, y_up_ne (Or.inl (by decide)), hV20, y_up_ne (Or.inl (by decide)), hV19, y_up_ne (Or.inl (by decide)), hV18, y_up_ne (Or.inr (by decide)), hV17, y_up_ne (Or.inr (by decide)), hV16, y_up_eq]
    · rw [hV22, y_up_ne (Or.inl (by decide)), hV21, y_up_ne (Or.inl (by decide)), hV20, y_up_ne (Or.inl (by decide)), hV19, y_up_ne (Or.inl (by decide)), hV18, y_up_ne (Or.inr (by decide)), hV17, y_up_eq]
    · rw [hV22, y_up_ne (Or.inl (by decide)), hV21, y_up_ne (Or.inl (by decide)), hV20, y_up_ne (Or.inl (by decide)), hV19, y_up_ne (Or.inl (by decide)), hV18, y_up_eq]
/-- the hands told are none -/
theorem tb_clearL {d A : Nat} (hA : q_rf X d 0 = A) (hl : (q_len X A).toInt = 6) (k : Nat) : ∀ (x : Int32) (τ : ST), (2147483647 - x.toInt).toNat < k → 0 ≤ x.toInt → x.toInt ≤ 6 → tk (fun b _ => b = A) σ τ → (∀ p : Int, 0 ≤ p → p < x.toInt → (τ.1 A p.toNat).toInt = 0) → tk (fun b _ => b = A) σ (F_X5_clear_L2_1 X d k x τ) ∧ ∀ p : Int, 0 ≤ p → p < 6 → ((F_X5_clear_L2_1 X d k x τ).1 A p.toNat).toInt = 0 := by
  induction k with
  | zero => intro x τ hm; exact absurd hm (Nat.not_lt_zero _)
  | succ k ih =>
    intro x τ hm h0 h1 ht hz
    have hb := ar_bd x
    rw [F_X5_clear_L2_1_s]
    unfold F_X5_clear_B2_1
    rw [hA, q_letE, hl]
    by_cases q : x.toInt < 6
    · rw [if_pos q, q_letE, q_letE]
      have e : (x + 1).toInt = x.toInt + 1 := y_inc (by omega)
      refine ih (x + 1) _ (by omega) (by omega) (by omega) (ht.si _ rfl) (fun p p0 p1 => ?_)
      show (if A = A ∧ p.toNat = x.toNatClampNeg then (0 : Int32) else τ.1 A p.toNat).toInt = 0
      by_cases q2 : p = x.toInt
      · rw [if_pos ⟨rfl, by rw [ar_cl, q2]⟩]
        rfl
      · rw [if_neg (fun z => q2 (by have := z.2; rw [ar_cl] at this; omega))]
        exact hz p p0 (by omega)
    · rw [if_neg q]
      exact ⟨ht, fun p p0 p1 => hz p p0 (by omega)⟩
theorem tb_clear (hl : q_ln X (tb_T X D) = 6) : tk (fun b _ => b = tb_T X D) σ (F_X5_clear X σ (q_rf X D 11)) ∧ ∀ p : Int, 0 ≤ p → p < 6 → ((F_X5_clear X σ (q_rf X D 11)).1 (tb_T X D) p.toNat).toInt = 0 := by
  have h6 : (q_len X (tb_T X D)).toInt = 6 := by
    unfold q_len
    rw [hl]
    rfl
  unfold F_X5_clear
  exact tb_clearL (X := X) (σ := σ) (d := q_rf X D 11) (A := tb_T X D) rfl h6 _ 0 σ (by decide) (by decide) (by decide) tk.rf (fun p p0 p1 => by have : (0 : Int32).toInt = 0 := rfl; omega)
/-- cells kept, but for those of S and the reader's text -/
def tkr (S : Nat → Nat → Prop) (R : Nat) (σ τ : ST) : Prop := (∀ b f, ¬ S b f → τ.1 b f = σ.1 b f) ∧ τ.2.1 = σ.2.1 ∧ ∀ b, b ≠ R → τ.2.2 b = σ.2.2 b
theorem tk.kr {S : Nat → Nat → Prop} {R : Nat} (h : tk S σ τ) : tkr S R σ τ := ⟨h.1, by rw [h.2], fun b _ => by rw [h.2]⟩
theorem tkr.tr {S : Nat → Nat → Prop} {R : Nat} {ρ : ST} (h : tkr S R σ τ) (k : tkr S R τ ρ) : tkr S R σ ρ := ⟨fun b f q => (k.1 b f q).trans (h.1 b f q), k.2.1.trans h.2.1, fun b q => (k.2.2 b q).trans (h.2.2 b q)⟩
/-- the class begins to read -/
theorem tc_start (hTl : q_ln X T = 900) (hTD : T ≠ D) {v : Int32} (hv : v.toInt = n) (hn : 0 ≤ n ∧ n ≤ 900) (hB : ∀ p : Int, 0 ≤ p → p < n → (σ.1 T p.toNat).toInt = B p ∧ -128 ≤ B p ∧ B p ≤ 127) :
    ∃ ρ : ST, F_X3_start X σ D T v = F_X3_advance X ρ D ∧ tc_E X ρ D T n B ∧ (ρ.1 D 3).toInt = 0 ∧ (ρ.1 D 6).toInt = 0 ∧ (ρ.1 D 7).toInt = -1 ∧ tkr (fun b f => b = D ∧ (f = 1 ∨ f = 3 ∨ f = 6 ∨ f = 7)) D σ ρ := by
  have hl : (q_len X T).toInt = 900 := tc_len hTl
  have z0 : (0 : Int32).toInt = 0 := rfl
  have mn : (F_J9_min_7cf53 X (q_st σ D T) v (q_len X T)).toInt = n := by
    unfold F_J9_min_7cf53
    rw [hl, hv]
    by_cases q : 900 < n
    · omega
    · rw [if_neg q, hv]
  have mx : (F_J9_max_7cf53 X (q_st σ D T) 0 (F_J9_min_7cf53 X (q_st σ D T) v (q_len X T))).toInt = n := by
    unfold F_J9_max_7cf53
    rw [mn, z0]
    by_cases q : 0 < n
    · rw [if_pos q, mn]
    · rw [if_neg q, z0]
      omega
  unfold F_X3_start
  rw [q_letE (q_st σ D T), q_letE (q_len X T), q_letE (F_J9_min_7cf53 X (q_st σ D T) v (q_len X T)), q_letE (F_J9_max_7cf53 X (q_st σ D T) 0 (F_J9_min_7cf53 X (q_st σ D T) v (q_len X T)))]
  obtain ⟨m, hm⟩ : ∃ m, m = F_J9_max_7cf53 X (q_st σ D T) 0 (F_J9_min_7cf53 X (q_st σ D T) v (q_len X T)) := ⟨_, rfl⟩
  rw [← hm] at mx ⊢
  rw [q_letE, q_letE, q_letE, q_letE, q_letE]
  obtain ⟨ρ, hρ⟩ : ∃ s, s = q_si (q_si (q_si (q_si (q_st σ D T) D 1 m) D 3 0) D 6 0) D 7 (-1) := ⟨_, rfl⟩
  rw [← hρ]
  have t : tk (fun b f => b = D ∧ (f = 1 ∨ f = 3 ∨ f = 6 ∨ f = 7)) (q_st σ D T) ρ := by
    rw [hρ]
    exact ((((tk.rf.si _ ⟨rfl, Or.inl rfl⟩).si _ ⟨rfl, Or.inr (Or.inl rfl)⟩).si _ ⟨rfl, Or.inr (Or.inr (Or.inl rfl))⟩).si _ ⟨rfl, Or.inr (Or.inr (Or.inr rfl))⟩)
  have c1 : ρ.1 D 1 = m := by rw [hρ, si_f (by decide), si_f (by decide), si_f (by decide), si_eq]
  have c3 : ρ.1 D 3 = 0 := by rw [hρ, si_f (by decide), si_f (by decide), si_eq]
  have c6 : ρ.1 D 6 = 0 := by rw [hρ, si_f (by decide), si_eq]
  have c7 : ρ.1 D 7 = -1 := by rw [hρ, si_eq]
  have cT : ρ.2.2 D = T := by
    rw [t.2]
    show (if D = D then T else σ.2.2 D) = T
    rw [if_pos rfl]
  refine ⟨ρ, rfl, ⟨cT, by rw [c1]; exact mx, hn, hTD, hTl, fun p p0 p1 => ?_⟩, by rw [c3]; rfl, by rw [c6]; rfl, by rw [c7]; rfl, fun b f q => ?_, ?_, fun b q => ?_⟩
  · rw [t.1 T _ (fun q => hTD q.1)]
    exact hB p p0 p1
  · exact t.1 b f q
  · rw [t.2]
    rfl
  · rw [t.2]
    show (if b = D then T else σ.2.2 b) = _
    rw [if_neg q]
end TK
