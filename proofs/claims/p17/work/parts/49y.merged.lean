/-! FROM 49y.ends.lean.txt -/
/-! A ROUND BEING READ: the body's ends, an end read, a step read by both -/
section RY
variable {X : XW} {lb : Nat → Nat} {R T a g : Nat} {σ τ σ' τ' : ST} {n dp s L : Int} {B c w : Int → Int} {U Vg : Nat → Int → Int}
theorem ls_flat_0 (x3 z v : Int32) (hx : x3.toInt = 0) (fu : Nat) (hf : 0 < fu) : F_X12_readStep_d0_L140_5 X x3 z a fu τ = q_si τ (q_rf X a 20) (z + 8).toNatClampNeg (τ.1 a 27) := by
  obtain ⟨k, rfl⟩ : ∃ k, fu = k + 1 := ⟨fu - 1, by omega⟩
  rw [F_X12_readStep_d0_L140_5_s]
  unfold F_X12_readStep_d0_B140_5
  rw [if_pos hx]
  unfold F_X12_readStep_d0_E168_6
  rw [if_pos hx, q_letE, q_letE, q_letE]
theorem ls_flat_1 (x3 z v : Int32) (hx : x3.toInt = 0) (fu : Nat) (hf : 0 < fu) : F_X12_readStep_d1_L140_5 X x3 z a v fu τ = q_si τ (q_rf X a 20) (z + 8).toNatClampNeg (τ.1 a 27) := by
  obtain ⟨k, rfl⟩ : ∃ k, fu = k + 1 := ⟨fu - 1, by omega⟩
  rw [F_X12_readStep_d1_L140_5_s]
  unfold F_X12_readStep_d1_B140_5
  rw [if_pos hx]
  unfold F_X12_readStep_d1_E168_6
  rw [if_pos hx, q_letE, q_letE, q_letE]
theorem ls_bad_1 (x3 z v : Int32) (hx : ¬ x3.toInt = 0) (fu : Nat) (hf : 0 < fu) (h : 0 < (τ.1 a 12).toInt) : F_X12_readStep_d1_L140_5 X x3 z a v fu τ = q_si τ (q_rf X a 20) (z + 8).toNatClampNeg (τ.1 a 27) := by
  obtain ⟨k, rfl⟩ : ∃ k, fu = k + 1 := ⟨fu - 1, by omega⟩
  rw [F_X12_readStep_d1_L140_5_s]
  unfold F_X12_readStep_d1_B140_5
  rw [if_neg hx, q_letE (τ.1 a 12), if_neg (by omega : ¬ (τ.1 a 12).toInt = 0)]
  unfold F_X12_readStep_d1_E168_7
  rw [if_neg hx, q_letE (F_X12_isEnd X τ a), q_letE (F_X12_must X τ a (F_X12_isEnd X τ a)), tm_must2 h, q_letE (F_X12_isSign X τ a 59), q_letE (F_X12_must X τ a (F_X12_isSign X τ a 59)), tm_must2 h, q_letE, q_letE, q_letE]
theorem ls_end_1 (x3 z v : Int32) (hx : ¬ x3.toInt = 0) (fu : Nat) (hf : 0 < fu) (h : (τ.1 a 12).toInt = 0) (he : ¬ (F_X12_isEnd X τ a).toInt = 0) {τ5 : ST} (h5 : τ5 = F_X12_must X (F_X12_must X τ a (F_X12_isEnd X τ a)) a (F_X12_isSign X (F_X12_must X τ a (F_X12_isEnd X τ a)) a 59)) : F_X12_readStep_d1_L140_5 X x3 z a v fu τ = q_si τ5 (q_rf X a 20) (z + 8).toNatClampNeg (τ5.1 a 27) := by
  obtain ⟨k, rfl⟩ : ∃ k, fu = k + 1 := ⟨fu - 1, by omega⟩
  rw [F_X12_readStep_d1_L140_5_s]
  unfold F_X12_readStep_d1_B140_5
  rw [if_neg hx, q_letE (τ.1 a 12), if_pos h, q_letE (F_X12_isEnd X τ a), if_neg he]
  unfold F_X12_readStep_d1_E168_8
  rw [if_neg hx, q_letE (F_X12_isEnd X τ a), q_letE (F_X12_must X τ a (F_X12_isEnd X τ a)), q_letE (F_X12_isSign X (F_X12_must X τ a (F_X12_isEnd X τ a)) a 59), q_letE, ← h5, q_letE, q_letE, q_letE]
theorem ls_rec_1 (x3 z v : Int32) (hx : ¬ x3.toInt = 0) (fu : Nat) (h : (τ.1 a 12).toInt = 0) (he : (F_X12_isEnd X τ a).toInt = 0) : F_X12_readStep_d1_L140_5 X x3 z a v (fu + 1) τ = F_X12_readStep_d1_L140_5 X x3 z a v fu (F_X12_readStep_d0 X τ a (v + 1)) := by
  rw [F_X12_readStep_d1_L140_5_s]
  unfold F_X12_readStep_d1_B140_5
  rw [if_neg hx, q_letE (τ.1 a 12), if_pos h, q_letE (F_X12_isEnd X τ a), if_pos he, q_letE (v + 1), q_letE]
theorem ls_flat_2 (x3 z v : Int32) (hx : x3.toInt = 0) (fu : Nat) (hf : 0 < fu) : F_X12_readStep_d2_L140_5 X x3 z a v fu τ = q_si τ (q_rf X a 20) (z + 8).toNatClampNeg (τ.1 a 27) := by
  obtain ⟨k, rfl⟩ : ∃ k, fu = k + 1 := ⟨fu - 1, by omega⟩
  rw [F_X12_readStep_d2_L140_5_s]
  unfold F_X12_readStep_d2_B140_5
  rw [if_pos hx]
  unfold F_X12_readStep_d2_E168_6
  rw [if_pos hx, q_letE, q_letE, q_letE]
theorem ls_bad_2 (x3 z v : Int32) (hx : ¬ x3.toInt = 0) (fu : Nat) (hf : 0 < fu) (h : 0 < (τ.1 a 12).toInt) : F_X12_readStep_d2_L140_5 X x3 z a v fu τ = q_si τ (q_rf X a 20) (z + 8).toNatClampNeg (τ.1 a 27) := by
  obtain ⟨k, rfl⟩ : ∃ k, fu = k + 1 := ⟨fu - 1, by omega⟩
  rw [F_X12_readStep_d2_L140_5_s]
  unfold F_X12_readStep_d2_B140_5
  rw [if_neg hx, q_letE (τ.1 a 12), if_neg (by omega : ¬ (τ.1 a 12).toInt = 0)]
  unfold F_X12_readStep_d2_E168_7
  rw [if_neg hx, q_letE (F_X12_isEnd X τ a), q_letE (F_X12_must X τ a (F_X12_isEnd X τ a)), tm_must2 h, q_letE (F_X12_isSign X τ a 59), q_letE (F_X12_must X τ a (F_X12_isSign X τ a 59)), tm_must2 h, q_letE, q_letE, q_letE]
theorem ls_end_2 (x3 z v : Int32) (hx : ¬ x3.toInt = 0) (fu : Nat) (hf : 0 < fu) (h : (τ.1 a 12).toInt = 0) (he : ¬ (F_X12_isEnd X τ a).toInt = 0) {τ5 : ST} (h5 : τ5 = F_X12_must X (F_X12_must X τ a (F_X12_isEnd X τ a)) a (F_X12_isSign X (F_X12_must X τ a (F_X12_isEnd X τ a)) a 59)) : F_X12_readStep_d2_L140_5 X x3 z a v fu τ = q_si τ5 (q_rf X a 20) (z + 8).toNatClampNeg (τ5.1 a 27) := by
  obtain ⟨k, rfl⟩ : ∃ k, fu = k + 1 := ⟨fu - 1, by omega⟩
  rw [F_X12_readStep_d2_L140_5_s]
  unfold F_X12_readStep_d2_B140_5
  rw [if_neg hx, q_letE (τ.1 a 12), if_pos h, q_letE (F_X12_isEnd X τ a), if_neg he]
  unfold F_X12_readStep_d2_E168_8
  rw [if_neg hx, q_letE (F_X12_isEnd X τ a), q_letE (F_X12_must X τ a (F_X12_isEnd X τ a)), q_letE (F_X12_isSign X (F_X12_must X τ a (F_X12_isEnd X τ a)) a 59), q_letE, ← h5, q_letE, q_letE, q_letE]
theorem ls_rec_2 (x3 z v : Int32) (hx : ¬ x3.toInt = 0) (fu : Nat) (h : (τ.1 a 12).toInt = 0) (he : (F_X12_isEnd X τ a).toInt = 0) : F_X12_readStep_d2_L140_5 X x3 z a v (fu + 1) τ = F_X12_readStep_d2_L140_5 X x3 z a v fu (F_X12_readStep_d1 X τ a (v + 1)) := by
  rw [F_X12_readStep_d2_L140_5_s]
  unfold F_X12_readStep_d2_B140_5
  rw [if_neg hx, q_letE (τ.1 a 12), if_pos h, q_letE (F_X12_isEnd X τ a), if_pos he, q_letE (v + 1), q_letE]
theorem ls_flat_3 (x3 z v : Int32) (hx : x3.toInt = 0) (fu : Nat) (hf : 0 < fu) : F_X12_readStep_d3_L140_5 X x3 z a v fu τ = q_si τ (q_rf X a 20) (z + 8).toNatClampNeg (τ.1 a 27) := by
  obtain ⟨k, rfl⟩ : ∃ k, fu = k + 1 := ⟨fu - 1, by omega⟩
  rw [F_X12_readStep_d3_L140_5_s]
  unfold F_X12_readStep_d3_B140_5
  rw [if_pos hx]
  unfold F_X12_readStep_d3_E168_6
  rw [if_pos hx, q_letE, q_letE, q_letE]
theorem ls_bad_3 (x3 z v : Int32) (hx : ¬ x3.toInt = 0) (fu : Nat) (hf : 0 < fu) (h : 0 < (τ.1 a 12).toInt) : F_X12_readStep_d3_L140_5 X x3 z a v fu τ = q_si τ (q_rf X a 20) (z + 8).toNatClampNeg (τ.1 a 27) := by
  obtain ⟨k, rfl⟩ : ∃ k, fu = k + 1 := ⟨fu - 1, by omega⟩
  rw [F_X12_readStep_d3_L140_5_s]
  unfold F_X12_readStep_d3_B140_5
  rw [if_neg hx, q_letE (τ.1 a 12), if_neg (by omega : ¬ (τ.1 a 12).toInt = 0)]
  unfold F_X12_readStep_d3_E168_7
  rw [if_neg hx, q_letE (F_X12_isEnd X τ a), q_letE (F_X12_must X τ a (F_X12_isEnd X τ a)), tm_must2 h, q_letE (F_X12_isSign X τ a 59), q_letE (F_X12_must X τ a (F_X12_isSign X τ a 59)), tm_must2 h, q_letE, q_letE, q_letE]
theorem ls_end_3 (x3 z v : Int32) (hx : ¬ x3.toInt = 0) (fu : Nat) (hf : 0 < fu) (h : (τ.1 a 12).toInt = 0) (he : ¬ (F_X12_isEnd X τ a).toInt = 0) {τ5 : ST} (h5 : τ5 = F_X12_must X (F_X12_must X τ a (F_X12_isEnd X τ a)) a (F_X12_isSign X (F_X12_must X τ a (F_X12_isEnd X τ a)) a 59)) : F_X12_readStep_d3_L140_5 X x3 z a v fu τ = q_si τ5 (q_rf X a 20) (z + 8).toNatClampNeg (τ5.1 a 27) := by
  obtain ⟨k, rfl⟩ : ∃ k, fu = k + 1 := ⟨fu - 1, by omega⟩
  rw [F_X12_readStep_d3_L140_5_s]
  unfold F_X12_readStep_d3_B140_5
  rw [if_neg hx, q_letE (τ.1 a 12), if_pos h, q_letE (F_X12_isEnd X τ a), if_neg he]
  unfold F_X12_readStep_d3_E168_8
  rw [if_neg hx, q_letE (F_X12_isEnd X τ a), q_letE (F_X12_must X τ a (F_X12_isEnd X τ a)), q_letE (F_X12_isSign X (F_X12_must X τ a (F_X12_isEnd X τ a)) a 59), q_letE, ← h5, q_letE, q_letE, q_letE]
theorem ls_rec_3 (x3 z v : Int32) (hx : ¬ x3.toInt = 0) (fu : Nat) (h : (τ.1 a 12).toInt = 0) (he : (F_X12_isEnd X τ a).toInt = 0) : F_X12_readStep_d3_L140_5 X x3 z a v (fu + 1) τ = F_X12_readStep_d3_L140_5 X x3 z a v fu (F_X12_readStep_d2 X τ a (v + 1)) := by
  rw [F_X12_readStep_d3_L140_5_s]
  unfold F_X12_readStep_d3_B140_5
  rw [if_neg hx, q_letE (τ.1 a 12), if_pos h, q_letE (F_X12_isEnd X τ a), if_pos he, q_letE (v + 1), q_letE]
/-- which step stands here, for both -/
theorem rd_act (I : rd_I X R T a g n B Vg w σ τ U dp c s) : ((F_X4_actionHere X σ R).toInt = -1 ∧ (F_X12_stepWord X τ a).toInt = -1) ∨ (rd_k (F_X12_stepWord X τ a).toInt (F_X4_actionHere X σ R).toInt ∧ (τ.1 a 14).toInt = 1) := by
  obtain ⟨S, M, K, h0, hV⟩ := I
  have tw := tm_stepWord (X := X) (σ := τ) (a := a)
  have c14 : y_cw 14 = 677454 := rfl
  have c9 : y_cw 9 = 402611 := rfl
  have c10 : y_cw 10 = 150637203 := rfl
  have c17 : y_cw 17 = 762030 := rfl
  have c16 : y_cw 16 = 409072 := rfl
  have c15 : y_cw 15 = 643568 := rfl
  have iw : ∀ rr : Nat, y_isw rr → (F_X3_isWord X σ R rr).toInt = if (τ.1 a 14).toInt = 1 ∧ (τ.2.1 a 19).toInt = y_cw rr then 1 else 0 := fun rr hr => tl_isWord S.1 K hr
  have i1 : ∀ rr : Nat, y_isw rr → (τ.1 a 14).toInt = 1 ∧ (τ.2.1 a 19).toInt = y_cw rr → ¬ (F_X3_isWord X σ R rr).toInt = 0 := fun rr hr h => by rw [iw rr hr, if_pos h]; decide
  have i0 : ∀ rr : Nat, y_isw rr → ¬ ((τ.1 a 14).toInt = 1 ∧ (τ.2.1 a 19).toInt = y_cw rr) → (F_X3_isWord X σ R rr).toInt = 0 := fun rr hr h => by rw [iw rr hr, if_neg h]
  rw [tw]
  unfold F_X4_actionHere rd_k
  rw [q_letE (F_X3_isWord X σ R 14)]
  by_cases w14 : (τ.1 a 14).toInt = 1 ∧ (τ.2.1 a 19).toInt = 677454
  · rw [if_pos w14, if_neg (i1 14 ⟨by decide, by decide⟩ w14)]
    exact Or.inr ⟨Or.inl ⟨rfl, rfl⟩, w14.1⟩
  rw [if_neg w14, if_pos (i0 14 ⟨by decide, by decide⟩ w14), q_letE (F_X3_isWord X σ R 9)]
  by_cases w9 : (τ.1 a 14).toInt = 1 ∧ (τ.2.1 a 19).toInt = 402611
  · rw [if_pos w9, if_neg (i1 9 ⟨by decide, by decide⟩ w9)]
    exact Or.inr ⟨Or.inr (Or.inl ⟨rfl, rfl⟩), w9.1⟩
  rw [if_neg w9, if_pos (i0 9 ⟨by decide, by decide⟩ w9), q_letE (F_X3_isWord X σ R 10)]
  by_cases w10 : (τ.1 a 14).toInt = 1 ∧ (τ.2.1 a 19).toInt = 150637203
  · rw [if_pos w10, if_neg (i1 10 ⟨by decide, by decide⟩ w10)]
    exact Or.inr ⟨Or.inr (Or.inr (Or.inl ⟨rfl, rfl⟩)), w10.1⟩
  rw [if_neg w10, if_pos (i0 10 ⟨by decide, by decide⟩ w10), q_letE (F_X3_isWord X σ R 15)]
  by_cases w15 : (τ.1 a 14).toInt = 1 ∧ (τ.2.1 a 19).toInt = 643568
  · rw [if_neg (show ¬ ((τ.1 a 14).toInt = 1 ∧ (τ.2.1 a 19).toInt = 762030) from fun z => by omega), if_neg (show ¬ ((τ.1 a 14).toInt = 1 ∧ (τ.2.1 a 19).toInt = 409072) from fun z => by omega), if_pos w15, if_neg (i1 15 ⟨by decide, by decide⟩ w15)]
    exact Or.inr ⟨Or.inr (Or.inr (Or.inr (Or.inl ⟨rfl, rfl⟩))), w15.1⟩
  rw [if_pos (i0 15 ⟨by decide, by decide⟩ w15), q_letE (F_X3_isWord X σ R 16)]
  by_cases w16 : (τ.1 a 14).toInt = 1 ∧ (τ.2.1 a 19).toInt = 409072
  · rw [if_neg (show ¬ ((τ.1 a 14).toInt = 1 ∧ (τ.2.1 a 19).toInt = 762030) from fun z => by omega), if_pos w16, if_neg (i1 16 ⟨by decide, by decide⟩ w16)]
    exact Or.inr ⟨Or.inr (Or.inr (Or.inr (Or.inr (Or.inl ⟨rfl, rfl⟩)))), w16.1⟩
  rw [if_pos (i0 16 ⟨by decide, by decide⟩ w16), q_letE (F_X3_isWord X σ R 17)]
  by_cases w17 : (τ.1 a 14).toInt = 1 ∧ (τ.2.1 a 19).toInt = 762030
  · rw [if_pos w17, if_neg (i1 17 ⟨by decide, by decide⟩ w17)]
    exact Or.inr ⟨Or.inr (Or.inr (Or.inr (Or.inr (Or.inr ⟨rfl, rfl⟩)))), w17.1⟩
  · rw [if_neg w17, if_neg w16, if_neg w15, if_pos (i0 17 ⟨by decide, by decide⟩ w17)]
    exact Or.inl ⟨rfl, rfl⟩
/-- an end read by both -/
theorem op_end (Y : y_S X lb) (D : rd_D X lb R T) (ha : q_kd X a = 12) (G : y_G X lb g 1) (I : rd_I X R T a g n B Vg w σ τ U (dp + 1) c s) (hd : 0 ≤ dp ∧ dp < 3) (hL : U 0 2 = L) (hl : 0 ≤ L ∧ L < 60) {l0 : Int} (h6 : U 6 dp = l0) (hl0 : 0 ≤ l0 ∧ l0 < L) (he : ¬ (F_X12_isEnd X τ a).toInt = 0) {τ5 : ST} (h5 : τ5 = F_X12_must X (F_X12_must X τ a (F_X12_isEnd X τ a)) a (F_X12_isSign X (F_X12_must X τ a (F_X12_isEnd X τ a)) a 59)) :
    ∃ (z : Int32) (σ' : ST), F_X4_readEnd X σ R = (z, σ') ∧ rd_Fr X R a σ σ' τ τ5 ∧ ((z.toInt = 1 ∧ rd_I X R T a g n B Vg w σ' τ5 (y_up (y_up (y_up (y_up U 1 L 9) 0 2 (L + 1)) 2 L l0) 2 l0 L) dp c s ∧ (τ.1 a 15).toInt < (τ5.1 a 15).toInt) ∨ (z.toInt = 0 ∧ tl_F σ' R τ5 a)) := by
  obtain ⟨S, M, K, h0, hV⟩ := I
  have hT := Y.1
  have kb := K.b
  have one : (1 : Int32).toInt = 1 := rfl
  have n6 : ((rdN 6 : Nat) : Int) = 3 := rfl
  have n2 : ((rdN 2 : Nat) : Int) = 60 := rfl
  have ty : (τ.1 a 14).toInt = 1 := by
    rw [tm_isEnd] at he
    by_cases q : (τ.1 a 14).toInt = 1 ∧ (τ.2.1 a 19).toInt = 5572
    · exact q.1
    · rw [if_neg q] at he
      exact absurd rfl he
  unfold F_X4_readEnd
  have f10 : (σ.1 R 10).toInt = dp + 1 := S.2.2
  rw [q_letE (σ.1 R 10), if_neg (by omega : ¬ (σ.1 R 10).toInt = 0), q_letE (σ.1 R 10)]
  obtain ⟨u, hu⟩ : ∃ u, u = σ.1 R 10 - 1 := ⟨_, rfl⟩
  have uv : u.toInt = dp := by rw [hu, ar_sub, f10, one, ar_wr (by omega) (by omega)]; omega
  rw [← hu, q_letE u, q_letE (q_si σ R 10 u)]
  obtain ⟨S1, x1⟩ := S.dep D u
  rw [uv] at S1
  have sc1 := rd_sameD (σ := σ) (R := R) u
  obtain ⟨σ1, e1⟩ : ∃ t, t = q_si σ R 10 u := ⟨_, rfl⟩
  rw [← e1] at S1 x1 sc1 ⊢
  have g7 : (F_X5_get X σ1 (q_rf X R 9) (σ1.1 R 10)).toInt = l0 := (S1.get Y D (id := 6) (r := q_rf X R 9) ⟨by decide, by decide⟩ rfl S1.2.2 hd.1 (by rw [n6]; exact hd.2)).trans h6
  rw [q_letE (σ1.1 R 10), q_letE (F_X5_get X σ1 (q_rf X R 9) (σ1.1 R 10))]
  obtain ⟨r7, hr7⟩ : ∃ u, u = F_X5_get X σ1 (q_rf X R 9) (σ1.1 R 10) := ⟨_, rfl⟩
  rw [← hr7] at g7 ⊢
  obtain ⟨z8, σ2, e2, hz8, S2, x2, sc2⟩ := op_add Y D S1 hL hl 9
  rw [e2, q_biP z8 σ2]
  have e9 : (9 : Int32).toInt = 9 := rfl
  rw [e9] at S2
  obtain ⟨S3, x3⟩ := S2.set Y D (id := 2) (r := q_rf X (q_rf X R 8) 4) ⟨by decide, by decide⟩ rfl hz8 r7 hl.1 (by rw [n2]; exact hl.2)
  have sc3 := rd_sameS (σ := σ2) Y D (id := 2) (r := q_rf X (q_rf X R 8) 4) ⟨by decide, by decide⟩ rfl (x := z8) r7 (by omega) (by rw [n2]; omega)
  rw [g7] at S3
  rw [q_letE (F_X5_set X σ2 (q_rf X (q_rf X R 8) 4) z8 r7)]
  obtain ⟨σ3, e3⟩ : ∃ t, t = F_X5_set X σ2 (q_rf X (q_rf X R 8) 4) z8 r7 := ⟨_, rfl⟩
  rw [← e3] at S3 x3 sc3 ⊢
  obtain ⟨S4, x4⟩ := S3.set Y D (id := 2) (r := q_rf X (q_rf X R 8) 4) ⟨by decide, by decide⟩ rfl g7 z8 hl0.1 (by rw [n2]; omega)
  have sc4 := rd_sameS (σ := σ3) Y D (id := 2) (r := q_rf X (q_rf X R 8) 4) ⟨by decide, by decide⟩ rfl (x := r7) z8 (by omega) (by rw [n2]; omega)
  rw [hz8] at S4
  rw [q_letE (F_X5_set X σ3 (q_rf X (q_rf X R 8) 4) r7 z8)]
  obtain ⟨σ4, e4⟩ : ∃ t, t = F_X5_set X σ3 (q_rf X (q_rf X R 8) 4) r7 z8 := ⟨_, rfl⟩
  rw [← e4] at S4 x4 sc4 ⊢
  have K4 := K.same (fun f a1 a2 => (sc4 f a1 a2).trans ((sc3 f a1 a2).trans ((sc2 f a1 a2).trans (sc1 f a1 a2)))) (tl_same.rf (a := a) (τ := τ))
  have fr4 := rd_Fr.cl (a := a) (τ := τ) (((x1.tr x2).tr x3).tr x4)
  obtain ⟨y1, y2, K5, g5⟩ := tl_adv2 S4.1 M.1 K4
  obtain ⟨S5, f5⟩ := S4.rd D y1.S2
  have M5 := M.rd hT ha y2.S2
  have fr5 := fr4.tr (rd_Fr.rd (τ := τ) hT ha D S4 y1.S2 y2.S2)
  have h05 : ((F_X12_next X τ a).1 a 12).toInt = 0 := by rw [tn_12 y2]; exact h0
  rw [tm_must1 h0 he] at h5
  rw [q_letE (F_X3_advance X σ4 R)]
  obtain ⟨z6, σ6, e6, hz6, ⟨w1, w2, w3⟩⟩ := tl_passSemi S5.1 M5.1 K5 h05
  obtain ⟨S6, f6⟩ := S5.rd D w1
  have M6 := M5.rd hT ha w2
  have fr6 := fr5.tr (rd_Fr.rd (τ := F_X12_next X τ a) hT ha D S5 w1 w2)
  have V6 : y_v X g σ6 = Vg := by rw [fr6.1.v Y D G (by decide), hV]
  rw [← h5] at w2 w3 M6 fr6
  rw [e6, q_biP z6 σ6]
  have k5b := K5.b
  rcases w3 with ⟨q1, K7, h07, g7'⟩ | ⟨q1, F7⟩
  · exact ⟨z6, σ6, rfl, fr6, Or.inl ⟨q1, ⟨S6, M6, K7, h07, V6⟩, by omega⟩⟩
  · exact ⟨z6, σ6, rfl, fr6, Or.inr ⟨by omega, F7⟩⟩
end RY
