/-! FROM 49x.depths.lean.txt -/
/-! A ROUND BEING READ: the reference's step at each depth *d0* to *d3*, up to its body -/
section RX
variable {X : XW} {a : Nat} {τ : ST}
theorem rs_81_0 (r x3 v : Int32) (h : 0 < (τ.1 a 12).toInt) : F_X12_readStep_d0_J81_4 X a r x3 τ = τ := by
  unfold F_X12_readStep_d0_J81_4
  rw [q_letE, if_pos h]
theorem rs_55_0 (r x3 v : Int32) (h : 0 < (τ.1 a 12).toInt) : F_X12_readStep_d0_J55_3 X a x3 r v τ = τ := by
  unfold F_X12_readStep_d0_J55_3
  rw [q_letE, if_neg (by omega), rs_81_0 r x3 v h]
theorem rs_29_0 (r x3 v : Int32) (h : 0 < (τ.1 a 12).toInt) : F_X12_readStep_d0_J29_2 X a x3 r v τ = τ := by
  unfold F_X12_readStep_d0_J29_2
  rw [q_letE, if_neg (by omega), rs_55_0 r x3 v h]
theorem rs_d_0 (v : Int32) : F_X12_readStep_d0 X τ a v = F_X12_readStep_d0_J20_1 X (F_X12_stepWord X τ a) τ a v (if (F_X12_stepWord X τ a).toInt = 3 ∨ (F_X12_stepWord X τ a).toInt = 4 then 1 else 0) := by
  unfold F_X12_readStep_d0
  rw [q_letE]
  by_cases q3 : (F_X12_stepWord X τ a).toInt = 3
  · rw [if_pos q3, if_pos (Or.inl q3)]
  · rw [if_neg q3]
    by_cases q4 : (F_X12_stepWord X τ a).toInt = 4
    · rw [if_pos q4, if_pos (Or.inr q4)]
    · rw [if_neg q4, if_neg (fun z => z.elim q3 q4)]
theorem rs_a_0 (r x3 v : Int32) (hr : r.toInt < 0) (h : 0 < ((F_X12_wrong X τ a).1 a 12).toInt) : F_X12_readStep_d0_J20_1 X r τ a v x3 = F_X12_wrong X τ a := by
  unfold F_X12_readStep_d0_J20_1
  rw [if_pos hr, q_letE, rs_29_0 r x3 v h]
theorem rs_b_0 (r x3 v : Int32) (h0 : (τ.1 a 12).toInt = 0) (hr : ¬ r.toInt < 0) (hs : (τ.1 a 27).toInt = 30) (h : 0 < ((F_X12_fail X τ a 6 (τ.1 a 15)).1 a 12).toInt) : F_X12_readStep_d0_J20_1 X r τ a v x3 = F_X12_fail X τ a 6 (τ.1 a 15) := by
  unfold F_X12_readStep_d0_J20_1 F_X12_readStep_d0_J29_2
  rw [if_neg hr, q_letE (τ.1 a 12), h0, if_pos rfl, q_letE (τ.1 a 27), if_pos hs, q_letE (τ.1 a 15), q_letE, rs_55_0 r x3 v h]
theorem rs_c_0 (r x3 v : Int32) (h0 : (τ.1 a 12).toInt = 0) (hr : ¬ r.toInt < 0) (hs : ¬ (τ.1 a 27).toInt = 30) (hx : ¬ x3.toInt = 0) (hv : v.toInt = 3) (h : 0 < ((F_X12_fail X τ a 7 (τ.1 a 15)).1 a 12).toInt) : F_X12_readStep_d0_J20_1 X r τ a v x3 = F_X12_fail X τ a 7 (τ.1 a 15) := by
  unfold F_X12_readStep_d0_J20_1 F_X12_readStep_d0_J29_2 F_X12_readStep_d0_J55_3
  rw [if_neg hr, q_letE (τ.1 a 12), h0, if_pos rfl, q_letE (τ.1 a 27), if_neg hs, q_letE (τ.1 a 12), h0, if_pos rfl, if_neg hx, if_pos hv, q_letE (τ.1 a 15), q_letE, rs_81_0 r x3 v h]
theorem rs_e_0 (r x3 v : Int32) (h0 : (τ.1 a 12).toInt = 0) (hr : ¬ r.toInt < 0) (hs : ¬ (τ.1 a 27).toInt = 30) (hx : x3.toInt = 0 ∨ ¬ v.toInt = 3) : ∃ fu : Nat, ((901 - ((hd_M X a r τ).1 a 15).toInt).toNat + (1 - ((hd_M X a r τ).1 a 12).toInt).toNat) < fu ∧ F_X12_readStep_d0_J20_1 X r τ a v x3 = F_X12_readStep_d0_L140_5 X x3 ((4376 : Int32) + 9 * τ.1 a 27) a fu (hd_M X a r τ) := by
  refine ⟨(901 - ((hd_M X a r τ).1 a 15).toInt).toNat + (1 - ((hd_M X a r τ).1 a 12).toInt).toNat + 1, Nat.lt_succ_self _, ?_⟩
  have e : F_X12_readStep_d0_J81_4 X a r x3 τ = F_X12_readStep_d0_L140_5 X x3 ((4376 : Int32) + 9 * τ.1 a 27) a ((901 - ((hd_M X a r τ).1 a 15).toInt).toNat + (1 - ((hd_M X a r τ).1 a 12).toInt).toNat + 1) (hd_M X a r τ) := by
    unfold F_X12_readStep_d0_J81_4
    rw [q_letE (τ.1 a 12), h0, if_neg (by decide : ¬ (0 : Int) < 0), q_letE (τ.1 a 27), q_letE ((9 : Int32) * τ.1 a 27), q_letE ((4376 : Int32) + 9 * τ.1 a 27), q_letE (τ.1 a 27), q_letE (τ.1 a 27 + 1), q_letE, q_letE, q_letE, q_letE, q_letE, q_letE]
    rfl
  unfold F_X12_readStep_d0_J20_1 F_X12_readStep_d0_J29_2 F_X12_readStep_d0_J55_3
  rw [if_neg hr, q_letE (τ.1 a 12), h0, if_pos rfl, q_letE (τ.1 a 27), if_neg hs, q_letE (τ.1 a 12), h0, if_pos rfl]
  by_cases q : x3.toInt = 0
  · rw [if_pos q, e]
  · rw [if_neg q]
    rcases hx with hx | hx
    · exact absurd hx q
    · rw [if_neg hx, e]
theorem rs_81_1 (r x3 v : Int32) (h : 0 < (τ.1 a 12).toInt) : F_X12_readStep_d1_J81_4 X a r x3 v τ = τ := by
  unfold F_X12_readStep_d1_J81_4
  rw [q_letE, if_pos h]
theorem rs_55_1 (r x3 v : Int32) (h : 0 < (τ.1 a 12).toInt) : F_X12_readStep_d1_J55_3 X a x3 r v τ = τ := by
  unfold F_X12_readStep_d1_J55_3
  rw [q_letE, if_neg (by omega), rs_81_1 r x3 v h]
theorem rs_29_1 (r x3 v : Int32) (h : 0 < (τ.1 a 12).toInt) : F_X12_readStep_d1_J29_2 X a x3 r v τ = τ := by
  unfold F_X12_readStep_d1_J29_2
  rw [q_letE, if_neg (by omega), rs_55_1 r x3 v h]
theorem rs_d_1 (v : Int32) : F_X12_readStep_d1 X τ a v = F_X12_readStep_d1_J20_1 X (F_X12_stepWord X τ a) τ a v (if (F_X12_stepWord X τ a).toInt = 3 ∨ (F_X12_stepWord X τ a).toInt = 4 then 1 else 0) := by
  unfold F_X12_readStep_d1
  rw [q_letE]
  by_cases q3 : (F_X12_stepWord X τ a).toInt = 3
  · rw [if_pos q3, if_pos (Or.inl q3)]
  · rw [if_neg q3]
    by_cases q4 : (F_X12_stepWord X τ a).toInt = 4
    · rw [if_pos q4, if_pos (Or.inr q4)]
    · rw [if_neg q4, if_neg (fun z => z.elim q3 q4)]
theorem rs_a_1 (r x3 v : Int32) (hr : r.toInt < 0) (h : 0 < ((F_X12_wrong X τ a).1 a 12).toInt) : F_X12_readStep_d1_J20_1 X r τ a v x3 = F_X12_wrong X τ a := by
  unfold F_X12_readStep_d1_J20_1
  rw [if_pos hr, q_letE, rs_29_1 r x3 v h]
theorem rs_b_1 (r x3 v : Int32) (h0 : (τ.1 a 12).toInt = 0) (hr : ¬ r.toInt < 0) (hs : (τ.1 a 27).toInt = 30) (h : 0 < ((F_X12_fail X τ a 6 (τ.1 a 15)).1 a 12).toInt) : F_X12_readStep_d1_J20_1 X r τ a v x3 = F_X12_fail X τ a 6 (τ.1 a 15) := by
  unfold F_X12_readStep_d1_J20_1 F_X12_readStep_d1_J29_2
  rw [if_neg hr, q_letE (τ.1 a 12), h0, if_pos rfl, q_letE (τ.1 a 27), if_pos hs, q_letE (τ.1 a 15), q_letE, rs_55_1 r x3 v h]
theorem rs_e_1 (r x3 v : Int32) (h0 : (τ.1 a 12).toInt = 0) (hr : ¬ r.toInt < 0) (hs : ¬ (τ.1 a 27).toInt = 30) (hx : x3.toInt = 0 ∨ ¬ v.toInt = 3) : ∃ fu : Nat, ((901 - ((hd_M X a r τ).1 a 15).toInt).toNat + (1 - ((hd_M X a r τ).1 a 12).toInt).toNat) < fu ∧ F_X12_readStep_d1_J20_1 X r τ a v x3 = F_X12_readStep_d1_L140_5 X x3 ((4376 : Int32) + 9 * τ.1 a 27) a v fu (hd_M X a r τ) := by
  refine ⟨(901 - ((hd_M X a r τ).1 a 15).toInt).toNat + (1 - ((hd_M X a r τ).1 a 12).toInt).toNat + 1, Nat.lt_succ_self _, ?_⟩
  have e : F_X12_readStep_d1_J81_4 X a r x3 v τ = F_X12_readStep_d1_L140_5 X x3 ((4376 : Int32) + 9 * τ.1 a 27) a v ((901 - ((hd_M X a r τ).1 a 15).toInt).toNat + (1 - ((hd_M X a r τ).1 a 12).toInt).toNat + 1) (hd_M X a r τ) := by
    unfold F_X12_readStep_d1_J81_4
    rw [q_letE (τ.1 a 12), h0, if_neg (by decide : ¬ (0 : Int) < 0), q_letE (τ.1 a 27), q_letE ((9 : Int32) * τ.1 a 27), q_letE ((4376 : Int32) + 9 * τ.1 a 27), q_letE (τ.1 a 27), q_letE (τ.1 a 27 + 1), q_letE, q_letE, q_letE, q_letE, q_letE, q_letE]
    rfl
  unfold F_X12_readStep_d1_J20_1 F_X12_readStep_d1_J29_2 F_X12_readStep_d1_J55_3
  rw [if_neg hr, q_letE (τ.1 a 12), h0, if_pos rfl, q_letE (τ.1 a 27), if_neg hs, q_letE (τ.1 a 12), h0, if_pos rfl]
  by_cases q : x3.toInt = 0
  · rw [if_pos q, e]
  · rw [if_neg q]
    rcases hx with hx | hx
    · exact absurd hx q
    · rw [if_neg hx, e]
theorem rs_81_2 (r x3 v : Int32) (h : 0 < (τ.1 a 12).toInt) : F_X12_readStep_d2_J81_4 X a r x3 v τ = τ := by
  unfold F_X12_readStep_d2_J81_4
  rw [q_letE, if_pos h]
theorem rs_55_2 (r x3 v : Int32) (h : 0 < (τ.1 a 12).toInt) : F_X12_readStep_d2_J55_3 X a x3 r v τ = τ := by
  unfold F_X12_readStep_d2_J55_3
  rw [q_letE, if_neg (by omega), rs_81_2 r x3 v h]
theorem rs_29_2 (r x3 v : Int32) (h : 0 < (τ.1 a 12).toInt) : F_X12_readStep_d2_J29_2 X a x3 r v τ = τ := by
  unfold F_X12_readStep_d2_J29_2
  rw [q_letE, if_neg (by omega), rs_55_2 r x3 v h]
theorem rs_d_2 (v : Int32) : F_X12_readStep_d2 X τ a v = F_X12_readStep_d2_J20_1 X (F_X12_stepWord X τ a) τ a v (if (F_X12_stepWord X τ a).toInt = 3 ∨ (F_X12_stepWord X τ a).toInt = 4 then 1 else 0) := by
  unfold F_X12_readStep_d2
  rw [q_letE]
  by_cases q3 : (F_X12_stepWord X τ a).toInt = 3
  · rw [if_pos q3, if_pos (Or.inl q3)]
  · rw [if_neg q3]
    by_cases q4 : (F_X12_stepWord X τ a).toInt = 4
    · rw [if_pos q4, if_pos (Or.inr q4)]
    · rw [if_neg q4, if_neg (fun z => z.elim q3 q4)]
theorem rs_a_2 (r x3 v : Int32) (hr : r.toInt < 0) (h : 0 < ((F_X12_wrong X τ a).1 a 12).toInt) : F_X12_readStep_d2_J20_1 X r τ a v x3 = F_X12_wrong X τ a := by
  unfold F_X12_readStep_d2_J20_1
  rw [if_pos hr, q_letE, rs_29_2 r x3 v h]
theorem rs_b_2 (r x3 v : Int32) (h0 : (τ.1 a 12).toInt = 0) (hr : ¬ r.toInt < 0) (hs : (τ.1 a 27).toInt = 30) (h : 0 < ((F_X12_fail X τ a 6 (τ.1 a 15)).1 a 12).toInt) : F_X12_readStep_d2_J20_1 X r τ a v x3 = F_X12_fail X τ a 6 (τ.1 a 15) := by
  unfold F_X12_readStep_d2_J20_1 F_X12_readStep_d2_J29_2
  rw [if_neg hr, q_letE (τ.1 a 12), h0, if_pos rfl, q_letE (τ.1 a 27), if_pos hs, q_letE (τ.1 a 15), q_letE, rs_55_2 r x3 v h]
theorem rs_e_2 (r x3 v : Int32) (h0 : (τ.1 a 12).toInt = 0) (hr : ¬ r.toInt < 0) (hs : ¬ (τ.1 a 27).toInt = 30) (hx : x3.toInt = 0 ∨ ¬ v.toInt = 3) : ∃ fu : Nat, ((901 - ((hd_M X a r τ).1 a 15).toInt).toNat + (1 - ((hd_M X a r τ).1 a 12).toInt).toNat) < fu ∧ F_X12_readStep_d2_J20_1 X r τ a v x3 = F_X12_readStep_d2_L140_5 X x3 ((4376 : Int32) + 9 * τ.1 a 27) a v fu (hd_M X a r τ) := by
  refine ⟨(901 - ((hd_M X a r τ).1 a 15).toInt).toNat + (1 - ((hd_M X a r τ).1 a 12).toInt).toNat + 1, Nat.lt_succ_self _, ?_⟩
  have e : F_X12_readStep_d2_J81_4 X a r x3 v τ = F_X12_readStep_d2_L140_5 X x3 ((4376 : Int32) + 9 * τ.1 a 27) a v ((901 - ((hd_M X a r τ).1 a 15).toInt).toNat + (1 - ((hd_M X a r τ).1 a 12).toInt).toNat + 1) (hd_M X a r τ) := by
    unfold F_X12_readStep_d2_J81_4
    rw [q_letE (τ.1 a 12), h0, if_neg (by decide : ¬ (0 : Int) < 0), q_letE (τ.1 a 27), q_letE ((9 : Int32) * τ.1 a 27), q_letE ((4376 : Int32) + 9 * τ.1 a 27), q_letE (τ.1 a 27), q_letE (τ.1 a 27 + 1), q_letE, q_letE, q_letE, q_letE, q_letE, q_letE]
    rfl
  unfold F_X12_readStep_d2_J20_1 F_X12_readStep_d2_J29_2 F_X12_readStep_d2_J55_3
  rw [if_neg hr, q_letE (τ.1 a 12), h0, if_pos rfl, q_letE (τ.1 a 27), if_neg hs, q_letE (τ.1 a 12), h0, if_pos rfl]
  by_cases q : x3.toInt = 0
  · rw [if_pos q, e]
  · rw [if_neg q]
    rcases hx with hx | hx
    · exact absurd hx q
    · rw [if_neg hx, e]
theorem rs_81_3 (r x3 v : Int32) (h : 0 < (τ.1 a 12).toInt) : F_X12_readStep_d3_J81_4 X a r x3 v τ = τ := by
  unfold F_X12_readStep_d3_J81_4
  rw [q_letE, if_pos h]
theorem rs_55_3 (r x3 v : Int32) (h : 0 < (τ.1 a 12).toInt) : F_X12_readStep_d3_J55_3 X a x3 r v τ = τ := by
  unfold F_X12_readStep_d3_J55_3
  rw [q_letE, if_neg (by omega), rs_81_3 r x3 v h]
theorem rs_29_3 (r x3 v : Int32) (h : 0 < (τ.1 a 12).toInt) : F_X12_readStep_d3_J29_2 X a x3 r v τ = τ := by
  unfold F_X12_readStep_d3_J29_2
  rw [q_letE, if_neg (by omega), rs_55_3 r x3 v h]
theorem rs_d_3 (v : Int32) : F_X12_readStep_d3 X τ a v = F_X12_readStep_d3_J20_1 X (F_X12_stepWord X τ a) τ a v (if (F_X12_stepWord X τ a).toInt = 3 ∨ (F_X12_stepWord X τ a).toInt = 4 then 1 else 0) := by
  unfold F_X12_readStep_d3
  rw [q_letE]
  by_cases q3 : (F_X12_stepWord X τ a).toInt = 3
  · rw [if_pos q3, if_pos (Or.inl q3)]
  · rw [if_neg q3]
    by_cases q4 : (F_X12_stepWord X τ a).toInt = 4
    · rw [if_pos q4, if_pos (Or.inr q4)]
    · rw [if_neg q4, if_neg (fun z => z.elim q3 q4)]
theorem rs_a_3 (r x3 v : Int32) (hr : r.toInt < 0) (h : 0 < ((F_X12_wrong X τ a).1 a 12).toInt) : F_X12_readStep_d3_J20_1 X r τ a v x3 = F_X12_wrong X τ a := by
  unfold F_X12_readStep_d3_J20_1
  rw [if_pos hr, q_letE, rs_29_3 r x3 v h]
theorem rs_b_3 (r x3 v : Int32) (h0 : (τ.1 a 12).toInt = 0) (hr : ¬ r.toInt < 0) (hs : (τ.1 a 27).toInt = 30) (h : 0 < ((F_X12_fail X τ a 6 (τ.1 a 15)).1 a 12).toInt) : F_X12_readStep_d3_J20_1 X r τ a v x3 = F_X12_fail X τ a 6 (τ.1 a 15) := by
  unfold F_X12_readStep_d3_J20_1 F_X12_readStep_d3_J29_2
  rw [if_neg hr, q_letE (τ.1 a 12), h0, if_pos rfl, q_letE (τ.1 a 27), if_pos hs, q_letE (τ.1 a 15), q_letE, rs_55_3 r x3 v h]
theorem rs_e_3 (r x3 v : Int32) (h0 : (τ.1 a 12).toInt = 0) (hr : ¬ r.toInt < 0) (hs : ¬ (τ.1 a 27).toInt = 30) (hx : x3.toInt = 0 ∨ ¬ v.toInt = 3) : ∃ fu : Nat, ((901 - ((hd_M X a r τ).1 a 15).toInt).toNat + (1 - ((hd_M X a r τ).1 a 12).toInt).toNat) < fu ∧ F_X12_readStep_d3_J20_1 X r τ a v x3 = F_X12_readStep_d3_L140_5 X x3 ((4376 : Int32) + 9 * τ.1 a 27) a v fu (hd_M X a r τ) := by
  refine ⟨(901 - ((hd_M X a r τ).1 a 15).toInt).toNat + (1 - ((hd_M X a r τ).1 a 12).toInt).toNat + 1, Nat.lt_succ_self _, ?_⟩
  have e : F_X12_readStep_d3_J81_4 X a r x3 v τ = F_X12_readStep_d3_L140_5 X x3 ((4376 : Int32) + 9 * τ.1 a 27) a v ((901 - ((hd_M X a r τ).1 a 15).toInt).toNat + (1 - ((hd_M X a r τ).1 a 12).toInt).toNat + 1) (hd_M X a r τ) := by
    unfold F_X12_readStep_d3_J81_4
    rw [q_letE (τ.1 a 12), h0, if_neg (by decide : ¬ (0 : Int) < 0), q_letE (τ.1 a 27), q_letE ((9 : Int32) * τ.1 a 27), q_letE ((4376 : Int32) + 9 * τ.1 a 27), q_letE (τ.1 a 27), q_letE (τ.1 a 27 + 1), q_letE, q_letE, q_letE, q_letE, q_letE, q_letE]
    rfl
  unfold F_X12_readStep_d3_J20_1 F_X12_readStep_d3_J29_2 F_X12_readStep_d3_J55_3
  rw [if_neg hr, q_letE (τ.1 a 12), h0, if_pos rfl, q_letE (τ.1 a 27), if_neg hs, q_letE (τ.1 a 12), h0, if_pos rfl]
  by_cases q : x3.toInt = 0
  · rw [if_pos q, e]
  · rw [if_neg q]
    rcases hx with hx | hx
    · exact absurd hx q
    · rw [if_neg hx, e]
end RX
