section
set_option maxRecDepth 100000 in
set_option maxHeartbeats 4000000 in
theorem c_J3_checkIndex_8e157 (l : Launch) (X : XW) (σ : ST) (v0 : Int32) (v1 : Int32) (r2 : Nat) (h0 : 0 ≤ v0.toInt) (h1 : v0.toInt < v1.toInt) : Met l yJ3_checkIndex_8e157 (q_ws yJ3_checkIndex_8e157 cJ3_checkIndex_8e157 3 (some .int)) (q_rm 0 0) (q_P X σ [.int v0, .int v1, .ref r2]) (q_Qi X 9 σ (fun (r : Int32) (σ' : ST) => σ' = σ)) 0 0 (q_reg X) := by
  refine q_met 9 (by first | exact rfl | decide +kernel) rfl (Nat.le_of_ble_eq_true rfl) (fun p e s m below meth c E hml hr hlk hI ls hl => ?_)
  have hx := E.1
  have hb := E.2.1
  have hl : lv_has ls 3 [(0, .int v0), (1, .int v1), (2, .ref r2)] := hl
  refine lv_iload_n hx hb dJ3_checkIndex_8e157_0 rfl (lv_at hl 0 rfl) ?_
  refine q_if_lt (A := v0.toInt) E rfl (tgt := 9) dJ3_checkIndex_8e157_1 (by decide) (fun c_1 => ?_) (fun c_1 => ?_)
  · skip
    exact absurd c_1 (by omega)
  · skip
    refine lv_iload_n hx hb dJ3_checkIndex_8e157_4 rfl (lv_at hl 0 rfl) ?_
    refine lv_iload_n hx hb dJ3_checkIndex_8e157_5 rfl (lv_at hl 1 rfl) ?_
    refine q_icmp_lt (A := v0.toInt) (B := v1.toInt) E rfl rfl (tgt := 16) dJ3_checkIndex_8e157_6 (by decide) (fun c_2 => ?_) (fun c_2 => ?_)
    · skip
      refine lv_iload_n hx hb dJ3_checkIndex_8e157_16 rfl (lv_at hl 0 rfl) ?_
      exact q_reti E hr hlk hI rfl dJ3_checkIndex_8e157_17
    · skip
      exact absurd c_2 (by omega)

set_option maxRecDepth 100000 in
set_option maxHeartbeats 4000000 in
theorem c_J3_checkIndex_8e157_n (l : Launch) (X : XW) (σ : ST) (v0 : Int32) (v1 : Int32) (h0 : 0 ≤ v0.toInt) (h1 : v0.toInt < v1.toInt) : Met l yJ3_checkIndex_8e157 (q_ws yJ3_checkIndex_8e157 cJ3_checkIndex_8e157 3 (some .int)) (q_rm 0 0) (q_P X σ [.int v0, .int v1, .null]) (q_Qi X 9 σ (fun (r : Int32) (σ' : ST) => σ' = σ)) 0 0 (q_reg X) := by
  refine q_met 9 (by first | exact rfl | decide +kernel) rfl (Nat.le_of_ble_eq_true rfl) (fun p e s m below meth c E hml hr hlk hI ls hl => ?_)
  have hx := E.1
  have hb := E.2.1
  have hl : lv_has ls 3 [(0, .int v0), (1, .int v1), (2, .null)] := hl
  refine lv_iload_n hx hb dJ3_checkIndex_8e157_0 rfl (lv_at hl 0 rfl) ?_
  refine q_if_lt (A := v0.toInt) E rfl (tgt := 9) dJ3_checkIndex_8e157_1 (by decide) (fun c_1 => ?_) (fun c_1 => ?_)
  · skip
    exact absurd c_1 (by omega)
  · skip
    refine lv_iload_n hx hb dJ3_checkIndex_8e157_4 rfl (lv_at hl 0 rfl) ?_
    refine lv_iload_n hx hb dJ3_checkIndex_8e157_5 rfl (lv_at hl 1 rfl) ?_
    refine q_icmp_lt (A := v0.toInt) (B := v1.toInt) E rfl rfl (tgt := 16) dJ3_checkIndex_8e157_6 (by decide) (fun c_2 => ?_) (fun c_2 => ?_)
    · skip
      refine lv_iload_n hx hb dJ3_checkIndex_8e157_16 rfl (lv_at hl 0 rfl) ?_
      exact q_reti E hr hlk hI rfl dJ3_checkIndex_8e157_17
    · skip
      exact absurd c_2 (by omega)

set_option maxRecDepth 100000 in
set_option maxHeartbeats 4000000 in
theorem c_J0_checkIndex_df160 (l : Launch) (X : XW) (σ : ST) (v0 : Int32) (v1 : Int32) (h0 : 0 ≤ v0.toInt) (h1 : v0.toInt < v1.toInt) : Met l yJ0_checkIndex_df160 (q_ws yJ0_checkIndex_df160 cJ0_checkIndex_df160 2 none) (q_rm 1 22) (q_P X σ [.int v0, .int v1]) (q_Qv X 9 σ (fun (σ' : ST) => σ' = σ)) 0 0 (q_reg X) := by
  refine q_met 9 (by first | exact rfl | decide +kernel) rfl (Nat.le_of_ble_eq_true rfl) (fun p e s m below meth c E hml hr hlk hI ls hl => ?_)
  have hx := E.1
  have hb := E.2.1
  have hl : lv_has ls 2 [(0, .int v0), (1, .int v1)] := hl
  refine lv_iload_n hx hb dJ0_checkIndex_df160_0 rfl (lv_at hl 0 rfl) ?_
  refine lv_iload_n hx hb dJ0_checkIndex_df160_1 rfl (lv_at hl 1 rfl) ?_
  rcases E.2.2.2.2.2.2.2 with hz | ⟨t_1, hz⟩
  · refine va_gets hx hb hz hI.S E.2.2.1 (E.2.2.2.1 _ (q_in_t3 (i := 210) (by first | rfl | decide +kernel) rfl)) (fun _ h => h) dJ0_checkIndex_df160_2 ?_
    refine q_ci (q_runS (As := [.int v0, .int v1, .null]) (rest := []) E (hml.trans hl.1.symm) hI (c_J3_checkIndex_8e157_n l X σ v0 v1 (by omega) (by omega)) ks_J0_1059 rfl ⟨Nat.le_of_ble_eq_true rfl, Nat.le_of_ble_eq_true rfl⟩ ⟨Nat.le_refl _, Nat.le_refl _⟩ rfl (Nat.le_of_ble_eq_true rfl) dJ0_checkIndex_df160_5) hI (by decide) (fun r_2 σ_3 H locs hpσ_3 hkσ_3 hI => ?_)
    have ahpσ_3 := hpσ_3
    rw [ahpσ_3] at hI
    refine lv_pop hx hb dJ0_checkIndex_df160_8 rfl ?_
    exact q_retv E hr hlk hI rfl dJ0_checkIndex_df160_9
  · refine va_gets hx hb hz hI.S E.2.2.1 (E.2.2.2.1 _ (q_in_t3 (i := 210) (by first | rfl | decide +kernel) rfl)) (fun _ h => h) dJ0_checkIndex_df160_2 ?_
    refine q_ci (q_runS (As := [.int v0, .int v1, .ref t_1]) (rest := []) E (hml.trans hl.1.symm) hI (c_J3_checkIndex_8e157 l X σ v0 v1 t_1 (by omega) (by omega)) ks_J0_1059 rfl ⟨Nat.le_of_ble_eq_true rfl, Nat.le_of_ble_eq_true rfl⟩ ⟨Nat.le_refl _, Nat.le_refl _⟩ rfl (Nat.le_of_ble_eq_true rfl) dJ0_checkIndex_df160_5) hI (by decide) (fun r_4 σ_5 H locs hpσ_5 hkσ_5 hI => ?_)
    have ahpσ_5 := hpσ_5
    rw [ahpσ_5] at hI
    refine lv_pop hx hb dJ0_checkIndex_df160_8 rfl ?_
    exact q_retv E hr hlk hI rfl dJ0_checkIndex_df160_9
end
