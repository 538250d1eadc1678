/-! FROM 11.parts.b00.lean.txt -/
section
set_option maxRecDepth 100000 in
set_option maxHeartbeats 4000000 in
theorem c_X1_reset (l : Launch) (X : XW) (σ : ST) (a : Nat) (ha : q_kd X a = 2) : Met l yX1_reset (q_ws yX1_reset cX1_reset 1 none) (q_rm 1 21) (q_P X σ [.ref a]) (q_Qv X 8 σ (fun (σ' : ST) => σ' = F_X1_reset X σ a ∧ q_ow [(20, 99)] [] X σ σ')) 0 0 (q_reg X) := by
  refine q_met 8 (by first | exact rfl | decide +kernel) rfl (Nat.le_of_ble_eq_true rfl) (fun p e s m below meth c E hml hr hlk hI ls hl => ?_)
  have hx := E.1
  have hb := E.2.1
  have hl : lv_has ls 1 [(0, .ref a)] := hl
  have fr_σ : q_ow [(20, 99)] [] X σ σ := q_ow.rf
  obtain ⟨out, hout⟩ : ∃ o, o = F_X1_reset X σ a := ⟨_, rfl⟩
  have hF := hout.symm
  unfold F_X1_reset at hF
  refine lv_aload_n hx hb dX1_reset_0 rfl (lv_at hl 0 rfl) ?_
  refine gs_X1_14_2 E hI ha dX1_reset_1 ?_
  refine q_cv (q_runV (As := []) (rest := []) E (hml.trans hl.1.symm) hI (c_X5_clear l X σ (q_rf X a 0) (q_tk (k' := 5) hI ha rfl (by decide))) kv_X1_38 (q_tk (k' := 5) hI ha rfl (by decide)) ⟨rfl, by decide⟩ (show vwCl[4]? = some (RX5, TX5, 1) from rfl) rfl ⟨Nat.le_of_ble_eq_true rfl, Nat.le_of_ble_eq_true rfl⟩ ⟨Nat.le_refl _, Nat.le_refl _⟩ rfl (Nat.le_of_ble_eq_true rfl) dX1_reset_4) hI (by decide) (fun σ_2 H locs hpσ_2 hkσ_2 hI => ?_)
  obtain ⟨ahpσ_2, bhpσ_2⟩ := hpσ_2
  have fr_σ_2 := fr_σ.call bhpσ_2 rfl rfl
  replace hF := q_letX hF ahpσ_2
  refine lv_aload_n hx hb dX1_reset_7 rfl (lv_at hl 0 rfl) ?_
  refine gs_X1_20_2 E hI ha dX1_reset_8 ?_
  refine q_cv (q_runV (As := []) (rest := []) E (hml.trans hl.1.symm) hI (c_X5_clear l X σ_2 (q_rf X a 1) (q_tk (k' := 5) hI ha rfl (by decide))) kv_X1_38 (q_tk (k' := 5) hI ha rfl (by decide)) ⟨rfl, by decide⟩ (show vwCl[4]? = some (RX5, TX5, 1) from rfl) rfl ⟨Nat.le_of_ble_eq_true rfl, Nat.le_of_ble_eq_true rfl⟩ ⟨Nat.le_refl _, Nat.le_refl _⟩ rfl (Nat.le_of_ble_eq_true rfl) dX1_reset_11) hI (by decide) (fun σ_4 H locs hpσ_4 hkσ_4 hI => ?_)
  obtain ⟨ahpσ_4, bhpσ_4⟩ := hpσ_4
  have fr_σ_4 := fr_σ_2.call bhpσ_4 rfl rfl
  replace hF := q_letX hF ahpσ_4
  refine lv_aload_n hx hb dX1_reset_14 rfl (lv_at hl 0 rfl) ?_
  refine gs_X1_23_2 E hI ha dX1_reset_15 ?_
  refine q_cv (q_runV (As := []) (rest := []) E (hml.trans hl.1.symm) hI (c_X5_clear l X σ_4 (q_rf X a 2) (q_tk (k' := 5) hI ha rfl (by decide))) kv_X1_38 (q_tk (k' := 5) hI ha rfl (by decide)) ⟨rfl, by decide⟩ (show vwCl[4]? = some (RX5, TX5, 1) from rfl) rfl ⟨Nat.le_of_ble_eq_true rfl, Nat.le_of_ble_eq_true rfl⟩ ⟨Nat.le_refl _, Nat.le_refl _⟩ rfl (Nat.le_of_ble_eq_true rfl) dX1_reset_18) hI (by decide) (fun σ_6 H locs hpσ_6 hkσ_6 hI => ?_)
  obtain ⟨ahpσ_6, bhpσ_6⟩ := hpσ_6
  have fr_σ_6 := fr_σ_4.call bhpσ_6 rfl rfl
  replace hF := q_letX hF ahpσ_6
  refine lv_aload_n hx hb dX1_reset_21 rfl (lv_at hl 0 rfl) ?_
  refine gs_X1_26_2 E hI ha dX1_reset_22 ?_
  refine q_cv (q_runV (As := []) (rest := []) E (hml.trans hl.1.symm) hI (c_X5_clear l X σ_6 (q_rf X a 3) (q_tk (k' := 5) hI ha rfl (by decide))) kv_X1_38 (q_tk (k' := 5) hI ha rfl (by decide)) ⟨rfl, by decide⟩ (show vwCl[4]? = some (RX5, TX5, 1) from rfl) rfl ⟨Nat.le_of_ble_eq_true rfl, Nat.le_of_ble_eq_true rfl⟩ ⟨Nat.le_refl _, Nat.le_refl _⟩ rfl (Nat.le_of_ble_eq_true rfl) dX1_reset_25) hI (by decide) (fun σ_8 H locs hpσ_8 hkσ_8 hI => ?_)
  obtain ⟨ahpσ_8, bhpσ_8⟩ := hpσ_8
  have fr_σ_8 := fr_σ_6.call bhpσ_8 rfl rfl
  replace hF := q_letX hF ahpσ_8
  refine lv_aload_n hx hb dX1_reset_28 rfl (lv_at hl 0 rfl) ?_
  refine gs_X1_29_2 E hI ha dX1_reset_29 ?_
  refine q_cv (q_runV (As := []) (rest := []) E (hml.trans hl.1.symm) hI (c_X5_clear l X σ_8 (q_rf X a 4) (q_tk (k' := 5) hI ha rfl (by decide))) kv_X1_38 (q_tk (k' := 5) hI ha rfl (by decide)) ⟨rfl, by decide⟩ (show vwCl[4]? = some (RX5, TX5, 1) from rfl) rfl ⟨Nat.le_of_ble_eq_true rfl, Nat.le_of_ble_eq_true rfl⟩ ⟨Nat.le_refl _, Nat.le_refl _⟩ rfl (Nat.le_of_ble_eq_true rfl) dX1_reset_32) hI (by decide) (fun σ_10 H locs hpσ_10 hkσ_10 hI => ?_)
  obtain ⟨ahpσ_10, bhpσ_10⟩ := hpσ_10
  have fr_σ_10 := fr_σ_8.call bhpσ_10 rfl rfl
  replace hF := q_letX hF ahpσ_10
  refine lv_aload_n hx hb dX1_reset_35 rfl (lv_at hl 0 rfl) ?_
  refine gs_X1_32_2 E hI ha dX1_reset_36 ?_
  refine q_cv (q_runV (As := []) (rest := []) E (hml.trans hl.1.symm) hI (c_X5_clear l X σ_10 (q_rf X a 5) (q_tk (k' := 5) hI ha rfl (by decide))) kv_X1_38 (q_tk (k' := 5) hI ha rfl (by decide)) ⟨rfl, by decide⟩ (show vwCl[4]? = some (RX5, TX5, 1) from rfl) rfl ⟨Nat.le_of_ble_eq_true rfl, Nat.le_of_ble_eq_true rfl⟩ ⟨Nat.le_refl _, Nat.le_refl _⟩ rfl (Nat.le_of_ble_eq_true rfl) dX1_reset_39) hI (by decide) (fun σ_12 H locs hpσ_12 hkσ_12 hI => ?_)
  obtain ⟨ahpσ_12, bhpσ_12⟩ := hpσ_12
  have fr_σ_12 := fr_σ_10.call bhpσ_12 rfl rfl
  replace hF := q_letX hF ahpσ_12
  refine lv_aload_n hx hb dX1_reset_42 rfl (lv_at hl 0 rfl) ?_
  refine gs_X1_35_2 E hI ha dX1_reset_43 ?_
  refine q_cv (q_runV (As := []) (rest := []) E (hml.trans hl.1.symm) hI (c_X5_clear l X σ_12 (q_rf X a 6) (q_tk (k' := 5) hI ha rfl (by decide))) kv_X1_38 (q_tk (k' := 5) hI ha rfl (by decide)) ⟨rfl, by decide⟩ (show vwCl[4]? = some (RX5, TX5, 1) from rfl) rfl ⟨Nat.le_of_ble_eq_true rfl, Nat.le_of_ble_eq_true rfl⟩ ⟨Nat.le_refl _, Nat.le_refl _⟩ rfl (Nat.le_of_ble_eq_true rfl) dX1_reset_46) hI (by decide) (fun σ_14 H locs hpσ_14 hkσ_14 hI => ?_)
  obtain ⟨ahpσ_14, bhpσ_14⟩ := hpσ_14
  have fr_σ_14 := fr_σ_12.call bhpσ_14 rfl rfl
  replace hF := q_letX hF ahpσ_14
  exact q_retv E hr hlk hI ⟨(hF.trans hout), fr_σ_14⟩ dX1_reset_49

set_option maxRecDepth 100000 in
set_option maxHeartbeats 4000000 in
theorem c_X2_clear (l : Launch) (X : XW) (σ : ST) (a : Nat) (ha : q_kd X a = 3) : Met l yX2_clear (q_ws yX2_clear cX2_clear 1 none) (q_rm 0 0) (q_P X σ [.ref a]) (q_Qv X 8 σ (fun (σ' : ST) => σ' = F_X2_clear X σ a ∧ q_ow [(3, 0), (3, 1)] [] X σ σ')) 0 0 (q_reg X) := by
  refine q_met 8 (by first | exact rfl | decide +kernel) rfl (Nat.le_of_ble_eq_true rfl) (fun p e s m below meth c E hml hr hlk hI ls hl => ?_)
  have hx := E.1
  have hb := E.2.1
  have hl : lv_has ls 1 [(0, .ref a)] := hl
  have fr_σ : q_ow [(3, 0), (3, 1)] [] X σ σ := q_ow.rf
  obtain ⟨out, hout⟩ : ∃ o, o = F_X2_clear X σ a := ⟨_, rfl⟩
  have hF := hout.symm
  unfold F_X2_clear at hF
  refine lv_aload_n hx hb dX2_clear_0 rfl (lv_at hl 0 rfl) ?_
  refine lv_iconst (v := 0) hx hb dX2_clear_1 (by decide) ?_
  refine ps_X2_9_3 E hI ha (by decide) dX2_clear_2 (fun H locs σ_1 hσ_1 hI => ?_)
  replace hF := q_letX hF hσ_1
  have fr_σ_1 := fr_σ.si hσ_1 ha rfl
  refine lv_aload_n hx hb dX2_clear_5 rfl (lv_at hl 0 rfl) ?_
  refine lv_iconst (v := 0) hx hb dX2_clear_6 (by decide) ?_
  refine ps_X2_15_3 E hI ha (by decide) dX2_clear_7 (fun H locs σ_2 hσ_2 hI => ?_)
  replace hF := q_letX hF hσ_2
  have fr_σ_2 := fr_σ_1.si hσ_2 ha rfl
  exact q_retv E hr hlk hI ⟨(hF.trans hout), fr_σ_2⟩ dX2_clear_10

set_option maxRecDepth 100000 in
set_option maxHeartbeats 4000000 in
theorem c_X8_clear (l : Launch) (X : XW) (σ : ST) (a : Nat) (ha : q_kd X a = 8) : Met l yX8_clear (q_ws yX8_clear cX8_clear 1 none) (q_rm 0 0) (q_P X σ [.ref a]) (q_Qv X 8 σ (fun (σ' : ST) => σ' = F_X8_clear X σ a ∧ q_ow [(8, 0), (8, 1), (8, 2)] [] X σ σ')) 0 0 (q_reg X) := by
  refine q_met 8 (by first | exact rfl | decide +kernel) rfl (Nat.le_of_ble_eq_true rfl) (fun p e s m below meth c E hml hr hlk hI ls hl => ?_)
  have hx := E.1
  have hb := E.2.1
  have hl : lv_has ls 1 [(0, .ref a)] := hl
  have fr_σ : q_ow [(8, 0), (8, 1), (8, 2)] [] X σ σ := q_ow.rf
  obtain ⟨out, hout⟩ : ∃ o, o = F_X8_clear X σ a := ⟨_, rfl⟩
  have hF := hout.symm
  unfold F_X8_clear at hF
  refine lv_aload_n hx hb dX8_clear_0 rfl (lv_at hl 0 rfl) ?_
  refine lv_iconst (v := 0) hx hb dX8_clear_1 (by decide) ?_
  refine ps_X8_11_8 E hI ha (by decide) (by decide) (by decide) dX8_clear_2 (fun H locs σ_1 hσ_1 hI => ?_)
  replace hF := q_letX hF hσ_1
  have fr_σ_1 := fr_σ.si hσ_1 ha rfl
  refine lv_aload_n hx hb dX8_clear_5 rfl (lv_at hl 0 rfl) ?_
  refine lv_iconst (v := 0) hx hb dX8_clear_6 (by decide) ?_
  refine ps_X8_15_8 E hI ha (by decide) dX8_clear_7 (fun H locs σ_2 hσ_2 hI => ?_)
  replace hF := q_letX hF hσ_2
  have fr_σ_2 := fr_σ_1.si hσ_2 ha rfl
  refine lv_aload_n hx hb dX8_clear_10 rfl (lv_at hl 0 rfl) ?_
  refine lv_iconst (v := 0) hx hb dX8_clear_11 (by decide) ?_
  refine ps_X8_19_8 E hI ha (by decide) dX8_clear_12 (fun H locs σ_3 hσ_3 hI => ?_)
  replace hF := q_letX hF hσ_3
  have fr_σ_3 := fr_σ_2.si hσ_3 ha rfl
  exact q_retv E hr hlk hI ⟨(hF.trans hout), fr_σ_3⟩ dX8_clear_15

set_option maxRecDepth 100000 in
set_option maxHeartbeats 4000000 in
theorem c_X1_deal (l : Launch) (X : XW) (σ : ST) (a : Nat) (v1 : Int32) (v2 : Int32) (v3 : Int32) (ha : q_kd X a = 2) : Met l yX1_deal (q_ws yX1_deal cX1_deal 4 none) (q_rm 1 22) (q_P X σ [.ref a, .int v1, .int v2, .int v3]) (q_Qv X 8 σ (fun (σ' : ST) => σ' = F_X1_deal X σ a v1 v2 v3 ∧ q_ow [(20, 99)] [] X σ σ')) 0 0 (q_reg X) := by
  refine q_met 8 (by first | exact rfl | decide +kernel) rfl (Nat.le_of_ble_eq_true rfl) (fun p e s m below meth c E hml hr hlk hI ls hl => ?_)
  have hx := E.1
  have hb := E.2.1
  have hl : lv_has ls 4 [(0, .ref a), (1, .int v1), (2, .int v2), (3, .int v3)] := hl
  have fr_σ : q_ow [(20, 99)] [] X σ σ := q_ow.rf
  obtain ⟨out, hout⟩ : ∃ o, o = F_X1_deal X σ a v1 v2 v3 := ⟨_, rfl⟩
  have hF := hout.symm
  unfold F_X1_deal at hF
  refine lv_aload_n hx hb dX1_deal_0 rfl (lv_at hl 0 rfl) ?_
  refine gs_X1_14_2 E hI ha dX1_deal_1 ?_
  refine lv_iload_n hx hb dX1_deal_4 rfl (lv_at hl 1 rfl) ?_
  refine lv_bipush (v := 10) hx hb dX1_deal_5 (by decide) ?_
  refine lv_imul hx hb dX1_deal_7 ?_
  refine lv_topi (fun z_1 ez_1 => ?_)
  replace hF := q_letX hF ez_1
  refine lv_iload_n hx hb dX1_deal_8 rfl (lv_at hl 2 rfl) ?_
  refine lv_iadd hx hb dX1_deal_9 ?_
  refine lv_topi (fun z_2 ez_2 => ?_)
  replace hF := q_letX hF ez_2
  refine lv_iload_n hx hb dX1_deal_10 rfl (lv_at hl 3 rfl) ?_
  refine q_cv (q_runV (As := [.int z_2, .int v3]) (rest := []) E (hml.trans hl.1.symm) hI (c_X5_add l X σ (q_rf X a 0) z_2 v3 (q_tk (k' := 5) hI ha rfl (by decide))) kv_X1_53 (q_tk (k' := 5) hI ha rfl (by decide)) ⟨rfl, by decide⟩ (show vwCl[4]? = some (RX5, TX5, 1) from rfl) rfl ⟨Nat.le_of_ble_eq_true rfl, Nat.le_of_ble_eq_true rfl⟩ ⟨Nat.le_refl _, Nat.le_refl _⟩ rfl (Nat.le_of_ble_eq_true rfl) dX1_deal_11) hI (by decide) (fun σ_4 H locs hpσ_4 hkσ_4 hI => ?_)
  obtain ⟨ahpσ_4, bhpσ_4⟩ := hpσ_4
  have fr_σ_4 := fr_σ.call bhpσ_4 rfl rfl
  replace hF := q_letX hF ahpσ_4
  refine lv_aload_n hx hb dX1_deal_14 rfl (lv_at hl 0 rfl) ?_
  refine gs_X1_23_2 E hI ha dX1_deal_15 ?_
  refine lv_iload_n hx hb dX1_deal_18 rfl (lv_at hl 1 rfl) ?_
  refine lv_iload_n hx hb dX1_deal_19 rfl (lv_at hl 3 rfl) ?_
  refine q_cv (q_runV (As := [.int v1, .int v3]) (rest := []) E (hml.trans hl.1.symm) hI (c_X5_add l X σ_4 (q_rf X a 2) v1 v3 (q_tk (k' := 5) hI ha rfl (by decide))) kv_X1_53 (q_tk (k' := 5) hI ha rfl (by decide)) ⟨rfl, by decide⟩ (show vwCl[4]? = some (RX5, TX5, 1) from rfl) rfl ⟨Nat.le_of_ble_eq_true rfl, Nat.le_of_ble_eq_true rfl⟩ ⟨Nat.le_refl _, Nat.le_refl _⟩ rfl (Nat.le_of_ble_eq_true rfl) dX1_deal_20) hI (by decide) (fun σ_6 H locs hpσ_6 hkσ_6 hI => ?_)
  obtain ⟨ahpσ_6, bhpσ_6⟩ := hpσ_6
  have fr_σ_6 := fr_σ_4.call bhpσ_6 rfl rfl
  replace hF := q_letX hF ahpσ_6
  exact q_retv E hr hlk hI ⟨(hF.trans hout), fr_σ_6⟩ dX1_deal_23

set_option maxRecDepth 100000 in
set_option maxHeartbeats 4000000 in
theorem c_X1_copyFrom (l : Launch) (X : XW) (σ : ST) (a : Nat) (r1 : Nat) (ha : q_kd X a = 2) (hr1 : q_kd X r1 = 2) : Met l yX1_copyFrom (q_ws yX1_copyFrom cX1_copyFrom 2 none) (q_rm 1 22) (q_P X σ [.ref a, .ref r1]) (q_Qv X 8 σ (fun (σ' : ST) => σ' = F_X1_copyFrom X σ a r1 ∧ q_ow [(20, 99)] [] X σ σ')) 0 0 (q_reg X) := by
  refine q_met 8 (by first | exact rfl | decide +kernel) rfl (Nat.le_of_ble_eq_true rfl) (fun p e s m below meth c E hml hr hlk hI ls hl => ?_)
  have hx := E.1
  have hb := E.2.1
  have hl : lv_has ls 2 [(0, .ref a), (1, .ref r1)] := hl
  have fr_σ : q_ow [(20, 99)] [] X σ σ := q_ow.rf
  obtain ⟨out, hout⟩ : ∃ o, o = F_X1_copyFrom X σ a r1 := ⟨_, rfl⟩
  have hF := hout.symm
  unfold F_X1_copyFrom at hF
  refine lv_aload_n hx hb dX1_copyFrom_0 rfl (lv_at hl 0 rfl) ?_
  refine gs_X1_14_2 E hI ha dX1_copyFrom_1 ?_
  refine lv_aload_n hx hb dX1_copyFrom_4 rfl (lv_at hl 1 rfl) ?_
  refine gs_X1_14_2 E hI hr1 dX1_copyFrom_5 ?_
  refine q_cv (q_runV (As := [.ref (q_rf X r1 0)]) (rest := []) E (hml.trans hl.1.symm) hI (c_X5_copyFrom l X σ (q_rf X a 0) (q_rf X r1 0) (q_tk (k' := 5) hI ha rfl (by decide)) (q_tk (k' := 5) hI hr1 rfl (by decide))) kv_X1_41 (q_tk (k' := 5) hI ha rfl (by decide)) ⟨rfl, by decide⟩ (show vwCl[4]? = some (RX5, TX5, 1) from rfl) rfl ⟨Nat.le_of_ble_eq_true rfl, Nat.le_of_ble_eq_true rfl⟩ ⟨Nat.le_refl _, Nat.le_refl _⟩ rfl (Nat.le_of_ble_eq_true rfl) dX1_copyFrom_8) hI (by decide) (fun σ_2 H locs hpσ_2 hkσ_2 hI => ?_)
  obtain ⟨ahpσ_2, bhpσ_2⟩ := hpσ_2
  have fr_σ_2 := fr_σ.call bhpσ_2 rfl rfl
  replace hF := q_letX hF ahpσ_2
  refine lv_aload_n hx hb dX1_copyFrom_11 rfl (lv_at hl 0 rfl) ?_
  refine gs_X1_20_2 E hI ha dX1_copyFrom_12 ?_
  refine lv_aload_n hx hb dX1_copyFrom_15 rfl (lv_at hl 1 rfl) ?_
  refine gs_X1_20_2 E hI hr1 dX1_copyFrom_16 ?_
  refine q_cv (q_runV (As := [.ref (q_rf X r1 1)]) (rest := []) E (hml.trans hl.1.symm) hI (c_X5_copyFrom l X σ_2 (q_rf X a 1) (q_rf X r1 1) (q_tk (k' := 5) hI ha rfl (by decide)) (q_tk (k' := 5) hI hr1 rfl (by decide))) kv_X1_41 (q_tk (k' := 5) hI ha rfl (by decide)) ⟨rfl, by decide⟩ (show vwCl[4]? = some (RX5, TX5, 1) from rfl) rfl ⟨Nat.le_of_ble_eq_true rfl, Nat.le_of_ble_eq_true rfl⟩ ⟨Nat.le_refl _, Nat.le_refl _⟩ rfl (Nat.le_of_ble_eq_true rfl) dX1_copyFrom_19) hI (by decide) (fun σ_4 H locs hpσ_4 hkσ_4 hI => ?_)
  obtain ⟨ahpσ_4, bhpσ_4⟩ := hpσ_4
  have fr_σ_4 := fr_σ_2.call bhpσ_4 rfl rfl
  replace hF := q_letX hF ahpσ_4
  refine lv_aload_n hx hb dX1_copyFrom_22 rfl (lv_at hl 0 rfl) ?_
  refine gs_X1_23_2 E hI ha dX1_copyFrom_23 ?_
  refine lv_aload_n hx hb dX1_copyFrom_26 rfl (lv_at hl 1 rfl) ?_
  refine gs_X1_23_2 E hI hr1 dX1_copyFrom_27 ?_
  refine q_cv (q_runV (As := [.ref (q_rf X r1 2)]) (rest := []) E (hml.trans hl.1.symm) hI (c_X5_copyFrom l X σ_4 (q_rf X a 2) (q_rf X r1 2) (q_tk (k' := 5) hI ha rfl (by decide)) (q_tk (k' := 5) hI hr1 rfl (by decide))) kv_X1_41 (q_tk (k' := 5) hI ha rfl (by decide)) ⟨rfl, by decide⟩ (show vwCl[4]? = some (RX5, TX5, 1) from rfl) rfl ⟨Nat.le_of_ble_eq_true rfl, Nat.le_of_ble_eq_true rfl⟩ ⟨Nat.le_refl _, Nat.le_refl _⟩ rfl (Nat.le_of_ble_eq_true rfl) dX1_copyFrom_30) hI (by decide) (fun σ_6 H locs hpσ_6 hkσ_6 hI => ?_)
  obtain ⟨ahpσ_6, bhpσ_6⟩ := hpσ_6
  have fr_σ_6 := fr_σ_4.call bhpσ_6 rfl rfl
  replace hF := q_letX hF ahpσ_6
  refine lv_aload_n hx hb dX1_copyFrom_33 rfl (lv_at hl 0 rfl) ?_
  refine gs_X1_26_2 E hI ha dX1_copyFrom_34 ?_
  refine lv_aload_n hx hb dX1_copyFrom_37 rfl (lv_at hl 1 rfl) ?_
  refine gs_X1_26_2 E hI hr1 dX1_copyFrom_38 ?_
  refine q_cv (q_runV (As := [.ref (q_rf X r1 3)]) (rest := []) E (hml.trans hl.1.symm) hI (c_X5_copyFrom l X σ_6 (q_rf X a 3) (q_rf X r1 3) (q_tk (k' := 5) hI ha rfl (by decide)) (q_tk (k' := 5) hI hr1 rfl (by decide))) kv_X1_41 (q_tk (k' := 5) hI ha rfl (by decide)) ⟨rfl, by decide⟩ (show vwCl[4]? = some (RX5, TX5, 1) from rfl) rfl ⟨Nat.le_of_ble_eq_true rfl, Nat.le_of_ble_eq_true rfl⟩ ⟨Nat.le_refl _, Nat.le_refl _⟩ rfl (Nat.le_of_ble_eq_true rfl) dX1_copyFrom_41) hI (by decide) (fun σ_8 H locs hpσ_8 hkσ_8 hI => ?_)
  obtain ⟨ahpσ_8, bhpσ_8⟩ := hpσ_8
  have fr_σ_8 := fr_σ_6.call bhpσ_8 rfl rfl
  replace hF := q_letX hF ahpσ_8
  refine lv_aload_n hx hb dX1_copyFrom_44 rfl (lv_at hl 0 rfl) ?_
  refine gs_X1_29_2 E hI ha dX1_copyFrom_45 ?_
  refine lv_aload_n hx hb dX1_copyFrom_48 rfl (lv_at hl 1 rfl) ?_
  refine gs_X1_29_2 E hI hr1 dX1_copyFrom_49 ?_
  refine q_cv (q_runV (As := [.ref (q_rf X r1 4)]) (rest := []) E (hml.trans hl.1.symm) hI (c_X5_copyFrom l X σ_8 (q_rf X a 4) (q_rf X r1 4) (q_tk (k' := 5) hI ha rfl (by decide)) (q_tk (k' := 5) hI hr1 rfl (by decide))) kv_X1_41 (q_tk (k' := 5) hI ha rfl (by decide)) ⟨rfl, by decide⟩ (show vwCl[4]? = some (RX5, TX5, 1) from rfl) rfl ⟨Nat.le_of_ble_eq_true rfl, Nat.le_of_ble_eq_true rfl⟩ ⟨Nat.le_refl _, Nat.le_refl _⟩ rfl (Nat.le_of_ble_eq_true rfl) dX1_copyFrom_52) hI (by decide) (fun σ_10 H locs hpσ_10 hkσ_10 hI => ?_)
  obtain ⟨ahpσ_10, bhpσ_10⟩ := hpσ_10
  have fr_σ_10 := fr_σ_8.call bhpσ_10 rfl rfl
  replace hF := q_letX hF ahpσ_10
  refine lv_aload_n hx hb dX1_copyFrom_55 rfl (lv_at hl 0 rfl) ?_
  refine gs_X1_32_2 E hI ha dX1_copyFrom_56 ?_
  refine lv_aload_n hx hb dX1_copyFrom_59 rfl (lv_at hl 1 rfl) ?_
  refine gs_X1_32_2 E hI hr1 dX1_copyFrom_60 ?_
  refine q_cv (q_runV (As := [.ref (q_rf X r1 5)]) (rest := []) E (hml.trans hl.1.symm) hI (c_X5_copyFrom l X σ_10 (q_rf X a 5) (q_rf X r1 5) (q_tk (k' := 5) hI ha rfl (by decide)) (q_tk (k' := 5) hI hr1 rfl (by decide))) kv_X1_41 (q_tk (k' := 5) hI ha rfl (by decide)) ⟨rfl, by decide⟩ (show vwCl[4]? = some (RX5, TX5, 1) from rfl) rfl ⟨Nat.le_of_ble_eq_true rfl, Nat.le_of_ble_eq_true rfl⟩ ⟨Nat.le_refl _, Nat.le_refl _⟩ rfl (Nat.le_of_ble_eq_true rfl) dX1_copyFrom_63) hI (by decide) (fun σ_12 H locs hpσ_12 hkσ_12 hI => ?_)
  obtain ⟨ahpσ_12, bhpσ_12⟩ := hpσ_12
  have fr_σ_12 := fr_σ_10.call bhpσ_12 rfl rfl
  replace hF := q_letX hF ahpσ_12
  refine lv_aload_n hx hb dX1_copyFrom_66 rfl (lv_at hl 0 rfl) ?_
  refine gs_X1_35_2 E hI ha dX1_copyFrom_67 ?_
  refine lv_aload_n hx hb dX1_copyFrom_70 rfl (lv_at hl 1 rfl) ?_
  refine gs_X1_35_2 E hI hr1 dX1_copyFrom_71 ?_
  refine q_cv (q_runV (As := [.ref (q_rf X r1 6)]) (rest := []) E (hml.trans hl.1.symm) hI (c_X5_copyFrom l X σ_12 (q_rf X a 6) (q_rf X r1 6) (q_tk (k' := 5) hI ha rfl (by decide)) (q_tk (k' := 5) hI hr1 rfl (by decide))) kv_X1_41 (q_tk (k' := 5) hI ha rfl (by decide)) ⟨rfl, by decide⟩ (show vwCl[4]? = some (RX5, TX5, 1) from rfl) rfl ⟨Nat.le_of_ble_eq_true rfl, Nat.le_of_ble_eq_true rfl⟩ ⟨Nat.le_refl _, Nat.le_refl _⟩ rfl (Nat.le_of_ble_eq_true rfl) dX1_copyFrom_74) hI (by decide) (fun σ_14 H locs hpσ_14 hkσ_14 hI => ?_)
  obtain ⟨ahpσ_14, bhpσ_14⟩ := hpσ_14
  have fr_σ_14 := fr_σ_12.call bhpσ_14 rfl rfl
  replace hF := q_letX hF ahpσ_14
  exact q_retv E hr hlk hI ⟨(hF.trans hout), fr_σ_14⟩ dX1_copyFrom_77

set_option maxRecDepth 100000 in
set_option maxHeartbeats 4000000 in
theorem c_X2_copyFrom (l : Launch) (X : XW) (σ : ST) (a : Nat) (r1 : Nat) (ha : q_kd X a = 3) (hr1 : q_kd X r1 = 3) : Met l yX2_copyFrom (q_ws yX2_copyFrom cX2_copyFrom 2 none) (q_rm 1 22) (q_P X σ [.ref a, .ref r1]) (q_Qv X 8 σ (fun (σ' : ST) => σ' = F_X2_copyFrom X σ a r1 ∧ q_ow [(3, 0), (3, 1), (20, 99)] [] X σ σ')) 0 0 (q_reg X) := by
  refine q_met 8 (by first | exact rfl | decide +kernel) rfl (Nat.le_of_ble_eq_true rfl) (fun p e s m below meth c E hml hr hlk hI ls hl => ?_)
  have hx := E.1
  have hb := E.2.1
  have hl : lv_has ls 2 [(0, .ref a), (1, .ref r1)] := hl
  have fr_σ : q_ow [(3, 0), (3, 1), (20, 99)] [] X σ σ := q_ow.rf
  obtain ⟨out, hout⟩ : ∃ o, o = F_X2_copyFrom X σ a r1 := ⟨_, rfl⟩
  have hF := hout.symm
  unfold F_X2_copyFrom at hF
  refine lv_aload_n hx hb dX2_copyFrom_0 rfl (lv_at hl 0 rfl) ?_
  refine lv_aload_n hx hb dX2_copyFrom_1 rfl (lv_at hl 1 rfl) ?_
  refine gs_X2_9_3 E hI hr1 dX2_copyFrom_2 ?_
  refine lv_topi (fun f_1 ef_1 => ?_)
  replace hF := q_letX hF ef_1
  refine ps_X2_9_3 E hI ha (by decide) dX2_copyFrom_5 (fun H locs σ_2 hσ_2 hI => ?_)
  replace hF := q_letX hF hσ_2
  have fr_σ_2 := fr_σ.si hσ_2 ha rfl
  refine lv_aload_n hx hb dX2_copyFrom_8 rfl (lv_at hl 0 rfl) ?_
  refine lv_aload_n hx hb dX2_copyFrom_9 rfl (lv_at hl 1 rfl) ?_
  refine gs_X2_15_3 E hI hr1 dX2_copyFrom_10 ?_
  refine lv_topi (fun f_3 ef_3 => ?_)
  replace hF := q_letX hF ef_3
  refine ps_X2_15_3 E hI ha (by decide) dX2_copyFrom_13 (fun H locs σ_4 hσ_4 hI => ?_)
  replace hF := q_letX hF hσ_4
  have fr_σ_4 := fr_σ_2.si hσ_4 ha rfl
  refine lv_aload_n hx hb dX2_copyFrom_16 rfl (lv_at hl 0 rfl) ?_
  refine gs_X2_23_3 E hI ha dX2_copyFrom_17 ?_
  refine lv_aload_n hx hb dX2_copyFrom_20 rfl (lv_at hl 1 rfl) ?_
  refine gs_X2_23_3 E hI hr1 dX2_copyFrom_21 ?_
  refine q_cv (q_runV (As := [.ref (q_rf X r1 2)]) (rest := []) E (hml.trans hl.1.symm) hI (c_X5_copyFrom l X σ_4 (q_rf X a 2) (q_rf X r1 2) (q_tk (k' := 5) hI ha rfl (by decide)) (q_tk (k' := 5) hI hr1 rfl (by decide))) kv_X2_36 (q_tk (k' := 5) hI ha rfl (by decide)) ⟨rfl, by decide⟩ (show vwCl[4]? = some (RX5, TX5, 1) from rfl) rfl ⟨Nat.le_of_ble_eq_true rfl, Nat.le_of_ble_eq_true rfl⟩ ⟨Nat.le_refl _, Nat.le_refl _⟩ rfl (Nat.le_of_ble_eq_true rfl) dX2_copyFrom_24) hI (by decide) (fun σ_6 H locs hpσ_6 hkσ_6 hI => ?_)
  obtain ⟨ahpσ_6, bhpσ_6⟩ := hpσ_6
  have fr_σ_6 := fr_σ_4.call bhpσ_6 rfl rfl
  replace hF := q_letX hF ahpσ_6
  refine lv_aload_n hx hb dX2_copyFrom_27 rfl (lv_at hl 0 rfl) ?_
  refine gs_X2_27_3 E hI ha dX2_copyFrom_28 ?_
  refine lv_aload_n hx hb dX2_copyFrom_31 rfl (lv_at hl 1 rfl) ?_
  refine gs_X2_27_3 E hI hr1 dX2_copyFrom_32 ?_
  refine q_cv (q_runV (As := [.ref (q_rf X r1 3)]) (rest := []) E (hml.trans hl.1.symm) hI (c_X5_copyFrom l X σ_6 (q_rf X a 3) (q_rf X r1 3) (q_tk (k' := 5) hI ha rfl (by decide)) (q_tk (k' := 5) hI hr1 rfl (by decide))) kv_X2_36 (q_tk (k' := 5) hI ha rfl (by decide)) ⟨rfl, by decide⟩ (show vwCl[4]? = some (RX5, TX5, 1) from rfl) rfl ⟨Nat.le_of_ble_eq_true rfl, Nat.le_of_ble_eq_true rfl⟩ ⟨Nat.le_refl _, Nat.le_refl _⟩ rfl (Nat.le_of_ble_eq_true rfl) dX2_copyFrom_35) hI (by decide) (fun σ_8 H locs hpσ_8 hkσ_8 hI => ?_)
  obtain ⟨ahpσ_8, bhpσ_8⟩ := hpσ_8
  have fr_σ_8 := fr_σ_6.call bhpσ_8 rfl rfl
  replace hF := q_letX hF ahpσ_8
  refine lv_aload_n hx hb dX2_copyFrom_38 rfl (lv_at hl 0 rfl) ?_
  refine gs_X2_30_3 E hI ha dX2_copyFrom_39 ?_
  refine lv_aload_n hx hb dX2_copyFrom_42 rfl (lv_at hl 1 rfl) ?_
  refine gs_X2_30_3 E hI hr1 dX2_copyFrom_43 ?_
  refine q_cv (q_runV (As := [.ref (q_rf X r1 4)]) (rest := []) E (hml.trans hl.1.symm) hI (c_X5_copyFrom l X σ_8 (q_rf X a 4) (q_rf X r1 4) (q_tk (k' := 5) hI ha rfl (by decide)) (q_tk (k' := 5) hI hr1 rfl (by decide))) kv_X2_36 (q_tk (k' := 5) hI ha rfl (by decide)) ⟨rfl, by decide⟩ (show vwCl[4]? = some (RX5, TX5, 1) from rfl) rfl ⟨Nat.le_of_ble_eq_true rfl, Nat.le_of_ble_eq_true rfl⟩ ⟨Nat.le_refl _, Nat.le_refl _⟩ rfl (Nat.le_of_ble_eq_true rfl) dX2_copyFrom_46) hI (by decide) (fun σ_10 H locs hpσ_10 hkσ_10 hI => ?_)
  obtain ⟨ahpσ_10, bhpσ_10⟩ := hpσ_10
  have fr_σ_10 := fr_σ_8.call bhpσ_10 rfl rfl
  replace hF := q_letX hF ahpσ_10
  refine lv_aload_n hx hb dX2_copyFrom_49 rfl (lv_at hl 0 rfl) ?_
  refine gs_X2_33_3 E hI ha dX2_copyFrom_50 ?_
  refine lv_aload_n hx hb dX2_copyFrom_53 rfl (lv_at hl 1 rfl) ?_
  refine gs_X2_33_3 E hI hr1 dX2_copyFrom_54 ?_
  refine q_cv (q_runV (As := [.ref (q_rf X r1 5)]) (rest := []) E (hml.trans hl.1.symm) hI (c_X5_copyFrom l X σ_10 (q_rf X a 5) (q_rf X r1 5) (q_tk (k' := 5) hI ha rfl (by decide)) (q_tk (k' := 5) hI hr1 rfl (by decide))) kv_X2_36 (q_tk (k' := 5) hI ha rfl (by decide)) ⟨rfl, by decide⟩ (show vwCl[4]? = some (RX5, TX5, 1) from rfl) rfl ⟨Nat.le_of_ble_eq_true rfl, Nat.le_of_ble_eq_true rfl⟩ ⟨Nat.le_refl _, Nat.le_refl _⟩ rfl (Nat.le_of_ble_eq_true rfl) dX2_copyFrom_57) hI (by decide) (fun σ_12 H locs hpσ_12 hkσ_12 hI => ?_)
  obtain ⟨ahpσ_12, bhpσ_12⟩ := hpσ_12
  have fr_σ_12 := fr_σ_10.call bhpσ_12 rfl rfl
  replace hF := q_letX hF ahpσ_12
  exact q_retv E hr hlk hI ⟨(hF.trans hout), fr_σ_12⟩ dX2_copyFrom_60

set_option maxRecDepth 100000 in
set_option maxHeartbeats 4000000 in
theorem c_X8_copyFrom (l : Launch) (X : XW) (σ : ST) (a : Nat) (r1 : Nat) (ha : q_kd X a = 8) (hr1 : q_kd X r1 = 8) : Met l yX8_copyFrom (q_ws yX8_copyFrom cX8_copyFrom 2 none) (q_rm 1 22) (q_P X σ [.ref a, .ref r1]) (q_Qv X 8 σ (fun (σ' : ST) => σ' = F_X8_copyFrom X σ a r1 ∧ q_ow [(8, 0), (8, 1), (8, 2), (20, 99)] [] X σ σ')) 0 0 (q_reg X) := by
  refine q_met 8 (by first | exact rfl | decide +kernel) rfl (Nat.le_of_ble_eq_true rfl) (fun p e s m below meth c E hml hr hlk hI ls hl => ?_)
  have hx := E.1
  have hb := E.2.1
  have hl : lv_has ls 2 [(0, .ref a), (1, .ref r1)] := hl
  have fr_σ : q_ow [(8, 0), (8, 1), (8, 2), (20, 99)] [] X σ σ := q_ow.rf
  obtain ⟨out, hout⟩ : ∃ o, o = F_X8_copyFrom X σ a r1 := ⟨_, rfl⟩
  have hF := hout.symm
  unfold F_X8_copyFrom at hF
  refine lv_aload_n hx hb dX8_copyFrom_0 rfl (lv_at hl 0 rfl) ?_
  refine lv_aload_n hx hb dX8_copyFrom_1 rfl (lv_at hl 1 rfl) ?_
  refine gs_X8_11_8 E hI hr1 dX8_copyFrom_2 ?_
  refine lv_topi (fun f_1 ef_1 => ?_)
  replace hF := q_letX hF ef_1
  have bf_1 : 0 ≤ f_1.toInt ∧ f_1.toInt ≤ 1 := by rw [ef_1]; exact q_bd hI hr1 rfl
  refine ps_X8_11_8 E hI ha (by decide) (by omega) (by omega) dX8_copyFrom_5 (fun H locs σ_2 hσ_2 hI => ?_)
  replace hF := q_letX hF hσ_2
  have fr_σ_2 := fr_σ.si hσ_2 ha rfl
  refine lv_aload_n hx hb dX8_copyFrom_8 rfl (lv_at hl 0 rfl) ?_
  refine lv_aload_n hx hb dX8_copyFrom_9 rfl (lv_at hl 1 rfl) ?_
  refine gs_X8_15_8 E hI hr1 dX8_copyFrom_10 ?_
  refine lv_topi (fun f_3 ef_3 => ?_)
  replace hF := q_letX hF ef_3
  refine ps_X8_15_8 E hI ha (by decide) dX8_copyFrom_13 (fun H locs σ_4 hσ_4 hI => ?_)
  replace hF := q_letX hF hσ_4
  have fr_σ_4 := fr_σ_2.si hσ_4 ha rfl
  refine lv_aload_n hx hb dX8_copyFrom_16 rfl (lv_at hl 0 rfl) ?_
  refine lv_aload_n hx hb dX8_copyFrom_17 rfl (lv_at hl 1 rfl) ?_
  refine gs_X8_19_8 E hI hr1 dX8_copyFrom_18 ?_
  refine lv_topi (fun f_5 ef_5 => ?_)
  replace hF := q_letX hF ef_5
  refine ps_X8_19_8 E hI ha (by decide) dX8_copyFrom_21 (fun H locs σ_6 hσ_6 hI => ?_)
  replace hF := q_letX hF hσ_6
  have fr_σ_6 := fr_σ_4.si hσ_6 ha rfl
  refine lv_aload_n hx hb dX8_copyFrom_24 rfl (lv_at hl 0 rfl) ?_
  refine gs_X8_27_8 E hI ha dX8_copyFrom_25 ?_
  refine lv_aload_n hx hb dX8_copyFrom_28 rfl (lv_at hl 1 rfl) ?_
  refine gs_X8_27_8 E hI hr1 dX8_copyFrom_29 ?_
  refine q_cv (q_runV (As := [.ref (q_rf X r1 3)]) (rest := []) E (hml.trans hl.1.symm) hI (c_X5_copyFrom l X σ_6 (q_rf X a 3) (q_rf X r1 3) (q_tk (k' := 5) hI ha rfl (by decide)) (q_tk (k' := 5) hI hr1 rfl (by decide))) kv_X8_43 (q_tk (k' := 5) hI ha rfl (by decide)) ⟨rfl, by decide⟩ (show vwCl[4]? = some (RX5, TX5, 1) from rfl) rfl ⟨Nat.le_of_ble_eq_true rfl, Nat.le_of_ble_eq_true rfl⟩ ⟨Nat.le_refl _, Nat.le_refl _⟩ rfl (Nat.le_of_ble_eq_true rfl) dX8_copyFrom_32) hI (by decide) (fun σ_8 H locs hpσ_8 hkσ_8 hI => ?_)
  obtain ⟨ahpσ_8, bhpσ_8⟩ := hpσ_8
  have fr_σ_8 := fr_σ_6.call bhpσ_8 rfl rfl
  replace hF := q_letX hF ahpσ_8
  refine lv_aload_n hx hb dX8_copyFrom_35 rfl (lv_at hl 0 rfl) ?_
  refine gs_X8_31_8 E hI ha dX8_copyFrom_36 ?_
  refine lv_aload_n hx hb dX8_copyFrom_39 rfl (lv_at hl 1 rfl) ?_
  refine gs_X8_31_8 E hI hr1 dX8_copyFrom_40 ?_
  refine q_cv (q_runV (As := [.ref (q_rf X r1 4)]) (rest := []) E (hml.trans hl.1.symm) hI (c_X5_copyFrom l X σ_8 (q_rf X a 4) (q_rf X r1 4) (q_tk (k' := 5) hI ha rfl (by decide)) (q_tk (k' := 5) hI hr1 rfl (by decide))) kv_X8_43 (q_tk (k' := 5) hI ha rfl (by decide)) ⟨rfl, by decide⟩ (show vwCl[4]? = some (RX5, TX5, 1) from rfl) rfl ⟨Nat.le_of_ble_eq_true rfl, Nat.le_of_ble_eq_true rfl⟩ ⟨Nat.le_refl _, Nat.le_refl _⟩ rfl (Nat.le_of_ble_eq_true rfl) dX8_copyFrom_43) hI (by decide) (fun σ_10 H locs hpσ_10 hkσ_10 hI => ?_)
  obtain ⟨ahpσ_10, bhpσ_10⟩ := hpσ_10
  have fr_σ_10 := fr_σ_8.call bhpσ_10 rfl rfl
  replace hF := q_letX hF ahpσ_10
  refine lv_aload_n hx hb dX8_copyFrom_46 rfl (lv_at hl 0 rfl) ?_
  refine gs_X8_34_8 E hI ha dX8_copyFrom_47 ?_
  refine lv_aload_n hx hb dX8_copyFrom_50 rfl (lv_at hl 1 rfl) ?_
  refine gs_X8_34_8 E hI hr1 dX8_copyFrom_51 ?_
  refine q_cv (q_runV (As := [.ref (q_rf X r1 5)]) (rest := []) E (hml.trans hl.1.symm) hI (c_X5_copyFrom l X σ_10 (q_rf X a 5) (q_rf X r1 5) (q_tk (k' := 5) hI ha rfl (by decide)) (q_tk (k' := 5) hI hr1 rfl (by decide))) kv_X8_43 (q_tk (k' := 5) hI ha rfl (by decide)) ⟨rfl, by decide⟩ (show vwCl[4]? = some (RX5, TX5, 1) from rfl) rfl ⟨Nat.le_of_ble_eq_true rfl, Nat.le_of_ble_eq_true rfl⟩ ⟨Nat.le_refl _, Nat.le_refl _⟩ rfl (Nat.le_of_ble_eq_true rfl) dX8_copyFrom_54) hI (by decide) (fun σ_12 H locs hpσ_12 hkσ_12 hI => ?_)
  obtain ⟨ahpσ_12, bhpσ_12⟩ := hpσ_12
  have fr_σ_12 := fr_σ_10.call bhpσ_12 rfl rfl
  replace hF := q_letX hF ahpσ_12
  refine lv_aload_n hx hb dX8_copyFrom_57 rfl (lv_at hl 0 rfl) ?_
  refine gs_X8_37_8 E hI ha dX8_copyFrom_58 ?_
  refine lv_aload_n hx hb dX8_copyFrom_61 rfl (lv_at hl 1 rfl) ?_
  refine gs_X8_37_8 E hI hr1 dX8_copyFrom_62 ?_
  refine q_cv (q_runV (As := [.ref (q_rf X r1 6)]) (rest := []) E (hml.trans hl.1.symm) hI (c_X5_copyFrom l X σ_12 (q_rf X a 6) (q_rf X r1 6) (q_tk (k' := 5) hI ha rfl (by decide)) (q_tk (k' := 5) hI hr1 rfl (by decide))) kv_X8_43 (q_tk (k' := 5) hI ha rfl (by decide)) ⟨rfl, by decide⟩ (show vwCl[4]? = some (RX5, TX5, 1) from rfl) rfl ⟨Nat.le_of_ble_eq_true rfl, Nat.le_of_ble_eq_true rfl⟩ ⟨Nat.le_refl _, Nat.le_refl _⟩ rfl (Nat.le_of_ble_eq_true rfl) dX8_copyFrom_65) hI (by decide) (fun σ_14 H locs hpσ_14 hkσ_14 hI => ?_)
  obtain ⟨ahpσ_14, bhpσ_14⟩ := hpσ_14
  have fr_σ_14 := fr_σ_12.call bhpσ_14 rfl rfl
  replace hF := q_letX hF ahpσ_14
  refine lv_aload_n hx hb dX8_copyFrom_68 rfl (lv_at hl 0 rfl) ?_
  refine gs_X8_40_8 E hI ha dX8_copyFrom_69 ?_
  refine lv_aload_n hx hb dX8_copyFrom_72 rfl (lv_at hl 1 rfl) ?_
  refine gs_X8_40_8 E hI hr1 dX8_copyFrom_73 ?_
  refine q_cv (q_runV (As := [.ref (q_rf X r1 7)]) (rest := []) E (hml.trans hl.1.symm) hI (c_X5_copyFrom l X σ_14 (q_rf X a 7) (q_rf X r1 7) (q_tk (k' := 5) hI ha rfl (by decide)) (q_tk (k' := 5) hI hr1 rfl (by decide))) kv_X8_43 (q_tk (k' := 5) hI ha rfl (by decide)) ⟨rfl, by decide⟩ (show vwCl[4]? = some (RX5, TX5, 1) from rfl) rfl ⟨Nat.le_of_ble_eq_true rfl, Nat.le_of_ble_eq_true rfl⟩ ⟨Nat.le_refl _, Nat.le_refl _⟩ rfl (Nat.le_of_ble_eq_true rfl) dX8_copyFrom_76) hI (by decide) (fun σ_16 H locs hpσ_16 hkσ_16 hI => ?_)
  obtain ⟨ahpσ_16, bhpσ_16⟩ := hpσ_16
  have fr_σ_16 := fr_σ_14.call bhpσ_16 rfl rfl
  replace hF := q_letX hF ahpσ_16
  exact q_retv E hr hlk hI ⟨(hF.trans hout), fr_σ_16⟩ dX8_copyFrom_79

set_option maxRecDepth 100000 in
set_option maxHeartbeats 4000000 in
theorem c_X8_add (l : Launch) (X : XW) (σ : ST) (a : Nat) (v1 : Int32) (ha : q_kd X a = 8) : Met l yX8_add (q_ws yX8_add cX8_add 2 (some .int)) (q_rm 1 22) (q_P X σ [.ref a, .int v1]) (q_Qi X 8 σ (fun (r : Int32) (σ' : ST) => (r, σ') = F_X8_add X σ a v1 ∧ q_ow [(8, 2), (20, 99)] [] X σ σ')) 0 0 (q_reg X) := by
  refine q_met 8 (by first | exact rfl | decide +kernel) rfl (Nat.le_of_ble_eq_true rfl) (fun p e s m below meth c E hml hr hlk hI ls hl => ?_)
  have hx := E.1
  have hb := E.2.1
  have hl : lv_has ls 2 [(0, .ref a), (1, .int v1)] := hl
  have fr_σ : q_ow [(8, 2), (20, 99)] [] X σ σ := q_ow.rf
  obtain ⟨out, hout⟩ : ∃ o, o = F_X8_add X σ a v1 := ⟨_, rfl⟩
  have hF := hout.symm
  unfold F_X8_add at hF
  refine lv_aload_n hx hb dX8_add_0 rfl (lv_at hl 0 rfl) ?_
  refine gs_X8_27_8 E hI ha dX8_add_1 ?_
  refine lv_aload_n hx hb dX8_add_4 rfl (lv_at hl 0 rfl) ?_
  refine gs_X8_19_8 E hI ha dX8_add_5 ?_
  refine lv_topi (fun f_1 ef_1 => ?_)
  replace hF := q_letX hF ef_1
  refine lv_iload_n hx hb dX8_add_8 rfl (lv_at hl 1 rfl) ?_
  refine q_cv (q_runV (As := [.int f_1, .int v1]) (rest := []) E (hml.trans hl.1.symm) hI (c_X5_set l X σ (q_rf X a 3) f_1 v1 (q_tk (k' := 5) hI ha rfl (by decide))) kv_X8_47 (q_tk (k' := 5) hI ha rfl (by decide)) ⟨rfl, by decide⟩ (show vwCl[4]? = some (RX5, TX5, 1) from rfl) rfl ⟨Nat.le_of_ble_eq_true rfl, Nat.le_of_ble_eq_true rfl⟩ ⟨Nat.le_refl _, Nat.le_refl _⟩ rfl (Nat.le_of_ble_eq_true rfl) dX8_add_9) hI (by decide) (fun σ_3 H locs hpσ_3 hkσ_3 hI => ?_)
  obtain ⟨ahpσ_3, bhpσ_3⟩ := hpσ_3
  have fr_σ_3 := fr_σ.call bhpσ_3 rfl rfl
  replace hF := q_letX hF ahpσ_3
  refine lv_aload_n hx hb dX8_add_12 rfl (lv_at hl 0 rfl) ?_
  refine lv_dup hx hb dX8_add_13 rfl ?_
  refine gs_X8_19_8 E hI ha dX8_add_14 ?_
  refine lv_topi (fun f_4 ef_4 => ?_)
  replace hF := q_letX hF ef_4
  refine lv_iconst (v := 1) hx hb dX8_add_17 (by decide) ?_
  refine lv_iadd hx hb dX8_add_18 ?_
  refine lv_topi (fun z_5 ez_5 => ?_)
  replace hF := q_letX hF ez_5
  refine ps_X8_19_8 E hI ha (by decide) dX8_add_19 (fun H locs σ_6 hσ_6 hI => ?_)
  replace hF := q_letX hF hσ_6
  have fr_σ_6 := fr_σ_3.si hσ_6 ha rfl
  refine lv_aload_n hx hb dX8_add_22 rfl (lv_at hl 0 rfl) ?_
  refine gs_X8_19_8 E hI ha dX8_add_23 ?_
  refine lv_topi (fun f_7 ef_7 => ?_)
  replace hF := q_letX hF ef_7
  refine lv_iconst (v := 1) hx hb dX8_add_26 (by decide) ?_
  refine lv_isub hx hb dX8_add_27 ?_
  refine lv_topi (fun z_8 ez_8 => ?_)
  replace hF := q_letX hF ez_8
  exact q_reti E hr hlk hI ⟨(hF.trans hout), fr_σ_6⟩ dX8_add_28

set_option maxRecDepth 100000 in
set_option maxHeartbeats 4000000 in
theorem c_X8_isWhen (l : Launch) (X : XW) (σ : ST) (v0 : Int32) : Met l yX8_isWhen (q_ws yX8_isWhen cX8_isWhen 1 (some .boolean)) (q_rm 0 0) (q_P X σ [.int v0]) (q_Qi X 9 σ (fun (r : Int32) (σ' : ST) => σ' = σ ∧ (0 ≤ r.toInt ∧ r.toInt ≤ 1) ∧ r = F_X8_isWhen X σ v0)) 0 0 (q_reg X) := by
  refine q_met 9 (by first | exact rfl | decide +kernel) rfl (Nat.le_of_ble_eq_true rfl) (fun p e s m below meth c E hml hr hlk hI ls hl => ?_)
  have hx := E.1
  have hb := E.2.1
  have hl : lv_has ls 1 [(0, .int v0)] := hl
  obtain ⟨out, hout⟩ : ∃ o, o = F_X8_isWhen X σ v0 := ⟨_, rfl⟩
  have hF := hout.symm
  unfold F_X8_isWhen at hF
  refine lv_iload_n hx hb dX8_isWhen_0 rfl (lv_at hl 0 rfl) ?_
  refine lv_iconst (v := 5) hx hb dX8_isWhen_1 (by decide) ?_
  refine q_icmp_lt (A := v0.toInt) (B := 5) E rfl (by decide) (tgt := 15) dX8_isWhen_2 (by decide) (fun c_1 => ?_) (fun c_1 => ?_)
  · skip
    replace hF := q_ifp hF c_1
    refine lv_iconst (v := 0) hx hb dX8_isWhen_15 (by decide) ?_
    have hrv : (0 : Int32).toInt = 0 := rfl
    exact q_retz E hr hlk hI ⟨by decide, by decide⟩ ⟨rfl, ⟨by decide, by decide⟩, (hF.trans hout)⟩ dX8_isWhen_16
  · skip
    replace hF := q_ifn hF (Int.not_lt.mpr c_1)
    refine lv_iload_n hx hb dX8_isWhen_5 rfl (lv_at hl 0 rfl) ?_
    refine lv_bipush (v := 8) hx hb dX8_isWhen_6 (by decide) ?_
    refine q_icmp_gt (A := v0.toInt) (B := 8) E rfl (by decide) (tgt := 15) dX8_isWhen_8 (by decide) (fun c_2 => ?_) (fun c_2 => ?_)
    · skip
      replace hF := q_ifp hF c_2
      refine lv_iconst (v := 0) hx hb dX8_isWhen_15 (by decide) ?_
      have hrv : (0 : Int32).toInt = 0 := rfl
      exact q_retz E hr hlk hI ⟨by decide, by decide⟩ ⟨rfl, ⟨by decide, by decide⟩, (hF.trans hout)⟩ dX8_isWhen_16
    · skip
      replace hF := q_ifn hF (Int.not_lt.mpr c_2)
      refine lv_iconst (v := 1) hx hb dX8_isWhen_11 (by decide) ?_
      refine lv_goto (tgt := 16) hx hb dX8_isWhen_12 (by decide) ?_
      have hrv : (1 : Int32).toInt = 1 := rfl
      exact q_retz E hr hlk hI ⟨by decide, by decide⟩ ⟨rfl, ⟨by decide, by decide⟩, (hF.trans hout)⟩ dX8_isWhen_16

set_option maxRecDepth 100000 in
set_option maxHeartbeats 4000000 in
theorem c_X8_hasName (l : Launch) (X : XW) (σ : ST) (v0 : Int32) : Met l yX8_hasName (q_ws yX8_hasName cX8_hasName 1 (some .boolean)) (q_rm 0 0) (q_P X σ [.int v0]) (q_Qi X 9 σ (fun (r : Int32) (σ' : ST) => σ' = σ ∧ (0 ≤ r.toInt ∧ r.toInt ≤ 1) ∧ r = F_X8_hasName X σ v0)) 0 0 (q_reg X) := by
  refine q_met 9 (by first | exact rfl | decide +kernel) rfl (Nat.le_of_ble_eq_true rfl) (fun p e s m below meth c E hml hr hlk hI ls hl => ?_)
  have hx := E.1
  have hb := E.2.1
  have hl : lv_has ls 1 [(0, .int v0)] := hl
  obtain ⟨out, hout⟩ : ∃ o, o = F_X8_hasName X σ v0 := ⟨_, rfl⟩
  have hF := hout.symm
  unfold F_X8_hasName at hF
  refine lv_iload_n hx hb dX8_hasName_0 rfl (lv_at hl 0 rfl) ?_
  refine lv_iconst (v := 1) hx hb dX8_hasName_1 (by decide) ?_
  refine q_icmp_eq (A := v0.toInt) (B := 1) E rfl (by decide) (tgt := 21) dX8_hasName_2 (by decide) (fun c_1 => ?_) (fun c_1 => ?_)
  · skip
    replace hF := q_ifp hF c_1
    refine lv_iconst (v := 1) hx hb dX8_hasName_21 (by decide) ?_
    refine lv_goto (tgt := 26) hx hb dX8_hasName_22 (by decide) ?_
    have hrv : (1 : Int32).toInt = 1 := rfl
    exact q_retz E hr hlk hI ⟨by decide, by decide⟩ ⟨rfl, ⟨by decide, by decide⟩, (hF.trans hout)⟩ dX8_hasName_26
  · skip
    replace hF := q_ifn hF c_1
    refine lv_iload_n hx hb dX8_hasName_5 rfl (lv_at hl 0 rfl) ?_
    refine lv_iconst (v := 2) hx hb dX8_hasName_6 (by decide) ?_
    refine q_icmp_eq (A := v0.toInt) (B := 2) E rfl (by decide) (tgt := 21) dX8_hasName_7 (by decide) (fun c_2 => ?_) (fun c_2 => ?_)
    · skip
      replace hF := q_ifp hF c_2
      refine lv_iconst (v := 1) hx hb dX8_hasName_21 (by decide) ?_
      refine lv_goto (tgt := 26) hx hb dX8_hasName_22 (by decide) ?_
      have hrv : (1 : Int32).toInt = 1 := rfl
      exact q_retz E hr hlk hI ⟨by decide, by decide⟩ ⟨rfl, ⟨by decide, by decide⟩, (hF.trans hout)⟩ dX8_hasName_26
    · skip
      replace hF := q_ifn hF c_2
      refine lv_iload_n hx hb dX8_hasName_10 rfl (lv_at hl 0 rfl) ?_
      refine lv_iconst (v := 5) hx hb dX8_hasName_11 (by decide) ?_
      refine q_icmp_eq (A := v0.toInt) (B := 5) E rfl (by decide) (tgt := 21) dX8_hasName_12 (by decide) (fun c_3 => ?_) (fun c_3 => ?_)
      · skip
        replace hF := q_ifp hF c_3
        refine lv_iconst (v := 1) hx hb dX8_hasName_21 (by decide) ?_
        refine lv_goto (tgt := 26) hx hb dX8_hasName_22 (by decide) ?_
        have hrv : (1 : Int32).toInt = 1 := rfl
        exact q_retz E hr hlk hI ⟨by decide, by decide⟩ ⟨rfl, ⟨by decide, by decide⟩, (hF.trans hout)⟩ dX8_hasName_26
      · skip
        replace hF := q_ifn hF c_3
        refine lv_iload_n hx hb dX8_hasName_15 rfl (lv_at hl 0 rfl) ?_
        refine lv_bipush (v := 7) hx hb dX8_hasName_16 (by decide) ?_
        refine q_icmp_ne (A := v0.toInt) (B := 7) E rfl (by decide) (tgt := 25) dX8_hasName_18 (by decide) (fun c_4 => ?_) (fun c_4 => ?_)
        · skip
          replace hF := q_ifn hF c_4
          refine lv_iconst (v := 0) hx hb dX8_hasName_25 (by decide) ?_
          have hrv : (0 : Int32).toInt = 0 := rfl
          exact q_retz E hr hlk hI ⟨by decide, by decide⟩ ⟨rfl, ⟨by decide, by decide⟩, (hF.trans hout)⟩ dX8_hasName_26
        · skip
          replace hF := q_ifp hF c_4
          refine lv_iconst (v := 1) hx hb dX8_hasName_21 (by decide) ?_
          refine lv_goto (tgt := 26) hx hb dX8_hasName_22 (by decide) ?_
          have hrv : (1 : Int32).toInt = 1 := rfl
          exact q_retz E hr hlk hI ⟨by decide, by decide⟩ ⟨rfl, ⟨by decide, by decide⟩, (hF.trans hout)⟩ dX8_hasName_26

set_option maxRecDepth 100000 in
set_option maxHeartbeats 4000000 in
theorem c_X8_hasComparison (l : Launch) (X : XW) (σ : ST) (v0 : Int32) : Met l yX8_hasComparison (q_ws yX8_hasComparison cX8_hasComparison 1 (some .boolean)) (q_rm 1 20) (q_P X σ [.int v0]) (q_Qi X 9 σ (fun (r : Int32) (σ' : ST) => σ' = σ ∧ (0 ≤ r.toInt ∧ r.toInt ≤ 1) ∧ r = F_X8_hasComparison X σ v0)) 0 0 (q_reg X) := by
  refine q_met 9 (by first | exact rfl | decide +kernel) rfl (Nat.le_of_ble_eq_true rfl) (fun p e s m below meth c E hml hr hlk hI ls hl => ?_)
  have hx := E.1
  have hb := E.2.1
  have hl : lv_has ls 1 [(0, .int v0)] := hl
  obtain ⟨out, hout⟩ : ∃ o, o = F_X8_hasComparison X σ v0 := ⟨_, rfl⟩
  have hF := hout.symm
  unfold F_X8_hasComparison at hF
  refine lv_iload_n hx hb dX8_hasComparison_0 rfl (lv_at hl 0 rfl) ?_
  refine q_ci (q_runS (As := [.int v0]) (rest := []) E (hml.trans hl.1.symm) hI (c_X8_isWhen l X σ v0) ks_X8_55 rfl ⟨Nat.le_of_ble_eq_true rfl, Nat.le_of_ble_eq_true rfl⟩ ⟨Nat.le_refl _, Nat.le_refl _⟩ rfl (Nat.le_of_ble_eq_true rfl) dX8_hasComparison_1) hI (by decide) (fun r_1 σ_2 H locs hpσ_2 hkσ_2 hI => ?_)
  obtain ⟨ahpσ_2, bhpσ_2, chpσ_2⟩ := hpσ_2
  rw [ahpσ_2] at hI
  replace hF := q_letX hF chpσ_2
  refine q_if_eq (A := r_1.toInt) E rfl (tgt := 17) dX8_hasComparison_4 (by decide) (fun c_3 => ?_) (fun c_3 => ?_)
  · skip
    replace hF := q_ifp hF c_3
    refine lv_iconst (v := 0) hx hb dX8_hasComparison_17 (by decide) ?_
    have hrv : (0 : Int32).toInt = 0 := rfl
    exact q_retz E hr hlk hI ⟨by decide, by decide⟩ ⟨rfl, ⟨by decide, by decide⟩, (hF.trans hout)⟩ dX8_hasComparison_18
  · skip
    replace hF := q_ifn hF c_3
    replace c_3 := q_ifOne bhpσ_2 c_3
    refine lv_iload_n hx hb dX8_hasComparison_7 rfl (lv_at hl 0 rfl) ?_
    refine lv_bipush (v := 8) hx hb dX8_hasComparison_8 (by decide) ?_
    refine q_icmp_eq (A := v0.toInt) (B := 8) E rfl (by decide) (tgt := 17) dX8_hasComparison_10 (by decide) (fun c_4 => ?_) (fun c_4 => ?_)
    · skip
      replace hF := q_ifp hF c_4
      refine lv_iconst (v := 0) hx hb dX8_hasComparison_17 (by decide) ?_
      have hrv : (0 : Int32).toInt = 0 := rfl
      exact q_retz E hr hlk hI ⟨by decide, by decide⟩ ⟨rfl, ⟨by decide, by decide⟩, (hF.trans hout)⟩ dX8_hasComparison_18
    · skip
      replace hF := q_ifn hF c_4
      refine lv_iconst (v := 1) hx hb dX8_hasComparison_13 (by decide) ?_
      refine lv_goto (tgt := 18) hx hb dX8_hasComparison_14 (by decide) ?_
      have hrv : (1 : Int32).toInt = 1 := rfl
      exact q_retz E hr hlk hI ⟨by decide, by decide⟩ ⟨rfl, ⟨by decide, by decide⟩, (hF.trans hout)⟩ dX8_hasComparison_18

set_option maxRecDepth 100000 in
set_option maxHeartbeats 4000000 in
theorem c_X8_highest (l : Launch) (X : XW) (σ : ST) (v0 : Int32) : Met l yX8_highest (q_ws yX8_highest cX8_highest 1 (some .int)) (q_rm 0 0) (q_P X σ [.int v0]) (q_Qi X 9 σ (fun (r : Int32) (σ' : ST) => σ' = σ ∧ r = F_X8_highest X σ v0)) 0 0 (q_reg X) := by
  refine q_met 9 (by first | exact rfl | decide +kernel) rfl (Nat.le_of_ble_eq_true rfl) (fun p e s m below meth c E hml hr hlk hI ls hl => ?_)
  have hx := E.1
  have hb := E.2.1
  have hl : lv_has ls 1 [(0, .int v0)] := hl
  obtain ⟨out, hout⟩ : ∃ o, o = F_X8_highest X σ v0 := ⟨_, rfl⟩
  have hF := hout.symm
  unfold F_X8_highest at hF
  refine lv_iload_n hx hb dX8_highest_0 rfl (lv_at hl 0 rfl) ?_
  by_cases c_1 : v0.toInt = 1
  · refine lv_tableIn (off := 43) (tgt := 44) hx hb dX8_highest_1 (by omega) (by omega) (by rw [c_1]; rfl) (by decide) ?_
    replace hF := q_ifp hF c_1
    refine lv_bipush (v := 16) hx hb dX8_highest_44 (by decide) ?_
    exact q_reti E hr hlk hI ⟨rfl, (hF.trans hout)⟩ dX8_highest_46
  replace hF := q_ifn hF c_1
  by_cases c_2 : v0.toInt = 2
  · refine lv_tableIn (off := 43) (tgt := 44) hx hb dX8_highest_1 (by omega) (by omega) (by rw [c_2]; rfl) (by decide) ?_
    replace hF := q_ifp hF c_2
    refine lv_bipush (v := 16) hx hb dX8_highest_44 (by decide) ?_
    exact q_reti E hr hlk hI ⟨rfl, (hF.trans hout)⟩ dX8_highest_46
  replace hF := q_ifn hF c_2
  by_cases c_3 : v0.toInt = 3
  · refine lv_tableIn (off := 56) (tgt := 57) hx hb dX8_highest_1 (by omega) (by omega) (by rw [c_3]; rfl) (by decide) ?_
    replace hF := q_ifp hF c_3
    refine lv_iconst (v := (-1)) hx hb dX8_highest_57 (by decide) ?_
    exact q_reti E hr hlk hI ⟨rfl, (hF.trans hout)⟩ dX8_highest_58
  replace hF := q_ifn hF c_3
  by_cases c_4 : v0.toInt = 4
  · refine lv_tableIn (off := 46) (tgt := 47) hx hb dX8_highest_1 (by omega) (by omega) (by rw [c_4]; rfl) (by decide) ?_
    replace hF := q_ifp hF c_4
    refine lv_bipush (v := 99) hx hb dX8_highest_47 (by decide) ?_
    exact q_reti E hr hlk hI ⟨rfl, (hF.trans hout)⟩ dX8_highest_49
  replace hF := q_ifn hF c_4
  by_cases c_5 : v0.toInt = 5
  · refine lv_tableIn (off := 49) (tgt := 50) hx hb dX8_highest_1 (by omega) (by omega) (by rw [c_5]; rfl) (by decide) ?_
    replace hF := q_ifp hF c_5
    refine lv_bipush (v := 80) hx hb dX8_highest_50 (by decide) ?_
    exact q_reti E hr hlk hI ⟨rfl, (hF.trans hout)⟩ dX8_highest_52
  replace hF := q_ifn hF c_5
  by_cases c_6 : v0.toInt = 6
  · refine lv_tableIn (off := 49) (tgt := 50) hx hb dX8_highest_1 (by omega) (by omega) (by rw [c_6]; rfl) (by decide) ?_
    replace hF := q_ifp hF c_6
    refine lv_bipush (v := 80) hx hb dX8_highest_50 (by decide) ?_
    exact q_reti E hr hlk hI ⟨rfl, (hF.trans hout)⟩ dX8_highest_52
  replace hF := q_ifn hF c_6
  by_cases c_7 : v0.toInt = 7
  · refine lv_tableIn (off := 52) (tgt := 53) hx hb dX8_highest_1 (by omega) (by omega) (by rw [c_7]; rfl) (by decide) ?_
    replace hF := q_ifp hF c_7
    refine lv_sipush (v := 999) hx hb dX8_highest_53 (by decide) ?_
    exact q_reti E hr hlk hI ⟨rfl, (hF.trans hout)⟩ dX8_highest_56
  replace hF := q_ifn hF c_7
  refine lv_tableOut (tgt := 57) hx hb dX8_highest_1 (by omega) (by decide) ?_
  refine lv_iconst (v := (-1)) hx hb dX8_highest_57 (by decide) ?_
  exact q_reti E hr hlk hI ⟨rfl, (hF.trans hout)⟩ dX8_highest_58

set_option maxRecDepth 100000 in
set_option maxHeartbeats 4000000 in
theorem c_X1_allLaidBy (l : Launch) (X : XW) (σ : ST) (a : Nat) (v1 : Int32) (ha : q_kd X a = 2) : Met l yX1_allLaidBy (q_ws yX1_allLaidBy cX1_allLaidBy 2 (some .int)) (q_rm 2 45) (q_P X σ [.ref a, .int v1]) (q_Qi X 9 σ (fun (r : Int32) (σ' : ST) => σ' = σ ∧ r = F_X1_allLaidBy X σ a v1)) 0 0 (q_reg X) := by
  refine q_met 9 (by first | exact rfl | decide +kernel) rfl (Nat.le_of_ble_eq_true rfl) (fun p e s m below meth c E hml hr hlk hI ls hl => ?_)
  have hx := E.1
  have hb := E.2.1
  have hl : lv_has ls 2 [(0, .ref a), (1, .int v1)] := hl
  obtain ⟨out, hout⟩ : ∃ o, o = F_X1_allLaidBy X σ a v1 := ⟨_, rfl⟩
  have hF := hout.symm
  unfold F_X1_allLaidBy at hF
  refine lv_aload_n hx hb dX1_allLaidBy_0 rfl (lv_at hl 0 rfl) ?_
  refine gs_X1_20_2 E hI ha dX1_allLaidBy_1 ?_
  refine lv_iload_n hx hb dX1_allLaidBy_4 rfl (lv_at hl 1 rfl) ?_
  refine lv_bipush (v := 10) hx hb dX1_allLaidBy_5 (by decide) ?_
  refine lv_imul hx hb dX1_allLaidBy_7 ?_
  refine lv_topi (fun z_1 ez_1 => ?_)
  replace hF := q_letX hF ez_1
  refine lv_bipush (v := 10) hx hb dX1_allLaidBy_8 (by decide) ?_
  have kc_2 : (10 : Int32).toInt = 10 := rfl
  refine q_ci (q_runV (As := [.int z_1, .int 10]) (rest := []) E (hml.trans hl.1.symm) hI (c_X5_sum l X σ (q_rf X a 1) z_1 (10 : Int32) (q_tk (k' := 5) hI ha rfl (by decide))) kv_X1_49 (q_tk (k' := 5) hI ha rfl (by decide)) ⟨rfl, by decide⟩ (show vwCl[4]? = some (RX5, TX5, 1) from rfl) rfl ⟨Nat.le_of_ble_eq_true rfl, Nat.le_of_ble_eq_true rfl⟩ ⟨Nat.le_refl _, Nat.le_refl _⟩ rfl (Nat.le_of_ble_eq_true rfl) dX1_allLaidBy_10) hI (by decide) (fun r_3 σ_4 H locs hpσ_4 hkσ_4 hI => ?_)
  obtain ⟨ahpσ_4, bhpσ_4⟩ := hpσ_4
  rw [ahpσ_4] at hI
  replace hF := q_letX hF bhpσ_4
  exact q_reti E hr hlk hI ⟨rfl, (hF.trans hout)⟩ dX1_allLaidBy_13

set_option maxRecDepth 100000 in
set_option maxHeartbeats 4000000 in
theorem c_X1_heldBy (l : Launch) (X : XW) (σ : ST) (a : Nat) (v1 : Int32) (v2 : Int32) (ha : q_kd X a = 2) : Met l yX1_heldBy (q_ws yX1_heldBy cX1_heldBy 3 (some .int)) (q_rm 1 21) (q_P X σ [.ref a, .int v1, .int v2]) (q_Qi X 9 σ (fun (r : Int32) (σ' : ST) => σ' = σ ∧ r = F_X1_heldBy X σ a v1 v2)) 0 0 (q_reg X) := by
  refine q_met 9 (by first | exact rfl | decide +kernel) rfl (Nat.le_of_ble_eq_true rfl) (fun p e s m below meth c E hml hr hlk hI ls hl => ?_)
  have hx := E.1
  have hb := E.2.1
  have hl : lv_has ls 3 [(0, .ref a), (1, .int v1), (2, .int v2)] := hl
  obtain ⟨out, hout⟩ : ∃ o, o = F_X1_heldBy X σ a v1 v2 := ⟨_, rfl⟩
  have hF := hout.symm
  unfold F_X1_heldBy at hF
  refine lv_aload_n hx hb dX1_heldBy_0 rfl (lv_at hl 0 rfl) ?_
  refine gs_X1_14_2 E hI ha dX1_heldBy_1 ?_
  refine lv_iload_n hx hb dX1_heldBy_4 rfl (lv_at hl 1 rfl) ?_
  refine lv_bipush (v := 10) hx hb dX1_heldBy_5 (by decide) ?_
  refine lv_imul hx hb dX1_heldBy_7 ?_
  refine lv_topi (fun z_1 ez_1 => ?_)
  replace hF := q_letX hF ez_1
  refine lv_iload_n hx hb dX1_heldBy_8 rfl (lv_at hl 2 rfl) ?_
  refine lv_iadd hx hb dX1_heldBy_9 ?_
  refine lv_topi (fun z_2 ez_2 => ?_)
  replace hF := q_letX hF ez_2
  refine q_ci (q_runV (As := [.int z_2]) (rest := []) E (hml.trans hl.1.symm) hI (c_X5_get l X σ (q_rf X a 0) z_2 (q_tk (k' := 5) hI ha rfl (by decide))) kv_X1_45 (q_tk (k' := 5) hI ha rfl (by decide)) ⟨rfl, by decide⟩ (show vwCl[4]? = some (RX5, TX5, 1) from rfl) rfl ⟨Nat.le_of_ble_eq_true rfl, Nat.le_of_ble_eq_true rfl⟩ ⟨Nat.le_refl _, Nat.le_refl _⟩ rfl (Nat.le_of_ble_eq_true rfl) dX1_heldBy_10) hI (by decide) (fun r_3 σ_4 H locs hpσ_4 hkσ_4 hI => ?_)
  obtain ⟨ahpσ_4, bhpσ_4⟩ := hpσ_4
  rw [ahpσ_4] at hI
  replace hF := q_letX hF bhpσ_4
  exact q_reti E hr hlk hI ⟨rfl, (hF.trans hout)⟩ dX1_heldBy_13

set_option maxRecDepth 100000 in
set_option maxHeartbeats 4000000 in
theorem c_X2_truth (l : Launch) (X : XW) (σ : ST) (a : Nat) (v1 : Int32) (ha : q_kd X a = 3) : Met l yX2_truth (q_ws yX2_truth cX2_truth 4 (some .int)) (q_rm 1 21) (q_P X σ [.ref a, .int v1]) (q_Qi X 9 σ (fun (r : Int32) (σ' : ST) => σ' = σ ∧ r = F_X2_truth X σ a v1)) 0 0 (q_reg X) := by
  refine q_met 9 (by first | exact rfl | decide +kernel) rfl (Nat.le_of_ble_eq_true rfl) (fun p e s m below meth c E hml hr hlk hI ls hl => ?_)
  have hx := E.1
  have hb := E.2.1
  have hl : lv_has ls 4 [(0, .ref a), (1, .int v1)] := hl
  obtain ⟨out, hout⟩ : ∃ o, o = F_X2_truth X σ a v1 := ⟨_, rfl⟩
  have hF := hout.symm
  unfold F_X2_truth at hF
  refine lv_iconst (v := 0) hx hb dX2_truth_0 (by decide) ?_
  refine lv_istore_n (lv' := [(2, .int 0), (0, .ref a), (1, .int v1)]) hx hb dX2_truth_1 rfl hl (by decide) rfl (fun ls hl => ?_)
  refine lv_iconst (v := 0) hx hb dX2_truth_2 (by decide) ?_
  refine lv_istore_n (lv' := [(3, .int 0), (2, .int 0), (0, .ref a), (1, .int v1)]) hx hb dX2_truth_3 rfl hl (by decide) rfl (fun ls hl => ?_)
  have L_4_3 : ∀ (k_3 : Nat) (x_1 : Int32) (x_2 : Int32) (H : Heap) (locs : List Loc) (ls : Array Slot), (2147483647 - x_2.toInt).toNat < k_3 → (0 ≤ x_2.toInt) → (F_X2_truth_L4_1 X σ a v1 k_3 x_1 x_2 = out) → q_I X 9 σ s.heap locs σ H → lv_has ls 4 [(0, .ref a), (1, .int v1), (2, .int x_1), (3, .int x_2)] → W p l e (q_rm 1 21) s m ([.ref a, .int v1] : List Value).toArray below meth c H locs 0 0 (MQ below (q_Qi X 9 σ (fun (r : Int32) (σ' : ST) => σ' = σ ∧ r = F_X2_truth X σ a v1)) ([.ref a, .int v1] : List Value).toArray s 0 0 (q_reg X)) (F0 m 4 ls []) := by
    clear hF
    intro k_3
    induction k_3 with
    | zero =>
      intro x_1 x_2 H locs ls hms
      exact absurd hms (Nat.not_lt_zero _)
    | succ k_3 ih4 =>
      intro x_1 x_2 H locs ls hm4 hge4 hF hI hl
      replace hF := (F_X2_truth_L4_1_s).symm.trans hF
      unfold F_X2_truth_B4_1 at hF
      refine lv_iload_n hx hb dX2_truth_4 rfl (lv_at hl 3 rfl) ?_
      refine lv_aload_n hx hb dX2_truth_5 rfl (lv_at hl 0 rfl) ?_
      refine gs_X2_30_3 E hI ha dX2_truth_6 ?_
      refine lv_iload_n hx hb dX2_truth_9 rfl (lv_at hl 1 rfl) ?_
      refine q_ci (q_runV (As := [.int v1]) (rest := [.int x_2]) E (hml.trans hl.1.symm) hI (c_X5_get l X σ (q_rf X a 4) v1 (q_tk (k' := 5) hI ha rfl (by decide))) kv_X2_44 (q_tk (k' := 5) hI ha rfl (by decide)) ⟨rfl, by decide⟩ (show vwCl[4]? = some (RX5, TX5, 1) from rfl) rfl ⟨Nat.le_of_ble_eq_true rfl, Nat.le_of_ble_eq_true rfl⟩ ⟨Nat.le_refl _, Nat.le_refl _⟩ rfl (Nat.le_of_ble_eq_true rfl) dX2_truth_10) hI (by decide) (fun r_4 σ_5 H locs hpσ_5 hkσ_5 hI => ?_)
      obtain ⟨ahpσ_5, bhpσ_5⟩ := hpσ_5
      rw [ahpσ_5] at hI
      replace hF := q_letX hF bhpσ_5
      have gc_6_x_2 := q_rng x_2
      have gc_6_r_4 := q_rng r_4
      refine q_icmp_ge (A := x_2.toInt) (B := r_4.toInt) E rfl rfl (tgt := 48) dX2_truth_13 (by decide) (fun c_6 => ?_) (fun c_6 => ?_)
      · skip
        replace hF := q_ifn hF (Int.not_lt.mpr c_6)
        unfold F_X2_truth_E48_2 at hF
        refine lv_iload_n hx hb dX2_truth_48 rfl (lv_at hl 2 rfl) ?_
        refine lv_aload_n hx hb dX2_truth_49 rfl (lv_at hl 0 rfl) ?_
        refine gs_X2_30_3 E hI ha dX2_truth_50 ?_
        refine lv_iload_n hx hb dX2_truth_53 rfl (lv_at hl 1 rfl) ?_
        refine q_ci (q_runV (As := [.int v1]) (rest := [.int x_1]) E (hml.trans hl.1.symm) hI (c_X5_get l X σ (q_rf X a 4) v1 (q_tk (k' := 5) hI ha rfl (by decide))) kv_X2_44 (q_tk (k' := 5) hI ha rfl (by decide)) ⟨rfl, by decide⟩ (show vwCl[4]? = some (RX5, TX5, 1) from rfl) rfl ⟨Nat.le_of_ble_eq_true rfl, Nat.le_of_ble_eq_true rfl⟩ ⟨Nat.le_refl _, Nat.le_refl _⟩ rfl (Nat.le_of_ble_eq_true rfl) dX2_truth_54) hI (by decide) (fun r_7 σ_8 H locs hpσ_8 hkσ_8 hI => ?_)
        obtain ⟨ahpσ_8, bhpσ_8⟩ := hpσ_8
        rw [ahpσ_8] at hI
        replace hF := q_letX hF bhpσ_8
        have gc_9_x_1 := q_rng x_1
        have gc_9_r_7 := q_rng r_7
        refine q_icmp_ne (A := x_1.toInt) (B := r_7.toInt) E rfl rfl (tgt := 62) dX2_truth_57 (by decide) (fun c_9 => ?_) (fun c_9 => ?_)
        · skip
          replace hF := q_ifn hF c_9
          refine lv_iload_n hx hb dX2_truth_62 rfl (lv_at hl 2 rfl) ?_
          refine q_if_ne (A := x_1.toInt) E rfl (tgt := 70) dX2_truth_63 (by decide) (fun c_10 => ?_) (fun c_10 => ?_)
          · skip
            replace hF := q_ifn hF c_10
            refine lv_iconst (v := 1) hx hb dX2_truth_70 (by decide) ?_
            exact q_reti E hr hlk hI ⟨rfl, (hF.trans hout)⟩ dX2_truth_71
          · skip
            replace hF := q_ifp hF c_10
            refine lv_iconst (v := 2) hx hb dX2_truth_66 (by decide) ?_
            refine lv_goto (tgt := 71) hx hb dX2_truth_67 (by decide) ?_
            exact q_reti E hr hlk hI ⟨rfl, (hF.trans hout)⟩ dX2_truth_71
        · skip
          replace hF := q_ifp hF c_9
          refine lv_iconst (v := 0) hx hb dX2_truth_60 (by decide) ?_
          exact q_reti E hr hlk hI ⟨rfl, (hF.trans hout)⟩ dX2_truth_61
      · skip
        replace hF := q_ifp hF c_6
        refine lv_aload_n hx hb dX2_truth_16 rfl (lv_at hl 0 rfl) ?_
        refine gs_X2_33_3 E hI ha dX2_truth_17 ?_
        refine lv_iload_n hx hb dX2_truth_20 rfl (lv_at hl 1 rfl) ?_
        refine lv_iconst (v := 4) hx hb dX2_truth_21 (by decide) ?_
        refine lv_imul hx hb dX2_truth_22 ?_
        refine lv_topi (fun z_11 ez_11 => ?_)
        replace hF := q_letX hF ez_11
        refine lv_iload_n hx hb dX2_truth_23 rfl (lv_at hl 3 rfl) ?_
        refine lv_iadd hx hb dX2_truth_24 ?_
        refine lv_topi (fun z_12 ez_12 => ?_)
        replace hF := q_letX hF ez_12
        refine q_ci (q_runV (As := [.int z_12]) (rest := []) E (hml.trans hl.1.symm) hI (c_X5_get l X σ (q_rf X a 5) z_12 (q_tk (k' := 5) hI ha rfl (by decide))) kv_X2_44 (q_tk (k' := 5) hI ha rfl (by decide)) ⟨rfl, by decide⟩ (show vwCl[4]? = some (RX5, TX5, 1) from rfl) rfl ⟨Nat.le_of_ble_eq_true rfl, Nat.le_of_ble_eq_true rfl⟩ ⟨Nat.le_refl _, Nat.le_refl _⟩ rfl (Nat.le_of_ble_eq_true rfl) dX2_truth_25) hI (by decide) (fun r_13 σ_14 H locs hpσ_14 hkσ_14 hI => ?_)
        obtain ⟨ahpσ_14, bhpσ_14⟩ := hpσ_14
        rw [ahpσ_14] at hI
        replace hF := q_letX hF bhpσ_14
        refine lv_aload_n hx hb dX2_truth_28 rfl (lv_at hl 0 rfl) ?_
        refine gs_X2_27_3 E hI ha dX2_truth_29 ?_
        refine lv_iload_n hx hb dX2_truth_32 rfl (lv_at hl 1 rfl) ?_
        refine q_ci (q_runV (As := [.int v1]) (rest := [.int r_13]) E (hml.trans hl.1.symm) hI (c_X5_get l X σ (q_rf X a 3) v1 (q_tk (k' := 5) hI ha rfl (by decide))) kv_X2_44 (q_tk (k' := 5) hI ha rfl (by decide)) ⟨rfl, by decide⟩ (show vwCl[4]? = some (RX5, TX5, 1) from rfl) rfl ⟨Nat.le_of_ble_eq_true rfl, Nat.le_of_ble_eq_true rfl⟩ ⟨Nat.le_refl _, Nat.le_refl _⟩ rfl (Nat.le_of_ble_eq_true rfl) dX2_truth_33) hI (by decide) (fun r_15 σ_16 H locs hpσ_16 hkσ_16 hI => ?_)
        obtain ⟨ahpσ_16, bhpσ_16⟩ := hpσ_16
        rw [ahpσ_16] at hI
        replace hF := q_letX hF bhpσ_16
        have gc_17_r_13 := q_rng r_13
        have gc_17_r_15 := q_rng r_15
        refine q_icmp_ne (A := r_13.toInt) (B := r_15.toInt) E rfl rfl (tgt := 42) dX2_truth_36 (by decide) (fun c_17 => ?_) (fun c_17 => ?_)
        · skip
          replace hF := q_ifn hF c_17
          obtain ⟨z_18, ez_18⟩ : ∃ y : Int32, y = x_2 + 1 := ⟨_, rfl⟩
          replace hF := q_letX hF ez_18
          refine lv_iinc (v := z_18) (lv' := [(3, .int z_18), (0, .ref a), (1, .int v1), (2, .int x_1)]) hx hb dX2_truth_42 hl (k := 3) rfl (by rw [ez_18]; rfl) (by decide) rfl (fun ls hl => ?_)
          have iz_18 : z_18.toInt = x_2.toInt + 1 := q_inc ez_18 (by first | (clear hm4 ahpσ_5 bhpσ_5 ahpσ_14 bhpσ_14 ahpσ_16 bhpσ_16 gc_17_r_13 gc_17_r_15 c_17; omega) | omega)
          refine lv_goto (tgt := 4) hx hb dX2_truth_45 (by decide) ?_
          exact ih4 x_1 z_18 _ _ ls (by first | (clear ahpσ_5 bhpσ_5 ahpσ_14 bhpσ_14 ahpσ_16 bhpσ_16 gc_17_r_13 gc_17_r_15; omega) | omega) (by first | (clear hm4 ahpσ_5 bhpσ_5 gc_6_r_4 c_6 ahpσ_14 bhpσ_14 ahpσ_16 bhpσ_16 gc_17_r_13 gc_17_r_15 c_17; omega) | omega) hF hI (lv_sub hl [1, 2, 3, 0] rfl)
        · skip
          replace hF := q_ifp hF c_17
          obtain ⟨z_19, ez_19⟩ : ∃ y : Int32, y = x_1 + 1 := ⟨_, rfl⟩
          replace hF := q_letX hF ez_19
          refine lv_iinc (v := z_19) (lv' := [(2, .int z_19), (0, .ref a), (1, .int v1), (3, .int x_2)]) hx hb dX2_truth_39 hl (k := 2) rfl (by rw [ez_19]; rfl) (by decide) rfl (fun ls hl => ?_)
          obtain ⟨z_20, ez_20⟩ : ∃ y : Int32, y = x_2 + 1 := ⟨_, rfl⟩
          replace hF := q_letX hF ez_20
          refine lv_iinc (v := z_20) (lv' := [(3, .int z_20), (2, .int z_19), (0, .ref a), (1, .int v1)]) hx hb dX2_truth_42 hl (k := 3) rfl (by rw [ez_20]; rfl) (by decide) rfl (fun ls hl => ?_)
          have iz_20 : z_20.toInt = x_2.toInt + 1 := q_inc ez_20 (by first | (clear hm4 ahpσ_5 bhpσ_5 ahpσ_14 bhpσ_14 ahpσ_16 bhpσ_16 gc_17_r_13 gc_17_r_15 c_17; omega) | omega)
          refine lv_goto (tgt := 4) hx hb dX2_truth_45 (by decide) ?_
          exact ih4 z_19 z_20 _ _ ls (by first | (clear ahpσ_5 bhpσ_5 ahpσ_14 bhpσ_14 ahpσ_16 bhpσ_16 gc_17_r_13 gc_17_r_15 c_17; omega) | omega) (by first | (clear hm4 ahpσ_5 bhpσ_5 gc_6_r_4 c_6 ahpσ_14 bhpσ_14 ahpσ_16 bhpσ_16 gc_17_r_13 gc_17_r_15 c_17; omega) | omega) hF hI (lv_sub hl [2, 3, 1, 0] rfl)
  exact L_4_3 ((2147483647 - (0 : Int32).toInt).toNat + 1) 0 0 _ _ ls (Nat.lt_succ_self _) (by decide) hF hI (lv_sub hl [2, 3, 1, 0] rfl)

set_option maxRecDepth 100000 in
set_option maxHeartbeats 4000000 in
theorem c_X2_kindOf (l : Launch) (X : XW) (σ : ST) (a : Nat) (v1 : Int32) (v2 : Int32) (ha : q_kd X a = 3) : Met l yX2_kindOf (q_ws yX2_kindOf cX2_kindOf 3 (some .int)) (q_rm 1 21) (q_P X σ [.ref a, .int v1, .int v2]) (q_Qi X 9 σ (fun (r : Int32) (σ' : ST) => σ' = σ ∧ r = F_X2_kindOf X σ a v1 v2)) 0 0 (q_reg X) := by
  refine q_met 9 (by first | exact rfl | decide +kernel) rfl (Nat.le_of_ble_eq_true rfl) (fun p e s m below meth c E hml hr hlk hI ls hl => ?_)
  have hx := E.1
  have hb := E.2.1
  have hl : lv_has ls 3 [(0, .ref a), (1, .int v1), (2, .int v2)] := hl
  obtain ⟨out, hout⟩ : ∃ o, o = F_X2_kindOf X σ a v1 v2 := ⟨_, rfl⟩
  have hF := hout.symm
  unfold F_X2_kindOf at hF
  refine lv_aload_n hx hb dX2_kindOf_0 rfl (lv_at hl 0 rfl) ?_
  refine gs_X2_33_3 E hI ha dX2_kindOf_1 ?_
  refine lv_iload_n hx hb dX2_kindOf_4 rfl (lv_at hl 1 rfl) ?_
  refine lv_iconst (v := 4) hx hb dX2_kindOf_5 (by decide) ?_
  refine lv_imul hx hb dX2_kindOf_6 ?_
  refine lv_topi (fun z_1 ez_1 => ?_)
  replace hF := q_letX hF ez_1
  refine lv_iload_n hx hb dX2_kindOf_7 rfl (lv_at hl 2 rfl) ?_
  refine lv_iadd hx hb dX2_kindOf_8 ?_
  refine lv_topi (fun z_2 ez_2 => ?_)
  replace hF := q_letX hF ez_2
  refine q_ci (q_runV (As := [.int z_2]) (rest := []) E (hml.trans hl.1.symm) hI (c_X5_get l X σ (q_rf X a 5) z_2 (q_tk (k' := 5) hI ha rfl (by decide))) kv_X2_44 (q_tk (k' := 5) hI ha rfl (by decide)) ⟨rfl, by decide⟩ (show vwCl[4]? = some (RX5, TX5, 1) from rfl) rfl ⟨Nat.le_of_ble_eq_true rfl, Nat.le_of_ble_eq_true rfl⟩ ⟨Nat.le_refl _, Nat.le_refl _⟩ rfl (Nat.le_of_ble_eq_true rfl) dX2_kindOf_9) hI (by decide) (fun r_3 σ_4 H locs hpσ_4 hkσ_4 hI => ?_)
  obtain ⟨ahpσ_4, bhpσ_4⟩ := hpσ_4
  rw [ahpσ_4] at hI
  replace hF := q_letX hF bhpσ_4
  exact q_reti E hr hlk hI ⟨rfl, (hF.trans hout)⟩ dX2_kindOf_12

set_option maxRecDepth 100000 in
set_option maxHeartbeats 4000000 in
theorem c_X2_begin (l : Launch) (X : XW) (σ : ST) (a : Nat) (v1 : Int32) (v2 : Int32) (ha : q_kd X a = 3) : Met l yX2_begin (q_ws yX2_begin cX2_begin 3 none) (q_rm 1 22) (q_P X σ [.ref a, .int v1, .int v2]) (q_Qv X 8 σ (fun (σ' : ST) => σ' = F_X2_begin X σ a v1 v2 ∧ q_ow [(3, 0), (20, 99)] [] X σ σ')) 0 0 (q_reg X) := by
  refine q_met 8 (by first | exact rfl | decide +kernel) rfl (Nat.le_of_ble_eq_true rfl) (fun p e s m below meth c E hml hr hlk hI ls hl => ?_)
  have hx := E.1
  have hb := E.2.1
  have hl : lv_has ls 3 [(0, .ref a), (1, .int v1), (2, .int v2)] := hl
  have fr_σ : q_ow [(3, 0), (20, 99)] [] X σ σ := q_ow.rf
  obtain ⟨out, hout⟩ : ∃ o, o = F_X2_begin X σ a v1 v2 := ⟨_, rfl⟩
  have hF := hout.symm
  unfold F_X2_begin at hF
  refine lv_aload_n hx hb dX2_begin_0 rfl (lv_at hl 0 rfl) ?_
  refine gs_X2_23_3 E hI ha dX2_begin_1 ?_
  refine lv_aload_n hx hb dX2_begin_4 rfl (lv_at hl 0 rfl) ?_
  refine gs_X2_9_3 E hI ha dX2_begin_5 ?_
  refine lv_topi (fun f_1 ef_1 => ?_)
  replace hF := q_letX hF ef_1
  refine lv_iload_n hx hb dX2_begin_8 rfl (lv_at hl 1 rfl) ?_
  refine q_cv (q_runV (As := [.int f_1, .int v1]) (rest := []) E (hml.trans hl.1.symm) hI (c_X5_set l X σ (q_rf X a 2) f_1 v1 (q_tk (k' := 5) hI ha rfl (by decide))) kv_X2_40 (q_tk (k' := 5) hI ha rfl (by decide)) ⟨rfl, by decide⟩ (show vwCl[4]? = some (RX5, TX5, 1) from rfl) rfl ⟨Nat.le_of_ble_eq_true rfl, Nat.le_of_ble_eq_true rfl⟩ ⟨Nat.le_refl _, Nat.le_refl _⟩ rfl (Nat.le_of_ble_eq_true rfl) dX2_begin_9) hI (by decide) (fun σ_3 H locs hpσ_3 hkσ_3 hI => ?_)
  obtain ⟨ahpσ_3, bhpσ_3⟩ := hpσ_3
  have fr_σ_3 := fr_σ.call bhpσ_3 rfl rfl
  replace hF := q_letX hF ahpσ_3
  refine lv_aload_n hx hb dX2_begin_12 rfl (lv_at hl 0 rfl) ?_
  refine gs_X2_27_3 E hI ha dX2_begin_13 ?_
  refine lv_aload_n hx hb dX2_begin_16 rfl (lv_at hl 0 rfl) ?_
  refine gs_X2_9_3 E hI ha dX2_begin_17 ?_
  refine lv_topi (fun f_4 ef_4 => ?_)
  replace hF := q_letX hF ef_4
  refine lv_iload_n hx hb dX2_begin_20 rfl (lv_at hl 2 rfl) ?_
  refine q_cv (q_runV (As := [.int f_4, .int v2]) (rest := []) E (hml.trans hl.1.symm) hI (c_X5_set l X σ_3 (q_rf X a 3) f_4 v2 (q_tk (k' := 5) hI ha rfl (by decide))) kv_X2_40 (q_tk (k' := 5) hI ha rfl (by decide)) ⟨rfl, by decide⟩ (show vwCl[4]? = some (RX5, TX5, 1) from rfl) rfl ⟨Nat.le_of_ble_eq_true rfl, Nat.le_of_ble_eq_true rfl⟩ ⟨Nat.le_refl _, Nat.le_refl _⟩ rfl (Nat.le_of_ble_eq_true rfl) dX2_begin_21) hI (by decide) (fun σ_6 H locs hpσ_6 hkσ_6 hI => ?_)
  obtain ⟨ahpσ_6, bhpσ_6⟩ := hpσ_6
  have fr_σ_6 := fr_σ_3.call bhpσ_6 rfl rfl
  replace hF := q_letX hF ahpσ_6
  refine lv_aload_n hx hb dX2_begin_24 rfl (lv_at hl 0 rfl) ?_
  refine gs_X2_30_3 E hI ha dX2_begin_25 ?_
  refine lv_aload_n hx hb dX2_begin_28 rfl (lv_at hl 0 rfl) ?_
  refine gs_X2_9_3 E hI ha dX2_begin_29 ?_
  refine lv_topi (fun f_7 ef_7 => ?_)
  replace hF := q_letX hF ef_7
  refine lv_iconst (v := 0) hx hb dX2_begin_32 (by decide) ?_
  have kc_8 : (0 : Int32).toInt = 0 := rfl
  refine q_cv (q_runV (As := [.int f_7, .int 0]) (rest := []) E (hml.trans hl.1.symm) hI (c_X5_set l X σ_6 (q_rf X a 4) f_7 (0 : Int32) (q_tk (k' := 5) hI ha rfl (by decide))) kv_X2_40 (q_tk (k' := 5) hI ha rfl (by decide)) ⟨rfl, by decide⟩ (show vwCl[4]? = some (RX5, TX5, 1) from rfl) rfl ⟨Nat.le_of_ble_eq_true rfl, Nat.le_of_ble_eq_true rfl⟩ ⟨Nat.le_refl _, Nat.le_refl _⟩ rfl (Nat.le_of_ble_eq_true rfl) dX2_begin_33) hI (by decide) (fun σ_10 H locs hpσ_10 hkσ_10 hI => ?_)
  obtain ⟨ahpσ_10, bhpσ_10⟩ := hpσ_10
  have fr_σ_10 := fr_σ_6.call bhpσ_10 rfl rfl
  replace hF := q_letX hF ahpσ_10
  refine lv_aload_n hx hb dX2_begin_36 rfl (lv_at hl 0 rfl) ?_
  refine lv_dup hx hb dX2_begin_37 rfl ?_
  refine gs_X2_9_3 E hI ha dX2_begin_38 ?_
  refine lv_topi (fun f_11 ef_11 => ?_)
  replace hF := q_letX hF ef_11
  refine lv_iconst (v := 1) hx hb dX2_begin_41 (by decide) ?_
  refine lv_iadd hx hb dX2_begin_42 ?_
  refine lv_topi (fun z_12 ez_12 => ?_)
  replace hF := q_letX hF ez_12
  refine ps_X2_9_3 E hI ha (by decide) dX2_begin_43 (fun H locs σ_13 hσ_13 hI => ?_)
  replace hF := q_letX hF hσ_13
  have fr_σ_13 := fr_σ_10.si hσ_13 ha rfl
  exact q_retv E hr hlk hI ⟨(hF.trans hout), fr_σ_13⟩ dX2_begin_46

set_option maxRecDepth 100000 in
set_option maxHeartbeats 4000000 in
theorem c_X1_moveToHeap (l : Launch) (X : XW) (σ : ST) (a : Nat) (v1 : Int32) (v2 : Int32) (v3 : Int32) (ha : q_kd X a = 2) : Met l yX1_moveToHeap (q_ws yX1_moveToHeap cX1_moveToHeap 4 none) (q_rm 2 45) (q_P X σ [.ref a, .int v1, .int v2, .int v3]) (q_Qv X 8 σ (fun (σ' : ST) => σ' = F_X1_moveToHeap X σ a v1 v2 v3 ∧ q_ow [(20, 99)] [] X σ σ')) 0 0 (q_reg X) := by
  refine q_met 8 (by first | exact rfl | decide +kernel) rfl (Nat.le_of_ble_eq_true rfl) (fun p e s m below meth c E hml hr hlk hI ls hl => ?_)
  have hx := E.1
  have hb := E.2.1
  have hl : lv_has ls 4 [(0, .ref a), (1, .int v1), (2, .int v2), (3, .int v3)] := hl
  have fr_σ : q_ow [(20, 99)] [] X σ σ := q_ow.rf
  obtain ⟨out, hout⟩ : ∃ o, o = F_X1_moveToHeap X σ a v1 v2 v3 := ⟨_, rfl⟩
  have hF := hout.symm
  unfold F_X1_moveToHeap at hF
  refine lv_aload_n hx hb dX1_moveToHeap_0 rfl (lv_at hl 0 rfl) ?_
  refine lv_iload_n hx hb dX1_moveToHeap_1 rfl (lv_at hl 1 rfl) ?_
  refine lv_iload_n hx hb dX1_moveToHeap_2 rfl (lv_at hl 2 rfl) ?_
  refine lv_iload_n hx hb dX1_moveToHeap_3 rfl (lv_at hl 3 rfl) ?_
  refine lv_ineg hx hb dX1_moveToHeap_4 ?_
  refine lv_topi (fun z_1 ez_1 => ?_)
  replace hF := q_letX hF ez_1
  refine q_cv (q_runV (As := [.int v1, .int v2, .int z_1]) (rest := []) E (hml.trans hl.1.symm) hI (c_X1_deal l X σ a v1 v2 z_1 ha) kv_X1_57 ha ⟨rfl, by decide⟩ (show vwCl[1]? = some (RX1, TX1, 7) from rfl) rfl ⟨Nat.le_of_ble_eq_true rfl, Nat.le_of_ble_eq_true rfl⟩ ⟨Nat.le_refl _, Nat.le_refl _⟩ rfl (Nat.le_of_ble_eq_true rfl) dX1_moveToHeap_5) hI (by decide) (fun σ_3 H locs hpσ_3 hkσ_3 hI => ?_)
  obtain ⟨ahpσ_3, bhpσ_3⟩ := hpσ_3
  have fr_σ_3 := fr_σ.call bhpσ_3 rfl rfl
  replace hF := q_letX hF ahpσ_3
  refine lv_aload_n hx hb dX1_moveToHeap_8 rfl (lv_at hl 0 rfl) ?_
  refine gs_X1_20_2 E hI ha dX1_moveToHeap_9 ?_
  refine lv_iload_n hx hb dX1_moveToHeap_12 rfl (lv_at hl 1 rfl) ?_
  refine lv_bipush (v := 10) hx hb dX1_moveToHeap_13 (by decide) ?_
  refine lv_imul hx hb dX1_moveToHeap_15 ?_
  refine lv_topi (fun z_4 ez_4 => ?_)
  replace hF := q_letX hF ez_4
  refine lv_iload_n hx hb dX1_moveToHeap_16 rfl (lv_at hl 2 rfl) ?_
  refine lv_iadd hx hb dX1_moveToHeap_17 ?_
  refine lv_topi (fun z_5 ez_5 => ?_)
  replace hF := q_letX hF ez_5
  refine lv_iload_n hx hb dX1_moveToHeap_18 rfl (lv_at hl 3 rfl) ?_
  refine q_cv (q_runV (As := [.int z_5, .int v3]) (rest := []) E (hml.trans hl.1.symm) hI (c_X5_add l X σ_3 (q_rf X a 1) z_5 v3 (q_tk (k' := 5) hI ha rfl (by decide))) kv_X1_53 (q_tk (k' := 5) hI ha rfl (by decide)) ⟨rfl, by decide⟩ (show vwCl[4]? = some (RX5, TX5, 1) from rfl) rfl ⟨Nat.le_of_ble_eq_true rfl, Nat.le_of_ble_eq_true rfl⟩ ⟨Nat.le_refl _, Nat.le_refl _⟩ rfl (Nat.le_of_ble_eq_true rfl) dX1_moveToHeap_19) hI (by decide) (fun σ_7 H locs hpσ_7 hkσ_7 hI => ?_)
  obtain ⟨ahpσ_7, bhpσ_7⟩ := hpσ_7
  have fr_σ_7 := fr_σ_3.call bhpσ_7 rfl rfl
  replace hF := q_letX hF ahpσ_7
  exact q_retv E hr hlk hI ⟨(hF.trans hout), fr_σ_7⟩ dX1_moveToHeap_22

set_option maxRecDepth 100000 in
set_option maxHeartbeats 4000000 in
theorem c_X2_add (l : Launch) (X : XW) (σ : ST) (a : Nat) (v1 : Int32) (v2 : Int32) (ha : q_kd X a = 3) : Met l yX2_add (q_ws yX2_add cX2_add 5 none) (q_rm 1 22) (q_P X σ [.ref a, .int v1, .int v2]) (q_Qv X 8 σ (fun (σ' : ST) => σ' = F_X2_add X σ a v1 v2 ∧ q_ow [(3, 1), (20, 99)] [] X σ σ')) 0 0 (q_reg X) := by
  refine q_met 8 (by first | exact rfl | decide +kernel) rfl (Nat.le_of_ble_eq_true rfl) (fun p e s m below meth c E hml hr hlk hI ls hl => ?_)
  have hx := E.1
  have hb := E.2.1
  have hl : lv_has ls 5 [(0, .ref a), (1, .int v1), (2, .int v2)] := hl
  have fr_σ : q_ow [(3, 1), (20, 99)] [] X σ σ := q_ow.rf
  obtain ⟨out, hout⟩ : ∃ o, o = F_X2_add X σ a v1 v2 := ⟨_, rfl⟩
  have hF := hout.symm
  unfold F_X2_add at hF
  refine lv_aload_n hx hb dX2_add_0 rfl (lv_at hl 0 rfl) ?_
  refine gs_X2_9_3 E hI ha dX2_add_1 ?_
  refine lv_topi (fun f_1 ef_1 => ?_)
  replace hF := q_letX hF ef_1
  refine lv_iconst (v := 1) hx hb dX2_add_4 (by decide) ?_
  refine lv_isub hx hb dX2_add_5 ?_
  refine lv_topi (fun z_2 ez_2 => ?_)
  replace hF := q_letX hF ez_2
  refine lv_istore_n (lv' := [(3, .int z_2), (0, .ref a), (1, .int v1), (2, .int v2)]) hx hb dX2_add_6 rfl hl (by decide) rfl (fun ls hl => ?_)
  refine lv_iconst (v := 0) hx hb dX2_add_7 (by decide) ?_
  refine lv_istore (lv' := [(4, .int 0), (3, .int z_2), (0, .ref a), (1, .int v1), (2, .int v2)]) hx hb dX2_add_8 hl (by decide) rfl (fun ls hl => ?_)
  have L_10_5 : ∀ (k_5 : Nat) (x_3 : Int32) (σ_4 : ST) (H : Heap) (locs : List Loc) (ls : Array Slot), (2147483647 - x_3.toInt).toNat < k_5 → (0 ≤ x_3.toInt) → (q_ow [(3, 1), (20, 99)] [] X σ σ_4) → (F_X2_add_L10_1 X v2 z_2 a v1 k_5 x_3 σ_4 = out) → q_I X 8 σ s.heap locs σ_4 H → lv_has ls 5 [(0, .ref a), (1, .int v1), (2, .int v2), (3, .int z_2), (4, .int x_3)] → W p l e (q_rm 1 22) s m ([.ref a, .int v1, .int v2] : List Value).toArray below meth c H locs 0 0 (MQ below (q_Qv X 8 σ (fun (σ' : ST) => σ' = F_X2_add X σ a v1 v2 ∧ q_ow [(3, 1), (20, 99)] [] X σ σ')) ([.ref a, .int v1, .int v2] : List Value).toArray s 0 0 (q_reg X)) (F0 m 10 ls []) := by
    clear hF
    intro k_5
    induction k_5 with
    | zero =>
      intro x_3 σ_4 H locs ls hms
      exact absurd hms (Nat.not_lt_zero _)
    | succ k_5 ih10 =>
      intro x_3 σ_4 H locs ls hm10 hge10 fr_σ_4 hF hI hl
      replace hF := (F_X2_add_L10_1_s).symm.trans hF
      unfold F_X2_add_B10_1 at hF
      refine lv_iload hx hb dX2_add_10 (lv_at hl 4 rfl) ?_
      refine lv_iload_n hx hb dX2_add_12 rfl (lv_at hl 2 rfl) ?_
      have gc_6_x_3 := q_rng x_3
      have gc_6_v2 := q_rng v2
      refine q_icmp_ge (A := x_3.toInt) (B := v2.toInt) E rfl rfl (tgt := 61) dX2_add_13 (by decide) (fun c_6 => ?_) (fun c_6 => ?_)
      · skip
        replace hF := q_ifn hF (Int.not_lt.mpr c_6)
        skip
        exact q_retv E hr hlk hI ⟨(hF.trans hout), fr_σ_4⟩ dX2_add_61
      · skip
        replace hF := q_ifp hF c_6
        refine lv_aload_n hx hb dX2_add_16 rfl (lv_at hl 0 rfl) ?_
        refine gs_X2_33_3 E hI ha dX2_add_17 ?_
        refine lv_iload_n hx hb dX2_add_20 rfl (lv_at hl 3 rfl) ?_
        refine lv_iconst (v := 4) hx hb dX2_add_21 (by decide) ?_
        refine lv_imul hx hb dX2_add_22 ?_
        refine lv_topi (fun z_7 ez_7 => ?_)
        replace hF := q_letX hF ez_7
        refine lv_aload_n hx hb dX2_add_23 rfl (lv_at hl 0 rfl) ?_
        refine gs_X2_30_3 E hI ha dX2_add_24 ?_
        refine lv_iload_n hx hb dX2_add_27 rfl (lv_at hl 3 rfl) ?_
        refine q_ci (q_runV (As := [.int z_2]) (rest := [.int z_7, .ref (q_rf X a 5)]) E (hml.trans hl.1.symm) hI (c_X5_get l X σ_4 (q_rf X a 4) z_2 (q_tk (k' := 5) hI ha rfl (by decide))) kv_X2_44 (q_tk (k' := 5) hI ha rfl (by decide)) ⟨rfl, by decide⟩ (show vwCl[4]? = some (RX5, TX5, 1) from rfl) rfl ⟨Nat.le_of_ble_eq_true rfl, Nat.le_of_ble_eq_true rfl⟩ ⟨Nat.le_refl _, Nat.le_refl _⟩ rfl (Nat.le_of_ble_eq_true rfl) dX2_add_28) hI (by decide) (fun r_8 σ_9 H locs hpσ_9 hkσ_9 hI => ?_)
        obtain ⟨ahpσ_9, bhpσ_9⟩ := hpσ_9
        rw [ahpσ_9] at hI
        replace hF := q_letX hF bhpσ_9
        refine lv_iadd hx hb dX2_add_31 ?_
        refine lv_topi (fun z_10 ez_10 => ?_)
        replace hF := q_letX hF ez_10
        refine lv_iload_n hx hb dX2_add_32 rfl (lv_at hl 1 rfl) ?_
        refine q_cv (q_runV (As := [.int z_10, .int v1]) (rest := []) E (hml.trans hl.1.symm) hI (c_X5_set l X σ_4 (q_rf X a 5) z_10 v1 (q_tk (k' := 5) hI ha rfl (by decide))) kv_X2_40 (q_tk (k' := 5) hI ha rfl (by decide)) ⟨rfl, by decide⟩ (show vwCl[4]? = some (RX5, TX5, 1) from rfl) rfl ⟨Nat.le_of_ble_eq_true rfl, Nat.le_of_ble_eq_true rfl⟩ ⟨Nat.le_refl _, Nat.le_refl _⟩ rfl (Nat.le_of_ble_eq_true rfl) dX2_add_33) hI (by decide) (fun σ_12 H locs hpσ_12 hkσ_12 hI => ?_)
        obtain ⟨ahpσ_12, bhpσ_12⟩ := hpσ_12
        have fr_σ_12 := fr_σ_4.call bhpσ_12 rfl rfl
        replace hF := q_letX hF ahpσ_12
        refine lv_aload_n hx hb dX2_add_36 rfl (lv_at hl 0 rfl) ?_
        refine gs_X2_30_3 E hI ha dX2_add_37 ?_
        refine lv_iload_n hx hb dX2_add_40 rfl (lv_at hl 3 rfl) ?_
        refine lv_iconst (v := 1) hx hb dX2_add_41 (by decide) ?_
        have kc_13 : (1 : Int32).toInt = 1 := rfl
        refine q_cv (q_runV (As := [.int z_2, .int 1]) (rest := []) E (hml.trans hl.1.symm) hI (c_X5_add l X σ_12 (q_rf X a 4) z_2 (1 : Int32) (q_tk (k' := 5) hI ha rfl (by decide))) kv_X2_48 (q_tk (k' := 5) hI ha rfl (by decide)) ⟨rfl, by decide⟩ (show vwCl[4]? = some (RX5, TX5, 1) from rfl) rfl ⟨Nat.le_of_ble_eq_true rfl, Nat.le_of_ble_eq_true rfl⟩ ⟨Nat.le_refl _, Nat.le_refl _⟩ rfl (Nat.le_of_ble_eq_true rfl) dX2_add_42) hI (by decide) (fun σ_15 H locs hpσ_15 hkσ_15 hI => ?_)
        obtain ⟨ahpσ_15, bhpσ_15⟩ := hpσ_15
        have fr_σ_15 := fr_σ_12.call bhpσ_15 rfl rfl
        replace hF := q_letX hF ahpσ_15
        refine lv_aload_n hx hb dX2_add_45 rfl (lv_at hl 0 rfl) ?_
        refine lv_dup hx hb dX2_add_46 rfl ?_
        refine gs_X2_15_3 E hI ha dX2_add_47 ?_
        refine lv_topi (fun f_16 ef_16 => ?_)
        replace hF := q_letX hF ef_16
        refine lv_iconst (v := 1) hx hb dX2_add_50 (by decide) ?_
        refine lv_iadd hx hb dX2_add_51 ?_
        refine lv_topi (fun z_17 ez_17 => ?_)
        replace hF := q_letX hF ez_17
        refine ps_X2_15_3 E hI ha (by decide) dX2_add_52 (fun H locs σ_18 hσ_18 hI => ?_)
        replace hF := q_letX hF hσ_18
        have fr_σ_18 := fr_σ_15.si hσ_18 ha rfl
        obtain ⟨z_19, ez_19⟩ : ∃ y : Int32, y = x_3 + 1 := ⟨_, rfl⟩
        replace hF := q_letX hF ez_19
        refine lv_iinc (v := z_19) (lv' := [(4, .int z_19), (0, .ref a), (1, .int v1), (2, .int v2), (3, .int z_2)]) hx hb dX2_add_55 hl (k := 4) rfl (by rw [ez_19]; rfl) (by decide) rfl (fun ls hl => ?_)
        have iz_19 : z_19.toInt = x_3.toInt + 1 := q_inc ez_19 (by first | (clear hm10 ahpσ_9 bhpσ_9 ahpσ_12 bhpσ_12 kc_13 ahpσ_15 bhpσ_15; omega) | omega)
        refine lv_goto (tgt := 10) hx hb dX2_add_58 (by decide) ?_
        exact ih10 z_19 σ_18 _ _ ls (by first | (clear ahpσ_9 bhpσ_9 ahpσ_12 bhpσ_12 kc_13 ahpσ_15 bhpσ_15; omega) | omega) (by first | (clear hm10 gc_6_v2 c_6 ahpσ_9 bhpσ_9 ahpσ_12 bhpσ_12 kc_13 ahpσ_15 bhpσ_15; omega) | omega) fr_σ_18 hF hI (lv_sub hl [1, 2, 3, 4, 0] rfl)
  exact L_10_5 ((2147483647 - (0 : Int32).toInt).toNat + 1) 0 σ _ _ ls (Nat.lt_succ_self _) (by decide) fr_σ hF hI (lv_sub hl [2, 3, 4, 1, 0] rfl)

set_option maxRecDepth 100000 in
set_option maxHeartbeats 4000000 in
theorem c_X2_topTruth (l : Launch) (X : XW) (σ : ST) (a : Nat) (ha : q_kd X a = 3) : Met l yX2_topTruth (q_ws yX2_topTruth cX2_topTruth 1 (some .int)) (q_rm 2 44) (q_P X σ [.ref a]) (q_Qi X 9 σ (fun (r : Int32) (σ' : ST) => σ' = σ ∧ r = F_X2_topTruth X σ a)) 0 0 (q_reg X) := by
  refine q_met 9 (by first | exact rfl | decide +kernel) rfl (Nat.le_of_ble_eq_true rfl) (fun p e s m below meth c E hml hr hlk hI ls hl => ?_)
  have hx := E.1
  have hb := E.2.1
  have hl : lv_has ls 1 [(0, .ref a)] := hl
  obtain ⟨out, hout⟩ : ∃ o, o = F_X2_topTruth X σ a := ⟨_, rfl⟩
  have hF := hout.symm
  unfold F_X2_topTruth at hF
  refine lv_aload_n hx hb dX2_topTruth_0 rfl (lv_at hl 0 rfl) ?_
  refine lv_aload_n hx hb dX2_topTruth_1 rfl (lv_at hl 0 rfl) ?_
  refine gs_X2_9_3 E hI ha dX2_topTruth_2 ?_
  refine lv_topi (fun f_1 ef_1 => ?_)
  replace hF := q_letX hF ef_1
  refine lv_iconst (v := 1) hx hb dX2_topTruth_5 (by decide) ?_
  refine lv_isub hx hb dX2_topTruth_6 ?_
  refine lv_topi (fun z_2 ez_2 => ?_)
  replace hF := q_letX hF ez_2
  refine q_ci (q_runV (As := [.int z_2]) (rest := []) E (hml.trans hl.1.symm) hI (c_X2_truth l X σ a z_2 ha) kv_X2_51 ha ⟨rfl, by decide⟩ (show vwCl[2]? = some (RX2, TX2, 6) from rfl) rfl ⟨Nat.le_of_ble_eq_true rfl, Nat.le_of_ble_eq_true rfl⟩ ⟨Nat.le_refl _, Nat.le_refl _⟩ rfl (Nat.le_of_ble_eq_true rfl) dX2_topTruth_7) hI (by decide) (fun r_3 σ_4 H locs hpσ_4 hkσ_4 hI => ?_)
  obtain ⟨ahpσ_4, bhpσ_4⟩ := hpσ_4
  rw [ahpσ_4] at hI
  replace hF := q_letX hF bhpσ_4
  exact q_reti E hr hlk hI ⟨rfl, (hF.trans hout)⟩ dX2_topTruth_10

set_option maxRecDepth 100000 in
set_option maxHeartbeats 4000000 in
theorem c_X1_laidBy (l : Launch) (X : XW) (σ : ST) (a : Nat) (v1 : Int32) (v2 : Int32) (ha : q_kd X a = 2) : Met l yX1_laidBy (q_ws yX1_laidBy cX1_laidBy 3 (some .int)) (q_rm 1 21) (q_P X σ [.ref a, .int v1, .int v2]) (q_Qi X 9 σ (fun (r : Int32) (σ' : ST) => σ' = σ ∧ r = F_X1_laidBy X σ a v1 v2)) 0 0 (q_reg X) := by
  refine q_met 9 (by first | exact rfl | decide +kernel) rfl (Nat.le_of_ble_eq_true rfl) (fun p e s m below meth c E hml hr hlk hI ls hl => ?_)
  have hx := E.1
  have hb := E.2.1
  have hl : lv_has ls 3 [(0, .ref a), (1, .int v1), (2, .int v2)] := hl
  obtain ⟨out, hout⟩ : ∃ o, o = F_X1_laidBy X σ a v1 v2 := ⟨_, rfl⟩
  have hF := hout.symm
  unfold F_X1_laidBy at hF
  refine lv_aload_n hx hb dX1_laidBy_0 rfl (lv_at hl 0 rfl) ?_
  refine gs_X1_20_2 E hI ha dX1_laidBy_1 ?_
  refine lv_iload_n hx hb dX1_laidBy_4 rfl (lv_at hl 1 rfl) ?_
  refine lv_bipush (v := 10) hx hb dX1_laidBy_5 (by decide) ?_
  refine lv_imul hx hb dX1_laidBy_7 ?_
  refine lv_topi (fun z_1 ez_1 => ?_)
  replace hF := q_letX hF ez_1
  refine lv_iload_n hx hb dX1_laidBy_8 rfl (lv_at hl 2 rfl) ?_
  refine lv_iadd hx hb dX1_laidBy_9 ?_
  refine lv_topi (fun z_2 ez_2 => ?_)
  replace hF := q_letX hF ez_2
  refine q_ci (q_runV (As := [.int z_2]) (rest := []) E (hml.trans hl.1.symm) hI (c_X5_get l X σ (q_rf X a 1) z_2 (q_tk (k' := 5) hI ha rfl (by decide))) kv_X1_45 (q_tk (k' := 5) hI ha rfl (by decide)) ⟨rfl, by decide⟩ (show vwCl[4]? = some (RX5, TX5, 1) from rfl) rfl ⟨Nat.le_of_ble_eq_true rfl, Nat.le_of_ble_eq_true rfl⟩ ⟨Nat.le_refl _, Nat.le_refl _⟩ rfl (Nat.le_of_ble_eq_true rfl) dX1_laidBy_10) hI (by decide) (fun r_3 σ_4 H locs hpσ_4 hkσ_4 hI => ?_)
  obtain ⟨ahpσ_4, bhpσ_4⟩ := hpσ_4
  rw [ahpσ_4] at hI
  replace hF := q_letX hF bhpσ_4
  exact q_reti E hr hlk hI ⟨rfl, (hF.trans hout)⟩ dX1_laidBy_13

set_option maxRecDepth 100000 in
set_option maxHeartbeats 4000000 in
theorem c_X1_takeHeap (l : Launch) (X : XW) (σ : ST) (a : Nat) (v1 : Int32) (ha : q_kd X a = 2) : Met l yX1_takeHeap (q_ws yX1_takeHeap cX1_takeHeap 4 none) (q_rm 2 45) (q_P X σ [.ref a, .int v1]) (q_Qv X 8 σ (fun (σ' : ST) => σ' = F_X1_takeHeap X σ a v1 ∧ q_ow [(20, 99)] [] X σ σ')) 0 0 (q_reg X) := by
  refine q_met 8 (by first | exact rfl | decide +kernel) rfl (Nat.le_of_ble_eq_true rfl) (fun p e s m below meth c E hml hr hlk hI ls hl => ?_)
  have hx := E.1
  have hb := E.2.1
  have hl : lv_has ls 4 [(0, .ref a), (1, .int v1)] := hl
  have fr_σ : q_ow [(20, 99)] [] X σ σ := q_ow.rf
  obtain ⟨out, hout⟩ : ∃ o, o = F_X1_takeHeap X σ a v1 := ⟨_, rfl⟩
  have hF := hout.symm
  unfold F_X1_takeHeap at hF
  refine lv_iconst (v := 0) hx hb dX1_takeHeap_0 (by decide) ?_
  refine lv_istore_n (lv' := [(2, .int 0), (0, .ref a), (1, .int v1)]) hx hb dX1_takeHeap_1 rfl hl (by decide) rfl (fun ls hl => ?_)
  have L_2_3 : ∀ (k_3 : Nat) (x_1 : Int32) (σ_2 : ST) (H : Heap) (locs : List Loc) (ls : Array Slot), (2147483647 - x_1.toInt).toNat < k_3 → (0 ≤ x_1.toInt) → (q_ow [(20, 99)] [] X σ σ_2) → (F_X1_takeHeap_L2_1 X a v1 k_3 x_1 σ_2 = out) → q_I X 8 σ s.heap locs σ_2 H → lv_has ls 4 [(0, .ref a), (1, .int v1), (2, .int x_1)] → W p l e (q_rm 2 45) s m ([.ref a, .int v1] : List Value).toArray below meth c H locs 0 0 (MQ below (q_Qv X 8 σ (fun (σ' : ST) => σ' = F_X1_takeHeap X σ a v1 ∧ q_ow [(20, 99)] [] X σ σ')) ([.ref a, .int v1] : List Value).toArray s 0 0 (q_reg X)) (F0 m 2 ls []) := by
    clear hF
    intro k_3
    induction k_3 with
    | zero =>
      intro x_1 σ_2 H locs ls hms
      exact absurd hms (Nat.not_lt_zero _)
    | succ k_3 ih2 =>
      intro x_1 σ_2 H locs ls hm2 hge2 fr_σ_2 hF hI hl
      replace hF := (F_X1_takeHeap_L2_1_s).symm.trans hF
      unfold F_X1_takeHeap_B2_1 at hF
      refine lv_iload_n hx hb dX1_takeHeap_2 rfl (lv_at hl 2 rfl) ?_
      refine lv_bipush (v := 6) hx hb dX1_takeHeap_3 (by decide) ?_
      have gc_4_x_1 := q_rng x_1
      refine q_icmp_ge (A := x_1.toInt) (B := 6) E rfl (by decide) (tgt := 40) dX1_takeHeap_5 (by decide) (fun c_4 => ?_) (fun c_4 => ?_)
      · skip
        replace hF := q_ifn hF (Int.not_lt.mpr c_4)
        unfold F_X1_takeHeap_E40_2 at hF
        refine lv_aload_n hx hb dX1_takeHeap_40 rfl (lv_at hl 0 rfl) ?_
        refine gs_X1_20_2 E hI ha dX1_takeHeap_41 ?_
        refine q_cv (q_runV (As := []) (rest := []) E (hml.trans hl.1.symm) hI (c_X5_clear l X σ_2 (q_rf X a 1) (q_tk (k' := 5) hI ha rfl (by decide))) kv_X1_38 (q_tk (k' := 5) hI ha rfl (by decide)) ⟨rfl, by decide⟩ (show vwCl[4]? = some (RX5, TX5, 1) from rfl) rfl ⟨Nat.le_of_ble_eq_true rfl, Nat.le_of_ble_eq_true rfl⟩ ⟨Nat.le_refl _, Nat.le_refl _⟩ rfl (Nat.le_of_ble_eq_true rfl) dX1_takeHeap_44) hI (by decide) (fun σ_6 H locs hpσ_6 hkσ_6 hI => ?_)
        obtain ⟨ahpσ_6, bhpσ_6⟩ := hpσ_6
        have fr_σ_6 := fr_σ_2.call bhpσ_6 rfl rfl
        replace hF := q_letX hF ahpσ_6
        exact q_retv E hr hlk hI ⟨(hF.trans hout), fr_σ_6⟩ dX1_takeHeap_47
      · skip
        replace hF := q_ifp hF c_4
        refine lv_iconst (v := 0) hx hb dX1_takeHeap_8 (by decide) ?_
        refine lv_istore_n (lv' := [(3, .int 0), (0, .ref a), (1, .int v1), (2, .int x_1)]) hx hb dX1_takeHeap_9 rfl hl (by decide) rfl (fun ls hl => ?_)
        have L_10_9 : ∀ (k_9 : Nat) (x_7 : Int32) (σ_8 : ST) (H : Heap) (locs : List Loc) (ls : Array Slot), (2147483647 - x_7.toInt).toNat < k_9 → (0 ≤ x_7.toInt) → (q_ow [(20, 99)] [] X σ σ_8) → (F_X1_takeHeap_L10_3 X a x_1 v1 (F_X1_takeHeap_L2_1 X a v1 k_3) k_9 x_7 σ_8 = out) → q_I X 8 σ s.heap locs σ_8 H → lv_has ls 4 [(0, .ref a), (1, .int v1), (2, .int x_1), (3, .int x_7)] → W p l e (q_rm 2 45) s m ([.ref a, .int v1] : List Value).toArray below meth c H locs 0 0 (MQ below (q_Qv X 8 σ (fun (σ' : ST) => σ' = F_X1_takeHeap X σ a v1 ∧ q_ow [(20, 99)] [] X σ σ')) ([.ref a, .int v1] : List Value).toArray s 0 0 (q_reg X)) (F0 m 10 ls []) := by
          clear hF
          intro k_9
          induction k_9 with
          | zero =>
            intro x_7 σ_8 H locs ls hms
            exact absurd hms (Nat.not_lt_zero _)
          | succ k_9 ih10 =>
            intro x_7 σ_8 H locs ls hm10 hge10 fr_σ_8 hF hI hl
            replace hF := (F_X1_takeHeap_L10_3_s).symm.trans hF
            unfold F_X1_takeHeap_B10_3 at hF
            refine lv_iload_n hx hb dX1_takeHeap_10 rfl (lv_at hl 3 rfl) ?_
            refine lv_bipush (v := 10) hx hb dX1_takeHeap_11 (by decide) ?_
            have gc_10_x_7 := q_rng x_7
            refine q_icmp_ge (A := x_7.toInt) (B := 10) E rfl (by decide) (tgt := 34) dX1_takeHeap_13 (by decide) (fun c_10 => ?_) (fun c_10 => ?_)
            · skip
              replace hF := q_ifn hF (Int.not_lt.mpr c_10)
              unfold F_X1_takeHeap_E34_4 at hF
              obtain ⟨z_11, ez_11⟩ : ∃ y : Int32, y = x_1 + 1 := ⟨_, rfl⟩
              replace hF := q_letX hF ez_11
              refine lv_iinc (v := z_11) (lv' := [(2, .int z_11), (0, .ref a), (1, .int v1), (3, .int x_7)]) hx hb dX1_takeHeap_34 hl (k := 2) rfl (by rw [ez_11]; rfl) (by decide) rfl (fun ls hl => ?_)
              have iz_11 : z_11.toInt = x_1.toInt + 1 := q_inc ez_11 (by first | (clear hm2 hm10 hge10 gc_10_x_7 c_10; omega) | omega)
              refine lv_goto (tgt := 2) hx hb dX1_takeHeap_37 (by decide) ?_
              exact ih2 z_11 σ_8 _ _ ls (by first | (clear hm10 hge10 gc_10_x_7 c_10; omega) | omega) (by first | (clear hm2 hm10 hge10 gc_10_x_7 c_10; omega) | omega) fr_σ_8 hF hI (lv_sub hl [1, 2, 0] rfl)
            · skip
              replace hF := q_ifp hF c_10
              refine lv_aload_n hx hb dX1_takeHeap_16 rfl (lv_at hl 0 rfl) ?_
              refine lv_iload_n hx hb dX1_takeHeap_17 rfl (lv_at hl 1 rfl) ?_
              refine lv_iload_n hx hb dX1_takeHeap_18 rfl (lv_at hl 3 rfl) ?_
              refine lv_aload_n hx hb dX1_takeHeap_19 rfl (lv_at hl 0 rfl) ?_
              refine lv_iload_n hx hb dX1_takeHeap_20 rfl (lv_at hl 2 rfl) ?_
              refine lv_iload_n hx hb dX1_takeHeap_21 rfl (lv_at hl 3 rfl) ?_
              refine q_ci (q_runV (As := [.int x_1, .int x_7]) (rest := [.int x_7, .int v1, .ref a]) E (hml.trans hl.1.symm) hI (c_X1_laidBy l X σ_8 a x_1 x_7 ha) kv_X1_61 ha ⟨rfl, by decide⟩ (show vwCl[1]? = some (RX1, TX1, 7) from rfl) rfl ⟨Nat.le_of_ble_eq_true rfl, Nat.le_of_ble_eq_true rfl⟩ ⟨Nat.le_refl _, Nat.le_refl _⟩ rfl (Nat.le_of_ble_eq_true rfl) dX1_takeHeap_22) hI (by decide) (fun r_12 σ_13 H locs hpσ_13 hkσ_13 hI => ?_)
              obtain ⟨ahpσ_13, bhpσ_13⟩ := hpσ_13
              rw [ahpσ_13] at hI
              replace hF := q_letX hF bhpσ_13
              refine q_cv (q_runV (As := [.int v1, .int x_7, .int r_12]) (rest := []) E (hml.trans hl.1.symm) hI (c_X1_deal l X σ_8 a v1 x_7 r_12 ha) kv_X1_57 ha ⟨rfl, by decide⟩ (show vwCl[1]? = some (RX1, TX1, 7) from rfl) rfl ⟨Nat.le_of_ble_eq_true rfl, Nat.le_of_ble_eq_true rfl⟩ ⟨Nat.le_refl _, Nat.le_refl _⟩ rfl (Nat.le_of_ble_eq_true rfl) dX1_takeHeap_25) hI (by decide) (fun σ_15 H locs hpσ_15 hkσ_15 hI => ?_)
              obtain ⟨ahpσ_15, bhpσ_15⟩ := hpσ_15
              have fr_σ_15 := fr_σ_8.call bhpσ_15 rfl rfl
              replace hF := q_letX hF ahpσ_15
              obtain ⟨z_16, ez_16⟩ : ∃ y : Int32, y = x_7 + 1 := ⟨_, rfl⟩
              replace hF := q_letX hF ez_16
              refine lv_iinc (v := z_16) (lv' := [(3, .int z_16), (0, .ref a), (1, .int v1), (2, .int x_1)]) hx hb dX1_takeHeap_28 hl (k := 3) rfl (by rw [ez_16]; rfl) (by decide) rfl (fun ls hl => ?_)
              have iz_16 : z_16.toInt = x_7.toInt + 1 := q_inc ez_16 (by first | (clear hm2 hge2 gc_4_x_1 c_4 hm10 ahpσ_13 bhpσ_13 ahpσ_15 bhpσ_15; omega) | omega)
              refine lv_goto (tgt := 10) hx hb dX1_takeHeap_31 (by decide) ?_
              exact ih10 z_16 σ_15 _ _ ls (by first | (clear hm2 hge2 gc_4_x_1 c_4 ahpσ_13 bhpσ_13 ahpσ_15 bhpσ_15; omega) | omega) (by first | (clear hm2 hge2 gc_4_x_1 c_4 hm10 ahpσ_13 bhpσ_13 ahpσ_15 bhpσ_15; omega) | omega) fr_σ_15 hF hI (lv_sub hl [1, 2, 3, 0] rfl)
        exact L_10_9 ((2147483647 - (0 : Int32).toInt).toNat + 1) 0 σ_2 _ _ ls (Nat.lt_succ_self _) (by decide) fr_σ_2 hF hI (lv_sub hl [1, 2, 3, 0] rfl)
  exact L_2_3 ((2147483647 - (0 : Int32).toInt).toNat + 1) 0 σ _ _ ls (Nat.lt_succ_self _) (by decide) fr_σ hF hI (lv_sub hl [1, 2, 0] rfl)

set_option maxRecDepth 100000 in
set_option maxHeartbeats 4000000 in
theorem c_X1_knownTo (l : Launch) (X : XW) (σ : ST) (a : Nat) (v1 : Int32) (v2 : Int32) (ha : q_kd X a = 2) : Met l yX1_knownTo (q_ws yX1_knownTo cX1_knownTo 4 (some .int)) (q_rm 1 21) (q_P X σ [.ref a, .int v1, .int v2]) (q_Qi X 9 σ (fun (r : Int32) (σ' : ST) => σ' = σ ∧ r = F_X1_knownTo X σ a v1 v2)) 0 0 (q_reg X) := by
  refine q_met 9 (by first | exact rfl | decide +kernel) rfl (Nat.le_of_ble_eq_true rfl) (fun p e s m below meth c E hml hr hlk hI ls hl => ?_)
  have hx := E.1
  have hb := E.2.1
  have hl : lv_has ls 4 [(0, .ref a), (1, .int v1), (2, .int v2)] := hl
  obtain ⟨out, hout⟩ : ∃ o, o = F_X1_knownTo X σ a v1 v2 := ⟨_, rfl⟩
  have hF := hout.symm
  unfold F_X1_knownTo at hF
  refine lv_iload_n hx hb dX1_knownTo_0 rfl (lv_at hl 1 rfl) ?_
  refine lv_bipush (v := 10) hx hb dX1_knownTo_1 (by decide) ?_
  refine lv_imul hx hb dX1_knownTo_3 ?_
  refine lv_topi (fun z_1 ez_1 => ?_)
  replace hF := q_letX hF ez_1
  refine lv_iload_n hx hb dX1_knownTo_4 rfl (lv_at hl 2 rfl) ?_
  refine lv_iadd hx hb dX1_knownTo_5 ?_
  refine lv_topi (fun z_2 ez_2 => ?_)
  replace hF := q_letX hF ez_2
  refine lv_istore_n (lv' := [(3, .int z_2), (0, .ref a), (1, .int v1), (2, .int v2)]) hx hb dX1_knownTo_6 rfl hl (by decide) rfl (fun ls hl => ?_)
  refine lv_aload_n hx hb dX1_knownTo_7 rfl (lv_at hl 1 rfl) ?_
  refine gs_X1_14_2 E hI ha dX1_knownTo_8 ?_
  refine lv_iload_n hx hb dX1_knownTo_11 rfl (lv_at hl 0 rfl) ?_
  refine q_ci (q_runV (As := [.int z_2]) (rest := []) E (hml.trans hl.1.symm) hI (c_X5_get l X σ (q_rf X a 0) z_2 (q_tk (k' := 5) hI ha rfl (by decide))) kv_X1_45 (q_tk (k' := 5) hI ha rfl (by decide)) ⟨rfl, by decide⟩ (show vwCl[4]? = some (RX5, TX5, 1) from rfl) rfl ⟨Nat.le_of_ble_eq_true rfl, Nat.le_of_ble_eq_true rfl⟩ ⟨Nat.le_refl _, Nat.le_refl _⟩ rfl (Nat.le_of_ble_eq_true rfl) dX1_knownTo_12) hI (by decide) (fun r_3 σ_4 H locs hpσ_4 hkσ_4 hI => ?_)
  obtain ⟨ahpσ_4, bhpσ_4⟩ := hpσ_4
  rw [ahpσ_4] at hI
  replace hF := q_letX hF bhpσ_4
  refine lv_aload_n hx hb dX1_knownTo_15 rfl (lv_at hl 1 rfl) ?_
  refine gs_X1_20_2 E hI ha dX1_knownTo_16 ?_
  refine lv_iload_n hx hb dX1_knownTo_19 rfl (lv_at hl 0 rfl) ?_
  refine q_ci (q_runV (As := [.int z_2]) (rest := [.int r_3]) E (hml.trans hl.1.symm) hI (c_X5_get l X σ (q_rf X a 1) z_2 (q_tk (k' := 5) hI ha rfl (by decide))) kv_X1_45 (q_tk (k' := 5) hI ha rfl (by decide)) ⟨rfl, by decide⟩ (show vwCl[4]? = some (RX5, TX5, 1) from rfl) rfl ⟨Nat.le_of_ble_eq_true rfl, Nat.le_of_ble_eq_true rfl⟩ ⟨Nat.le_refl _, Nat.le_refl _⟩ rfl (Nat.le_of_ble_eq_true rfl) dX1_knownTo_20) hI (by decide) (fun r_5 σ_6 H locs hpσ_6 hkσ_6 hI => ?_)
  obtain ⟨ahpσ_6, bhpσ_6⟩ := hpσ_6
  rw [ahpσ_6] at hI
  replace hF := q_letX hF bhpσ_6
  refine lv_iadd hx hb dX1_knownTo_23 ?_
  refine lv_topi (fun z_7 ez_7 => ?_)
  replace hF := q_letX hF ez_7
  exact q_reti E hr hlk hI ⟨rfl, (hF.trans hout)⟩ dX1_knownTo_24

set_option maxRecDepth 100000 in
set_option maxHeartbeats 4000000 in
theorem c_X2_topSize (l : Launch) (X : XW) (σ : ST) (a : Nat) (ha : q_kd X a = 3) : Met l yX2_topSize (q_ws yX2_topSize cX2_topSize 1 (some .int)) (q_rm 1 21) (q_P X σ [.ref a]) (q_Qi X 9 σ (fun (r : Int32) (σ' : ST) => σ' = σ ∧ r = F_X2_topSize X σ a)) 0 0 (q_reg X) := by
  refine q_met 9 (by first | exact rfl | decide +kernel) rfl (Nat.le_of_ble_eq_true rfl) (fun p e s m below meth c E hml hr hlk hI ls hl => ?_)
  have hx := E.1
  have hb := E.2.1
  have hl : lv_has ls 1 [(0, .ref a)] := hl
  obtain ⟨out, hout⟩ : ∃ o, o = F_X2_topSize X σ a := ⟨_, rfl⟩
  have hF := hout.symm
  unfold F_X2_topSize at hF
  refine lv_aload_n hx hb dX2_topSize_0 rfl (lv_at hl 0 rfl) ?_
  refine gs_X2_30_3 E hI ha dX2_topSize_1 ?_
  refine lv_aload_n hx hb dX2_topSize_4 rfl (lv_at hl 0 rfl) ?_
  refine gs_X2_9_3 E hI ha dX2_topSize_5 ?_
  refine lv_topi (fun f_1 ef_1 => ?_)
  replace hF := q_letX hF ef_1
  refine lv_iconst (v := 1) hx hb dX2_topSize_8 (by decide) ?_
  refine lv_isub hx hb dX2_topSize_9 ?_
  refine lv_topi (fun z_2 ez_2 => ?_)
  replace hF := q_letX hF ez_2
  refine q_ci (q_runV (As := [.int z_2]) (rest := []) E (hml.trans hl.1.symm) hI (c_X5_get l X σ (q_rf X a 4) z_2 (q_tk (k' := 5) hI ha rfl (by decide))) kv_X2_44 (q_tk (k' := 5) hI ha rfl (by decide)) ⟨rfl, by decide⟩ (show vwCl[4]? = some (RX5, TX5, 1) from rfl) rfl ⟨Nat.le_of_ble_eq_true rfl, Nat.le_of_ble_eq_true rfl⟩ ⟨Nat.le_refl _, Nat.le_refl _⟩ rfl (Nat.le_of_ble_eq_true rfl) dX2_topSize_10) hI (by decide) (fun r_3 σ_4 H locs hpσ_4 hkσ_4 hI => ?_)
  obtain ⟨ahpσ_4, bhpσ_4⟩ := hpσ_4
  rw [ahpσ_4] at hI
  replace hF := q_letX hF bhpσ_4
  exact q_reti E hr hlk hI ⟨rfl, (hF.trans hout)⟩ dX2_topSize_13

set_option maxRecDepth 100000 in
set_option maxHeartbeats 4000000 in
theorem c_X1_honestTop (l : Launch) (X : XW) (σ : ST) (a : Nat) (v1 : Int32) (ha : q_kd X a = 2) : Met l yX1_honestTop (q_ws yX1_honestTop cX1_honestTop 2 (some .long)) (q_rm 1 21) (q_P X σ [.ref a, .int v1]) (q_Ql X 9 σ (fun (r : Int64) (σ' : ST) => σ' = σ ∧ r = F_X1_honestTop X σ a v1)) 0 0 (q_reg X) := by
  refine q_met 9 (by first | exact rfl | decide +kernel) rfl (Nat.le_of_ble_eq_true rfl) (fun p e s m below meth c E hml hr hlk hI ls hl => ?_)
  have hx := E.1
  have hb := E.2.1
  have hl : lv_has ls 2 [(0, .ref a), (1, .int v1)] := hl
  obtain ⟨out, hout⟩ : ∃ o, o = F_X1_honestTop X σ a v1 := ⟨_, rfl⟩
  have hF := hout.symm
  unfold F_X1_honestTop at hF
  refine lv_aload_n hx hb dX1_honestTop_0 rfl (lv_at hl 0 rfl) ?_
  refine gs_X1_32_2 E hI ha dX1_honestTop_1 ?_
  refine lv_iload_n hx hb dX1_honestTop_4 rfl (lv_at hl 1 rfl) ?_
  refine q_ci (q_runV (As := [.int v1]) (rest := []) E (hml.trans hl.1.symm) hI (c_X5_get l X σ (q_rf X a 5) v1 (q_tk (k' := 5) hI ha rfl (by decide))) kv_X1_45 (q_tk (k' := 5) hI ha rfl (by decide)) ⟨rfl, by decide⟩ (show vwCl[4]? = some (RX5, TX5, 1) from rfl) rfl ⟨Nat.le_of_ble_eq_true rfl, Nat.le_of_ble_eq_true rfl⟩ ⟨Nat.le_refl _, Nat.le_refl _⟩ rfl (Nat.le_of_ble_eq_true rfl) dX1_honestTop_5) hI (by decide) (fun r_1 σ_2 H locs hpσ_2 hkσ_2 hI => ?_)
  obtain ⟨ahpσ_2, bhpσ_2⟩ := hpσ_2
  rw [ahpσ_2] at hI
  replace hF := q_letX hF bhpσ_2
  refine lv_aload_n hx hb dX1_honestTop_8 rfl (lv_at hl 0 rfl) ?_
  refine gs_X1_35_2 E hI ha dX1_honestTop_9 ?_
  refine lv_iload_n hx hb dX1_honestTop_12 rfl (lv_at hl 1 rfl) ?_
  refine q_ci (q_runV (As := [.int v1]) (rest := [.int r_1]) E (hml.trans hl.1.symm) hI (c_X5_get l X σ (q_rf X a 6) v1 (q_tk (k' := 5) hI ha rfl (by decide))) kv_X1_45 (q_tk (k' := 5) hI ha rfl (by decide)) ⟨rfl, by decide⟩ (show vwCl[4]? = some (RX5, TX5, 1) from rfl) rfl ⟨Nat.le_of_ble_eq_true rfl, Nat.le_of_ble_eq_true rfl⟩ ⟨Nat.le_refl _, Nat.le_refl _⟩ rfl (Nat.le_of_ble_eq_true rfl) dX1_honestTop_13) hI (by decide) (fun r_3 σ_4 H locs hpσ_4 hkσ_4 hI => ?_)
  obtain ⟨ahpσ_4, bhpσ_4⟩ := hpσ_4
  rw [ahpσ_4] at hI
  replace hF := q_letX hF bhpσ_4
  refine lv_isub hx hb dX1_honestTop_16 ?_
  refine lv_topi (fun z_5 ez_5 => ?_)
  replace hF := q_letX hF ez_5
  refine lv_i2l hx hb dX1_honestTop_17 rfl ?_
  refine lv_topl (fun y_6 ey_6 => ?_)
  replace hF := q_letX hF ey_6
  refine lv_lconst (v := 1) hx hb dX1_honestTop_18 (by decide) ?_
  refine lv_ladd hx hb dX1_honestTop_19 ?_
  refine lv_topl (fun y_7 ey_7 => ?_)
  replace hF := q_letX hF ey_7
  exact q_retl E hr hlk hI ⟨rfl, (hF.trans hout)⟩ dX1_honestTop_20

set_option maxRecDepth 100000 in
set_option maxHeartbeats 4000000 in
theorem c_X1_honestBottom (l : Launch) (X : XW) (σ : ST) (a : Nat) (v1 : Int32) (ha : q_kd X a = 2) : Met l yX1_honestBottom (q_ws yX1_honestBottom cX1_honestBottom 2 (some .long)) (q_rm 1 21) (q_P X σ [.ref a, .int v1]) (q_Ql X 9 σ (fun (r : Int64) (σ' : ST) => σ' = σ ∧ r = F_X1_honestBottom X σ a v1)) 0 0 (q_reg X) := by
  refine q_met 9 (by first | exact rfl | decide +kernel) rfl (Nat.le_of_ble_eq_true rfl) (fun p e s m below meth c E hml hr hlk hI ls hl => ?_)
  have hx := E.1
  have hb := E.2.1
  have hl : lv_has ls 2 [(0, .ref a), (1, .int v1)] := hl
  obtain ⟨out, hout⟩ : ∃ o, o = F_X1_honestBottom X σ a v1 := ⟨_, rfl⟩
  have hF := hout.symm
  unfold F_X1_honestBottom at hF
  refine lv_aload_n hx hb dX1_honestBottom_0 rfl (lv_at hl 0 rfl) ?_
  refine gs_X1_32_2 E hI ha dX1_honestBottom_1 ?_
  refine lv_iload_n hx hb dX1_honestBottom_4 rfl (lv_at hl 1 rfl) ?_
  refine q_ci (q_runV (As := [.int v1]) (rest := []) E (hml.trans hl.1.symm) hI (c_X5_get l X σ (q_rf X a 5) v1 (q_tk (k' := 5) hI ha rfl (by decide))) kv_X1_45 (q_tk (k' := 5) hI ha rfl (by decide)) ⟨rfl, by decide⟩ (show vwCl[4]? = some (RX5, TX5, 1) from rfl) rfl ⟨Nat.le_of_ble_eq_true rfl, Nat.le_of_ble_eq_true rfl⟩ ⟨Nat.le_refl _, Nat.le_refl _⟩ rfl (Nat.le_of_ble_eq_true rfl) dX1_honestBottom_5) hI (by decide) (fun r_1 σ_2 H locs hpσ_2 hkσ_2 hI => ?_)
  obtain ⟨ahpσ_2, bhpσ_2⟩ := hpσ_2
  rw [ahpσ_2] at hI
  replace hF := q_letX hF bhpσ_2
  refine lv_i2l hx hb dX1_honestBottom_8 rfl ?_
  refine lv_topl (fun y_3 ey_3 => ?_)
  replace hF := q_letX hF ey_3
  refine lv_ldc2 (v := 2) hx hb E.2.2.1 (E.2.2.2.1 _ (q_in_t6 (i := 1) (by first | rfl | decide +kernel) rfl)) dX1_honestBottom_9 ?_
  refine lv_ladd hx hb dX1_honestBottom_12 ?_
  refine lv_topl (fun y_4 ey_4 => ?_)
  replace hF := q_letX hF ey_4
  exact q_retl E hr hlk hI ⟨rfl, (hF.trans hout)⟩ dX1_honestBottom_13

set_option maxRecDepth 100000 in
set_option maxHeartbeats 4000000 in
theorem c_X2_timesSaid (l : Launch) (X : XW) (σ : ST) (a : Nat) (v1 : Int32) (v2 : Int32) (ha : q_kd X a = 3) : Met l yX2_timesSaid (q_ws yX2_timesSaid cX2_timesSaid 5 (some .int)) (q_rm 1 21) (q_P X σ [.ref a, .int v1, .int v2]) (q_Qi X 9 σ (fun (r : Int32) (σ' : ST) => σ' = σ ∧ r = F_X2_timesSaid X σ a v1 v2)) 0 0 (q_reg X) := by
  refine q_met 9 (by first | exact rfl | decide +kernel) rfl (Nat.le_of_ble_eq_true rfl) (fun p e s m below meth c E hml hr hlk hI ls hl => ?_)
  have hx := E.1
  have hb := E.2.1
  have hl : lv_has ls 5 [(0, .ref a), (1, .int v1), (2, .int v2)] := hl
  obtain ⟨out, hout⟩ : ∃ o, o = F_X2_timesSaid X σ a v1 v2 := ⟨_, rfl⟩
  have hF := hout.symm
  unfold F_X2_timesSaid at hF
  refine lv_iconst (v := 0) hx hb dX2_timesSaid_0 (by decide) ?_
  refine lv_istore_n (lv' := [(3, .int 0), (0, .ref a), (1, .int v1), (2, .int v2)]) hx hb dX2_timesSaid_1 rfl hl (by decide) rfl (fun ls hl => ?_)
  refine lv_iconst (v := 0) hx hb dX2_timesSaid_2 (by decide) ?_
  refine lv_istore (lv' := [(4, .int 0), (3, .int 0), (0, .ref a), (1, .int v1), (2, .int v2)]) hx hb dX2_timesSaid_3 hl (by decide) rfl (fun ls hl => ?_)
  have L_5_3 : ∀ (k_3 : Nat) (x_1 : Int32) (x_2 : Int32) (H : Heap) (locs : List Loc) (ls : Array Slot), (2147483647 - x_2.toInt).toNat < k_3 → (0 ≤ x_2.toInt) → (F_X2_timesSaid_L5_1 X σ a v1 v2 k_3 x_1 x_2 = out) → q_I X 9 σ s.heap locs σ H → lv_has ls 5 [(0, .ref a), (1, .int v1), (2, .int v2), (3, .int x_1), (4, .int x_2)] → W p l e (q_rm 1 21) s m ([.ref a, .int v1, .int v2] : List Value).toArray below meth c H locs 0 0 (MQ below (q_Qi X 9 σ (fun (r : Int32) (σ' : ST) => σ' = σ ∧ r = F_X2_timesSaid X σ a v1 v2)) ([.ref a, .int v1, .int v2] : List Value).toArray s 0 0 (q_reg X)) (F0 m 5 ls []) := by
    clear hF
    intro k_3
    induction k_3 with
    | zero =>
      intro x_1 x_2 H locs ls hms
      exact absurd hms (Nat.not_lt_zero _)
    | succ k_3 ih5 =>
      intro x_1 x_2 H locs ls hm5 hge5 hF hI hl
      replace hF := (F_X2_timesSaid_L5_1_s).symm.trans hF
      unfold F_X2_timesSaid_B5_1 at hF
      refine lv_iload hx hb dX2_timesSaid_5 (lv_at hl 4 rfl) ?_
      refine lv_aload_n hx hb dX2_timesSaid_7 rfl (lv_at hl 0 rfl) ?_
      refine gs_X2_9_3 E hI ha dX2_timesSaid_8 ?_
      refine lv_topi (fun f_4 ef_4 => ?_)
      replace hF := q_letX hF ef_4
      have gc_5_x_2 := q_rng x_2
      have gc_5_f_4 := q_rng f_4
      refine q_icmp_ge (A := x_2.toInt) (B := f_4.toInt) E rfl rfl (tgt := 49) dX2_timesSaid_11 (by decide) (fun c_5 => ?_) (fun c_5 => ?_)
      · skip
        replace hF := q_ifn hF (Int.not_lt.mpr c_5)
        skip
        refine lv_iload_n hx hb dX2_timesSaid_49 rfl (lv_at hl 3 rfl) ?_
        exact q_reti E hr hlk hI ⟨rfl, (hF.trans hout)⟩ dX2_timesSaid_50
      · skip
        replace hF := q_ifp hF c_5
        refine lv_aload_n hx hb dX2_timesSaid_14 rfl (lv_at hl 0 rfl) ?_
        refine gs_X2_23_3 E hI ha dX2_timesSaid_15 ?_
        refine lv_iload hx hb dX2_timesSaid_18 (lv_at hl 4 rfl) ?_
        refine q_ci (q_runV (As := [.int x_2]) (rest := []) E (hml.trans hl.1.symm) hI (c_X5_get l X σ (q_rf X a 2) x_2 (q_tk (k' := 5) hI ha rfl (by decide))) kv_X2_44 (q_tk (k' := 5) hI ha rfl (by decide)) ⟨rfl, by decide⟩ (show vwCl[4]? = some (RX5, TX5, 1) from rfl) rfl ⟨Nat.le_of_ble_eq_true rfl, Nat.le_of_ble_eq_true rfl⟩ ⟨Nat.le_refl _, Nat.le_refl _⟩ rfl (Nat.le_of_ble_eq_true rfl) dX2_timesSaid_20) hI (by decide) (fun r_6 σ_7 H locs hpσ_7 hkσ_7 hI => ?_)
        obtain ⟨ahpσ_7, bhpσ_7⟩ := hpσ_7
        rw [ahpσ_7] at hI
        replace hF := q_letX hF bhpσ_7
        refine lv_iload_n hx hb dX2_timesSaid_23 rfl (lv_at hl 1 rfl) ?_
        have gc_8_r_6 := q_rng r_6
        have gc_8_v1 := q_rng v1
        refine q_icmp_ne (A := r_6.toInt) (B := v1.toInt) E rfl rfl (tgt := 43) dX2_timesSaid_24 (by decide) (fun c_8 => ?_) (fun c_8 => ?_)
        · skip
          replace hF := q_ifn hF c_8
          obtain ⟨z_9, ez_9⟩ : ∃ y : Int32, y = x_2 + 1 := ⟨_, rfl⟩
          replace hF := q_letX hF ez_9
          refine lv_iinc (v := z_9) (lv' := [(4, .int z_9), (0, .ref a), (1, .int v1), (2, .int v2), (3, .int x_1)]) hx hb dX2_timesSaid_43 hl (k := 4) rfl (by rw [ez_9]; rfl) (by decide) rfl (fun ls hl => ?_)
          have iz_9 : z_9.toInt = x_2.toInt + 1 := q_inc ez_9 (by first | (clear hm5 ahpσ_7 bhpσ_7 gc_8_r_6 gc_8_v1 c_8; omega) | omega)
          refine lv_goto (tgt := 5) hx hb dX2_timesSaid_46 (by decide) ?_
          exact ih5 x_1 z_9 _ _ ls (by first | (clear ahpσ_7 bhpσ_7 gc_8_r_6 gc_8_v1; omega) | omega) (by first | (clear hm5 gc_5_f_4 c_5 ahpσ_7 bhpσ_7 gc_8_r_6 gc_8_v1 c_8; omega) | omega) hF hI (lv_sub hl [1, 2, 3, 4, 0] rfl)
        · skip
          replace hF := q_ifp hF c_8
          refine lv_aload_n hx hb dX2_timesSaid_27 rfl (lv_at hl 0 rfl) ?_
          refine gs_X2_27_3 E hI ha dX2_timesSaid_28 ?_
          refine lv_iload hx hb dX2_timesSaid_31 (lv_at hl 4 rfl) ?_
          refine q_ci (q_runV (As := [.int x_2]) (rest := []) E (hml.trans hl.1.symm) hI (c_X5_get l X σ (q_rf X a 3) x_2 (q_tk (k' := 5) hI ha rfl (by decide))) kv_X2_44 (q_tk (k' := 5) hI ha rfl (by decide)) ⟨rfl, by decide⟩ (show vwCl[4]? = some (RX5, TX5, 1) from rfl) rfl ⟨Nat.le_of_ble_eq_true rfl, Nat.le_of_ble_eq_true rfl⟩ ⟨Nat.le_refl _, Nat.le_refl _⟩ rfl (Nat.le_of_ble_eq_true rfl) dX2_timesSaid_33) hI (by decide) (fun r_10 σ_11 H locs hpσ_11 hkσ_11 hI => ?_)
          obtain ⟨ahpσ_11, bhpσ_11⟩ := hpσ_11
          rw [ahpσ_11] at hI
          replace hF := q_letX hF bhpσ_11
          refine lv_iload_n hx hb dX2_timesSaid_36 rfl (lv_at hl 2 rfl) ?_
          have gc_12_r_10 := q_rng r_10
          have gc_12_v2 := q_rng v2
          refine q_icmp_ne (A := r_10.toInt) (B := v2.toInt) E rfl rfl (tgt := 43) dX2_timesSaid_37 (by decide) (fun c_12 => ?_) (fun c_12 => ?_)
          · skip
            replace hF := q_ifn hF c_12
            obtain ⟨z_13, ez_13⟩ : ∃ y : Int32, y = x_2 + 1 := ⟨_, rfl⟩
            replace hF := q_letX hF ez_13
            refine lv_iinc (v := z_13) (lv' := [(4, .int z_13), (0, .ref a), (1, .int v1), (2, .int v2), (3, .int x_1)]) hx hb dX2_timesSaid_43 hl (k := 4) rfl (by rw [ez_13]; rfl) (by decide) rfl (fun ls hl => ?_)
            have iz_13 : z_13.toInt = x_2.toInt + 1 := q_inc ez_13 (by first | (clear hm5 ahpσ_7 bhpσ_7 gc_8_r_6 gc_8_v1 c_8 ahpσ_11 bhpσ_11 gc_12_r_10 gc_12_v2 c_12; omega) | omega)
            refine lv_goto (tgt := 5) hx hb dX2_timesSaid_46 (by decide) ?_
            exact ih5 x_1 z_13 _ _ ls (by first | (clear ahpσ_7 bhpσ_7 gc_8_r_6 gc_8_v1 c_8 ahpσ_11 bhpσ_11 gc_12_r_10 gc_12_v2; omega) | omega) (by first | (clear hm5 gc_5_f_4 c_5 ahpσ_7 bhpσ_7 gc_8_r_6 gc_8_v1 c_8 ahpσ_11 bhpσ_11 gc_12_r_10 gc_12_v2 c_12; omega) | omega) hF hI (lv_sub hl [1, 2, 3, 4, 0] rfl)
          · skip
            replace hF := q_ifp hF c_12
            obtain ⟨z_14, ez_14⟩ : ∃ y : Int32, y = x_1 + 1 := ⟨_, rfl⟩
            replace hF := q_letX hF ez_14
            refine lv_iinc (v := z_14) (lv' := [(3, .int z_14), (0, .ref a), (1, .int v1), (2, .int v2), (4, .int x_2)]) hx hb dX2_timesSaid_40 hl (k := 3) rfl (by rw [ez_14]; rfl) (by decide) rfl (fun ls hl => ?_)
            obtain ⟨z_15, ez_15⟩ : ∃ y : Int32, y = x_2 + 1 := ⟨_, rfl⟩
            replace hF := q_letX hF ez_15
            refine lv_iinc (v := z_15) (lv' := [(4, .int z_15), (3, .int z_14), (0, .ref a), (1, .int v1), (2, .int v2)]) hx hb dX2_timesSaid_43 hl (k := 4) rfl (by rw [ez_15]; rfl) (by decide) rfl (fun ls hl => ?_)
            have iz_15 : z_15.toInt = x_2.toInt + 1 := q_inc ez_15 (by first | (clear hm5 ahpσ_7 bhpσ_7 gc_8_r_6 gc_8_v1 c_8 ahpσ_11 bhpσ_11 gc_12_r_10 gc_12_v2 c_12; omega) | omega)
            refine lv_goto (tgt := 5) hx hb dX2_timesSaid_46 (by decide) ?_
            exact ih5 z_14 z_15 _ _ ls (by first | (clear ahpσ_7 bhpσ_7 gc_8_r_6 gc_8_v1 c_8 ahpσ_11 bhpσ_11 gc_12_r_10 gc_12_v2 c_12; omega) | omega) (by first | (clear hm5 gc_5_f_4 c_5 ahpσ_7 bhpσ_7 gc_8_r_6 gc_8_v1 c_8 ahpσ_11 bhpσ_11 gc_12_r_10 gc_12_v2 c_12; omega) | omega) hF hI (lv_sub hl [2, 3, 4, 1, 0] rfl)
  exact L_5_3 ((2147483647 - (0 : Int32).toInt).toNat + 1) 0 0 _ _ ls (Nat.lt_succ_self _) (by decide) hF hI (lv_sub hl [2, 3, 4, 1, 0] rfl)

set_option maxRecDepth 100000 in
set_option maxHeartbeats 4000000 in
theorem c_X8_meets (l : Launch) (X : XW) (σ : ST) (a : Nat) (v1 : Int32) (v2 : Int32) (ha : q_kd X a = 8) : Met l yX8_meets (q_ws yX8_meets cX8_meets 5 (some .boolean)) (q_rm 1 21) (q_P X σ [.ref a, .int v1, .int v2]) (q_Qi X 9 σ (fun (r : Int32) (σ' : ST) => σ' = σ ∧ (0 ≤ r.toInt ∧ r.toInt ≤ 1) ∧ r = F_X8_meets X σ a v1 v2)) 0 0 (q_reg X) := by
  refine q_met 9 (by first | exact rfl | decide +kernel) rfl (Nat.le_of_ble_eq_true rfl) (fun p e s m below meth c E hml hr hlk hI ls hl => ?_)
  have hx := E.1
  have hb := E.2.1
  have hl : lv_has ls 5 [(0, .ref a), (1, .int v1), (2, .int v2)] := hl
  obtain ⟨out, hout⟩ : ∃ o, o = F_X8_meets X σ a v1 v2 := ⟨_, rfl⟩
  have hF := hout.symm
  unfold F_X8_meets at hF
  refine lv_aload_n hx hb dX8_meets_0 rfl (lv_at hl 0 rfl) ?_
  refine gs_X8_40_8 E hI ha dX8_meets_1 ?_
  refine lv_iload_n hx hb dX8_meets_4 rfl (lv_at hl 1 rfl) ?_
  refine q_ci (q_runV (As := [.int v1]) (rest := []) E (hml.trans hl.1.symm) hI (c_X5_get l X σ (q_rf X a 7) v1 (q_tk (k' := 5) hI ha rfl (by decide))) kv_X8_51 (q_tk (k' := 5) hI ha rfl (by decide)) ⟨rfl, by decide⟩ (show vwCl[4]? = some (RX5, TX5, 1) from rfl) rfl ⟨Nat.le_of_ble_eq_true rfl, Nat.le_of_ble_eq_true rfl⟩ ⟨Nat.le_refl _, Nat.le_refl _⟩ rfl (Nat.le_of_ble_eq_true rfl) dX8_meets_5) hI (by decide) (fun r_1 σ_2 H locs hpσ_2 hkσ_2 hI => ?_)
  obtain ⟨ahpσ_2, bhpσ_2⟩ := hpσ_2
  rw [ahpσ_2] at hI
  replace hF := q_letX hF bhpσ_2
  refine lv_istore_n (lv' := [(3, .int r_1), (0, .ref a), (1, .int v1), (2, .int v2)]) hx hb dX8_meets_8 rfl hl (by decide) rfl (fun ls hl => ?_)
  refine lv_aload_n hx hb dX8_meets_9 rfl (lv_at hl 1 rfl) ?_
  refine gs_X8_37_8 E hI ha dX8_meets_10 ?_
  refine lv_iload_n hx hb dX8_meets_13 rfl (lv_at hl 2 rfl) ?_
  refine q_ci (q_runV (As := [.int v1]) (rest := []) E (hml.trans hl.1.symm) hI (c_X5_get l X σ (q_rf X a 6) v1 (q_tk (k' := 5) hI ha rfl (by decide))) kv_X8_51 (q_tk (k' := 5) hI ha rfl (by decide)) ⟨rfl, by decide⟩ (show vwCl[4]? = some (RX5, TX5, 1) from rfl) rfl ⟨Nat.le_of_ble_eq_true rfl, Nat.le_of_ble_eq_true rfl⟩ ⟨Nat.le_refl _, Nat.le_refl _⟩ rfl (Nat.le_of_ble_eq_true rfl) dX8_meets_14) hI (by decide) (fun r_3 σ_4 H locs hpσ_4 hkσ_4 hI => ?_)
  obtain ⟨ahpσ_4, bhpσ_4⟩ := hpσ_4
  rw [ahpσ_4] at hI
  replace hF := q_letX hF bhpσ_4
  refine lv_istore (lv' := [(4, .int r_3), (3, .int r_1), (0, .ref a), (1, .int v1), (2, .int v2)]) hx hb dX8_meets_17 hl (by decide) rfl (fun ls hl => ?_)
  refine lv_iload hx hb dX8_meets_19 (lv_at hl 0 rfl) ?_
  refine lv_bipush (v := 60) hx hb dX8_meets_21 (by decide) ?_
  refine q_icmp_ne (A := r_3.toInt) (B := 60) E rfl (by decide) (tgt := 37) dX8_meets_23 (by decide) (fun c_5 => ?_) (fun c_5 => ?_)
  · skip
    replace hF := q_ifn hF c_5
    refine lv_iload hx hb dX8_meets_37 (lv_at hl 0 rfl) ?_
    refine lv_bipush (v := 62) hx hb dX8_meets_39 (by decide) ?_
    refine q_icmp_ne (A := r_3.toInt) (B := 62) E rfl (by decide) (tgt := 57) dX8_meets_41 (by decide) (fun c_6 => ?_) (fun c_6 => ?_)
    · skip
      replace hF := q_ifn hF c_6
      refine lv_iload_n hx hb dX8_meets_57 rfl (lv_at hl 4 rfl) ?_
      refine lv_iload_n hx hb dX8_meets_58 rfl (lv_at hl 1 rfl) ?_
      refine q_icmp_ne (A := v2.toInt) (B := r_1.toInt) E rfl rfl (tgt := 66) dX8_meets_59 (by decide) (fun c_7 => ?_) (fun c_7 => ?_)
      · skip
        replace hF := q_ifn hF c_7
        refine lv_iconst (v := 0) hx hb dX8_meets_66 (by decide) ?_
        have hrv : (0 : Int32).toInt = 0 := rfl
        exact q_retz E hr hlk hI ⟨by decide, by decide⟩ ⟨rfl, ⟨by decide, by decide⟩, (hF.trans hout)⟩ dX8_meets_67
      · skip
        replace hF := q_ifp hF c_7
        refine lv_iconst (v := 1) hx hb dX8_meets_62 (by decide) ?_
        refine lv_goto (tgt := 67) hx hb dX8_meets_63 (by decide) ?_
        have hrv : (1 : Int32).toInt = 1 := rfl
        exact q_retz E hr hlk hI ⟨by decide, by decide⟩ ⟨rfl, ⟨by decide, by decide⟩, (hF.trans hout)⟩ dX8_meets_67
    · skip
      replace hF := q_ifp hF c_6
      refine lv_iload_n hx hb dX8_meets_44 rfl (lv_at hl 4 rfl) ?_
      refine lv_iload_n hx hb dX8_meets_45 rfl (lv_at hl 1 rfl) ?_
      refine q_icmp_le (A := v2.toInt) (B := r_1.toInt) E rfl rfl (tgt := 53) dX8_meets_46 (by decide) (fun c_8 => ?_) (fun c_8 => ?_)
      · skip
        replace hF := q_ifn hF (Int.not_lt.mpr c_8)
        refine lv_iconst (v := 0) hx hb dX8_meets_53 (by decide) ?_
        refine lv_goto (tgt := 67) hx hb dX8_meets_54 (by decide) ?_
        have hrv : (0 : Int32).toInt = 0 := rfl
        exact q_retz E hr hlk hI ⟨by decide, by decide⟩ ⟨rfl, ⟨by decide, by decide⟩, (hF.trans hout)⟩ dX8_meets_67
      · skip
        replace hF := q_ifp hF c_8
        refine lv_iconst (v := 1) hx hb dX8_meets_49 (by decide) ?_
        refine lv_goto (tgt := 67) hx hb dX8_meets_50 (by decide) ?_
        have hrv : (1 : Int32).toInt = 1 := rfl
        exact q_retz E hr hlk hI ⟨by decide, by decide⟩ ⟨rfl, ⟨by decide, by decide⟩, (hF.trans hout)⟩ dX8_meets_67
  · skip
    replace hF := q_ifp hF c_5
    refine lv_iload_n hx hb dX8_meets_26 rfl (lv_at hl 4 rfl) ?_
    refine lv_iload_n hx hb dX8_meets_27 rfl (lv_at hl 1 rfl) ?_
    refine q_icmp_ge (A := v2.toInt) (B := r_1.toInt) E rfl rfl (tgt := 35) dX8_meets_28 (by decide) (fun c_9 => ?_) (fun c_9 => ?_)
    · skip
      replace hF := q_ifn hF (Int.not_lt.mpr c_9)
      refine lv_iconst (v := 0) hx hb dX8_meets_35 (by decide) ?_
      have hrv : (0 : Int32).toInt = 0 := rfl
      exact q_retz E hr hlk hI ⟨by decide, by decide⟩ ⟨rfl, ⟨by decide, by decide⟩, (hF.trans hout)⟩ dX8_meets_36
    · skip
      replace hF := q_ifp hF c_9
      refine lv_iconst (v := 1) hx hb dX8_meets_31 (by decide) ?_
      refine lv_goto (tgt := 36) hx hb dX8_meets_32 (by decide) ?_
      have hrv : (1 : Int32).toInt = 1 := rfl
      exact q_retz E hr hlk hI ⟨by decide, by decide⟩ ⟨rfl, ⟨by decide, by decide⟩, (hF.trans hout)⟩ dX8_meets_36
end
/-! FROM 12.reader.a.lean.txt -/
section
section QS
variable {p : Program} {l : Launch} {e : Env} {R : Room} {s : State} {m : MethodId} {args : Array Value} {below : List Frame} {meth : Method} {c : Code} {H : Heap} {locs : List Loc} {cells slots : Nat} {Q : State → Prop} {cc : ByteArray} {X : XW} {n : Nat} {σ0 σ : ST} {H0 : Heap} {pc : Nat} {ls : Array Slot} {rest : List Value} {a : Nat}
theorem ps_X6_9_6 (E : q_E p c cc s m args RX6 X) (hI : q_I X n σ0 H0 locs σ H) (ha : q_kd X a = 6) {v : Int32} (hcl : n < 9) (h1 : -2147483648 ≤ v.toInt) (h2 : v.toInt ≤ 10) (hdg : decode cc pc = .ok (.putfield 9, 3)) (kk : ∀ (H1 : Heap) (locs1 : List Loc) (σ1 : ST), σ1 = q_si σ a 0 v → q_I X n σ0 H0 locs1 σ1 H1 → W p l e R s m args below meth c H1 locs1 cells slots Q (F0 m (pc + 3) ls rest)) : W p l e R s m args below meth c H locs cells slots Q (F0 m pc ls (.int v :: .ref a :: rest)) :=
  q_puti (ref := "CheatHeap$Rules") E hI ha ⟨rfl, by decide⟩ (show vwCl[5]? = some (RX6, TX6, 8) from rfl) q_inX6 tyX6_ok nmX6 (f := 0) (by decide) (q_in_t1 (i := 57) (by first | rfl | decide +kernel) rfl) (Or.inl rfl) rfl rfl hcl hdg (q_inB rfl h1 h2) (Or.inl rfl) (fun H1 l1 h => kk H1 l1 _ rfl h)
theorem ps_X6_15_6 (E : q_E p c cc s m args RX6 X) (hI : q_I X n σ0 H0 locs σ H) (ha : q_kd X a = 6) {v : Int32} (hcl : n < 9) (hdg : decode cc pc = .ok (.putfield 15, 3)) (kk : ∀ (H1 : Heap) (locs1 : List Loc) (σ1 : ST), σ1 = q_si σ a 1 v → q_I X n σ0 H0 locs1 σ1 H1 → W p l e R s m args below meth c H1 locs1 cells slots Q (F0 m (pc + 3) ls rest)) : W p l e R s m args below meth c H locs cells slots Q (F0 m pc ls (.int v :: .ref a :: rest)) :=
  q_puti (ref := "CheatHeap$Rules") E hI ha ⟨rfl, by decide⟩ (show vwCl[5]? = some (RX6, TX6, 8) from rfl) q_inX6 tyX6_ok nmX6 (f := 1) (by decide) (q_in_t1 (i := 62) (by first | rfl | decide +kernel) rfl) (Or.inl rfl) rfl rfl hcl hdg (q_inU rfl) (Or.inl rfl) (fun H1 l1 h => kk H1 l1 _ rfl h)
theorem ps_X6_18_6 (E : q_E p c cc s m args RX6 X) (hI : q_I X n σ0 H0 locs σ H) (ha : q_kd X a = 6) {v : Int32} (hcl : n < 9) (hdg : decode cc pc = .ok (.putfield 18, 3)) (kk : ∀ (H1 : Heap) (locs1 : List Loc) (σ1 : ST), σ1 = q_si σ a 2 v → q_I X n σ0 H0 locs1 σ1 H1 → W p l e R s m args below meth c H1 locs1 cells slots Q (F0 m (pc + 3) ls rest)) : W p l e R s m args below meth c H locs cells slots Q (F0 m pc ls (.int v :: .ref a :: rest)) :=
  q_puti (ref := "CheatHeap$Rules") E hI ha ⟨rfl, by decide⟩ (show vwCl[5]? = some (RX6, TX6, 8) from rfl) q_inX6 tyX6_ok nmX6 (f := 2) (by decide) (q_in_t1 (i := 65) (by first | rfl | decide +kernel) rfl) (Or.inl rfl) rfl rfl hcl hdg (q_inU rfl) (Or.inl rfl) (fun H1 l1 h => kk H1 l1 _ rfl h)
theorem ps_X6_21_6 (E : q_E p c cc s m args RX6 X) (hI : q_I X n σ0 H0 locs σ H) (ha : q_kd X a = 6) {v : Int32} (hcl : n < 9) (h1 : -2147483648 ≤ v.toInt) (h2 : v.toInt ≤ 4) (hdg : decode cc pc = .ok (.putfield 21, 3)) (kk : ∀ (H1 : Heap) (locs1 : List Loc) (σ1 : ST), σ1 = q_si σ a 3 v → q_I X n σ0 H0 locs1 σ1 H1 → W p l e R s m args below meth c H1 locs1 cells slots Q (F0 m (pc + 3) ls rest)) : W p l e R s m args below meth c H locs cells slots Q (F0 m pc ls (.int v :: .ref a :: rest)) :=
  q_puti (ref := "CheatHeap$Rules") E hI ha ⟨rfl, by decide⟩ (show vwCl[5]? = some (RX6, TX6, 8) from rfl) q_inX6 tyX6_ok nmX6 (f := 3) (by decide) (q_in_t1 (i := 68) (by first | rfl | decide +kernel) rfl) (Or.inl rfl) rfl rfl hcl hdg (q_inB rfl h1 h2) (Or.inl rfl) (fun H1 l1 h => kk H1 l1 _ rfl h)
theorem ps_X6_24_6 (E : q_E p c cc s m args RX6 X) (hI : q_I X n σ0 H0 locs σ H) (ha : q_kd X a = 6) {v : Int32} (hcl : n < 9) (hdg : decode cc pc = .ok (.putfield 24, 3)) (kk : ∀ (H1 : Heap) (locs1 : List Loc) (σ1 : ST), σ1 = q_si σ a 4 v → q_I X n σ0 H0 locs1 σ1 H1 → W p l e R s m args below meth c H1 locs1 cells slots Q (F0 m (pc + 3) ls rest)) : W p l e R s m args below meth c H locs cells slots Q (F0 m pc ls (.int v :: .ref a :: rest)) :=
  q_puti (ref := "CheatHeap$Rules") E hI ha ⟨rfl, by decide⟩ (show vwCl[5]? = some (RX6, TX6, 8) from rfl) q_inX6 tyX6_ok nmX6 (f := 4) (by decide) (q_in_t1 (i := 73) (by first | rfl | decide +kernel) rfl) (Or.inl rfl) rfl rfl hcl hdg (q_inU rfl) (Or.inl rfl) (fun H1 l1 h => kk H1 l1 _ rfl h)
theorem gs_X6_32_6 (E : q_E p c cc s m args RX6 X) (hI : q_I X n σ0 H0 locs σ H) (ha : q_kd X a = 6) (hdg : decode cc pc = .ok (.getfield 32, 3)) (kk : W p l e R s m args below meth c H locs cells slots Q (F0 m (pc + 3) ls (.ref (q_rf X a 5) :: rest))) : W p l e R s m args below meth c H locs cells slots Q (F0 m pc ls (.ref a :: rest)) :=
  q_getf (ref := "CheatHeap$Rules") E hI ha ⟨rfl, by decide⟩ (show vwCl[5]? = some (RX6, TX6, 8) from rfl) q_inX6 (f := 5) (by decide) (q_in_t1 (i := 78) (by first | rfl | decide +kernel) rfl) (Or.inl rfl) rfl hdg kk
theorem kv_X6_42 : q_okV RX6 42 RX5 yX5_clear cX5_clear 2 none 0 := ⟨(q_in_t3 (i := 121) (by first | rfl | decide +kernel) rfl), (q_in_t3 (i := 122) (by first | rfl | decide +kernel) rfl), (q_in_t3 (i := 123) (by first | rfl | decide +kernel) rfl), (q_in_t1 (i := 4) (by first | rfl | decide +kernel) rfl), (q_in_t3 (i := 124) (by first | rfl | decide +kernel) rfl), ⟨rfl, by decide, by decide, rfl⟩⟩
theorem gs_X3_19_4 (E : q_E p c cc s m args RX3 X) (hI : q_I X n σ0 H0 locs σ H) (ha : q_kd X a = 4) (hdg : decode cc pc = .ok (.getfield 19, 3)) (kk : W p l e R s m args below meth c H locs cells slots Q (F0 m (pc + 3) ls (.int (σ.1 a 2) :: rest))) : W p l e R s m args below meth c H locs cells slots Q (F0 m pc ls (.ref a :: rest)) :=
  q_getf (ref := "CheatHeap$Reader") E hI ha ⟨rfl, by decide⟩ (show vwCl[3]? = some (RX4, TX4, 11) from rfl) q_inX4 (f := 2) (by decide) (q_in_t2 (i := 78) (by first | rfl | decide +kernel) rfl) (Or.inl rfl) rfl hdg kk
theorem gs_X3_19_9 (E : q_E p c cc s m args RX3 X) (hI : q_I X n σ0 H0 locs σ H) (ha : q_kd X a = 9) (hdg : decode cc pc = .ok (.getfield 19, 3)) (kk : W p l e R s m args below meth c H locs cells slots Q (F0 m (pc + 3) ls (.int (σ.1 a 2) :: rest))) : W p l e R s m args below meth c H locs cells slots Q (F0 m pc ls (.ref a :: rest)) :=
  q_getf (ref := "CheatHeap$Reader") E hI ha ⟨rfl, by decide⟩ (show vwCl[8]? = some (RX9, TX9, 12) from rfl) q_inX9 (f := 2) (by decide) (q_in_t2 (i := 78) (by first | rfl | decide +kernel) rfl) (Or.inl rfl) rfl hdg kk
theorem gsr_X3_19 (E : q_E p c cc s m args RX3 X) (hI : q_I X n σ0 H0 locs σ H) (ha : q_kd X a = 4 ∨ q_kd X a = 9) (hdg : decode cc pc = .ok (.getfield 19, 3)) (kk : W p l e R s m args below meth c H locs cells slots Q (F0 m (pc + 3) ls (.int (σ.1 a 2) :: rest))) : W p l e R s m args below meth c H locs cells slots Q (F0 m pc ls (.ref a :: rest)) := by
  rcases ha with ha | ha
  · exact gs_X3_19_4 E hI ha hdg kk
  · exact gs_X3_19_9 E hI ha hdg kk
theorem gs_X3_15_4 (E : q_E p c cc s m args RX3 X) (hI : q_I X n σ0 H0 locs σ H) (ha : q_kd X a = 4) (hdg : decode cc pc = .ok (.getfield 15, 3)) (kk : W p l e R s m args below meth c H locs cells slots Q (F0 m (pc + 3) ls (.int (σ.1 a 1) :: rest))) : W p l e R s m args below meth c H locs cells slots Q (F0 m pc ls (.ref a :: rest)) :=
  q_getf (ref := "CheatHeap$Reader") E hI ha ⟨rfl, by decide⟩ (show vwCl[3]? = some (RX4, TX4, 11) from rfl) q_inX4 (f := 1) (by decide) (q_in_t2 (i := 77) (by first | rfl | decide +kernel) rfl) (Or.inl rfl) rfl hdg kk
theorem gs_X3_15_9 (E : q_E p c cc s m args RX3 X) (hI : q_I X n σ0 H0 locs σ H) (ha : q_kd X a = 9) (hdg : decode cc pc = .ok (.getfield 15, 3)) (kk : W p l e R s m args below meth c H locs cells slots Q (F0 m (pc + 3) ls (.int (σ.1 a 1) :: rest))) : W p l e R s m args below meth c H locs cells slots Q (F0 m pc ls (.ref a :: rest)) :=
  q_getf (ref := "CheatHeap$Reader") E hI ha ⟨rfl, by decide⟩ (show vwCl[8]? = some (RX9, TX9, 12) from rfl) q_inX9 (f := 1) (by decide) (q_in_t2 (i := 77) (by first | rfl | decide +kernel) rfl) (Or.inl rfl) rfl hdg kk
theorem gsr_X3_15 (E : q_E p c cc s m args RX3 X) (hI : q_I X n σ0 H0 locs σ H) (ha : q_kd X a = 4 ∨ q_kd X a = 9) (hdg : decode cc pc = .ok (.getfield 15, 3)) (kk : W p l e R s m args below meth c H locs cells slots Q (F0 m (pc + 3) ls (.int (σ.1 a 1) :: rest))) : W p l e R s m args below meth c H locs cells slots Q (F0 m pc ls (.ref a :: rest)) := by
  rcases ha with ha | ha
  · exact gs_X3_15_4 E hI ha hdg kk
  · exact gs_X3_15_9 E hI ha hdg kk
theorem gs_X3_9_4 (E : q_E p c cc s m args RX3 X) (hI : q_I X n σ0 H0 locs σ H) (ha : q_kd X a = 4) (hdg : decode cc pc = .ok (.getfield 9, 3)) (kk : W p l e R s m args below meth c H locs cells slots Q (F0 m (pc + 3) ls (.ref (σ.2.2 a) :: rest))) : W p l e R s m args below meth c H locs cells slots Q (F0 m pc ls (.ref a :: rest)) :=
  q_getf (ref := "CheatHeap$Reader") E hI ha ⟨rfl, by decide⟩ (show vwCl[3]? = some (RX4, TX4, 11) from rfl) q_inX4 (f := 0) (by decide) (q_in_t2 (i := 76) (by first | rfl | decide +kernel) rfl) (Or.inl rfl) rfl hdg kk
theorem gs_X3_9_9 (E : q_E p c cc s m args RX3 X) (hI : q_I X n σ0 H0 locs σ H) (ha : q_kd X a = 9) (hdg : decode cc pc = .ok (.getfield 9, 3)) (kk : W p l e R s m args below meth c H locs cells slots Q (F0 m (pc + 3) ls (.ref (σ.2.2 a) :: rest))) : W p l e R s m args below meth c H locs cells slots Q (F0 m pc ls (.ref a :: rest)) :=
  q_getf (ref := "CheatHeap$Reader") E hI ha ⟨rfl, by decide⟩ (show vwCl[8]? = some (RX9, TX9, 12) from rfl) q_inX9 (f := 0) (by decide) (q_in_t2 (i := 76) (by first | rfl | decide +kernel) rfl) (Or.inl rfl) rfl hdg kk
theorem gsr_X3_9 (E : q_E p c cc s m args RX3 X) (hI : q_I X n σ0 H0 locs σ H) (ha : q_kd X a = 4 ∨ q_kd X a = 9) (hdg : decode cc pc = .ok (.getfield 9, 3)) (kk : W p l e R s m args below meth c H locs cells slots Q (F0 m (pc + 3) ls (.ref (σ.2.2 a) :: rest))) : W p l e R s m args below meth c H locs cells slots Q (F0 m pc ls (.ref a :: rest)) := by
  rcases ha with ha | ha
  · exact gs_X3_9_4 E hI ha hdg kk
  · exact gs_X3_9_9 E hI ha hdg kk
theorem gs_X3_22_4 (E : q_E p c cc s m args RX3 X) (hI : q_I X n σ0 H0 locs σ H) (ha : q_kd X a = 4) (hdg : decode cc pc = .ok (.getfield 22, 3)) (kk : W p l e R s m args below meth c H locs cells slots Q (F0 m (pc + 3) ls (.int (σ.1 a 3) :: rest))) : W p l e R s m args below meth c H locs cells slots Q (F0 m pc ls (.ref a :: rest)) :=
  q_getf (ref := "CheatHeap$Reader") E hI ha ⟨rfl, by decide⟩ (show vwCl[3]? = some (RX4, TX4, 11) from rfl) q_inX4 (f := 3) (by decide) (q_in_t2 (i := 79) (by first | rfl | decide +kernel) rfl) (Or.inl rfl) rfl hdg kk
theorem gs_X3_22_9 (E : q_E p c cc s m args RX3 X) (hI : q_I X n σ0 H0 locs σ H) (ha : q_kd X a = 9) (hdg : decode cc pc = .ok (.getfield 22, 3)) (kk : W p l e R s m args below meth c H locs cells slots Q (F0 m (pc + 3) ls (.int (σ.1 a 3) :: rest))) : W p l e R s m args below meth c H locs cells slots Q (F0 m pc ls (.ref a :: rest)) :=
  q_getf (ref := "CheatHeap$Reader") E hI ha ⟨rfl, by decide⟩ (show vwCl[8]? = some (RX9, TX9, 12) from rfl) q_inX9 (f := 3) (by decide) (q_in_t2 (i := 79) (by first | rfl | decide +kernel) rfl) (Or.inl rfl) rfl hdg kk
theorem gsr_X3_22 (E : q_E p c cc s m args RX3 X) (hI : q_I X n σ0 H0 locs σ H) (ha : q_kd X a = 4 ∨ q_kd X a = 9) (hdg : decode cc pc = .ok (.getfield 22, 3)) (kk : W p l e R s m args below meth c H locs cells slots Q (F0 m (pc + 3) ls (.int (σ.1 a 3) :: rest))) : W p l e R s m args below meth c H locs cells slots Q (F0 m pc ls (.ref a :: rest)) := by
  rcases ha with ha | ha
  · exact gs_X3_22_4 E hI ha hdg kk
  · exact gs_X3_22_9 E hI ha hdg kk
theorem ps_X3_19_4 (E : q_E p c cc s m args RX3 X) (hI : q_I X n σ0 H0 locs σ H) (ha : q_kd X a = 4) {v : Int32} (hcl : n < 9) (h1 : 0 ≤ v.toInt) (h2 : v.toInt ≤ 2147483647) (hdg : decode cc pc = .ok (.putfield 19, 3)) (kk : ∀ (H1 : Heap) (locs1 : List Loc) (σ1 : ST), σ1 = q_si σ a 2 v → q_I X n σ0 H0 locs1 σ1 H1 → W p l e R s m args below meth c H1 locs1 cells slots Q (F0 m (pc + 3) ls rest)) : W p l e R s m args below meth c H locs cells slots Q (F0 m pc ls (.int v :: .ref a :: rest)) :=
  q_puti (ref := "CheatHeap$Reader") E hI ha ⟨rfl, by decide⟩ (show vwCl[3]? = some (RX4, TX4, 11) from rfl) q_inX4 tyX4_ok nmX4 (f := 2) (by decide) (q_in_t2 (i := 78) (by first | rfl | decide +kernel) rfl) (Or.inl rfl) rfl rfl hcl hdg (q_inB rfl h1 h2) (Or.inl rfl) (fun H1 l1 h => kk H1 l1 _ rfl h)
theorem ps_X3_19_9 (E : q_E p c cc s m args RX3 X) (hI : q_I X n σ0 H0 locs σ H) (ha : q_kd X a = 9) {v : Int32} (hcl : n < 9) (h1 : 0 ≤ v.toInt) (h2 : v.toInt ≤ 2147483647) (hdg : decode cc pc = .ok (.putfield 19, 3)) (kk : ∀ (H1 : Heap) (locs1 : List Loc) (σ1 : ST), σ1 = q_si σ a 2 v → q_I X n σ0 H0 locs1 σ1 H1 → W p l e R s m args below meth c H1 locs1 cells slots Q (F0 m (pc + 3) ls rest)) : W p l e R s m args below meth c H locs cells slots Q (F0 m pc ls (.int v :: .ref a :: rest)) :=
  q_puti (ref := "CheatHeap$Reader") E hI ha ⟨rfl, by decide⟩ (show vwCl[8]? = some (RX9, TX9, 12) from rfl) q_inX9 tyX9_ok nmX9 (f := 2) (by decide) (q_in_t2 (i := 78) (by first | rfl | decide +kernel) rfl) (Or.inl rfl) rfl rfl hcl hdg (q_inB rfl h1 h2) (Or.inl rfl) (fun H1 l1 h => kk H1 l1 _ rfl h)
theorem psr_X3_19 (E : q_E p c cc s m args RX3 X) (hI : q_I X n σ0 H0 locs σ H) (ha : q_kd X a = 4 ∨ q_kd X a = 9) {v : Int32} (hcl : n < 9) (h1 : 0 ≤ v.toInt) (h2 : v.toInt ≤ 2147483647) (hdg : decode cc pc = .ok (.putfield 19, 3)) (kk : ∀ (H1 : Heap) (locs1 : List Loc) (σ1 : ST), σ1 = q_si σ a 2 v → q_I X n σ0 H0 locs1 σ1 H1 → W p l e R s m args below meth c H1 locs1 cells slots Q (F0 m (pc + 3) ls rest)) : W p l e R s m args below meth c H locs cells slots Q (F0 m pc ls (.int v :: .ref a :: rest)) := by
  rcases ha with ha | ha
  · exact ps_X3_19_4 E hI ha hcl h1 h2 hdg kk
  · exact ps_X3_19_9 E hI ha hcl h1 h2 hdg kk
theorem ps_X3_22_4 (E : q_E p c cc s m args RX3 X) (hI : q_I X n σ0 H0 locs σ H) (ha : q_kd X a = 4) {v : Int32} (hcl : n < 9) (h1 : 0 ≤ v.toInt) (h2 : v.toInt ≤ 2147483647) (hdg : decode cc pc = .ok (.putfield 22, 3)) (kk : ∀ (H1 : Heap) (locs1 : List Loc) (σ1 : ST), σ1 = q_si σ a 3 v → q_I X n σ0 H0 locs1 σ1 H1 → W p l e R s m args below meth c H1 locs1 cells slots Q (F0 m (pc + 3) ls rest)) : W p l e R s m args below meth c H locs cells slots Q (F0 m pc ls (.int v :: .ref a :: rest)) :=
  q_puti (ref := "CheatHeap$Reader") E hI ha ⟨rfl, by decide⟩ (show vwCl[3]? = some (RX4, TX4, 11) from rfl) q_inX4 tyX4_ok nmX4 (f := 3) (by decide) (q_in_t2 (i := 79) (by first | rfl | decide +kernel) rfl) (Or.inl rfl) rfl rfl hcl hdg (q_inB rfl h1 h2) (Or.inl rfl) (fun H1 l1 h => kk H1 l1 _ rfl h)
theorem ps_X3_22_9 (E : q_E p c cc s m args RX3 X) (hI : q_I X n σ0 H0 locs σ H) (ha : q_kd X a = 9) {v : Int32} (hcl : n < 9) (h1 : 0 ≤ v.toInt) (h2 : v.toInt ≤ 2147483647) (hdg : decode cc pc = .ok (.putfield 22, 3)) (kk : ∀ (H1 : Heap) (locs1 : List Loc) (σ1 : ST), σ1 = q_si σ a 3 v → q_I X n σ0 H0 locs1 σ1 H1 → W p l e R s m args below meth c H1 locs1 cells slots Q (F0 m (pc + 3) ls rest)) : W p l e R s m args below meth c H locs cells slots Q (F0 m pc ls (.int v :: .ref a :: rest)) :=
  q_puti (ref := "CheatHeap$Reader") E hI ha ⟨rfl, by decide⟩ (show vwCl[8]? = some (RX9, TX9, 12) from rfl) q_inX9 tyX9_ok nmX9 (f := 3) (by decide) (q_in_t2 (i := 79) (by first | rfl | decide +kernel) rfl) (Or.inl rfl) rfl rfl hcl hdg (q_inB rfl h1 h2) (Or.inl rfl) (fun H1 l1 h => kk H1 l1 _ rfl h)
theorem psr_X3_22 (E : q_E p c cc s m args RX3 X) (hI : q_I X n σ0 H0 locs σ H) (ha : q_kd X a = 4 ∨ q_kd X a = 9) {v : Int32} (hcl : n < 9) (h1 : 0 ≤ v.toInt) (h2 : v.toInt ≤ 2147483647) (hdg : decode cc pc = .ok (.putfield 22, 3)) (kk : ∀ (H1 : Heap) (locs1 : List Loc) (σ1 : ST), σ1 = q_si σ a 3 v → q_I X n σ0 H0 locs1 σ1 H1 → W p l e R s m args below meth c H1 locs1 cells slots Q (F0 m (pc + 3) ls rest)) : W p l e R s m args below meth c H locs cells slots Q (F0 m pc ls (.int v :: .ref a :: rest)) := by
  rcases ha with ha | ha
  · exact ps_X3_22_4 E hI ha hcl h1 h2 hdg kk
  · exact ps_X3_22_9 E hI ha hcl h1 h2 hdg kk
theorem kr_X3_49 : q_okU2 RX3 49 RX4 "CheatHeap$Reader" ⟨"CheatHeap$Reader", "signAt", "(I)I"⟩ yX3_signAt cX3_signAt 3 (some .int) 1 ∧ q_okU2 RX3 49 RX9 "CheatHeap$Reader" ⟨"CheatHeap$Reader", "signAt", "(I)I"⟩ yX3_signAt cX3_signAt 3 (some .int) 1 := ⟨⟨(q_in_t3 (i := 153) (by first | rfl | decide +kernel) rfl), (q_in_t3 (i := 155) (by first | rfl | decide +kernel) rfl), (q_in_t3 (i := 156) (by first | rfl | decide +kernel) rfl), (q_in_t3 (i := 154) (by first | rfl | decide +kernel) rfl), (q_in_t1 (i := 9) (by first | rfl | decide +kernel) rfl), (q_in_t3 (i := 158) (by first | rfl | decide +kernel) rfl), ⟨by decide, by decide, rfl⟩, rfl⟩, ⟨(q_in_t3 (i := 153) (by first | rfl | decide +kernel) rfl), (q_in_t3 (i := 155) (by first | rfl | decide +kernel) rfl), (q_in_t3 (i := 157) (by first | rfl | decide +kernel) rfl), (q_in_t3 (i := 154) (by first | rfl | decide +kernel) rfl), (q_in_t1 (i := 9) (by first | rfl | decide +kernel) rfl), (q_in_t3 (i := 158) (by first | rfl | decide +kernel) rfl), ⟨by decide, by decide, rfl⟩, rfl⟩⟩
theorem ps_X3_25_4 (E : q_E p c cc s m args RX3 X) (hI : q_I X n σ0 H0 locs σ H) (ha : q_kd X a = 4) {v : Int32} (hcl : n < 9) (hdg : decode cc pc = .ok (.putfield 25, 3)) (kk : ∀ (H1 : Heap) (locs1 : List Loc) (σ1 : ST), σ1 = q_si σ a 4 v → q_I X n σ0 H0 locs1 σ1 H1 → W p l e R s m args below meth c H1 locs1 cells slots Q (F0 m (pc + 3) ls rest)) : W p l e R s m args below meth c H locs cells slots Q (F0 m pc ls (.int v :: .ref a :: rest)) :=
  q_puti (ref := "CheatHeap$Reader") E hI ha ⟨rfl, by decide⟩ (show vwCl[3]? = some (RX4, TX4, 11) from rfl) q_inX4 tyX4_ok nmX4 (f := 4) (by decide) (q_in_t2 (i := 80) (by first | rfl | decide +kernel) rfl) (Or.inl rfl) rfl rfl hcl hdg (q_inU rfl) (Or.inl rfl) (fun H1 l1 h => kk H1 l1 _ rfl h)
theorem ps_X3_25_9 (E : q_E p c cc s m args RX3 X) (hI : q_I X n σ0 H0 locs σ H) (ha : q_kd X a = 9) {v : Int32} (hcl : n < 9) (hdg : decode cc pc = .ok (.putfield 25, 3)) (kk : ∀ (H1 : Heap) (locs1 : List Loc) (σ1 : ST), σ1 = q_si σ a 4 v → q_I X n σ0 H0 locs1 σ1 H1 → W p l e R s m args below meth c H1 locs1 cells slots Q (F0 m (pc + 3) ls rest)) : W p l e R s m args below meth c H locs cells slots Q (F0 m pc ls (.int v :: .ref a :: rest)) :=
  q_puti (ref := "CheatHeap$Reader") E hI ha ⟨rfl, by decide⟩ (show vwCl[8]? = some (RX9, TX9, 12) from rfl) q_inX9 tyX9_ok nmX9 (f := 4) (by decide) (q_in_t2 (i := 80) (by first | rfl | decide +kernel) rfl) (Or.inl rfl) rfl rfl hcl hdg (q_inU rfl) (Or.inl rfl) (fun H1 l1 h => kk H1 l1 _ rfl h)
theorem psr_X3_25 (E : q_E p c cc s m args RX3 X) (hI : q_I X n σ0 H0 locs σ H) (ha : q_kd X a = 4 ∨ q_kd X a = 9) {v : Int32} (hcl : n < 9) (hdg : decode cc pc = .ok (.putfield 25, 3)) (kk : ∀ (H1 : Heap) (locs1 : List Loc) (σ1 : ST), σ1 = q_si σ a 4 v → q_I X n σ0 H0 locs1 σ1 H1 → W p l e R s m args below meth c H1 locs1 cells slots Q (F0 m (pc + 3) ls rest)) : W p l e R s m args below meth c H locs cells slots Q (F0 m pc ls (.int v :: .ref a :: rest)) := by
  rcases ha with ha | ha
  · exact ps_X3_25_4 E hI ha hcl hdg kk
  · exact ps_X3_25_9 E hI ha hcl hdg kk
theorem kr_X3_53 : q_okU2 RX3 53 RX4 "CheatHeap$Reader" ⟨"CheatHeap$Reader", "endOfRun", "(II)I"⟩ yX3_endOfRun cX3_endOfRun 4 (some .int) 2 ∧ q_okU2 RX3 53 RX9 "CheatHeap$Reader" ⟨"CheatHeap$Reader", "endOfRun", "(II)I"⟩ yX3_endOfRun cX3_endOfRun 4 (some .int) 2 := ⟨⟨(q_in_t3 (i := 159) (by first | rfl | decide +kernel) rfl), (q_in_t9 (i := 205) (by first | rfl | decide +kernel) rfl), (q_in_x (i := 0) rfl), (q_in_t3 (i := 161) (by first | rfl | decide +kernel) rfl), (q_in_t1 (i := 9) (by first | rfl | decide +kernel) rfl), (q_in_t3 (i := 162) (by first | rfl | decide +kernel) rfl), ⟨by decide, by decide, rfl⟩, rfl⟩, ⟨(q_in_t3 (i := 159) (by first | rfl | decide +kernel) rfl), (q_in_t9 (i := 205) (by first | rfl | decide +kernel) rfl), (q_in_x (i := 1) rfl), (q_in_t3 (i := 161) (by first | rfl | decide +kernel) rfl), (q_in_t1 (i := 9) (by first | rfl | decide +kernel) rfl), (q_in_t3 (i := 162) (by first | rfl | decide +kernel) rfl), ⟨by decide, by decide, rfl⟩, rfl⟩⟩
theorem kr_X3_56 : q_okU2 RX3 56 RX4 "CheatHeap$Reader" ⟨"CheatHeap$Reader", "size", "()I"⟩ yX3_size cX3_size 1 (some .int) 0 ∧ q_okU2 RX3 56 RX9 "CheatHeap$Reader" ⟨"CheatHeap$Reader", "size", "()I"⟩ yX3_size cX3_size 1 (some .int) 0 := ⟨⟨(q_in_t3 (i := 163) (by first | rfl | decide +kernel) rfl), (q_in_t3 (i := 165) (by first | rfl | decide +kernel) rfl), (q_in_t3 (i := 166) (by first | rfl | decide +kernel) rfl), (q_in_t3 (i := 164) (by first | rfl | decide +kernel) rfl), (q_in_t1 (i := 9) (by first | rfl | decide +kernel) rfl), (q_in_t3 (i := 168) (by first | rfl | decide +kernel) rfl), ⟨by decide, by decide, rfl⟩, rfl⟩, ⟨(q_in_t3 (i := 163) (by first | rfl | decide +kernel) rfl), (q_in_t3 (i := 165) (by first | rfl | decide +kernel) rfl), (q_in_t3 (i := 167) (by first | rfl | decide +kernel) rfl), (q_in_t3 (i := 164) (by first | rfl | decide +kernel) rfl), (q_in_t1 (i := 9) (by first | rfl | decide +kernel) rfl), (q_in_t3 (i := 168) (by first | rfl | decide +kernel) rfl), ⟨by decide, by decide, rfl⟩, rfl⟩⟩
theorem ps_X3_28_4 (E : q_E p c cc s m args RX3 X) (hI : q_I X n σ0 H0 locs σ H) (ha : q_kd X a = 4) {v : Int32} (hcl : n < 9) (hdg : decode cc pc = .ok (.putfield 28, 3)) (kk : ∀ (H1 : Heap) (locs1 : List Loc) (σ1 : ST), σ1 = q_si σ a 5 v → q_I X n σ0 H0 locs1 σ1 H1 → W p l e R s m args below meth c H1 locs1 cells slots Q (F0 m (pc + 3) ls rest)) : W p l e R s m args below meth c H locs cells slots Q (F0 m pc ls (.int v :: .ref a :: rest)) :=
  q_puti (ref := "CheatHeap$Reader") E hI ha ⟨rfl, by decide⟩ (show vwCl[3]? = some (RX4, TX4, 11) from rfl) q_inX4 tyX4_ok nmX4 (f := 5) (by decide) (q_in_t2 (i := 85) (by first | rfl | decide +kernel) rfl) (Or.inl rfl) rfl rfl hcl hdg (q_inU rfl) (Or.inl rfl) (fun H1 l1 h => kk H1 l1 _ rfl h)
theorem ps_X3_28_9 (E : q_E p c cc s m args RX3 X) (hI : q_I X n σ0 H0 locs σ H) (ha : q_kd X a = 9) {v : Int32} (hcl : n < 9) (hdg : decode cc pc = .ok (.putfield 28, 3)) (kk : ∀ (H1 : Heap) (locs1 : List Loc) (σ1 : ST), σ1 = q_si σ a 5 v → q_I X n σ0 H0 locs1 σ1 H1 → W p l e R s m args below meth c H1 locs1 cells slots Q (F0 m (pc + 3) ls rest)) : W p l e R s m args below meth c H locs cells slots Q (F0 m pc ls (.int v :: .ref a :: rest)) :=
  q_puti (ref := "CheatHeap$Reader") E hI ha ⟨rfl, by decide⟩ (show vwCl[8]? = some (RX9, TX9, 12) from rfl) q_inX9 tyX9_ok nmX9 (f := 5) (by decide) (q_in_t2 (i := 85) (by first | rfl | decide +kernel) rfl) (Or.inl rfl) rfl rfl hcl hdg (q_inU rfl) (Or.inl rfl) (fun H1 l1 h => kk H1 l1 _ rfl h)
theorem psr_X3_28 (E : q_E p c cc s m args RX3 X) (hI : q_I X n σ0 H0 locs σ H) (ha : q_kd X a = 4 ∨ q_kd X a = 9) {v : Int32} (hcl : n < 9) (hdg : decode cc pc = .ok (.putfield 28, 3)) (kk : ∀ (H1 : Heap) (locs1 : List Loc) (σ1 : ST), σ1 = q_si σ a 5 v → q_I X n σ0 H0 locs1 σ1 H1 → W p l e R s m args below meth c H1 locs1 cells slots Q (F0 m (pc + 3) ls rest)) : W p l e R s m args below meth c H locs cells slots Q (F0 m pc ls (.int v :: .ref a :: rest)) := by
  rcases ha with ha | ha
  · exact ps_X3_28_4 E hI ha hcl hdg kk
  · exact ps_X3_28_9 E hI ha hcl hdg kk
theorem gs_X3_28_4 (E : q_E p c cc s m args RX3 X) (hI : q_I X n σ0 H0 locs σ H) (ha : q_kd X a = 4) (hdg : decode cc pc = .ok (.getfield 28, 3)) (kk : W p l e R s m args below meth c H locs cells slots Q (F0 m (pc + 3) ls (.int (σ.1 a 5) :: rest))) : W p l e R s m args below meth c H locs cells slots Q (F0 m pc ls (.ref a :: rest)) :=
  q_getf (ref := "CheatHeap$Reader") E hI ha ⟨rfl, by decide⟩ (show vwCl[3]? = some (RX4, TX4, 11) from rfl) q_inX4 (f := 5) (by decide) (q_in_t2 (i := 85) (by first | rfl | decide +kernel) rfl) (Or.inl rfl) rfl hdg kk
theorem gs_X3_28_9 (E : q_E p c cc s m args RX3 X) (hI : q_I X n σ0 H0 locs σ H) (ha : q_kd X a = 9) (hdg : decode cc pc = .ok (.getfield 28, 3)) (kk : W p l e R s m args below meth c H locs cells slots Q (F0 m (pc + 3) ls (.int (σ.1 a 5) :: rest))) : W p l e R s m args below meth c H locs cells slots Q (F0 m pc ls (.ref a :: rest)) :=
  q_getf (ref := "CheatHeap$Reader") E hI ha ⟨rfl, by decide⟩ (show vwCl[8]? = some (RX9, TX9, 12) from rfl) q_inX9 (f := 5) (by decide) (q_in_t2 (i := 85) (by first | rfl | decide +kernel) rfl) (Or.inl rfl) rfl hdg kk
theorem gsr_X3_28 (E : q_E p c cc s m args RX3 X) (hI : q_I X n σ0 H0 locs σ H) (ha : q_kd X a = 4 ∨ q_kd X a = 9) (hdg : decode cc pc = .ok (.getfield 28, 3)) (kk : W p l e R s m args below meth c H locs cells slots Q (F0 m (pc + 3) ls (.int (σ.1 a 5) :: rest))) : W p l e R s m args below meth c H locs cells slots Q (F0 m pc ls (.ref a :: rest)) := by
  rcases ha with ha | ha
  · exact gs_X3_28_4 E hI ha hdg kk
  · exact gs_X3_28_9 E hI ha hdg kk
theorem ps_X3_9_4 (E : q_E p c cc s m args RX3 X) (hI : q_I X n σ0 H0 locs σ H) (ha : q_kd X a = 4) {v : Nat} (hv : q_kd X v = 22) (hdg : decode cc pc = .ok (.putfield 9, 3)) (kk : ∀ (H1 : Heap) (locs1 : List Loc) (σ1 : ST), σ1 = q_st σ a v → q_I X n σ0 H0 locs1 σ1 H1 → W p l e R s m args below meth c H1 locs1 cells slots Q (F0 m (pc + 3) ls rest)) : W p l e R s m args below meth c H locs cells slots Q (F0 m pc ls (.ref v :: .ref a :: rest)) :=
  q_putt E hI ha ⟨rfl, by decide⟩ (by decide) (show vwCl[3]? = some (RX4, TX4, 11) from rfl) q_inX4 tyX4_ok nmX4 (by decide) (q_in_t2 (i := 76) (by first | rfl | decide +kernel) rfl) (Or.inl rfl) rfl rfl hv hdg (fun H1 l1 h => kk H1 l1 _ rfl h)
theorem ps_X3_9_9 (E : q_E p c cc s m args RX3 X) (hI : q_I X n σ0 H0 locs σ H) (ha : q_kd X a = 9) {v : Nat} (hv : q_kd X v = 22) (hdg : decode cc pc = .ok (.putfield 9, 3)) (kk : ∀ (H1 : Heap) (locs1 : List Loc) (σ1 : ST), σ1 = q_st σ a v → q_I X n σ0 H0 locs1 σ1 H1 → W p l e R s m args below meth c H1 locs1 cells slots Q (F0 m (pc + 3) ls rest)) : W p l e R s m args below meth c H locs cells slots Q (F0 m pc ls (.ref v :: .ref a :: rest)) :=
  q_putt E hI ha ⟨rfl, by decide⟩ (by decide) (show vwCl[8]? = some (RX9, TX9, 12) from rfl) q_inX9 tyX9_ok nmX9 (by decide) (q_in_t2 (i := 76) (by first | rfl | decide +kernel) rfl) (Or.inl rfl) rfl rfl hv hdg (fun H1 l1 h => kk H1 l1 _ rfl h)
theorem psr_X3_9 (E : q_E p c cc s m args RX3 X) (hI : q_I X n σ0 H0 locs σ H) (ha : q_kd X a = 4 ∨ q_kd X a = 9) {v : Nat} (hv : q_kd X v = 22) (hdg : decode cc pc = .ok (.putfield 9, 3)) (kk : ∀ (H1 : Heap) (locs1 : List Loc) (σ1 : ST), σ1 = q_st σ a v → q_I X n σ0 H0 locs1 σ1 H1 → W p l e R s m args below meth c H1 locs1 cells slots Q (F0 m (pc + 3) ls rest)) : W p l e R s m args below meth c H locs cells slots Q (F0 m pc ls (.ref v :: .ref a :: rest)) := by
  rcases ha with ha | ha
  · exact ps_X3_9_4 E hI ha hv hdg kk
  · exact ps_X3_9_9 E hI ha hv hdg kk
theorem ks_X3_37 : q_okS RX3 37 yJ9_min_7cf53 cJ9_min_7cf53 2 (some .int) 2 := ⟨(q_in_t3 (i := 145) (by first | rfl | decide +kernel) rfl), (q_in_t3 (i := 43) (by first | rfl | decide +kernel) rfl), (q_in_t1 (i := 5) (by first | rfl | decide +kernel) rfl), (q_in_t3 (i := 44) (by first | rfl | decide +kernel) rfl), ⟨by decide, by decide, rfl⟩⟩
theorem ks_X3_43 : q_okS RX3 43 yJ9_max_7cf53 cJ9_max_7cf53 2 (some .int) 2 := ⟨(q_in_t3 (i := 146) (by first | rfl | decide +kernel) rfl), (q_in_t1 (i := 49) (by first | rfl | decide +kernel) rfl), (q_in_t1 (i := 5) (by first | rfl | decide +kernel) rfl), (q_in_t1 (i := 50) (by first | rfl | decide +kernel) rfl), ⟨by decide, by decide, rfl⟩⟩
theorem ps_X3_15_4 (E : q_E p c cc s m args RX3 X) (hI : q_I X n σ0 H0 locs σ H) (ha : q_kd X a = 4) {v : Int32} (hcl : n < 9) (hdg : decode cc pc = .ok (.putfield 15, 3)) (kk : ∀ (H1 : Heap) (locs1 : List Loc) (σ1 : ST), σ1 = q_si σ a 1 v → q_I X n σ0 H0 locs1 σ1 H1 → W p l e R s m args below meth c H1 locs1 cells slots Q (F0 m (pc + 3) ls rest)) : W p l e R s m args below meth c H locs cells slots Q (F0 m pc ls (.int v :: .ref a :: rest)) :=
  q_puti (ref := "CheatHeap$Reader") E hI ha ⟨rfl, by decide⟩ (show vwCl[3]? = some (RX4, TX4, 11) from rfl) q_inX4 tyX4_ok nmX4 (f := 1) (by decide) (q_in_t2 (i := 77) (by first | rfl | decide +kernel) rfl) (Or.inl rfl) rfl rfl hcl hdg (q_inU rfl) (Or.inl rfl) (fun H1 l1 h => kk H1 l1 _ rfl h)
theorem ps_X3_15_9 (E : q_E p c cc s m args RX3 X) (hI : q_I X n σ0 H0 locs σ H) (ha : q_kd X a = 9) {v : Int32} (hcl : n < 9) (hdg : decode cc pc = .ok (.putfield 15, 3)) (kk : ∀ (H1 : Heap) (locs1 : List Loc) (σ1 : ST), σ1 = q_si σ a 1 v → q_I X n σ0 H0 locs1 σ1 H1 → W p l e R s m args below meth c H1 locs1 cells slots Q (F0 m (pc + 3) ls rest)) : W p l e R s m args below meth c H locs cells slots Q (F0 m pc ls (.int v :: .ref a :: rest)) :=
  q_puti (ref := "CheatHeap$Reader") E hI ha ⟨rfl, by decide⟩ (show vwCl[8]? = some (RX9, TX9, 12) from rfl) q_inX9 tyX9_ok nmX9 (f := 1) (by decide) (q_in_t2 (i := 77) (by first | rfl | decide +kernel) rfl) (Or.inl rfl) rfl rfl hcl hdg (q_inU rfl) (Or.inl rfl) (fun H1 l1 h => kk H1 l1 _ rfl h)
theorem psr_X3_15 (E : q_E p c cc s m args RX3 X) (hI : q_I X n σ0 H0 locs σ H) (ha : q_kd X a = 4 ∨ q_kd X a = 9) {v : Int32} (hcl : n < 9) (hdg : decode cc pc = .ok (.putfield 15, 3)) (kk : ∀ (H1 : Heap) (locs1 : List Loc) (σ1 : ST), σ1 = q_si σ a 1 v → q_I X n σ0 H0 locs1 σ1 H1 → W p l e R s m args below meth c H1 locs1 cells slots Q (F0 m (pc + 3) ls rest)) : W p l e R s m args below meth c H locs cells slots Q (F0 m pc ls (.int v :: .ref a :: rest)) := by
  rcases ha with ha | ha
  · exact ps_X3_15_4 E hI ha hcl hdg kk
  · exact ps_X3_15_9 E hI ha hcl hdg kk
theorem ps_X3_31_4 (E : q_E p c cc s m args RX3 X) (hI : q_I X n σ0 H0 locs σ H) (ha : q_kd X a = 4) {v : Int32} (hcl : n < 9) (hdg : decode cc pc = .ok (.putfield 31, 3)) (kk : ∀ (H1 : Heap) (locs1 : List Loc) (σ1 : ST), σ1 = q_si σ a 6 v → q_I X n σ0 H0 locs1 σ1 H1 → W p l e R s m args below meth c H1 locs1 cells slots Q (F0 m (pc + 3) ls rest)) : W p l e R s m args below meth c H locs cells slots Q (F0 m pc ls (.int v :: .ref a :: rest)) :=
  q_puti (ref := "CheatHeap$Reader") E hI ha ⟨rfl, by decide⟩ (show vwCl[3]? = some (RX4, TX4, 11) from rfl) q_inX4 tyX4_ok nmX4 (f := 6) (by decide) (q_in_t2 (i := 88) (by first | rfl | decide +kernel) rfl) (Or.inl rfl) rfl rfl hcl hdg (q_inU rfl) (Or.inl rfl) (fun H1 l1 h => kk H1 l1 _ rfl h)
theorem ps_X3_31_9 (E : q_E p c cc s m args RX3 X) (hI : q_I X n σ0 H0 locs σ H) (ha : q_kd X a = 9) {v : Int32} (hcl : n < 9) (hdg : decode cc pc = .ok (.putfield 31, 3)) (kk : ∀ (H1 : Heap) (locs1 : List Loc) (σ1 : ST), σ1 = q_si σ a 6 v → q_I X n σ0 H0 locs1 σ1 H1 → W p l e R s m args below meth c H1 locs1 cells slots Q (F0 m (pc + 3) ls rest)) : W p l e R s m args below meth c H locs cells slots Q (F0 m pc ls (.int v :: .ref a :: rest)) :=
  q_puti (ref := "CheatHeap$Reader") E hI ha ⟨rfl, by decide⟩ (show vwCl[8]? = some (RX9, TX9, 12) from rfl) q_inX9 tyX9_ok nmX9 (f := 6) (by decide) (q_in_t2 (i := 88) (by first | rfl | decide +kernel) rfl) (Or.inl rfl) rfl rfl hcl hdg (q_inU rfl) (Or.inl rfl) (fun H1 l1 h => kk H1 l1 _ rfl h)
theorem psr_X3_31 (E : q_E p c cc s m args RX3 X) (hI : q_I X n σ0 H0 locs σ H) (ha : q_kd X a = 4 ∨ q_kd X a = 9) {v : Int32} (hcl : n < 9) (hdg : decode cc pc = .ok (.putfield 31, 3)) (kk : ∀ (H1 : Heap) (locs1 : List Loc) (σ1 : ST), σ1 = q_si σ a 6 v → q_I X n σ0 H0 locs1 σ1 H1 → W p l e R s m args below meth c H1 locs1 cells slots Q (F0 m (pc + 3) ls rest)) : W p l e R s m args below meth c H locs cells slots Q (F0 m pc ls (.int v :: .ref a :: rest)) := by
  rcases ha with ha | ha
  · exact ps_X3_31_4 E hI ha hcl hdg kk
  · exact ps_X3_31_9 E hI ha hcl hdg kk
theorem ps_X3_34_4 (E : q_E p c cc s m args RX3 X) (hI : q_I X n σ0 H0 locs σ H) (ha : q_kd X a = 4) {v : Int32} (hcl : n < 9) (hdg : decode cc pc = .ok (.putfield 34, 3)) (kk : ∀ (H1 : Heap) (locs1 : List Loc) (σ1 : ST), σ1 = q_si σ a 7 v → q_I X n σ0 H0 locs1 σ1 H1 → W p l e R s m args below meth c H1 locs1 cells slots Q (F0 m (pc + 3) ls rest)) : W p l e R s m args below meth c H locs cells slots Q (F0 m pc ls (.int v :: .ref a :: rest)) :=
  q_puti (ref := "CheatHeap$Reader") E hI ha ⟨rfl, by decide⟩ (show vwCl[3]? = some (RX4, TX4, 11) from rfl) q_inX4 tyX4_ok nmX4 (f := 7) (by decide) (q_in_t2 (i := 90) (by first | rfl | decide +kernel) rfl) (Or.inl rfl) rfl rfl hcl hdg (q_inU rfl) (Or.inl rfl) (fun H1 l1 h => kk H1 l1 _ rfl h)
theorem ps_X3_34_9 (E : q_E p c cc s m args RX3 X) (hI : q_I X n σ0 H0 locs σ H) (ha : q_kd X a = 9) {v : Int32} (hcl : n < 9) (hdg : decode cc pc = .ok (.putfield 34, 3)) (kk : ∀ (H1 : Heap) (locs1 : List Loc) (σ1 : ST), σ1 = q_si σ a 7 v → q_I X n σ0 H0 locs1 σ1 H1 → W p l e R s m args below meth c H1 locs1 cells slots Q (F0 m (pc + 3) ls rest)) : W p l e R s m args below meth c H locs cells slots Q (F0 m pc ls (.int v :: .ref a :: rest)) :=
  q_puti (ref := "CheatHeap$Reader") E hI ha ⟨rfl, by decide⟩ (show vwCl[8]? = some (RX9, TX9, 12) from rfl) q_inX9 tyX9_ok nmX9 (f := 7) (by decide) (q_in_t2 (i := 90) (by first | rfl | decide +kernel) rfl) (Or.inl rfl) rfl rfl hcl hdg (q_inU rfl) (Or.inl rfl) (fun H1 l1 h => kk H1 l1 _ rfl h)
theorem psr_X3_34 (E : q_E p c cc s m args RX3 X) (hI : q_I X n σ0 H0 locs σ H) (ha : q_kd X a = 4 ∨ q_kd X a = 9) {v : Int32} (hcl : n < 9) (hdg : decode cc pc = .ok (.putfield 34, 3)) (kk : ∀ (H1 : Heap) (locs1 : List Loc) (σ1 : ST), σ1 = q_si σ a 7 v → q_I X n σ0 H0 locs1 σ1 H1 → W p l e R s m args below meth c H1 locs1 cells slots Q (F0 m (pc + 3) ls rest)) : W p l e R s m args below meth c H locs cells slots Q (F0 m pc ls (.int v :: .ref a :: rest)) := by
  rcases ha with ha | ha
  · exact ps_X3_34_4 E hI ha hcl hdg kk
  · exact ps_X3_34_9 E hI ha hcl hdg kk
theorem kr_X3_46 : q_okU2 RX3 46 RX4 "CheatHeap$Reader" ⟨"CheatHeap$Reader", "advance", "()V"⟩ yX3_advance cX3_advance 3 none 0 ∧ q_okU2 RX3 46 RX9 "CheatHeap$Reader" ⟨"CheatHeap$Reader", "advance", "()V"⟩ yX3_advance cX3_advance 3 none 0 := ⟨⟨(q_in_t3 (i := 147) (by first | rfl | decide +kernel) rfl), (q_in_t3 (i := 149) (by first | rfl | decide +kernel) rfl), (q_in_t3 (i := 150) (by first | rfl | decide +kernel) rfl), (q_in_t3 (i := 148) (by first | rfl | decide +kernel) rfl), (q_in_t1 (i := 9) (by first | rfl | decide +kernel) rfl), (q_in_t3 (i := 152) (by first | rfl | decide +kernel) rfl), ⟨by decide, by decide, rfl⟩, rfl⟩, ⟨(q_in_t3 (i := 147) (by first | rfl | decide +kernel) rfl), (q_in_t3 (i := 149) (by first | rfl | decide +kernel) rfl), (q_in_t3 (i := 151) (by first | rfl | decide +kernel) rfl), (q_in_t3 (i := 148) (by first | rfl | decide +kernel) rfl), (q_in_t1 (i := 9) (by first | rfl | decide +kernel) rfl), (q_in_t3 (i := 152) (by first | rfl | decide +kernel) rfl), ⟨by decide, by decide, rfl⟩, rfl⟩⟩
theorem gs_X3_25_4 (E : q_E p c cc s m args RX3 X) (hI : q_I X n σ0 H0 locs σ H) (ha : q_kd X a = 4) (hdg : decode cc pc = .ok (.getfield 25, 3)) (kk : W p l e R s m args below meth c H locs cells slots Q (F0 m (pc + 3) ls (.int (σ.1 a 4) :: rest))) : W p l e R s m args below meth c H locs cells slots Q (F0 m pc ls (.ref a :: rest)) :=
  q_getf (ref := "CheatHeap$Reader") E hI ha ⟨rfl, by decide⟩ (show vwCl[3]? = some (RX4, TX4, 11) from rfl) q_inX4 (f := 4) (by decide) (q_in_t2 (i := 80) (by first | rfl | decide +kernel) rfl) (Or.inl rfl) rfl hdg kk
theorem gs_X3_25_9 (E : q_E p c cc s m args RX3 X) (hI : q_I X n σ0 H0 locs σ H) (ha : q_kd X a = 9) (hdg : decode cc pc = .ok (.getfield 25, 3)) (kk : W p l e R s m args below meth c H locs cells slots Q (F0 m (pc + 3) ls (.int (σ.1 a 4) :: rest))) : W p l e R s m args below meth c H locs cells slots Q (F0 m pc ls (.ref a :: rest)) :=
  q_getf (ref := "CheatHeap$Reader") E hI ha ⟨rfl, by decide⟩ (show vwCl[8]? = some (RX9, TX9, 12) from rfl) q_inX9 (f := 4) (by decide) (q_in_t2 (i := 80) (by first | rfl | decide +kernel) rfl) (Or.inl rfl) rfl hdg kk
theorem gsr_X3_25 (E : q_E p c cc s m args RX3 X) (hI : q_I X n σ0 H0 locs σ H) (ha : q_kd X a = 4 ∨ q_kd X a = 9) (hdg : decode cc pc = .ok (.getfield 25, 3)) (kk : W p l e R s m args below meth c H locs cells slots Q (F0 m (pc + 3) ls (.int (σ.1 a 4) :: rest))) : W p l e R s m args below meth c H locs cells slots Q (F0 m pc ls (.ref a :: rest)) := by
  rcases ha with ha | ha
  · exact gs_X3_25_4 E hI ha hdg kk
  · exact gs_X3_25_9 E hI ha hdg kk
theorem kt_X3_60 : q_okV RX3 60 "java/lang/String" yJ0_length_8abf5 cJ0_length_8abf5 1 (some .int) 0 := ⟨(q_in_t3 (i := 186) (by first | rfl | decide +kernel) rfl), (q_in_t3 (i := 187) (by first | rfl | decide +kernel) rfl), (q_in_t3 (i := 188) (by first | rfl | decide +kernel) rfl), (q_in_t1 (i := 16) (by first | rfl | decide +kernel) rfl), (q_in_t3 (i := 189) (by first | rfl | decide +kernel) rfl), ⟨rfl, by decide, by decide, rfl⟩⟩
theorem kt_X3_64 : q_okV RX3 64 "java/lang/String" yJ0_charAt_5068e cJ0_charAt_5068e 2 (some .char) 1 := ⟨(q_in_t3 (i := 196) (by first | rfl | decide +kernel) rfl), (q_in_t3 (i := 197) (by first | rfl | decide +kernel) rfl), (q_in_t3 (i := 198) (by first | rfl | decide +kernel) rfl), (q_in_t1 (i := 16) (by first | rfl | decide +kernel) rfl), (q_in_t3 (i := 199) (by first | rfl | decide +kernel) rfl), ⟨rfl, by decide, by decide, rfl⟩⟩
theorem kr_X3_91 : q_okU2 RX3 91 RX4 "CheatHeap$Reader" ⟨"CheatHeap$Reader", "isWord", "(Ljava/lang/String;)Z"⟩ yX3_isWord cX3_isWord 3 (some .boolean) 1 ∧ q_okU2 RX3 91 RX9 "CheatHeap$Reader" ⟨"CheatHeap$Reader", "isWord", "(Ljava/lang/String;)Z"⟩ yX3_isWord cX3_isWord 3 (some .boolean) 1 := ⟨⟨(q_in_t3 (i := 180) (by first | rfl | decide +kernel) rfl), (q_in_t3 (i := 182) (by first | rfl | decide +kernel) rfl), (q_in_t3 (i := 183) (by first | rfl | decide +kernel) rfl), (q_in_t3 (i := 181) (by first | rfl | decide +kernel) rfl), (q_in_t1 (i := 9) (by first | rfl | decide +kernel) rfl), (q_in_t3 (i := 185) (by first | rfl | decide +kernel) rfl), ⟨by decide, by decide, rfl⟩, rfl⟩, ⟨(q_in_t3 (i := 180) (by first | rfl | decide +kernel) rfl), (q_in_t3 (i := 182) (by first | rfl | decide +kernel) rfl), (q_in_t3 (i := 184) (by first | rfl | decide +kernel) rfl), (q_in_t3 (i := 181) (by first | rfl | decide +kernel) rfl), (q_in_t1 (i := 9) (by first | rfl | decide +kernel) rfl), (q_in_t3 (i := 185) (by first | rfl | decide +kernel) rfl), ⟨by decide, by decide, rfl⟩, rfl⟩⟩
theorem kr_X3_74 : q_okU2 RX3 74 RX4 "CheatHeap$Reader" ⟨"CheatHeap$Reader", "fails", "(I)Z"⟩ yX3_fails cX3_fails 2 (some .boolean) 1 ∧ q_okU2 RX3 74 RX9 "CheatHeap$Reader" ⟨"CheatHeap$Reader", "fails", "(I)Z"⟩ yX3_fails cX3_fails 2 (some .boolean) 1 := ⟨⟨(q_in_t3 (i := 234) (by first | rfl | decide +kernel) rfl), (q_in_t3 (i := 236) (by first | rfl | decide +kernel) rfl), (q_in_t3 (i := 237) (by first | rfl | decide +kernel) rfl), (q_in_t3 (i := 235) (by first | rfl | decide +kernel) rfl), (q_in_t1 (i := 9) (by first | rfl | decide +kernel) rfl), (q_in_t3 (i := 239) (by first | rfl | decide +kernel) rfl), ⟨by decide, by decide, rfl⟩, rfl⟩, ⟨(q_in_t3 (i := 234) (by first | rfl | decide +kernel) rfl), (q_in_t3 (i := 236) (by first | rfl | decide +kernel) rfl), (q_in_t3 (i := 238) (by first | rfl | decide +kernel) rfl), (q_in_t3 (i := 235) (by first | rfl | decide +kernel) rfl), (q_in_t1 (i := 9) (by first | rfl | decide +kernel) rfl), (q_in_t3 (i := 239) (by first | rfl | decide +kernel) rfl), ⟨by decide, by decide, rfl⟩, rfl⟩⟩
theorem kr_X3_87 : q_okU2 RX3 87 RX4 "CheatHeap$Reader" ⟨"CheatHeap$Reader", "mustBeNumber", "(II)Z"⟩ yX3_mustBeNumber cX3_mustBeNumber 3 (some .boolean) 2 ∧ q_okU2 RX3 87 RX9 "CheatHeap$Reader" ⟨"CheatHeap$Reader", "mustBeNumber", "(II)Z"⟩ yX3_mustBeNumber cX3_mustBeNumber 3 (some .boolean) 2 := ⟨⟨(q_in_t4 (i := 6) (by first | rfl | decide +kernel) rfl), (q_in_t4 (i := 8) (by first | rfl | decide +kernel) rfl), (q_in_t4 (i := 9) (by first | rfl | decide +kernel) rfl), (q_in_t4 (i := 7) (by first | rfl | decide +kernel) rfl), (q_in_t1 (i := 9) (by first | rfl | decide +kernel) rfl), (q_in_t4 (i := 11) (by first | rfl | decide +kernel) rfl), ⟨by decide, by decide, rfl⟩, rfl⟩, ⟨(q_in_t4 (i := 6) (by first | rfl | decide +kernel) rfl), (q_in_t4 (i := 8) (by first | rfl | decide +kernel) rfl), (q_in_t4 (i := 10) (by first | rfl | decide +kernel) rfl), (q_in_t4 (i := 7) (by first | rfl | decide +kernel) rfl), (q_in_t1 (i := 9) (by first | rfl | decide +kernel) rfl), (q_in_t4 (i := 11) (by first | rfl | decide +kernel) rfl), ⟨by decide, by decide, rfl⟩, rfl⟩⟩
theorem kz_X3_68 (E : q_E p c cc s m args RX3 X) : vk_R RX3 68 "kinds each law most player lies doubts hand of up down same turn when cards heap won shown loop end stop " (q_sk X 8) s := E.2.2.2.2.1.2.2 (RX3, 68, "kinds each law most player lies doubts hand of up down same turn when cards heap won shown loop end stop ", 8) (List.mem_of_getElem? (i := 8) (by decide +kernel))
theorem kr_X3_70 : q_okU2 RX3 70 RX4 "CheatHeap$Reader" ⟨"CheatHeap$Reader", "isReserved", "()Z"⟩ yX3_isReserved cX3_isReserved 4 (some .boolean) 0 ∧ q_okU2 RX3 70 RX9 "CheatHeap$Reader" ⟨"CheatHeap$Reader", "isReserved", "()Z"⟩ yX3_isReserved cX3_isReserved 4 (some .boolean) 0 := ⟨⟨(q_in_t4 (i := 59) (by first | rfl | decide +kernel) rfl), (q_in_t9 (i := 206) (by first | rfl | decide +kernel) rfl), (q_in_x (i := 2) rfl), (q_in_t4 (i := 61) (by first | rfl | decide +kernel) rfl), (q_in_t1 (i := 9) (by first | rfl | decide +kernel) rfl), (q_in_t4 (i := 62) (by first | rfl | decide +kernel) rfl), ⟨by decide, by decide, rfl⟩, rfl⟩, ⟨(q_in_t4 (i := 59) (by first | rfl | decide +kernel) rfl), (q_in_t9 (i := 206) (by first | rfl | decide +kernel) rfl), (q_in_x (i := 3) rfl), (q_in_t4 (i := 61) (by first | rfl | decide +kernel) rfl), (q_in_t1 (i := 9) (by first | rfl | decide +kernel) rfl), (q_in_t4 (i := 62) (by first | rfl | decide +kernel) rfl), ⟨by decide, by decide, rfl⟩, rfl⟩⟩
theorem gs_X6_39_6 (E : q_E p c cc s m args RX6 X) (hI : q_I X n σ0 H0 locs σ H) (ha : q_kd X a = 6) (hdg : decode cc pc = .ok (.getfield 39, 3)) (kk : W p l e R s m args below meth c H locs cells slots Q (F0 m (pc + 3) ls (.ref (q_rf X a 7) :: rest))) : W p l e R s m args below meth c H locs cells slots Q (F0 m pc ls (.ref a :: rest)) :=
  q_getf (ref := "CheatHeap$Rules") E hI ha ⟨rfl, by decide⟩ (show vwCl[5]? = some (RX6, TX6, 8) from rfl) q_inX6 (f := 7) (by decide) (q_in_t1 (i := 83) (by first | rfl | decide +kernel) rfl) (Or.inl rfl) rfl hdg kk
theorem kv_X6_73 : q_okV RX6 73 RX5 yX5_get cX5_get 2 (some .int) 1 := ⟨(q_in_t4 (i := 72) (by first | rfl | decide +kernel) rfl), (q_in_t4 (i := 73) (by first | rfl | decide +kernel) rfl), (q_in_t4 (i := 74) (by first | rfl | decide +kernel) rfl), (q_in_t1 (i := 4) (by first | rfl | decide +kernel) rfl), (q_in_t4 (i := 75) (by first | rfl | decide +kernel) rfl), ⟨rfl, by decide, by decide, rfl⟩⟩
theorem kr_X6_55 : q_okU2 RX6 55 RX4 "CheatHeap$Reader" ⟨"CheatHeap$Reader", "size", "()I"⟩ yX3_size cX3_size 1 (some .int) 0 ∧ q_okU2 RX6 55 RX9 "CheatHeap$Reader" ⟨"CheatHeap$Reader", "size", "()I"⟩ yX3_size cX3_size 1 (some .int) 0 := ⟨⟨(q_in_t4 (i := 76) (by first | rfl | decide +kernel) rfl), (q_in_t3 (i := 165) (by first | rfl | decide +kernel) rfl), (q_in_t3 (i := 166) (by first | rfl | decide +kernel) rfl), (q_in_t3 (i := 164) (by first | rfl | decide +kernel) rfl), (q_in_t1 (i := 9) (by first | rfl | decide +kernel) rfl), (q_in_t3 (i := 168) (by first | rfl | decide +kernel) rfl), ⟨by decide, by decide, rfl⟩, rfl⟩, ⟨(q_in_t4 (i := 76) (by first | rfl | decide +kernel) rfl), (q_in_t3 (i := 165) (by first | rfl | decide +kernel) rfl), (q_in_t3 (i := 167) (by first | rfl | decide +kernel) rfl), (q_in_t3 (i := 164) (by first | rfl | decide +kernel) rfl), (q_in_t1 (i := 9) (by first | rfl | decide +kernel) rfl), (q_in_t3 (i := 168) (by first | rfl | decide +kernel) rfl), ⟨by decide, by decide, rfl⟩, rfl⟩⟩
theorem gs_X6_36_6 (E : q_E p c cc s m args RX6 X) (hI : q_I X n σ0 H0 locs σ H) (ha : q_kd X a = 6) (hdg : decode cc pc = .ok (.getfield 36, 3)) (kk : W p l e R s m args below meth c H locs cells slots Q (F0 m (pc + 3) ls (.ref (q_rf X a 6) :: rest))) : W p l e R s m args below meth c H locs cells slots Q (F0 m pc ls (.ref a :: rest)) :=
  q_getf (ref := "CheatHeap$Rules") E hI ha ⟨rfl, by decide⟩ (show vwCl[5]? = some (RX6, TX6, 8) from rfl) q_inX6 (f := 6) (by decide) (q_in_t1 (i := 82) (by first | rfl | decide +kernel) rfl) (Or.inl rfl) rfl hdg kk
theorem kr_X6_61 : q_okU2 RX6 61 RX4 "CheatHeap$Reader" ⟨"CheatHeap$Reader", "signAt", "(I)I"⟩ yX3_signAt cX3_signAt 3 (some .int) 1 ∧ q_okU2 RX6 61 RX9 "CheatHeap$Reader" ⟨"CheatHeap$Reader", "signAt", "(I)I"⟩ yX3_signAt cX3_signAt 3 (some .int) 1 := ⟨⟨(q_in_t4 (i := 77) (by first | rfl | decide +kernel) rfl), (q_in_t3 (i := 155) (by first | rfl | decide +kernel) rfl), (q_in_t3 (i := 156) (by first | rfl | decide +kernel) rfl), (q_in_t3 (i := 154) (by first | rfl | decide +kernel) rfl), (q_in_t1 (i := 9) (by first | rfl | decide +kernel) rfl), (q_in_t3 (i := 158) (by first | rfl | decide +kernel) rfl), ⟨by decide, by decide, rfl⟩, rfl⟩, ⟨(q_in_t4 (i := 77) (by first | rfl | decide +kernel) rfl), (q_in_t3 (i := 155) (by first | rfl | decide +kernel) rfl), (q_in_t3 (i := 157) (by first | rfl | decide +kernel) rfl), (q_in_t3 (i := 154) (by first | rfl | decide +kernel) rfl), (q_in_t1 (i := 9) (by first | rfl | decide +kernel) rfl), (q_in_t3 (i := 158) (by first | rfl | decide +kernel) rfl), ⟨by decide, by decide, rfl⟩, rfl⟩⟩
theorem gs_X6_24_6 (E : q_E p c cc s m args RX6 X) (hI : q_I X n σ0 H0 locs σ H) (ha : q_kd X a = 6) (hdg : decode cc pc = .ok (.getfield 24, 3)) (kk : W p l e R s m args below meth c H locs cells slots Q (F0 m (pc + 3) ls (.int (σ.1 a 4) :: rest))) : W p l e R s m args below meth c H locs cells slots Q (F0 m pc ls (.ref a :: rest)) :=
  q_getf (ref := "CheatHeap$Rules") E hI ha ⟨rfl, by decide⟩ (show vwCl[5]? = some (RX6, TX6, 8) from rfl) q_inX6 (f := 4) (by decide) (q_in_t1 (i := 73) (by first | rfl | decide +kernel) rfl) (Or.inl rfl) rfl hdg kk
theorem kv_X6_69 : q_okV RX6 69 RX6 yX6_isNamed cX6_isNamed 5 (some .boolean) 2 := ⟨(q_in_t4 (i := 68) (by first | rfl | decide +kernel) rfl), (q_in_t4 (i := 70) (by first | rfl | decide +kernel) rfl), (q_in_p (i := 11) (by decide +kernel) rfl), (q_in_t1 (i := 3) (by first | rfl | decide +kernel) rfl), (q_in_t4 (i := 71) (by first | rfl | decide +kernel) rfl), ⟨rfl, by decide, by decide, rfl⟩⟩
theorem kv_X6_65 : q_okV RX6 65 RX5 yX5_set cX5_set 3 none 2 := ⟨(q_in_t4 (i := 82) (by first | rfl | decide +kernel) rfl), (q_in_t4 (i := 83) (by first | rfl | decide +kernel) rfl), (q_in_t4 (i := 84) (by first | rfl | decide +kernel) rfl), (q_in_t1 (i := 4) (by first | rfl | decide +kernel) rfl), (q_in_t4 (i := 85) (by first | rfl | decide +kernel) rfl), ⟨rfl, by decide, by decide, rfl⟩⟩
theorem kr_X3_78 : q_okU2 RX3 78 RX4 "CheatHeap$Reader" ⟨"CheatHeap$Reader", "mustBeName", "()Z"⟩ yX3_mustBeName cX3_mustBeName 1 (some .boolean) 0 ∧ q_okU2 RX3 78 RX9 "CheatHeap$Reader" ⟨"CheatHeap$Reader", "mustBeName", "()Z"⟩ yX3_mustBeName cX3_mustBeName 1 (some .boolean) 0 := ⟨⟨(q_in_t4 (i := 104) (by first | rfl | decide +kernel) rfl), (q_in_t9 (i := 207) (by first | rfl | decide +kernel) rfl), (q_in_t9 (i := 208) (by first | rfl | decide +kernel) rfl), (q_in_t4 (i := 57) (by first | rfl | decide +kernel) rfl), (q_in_t1 (i := 9) (by first | rfl | decide +kernel) rfl), (q_in_t4 (i := 58) (by first | rfl | decide +kernel) rfl), ⟨by decide, by decide, rfl⟩, rfl⟩, ⟨(q_in_t4 (i := 104) (by first | rfl | decide +kernel) rfl), (q_in_t9 (i := 207) (by first | rfl | decide +kernel) rfl), (q_in_t9 (i := 209) (by first | rfl | decide +kernel) rfl), (q_in_t4 (i := 57) (by first | rfl | decide +kernel) rfl), (q_in_t1 (i := 9) (by first | rfl | decide +kernel) rfl), (q_in_t4 (i := 58) (by first | rfl | decide +kernel) rfl), ⟨by decide, by decide, rfl⟩, rfl⟩⟩
theorem kv_X3_81 : q_okV RX3 81 RX6 yX6_playerNamed cX6_playerNamed 3 (some .int) 1 := ⟨(q_in_t4 (i := 105) (by first | rfl | decide +kernel) rfl), (q_in_t4 (i := 65) (by first | rfl | decide +kernel) rfl), (q_in_t4 (i := 66) (by first | rfl | decide +kernel) rfl), (q_in_t1 (i := 3) (by first | rfl | decide +kernel) rfl), (q_in_t4 (i := 67) (by first | rfl | decide +kernel) rfl), ⟨rfl, by decide, by decide, rfl⟩⟩
theorem gs_X6_9_6 (E : q_E p c cc s m args RX6 X) (hI : q_I X n σ0 H0 locs σ H) (ha : q_kd X a = 6) (hdg : decode cc pc = .ok (.getfield 9, 3)) (kk : W p l e R s m args below meth c H locs cells slots Q (F0 m (pc + 3) ls (.int (σ.1 a 0) :: rest))) : W p l e R s m args below meth c H locs cells slots Q (F0 m pc ls (.ref a :: rest)) :=
  q_getf (ref := "CheatHeap$Rules") E hI ha ⟨rfl, by decide⟩ (show vwCl[5]? = some (RX6, TX6, 8) from rfl) q_inX6 (f := 0) (by decide) (q_in_t1 (i := 57) (by first | rfl | decide +kernel) rfl) (Or.inl rfl) rfl hdg kk
theorem gs_X6_15_6 (E : q_E p c cc s m args RX6 X) (hI : q_I X n σ0 H0 locs σ H) (ha : q_kd X a = 6) (hdg : decode cc pc = .ok (.getfield 15, 3)) (kk : W p l e R s m args below meth c H locs cells slots Q (F0 m (pc + 3) ls (.int (σ.1 a 1) :: rest))) : W p l e R s m args below meth c H locs cells slots Q (F0 m pc ls (.ref a :: rest)) :=
  q_getf (ref := "CheatHeap$Rules") E hI ha ⟨rfl, by decide⟩ (show vwCl[5]? = some (RX6, TX6, 8) from rfl) q_inX6 (f := 1) (by decide) (q_in_t1 (i := 62) (by first | rfl | decide +kernel) rfl) (Or.inl rfl) rfl hdg kk
theorem gs_X6_18_6 (E : q_E p c cc s m args RX6 X) (hI : q_I X n σ0 H0 locs σ H) (ha : q_kd X a = 6) (hdg : decode cc pc = .ok (.getfield 18, 3)) (kk : W p l e R s m args below meth c H locs cells slots Q (F0 m (pc + 3) ls (.int (σ.1 a 2) :: rest))) : W p l e R s m args below meth c H locs cells slots Q (F0 m pc ls (.ref a :: rest)) :=
  q_getf (ref := "CheatHeap$Rules") E hI ha ⟨rfl, by decide⟩ (show vwCl[5]? = some (RX6, TX6, 8) from rfl) q_inX6 (f := 2) (by decide) (q_in_t1 (i := 65) (by first | rfl | decide +kernel) rfl) (Or.inl rfl) rfl hdg kk
theorem gs_X6_21_6 (E : q_E p c cc s m args RX6 X) (hI : q_I X n σ0 H0 locs σ H) (ha : q_kd X a = 6) (hdg : decode cc pc = .ok (.getfield 21, 3)) (kk : W p l e R s m args below meth c H locs cells slots Q (F0 m (pc + 3) ls (.int (σ.1 a 3) :: rest))) : W p l e R s m args below meth c H locs cells slots Q (F0 m pc ls (.ref a :: rest)) :=
  q_getf (ref := "CheatHeap$Rules") E hI ha ⟨rfl, by decide⟩ (show vwCl[5]? = some (RX6, TX6, 8) from rfl) q_inX6 (f := 3) (by decide) (q_in_t1 (i := 68) (by first | rfl | decide +kernel) rfl) (Or.inl rfl) rfl hdg kk
theorem kv_X6_45 : q_okV RX6 45 RX5 yX5_copyFrom cX5_copyFrom 3 none 1 := ⟨(q_in_t4 (i := 133) (by first | rfl | decide +kernel) rfl), (q_in_t4 (i := 134) (by first | rfl | decide +kernel) rfl), (q_in_t4 (i := 135) (by first | rfl | decide +kernel) rfl), (q_in_t1 (i := 4) (by first | rfl | decide +kernel) rfl), (q_in_t4 (i := 136) (by first | rfl | decide +kernel) rfl), ⟨rfl, by decide, by decide, rfl⟩⟩
theorem ks_X6_49 : q_okS RX6 49 yJ9_floorMod_7cf53 cJ9_floorMod_7cf53 3 (some .int) 2 := ⟨(q_in_t5 (i := 125) (by first | rfl | decide +kernel) rfl), (q_in_t5 (i := 126) (by first | rfl | decide +kernel) rfl), (q_in_t1 (i := 5) (by first | rfl | decide +kernel) rfl), (q_in_t5 (i := 127) (by first | rfl | decide +kernel) rfl), ⟨by decide, by decide, rfl⟩⟩
end QS
end
