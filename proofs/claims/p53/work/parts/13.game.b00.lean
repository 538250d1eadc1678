/-! FROM 13.game.b00.lean.txt -/
section
set_option maxRecDepth 100000 in
set_option maxHeartbeats 4000000 in
theorem c_X0_reset (l : Launch) (X : XW) (σ : ST) (a : Nat) (ha : q_kd X a = 1) : Met l yX0_reset (q_ws yX0_reset cX0_reset 1 none) (q_rm 2 41) (q_P X σ [.ref a]) (q_Qv X 8 σ (fun (σ' : ST) => σ' = F_X0_reset X σ a ∧ q_ow [(1, 4), (1, 5), (1, 6), (1, 7), (3, 0), (3, 1), (6, 0), (6, 1), (6, 2), (6, 3), (6, 4), (8, 0), (8, 1), (8, 2), (20, 99)] [] X σ σ')) 0 0 (q_reg X) := by
  refine q_met 8 (by first | exact rfl | decide +kernel) rfl (Nat.le_of_ble_eq_true rfl) (fun p e s m below meth c E hml hr hlk hI ls hl => ?_)
  have hx := E.1
  have hb := E.2.1
  have hl : lv_has ls 1 [(0, .ref a)] := hl
  have fr_σ : q_ow [(1, 4), (1, 5), (1, 6), (1, 7), (3, 0), (3, 1), (6, 0), (6, 1), (6, 2), (6, 3), (6, 4), (8, 0), (8, 1), (8, 2), (20, 99)] [] X σ σ := q_ow.rf
  obtain ⟨out, hout⟩ : ∃ o, o = F_X0_reset X σ a := ⟨_, rfl⟩
  have hF := hout.symm
  unfold F_X0_reset at hF
  refine lv_aload_n hx hb dX0_reset_0 rfl (lv_at hl 0 rfl) ?_
  refine gs_X0_12_1 E hI ha dX0_reset_1 ?_
  refine q_cv (q_rV5_0 (rest := []) E (hml.trans hl.1.symm) hI (c_X6_reset l X σ (q_rf X a 0) (q_tk (k' := 6) hI ha rfl (Nat.succ_ne_zero _))) kv_X0_80 (q_tk (k' := 6) hI ha rfl (Nat.succ_ne_zero _)) ⟨Nat.le_of_ble_eq_true rfl, Nat.le_of_ble_eq_true rfl⟩ (Nat.le_of_ble_eq_true rfl) dX0_reset_4) hI (Nat.le_of_ble_eq_true rfl) (fun σ_2 H locs hpσ_2 hkσ_2 hI => ?_)
  have ahpσ_2 := hpσ_2.1
  have bhpσ_2 := hpσ_2.2
  clear hpσ_2
  have fr_σ_2 := fr_σ.call bhpσ_2 rfl rfl
  replace hF := q_letX hF ahpσ_2
  refine lv_aload_n hx hb dX0_reset_7 rfl (lv_at hl 0 rfl) ?_
  refine gs_X0_21_1 E hI ha dX0_reset_8 ?_
  refine q_cv (q_rV1_0 (rest := []) E (hml.trans hl.1.symm) hI (c_X1_reset l X σ_2 (q_rf X a 1) (q_tk (k' := 2) hI ha rfl (Nat.succ_ne_zero _))) kv_X0_83 (q_tk (k' := 2) hI ha rfl (Nat.succ_ne_zero _)) ⟨Nat.le_of_ble_eq_true rfl, Nat.le_of_ble_eq_true rfl⟩ (Nat.le_of_ble_eq_true rfl) dX0_reset_11) hI (Nat.le_of_ble_eq_true rfl) (fun σ_4 H locs hpσ_4 hkσ_4 hI => ?_)
  have ahpσ_4 := hpσ_4.1
  have bhpσ_4 := hpσ_4.2
  clear hpσ_4
  have fr_σ_4 := fr_σ_2.call bhpσ_4 rfl rfl
  replace hF := q_letX hF ahpσ_4
  refine lv_aload_n hx hb dX0_reset_14 rfl (lv_at hl 0 rfl) ?_
  refine gs_X0_28_1 E hI ha dX0_reset_15 ?_
  refine q_cv (q_rV2_0 (rest := []) E (hml.trans hl.1.symm) hI (c_X2_clear l X σ_4 (q_rf X a 2) (q_tk (k' := 3) hI ha rfl (Nat.succ_ne_zero _))) kv_X0_84 (q_tk (k' := 3) hI ha rfl (Nat.succ_ne_zero _)) ⟨Nat.le_of_ble_eq_true rfl, Nat.le_of_ble_eq_true rfl⟩ (Nat.le_of_ble_eq_true rfl) dX0_reset_18) hI (Nat.le_of_ble_eq_true rfl) (fun σ_6 H locs hpσ_6 hkσ_6 hI => ?_)
  have ahpσ_6 := hpσ_6.1
  have bhpσ_6 := hpσ_6.2
  clear hpσ_6
  have fr_σ_6 := fr_σ_4.call bhpσ_6 rfl rfl
  replace hF := q_letX hF ahpσ_6
  refine lv_aload_n hx hb dX0_reset_21 rfl (lv_at hl 0 rfl) ?_
  refine gs_X0_35_1 E hI ha dX0_reset_22 ?_
  refine q_cv (q_rV7_0 (rest := []) E (hml.trans hl.1.symm) hI (c_X8_clear l X σ_6 (q_rf X a 3) (q_tk (k' := 8) hI ha rfl (Nat.succ_ne_zero _))) kv_X0_87 (q_tk (k' := 8) hI ha rfl (Nat.succ_ne_zero _)) ⟨Nat.le_of_ble_eq_true rfl, Nat.le_of_ble_eq_true rfl⟩ (Nat.le_of_ble_eq_true rfl) dX0_reset_25) hI (Nat.le_of_ble_eq_true rfl) (fun σ_8 H locs hpσ_8 hkσ_8 hI => ?_)
  have ahpσ_8 := hpσ_8.1
  have bhpσ_8 := hpσ_8.2
  clear hpσ_8
  have fr_σ_8 := fr_σ_6.call bhpσ_8 rfl rfl
  replace hF := q_letX hF ahpσ_8
  refine lv_aload_n hx hb dX0_reset_28 rfl (lv_at hl 0 rfl) ?_
  refine lv_iconst (v := 0) hx hb dX0_reset_29 zki_0 ?_
  refine ps_X0_39_1 E hI ha (by decide) dX0_reset_30 (fun H locs σ_9 hσ_9 hI => ?_)
  replace hF := q_letX hF hσ_9
  have fr_σ_9 := fr_σ_8.si hσ_9 ha rfl
  refine lv_aload_n hx hb dX0_reset_33 rfl (lv_at hl 0 rfl) ?_
  refine lv_iconst (v := 0) hx hb dX0_reset_34 zki_0 ?_
  refine ps_X0_43_1 E hI ha (by decide) dX0_reset_35 (fun H locs σ_10 hσ_10 hI => ?_)
  replace hF := q_letX hF hσ_10
  have fr_σ_10 := fr_σ_9.si hσ_10 ha rfl
  refine lv_aload_n hx hb dX0_reset_38 rfl (lv_at hl 0 rfl) ?_
  refine lv_iconst (v := (-1)) hx hb dX0_reset_39 zki_m1 ?_
  refine ps_X0_46_1 E hI ha (by decide) dX0_reset_40 (fun H locs σ_11 hσ_11 hI => ?_)
  replace hF := q_letX hF hσ_11
  have fr_σ_11 := fr_σ_10.si hσ_11 ha rfl
  refine lv_aload_n hx hb dX0_reset_43 rfl (lv_at hl 0 rfl) ?_
  refine lv_iconst (v := 0) hx hb dX0_reset_44 zki_0 ?_
  refine ps_X0_49_1 E hI ha (by decide) (by decide) (by decide) dX0_reset_45 (fun H locs σ_12 hσ_12 hI => ?_)
  replace hF := q_letX hF hσ_12
  have fr_σ_12 := fr_σ_11.si hσ_12 ha rfl
  exact q_retv E hr hlk hI ⟨(hF.trans hout), fr_σ_12⟩ dX0_reset_48

set_option maxRecDepth 100000 in
set_option maxHeartbeats 4000000 in
theorem c_X0_copyFrom (l : Launch) (X : XW) (σ : ST) (a : Nat) (r1 : Nat) (ha : q_kd X a = 1) (hr1 : q_kd X r1 = 1) : Met l yX0_copyFrom (q_ws yX0_copyFrom cX0_copyFrom 2 none) (q_rm 2 43) (q_P X σ [.ref a, .ref r1]) (q_Qv X 8 σ (fun (σ' : ST) => σ' = F_X0_copyFrom X σ a r1 ∧ q_ow [(1, 4), (1, 5), (1, 6), (1, 7), (3, 0), (3, 1), (6, 0), (6, 1), (6, 2), (6, 3), (6, 4), (8, 0), (8, 1), (8, 2), (20, 99)] [] X σ σ')) 0 0 (q_reg X) := by
  refine q_met 8 (by first | exact rfl | decide +kernel) rfl (Nat.le_of_ble_eq_true rfl) (fun p e s m below meth c E hml hr hlk hI ls hl => ?_)
  have hx := E.1
  have hb := E.2.1
  have hl : lv_has ls 2 [(0, .ref a), (1, .ref r1)] := hl
  have fr_σ : q_ow [(1, 4), (1, 5), (1, 6), (1, 7), (3, 0), (3, 1), (6, 0), (6, 1), (6, 2), (6, 3), (6, 4), (8, 0), (8, 1), (8, 2), (20, 99)] [] X σ σ := q_ow.rf
  obtain ⟨out, hout⟩ : ∃ o, o = F_X0_copyFrom X σ a r1 := ⟨_, rfl⟩
  have hF := hout.symm
  unfold F_X0_copyFrom at hF
  refine lv_aload_n hx hb dX0_copyFrom_0 rfl (lv_at hl 0 rfl) ?_
  refine gs_X0_12_1 E hI ha dX0_copyFrom_1 ?_
  refine lv_aload_n hx hb dX0_copyFrom_4 rfl (lv_at hl 1 rfl) ?_
  refine gs_X0_12_1 E hI hr1 dX0_copyFrom_5 ?_
  refine q_cv (q_rV5_1 (rest := []) E (hml.trans hl.1.symm) hI (c_X6_copyFrom l X σ (q_rf X a 0) (q_rf X r1 0) (q_tk (k' := 6) hI ha rfl (Nat.succ_ne_zero _)) (q_tk (k' := 6) hI hr1 rfl (Nat.succ_ne_zero _))) kv_X0_88 (q_tk (k' := 6) hI ha rfl (Nat.succ_ne_zero _)) ⟨Nat.le_of_ble_eq_true rfl, Nat.le_of_ble_eq_true rfl⟩ (Nat.le_of_ble_eq_true rfl) dX0_copyFrom_8) hI (Nat.le_of_ble_eq_true rfl) (fun σ_2 H locs hpσ_2 hkσ_2 hI => ?_)
  have ahpσ_2 := hpσ_2.1
  have bhpσ_2 := hpσ_2.2
  clear hpσ_2
  have fr_σ_2 := fr_σ.call bhpσ_2 rfl rfl
  replace hF := q_letX hF ahpσ_2
  refine lv_aload_n hx hb dX0_copyFrom_11 rfl (lv_at hl 0 rfl) ?_
  refine gs_X0_21_1 E hI ha dX0_copyFrom_12 ?_
  refine lv_aload_n hx hb dX0_copyFrom_15 rfl (lv_at hl 1 rfl) ?_
  refine gs_X0_21_1 E hI hr1 dX0_copyFrom_16 ?_
  refine q_cv (q_rV1_1 (rest := []) E (hml.trans hl.1.symm) hI (c_X1_copyFrom l X σ_2 (q_rf X a 1) (q_rf X r1 1) (q_tk (k' := 2) hI ha rfl (Nat.succ_ne_zero _)) (q_tk (k' := 2) hI hr1 rfl (Nat.succ_ne_zero _))) kv_X0_92 (q_tk (k' := 2) hI ha rfl (Nat.succ_ne_zero _)) ⟨Nat.le_of_ble_eq_true rfl, Nat.le_of_ble_eq_true rfl⟩ (Nat.le_of_ble_eq_true rfl) dX0_copyFrom_19) hI (Nat.le_of_ble_eq_true rfl) (fun σ_4 H locs hpσ_4 hkσ_4 hI => ?_)
  have ahpσ_4 := hpσ_4.1
  have bhpσ_4 := hpσ_4.2
  clear hpσ_4
  have fr_σ_4 := fr_σ_2.call bhpσ_4 rfl rfl
  replace hF := q_letX hF ahpσ_4
  refine lv_aload_n hx hb dX0_copyFrom_22 rfl (lv_at hl 0 rfl) ?_
  refine gs_X0_28_1 E hI ha dX0_copyFrom_23 ?_
  refine lv_aload_n hx hb dX0_copyFrom_26 rfl (lv_at hl 1 rfl) ?_
  refine gs_X0_28_1 E hI hr1 dX0_copyFrom_27 ?_
  refine q_cv (q_rV2_1 (rest := []) E (hml.trans hl.1.symm) hI (c_X2_copyFrom l X σ_4 (q_rf X a 2) (q_rf X r1 2) (q_tk (k' := 3) hI ha rfl (Nat.succ_ne_zero _)) (q_tk (k' := 3) hI hr1 rfl (Nat.succ_ne_zero _))) kv_X0_95 (q_tk (k' := 3) hI ha rfl (Nat.succ_ne_zero _)) ⟨Nat.le_of_ble_eq_true rfl, Nat.le_of_ble_eq_true rfl⟩ (Nat.le_of_ble_eq_true rfl) dX0_copyFrom_30) hI (Nat.le_of_ble_eq_true rfl) (fun σ_6 H locs hpσ_6 hkσ_6 hI => ?_)
  have ahpσ_6 := hpσ_6.1
  have bhpσ_6 := hpσ_6.2
  clear hpσ_6
  have fr_σ_6 := fr_σ_4.call bhpσ_6 rfl rfl
  replace hF := q_letX hF ahpσ_6
  refine lv_aload_n hx hb dX0_copyFrom_33 rfl (lv_at hl 0 rfl) ?_
  refine gs_X0_35_1 E hI ha dX0_copyFrom_34 ?_
  refine lv_aload_n hx hb dX0_copyFrom_37 rfl (lv_at hl 1 rfl) ?_
  refine gs_X0_35_1 E hI hr1 dX0_copyFrom_38 ?_
  refine q_cv (q_rV7_1 (rest := []) E (hml.trans hl.1.symm) hI (c_X8_copyFrom l X σ_6 (q_rf X a 3) (q_rf X r1 3) (q_tk (k' := 8) hI ha rfl (Nat.succ_ne_zero _)) (q_tk (k' := 8) hI hr1 rfl (Nat.succ_ne_zero _))) kv_X0_98 (q_tk (k' := 8) hI ha rfl (Nat.succ_ne_zero _)) ⟨Nat.le_of_ble_eq_true rfl, Nat.le_of_ble_eq_true rfl⟩ (Nat.le_of_ble_eq_true rfl) dX0_copyFrom_41) hI (Nat.le_of_ble_eq_true rfl) (fun σ_8 H locs hpσ_8 hkσ_8 hI => ?_)
  have ahpσ_8 := hpσ_8.1
  have bhpσ_8 := hpσ_8.2
  clear hpσ_8
  have fr_σ_8 := fr_σ_6.call bhpσ_8 rfl rfl
  replace hF := q_letX hF ahpσ_8
  refine lv_aload_n hx hb dX0_copyFrom_44 rfl (lv_at hl 0 rfl) ?_
  refine lv_aload_n hx hb dX0_copyFrom_45 rfl (lv_at hl 1 rfl) ?_
  refine gs_X0_39_1 E hI hr1 dX0_copyFrom_46 ?_
  refine lv_topi (fun f_9 ef_9 => ?_)
  replace hF := q_letX hF ef_9
  refine ps_X0_39_1 E hI ha (by decide) dX0_copyFrom_49 (fun H locs σ_10 hσ_10 hI => ?_)
  replace hF := q_letX hF hσ_10
  have fr_σ_10 := fr_σ_8.si hσ_10 ha rfl
  refine lv_aload_n hx hb dX0_copyFrom_52 rfl (lv_at hl 0 rfl) ?_
  refine lv_aload_n hx hb dX0_copyFrom_53 rfl (lv_at hl 1 rfl) ?_
  refine gs_X0_43_1 E hI hr1 dX0_copyFrom_54 ?_
  refine lv_topi (fun f_11 ef_11 => ?_)
  replace hF := q_letX hF ef_11
  refine ps_X0_43_1 E hI ha (by decide) dX0_copyFrom_57 (fun H locs σ_12 hσ_12 hI => ?_)
  replace hF := q_letX hF hσ_12
  have fr_σ_12 := fr_σ_10.si hσ_12 ha rfl
  refine lv_aload_n hx hb dX0_copyFrom_60 rfl (lv_at hl 0 rfl) ?_
  refine lv_aload_n hx hb dX0_copyFrom_61 rfl (lv_at hl 1 rfl) ?_
  refine gs_X0_46_1 E hI hr1 dX0_copyFrom_62 ?_
  refine lv_topi (fun f_13 ef_13 => ?_)
  replace hF := q_letX hF ef_13
  refine ps_X0_46_1 E hI ha (by decide) dX0_copyFrom_65 (fun H locs σ_14 hσ_14 hI => ?_)
  replace hF := q_letX hF hσ_14
  have fr_σ_14 := fr_σ_12.si hσ_14 ha rfl
  refine lv_aload_n hx hb dX0_copyFrom_68 rfl (lv_at hl 0 rfl) ?_
  refine lv_aload_n hx hb dX0_copyFrom_69 rfl (lv_at hl 1 rfl) ?_
  refine gs_X0_49_1 E hI hr1 dX0_copyFrom_70 ?_
  refine lv_topi (fun f_15 ef_15 => ?_)
  replace hF := q_letX hF ef_15
  have bf_15 : 0 ≤ f_15.toInt ∧ f_15.toInt ≤ 1 := by rw [ef_15]; exact q_bd hI hr1 rfl
  refine ps_X0_49_1 E hI ha (by decide) (by omega) (by omega) dX0_copyFrom_73 (fun H locs σ_16 hσ_16 hI => ?_)
  replace hF := q_letX hF hσ_16
  have fr_σ_16 := fr_σ_14.si hσ_16 ha rfl
  exact q_retv E hr hlk hI ⟨(hF.trans hout), fr_σ_16⟩ dX0_copyFrom_76

set_option maxRecDepth 100000 in
set_option maxHeartbeats 4000000 in
theorem c_X0_clearWanted (l : Launch) (X : XW) (σ : ST) (a : Nat) (ha : q_kd X a = 1) : Met l yX0_clearWanted (q_ws yX0_clearWanted cX0_clearWanted 1 none) (q_rm 1 21) (q_P X σ [.ref a]) (q_Qv X 8 σ (fun (σ' : ST) => σ' = F_X0_clearWanted X σ a ∧ q_ow [(1, 9), (20, 99)] [] X σ σ')) 0 0 (q_reg X) := by
  refine q_met 8 (by first | exact rfl | decide +kernel) rfl (Nat.le_of_ble_eq_true rfl) (fun p e s m below meth c E hml hr hlk hI ls hl => ?_)
  have hx := E.1
  have hb := E.2.1
  have hl : lv_has ls 1 [(0, .ref a)] := hl
  have fr_σ : q_ow [(1, 9), (20, 99)] [] X σ σ := q_ow.rf
  obtain ⟨out, hout⟩ : ∃ o, o = F_X0_clearWanted X σ a := ⟨_, rfl⟩
  have hF := hout.symm
  unfold F_X0_clearWanted at hF
  refine lv_aload_n hx hb dX0_clearWanted_0 rfl (lv_at hl 0 rfl) ?_
  refine gs_X0_58_1 E hI ha dX0_clearWanted_1 ?_
  refine q_cv (q_rV4_0 (rest := []) E (hml.trans hl.1.symm) hI (c_X5_clear l X σ (q_rf X a 8) (q_tk (k' := 5) hI ha rfl (Nat.succ_ne_zero _))) kv_X0_101 (q_tk (k' := 5) hI ha rfl (Nat.succ_ne_zero _)) ⟨Nat.le_of_ble_eq_true rfl, Nat.le_of_ble_eq_true rfl⟩ (Nat.le_of_ble_eq_true rfl) dX0_clearWanted_4) hI (Nat.le_of_ble_eq_true rfl) (fun σ_2 H locs hpσ_2 hkσ_2 hI => ?_)
  have ahpσ_2 := hpσ_2.1
  have bhpσ_2 := hpσ_2.2
  clear hpσ_2
  have fr_σ_2 := fr_σ.call bhpσ_2 rfl rfl
  replace hF := q_letX hF ahpσ_2
  refine lv_aload_n hx hb dX0_clearWanted_7 rfl (lv_at hl 0 rfl) ?_
  refine lv_iconst (v := 0) hx hb dX0_clearWanted_8 zki_0 ?_
  refine ps_X0_62_1 E hI ha (by decide) dX0_clearWanted_9 (fun H locs σ_3 hσ_3 hI => ?_)
  replace hF := q_letX hF hσ_3
  have fr_σ_3 := fr_σ_2.si hσ_3 ha rfl
  exact q_retv E hr hlk hI ⟨(hF.trans hout), fr_σ_3⟩ dX0_clearWanted_12

set_option maxRecDepth 100000 in
set_option maxHeartbeats 4000000 in
theorem c_X0_want (l : Launch) (X : XW) (σ : ST) (a : Nat) (v1 : Int32) (v2 : Int32) (ha : q_kd X a = 1) : Met l yX0_want (q_ws yX0_want cX0_want 3 none) (q_rm 1 22) (q_P X σ [.ref a, .int v1, .int v2]) (q_Qv X 8 σ (fun (σ' : ST) => σ' = F_X0_want X σ a v1 v2 ∧ q_ow [(1, 9), (20, 99)] [] X σ σ')) 0 0 (q_reg X) := by
  refine q_met 8 (by first | exact rfl | decide +kernel) rfl (Nat.le_of_ble_eq_true rfl) (fun p e s m below meth c E hml hr hlk hI ls hl => ?_)
  have hx := E.1
  have hb := E.2.1
  have hl : lv_has ls 3 [(0, .ref a), (1, .int v1), (2, .int v2)] := hl
  have fr_σ : q_ow [(1, 9), (20, 99)] [] X σ σ := q_ow.rf
  obtain ⟨out, hout⟩ : ∃ o, o = F_X0_want X σ a v1 v2 := ⟨_, rfl⟩
  have hF := hout.symm
  unfold F_X0_want at hF
  refine lv_iload_n hx hb dX0_want_0 rfl (lv_at hl 1 rfl) ?_
  refine lv_iconst (v := (-1)) hx hb dX0_want_1 zki_m1 ?_
  refine q_icmp_eq (A := v1.toInt) (B := (-1)) E rfl (by decide) (tgt := 24) dX0_want_2 (by decide) (fun c_1 => ?_) (fun c_1 => ?_)
  · skip
    replace hF := q_ifp hF c_1
    exact q_retv E hr hlk hI ⟨(hF.trans hout), fr_σ⟩ dX0_want_24
  · skip
    replace hF := q_ifn hF c_1
    refine lv_aload_n hx hb dX0_want_5 rfl (lv_at hl 0 rfl) ?_
    refine gs_X0_58_1 E hI ha dX0_want_6 ?_
    refine lv_iload_n hx hb dX0_want_9 rfl (lv_at hl 1 rfl) ?_
    refine lv_iload_n hx hb dX0_want_10 rfl (lv_at hl 2 rfl) ?_
    refine q_cv (q_rV4_2 (rest := []) E (hml.trans hl.1.symm) hI (c_X5_add l X σ (q_rf X a 8) v1 v2 (q_tk (k' := 5) hI ha rfl (Nat.succ_ne_zero _))) kv_X0_102 (q_tk (k' := 5) hI ha rfl (Nat.succ_ne_zero _)) ⟨Nat.le_of_ble_eq_true rfl, Nat.le_of_ble_eq_true rfl⟩ (Nat.le_of_ble_eq_true rfl) dX0_want_11) hI (Nat.le_of_ble_eq_true rfl) (fun σ_3 H locs hpσ_3 hkσ_3 hI => ?_)
    have ahpσ_3 := hpσ_3.1
    have bhpσ_3 := hpσ_3.2
    clear hpσ_3
    have fr_σ_3 := fr_σ.call bhpσ_3 rfl rfl
    replace hF := q_letX hF ahpσ_3
    refine lv_aload_n hx hb dX0_want_14 rfl (lv_at hl 0 rfl) ?_
    refine lv_dup hx hb dX0_want_15 rfl ?_
    refine gs_X0_62_1 E hI ha dX0_want_16 ?_
    refine lv_topi (fun f_4 ef_4 => ?_)
    replace hF := q_letX hF ef_4
    refine lv_iload_n hx hb dX0_want_19 rfl (lv_at hl 2 rfl) ?_
    refine lv_iadd hx hb dX0_want_20 ?_
    refine lv_topi (fun z_5 ez_5 => ?_)
    replace hF := q_letX hF ez_5
    refine ps_X0_62_1 E hI ha (by decide) dX0_want_21 (fun H locs σ_6 hσ_6 hI => ?_)
    replace hF := q_letX hF hσ_6
    have fr_σ_6 := fr_σ_3.si hσ_6 ha rfl
    exact q_retv E hr hlk hI ⟨(hF.trans hout), fr_σ_6⟩ dX0_want_24

set_option maxRecDepth 100000 in
set_option maxHeartbeats 4000000 in
theorem c_X0_holdsWanted (l : Launch) (X : XW) (σ : ST) (a : Nat) (ha : q_kd X a = 1) : Met l yX0_holdsWanted (q_ws yX0_holdsWanted cX0_holdsWanted 2 (some .boolean)) (q_rm 2 43) (q_P X σ [.ref a]) (q_Qi X 9 σ (fun (r : Int32) (σ' : ST) => σ' = σ ∧ (0 ≤ r.toInt ∧ r.toInt ≤ 1) ∧ r = F_X0_holdsWanted X σ a)) 0 0 (q_reg X) := by
  refine q_met 9 (by first | exact rfl | decide +kernel) rfl (Nat.le_of_ble_eq_true rfl) (fun p e s m below meth c E hml hr hlk hI ls hl => ?_)
  have hx := E.1
  have hb := E.2.1
  have hl : lv_has ls 2 [(0, .ref a)] := hl
  obtain ⟨out, hout⟩ : ∃ o, o = F_X0_holdsWanted X σ a := ⟨_, rfl⟩
  have hF := hout.symm
  unfold F_X0_holdsWanted at hF
  refine lv_iconst (v := 0) hx hb dX0_holdsWanted_0 zki_0 ?_
  refine lv_istore_n (lv' := [(1, .int 0), (0, .ref a)]) hx hb dX0_holdsWanted_1 rfl hl (by decide) rfl (fun ls hl => ?_)
  have L_2_2 : ∀ (k_2 : Nat) (x_1 : Int32) (H : Heap) (locs : List Loc) (ls : Array Slot), (2147483647 - x_1.toInt).toNat < k_2 → (0 ≤ x_1.toInt) → (F_X0_holdsWanted_L2_1 X σ a k_2 x_1 = out) → q_I X 9 σ s.heap locs σ H → lv_has ls 2 [(0, .ref a), (1, .int x_1)] → W p l e (q_rm 2 43) s m ([.ref a] : List Value).toArray below meth c H locs 0 0 (MQ below (q_Qi X 9 σ (fun (r : Int32) (σ' : ST) => σ' = σ ∧ (0 ≤ r.toInt ∧ r.toInt ≤ 1) ∧ r = F_X0_holdsWanted X σ a)) ([.ref a] : List Value).toArray s 0 0 (q_reg X)) (F0 m 2 ls []) := by
    clear hF
    intro k_2
    induction k_2 with
    | zero =>
      intro x_1 H locs ls hms
      exact absurd hms (Nat.not_lt_zero _)
    | succ k_2 ih2 =>
      intro x_1 H locs ls hm2 hge2 hF hI hl
      replace hF := (F_X0_holdsWanted_L2_1_s).symm.trans hF
      unfold F_X0_holdsWanted_B2_1 at hF
      refine lv_iload_n hx hb dX0_holdsWanted_2 rfl (lv_at hl 1 rfl) ?_
      refine lv_aload_n hx hb dX0_holdsWanted_3 rfl (lv_at hl 0 rfl) ?_
      refine gs_X0_12_1 E hI ha dX0_holdsWanted_4 ?_
      refine gs_X0_106_6 E hI (q_tk (k' := 6) hI ha rfl (Nat.succ_ne_zero _)) dX0_holdsWanted_7 ?_
      refine lv_topi (fun f_3 ef_3 => ?_)
      replace hF := q_letX hF ef_3
      have bf_3 : -2147483648 ≤ f_3.toInt ∧ f_3.toInt ≤ 10 := by rw [ef_3]; exact q_bd hI (q_tk (k' := 6) hI ha rfl (Nat.succ_ne_zero _)) rfl
      have gc_4_x_1 := q_rng x_1
      have gc_4_f_3 := q_rng f_3
      refine q_icmp_ge (A := x_1.toInt) (B := f_3.toInt) E rfl rfl (tgt := 44) dX0_holdsWanted_10 (by decide) (fun c_4 => ?_) (fun c_4 => ?_)
      · skip
        replace hF := q_ifn hF (Int.not_lt.mpr c_4)
        skip
        refine lv_iconst (v := 1) hx hb dX0_holdsWanted_44 zki_1 ?_
        have hrv : (1 : Int32).toInt = 1 := zt_1
        exact q_retz E hr hlk hI ⟨by decide, by decide⟩ ⟨rfl, ⟨by decide, by decide⟩, (hF.trans hout)⟩ dX0_holdsWanted_45
      · skip
        replace hF := q_ifp hF c_4
        refine lv_aload_n hx hb dX0_holdsWanted_13 rfl (lv_at hl 0 rfl) ?_
        refine gs_X0_21_1 E hI ha dX0_holdsWanted_14 ?_
        refine lv_aload_n hx hb dX0_holdsWanted_17 rfl (lv_at hl 0 rfl) ?_
        refine gs_X0_43_1 E hI ha dX0_holdsWanted_18 ?_
        refine lv_topi (fun f_5 ef_5 => ?_)
        replace hF := q_letX hF ef_5
        refine lv_iload_n hx hb dX0_holdsWanted_21 rfl (lv_at hl 1 rfl) ?_
        refine q_ci (q_rV1_2 (rest := []) E (hml.trans hl.1.symm) hI (c_X1_heldBy l X σ (q_rf X a 1) f_5 x_1 (q_tk (k' := 2) hI ha rfl (Nat.succ_ne_zero _))) kv_X0_109 (q_tk (k' := 2) hI ha rfl (Nat.succ_ne_zero _)) ⟨Nat.le_of_ble_eq_true rfl, Nat.le_of_ble_eq_true rfl⟩ (Nat.le_of_ble_eq_true rfl) dX0_holdsWanted_22) hI (Nat.le_of_ble_eq_true rfl) (fun r_6 σ_7 H locs hpσ_7 hkσ_7 hI => ?_)
        have ahpσ_7 := hpσ_7.1
        have bhpσ_7 := hpσ_7.2
        clear hpσ_7
        replace hI := q_Irw ahpσ_7 hI
        replace hF := q_letX hF bhpσ_7
        refine lv_aload_n hx hb dX0_holdsWanted_25 rfl (lv_at hl 0 rfl) ?_
        refine gs_X0_58_1 E hI ha dX0_holdsWanted_26 ?_
        refine lv_iload_n hx hb dX0_holdsWanted_29 rfl (lv_at hl 1 rfl) ?_
        refine q_ci (q_rV4_1 (rest := [.int r_6]) E (hml.trans hl.1.symm) hI (c_X5_get l X σ (q_rf X a 8) x_1 (q_tk (k' := 5) hI ha rfl (Nat.succ_ne_zero _))) kv_X0_113 (q_tk (k' := 5) hI ha rfl (Nat.succ_ne_zero _)) ⟨Nat.le_of_ble_eq_true rfl, Nat.le_of_ble_eq_true rfl⟩ (Nat.le_of_ble_eq_true rfl) dX0_holdsWanted_30) hI (Nat.le_of_ble_eq_true rfl) (fun r_8 σ_9 H locs hpσ_9 hkσ_9 hI => ?_)
        have ahpσ_9 := hpσ_9.1
        have bhpσ_9 := hpσ_9.2
        clear hpσ_9
        replace hI := q_Irw ahpσ_9 hI
        replace hF := q_letX hF bhpσ_9
        have gc_10_r_6 := q_rng r_6
        have gc_10_r_8 := q_rng r_8
        refine q_icmp_ge (A := r_6.toInt) (B := r_8.toInt) E rfl rfl (tgt := 38) dX0_holdsWanted_33 (by decide) (fun c_10 => ?_) (fun c_10 => ?_)
        · skip
          replace hF := q_ifn hF (Int.not_lt.mpr c_10)
          obtain ⟨z_11, ez_11⟩ : ∃ y : Int32, y = x_1 + 1 := ⟨_, rfl⟩
          replace hF := q_letX hF ez_11
          refine lv_iinc (v := z_11) (lv' := [(1, .int z_11), (0, .ref a)]) hx hb dX0_holdsWanted_38 hl (k := 1) rfl (by rw [ez_11]; rfl) (by decide) rfl (fun ls hl => ?_)
          have iz_11 : z_11.toInt = x_1.toInt + 1 := q_inc ez_11 (by first | (clear hm2 gc_4_f_3 ahpσ_7 bhpσ_7 ahpσ_9 bhpσ_9 gc_10_r_6 gc_10_r_8 c_10; omega) | omega)
          refine lv_goto (tgt := 2) hx hb dX0_holdsWanted_41 (by decide) ?_
          exact ih2 z_11 _ _ ls (by first | (clear gc_4_f_3 ahpσ_7 bhpσ_7 ahpσ_9 bhpσ_9 gc_10_r_6 gc_10_r_8 c_10; omega) | omega) (by omega) hF hI (lv_sub hl [1, 0] rfl)
        · skip
          replace hF := q_ifp hF c_10
          skip
          refine lv_iconst (v := 0) hx hb dX0_holdsWanted_36 zki_0 ?_
          have hrv : (0 : Int32).toInt = 0 := zt_0
          exact q_retz E hr hlk hI ⟨by decide, by decide⟩ ⟨rfl, ⟨by decide, by decide⟩, (hF.trans hout)⟩ dX0_holdsWanted_37
  exact L_2_2 ((2147483647 - (0 : Int32).toInt).toNat + 1) 0 _ _ ls (Nat.lt_succ_self _) (by decide) hF hI (lv_sub hl [1, 0] rfl)

set_option maxRecDepth 100000 in
set_option maxHeartbeats 4000000 in
theorem c_X0_layWanted (l : Launch) (X : XW) (σ : ST) (a : Nat) (ha : q_kd X a = 1) : Met l yX0_layWanted (q_ws yX0_layWanted cX0_layWanted 2 none) (q_rm 3 68) (q_P X σ [.ref a]) (q_Qv X 8 σ (fun (σ' : ST) => σ' = F_X0_layWanted X σ a ∧ q_ow [(1, 7), (3, 0), (3, 1), (20, 99)] [] X σ σ')) 0 0 (q_reg X) := by
  refine q_met 8 (by first | exact rfl | decide +kernel) rfl (Nat.le_of_ble_eq_true rfl) (fun p e s m below meth c E hml hr hlk hI ls hl => ?_)
  have hx := E.1
  have hb := E.2.1
  have hl : lv_has ls 2 [(0, .ref a)] := hl
  have fr_σ : q_ow [(1, 7), (3, 0), (3, 1), (20, 99)] [] X σ σ := q_ow.rf
  obtain ⟨out, hout⟩ : ∃ o, o = F_X0_layWanted X σ a := ⟨_, rfl⟩
  have hF := hout.symm
  unfold F_X0_layWanted at hF
  refine lv_aload_n hx hb dX0_layWanted_0 rfl (lv_at hl 0 rfl) ?_
  refine gs_X0_28_1 E hI ha dX0_layWanted_1 ?_
  refine lv_aload_n hx hb dX0_layWanted_4 rfl (lv_at hl 0 rfl) ?_
  refine gs_X0_43_1 E hI ha dX0_layWanted_5 ?_
  refine lv_topi (fun f_1 ef_1 => ?_)
  replace hF := q_letX hF ef_1
  refine lv_aload_n hx hb dX0_layWanted_8 rfl (lv_at hl 0 rfl) ?_
  refine gs_X0_39_1 E hI ha dX0_layWanted_9 ?_
  refine lv_topi (fun f_2 ef_2 => ?_)
  replace hF := q_letX hF ef_2
  refine q_cv (q_rV2_2 (rest := []) E (hml.trans hl.1.symm) hI (c_X2_begin l X σ (q_rf X a 2) f_1 f_2 (q_tk (k' := 3) hI ha rfl (Nat.succ_ne_zero _))) kv_X0_117 (q_tk (k' := 3) hI ha rfl (Nat.succ_ne_zero _)) ⟨Nat.le_of_ble_eq_true rfl, Nat.le_of_ble_eq_true rfl⟩ (Nat.le_of_ble_eq_true rfl) dX0_layWanted_12) hI (Nat.le_of_ble_eq_true rfl) (fun σ_4 H locs hpσ_4 hkσ_4 hI => ?_)
  have ahpσ_4 := hpσ_4.1
  have bhpσ_4 := hpσ_4.2
  clear hpσ_4
  have fr_σ_4 := fr_σ.call bhpσ_4 rfl rfl
  replace hF := q_letX hF ahpσ_4
  refine lv_iconst (v := 0) hx hb dX0_layWanted_15 zki_0 ?_
  refine lv_istore_n (lv' := [(1, .int 0), (0, .ref a)]) hx hb dX0_layWanted_16 rfl hl (by decide) rfl (fun ls hl => ?_)
  have L_17_7 : ∀ (k_7 : Nat) (x_5 : Int32) (σ_6 : ST) (H : Heap) (locs : List Loc) (ls : Array Slot), (2147483647 - x_5.toInt).toNat < k_7 → (0 ≤ x_5.toInt) → (q_ow [(1, 7), (3, 0), (3, 1), (20, 99)] [] X σ σ_6) → (F_X0_layWanted_L17_1 X a k_7 x_5 σ_6 = out) → q_I X 8 σ s.heap locs σ_6 H → lv_has ls 2 [(0, .ref a), (1, .int x_5)] → W p l e (q_rm 3 68) s m ([.ref a] : List Value).toArray below meth c H locs 0 0 (MQ below (q_Qv X 8 σ (fun (σ' : ST) => σ' = F_X0_layWanted X σ a ∧ q_ow [(1, 7), (3, 0), (3, 1), (20, 99)] [] X σ σ')) ([.ref a] : List Value).toArray s 0 0 (q_reg X)) (F0 m 17 ls []) := by
    clear hF
    intro k_7
    induction k_7 with
    | zero =>
      intro x_5 σ_6 H locs ls hms
      exact absurd hms (Nat.not_lt_zero _)
    | succ k_7 ih17 =>
      intro x_5 σ_6 H locs ls hm17 hge17 fr_σ_6 hF hI hl
      replace hF := (F_X0_layWanted_L17_1_s).symm.trans hF
      unfold F_X0_layWanted_B17_1 at hF
      refine lv_iload_n hx hb dX0_layWanted_17 rfl (lv_at hl 1 rfl) ?_
      refine lv_aload_n hx hb dX0_layWanted_18 rfl (lv_at hl 0 rfl) ?_
      refine gs_X0_12_1 E hI ha dX0_layWanted_19 ?_
      refine gs_X0_106_6 E hI (q_tk (k' := 6) hI ha rfl (Nat.succ_ne_zero _)) dX0_layWanted_22 ?_
      refine lv_topi (fun f_8 ef_8 => ?_)
      replace hF := q_letX hF ef_8
      have bf_8 : -2147483648 ≤ f_8.toInt ∧ f_8.toInt ≤ 10 := by rw [ef_8]; exact q_bd hI (q_tk (k' := 6) hI ha rfl (Nat.succ_ne_zero _)) rfl
      have gc_9_x_5 := q_rng x_5
      have gc_9_f_8 := q_rng f_8
      refine q_icmp_ge (A := x_5.toInt) (B := f_8.toInt) E rfl rfl (tgt := 70) dX0_layWanted_25 (by decide) (fun c_9 => ?_) (fun c_9 => ?_)
      · skip
        replace hF := q_ifn hF (Int.not_lt.mpr c_9)
        unfold F_X0_layWanted_E70_2 at hF
        refine lv_aload_n hx hb dX0_layWanted_70 rfl (lv_at hl 0 rfl) ?_
        refine lv_iconst (v := 1) hx hb dX0_layWanted_71 zki_1 ?_
        refine ps_X0_49_1 E hI ha (by decide) (by decide) (by decide) dX0_layWanted_72 (fun H locs σ_10 hσ_10 hI => ?_)
        replace hF := q_letX hF hσ_10
        have fr_σ_10 := fr_σ_6.si hσ_10 ha rfl
        exact q_retv E hr hlk hI ⟨(hF.trans hout), fr_σ_10⟩ dX0_layWanted_75
      · skip
        replace hF := q_ifp hF c_9
        refine lv_aload_n hx hb dX0_layWanted_28 rfl (lv_at hl 0 rfl) ?_
        refine gs_X0_21_1 E hI ha dX0_layWanted_29 ?_
        refine lv_aload_n hx hb dX0_layWanted_32 rfl (lv_at hl 0 rfl) ?_
        refine gs_X0_43_1 E hI ha dX0_layWanted_33 ?_
        refine lv_topi (fun f_11 ef_11 => ?_)
        replace hF := q_letX hF ef_11
        refine lv_iload_n hx hb dX0_layWanted_36 rfl (lv_at hl 1 rfl) ?_
        refine lv_aload_n hx hb dX0_layWanted_37 rfl (lv_at hl 0 rfl) ?_
        refine gs_X0_58_1 E hI ha dX0_layWanted_38 ?_
        refine lv_iload_n hx hb dX0_layWanted_41 rfl (lv_at hl 1 rfl) ?_
        refine q_ci (q_rV4_1 (rest := [.int x_5, .int f_11, .ref (q_rf X a 1)]) E (hml.trans hl.1.symm) hI (c_X5_get l X σ_6 (q_rf X a 8) x_5 (q_tk (k' := 5) hI ha rfl (Nat.succ_ne_zero _))) kv_X0_113 (q_tk (k' := 5) hI ha rfl (Nat.succ_ne_zero _)) ⟨Nat.le_of_ble_eq_true rfl, Nat.le_of_ble_eq_true rfl⟩ (Nat.le_of_ble_eq_true rfl) dX0_layWanted_42) hI (Nat.le_of_ble_eq_true rfl) (fun r_12 σ_13 H locs hpσ_13 hkσ_13 hI => ?_)
        have ahpσ_13 := hpσ_13.1
        have bhpσ_13 := hpσ_13.2
        clear hpσ_13
        replace hI := q_Irw ahpσ_13 hI
        replace hF := q_letX hF bhpσ_13
        refine q_cv (q_rV1_3 (rest := []) E (hml.trans hl.1.symm) hI (c_X1_moveToHeap l X σ_6 (q_rf X a 1) f_11 x_5 r_12 (q_tk (k' := 2) hI ha rfl (Nat.succ_ne_zero _))) kv_X0_120 (q_tk (k' := 2) hI ha rfl (Nat.succ_ne_zero _)) ⟨Nat.le_of_ble_eq_true rfl, Nat.le_of_ble_eq_true rfl⟩ (Nat.le_of_ble_eq_true rfl) dX0_layWanted_45) hI (Nat.le_of_ble_eq_true rfl) (fun σ_15 H locs hpσ_15 hkσ_15 hI => ?_)
        have ahpσ_15 := hpσ_15.1
        have bhpσ_15 := hpσ_15.2
        clear hpσ_15
        have fr_σ_15 := fr_σ_6.call bhpσ_15 rfl rfl
        replace hF := q_letX hF ahpσ_15
        refine lv_aload_n hx hb dX0_layWanted_48 rfl (lv_at hl 0 rfl) ?_
        refine gs_X0_28_1 E hI ha dX0_layWanted_49 ?_
        refine lv_iload_n hx hb dX0_layWanted_52 rfl (lv_at hl 1 rfl) ?_
        refine lv_aload_n hx hb dX0_layWanted_53 rfl (lv_at hl 0 rfl) ?_
        refine gs_X0_58_1 E hI ha dX0_layWanted_54 ?_
        refine lv_iload_n hx hb dX0_layWanted_57 rfl (lv_at hl 1 rfl) ?_
        refine q_ci (q_rV4_1 (rest := [.int x_5, .ref (q_rf X a 2)]) E (hml.trans hl.1.symm) hI (c_X5_get l X σ_15 (q_rf X a 8) x_5 (q_tk (k' := 5) hI ha rfl (Nat.succ_ne_zero _))) kv_X0_113 (q_tk (k' := 5) hI ha rfl (Nat.succ_ne_zero _)) ⟨Nat.le_of_ble_eq_true rfl, Nat.le_of_ble_eq_true rfl⟩ (Nat.le_of_ble_eq_true rfl) dX0_layWanted_58) hI (Nat.le_of_ble_eq_true rfl) (fun r_16 σ_17 H locs hpσ_17 hkσ_17 hI => ?_)
        have ahpσ_17 := hpσ_17.1
        have bhpσ_17 := hpσ_17.2
        clear hpσ_17
        replace hI := q_Irw ahpσ_17 hI
        replace hF := q_letX hF bhpσ_17
        refine q_cv (q_rV2_2 (rest := []) E (hml.trans hl.1.symm) hI (c_X2_add l X σ_15 (q_rf X a 2) x_5 r_16 (q_tk (k' := 3) hI ha rfl (Nat.succ_ne_zero _))) kv_X0_124 (q_tk (k' := 3) hI ha rfl (Nat.succ_ne_zero _)) ⟨Nat.le_of_ble_eq_true rfl, Nat.le_of_ble_eq_true rfl⟩ (Nat.le_of_ble_eq_true rfl) dX0_layWanted_61) hI (Nat.le_of_ble_eq_true rfl) (fun σ_19 H locs hpσ_19 hkσ_19 hI => ?_)
        have ahpσ_19 := hpσ_19.1
        have bhpσ_19 := hpσ_19.2
        clear hpσ_19
        have fr_σ_19 := fr_σ_15.call bhpσ_19 rfl rfl
        replace hF := q_letX hF ahpσ_19
        obtain ⟨z_20, ez_20⟩ : ∃ y : Int32, y = x_5 + 1 := ⟨_, rfl⟩
        replace hF := q_letX hF ez_20
        refine lv_iinc (v := z_20) (lv' := [(1, .int z_20), (0, .ref a)]) hx hb dX0_layWanted_64 hl (k := 1) rfl (by rw [ez_20]; rfl) (by decide) rfl (fun ls hl => ?_)
        have iz_20 : z_20.toInt = x_5.toInt + 1 := q_inc ez_20 (by first | (clear ahpσ_4 bhpσ_4 hm17 gc_9_f_8 ahpσ_13 bhpσ_13 ahpσ_15 bhpσ_15 ahpσ_17 bhpσ_17 ahpσ_19 bhpσ_19; omega) | omega)
        refine lv_goto (tgt := 17) hx hb dX0_layWanted_67 (by decide) ?_
        exact ih17 z_20 σ_19 _ _ ls (by first | (clear ahpσ_4 bhpσ_4 gc_9_f_8 ahpσ_13 bhpσ_13 ahpσ_15 bhpσ_15 ahpσ_17 bhpσ_17 ahpσ_19 bhpσ_19; omega) | omega) (by omega) fr_σ_19 hF hI (lv_sub hl [1, 0] rfl)
  exact L_17_7 ((2147483647 - (0 : Int32).toInt).toNat + 1) 0 σ_4 _ _ ls (Nat.lt_succ_self _) (by decide) fr_σ_4 hF hI (lv_sub hl [1, 0] rfl)

set_option maxRecDepth 100000 in
set_option maxHeartbeats 4000000 in
theorem c_X0_winIfRid (l : Launch) (X : XW) (σ : ST) (a : Nat) (ha : q_kd X a = 1) : Met l yX0_winIfRid (q_ws yX0_winIfRid cX0_winIfRid 1 none) (q_rm 1 21) (q_P X σ [.ref a]) (q_Qv X 8 σ (fun (σ' : ST) => σ' = F_X0_winIfRid X σ a ∧ q_ow [(1, 6)] [] X σ σ')) 0 0 (q_reg X) := by
  refine q_met 8 (by first | exact rfl | decide +kernel) rfl (Nat.le_of_ble_eq_true rfl) (fun p e s m below meth c E hml hr hlk hI ls hl => ?_)
  have hx := E.1
  have hb := E.2.1
  have hl : lv_has ls 1 [(0, .ref a)] := hl
  have fr_σ : q_ow [(1, 6)] [] X σ σ := q_ow.rf
  obtain ⟨out, hout⟩ : ∃ o, o = F_X0_winIfRid X σ a := ⟨_, rfl⟩
  have hF := hout.symm
  unfold F_X0_winIfRid at hF
  refine lv_aload_n hx hb dX0_winIfRid_0 rfl (lv_at hl 0 rfl) ?_
  refine gs_X0_21_1 E hI ha dX0_winIfRid_1 ?_
  refine gs_X0_150_2 E hI (q_tk (k' := 2) hI ha rfl (Nat.succ_ne_zero _)) dX0_winIfRid_4 ?_
  refine lv_aload_n hx hb dX0_winIfRid_7 rfl (lv_at hl 0 rfl) ?_
  refine gs_X0_43_1 E hI ha dX0_winIfRid_8 ?_
  refine lv_topi (fun f_1 ef_1 => ?_)
  replace hF := q_letX hF ef_1
  refine q_ci (q_rV4_1 (rest := []) E (hml.trans hl.1.symm) hI (c_X5_get l X σ (q_rf X (q_rf X a 1) 2) f_1 (q_tk (k' := 5) hI (q_tk (k' := 2) hI ha rfl (Nat.succ_ne_zero _)) rfl (Nat.succ_ne_zero _))) kv_X0_113 (q_tk (k' := 5) hI (q_tk (k' := 2) hI ha rfl (Nat.succ_ne_zero _)) rfl (Nat.succ_ne_zero _)) ⟨Nat.le_of_ble_eq_true rfl, Nat.le_of_ble_eq_true rfl⟩ (Nat.le_of_ble_eq_true rfl) dX0_winIfRid_11) hI (Nat.le_of_ble_eq_true rfl) (fun r_2 σ_3 H locs hpσ_3 hkσ_3 hI => ?_)
  have ahpσ_3 := hpσ_3.1
  have bhpσ_3 := hpσ_3.2
  clear hpσ_3
  replace hI := q_Irw ahpσ_3 hI
  replace hF := q_letX hF bhpσ_3
  refine q_if_ne (A := r_2.toInt) E rfl (tgt := 25) dX0_winIfRid_14 (by decide) (fun c_4 => ?_) (fun c_4 => ?_)
  · skip
    replace hF := q_ifn hF c_4
    exact q_retv E hr hlk hI ⟨(hF.trans hout), fr_σ⟩ dX0_winIfRid_25
  · skip
    replace hF := q_ifp hF c_4
    refine lv_aload_n hx hb dX0_winIfRid_17 rfl (lv_at hl 0 rfl) ?_
    refine lv_aload_n hx hb dX0_winIfRid_18 rfl (lv_at hl 0 rfl) ?_
    refine gs_X0_43_1 E hI ha dX0_winIfRid_19 ?_
    refine lv_topi (fun f_5 ef_5 => ?_)
    replace hF := q_letX hF ef_5
    refine ps_X0_46_1 E hI ha (by decide) dX0_winIfRid_22 (fun H locs σ_6 hσ_6 hI => ?_)
    replace hF := q_letX hF hσ_6
    have fr_σ_6 := fr_σ.si hσ_6 ha rfl
    exact q_retv E hr hlk hI ⟨(hF.trans hout), fr_σ_6⟩ dX0_winIfRid_25

set_option maxRecDepth 100000 in
set_option maxHeartbeats 4000000 in
theorem c_X0_letLie (l : Launch) (X : XW) (σ : ST) (a : Nat) (ha : q_kd X a = 1) : Met l yX0_letLie (q_ws yX0_letLie cX0_letLie 1 none) (q_rm 2 44) (q_P X σ [.ref a]) (q_Qv X 8 σ (fun (σ' : ST) => σ' = F_X0_letLie X σ a ∧ q_ow [(1, 4), (1, 5), (1, 6), (1, 7)] [] X σ σ')) 0 0 (q_reg X) := by
  refine q_met 8 (by first | exact rfl | decide +kernel) rfl (Nat.le_of_ble_eq_true rfl) (fun p e s m below meth c E hml hr hlk hI ls hl => ?_)
  have hx := E.1
  have hb := E.2.1
  have hl : lv_has ls 1 [(0, .ref a)] := hl
  have fr_σ : q_ow [(1, 4), (1, 5), (1, 6), (1, 7)] [] X σ σ := q_ow.rf
  obtain ⟨out, hout⟩ : ∃ o, o = F_X0_letLie X σ a := ⟨_, rfl⟩
  have hF := hout.symm
  unfold F_X0_letLie at hF
  refine lv_aload_n hx hb dX0_letLie_0 rfl (lv_at hl 0 rfl) ?_
  refine lv_iconst (v := 0) hx hb dX0_letLie_1 zki_0 ?_
  refine ps_X0_49_1 E hI ha (by decide) (by decide) (by decide) dX0_letLie_2 (fun H locs σ_1 hσ_1 hI => ?_)
  replace hF := q_letX hF hσ_1
  have fr_σ_1 := fr_σ.si hσ_1 ha rfl
  refine lv_aload_n hx hb dX0_letLie_5 rfl (lv_at hl 0 rfl) ?_
  refine q_cv (q_rV0_0 (rest := []) E (hml.trans hl.1.symm) hI (c_X0_winIfRid l X σ_1 a ha) kv_X0_125 ha ⟨Nat.le_of_ble_eq_true rfl, Nat.le_of_ble_eq_true rfl⟩ (Nat.le_of_ble_eq_true rfl) dX0_letLie_6) hI (Nat.le_of_ble_eq_true rfl) (fun σ_3 H locs hpσ_3 hkσ_3 hI => ?_)
  have ahpσ_3 := hpσ_3.1
  have bhpσ_3 := hpσ_3.2
  clear hpσ_3
  have fr_σ_3 := fr_σ_1.call bhpσ_3 rfl rfl
  replace hF := q_letX hF ahpσ_3
  refine lv_aload_n hx hb dX0_letLie_9 rfl (lv_at hl 0 rfl) ?_
  refine lv_aload_n hx hb dX0_letLie_10 rfl (lv_at hl 0 rfl) ?_
  refine gs_X0_12_1 E hI ha dX0_letLie_11 ?_
  refine lv_aload_n hx hb dX0_letLie_14 rfl (lv_at hl 0 rfl) ?_
  refine gs_X0_39_1 E hI ha dX0_letLie_15 ?_
  refine lv_topi (fun f_4 ef_4 => ?_)
  replace hF := q_letX hF ef_4
  refine lv_iconst (v := 1) hx hb dX0_letLie_18 zki_1 ?_
  have kc_5 : (1 : Int32).toInt = 1 := zt_1
  refine q_ci (q_rV5_2 (rest := [.ref a]) E (hml.trans hl.1.symm) hI (c_X6_kindAfter l X σ_3 (q_rf X a 0) f_4 (1 : Int32) (q_tk (k' := 6) hI ha rfl (Nat.succ_ne_zero _))) kv_X0_128 (q_tk (k' := 6) hI ha rfl (Nat.succ_ne_zero _)) ⟨Nat.le_of_ble_eq_true rfl, Nat.le_of_ble_eq_true rfl⟩ (Nat.le_of_ble_eq_true rfl) dX0_letLie_19) hI (Nat.le_of_ble_eq_true rfl) (fun r_6 σ_7 H locs hpσ_7 hkσ_7 hI => ?_)
  have ahpσ_7 := hpσ_7.1
  have bhpσ_7 := hpσ_7.2
  clear hpσ_7
  replace hI := q_Irw ahpσ_7 hI
  replace hF := q_letX hF bhpσ_7
  refine ps_X0_39_1 E hI ha (by decide) dX0_letLie_22 (fun H locs σ_8 hσ_8 hI => ?_)
  replace hF := q_letX hF hσ_8
  have fr_σ_8 := fr_σ_3.si hσ_8 ha rfl
  refine lv_aload_n hx hb dX0_letLie_25 rfl (lv_at hl 0 rfl) ?_
  refine lv_aload_n hx hb dX0_letLie_26 rfl (lv_at hl 0 rfl) ?_
  refine gs_X0_12_1 E hI ha dX0_letLie_27 ?_
  refine lv_aload_n hx hb dX0_letLie_30 rfl (lv_at hl 0 rfl) ?_
  refine gs_X0_43_1 E hI ha dX0_letLie_31 ?_
  refine lv_topi (fun f_9 ef_9 => ?_)
  replace hF := q_letX hF ef_9
  refine lv_iconst (v := 1) hx hb dX0_letLie_34 zki_1 ?_
  have kc_10 : (1 : Int32).toInt = 1 := zt_1
  refine q_ci (q_rV5_2 (rest := [.ref a]) E (hml.trans hl.1.symm) hI (c_X6_playerAfter l X σ_8 (q_rf X a 0) f_9 (1 : Int32) (q_tk (k' := 6) hI ha rfl (Nat.succ_ne_zero _))) kv_X0_131 (q_tk (k' := 6) hI ha rfl (Nat.succ_ne_zero _)) ⟨Nat.le_of_ble_eq_true rfl, Nat.le_of_ble_eq_true rfl⟩ (Nat.le_of_ble_eq_true rfl) dX0_letLie_35) hI (Nat.le_of_ble_eq_true rfl) (fun r_11 σ_12 H locs hpσ_12 hkσ_12 hI => ?_)
  have ahpσ_12 := hpσ_12.1
  have bhpσ_12 := hpσ_12.2
  clear hpσ_12
  replace hI := q_Irw ahpσ_12 hI
  replace hF := q_letX hF bhpσ_12
  refine ps_X0_43_1 E hI ha (by decide) dX0_letLie_38 (fun H locs σ_13 hσ_13 hI => ?_)
  replace hF := q_letX hF hσ_13
  have fr_σ_13 := fr_σ_8.si hσ_13 ha rfl
  exact q_retv E hr hlk hI ⟨(hF.trans hout), fr_σ_13⟩ dX0_letLie_41

set_option maxRecDepth 100000 in
set_option maxHeartbeats 4000000 in
theorem c_X0_challenge (l : Launch) (X : XW) (σ : ST) (a : Nat) (v1 : Int32) (ha : q_kd X a = 1) : Met l yX0_challenge (q_ws yX0_challenge cX0_challenge 5 (some .int)) (q_rm 3 68) (q_P X σ [.ref a, .int v1]) (q_Qi X 8 σ (fun (r : Int32) (σ' : ST) => (r, σ') = F_X0_challenge X σ a v1 ∧ q_ow [(1, 4), (1, 5), (1, 6), (1, 7), (3, 0), (3, 1), (20, 99)] [] X σ σ')) 0 0 (q_reg X) := by
  refine q_met 8 (by first | exact rfl | decide +kernel) rfl (Nat.le_of_ble_eq_true rfl) (fun p e s m below meth c E hml hr hlk hI ls hl => ?_)
  have hx := E.1
  have hb := E.2.1
  have hl : lv_has ls 5 [(0, .ref a), (1, .int v1)] := hl
  have fr_σ : q_ow [(1, 4), (1, 5), (1, 6), (1, 7), (3, 0), (3, 1), (20, 99)] [] X σ σ := q_ow.rf
  obtain ⟨out, hout⟩ : ∃ o, o = F_X0_challenge X σ a v1 := ⟨_, rfl⟩
  have hF := hout.symm
  unfold F_X0_challenge at hF
  refine lv_aload_n hx hb dX0_challenge_0 rfl (lv_at hl 0 rfl) ?_
  refine gs_X0_28_1 E hI ha dX0_challenge_1 ?_
  refine q_ci (q_rV2_0 (rest := []) E (hml.trans hl.1.symm) hI (c_X2_topTruth l X σ (q_rf X a 2) (q_tk (k' := 3) hI ha rfl (Nat.succ_ne_zero _))) kv_X0_134 (q_tk (k' := 3) hI ha rfl (Nat.succ_ne_zero _)) ⟨Nat.le_of_ble_eq_true rfl, Nat.le_of_ble_eq_true rfl⟩ (Nat.le_of_ble_eq_true rfl) dX0_challenge_4) hI (Nat.le_of_ble_eq_true rfl) (fun r_1 σ_2 H locs hpσ_2 hkσ_2 hI => ?_)
  have ahpσ_2 := hpσ_2.1
  have bhpσ_2 := hpσ_2.2
  clear hpσ_2
  replace hI := q_Irw ahpσ_2 hI
  replace hF := q_letX hF bhpσ_2
  have J_15_3 : ∀ (x_3 : Int32) (H : Heap) (locs : List Loc) (ls : Array Slot), (F_X0_challenge_J15_1 X σ a v1 x_3 = out) → q_I X 8 σ s.heap locs σ H → lv_has ls 5 [(0, .ref a), (1, .int v1)] → W p l e (q_rm 3 68) s m ([.ref a, .int v1] : List Value).toArray below meth c H locs 0 0 (MQ below (q_Qi X 8 σ (fun (r : Int32) (σ' : ST) => (r, σ') = F_X0_challenge X σ a v1 ∧ q_ow [(1, 4), (1, 5), (1, 6), (1, 7), (3, 0), (3, 1), (20, 99)] [] X σ σ')) ([.ref a, .int v1] : List Value).toArray s 0 0 (q_reg X)) (F0 m 15 ls [.int x_3]) := by
    clear hF
    intro x_3 H locs ls  hF hI hl
    unfold F_X0_challenge_J15_1 at hF
    refine lv_istore_n (lv' := [(2, .int x_3), (0, .ref a), (1, .int v1)]) hx hb dX0_challenge_15 rfl hl (by decide) rfl (fun ls hl => ?_)
    refine lv_iload_n hx hb dX0_challenge_16 rfl (lv_at hl 0 rfl) ?_
    have J_28_4 : ∀ (x_4 : Int32) (H : Heap) (locs : List Loc) (ls : Array Slot), (F_X0_challenge_J28_2 X x_3 σ a v1 x_4 = out) → q_I X 8 σ s.heap locs σ H → lv_has ls 5 [(0, .ref a), (1, .int v1), (2, .int x_3)] → W p l e (q_rm 3 68) s m ([.ref a, .int v1] : List Value).toArray below meth c H locs 0 0 (MQ below (q_Qi X 8 σ (fun (r : Int32) (σ' : ST) => (r, σ') = F_X0_challenge X σ a v1 ∧ q_ow [(1, 4), (1, 5), (1, 6), (1, 7), (3, 0), (3, 1), (20, 99)] [] X σ σ')) ([.ref a, .int v1] : List Value).toArray s 0 0 (q_reg X)) (F0 m 28 ls [.int x_4]) := by
      clear hF
      intro x_4 H locs ls  hF hI hl
      unfold F_X0_challenge_J28_2 at hF
      refine lv_istore_n (lv' := [(3, .int x_4), (0, .ref a), (1, .int v1), (2, .int x_3)]) hx hb dX0_challenge_28 rfl hl (by decide) rfl (fun ls hl => ?_)
      refine lv_iload_n hx hb dX0_challenge_29 rfl (lv_at hl 3 rfl) ?_
      have J_41_5 : ∀ (x_5 : Int32) (H : Heap) (locs : List Loc) (ls : Array Slot), (F_X0_challenge_J41_3 X σ a x_3 x_4 x_5 = out) → q_I X 8 σ s.heap locs σ H → lv_has ls 5 [(0, .ref a), (1, .int v1), (2, .int x_3), (3, .int x_4)] → W p l e (q_rm 3 68) s m ([.ref a, .int v1] : List Value).toArray below meth c H locs 0 0 (MQ below (q_Qi X 8 σ (fun (r : Int32) (σ' : ST) => (r, σ') = F_X0_challenge X σ a v1 ∧ q_ow [(1, 4), (1, 5), (1, 6), (1, 7), (3, 0), (3, 1), (20, 99)] [] X σ σ')) ([.ref a, .int v1] : List Value).toArray s 0 0 (q_reg X)) (F0 m 41 ls [.int x_5]) := by
        clear hF
        intro x_5 H locs ls  hF hI hl
        unfold F_X0_challenge_J41_3 at hF
        refine lv_istore (lv' := [(4, .int x_5), (0, .ref a), (1, .int v1), (2, .int x_3), (3, .int x_4)]) hx hb dX0_challenge_41 hl (by decide) rfl (fun ls hl => ?_)
        refine lv_aload_n hx hb dX0_challenge_43 rfl (lv_at hl 1 rfl) ?_
        refine gs_X0_21_1 E hI ha dX0_challenge_44 ?_
        refine gs_X0_138_2 E hI (q_tk (k' := 2) hI ha rfl (Nat.succ_ne_zero _)) dX0_challenge_47 ?_
        refine lv_aload_n hx hb dX0_challenge_50 rfl (lv_at hl 1 rfl) ?_
        refine gs_X0_43_1 E hI ha dX0_challenge_51 ?_
        refine lv_topi (fun f_6 ef_6 => ?_)
        replace hF := q_letX hF ef_6
        refine lv_iconst (v := 1) hx hb dX0_challenge_54 zki_1 ?_
        have kc_7 : (1 : Int32).toInt = 1 := zt_1
        refine q_cv (q_rV4_2 (rest := []) E (hml.trans hl.1.symm) hI (c_X5_add l X σ (q_rf X (q_rf X a 1) 5) f_6 (1 : Int32) (q_tk (k' := 5) hI (q_tk (k' := 2) hI ha rfl (Nat.succ_ne_zero _)) rfl (Nat.succ_ne_zero _))) kv_X0_102 (q_tk (k' := 5) hI (q_tk (k' := 2) hI ha rfl (Nat.succ_ne_zero _)) rfl (Nat.succ_ne_zero _)) ⟨Nat.le_of_ble_eq_true rfl, Nat.le_of_ble_eq_true rfl⟩ (Nat.le_of_ble_eq_true rfl) dX0_challenge_55) hI (Nat.le_of_ble_eq_true rfl) (fun σ_9 H locs hpσ_9 hkσ_9 hI => ?_)
        have ahpσ_9 := hpσ_9.1
        have bhpσ_9 := hpσ_9.2
        clear hpσ_9
        have fr_σ_9 := fr_σ.call bhpσ_9 rfl rfl
        replace hF := q_letX hF ahpσ_9
        refine lv_iload_n hx hb dX0_challenge_58 rfl (lv_at hl 3 rfl) ?_
        refine q_if_eq (A := x_3.toInt) E rfl (tgt := 69) dX0_challenge_59 (by decide) (fun c_10 => ?_) (fun c_10 => ?_)
        · skip
          replace hF := q_ifp hF c_10
          refine lv_aload_n hx hb dX0_challenge_69 rfl (lv_at hl 1 rfl) ?_
          refine gs_X0_21_1 E hI ha dX0_challenge_70 ?_
          refine gs_X0_141_2 E hI (q_tk (k' := 2) hI ha rfl (Nat.succ_ne_zero _)) dX0_challenge_73 ?_
          refine lv_aload_n hx hb dX0_challenge_76 rfl (lv_at hl 1 rfl) ?_
          refine gs_X0_43_1 E hI ha dX0_challenge_77 ?_
          refine lv_topi (fun f_11 ef_11 => ?_)
          replace hF := q_letX hF ef_11
          refine lv_iconst (v := 1) hx hb dX0_challenge_80 zki_1 ?_
          have kc_12 : (1 : Int32).toInt = 1 := zt_1
          refine q_cv (q_rV4_2 (rest := []) E (hml.trans hl.1.symm) hI (c_X5_add l X σ_9 (q_rf X (q_rf X a 1) 6) f_11 (1 : Int32) (q_tk (k' := 5) hI (q_tk (k' := 2) hI ha rfl (Nat.succ_ne_zero _)) rfl (Nat.succ_ne_zero _))) kv_X0_102 (q_tk (k' := 5) hI (q_tk (k' := 2) hI ha rfl (Nat.succ_ne_zero _)) rfl (Nat.succ_ne_zero _)) ⟨Nat.le_of_ble_eq_true rfl, Nat.le_of_ble_eq_true rfl⟩ (Nat.le_of_ble_eq_true rfl) dX0_challenge_81) hI (Nat.le_of_ble_eq_true rfl) (fun σ_14 H locs hpσ_14 hkσ_14 hI => ?_)
          have ahpσ_14 := hpσ_14.1
          have bhpσ_14 := hpσ_14.2
          clear hpσ_14
          have fr_σ_14 := fr_σ_9.call bhpσ_14 rfl rfl
          replace hF := q_letX hF ahpσ_14
          refine lv_aload_n hx hb dX0_challenge_84 rfl (lv_at hl 1 rfl) ?_
          refine gs_X0_21_1 E hI ha dX0_challenge_85 ?_
          refine lv_iload_n hx hb dX0_challenge_88 rfl (lv_at hl 4 rfl) ?_
          refine q_cv (q_rV1_1 (rest := []) E (hml.trans hl.1.symm) hI (c_X1_takeHeap l X σ_14 (q_rf X a 1) x_4 (q_tk (k' := 2) hI ha rfl (Nat.succ_ne_zero _))) kv_X0_144 (q_tk (k' := 2) hI ha rfl (Nat.succ_ne_zero _)) ⟨Nat.le_of_ble_eq_true rfl, Nat.le_of_ble_eq_true rfl⟩ (Nat.le_of_ble_eq_true rfl) dX0_challenge_89) hI (Nat.le_of_ble_eq_true rfl) (fun σ_16 H locs hpσ_16 hkσ_16 hI => ?_)
          have ahpσ_16 := hpσ_16.1
          have bhpσ_16 := hpσ_16.2
          clear hpσ_16
          have fr_σ_16 := fr_σ_14.call bhpσ_16 rfl rfl
          replace hF := q_letX hF ahpσ_16
          refine lv_aload_n hx hb dX0_challenge_92 rfl (lv_at hl 1 rfl) ?_
          refine gs_X0_28_1 E hI ha dX0_challenge_93 ?_
          refine q_cv (q_rV2_0 (rest := []) E (hml.trans hl.1.symm) hI (c_X2_clear l X σ_16 (q_rf X a 2) (q_tk (k' := 3) hI ha rfl (Nat.succ_ne_zero _))) kv_X0_84 (q_tk (k' := 3) hI ha rfl (Nat.succ_ne_zero _)) ⟨Nat.le_of_ble_eq_true rfl, Nat.le_of_ble_eq_true rfl⟩ (Nat.le_of_ble_eq_true rfl) dX0_challenge_96) hI (Nat.le_of_ble_eq_true rfl) (fun σ_18 H locs hpσ_18 hkσ_18 hI => ?_)
          have ahpσ_18 := hpσ_18.1
          have bhpσ_18 := hpσ_18.2
          clear hpσ_18
          have fr_σ_18 := fr_σ_16.call bhpσ_18 rfl rfl
          replace hF := q_letX hF ahpσ_18
          refine lv_aload_n hx hb dX0_challenge_99 rfl (lv_at hl 1 rfl) ?_
          refine lv_iconst (v := 0) hx hb dX0_challenge_100 zki_0 ?_
          refine ps_X0_49_1 E hI ha (by decide) (by decide) (by decide) dX0_challenge_101 (fun H locs σ_19 hσ_19 hI => ?_)
          replace hF := q_letX hF hσ_19
          have fr_σ_19 := fr_σ_18.si hσ_19 ha rfl
          refine lv_aload_n hx hb dX0_challenge_104 rfl (lv_at hl 1 rfl) ?_
          refine lv_aload_n hx hb dX0_challenge_105 rfl (lv_at hl 1 rfl) ?_
          refine gs_X0_12_1 E hI ha dX0_challenge_106 ?_
          refine lv_aload_n hx hb dX0_challenge_109 rfl (lv_at hl 1 rfl) ?_
          refine gs_X0_39_1 E hI ha dX0_challenge_110 ?_
          refine lv_topi (fun f_20 ef_20 => ?_)
          replace hF := q_letX hF ef_20
          refine q_ci (q_rV5_1 (rest := [.ref a]) E (hml.trans hl.1.symm) hI (c_X6_kindAfterDoubt l X σ_19 (q_rf X a 0) f_20 (q_tk (k' := 6) hI ha rfl (Nat.succ_ne_zero _))) kv_X0_147 (q_tk (k' := 6) hI ha rfl (Nat.succ_ne_zero _)) ⟨Nat.le_of_ble_eq_true rfl, Nat.le_of_ble_eq_true rfl⟩ (Nat.le_of_ble_eq_true rfl) dX0_challenge_113) hI (Nat.le_of_ble_eq_true rfl) (fun r_21 σ_22 H locs hpσ_22 hkσ_22 hI => ?_)
          have ahpσ_22 := hpσ_22.1
          have bhpσ_22 := hpσ_22.2
          clear hpσ_22
          replace hI := q_Irw ahpσ_22 hI
          replace hF := q_letX hF bhpσ_22
          refine ps_X0_39_1 E hI ha (by decide) dX0_challenge_116 (fun H locs σ_23 hσ_23 hI => ?_)
          replace hF := q_letX hF hσ_23
          have fr_σ_23 := fr_σ_19.si hσ_23 ha rfl
          refine lv_aload_n hx hb dX0_challenge_119 rfl (lv_at hl 1 rfl) ?_
          refine lv_iload hx hb dX0_challenge_120 (lv_at hl 0 rfl) ?_
          refine ps_X0_43_1 E hI ha (by decide) dX0_challenge_122 (fun H locs σ_24 hσ_24 hI => ?_)
          replace hF := q_letX hF hσ_24
          have fr_σ_24 := fr_σ_23.si hσ_24 ha rfl
          refine lv_iload_n hx hb dX0_challenge_125 rfl (lv_at hl 4 rfl) ?_
          exact q_reti E hr hlk hI ⟨(hF.trans hout), fr_σ_24⟩ dX0_challenge_126
        · skip
          replace hF := q_ifn hF c_10
          refine lv_aload_n hx hb dX0_challenge_62 rfl (lv_at hl 1 rfl) ?_
          refine q_cv (q_rV0_0 (rest := []) E (hml.trans hl.1.symm) hI (c_X0_winIfRid l X σ_9 a ha) kv_X0_125 ha ⟨Nat.le_of_ble_eq_true rfl, Nat.le_of_ble_eq_true rfl⟩ (Nat.le_of_ble_eq_true rfl) dX0_challenge_63) hI (Nat.le_of_ble_eq_true rfl) (fun σ_26 H locs hpσ_26 hkσ_26 hI => ?_)
          have ahpσ_26 := hpσ_26.1
          have bhpσ_26 := hpσ_26.2
          clear hpσ_26
          have fr_σ_26 := fr_σ_9.call bhpσ_26 rfl rfl
          replace hF := q_letX hF ahpσ_26
          refine lv_goto (tgt := 84) hx hb dX0_challenge_66 (by decide) ?_
          refine lv_aload_n hx hb dX0_challenge_84 rfl (lv_at hl 1 rfl) ?_
          refine gs_X0_21_1 E hI ha dX0_challenge_85 ?_
          refine lv_iload_n hx hb dX0_challenge_88 rfl (lv_at hl 4 rfl) ?_
          refine q_cv (q_rV1_1 (rest := []) E (hml.trans hl.1.symm) hI (c_X1_takeHeap l X σ_26 (q_rf X a 1) x_4 (q_tk (k' := 2) hI ha rfl (Nat.succ_ne_zero _))) kv_X0_144 (q_tk (k' := 2) hI ha rfl (Nat.succ_ne_zero _)) ⟨Nat.le_of_ble_eq_true rfl, Nat.le_of_ble_eq_true rfl⟩ (Nat.le_of_ble_eq_true rfl) dX0_challenge_89) hI (Nat.le_of_ble_eq_true rfl) (fun σ_28 H locs hpσ_28 hkσ_28 hI => ?_)
          have ahpσ_28 := hpσ_28.1
          have bhpσ_28 := hpσ_28.2
          clear hpσ_28
          have fr_σ_28 := fr_σ_26.call bhpσ_28 rfl rfl
          replace hF := q_letX hF ahpσ_28
          refine lv_aload_n hx hb dX0_challenge_92 rfl (lv_at hl 1 rfl) ?_
          refine gs_X0_28_1 E hI ha dX0_challenge_93 ?_
          refine q_cv (q_rV2_0 (rest := []) E (hml.trans hl.1.symm) hI (c_X2_clear l X σ_28 (q_rf X a 2) (q_tk (k' := 3) hI ha rfl (Nat.succ_ne_zero _))) kv_X0_84 (q_tk (k' := 3) hI ha rfl (Nat.succ_ne_zero _)) ⟨Nat.le_of_ble_eq_true rfl, Nat.le_of_ble_eq_true rfl⟩ (Nat.le_of_ble_eq_true rfl) dX0_challenge_96) hI (Nat.le_of_ble_eq_true rfl) (fun σ_30 H locs hpσ_30 hkσ_30 hI => ?_)
          have ahpσ_30 := hpσ_30.1
          have bhpσ_30 := hpσ_30.2
          clear hpσ_30
          have fr_σ_30 := fr_σ_28.call bhpσ_30 rfl rfl
          replace hF := q_letX hF ahpσ_30
          refine lv_aload_n hx hb dX0_challenge_99 rfl (lv_at hl 1 rfl) ?_
          refine lv_iconst (v := 0) hx hb dX0_challenge_100 zki_0 ?_
          refine ps_X0_49_1 E hI ha (by decide) (by decide) (by decide) dX0_challenge_101 (fun H locs σ_31 hσ_31 hI => ?_)
          replace hF := q_letX hF hσ_31
          have fr_σ_31 := fr_σ_30.si hσ_31 ha rfl
          refine lv_aload_n hx hb dX0_challenge_104 rfl (lv_at hl 1 rfl) ?_
          refine lv_aload_n hx hb dX0_challenge_105 rfl (lv_at hl 1 rfl) ?_
          refine gs_X0_12_1 E hI ha dX0_challenge_106 ?_
          refine lv_aload_n hx hb dX0_challenge_109 rfl (lv_at hl 1 rfl) ?_
          refine gs_X0_39_1 E hI ha dX0_challenge_110 ?_
          refine lv_topi (fun f_32 ef_32 => ?_)
          replace hF := q_letX hF ef_32
          refine q_ci (q_rV5_1 (rest := [.ref a]) E (hml.trans hl.1.symm) hI (c_X6_kindAfterDoubt l X σ_31 (q_rf X a 0) f_32 (q_tk (k' := 6) hI ha rfl (Nat.succ_ne_zero _))) kv_X0_147 (q_tk (k' := 6) hI ha rfl (Nat.succ_ne_zero _)) ⟨Nat.le_of_ble_eq_true rfl, Nat.le_of_ble_eq_true rfl⟩ (Nat.le_of_ble_eq_true rfl) dX0_challenge_113) hI (Nat.le_of_ble_eq_true rfl) (fun r_33 σ_34 H locs hpσ_34 hkσ_34 hI => ?_)
          have ahpσ_34 := hpσ_34.1
          have bhpσ_34 := hpσ_34.2
          clear hpσ_34
          replace hI := q_Irw ahpσ_34 hI
          replace hF := q_letX hF bhpσ_34
          refine ps_X0_39_1 E hI ha (by decide) dX0_challenge_116 (fun H locs σ_35 hσ_35 hI => ?_)
          replace hF := q_letX hF hσ_35
          have fr_σ_35 := fr_σ_31.si hσ_35 ha rfl
          refine lv_aload_n hx hb dX0_challenge_119 rfl (lv_at hl 1 rfl) ?_
          refine lv_iload hx hb dX0_challenge_120 (lv_at hl 0 rfl) ?_
          refine ps_X0_43_1 E hI ha (by decide) dX0_challenge_122 (fun H locs σ_36 hσ_36 hI => ?_)
          replace hF := q_letX hF hσ_36
          have fr_σ_36 := fr_σ_35.si hσ_36 ha rfl
          refine lv_iload_n hx hb dX0_challenge_125 rfl (lv_at hl 4 rfl) ?_
          exact q_reti E hr hlk hI ⟨(hF.trans hout), fr_σ_36⟩ dX0_challenge_126
      refine q_if_eq (A := x_3.toInt) E rfl (tgt := 40) dX0_challenge_30 (by decide) (fun c_37 => ?_) (fun c_37 => ?_)
      · skip
        replace hF := q_ifp hF c_37
        refine lv_iload_n hx hb dX0_challenge_40 rfl (lv_at hl 2 rfl) ?_
        exact J_41_5 v1 _ _ ls hF hI (lv_sub hl [1, 2, 3, 0] rfl)
      · skip
        replace hF := q_ifn hF c_37
        refine lv_aload_n hx hb dX0_challenge_33 rfl (lv_at hl 1 rfl) ?_
        refine gs_X0_43_1 E hI ha dX0_challenge_34 ?_
        refine lv_topi (fun f_38 ef_38 => ?_)
        replace hF := q_letX hF ef_38
        refine lv_goto (tgt := 41) hx hb dX0_challenge_37 (by decide) ?_
        exact J_41_5 f_38 _ _ ls hF hI (lv_sub hl [1, 2, 3, 0] rfl)
    refine q_if_eq (A := x_3.toInt) E rfl (tgt := 24) dX0_challenge_17 (by decide) (fun c_39 => ?_) (fun c_39 => ?_)
    · skip
      replace hF := q_ifp hF c_39
      refine lv_aload_n hx hb dX0_challenge_24 rfl (lv_at hl 1 rfl) ?_
      refine gs_X0_43_1 E hI ha dX0_challenge_25 ?_
      refine lv_topi (fun f_40 ef_40 => ?_)
      replace hF := q_letX hF ef_40
      exact J_28_4 f_40 _ _ ls hF hI (lv_sub hl [1, 2, 0] rfl)
    · skip
      replace hF := q_ifn hF c_39
      refine lv_iload_n hx hb dX0_challenge_20 rfl (lv_at hl 2 rfl) ?_
      refine lv_goto (tgt := 28) hx hb dX0_challenge_21 (by decide) ?_
      exact J_28_4 v1 _ _ ls hF hI (lv_sub hl [1, 2, 0] rfl)
  refine q_if_ne (A := r_1.toInt) E rfl (tgt := 14) dX0_challenge_7 (by decide) (fun c_41 => ?_) (fun c_41 => ?_)
  · skip
    replace hF := q_ifn hF c_41
    refine lv_iconst (v := 0) hx hb dX0_challenge_14 zki_0 ?_
    exact J_15_3 0 _ _ ls hF hI (lv_sub hl [0, 1] rfl)
  · skip
    replace hF := q_ifp hF c_41
    refine lv_iconst (v := 1) hx hb dX0_challenge_10 zki_1 ?_
    refine lv_goto (tgt := 15) hx hb dX0_challenge_11 (by decide) ?_
    exact J_15_3 1 _ _ ls hF hI (lv_sub hl [0, 1] rfl)

set_option maxRecDepth 100000 in
set_option maxHeartbeats 4000000 in
theorem c_X0_unknownTo (l : Launch) (X : XW) (σ : ST) (a : Nat) (v1 : Int32) (v2 : Int32) (ha : q_kd X a = 1) : Met l yX0_unknownTo (q_ws yX0_unknownTo cX0_unknownTo 3 (some .int)) (q_rm 2 44) (q_P X σ [.ref a, .int v1, .int v2]) (q_Qi X 9 σ (fun (r : Int32) (σ' : ST) => σ' = σ ∧ r = F_X0_unknownTo X σ a v1 v2)) 0 0 (q_reg X) := by
  refine q_met 9 (by first | exact rfl | decide +kernel) rfl (Nat.le_of_ble_eq_true rfl) (fun p e s m below meth c E hml hr hlk hI ls hl => ?_)
  have hx := E.1
  have hb := E.2.1
  have hl : lv_has ls 3 [(0, .ref a), (1, .int v1), (2, .int v2)] := hl
  obtain ⟨out, hout⟩ : ∃ o, o = F_X0_unknownTo X σ a v1 v2 := ⟨_, rfl⟩
  have hF := hout.symm
  unfold F_X0_unknownTo at hF
  refine lv_aload_n hx hb dX0_unknownTo_0 rfl (lv_at hl 0 rfl) ?_
  refine gs_X0_12_1 E hI ha dX0_unknownTo_1 ?_
  refine gs_X0_153_6 E hI (q_tk (k' := 6) hI ha rfl (Nat.succ_ne_zero _)) dX0_unknownTo_4 ?_
  refine lv_iload_n hx hb dX0_unknownTo_7 rfl (lv_at hl 2 rfl) ?_
  refine q_ci (q_rV4_1 (rest := []) E (hml.trans hl.1.symm) hI (c_X5_get l X σ (q_rf X (q_rf X a 0) 5) v2 (q_tk (k' := 5) hI (q_tk (k' := 6) hI ha rfl (Nat.succ_ne_zero _)) rfl (Nat.succ_ne_zero _))) kv_X0_113 (q_tk (k' := 5) hI (q_tk (k' := 6) hI ha rfl (Nat.succ_ne_zero _)) rfl (Nat.succ_ne_zero _)) ⟨Nat.le_of_ble_eq_true rfl, Nat.le_of_ble_eq_true rfl⟩ (Nat.le_of_ble_eq_true rfl) dX0_unknownTo_8) hI (Nat.le_of_ble_eq_true rfl) (fun r_1 σ_2 H locs hpσ_2 hkσ_2 hI => ?_)
  have ahpσ_2 := hpσ_2.1
  have bhpσ_2 := hpσ_2.2
  clear hpσ_2
  replace hI := q_Irw ahpσ_2 hI
  replace hF := q_letX hF bhpσ_2
  refine lv_aload_n hx hb dX0_unknownTo_11 rfl (lv_at hl 0 rfl) ?_
  refine gs_X0_21_1 E hI ha dX0_unknownTo_12 ?_
  refine lv_iload_n hx hb dX0_unknownTo_15 rfl (lv_at hl 1 rfl) ?_
  refine lv_iload_n hx hb dX0_unknownTo_16 rfl (lv_at hl 2 rfl) ?_
  refine q_ci (q_rV1_2 (rest := [.int r_1]) E (hml.trans hl.1.symm) hI (c_X1_knownTo l X σ (q_rf X a 1) v1 v2 (q_tk (k' := 2) hI ha rfl (Nat.succ_ne_zero _))) kv_X0_156 (q_tk (k' := 2) hI ha rfl (Nat.succ_ne_zero _)) ⟨Nat.le_of_ble_eq_true rfl, Nat.le_of_ble_eq_true rfl⟩ (Nat.le_of_ble_eq_true rfl) dX0_unknownTo_17) hI (Nat.le_of_ble_eq_true rfl) (fun r_3 σ_4 H locs hpσ_4 hkσ_4 hI => ?_)
  have ahpσ_4 := hpσ_4.1
  have bhpσ_4 := hpσ_4.2
  clear hpσ_4
  replace hI := q_Irw ahpσ_4 hI
  replace hF := q_letX hF bhpσ_4
  refine lv_isub hx hb dX0_unknownTo_20 ?_
  refine lv_topi (fun z_5 ez_5 => ?_)
  replace hF := q_letX hF ez_5
  exact q_reti E hr hlk hI ⟨rfl, (hF.trans hout)⟩ dX0_unknownTo_21

set_option maxRecDepth 100000 in
set_option maxHeartbeats 4000000 in
theorem c_X0_allUnknownTo (l : Launch) (X : XW) (σ : ST) (a : Nat) (v1 : Int32) (ha : q_kd X a = 1) : Met l yX0_allUnknownTo (q_ws yX0_allUnknownTo cX0_allUnknownTo 4 (some .int)) (q_rm 3 66) (q_P X σ [.ref a, .int v1]) (q_Qi X 9 σ (fun (r : Int32) (σ' : ST) => σ' = σ ∧ r = F_X0_allUnknownTo X σ a v1)) 0 0 (q_reg X) := by
  refine q_met 9 (by first | exact rfl | decide +kernel) rfl (Nat.le_of_ble_eq_true rfl) (fun p e s m below meth c E hml hr hlk hI ls hl => ?_)
  have hx := E.1
  have hb := E.2.1
  have hl : lv_has ls 4 [(0, .ref a), (1, .int v1)] := hl
  obtain ⟨out, hout⟩ : ∃ o, o = F_X0_allUnknownTo X σ a v1 := ⟨_, rfl⟩
  have hF := hout.symm
  unfold F_X0_allUnknownTo at hF
  refine lv_iconst (v := 0) hx hb dX0_allUnknownTo_0 zki_0 ?_
  refine lv_istore_n (lv' := [(2, .int 0), (0, .ref a), (1, .int v1)]) hx hb dX0_allUnknownTo_1 rfl hl (by decide) rfl (fun ls hl => ?_)
  refine lv_iconst (v := 0) hx hb dX0_allUnknownTo_2 zki_0 ?_
  refine lv_istore_n (lv' := [(3, .int 0), (2, .int 0), (0, .ref a), (1, .int v1)]) hx hb dX0_allUnknownTo_3 rfl hl (by decide) rfl (fun ls hl => ?_)
  have L_4_3 : ∀ (k_3 : Nat) (x_1 : Int32) (x_2 : Int32) (H : Heap) (locs : List Loc) (ls : Array Slot), (2147483647 - x_2.toInt).toNat < k_3 → (0 ≤ x_2.toInt) → (F_X0_allUnknownTo_L4_1 X σ a v1 k_3 x_1 x_2 = out) → q_I X 9 σ s.heap locs σ H → lv_has ls 4 [(0, .ref a), (1, .int v1), (2, .int x_1), (3, .int x_2)] → W p l e (q_rm 3 66) s m ([.ref a, .int v1] : List Value).toArray below meth c H locs 0 0 (MQ below (q_Qi X 9 σ (fun (r : Int32) (σ' : ST) => σ' = σ ∧ r = F_X0_allUnknownTo X σ a v1)) ([.ref a, .int v1] : List Value).toArray s 0 0 (q_reg X)) (F0 m 4 ls []) := by
    clear hF
    intro k_3
    induction k_3 with
    | zero =>
      intro x_1 x_2 H locs ls hms
      exact absurd hms (Nat.not_lt_zero _)
    | succ k_3 ih4 =>
      intro x_1 x_2 H locs ls hm4 hge4 hF hI hl
      replace hF := (F_X0_allUnknownTo_L4_1_s).symm.trans hF
      unfold F_X0_allUnknownTo_B4_1 at hF
      refine lv_iload_n hx hb dX0_allUnknownTo_4 rfl (lv_at hl 3 rfl) ?_
      refine lv_aload_n hx hb dX0_allUnknownTo_5 rfl (lv_at hl 0 rfl) ?_
      refine gs_X0_12_1 E hI ha dX0_allUnknownTo_6 ?_
      refine gs_X0_106_6 E hI (q_tk (k' := 6) hI ha rfl (Nat.succ_ne_zero _)) dX0_allUnknownTo_9 ?_
      refine lv_topi (fun f_4 ef_4 => ?_)
      replace hF := q_letX hF ef_4
      have bf_4 : -2147483648 ≤ f_4.toInt ∧ f_4.toInt ≤ 10 := by rw [ef_4]; exact q_bd hI (q_tk (k' := 6) hI ha rfl (Nat.succ_ne_zero _)) rfl
      have gc_5_x_2 := q_rng x_2
      have gc_5_f_4 := q_rng f_4
      refine q_icmp_ge (A := x_2.toInt) (B := f_4.toInt) E rfl rfl (tgt := 30) dX0_allUnknownTo_12 (by decide) (fun c_5 => ?_) (fun c_5 => ?_)
      · skip
        replace hF := q_ifn hF (Int.not_lt.mpr c_5)
        skip
        refine lv_iload_n hx hb dX0_allUnknownTo_30 rfl (lv_at hl 2 rfl) ?_
        exact q_reti E hr hlk hI ⟨rfl, (hF.trans hout)⟩ dX0_allUnknownTo_31
      · skip
        replace hF := q_ifp hF c_5
        refine lv_iload_n hx hb dX0_allUnknownTo_15 rfl (lv_at hl 2 rfl) ?_
        refine lv_aload_n hx hb dX0_allUnknownTo_16 rfl (lv_at hl 0 rfl) ?_
        refine lv_iload_n hx hb dX0_allUnknownTo_17 rfl (lv_at hl 1 rfl) ?_
        refine lv_iload_n hx hb dX0_allUnknownTo_18 rfl (lv_at hl 3 rfl) ?_
        refine q_ci (q_rV0_2 (rest := [.int x_1]) E (hml.trans hl.1.symm) hI (c_X0_unknownTo l X σ a v1 x_2 ha) kv_X0_159 ha ⟨Nat.le_of_ble_eq_true rfl, Nat.le_of_ble_eq_true rfl⟩ (Nat.le_of_ble_eq_true rfl) dX0_allUnknownTo_19) hI (Nat.le_of_ble_eq_true rfl) (fun r_6 σ_7 H locs hpσ_7 hkσ_7 hI => ?_)
        have ahpσ_7 := hpσ_7.1
        have bhpσ_7 := hpσ_7.2
        clear hpσ_7
        replace hI := q_Irw ahpσ_7 hI
        replace hF := q_letX hF bhpσ_7
        refine lv_iadd hx hb dX0_allUnknownTo_22 ?_
        refine lv_topi (fun z_8 ez_8 => ?_)
        replace hF := q_letX hF ez_8
        refine lv_istore_n (lv' := [(2, .int z_8), (0, .ref a), (1, .int v1), (3, .int x_2)]) hx hb dX0_allUnknownTo_23 rfl hl (by decide) rfl (fun ls hl => ?_)
        obtain ⟨z_9, ez_9⟩ : ∃ y : Int32, y = x_2 + 1 := ⟨_, rfl⟩
        replace hF := q_letX hF ez_9
        refine lv_iinc (v := z_9) (lv' := [(3, .int z_9), (2, .int z_8), (0, .ref a), (1, .int v1)]) hx hb dX0_allUnknownTo_24 hl (k := 3) rfl (by rw [ez_9]; rfl) (by decide) rfl (fun ls hl => ?_)
        have iz_9 : z_9.toInt = x_2.toInt + 1 := q_inc ez_9 (by omega)
        refine lv_goto (tgt := 4) hx hb dX0_allUnknownTo_27 (by decide) ?_
        exact ih4 z_8 z_9 _ _ ls (by omega) (by omega) hF hI (lv_sub hl [2, 3, 1, 0] rfl)
  exact L_4_3 ((2147483647 - (0 : Int32).toInt).toNat + 1) 0 0 _ _ ls (Nat.lt_succ_self _) (by decide) hF hI (lv_sub hl [2, 3, 1, 0] rfl)

set_option maxRecDepth 100000 in
set_option maxHeartbeats 4000000 in
theorem c_X0_isImpossibleFor (l : Launch) (X : XW) (σ : ST) (a : Nat) (v1 : Int32) (ha : q_kd X a = 1) : Met l yX0_isImpossibleFor (q_ws yX0_isImpossibleFor cX0_isImpossibleFor 2 (some .boolean)) (q_rm 2 44) (q_P X σ [.ref a, .int v1]) (q_Qi X 9 σ (fun (r : Int32) (σ' : ST) => σ' = σ ∧ (0 ≤ r.toInt ∧ r.toInt ≤ 1) ∧ r = F_X0_isImpossibleFor X σ a v1)) 0 0 (q_reg X) := by
  refine q_met 9 (by first | exact rfl | decide +kernel) rfl (Nat.le_of_ble_eq_true rfl) (fun p e s m below meth c E hml hr hlk hI ls hl => ?_)
  have hx := E.1
  have hb := E.2.1
  have hl : lv_has ls 2 [(0, .ref a), (1, .int v1)] := hl
  obtain ⟨out, hout⟩ : ∃ o, o = F_X0_isImpossibleFor X σ a v1 := ⟨_, rfl⟩
  have hF := hout.symm
  unfold F_X0_isImpossibleFor at hF
  refine lv_aload_n hx hb dX0_isImpossibleFor_0 rfl (lv_at hl 0 rfl) ?_
  refine gs_X0_12_1 E hI ha dX0_isImpossibleFor_1 ?_
  refine gs_X0_153_6 E hI (q_tk (k' := 6) hI ha rfl (Nat.succ_ne_zero _)) dX0_isImpossibleFor_4 ?_
  refine lv_aload_n hx hb dX0_isImpossibleFor_7 rfl (lv_at hl 0 rfl) ?_
  refine gs_X0_39_1 E hI ha dX0_isImpossibleFor_8 ?_
  refine lv_topi (fun f_1 ef_1 => ?_)
  replace hF := q_letX hF ef_1
  refine q_ci (q_rV4_1 (rest := []) E (hml.trans hl.1.symm) hI (c_X5_get l X σ (q_rf X (q_rf X a 0) 5) f_1 (q_tk (k' := 5) hI (q_tk (k' := 6) hI ha rfl (Nat.succ_ne_zero _)) rfl (Nat.succ_ne_zero _))) kv_X0_113 (q_tk (k' := 5) hI (q_tk (k' := 6) hI ha rfl (Nat.succ_ne_zero _)) rfl (Nat.succ_ne_zero _)) ⟨Nat.le_of_ble_eq_true rfl, Nat.le_of_ble_eq_true rfl⟩ (Nat.le_of_ble_eq_true rfl) dX0_isImpossibleFor_11) hI (Nat.le_of_ble_eq_true rfl) (fun r_2 σ_3 H locs hpσ_3 hkσ_3 hI => ?_)
  have ahpσ_3 := hpσ_3.1
  have bhpσ_3 := hpσ_3.2
  clear hpσ_3
  replace hI := q_Irw ahpσ_3 hI
  replace hF := q_letX hF bhpσ_3
  refine lv_aload_n hx hb dX0_isImpossibleFor_14 rfl (lv_at hl 0 rfl) ?_
  refine gs_X0_21_1 E hI ha dX0_isImpossibleFor_15 ?_
  refine lv_iload_n hx hb dX0_isImpossibleFor_18 rfl (lv_at hl 1 rfl) ?_
  refine lv_aload_n hx hb dX0_isImpossibleFor_19 rfl (lv_at hl 0 rfl) ?_
  refine gs_X0_39_1 E hI ha dX0_isImpossibleFor_20 ?_
  refine lv_topi (fun f_4 ef_4 => ?_)
  replace hF := q_letX hF ef_4
  refine q_ci (q_rV1_2 (rest := [.int r_2]) E (hml.trans hl.1.symm) hI (c_X1_knownTo l X σ (q_rf X a 1) v1 f_4 (q_tk (k' := 2) hI ha rfl (Nat.succ_ne_zero _))) kv_X0_156 (q_tk (k' := 2) hI ha rfl (Nat.succ_ne_zero _)) ⟨Nat.le_of_ble_eq_true rfl, Nat.le_of_ble_eq_true rfl⟩ (Nat.le_of_ble_eq_true rfl) dX0_isImpossibleFor_23) hI (Nat.le_of_ble_eq_true rfl) (fun r_5 σ_6 H locs hpσ_6 hkσ_6 hI => ?_)
  have ahpσ_6 := hpσ_6.1
  have bhpσ_6 := hpσ_6.2
  clear hpσ_6
  replace hI := q_Irw ahpσ_6 hI
  replace hF := q_letX hF bhpσ_6
  refine lv_isub hx hb dX0_isImpossibleFor_26 ?_
  refine lv_topi (fun z_7 ez_7 => ?_)
  replace hF := q_letX hF ez_7
  refine lv_aload_n hx hb dX0_isImpossibleFor_27 rfl (lv_at hl 0 rfl) ?_
  refine gs_X0_28_1 E hI ha dX0_isImpossibleFor_28 ?_
  refine q_ci (q_rV2_0 (rest := [.int z_7]) E (hml.trans hl.1.symm) hI (c_X2_topSize l X σ (q_rf X a 2) (q_tk (k' := 3) hI ha rfl (Nat.succ_ne_zero _))) kv_X0_162 (q_tk (k' := 3) hI ha rfl (Nat.succ_ne_zero _)) ⟨Nat.le_of_ble_eq_true rfl, Nat.le_of_ble_eq_true rfl⟩ (Nat.le_of_ble_eq_true rfl) dX0_isImpossibleFor_31) hI (Nat.le_of_ble_eq_true rfl) (fun r_8 σ_9 H locs hpσ_9 hkσ_9 hI => ?_)
  have ahpσ_9 := hpσ_9.1
  have bhpσ_9 := hpσ_9.2
  clear hpσ_9
  replace hI := q_Irw ahpσ_9 hI
  replace hF := q_letX hF bhpσ_9
  refine q_icmp_ge (A := z_7.toInt) (B := r_8.toInt) E rfl rfl (tgt := 41) dX0_isImpossibleFor_34 (by decide) (fun c_10 => ?_) (fun c_10 => ?_)
  · skip
    replace hF := q_ifn hF (Int.not_lt.mpr c_10)
    refine lv_iconst (v := 0) hx hb dX0_isImpossibleFor_41 zki_0 ?_
    have hrv : (0 : Int32).toInt = 0 := zt_0
    exact q_retz E hr hlk hI ⟨by decide, by decide⟩ ⟨rfl, ⟨by decide, by decide⟩, (hF.trans hout)⟩ dX0_isImpossibleFor_42
  · skip
    replace hF := q_ifp hF c_10
    refine lv_iconst (v := 1) hx hb dX0_isImpossibleFor_37 zki_1 ?_
    refine lv_goto (tgt := 42) hx hb dX0_isImpossibleFor_38 (by decide) ?_
    have hrv : (1 : Int32).toInt = 1 := zt_1
    exact q_retz E hr hlk hI ⟨by decide, by decide⟩ ⟨rfl, ⟨by decide, by decide⟩, (hF.trans hout)⟩ dX0_isImpossibleFor_42

set_option maxRecDepth 100000 in
set_option maxHeartbeats 4000000 in
theorem c_X11_waysToTake (l : Launch) (X : XW) (σ : ST) (v0 : Int32) (v1 : Int32) : Met l yX11_waysToTake (q_ws yX11_waysToTake cX11_waysToTake 5 (some .long)) (q_rm 0 0) (q_P X σ [.int v0, .int v1]) (q_Ql X 9 σ (fun (r : Int64) (σ' : ST) => σ' = σ ∧ r = F_X11_waysToTake X σ v0 v1)) 0 0 (q_reg X) := by
  refine q_met 9 (by first | exact rfl | decide +kernel) rfl (Nat.le_of_ble_eq_true rfl) (fun p e s m below meth c E hml hr hlk hI ls hl => ?_)
  have hx := E.1
  have hb := E.2.1
  have hl : lv_has ls 5 [(0, .int v0), (1, .int v1)] := hl
  obtain ⟨out, hout⟩ : ∃ o, o = F_X11_waysToTake X σ v0 v1 := ⟨_, rfl⟩
  have hF := hout.symm
  unfold F_X11_waysToTake at hF
  refine lv_iload_n hx hb dX11_waysToTake_0 rfl (lv_at hl 1 rfl) ?_
  refine lv_iload_n hx hb dX11_waysToTake_1 rfl (lv_at hl 0 rfl) ?_
  have gc_1_v1 := q_rng v1
  have gc_1_v0 := q_rng v0
  refine q_icmp_le (A := v1.toInt) (B := v0.toInt) E rfl rfl (tgt := 7) dX11_waysToTake_2 (by decide) (fun c_1 => ?_) (fun c_1 => ?_)
  · skip
    replace hF := q_ifn hF (Int.not_lt.mpr c_1)
    refine lv_lconst (v := 1) hx hb dX11_waysToTake_7 (by decide) ?_
    refine lv_lstore_n (lv' := [(2, .long 1), (0, .int v0), (1, .int v1)]) hx hb dX11_waysToTake_8 rfl hl (by decide) rfl (fun ls hl => ?_)
    refine lv_iconst (v := 0) hx hb dX11_waysToTake_9 zki_0 ?_
    refine lv_istore (lv' := [(4, .int 0), (2, .long 1), (0, .int v0), (1, .int v1)]) hx hb dX11_waysToTake_10 hl (by decide) rfl (fun ls hl => ?_)
    have L_12_4 : ∀ (k_4 : Nat) (w_2 : Int64) (x_3 : Int32) (H : Heap) (locs : List Loc) (ls : Array Slot), (2147483647 - x_3.toInt).toNat < k_4 → (0 ≤ x_3.toInt) → (F_X11_waysToTake_L12_1 X v1 v0 k_4 w_2 x_3 = out) → q_I X 9 σ s.heap locs σ H → lv_has ls 5 [(0, .int v0), (1, .int v1), (2, .long w_2), (4, .int x_3)] → W p l e (q_rm 0 0) s m ([.int v0, .int v1] : List Value).toArray below meth c H locs 0 0 (MQ below (q_Ql X 9 σ (fun (r : Int64) (σ' : ST) => σ' = σ ∧ r = F_X11_waysToTake X σ v0 v1)) ([.int v0, .int v1] : List Value).toArray s 0 0 (q_reg X)) (F0 m 12 ls []) := by
      clear hF
      intro k_4
      induction k_4 with
      | zero =>
        intro w_2 x_3 H locs ls hms
        exact absurd hms (Nat.not_lt_zero _)
      | succ k_4 ih12 =>
        intro w_2 x_3 H locs ls hm12 hge12 hF hI hl
        replace hF := (F_X11_waysToTake_L12_1_s).symm.trans hF
        unfold F_X11_waysToTake_B12_1 at hF
        refine lv_iload hx hb dX11_waysToTake_12 (lv_at hl 3 rfl) ?_
        refine lv_iload_n hx hb dX11_waysToTake_14 rfl (lv_at hl 1 rfl) ?_
        have gc_5_x_3 := q_rng x_3
        have gc_5_v1 := q_rng v1
        refine q_icmp_ge (A := x_3.toInt) (B := v1.toInt) E rfl rfl (tgt := 38) dX11_waysToTake_15 (by decide) (fun c_5 => ?_) (fun c_5 => ?_)
        · skip
          replace hF := q_ifn hF (Int.not_lt.mpr c_5)
          skip
          refine lv_lload_n hx hb dX11_waysToTake_38 rfl (lv_at hl 2 rfl) ?_
          exact q_retl E hr hlk hI ⟨rfl, (hF.trans hout)⟩ dX11_waysToTake_39
        · skip
          replace hF := q_ifp hF c_5
          refine lv_lload_n hx hb dX11_waysToTake_18 rfl (lv_at hl 2 rfl) ?_
          refine lv_iload_n hx hb dX11_waysToTake_19 rfl (lv_at hl 0 rfl) ?_
          refine lv_iload hx hb dX11_waysToTake_20 (lv_at hl 3 rfl) ?_
          refine lv_isub hx hb dX11_waysToTake_22 ?_
          refine lv_topi (fun z_6 ez_6 => ?_)
          replace hF := q_letX hF ez_6
          refine lv_i2l hx hb dX11_waysToTake_23 rfl ?_
          refine lv_topl (fun y_7 ey_7 => ?_)
          replace hF := q_letX hF ey_7
          have ggy_7 := q_rng z_6
          have iy_7 : y_7.toInt = z_6.toInt := by rw [ey_7]; exact (q_i2l _).trans rfl
          refine lv_lmul hx hb dX11_waysToTake_24 ?_
          refine lv_topl (fun y_8 ey_8 => ?_)
          replace hF := q_letX hF ey_8
          refine lv_iload hx hb dX11_waysToTake_25 (lv_at hl 3 rfl) ?_
          refine lv_iconst (v := 1) hx hb dX11_waysToTake_27 zki_1 ?_
          refine lv_iadd hx hb dX11_waysToTake_28 ?_
          refine lv_topi (fun z_9 ez_9 => ?_)
          replace hF := q_letX hF ez_9
          have kc_10 : (1 : Int32).toInt = 1 := zt_1
          have iz_9 := q_add ez_9 (by first | (clear gc_1_v1 gc_1_v0 c_1 w_2 hm12 gc_5_v1 c_5 ggy_7 iy_7; omega) | omega) (by first | (clear gc_1_v0 c_1 w_2 hm12 gc_5_v1 ggy_7 iy_7; omega) | omega)
          refine lv_i2l hx hb dX11_waysToTake_29 rfl ?_
          refine lv_topl (fun y_11 ey_11 => ?_)
          replace hF := q_letX hF ey_11
          have ggy_11 := q_rng z_9
          have iy_11 : y_11.toInt = z_9.toInt := by rw [ey_11]; exact (q_i2l _).trans rfl
          refine lv_ldiv hx hb dX11_waysToTake_30 (q_ne0l (by first | (clear gc_1_v1 gc_1_v0 c_1 w_2 hm12 gc_5_v1 c_5 ggy_7 iy_7; omega) | omega)) ?_
          refine lv_topl (fun y_12 ey_12 => ?_)
          replace hF := q_letX hF ey_12
          refine lv_lstore_n (lv' := [(2, .long y_12), (0, .int v0), (1, .int v1), (4, .int x_3)]) hx hb dX11_waysToTake_31 rfl hl (by decide) rfl (fun ls hl => ?_)
          obtain ⟨z_13, ez_13⟩ : ∃ y : Int32, y = x_3 + 1 := ⟨_, rfl⟩
          replace hF := q_letX hF ez_13
          refine lv_iinc (v := z_13) (lv' := [(4, .int z_13), (2, .long y_12), (0, .int v0), (1, .int v1)]) hx hb dX11_waysToTake_32 hl (k := 3) rfl (by rw [ez_13]; rfl) (by decide) rfl (fun ls hl => ?_)
          have iz_13 : z_13.toInt = x_3.toInt + 1 := q_inc ez_13 (by first | (clear gc_1_v1 gc_1_v0 c_1 w_2 hm12 gc_5_v1 c_5 ggy_7 iy_7; omega) | omega)
          refine lv_goto (tgt := 12) hx hb dX11_waysToTake_35 (by decide) ?_
          exact ih12 y_12 z_13 _ _ ls (by first | (clear gc_1_v1 gc_1_v0 c_1 w_2 gc_5_v1 c_5 ggy_7 iy_7; omega) | omega) (by first | (clear gc_1_v1 gc_1_v0 c_1 w_2 hm12 gc_5_v1 c_5 ggy_7 iy_7; omega) | omega) hF hI (lv_sub hl [2, 3, 1, 0] rfl)
    exact L_12_4 ((2147483647 - (0 : Int32).toInt).toNat + 1) 1 0 _ _ ls (Nat.lt_succ_self _) (by decide) hF hI (lv_sub hl [2, 3, 1, 0] rfl)
  · skip
    replace hF := q_ifp hF c_1
    refine lv_lconst (v := 0) hx hb dX11_waysToTake_5 (by decide) ?_
    exact q_retl E hr hlk hI ⟨rfl, (hF.trans hout)⟩ dX11_waysToTake_6

set_option maxRecDepth 100000 in
set_option maxHeartbeats 4000000 in
theorem c_X0_trueWays (l : Launch) (X : XW) (σ : ST) (a : Nat) (v1 : Int32) (ha : q_kd X a = 1) : Met l yX0_trueWays (q_ws yX0_trueWays cX0_trueWays 2 (some .long)) (q_rm 3 66) (q_P X σ [.ref a, .int v1]) (q_Ql X 9 σ (fun (r : Int64) (σ' : ST) => σ' = σ ∧ r = F_X0_trueWays X σ a v1)) 0 0 (q_reg X) := by
  refine q_met 9 (by first | exact rfl | decide +kernel) rfl (Nat.le_of_ble_eq_true rfl) (fun p e s m below meth c E hml hr hlk hI ls hl => ?_)
  have hx := E.1
  have hb := E.2.1
  have hl : lv_has ls 2 [(0, .ref a), (1, .int v1)] := hl
  obtain ⟨out, hout⟩ : ∃ o, o = F_X0_trueWays X σ a v1 := ⟨_, rfl⟩
  have hF := hout.symm
  unfold F_X0_trueWays at hF
  refine lv_aload_n hx hb dX0_trueWays_0 rfl (lv_at hl 0 rfl) ?_
  refine lv_iload_n hx hb dX0_trueWays_1 rfl (lv_at hl 1 rfl) ?_
  refine lv_aload_n hx hb dX0_trueWays_2 rfl (lv_at hl 0 rfl) ?_
  refine gs_X0_39_1 E hI ha dX0_trueWays_3 ?_
  refine lv_topi (fun f_1 ef_1 => ?_)
  replace hF := q_letX hF ef_1
  refine q_ci (q_rV0_2 (rest := []) E (hml.trans hl.1.symm) hI (c_X0_unknownTo l X σ a v1 f_1 ha) kv_X0_159 ha ⟨Nat.le_of_ble_eq_true rfl, Nat.le_of_ble_eq_true rfl⟩ (Nat.le_of_ble_eq_true rfl) dX0_trueWays_6) hI (Nat.le_of_ble_eq_true rfl) (fun r_2 σ_3 H locs hpσ_3 hkσ_3 hI => ?_)
  have ahpσ_3 := hpσ_3.1
  have bhpσ_3 := hpσ_3.2
  clear hpσ_3
  replace hI := q_Irw ahpσ_3 hI
  replace hF := q_letX hF bhpσ_3
  refine lv_aload_n hx hb dX0_trueWays_9 rfl (lv_at hl 0 rfl) ?_
  refine gs_X0_28_1 E hI ha dX0_trueWays_10 ?_
  refine q_ci (q_rV2_0 (rest := [.int r_2]) E (hml.trans hl.1.symm) hI (c_X2_topSize l X σ (q_rf X a 2) (q_tk (k' := 3) hI ha rfl (Nat.succ_ne_zero _))) kv_X0_162 (q_tk (k' := 3) hI ha rfl (Nat.succ_ne_zero _)) ⟨Nat.le_of_ble_eq_true rfl, Nat.le_of_ble_eq_true rfl⟩ (Nat.le_of_ble_eq_true rfl) dX0_trueWays_13) hI (Nat.le_of_ble_eq_true rfl) (fun r_4 σ_5 H locs hpσ_5 hkσ_5 hI => ?_)
  have ahpσ_5 := hpσ_5.1
  have bhpσ_5 := hpσ_5.2
  clear hpσ_5
  replace hI := q_Irw ahpσ_5 hI
  replace hF := q_letX hF bhpσ_5
  refine q_cl_ (q_runN (As := [.int r_2, .int r_4]) (rest := []) E (hml.trans hl.1.symm) hI (c_X11_waysToTake l X σ r_2 r_4) ks_X0_165 rfl ⟨Nat.le_of_ble_eq_true rfl, Nat.le_of_ble_eq_true rfl⟩ ⟨Nat.le_refl _, Nat.le_refl _⟩ rfl (Nat.le_of_ble_eq_true rfl) dX0_trueWays_16) hI (Nat.le_of_ble_eq_true rfl) (fun r_6 σ_7 H locs hpσ_7 hkσ_7 hI => ?_)
  have ahpσ_7 := hpσ_7.1
  have bhpσ_7 := hpσ_7.2
  clear hpσ_7
  replace hI := q_Irw ahpσ_7 hI
  replace hF := q_letX hF bhpσ_7
  exact q_retl E hr hlk hI ⟨rfl, (hF.trans hout)⟩ dX0_trueWays_19

set_option maxRecDepth 100000 in
set_option maxHeartbeats 4000000 in
theorem c_X0_allWays (l : Launch) (X : XW) (σ : ST) (a : Nat) (v1 : Int32) (ha : q_kd X a = 1) : Met l yX0_allWays (q_ws yX0_allWays cX0_allWays 2 (some .long)) (q_rm 4 89) (q_P X σ [.ref a, .int v1]) (q_Ql X 9 σ (fun (r : Int64) (σ' : ST) => σ' = σ ∧ r = F_X0_allWays X σ a v1)) 0 0 (q_reg X) := by
  refine q_met 9 (by first | exact rfl | decide +kernel) rfl (Nat.le_of_ble_eq_true rfl) (fun p e s m below meth c E hml hr hlk hI ls hl => ?_)
  have hx := E.1
  have hb := E.2.1
  have hl : lv_has ls 2 [(0, .ref a), (1, .int v1)] := hl
  obtain ⟨out, hout⟩ : ∃ o, o = F_X0_allWays X σ a v1 := ⟨_, rfl⟩
  have hF := hout.symm
  unfold F_X0_allWays at hF
  refine lv_aload_n hx hb dX0_allWays_0 rfl (lv_at hl 0 rfl) ?_
  refine lv_iload_n hx hb dX0_allWays_1 rfl (lv_at hl 1 rfl) ?_
  refine q_ci (q_rV0_1 (rest := []) E (hml.trans hl.1.symm) hI (c_X0_allUnknownTo l X σ a v1 ha) kv_X0_169 ha ⟨Nat.le_of_ble_eq_true rfl, Nat.le_of_ble_eq_true rfl⟩ (Nat.le_of_ble_eq_true rfl) dX0_allWays_2) hI (Nat.le_of_ble_eq_true rfl) (fun r_1 σ_2 H locs hpσ_2 hkσ_2 hI => ?_)
  have ahpσ_2 := hpσ_2.1
  have bhpσ_2 := hpσ_2.2
  clear hpσ_2
  replace hI := q_Irw ahpσ_2 hI
  replace hF := q_letX hF bhpσ_2
  refine lv_aload_n hx hb dX0_allWays_5 rfl (lv_at hl 0 rfl) ?_
  refine gs_X0_28_1 E hI ha dX0_allWays_6 ?_
  refine q_ci (q_rV2_0 (rest := [.int r_1]) E (hml.trans hl.1.symm) hI (c_X2_topSize l X σ (q_rf X a 2) (q_tk (k' := 3) hI ha rfl (Nat.succ_ne_zero _))) kv_X0_162 (q_tk (k' := 3) hI ha rfl (Nat.succ_ne_zero _)) ⟨Nat.le_of_ble_eq_true rfl, Nat.le_of_ble_eq_true rfl⟩ (Nat.le_of_ble_eq_true rfl) dX0_allWays_9) hI (Nat.le_of_ble_eq_true rfl) (fun r_3 σ_4 H locs hpσ_4 hkσ_4 hI => ?_)
  have ahpσ_4 := hpσ_4.1
  have bhpσ_4 := hpσ_4.2
  clear hpσ_4
  replace hI := q_Irw ahpσ_4 hI
  replace hF := q_letX hF bhpσ_4
  refine q_cl_ (q_runN (As := [.int r_1, .int r_3]) (rest := []) E (hml.trans hl.1.symm) hI (c_X11_waysToTake l X σ r_1 r_3) ks_X0_165 rfl ⟨Nat.le_of_ble_eq_true rfl, Nat.le_of_ble_eq_true rfl⟩ ⟨Nat.le_refl _, Nat.le_refl _⟩ rfl (Nat.le_of_ble_eq_true rfl) dX0_allWays_12) hI (Nat.le_of_ble_eq_true rfl) (fun r_5 σ_6 H locs hpσ_6 hkσ_6 hI => ?_)
  have ahpσ_6 := hpσ_6.1
  have bhpσ_6 := hpσ_6.2
  clear hpσ_6
  replace hI := q_Irw ahpσ_6 hI
  replace hF := q_letX hF bhpσ_6
  exact q_retl E hr hlk hI ⟨rfl, (hF.trans hout)⟩ dX0_allWays_15

set_option maxRecDepth 100000 in
set_option maxHeartbeats 4000000 in
theorem c_X0_worthTop (l : Launch) (X : XW) (σ : ST) (a : Nat) (v1 : Int32) (ha : q_kd X a = 1) : Met l yX0_worthTop (q_ws yX0_worthTop cX0_worthTop 2 (some .long)) (q_rm 5 110) (q_P X σ [.ref a, .int v1]) (q_Ql X 9 σ (fun (r : Int64) (σ' : ST) => σ' = σ ∧ r = F_X0_worthTop X σ a v1)) 0 0 (q_reg X) := by
  refine q_met 9 (by first | exact rfl | decide +kernel) rfl (Nat.le_of_ble_eq_true rfl) (fun p e s m below meth c E hml hr hlk hI ls hl => ?_)
  have hx := E.1
  have hb := E.2.1
  have hl : lv_has ls 2 [(0, .ref a), (1, .int v1)] := hl
  obtain ⟨out, hout⟩ : ∃ o, o = F_X0_worthTop X σ a v1 := ⟨_, rfl⟩
  have hF := hout.symm
  unfold F_X0_worthTop at hF
  refine lv_aload_n hx hb dX0_worthTop_0 rfl (lv_at hl 0 rfl) ?_
  refine gs_X0_28_1 E hI ha dX0_worthTop_1 ?_
  refine gs_X0_172_3 E hI (q_tk (k' := 3) hI ha rfl (Nat.succ_ne_zero _)) dX0_worthTop_4 ?_
  refine lv_topi (fun f_1 ef_1 => ?_)
  replace hF := q_letX hF ef_1
  refine lv_i2l hx hb dX0_worthTop_7 rfl ?_
  refine lv_topl (fun y_2 ey_2 => ?_)
  replace hF := q_letX hF ey_2
  refine lv_aload_n hx hb dX0_worthTop_8 rfl (lv_at hl 0 rfl) ?_
  refine lv_iload_n hx hb dX0_worthTop_9 rfl (lv_at hl 1 rfl) ?_
  refine q_cl_ (q_rV0_1 (rest := [.long y_2]) E (hml.trans hl.1.symm) hI (c_X0_allWays l X σ a v1 ha) kv_X0_174 ha ⟨Nat.le_of_ble_eq_true rfl, Nat.le_of_ble_eq_true rfl⟩ (Nat.le_of_ble_eq_true rfl) dX0_worthTop_10) hI (Nat.le_of_ble_eq_true rfl) (fun r_3 σ_4 H locs hpσ_4 hkσ_4 hI => ?_)
  have ahpσ_4 := hpσ_4.1
  have bhpσ_4 := hpσ_4.2
  clear hpσ_4
  replace hI := q_Irw ahpσ_4 hI
  replace hF := q_letX hF bhpσ_4
  refine lv_ldc2 (v := 2) hx hb E.2.2.1 (E.2.2.2.1 _ (q_in_t6 (i := 15) (by first | rfl | decide +kernel) rfl)) dX0_worthTop_13 ?_
  refine lv_aload_n hx hb dX0_worthTop_16 rfl (lv_at hl 0 rfl) ?_
  refine lv_iload_n hx hb dX0_worthTop_17 rfl (lv_at hl 1 rfl) ?_
  refine q_cl_ (q_rV0_1 (rest := [.long 2, .long r_3, .long y_2]) E (hml.trans hl.1.symm) hI (c_X0_trueWays l X σ a v1 ha) kv_X0_180 ha ⟨Nat.le_of_ble_eq_true rfl, Nat.le_of_ble_eq_true rfl⟩ (Nat.le_of_ble_eq_true rfl) dX0_worthTop_18) hI (Nat.le_of_ble_eq_true rfl) (fun r_5 σ_6 H locs hpσ_6 hkσ_6 hI => ?_)
  have ahpσ_6 := hpσ_6.1
  have bhpσ_6 := hpσ_6.2
  clear hpσ_6
  replace hI := q_Irw ahpσ_6 hI
  replace hF := q_letX hF bhpσ_6
  refine lv_lmul hx hb dX0_worthTop_21 ?_
  refine lv_topl (fun y_7 ey_7 => ?_)
  replace hF := q_letX hF ey_7
  refine lv_lsub hx hb dX0_worthTop_22 ?_
  refine lv_topl (fun y_8 ey_8 => ?_)
  replace hF := q_letX hF ey_8
  refine lv_lmul hx hb dX0_worthTop_23 ?_
  refine lv_topl (fun y_9 ey_9 => ?_)
  replace hF := q_letX hF ey_9
  exact q_retl E hr hlk hI ⟨rfl, (hF.trans hout)⟩ dX0_worthTop_24

set_option maxRecDepth 100000 in
set_option maxHeartbeats 4000000 in
theorem c_X0_turnsAhead (l : Launch) (X : XW) (σ : ST) (a : Nat) (v1 : Int32) (ha : q_kd X a = 1) : Met l yX0_turnsAhead (q_ws yX0_turnsAhead cX0_turnsAhead 3 (some .int)) (q_rm 2 44) (q_P X σ [.ref a, .int v1]) (q_Qi X 9 σ (fun (r : Int32) (σ' : ST) => σ' = σ ∧ r = F_X0_turnsAhead X σ a v1)) 0 0 (q_reg X) := by
  refine q_met 9 (by first | exact rfl | decide +kernel) rfl (Nat.le_of_ble_eq_true rfl) (fun p e s m below meth c E hml hr hlk hI ls hl => ?_)
  have hx := E.1
  have hb := E.2.1
  have hl : lv_has ls 3 [(0, .ref a), (1, .int v1)] := hl
  obtain ⟨out, hout⟩ : ∃ o, o = F_X0_turnsAhead X σ a v1 := ⟨_, rfl⟩
  have hF := hout.symm
  unfold F_X0_turnsAhead at hF
  refine lv_aload_n hx hb dX0_turnsAhead_0 rfl (lv_at hl 0 rfl) ?_
  refine gs_X0_12_1 E hI ha dX0_turnsAhead_1 ?_
  refine lv_iload_n hx hb dX0_turnsAhead_4 rfl (lv_at hl 1 rfl) ?_
  refine lv_aload_n hx hb dX0_turnsAhead_5 rfl (lv_at hl 0 rfl) ?_
  refine gs_X0_43_1 E hI ha dX0_turnsAhead_6 ?_
  refine lv_topi (fun f_1 ef_1 => ?_)
  replace hF := q_letX hF ef_1
  refine lv_isub hx hb dX0_turnsAhead_9 ?_
  refine lv_topi (fun z_2 ez_2 => ?_)
  replace hF := q_letX hF ez_2
  refine lv_iconst (v := 0) hx hb dX0_turnsAhead_10 zki_0 ?_
  have kc_3 : (0 : Int32).toInt = 0 := zt_0
  refine q_ci (q_rV5_2 (rest := []) E (hml.trans hl.1.symm) hI (c_X6_playerAfter l X σ (q_rf X a 0) z_2 (0 : Int32) (q_tk (k' := 6) hI ha rfl (Nat.succ_ne_zero _))) kv_X0_131 (q_tk (k' := 6) hI ha rfl (Nat.succ_ne_zero _)) ⟨Nat.le_of_ble_eq_true rfl, Nat.le_of_ble_eq_true rfl⟩ (Nat.le_of_ble_eq_true rfl) dX0_turnsAhead_11) hI (Nat.le_of_ble_eq_true rfl) (fun r_4 σ_5 H locs hpσ_5 hkσ_5 hI => ?_)
  have ahpσ_5 := hpσ_5.1
  have bhpσ_5 := hpσ_5.2
  clear hpσ_5
  replace hI := q_Irw ahpσ_5 hI
  replace hF := q_letX hF bhpσ_5
  refine lv_istore_n (lv' := [(2, .int r_4), (0, .ref a), (1, .int v1)]) hx hb dX0_turnsAhead_14 rfl hl (by decide) rfl (fun ls hl => ?_)
  refine lv_iload_n hx hb dX0_turnsAhead_15 rfl (lv_at hl 0 rfl) ?_
  refine q_if_ne (A := r_4.toInt) E rfl (tgt := 36) dX0_turnsAhead_16 (by decide) (fun c_6 => ?_) (fun c_6 => ?_)
  · skip
    replace hF := q_ifn hF c_6
    refine lv_iload_n hx hb dX0_turnsAhead_36 rfl (lv_at hl 0 rfl) ?_
    exact q_reti E hr hlk hI ⟨rfl, (hF.trans hout)⟩ dX0_turnsAhead_37
  · skip
    replace hF := q_ifp hF c_6
    refine lv_aload_n hx hb dX0_turnsAhead_19 rfl (lv_at hl 1 rfl) ?_
    refine gs_X0_49_1 E hI ha dX0_turnsAhead_20 ?_
    refine lv_topi (fun f_7 ef_7 => ?_)
    replace hF := q_letX hF ef_7
    have bf_7 : 0 ≤ f_7.toInt ∧ f_7.toInt ≤ 1 := by rw [ef_7]; exact q_bd hI ha rfl
    refine q_if_eq (A := f_7.toInt) E rfl (tgt := 36) dX0_turnsAhead_23 (by decide) (fun c_8 => ?_) (fun c_8 => ?_)
    · skip
      replace hF := q_ifp hF c_8
      refine lv_iload_n hx hb dX0_turnsAhead_36 rfl (lv_at hl 0 rfl) ?_
      exact q_reti E hr hlk hI ⟨rfl, (hF.trans hout)⟩ dX0_turnsAhead_37
    · skip
      replace hF := q_ifn hF c_8
      refine lv_aload_n hx hb dX0_turnsAhead_26 rfl (lv_at hl 1 rfl) ?_
      refine gs_X0_12_1 E hI ha dX0_turnsAhead_27 ?_
      refine gs_X0_183_6 E hI (q_tk (k' := 6) hI ha rfl (Nat.succ_ne_zero _)) dX0_turnsAhead_30 ?_
      refine lv_topi (fun f_9 ef_9 => ?_)
      replace hF := q_letX hF ef_9
      refine lv_goto (tgt := 37) hx hb dX0_turnsAhead_33 (by decide) ?_
      exact q_reti E hr hlk hI ⟨rfl, (hF.trans hout)⟩ dX0_turnsAhead_37

set_option maxRecDepth 100000 in
set_option maxHeartbeats 4000000 in
theorem c_X0_fallingKind (l : Launch) (X : XW) (σ : ST) (a : Nat) (v1 : Int32) (v2 : Int32) (ha : q_kd X a = 1) : Met l yX0_fallingKind (q_ws yX0_fallingKind cX0_fallingKind 3 (some .int)) (q_rm 3 66) (q_P X σ [.ref a, .int v1, .int v2]) (q_Qi X 9 σ (fun (r : Int32) (σ' : ST) => σ' = σ ∧ r = F_X0_fallingKind X σ a v1 v2)) 0 0 (q_reg X) := by
  refine q_met 9 (by first | exact rfl | decide +kernel) rfl (Nat.le_of_ble_eq_true rfl) (fun p e s m below meth c E hml hr hlk hI ls hl => ?_)
  have hx := E.1
  have hb := E.2.1
  have hl : lv_has ls 3 [(0, .ref a), (1, .int v1), (2, .int v2)] := hl
  obtain ⟨out, hout⟩ : ∃ o, o = F_X0_fallingKind X σ a v1 v2 := ⟨_, rfl⟩
  have hF := hout.symm
  unfold F_X0_fallingKind at hF
  refine lv_aload_n hx hb dX0_fallingKind_0 rfl (lv_at hl 0 rfl) ?_
  refine gs_X0_12_1 E hI ha dX0_fallingKind_1 ?_
  refine lv_aload_n hx hb dX0_fallingKind_4 rfl (lv_at hl 0 rfl) ?_
  refine gs_X0_39_1 E hI ha dX0_fallingKind_5 ?_
  refine lv_topi (fun f_1 ef_1 => ?_)
  replace hF := q_letX hF ef_1
  refine lv_aload_n hx hb dX0_fallingKind_8 rfl (lv_at hl 0 rfl) ?_
  refine lv_iload_n hx hb dX0_fallingKind_9 rfl (lv_at hl 1 rfl) ?_
  refine q_ci (q_rV0_1 (rest := [.int f_1, .ref (q_rf X a 0)]) E (hml.trans hl.1.symm) hI (c_X0_turnsAhead l X σ a v1 ha) kv_X0_189 ha ⟨Nat.le_of_ble_eq_true rfl, Nat.le_of_ble_eq_true rfl⟩ (Nat.le_of_ble_eq_true rfl) dX0_fallingKind_10) hI (Nat.le_of_ble_eq_true rfl) (fun r_2 σ_3 H locs hpσ_3 hkσ_3 hI => ?_)
  have ahpσ_3 := hpσ_3.1
  have bhpσ_3 := hpσ_3.2
  clear hpσ_3
  replace hI := q_Irw ahpσ_3 hI
  replace hF := q_letX hF bhpσ_3
  refine lv_iload_n hx hb dX0_fallingKind_13 rfl (lv_at hl 2 rfl) ?_
  refine lv_aload_n hx hb dX0_fallingKind_14 rfl (lv_at hl 0 rfl) ?_
  refine gs_X0_12_1 E hI ha dX0_fallingKind_15 ?_
  refine gs_X0_183_6 E hI (q_tk (k' := 6) hI ha rfl (Nat.succ_ne_zero _)) dX0_fallingKind_18 ?_
  refine lv_topi (fun f_4 ef_4 => ?_)
  replace hF := q_letX hF ef_4
  refine lv_imul hx hb dX0_fallingKind_21 ?_
  refine lv_topi (fun z_5 ez_5 => ?_)
  replace hF := q_letX hF ez_5
  refine lv_iadd hx hb dX0_fallingKind_22 ?_
  refine lv_topi (fun z_6 ez_6 => ?_)
  replace hF := q_letX hF ez_6
  refine q_ci (q_rV5_2 (rest := []) E (hml.trans hl.1.symm) hI (c_X6_kindAfter l X σ (q_rf X a 0) f_1 z_6 (q_tk (k' := 6) hI ha rfl (Nat.succ_ne_zero _))) kv_X0_128 (q_tk (k' := 6) hI ha rfl (Nat.succ_ne_zero _)) ⟨Nat.le_of_ble_eq_true rfl, Nat.le_of_ble_eq_true rfl⟩ (Nat.le_of_ble_eq_true rfl) dX0_fallingKind_23) hI (Nat.le_of_ble_eq_true rfl) (fun r_7 σ_8 H locs hpσ_8 hkσ_8 hI => ?_)
  have ahpσ_8 := hpσ_8.1
  have bhpσ_8 := hpσ_8.2
  clear hpσ_8
  replace hI := q_Irw ahpσ_8 hI
  replace hF := q_letX hF bhpσ_8
  exact q_reti E hr hlk hI ⟨rfl, (hF.trans hout)⟩ dX0_fallingKind_26

set_option maxRecDepth 100000 in
set_option maxHeartbeats 4000000 in
theorem c_X0_foresee (l : Launch) (X : XW) (σ : ST) (a : Nat) (v1 : Int32) (v2 : Int32) (ha : q_kd X a = 1) : Met l yX0_foresee (q_ws yX0_foresee cX0_foresee 7 none) (q_rm 4 88) (q_P X σ [.ref a, .int v1, .int v2]) (q_Qv X 8 σ (fun (σ' : ST) => σ' = F_X0_foresee X σ a v1 v2 ∧ q_ow [(1, 11), (1, 12), (1, 13), (1, 14), (20, 99)] [] X σ σ')) 0 0 (q_reg X) := by
  refine q_met 8 (by first | exact rfl | decide +kernel) rfl (Nat.le_of_ble_eq_true rfl) (fun p e s m below meth c E hml hr hlk hI ls hl => ?_)
  have hx := E.1
  have hb := E.2.1
  have hl : lv_has ls 7 [(0, .ref a), (1, .int v1), (2, .int v2)] := hl
  have fr_σ : q_ow [(1, 11), (1, 12), (1, 13), (1, 14), (20, 99)] [] X σ σ := q_ow.rf
  obtain ⟨out, hout⟩ : ∃ o, o = F_X0_foresee X σ a v1 v2 := ⟨_, rfl⟩
  have hF := hout.symm
  unfold F_X0_foresee at hF
  refine lv_aload_n hx hb dX0_foresee_0 rfl (lv_at hl 0 rfl) ?_
  refine gs_X0_21_1 E hI ha dX0_foresee_1 ?_
  refine gs_X0_150_2 E hI (q_tk (k' := 2) hI ha rfl (Nat.succ_ne_zero _)) dX0_foresee_4 ?_
  refine lv_iload_n hx hb dX0_foresee_7 rfl (lv_at hl 1 rfl) ?_
  refine q_ci (q_rV4_1 (rest := []) E (hml.trans hl.1.symm) hI (c_X5_get l X σ (q_rf X (q_rf X a 1) 2) v1 (q_tk (k' := 5) hI (q_tk (k' := 2) hI ha rfl (Nat.succ_ne_zero _)) rfl (Nat.succ_ne_zero _))) kv_X0_113 (q_tk (k' := 5) hI (q_tk (k' := 2) hI ha rfl (Nat.succ_ne_zero _)) rfl (Nat.succ_ne_zero _)) ⟨Nat.le_of_ble_eq_true rfl, Nat.le_of_ble_eq_true rfl⟩ (Nat.le_of_ble_eq_true rfl) dX0_foresee_8) hI (Nat.le_of_ble_eq_true rfl) (fun r_1 σ_2 H locs hpσ_2 hkσ_2 hI => ?_)
  have ahpσ_2 := hpσ_2.1
  have bhpσ_2 := hpσ_2.2
  clear hpσ_2
  replace hI := q_Irw ahpσ_2 hI
  replace hF := q_letX hF bhpσ_2
  refine lv_istore_n (lv' := [(3, .int r_1), (0, .ref a), (1, .int v1), (2, .int v2)]) hx hb dX0_foresee_11 rfl hl (by decide) rfl (fun ls hl => ?_)
  refine lv_iconst (v := 0) hx hb dX0_foresee_12 zki_0 ?_
  refine lv_istore (lv' := [(4, .int 0), (3, .int r_1), (0, .ref a), (1, .int v1), (2, .int v2)]) hx hb dX0_foresee_13 hl (by decide) rfl (fun ls hl => ?_)
  have L_15_5 : ∀ (k_5 : Nat) (x_3 : Int32) (σ_4 : ST) (H : Heap) (locs : List Loc) (ls : Array Slot), (2147483647 - x_3.toInt).toNat < k_5 → (0 ≤ x_3.toInt) → (q_ow [(1, 11), (1, 12), (1, 13), (1, 14), (20, 99)] [] X σ σ_4) → (F_X0_foresee_L15_1 X a v1 r_1 v2 k_5 x_3 σ_4 = out) → q_I X 8 σ s.heap locs σ_4 H → lv_has ls 7 [(0, .ref a), (1, .int v1), (2, .int v2), (3, .int r_1), (4, .int x_3)] → W p l e (q_rm 4 88) s m ([.ref a, .int v1, .int v2] : List Value).toArray below meth c H locs 0 0 (MQ below (q_Qv X 8 σ (fun (σ' : ST) => σ' = F_X0_foresee X σ a v1 v2 ∧ q_ow [(1, 11), (1, 12), (1, 13), (1, 14), (20, 99)] [] X σ σ')) ([.ref a, .int v1, .int v2] : List Value).toArray s 0 0 (q_reg X)) (F0 m 15 ls []) := by
    clear hF
    intro k_5
    induction k_5 with
    | zero =>
      intro x_3 σ_4 H locs ls hms
      exact absurd hms (Nat.not_lt_zero _)
    | succ k_5 ih15 =>
      intro x_3 σ_4 H locs ls hm15 hge15 fr_σ_4 hF hI hl
      replace hF := (F_X0_foresee_L15_1_s).symm.trans hF
      unfold F_X0_foresee_B15_1 at hF
      refine lv_iload hx hb dX0_foresee_15 (lv_at hl 4 rfl) ?_
      refine lv_aload_n hx hb dX0_foresee_17 rfl (lv_at hl 0 rfl) ?_
      refine gs_X0_12_1 E hI ha dX0_foresee_18 ?_
      refine gs_X0_106_6 E hI (q_tk (k' := 6) hI ha rfl (Nat.succ_ne_zero _)) dX0_foresee_21 ?_
      refine lv_topi (fun f_6 ef_6 => ?_)
      replace hF := q_letX hF ef_6
      have bf_6 : -2147483648 ≤ f_6.toInt ∧ f_6.toInt ≤ 10 := by rw [ef_6]; exact q_bd hI (q_tk (k' := 6) hI ha rfl (Nat.succ_ne_zero _)) rfl
      have gc_7_x_3 := q_rng x_3
      have gc_7_f_6 := q_rng f_6
      refine q_icmp_ge (A := x_3.toInt) (B := f_6.toInt) E rfl rfl (tgt := 52) dX0_foresee_24 (by decide) (fun c_7 => ?_) (fun c_7 => ?_)
      · skip
        replace hF := q_ifn hF (Int.not_lt.mpr c_7)
        unfold F_X0_foresee_E52_6 at hF
        refine lv_aload_n hx hb dX0_foresee_52 rfl (lv_at hl 0 rfl) ?_
        refine lv_iconst (v := 0) hx hb dX0_foresee_53 zki_0 ?_
        refine ps_X0_68_1 E hI ha (by decide) dX0_foresee_54 (fun H locs σ_8 hσ_8 hI => ?_)
        replace hF := q_letX hF hσ_8
        have fr_σ_8 := fr_σ_4.si hσ_8 ha rfl
        refine lv_aload_n hx hb dX0_foresee_57 rfl (lv_at hl 0 rfl) ?_
        refine lv_iload_n hx hb dX0_foresee_58 rfl (lv_at hl 3 rfl) ?_
        have J_67_9 : ∀ (x_9 : Int32) (H : Heap) (locs : List Loc) (ls : Array Slot), (F_X0_foresee_J67_3 X σ_8 a v2 v1 r_1 x_9 = out) → q_I X 8 σ s.heap locs σ_8 H → lv_has ls 7 [(0, .ref a), (1, .int v1), (2, .int v2), (3, .int r_1), (4, .int x_3)] → W p l e (q_rm 4 88) s m ([.ref a, .int v1, .int v2] : List Value).toArray below meth c H locs 0 0 (MQ below (q_Qv X 8 σ (fun (σ' : ST) => σ' = F_X0_foresee X σ a v1 v2 ∧ q_ow [(1, 11), (1, 12), (1, 13), (1, 14), (20, 99)] [] X σ σ')) ([.ref a, .int v1, .int v2] : List Value).toArray s 0 0 (q_reg X)) (F0 m 67 ls [.int x_9, .ref a]) := by
          clear hF
          intro x_9 H locs ls  hF hI hl
          unfold F_X0_foresee_J67_3 at hF
          refine ps_X0_71_1 E hI ha (by decide) dX0_foresee_67 (fun H locs σ_10 hσ_10 hI => ?_)
          replace hF := q_letX hF hσ_10
          have fr_σ_10 := fr_σ_8.si hσ_10 ha rfl
          refine lv_aload_n hx hb dX0_foresee_70 rfl (lv_at hl 0 rfl) ?_
          refine lv_iconst (v := (-1)) hx hb dX0_foresee_71 zki_m1 ?_
          refine ps_X0_74_1 E hI ha (by decide) dX0_foresee_72 (fun H locs σ_11 hσ_11 hI => ?_)
          replace hF := q_letX hF hσ_11
          have fr_σ_11 := fr_σ_10.si hσ_11 ha rfl
          refine lv_aload_n hx hb dX0_foresee_75 rfl (lv_at hl 0 rfl) ?_
          refine lv_iconst (v := (-1)) hx hb dX0_foresee_76 zki_m1 ?_
          refine ps_X0_77_1 E hI ha (by decide) dX0_foresee_77 (fun H locs σ_12 hσ_12 hI => ?_)
          replace hF := q_letX hF hσ_12
          have fr_σ_12 := fr_σ_11.si hσ_12 ha rfl
          refine lv_iconst (v := 0) hx hb dX0_foresee_80 zki_0 ?_
          refine lv_istore (lv' := [(4, .int 0), (0, .ref a), (1, .int v1), (2, .int v2), (3, .int r_1)]) hx hb dX0_foresee_81 hl (by decide) rfl (fun ls hl => ?_)
          have L_83_15 : ∀ (k_15 : Nat) (x_13 : Int32) (σ_14 : ST) (H : Heap) (locs : List Loc) (ls : Array Slot), (2147483647 - x_13.toInt).toNat < k_15 → (0 ≤ x_13.toInt) → (q_ow [(1, 11), (1, 12), (1, 13), (1, 14), (20, 99)] [] X σ σ_14) → (F_X0_foresee_L83_4 X v2 a v1 r_1 k_15 x_13 σ_14 = out) → q_I X 8 σ s.heap locs σ_14 H → lv_has ls 7 [(0, .ref a), (1, .int v1), (2, .int v2), (3, .int r_1), (4, .int x_13)] → W p l e (q_rm 4 88) s m ([.ref a, .int v1, .int v2] : List Value).toArray below meth c H locs 0 0 (MQ below (q_Qv X 8 σ (fun (σ' : ST) => σ' = F_X0_foresee X σ a v1 v2 ∧ q_ow [(1, 11), (1, 12), (1, 13), (1, 14), (20, 99)] [] X σ σ')) ([.ref a, .int v1, .int v2] : List Value).toArray s 0 0 (q_reg X)) (F0 m 83 ls []) := by
            clear hF
            intro k_15
            induction k_15 with
            | zero =>
              intro x_13 σ_14 H locs ls hms
              exact absurd hms (Nat.not_lt_zero _)
            | succ k_15 ih83 =>
              intro x_13 σ_14 H locs ls hm83 hge83 fr_σ_14 hF hI hl
              replace hF := (F_X0_foresee_L83_4_s).symm.trans hF
              unfold F_X0_foresee_B83_4 at hF
              refine lv_iload hx hb dX0_foresee_83 (lv_at hl 4 rfl) ?_
              refine lv_iload_n hx hb dX0_foresee_85 rfl (lv_at hl 2 rfl) ?_
              have gc_16_x_13 := q_rng x_13
              have gc_16_v2 := q_rng v2
              refine q_icmp_ge (A := x_13.toInt) (B := v2.toInt) E rfl rfl (tgt := 200) dX0_foresee_86 (by decide) (fun c_16 => ?_) (fun c_16 => ?_)
              · skip
                replace hF := q_ifn hF (Int.not_lt.mpr c_16)
                skip
                exact q_retv E hr hlk hI ⟨(hF.trans hout), fr_σ_14⟩ dX0_foresee_200
              · skip
                replace hF := q_ifp hF c_16
                refine lv_aload_n hx hb dX0_foresee_89 rfl (lv_at hl 0 rfl) ?_
                refine gs_X0_71_1 E hI ha dX0_foresee_90 ?_
                refine lv_topi (fun f_17 ef_17 => ?_)
                replace hF := q_letX hF ef_17
                refine lv_iconst (v := (-1)) hx hb dX0_foresee_93 zki_m1 ?_
                have gc_18_f_17 := q_rng f_17
                refine q_icmp_ne (A := f_17.toInt) (B := (-1)) E rfl (by decide) (tgt := 200) dX0_foresee_94 (by decide) (fun c_18 => ?_) (fun c_18 => ?_)
                · skip
                  replace hF := q_ifn hF c_18
                  skip
                  exact q_retv E hr hlk hI ⟨(hF.trans hout), fr_σ_14⟩ dX0_foresee_200
                · skip
                  replace hF := q_ifp hF c_18
                  refine lv_aload_n hx hb dX0_foresee_97 rfl (lv_at hl 0 rfl) ?_
                  refine lv_iload_n hx hb dX0_foresee_98 rfl (lv_at hl 1 rfl) ?_
                  refine lv_iload hx hb dX0_foresee_99 (lv_at hl 4 rfl) ?_
                  refine q_ci (q_rV0_2 (rest := []) E (hml.trans hl.1.symm) hI (c_X0_fallingKind l X σ_14 a v1 x_13 ha) kv_X0_195 ha ⟨Nat.le_of_ble_eq_true rfl, Nat.le_of_ble_eq_true rfl⟩ (Nat.le_of_ble_eq_true rfl) dX0_foresee_101) hI (Nat.le_of_ble_eq_true rfl) (fun r_19 σ_20 H locs hpσ_20 hkσ_20 hI => ?_)
                  have ahpσ_20 := hpσ_20.1
                  have bhpσ_20 := hpσ_20.2
                  clear hpσ_20
                  replace hI := q_Irw ahpσ_20 hI
                  replace hF := q_letX hF bhpσ_20
                  refine lv_istore (lv' := [(5, .int r_19), (0, .ref a), (1, .int v1), (2, .int v2), (3, .int r_1), (4, .int x_13)]) hx hb dX0_foresee_104 hl (by decide) rfl (fun ls hl => ?_)
                  refine lv_aload_n hx hb dX0_foresee_106 rfl (lv_at hl 1 rfl) ?_
                  refine gs_X0_65_1 E hI ha dX0_foresee_107 ?_
                  refine lv_iload hx hb dX0_foresee_110 (lv_at hl 0 rfl) ?_
                  refine q_ci (q_rV4_1 (rest := []) E (hml.trans hl.1.symm) hI (c_X5_get l X σ_14 (q_rf X a 10) r_19 (q_tk (k' := 5) hI ha rfl (Nat.succ_ne_zero _))) kv_X0_113 (q_tk (k' := 5) hI ha rfl (Nat.succ_ne_zero _)) ⟨Nat.le_of_ble_eq_true rfl, Nat.le_of_ble_eq_true rfl⟩ (Nat.le_of_ble_eq_true rfl) dX0_foresee_112) hI (Nat.le_of_ble_eq_true rfl) (fun r_21 σ_22 H locs hpσ_22 hkσ_22 hI => ?_)
                  have ahpσ_22 := hpσ_22.1
                  have bhpσ_22 := hpσ_22.2
                  clear hpσ_22
                  replace hI := q_Irw ahpσ_22 hI
                  replace hF := q_letX hF bhpσ_22
                  refine lv_aload_n hx hb dX0_foresee_115 rfl (lv_at hl 1 rfl) ?_
                  refine gs_X0_12_1 E hI ha dX0_foresee_116 ?_
                  refine gs_X0_198_6 E hI (q_tk (k' := 6) hI ha rfl (Nat.succ_ne_zero _)) dX0_foresee_119 ?_
                  refine lv_topi (fun f_23 ef_23 => ?_)
                  replace hF := q_letX hF ef_23
                  have bf_23 : -2147483648 ≤ f_23.toInt ∧ f_23.toInt ≤ 4 := by rw [ef_23]; exact q_bd hI (q_tk (k' := 6) hI ha rfl (Nat.succ_ne_zero _)) rfl
                  refine q_ci (q_runS (As := [.int r_21, .int f_23]) (rest := []) E (hml.trans hl.1.symm) hI (c_J9_min_7cf53 l X σ_14 r_21 f_23) ks_X0_201 rfl ⟨Nat.le_of_ble_eq_true rfl, Nat.le_of_ble_eq_true rfl⟩ ⟨Nat.le_refl _, Nat.le_refl _⟩ rfl (Nat.le_of_ble_eq_true rfl) dX0_foresee_122) hI (Nat.le_of_ble_eq_true rfl) (fun r_24 σ_25 H locs hpσ_25 hkσ_25 hI => ?_)
                  have ahpσ_25 := hpσ_25.1
                  have bhpσ_25 := hpσ_25.2.1
                  have chpσ_25 := hpσ_25.2.2
                  clear hpσ_25
                  replace hI := q_Irw ahpσ_25 hI
                  replace hF := q_letX hF chpσ_25
                  refine lv_istore (lv' := [(6, .int r_24), (5, .int r_19), (0, .ref a), (1, .int v1), (2, .int v2), (3, .int r_1), (4, .int x_13)]) hx hb dX0_foresee_125 hl (by decide) rfl (fun ls hl => ?_)
                  refine lv_aload_n hx hb dX0_foresee_127 rfl (lv_at hl 2 rfl) ?_
                  refine gs_X0_65_1 E hI ha dX0_foresee_128 ?_
                  refine lv_iload hx hb dX0_foresee_131 (lv_at hl 1 rfl) ?_
                  refine lv_iload hx hb dX0_foresee_133 (lv_at hl 0 rfl) ?_
                  refine lv_ineg hx hb dX0_foresee_135 ?_
                  refine lv_topi (fun z_26 ez_26 => ?_)
                  replace hF := q_letX hF ez_26
                  refine q_cv (q_rV4_2 (rest := []) E (hml.trans hl.1.symm) hI (c_X5_add l X σ_14 (q_rf X a 10) r_19 z_26 (q_tk (k' := 5) hI ha rfl (Nat.succ_ne_zero _))) kv_X0_102 (q_tk (k' := 5) hI ha rfl (Nat.succ_ne_zero _)) ⟨Nat.le_of_ble_eq_true rfl, Nat.le_of_ble_eq_true rfl⟩ (Nat.le_of_ble_eq_true rfl) dX0_foresee_136) hI (Nat.le_of_ble_eq_true rfl) (fun σ_28 H locs hpσ_28 hkσ_28 hI => ?_)
                  have ahpσ_28 := hpσ_28.1
                  have bhpσ_28 := hpσ_28.2
                  clear hpσ_28
                  have fr_σ_28 := fr_σ_14.call bhpσ_28 rfl rfl
                  replace hF := q_letX hF ahpσ_28
                  refine lv_aload_n hx hb dX0_foresee_139 rfl (lv_at hl 2 rfl) ?_
                  refine lv_dup hx hb dX0_foresee_140 rfl ?_
                  refine gs_X0_68_1 E hI ha dX0_foresee_141 ?_
                  refine lv_topi (fun f_29 ef_29 => ?_)
                  replace hF := q_letX hF ef_29
                  refine lv_iload hx hb dX0_foresee_144 (lv_at hl 0 rfl) ?_
                  refine lv_iadd hx hb dX0_foresee_146 ?_
                  refine lv_topi (fun z_30 ez_30 => ?_)
                  replace hF := q_letX hF ez_30
                  refine ps_X0_68_1 E hI ha (by decide) dX0_foresee_147 (fun H locs σ_31 hσ_31 hI => ?_)
                  replace hF := q_letX hF hσ_31
                  have fr_σ_31 := fr_σ_28.si hσ_31 ha rfl
                  refine lv_iload hx hb dX0_foresee_150 (lv_at hl 0 rfl) ?_
                  refine q_if_le (A := r_24.toInt) E rfl (tgt := 164) dX0_foresee_152 (by decide) (fun c_32 => ?_) (fun c_32 => ?_)
                  · skip
                    replace hF := q_ifn hF (Int.not_lt.mpr c_32)
                    refine lv_aload_n hx hb dX0_foresee_164 rfl (lv_at hl 2 rfl) ?_
                    refine gs_X0_77_1 E hI ha dX0_foresee_165 ?_
                    refine lv_topi (fun f_33 ef_33 => ?_)
                    replace hF := q_letX hF ef_33
                    refine lv_iconst (v := (-1)) hx hb dX0_foresee_168 zki_m1 ?_
                    have gc_34_f_33 := q_rng f_33
                    refine q_icmp_ne (A := f_33.toInt) (B := (-1)) E rfl (by decide) (tgt := 178) dX0_foresee_169 (by decide) (fun c_34 => ?_) (fun c_34 => ?_)
                    · skip
                      replace hF := q_ifn hF c_34
                      refine lv_aload_n hx hb dX0_foresee_178 rfl (lv_at hl 2 rfl) ?_
                      refine gs_X0_68_1 E hI ha dX0_foresee_179 ?_
                      refine lv_topi (fun f_35 ef_35 => ?_)
                      replace hF := q_letX hF ef_35
                      refine lv_iload_n hx hb dX0_foresee_182 rfl (lv_at hl 5 rfl) ?_
                      have gc_36_f_35 := q_rng f_35
                      have gc_36_r_1 := q_rng r_1
                      refine q_icmp_ne (A := f_35.toInt) (B := r_1.toInt) E rfl rfl (tgt := 194) dX0_foresee_183 (by decide) (fun c_36 => ?_) (fun c_36 => ?_)
                      · skip
                        replace hF := q_ifn hF c_36
                        obtain ⟨z_37, ez_37⟩ : ∃ y : Int32, y = x_13 + 1 := ⟨_, rfl⟩
                        replace hF := q_letX hF ez_37
                        refine lv_iinc (v := z_37) (lv' := [(4, .int z_37), (6, .int r_24), (5, .int r_19), (0, .ref a), (1, .int v1), (2, .int v2), (3, .int r_1)]) hx hb dX0_foresee_194 hl (k := 6) rfl (by rw [ez_37]; rfl) (by decide) rfl (fun ls hl => ?_)
                        have iz_37 : z_37.toInt = x_13.toInt + 1 := q_inc ez_37 (by first | (clear ahpσ_2 bhpσ_2 hm15 hge15 bf_6 gc_7_x_3 gc_7_f_6 c_7 hm83 gc_18_f_17 c_18 ahpσ_20 bhpσ_20 ahpσ_22 bhpσ_22 bf_23 ahpσ_25 bhpσ_25 chpσ_25 ahpσ_28 bhpσ_28 c_32 gc_34_f_33 c_34 gc_36_f_35 gc_36_r_1 c_36; omega) | omega)
                        refine lv_goto (tgt := 83) hx hb dX0_foresee_197 (by decide) ?_
                        exact ih83 z_37 σ_31 _ _ ls (by first | (clear ahpσ_2 bhpσ_2 hm15 hge15 bf_6 gc_7_x_3 gc_7_f_6 c_7 gc_18_f_17 c_18 ahpσ_20 bhpσ_20 ahpσ_22 bhpσ_22 bf_23 ahpσ_25 bhpσ_25 chpσ_25 ahpσ_28 bhpσ_28 c_32 gc_34_f_33 gc_36_f_35 gc_36_r_1; omega) | omega) (by first | (clear ahpσ_2 bhpσ_2 hm15 hge15 bf_6 gc_7_x_3 gc_7_f_6 c_7 hm83 gc_16_v2 c_16 gc_18_f_17 c_18 ahpσ_20 bhpσ_20 ahpσ_22 bhpσ_22 bf_23 ahpσ_25 bhpσ_25 chpσ_25 ahpσ_28 bhpσ_28 c_32 gc_34_f_33 c_34 gc_36_f_35 gc_36_r_1 c_36; omega) | omega) fr_σ_31 hF hI (lv_sub hl [3, 4, 5, 6, 0] rfl)
                      · skip
                        replace hF := q_ifp hF c_36
                        refine lv_aload_n hx hb dX0_foresee_186 rfl (lv_at hl 2 rfl) ?_
                        refine lv_iload hx hb dX0_foresee_187 (lv_at hl 6 rfl) ?_
                        refine lv_iconst (v := 1) hx hb dX0_foresee_189 zki_1 ?_
                        refine lv_iadd hx hb dX0_foresee_190 ?_
                        refine lv_topi (fun z_38 ez_38 => ?_)
                        replace hF := q_letX hF ez_38
                        refine ps_X0_71_1 E hI ha (by decide) dX0_foresee_191 (fun H locs σ_39 hσ_39 hI => ?_)
                        replace hF := q_letX hF hσ_39
                        have fr_σ_39 := fr_σ_31.si hσ_39 ha rfl
                        obtain ⟨z_40, ez_40⟩ : ∃ y : Int32, y = x_13 + 1 := ⟨_, rfl⟩
                        replace hF := q_letX hF ez_40
                        refine lv_iinc (v := z_40) (lv' := [(4, .int z_40), (6, .int r_24), (5, .int r_19), (0, .ref a), (1, .int v1), (2, .int v2), (3, .int r_1)]) hx hb dX0_foresee_194 hl (k := 6) rfl (by rw [ez_40]; rfl) (by decide) rfl (fun ls hl => ?_)
                        have iz_40 : z_40.toInt = x_13.toInt + 1 := q_inc ez_40 (by first | (clear ahpσ_2 bhpσ_2 hm15 hge15 bf_6 gc_7_x_3 gc_7_f_6 c_7 hm83 gc_18_f_17 c_18 ahpσ_20 bhpσ_20 ahpσ_22 bhpσ_22 bf_23 ahpσ_25 bhpσ_25 chpσ_25 ahpσ_28 bhpσ_28 c_32 gc_34_f_33 c_34 gc_36_f_35 gc_36_r_1 c_36; omega) | omega)
                        refine lv_goto (tgt := 83) hx hb dX0_foresee_197 (by decide) ?_
                        exact ih83 z_40 σ_39 _ _ ls (by first | (clear ahpσ_2 bhpσ_2 hm15 hge15 bf_6 gc_7_x_3 gc_7_f_6 c_7 gc_18_f_17 c_18 ahpσ_20 bhpσ_20 ahpσ_22 bhpσ_22 bf_23 ahpσ_25 bhpσ_25 chpσ_25 ahpσ_28 bhpσ_28 c_32 gc_34_f_33 gc_36_f_35 gc_36_r_1 c_36; omega) | omega) (by first | (clear ahpσ_2 bhpσ_2 hm15 hge15 bf_6 gc_7_x_3 gc_7_f_6 c_7 hm83 gc_16_v2 c_16 gc_18_f_17 c_18 ahpσ_20 bhpσ_20 ahpσ_22 bhpσ_22 bf_23 ahpσ_25 bhpσ_25 chpσ_25 ahpσ_28 bhpσ_28 c_32 gc_34_f_33 c_34 gc_36_f_35 gc_36_r_1 c_36; omega) | omega) fr_σ_39 hF hI (lv_sub hl [3, 4, 5, 6, 0] rfl)
                    · skip
                      replace hF := q_ifp hF c_34
                      refine lv_aload_n hx hb dX0_foresee_172 rfl (lv_at hl 2 rfl) ?_
                      refine lv_iload hx hb dX0_foresee_173 (lv_at hl 6 rfl) ?_
                      refine ps_X0_77_1 E hI ha (by decide) dX0_foresee_175 (fun H locs σ_41 hσ_41 hI => ?_)
                      replace hF := q_letX hF hσ_41
                      have fr_σ_41 := fr_σ_31.si hσ_41 ha rfl
                      refine lv_aload_n hx hb dX0_foresee_178 rfl (lv_at hl 2 rfl) ?_
                      refine gs_X0_68_1 E hI ha dX0_foresee_179 ?_
                      refine lv_topi (fun f_42 ef_42 => ?_)
                      replace hF := q_letX hF ef_42
                      refine lv_iload_n hx hb dX0_foresee_182 rfl (lv_at hl 5 rfl) ?_
                      have gc_43_f_42 := q_rng f_42
                      have gc_43_r_1 := q_rng r_1
                      refine q_icmp_ne (A := f_42.toInt) (B := r_1.toInt) E rfl rfl (tgt := 194) dX0_foresee_183 (by decide) (fun c_43 => ?_) (fun c_43 => ?_)
                      · skip
                        replace hF := q_ifn hF c_43
                        obtain ⟨z_44, ez_44⟩ : ∃ y : Int32, y = x_13 + 1 := ⟨_, rfl⟩
                        replace hF := q_letX hF ez_44
                        refine lv_iinc (v := z_44) (lv' := [(4, .int z_44), (6, .int r_24), (5, .int r_19), (0, .ref a), (1, .int v1), (2, .int v2), (3, .int r_1)]) hx hb dX0_foresee_194 hl (k := 6) rfl (by rw [ez_44]; rfl) (by decide) rfl (fun ls hl => ?_)
                        have iz_44 : z_44.toInt = x_13.toInt + 1 := q_inc ez_44 (by first | (clear ahpσ_2 bhpσ_2 hm15 hge15 bf_6 gc_7_x_3 gc_7_f_6 c_7 hm83 gc_18_f_17 c_18 ahpσ_20 bhpσ_20 ahpσ_22 bhpσ_22 bf_23 ahpσ_25 bhpσ_25 chpσ_25 ahpσ_28 bhpσ_28 c_32 gc_34_f_33 c_34 gc_43_f_42 gc_43_r_1 c_43; omega) | omega)
                        refine lv_goto (tgt := 83) hx hb dX0_foresee_197 (by decide) ?_
                        exact ih83 z_44 σ_41 _ _ ls (by first | (clear ahpσ_2 bhpσ_2 hm15 hge15 bf_6 gc_7_x_3 gc_7_f_6 c_7 gc_18_f_17 c_18 ahpσ_20 bhpσ_20 ahpσ_22 bhpσ_22 bf_23 ahpσ_25 bhpσ_25 chpσ_25 ahpσ_28 bhpσ_28 c_32 gc_34_f_33 c_34 gc_43_f_42 gc_43_r_1; omega) | omega) (by first | (clear ahpσ_2 bhpσ_2 hm15 hge15 bf_6 gc_7_x_3 gc_7_f_6 c_7 hm83 gc_16_v2 c_16 gc_18_f_17 c_18 ahpσ_20 bhpσ_20 ahpσ_22 bhpσ_22 bf_23 ahpσ_25 bhpσ_25 chpσ_25 ahpσ_28 bhpσ_28 c_32 gc_34_f_33 c_34 gc_43_f_42 gc_43_r_1 c_43; omega) | omega) fr_σ_41 hF hI (lv_sub hl [3, 4, 5, 6, 0] rfl)
                      · skip
                        replace hF := q_ifp hF c_43
                        refine lv_aload_n hx hb dX0_foresee_186 rfl (lv_at hl 2 rfl) ?_
                        refine lv_iload hx hb dX0_foresee_187 (lv_at hl 6 rfl) ?_
                        refine lv_iconst (v := 1) hx hb dX0_foresee_189 zki_1 ?_
                        refine lv_iadd hx hb dX0_foresee_190 ?_
                        refine lv_topi (fun z_45 ez_45 => ?_)
                        replace hF := q_letX hF ez_45
                        refine ps_X0_71_1 E hI ha (by decide) dX0_foresee_191 (fun H locs σ_46 hσ_46 hI => ?_)
                        replace hF := q_letX hF hσ_46
                        have fr_σ_46 := fr_σ_41.si hσ_46 ha rfl
                        obtain ⟨z_47, ez_47⟩ : ∃ y : Int32, y = x_13 + 1 := ⟨_, rfl⟩
                        replace hF := q_letX hF ez_47
                        refine lv_iinc (v := z_47) (lv' := [(4, .int z_47), (6, .int r_24), (5, .int r_19), (0, .ref a), (1, .int v1), (2, .int v2), (3, .int r_1)]) hx hb dX0_foresee_194 hl (k := 6) rfl (by rw [ez_47]; rfl) (by decide) rfl (fun ls hl => ?_)
                        have iz_47 : z_47.toInt = x_13.toInt + 1 := q_inc ez_47 (by first | (clear ahpσ_2 bhpσ_2 hm15 hge15 bf_6 gc_7_x_3 gc_7_f_6 c_7 hm83 gc_18_f_17 c_18 ahpσ_20 bhpσ_20 ahpσ_22 bhpσ_22 bf_23 ahpσ_25 bhpσ_25 chpσ_25 ahpσ_28 bhpσ_28 c_32 gc_34_f_33 c_34 gc_43_f_42 gc_43_r_1 c_43; omega) | omega)
                        refine lv_goto (tgt := 83) hx hb dX0_foresee_197 (by decide) ?_
                        exact ih83 z_47 σ_46 _ _ ls (by first | (clear ahpσ_2 bhpσ_2 hm15 hge15 bf_6 gc_7_x_3 gc_7_f_6 c_7 gc_18_f_17 c_18 ahpσ_20 bhpσ_20 ahpσ_22 bhpσ_22 bf_23 ahpσ_25 bhpσ_25 chpσ_25 ahpσ_28 bhpσ_28 c_32 gc_34_f_33 c_34 gc_43_f_42 gc_43_r_1 c_43; omega) | omega) (by first | (clear ahpσ_2 bhpσ_2 hm15 hge15 bf_6 gc_7_x_3 gc_7_f_6 c_7 hm83 gc_16_v2 c_16 gc_18_f_17 c_18 ahpσ_20 bhpσ_20 ahpσ_22 bhpσ_22 bf_23 ahpσ_25 bhpσ_25 chpσ_25 ahpσ_28 bhpσ_28 c_32 gc_34_f_33 c_34 gc_43_f_42 gc_43_r_1 c_43; omega) | omega) fr_σ_46 hF hI (lv_sub hl [3, 4, 5, 6, 0] rfl)
                  · skip
                    replace hF := q_ifp hF c_32
                    refine lv_aload_n hx hb dX0_foresee_155 rfl (lv_at hl 2 rfl) ?_
                    refine lv_iload hx hb dX0_foresee_156 (lv_at hl 1 rfl) ?_
                    refine ps_X0_74_1 E hI ha (by decide) dX0_foresee_158 (fun H locs σ_48 hσ_48 hI => ?_)
                    replace hF := q_letX hF hσ_48
                    have fr_σ_48 := fr_σ_31.si hσ_48 ha rfl
                    refine lv_goto (tgt := 178) hx hb dX0_foresee_161 (by decide) ?_
                    refine lv_aload_n hx hb dX0_foresee_178 rfl (lv_at hl 2 rfl) ?_
                    refine gs_X0_68_1 E hI ha dX0_foresee_179 ?_
                    refine lv_topi (fun f_49 ef_49 => ?_)
                    replace hF := q_letX hF ef_49
                    refine lv_iload_n hx hb dX0_foresee_182 rfl (lv_at hl 5 rfl) ?_
                    have gc_50_f_49 := q_rng f_49
                    have gc_50_r_1 := q_rng r_1
                    refine q_icmp_ne (A := f_49.toInt) (B := r_1.toInt) E rfl rfl (tgt := 194) dX0_foresee_183 (by decide) (fun c_50 => ?_) (fun c_50 => ?_)
                    · skip
                      replace hF := q_ifn hF c_50
                      obtain ⟨z_51, ez_51⟩ : ∃ y : Int32, y = x_13 + 1 := ⟨_, rfl⟩
                      replace hF := q_letX hF ez_51
                      refine lv_iinc (v := z_51) (lv' := [(4, .int z_51), (6, .int r_24), (5, .int r_19), (0, .ref a), (1, .int v1), (2, .int v2), (3, .int r_1)]) hx hb dX0_foresee_194 hl (k := 6) rfl (by rw [ez_51]; rfl) (by decide) rfl (fun ls hl => ?_)
                      have iz_51 : z_51.toInt = x_13.toInt + 1 := q_inc ez_51 (by first | (clear ahpσ_2 bhpσ_2 hm15 hge15 bf_6 gc_7_x_3 gc_7_f_6 c_7 hm83 gc_18_f_17 c_18 ahpσ_20 bhpσ_20 ahpσ_22 bhpσ_22 bf_23 ahpσ_25 bhpσ_25 chpσ_25 ahpσ_28 bhpσ_28 c_32 gc_50_f_49 gc_50_r_1 c_50; omega) | omega)
                      refine lv_goto (tgt := 83) hx hb dX0_foresee_197 (by decide) ?_
                      exact ih83 z_51 σ_48 _ _ ls (by first | (clear ahpσ_2 bhpσ_2 hm15 hge15 bf_6 gc_7_x_3 gc_7_f_6 c_7 gc_18_f_17 c_18 ahpσ_20 bhpσ_20 ahpσ_22 bhpσ_22 bf_23 ahpσ_25 bhpσ_25 chpσ_25 ahpσ_28 bhpσ_28 c_32 gc_50_f_49 gc_50_r_1; omega) | omega) (by first | (clear ahpσ_2 bhpσ_2 hm15 hge15 bf_6 gc_7_x_3 gc_7_f_6 c_7 hm83 gc_16_v2 c_16 gc_18_f_17 c_18 ahpσ_20 bhpσ_20 ahpσ_22 bhpσ_22 bf_23 ahpσ_25 bhpσ_25 chpσ_25 ahpσ_28 bhpσ_28 c_32 gc_50_f_49 gc_50_r_1 c_50; omega) | omega) fr_σ_48 hF hI (lv_sub hl [3, 4, 5, 6, 0] rfl)
                    · skip
                      replace hF := q_ifp hF c_50
                      refine lv_aload_n hx hb dX0_foresee_186 rfl (lv_at hl 2 rfl) ?_
                      refine lv_iload hx hb dX0_foresee_187 (lv_at hl 6 rfl) ?_
                      refine lv_iconst (v := 1) hx hb dX0_foresee_189 zki_1 ?_
                      refine lv_iadd hx hb dX0_foresee_190 ?_
                      refine lv_topi (fun z_52 ez_52 => ?_)
                      replace hF := q_letX hF ez_52
                      refine ps_X0_71_1 E hI ha (by decide) dX0_foresee_191 (fun H locs σ_53 hσ_53 hI => ?_)
                      replace hF := q_letX hF hσ_53
                      have fr_σ_53 := fr_σ_48.si hσ_53 ha rfl
                      obtain ⟨z_54, ez_54⟩ : ∃ y : Int32, y = x_13 + 1 := ⟨_, rfl⟩
                      replace hF := q_letX hF ez_54
                      refine lv_iinc (v := z_54) (lv' := [(4, .int z_54), (6, .int r_24), (5, .int r_19), (0, .ref a), (1, .int v1), (2, .int v2), (3, .int r_1)]) hx hb dX0_foresee_194 hl (k := 6) rfl (by rw [ez_54]; rfl) (by decide) rfl (fun ls hl => ?_)
                      have iz_54 : z_54.toInt = x_13.toInt + 1 := q_inc ez_54 (by first | (clear ahpσ_2 bhpσ_2 hm15 hge15 bf_6 gc_7_x_3 gc_7_f_6 c_7 hm83 gc_18_f_17 c_18 ahpσ_20 bhpσ_20 ahpσ_22 bhpσ_22 bf_23 ahpσ_25 bhpσ_25 chpσ_25 ahpσ_28 bhpσ_28 c_32 gc_50_f_49 gc_50_r_1 c_50; omega) | omega)
                      refine lv_goto (tgt := 83) hx hb dX0_foresee_197 (by decide) ?_
                      exact ih83 z_54 σ_53 _ _ ls (by first | (clear ahpσ_2 bhpσ_2 hm15 hge15 bf_6 gc_7_x_3 gc_7_f_6 c_7 gc_18_f_17 c_18 ahpσ_20 bhpσ_20 ahpσ_22 bhpσ_22 bf_23 ahpσ_25 bhpσ_25 chpσ_25 ahpσ_28 bhpσ_28 c_32 gc_50_f_49 gc_50_r_1 c_50; omega) | omega) (by first | (clear ahpσ_2 bhpσ_2 hm15 hge15 bf_6 gc_7_x_3 gc_7_f_6 c_7 hm83 gc_16_v2 c_16 gc_18_f_17 c_18 ahpσ_20 bhpσ_20 ahpσ_22 bhpσ_22 bf_23 ahpσ_25 bhpσ_25 chpσ_25 ahpσ_28 bhpσ_28 c_32 gc_50_f_49 gc_50_r_1 c_50; omega) | omega) fr_σ_53 hF hI (lv_sub hl [3, 4, 5, 6, 0] rfl)
          exact L_83_15 ((2147483647 - (0 : Int32).toInt).toNat + 1) 0 σ_12 _ _ ls (Nat.lt_succ_self _) (by decide) fr_σ_12 hF hI (lv_sub hl [1, 2, 3, 4, 0] rfl)
        refine q_if_ne (A := r_1.toInt) E rfl (tgt := 66) dX0_foresee_59 (by decide) (fun c_55 => ?_) (fun c_55 => ?_)
        · skip
          replace hF := q_ifn hF c_55
          refine lv_iconst (v := (-1)) hx hb dX0_foresee_66 zki_m1 ?_
          exact J_67_9 (-1) _ _ ls hF hI (lv_sub hl [0, 1, 2, 3, 4] rfl)
        · skip
          replace hF := q_ifp hF c_55
          refine lv_iconst (v := 0) hx hb dX0_foresee_62 zki_0 ?_
          refine lv_goto (tgt := 67) hx hb dX0_foresee_63 (by decide) ?_
          exact J_67_9 0 _ _ ls hF hI (lv_sub hl [0, 1, 2, 3, 4] rfl)
      · skip
        replace hF := q_ifp hF c_7
        refine lv_aload_n hx hb dX0_foresee_27 rfl (lv_at hl 0 rfl) ?_
        refine gs_X0_65_1 E hI ha dX0_foresee_28 ?_
        refine lv_iload hx hb dX0_foresee_31 (lv_at hl 4 rfl) ?_
        refine lv_aload_n hx hb dX0_foresee_33 rfl (lv_at hl 0 rfl) ?_
        refine gs_X0_21_1 E hI ha dX0_foresee_34 ?_
        refine lv_iload_n hx hb dX0_foresee_37 rfl (lv_at hl 1 rfl) ?_
        refine lv_iload hx hb dX0_foresee_38 (lv_at hl 4 rfl) ?_
        refine q_ci (q_rV1_2 (rest := [.int x_3, .ref (q_rf X a 10)]) E (hml.trans hl.1.symm) hI (c_X1_heldBy l X σ_4 (q_rf X a 1) v1 x_3 (q_tk (k' := 2) hI ha rfl (Nat.succ_ne_zero _))) kv_X0_109 (q_tk (k' := 2) hI ha rfl (Nat.succ_ne_zero _)) ⟨Nat.le_of_ble_eq_true rfl, Nat.le_of_ble_eq_true rfl⟩ (Nat.le_of_ble_eq_true rfl) dX0_foresee_40) hI (Nat.le_of_ble_eq_true rfl) (fun r_56 σ_57 H locs hpσ_57 hkσ_57 hI => ?_)
        have ahpσ_57 := hpσ_57.1
        have bhpσ_57 := hpσ_57.2
        clear hpσ_57
        replace hI := q_Irw ahpσ_57 hI
        replace hF := q_letX hF bhpσ_57
        refine q_cv (q_rV4_2 (rest := []) E (hml.trans hl.1.symm) hI (c_X5_set l X σ_4 (q_rf X a 10) x_3 r_56 (q_tk (k' := 5) hI ha rfl (Nat.succ_ne_zero _))) kv_X0_192 (q_tk (k' := 5) hI ha rfl (Nat.succ_ne_zero _)) ⟨Nat.le_of_ble_eq_true rfl, Nat.le_of_ble_eq_true rfl⟩ (Nat.le_of_ble_eq_true rfl) dX0_foresee_43) hI (Nat.le_of_ble_eq_true rfl) (fun σ_59 H locs hpσ_59 hkσ_59 hI => ?_)
        have ahpσ_59 := hpσ_59.1
        have bhpσ_59 := hpσ_59.2
        clear hpσ_59
        have fr_σ_59 := fr_σ_4.call bhpσ_59 rfl rfl
        replace hF := q_letX hF ahpσ_59
        obtain ⟨z_60, ez_60⟩ : ∃ y : Int32, y = x_3 + 1 := ⟨_, rfl⟩
        replace hF := q_letX hF ez_60
        refine lv_iinc (v := z_60) (lv' := [(4, .int z_60), (0, .ref a), (1, .int v1), (2, .int v2), (3, .int r_1)]) hx hb dX0_foresee_46 hl (k := 4) rfl (by rw [ez_60]; rfl) (by decide) rfl (fun ls hl => ?_)
        have iz_60 : z_60.toInt = x_3.toInt + 1 := q_inc ez_60 (by omega)
        refine lv_goto (tgt := 15) hx hb dX0_foresee_49 (by decide) ?_
        exact ih15 z_60 σ_59 _ _ ls (by omega) (by omega) fr_σ_59 hF hI (lv_sub hl [1, 2, 3, 4, 0] rfl)
  exact L_15_5 ((2147483647 - (0 : Int32).toInt).toNat + 1) 0 σ _ _ ls (Nat.lt_succ_self _) (by decide) fr_σ hF hI (lv_sub hl [2, 3, 4, 1, 0] rfl)

set_option maxRecDepth 100000 in
set_option maxHeartbeats 4000000 in
theorem c_X0_sixteenthsLeft (l : Launch) (X : XW) (σ : ST) (a : Nat) (v1 : Int32) (v2 : Int32) (v3 : Int32) (ha : q_kd X a = 1) : Met l yX0_sixteenthsLeft (q_ws yX0_sixteenthsLeft cX0_sixteenthsLeft 5 (some .int)) (q_rm 1 21) (q_P X σ [.ref a, .int v1, .int v2, .int v3]) (q_Qi X 9 σ (fun (r : Int32) (σ' : ST) => σ' = σ ∧ r = F_X0_sixteenthsLeft X σ a v1 v2 v3)) 0 0 (q_reg X) := by
  refine q_met 9 (by first | exact rfl | decide +kernel) rfl (Nat.le_of_ble_eq_true rfl) (fun p e s m below meth c E hml hr hlk hI ls hl => ?_)
  have hx := E.1
  have hb := E.2.1
  have hl : lv_has ls 5 [(0, .ref a), (1, .int v1), (2, .int v2), (3, .int v3)] := hl
  obtain ⟨out, hout⟩ : ∃ o, o = F_X0_sixteenthsLeft X σ a v1 v2 v3 := ⟨_, rfl⟩
  have hF := hout.symm
  unfold F_X0_sixteenthsLeft at hF
  refine lv_aload_n hx hb dX0_sixteenthsLeft_0 rfl (lv_at hl 0 rfl) ?_
  refine gs_X0_21_1 E hI ha dX0_sixteenthsLeft_1 ?_
  refine gs_X0_150_2 E hI (q_tk (k' := 2) hI ha rfl (Nat.succ_ne_zero _)) dX0_sixteenthsLeft_4 ?_
  refine lv_aload_n hx hb dX0_sixteenthsLeft_7 rfl (lv_at hl 0 rfl) ?_
  refine gs_X0_43_1 E hI ha dX0_sixteenthsLeft_8 ?_
  refine lv_topi (fun f_1 ef_1 => ?_)
  replace hF := q_letX hF ef_1
  refine q_ci (q_rV4_1 (rest := []) E (hml.trans hl.1.symm) hI (c_X5_get l X σ (q_rf X (q_rf X a 1) 2) f_1 (q_tk (k' := 5) hI (q_tk (k' := 2) hI ha rfl (Nat.succ_ne_zero _)) rfl (Nat.succ_ne_zero _))) kv_X0_113 (q_tk (k' := 5) hI (q_tk (k' := 2) hI ha rfl (Nat.succ_ne_zero _)) rfl (Nat.succ_ne_zero _)) ⟨Nat.le_of_ble_eq_true rfl, Nat.le_of_ble_eq_true rfl⟩ (Nat.le_of_ble_eq_true rfl) dX0_sixteenthsLeft_11) hI (Nat.le_of_ble_eq_true rfl) (fun r_2 σ_3 H locs hpσ_3 hkσ_3 hI => ?_)
  have ahpσ_3 := hpσ_3.1
  have bhpσ_3 := hpσ_3.2
  clear hpσ_3
  replace hI := q_Irw ahpσ_3 hI
  replace hF := q_letX hF bhpσ_3
  refine lv_iload_n hx hb dX0_sixteenthsLeft_14 rfl (lv_at hl 1 rfl) ?_
  refine lv_isub hx hb dX0_sixteenthsLeft_15 ?_
  refine lv_topi (fun z_4 ez_4 => ?_)
  replace hF := q_letX hF ez_4
  refine lv_iload_n hx hb dX0_sixteenthsLeft_16 rfl (lv_at hl 2 rfl) ?_
  refine lv_isub hx hb dX0_sixteenthsLeft_17 ?_
  refine lv_topi (fun z_5 ez_5 => ?_)
  replace hF := q_letX hF ez_5
  refine lv_istore (lv' := [(4, .int z_5), (0, .ref a), (1, .int v1), (2, .int v2), (3, .int v3)]) hx hb dX0_sixteenthsLeft_18 hl (by decide) rfl (fun ls hl => ?_)
  refine lv_bipush (v := 16) hx hb dX0_sixteenthsLeft_20 zkb_16 ?_
  refine lv_iload hx hb dX0_sixteenthsLeft_22 (lv_at hl 0 rfl) ?_
  refine lv_imul hx hb dX0_sixteenthsLeft_24 ?_
  refine lv_topi (fun z_6 ez_6 => ?_)
  replace hF := q_letX hF ez_6
  refine lv_iload_n hx hb dX0_sixteenthsLeft_25 rfl (lv_at hl 3 rfl) ?_
  refine q_if_le (A := v2.toInt) E rfl (tgt := 45) dX0_sixteenthsLeft_26 (by decide) (fun c_7 => ?_) (fun c_7 => ?_)
  · skip
    replace hF := q_ifn hF (Int.not_lt.mpr c_7)
    refine lv_iconst (v := 0) hx hb dX0_sixteenthsLeft_45 zki_0 ?_
    refine lv_iadd hx hb dX0_sixteenthsLeft_46 ?_
    refine lv_topi (fun z_8 ez_8 => ?_)
    replace hF := q_letX hF ez_8
    exact q_reti E hr hlk hI ⟨rfl, (hF.trans hout)⟩ dX0_sixteenthsLeft_47
  · skip
    replace hF := q_ifp hF c_7
    refine lv_iload_n hx hb dX0_sixteenthsLeft_29 rfl (lv_at hl 4 rfl) ?_
    refine lv_aload_n hx hb dX0_sixteenthsLeft_30 rfl (lv_at hl 1 rfl) ?_
    refine gs_X0_28_1 E hI ha dX0_sixteenthsLeft_31 ?_
    refine gs_X0_172_3 E hI (q_tk (k' := 3) hI ha rfl (Nat.succ_ne_zero _)) dX0_sixteenthsLeft_34 ?_
    refine lv_topi (fun f_9 ef_9 => ?_)
    replace hF := q_letX hF ef_9
    refine lv_iload_n hx hb dX0_sixteenthsLeft_37 rfl (lv_at hl 2 rfl) ?_
    refine lv_iadd hx hb dX0_sixteenthsLeft_38 ?_
    refine lv_topi (fun z_10 ez_10 => ?_)
    replace hF := q_letX hF ez_10
    refine lv_iload_n hx hb dX0_sixteenthsLeft_39 rfl (lv_at hl 3 rfl) ?_
    refine lv_iadd hx hb dX0_sixteenthsLeft_40 ?_
    refine lv_topi (fun z_11 ez_11 => ?_)
    replace hF := q_letX hF ez_11
    refine lv_imul hx hb dX0_sixteenthsLeft_41 ?_
    refine lv_topi (fun z_12 ez_12 => ?_)
    replace hF := q_letX hF ez_12
    refine lv_goto (tgt := 46) hx hb dX0_sixteenthsLeft_42 (by decide) ?_
    refine lv_iadd hx hb dX0_sixteenthsLeft_46 ?_
    refine lv_topi (fun z_13 ez_13 => ?_)
    replace hF := q_letX hF ez_13
    exact q_reti E hr hlk hI ⟨rfl, (hF.trans hout)⟩ dX0_sixteenthsLeft_47

set_option maxRecDepth 100000 in
set_option maxHeartbeats 4000000 in
theorem c_X0_lyingOf (l : Launch) (X : XW) (σ : ST) (a : Nat) (v1 : Int32) (ha : q_kd X a = 1) : Met l yX0_lyingOf (q_ws yX0_lyingOf cX0_lyingOf 4 (some .int)) (q_rm 2 43) (q_P X σ [.ref a, .int v1]) (q_Qi X 9 σ (fun (r : Int32) (σ' : ST) => σ' = σ ∧ r = F_X0_lyingOf X σ a v1)) 0 0 (q_reg X) := by
  refine q_met 9 (by first | exact rfl | decide +kernel) rfl (Nat.le_of_ble_eq_true rfl) (fun p e s m below meth c E hml hr hlk hI ls hl => ?_)
  have hx := E.1
  have hb := E.2.1
  have hl : lv_has ls 4 [(0, .ref a), (1, .int v1)] := hl
  obtain ⟨out, hout⟩ : ∃ o, o = F_X0_lyingOf X σ a v1 := ⟨_, rfl⟩
  have hF := hout.symm
  unfold F_X0_lyingOf at hF
  refine lv_iconst (v := 0) hx hb dX0_lyingOf_0 zki_0 ?_
  refine lv_istore_n (lv' := [(2, .int 0), (0, .ref a), (1, .int v1)]) hx hb dX0_lyingOf_1 rfl hl (by decide) rfl (fun ls hl => ?_)
  refine lv_iconst (v := 0) hx hb dX0_lyingOf_2 zki_0 ?_
  refine lv_istore_n (lv' := [(3, .int 0), (2, .int 0), (0, .ref a), (1, .int v1)]) hx hb dX0_lyingOf_3 rfl hl (by decide) rfl (fun ls hl => ?_)
  have L_4_3 : ∀ (k_3 : Nat) (x_1 : Int32) (x_2 : Int32) (H : Heap) (locs : List Loc) (ls : Array Slot), (2147483647 - x_2.toInt).toNat < k_3 → (0 ≤ x_2.toInt) → (F_X0_lyingOf_L4_1 X σ a v1 k_3 x_1 x_2 = out) → q_I X 9 σ s.heap locs σ H → lv_has ls 4 [(0, .ref a), (1, .int v1), (2, .int x_1), (3, .int x_2)] → W p l e (q_rm 2 43) s m ([.ref a, .int v1] : List Value).toArray below meth c H locs 0 0 (MQ below (q_Qi X 9 σ (fun (r : Int32) (σ' : ST) => σ' = σ ∧ r = F_X0_lyingOf X σ a v1)) ([.ref a, .int v1] : List Value).toArray s 0 0 (q_reg X)) (F0 m 4 ls []) := by
    clear hF
    intro k_3
    induction k_3 with
    | zero =>
      intro x_1 x_2 H locs ls hms
      exact absurd hms (Nat.not_lt_zero _)
    | succ k_3 ih4 =>
      intro x_1 x_2 H locs ls hm4 hge4 hF hI hl
      replace hF := (F_X0_lyingOf_L4_1_s).symm.trans hF
      unfold F_X0_lyingOf_B4_1 at hF
      refine lv_iload_n hx hb dX0_lyingOf_4 rfl (lv_at hl 3 rfl) ?_
      refine lv_aload_n hx hb dX0_lyingOf_5 rfl (lv_at hl 0 rfl) ?_
      refine gs_X0_12_1 E hI ha dX0_lyingOf_6 ?_
      refine gs_X0_183_6 E hI (q_tk (k' := 6) hI ha rfl (Nat.succ_ne_zero _)) dX0_lyingOf_9 ?_
      refine lv_topi (fun f_4 ef_4 => ?_)
      replace hF := q_letX hF ef_4
      have gc_5_x_2 := q_rng x_2
      have gc_5_f_4 := q_rng f_4
      refine q_icmp_ge (A := x_2.toInt) (B := f_4.toInt) E rfl rfl (tgt := 33) dX0_lyingOf_12 (by decide) (fun c_5 => ?_) (fun c_5 => ?_)
      · skip
        replace hF := q_ifn hF (Int.not_lt.mpr c_5)
        skip
        refine lv_iload_n hx hb dX0_lyingOf_33 rfl (lv_at hl 2 rfl) ?_
        exact q_reti E hr hlk hI ⟨rfl, (hF.trans hout)⟩ dX0_lyingOf_34
      · skip
        replace hF := q_ifp hF c_5
        refine lv_iload_n hx hb dX0_lyingOf_15 rfl (lv_at hl 2 rfl) ?_
        refine lv_aload_n hx hb dX0_lyingOf_16 rfl (lv_at hl 0 rfl) ?_
        refine gs_X0_21_1 E hI ha dX0_lyingOf_17 ?_
        refine lv_iload_n hx hb dX0_lyingOf_20 rfl (lv_at hl 3 rfl) ?_
        refine lv_iload_n hx hb dX0_lyingOf_21 rfl (lv_at hl 1 rfl) ?_
        refine q_ci (q_rV1_2 (rest := [.int x_1]) E (hml.trans hl.1.symm) hI (c_X1_laidBy l X σ (q_rf X a 1) x_2 v1 (q_tk (k' := 2) hI ha rfl (Nat.succ_ne_zero _))) kv_X0_186 (q_tk (k' := 2) hI ha rfl (Nat.succ_ne_zero _)) ⟨Nat.le_of_ble_eq_true rfl, Nat.le_of_ble_eq_true rfl⟩ (Nat.le_of_ble_eq_true rfl) dX0_lyingOf_22) hI (Nat.le_of_ble_eq_true rfl) (fun r_6 σ_7 H locs hpσ_7 hkσ_7 hI => ?_)
        have ahpσ_7 := hpσ_7.1
        have bhpσ_7 := hpσ_7.2
        clear hpσ_7
        replace hI := q_Irw ahpσ_7 hI
        replace hF := q_letX hF bhpσ_7
        refine lv_iadd hx hb dX0_lyingOf_25 ?_
        refine lv_topi (fun z_8 ez_8 => ?_)
        replace hF := q_letX hF ez_8
        refine lv_istore_n (lv' := [(2, .int z_8), (0, .ref a), (1, .int v1), (3, .int x_2)]) hx hb dX0_lyingOf_26 rfl hl (by decide) rfl (fun ls hl => ?_)
        obtain ⟨z_9, ez_9⟩ : ∃ y : Int32, y = x_2 + 1 := ⟨_, rfl⟩
        replace hF := q_letX hF ez_9
        refine lv_iinc (v := z_9) (lv' := [(3, .int z_9), (2, .int z_8), (0, .ref a), (1, .int v1)]) hx hb dX0_lyingOf_27 hl (k := 3) rfl (by rw [ez_9]; rfl) (by decide) rfl (fun ls hl => ?_)
        have iz_9 : z_9.toInt = x_2.toInt + 1 := q_inc ez_9 (by first | (clear hm4 ahpσ_7 bhpσ_7; omega) | omega)
        refine lv_goto (tgt := 4) hx hb dX0_lyingOf_30 (by decide) ?_
        exact ih4 z_8 z_9 _ _ ls (by first | (clear ahpσ_7 bhpσ_7; omega) | omega) (by omega) hF hI (lv_sub hl [2, 3, 1, 0] rfl)
  exact L_4_3 ((2147483647 - (0 : Int32).toInt).toNat + 1) 0 0 _ _ ls (Nat.lt_succ_self _) (by decide) hF hI (lv_sub hl [2, 3, 1, 0] rfl)
end
/-! FROM 14.tables.a.lean.txt -/
section
section QS
variable {p : Program} {l : Launch} {e : Env} {R : Room} {s : State} {m : MethodId} {args : Array Value} {below : List Frame} {meth : Method} {c : Code} {H : Heap} {locs : List Loc} {cells slots : Nat} {Q : State → Prop} {cc : ByteArray} {X : XW} {n : Nat} {σ0 σ : ST} {H0 : Heap} {pc : Nat} {ls : Array Slot} {rest : List Value} {a : Nat}
theorem kz_X9_55 (E : q_E p c cc s m args RX9 X) : vk_R RX9 55 "kinds" (q_sk X 0) s := E.2.2.2.2.1.2.2 (RX9, 55, "kinds", 0) (List.mem_of_getElem? (i := 0) (by first | rfl | decide +kernel))
theorem ku_X9_57_9 : q_okU2 RX9 57 RX9 "CheatHeap$Reader" ⟨"CheatHeap$TableReader", "passWord", "(Ljava/lang/String;)Z"⟩ yX3_passWord cX3_passWord 2 (some .boolean) 1 := ⟨(q_in_t3 (i := 174) (by first | rfl | decide +kernel) rfl), (q_in_t3 (i := 175) (by first | rfl | decide +kernel) rfl), (q_in_t3 (i := 177) (by first | rfl | decide +kernel) rfl), (q_in_t3 (i := 178) (by first | rfl | decide +kernel) rfl), (q_in_t1 (i := 9) (by first | rfl | decide +kernel) rfl), (q_in_t3 (i := 179) (by first | rfl | decide +kernel) rfl), ⟨by decide, by decide, rfl⟩, rfl⟩
theorem ku_X9_61_9 : q_okU2 RX9 61 RX9 "CheatHeap$Reader" ⟨"CheatHeap$TableReader", "passNumber", "(II)I"⟩ yX3_passNumber cX3_passNumber 4 (some .int) 2 := ⟨(q_in_t4 (i := 0) (by first | rfl | decide +kernel) rfl), (q_in_t4 (i := 1) (by first | rfl | decide +kernel) rfl), (q_in_t4 (i := 3) (by first | rfl | decide +kernel) rfl), (q_in_t4 (i := 4) (by first | rfl | decide +kernel) rfl), (q_in_t1 (i := 9) (by first | rfl | decide +kernel) rfl), (q_in_t4 (i := 5) (by first | rfl | decide +kernel) rfl), ⟨by decide, by decide, rfl⟩, rfl⟩
theorem kz_X9_65 (E : q_E p c cc s m args RX9 X) : vk_R RX9 65 "each" (q_sk X 1) s := E.2.2.2.2.1.2.2 (RX9, 65, "each", 1) (List.mem_of_getElem? (i := 1) (by first | rfl | decide +kernel))
theorem gs_X9_12_9 (E : q_E p c cc s m args RX9 X) (hI : q_I X n σ0 H0 locs σ H) (ha : q_kd X a = 9) (hdg : decode cc pc = .ok (.getfield 12, 3)) (kk : W p l e R s m args below meth c H locs cells slots Q (F0 m (pc + 3) ls (.ref (q_rf X a 8) :: rest))) : W p l e R s m args below meth c H locs cells slots Q (F0 m pc ls (.ref a :: rest)) :=
  q_getf (ref := "CheatHeap$TableReader") E hI ha ⟨rfl, by decide⟩ (show vwCl[8]? = some (RX9, TX9, 12) from rfl) q_inX9 (f := 8) (by decide) (q_in_t2 (i := 71) (by first | rfl | decide +kernel) rfl) (Or.inl rfl) rfl hdg kk
theorem gs_X9_67_1 (E : q_E p c cc s m args RX9 X) (hI : q_I X n σ0 H0 locs σ H) (ha : q_kd X a = 1) (hdg : decode cc pc = .ok (.getfield 67, 3)) (kk : W p l e R s m args below meth c H locs cells slots Q (F0 m (pc + 3) ls (.ref (q_rf X a 0) :: rest))) : W p l e R s m args below meth c H locs cells slots Q (F0 m pc ls (.ref a :: rest)) :=
  q_getf (ref := "CheatHeap$Game") E hI ha ⟨rfl, by decide⟩ (show vwCl[0]? = some (RX0, TX0, 15) from rfl) q_inX0 (f := 0) (by decide) (q_in_t1 (i := 229) (by first | rfl | decide +kernel) rfl) (Or.inl rfl) rfl hdg kk
theorem ps_X9_71_6 (E : q_E p c cc s m args RX9 X) (hI : q_I X n σ0 H0 locs σ H) (ha : q_kd X a = 6) {v : Int32} (hcl : n < 9) (h1 : -2147483648 ≤ v.toInt) (h2 : v.toInt ≤ 10) (hdg : decode cc pc = .ok (.putfield 71, 3)) (kk : ∀ (H1 : Heap) (locs1 : List Loc) (σ1 : ST), σ1 = q_si σ a 0 v → q_I X n σ0 H0 locs1 σ1 H1 → W p l e R s m args below meth c H1 locs1 cells slots Q (F0 m (pc + 3) ls rest)) : W p l e R s m args below meth c H locs cells slots Q (F0 m pc ls (.int v :: .ref a :: rest)) :=
  q_puti (ref := "CheatHeap$Rules") E hI ha ⟨rfl, by decide⟩ (show vwCl[5]? = some (RX6, TX6, 8) from rfl) q_inX6 tyX6_ok nmX6 (f := 0) (by decide) (q_in_t1 (i := 58) (by first | rfl | decide +kernel) rfl) (Or.inl rfl) rfl rfl hcl hdg (q_inB rfl h1 h2) (Or.inl rfl) (fun H1 l1 h => kk H1 l1 _ rfl h)
theorem ps_X9_75_6 (E : q_E p c cc s m args RX9 X) (hI : q_I X n σ0 H0 locs σ H) (ha : q_kd X a = 6) {v : Int32} (hcl : n < 9) (hdg : decode cc pc = .ok (.putfield 75, 3)) (kk : ∀ (H1 : Heap) (locs1 : List Loc) (σ1 : ST), σ1 = q_si σ a 1 v → q_I X n σ0 H0 locs1 σ1 H1 → W p l e R s m args below meth c H1 locs1 cells slots Q (F0 m (pc + 3) ls rest)) : W p l e R s m args below meth c H locs cells slots Q (F0 m pc ls (.int v :: .ref a :: rest)) :=
  q_puti (ref := "CheatHeap$Rules") E hI ha ⟨rfl, by decide⟩ (show vwCl[5]? = some (RX6, TX6, 8) from rfl) q_inX6 tyX6_ok nmX6 (f := 1) (by decide) (q_in_t1 (i := 63) (by first | rfl | decide +kernel) rfl) (Or.inl rfl) rfl rfl hcl hdg (q_inU rfl) (Or.inl rfl) (fun H1 l1 h => kk H1 l1 _ rfl h)
theorem ku_X9_77_9 : q_okU2 RX9 77 RX9 "CheatHeap$Reader" ⟨"CheatHeap$TableReader", "passSemicolon", "()Z"⟩ yX3_passSemicolon cX3_passSemicolon 1 (some .boolean) 0 := ⟨(q_in_t4 (i := 13) (by first | rfl | decide +kernel) rfl), (q_in_t4 (i := 14) (by first | rfl | decide +kernel) rfl), (q_in_t4 (i := 16) (by first | rfl | decide +kernel) rfl), (q_in_t4 (i := 17) (by first | rfl | decide +kernel) rfl), (q_in_t1 (i := 9) (by first | rfl | decide +kernel) rfl), (q_in_t4 (i := 18) (by first | rfl | decide +kernel) rfl), ⟨by decide, by decide, rfl⟩, rfl⟩
theorem gs_X9_18_9 (E : q_E p c cc s m args RX9 X) (hI : q_I X n σ0 H0 locs σ H) (ha : q_kd X a = 9) (hdg : decode cc pc = .ok (.getfield 18, 3)) (kk : W p l e R s m args below meth c H locs cells slots Q (F0 m (pc + 3) ls (.int (σ.1 a 9) :: rest))) : W p l e R s m args below meth c H locs cells slots Q (F0 m pc ls (.ref a :: rest)) :=
  q_getf (ref := "CheatHeap$TableReader") E hI ha ⟨rfl, by decide⟩ (show vwCl[8]? = some (RX9, TX9, 12) from rfl) q_inX9 (f := 9) (by decide) (q_in_t2 (i := 73) (by first | rfl | decide +kernel) rfl) (Or.inl rfl) rfl hdg kk
theorem ps_X9_18_9 (E : q_E p c cc s m args RX9 X) (hI : q_I X n σ0 H0 locs σ H) (ha : q_kd X a = 9) {v : Int32} (hcl : n < 9) (h1 : 0 ≤ v.toInt) (h2 : v.toInt ≤ 1) (hdg : decode cc pc = .ok (.putfield 18, 3)) (kk : ∀ (H1 : Heap) (locs1 : List Loc) (σ1 : ST), σ1 = q_si σ a 9 v → q_I X n σ0 H0 locs1 σ1 H1 → W p l e R s m args below meth c H1 locs1 cells slots Q (F0 m (pc + 3) ls rest)) : W p l e R s m args below meth c H locs cells slots Q (F0 m pc ls (.int v :: .ref a :: rest)) :=
  q_puti (ref := "CheatHeap$TableReader") E hI ha ⟨rfl, by decide⟩ (show vwCl[8]? = some (RX9, TX9, 12) from rfl) q_inX9 tyX9_ok nmX9 (f := 9) (by decide) (q_in_t2 (i := 73) (by first | rfl | decide +kernel) rfl) (Or.inl rfl) rfl rfl hcl hdg (q_inB rfl h1 h2) (Or.inr ⟨rfl, h1, h2⟩) (fun H1 l1 h => kk H1 l1 _ rfl h)
theorem ku_X9_107_9 : q_okU2 RX9 107 RX9 "CheatHeap$Reader" ⟨"CheatHeap$TableReader", "advance", "()V"⟩ yX3_advance cX3_advance 3 none 0 := ⟨(q_in_t4 (i := 36) (by first | rfl | decide +kernel) rfl), (q_in_t4 (i := 37) (by first | rfl | decide +kernel) rfl), (q_in_t4 (i := 39) (by first | rfl | decide +kernel) rfl), (q_in_t3 (i := 148) (by first | rfl | decide +kernel) rfl), (q_in_t1 (i := 9) (by first | rfl | decide +kernel) rfl), (q_in_t3 (i := 152) (by first | rfl | decide +kernel) rfl), ⟨by decide, by decide, rfl⟩, rfl⟩
theorem kz_X9_110 (E : q_E p c cc s m args RX9 X) : vk_R RX9 110 "up" (q_sk X 3) s := E.2.2.2.2.1.2.2 (RX9, 110, "up", 3) (List.mem_of_getElem? (i := 3) (by first | rfl | decide +kernel))
theorem ku_X9_82_9 : q_okU2 RX9 82 RX9 "CheatHeap$Reader" ⟨"CheatHeap$TableReader", "isWord", "(Ljava/lang/String;)Z"⟩ yX3_isWord cX3_isWord 3 (some .boolean) 1 := ⟨(q_in_t4 (i := 24) (by first | rfl | decide +kernel) rfl), (q_in_t4 (i := 25) (by first | rfl | decide +kernel) rfl), (q_in_t4 (i := 27) (by first | rfl | decide +kernel) rfl), (q_in_t3 (i := 181) (by first | rfl | decide +kernel) rfl), (q_in_t1 (i := 9) (by first | rfl | decide +kernel) rfl), (q_in_t3 (i := 185) (by first | rfl | decide +kernel) rfl), ⟨by decide, by decide, rfl⟩, rfl⟩
theorem kz_X9_114 (E : q_E p c cc s m args RX9 X) : vk_R RX9 114 "down" (q_sk X 4) s := E.2.2.2.2.1.2.2 (RX9, 114, "down", 4) (List.mem_of_getElem? (i := 4) (by first | rfl | decide +kernel))
theorem kz_X9_116 (E : q_E p c cc s m args RX9 X) : vk_R RX9 116 "same" (q_sk X 5) s := E.2.2.2.2.1.2.2 (RX9, 116, "same", 5) (List.mem_of_getElem? (i := 5) (by first | rfl | decide +kernel))
theorem ku_X9_103_9 : q_okU2 RX9 103 RX9 "CheatHeap$Reader" ⟨"CheatHeap$TableReader", "fails", "(I)Z"⟩ yX3_fails cX3_fails 2 (some .boolean) 1 := ⟨(q_in_t4 (i := 32) (by first | rfl | decide +kernel) rfl), (q_in_t4 (i := 33) (by first | rfl | decide +kernel) rfl), (q_in_t4 (i := 35) (by first | rfl | decide +kernel) rfl), (q_in_t3 (i := 235) (by first | rfl | decide +kernel) rfl), (q_in_t1 (i := 9) (by first | rfl | decide +kernel) rfl), (q_in_t3 (i := 239) (by first | rfl | decide +kernel) rfl), ⟨by decide, by decide, rfl⟩, rfl⟩
theorem ps_X9_112_6 (E : q_E p c cc s m args RX9 X) (hI : q_I X n σ0 H0 locs σ H) (ha : q_kd X a = 6) {v : Int32} (hcl : n < 9) (hdg : decode cc pc = .ok (.putfield 112, 3)) (kk : ∀ (H1 : Heap) (locs1 : List Loc) (σ1 : ST), σ1 = q_si σ a 2 v → q_I X n σ0 H0 locs1 σ1 H1 → W p l e R s m args below meth c H1 locs1 cells slots Q (F0 m (pc + 3) ls rest)) : W p l e R s m args below meth c H locs cells slots Q (F0 m pc ls (.int v :: .ref a :: rest)) :=
  q_puti (ref := "CheatHeap$Rules") E hI ha ⟨rfl, by decide⟩ (show vwCl[5]? = some (RX6, TX6, 8) from rfl) q_inX6 tyX6_ok nmX6 (f := 2) (by decide) (q_in_t1 (i := 66) (by first | rfl | decide +kernel) rfl) (Or.inl rfl) rfl rfl hcl hdg (q_inU rfl) (Or.inl rfl) (fun H1 l1 h => kk H1 l1 _ rfl h)
theorem gs_X9_22_9 (E : q_E p c cc s m args RX9 X) (hI : q_I X n σ0 H0 locs σ H) (ha : q_kd X a = 9) (hdg : decode cc pc = .ok (.getfield 22, 3)) (kk : W p l e R s m args below meth c H locs cells slots Q (F0 m (pc + 3) ls (.int (σ.1 a 10) :: rest))) : W p l e R s m args below meth c H locs cells slots Q (F0 m pc ls (.ref a :: rest)) :=
  q_getf (ref := "CheatHeap$TableReader") E hI ha ⟨rfl, by decide⟩ (show vwCl[8]? = some (RX9, TX9, 12) from rfl) q_inX9 (f := 10) (by decide) (q_in_t2 (i := 74) (by first | rfl | decide +kernel) rfl) (Or.inl rfl) rfl hdg kk
theorem ps_X9_22_9 (E : q_E p c cc s m args RX9 X) (hI : q_I X n σ0 H0 locs σ H) (ha : q_kd X a = 9) {v : Int32} (hcl : n < 9) (h1 : 0 ≤ v.toInt) (h2 : v.toInt ≤ 1) (hdg : decode cc pc = .ok (.putfield 22, 3)) (kk : ∀ (H1 : Heap) (locs1 : List Loc) (σ1 : ST), σ1 = q_si σ a 10 v → q_I X n σ0 H0 locs1 σ1 H1 → W p l e R s m args below meth c H1 locs1 cells slots Q (F0 m (pc + 3) ls rest)) : W p l e R s m args below meth c H locs cells slots Q (F0 m pc ls (.int v :: .ref a :: rest)) :=
  q_puti (ref := "CheatHeap$TableReader") E hI ha ⟨rfl, by decide⟩ (show vwCl[8]? = some (RX9, TX9, 12) from rfl) q_inX9 tyX9_ok nmX9 (f := 10) (by decide) (q_in_t2 (i := 74) (by first | rfl | decide +kernel) rfl) (Or.inl rfl) rfl rfl hcl hdg (q_inB rfl h1 h2) (Or.inr ⟨rfl, h1, h2⟩) (fun H1 l1 h => kk H1 l1 _ rfl h)
theorem ps_X9_118_6 (E : q_E p c cc s m args RX9 X) (hI : q_I X n σ0 H0 locs σ H) (ha : q_kd X a = 6) {v : Int32} (hcl : n < 9) (h1 : -2147483648 ≤ v.toInt) (h2 : v.toInt ≤ 4) (hdg : decode cc pc = .ok (.putfield 118, 3)) (kk : ∀ (H1 : Heap) (locs1 : List Loc) (σ1 : ST), σ1 = q_si σ a 3 v → q_I X n σ0 H0 locs1 σ1 H1 → W p l e R s m args below meth c H1 locs1 cells slots Q (F0 m (pc + 3) ls rest)) : W p l e R s m args below meth c H locs cells slots Q (F0 m pc ls (.int v :: .ref a :: rest)) :=
  q_puti (ref := "CheatHeap$Rules") E hI ha ⟨rfl, by decide⟩ (show vwCl[5]? = some (RX6, TX6, 8) from rfl) q_inX6 tyX6_ok nmX6 (f := 3) (by decide) (q_in_t1 (i := 70) (by first | rfl | decide +kernel) rfl) (Or.inl rfl) rfl rfl hcl hdg (q_inB rfl h1 h2) (Or.inl rfl) (fun H1 l1 h => kk H1 l1 _ rfl h)
theorem kv_X9_154 : q_okV RX9 154 RX5 yX5_set cX5_set 3 none 2 := ⟨(q_in_t4 (i := 91) (by first | rfl | decide +kernel) rfl), (q_in_t4 (i := 83) (by first | rfl | decide +kernel) rfl), (q_in_t4 (i := 84) (by first | rfl | decide +kernel) rfl), (q_in_t1 (i := 4) (by first | rfl | decide +kernel) rfl), (q_in_t4 (i := 85) (by first | rfl | decide +kernel) rfl), ⟨rfl, by decide, by decide, rfl⟩⟩
theorem gs_X9_120_6 (E : q_E p c cc s m args RX9 X) (hI : q_I X n σ0 H0 locs σ H) (ha : q_kd X a = 6) (hdg : decode cc pc = .ok (.getfield 120, 3)) (kk : W p l e R s m args below meth c H locs cells slots Q (F0 m (pc + 3) ls (.int (σ.1 a 4) :: rest))) : W p l e R s m args below meth c H locs cells slots Q (F0 m pc ls (.ref a :: rest)) :=
  q_getf (ref := "CheatHeap$Rules") E hI ha ⟨rfl, by decide⟩ (show vwCl[5]? = some (RX6, TX6, 8) from rfl) q_inX6 (f := 4) (by decide) (q_in_t1 (i := 75) (by first | rfl | decide +kernel) rfl) (Or.inl rfl) rfl hdg kk
theorem ku_X9_123_9 : q_okU2 RX9 123 RX9 "CheatHeap$Reader" ⟨"CheatHeap$TableReader", "mustBeName", "()Z"⟩ yX3_mustBeName cX3_mustBeName 1 (some .boolean) 0 := ⟨(q_in_t4 (i := 53) (by first | rfl | decide +kernel) rfl), (q_in_t4 (i := 54) (by first | rfl | decide +kernel) rfl), (q_in_t4 (i := 56) (by first | rfl | decide +kernel) rfl), (q_in_t4 (i := 57) (by first | rfl | decide +kernel) rfl), (q_in_t1 (i := 9) (by first | rfl | decide +kernel) rfl), (q_in_t4 (i := 58) (by first | rfl | decide +kernel) rfl), ⟨by decide, by decide, rfl⟩, rfl⟩
theorem kv_X9_126 : q_okV RX9 126 RX6 yX6_playerNamed cX6_playerNamed 3 (some .int) 1 := ⟨(q_in_t4 (i := 64) (by first | rfl | decide +kernel) rfl), (q_in_t4 (i := 65) (by first | rfl | decide +kernel) rfl), (q_in_t4 (i := 66) (by first | rfl | decide +kernel) rfl), (q_in_t1 (i := 3) (by first | rfl | decide +kernel) rfl), (q_in_t4 (i := 67) (by first | rfl | decide +kernel) rfl), ⟨rfl, by decide, by decide, rfl⟩⟩
theorem kv_X9_130 : q_okV RX9 130 RX6 yX6_addPlayer cX6_addPlayer 3 none 1 := ⟨(q_in_t4 (i := 78) (by first | rfl | decide +kernel) rfl), (q_in_t4 (i := 79) (by first | rfl | decide +kernel) rfl), (q_in_t4 (i := 80) (by first | rfl | decide +kernel) rfl), (q_in_t1 (i := 3) (by first | rfl | decide +kernel) rfl), (q_in_t4 (i := 81) (by first | rfl | decide +kernel) rfl), ⟨rfl, by decide, by decide, rfl⟩⟩
theorem kz_X9_134 (E : q_E p c cc s m args RX9 X) : vk_R RX9 134 "lies" (q_sk X 9) s := E.2.2.2.2.1.2.2 (RX9, 134, "lies", 9) (List.mem_of_getElem? (i := 9) (by first | rfl | decide +kernel))
theorem gs_X9_136_1 (E : q_E p c cc s m args RX9 X) (hI : q_I X n σ0 H0 locs σ H) (ha : q_kd X a = 1) (hdg : decode cc pc = .ok (.getfield 136, 3)) (kk : W p l e R s m args below meth c H locs cells slots Q (F0 m (pc + 3) ls (.ref (q_rf X a 1) :: rest))) : W p l e R s m args below meth c H locs cells slots Q (F0 m pc ls (.ref a :: rest)) :=
  q_getf (ref := "CheatHeap$Game") E hI ha ⟨rfl, by decide⟩ (show vwCl[0]? = some (RX0, TX0, 15) from rfl) q_inX0 (f := 1) (by decide) (q_in_t1 (i := 234) (by first | rfl | decide +kernel) rfl) (Or.inl rfl) rfl hdg kk
theorem gs_X9_140_2 (E : q_E p c cc s m args RX9 X) (hI : q_I X n σ0 H0 locs σ H) (ha : q_kd X a = 2) (hdg : decode cc pc = .ok (.getfield 140, 3)) (kk : W p l e R s m args below meth c H locs cells slots Q (F0 m (pc + 3) ls (.ref (q_rf X a 3) :: rest))) : W p l e R s m args below meth c H locs cells slots Q (F0 m pc ls (.ref a :: rest)) :=
  q_getf (ref := "CheatHeap$Hands") E hI ha ⟨rfl, by decide⟩ (show vwCl[1]? = some (RX1, TX1, 7) from rfl) q_inX1 (f := 3) (by decide) (q_in_t1 (i := 117) (by first | rfl | decide +kernel) rfl) (Or.inl rfl) rfl hdg kk
theorem kv_X9_145 : q_okV RX9 145 RX9 yX9_readSixteenths cX9_readSixteenths 5 (some .boolean) 3 := ⟨(q_in_t4 (i := 87) (by first | rfl | decide +kernel) rfl), (q_in_t4 (i := 89) (by first | rfl | decide +kernel) rfl), (q_in_p (i := 12) (by decide +kernel) rfl), (q_in_t1 (i := 10) (by first | rfl | decide +kernel) rfl), (q_in_t4 (i := 90) (by first | rfl | decide +kernel) rfl), ⟨rfl, by decide, by decide, rfl⟩⟩
theorem kz_X9_149 (E : q_E p c cc s m args RX9 X) : vk_R RX9 149 "doubts" (q_sk X 10) s := E.2.2.2.2.1.2.2 (RX9, 149, "doubts", 10) (List.mem_of_getElem? (i := 10) (by first | rfl | decide +kernel))
theorem gs_X9_151_2 (E : q_E p c cc s m args RX9 X) (hI : q_I X n σ0 H0 locs σ H) (ha : q_kd X a = 2) (hdg : decode cc pc = .ok (.getfield 151, 3)) (kk : W p l e R s m args below meth c H locs cells slots Q (F0 m (pc + 3) ls (.ref (q_rf X a 4) :: rest))) : W p l e R s m args below meth c H locs cells slots Q (F0 m pc ls (.ref a :: rest)) :=
  q_getf (ref := "CheatHeap$Hands") E hI ha ⟨rfl, by decide⟩ (show vwCl[1]? = some (RX1, TX1, 7) from rfl) q_inX1 (f := 4) (by decide) (q_in_t1 (i := 121) (by first | rfl | decide +kernel) rfl) (Or.inl rfl) rfl hdg kk
theorem ku_X9_158_9 : q_okU2 RX9 158 RX9 "CheatHeap$Reader" ⟨"CheatHeap$TableReader", "passPlayer", "(LCheatHeap$Rules;)I"⟩ yX3_passPlayer cX3_passPlayer 3 (some .int) 1 := ⟨(q_in_t4 (i := 98) (by first | rfl | decide +kernel) rfl), (q_in_t4 (i := 99) (by first | rfl | decide +kernel) rfl), (q_in_t4 (i := 101) (by first | rfl | decide +kernel) rfl), (q_in_t4 (i := 102) (by first | rfl | decide +kernel) rfl), (q_in_t1 (i := 9) (by first | rfl | decide +kernel) rfl), (q_in_t4 (i := 103) (by first | rfl | decide +kernel) rfl), ⟨by decide, by decide, rfl⟩, rfl⟩
theorem kz_X9_162 (E : q_E p c cc s m args RX9 X) : vk_R RX9 162 "of" (q_sk X 12) s := E.2.2.2.2.1.2.2 (RX9, 162, "of", 12) (List.mem_of_getElem? (i := 12) (by first | rfl | decide +kernel))
theorem gs_X9_71_6 (E : q_E p c cc s m args RX9 X) (hI : q_I X n σ0 H0 locs σ H) (ha : q_kd X a = 6) (hdg : decode cc pc = .ok (.getfield 71, 3)) (kk : W p l e R s m args below meth c H locs cells slots Q (F0 m (pc + 3) ls (.int (σ.1 a 0) :: rest))) : W p l e R s m args below meth c H locs cells slots Q (F0 m pc ls (.ref a :: rest)) :=
  q_getf (ref := "CheatHeap$Rules") E hI ha ⟨rfl, by decide⟩ (show vwCl[5]? = some (RX6, TX6, 8) from rfl) q_inX6 (f := 0) (by decide) (q_in_t1 (i := 58) (by first | rfl | decide +kernel) rfl) (Or.inl rfl) rfl hdg kk
theorem ku_X9_164_9 : q_okU2 RX9 164 RX9 "CheatHeap$Reader" ⟨"CheatHeap$TableReader", "mustBeNumber", "(II)Z"⟩ yX3_mustBeNumber cX3_mustBeNumber 3 (some .boolean) 2 := ⟨(q_in_t4 (i := 107) (by first | rfl | decide +kernel) rfl), (q_in_t4 (i := 108) (by first | rfl | decide +kernel) rfl), (q_in_t4 (i := 110) (by first | rfl | decide +kernel) rfl), (q_in_t4 (i := 7) (by first | rfl | decide +kernel) rfl), (q_in_t1 (i := 9) (by first | rfl | decide +kernel) rfl), (q_in_t4 (i := 11) (by first | rfl | decide +kernel) rfl), ⟨by decide, by decide, rfl⟩, rfl⟩
theorem gs_X9_168_9 (E : q_E p c cc s m args RX9 X) (hI : q_I X n σ0 H0 locs σ H) (ha : q_kd X a = 9) (hdg : decode cc pc = .ok (.getfield 168, 3)) (kk : W p l e R s m args below meth c H locs cells slots Q (F0 m (pc + 3) ls (.int (σ.1 a 5) :: rest))) : W p l e R s m args below meth c H locs cells slots Q (F0 m pc ls (.ref a :: rest)) :=
  q_getf (ref := "CheatHeap$TableReader") E hI ha ⟨rfl, by decide⟩ (show vwCl[8]? = some (RX9, TX9, 12) from rfl) q_inX9 (f := 5) (by decide) (q_in_t2 (i := 86) (by first | rfl | decide +kernel) rfl) (Or.inr (q_in_t2 (i := 87) (by first | rfl | decide +kernel) rfl)) rfl hdg kk
theorem gs_X9_30_9 (E : q_E p c cc s m args RX9 X) (hI : q_I X n σ0 H0 locs σ H) (ha : q_kd X a = 9) (hdg : decode cc pc = .ok (.getfield 30, 3)) (kk : W p l e R s m args below meth c H locs cells slots Q (F0 m (pc + 3) ls (.ref (q_rf X a 11) :: rest))) : W p l e R s m args below meth c H locs cells slots Q (F0 m pc ls (.ref a :: rest)) :=
  q_getf (ref := "CheatHeap$TableReader") E hI ha ⟨rfl, by decide⟩ (show vwCl[8]? = some (RX9, TX9, 12) from rfl) q_inX9 (f := 11) (by decide) (q_in_t2 (i := 75) (by first | rfl | decide +kernel) rfl) (Or.inl rfl) rfl hdg kk
theorem kv_X9_171 : q_okV RX9 171 RX5 yX5_get cX5_get 2 (some .int) 1 := ⟨(q_in_t4 (i := 111) (by first | rfl | decide +kernel) rfl), (q_in_t4 (i := 73) (by first | rfl | decide +kernel) rfl), (q_in_t4 (i := 74) (by first | rfl | decide +kernel) rfl), (q_in_t1 (i := 4) (by first | rfl | decide +kernel) rfl), (q_in_t4 (i := 75) (by first | rfl | decide +kernel) rfl), ⟨rfl, by decide, by decide, rfl⟩⟩
theorem gs_X9_175_6 (E : q_E p c cc s m args RX9 X) (hI : q_I X n σ0 H0 locs σ H) (ha : q_kd X a = 6) (hdg : decode cc pc = .ok (.getfield 175, 3)) (kk : W p l e R s m args below meth c H locs cells slots Q (F0 m (pc + 3) ls (.ref (q_rf X a 5) :: rest))) : W p l e R s m args below meth c H locs cells slots Q (F0 m pc ls (.ref a :: rest)) :=
  q_getf (ref := "CheatHeap$Rules") E hI ha ⟨rfl, by decide⟩ (show vwCl[5]? = some (RX6, TX6, 8) from rfl) q_inX6 (f := 5) (by decide) (q_in_t1 (i := 79) (by first | rfl | decide +kernel) rfl) (Or.inl rfl) rfl hdg kk
theorem gs_X9_75_6 (E : q_E p c cc s m args RX9 X) (hI : q_I X n σ0 H0 locs σ H) (ha : q_kd X a = 6) (hdg : decode cc pc = .ok (.getfield 75, 3)) (kk : W p l e R s m args below meth c H locs cells slots Q (F0 m (pc + 3) ls (.int (σ.1 a 1) :: rest))) : W p l e R s m args below meth c H locs cells slots Q (F0 m pc ls (.ref a :: rest)) :=
  q_getf (ref := "CheatHeap$Rules") E hI ha ⟨rfl, by decide⟩ (show vwCl[5]? = some (RX6, TX6, 8) from rfl) q_inX6 (f := 1) (by decide) (q_in_t1 (i := 63) (by first | rfl | decide +kernel) rfl) (Or.inl rfl) rfl hdg kk
theorem kv_X9_178 : q_okV RX9 178 RX5 yX5_add cX5_add 3 none 2 := ⟨(q_in_t4 (i := 112) (by first | rfl | decide +kernel) rfl), (q_in_t4 (i := 113) (by first | rfl | decide +kernel) rfl), (q_in_t4 (i := 114) (by first | rfl | decide +kernel) rfl), (q_in_t1 (i := 4) (by first | rfl | decide +kernel) rfl), (q_in_t4 (i := 115) (by first | rfl | decide +kernel) rfl), ⟨rfl, by decide, by decide, rfl⟩⟩
theorem kv_X9_181 : q_okV RX9 181 RX1 yX1_deal cX1_deal 4 none 3 := ⟨(q_in_t4 (i := 116) (by first | rfl | decide +kernel) rfl), (q_in_t4 (i := 117) (by first | rfl | decide +kernel) rfl), (q_in_t4 (i := 118) (by first | rfl | decide +kernel) rfl), (q_in_t1 (i := 6) (by first | rfl | decide +kernel) rfl), (q_in_t4 (i := 119) (by first | rfl | decide +kernel) rfl), ⟨rfl, by decide, by decide, rfl⟩⟩
theorem kz_X9_80 (E : q_E p c cc s m args RX9 X) : vk_R RX9 80 "law" (q_sk X 2) s := E.2.2.2.2.1.2.2 (RX9, 80, "law", 2) (List.mem_of_getElem? (i := 2) (by first | rfl | decide +kernel))
theorem kz_X9_88 (E : q_E p c cc s m args RX9 X) : vk_R RX9 88 "most" (q_sk X 6) s := E.2.2.2.2.1.2.2 (RX9, 88, "most", 6) (List.mem_of_getElem? (i := 6) (by first | rfl | decide +kernel))
theorem kz_X9_93 (E : q_E p c cc s m args RX9 X) : vk_R RX9 93 "player" (q_sk X 7) s := E.2.2.2.2.1.2.2 (RX9, 93, "player", 7) (List.mem_of_getElem? (i := 7) (by first | rfl | decide +kernel))
theorem kz_X9_98 (E : q_E p c cc s m args RX9 X) : vk_R RX9 98 "hand" (q_sk X 11) s := E.2.2.2.2.1.2.2 (RX9, 98, "hand", 11) (List.mem_of_getElem? (i := 11) (by first | rfl | decide +kernel))
theorem kv_X9_100 : q_okV RX9 100 RX9 yX9_readHand cX9_readHand 5 (some .boolean) 0 := ⟨(q_in_t4 (i := 94) (by first | rfl | decide +kernel) rfl), (q_in_t4 (i := 96) (by first | rfl | decide +kernel) rfl), (q_in_p (i := 13) (by decide +kernel) rfl), (q_in_t1 (i := 10) (by first | rfl | decide +kernel) rfl), (q_in_t4 (i := 97) (by first | rfl | decide +kernel) rfl), ⟨rfl, by decide, by decide, rfl⟩⟩
theorem kv_X9_95 : q_okV RX9 95 RX9 yX9_readPlayer cX9_readPlayer 2 (some .boolean) 0 := ⟨(q_in_t4 (i := 49) (by first | rfl | decide +kernel) rfl), (q_in_t4 (i := 51) (by first | rfl | decide +kernel) rfl), (q_in_p (i := 10) (by decide +kernel) rfl), (q_in_t1 (i := 10) (by first | rfl | decide +kernel) rfl), (q_in_t4 (i := 52) (by first | rfl | decide +kernel) rfl), ⟨rfl, by decide, by decide, rfl⟩⟩
theorem kv_X9_90 : q_okV RX9 90 RX9 yX9_readMost cX9_readMost 2 (some .boolean) 0 := ⟨(q_in_t4 (i := 44) (by first | rfl | decide +kernel) rfl), (q_in_t4 (i := 46) (by first | rfl | decide +kernel) rfl), (q_in_p (i := 9) (by decide +kernel) rfl), (q_in_t1 (i := 10) (by first | rfl | decide +kernel) rfl), (q_in_t4 (i := 47) (by first | rfl | decide +kernel) rfl), ⟨rfl, by decide, by decide, rfl⟩⟩
theorem kv_X9_85 : q_okV RX9 85 RX9 yX9_readLaw cX9_readLaw 1 (some .boolean) 0 := ⟨(q_in_t4 (i := 28) (by first | rfl | decide +kernel) rfl), (q_in_t4 (i := 30) (by first | rfl | decide +kernel) rfl), (q_in_p (i := 8) (by decide +kernel) rfl), (q_in_t1 (i := 10) (by first | rfl | decide +kernel) rfl), (q_in_t4 (i := 31) (by first | rfl | decide +kernel) rfl), ⟨rfl, by decide, by decide, rfl⟩⟩
theorem kv_X9_34 : q_okV RX9 34 RX0 yX0_reset cX0_reset 1 none 0 := ⟨(q_in_t3 (i := 113) (by first | rfl | decide +kernel) rfl), (q_in_t3 (i := 114) (by first | rfl | decide +kernel) rfl), (q_in_t3 (i := 115) (by first | rfl | decide +kernel) rfl), (q_in_t1 (i := 2) (by first | rfl | decide +kernel) rfl), (q_in_t3 (i := 116) (by first | rfl | decide +kernel) rfl), ⟨rfl, by decide, by decide, rfl⟩⟩
theorem kv_X9_37 : q_okV RX9 37 RX5 yX5_clear cX5_clear 2 none 0 := ⟨(q_in_t3 (i := 138) (by first | rfl | decide +kernel) rfl), (q_in_t3 (i := 122) (by first | rfl | decide +kernel) rfl), (q_in_t3 (i := 123) (by first | rfl | decide +kernel) rfl), (q_in_t1 (i := 4) (by first | rfl | decide +kernel) rfl), (q_in_t3 (i := 124) (by first | rfl | decide +kernel) rfl), ⟨rfl, by decide, by decide, rfl⟩⟩
theorem ku_X9_40_9 : q_okU2 RX9 40 RX9 "CheatHeap$Reader" ⟨"CheatHeap$TableReader", "start", "([BI)V"⟩ yX3_start cX3_start 3 none 2 := ⟨(q_in_t3 (i := 139) (by first | rfl | decide +kernel) rfl), (q_in_t3 (i := 140) (by first | rfl | decide +kernel) rfl), (q_in_t3 (i := 142) (by first | rfl | decide +kernel) rfl), (q_in_t3 (i := 143) (by first | rfl | decide +kernel) rfl), (q_in_t1 (i := 9) (by first | rfl | decide +kernel) rfl), (q_in_t3 (i := 144) (by first | rfl | decide +kernel) rfl), ⟨by decide, by decide, rfl⟩, rfl⟩
theorem kv_X9_44 : q_okV RX9 44 RX9 yX9_readHead cX9_readHead 3 (some .boolean) 0 := ⟨(q_in_t3 (i := 169) (by first | rfl | decide +kernel) rfl), (q_in_t3 (i := 171) (by first | rfl | decide +kernel) rfl), (q_in_p (i := 6) (by decide +kernel) rfl), (q_in_t1 (i := 10) (by first | rfl | decide +kernel) rfl), (q_in_t3 (i := 172) (by first | rfl | decide +kernel) rfl), ⟨rfl, by decide, by decide, rfl⟩⟩
theorem gs_X9_48_9 (E : q_E p c cc s m args RX9 X) (hI : q_I X n σ0 H0 locs σ H) (ha : q_kd X a = 9) (hdg : decode cc pc = .ok (.getfield 48, 3)) (kk : W p l e R s m args below meth c H locs cells slots Q (F0 m (pc + 3) ls (.int (σ.1 a 4) :: rest))) : W p l e R s m args below meth c H locs cells slots Q (F0 m pc ls (.ref a :: rest)) :=
  q_getf (ref := "CheatHeap$TableReader") E hI ha ⟨rfl, by decide⟩ (show vwCl[8]? = some (RX9, TX9, 12) from rfl) q_inX9 (f := 4) (by decide) (q_in_t2 (i := 83) (by first | rfl | decide +kernel) rfl) (Or.inr (q_in_t2 (i := 84) (by first | rfl | decide +kernel) rfl)) rfl hdg kk
theorem kv_X9_52 : q_okV RX9 52 RX9 yX9_readPart cX9_readPart 1 (some .boolean) 0 := ⟨(q_in_t4 (i := 19) (by first | rfl | decide +kernel) rfl), (q_in_t4 (i := 21) (by first | rfl | decide +kernel) rfl), (q_in_p (i := 7) (by decide +kernel) rfl), (q_in_t1 (i := 10) (by first | rfl | decide +kernel) rfl), (q_in_t4 (i := 22) (by first | rfl | decide +kernel) rfl), ⟨rfl, by decide, by decide, rfl⟩⟩
theorem gs_X4_27_4 (E : q_E p c cc s m args RX4 X) (hI : q_I X n σ0 H0 locs σ H) (ha : q_kd X a = 4) (hdg : decode cc pc = .ok (.getfield 27, 3)) (kk : W p l e R s m args below meth c H locs cells slots Q (F0 m (pc + 3) ls (.int (σ.1 a 10) :: rest))) : W p l e R s m args below meth c H locs cells slots Q (F0 m pc ls (.ref a :: rest)) :=
  q_getf (ref := "CheatHeap$RoundReader") E hI ha ⟨rfl, by decide⟩ (show vwCl[3]? = some (RX4, TX4, 11) from rfl) q_inX4 (f := 10) (by decide) (q_in_t2 (i := 130) (by first | rfl | decide +kernel) rfl) (Or.inl rfl) rfl hdg kk
theorem ps_X4_27_4 (E : q_E p c cc s m args RX4 X) (hI : q_I X n σ0 H0 locs σ H) (ha : q_kd X a = 4) {v : Int32} (hcl : n < 9) (hdg : decode cc pc = .ok (.putfield 27, 3)) (kk : ∀ (H1 : Heap) (locs1 : List Loc) (σ1 : ST), σ1 = q_si σ a 10 v → q_I X n σ0 H0 locs1 σ1 H1 → W p l e R s m args below meth c H1 locs1 cells slots Q (F0 m (pc + 3) ls rest)) : W p l e R s m args below meth c H locs cells slots Q (F0 m pc ls (.int v :: .ref a :: rest)) :=
  q_puti (ref := "CheatHeap$RoundReader") E hI ha ⟨rfl, by decide⟩ (show vwCl[3]? = some (RX4, TX4, 11) from rfl) q_inX4 tyX4_ok nmX4 (f := 10) (by decide) (q_in_t2 (i := 130) (by first | rfl | decide +kernel) rfl) (Or.inl rfl) rfl rfl hcl hdg (q_inU rfl) (Or.inl rfl) (fun H1 l1 h => kk H1 l1 _ rfl h)
theorem gs_X4_23_4 (E : q_E p c cc s m args RX4 X) (hI : q_I X n σ0 H0 locs σ H) (ha : q_kd X a = 4) (hdg : decode cc pc = .ok (.getfield 23, 3)) (kk : W p l e R s m args below meth c H locs cells slots Q (F0 m (pc + 3) ls (.ref (q_rf X a 9) :: rest))) : W p l e R s m args below meth c H locs cells slots Q (F0 m pc ls (.ref a :: rest)) :=
  q_getf (ref := "CheatHeap$RoundReader") E hI ha ⟨rfl, by decide⟩ (show vwCl[3]? = some (RX4, TX4, 11) from rfl) q_inX4 (f := 9) (by decide) (q_in_t2 (i := 129) (by first | rfl | decide +kernel) rfl) (Or.inl rfl) rfl hdg kk
theorem kv_X4_63 : q_okV RX4 63 RX5 yX5_get cX5_get 2 (some .int) 1 := ⟨(q_in_t4 (i := 179) (by first | rfl | decide +kernel) rfl), (q_in_t4 (i := 73) (by first | rfl | decide +kernel) rfl), (q_in_t4 (i := 74) (by first | rfl | decide +kernel) rfl), (q_in_t1 (i := 4) (by first | rfl | decide +kernel) rfl), (q_in_t4 (i := 75) (by first | rfl | decide +kernel) rfl), ⟨rfl, by decide, by decide, rfl⟩⟩
theorem gs_X4_12_4 (E : q_E p c cc s m args RX4 X) (hI : q_I X n σ0 H0 locs σ H) (ha : q_kd X a = 4) (hdg : decode cc pc = .ok (.getfield 12, 3)) (kk : W p l e R s m args below meth c H locs cells slots Q (F0 m (pc + 3) ls (.ref (q_rf X a 8) :: rest))) : W p l e R s m args below meth c H locs cells slots Q (F0 m pc ls (.ref a :: rest)) :=
  q_getf (ref := "CheatHeap$RoundReader") E hI ha ⟨rfl, by decide⟩ (show vwCl[3]? = some (RX4, TX4, 11) from rfl) q_inX4 (f := 8) (by decide) (q_in_t2 (i := 127) (by first | rfl | decide +kernel) rfl) (Or.inl rfl) rfl hdg kk
theorem kv_X4_67 : q_okV RX4 67 RX8 yX8_add cX8_add 2 (some .int) 1 := ⟨(q_in_t4 (i := 180) (by first | rfl | decide +kernel) rfl), (q_in_t4 (i := 181) (by first | rfl | decide +kernel) rfl), (q_in_t4 (i := 182) (by first | rfl | decide +kernel) rfl), (q_in_t1 (i := 8) (by first | rfl | decide +kernel) rfl), (q_in_t4 (i := 183) (by first | rfl | decide +kernel) rfl), ⟨rfl, by decide, by decide, rfl⟩⟩
theorem gs_X4_70_8 (E : q_E p c cc s m args RX4 X) (hI : q_I X n σ0 H0 locs σ H) (ha : q_kd X a = 8) (hdg : decode cc pc = .ok (.getfield 70, 3)) (kk : W p l e R s m args below meth c H locs cells slots Q (F0 m (pc + 3) ls (.ref (q_rf X a 4) :: rest))) : W p l e R s m args below meth c H locs cells slots Q (F0 m pc ls (.ref a :: rest)) :=
  q_getf (ref := "CheatHeap$Script") E hI ha ⟨rfl, by decide⟩ (show vwCl[7]? = some (RX8, TX8, 8) from rfl) q_inX8 (f := 4) (by decide) (q_in_t1 (i := 200) (by first | rfl | decide +kernel) rfl) (Or.inl rfl) rfl hdg kk
theorem kv_X4_73 : q_okV RX4 73 RX5 yX5_set cX5_set 3 none 2 := ⟨(q_in_t4 (i := 185) (by first | rfl | decide +kernel) rfl), (q_in_t4 (i := 83) (by first | rfl | decide +kernel) rfl), (q_in_t4 (i := 84) (by first | rfl | decide +kernel) rfl), (q_in_t1 (i := 4) (by first | rfl | decide +kernel) rfl), (q_in_t4 (i := 85) (by first | rfl | decide +kernel) rfl), ⟨rfl, by decide, by decide, rfl⟩⟩
theorem ku_X4_77_4 : q_okU2 RX4 77 RX4 "CheatHeap$Reader" ⟨"CheatHeap$RoundReader", "advance", "()V"⟩ yX3_advance cX3_advance 3 none 0 := ⟨(q_in_t4 (i := 186) (by first | rfl | decide +kernel) rfl), (q_in_t4 (i := 187) (by first | rfl | decide +kernel) rfl), (q_in_t4 (i := 188) (by first | rfl | decide +kernel) rfl), (q_in_t3 (i := 148) (by first | rfl | decide +kernel) rfl), (q_in_t1 (i := 9) (by first | rfl | decide +kernel) rfl), (q_in_t3 (i := 152) (by first | rfl | decide +kernel) rfl), ⟨by decide, by decide, rfl⟩, rfl⟩
theorem ku_X4_80_4 : q_okU2 RX4 80 RX4 "CheatHeap$Reader" ⟨"CheatHeap$RoundReader", "passSemicolon", "()Z"⟩ yX3_passSemicolon cX3_passSemicolon 1 (some .boolean) 0 := ⟨(q_in_t4 (i := 189) (by first | rfl | decide +kernel) rfl), (q_in_t4 (i := 190) (by first | rfl | decide +kernel) rfl), (q_in_t4 (i := 191) (by first | rfl | decide +kernel) rfl), (q_in_t4 (i := 17) (by first | rfl | decide +kernel) rfl), (q_in_t1 (i := 9) (by first | rfl | decide +kernel) rfl), (q_in_t4 (i := 18) (by first | rfl | decide +kernel) rfl), ⟨by decide, by decide, rfl⟩, rfl⟩
theorem ku_X4_59_4 : q_okU2 RX4 59 RX4 "CheatHeap$Reader" ⟨"CheatHeap$RoundReader", "fails", "(I)Z"⟩ yX3_fails cX3_fails 2 (some .boolean) 1 := ⟨(q_in_t4 (i := 176) (by first | rfl | decide +kernel) rfl), (q_in_t4 (i := 177) (by first | rfl | decide +kernel) rfl), (q_in_t4 (i := 178) (by first | rfl | decide +kernel) rfl), (q_in_t3 (i := 235) (by first | rfl | decide +kernel) rfl), (q_in_t1 (i := 9) (by first | rfl | decide +kernel) rfl), (q_in_t3 (i := 239) (by first | rfl | decide +kernel) rfl), ⟨by decide, by decide, rfl⟩, rfl⟩
theorem kz_X4_100 (E : q_E p c cc s m args RX4 X) : vk_R RX4 100 "turn" (q_sk X 14) s := E.2.2.2.2.1.2.2 (RX4, 100, "turn", 14) (List.mem_of_getElem? (i := 14) (by first | rfl | decide +kernel))
theorem ku_X4_43_4 : q_okU2 RX4 43 RX4 "CheatHeap$Reader" ⟨"CheatHeap$RoundReader", "isWord", "(Ljava/lang/String;)Z"⟩ yX3_isWord cX3_isWord 3 (some .boolean) 1 := ⟨(q_in_t4 (i := 169) (by first | rfl | decide +kernel) rfl), (q_in_t4 (i := 170) (by first | rfl | decide +kernel) rfl), (q_in_t4 (i := 171) (by first | rfl | decide +kernel) rfl), (q_in_t3 (i := 181) (by first | rfl | decide +kernel) rfl), (q_in_t1 (i := 9) (by first | rfl | decide +kernel) rfl), (q_in_t3 (i := 185) (by first | rfl | decide +kernel) rfl), ⟨by decide, by decide, rfl⟩, rfl⟩
theorem kz_X4_102 (E : q_E p c cc s m args RX4 X) : vk_R RX4 102 "lies" (q_sk X 9) s := E.2.2.2.2.1.2.2 (RX4, 102, "lies", 9) (List.mem_of_getElem? (i := 15) (by first | rfl | decide +kernel))
theorem kz_X4_104 (E : q_E p c cc s m args RX4 X) : vk_R RX4 104 "doubts" (q_sk X 10) s := E.2.2.2.2.1.2.2 (RX4, 104, "doubts", 10) (List.mem_of_getElem? (i := 16) (by first | rfl | decide +kernel))
theorem kz_X4_106 (E : q_E p c cc s m args RX4 X) : vk_R RX4 106 "stop" (q_sk X 15) s := E.2.2.2.2.1.2.2 (RX4, 106, "stop", 15) (List.mem_of_getElem? (i := 17) (by first | rfl | decide +kernel))
theorem kz_X4_108 (E : q_E p c cc s m args RX4 X) : vk_R RX4 108 "loop" (q_sk X 16) s := E.2.2.2.2.1.2.2 (RX4, 108, "loop", 16) (List.mem_of_getElem? (i := 18) (by first | rfl | decide +kernel))
theorem kz_X4_110 (E : q_E p c cc s m args RX4 X) : vk_R RX4 110 "when" (q_sk X 17) s := E.2.2.2.2.1.2.2 (RX4, 110, "when", 17) (List.mem_of_getElem? (i := 19) (by first | rfl | decide +kernel))
theorem kz_X4_112 (E : q_E p c cc s m args RX4 X) : vk_R RX4 112 "cards" (q_sk X 18) s := E.2.2.2.2.1.2.2 (RX4, 112, "cards", 18) (List.mem_of_getElem? (i := 20) (by first | rfl | decide +kernel))
theorem kz_X4_117 (E : q_E p c cc s m args RX4 X) : vk_R RX4 117 "heap" (q_sk X 19) s := E.2.2.2.2.1.2.2 (RX4, 117, "heap", 19) (List.mem_of_getElem? (i := 21) (by first | rfl | decide +kernel))
theorem kz_X4_119 (E : q_E p c cc s m args RX4 X) : vk_R RX4 119 "shown" (q_sk X 20) s := E.2.2.2.2.1.2.2 (RX4, 119, "shown", 20) (List.mem_of_getElem? (i := 22) (by first | rfl | decide +kernel))
theorem kz_X4_121 (E : q_E p c cc s m args RX4 X) : vk_R RX4 121 "won" (q_sk X 21) s := E.2.2.2.2.1.2.2 (RX4, 121, "won", 21) (List.mem_of_getElem? (i := 23) (by first | rfl | decide +kernel))
theorem gs_X4_114_8 (E : q_E p c cc s m args RX4 X) (hI : q_I X n σ0 H0 locs σ H) (ha : q_kd X a = 8) (hdg : decode cc pc = .ok (.getfield 114, 3)) (kk : W p l e R s m args below meth c H locs cells slots Q (F0 m (pc + 3) ls (.ref (q_rf X a 3) :: rest))) : W p l e R s m args below meth c H locs cells slots Q (F0 m pc ls (.ref a :: rest)) :=
  q_getf (ref := "CheatHeap$Script") E hI ha ⟨rfl, by decide⟩ (show vwCl[7]? = some (RX8, TX8, 8) from rfl) q_inX8 (f := 3) (by decide) (q_in_t1 (i := 197) (by first | rfl | decide +kernel) rfl) (Or.inl rfl) rfl hdg kk
theorem ks_X4_123 : q_okS RX4 123 yX8_hasName cX8_hasName 1 (some .boolean) 1 := ⟨(q_in_t4 (i := 221) (by first | rfl | decide +kernel) rfl), (q_in_t4 (i := 222) (by first | rfl | decide +kernel) rfl), (q_in_t1 (i := 8) (by first | rfl | decide +kernel) rfl), (q_in_t4 (i := 223) (by first | rfl | decide +kernel) rfl), ⟨by decide, by decide, rfl⟩⟩
theorem ks_X4_133 : q_okS RX4 133 yX8_hasComparison cX8_hasComparison 1 (some .boolean) 1 := ⟨(q_in_t4 (i := 227) (by first | rfl | decide +kernel) rfl), (q_in_t4 (i := 228) (by first | rfl | decide +kernel) rfl), (q_in_t1 (i := 8) (by first | rfl | decide +kernel) rfl), (q_in_t4 (i := 229) (by first | rfl | decide +kernel) rfl), ⟨by decide, by decide, rfl⟩⟩
theorem ks_X4_142 : q_okS RX4 142 yX8_highest cX8_highest 1 (some .int) 1 := ⟨(q_in_t4 (i := 235) (by first | rfl | decide +kernel) rfl), (q_in_t4 (i := 236) (by first | rfl | decide +kernel) rfl), (q_in_t1 (i := 8) (by first | rfl | decide +kernel) rfl), (q_in_t4 (i := 237) (by first | rfl | decide +kernel) rfl), ⟨by decide, by decide, rfl⟩⟩
theorem ku_X4_145_4 : q_okU2 RX4 145 RX4 "CheatHeap$Reader" ⟨"CheatHeap$RoundReader", "passNumber", "(II)I"⟩ yX3_passNumber cX3_passNumber 4 (some .int) 2 := ⟨(q_in_t4 (i := 238) (by first | rfl | decide +kernel) rfl), (q_in_t4 (i := 239) (by first | rfl | decide +kernel) rfl), (q_in_t5 (i := 0) (by first | rfl | decide +kernel) rfl), (q_in_t4 (i := 4) (by first | rfl | decide +kernel) rfl), (q_in_t1 (i := 9) (by first | rfl | decide +kernel) rfl), (q_in_t4 (i := 5) (by first | rfl | decide +kernel) rfl), ⟨by decide, by decide, rfl⟩, rfl⟩
theorem gs_X4_149_8 (E : q_E p c cc s m args RX4 X) (hI : q_I X n σ0 H0 locs σ H) (ha : q_kd X a = 8) (hdg : decode cc pc = .ok (.getfield 149, 3)) (kk : W p l e R s m args below meth c H locs cells slots Q (F0 m (pc + 3) ls (.ref (q_rf X a 7) :: rest))) : W p l e R s m args below meth c H locs cells slots Q (F0 m pc ls (.ref a :: rest)) :=
  q_getf (ref := "CheatHeap$Script") E hI ha ⟨rfl, by decide⟩ (show vwCl[7]? = some (RX8, TX8, 8) from rfl) q_inX8 (f := 7) (by decide) (q_in_t1 (i := 208) (by first | rfl | decide +kernel) rfl) (Or.inl rfl) rfl hdg kk
theorem ku_X4_136_4 : q_okU2 RX4 136 RX4 "CheatHeap$Reader" ⟨"CheatHeap$RoundReader", "signAt", "(I)I"⟩ yX3_signAt cX3_signAt 3 (some .int) 1 := ⟨(q_in_t4 (i := 231) (by first | rfl | decide +kernel) rfl), (q_in_t4 (i := 232) (by first | rfl | decide +kernel) rfl), (q_in_t4 (i := 234) (by first | rfl | decide +kernel) rfl), (q_in_t3 (i := 154) (by first | rfl | decide +kernel) rfl), (q_in_t1 (i := 9) (by first | rfl | decide +kernel) rfl), (q_in_t3 (i := 158) (by first | rfl | decide +kernel) rfl), ⟨by decide, by decide, rfl⟩, rfl⟩
theorem gs_X4_38_4 (E : q_E p c cc s m args RX4 X) (hI : q_I X n σ0 H0 locs σ H) (ha : q_kd X a = 4) (hdg : decode cc pc = .ok (.getfield 38, 3)) (kk : W p l e R s m args below meth c H locs cells slots Q (F0 m (pc + 3) ls (.int (σ.1 a 4) :: rest))) : W p l e R s m args below meth c H locs cells slots Q (F0 m pc ls (.ref a :: rest)) :=
  q_getf (ref := "CheatHeap$RoundReader") E hI ha ⟨rfl, by decide⟩ (show vwCl[3]? = some (RX4, TX4, 11) from rfl) q_inX4 (f := 4) (by decide) (q_in_t2 (i := 81) (by first | rfl | decide +kernel) rfl) (Or.inr (q_in_t2 (i := 82) (by first | rfl | decide +kernel) rfl)) rfl hdg kk
theorem gs_X4_139_8 (E : q_E p c cc s m args RX4 X) (hI : q_I X n σ0 H0 locs σ H) (ha : q_kd X a = 8) (hdg : decode cc pc = .ok (.getfield 139, 3)) (kk : W p l e R s m args below meth c H locs cells slots Q (F0 m (pc + 3) ls (.ref (q_rf X a 6) :: rest))) : W p l e R s m args below meth c H locs cells slots Q (F0 m pc ls (.ref a :: rest)) :=
  q_getf (ref := "CheatHeap$Script") E hI ha ⟨rfl, by decide⟩ (show vwCl[7]? = some (RX8, TX8, 8) from rfl) q_inX8 (f := 6) (by decide) (q_in_t1 (i := 205) (by first | rfl | decide +kernel) rfl) (Or.inl rfl) rfl hdg kk
theorem ku_X4_126_4 : q_okU2 RX4 126 RX4 "CheatHeap$Reader" ⟨"CheatHeap$RoundReader", "passPlayer", "(LCheatHeap$Rules;)I"⟩ yX3_passPlayer cX3_passPlayer 3 (some .int) 1 := ⟨(q_in_t4 (i := 224) (by first | rfl | decide +kernel) rfl), (q_in_t4 (i := 225) (by first | rfl | decide +kernel) rfl), (q_in_t4 (i := 226) (by first | rfl | decide +kernel) rfl), (q_in_t4 (i := 102) (by first | rfl | decide +kernel) rfl), (q_in_t1 (i := 9) (by first | rfl | decide +kernel) rfl), (q_in_t4 (i := 103) (by first | rfl | decide +kernel) rfl), ⟨by decide, by decide, rfl⟩, rfl⟩
theorem gs_X4_130_8 (E : q_E p c cc s m args RX4 X) (hI : q_I X n σ0 H0 locs σ H) (ha : q_kd X a = 8) (hdg : decode cc pc = .ok (.getfield 130, 3)) (kk : W p l e R s m args below meth c H locs cells slots Q (F0 m (pc + 3) ls (.ref (q_rf X a 5) :: rest))) : W p l e R s m args below meth c H locs cells slots Q (F0 m pc ls (.ref a :: rest)) :=
  q_getf (ref := "CheatHeap$Script") E hI ha ⟨rfl, by decide⟩ (show vwCl[7]? = some (RX8, TX8, 8) from rfl) q_inX8 (f := 5) (by decide) (q_in_t1 (i := 203) (by first | rfl | decide +kernel) rfl) (Or.inl rfl) rfl hdg kk
theorem kv_X4_83 : q_okV RX4 83 RX4 yX4_actionHere cX4_actionHere 1 (some .int) 0 := ⟨(q_in_t4 (i := 196) (by first | rfl | decide +kernel) rfl), (q_in_t4 (i := 198) (by first | rfl | decide +kernel) rfl), (q_in_p (i := 18) (by decide +kernel) rfl), (q_in_t1 (i := 11) (by first | rfl | decide +kernel) rfl), (q_in_t4 (i := 199) (by first | rfl | decide +kernel) rfl), ⟨rfl, by decide, by decide, rfl⟩⟩
theorem gs_X4_87_8 (E : q_E p c cc s m args RX4 X) (hI : q_I X n σ0 H0 locs σ H) (ha : q_kd X a = 8) (hdg : decode cc pc = .ok (.getfield 87, 3)) (kk : W p l e R s m args below meth c H locs cells slots Q (F0 m (pc + 3) ls (.int (σ.1 a 1) :: rest))) : W p l e R s m args below meth c H locs cells slots Q (F0 m pc ls (.ref a :: rest)) :=
  q_getf (ref := "CheatHeap$Script") E hI ha ⟨rfl, by decide⟩ (show vwCl[7]? = some (RX8, TX8, 8) from rfl) q_inX8 (f := 1) (by decide) (q_in_t1 (i := 191) (by first | rfl | decide +kernel) rfl) (Or.inl rfl) rfl hdg kk
theorem ps_X4_87_8 (E : q_E p c cc s m args RX4 X) (hI : q_I X n σ0 H0 locs σ H) (ha : q_kd X a = 8) {v : Int32} (hcl : n < 9) (hdg : decode cc pc = .ok (.putfield 87, 3)) (kk : ∀ (H1 : Heap) (locs1 : List Loc) (σ1 : ST), σ1 = q_si σ a 1 v → q_I X n σ0 H0 locs1 σ1 H1 → W p l e R s m args below meth c H1 locs1 cells slots Q (F0 m (pc + 3) ls rest)) : W p l e R s m args below meth c H locs cells slots Q (F0 m pc ls (.int v :: .ref a :: rest)) :=
  q_puti (ref := "CheatHeap$Script") E hI ha ⟨rfl, by decide⟩ (show vwCl[7]? = some (RX8, TX8, 8) from rfl) q_inX8 tyX8_ok nmX8 (f := 1) (by decide) (q_in_t1 (i := 191) (by first | rfl | decide +kernel) rfl) (Or.inl rfl) rfl rfl hcl hdg (q_inU rfl) (Or.inl rfl) (fun H1 l1 h => kk H1 l1 _ rfl h)
theorem ks_X4_90 : q_okS RX4 90 yX8_isWhen cX8_isWhen 1 (some .boolean) 1 := ⟨(q_in_t4 (i := 206) (by first | rfl | decide +kernel) rfl), (q_in_t4 (i := 207) (by first | rfl | decide +kernel) rfl), (q_in_t1 (i := 8) (by first | rfl | decide +kernel) rfl), (q_in_t4 (i := 208) (by first | rfl | decide +kernel) rfl), ⟨by decide, by decide, rfl⟩⟩
theorem kv_X4_96 : q_okV RX4 96 RX4 yX4_readOperands cX4_readOperands 6 (some .boolean) 2 := ⟨(q_in_t4 (i := 217) (by first | rfl | decide +kernel) rfl), (q_in_t4 (i := 219) (by first | rfl | decide +kernel) rfl), (q_in_p (i := 20) (by decide +kernel) rfl), (q_in_t1 (i := 11) (by first | rfl | decide +kernel) rfl), (q_in_t4 (i := 220) (by first | rfl | decide +kernel) rfl), ⟨rfl, by decide, by decide, rfl⟩⟩
theorem kv_X4_93 : q_okV RX4 93 RX4 yX4_readTest cX4_readTest 2 (some .boolean) 1 := ⟨(q_in_t4 (i := 209) (by first | rfl | decide +kernel) rfl), (q_in_t4 (i := 211) (by first | rfl | decide +kernel) rfl), (q_in_p (i := 19) (by decide +kernel) rfl), (q_in_t1 (i := 11) (by first | rfl | decide +kernel) rfl), (q_in_t4 (i := 212) (by first | rfl | decide +kernel) rfl), ⟨rfl, by decide, by decide, rfl⟩⟩
theorem kv_X4_31 : q_okV RX4 31 RX8 yX8_clear cX8_clear 1 none 0 := ⟨(q_in_t4 (i := 164) (by first | rfl | decide +kernel) rfl), (q_in_t3 (i := 135) (by first | rfl | decide +kernel) rfl), (q_in_t3 (i := 136) (by first | rfl | decide +kernel) rfl), (q_in_t1 (i := 8) (by first | rfl | decide +kernel) rfl), (q_in_t3 (i := 137) (by first | rfl | decide +kernel) rfl), ⟨rfl, by decide, by decide, rfl⟩⟩
theorem ku_X4_34_4 : q_okU2 RX4 34 RX4 "CheatHeap$Reader" ⟨"CheatHeap$RoundReader", "start", "([BI)V"⟩ yX3_start cX3_start 3 none 2 := ⟨(q_in_t4 (i := 165) (by first | rfl | decide +kernel) rfl), (q_in_t4 (i := 166) (by first | rfl | decide +kernel) rfl), (q_in_t4 (i := 167) (by first | rfl | decide +kernel) rfl), (q_in_t3 (i := 143) (by first | rfl | decide +kernel) rfl), (q_in_t1 (i := 9) (by first | rfl | decide +kernel) rfl), (q_in_t3 (i := 144) (by first | rfl | decide +kernel) rfl), ⟨by decide, by decide, rfl⟩, rfl⟩
theorem ps_X4_55_8 (E : q_E p c cc s m args RX4 X) (hI : q_I X n σ0 H0 locs σ H) (ha : q_kd X a = 8) {v : Int32} (hcl : n < 9) (h1 : 0 ≤ v.toInt) (h2 : v.toInt ≤ 1) (hdg : decode cc pc = .ok (.putfield 55, 3)) (kk : ∀ (H1 : Heap) (locs1 : List Loc) (σ1 : ST), σ1 = q_si σ a 0 v → q_I X n σ0 H0 locs1 σ1 H1 → W p l e R s m args below meth c H1 locs1 cells slots Q (F0 m (pc + 3) ls rest)) : W p l e R s m args below meth c H locs cells slots Q (F0 m pc ls (.int v :: .ref a :: rest)) :=
  q_puti (ref := "CheatHeap$Script") E hI ha ⟨rfl, by decide⟩ (show vwCl[7]? = some (RX8, TX8, 8) from rfl) q_inX8 tyX8_ok nmX8 (f := 0) (by decide) (q_in_t1 (i := 188) (by first | rfl | decide +kernel) rfl) (Or.inl rfl) rfl rfl hcl hdg (q_inB rfl h1 h2) (Or.inr ⟨rfl, h1, h2⟩) (fun H1 l1 h => kk H1 l1 _ rfl h)
theorem kz_X4_41 (E : q_E p c cc s m args RX4 X) : vk_R RX4 41 "end" (q_sk X 13) s := E.2.2.2.2.1.2.2 (RX4, 41, "end", 13) (List.mem_of_getElem? (i := 13) (by first | rfl | decide +kernel))
theorem kv_X4_51 : q_okV RX4 51 RX4 yX4_readStep cX4_readStep 5 (some .boolean) 1 := ⟨(q_in_t4 (i := 192) (by first | rfl | decide +kernel) rfl), (q_in_t4 (i := 194) (by first | rfl | decide +kernel) rfl), (q_in_p (i := 17) (by decide +kernel) rfl), (q_in_t1 (i := 11) (by first | rfl | decide +kernel) rfl), (q_in_t4 (i := 195) (by first | rfl | decide +kernel) rfl), ⟨rfl, by decide, by decide, rfl⟩⟩
theorem kv_X4_47 : q_okV RX4 47 RX4 yX4_readEnd cX4_readEnd 3 (some .boolean) 0 := ⟨(q_in_t4 (i := 172) (by first | rfl | decide +kernel) rfl), (q_in_t4 (i := 174) (by first | rfl | decide +kernel) rfl), (q_in_p (i := 16) (by decide +kernel) rfl), (q_in_t1 (i := 11) (by first | rfl | decide +kernel) rfl), (q_in_t4 (i := 175) (by first | rfl | decide +kernel) rfl), ⟨rfl, by decide, by decide, rfl⟩⟩
end QS
end
/-! FROM 14.tables.b00.lean.txt -/
section
set_option maxRecDepth 100000 in
set_option maxHeartbeats 4000000 in
theorem c_X9_readHead (l : Launch) (X : XW) (σ : ST) (a : Nat) (ha : q_kd X a = 9) : Met l yX9_readHead (q_ws yX9_readHead cX9_readHead 3 (some .boolean)) (q_rm 6 128) (q_P X σ [.ref a]) (q_Qi X 8 σ (fun (r : Int32) (σ' : ST) => (0 ≤ r.toInt ∧ r.toInt ≤ 1) ∧ (r, σ') = F_X9_readHead X σ a ∧ q_ow [(4, 2), (4, 3), (4, 4), (4, 5), (4, 6), (4, 7), (6, 0), (6, 1), (9, 2), (9, 3), (9, 4), (9, 5), (9, 6), (9, 7)] [] X σ σ')) 0 0 (q_reg X) := by
  refine q_met 8 (by first | exact rfl | decide +kernel) rfl (Nat.le_of_ble_eq_true rfl) (fun p e s m below meth c E hml hr hlk hI ls hl => ?_)
  have hx := E.1
  have hb := E.2.1
  have hl : lv_has ls 3 [(0, .ref a)] := hl
  have fr_σ : q_ow [(4, 2), (4, 3), (4, 4), (4, 5), (4, 6), (4, 7), (6, 0), (6, 1), (9, 2), (9, 3), (9, 4), (9, 5), (9, 6), (9, 7)] [] X σ σ := q_ow.rf
  obtain ⟨out, hout⟩ : ∃ o, o = F_X9_readHead X σ a := ⟨_, rfl⟩
  have hF := hout.symm
  unfold F_X9_readHead at hF
  refine lv_aload_n hx hb dX9_readHead_0 rfl (lv_at hl 0 rfl) ?_
  refine va_ldcS hx hb E.2.2.1 (kz_X9_55 E) dX9_readHead_1 ?_
  refine q_ci (q_runU (As := [.ref (q_sk X 0)]) (rest := []) E (hml.trans hl.1.symm) hI (c_X3_passWord l X σ a 0 (Or.inr ha) (by decide : 0 < 22)) ku_X9_57_9 ha ⟨rfl, by decide⟩ (show vwCl[8]? = some (RX9, TX9, 12) from rfl) rfl ⟨Nat.le_of_ble_eq_true rfl, Nat.le_of_ble_eq_true rfl⟩ ⟨Nat.le_refl _, Nat.le_refl _⟩ rfl (Nat.le_of_ble_eq_true rfl) dX9_readHead_3) hI (Nat.le_of_ble_eq_true rfl) (fun r_1 σ_2 H locs hpσ_2 hkσ_2 hI => ?_)
  have ahpσ_2 := hpσ_2.1
  have bhpσ_2 := hpσ_2.2.1
  have chpσ_2 := hpσ_2.2.2
  clear hpσ_2
  have fr_σ_2 := fr_σ.call chpσ_2 rfl rfl
  replace hF := q_biX hF bhpσ_2
  refine q_if_ne (A := r_1.toInt) E rfl (tgt := 11) dX9_readHead_6 (by decide) (fun c_3 => ?_) (fun c_3 => ?_)
  · skip
    replace hF := q_ifn hF c_3
    replace c_3 := q_ifOne ahpσ_2 c_3
    refine lv_aload_n hx hb dX9_readHead_11 rfl (lv_at hl 0 rfl) ?_
    refine lv_iconst (v := 2) hx hb dX9_readHead_12 zki_2 ?_
    refine lv_bipush (v := 10) hx hb dX9_readHead_13 zkb_10 ?_
    have kc_4 : (2 : Int32).toInt = 2 := zt_2
    have kc_5 : (10 : Int32).toInt = 10 := zt_10
    refine q_ci (q_runU (As := [.int 2, .int 10]) (rest := []) E (hml.trans hl.1.symm) hI (c_X3_passNumber l X σ_2 a (2 : Int32) (10 : Int32) (Or.inr ha)) ku_X9_61_9 ha ⟨rfl, by decide⟩ (show vwCl[8]? = some (RX9, TX9, 12) from rfl) rfl ⟨Nat.le_of_ble_eq_true rfl, Nat.le_of_ble_eq_true rfl⟩ ⟨Nat.le_refl _, Nat.le_refl _⟩ rfl (Nat.le_of_ble_eq_true rfl) dX9_readHead_15) hI (Nat.le_of_ble_eq_true rfl) (fun r_6 σ_7 H locs hpσ_7 hkσ_7 hI => ?_)
    have ahpσ_7 := hpσ_7.1
    have bhpσ_7 := hpσ_7.2.1
    have chpσ_7 := hpσ_7.2.2
    clear hpσ_7
    have fr_σ_7 := fr_σ_2.call chpσ_7 rfl rfl
    replace hF := q_biX hF bhpσ_7
    refine lv_istore_n (lv' := [(1, .int r_6), (0, .ref a)]) hx hb dX9_readHead_18 rfl hl (by decide) rfl (fun ls hl => ?_)
    refine lv_iload_n hx hb dX9_readHead_19 rfl (lv_at hl 0 rfl) ?_
    refine lv_iconst (v := (-1)) hx hb dX9_readHead_20 zki_m1 ?_
    refine q_icmp_eq (A := r_6.toInt) (B := (-1)) E rfl (by decide) (tgt := 33) dX9_readHead_21 (by decide) (fun c_8 => ?_) (fun c_8 => ?_)
    · skip
      replace hF := q_ifp hF c_8
      refine lv_iconst (v := 0) hx hb dX9_readHead_33 zki_0 ?_
      have hrv : (0 : Int32).toInt = 0 := zt_0
      exact q_retz E hr hlk hI ⟨by decide, by decide⟩ ⟨⟨by decide, by decide⟩, (hF.trans hout), fr_σ_7⟩ dX9_readHead_34
    · skip
      replace hF := q_ifn hF c_8
      refine lv_aload_n hx hb dX9_readHead_24 rfl (lv_at hl 1 rfl) ?_
      refine va_ldcS hx hb E.2.2.1 (kz_X9_65 E) dX9_readHead_25 ?_
      refine q_ci (q_runU (As := [.ref (q_sk X 1)]) (rest := []) E (hml.trans hl.1.symm) hI (c_X3_passWord l X σ_7 a 1 (Or.inr ha) (by decide : 1 < 22)) ku_X9_57_9 ha ⟨rfl, by decide⟩ (show vwCl[8]? = some (RX9, TX9, 12) from rfl) rfl ⟨Nat.le_of_ble_eq_true rfl, Nat.le_of_ble_eq_true rfl⟩ ⟨Nat.le_refl _, Nat.le_refl _⟩ rfl (Nat.le_of_ble_eq_true rfl) dX9_readHead_27) hI (Nat.le_of_ble_eq_true rfl) (fun r_9 σ_10 H locs hpσ_10 hkσ_10 hI => ?_)
      have ahpσ_10 := hpσ_10.1
      have bhpσ_10 := hpσ_10.2.1
      have chpσ_10 := hpσ_10.2.2
      clear hpσ_10
      have fr_σ_10 := fr_σ_7.call chpσ_10 rfl rfl
      replace hF := q_biX hF bhpσ_10
      refine q_if_ne (A := r_9.toInt) E rfl (tgt := 35) dX9_readHead_30 (by decide) (fun c_11 => ?_) (fun c_11 => ?_)
      · skip
        replace hF := q_ifn hF c_11
        replace c_11 := q_ifOne ahpσ_10 c_11
        refine lv_aload_n hx hb dX9_readHead_35 rfl (lv_at hl 1 rfl) ?_
        refine lv_iconst (v := 1) hx hb dX9_readHead_36 zki_1 ?_
        refine lv_bipush (v := 8) hx hb dX9_readHead_37 zkb_8 ?_
        have kc_12 : (1 : Int32).toInt = 1 := zt_1
        have kc_13 : (8 : Int32).toInt = 8 := zt_8
        refine q_ci (q_runU (As := [.int 1, .int 8]) (rest := []) E (hml.trans hl.1.symm) hI (c_X3_passNumber l X σ_10 a (1 : Int32) (8 : Int32) (Or.inr ha)) ku_X9_61_9 ha ⟨rfl, by decide⟩ (show vwCl[8]? = some (RX9, TX9, 12) from rfl) rfl ⟨Nat.le_of_ble_eq_true rfl, Nat.le_of_ble_eq_true rfl⟩ ⟨Nat.le_refl _, Nat.le_refl _⟩ rfl (Nat.le_of_ble_eq_true rfl) dX9_readHead_39) hI (Nat.le_of_ble_eq_true rfl) (fun r_14 σ_15 H locs hpσ_15 hkσ_15 hI => ?_)
        have ahpσ_15 := hpσ_15.1
        have bhpσ_15 := hpσ_15.2.1
        have chpσ_15 := hpσ_15.2.2
        clear hpσ_15
        have fr_σ_15 := fr_σ_10.call chpσ_15 rfl rfl
        replace hF := q_biX hF bhpσ_15
        refine lv_istore_n (lv' := [(2, .int r_14), (1, .int r_6), (0, .ref a)]) hx hb dX9_readHead_42 rfl hl (by decide) rfl (fun ls hl => ?_)
        refine lv_iload_n hx hb dX9_readHead_43 rfl (lv_at hl 0 rfl) ?_
        refine lv_iconst (v := (-1)) hx hb dX9_readHead_44 zki_m1 ?_
        refine q_icmp_ne (A := r_14.toInt) (B := (-1)) E rfl (by decide) (tgt := 50) dX9_readHead_45 (by decide) (fun c_16 => ?_) (fun c_16 => ?_)
        · skip
          replace hF := q_ifn hF c_16
          refine lv_aload_n hx hb dX9_readHead_50 rfl (lv_at hl 2 rfl) ?_
          refine gs_X9_12_9 E hI ha dX9_readHead_51 ?_
          refine gs_X9_67_1 E hI (q_tk (k' := 1) hI ha rfl (Nat.succ_ne_zero _)) dX9_readHead_54 ?_
          refine lv_iload_n hx hb dX9_readHead_57 rfl (lv_at hl 1 rfl) ?_
          refine ps_X9_71_6 E hI (q_tk (k' := 6) hI (q_tk (k' := 1) hI ha rfl (Nat.succ_ne_zero _)) rfl (Nat.succ_ne_zero _)) (by decide) (by first | (clear ahpσ_2 bhpσ_2 chpσ_2 c_3 kc_5 bhpσ_7 chpσ_7 ahpσ_10 bhpσ_10 chpσ_10 c_11 kc_13 bhpσ_15 chpσ_15; omega) | omega) (by first | (clear ahpσ_2 bhpσ_2 chpσ_2 c_3 kc_4 bhpσ_7 chpσ_7 ahpσ_10 bhpσ_10 chpσ_10 c_11 kc_13 bhpσ_15 chpσ_15; omega) | omega) dX9_readHead_58 (fun H locs σ_17 hσ_17 hI => ?_)
          replace hF := q_letX hF hσ_17
          have fr_σ_17 := fr_σ_15.si hσ_17 (q_tk (k' := 6) hI (q_tk (k' := 1) hI ha rfl (Nat.succ_ne_zero _)) rfl (Nat.succ_ne_zero _)) rfl
          refine lv_aload_n hx hb dX9_readHead_61 rfl (lv_at hl 2 rfl) ?_
          refine gs_X9_12_9 E hI ha dX9_readHead_62 ?_
          refine gs_X9_67_1 E hI (q_tk (k' := 1) hI ha rfl (Nat.succ_ne_zero _)) dX9_readHead_65 ?_
          refine lv_iload_n hx hb dX9_readHead_68 rfl (lv_at hl 0 rfl) ?_
          refine ps_X9_75_6 E hI (q_tk (k' := 6) hI (q_tk (k' := 1) hI ha rfl (Nat.succ_ne_zero _)) rfl (Nat.succ_ne_zero _)) (by decide) dX9_readHead_69 (fun H locs σ_18 hσ_18 hI => ?_)
          replace hF := q_letX hF hσ_18
          have fr_σ_18 := fr_σ_17.si hσ_18 (q_tk (k' := 6) hI (q_tk (k' := 1) hI ha rfl (Nat.succ_ne_zero _)) rfl (Nat.succ_ne_zero _)) rfl
          refine lv_aload_n hx hb dX9_readHead_72 rfl (lv_at hl 2 rfl) ?_
          refine q_ci (q_runU (As := []) (rest := []) E (hml.trans hl.1.symm) hI (c_X3_passSemicolon l X σ_18 a (Or.inr ha)) ku_X9_77_9 ha ⟨rfl, by decide⟩ (show vwCl[8]? = some (RX9, TX9, 12) from rfl) rfl ⟨Nat.le_of_ble_eq_true rfl, Nat.le_of_ble_eq_true rfl⟩ ⟨Nat.le_refl _, Nat.le_refl _⟩ rfl (Nat.le_of_ble_eq_true rfl) dX9_readHead_73) hI (Nat.le_of_ble_eq_true rfl) (fun r_19 σ_20 H locs hpσ_20 hkσ_20 hI => ?_)
          have ahpσ_20 := hpσ_20.1
          have bhpσ_20 := hpσ_20.2.1
          have chpσ_20 := hpσ_20.2.2
          clear hpσ_20
          have fr_σ_20 := fr_σ_18.call chpσ_20 rfl rfl
          replace hF := q_biX hF bhpσ_20
          exact q_retz E hr hlk hI ⟨by omega, by omega⟩ ⟨⟨by omega, by omega⟩, (hF.trans hout), fr_σ_20⟩ dX9_readHead_76
        · skip
          replace hF := q_ifp hF c_16
          refine lv_iconst (v := 0) hx hb dX9_readHead_48 zki_0 ?_
          have hrv : (0 : Int32).toInt = 0 := zt_0
          exact q_retz E hr hlk hI ⟨by decide, by decide⟩ ⟨⟨by decide, by decide⟩, (hF.trans hout), fr_σ_15⟩ dX9_readHead_49
      · skip
        replace hF := q_ifp hF c_11
        refine lv_iconst (v := 0) hx hb dX9_readHead_33 zki_0 ?_
        have hrv : (0 : Int32).toInt = 0 := zt_0
        exact q_retz E hr hlk hI ⟨by decide, by decide⟩ ⟨⟨by decide, by decide⟩, (hF.trans hout), fr_σ_10⟩ dX9_readHead_34
  · skip
    replace hF := q_ifp hF c_3
    refine lv_iconst (v := 0) hx hb dX9_readHead_9 zki_0 ?_
    have hrv : (0 : Int32).toInt = 0 := zt_0
    exact q_retz E hr hlk hI ⟨by decide, by decide⟩ ⟨⟨by decide, by decide⟩, (hF.trans hout), fr_σ_2⟩ dX9_readHead_10

set_option maxRecDepth 100000 in
set_option maxHeartbeats 4000000 in
theorem c_X9_readLaw (l : Launch) (X : XW) (σ : ST) (a : Nat) (ha : q_kd X a = 9) : Met l yX9_readLaw (q_ws yX9_readLaw cX9_readLaw 1 (some .boolean)) (q_rm 5 107) (q_P X σ [.ref a]) (q_Qi X 8 σ (fun (r : Int32) (σ' : ST) => (0 ≤ r.toInt ∧ r.toInt ≤ 1) ∧ (r, σ') = F_X9_readLaw X σ a ∧ q_ow [(4, 2), (4, 3), (4, 4), (4, 5), (4, 6), (4, 7), (6, 2), (9, 2), (9, 3), (9, 4), (9, 5), (9, 6), (9, 7), (9, 9)] [] X σ σ')) 0 0 (q_reg X) := by
  refine q_met 8 (by first | exact rfl | decide +kernel) rfl (Nat.le_of_ble_eq_true rfl) (fun p e s m below meth c E hml hr hlk hI ls hl => ?_)
  have hx := E.1
  have hb := E.2.1
  have hl : lv_has ls 1 [(0, .ref a)] := hl
  have fr_σ : q_ow [(4, 2), (4, 3), (4, 4), (4, 5), (4, 6), (4, 7), (6, 2), (9, 2), (9, 3), (9, 4), (9, 5), (9, 6), (9, 7), (9, 9)] [] X σ σ := q_ow.rf
  obtain ⟨out, hout⟩ : ∃ o, o = F_X9_readLaw X σ a := ⟨_, rfl⟩
  have hF := hout.symm
  unfold F_X9_readLaw at hF
  refine lv_aload_n hx hb dX9_readLaw_0 rfl (lv_at hl 0 rfl) ?_
  refine gs_X9_18_9 E hI ha dX9_readLaw_1 ?_
  refine lv_topi (fun f_1 ef_1 => ?_)
  replace hF := q_letX hF ef_1
  have bf_1 : 0 ≤ f_1.toInt ∧ f_1.toInt ≤ 1 := by rw [ef_1]; exact q_bd hI ha rfl
  refine q_if_eq (A := f_1.toInt) E rfl (tgt := 13) dX9_readLaw_4 (by decide) (fun c_2 => ?_) (fun c_2 => ?_)
  · skip
    replace hF := q_ifp hF c_2
    refine lv_aload_n hx hb dX9_readLaw_13 rfl (lv_at hl 0 rfl) ?_
    refine lv_iconst (v := 1) hx hb dX9_readLaw_14 zki_1 ?_
    refine ps_X9_18_9 E hI ha (by decide) (by decide) (by decide) dX9_readLaw_15 (fun H locs σ_3 hσ_3 hI => ?_)
    replace hF := q_letX hF hσ_3
    have fr_σ_3 := fr_σ.si hσ_3 ha rfl
    refine lv_aload_n hx hb dX9_readLaw_18 rfl (lv_at hl 0 rfl) ?_
    refine q_cv (q_runU (As := []) (rest := []) E (hml.trans hl.1.symm) hI (c_X3_advance l X σ_3 a (Or.inr ha)) ku_X9_107_9 ha ⟨rfl, by decide⟩ (show vwCl[8]? = some (RX9, TX9, 12) from rfl) rfl ⟨Nat.le_of_ble_eq_true rfl, Nat.le_of_ble_eq_true rfl⟩ ⟨Nat.le_refl _, Nat.le_refl _⟩ rfl (Nat.le_of_ble_eq_true rfl) dX9_readLaw_19) hI (Nat.le_of_ble_eq_true rfl) (fun σ_5 H locs hpσ_5 hkσ_5 hI => ?_)
    have ahpσ_5 := hpσ_5.1
    have bhpσ_5 := hpσ_5.2
    clear hpσ_5
    have fr_σ_5 := fr_σ_3.call bhpσ_5 rfl rfl
    replace hF := q_letX hF ahpσ_5
    refine lv_aload_n hx hb dX9_readLaw_22 rfl (lv_at hl 0 rfl) ?_
    refine va_ldcS hx hb E.2.2.1 (kz_X9_110 E) dX9_readLaw_23 ?_
    refine q_ci (q_runU (As := [.ref (q_sk X 3)]) (rest := []) E (hml.trans hl.1.symm) hI (c_X3_isWord l X σ_5 a 3 (Or.inr ha) (by decide : 3 < 22)) ku_X9_82_9 ha ⟨rfl, by decide⟩ (show vwCl[8]? = some (RX9, TX9, 12) from rfl) rfl ⟨Nat.le_of_ble_eq_true rfl, Nat.le_of_ble_eq_true rfl⟩ ⟨Nat.le_refl _, Nat.le_refl _⟩ rfl (Nat.le_of_ble_eq_true rfl) dX9_readLaw_25) hI (Nat.le_of_ble_eq_true rfl) (fun r_6 σ_7 H locs hpσ_7 hkσ_7 hI => ?_)
    have ahpσ_7 := hpσ_7.1
    have bhpσ_7 := hpσ_7.2.1
    have chpσ_7 := hpσ_7.2.2
    clear hpσ_7
    replace hI := q_Irw ahpσ_7 hI
    replace hF := q_letX hF chpσ_7
    refine q_if_eq (A := r_6.toInt) E rfl (tgt := 45) dX9_readLaw_28 (by decide) (fun c_8 => ?_) (fun c_8 => ?_)
    · skip
      replace hF := q_ifp hF c_8
      refine lv_aload_n hx hb dX9_readLaw_45 rfl (lv_at hl 0 rfl) ?_
      refine va_ldcS hx hb E.2.2.1 (kz_X9_114 E) dX9_readLaw_46 ?_
      refine q_ci (q_runU (As := [.ref (q_sk X 4)]) (rest := []) E (hml.trans hl.1.symm) hI (c_X3_isWord l X σ_5 a 4 (Or.inr ha) (by decide : 4 < 22)) ku_X9_82_9 ha ⟨rfl, by decide⟩ (show vwCl[8]? = some (RX9, TX9, 12) from rfl) rfl ⟨Nat.le_of_ble_eq_true rfl, Nat.le_of_ble_eq_true rfl⟩ ⟨Nat.le_refl _, Nat.le_refl _⟩ rfl (Nat.le_of_ble_eq_true rfl) dX9_readLaw_48) hI (Nat.le_of_ble_eq_true rfl) (fun r_9 σ_10 H locs hpσ_10 hkσ_10 hI => ?_)
      have ahpσ_10 := hpσ_10.1
      have bhpσ_10 := hpσ_10.2.1
      have chpσ_10 := hpσ_10.2.2
      clear hpσ_10
      replace hI := q_Irw ahpσ_10 hI
      replace hF := q_letX hF chpσ_10
      refine q_if_eq (A := r_9.toInt) E rfl (tgt := 68) dX9_readLaw_51 (by decide) (fun c_11 => ?_) (fun c_11 => ?_)
      · skip
        replace hF := q_ifp hF c_11
        refine lv_aload_n hx hb dX9_readLaw_68 rfl (lv_at hl 0 rfl) ?_
        refine va_ldcS hx hb E.2.2.1 (kz_X9_116 E) dX9_readLaw_69 ?_
        refine q_ci (q_runU (As := [.ref (q_sk X 5)]) (rest := []) E (hml.trans hl.1.symm) hI (c_X3_isWord l X σ_5 a 5 (Or.inr ha) (by decide : 5 < 22)) ku_X9_82_9 ha ⟨rfl, by decide⟩ (show vwCl[8]? = some (RX9, TX9, 12) from rfl) rfl ⟨Nat.le_of_ble_eq_true rfl, Nat.le_of_ble_eq_true rfl⟩ ⟨Nat.le_refl _, Nat.le_refl _⟩ rfl (Nat.le_of_ble_eq_true rfl) dX9_readLaw_71) hI (Nat.le_of_ble_eq_true rfl) (fun r_12 σ_13 H locs hpσ_13 hkσ_13 hI => ?_)
        have ahpσ_13 := hpσ_13.1
        have bhpσ_13 := hpσ_13.2.1
        have chpσ_13 := hpσ_13.2.2
        clear hpσ_13
        replace hI := q_Irw ahpσ_13 hI
        replace hF := q_letX hF chpσ_13
        refine q_if_eq (A := r_12.toInt) E rfl (tgt := 91) dX9_readLaw_74 (by decide) (fun c_14 => ?_) (fun c_14 => ?_)
        · skip
          replace hF := q_ifp hF c_14
          refine lv_aload_n hx hb dX9_readLaw_91 rfl (lv_at hl 0 rfl) ?_
          refine lv_iconst (v := 2) hx hb dX9_readLaw_92 zki_2 ?_
          have kc_15 : (2 : Int32).toInt = 2 := zt_2
          refine q_ci (q_runU (As := [.int 2]) (rest := []) E (hml.trans hl.1.symm) hI (c_X3_fails l X σ_5 a (2 : Int32) (Or.inr ha)) ku_X9_103_9 ha ⟨rfl, by decide⟩ (show vwCl[8]? = some (RX9, TX9, 12) from rfl) rfl ⟨Nat.le_of_ble_eq_true rfl, Nat.le_of_ble_eq_true rfl⟩ ⟨Nat.le_refl _, Nat.le_refl _⟩ rfl (Nat.le_of_ble_eq_true rfl) dX9_readLaw_93) hI (Nat.le_of_ble_eq_true rfl) (fun r_16 σ_17 H locs hpσ_17 hkσ_17 hI => ?_)
          have ahpσ_17 := hpσ_17.1
          have bhpσ_17 := hpσ_17.2.1
          have chpσ_17 := hpσ_17.2.2.1
          have dhpσ_17 := hpσ_17.2.2.2
          clear hpσ_17
          have fr_σ_17 := fr_σ_5.call dhpσ_17 rfl rfl
          replace hF := q_biX hF chpσ_17
          exact q_retz E hr hlk hI ⟨by omega, by omega⟩ ⟨⟨by omega, by omega⟩, (hF.trans hout), fr_σ_17⟩ dX9_readLaw_96
        · skip
          replace hF := q_ifn hF c_14
          replace c_14 := q_ifOne bhpσ_13 c_14
          refine lv_aload_n hx hb dX9_readLaw_77 rfl (lv_at hl 0 rfl) ?_
          refine gs_X9_12_9 E hI ha dX9_readLaw_78 ?_
          refine gs_X9_67_1 E hI (q_tk (k' := 1) hI ha rfl (Nat.succ_ne_zero _)) dX9_readLaw_81 ?_
          refine lv_iconst (v := 2) hx hb dX9_readLaw_84 zki_2 ?_
          refine ps_X9_112_6 E hI (q_tk (k' := 6) hI (q_tk (k' := 1) hI ha rfl (Nat.succ_ne_zero _)) rfl (Nat.succ_ne_zero _)) (by decide) dX9_readLaw_85 (fun H locs σ_18 hσ_18 hI => ?_)
          replace hF := q_letX hF hσ_18
          have fr_σ_18 := fr_σ_5.si hσ_18 (q_tk (k' := 6) hI (q_tk (k' := 1) hI ha rfl (Nat.succ_ne_zero _)) rfl (Nat.succ_ne_zero _)) rfl
          refine lv_goto (tgt := 97) hx hb dX9_readLaw_88 (by decide) ?_
          refine lv_aload_n hx hb dX9_readLaw_97 rfl (lv_at hl 0 rfl) ?_
          refine q_cv (q_runU (As := []) (rest := []) E (hml.trans hl.1.symm) hI (c_X3_advance l X σ_18 a (Or.inr ha)) ku_X9_107_9 ha ⟨rfl, by decide⟩ (show vwCl[8]? = some (RX9, TX9, 12) from rfl) rfl ⟨Nat.le_of_ble_eq_true rfl, Nat.le_of_ble_eq_true rfl⟩ ⟨Nat.le_refl _, Nat.le_refl _⟩ rfl (Nat.le_of_ble_eq_true rfl) dX9_readLaw_98) hI (Nat.le_of_ble_eq_true rfl) (fun σ_20 H locs hpσ_20 hkσ_20 hI => ?_)
          have ahpσ_20 := hpσ_20.1
          have bhpσ_20 := hpσ_20.2
          clear hpσ_20
          have fr_σ_20 := fr_σ_18.call bhpσ_20 rfl rfl
          replace hF := q_letX hF ahpσ_20
          refine lv_aload_n hx hb dX9_readLaw_101 rfl (lv_at hl 0 rfl) ?_
          refine q_ci (q_runU (As := []) (rest := []) E (hml.trans hl.1.symm) hI (c_X3_passSemicolon l X σ_20 a (Or.inr ha)) ku_X9_77_9 ha ⟨rfl, by decide⟩ (show vwCl[8]? = some (RX9, TX9, 12) from rfl) rfl ⟨Nat.le_of_ble_eq_true rfl, Nat.le_of_ble_eq_true rfl⟩ ⟨Nat.le_refl _, Nat.le_refl _⟩ rfl (Nat.le_of_ble_eq_true rfl) dX9_readLaw_102) hI (Nat.le_of_ble_eq_true rfl) (fun r_21 σ_22 H locs hpσ_22 hkσ_22 hI => ?_)
          have ahpσ_22 := hpσ_22.1
          have bhpσ_22 := hpσ_22.2.1
          have chpσ_22 := hpσ_22.2.2
          clear hpσ_22
          have fr_σ_22 := fr_σ_20.call chpσ_22 rfl rfl
          replace hF := q_biX hF bhpσ_22
          exact q_retz E hr hlk hI ⟨by omega, by omega⟩ ⟨⟨by omega, by omega⟩, (hF.trans hout), fr_σ_22⟩ dX9_readLaw_105
      · skip
        replace hF := q_ifn hF c_11
        replace c_11 := q_ifOne bhpσ_10 c_11
        refine lv_aload_n hx hb dX9_readLaw_54 rfl (lv_at hl 0 rfl) ?_
        refine gs_X9_12_9 E hI ha dX9_readLaw_55 ?_
        refine gs_X9_67_1 E hI (q_tk (k' := 1) hI ha rfl (Nat.succ_ne_zero _)) dX9_readLaw_58 ?_
        refine lv_iconst (v := 1) hx hb dX9_readLaw_61 zki_1 ?_
        refine ps_X9_112_6 E hI (q_tk (k' := 6) hI (q_tk (k' := 1) hI ha rfl (Nat.succ_ne_zero _)) rfl (Nat.succ_ne_zero _)) (by decide) dX9_readLaw_62 (fun H locs σ_23 hσ_23 hI => ?_)
        replace hF := q_letX hF hσ_23
        have fr_σ_23 := fr_σ_5.si hσ_23 (q_tk (k' := 6) hI (q_tk (k' := 1) hI ha rfl (Nat.succ_ne_zero _)) rfl (Nat.succ_ne_zero _)) rfl
        refine lv_goto (tgt := 97) hx hb dX9_readLaw_65 (by decide) ?_
        refine lv_aload_n hx hb dX9_readLaw_97 rfl (lv_at hl 0 rfl) ?_
        refine q_cv (q_runU (As := []) (rest := []) E (hml.trans hl.1.symm) hI (c_X3_advance l X σ_23 a (Or.inr ha)) ku_X9_107_9 ha ⟨rfl, by decide⟩ (show vwCl[8]? = some (RX9, TX9, 12) from rfl) rfl ⟨Nat.le_of_ble_eq_true rfl, Nat.le_of_ble_eq_true rfl⟩ ⟨Nat.le_refl _, Nat.le_refl _⟩ rfl (Nat.le_of_ble_eq_true rfl) dX9_readLaw_98) hI (Nat.le_of_ble_eq_true rfl) (fun σ_25 H locs hpσ_25 hkσ_25 hI => ?_)
        have ahpσ_25 := hpσ_25.1
        have bhpσ_25 := hpσ_25.2
        clear hpσ_25
        have fr_σ_25 := fr_σ_23.call bhpσ_25 rfl rfl
        replace hF := q_letX hF ahpσ_25
        refine lv_aload_n hx hb dX9_readLaw_101 rfl (lv_at hl 0 rfl) ?_
        refine q_ci (q_runU (As := []) (rest := []) E (hml.trans hl.1.symm) hI (c_X3_passSemicolon l X σ_25 a (Or.inr ha)) ku_X9_77_9 ha ⟨rfl, by decide⟩ (show vwCl[8]? = some (RX9, TX9, 12) from rfl) rfl ⟨Nat.le_of_ble_eq_true rfl, Nat.le_of_ble_eq_true rfl⟩ ⟨Nat.le_refl _, Nat.le_refl _⟩ rfl (Nat.le_of_ble_eq_true rfl) dX9_readLaw_102) hI (Nat.le_of_ble_eq_true rfl) (fun r_26 σ_27 H locs hpσ_27 hkσ_27 hI => ?_)
        have ahpσ_27 := hpσ_27.1
        have bhpσ_27 := hpσ_27.2.1
        have chpσ_27 := hpσ_27.2.2
        clear hpσ_27
        have fr_σ_27 := fr_σ_25.call chpσ_27 rfl rfl
        replace hF := q_biX hF bhpσ_27
        exact q_retz E hr hlk hI ⟨by omega, by omega⟩ ⟨⟨by omega, by omega⟩, (hF.trans hout), fr_σ_27⟩ dX9_readLaw_105
    · skip
      replace hF := q_ifn hF c_8
      replace c_8 := q_ifOne bhpσ_7 c_8
      refine lv_aload_n hx hb dX9_readLaw_31 rfl (lv_at hl 0 rfl) ?_
      refine gs_X9_12_9 E hI ha dX9_readLaw_32 ?_
      refine gs_X9_67_1 E hI (q_tk (k' := 1) hI ha rfl (Nat.succ_ne_zero _)) dX9_readLaw_35 ?_
      refine lv_iconst (v := 0) hx hb dX9_readLaw_38 zki_0 ?_
      refine ps_X9_112_6 E hI (q_tk (k' := 6) hI (q_tk (k' := 1) hI ha rfl (Nat.succ_ne_zero _)) rfl (Nat.succ_ne_zero _)) (by decide) dX9_readLaw_39 (fun H locs σ_28 hσ_28 hI => ?_)
      replace hF := q_letX hF hσ_28
      have fr_σ_28 := fr_σ_5.si hσ_28 (q_tk (k' := 6) hI (q_tk (k' := 1) hI ha rfl (Nat.succ_ne_zero _)) rfl (Nat.succ_ne_zero _)) rfl
      refine lv_goto (tgt := 97) hx hb dX9_readLaw_42 (by decide) ?_
      refine lv_aload_n hx hb dX9_readLaw_97 rfl (lv_at hl 0 rfl) ?_
      refine q_cv (q_runU (As := []) (rest := []) E (hml.trans hl.1.symm) hI (c_X3_advance l X σ_28 a (Or.inr ha)) ku_X9_107_9 ha ⟨rfl, by decide⟩ (show vwCl[8]? = some (RX9, TX9, 12) from rfl) rfl ⟨Nat.le_of_ble_eq_true rfl, Nat.le_of_ble_eq_true rfl⟩ ⟨Nat.le_refl _, Nat.le_refl _⟩ rfl (Nat.le_of_ble_eq_true rfl) dX9_readLaw_98) hI (Nat.le_of_ble_eq_true rfl) (fun σ_30 H locs hpσ_30 hkσ_30 hI => ?_)
      have ahpσ_30 := hpσ_30.1
      have bhpσ_30 := hpσ_30.2
      clear hpσ_30
      have fr_σ_30 := fr_σ_28.call bhpσ_30 rfl rfl
      replace hF := q_letX hF ahpσ_30
      refine lv_aload_n hx hb dX9_readLaw_101 rfl (lv_at hl 0 rfl) ?_
      refine q_ci (q_runU (As := []) (rest := []) E (hml.trans hl.1.symm) hI (c_X3_passSemicolon l X σ_30 a (Or.inr ha)) ku_X9_77_9 ha ⟨rfl, by decide⟩ (show vwCl[8]? = some (RX9, TX9, 12) from rfl) rfl ⟨Nat.le_of_ble_eq_true rfl, Nat.le_of_ble_eq_true rfl⟩ ⟨Nat.le_refl _, Nat.le_refl _⟩ rfl (Nat.le_of_ble_eq_true rfl) dX9_readLaw_102) hI (Nat.le_of_ble_eq_true rfl) (fun r_31 σ_32 H locs hpσ_32 hkσ_32 hI => ?_)
      have ahpσ_32 := hpσ_32.1
      have bhpσ_32 := hpσ_32.2.1
      have chpσ_32 := hpσ_32.2.2
      clear hpσ_32
      have fr_σ_32 := fr_σ_30.call chpσ_32 rfl rfl
      replace hF := q_biX hF bhpσ_32
      exact q_retz E hr hlk hI ⟨by omega, by omega⟩ ⟨⟨by omega, by omega⟩, (hF.trans hout), fr_σ_32⟩ dX9_readLaw_105
  · skip
    replace hF := q_ifn hF c_2
    refine lv_aload_n hx hb dX9_readLaw_7 rfl (lv_at hl 0 rfl) ?_
    refine lv_iconst (v := 5) hx hb dX9_readLaw_8 zki_5 ?_
    have kc_33 : (5 : Int32).toInt = 5 := zt_5
    refine q_ci (q_runU (As := [.int 5]) (rest := []) E (hml.trans hl.1.symm) hI (c_X3_fails l X σ a (5 : Int32) (Or.inr ha)) ku_X9_103_9 ha ⟨rfl, by decide⟩ (show vwCl[8]? = some (RX9, TX9, 12) from rfl) rfl ⟨Nat.le_of_ble_eq_true rfl, Nat.le_of_ble_eq_true rfl⟩ ⟨Nat.le_refl _, Nat.le_refl _⟩ rfl (Nat.le_of_ble_eq_true rfl) dX9_readLaw_9) hI (Nat.le_of_ble_eq_true rfl) (fun r_34 σ_35 H locs hpσ_35 hkσ_35 hI => ?_)
    have ahpσ_35 := hpσ_35.1
    have bhpσ_35 := hpσ_35.2.1
    have chpσ_35 := hpσ_35.2.2.1
    have dhpσ_35 := hpσ_35.2.2.2
    clear hpσ_35
    have fr_σ_35 := fr_σ.call dhpσ_35 rfl rfl
    replace hF := q_biX hF chpσ_35
    exact q_retz E hr hlk hI ⟨by omega, by omega⟩ ⟨⟨by omega, by omega⟩, (hF.trans hout), fr_σ_35⟩ dX9_readLaw_12

set_option maxRecDepth 100000 in
set_option maxHeartbeats 4000000 in
theorem c_X9_readMost (l : Launch) (X : XW) (σ : ST) (a : Nat) (ha : q_kd X a = 9) : Met l yX9_readMost (q_ws yX9_readMost cX9_readMost 2 (some .boolean)) (q_rm 3 68) (q_P X σ [.ref a]) (q_Qi X 8 σ (fun (r : Int32) (σ' : ST) => (0 ≤ r.toInt ∧ r.toInt ≤ 1) ∧ (r, σ') = F_X9_readMost X σ a ∧ q_ow [(4, 2), (4, 3), (4, 4), (4, 5), (4, 6), (4, 7), (6, 3), (9, 2), (9, 3), (9, 4), (9, 5), (9, 6), (9, 7), (9, 10)] [] X σ σ')) 0 0 (q_reg X) := by
  refine q_met 8 (by first | exact rfl | decide +kernel) rfl (Nat.le_of_ble_eq_true rfl) (fun p e s m below meth c E hml hr hlk hI ls hl => ?_)
  have hx := E.1
  have hb := E.2.1
  have hl : lv_has ls 2 [(0, .ref a)] := hl
  have fr_σ : q_ow [(4, 2), (4, 3), (4, 4), (4, 5), (4, 6), (4, 7), (6, 3), (9, 2), (9, 3), (9, 4), (9, 5), (9, 6), (9, 7), (9, 10)] [] X σ σ := q_ow.rf
  obtain ⟨out, hout⟩ : ∃ o, o = F_X9_readMost X σ a := ⟨_, rfl⟩
  have hF := hout.symm
  unfold F_X9_readMost at hF
  refine lv_aload_n hx hb dX9_readMost_0 rfl (lv_at hl 0 rfl) ?_
  refine gs_X9_22_9 E hI ha dX9_readMost_1 ?_
  refine lv_topi (fun f_1 ef_1 => ?_)
  replace hF := q_letX hF ef_1
  have bf_1 : 0 ≤ f_1.toInt ∧ f_1.toInt ≤ 1 := by rw [ef_1]; exact q_bd hI ha rfl
  refine q_if_eq (A := f_1.toInt) E rfl (tgt := 13) dX9_readMost_4 (by decide) (fun c_2 => ?_) (fun c_2 => ?_)
  · skip
    replace hF := q_ifp hF c_2
    refine lv_aload_n hx hb dX9_readMost_13 rfl (lv_at hl 0 rfl) ?_
    refine lv_iconst (v := 1) hx hb dX9_readMost_14 zki_1 ?_
    refine ps_X9_22_9 E hI ha (by decide) (by decide) (by decide) dX9_readMost_15 (fun H locs σ_3 hσ_3 hI => ?_)
    replace hF := q_letX hF hσ_3
    have fr_σ_3 := fr_σ.si hσ_3 ha rfl
    refine lv_aload_n hx hb dX9_readMost_18 rfl (lv_at hl 0 rfl) ?_
    refine q_cv (q_runU (As := []) (rest := []) E (hml.trans hl.1.symm) hI (c_X3_advance l X σ_3 a (Or.inr ha)) ku_X9_107_9 ha ⟨rfl, by decide⟩ (show vwCl[8]? = some (RX9, TX9, 12) from rfl) rfl ⟨Nat.le_of_ble_eq_true rfl, Nat.le_of_ble_eq_true rfl⟩ ⟨Nat.le_refl _, Nat.le_refl _⟩ rfl (Nat.le_of_ble_eq_true rfl) dX9_readMost_19) hI (Nat.le_of_ble_eq_true rfl) (fun σ_5 H locs hpσ_5 hkσ_5 hI => ?_)
    have ahpσ_5 := hpσ_5.1
    have bhpσ_5 := hpσ_5.2
    clear hpσ_5
    have fr_σ_5 := fr_σ_3.call bhpσ_5 rfl rfl
    replace hF := q_letX hF ahpσ_5
    refine lv_aload_n hx hb dX9_readMost_22 rfl (lv_at hl 0 rfl) ?_
    refine lv_iconst (v := 1) hx hb dX9_readMost_23 zki_1 ?_
    refine lv_iconst (v := 4) hx hb dX9_readMost_24 zki_4 ?_
    have kc_6 : (1 : Int32).toInt = 1 := zt_1
    have kc_7 : (4 : Int32).toInt = 4 := zt_4
    refine q_ci (q_runU (As := [.int 1, .int 4]) (rest := []) E (hml.trans hl.1.symm) hI (c_X3_passNumber l X σ_5 a (1 : Int32) (4 : Int32) (Or.inr ha)) ku_X9_61_9 ha ⟨rfl, by decide⟩ (show vwCl[8]? = some (RX9, TX9, 12) from rfl) rfl ⟨Nat.le_of_ble_eq_true rfl, Nat.le_of_ble_eq_true rfl⟩ ⟨Nat.le_refl _, Nat.le_refl _⟩ rfl (Nat.le_of_ble_eq_true rfl) dX9_readMost_25) hI (Nat.le_of_ble_eq_true rfl) (fun r_8 σ_9 H locs hpσ_9 hkσ_9 hI => ?_)
    have ahpσ_9 := hpσ_9.1
    have bhpσ_9 := hpσ_9.2.1
    have chpσ_9 := hpσ_9.2.2
    clear hpσ_9
    have fr_σ_9 := fr_σ_5.call chpσ_9 rfl rfl
    replace hF := q_biX hF bhpσ_9
    refine lv_istore_n (lv' := [(1, .int r_8), (0, .ref a)]) hx hb dX9_readMost_28 rfl hl (by decide) rfl (fun ls hl => ?_)
    refine lv_iload_n hx hb dX9_readMost_29 rfl (lv_at hl 0 rfl) ?_
    refine lv_iconst (v := (-1)) hx hb dX9_readMost_30 zki_m1 ?_
    refine q_icmp_ne (A := r_8.toInt) (B := (-1)) E rfl (by decide) (tgt := 36) dX9_readMost_31 (by decide) (fun c_10 => ?_) (fun c_10 => ?_)
    · skip
      replace hF := q_ifn hF c_10
      refine lv_aload_n hx hb dX9_readMost_36 rfl (lv_at hl 1 rfl) ?_
      refine gs_X9_12_9 E hI ha dX9_readMost_37 ?_
      refine gs_X9_67_1 E hI (q_tk (k' := 1) hI ha rfl (Nat.succ_ne_zero _)) dX9_readMost_40 ?_
      refine lv_iload_n hx hb dX9_readMost_43 rfl (lv_at hl 0 rfl) ?_
      refine ps_X9_118_6 E hI (q_tk (k' := 6) hI (q_tk (k' := 1) hI ha rfl (Nat.succ_ne_zero _)) rfl (Nat.succ_ne_zero _)) (by decide) (by first | (clear bf_1 c_2 ahpσ_5 bhpσ_5 kc_7 bhpσ_9 chpσ_9; omega) | omega) (by first | (clear bf_1 c_2 ahpσ_5 bhpσ_5 kc_6 bhpσ_9 chpσ_9; omega) | omega) dX9_readMost_44 (fun H locs σ_11 hσ_11 hI => ?_)
      replace hF := q_letX hF hσ_11
      have fr_σ_11 := fr_σ_9.si hσ_11 (q_tk (k' := 6) hI (q_tk (k' := 1) hI ha rfl (Nat.succ_ne_zero _)) rfl (Nat.succ_ne_zero _)) rfl
      refine lv_aload_n hx hb dX9_readMost_47 rfl (lv_at hl 1 rfl) ?_
      refine q_ci (q_runU (As := []) (rest := []) E (hml.trans hl.1.symm) hI (c_X3_passSemicolon l X σ_11 a (Or.inr ha)) ku_X9_77_9 ha ⟨rfl, by decide⟩ (show vwCl[8]? = some (RX9, TX9, 12) from rfl) rfl ⟨Nat.le_of_ble_eq_true rfl, Nat.le_of_ble_eq_true rfl⟩ ⟨Nat.le_refl _, Nat.le_refl _⟩ rfl (Nat.le_of_ble_eq_true rfl) dX9_readMost_48) hI (Nat.le_of_ble_eq_true rfl) (fun r_12 σ_13 H locs hpσ_13 hkσ_13 hI => ?_)
      have ahpσ_13 := hpσ_13.1
      have bhpσ_13 := hpσ_13.2.1
      have chpσ_13 := hpσ_13.2.2
      clear hpσ_13
      have fr_σ_13 := fr_σ_11.call chpσ_13 rfl rfl
      replace hF := q_biX hF bhpσ_13
      exact q_retz E hr hlk hI ⟨by omega, by omega⟩ ⟨⟨by omega, by omega⟩, (hF.trans hout), fr_σ_13⟩ dX9_readMost_51
    · skip
      replace hF := q_ifp hF c_10
      refine lv_iconst (v := 0) hx hb dX9_readMost_34 zki_0 ?_
      have hrv : (0 : Int32).toInt = 0 := zt_0
      exact q_retz E hr hlk hI ⟨by decide, by decide⟩ ⟨⟨by decide, by decide⟩, (hF.trans hout), fr_σ_9⟩ dX9_readMost_35
  · skip
    replace hF := q_ifn hF c_2
    refine lv_aload_n hx hb dX9_readMost_7 rfl (lv_at hl 0 rfl) ?_
    refine lv_iconst (v := 5) hx hb dX9_readMost_8 zki_5 ?_
    have kc_14 : (5 : Int32).toInt = 5 := zt_5
    refine q_ci (q_runU (As := [.int 5]) (rest := []) E (hml.trans hl.1.symm) hI (c_X3_fails l X σ a (5 : Int32) (Or.inr ha)) ku_X9_103_9 ha ⟨rfl, by decide⟩ (show vwCl[8]? = some (RX9, TX9, 12) from rfl) rfl ⟨Nat.le_of_ble_eq_true rfl, Nat.le_of_ble_eq_true rfl⟩ ⟨Nat.le_refl _, Nat.le_refl _⟩ rfl (Nat.le_of_ble_eq_true rfl) dX9_readMost_9) hI (Nat.le_of_ble_eq_true rfl) (fun r_15 σ_16 H locs hpσ_16 hkσ_16 hI => ?_)
    have ahpσ_16 := hpσ_16.1
    have bhpσ_16 := hpσ_16.2.1
    have chpσ_16 := hpσ_16.2.2.1
    have dhpσ_16 := hpσ_16.2.2.2
    clear hpσ_16
    have fr_σ_16 := fr_σ.call dhpσ_16 rfl rfl
    replace hF := q_biX hF chpσ_16
    exact q_retz E hr hlk hI ⟨by omega, by omega⟩ ⟨⟨by omega, by omega⟩, (hF.trans hout), fr_σ_16⟩ dX9_readMost_12

set_option maxRecDepth 100000 in
set_option maxHeartbeats 4000000 in
theorem c_X9_readSixteenths (l : Launch) (X : XW) (σ : ST) (a : Nat) (r1 : Nat) (r2 : Nat) (v3 : Int32) (ha : q_kd X a = 9) (hr1 : r1 < 22) (hr2 : q_kd X r2 = 5) : Met l yX9_readSixteenths (q_ws yX9_readSixteenths cX9_readSixteenths 5 (some .boolean)) (q_rm 5 107) (q_P X σ [.ref a, .ref (q_sk X r1), .ref r2, .int v3]) (q_Qi X 8 σ (fun (r : Int32) (σ' : ST) => (0 ≤ r.toInt ∧ r.toInt ≤ 1) ∧ (r, σ') = F_X9_readSixteenths X σ a r1 r2 v3 ∧ q_ow [(4, 2), (4, 3), (4, 4), (4, 5), (4, 6), (4, 7), (9, 2), (9, 3), (9, 4), (9, 5), (9, 6), (9, 7), (20, 99)] [] X σ σ')) 0 0 (q_reg X) := by
  refine q_met 8 (by first | exact rfl | decide +kernel) rfl (Nat.le_of_ble_eq_true rfl) (fun p e s m below meth c E hml hr hlk hI ls hl => ?_)
  have hx := E.1
  have hb := E.2.1
  have hl : lv_has ls 5 [(0, .ref a), (1, .ref (q_sk X r1)), (2, .ref r2), (3, .int v3)] := hl
  have fr_σ : q_ow [(4, 2), (4, 3), (4, 4), (4, 5), (4, 6), (4, 7), (9, 2), (9, 3), (9, 4), (9, 5), (9, 6), (9, 7), (20, 99)] [] X σ σ := q_ow.rf
  obtain ⟨out, hout⟩ : ∃ o, o = F_X9_readSixteenths X σ a r1 r2 v3 := ⟨_, rfl⟩
  have hF := hout.symm
  unfold F_X9_readSixteenths at hF
  refine lv_aload_n hx hb dX9_readSixteenths_0 rfl (lv_at hl 0 rfl) ?_
  refine lv_aload_n hx hb dX9_readSixteenths_1 rfl (lv_at hl 1 rfl) ?_
  refine q_ci (q_runU (As := [.ref (q_sk X r1)]) (rest := []) E (hml.trans hl.1.symm) hI (c_X3_isWord l X σ a r1 (Or.inr ha) hr1) ku_X9_82_9 ha ⟨rfl, by decide⟩ (show vwCl[8]? = some (RX9, TX9, 12) from rfl) rfl ⟨Nat.le_of_ble_eq_true rfl, Nat.le_of_ble_eq_true rfl⟩ ⟨Nat.le_refl _, Nat.le_refl _⟩ rfl (Nat.le_of_ble_eq_true rfl) dX9_readSixteenths_2) hI (Nat.le_of_ble_eq_true rfl) (fun r_1 σ_2 H locs hpσ_2 hkσ_2 hI => ?_)
  have ahpσ_2 := hpσ_2.1
  have bhpσ_2 := hpσ_2.2.1
  have chpσ_2 := hpσ_2.2.2
  clear hpσ_2
  replace hI := q_Irw ahpσ_2 hI
  replace hF := q_letX hF chpσ_2
  refine q_if_ne (A := r_1.toInt) E rfl (tgt := 10) dX9_readSixteenths_5 (by decide) (fun c_3 => ?_) (fun c_3 => ?_)
  · skip
    replace hF := q_ifn hF c_3
    replace c_3 := q_ifOne bhpσ_2 c_3
    refine lv_aload_n hx hb dX9_readSixteenths_10 rfl (lv_at hl 0 rfl) ?_
    refine q_cv (q_runU (As := []) (rest := []) E (hml.trans hl.1.symm) hI (c_X3_advance l X σ a (Or.inr ha)) ku_X9_107_9 ha ⟨rfl, by decide⟩ (show vwCl[8]? = some (RX9, TX9, 12) from rfl) rfl ⟨Nat.le_of_ble_eq_true rfl, Nat.le_of_ble_eq_true rfl⟩ ⟨Nat.le_refl _, Nat.le_refl _⟩ rfl (Nat.le_of_ble_eq_true rfl) dX9_readSixteenths_11) hI (Nat.le_of_ble_eq_true rfl) (fun σ_5 H locs hpσ_5 hkσ_5 hI => ?_)
    have ahpσ_5 := hpσ_5.1
    have bhpσ_5 := hpσ_5.2
    clear hpσ_5
    have fr_σ_5 := fr_σ.call bhpσ_5 rfl rfl
    replace hF := q_letX hF ahpσ_5
    refine lv_aload_n hx hb dX9_readSixteenths_14 rfl (lv_at hl 0 rfl) ?_
    refine lv_iconst (v := 0) hx hb dX9_readSixteenths_15 zki_0 ?_
    refine lv_bipush (v := 16) hx hb dX9_readSixteenths_16 zkb_16 ?_
    have kc_6 : (0 : Int32).toInt = 0 := zt_0
    have kc_7 : (16 : Int32).toInt = 16 := zt_16
    refine q_ci (q_runU (As := [.int 0, .int 16]) (rest := []) E (hml.trans hl.1.symm) hI (c_X3_passNumber l X σ_5 a (0 : Int32) (16 : Int32) (Or.inr ha)) ku_X9_61_9 ha ⟨rfl, by decide⟩ (show vwCl[8]? = some (RX9, TX9, 12) from rfl) rfl ⟨Nat.le_of_ble_eq_true rfl, Nat.le_of_ble_eq_true rfl⟩ ⟨Nat.le_refl _, Nat.le_refl _⟩ rfl (Nat.le_of_ble_eq_true rfl) dX9_readSixteenths_18) hI (Nat.le_of_ble_eq_true rfl) (fun r_8 σ_9 H locs hpσ_9 hkσ_9 hI => ?_)
    have ahpσ_9 := hpσ_9.1
    have bhpσ_9 := hpσ_9.2.1
    have chpσ_9 := hpσ_9.2.2
    clear hpσ_9
    have fr_σ_9 := fr_σ_5.call chpσ_9 rfl rfl
    replace hF := q_biX hF bhpσ_9
    refine lv_istore (lv' := [(4, .int r_8), (0, .ref a), (1, .ref (q_sk X r1)), (2, .ref r2), (3, .int v3)]) hx hb dX9_readSixteenths_21 hl (by decide) rfl (fun ls hl => ?_)
    refine lv_aload_n hx hb dX9_readSixteenths_23 rfl (lv_at hl 3 rfl) ?_
    refine lv_iload_n hx hb dX9_readSixteenths_24 rfl (lv_at hl 4 rfl) ?_
    refine lv_iload hx hb dX9_readSixteenths_25 (lv_at hl 0 rfl) ?_
    refine q_cv (q_rV4_2 (rest := []) E (hml.trans hl.1.symm) hI (c_X5_set l X σ_9 r2 v3 r_8 hr2) kv_X9_154 hr2 ⟨Nat.le_of_ble_eq_true rfl, Nat.le_of_ble_eq_true rfl⟩ (Nat.le_of_ble_eq_true rfl) dX9_readSixteenths_27) hI (Nat.le_of_ble_eq_true rfl) (fun σ_11 H locs hpσ_11 hkσ_11 hI => ?_)
    have ahpσ_11 := hpσ_11.1
    have bhpσ_11 := hpσ_11.2
    clear hpσ_11
    have fr_σ_11 := fr_σ_9.call bhpσ_11 rfl rfl
    replace hF := q_letX hF ahpσ_11
    refine lv_iload hx hb dX9_readSixteenths_30 (lv_at hl 0 rfl) ?_
    refine lv_iconst (v := (-1)) hx hb dX9_readSixteenths_32 zki_m1 ?_
    refine q_icmp_eq (A := r_8.toInt) (B := (-1)) E rfl (by decide) (tgt := 40) dX9_readSixteenths_33 (by decide) (fun c_12 => ?_) (fun c_12 => ?_)
    · skip
      replace hF := q_ifp hF c_12
      refine lv_iconst (v := 0) hx hb dX9_readSixteenths_40 zki_0 ?_
      have hrv : (0 : Int32).toInt = 0 := zt_0
      exact q_retz E hr hlk hI ⟨by decide, by decide⟩ ⟨⟨by decide, by decide⟩, (hF.trans hout), fr_σ_11⟩ dX9_readSixteenths_41
    · skip
      replace hF := q_ifn hF c_12
      refine lv_iconst (v := 1) hx hb dX9_readSixteenths_36 zki_1 ?_
      refine lv_goto (tgt := 41) hx hb dX9_readSixteenths_37 (by decide) ?_
      have hrv : (1 : Int32).toInt = 1 := zt_1
      exact q_retz E hr hlk hI ⟨by decide, by decide⟩ ⟨⟨by decide, by decide⟩, (hF.trans hout), fr_σ_11⟩ dX9_readSixteenths_41
  · skip
    replace hF := q_ifp hF c_3
    refine lv_iconst (v := 1) hx hb dX9_readSixteenths_8 zki_1 ?_
    have hrv : (1 : Int32).toInt = 1 := zt_1
    exact q_retz E hr hlk hI ⟨by decide, by decide⟩ ⟨⟨by decide, by decide⟩, (hF.trans hout), fr_σ⟩ dX9_readSixteenths_9

set_option maxRecDepth 100000 in
set_option maxHeartbeats 4000000 in
theorem c_X9_readPlayer (l : Launch) (X : XW) (σ : ST) (a : Nat) (ha : q_kd X a = 9) : Met l yX9_readPlayer (q_ws yX9_readPlayer cX9_readPlayer 2 (some .boolean)) (q_rm 6 131) (q_P X σ [.ref a]) (q_Qi X 8 σ (fun (r : Int32) (σ' : ST) => (0 ≤ r.toInt ∧ r.toInt ≤ 1) ∧ (r, σ') = F_X9_readPlayer X σ a ∧ q_ow [(4, 2), (4, 3), (4, 4), (4, 5), (4, 6), (4, 7), (6, 4), (9, 2), (9, 3), (9, 4), (9, 5), (9, 6), (9, 7), (20, 99)] [] X σ σ')) 0 0 (q_reg X) := by
  refine q_met 8 (by first | exact rfl | decide +kernel) rfl (Nat.le_of_ble_eq_true rfl) (fun p e s m below meth c E hml hr hlk hI ls hl => ?_)
  have hx := E.1
  have hb := E.2.1
  have hl : lv_has ls 2 [(0, .ref a)] := hl
  have fr_σ : q_ow [(4, 2), (4, 3), (4, 4), (4, 5), (4, 6), (4, 7), (6, 4), (9, 2), (9, 3), (9, 4), (9, 5), (9, 6), (9, 7), (20, 99)] [] X σ σ := q_ow.rf
  obtain ⟨out, hout⟩ : ∃ o, o = F_X9_readPlayer X σ a := ⟨_, rfl⟩
  have hF := hout.symm
  unfold F_X9_readPlayer at hF
  refine lv_aload_n hx hb dX9_readPlayer_0 rfl (lv_at hl 0 rfl) ?_
  refine gs_X9_12_9 E hI ha dX9_readPlayer_1 ?_
  refine gs_X9_67_1 E hI (q_tk (k' := 1) hI ha rfl (Nat.succ_ne_zero _)) dX9_readPlayer_4 ?_
  refine gs_X9_120_6 E hI (q_tk (k' := 6) hI (q_tk (k' := 1) hI ha rfl (Nat.succ_ne_zero _)) rfl (Nat.succ_ne_zero _)) dX9_readPlayer_7 ?_
  refine lv_topi (fun f_1 ef_1 => ?_)
  replace hF := q_letX hF ef_1
  refine lv_istore_n (lv' := [(1, .int f_1), (0, .ref a)]) hx hb dX9_readPlayer_10 rfl hl (by decide) rfl (fun ls hl => ?_)
  refine lv_iload_n hx hb dX9_readPlayer_11 rfl (lv_at hl 0 rfl) ?_
  refine lv_bipush (v := 6) hx hb dX9_readPlayer_12 zkb_6 ?_
  refine q_icmp_lt (A := f_1.toInt) (B := 6) E rfl (by decide) (tgt := 24) dX9_readPlayer_14 (by decide) (fun c_2 => ?_) (fun c_2 => ?_)
  · skip
    replace hF := q_ifp hF c_2
    refine lv_aload_n hx hb dX9_readPlayer_24 rfl (lv_at hl 1 rfl) ?_
    refine q_cv (q_runU (As := []) (rest := []) E (hml.trans hl.1.symm) hI (c_X3_advance l X σ a (Or.inr ha)) ku_X9_107_9 ha ⟨rfl, by decide⟩ (show vwCl[8]? = some (RX9, TX9, 12) from rfl) rfl ⟨Nat.le_of_ble_eq_true rfl, Nat.le_of_ble_eq_true rfl⟩ ⟨Nat.le_refl _, Nat.le_refl _⟩ rfl (Nat.le_of_ble_eq_true rfl) dX9_readPlayer_25) hI (Nat.le_of_ble_eq_true rfl) (fun σ_4 H locs hpσ_4 hkσ_4 hI => ?_)
    have ahpσ_4 := hpσ_4.1
    have bhpσ_4 := hpσ_4.2
    clear hpσ_4
    have fr_σ_4 := fr_σ.call bhpσ_4 rfl rfl
    replace hF := q_letX hF ahpσ_4
    refine lv_aload_n hx hb dX9_readPlayer_28 rfl (lv_at hl 1 rfl) ?_
    refine q_ci (q_runU (As := []) (rest := []) E (hml.trans hl.1.symm) hI (c_X3_mustBeName l X σ_4 a (Or.inr ha)) ku_X9_123_9 ha ⟨rfl, by decide⟩ (show vwCl[8]? = some (RX9, TX9, 12) from rfl) rfl ⟨Nat.le_of_ble_eq_true rfl, Nat.le_of_ble_eq_true rfl⟩ ⟨Nat.le_refl _, Nat.le_refl _⟩ rfl (Nat.le_of_ble_eq_true rfl) dX9_readPlayer_29) hI (Nat.le_of_ble_eq_true rfl) (fun r_5 σ_6 H locs hpσ_6 hkσ_6 hI => ?_)
    have ahpσ_6 := hpσ_6.1
    have bhpσ_6 := hpσ_6.2.1
    have chpσ_6 := hpσ_6.2.2
    clear hpσ_6
    have fr_σ_6 := fr_σ_4.call chpσ_6 rfl rfl
    replace hF := q_biX hF bhpσ_6
    refine q_if_ne (A := r_5.toInt) E rfl (tgt := 37) dX9_readPlayer_32 (by decide) (fun c_7 => ?_) (fun c_7 => ?_)
    · skip
      replace hF := q_ifn hF c_7
      replace c_7 := q_ifOne ahpσ_6 c_7
      refine lv_aload_n hx hb dX9_readPlayer_37 rfl (lv_at hl 1 rfl) ?_
      refine gs_X9_12_9 E hI ha dX9_readPlayer_38 ?_
      refine gs_X9_67_1 E hI (q_tk (k' := 1) hI ha rfl (Nat.succ_ne_zero _)) dX9_readPlayer_41 ?_
      refine lv_aload_n hx hb dX9_readPlayer_44 rfl (lv_at hl 1 rfl) ?_
      refine q_ci (q_rV5_1 (rest := []) E (hml.trans hl.1.symm) hI (c_X6_playerNamed l X σ_6 (q_rf X (q_rf X a 8) 0) a (q_tk (k' := 6) hI (q_tk (k' := 1) hI ha rfl (Nat.succ_ne_zero _)) rfl (Nat.succ_ne_zero _)) (Or.inr ha)) kv_X9_126 (q_tk (k' := 6) hI (q_tk (k' := 1) hI ha rfl (Nat.succ_ne_zero _)) rfl (Nat.succ_ne_zero _)) ⟨Nat.le_of_ble_eq_true rfl, Nat.le_of_ble_eq_true rfl⟩ (Nat.le_of_ble_eq_true rfl) dX9_readPlayer_45) hI (Nat.le_of_ble_eq_true rfl) (fun r_8 σ_9 H locs hpσ_9 hkσ_9 hI => ?_)
      have ahpσ_9 := hpσ_9.1
      have bhpσ_9 := hpσ_9.2
      clear hpσ_9
      replace hI := q_Irw ahpσ_9 hI
      replace hF := q_letX hF bhpσ_9
      refine lv_iconst (v := (-1)) hx hb dX9_readPlayer_48 zki_m1 ?_
      refine q_icmp_eq (A := r_8.toInt) (B := (-1)) E rfl (by decide) (tgt := 58) dX9_readPlayer_49 (by decide) (fun c_10 => ?_) (fun c_10 => ?_)
      · skip
        replace hF := q_ifp hF c_10
        refine lv_aload_n hx hb dX9_readPlayer_58 rfl (lv_at hl 1 rfl) ?_
        refine gs_X9_12_9 E hI ha dX9_readPlayer_59 ?_
        refine gs_X9_67_1 E hI (q_tk (k' := 1) hI ha rfl (Nat.succ_ne_zero _)) dX9_readPlayer_62 ?_
        refine lv_aload_n hx hb dX9_readPlayer_65 rfl (lv_at hl 1 rfl) ?_
        refine q_cv (q_rV5_1 (rest := []) E (hml.trans hl.1.symm) hI (c_X6_addPlayer l X σ_6 (q_rf X (q_rf X a 8) 0) a (q_tk (k' := 6) hI (q_tk (k' := 1) hI ha rfl (Nat.succ_ne_zero _)) rfl (Nat.succ_ne_zero _)) (Or.inr ha)) kv_X9_130 (q_tk (k' := 6) hI (q_tk (k' := 1) hI ha rfl (Nat.succ_ne_zero _)) rfl (Nat.succ_ne_zero _)) ⟨Nat.le_of_ble_eq_true rfl, Nat.le_of_ble_eq_true rfl⟩ (Nat.le_of_ble_eq_true rfl) dX9_readPlayer_66) hI (Nat.le_of_ble_eq_true rfl) (fun σ_12 H locs hpσ_12 hkσ_12 hI => ?_)
        have ahpσ_12 := hpσ_12.1
        have bhpσ_12 := hpσ_12.2
        clear hpσ_12
        have fr_σ_12 := fr_σ_6.call bhpσ_12 rfl rfl
        replace hF := q_letX hF ahpσ_12
        refine lv_aload_n hx hb dX9_readPlayer_69 rfl (lv_at hl 1 rfl) ?_
        refine q_cv (q_runU (As := []) (rest := []) E (hml.trans hl.1.symm) hI (c_X3_advance l X σ_12 a (Or.inr ha)) ku_X9_107_9 ha ⟨rfl, by decide⟩ (show vwCl[8]? = some (RX9, TX9, 12) from rfl) rfl ⟨Nat.le_of_ble_eq_true rfl, Nat.le_of_ble_eq_true rfl⟩ ⟨Nat.le_refl _, Nat.le_refl _⟩ rfl (Nat.le_of_ble_eq_true rfl) dX9_readPlayer_70) hI (Nat.le_of_ble_eq_true rfl) (fun σ_14 H locs hpσ_14 hkσ_14 hI => ?_)
        have ahpσ_14 := hpσ_14.1
        have bhpσ_14 := hpσ_14.2
        clear hpσ_14
        have fr_σ_14 := fr_σ_12.call bhpσ_14 rfl rfl
        replace hF := q_letX hF ahpσ_14
        refine lv_aload_n hx hb dX9_readPlayer_73 rfl (lv_at hl 1 rfl) ?_
        refine va_ldcS hx hb E.2.2.1 (kz_X9_134 E) dX9_readPlayer_74 ?_
        refine lv_aload_n hx hb dX9_readPlayer_76 rfl (lv_at hl 1 rfl) ?_
        refine gs_X9_12_9 E hI ha dX9_readPlayer_77 ?_
        refine gs_X9_136_1 E hI (q_tk (k' := 1) hI ha rfl (Nat.succ_ne_zero _)) dX9_readPlayer_80 ?_
        refine gs_X9_140_2 E hI (q_tk (k' := 2) hI (q_tk (k' := 1) hI ha rfl (Nat.succ_ne_zero _)) rfl (Nat.succ_ne_zero _)) dX9_readPlayer_83 ?_
        refine lv_iload_n hx hb dX9_readPlayer_86 rfl (lv_at hl 0 rfl) ?_
        refine q_ci (q_rV8_3 (rest := []) E (hml.trans hl.1.symm) hI (c_X9_readSixteenths l X σ_14 a 9 (q_rf X (q_rf X (q_rf X a 8) 1) 3) f_1 ha (by decide : 9 < 22) (q_tk (k' := 5) hI (q_tk (k' := 2) hI (q_tk (k' := 1) hI ha rfl (Nat.succ_ne_zero _)) rfl (Nat.succ_ne_zero _)) rfl (Nat.succ_ne_zero _))) kv_X9_145 ha ⟨Nat.le_of_ble_eq_true rfl, Nat.le_of_ble_eq_true rfl⟩ (Nat.le_of_ble_eq_true rfl) dX9_readPlayer_87) hI (Nat.le_of_ble_eq_true rfl) (fun r_15 σ_16 H locs hpσ_16 hkσ_16 hI => ?_)
        have ahpσ_16 := hpσ_16.1
        have bhpσ_16 := hpσ_16.2.1
        have chpσ_16 := hpσ_16.2.2
        clear hpσ_16
        have fr_σ_16 := fr_σ_14.call chpσ_16 rfl rfl
        replace hF := q_biX hF bhpσ_16
        refine q_if_eq (A := r_15.toInt) E rfl (tgt := 124) dX9_readPlayer_90 (by decide) (fun c_17 => ?_) (fun c_17 => ?_)
        · skip
          replace hF := q_ifp hF c_17
          refine lv_iconst (v := 0) hx hb dX9_readPlayer_124 zki_0 ?_
          have hrv : (0 : Int32).toInt = 0 := zt_0
          exact q_retz E hr hlk hI ⟨by decide, by decide⟩ ⟨⟨by decide, by decide⟩, (hF.trans hout), fr_σ_16⟩ dX9_readPlayer_125
        · skip
          replace hF := q_ifn hF c_17
          replace c_17 := q_ifOne ahpσ_16 c_17
          refine lv_aload_n hx hb dX9_readPlayer_93 rfl (lv_at hl 1 rfl) ?_
          refine va_ldcS hx hb E.2.2.1 (kz_X9_149 E) dX9_readPlayer_94 ?_
          refine lv_aload_n hx hb dX9_readPlayer_96 rfl (lv_at hl 1 rfl) ?_
          refine gs_X9_12_9 E hI ha dX9_readPlayer_97 ?_
          refine gs_X9_136_1 E hI (q_tk (k' := 1) hI ha rfl (Nat.succ_ne_zero _)) dX9_readPlayer_100 ?_
          refine gs_X9_151_2 E hI (q_tk (k' := 2) hI (q_tk (k' := 1) hI ha rfl (Nat.succ_ne_zero _)) rfl (Nat.succ_ne_zero _)) dX9_readPlayer_103 ?_
          refine lv_iload_n hx hb dX9_readPlayer_106 rfl (lv_at hl 0 rfl) ?_
          refine q_ci (q_rV8_3 (rest := []) E (hml.trans hl.1.symm) hI (c_X9_readSixteenths l X σ_16 a 10 (q_rf X (q_rf X (q_rf X a 8) 1) 4) f_1 ha (by decide : 10 < 22) (q_tk (k' := 5) hI (q_tk (k' := 2) hI (q_tk (k' := 1) hI ha rfl (Nat.succ_ne_zero _)) rfl (Nat.succ_ne_zero _)) rfl (Nat.succ_ne_zero _))) kv_X9_145 ha ⟨Nat.le_of_ble_eq_true rfl, Nat.le_of_ble_eq_true rfl⟩ (Nat.le_of_ble_eq_true rfl) dX9_readPlayer_107) hI (Nat.le_of_ble_eq_true rfl) (fun r_18 σ_19 H locs hpσ_19 hkσ_19 hI => ?_)
          have ahpσ_19 := hpσ_19.1
          have bhpσ_19 := hpσ_19.2.1
          have chpσ_19 := hpσ_19.2.2
          clear hpσ_19
          have fr_σ_19 := fr_σ_16.call chpσ_19 rfl rfl
          replace hF := q_biX hF bhpσ_19
          refine q_if_eq (A := r_18.toInt) E rfl (tgt := 124) dX9_readPlayer_110 (by decide) (fun c_20 => ?_) (fun c_20 => ?_)
          · skip
            replace hF := q_ifp hF c_20
            refine lv_iconst (v := 0) hx hb dX9_readPlayer_124 zki_0 ?_
            have hrv : (0 : Int32).toInt = 0 := zt_0
            exact q_retz E hr hlk hI ⟨by decide, by decide⟩ ⟨⟨by decide, by decide⟩, (hF.trans hout), fr_σ_19⟩ dX9_readPlayer_125
          · skip
            replace hF := q_ifn hF c_20
            replace c_20 := q_ifOne ahpσ_19 c_20
            refine lv_aload_n hx hb dX9_readPlayer_113 rfl (lv_at hl 1 rfl) ?_
            refine q_ci (q_runU (As := []) (rest := []) E (hml.trans hl.1.symm) hI (c_X3_passSemicolon l X σ_19 a (Or.inr ha)) ku_X9_77_9 ha ⟨rfl, by decide⟩ (show vwCl[8]? = some (RX9, TX9, 12) from rfl) rfl ⟨Nat.le_of_ble_eq_true rfl, Nat.le_of_ble_eq_true rfl⟩ ⟨Nat.le_refl _, Nat.le_refl _⟩ rfl (Nat.le_of_ble_eq_true rfl) dX9_readPlayer_114) hI (Nat.le_of_ble_eq_true rfl) (fun r_21 σ_22 H locs hpσ_22 hkσ_22 hI => ?_)
            have ahpσ_22 := hpσ_22.1
            have bhpσ_22 := hpσ_22.2.1
            have chpσ_22 := hpσ_22.2.2
            clear hpσ_22
            have fr_σ_22 := fr_σ_19.call chpσ_22 rfl rfl
            replace hF := q_biX hF bhpσ_22
            refine q_if_eq (A := r_21.toInt) E rfl (tgt := 124) dX9_readPlayer_117 (by decide) (fun c_23 => ?_) (fun c_23 => ?_)
            · skip
              replace hF := q_ifp hF c_23
              refine lv_iconst (v := 0) hx hb dX9_readPlayer_124 zki_0 ?_
              have hrv : (0 : Int32).toInt = 0 := zt_0
              exact q_retz E hr hlk hI ⟨by decide, by decide⟩ ⟨⟨by decide, by decide⟩, (hF.trans hout), fr_σ_22⟩ dX9_readPlayer_125
            · skip
              replace hF := q_ifn hF c_23
              replace c_23 := q_ifOne ahpσ_22 c_23
              refine lv_iconst (v := 1) hx hb dX9_readPlayer_120 zki_1 ?_
              refine lv_goto (tgt := 125) hx hb dX9_readPlayer_121 (by decide) ?_
              have hrv : (1 : Int32).toInt = 1 := zt_1
              exact q_retz E hr hlk hI ⟨by decide, by decide⟩ ⟨⟨by decide, by decide⟩, (hF.trans hout), fr_σ_22⟩ dX9_readPlayer_125
      · skip
        replace hF := q_ifn hF c_10
        refine lv_aload_n hx hb dX9_readPlayer_52 rfl (lv_at hl 1 rfl) ?_
        refine lv_iconst (v := 3) hx hb dX9_readPlayer_53 zki_3 ?_
        have kc_24 : (3 : Int32).toInt = 3 := zt_3
        refine q_ci (q_runU (As := [.int 3]) (rest := []) E (hml.trans hl.1.symm) hI (c_X3_fails l X σ_6 a (3 : Int32) (Or.inr ha)) ku_X9_103_9 ha ⟨rfl, by decide⟩ (show vwCl[8]? = some (RX9, TX9, 12) from rfl) rfl ⟨Nat.le_of_ble_eq_true rfl, Nat.le_of_ble_eq_true rfl⟩ ⟨Nat.le_refl _, Nat.le_refl _⟩ rfl (Nat.le_of_ble_eq_true rfl) dX9_readPlayer_54) hI (Nat.le_of_ble_eq_true rfl) (fun r_25 σ_26 H locs hpσ_26 hkσ_26 hI => ?_)
        have ahpσ_26 := hpσ_26.1
        have bhpσ_26 := hpσ_26.2.1
        have chpσ_26 := hpσ_26.2.2.1
        have dhpσ_26 := hpσ_26.2.2.2
        clear hpσ_26
        have fr_σ_26 := fr_σ_6.call dhpσ_26 rfl rfl
        replace hF := q_biX hF chpσ_26
        exact q_retz E hr hlk hI ⟨by omega, by omega⟩ ⟨⟨by omega, by omega⟩, (hF.trans hout), fr_σ_26⟩ dX9_readPlayer_57
    · skip
      replace hF := q_ifp hF c_7
      refine lv_iconst (v := 0) hx hb dX9_readPlayer_35 zki_0 ?_
      have hrv : (0 : Int32).toInt = 0 := zt_0
      exact q_retz E hr hlk hI ⟨by decide, by decide⟩ ⟨⟨by decide, by decide⟩, (hF.trans hout), fr_σ_6⟩ dX9_readPlayer_36
  · skip
    replace hF := q_ifn hF (Int.not_lt.mpr c_2)
    refine lv_aload_n hx hb dX9_readPlayer_17 rfl (lv_at hl 1 rfl) ?_
    refine lv_bipush (v := 6) hx hb dX9_readPlayer_18 zkb_6 ?_
    have kc_27 : (6 : Int32).toInt = 6 := zt_6
    refine q_ci (q_runU (As := [.int 6]) (rest := []) E (hml.trans hl.1.symm) hI (c_X3_fails l X σ a (6 : Int32) (Or.inr ha)) ku_X9_103_9 ha ⟨rfl, by decide⟩ (show vwCl[8]? = some (RX9, TX9, 12) from rfl) rfl ⟨Nat.le_of_ble_eq_true rfl, Nat.le_of_ble_eq_true rfl⟩ ⟨Nat.le_refl _, Nat.le_refl _⟩ rfl (Nat.le_of_ble_eq_true rfl) dX9_readPlayer_20) hI (Nat.le_of_ble_eq_true rfl) (fun r_28 σ_29 H locs hpσ_29 hkσ_29 hI => ?_)
    have ahpσ_29 := hpσ_29.1
    have bhpσ_29 := hpσ_29.2.1
    have chpσ_29 := hpσ_29.2.2.1
    have dhpσ_29 := hpσ_29.2.2.2
    clear hpσ_29
    have fr_σ_29 := fr_σ.call dhpσ_29 rfl rfl
    replace hF := q_biX hF chpσ_29
    exact q_retz E hr hlk hI ⟨by omega, by omega⟩ ⟨⟨by omega, by omega⟩, (hF.trans hout), fr_σ_29⟩ dX9_readPlayer_23

set_option maxRecDepth 100000 in
set_option maxHeartbeats 4000000 in
theorem c_X9_readHand (l : Launch) (X : XW) (σ : ST) (a : Nat) (ha : q_kd X a = 9) : Met l yX9_readHand (q_ws yX9_readHand cX9_readHand 5 (some .boolean)) (q_rm 7 150) (q_P X σ [.ref a]) (q_Qi X 8 σ (fun (r : Int32) (σ' : ST) => (0 ≤ r.toInt ∧ r.toInt ≤ 1) ∧ (r, σ') = F_X9_readHand X σ a ∧ q_ow [(4, 2), (4, 3), (4, 4), (4, 5), (4, 6), (4, 7), (9, 2), (9, 3), (9, 4), (9, 5), (9, 6), (9, 7), (20, 99)] [] X σ σ')) 0 0 (q_reg X) := by
  refine q_met 8 (by first | exact rfl | decide +kernel) rfl (Nat.le_of_ble_eq_true rfl) (fun p e s m below meth c E hml hr hlk hI ls hl => ?_)
  have hx := E.1
  have hb := E.2.1
  have hl : lv_has ls 5 [(0, .ref a)] := hl
  have fr_σ : q_ow [(4, 2), (4, 3), (4, 4), (4, 5), (4, 6), (4, 7), (9, 2), (9, 3), (9, 4), (9, 5), (9, 6), (9, 7), (20, 99)] [] X σ σ := q_ow.rf
  obtain ⟨out, hout⟩ : ∃ o, o = F_X9_readHand X σ a := ⟨_, rfl⟩
  have hF := hout.symm
  unfold F_X9_readHand at hF
  refine lv_aload_n hx hb dX9_readHand_0 rfl (lv_at hl 0 rfl) ?_
  refine q_cv (q_runU (As := []) (rest := []) E (hml.trans hl.1.symm) hI (c_X3_advance l X σ a (Or.inr ha)) ku_X9_107_9 ha ⟨rfl, by decide⟩ (show vwCl[8]? = some (RX9, TX9, 12) from rfl) rfl ⟨Nat.le_of_ble_eq_true rfl, Nat.le_of_ble_eq_true rfl⟩ ⟨Nat.le_refl _, Nat.le_refl _⟩ rfl (Nat.le_of_ble_eq_true rfl) dX9_readHand_1) hI (Nat.le_of_ble_eq_true rfl) (fun σ_2 H locs hpσ_2 hkσ_2 hI => ?_)
  have ahpσ_2 := hpσ_2.1
  have bhpσ_2 := hpσ_2.2
  clear hpσ_2
  have fr_σ_2 := fr_σ.call bhpσ_2 rfl rfl
  replace hF := q_letX hF ahpσ_2
  refine lv_aload_n hx hb dX9_readHand_4 rfl (lv_at hl 0 rfl) ?_
  refine lv_aload_n hx hb dX9_readHand_5 rfl (lv_at hl 0 rfl) ?_
  refine gs_X9_12_9 E hI ha dX9_readHand_6 ?_
  refine gs_X9_67_1 E hI (q_tk (k' := 1) hI ha rfl (Nat.succ_ne_zero _)) dX9_readHand_9 ?_
  refine q_ci (q_runU (As := [.ref (q_rf X (q_rf X a 8) 0)]) (rest := []) E (hml.trans hl.1.symm) hI (c_X3_passPlayer l X σ_2 a (q_rf X (q_rf X a 8) 0) (Or.inr ha) (q_tk (k' := 6) hI (q_tk (k' := 1) hI ha rfl (Nat.succ_ne_zero _)) rfl (Nat.succ_ne_zero _))) ku_X9_158_9 ha ⟨rfl, by decide⟩ (show vwCl[8]? = some (RX9, TX9, 12) from rfl) rfl ⟨Nat.le_of_ble_eq_true rfl, Nat.le_of_ble_eq_true rfl⟩ ⟨Nat.le_refl _, Nat.le_refl _⟩ rfl (Nat.le_of_ble_eq_true rfl) dX9_readHand_12) hI (Nat.le_of_ble_eq_true rfl) (fun r_3 σ_4 H locs hpσ_4 hkσ_4 hI => ?_)
  have ahpσ_4 := hpσ_4.1
  have bhpσ_4 := hpσ_4.2
  clear hpσ_4
  have fr_σ_4 := fr_σ_2.call bhpσ_4 rfl rfl
  replace hF := q_biX hF ahpσ_4
  refine lv_istore_n (lv' := [(1, .int r_3), (0, .ref a)]) hx hb dX9_readHand_15 rfl hl (by decide) rfl (fun ls hl => ?_)
  refine lv_iload_n hx hb dX9_readHand_16 rfl (lv_at hl 0 rfl) ?_
  refine lv_iconst (v := (-1)) hx hb dX9_readHand_17 zki_m1 ?_
  refine q_icmp_ne (A := r_3.toInt) (B := (-1)) E rfl (by decide) (tgt := 23) dX9_readHand_18 (by decide) (fun c_5 => ?_) (fun c_5 => ?_)
  · skip
    replace hF := q_ifn hF c_5
    refine lv_aload_n hx hb dX9_readHand_23 rfl (lv_at hl 1 rfl) ?_
    refine lv_iconst (v := 0) hx hb dX9_readHand_24 zki_0 ?_
    refine lv_bipush (v := 8) hx hb dX9_readHand_25 zkb_8 ?_
    have kc_6 : (0 : Int32).toInt = 0 := zt_0
    have kc_7 : (8 : Int32).toInt = 8 := zt_8
    refine q_ci (q_runU (As := [.int 0, .int 8]) (rest := []) E (hml.trans hl.1.symm) hI (c_X3_passNumber l X σ_4 a (0 : Int32) (8 : Int32) (Or.inr ha)) ku_X9_61_9 ha ⟨rfl, by decide⟩ (show vwCl[8]? = some (RX9, TX9, 12) from rfl) rfl ⟨Nat.le_of_ble_eq_true rfl, Nat.le_of_ble_eq_true rfl⟩ ⟨Nat.le_refl _, Nat.le_refl _⟩ rfl (Nat.le_of_ble_eq_true rfl) dX9_readHand_27) hI (Nat.le_of_ble_eq_true rfl) (fun r_8 σ_9 H locs hpσ_9 hkσ_9 hI => ?_)
    have ahpσ_9 := hpσ_9.1
    have bhpσ_9 := hpσ_9.2.1
    have chpσ_9 := hpσ_9.2.2
    clear hpσ_9
    have fr_σ_9 := fr_σ_4.call chpσ_9 rfl rfl
    replace hF := q_biX hF bhpσ_9
    refine lv_istore_n (lv' := [(2, .int r_8), (1, .int r_3), (0, .ref a)]) hx hb dX9_readHand_30 rfl hl (by decide) rfl (fun ls hl => ?_)
    refine lv_iload_n hx hb dX9_readHand_31 rfl (lv_at hl 0 rfl) ?_
    refine lv_iconst (v := (-1)) hx hb dX9_readHand_32 zki_m1 ?_
    refine q_icmp_eq (A := r_8.toInt) (B := (-1)) E rfl (by decide) (tgt := 65) dX9_readHand_33 (by decide) (fun c_10 => ?_) (fun c_10 => ?_)
    · skip
      replace hF := q_ifp hF c_10
      refine lv_iconst (v := 0) hx hb dX9_readHand_65 zki_0 ?_
      have hrv : (0 : Int32).toInt = 0 := zt_0
      exact q_retz E hr hlk hI ⟨by decide, by decide⟩ ⟨⟨by decide, by decide⟩, (hF.trans hout), fr_σ_9⟩ dX9_readHand_66
    · skip
      replace hF := q_ifn hF c_10
      refine lv_aload_n hx hb dX9_readHand_36 rfl (lv_at hl 2 rfl) ?_
      refine va_ldcS hx hb E.2.2.1 (kz_X9_162 E) dX9_readHand_37 ?_
      refine q_ci (q_runU (As := [.ref (q_sk X 12)]) (rest := []) E (hml.trans hl.1.symm) hI (c_X3_passWord l X σ_9 a 12 (Or.inr ha) (by decide : 12 < 22)) ku_X9_57_9 ha ⟨rfl, by decide⟩ (show vwCl[8]? = some (RX9, TX9, 12) from rfl) rfl ⟨Nat.le_of_ble_eq_true rfl, Nat.le_of_ble_eq_true rfl⟩ ⟨Nat.le_refl _, Nat.le_refl _⟩ rfl (Nat.le_of_ble_eq_true rfl) dX9_readHand_39) hI (Nat.le_of_ble_eq_true rfl) (fun r_11 σ_12 H locs hpσ_12 hkσ_12 hI => ?_)
      have ahpσ_12 := hpσ_12.1
      have bhpσ_12 := hpσ_12.2.1
      have chpσ_12 := hpσ_12.2.2
      clear hpσ_12
      have fr_σ_12 := fr_σ_9.call chpσ_12 rfl rfl
      replace hF := q_biX hF bhpσ_12
      refine q_if_eq (A := r_11.toInt) E rfl (tgt := 65) dX9_readHand_42 (by decide) (fun c_13 => ?_) (fun c_13 => ?_)
      · skip
        replace hF := q_ifp hF c_13
        refine lv_iconst (v := 0) hx hb dX9_readHand_65 zki_0 ?_
        have hrv : (0 : Int32).toInt = 0 := zt_0
        exact q_retz E hr hlk hI ⟨by decide, by decide⟩ ⟨⟨by decide, by decide⟩, (hF.trans hout), fr_σ_12⟩ dX9_readHand_66
      · skip
        replace hF := q_ifn hF c_13
        replace c_13 := q_ifOne ahpσ_12 c_13
        refine lv_aload_n hx hb dX9_readHand_45 rfl (lv_at hl 2 rfl) ?_
        refine lv_iconst (v := 0) hx hb dX9_readHand_46 zki_0 ?_
        refine lv_aload_n hx hb dX9_readHand_47 rfl (lv_at hl 2 rfl) ?_
        refine gs_X9_12_9 E hI ha dX9_readHand_48 ?_
        refine gs_X9_67_1 E hI (q_tk (k' := 1) hI ha rfl (Nat.succ_ne_zero _)) dX9_readHand_51 ?_
        refine gs_X9_71_6 E hI (q_tk (k' := 6) hI (q_tk (k' := 1) hI ha rfl (Nat.succ_ne_zero _)) rfl (Nat.succ_ne_zero _)) dX9_readHand_54 ?_
        refine lv_topi (fun f_14 ef_14 => ?_)
        replace hF := q_letX hF ef_14
        have bf_14 : -2147483648 ≤ f_14.toInt ∧ f_14.toInt ≤ 10 := by rw [ef_14]; exact q_bd hI (q_tk (k' := 6) hI (q_tk (k' := 1) hI ha rfl (Nat.succ_ne_zero _)) rfl (Nat.succ_ne_zero _)) rfl
        refine lv_iconst (v := 1) hx hb dX9_readHand_57 zki_1 ?_
        refine lv_isub hx hb dX9_readHand_58 ?_
        refine lv_topi (fun z_15 ez_15 => ?_)
        replace hF := q_letX hF ez_15
        have kc_16 : (0 : Int32).toInt = 0 := zt_0
        refine q_ci (q_runU (As := [.int 0, .int z_15]) (rest := []) E (hml.trans hl.1.symm) hI (c_X3_mustBeNumber l X σ_12 a (0 : Int32) z_15 (Or.inr ha)) ku_X9_164_9 ha ⟨rfl, by decide⟩ (show vwCl[8]? = some (RX9, TX9, 12) from rfl) rfl ⟨Nat.le_of_ble_eq_true rfl, Nat.le_of_ble_eq_true rfl⟩ ⟨Nat.le_refl _, Nat.le_refl _⟩ rfl (Nat.le_of_ble_eq_true rfl) dX9_readHand_59) hI (Nat.le_of_ble_eq_true rfl) (fun r_17 σ_18 H locs hpσ_18 hkσ_18 hI => ?_)
        have ahpσ_18 := hpσ_18.1
        have bhpσ_18 := hpσ_18.2.1
        have chpσ_18 := hpσ_18.2.2.1
        have dhpσ_18 := hpσ_18.2.2.2
        clear hpσ_18
        have fr_σ_18 := fr_σ_12.call dhpσ_18 rfl rfl
        replace hF := q_biX hF chpσ_18
        refine q_if_ne (A := r_17.toInt) E rfl (tgt := 67) dX9_readHand_62 (by decide) (fun c_19 => ?_) (fun c_19 => ?_)
        · skip
          replace hF := q_ifn hF c_19
          replace c_19 := q_ifOne ahpσ_18 c_19
          replace bhpσ_18 := bhpσ_18 c_19
          refine lv_aload_n hx hb dX9_readHand_67 rfl (lv_at hl 2 rfl) ?_
          refine gs_X9_168_9 E hI ha dX9_readHand_68 ?_
          refine lv_topi (fun f_20 ef_20 => ?_)
          replace hF := q_letX hF ef_20
          refine lv_istore_n (lv' := [(3, .int f_20), (2, .int r_8), (1, .int r_3), (0, .ref a)]) hx hb dX9_readHand_71 rfl hl (by decide) rfl (fun ls hl => ?_)
          refine lv_aload_n hx hb dX9_readHand_72 rfl (lv_at hl 3 rfl) ?_
          refine gs_X9_30_9 E hI ha dX9_readHand_73 ?_
          refine lv_iload_n hx hb dX9_readHand_76 rfl (lv_at hl 2 rfl) ?_
          refine q_ci (q_rV4_1 (rest := []) E (hml.trans hl.1.symm) hI (c_X5_get l X σ_18 (q_rf X a 11) r_3 (q_tk (k' := 5) hI ha rfl (Nat.succ_ne_zero _))) kv_X9_171 (q_tk (k' := 5) hI ha rfl (Nat.succ_ne_zero _)) ⟨Nat.le_of_ble_eq_true rfl, Nat.le_of_ble_eq_true rfl⟩ (Nat.le_of_ble_eq_true rfl) dX9_readHand_77) hI (Nat.le_of_ble_eq_true rfl) (fun r_21 σ_22 H locs hpσ_22 hkσ_22 hI => ?_)
          have ahpσ_22 := hpσ_22.1
          have bhpσ_22 := hpσ_22.2
          clear hpσ_22
          replace hI := q_Irw ahpσ_22 hI
          replace hF := q_letX hF bhpσ_22
          refine lv_iload_n hx hb dX9_readHand_80 rfl (lv_at hl 0 rfl) ?_
          refine lv_ishr hx hb dX9_readHand_81 ?_
          refine lv_topi (fun z_23 ez_23 => ?_)
          replace hF := q_letX hF ez_23
          refine lv_iconst (v := 1) hx hb dX9_readHand_82 zki_1 ?_
          refine lv_iand hx hb dX9_readHand_83 ?_
          refine lv_topi (fun z_24 ez_24 => ?_)
          replace hF := q_letX hF ez_24
          have J_92_25 : ∀ (x_25 : Int32) (H : Heap) (locs : List Loc) (ls : Array Slot), (F_X9_readHand_J92_1 X σ_18 a f_20 r_8 r_3 x_25 = out) → q_I X 8 σ s.heap locs σ_18 H → lv_has ls 5 [(0, .ref a), (1, .int r_3), (2, .int r_8), (3, .int f_20)] → W p l e (q_rm 7 150) s m ([.ref a] : List Value).toArray below meth c H locs 0 0 (MQ below (q_Qi X 8 σ (fun (r : Int32) (σ' : ST) => (0 ≤ r.toInt ∧ r.toInt ≤ 1) ∧ (r, σ') = F_X9_readHand X σ a ∧ q_ow [(4, 2), (4, 3), (4, 4), (4, 5), (4, 6), (4, 7), (9, 2), (9, 3), (9, 4), (9, 5), (9, 6), (9, 7), (20, 99)] [] X σ σ')) ([.ref a] : List Value).toArray s 0 0 (q_reg X)) (F0 m 92 ls [.int x_25]) := by
            clear hF
            intro x_25 H locs ls  hF hI hl
            unfold F_X9_readHand_J92_1 at hF
            refine lv_istore (lv' := [(4, .int x_25), (0, .ref a), (1, .int r_3), (2, .int r_8), (3, .int f_20)]) hx hb dX9_readHand_92 hl (by decide) rfl (fun ls hl => ?_)
            refine lv_iload hx hb dX9_readHand_94 (lv_at hl 0 rfl) ?_
            refine q_if_ne (A := x_25.toInt) E rfl (tgt := 128) dX9_readHand_96 (by decide) (fun c_26 => ?_) (fun c_26 => ?_)
            · skip
              replace hF := q_ifn hF c_26
              refine lv_aload_n hx hb dX9_readHand_128 rfl (lv_at hl 1 rfl) ?_
              refine lv_iconst (v := 5) hx hb dX9_readHand_129 zki_5 ?_
              have kc_27 : (5 : Int32).toInt = 5 := zt_5
              refine q_ci (q_runU (As := [.int 5]) (rest := []) E (hml.trans hl.1.symm) hI (c_X3_fails l X σ_18 a (5 : Int32) (Or.inr ha)) ku_X9_103_9 ha ⟨rfl, by decide⟩ (show vwCl[8]? = some (RX9, TX9, 12) from rfl) rfl ⟨Nat.le_of_ble_eq_true rfl, Nat.le_of_ble_eq_true rfl⟩ ⟨Nat.le_refl _, Nat.le_refl _⟩ rfl (Nat.le_of_ble_eq_true rfl) dX9_readHand_130) hI (Nat.le_of_ble_eq_true rfl) (fun r_28 σ_29 H locs hpσ_29 hkσ_29 hI => ?_)
              have ahpσ_29 := hpσ_29.1
              have bhpσ_29 := hpσ_29.2.1
              have chpσ_29 := hpσ_29.2.2.1
              have dhpσ_29 := hpσ_29.2.2.2
              clear hpσ_29
              have fr_σ_29 := fr_σ_18.call dhpσ_29 rfl rfl
              replace hF := q_biX hF chpσ_29
              exact q_retz E hr hlk hI ⟨by omega, by omega⟩ ⟨⟨by omega, by omega⟩, (hF.trans hout), fr_σ_29⟩ dX9_readHand_133
            · skip
              replace hF := q_ifp hF c_26
              refine lv_aload_n hx hb dX9_readHand_99 rfl (lv_at hl 1 rfl) ?_
              refine gs_X9_12_9 E hI ha dX9_readHand_100 ?_
              refine gs_X9_67_1 E hI (q_tk (k' := 1) hI ha rfl (Nat.succ_ne_zero _)) dX9_readHand_103 ?_
              refine gs_X9_175_6 E hI (q_tk (k' := 6) hI (q_tk (k' := 1) hI ha rfl (Nat.succ_ne_zero _)) rfl (Nat.succ_ne_zero _)) dX9_readHand_106 ?_
              refine lv_iload_n hx hb dX9_readHand_109 rfl (lv_at hl 4 rfl) ?_
              refine q_ci (q_rV4_1 (rest := []) E (hml.trans hl.1.symm) hI (c_X5_get l X σ_18 (q_rf X (q_rf X (q_rf X a 8) 0) 5) f_20 (q_tk (k' := 5) hI (q_tk (k' := 6) hI (q_tk (k' := 1) hI ha rfl (Nat.succ_ne_zero _)) rfl (Nat.succ_ne_zero _)) rfl (Nat.succ_ne_zero _))) kv_X9_171 (q_tk (k' := 5) hI (q_tk (k' := 6) hI (q_tk (k' := 1) hI ha rfl (Nat.succ_ne_zero _)) rfl (Nat.succ_ne_zero _)) rfl (Nat.succ_ne_zero _)) ⟨Nat.le_of_ble_eq_true rfl, Nat.le_of_ble_eq_true rfl⟩ (Nat.le_of_ble_eq_true rfl) dX9_readHand_110) hI (Nat.le_of_ble_eq_true rfl) (fun r_30 σ_31 H locs hpσ_31 hkσ_31 hI => ?_)
              have ahpσ_31 := hpσ_31.1
              have bhpσ_31 := hpσ_31.2
              clear hpσ_31
              replace hI := q_Irw ahpσ_31 hI
              replace hF := q_letX hF bhpσ_31
              refine lv_iload_n hx hb dX9_readHand_113 rfl (lv_at hl 3 rfl) ?_
              refine lv_iadd hx hb dX9_readHand_114 ?_
              refine lv_topi (fun z_32 ez_32 => ?_)
              replace hF := q_letX hF ez_32
              refine lv_aload_n hx hb dX9_readHand_115 rfl (lv_at hl 1 rfl) ?_
              refine gs_X9_12_9 E hI ha dX9_readHand_116 ?_
              refine gs_X9_67_1 E hI (q_tk (k' := 1) hI ha rfl (Nat.succ_ne_zero _)) dX9_readHand_119 ?_
              refine gs_X9_75_6 E hI (q_tk (k' := 6) hI (q_tk (k' := 1) hI ha rfl (Nat.succ_ne_zero _)) rfl (Nat.succ_ne_zero _)) dX9_readHand_122 ?_
              refine lv_topi (fun f_33 ef_33 => ?_)
              replace hF := q_letX hF ef_33
              refine q_icmp_le (A := z_32.toInt) (B := f_33.toInt) E rfl rfl (tgt := 134) dX9_readHand_125 (by decide) (fun c_34 => ?_) (fun c_34 => ?_)
              · skip
                replace hF := q_ifn hF (Int.not_lt.mpr c_34)
                refine lv_aload_n hx hb dX9_readHand_134 rfl (lv_at hl 1 rfl) ?_
                refine gs_X9_30_9 E hI ha dX9_readHand_135 ?_
                refine lv_iload_n hx hb dX9_readHand_138 rfl (lv_at hl 2 rfl) ?_
                refine lv_iconst (v := 1) hx hb dX9_readHand_139 zki_1 ?_
                refine lv_iload_n hx hb dX9_readHand_140 rfl (lv_at hl 4 rfl) ?_
                refine lv_ishl hx hb dX9_readHand_141 ?_
                refine lv_topi (fun z_35 ez_35 => ?_)
                replace hF := q_letX hF ez_35
                refine q_cv (q_rV4_2 (rest := []) E (hml.trans hl.1.symm) hI (c_X5_add l X σ_18 (q_rf X a 11) r_3 z_35 (q_tk (k' := 5) hI ha rfl (Nat.succ_ne_zero _))) kv_X9_178 (q_tk (k' := 5) hI ha rfl (Nat.succ_ne_zero _)) ⟨Nat.le_of_ble_eq_true rfl, Nat.le_of_ble_eq_true rfl⟩ (Nat.le_of_ble_eq_true rfl) dX9_readHand_142) hI (Nat.le_of_ble_eq_true rfl) (fun σ_37 H locs hpσ_37 hkσ_37 hI => ?_)
                have ahpσ_37 := hpσ_37.1
                have bhpσ_37 := hpσ_37.2
                clear hpσ_37
                have fr_σ_37 := fr_σ_18.call bhpσ_37 rfl rfl
                replace hF := q_letX hF ahpσ_37
                refine lv_aload_n hx hb dX9_readHand_145 rfl (lv_at hl 1 rfl) ?_
                refine gs_X9_12_9 E hI ha dX9_readHand_146 ?_
                refine gs_X9_67_1 E hI (q_tk (k' := 1) hI ha rfl (Nat.succ_ne_zero _)) dX9_readHand_149 ?_
                refine gs_X9_175_6 E hI (q_tk (k' := 6) hI (q_tk (k' := 1) hI ha rfl (Nat.succ_ne_zero _)) rfl (Nat.succ_ne_zero _)) dX9_readHand_152 ?_
                refine lv_iload_n hx hb dX9_readHand_155 rfl (lv_at hl 4 rfl) ?_
                refine lv_iload_n hx hb dX9_readHand_156 rfl (lv_at hl 3 rfl) ?_
                refine q_cv (q_rV4_2 (rest := []) E (hml.trans hl.1.symm) hI (c_X5_add l X σ_37 (q_rf X (q_rf X (q_rf X a 8) 0) 5) f_20 r_8 (q_tk (k' := 5) hI (q_tk (k' := 6) hI (q_tk (k' := 1) hI ha rfl (Nat.succ_ne_zero _)) rfl (Nat.succ_ne_zero _)) rfl (Nat.succ_ne_zero _))) kv_X9_178 (q_tk (k' := 5) hI (q_tk (k' := 6) hI (q_tk (k' := 1) hI ha rfl (Nat.succ_ne_zero _)) rfl (Nat.succ_ne_zero _)) rfl (Nat.succ_ne_zero _)) ⟨Nat.le_of_ble_eq_true rfl, Nat.le_of_ble_eq_true rfl⟩ (Nat.le_of_ble_eq_true rfl) dX9_readHand_157) hI (Nat.le_of_ble_eq_true rfl) (fun σ_39 H locs hpσ_39 hkσ_39 hI => ?_)
                have ahpσ_39 := hpσ_39.1
                have bhpσ_39 := hpσ_39.2
                clear hpσ_39
                have fr_σ_39 := fr_σ_37.call bhpσ_39 rfl rfl
                replace hF := q_letX hF ahpσ_39
                refine lv_aload_n hx hb dX9_readHand_160 rfl (lv_at hl 1 rfl) ?_
                refine gs_X9_12_9 E hI ha dX9_readHand_161 ?_
                refine gs_X9_136_1 E hI (q_tk (k' := 1) hI ha rfl (Nat.succ_ne_zero _)) dX9_readHand_164 ?_
                refine lv_iload_n hx hb dX9_readHand_167 rfl (lv_at hl 2 rfl) ?_
                refine lv_iload_n hx hb dX9_readHand_168 rfl (lv_at hl 4 rfl) ?_
                refine lv_iload_n hx hb dX9_readHand_169 rfl (lv_at hl 3 rfl) ?_
                refine q_cv (q_rV1_3 (rest := []) E (hml.trans hl.1.symm) hI (c_X1_deal l X σ_39 (q_rf X (q_rf X a 8) 1) r_3 f_20 r_8 (q_tk (k' := 2) hI (q_tk (k' := 1) hI ha rfl (Nat.succ_ne_zero _)) rfl (Nat.succ_ne_zero _))) kv_X9_181 (q_tk (k' := 2) hI (q_tk (k' := 1) hI ha rfl (Nat.succ_ne_zero _)) rfl (Nat.succ_ne_zero _)) ⟨Nat.le_of_ble_eq_true rfl, Nat.le_of_ble_eq_true rfl⟩ (Nat.le_of_ble_eq_true rfl) dX9_readHand_170) hI (Nat.le_of_ble_eq_true rfl) (fun σ_41 H locs hpσ_41 hkσ_41 hI => ?_)
                have ahpσ_41 := hpσ_41.1
                have bhpσ_41 := hpσ_41.2
                clear hpσ_41
                have fr_σ_41 := fr_σ_39.call bhpσ_41 rfl rfl
                replace hF := q_letX hF ahpσ_41
                refine lv_aload_n hx hb dX9_readHand_173 rfl (lv_at hl 1 rfl) ?_
                refine q_cv (q_runU (As := []) (rest := []) E (hml.trans hl.1.symm) hI (c_X3_advance l X σ_41 a (Or.inr ha)) ku_X9_107_9 ha ⟨rfl, by decide⟩ (show vwCl[8]? = some (RX9, TX9, 12) from rfl) rfl ⟨Nat.le_of_ble_eq_true rfl, Nat.le_of_ble_eq_true rfl⟩ ⟨Nat.le_refl _, Nat.le_refl _⟩ rfl (Nat.le_of_ble_eq_true rfl) dX9_readHand_174) hI (Nat.le_of_ble_eq_true rfl) (fun σ_43 H locs hpσ_43 hkσ_43 hI => ?_)
                have ahpσ_43 := hpσ_43.1
                have bhpσ_43 := hpσ_43.2
                clear hpσ_43
                have fr_σ_43 := fr_σ_41.call bhpσ_43 rfl rfl
                replace hF := q_letX hF ahpσ_43
                refine lv_aload_n hx hb dX9_readHand_177 rfl (lv_at hl 1 rfl) ?_
                refine q_ci (q_runU (As := []) (rest := []) E (hml.trans hl.1.symm) hI (c_X3_passSemicolon l X σ_43 a (Or.inr ha)) ku_X9_77_9 ha ⟨rfl, by decide⟩ (show vwCl[8]? = some (RX9, TX9, 12) from rfl) rfl ⟨Nat.le_of_ble_eq_true rfl, Nat.le_of_ble_eq_true rfl⟩ ⟨Nat.le_refl _, Nat.le_refl _⟩ rfl (Nat.le_of_ble_eq_true rfl) dX9_readHand_178) hI (Nat.le_of_ble_eq_true rfl) (fun r_44 σ_45 H locs hpσ_45 hkσ_45 hI => ?_)
                have ahpσ_45 := hpσ_45.1
                have bhpσ_45 := hpσ_45.2.1
                have chpσ_45 := hpσ_45.2.2
                clear hpσ_45
                have fr_σ_45 := fr_σ_43.call chpσ_45 rfl rfl
                replace hF := q_biX hF bhpσ_45
                exact q_retz E hr hlk hI ⟨by omega, by omega⟩ ⟨⟨by omega, by omega⟩, (hF.trans hout), fr_σ_45⟩ dX9_readHand_181
              · skip
                replace hF := q_ifp hF c_34
                refine lv_aload_n hx hb dX9_readHand_128 rfl (lv_at hl 1 rfl) ?_
                refine lv_iconst (v := 5) hx hb dX9_readHand_129 zki_5 ?_
                have kc_46 : (5 : Int32).toInt = 5 := zt_5
                refine q_ci (q_runU (As := [.int 5]) (rest := []) E (hml.trans hl.1.symm) hI (c_X3_fails l X σ_18 a (5 : Int32) (Or.inr ha)) ku_X9_103_9 ha ⟨rfl, by decide⟩ (show vwCl[8]? = some (RX9, TX9, 12) from rfl) rfl ⟨Nat.le_of_ble_eq_true rfl, Nat.le_of_ble_eq_true rfl⟩ ⟨Nat.le_refl _, Nat.le_refl _⟩ rfl (Nat.le_of_ble_eq_true rfl) dX9_readHand_130) hI (Nat.le_of_ble_eq_true rfl) (fun r_47 σ_48 H locs hpσ_48 hkσ_48 hI => ?_)
                have ahpσ_48 := hpσ_48.1
                have bhpσ_48 := hpσ_48.2.1
                have chpσ_48 := hpσ_48.2.2.1
                have dhpσ_48 := hpσ_48.2.2.2
                clear hpσ_48
                have fr_σ_48 := fr_σ_18.call dhpσ_48 rfl rfl
                replace hF := q_biX hF chpσ_48
                exact q_retz E hr hlk hI ⟨by omega, by omega⟩ ⟨⟨by omega, by omega⟩, (hF.trans hout), fr_σ_48⟩ dX9_readHand_133
          refine q_if_eq (A := z_24.toInt) E rfl (tgt := 91) dX9_readHand_84 (by decide) (fun c_49 => ?_) (fun c_49 => ?_)
          · skip
            replace hF := q_ifp hF c_49
            refine lv_iconst (v := 0) hx hb dX9_readHand_91 zki_0 ?_
            exact J_92_25 0 _ _ ls hF hI (lv_sub hl [3, 2, 1, 0] rfl)
          · skip
            replace hF := q_ifn hF c_49
            refine lv_iconst (v := 1) hx hb dX9_readHand_87 zki_1 ?_
            refine lv_goto (tgt := 92) hx hb dX9_readHand_88 (by decide) ?_
            exact J_92_25 1 _ _ ls hF hI (lv_sub hl [3, 2, 1, 0] rfl)
        · skip
          replace hF := q_ifp hF c_19
          clear bhpσ_18
          refine lv_iconst (v := 0) hx hb dX9_readHand_65 zki_0 ?_
          have hrv : (0 : Int32).toInt = 0 := zt_0
          exact q_retz E hr hlk hI ⟨by decide, by decide⟩ ⟨⟨by decide, by decide⟩, (hF.trans hout), fr_σ_18⟩ dX9_readHand_66
  · skip
    replace hF := q_ifp hF c_5
    refine lv_iconst (v := 0) hx hb dX9_readHand_21 zki_0 ?_
    have hrv : (0 : Int32).toInt = 0 := zt_0
    exact q_retz E hr hlk hI ⟨by decide, by decide⟩ ⟨⟨by decide, by decide⟩, (hF.trans hout), fr_σ_4⟩ dX9_readHand_22

set_option maxRecDepth 100000 in
set_option maxHeartbeats 4000000 in
theorem c_X9_readPart (l : Launch) (X : XW) (σ : ST) (a : Nat) (ha : q_kd X a = 9) : Met l yX9_readPart (q_ws yX9_readPart cX9_readPart 1 (some .boolean)) (q_rm 8 174) (q_P X σ [.ref a]) (q_Qi X 8 σ (fun (r : Int32) (σ' : ST) => (0 ≤ r.toInt ∧ r.toInt ≤ 1) ∧ (r, σ') = F_X9_readPart X σ a ∧ q_ow [(4, 2), (4, 3), (4, 4), (4, 5), (4, 6), (4, 7), (6, 2), (6, 3), (6, 4), (9, 2), (9, 3), (9, 4), (9, 5), (9, 6), (9, 7), (9, 9), (9, 10), (20, 99)] [] X σ σ')) 0 0 (q_reg X) := by
  refine q_met 8 (by first | exact rfl | decide +kernel) rfl (Nat.le_of_ble_eq_true rfl) (fun p e s m below meth c E hml hr hlk hI ls hl => ?_)
  have hx := E.1
  have hb := E.2.1
  have hl : lv_has ls 1 [(0, .ref a)] := hl
  have fr_σ : q_ow [(4, 2), (4, 3), (4, 4), (4, 5), (4, 6), (4, 7), (6, 2), (6, 3), (6, 4), (9, 2), (9, 3), (9, 4), (9, 5), (9, 6), (9, 7), (9, 9), (9, 10), (20, 99)] [] X σ σ := q_ow.rf
  obtain ⟨out, hout⟩ : ∃ o, o = F_X9_readPart X σ a := ⟨_, rfl⟩
  have hF := hout.symm
  unfold F_X9_readPart at hF
  refine lv_aload_n hx hb dX9_readPart_0 rfl (lv_at hl 0 rfl) ?_
  refine va_ldcS hx hb E.2.2.1 (kz_X9_80 E) dX9_readPart_1 ?_
  refine q_ci (q_runU (As := [.ref (q_sk X 2)]) (rest := []) E (hml.trans hl.1.symm) hI (c_X3_isWord l X σ a 2 (Or.inr ha) (by decide : 2 < 22)) ku_X9_82_9 ha ⟨rfl, by decide⟩ (show vwCl[8]? = some (RX9, TX9, 12) from rfl) rfl ⟨Nat.le_of_ble_eq_true rfl, Nat.le_of_ble_eq_true rfl⟩ ⟨Nat.le_refl _, Nat.le_refl _⟩ rfl (Nat.le_of_ble_eq_true rfl) dX9_readPart_3) hI (Nat.le_of_ble_eq_true rfl) (fun r_1 σ_2 H locs hpσ_2 hkσ_2 hI => ?_)
  have ahpσ_2 := hpσ_2.1
  have bhpσ_2 := hpσ_2.2.1
  have chpσ_2 := hpσ_2.2.2
  clear hpσ_2
  replace hI := q_Irw ahpσ_2 hI
  replace hF := q_letX hF chpσ_2
  refine q_if_eq (A := r_1.toInt) E rfl (tgt := 14) dX9_readPart_6 (by decide) (fun c_3 => ?_) (fun c_3 => ?_)
  · skip
    replace hF := q_ifp hF c_3
    refine lv_aload_n hx hb dX9_readPart_14 rfl (lv_at hl 0 rfl) ?_
    refine va_ldcS hx hb E.2.2.1 (kz_X9_88 E) dX9_readPart_15 ?_
    refine q_ci (q_runU (As := [.ref (q_sk X 6)]) (rest := []) E (hml.trans hl.1.symm) hI (c_X3_isWord l X σ a 6 (Or.inr ha) (by decide : 6 < 22)) ku_X9_82_9 ha ⟨rfl, by decide⟩ (show vwCl[8]? = some (RX9, TX9, 12) from rfl) rfl ⟨Nat.le_of_ble_eq_true rfl, Nat.le_of_ble_eq_true rfl⟩ ⟨Nat.le_refl _, Nat.le_refl _⟩ rfl (Nat.le_of_ble_eq_true rfl) dX9_readPart_17) hI (Nat.le_of_ble_eq_true rfl) (fun r_4 σ_5 H locs hpσ_5 hkσ_5 hI => ?_)
    have ahpσ_5 := hpσ_5.1
    have bhpσ_5 := hpσ_5.2.1
    have chpσ_5 := hpσ_5.2.2
    clear hpσ_5
    replace hI := q_Irw ahpσ_5 hI
    replace hF := q_letX hF chpσ_5
    refine q_if_eq (A := r_4.toInt) E rfl (tgt := 28) dX9_readPart_20 (by decide) (fun c_6 => ?_) (fun c_6 => ?_)
    · skip
      replace hF := q_ifp hF c_6
      refine lv_aload_n hx hb dX9_readPart_28 rfl (lv_at hl 0 rfl) ?_
      refine va_ldcS hx hb E.2.2.1 (kz_X9_93 E) dX9_readPart_29 ?_
      refine q_ci (q_runU (As := [.ref (q_sk X 7)]) (rest := []) E (hml.trans hl.1.symm) hI (c_X3_isWord l X σ a 7 (Or.inr ha) (by decide : 7 < 22)) ku_X9_82_9 ha ⟨rfl, by decide⟩ (show vwCl[8]? = some (RX9, TX9, 12) from rfl) rfl ⟨Nat.le_of_ble_eq_true rfl, Nat.le_of_ble_eq_true rfl⟩ ⟨Nat.le_refl _, Nat.le_refl _⟩ rfl (Nat.le_of_ble_eq_true rfl) dX9_readPart_31) hI (Nat.le_of_ble_eq_true rfl) (fun r_7 σ_8 H locs hpσ_8 hkσ_8 hI => ?_)
      have ahpσ_8 := hpσ_8.1
      have bhpσ_8 := hpσ_8.2.1
      have chpσ_8 := hpσ_8.2.2
      clear hpσ_8
      replace hI := q_Irw ahpσ_8 hI
      replace hF := q_letX hF chpσ_8
      refine q_if_eq (A := r_7.toInt) E rfl (tgt := 42) dX9_readPart_34 (by decide) (fun c_9 => ?_) (fun c_9 => ?_)
      · skip
        replace hF := q_ifp hF c_9
        refine lv_aload_n hx hb dX9_readPart_42 rfl (lv_at hl 0 rfl) ?_
        refine va_ldcS hx hb E.2.2.1 (kz_X9_98 E) dX9_readPart_43 ?_
        refine q_ci (q_runU (As := [.ref (q_sk X 11)]) (rest := []) E (hml.trans hl.1.symm) hI (c_X3_isWord l X σ a 11 (Or.inr ha) (by decide : 11 < 22)) ku_X9_82_9 ha ⟨rfl, by decide⟩ (show vwCl[8]? = some (RX9, TX9, 12) from rfl) rfl ⟨Nat.le_of_ble_eq_true rfl, Nat.le_of_ble_eq_true rfl⟩ ⟨Nat.le_refl _, Nat.le_refl _⟩ rfl (Nat.le_of_ble_eq_true rfl) dX9_readPart_45) hI (Nat.le_of_ble_eq_true rfl) (fun r_10 σ_11 H locs hpσ_11 hkσ_11 hI => ?_)
        have ahpσ_11 := hpσ_11.1
        have bhpσ_11 := hpσ_11.2.1
        have chpσ_11 := hpσ_11.2.2
        clear hpσ_11
        replace hI := q_Irw ahpσ_11 hI
        replace hF := q_letX hF chpσ_11
        refine q_if_eq (A := r_10.toInt) E rfl (tgt := 58) dX9_readPart_48 (by decide) (fun c_12 => ?_) (fun c_12 => ?_)
        · skip
          replace hF := q_ifp hF c_12
          refine lv_aload_n hx hb dX9_readPart_58 rfl (lv_at hl 0 rfl) ?_
          refine lv_iconst (v := 2) hx hb dX9_readPart_59 zki_2 ?_
          have kc_13 : (2 : Int32).toInt = 2 := zt_2
          refine q_ci (q_runU (As := [.int 2]) (rest := []) E (hml.trans hl.1.symm) hI (c_X3_fails l X σ a (2 : Int32) (Or.inr ha)) ku_X9_103_9 ha ⟨rfl, by decide⟩ (show vwCl[8]? = some (RX9, TX9, 12) from rfl) rfl ⟨Nat.le_of_ble_eq_true rfl, Nat.le_of_ble_eq_true rfl⟩ ⟨Nat.le_refl _, Nat.le_refl _⟩ rfl (Nat.le_of_ble_eq_true rfl) dX9_readPart_60) hI (Nat.le_of_ble_eq_true rfl) (fun r_14 σ_15 H locs hpσ_15 hkσ_15 hI => ?_)
          have ahpσ_15 := hpσ_15.1
          have bhpσ_15 := hpσ_15.2.1
          have chpσ_15 := hpσ_15.2.2.1
          have dhpσ_15 := hpσ_15.2.2.2
          clear hpσ_15
          have fr_σ_15 := fr_σ.call dhpσ_15 rfl rfl
          replace hF := q_biX hF chpσ_15
          exact q_retz E hr hlk hI ⟨by omega, by omega⟩ ⟨⟨by omega, by omega⟩, (hF.trans hout), fr_σ_15⟩ dX9_readPart_63
        · skip
          replace hF := q_ifn hF c_12
          replace c_12 := q_ifOne bhpσ_11 c_12
          refine lv_aload_n hx hb dX9_readPart_51 rfl (lv_at hl 0 rfl) ?_
          refine q_ci (q_rV8_0 (rest := []) E (hml.trans hl.1.symm) hI (c_X9_readHand l X σ a ha) kv_X9_100 ha ⟨Nat.le_of_ble_eq_true rfl, Nat.le_of_ble_eq_true rfl⟩ (Nat.le_of_ble_eq_true rfl) dX9_readPart_52) hI (Nat.le_of_ble_eq_true rfl) (fun r_16 σ_17 H locs hpσ_17 hkσ_17 hI => ?_)
          have ahpσ_17 := hpσ_17.1
          have bhpσ_17 := hpσ_17.2.1
          have chpσ_17 := hpσ_17.2.2
          clear hpσ_17
          have fr_σ_17 := fr_σ.call chpσ_17 rfl rfl
          replace hF := q_biX hF bhpσ_17
          refine lv_goto (tgt := 63) hx hb dX9_readPart_55 (by decide) ?_
          exact q_retz E hr hlk hI ⟨by omega, by omega⟩ ⟨⟨by omega, by omega⟩, (hF.trans hout), fr_σ_17⟩ dX9_readPart_63
      · skip
        replace hF := q_ifn hF c_9
        replace c_9 := q_ifOne bhpσ_8 c_9
        refine lv_aload_n hx hb dX9_readPart_37 rfl (lv_at hl 0 rfl) ?_
        refine q_ci (q_rV8_0 (rest := []) E (hml.trans hl.1.symm) hI (c_X9_readPlayer l X σ a ha) kv_X9_95 ha ⟨Nat.le_of_ble_eq_true rfl, Nat.le_of_ble_eq_true rfl⟩ (Nat.le_of_ble_eq_true rfl) dX9_readPart_38) hI (Nat.le_of_ble_eq_true rfl) (fun r_18 σ_19 H locs hpσ_19 hkσ_19 hI => ?_)
        have ahpσ_19 := hpσ_19.1
        have bhpσ_19 := hpσ_19.2.1
        have chpσ_19 := hpσ_19.2.2
        clear hpσ_19
        have fr_σ_19 := fr_σ.call chpσ_19 rfl rfl
        replace hF := q_biX hF bhpσ_19
        exact q_retz E hr hlk hI ⟨by omega, by omega⟩ ⟨⟨by omega, by omega⟩, (hF.trans hout), fr_σ_19⟩ dX9_readPart_41
    · skip
      replace hF := q_ifn hF c_6
      replace c_6 := q_ifOne bhpσ_5 c_6
      refine lv_aload_n hx hb dX9_readPart_23 rfl (lv_at hl 0 rfl) ?_
      refine q_ci (q_rV8_0 (rest := []) E (hml.trans hl.1.symm) hI (c_X9_readMost l X σ a ha) kv_X9_90 ha ⟨Nat.le_of_ble_eq_true rfl, Nat.le_of_ble_eq_true rfl⟩ (Nat.le_of_ble_eq_true rfl) dX9_readPart_24) hI (Nat.le_of_ble_eq_true rfl) (fun r_20 σ_21 H locs hpσ_21 hkσ_21 hI => ?_)
      have ahpσ_21 := hpσ_21.1
      have bhpσ_21 := hpσ_21.2.1
      have chpσ_21 := hpσ_21.2.2
      clear hpσ_21
      have fr_σ_21 := fr_σ.call chpσ_21 rfl rfl
      replace hF := q_biX hF bhpσ_21
      exact q_retz E hr hlk hI ⟨by omega, by omega⟩ ⟨⟨by omega, by omega⟩, (hF.trans hout), fr_σ_21⟩ dX9_readPart_27
  · skip
    replace hF := q_ifn hF c_3
    replace c_3 := q_ifOne bhpσ_2 c_3
    refine lv_aload_n hx hb dX9_readPart_9 rfl (lv_at hl 0 rfl) ?_
    refine q_ci (q_rV8_0 (rest := []) E (hml.trans hl.1.symm) hI (c_X9_readLaw l X σ a ha) kv_X9_85 ha ⟨Nat.le_of_ble_eq_true rfl, Nat.le_of_ble_eq_true rfl⟩ (Nat.le_of_ble_eq_true rfl) dX9_readPart_10) hI (Nat.le_of_ble_eq_true rfl) (fun r_22 σ_23 H locs hpσ_23 hkσ_23 hI => ?_)
    have ahpσ_23 := hpσ_23.1
    have bhpσ_23 := hpσ_23.2.1
    have chpσ_23 := hpσ_23.2.2
    clear hpσ_23
    have fr_σ_23 := fr_σ.call chpσ_23 rfl rfl
    replace hF := q_biX hF bhpσ_23
    exact q_retz E hr hlk hI ⟨by omega, by omega⟩ ⟨⟨by omega, by omega⟩, (hF.trans hout), fr_σ_23⟩ dX9_readPart_13

set_option maxRecDepth 100000 in
set_option maxHeartbeats 4000000 in
theorem c_X9_takes (l : Launch) (X : XW) (σ : ST) (a : Nat) (r1 : Nat) (v2 : Int32) (ha : q_kd X a = 9) (hr1 : q_kd X r1 = 22) : Met l yX9_takes (q_ws yX9_takes cX9_takes 4 (some .boolean)) (q_rm 9 194) (q_P X σ [.ref a, .ref r1, .int v2]) (q_Qi X 8 σ (fun (r : Int32) (σ' : ST) => (0 ≤ r.toInt ∧ r.toInt ≤ 1) ∧ (r, σ') = F_X9_takes X σ a r1 v2 ∧ q_ow [(1, 4), (1, 5), (1, 6), (1, 7), (3, 0), (3, 1), (4, 1), (4, 2), (4, 3), (4, 4), (4, 5), (4, 6), (4, 7), (6, 0), (6, 1), (6, 2), (6, 3), (6, 4), (8, 0), (8, 1), (8, 2), (9, 1), (9, 2), (9, 3), (9, 4), (9, 5), (9, 6), (9, 7), (9, 9), (9, 10), (20, 99)] [] X σ σ')) 0 0 (q_reg X) := by
  refine q_met 8 (by first | exact rfl | decide +kernel) rfl (Nat.le_of_ble_eq_true rfl) (fun p e s m below meth c E hml hr hlk hI ls hl => ?_)
  have hx := E.1
  have hb := E.2.1
  have hl : lv_has ls 4 [(0, .ref a), (1, .ref r1), (2, .int v2)] := hl
  have fr_σ : q_ow [(1, 4), (1, 5), (1, 6), (1, 7), (3, 0), (3, 1), (4, 1), (4, 2), (4, 3), (4, 4), (4, 5), (4, 6), (4, 7), (6, 0), (6, 1), (6, 2), (6, 3), (6, 4), (8, 0), (8, 1), (8, 2), (9, 1), (9, 2), (9, 3), (9, 4), (9, 5), (9, 6), (9, 7), (9, 9), (9, 10), (20, 99)] [] X σ σ := q_ow.rf
  obtain ⟨out, hout⟩ : ∃ o, o = F_X9_takes X σ a r1 v2 := ⟨_, rfl⟩
  have hF := hout.symm
  unfold F_X9_takes at hF
  refine lv_aload_n hx hb dX9_takes_0 rfl (lv_at hl 0 rfl) ?_
  refine gs_X9_12_9 E hI ha dX9_takes_1 ?_
  refine q_cv (q_rV0_0 (rest := []) E (hml.trans hl.1.symm) hI (c_X0_reset l X σ (q_rf X a 8) (q_tk (k' := 1) hI ha rfl (Nat.succ_ne_zero _))) kv_X9_34 (q_tk (k' := 1) hI ha rfl (Nat.succ_ne_zero _)) ⟨Nat.le_of_ble_eq_true rfl, Nat.le_of_ble_eq_true rfl⟩ (Nat.le_of_ble_eq_true rfl) dX9_takes_4) hI (Nat.le_of_ble_eq_true rfl) (fun σ_2 H locs hpσ_2 hkσ_2 hI => ?_)
  have ahpσ_2 := hpσ_2.1
  have bhpσ_2 := hpσ_2.2
  clear hpσ_2
  have fr_σ_2 := fr_σ.call bhpσ_2 rfl rfl
  replace hF := q_letX hF ahpσ_2
  refine lv_aload_n hx hb dX9_takes_7 rfl (lv_at hl 0 rfl) ?_
  refine lv_iconst (v := 0) hx hb dX9_takes_8 zki_0 ?_
  refine ps_X9_18_9 E hI ha (by decide) (by decide) (by decide) dX9_takes_9 (fun H locs σ_3 hσ_3 hI => ?_)
  replace hF := q_letX hF hσ_3
  have fr_σ_3 := fr_σ_2.si hσ_3 ha rfl
  refine lv_aload_n hx hb dX9_takes_12 rfl (lv_at hl 0 rfl) ?_
  refine lv_iconst (v := 0) hx hb dX9_takes_13 zki_0 ?_
  refine ps_X9_22_9 E hI ha (by decide) (by decide) (by decide) dX9_takes_14 (fun H locs σ_4 hσ_4 hI => ?_)
  replace hF := q_letX hF hσ_4
  have fr_σ_4 := fr_σ_3.si hσ_4 ha rfl
  refine lv_aload_n hx hb dX9_takes_17 rfl (lv_at hl 0 rfl) ?_
  refine gs_X9_30_9 E hI ha dX9_takes_18 ?_
  refine q_cv (q_rV4_0 (rest := []) E (hml.trans hl.1.symm) hI (c_X5_clear l X σ_4 (q_rf X a 11) (q_tk (k' := 5) hI ha rfl (Nat.succ_ne_zero _))) kv_X9_37 (q_tk (k' := 5) hI ha rfl (Nat.succ_ne_zero _)) ⟨Nat.le_of_ble_eq_true rfl, Nat.le_of_ble_eq_true rfl⟩ (Nat.le_of_ble_eq_true rfl) dX9_takes_21) hI (Nat.le_of_ble_eq_true rfl) (fun σ_6 H locs hpσ_6 hkσ_6 hI => ?_)
  have ahpσ_6 := hpσ_6.1
  have bhpσ_6 := hpσ_6.2
  clear hpσ_6
  have fr_σ_6 := fr_σ_4.call bhpσ_6 rfl rfl
  replace hF := q_letX hF ahpσ_6
  refine lv_aload_n hx hb dX9_takes_24 rfl (lv_at hl 0 rfl) ?_
  refine lv_aload_n hx hb dX9_takes_25 rfl (lv_at hl 1 rfl) ?_
  refine lv_iload_n hx hb dX9_takes_26 rfl (lv_at hl 2 rfl) ?_
  refine q_cv (q_runU (As := [.ref r1, .int v2]) (rest := []) E (hml.trans hl.1.symm) hI (c_X3_start l X σ_6 a r1 v2 (Or.inr ha) hr1) ku_X9_40_9 ha ⟨rfl, by decide⟩ (show vwCl[8]? = some (RX9, TX9, 12) from rfl) rfl ⟨Nat.le_of_ble_eq_true rfl, Nat.le_of_ble_eq_true rfl⟩ ⟨Nat.le_refl _, Nat.le_refl _⟩ rfl (Nat.le_of_ble_eq_true rfl) dX9_takes_27) hI (Nat.le_of_ble_eq_true rfl) (fun σ_8 H locs hpσ_8 hkσ_8 hI => ?_)
  have ahpσ_8 := hpσ_8.1
  have bhpσ_8 := hpσ_8.2
  clear hpσ_8
  have fr_σ_8 := fr_σ_6.call bhpσ_8 rfl rfl
  replace hF := q_letX hF ahpσ_8
  refine lv_aload_n hx hb dX9_takes_30 rfl (lv_at hl 0 rfl) ?_
  refine q_ci (q_rV8_0 (rest := []) E (hml.trans hl.1.symm) hI (c_X9_readHead l X σ_8 a ha) kv_X9_44 ha ⟨Nat.le_of_ble_eq_true rfl, Nat.le_of_ble_eq_true rfl⟩ (Nat.le_of_ble_eq_true rfl) dX9_takes_31) hI (Nat.le_of_ble_eq_true rfl) (fun r_9 σ_10 H locs hpσ_10 hkσ_10 hI => ?_)
  have ahpσ_10 := hpσ_10.1
  have bhpσ_10 := hpσ_10.2.1
  have chpσ_10 := hpσ_10.2.2
  clear hpσ_10
  have fr_σ_10 := fr_σ_8.call chpσ_10 rfl rfl
  replace hF := q_biX hF bhpσ_10
  refine q_if_ne (A := r_9.toInt) E rfl (tgt := 39) dX9_takes_34 (by decide) (fun c_11 => ?_) (fun c_11 => ?_)
  · skip
    replace hF := q_ifn hF c_11
    replace c_11 := q_ifOne ahpσ_10 c_11
    refine lv_iconst (v := 0) hx hb dX9_takes_39 zki_0 ?_
    refine lv_istore_n (lv' := [(3, .int 0), (0, .ref a), (1, .ref r1), (2, .int v2)]) hx hb dX9_takes_40 rfl hl (by decide) rfl (fun ls hl => ?_)
    have L_41_14 : ∀ (k_14 : Nat) (x_12 : Int32) (σ_13 : ST) (H : Heap) (locs : List Loc) (ls : Array Slot), (2147483647 - x_12.toInt).toNat < k_14 → (0 ≤ x_12.toInt) → (q_ow [(1, 4), (1, 5), (1, 6), (1, 7), (3, 0), (3, 1), (4, 1), (4, 2), (4, 3), (4, 4), (4, 5), (4, 6), (4, 7), (6, 0), (6, 1), (6, 2), (6, 3), (6, 4), (8, 0), (8, 1), (8, 2), (9, 1), (9, 2), (9, 3), (9, 4), (9, 5), (9, 6), (9, 7), (9, 9), (9, 10), (20, 99)] [] X σ σ_13) → (F_X9_takes_L41_1 X a k_14 x_12 σ_13 = out) → q_I X 8 σ s.heap locs σ_13 H → lv_has ls 4 [(0, .ref a), (1, .ref r1), (2, .int v2), (3, .int x_12)] → W p l e (q_rm 9 194) s m ([.ref a, .ref r1, .int v2] : List Value).toArray below meth c H locs 0 0 (MQ below (q_Qi X 8 σ (fun (r : Int32) (σ' : ST) => (0 ≤ r.toInt ∧ r.toInt ≤ 1) ∧ (r, σ') = F_X9_takes X σ a r1 v2 ∧ q_ow [(1, 4), (1, 5), (1, 6), (1, 7), (3, 0), (3, 1), (4, 1), (4, 2), (4, 3), (4, 4), (4, 5), (4, 6), (4, 7), (6, 0), (6, 1), (6, 2), (6, 3), (6, 4), (8, 0), (8, 1), (8, 2), (9, 1), (9, 2), (9, 3), (9, 4), (9, 5), (9, 6), (9, 7), (9, 9), (9, 10), (20, 99)] [] X σ σ')) ([.ref a, .ref r1, .int v2] : List Value).toArray s 0 0 (q_reg X)) (F0 m 41 ls []) := by
      clear hF
      intro k_14
      induction k_14 with
      | zero =>
        intro x_12 σ_13 H locs ls hms
        exact absurd hms (Nat.not_lt_zero _)
      | succ k_14 ih41 =>
        intro x_12 σ_13 H locs ls hm41 hge41 fr_σ_13 hF hI hl
        replace hF := (F_X9_takes_L41_1_s).symm.trans hF
        unfold F_X9_takes_B41_1 at hF
        refine lv_iload_n hx hb dX9_takes_41 rfl (lv_at hl 3 rfl) ?_
        refine lv_sipush (v := 900) hx hb dX9_takes_42 zks_900 ?_
        have gc_15_x_12 := q_rng x_12
        refine q_icmp_ge (A := x_12.toInt) (B := 900) E rfl (by decide) (tgt := 70) dX9_takes_45 (by decide) (fun c_15 => ?_) (fun c_15 => ?_)
        · skip
          replace hF := q_ifn hF (Int.not_lt.mpr c_15)
          skip
          refine lv_iconst (v := 1) hx hb dX9_takes_70 zki_1 ?_
          have hrv : (1 : Int32).toInt = 1 := zt_1
          exact q_retz E hr hlk hI ⟨by decide, by decide⟩ ⟨⟨by decide, by decide⟩, (hF.trans hout), fr_σ_13⟩ dX9_takes_71
        · skip
          replace hF := q_ifp hF c_15
          refine lv_aload_n hx hb dX9_takes_48 rfl (lv_at hl 0 rfl) ?_
          refine gs_X9_48_9 E hI ha dX9_takes_49 ?_
          refine lv_topi (fun f_16 ef_16 => ?_)
          replace hF := q_letX hF ef_16
          refine q_if_eq (A := f_16.toInt) E rfl (tgt := 70) dX9_takes_52 (by decide) (fun c_17 => ?_) (fun c_17 => ?_)
          · skip
            replace hF := q_ifp hF c_17
            skip
            refine lv_iconst (v := 1) hx hb dX9_takes_70 zki_1 ?_
            have hrv : (1 : Int32).toInt = 1 := zt_1
            exact q_retz E hr hlk hI ⟨by decide, by decide⟩ ⟨⟨by decide, by decide⟩, (hF.trans hout), fr_σ_13⟩ dX9_takes_71
          · skip
            replace hF := q_ifn hF c_17
            refine lv_aload_n hx hb dX9_takes_55 rfl (lv_at hl 0 rfl) ?_
            refine q_ci (q_rV8_0 (rest := []) E (hml.trans hl.1.symm) hI (c_X9_readPart l X σ_13 a ha) kv_X9_52 ha ⟨Nat.le_of_ble_eq_true rfl, Nat.le_of_ble_eq_true rfl⟩ (Nat.le_of_ble_eq_true rfl) dX9_takes_56) hI (Nat.le_of_ble_eq_true rfl) (fun r_18 σ_19 H locs hpσ_19 hkσ_19 hI => ?_)
            have ahpσ_19 := hpσ_19.1
            have bhpσ_19 := hpσ_19.2.1
            have chpσ_19 := hpσ_19.2.2
            clear hpσ_19
            have fr_σ_19 := fr_σ_13.call chpσ_19 rfl rfl
            replace hF := q_biX hF bhpσ_19
            refine q_if_ne (A := r_18.toInt) E rfl (tgt := 64) dX9_takes_59 (by decide) (fun c_20 => ?_) (fun c_20 => ?_)
            · skip
              replace hF := q_ifn hF c_20
              replace c_20 := q_ifOne ahpσ_19 c_20
              obtain ⟨z_21, ez_21⟩ : ∃ y : Int32, y = x_12 + 1 := ⟨_, rfl⟩
              replace hF := q_letX hF ez_21
              refine lv_iinc (v := z_21) (lv' := [(3, .int z_21), (0, .ref a), (1, .ref r1), (2, .int v2)]) hx hb dX9_takes_64 hl (k := 3) rfl (by rw [ez_21]; rfl) (by decide) rfl (fun ls hl => ?_)
              have iz_21 : z_21.toInt = x_12.toInt + 1 := q_inc ez_21 (by first | (clear ahpσ_2 bhpσ_2 ahpσ_6 bhpσ_6 ahpσ_8 bhpσ_8 ahpσ_10 bhpσ_10 chpσ_10 c_11 hm41 c_17 ahpσ_19 bhpσ_19 chpσ_19 c_20; omega) | omega)
              refine lv_goto (tgt := 41) hx hb dX9_takes_67 (by decide) ?_
              exact ih41 z_21 σ_19 _ _ ls (by first | (clear ahpσ_2 bhpσ_2 ahpσ_6 bhpσ_6 ahpσ_8 bhpσ_8 ahpσ_10 bhpσ_10 chpσ_10 c_11 ahpσ_19 bhpσ_19 chpσ_19 c_20; omega) | omega) (by first | (clear ahpσ_2 bhpσ_2 ahpσ_6 bhpσ_6 ahpσ_8 bhpσ_8 ahpσ_10 bhpσ_10 chpσ_10 c_11 hm41 c_17 ahpσ_19 bhpσ_19 chpσ_19 c_20; omega) | omega) fr_σ_19 hF hI (lv_sub hl [1, 2, 3, 0] rfl)
            · skip
              replace hF := q_ifp hF c_20
              skip
              refine lv_iconst (v := 0) hx hb dX9_takes_62 zki_0 ?_
              have hrv : (0 : Int32).toInt = 0 := zt_0
              exact q_retz E hr hlk hI ⟨by decide, by decide⟩ ⟨⟨by decide, by decide⟩, (hF.trans hout), fr_σ_19⟩ dX9_takes_63
    exact L_41_14 ((2147483647 - (0 : Int32).toInt).toNat + 1) 0 σ_10 _ _ ls (Nat.lt_succ_self _) (by decide) fr_σ_10 hF hI (lv_sub hl [1, 2, 3, 0] rfl)
  · skip
    replace hF := q_ifp hF c_11
    refine lv_iconst (v := 0) hx hb dX9_takes_37 zki_0 ?_
    have hrv : (0 : Int32).toInt = 0 := zt_0
    exact q_retz E hr hlk hI ⟨by decide, by decide⟩ ⟨⟨by decide, by decide⟩, (hF.trans hout), fr_σ_10⟩ dX9_takes_38

set_option maxRecDepth 100000 in
set_option maxHeartbeats 4000000 in
theorem c_X4_readEnd (l : Launch) (X : XW) (σ : ST) (a : Nat) (ha : q_kd X a = 4) : Met l yX4_readEnd (q_ws yX4_readEnd cX4_readEnd 3 (some .boolean)) (q_rm 3 65) (q_P X σ [.ref a]) (q_Qi X 8 σ (fun (r : Int32) (σ' : ST) => (0 ≤ r.toInt ∧ r.toInt ≤ 1) ∧ (r, σ') = F_X4_readEnd X σ a ∧ q_ow [(4, 2), (4, 3), (4, 4), (4, 5), (4, 6), (4, 7), (4, 10), (8, 2), (9, 2), (9, 3), (9, 4), (9, 5), (9, 6), (9, 7), (20, 99)] [] X σ σ')) 0 0 (q_reg X) := by
  refine q_met 8 (by first | exact rfl | decide +kernel) rfl (Nat.le_of_ble_eq_true rfl) (fun p e s m below meth c E hml hr hlk hI ls hl => ?_)
  have hx := E.1
  have hb := E.2.1
  have hl : lv_has ls 3 [(0, .ref a)] := hl
  have fr_σ : q_ow [(4, 2), (4, 3), (4, 4), (4, 5), (4, 6), (4, 7), (4, 10), (8, 2), (9, 2), (9, 3), (9, 4), (9, 5), (9, 6), (9, 7), (20, 99)] [] X σ σ := q_ow.rf
  obtain ⟨out, hout⟩ : ∃ o, o = F_X4_readEnd X σ a := ⟨_, rfl⟩
  have hF := hout.symm
  unfold F_X4_readEnd at hF
  refine lv_aload_n hx hb dX4_readEnd_0 rfl (lv_at hl 0 rfl) ?_
  refine gs_X4_27_4 E hI ha dX4_readEnd_1 ?_
  refine lv_topi (fun f_1 ef_1 => ?_)
  replace hF := q_letX hF ef_1
  refine q_if_ne (A := f_1.toInt) E rfl (tgt := 13) dX4_readEnd_4 (by decide) (fun c_2 => ?_) (fun c_2 => ?_)
  · skip
    replace hF := q_ifn hF c_2
    refine lv_aload_n hx hb dX4_readEnd_13 rfl (lv_at hl 0 rfl) ?_
    refine lv_dup hx hb dX4_readEnd_14 rfl ?_
    refine gs_X4_27_4 E hI ha dX4_readEnd_15 ?_
    refine lv_topi (fun f_3 ef_3 => ?_)
    replace hF := q_letX hF ef_3
    refine lv_iconst (v := 1) hx hb dX4_readEnd_18 zki_1 ?_
    refine lv_isub hx hb dX4_readEnd_19 ?_
    refine lv_topi (fun z_4 ez_4 => ?_)
    replace hF := q_letX hF ez_4
    refine ps_X4_27_4 E hI ha (by decide) dX4_readEnd_20 (fun H locs σ_5 hσ_5 hI => ?_)
    replace hF := q_letX hF hσ_5
    have fr_σ_5 := fr_σ.si hσ_5 ha rfl
    refine lv_aload_n hx hb dX4_readEnd_23 rfl (lv_at hl 0 rfl) ?_
    refine gs_X4_23_4 E hI ha dX4_readEnd_24 ?_
    refine lv_aload_n hx hb dX4_readEnd_27 rfl (lv_at hl 0 rfl) ?_
    refine gs_X4_27_4 E hI ha dX4_readEnd_28 ?_
    refine lv_topi (fun f_6 ef_6 => ?_)
    replace hF := q_letX hF ef_6
    refine q_ci (q_rV4_1 (rest := []) E (hml.trans hl.1.symm) hI (c_X5_get l X σ_5 (q_rf X a 9) f_6 (q_tk (k' := 5) hI ha rfl (Nat.succ_ne_zero _))) kv_X4_63 (q_tk (k' := 5) hI ha rfl (Nat.succ_ne_zero _)) ⟨Nat.le_of_ble_eq_true rfl, Nat.le_of_ble_eq_true rfl⟩ (Nat.le_of_ble_eq_true rfl) dX4_readEnd_31) hI (Nat.le_of_ble_eq_true rfl) (fun r_7 σ_8 H locs hpσ_8 hkσ_8 hI => ?_)
    have ahpσ_8 := hpσ_8.1
    have bhpσ_8 := hpσ_8.2
    clear hpσ_8
    replace hI := q_Irw ahpσ_8 hI
    replace hF := q_letX hF bhpσ_8
    refine lv_istore_n (lv' := [(1, .int r_7), (0, .ref a)]) hx hb dX4_readEnd_34 rfl hl (by decide) rfl (fun ls hl => ?_)
    refine lv_aload_n hx hb dX4_readEnd_35 rfl (lv_at hl 1 rfl) ?_
    refine gs_X4_12_4 E hI ha dX4_readEnd_36 ?_
    refine lv_bipush (v := 9) hx hb dX4_readEnd_39 zkb_9 ?_
    have kc_9 : (9 : Int32).toInt = 9 := zt_9
    refine q_ci (q_rV7_1 (rest := []) E (hml.trans hl.1.symm) hI (c_X8_add l X σ_5 (q_rf X a 8) (9 : Int32) (q_tk (k' := 8) hI ha rfl (Nat.succ_ne_zero _))) kv_X4_67 (q_tk (k' := 8) hI ha rfl (Nat.succ_ne_zero _)) ⟨Nat.le_of_ble_eq_true rfl, Nat.le_of_ble_eq_true rfl⟩ (Nat.le_of_ble_eq_true rfl) dX4_readEnd_41) hI (Nat.le_of_ble_eq_true rfl) (fun r_10 σ_11 H locs hpσ_11 hkσ_11 hI => ?_)
    have ahpσ_11 := hpσ_11.1
    have bhpσ_11 := hpσ_11.2
    clear hpσ_11
    have fr_σ_11 := fr_σ_5.call bhpσ_11 rfl rfl
    replace hF := q_biX hF ahpσ_11
    refine lv_istore_n (lv' := [(2, .int r_10), (1, .int r_7), (0, .ref a)]) hx hb dX4_readEnd_44 rfl hl (by decide) rfl (fun ls hl => ?_)
    refine lv_aload_n hx hb dX4_readEnd_45 rfl (lv_at hl 2 rfl) ?_
    refine gs_X4_12_4 E hI ha dX4_readEnd_46 ?_
    refine gs_X4_70_8 E hI (q_tk (k' := 8) hI ha rfl (Nat.succ_ne_zero _)) dX4_readEnd_49 ?_
    refine lv_iload_n hx hb dX4_readEnd_52 rfl (lv_at hl 0 rfl) ?_
    refine lv_iload_n hx hb dX4_readEnd_53 rfl (lv_at hl 1 rfl) ?_
    refine q_cv (q_rV4_2 (rest := []) E (hml.trans hl.1.symm) hI (c_X5_set l X σ_11 (q_rf X (q_rf X a 8) 4) r_10 r_7 (q_tk (k' := 5) hI (q_tk (k' := 8) hI ha rfl (Nat.succ_ne_zero _)) rfl (Nat.succ_ne_zero _))) kv_X4_73 (q_tk (k' := 5) hI (q_tk (k' := 8) hI ha rfl (Nat.succ_ne_zero _)) rfl (Nat.succ_ne_zero _)) ⟨Nat.le_of_ble_eq_true rfl, Nat.le_of_ble_eq_true rfl⟩ (Nat.le_of_ble_eq_true rfl) dX4_readEnd_54) hI (Nat.le_of_ble_eq_true rfl) (fun σ_13 H locs hpσ_13 hkσ_13 hI => ?_)
    have ahpσ_13 := hpσ_13.1
    have bhpσ_13 := hpσ_13.2
    clear hpσ_13
    have fr_σ_13 := fr_σ_11.call bhpσ_13 rfl rfl
    replace hF := q_letX hF ahpσ_13
    refine lv_aload_n hx hb dX4_readEnd_57 rfl (lv_at hl 2 rfl) ?_
    refine gs_X4_12_4 E hI ha dX4_readEnd_58 ?_
    refine gs_X4_70_8 E hI (q_tk (k' := 8) hI ha rfl (Nat.succ_ne_zero _)) dX4_readEnd_61 ?_
    refine lv_iload_n hx hb dX4_readEnd_64 rfl (lv_at hl 1 rfl) ?_
    refine lv_iload_n hx hb dX4_readEnd_65 rfl (lv_at hl 0 rfl) ?_
    refine q_cv (q_rV4_2 (rest := []) E (hml.trans hl.1.symm) hI (c_X5_set l X σ_13 (q_rf X (q_rf X a 8) 4) r_7 r_10 (q_tk (k' := 5) hI (q_tk (k' := 8) hI ha rfl (Nat.succ_ne_zero _)) rfl (Nat.succ_ne_zero _))) kv_X4_73 (q_tk (k' := 5) hI (q_tk (k' := 8) hI ha rfl (Nat.succ_ne_zero _)) rfl (Nat.succ_ne_zero _)) ⟨Nat.le_of_ble_eq_true rfl, Nat.le_of_ble_eq_true rfl⟩ (Nat.le_of_ble_eq_true rfl) dX4_readEnd_66) hI (Nat.le_of_ble_eq_true rfl) (fun σ_15 H locs hpσ_15 hkσ_15 hI => ?_)
    have ahpσ_15 := hpσ_15.1
    have bhpσ_15 := hpσ_15.2
    clear hpσ_15
    have fr_σ_15 := fr_σ_13.call bhpσ_15 rfl rfl
    replace hF := q_letX hF ahpσ_15
    refine lv_aload_n hx hb dX4_readEnd_69 rfl (lv_at hl 2 rfl) ?_
    refine q_cv (q_runU (As := []) (rest := []) E (hml.trans hl.1.symm) hI (c_X3_advance l X σ_15 a (Or.inl ha)) ku_X4_77_4 ha ⟨rfl, by decide⟩ (show vwCl[3]? = some (RX4, TX4, 11) from rfl) rfl ⟨Nat.le_of_ble_eq_true rfl, Nat.le_of_ble_eq_true rfl⟩ ⟨Nat.le_refl _, Nat.le_refl _⟩ rfl (Nat.le_of_ble_eq_true rfl) dX4_readEnd_70) hI (Nat.le_of_ble_eq_true rfl) (fun σ_17 H locs hpσ_17 hkσ_17 hI => ?_)
    have ahpσ_17 := hpσ_17.1
    have bhpσ_17 := hpσ_17.2
    clear hpσ_17
    have fr_σ_17 := fr_σ_15.call bhpσ_17 rfl rfl
    replace hF := q_letX hF ahpσ_17
    refine lv_aload_n hx hb dX4_readEnd_73 rfl (lv_at hl 2 rfl) ?_
    refine q_ci (q_runU (As := []) (rest := []) E (hml.trans hl.1.symm) hI (c_X3_passSemicolon l X σ_17 a (Or.inl ha)) ku_X4_80_4 ha ⟨rfl, by decide⟩ (show vwCl[3]? = some (RX4, TX4, 11) from rfl) rfl ⟨Nat.le_of_ble_eq_true rfl, Nat.le_of_ble_eq_true rfl⟩ ⟨Nat.le_refl _, Nat.le_refl _⟩ rfl (Nat.le_of_ble_eq_true rfl) dX4_readEnd_74) hI (Nat.le_of_ble_eq_true rfl) (fun r_18 σ_19 H locs hpσ_19 hkσ_19 hI => ?_)
    have ahpσ_19 := hpσ_19.1
    have bhpσ_19 := hpσ_19.2.1
    have chpσ_19 := hpσ_19.2.2
    clear hpσ_19
    have fr_σ_19 := fr_σ_17.call chpσ_19 rfl rfl
    replace hF := q_biX hF bhpσ_19
    exact q_retz E hr hlk hI ⟨by omega, by omega⟩ ⟨⟨by omega, by omega⟩, (hF.trans hout), fr_σ_19⟩ dX4_readEnd_77
  · skip
    replace hF := q_ifp hF c_2
    refine lv_aload_n hx hb dX4_readEnd_7 rfl (lv_at hl 0 rfl) ?_
    refine lv_iconst (v := 2) hx hb dX4_readEnd_8 zki_2 ?_
    have kc_20 : (2 : Int32).toInt = 2 := zt_2
    refine q_ci (q_runU (As := [.int 2]) (rest := []) E (hml.trans hl.1.symm) hI (c_X3_fails l X σ a (2 : Int32) (Or.inl ha)) ku_X4_59_4 ha ⟨rfl, by decide⟩ (show vwCl[3]? = some (RX4, TX4, 11) from rfl) rfl ⟨Nat.le_of_ble_eq_true rfl, Nat.le_of_ble_eq_true rfl⟩ ⟨Nat.le_refl _, Nat.le_refl _⟩ rfl (Nat.le_of_ble_eq_true rfl) dX4_readEnd_9) hI (Nat.le_of_ble_eq_true rfl) (fun r_21 σ_22 H locs hpσ_22 hkσ_22 hI => ?_)
    have ahpσ_22 := hpσ_22.1
    have bhpσ_22 := hpσ_22.2.1
    have chpσ_22 := hpσ_22.2.2.1
    have dhpσ_22 := hpσ_22.2.2.2
    clear hpσ_22
    have fr_σ_22 := fr_σ.call dhpσ_22 rfl rfl
    replace hF := q_biX hF chpσ_22
    exact q_retz E hr hlk hI ⟨by omega, by omega⟩ ⟨⟨by omega, by omega⟩, (hF.trans hout), fr_σ_22⟩ dX4_readEnd_12

set_option maxRecDepth 100000 in
set_option maxHeartbeats 4000000 in
theorem c_X4_actionHere (l : Launch) (X : XW) (σ : ST) (a : Nat) (ha : q_kd X a = 4) : Met l yX4_actionHere (q_ws yX4_actionHere cX4_actionHere 1 (some .int)) (q_rm 5 107) (q_P X σ [.ref a]) (q_Qi X 9 σ (fun (r : Int32) (σ' : ST) => σ' = σ ∧ r = F_X4_actionHere X σ a)) 0 0 (q_reg X) := by
  refine q_met 9 (by first | exact rfl | decide +kernel) rfl (Nat.le_of_ble_eq_true rfl) (fun p e s m below meth c E hml hr hlk hI ls hl => ?_)
  have hx := E.1
  have hb := E.2.1
  have hl : lv_has ls 1 [(0, .ref a)] := hl
  obtain ⟨out, hout⟩ : ∃ o, o = F_X4_actionHere X σ a := ⟨_, rfl⟩
  have hF := hout.symm
  unfold F_X4_actionHere at hF
  refine lv_aload_n hx hb dX4_actionHere_0 rfl (lv_at hl 0 rfl) ?_
  refine va_ldcS hx hb E.2.2.1 (kz_X4_100 E) dX4_actionHere_1 ?_
  refine q_ci (q_runU (As := [.ref (q_sk X 14)]) (rest := []) E (hml.trans hl.1.symm) hI (c_X3_isWord l X σ a 14 (Or.inl ha) (by decide : 14 < 22)) ku_X4_43_4 ha ⟨rfl, by decide⟩ (show vwCl[3]? = some (RX4, TX4, 11) from rfl) rfl ⟨Nat.le_of_ble_eq_true rfl, Nat.le_of_ble_eq_true rfl⟩ ⟨Nat.le_refl _, Nat.le_refl _⟩ rfl (Nat.le_of_ble_eq_true rfl) dX4_actionHere_3) hI (Nat.le_of_ble_eq_true rfl) (fun r_1 σ_2 H locs hpσ_2 hkσ_2 hI => ?_)
  have ahpσ_2 := hpσ_2.1
  have bhpσ_2 := hpσ_2.2.1
  have chpσ_2 := hpσ_2.2.2
  clear hpσ_2
  replace hI := q_Irw ahpσ_2 hI
  replace hF := q_letX hF chpσ_2
  refine q_if_eq (A := r_1.toInt) E rfl (tgt := 11) dX4_actionHere_6 (by decide) (fun c_3 => ?_) (fun c_3 => ?_)
  · skip
    replace hF := q_ifp hF c_3
    refine lv_aload_n hx hb dX4_actionHere_11 rfl (lv_at hl 0 rfl) ?_
    refine va_ldcS hx hb E.2.2.1 (kz_X4_102 E) dX4_actionHere_12 ?_
    refine q_ci (q_runU (As := [.ref (q_sk X 9)]) (rest := []) E (hml.trans hl.1.symm) hI (c_X3_isWord l X σ a 9 (Or.inl ha) (by decide : 9 < 22)) ku_X4_43_4 ha ⟨rfl, by decide⟩ (show vwCl[3]? = some (RX4, TX4, 11) from rfl) rfl ⟨Nat.le_of_ble_eq_true rfl, Nat.le_of_ble_eq_true rfl⟩ ⟨Nat.le_refl _, Nat.le_refl _⟩ rfl (Nat.le_of_ble_eq_true rfl) dX4_actionHere_14) hI (Nat.le_of_ble_eq_true rfl) (fun r_4 σ_5 H locs hpσ_5 hkσ_5 hI => ?_)
    have ahpσ_5 := hpσ_5.1
    have bhpσ_5 := hpσ_5.2.1
    have chpσ_5 := hpσ_5.2.2
    clear hpσ_5
    replace hI := q_Irw ahpσ_5 hI
    replace hF := q_letX hF chpσ_5
    refine q_if_eq (A := r_4.toInt) E rfl (tgt := 22) dX4_actionHere_17 (by decide) (fun c_6 => ?_) (fun c_6 => ?_)
    · skip
      replace hF := q_ifp hF c_6
      refine lv_aload_n hx hb dX4_actionHere_22 rfl (lv_at hl 0 rfl) ?_
      refine va_ldcS hx hb E.2.2.1 (kz_X4_104 E) dX4_actionHere_23 ?_
      refine q_ci (q_runU (As := [.ref (q_sk X 10)]) (rest := []) E (hml.trans hl.1.symm) hI (c_X3_isWord l X σ a 10 (Or.inl ha) (by decide : 10 < 22)) ku_X4_43_4 ha ⟨rfl, by decide⟩ (show vwCl[3]? = some (RX4, TX4, 11) from rfl) rfl ⟨Nat.le_of_ble_eq_true rfl, Nat.le_of_ble_eq_true rfl⟩ ⟨Nat.le_refl _, Nat.le_refl _⟩ rfl (Nat.le_of_ble_eq_true rfl) dX4_actionHere_25) hI (Nat.le_of_ble_eq_true rfl) (fun r_7 σ_8 H locs hpσ_8 hkσ_8 hI => ?_)
      have ahpσ_8 := hpσ_8.1
      have bhpσ_8 := hpσ_8.2.1
      have chpσ_8 := hpσ_8.2.2
      clear hpσ_8
      replace hI := q_Irw ahpσ_8 hI
      replace hF := q_letX hF chpσ_8
      refine q_if_eq (A := r_7.toInt) E rfl (tgt := 33) dX4_actionHere_28 (by decide) (fun c_9 => ?_) (fun c_9 => ?_)
      · skip
        replace hF := q_ifp hF c_9
        refine lv_aload_n hx hb dX4_actionHere_33 rfl (lv_at hl 0 rfl) ?_
        refine va_ldcS hx hb E.2.2.1 (kz_X4_106 E) dX4_actionHere_34 ?_
        refine q_ci (q_runU (As := [.ref (q_sk X 15)]) (rest := []) E (hml.trans hl.1.symm) hI (c_X3_isWord l X σ a 15 (Or.inl ha) (by decide : 15 < 22)) ku_X4_43_4 ha ⟨rfl, by decide⟩ (show vwCl[3]? = some (RX4, TX4, 11) from rfl) rfl ⟨Nat.le_of_ble_eq_true rfl, Nat.le_of_ble_eq_true rfl⟩ ⟨Nat.le_refl _, Nat.le_refl _⟩ rfl (Nat.le_of_ble_eq_true rfl) dX4_actionHere_36) hI (Nat.le_of_ble_eq_true rfl) (fun r_10 σ_11 H locs hpσ_11 hkσ_11 hI => ?_)
        have ahpσ_11 := hpσ_11.1
        have bhpσ_11 := hpσ_11.2.1
        have chpσ_11 := hpσ_11.2.2
        clear hpσ_11
        replace hI := q_Irw ahpσ_11 hI
        replace hF := q_letX hF chpσ_11
        refine q_if_eq (A := r_10.toInt) E rfl (tgt := 44) dX4_actionHere_39 (by decide) (fun c_12 => ?_) (fun c_12 => ?_)
        · skip
          replace hF := q_ifp hF c_12
          refine lv_aload_n hx hb dX4_actionHere_44 rfl (lv_at hl 0 rfl) ?_
          refine va_ldcS hx hb E.2.2.1 (kz_X4_108 E) dX4_actionHere_45 ?_
          refine q_ci (q_runU (As := [.ref (q_sk X 16)]) (rest := []) E (hml.trans hl.1.symm) hI (c_X3_isWord l X σ a 16 (Or.inl ha) (by decide : 16 < 22)) ku_X4_43_4 ha ⟨rfl, by decide⟩ (show vwCl[3]? = some (RX4, TX4, 11) from rfl) rfl ⟨Nat.le_of_ble_eq_true rfl, Nat.le_of_ble_eq_true rfl⟩ ⟨Nat.le_refl _, Nat.le_refl _⟩ rfl (Nat.le_of_ble_eq_true rfl) dX4_actionHere_47) hI (Nat.le_of_ble_eq_true rfl) (fun r_13 σ_14 H locs hpσ_14 hkσ_14 hI => ?_)
          have ahpσ_14 := hpσ_14.1
          have bhpσ_14 := hpσ_14.2.1
          have chpσ_14 := hpσ_14.2.2
          clear hpσ_14
          replace hI := q_Irw ahpσ_14 hI
          replace hF := q_letX hF chpσ_14
          refine q_if_eq (A := r_13.toInt) E rfl (tgt := 55) dX4_actionHere_50 (by decide) (fun c_15 => ?_) (fun c_15 => ?_)
          · skip
            replace hF := q_ifp hF c_15
            refine lv_aload_n hx hb dX4_actionHere_55 rfl (lv_at hl 0 rfl) ?_
            refine va_ldcS hx hb E.2.2.1 (kz_X4_110 E) dX4_actionHere_56 ?_
            refine q_ci (q_runU (As := [.ref (q_sk X 17)]) (rest := []) E (hml.trans hl.1.symm) hI (c_X3_isWord l X σ a 17 (Or.inl ha) (by decide : 17 < 22)) ku_X4_43_4 ha ⟨rfl, by decide⟩ (show vwCl[3]? = some (RX4, TX4, 11) from rfl) rfl ⟨Nat.le_of_ble_eq_true rfl, Nat.le_of_ble_eq_true rfl⟩ ⟨Nat.le_refl _, Nat.le_refl _⟩ rfl (Nat.le_of_ble_eq_true rfl) dX4_actionHere_58) hI (Nat.le_of_ble_eq_true rfl) (fun r_16 σ_17 H locs hpσ_17 hkσ_17 hI => ?_)
            have ahpσ_17 := hpσ_17.1
            have bhpσ_17 := hpσ_17.2.1
            have chpσ_17 := hpσ_17.2.2
            clear hpσ_17
            replace hI := q_Irw ahpσ_17 hI
            replace hF := q_letX hF chpσ_17
            refine q_if_eq (A := r_16.toInt) E rfl (tgt := 69) dX4_actionHere_61 (by decide) (fun c_18 => ?_) (fun c_18 => ?_)
            · skip
              replace hF := q_ifp hF c_18
              refine lv_iconst (v := (-1)) hx hb dX4_actionHere_69 zki_m1 ?_
              exact q_reti E hr hlk hI ⟨rfl, (hF.trans hout)⟩ dX4_actionHere_70
            · skip
              replace hF := q_ifn hF c_18
              replace c_18 := q_ifOne bhpσ_17 c_18
              refine lv_bipush (v := 8) hx hb dX4_actionHere_64 zkb_8 ?_
              refine lv_goto (tgt := 70) hx hb dX4_actionHere_66 (by decide) ?_
              exact q_reti E hr hlk hI ⟨rfl, (hF.trans hout)⟩ dX4_actionHere_70
          · skip
            replace hF := q_ifn hF c_15
            replace c_15 := q_ifOne bhpσ_14 c_15
            refine lv_iconst (v := 4) hx hb dX4_actionHere_53 zki_4 ?_
            exact q_reti E hr hlk hI ⟨rfl, (hF.trans hout)⟩ dX4_actionHere_54
        · skip
          replace hF := q_ifn hF c_12
          replace c_12 := q_ifOne bhpσ_11 c_12
          refine lv_iconst (v := 3) hx hb dX4_actionHere_42 zki_3 ?_
          exact q_reti E hr hlk hI ⟨rfl, (hF.trans hout)⟩ dX4_actionHere_43
      · skip
        replace hF := q_ifn hF c_9
        replace c_9 := q_ifOne bhpσ_8 c_9
        refine lv_iconst (v := 2) hx hb dX4_actionHere_31 zki_2 ?_
        exact q_reti E hr hlk hI ⟨rfl, (hF.trans hout)⟩ dX4_actionHere_32
    · skip
      replace hF := q_ifn hF c_6
      replace c_6 := q_ifOne bhpσ_5 c_6
      refine lv_iconst (v := 1) hx hb dX4_actionHere_20 zki_1 ?_
      exact q_reti E hr hlk hI ⟨rfl, (hF.trans hout)⟩ dX4_actionHere_21
  · skip
    replace hF := q_ifn hF c_3
    replace c_3 := q_ifOne bhpσ_2 c_3
    refine lv_iconst (v := 0) hx hb dX4_actionHere_9 zki_0 ?_
    exact q_reti E hr hlk hI ⟨rfl, (hF.trans hout)⟩ dX4_actionHere_10

set_option maxRecDepth 100000 in
set_option maxHeartbeats 4000000 in
theorem c_X4_readTest (l : Launch) (X : XW) (σ : ST) (a : Nat) (v1 : Int32) (ha : q_kd X a = 4) : Met l yX4_readTest (q_ws yX4_readTest cX4_readTest 2 (some .boolean)) (q_rm 5 107) (q_P X σ [.ref a, .int v1]) (q_Qi X 8 σ (fun (r : Int32) (σ' : ST) => (0 ≤ r.toInt ∧ r.toInt ≤ 1) ∧ (r, σ') = F_X4_readTest X σ a v1 ∧ q_ow [(4, 2), (4, 3), (4, 4), (4, 5), (4, 6), (4, 7), (9, 2), (9, 3), (9, 4), (9, 5), (9, 6), (9, 7), (20, 99)] [] X σ σ')) 0 0 (q_reg X) := by
  refine q_met 8 (by first | exact rfl | decide +kernel) rfl (Nat.le_of_ble_eq_true rfl) (fun p e s m below meth c E hml hr hlk hI ls hl => ?_)
  have hx := E.1
  have hb := E.2.1
  have hl : lv_has ls 2 [(0, .ref a), (1, .int v1)] := hl
  have fr_σ : q_ow [(4, 2), (4, 3), (4, 4), (4, 5), (4, 6), (4, 7), (9, 2), (9, 3), (9, 4), (9, 5), (9, 6), (9, 7), (20, 99)] [] X σ σ := q_ow.rf
  obtain ⟨out, hout⟩ : ∃ o, o = F_X4_readTest X σ a v1 := ⟨_, rfl⟩
  have hF := hout.symm
  unfold F_X4_readTest at hF
  refine lv_aload_n hx hb dX4_readTest_0 rfl (lv_at hl 0 rfl) ?_
  refine va_ldcS hx hb E.2.2.1 (kz_X4_112 E) dX4_readTest_1 ?_
  refine q_ci (q_runU (As := [.ref (q_sk X 18)]) (rest := []) E (hml.trans hl.1.symm) hI (c_X3_isWord l X σ a 18 (Or.inl ha) (by decide : 18 < 22)) ku_X4_43_4 ha ⟨rfl, by decide⟩ (show vwCl[3]? = some (RX4, TX4, 11) from rfl) rfl ⟨Nat.le_of_ble_eq_true rfl, Nat.le_of_ble_eq_true rfl⟩ ⟨Nat.le_refl _, Nat.le_refl _⟩ rfl (Nat.le_of_ble_eq_true rfl) dX4_readTest_3) hI (Nat.le_of_ble_eq_true rfl) (fun r_1 σ_2 H locs hpσ_2 hkσ_2 hI => ?_)
  have ahpσ_2 := hpσ_2.1
  have bhpσ_2 := hpσ_2.2.1
  have chpσ_2 := hpσ_2.2.2
  clear hpσ_2
  replace hI := q_Irw ahpσ_2 hI
  replace hF := q_letX hF chpσ_2
  refine q_if_eq (A := r_1.toInt) E rfl (tgt := 24) dX4_readTest_6 (by decide) (fun c_3 => ?_) (fun c_3 => ?_)
  · skip
    replace hF := q_ifp hF c_3
    refine lv_aload_n hx hb dX4_readTest_24 rfl (lv_at hl 0 rfl) ?_
    refine va_ldcS hx hb E.2.2.1 (kz_X4_117 E) dX4_readTest_25 ?_
    refine q_ci (q_runU (As := [.ref (q_sk X 19)]) (rest := []) E (hml.trans hl.1.symm) hI (c_X3_isWord l X σ a 19 (Or.inl ha) (by decide : 19 < 22)) ku_X4_43_4 ha ⟨rfl, by decide⟩ (show vwCl[3]? = some (RX4, TX4, 11) from rfl) rfl ⟨Nat.le_of_ble_eq_true rfl, Nat.le_of_ble_eq_true rfl⟩ ⟨Nat.le_refl _, Nat.le_refl _⟩ rfl (Nat.le_of_ble_eq_true rfl) dX4_readTest_27) hI (Nat.le_of_ble_eq_true rfl) (fun r_4 σ_5 H locs hpσ_5 hkσ_5 hI => ?_)
    have ahpσ_5 := hpσ_5.1
    have bhpσ_5 := hpσ_5.2.1
    have chpσ_5 := hpσ_5.2.2
    clear hpσ_5
    replace hI := q_Irw ahpσ_5 hI
    replace hF := q_letX hF chpσ_5
    refine q_if_eq (A := r_4.toInt) E rfl (tgt := 49) dX4_readTest_30 (by decide) (fun c_6 => ?_) (fun c_6 => ?_)
    · skip
      replace hF := q_ifp hF c_6
      refine lv_aload_n hx hb dX4_readTest_49 rfl (lv_at hl 0 rfl) ?_
      refine va_ldcS hx hb E.2.2.1 (kz_X4_119 E) dX4_readTest_50 ?_
      refine q_ci (q_runU (As := [.ref (q_sk X 20)]) (rest := []) E (hml.trans hl.1.symm) hI (c_X3_isWord l X σ a 20 (Or.inl ha) (by decide : 20 < 22)) ku_X4_43_4 ha ⟨rfl, by decide⟩ (show vwCl[3]? = some (RX4, TX4, 11) from rfl) rfl ⟨Nat.le_of_ble_eq_true rfl, Nat.le_of_ble_eq_true rfl⟩ ⟨Nat.le_refl _, Nat.le_refl _⟩ rfl (Nat.le_of_ble_eq_true rfl) dX4_readTest_52) hI (Nat.le_of_ble_eq_true rfl) (fun r_7 σ_8 H locs hpσ_8 hkσ_8 hI => ?_)
      have ahpσ_8 := hpσ_8.1
      have bhpσ_8 := hpσ_8.2.1
      have chpσ_8 := hpσ_8.2.2
      clear hpσ_8
      replace hI := q_Irw ahpσ_8 hI
      replace hF := q_letX hF chpσ_8
      refine q_if_eq (A := r_7.toInt) E rfl (tgt := 74) dX4_readTest_55 (by decide) (fun c_9 => ?_) (fun c_9 => ?_)
      · skip
        replace hF := q_ifp hF c_9
        refine lv_aload_n hx hb dX4_readTest_74 rfl (lv_at hl 0 rfl) ?_
        refine va_ldcS hx hb E.2.2.1 (kz_X4_121 E) dX4_readTest_75 ?_
        refine q_ci (q_runU (As := [.ref (q_sk X 21)]) (rest := []) E (hml.trans hl.1.symm) hI (c_X3_isWord l X σ a 21 (Or.inl ha) (by decide : 21 < 22)) ku_X4_43_4 ha ⟨rfl, by decide⟩ (show vwCl[3]? = some (RX4, TX4, 11) from rfl) rfl ⟨Nat.le_of_ble_eq_true rfl, Nat.le_of_ble_eq_true rfl⟩ ⟨Nat.le_refl _, Nat.le_refl _⟩ rfl (Nat.le_of_ble_eq_true rfl) dX4_readTest_77) hI (Nat.le_of_ble_eq_true rfl) (fun r_10 σ_11 H locs hpσ_11 hkσ_11 hI => ?_)
        have ahpσ_11 := hpσ_11.1
        have bhpσ_11 := hpσ_11.2.1
        have chpσ_11 := hpσ_11.2.2
        clear hpσ_11
        replace hI := q_Irw ahpσ_11 hI
        replace hF := q_letX hF chpσ_11
        refine q_if_ne (A := r_10.toInt) E rfl (tgt := 89) dX4_readTest_80 (by decide) (fun c_12 => ?_) (fun c_12 => ?_)
        · skip
          replace hF := q_ifn hF c_12
          replace c_12 := q_ifOne bhpσ_11 c_12
          refine lv_aload_n hx hb dX4_readTest_89 rfl (lv_at hl 0 rfl) ?_
          refine q_cv (q_runU (As := []) (rest := []) E (hml.trans hl.1.symm) hI (c_X3_advance l X σ a (Or.inl ha)) ku_X4_77_4 ha ⟨rfl, by decide⟩ (show vwCl[3]? = some (RX4, TX4, 11) from rfl) rfl ⟨Nat.le_of_ble_eq_true rfl, Nat.le_of_ble_eq_true rfl⟩ ⟨Nat.le_refl _, Nat.le_refl _⟩ rfl (Nat.le_of_ble_eq_true rfl) dX4_readTest_90) hI (Nat.le_of_ble_eq_true rfl) (fun σ_14 H locs hpσ_14 hkσ_14 hI => ?_)
          have ahpσ_14 := hpσ_14.1
          have bhpσ_14 := hpσ_14.2
          clear hpσ_14
          have fr_σ_14 := fr_σ.call bhpσ_14 rfl rfl
          replace hF := q_letX hF ahpσ_14
          refine lv_iconst (v := 1) hx hb dX4_readTest_93 zki_1 ?_
          have hrv : (1 : Int32).toInt = 1 := zt_1
          exact q_retz E hr hlk hI ⟨by decide, by decide⟩ ⟨⟨by decide, by decide⟩, (hF.trans hout), fr_σ_14⟩ dX4_readTest_94
        · skip
          replace hF := q_ifp hF c_12
          refine lv_aload_n hx hb dX4_readTest_83 rfl (lv_at hl 0 rfl) ?_
          refine lv_iconst (v := 2) hx hb dX4_readTest_84 zki_2 ?_
          have kc_15 : (2 : Int32).toInt = 2 := zt_2
          refine q_ci (q_runU (As := [.int 2]) (rest := []) E (hml.trans hl.1.symm) hI (c_X3_fails l X σ a (2 : Int32) (Or.inl ha)) ku_X4_59_4 ha ⟨rfl, by decide⟩ (show vwCl[3]? = some (RX4, TX4, 11) from rfl) rfl ⟨Nat.le_of_ble_eq_true rfl, Nat.le_of_ble_eq_true rfl⟩ ⟨Nat.le_refl _, Nat.le_refl _⟩ rfl (Nat.le_of_ble_eq_true rfl) dX4_readTest_85) hI (Nat.le_of_ble_eq_true rfl) (fun r_16 σ_17 H locs hpσ_17 hkσ_17 hI => ?_)
          have ahpσ_17 := hpσ_17.1
          have bhpσ_17 := hpσ_17.2.1
          have chpσ_17 := hpσ_17.2.2.1
          have dhpσ_17 := hpσ_17.2.2.2
          clear hpσ_17
          have fr_σ_17 := fr_σ.call dhpσ_17 rfl rfl
          replace hF := q_biX hF chpσ_17
          exact q_retz E hr hlk hI ⟨by omega, by omega⟩ ⟨⟨by omega, by omega⟩, (hF.trans hout), fr_σ_17⟩ dX4_readTest_88
      · skip
        replace hF := q_ifn hF c_9
        replace c_9 := q_ifOne bhpσ_8 c_9
        refine lv_aload_n hx hb dX4_readTest_58 rfl (lv_at hl 0 rfl) ?_
        refine gs_X4_12_4 E hI ha dX4_readTest_59 ?_
        refine gs_X4_114_8 E hI (q_tk (k' := 8) hI ha rfl (Nat.succ_ne_zero _)) dX4_readTest_62 ?_
        refine lv_iload_n hx hb dX4_readTest_65 rfl (lv_at hl 1 rfl) ?_
        refine lv_bipush (v := 7) hx hb dX4_readTest_66 zkb_7 ?_
        have kc_18 : (7 : Int32).toInt = 7 := zt_7
        refine q_cv (q_rV4_2 (rest := []) E (hml.trans hl.1.symm) hI (c_X5_set l X σ (q_rf X (q_rf X a 8) 3) v1 (7 : Int32) (q_tk (k' := 5) hI (q_tk (k' := 8) hI ha rfl (Nat.succ_ne_zero _)) rfl (Nat.succ_ne_zero _))) kv_X4_73 (q_tk (k' := 5) hI (q_tk (k' := 8) hI ha rfl (Nat.succ_ne_zero _)) rfl (Nat.succ_ne_zero _)) ⟨Nat.le_of_ble_eq_true rfl, Nat.le_of_ble_eq_true rfl⟩ (Nat.le_of_ble_eq_true rfl) dX4_readTest_68) hI (Nat.le_of_ble_eq_true rfl) (fun σ_20 H locs hpσ_20 hkσ_20 hI => ?_)
        have ahpσ_20 := hpσ_20.1
        have bhpσ_20 := hpσ_20.2
        clear hpσ_20
        have fr_σ_20 := fr_σ.call bhpσ_20 rfl rfl
        replace hF := q_letX hF ahpσ_20
        refine lv_goto (tgt := 89) hx hb dX4_readTest_71 (by decide) ?_
        refine lv_aload_n hx hb dX4_readTest_89 rfl (lv_at hl 0 rfl) ?_
        refine q_cv (q_runU (As := []) (rest := []) E (hml.trans hl.1.symm) hI (c_X3_advance l X σ_20 a (Or.inl ha)) ku_X4_77_4 ha ⟨rfl, by decide⟩ (show vwCl[3]? = some (RX4, TX4, 11) from rfl) rfl ⟨Nat.le_of_ble_eq_true rfl, Nat.le_of_ble_eq_true rfl⟩ ⟨Nat.le_refl _, Nat.le_refl _⟩ rfl (Nat.le_of_ble_eq_true rfl) dX4_readTest_90) hI (Nat.le_of_ble_eq_true rfl) (fun σ_22 H locs hpσ_22 hkσ_22 hI => ?_)
        have ahpσ_22 := hpσ_22.1
        have bhpσ_22 := hpσ_22.2
        clear hpσ_22
        have fr_σ_22 := fr_σ_20.call bhpσ_22 rfl rfl
        replace hF := q_letX hF ahpσ_22
        refine lv_iconst (v := 1) hx hb dX4_readTest_93 zki_1 ?_
        have hrv : (1 : Int32).toInt = 1 := zt_1
        exact q_retz E hr hlk hI ⟨by decide, by decide⟩ ⟨⟨by decide, by decide⟩, (hF.trans hout), fr_σ_22⟩ dX4_readTest_94
    · skip
      replace hF := q_ifn hF c_6
      replace c_6 := q_ifOne bhpσ_5 c_6
      refine lv_aload_n hx hb dX4_readTest_33 rfl (lv_at hl 0 rfl) ?_
      refine gs_X4_12_4 E hI ha dX4_readTest_34 ?_
      refine gs_X4_114_8 E hI (q_tk (k' := 8) hI ha rfl (Nat.succ_ne_zero _)) dX4_readTest_37 ?_
      refine lv_iload_n hx hb dX4_readTest_40 rfl (lv_at hl 1 rfl) ?_
      refine lv_bipush (v := 6) hx hb dX4_readTest_41 zkb_6 ?_
      have kc_23 : (6 : Int32).toInt = 6 := zt_6
      refine q_cv (q_rV4_2 (rest := []) E (hml.trans hl.1.symm) hI (c_X5_set l X σ (q_rf X (q_rf X a 8) 3) v1 (6 : Int32) (q_tk (k' := 5) hI (q_tk (k' := 8) hI ha rfl (Nat.succ_ne_zero _)) rfl (Nat.succ_ne_zero _))) kv_X4_73 (q_tk (k' := 5) hI (q_tk (k' := 8) hI ha rfl (Nat.succ_ne_zero _)) rfl (Nat.succ_ne_zero _)) ⟨Nat.le_of_ble_eq_true rfl, Nat.le_of_ble_eq_true rfl⟩ (Nat.le_of_ble_eq_true rfl) dX4_readTest_43) hI (Nat.le_of_ble_eq_true rfl) (fun σ_25 H locs hpσ_25 hkσ_25 hI => ?_)
      have ahpσ_25 := hpσ_25.1
      have bhpσ_25 := hpσ_25.2
      clear hpσ_25
      have fr_σ_25 := fr_σ.call bhpσ_25 rfl rfl
      replace hF := q_letX hF ahpσ_25
      refine lv_goto (tgt := 89) hx hb dX4_readTest_46 (by decide) ?_
      refine lv_aload_n hx hb dX4_readTest_89 rfl (lv_at hl 0 rfl) ?_
      refine q_cv (q_runU (As := []) (rest := []) E (hml.trans hl.1.symm) hI (c_X3_advance l X σ_25 a (Or.inl ha)) ku_X4_77_4 ha ⟨rfl, by decide⟩ (show vwCl[3]? = some (RX4, TX4, 11) from rfl) rfl ⟨Nat.le_of_ble_eq_true rfl, Nat.le_of_ble_eq_true rfl⟩ ⟨Nat.le_refl _, Nat.le_refl _⟩ rfl (Nat.le_of_ble_eq_true rfl) dX4_readTest_90) hI (Nat.le_of_ble_eq_true rfl) (fun σ_27 H locs hpσ_27 hkσ_27 hI => ?_)
      have ahpσ_27 := hpσ_27.1
      have bhpσ_27 := hpσ_27.2
      clear hpσ_27
      have fr_σ_27 := fr_σ_25.call bhpσ_27 rfl rfl
      replace hF := q_letX hF ahpσ_27
      refine lv_iconst (v := 1) hx hb dX4_readTest_93 zki_1 ?_
      have hrv : (1 : Int32).toInt = 1 := zt_1
      exact q_retz E hr hlk hI ⟨by decide, by decide⟩ ⟨⟨by decide, by decide⟩, (hF.trans hout), fr_σ_27⟩ dX4_readTest_94
  · skip
    replace hF := q_ifn hF c_3
    replace c_3 := q_ifOne bhpσ_2 c_3
    refine lv_aload_n hx hb dX4_readTest_9 rfl (lv_at hl 0 rfl) ?_
    refine gs_X4_12_4 E hI ha dX4_readTest_10 ?_
    refine gs_X4_114_8 E hI (q_tk (k' := 8) hI ha rfl (Nat.succ_ne_zero _)) dX4_readTest_13 ?_
    refine lv_iload_n hx hb dX4_readTest_16 rfl (lv_at hl 1 rfl) ?_
    refine lv_iconst (v := 5) hx hb dX4_readTest_17 zki_5 ?_
    have kc_28 : (5 : Int32).toInt = 5 := zt_5
    refine q_cv (q_rV4_2 (rest := []) E (hml.trans hl.1.symm) hI (c_X5_set l X σ (q_rf X (q_rf X a 8) 3) v1 (5 : Int32) (q_tk (k' := 5) hI (q_tk (k' := 8) hI ha rfl (Nat.succ_ne_zero _)) rfl (Nat.succ_ne_zero _))) kv_X4_73 (q_tk (k' := 5) hI (q_tk (k' := 8) hI ha rfl (Nat.succ_ne_zero _)) rfl (Nat.succ_ne_zero _)) ⟨Nat.le_of_ble_eq_true rfl, Nat.le_of_ble_eq_true rfl⟩ (Nat.le_of_ble_eq_true rfl) dX4_readTest_18) hI (Nat.le_of_ble_eq_true rfl) (fun σ_30 H locs hpσ_30 hkσ_30 hI => ?_)
    have ahpσ_30 := hpσ_30.1
    have bhpσ_30 := hpσ_30.2
    clear hpσ_30
    have fr_σ_30 := fr_σ.call bhpσ_30 rfl rfl
    replace hF := q_letX hF ahpσ_30
    refine lv_goto (tgt := 89) hx hb dX4_readTest_21 (by decide) ?_
    refine lv_aload_n hx hb dX4_readTest_89 rfl (lv_at hl 0 rfl) ?_
    refine q_cv (q_runU (As := []) (rest := []) E (hml.trans hl.1.symm) hI (c_X3_advance l X σ_30 a (Or.inl ha)) ku_X4_77_4 ha ⟨rfl, by decide⟩ (show vwCl[3]? = some (RX4, TX4, 11) from rfl) rfl ⟨Nat.le_of_ble_eq_true rfl, Nat.le_of_ble_eq_true rfl⟩ ⟨Nat.le_refl _, Nat.le_refl _⟩ rfl (Nat.le_of_ble_eq_true rfl) dX4_readTest_90) hI (Nat.le_of_ble_eq_true rfl) (fun σ_32 H locs hpσ_32 hkσ_32 hI => ?_)
    have ahpσ_32 := hpσ_32.1
    have bhpσ_32 := hpσ_32.2
    clear hpσ_32
    have fr_σ_32 := fr_σ_30.call bhpσ_32 rfl rfl
    replace hF := q_letX hF ahpσ_32
    refine lv_iconst (v := 1) hx hb dX4_readTest_93 zki_1 ?_
    have hrv : (1 : Int32).toInt = 1 := zt_1
    exact q_retz E hr hlk hI ⟨by decide, by decide⟩ ⟨⟨by decide, by decide⟩, (hF.trans hout), fr_σ_32⟩ dX4_readTest_94

set_option maxRecDepth 100000 in
set_option maxHeartbeats 4000000 in
theorem c_X4_readOperands (l : Launch) (X : XW) (σ : ST) (a : Nat) (v1 : Int32) (r2 : Nat) (ha : q_kd X a = 4) (hr2 : q_kd X r2 = 6) : Met l yX4_readOperands (q_ws yX4_readOperands cX4_readOperands 6 (some .boolean)) (q_rm 7 150) (q_P X σ [.ref a, .int v1, .ref r2]) (q_Qi X 8 σ (fun (r : Int32) (σ' : ST) => (0 ≤ r.toInt ∧ r.toInt ≤ 1) ∧ (r, σ') = F_X4_readOperands X σ a v1 r2 ∧ q_ow [(4, 2), (4, 3), (4, 4), (4, 5), (4, 6), (4, 7), (9, 2), (9, 3), (9, 4), (9, 5), (9, 6), (9, 7), (20, 99)] [] X σ σ')) 0 0 (q_reg X) := by
  refine q_met 8 (by first | exact rfl | decide +kernel) rfl (Nat.le_of_ble_eq_true rfl) (fun p e s m below meth c E hml hr hlk hI ls hl => ?_)
  have hx := E.1
  have hb := E.2.1
  have hl : lv_has ls 6 [(0, .ref a), (1, .int v1), (2, .ref r2)] := hl
  have fr_σ : q_ow [(4, 2), (4, 3), (4, 4), (4, 5), (4, 6), (4, 7), (9, 2), (9, 3), (9, 4), (9, 5), (9, 6), (9, 7), (20, 99)] [] X σ σ := q_ow.rf
  obtain ⟨out, hout⟩ : ∃ o, o = F_X4_readOperands X σ a v1 r2 := ⟨_, rfl⟩
  have hF := hout.symm
  unfold F_X4_readOperands at hF
  refine lv_aload_n hx hb dX4_readOperands_0 rfl (lv_at hl 0 rfl) ?_
  refine gs_X4_12_4 E hI ha dX4_readOperands_1 ?_
  refine gs_X4_114_8 E hI (q_tk (k' := 8) hI ha rfl (Nat.succ_ne_zero _)) dX4_readOperands_4 ?_
  refine lv_iload_n hx hb dX4_readOperands_7 rfl (lv_at hl 1 rfl) ?_
  refine q_ci (q_rV4_1 (rest := []) E (hml.trans hl.1.symm) hI (c_X5_get l X σ (q_rf X (q_rf X a 8) 3) v1 (q_tk (k' := 5) hI (q_tk (k' := 8) hI ha rfl (Nat.succ_ne_zero _)) rfl (Nat.succ_ne_zero _))) kv_X4_63 (q_tk (k' := 5) hI (q_tk (k' := 8) hI ha rfl (Nat.succ_ne_zero _)) rfl (Nat.succ_ne_zero _)) ⟨Nat.le_of_ble_eq_true rfl, Nat.le_of_ble_eq_true rfl⟩ (Nat.le_of_ble_eq_true rfl) dX4_readOperands_8) hI (Nat.le_of_ble_eq_true rfl) (fun r_1 σ_2 H locs hpσ_2 hkσ_2 hI => ?_)
  have ahpσ_2 := hpσ_2.1
  have bhpσ_2 := hpσ_2.2
  clear hpσ_2
  replace hI := q_Irw ahpσ_2 hI
  replace hF := q_letX hF bhpσ_2
  refine lv_istore_n (lv' := [(3, .int r_1), (0, .ref a), (1, .int v1), (2, .ref r2)]) hx hb dX4_readOperands_11 rfl hl (by decide) rfl (fun ls hl => ?_)
  refine lv_iload_n hx hb dX4_readOperands_12 rfl (lv_at hl 0 rfl) ?_
  refine q_ci (q_runS (As := [.int r_1]) (rest := []) E (hml.trans hl.1.symm) hI (c_X8_hasName l X σ r_1) ks_X4_123 rfl ⟨Nat.le_of_ble_eq_true rfl, Nat.le_of_ble_eq_true rfl⟩ ⟨Nat.le_refl _, Nat.le_refl _⟩ rfl (Nat.le_of_ble_eq_true rfl) dX4_readOperands_13) hI (Nat.le_of_ble_eq_true rfl) (fun r_3 σ_4 H locs hpσ_4 hkσ_4 hI => ?_)
  have ahpσ_4 := hpσ_4.1
  have bhpσ_4 := hpσ_4.2.1
  have chpσ_4 := hpσ_4.2.2
  clear hpσ_4
  replace hI := q_Irw ahpσ_4 hI
  replace hF := q_letX hF chpσ_4
  have J_47_5 : ∀  (σ_5 : ST) (H : Heap) (locs : List Loc) (ls : Array Slot), (q_ow [(4, 2), (4, 3), (4, 4), (4, 5), (4, 6), (4, 7), (9, 2), (9, 3), (9, 4), (9, 5), (9, 6), (9, 7), (20, 99)] [] X σ σ_5) → (F_X4_readOperands_J47_1 X r_1 a v1 σ_5 = out) → q_I X 8 σ s.heap locs σ_5 H → lv_has ls 6 [(0, .ref a), (1, .int v1), (2, .ref r2), (3, .int r_1)] → W p l e (q_rm 7 150) s m ([.ref a, .int v1, .ref r2] : List Value).toArray below meth c H locs 0 0 (MQ below (q_Qi X 8 σ (fun (r : Int32) (σ' : ST) => (0 ≤ r.toInt ∧ r.toInt ≤ 1) ∧ (r, σ') = F_X4_readOperands X σ a v1 r2 ∧ q_ow [(4, 2), (4, 3), (4, 4), (4, 5), (4, 6), (4, 7), (9, 2), (9, 3), (9, 4), (9, 5), (9, 6), (9, 7), (20, 99)] [] X σ σ')) ([.ref a, .int v1, .ref r2] : List Value).toArray s 0 0 (q_reg X)) (F0 m 47 ls []) := by
    clear hF
    intro σ_5 H locs ls fr_σ_5 hF hI hl
    unfold F_X4_readOperands_J47_1 at hF
    refine lv_iload_n hx hb dX4_readOperands_47 rfl (lv_at hl 3 rfl) ?_
    refine q_ci (q_runS (As := [.int r_1]) (rest := []) E (hml.trans hl.1.symm) hI (c_X8_hasComparison l X σ_5 r_1) ks_X4_133 rfl ⟨Nat.le_of_ble_eq_true rfl, Nat.le_of_ble_eq_true rfl⟩ ⟨Nat.le_refl _, Nat.le_refl _⟩ rfl (Nat.le_of_ble_eq_true rfl) dX4_readOperands_48) hI (Nat.le_of_ble_eq_true rfl) (fun r_6 σ_7 H locs hpσ_7 hkσ_7 hI => ?_)
    have ahpσ_7 := hpσ_7.1
    have bhpσ_7 := hpσ_7.2.1
    have chpσ_7 := hpσ_7.2.2
    clear hpσ_7
    replace hI := q_Irw ahpσ_7 hI
    replace hF := q_letX hF chpσ_7
    refine q_if_eq (A := r_6.toInt) E rfl (tgt := 99) dX4_readOperands_51 (by decide) (fun c_8 => ?_) (fun c_8 => ?_)
    · skip
      replace hF := q_ifp hF c_8
      refine lv_iload_n hx hb dX4_readOperands_99 rfl (lv_at hl 3 rfl) ?_
      refine q_ci (q_runS (As := [.int r_1]) (rest := []) E (hml.trans hl.1.symm) hI (c_X8_highest l X σ_5 r_1) ks_X4_142 rfl ⟨Nat.le_of_ble_eq_true rfl, Nat.le_of_ble_eq_true rfl⟩ ⟨Nat.le_refl _, Nat.le_refl _⟩ rfl (Nat.le_of_ble_eq_true rfl) dX4_readOperands_100) hI (Nat.le_of_ble_eq_true rfl) (fun r_9 σ_10 H locs hpσ_10 hkσ_10 hI => ?_)
      have ahpσ_10 := hpσ_10.1
      have bhpσ_10 := hpσ_10.2
      clear hpσ_10
      replace hI := q_Irw ahpσ_10 hI
      replace hF := q_letX hF bhpσ_10
      refine lv_istore (lv' := [(4, .int r_9), (0, .ref a), (1, .int v1), (2, .ref r2), (3, .int r_1)]) hx hb dX4_readOperands_103 hl (by decide) rfl (fun ls hl => ?_)
      refine lv_iload hx hb dX4_readOperands_105 (lv_at hl 0 rfl) ?_
      refine lv_iconst (v := (-1)) hx hb dX4_readOperands_107 zki_m1 ?_
      refine q_icmp_ne (A := r_9.toInt) (B := (-1)) E rfl (by decide) (tgt := 113) dX4_readOperands_108 (by decide) (fun c_11 => ?_) (fun c_11 => ?_)
      · skip
        replace hF := q_ifn hF c_11
        refine lv_aload_n hx hb dX4_readOperands_113 rfl (lv_at hl 1 rfl) ?_
        refine lv_iload_n hx hb dX4_readOperands_114 rfl (lv_at hl 4 rfl) ?_
        refine lv_iconst (v := 4) hx hb dX4_readOperands_115 zki_4 ?_
        refine q_icmp_ne (A := r_1.toInt) (B := 4) E rfl (by decide) (tgt := 123) dX4_readOperands_116 (by decide) (fun c_12 => ?_) (fun c_12 => ?_)
        · skip
          replace hF := q_ifn hF c_12
          refine lv_iconst (v := 0) hx hb dX4_readOperands_123 zki_0 ?_
          refine lv_iload hx hb dX4_readOperands_124 (lv_at hl 0 rfl) ?_
          have kc_13 : (0 : Int32).toInt = 0 := zt_0
          refine q_ci (q_runU (As := [.int 0, .int r_9]) (rest := []) E (hml.trans hl.1.symm) hI (c_X3_passNumber l X σ_5 a (0 : Int32) r_9 (Or.inl ha)) ku_X4_145_4 ha ⟨rfl, by decide⟩ (show vwCl[3]? = some (RX4, TX4, 11) from rfl) rfl ⟨Nat.le_of_ble_eq_true rfl, Nat.le_of_ble_eq_true rfl⟩ ⟨Nat.le_refl _, Nat.le_refl _⟩ rfl (Nat.le_of_ble_eq_true rfl) dX4_readOperands_126) hI (Nat.le_of_ble_eq_true rfl) (fun r_14 σ_15 H locs hpσ_15 hkσ_15 hI => ?_)
          have ahpσ_15 := hpσ_15.1
          have bhpσ_15 := hpσ_15.2.1
          have chpσ_15 := hpσ_15.2.2
          clear hpσ_15
          have fr_σ_15 := fr_σ_5.call chpσ_15 rfl rfl
          replace hF := q_biX hF bhpσ_15
          refine lv_istore (lv' := [(5, .int r_14), (4, .int r_9), (0, .ref a), (1, .int v1), (2, .ref r2), (3, .int r_1)]) hx hb dX4_readOperands_129 hl (by decide) rfl (fun ls hl => ?_)
          refine lv_aload_n hx hb dX4_readOperands_131 rfl (lv_at hl 2 rfl) ?_
          refine gs_X4_12_4 E hI ha dX4_readOperands_132 ?_
          refine gs_X4_149_8 E hI (q_tk (k' := 8) hI ha rfl (Nat.succ_ne_zero _)) dX4_readOperands_135 ?_
          refine lv_iload_n hx hb dX4_readOperands_138 rfl (lv_at hl 3 rfl) ?_
          refine lv_iload hx hb dX4_readOperands_139 (lv_at hl 0 rfl) ?_
          refine q_cv (q_rV4_2 (rest := []) E (hml.trans hl.1.symm) hI (c_X5_set l X σ_15 (q_rf X (q_rf X a 8) 7) v1 r_14 (q_tk (k' := 5) hI (q_tk (k' := 8) hI ha rfl (Nat.succ_ne_zero _)) rfl (Nat.succ_ne_zero _))) kv_X4_73 (q_tk (k' := 5) hI (q_tk (k' := 8) hI ha rfl (Nat.succ_ne_zero _)) rfl (Nat.succ_ne_zero _)) ⟨Nat.le_of_ble_eq_true rfl, Nat.le_of_ble_eq_true rfl⟩ (Nat.le_of_ble_eq_true rfl) dX4_readOperands_141) hI (Nat.le_of_ble_eq_true rfl) (fun σ_17 H locs hpσ_17 hkσ_17 hI => ?_)
          have ahpσ_17 := hpσ_17.1
          have bhpσ_17 := hpσ_17.2
          clear hpσ_17
          have fr_σ_17 := fr_σ_15.call bhpσ_17 rfl rfl
          replace hF := q_letX hF ahpσ_17
          refine lv_iload hx hb dX4_readOperands_144 (lv_at hl 0 rfl) ?_
          refine lv_iconst (v := (-1)) hx hb dX4_readOperands_146 zki_m1 ?_
          refine q_icmp_eq (A := r_14.toInt) (B := (-1)) E rfl (by decide) (tgt := 154) dX4_readOperands_147 (by decide) (fun c_18 => ?_) (fun c_18 => ?_)
          · skip
            replace hF := q_ifp hF c_18
            refine lv_iconst (v := 0) hx hb dX4_readOperands_154 zki_0 ?_
            have hrv : (0 : Int32).toInt = 0 := zt_0
            exact q_retz E hr hlk hI ⟨by decide, by decide⟩ ⟨⟨by decide, by decide⟩, (hF.trans hout), fr_σ_17⟩ dX4_readOperands_155
          · skip
            replace hF := q_ifn hF c_18
            refine lv_iconst (v := 1) hx hb dX4_readOperands_150 zki_1 ?_
            refine lv_goto (tgt := 155) hx hb dX4_readOperands_151 (by decide) ?_
            have hrv : (1 : Int32).toInt = 1 := zt_1
            exact q_retz E hr hlk hI ⟨by decide, by decide⟩ ⟨⟨by decide, by decide⟩, (hF.trans hout), fr_σ_17⟩ dX4_readOperands_155
        · skip
          replace hF := q_ifp hF c_12
          refine lv_iconst (v := 1) hx hb dX4_readOperands_119 zki_1 ?_
          refine lv_goto (tgt := 124) hx hb dX4_readOperands_120 (by decide) ?_
          refine lv_iload hx hb dX4_readOperands_124 (lv_at hl 0 rfl) ?_
          have kc_19 : (1 : Int32).toInt = 1 := zt_1
          refine q_ci (q_runU (As := [.int 1, .int r_9]) (rest := []) E (hml.trans hl.1.symm) hI (c_X3_passNumber l X σ_5 a (1 : Int32) r_9 (Or.inl ha)) ku_X4_145_4 ha ⟨rfl, by decide⟩ (show vwCl[3]? = some (RX4, TX4, 11) from rfl) rfl ⟨Nat.le_of_ble_eq_true rfl, Nat.le_of_ble_eq_true rfl⟩ ⟨Nat.le_refl _, Nat.le_refl _⟩ rfl (Nat.le_of_ble_eq_true rfl) dX4_readOperands_126) hI (Nat.le_of_ble_eq_true rfl) (fun r_20 σ_21 H locs hpσ_21 hkσ_21 hI => ?_)
          have ahpσ_21 := hpσ_21.1
          have bhpσ_21 := hpσ_21.2.1
          have chpσ_21 := hpσ_21.2.2
          clear hpσ_21
          have fr_σ_21 := fr_σ_5.call chpσ_21 rfl rfl
          replace hF := q_biX hF bhpσ_21
          refine lv_istore (lv' := [(5, .int r_20), (4, .int r_9), (0, .ref a), (1, .int v1), (2, .ref r2), (3, .int r_1)]) hx hb dX4_readOperands_129 hl (by decide) rfl (fun ls hl => ?_)
          refine lv_aload_n hx hb dX4_readOperands_131 rfl (lv_at hl 2 rfl) ?_
          refine gs_X4_12_4 E hI ha dX4_readOperands_132 ?_
          refine gs_X4_149_8 E hI (q_tk (k' := 8) hI ha rfl (Nat.succ_ne_zero _)) dX4_readOperands_135 ?_
          refine lv_iload_n hx hb dX4_readOperands_138 rfl (lv_at hl 3 rfl) ?_
          refine lv_iload hx hb dX4_readOperands_139 (lv_at hl 0 rfl) ?_
          refine q_cv (q_rV4_2 (rest := []) E (hml.trans hl.1.symm) hI (c_X5_set l X σ_21 (q_rf X (q_rf X a 8) 7) v1 r_20 (q_tk (k' := 5) hI (q_tk (k' := 8) hI ha rfl (Nat.succ_ne_zero _)) rfl (Nat.succ_ne_zero _))) kv_X4_73 (q_tk (k' := 5) hI (q_tk (k' := 8) hI ha rfl (Nat.succ_ne_zero _)) rfl (Nat.succ_ne_zero _)) ⟨Nat.le_of_ble_eq_true rfl, Nat.le_of_ble_eq_true rfl⟩ (Nat.le_of_ble_eq_true rfl) dX4_readOperands_141) hI (Nat.le_of_ble_eq_true rfl) (fun σ_23 H locs hpσ_23 hkσ_23 hI => ?_)
          have ahpσ_23 := hpσ_23.1
          have bhpσ_23 := hpσ_23.2
          clear hpσ_23
          have fr_σ_23 := fr_σ_21.call bhpσ_23 rfl rfl
          replace hF := q_letX hF ahpσ_23
          refine lv_iload hx hb dX4_readOperands_144 (lv_at hl 0 rfl) ?_
          refine lv_iconst (v := (-1)) hx hb dX4_readOperands_146 zki_m1 ?_
          refine q_icmp_eq (A := r_20.toInt) (B := (-1)) E rfl (by decide) (tgt := 154) dX4_readOperands_147 (by decide) (fun c_24 => ?_) (fun c_24 => ?_)
          · skip
            replace hF := q_ifp hF c_24
            refine lv_iconst (v := 0) hx hb dX4_readOperands_154 zki_0 ?_
            have hrv : (0 : Int32).toInt = 0 := zt_0
            exact q_retz E hr hlk hI ⟨by decide, by decide⟩ ⟨⟨by decide, by decide⟩, (hF.trans hout), fr_σ_23⟩ dX4_readOperands_155
          · skip
            replace hF := q_ifn hF c_24
            refine lv_iconst (v := 1) hx hb dX4_readOperands_150 zki_1 ?_
            refine lv_goto (tgt := 155) hx hb dX4_readOperands_151 (by decide) ?_
            have hrv : (1 : Int32).toInt = 1 := zt_1
            exact q_retz E hr hlk hI ⟨by decide, by decide⟩ ⟨⟨by decide, by decide⟩, (hF.trans hout), fr_σ_23⟩ dX4_readOperands_155
      · skip
        replace hF := q_ifp hF c_11
        refine lv_iconst (v := 1) hx hb dX4_readOperands_111 zki_1 ?_
        have hrv : (1 : Int32).toInt = 1 := zt_1
        exact q_retz E hr hlk hI ⟨by decide, by decide⟩ ⟨⟨by decide, by decide⟩, (hF.trans hout), fr_σ_5⟩ dX4_readOperands_112
    · skip
      replace hF := q_ifn hF c_8
      replace c_8 := q_ifOne bhpσ_7 c_8
      refine lv_aload_n hx hb dX4_readOperands_54 rfl (lv_at hl 0 rfl) ?_
      refine lv_iconst (v := 0) hx hb dX4_readOperands_55 zki_0 ?_
      have kc_25 : (0 : Int32).toInt = 0 := zt_0
      refine q_ci (q_runU (As := [.int 0]) (rest := []) E (hml.trans hl.1.symm) hI (c_X3_signAt l X σ_5 a (0 : Int32) (Or.inl ha)) ku_X4_136_4 ha ⟨rfl, by decide⟩ (show vwCl[3]? = some (RX4, TX4, 11) from rfl) rfl ⟨Nat.le_of_ble_eq_true rfl, Nat.le_of_ble_eq_true rfl⟩ ⟨Nat.le_refl _, Nat.le_refl _⟩ rfl (Nat.le_of_ble_eq_true rfl) dX4_readOperands_56) hI (Nat.le_of_ble_eq_true rfl) (fun r_26 σ_27 H locs hpσ_27 hkσ_27 hI => ?_)
      have ahpσ_27 := hpσ_27.1
      have bhpσ_27 := hpσ_27.2
      clear hpσ_27
      replace hI := q_Irw ahpσ_27 hI
      replace hF := q_letX hF bhpσ_27
      refine lv_istore (lv' := [(4, .int r_26), (0, .ref a), (1, .int v1), (2, .ref r2), (3, .int r_1)]) hx hb dX4_readOperands_59 hl (by decide) rfl (fun ls hl => ?_)
      refine lv_aload_n hx hb dX4_readOperands_61 rfl (lv_at hl 1 rfl) ?_
      refine gs_X4_38_4 E hI ha dX4_readOperands_62 ?_
      refine lv_topi (fun f_28 ef_28 => ?_)
      replace hF := q_letX hF ef_28
      refine lv_iconst (v := 3) hx hb dX4_readOperands_65 zki_3 ?_
      refine q_icmp_ne (A := f_28.toInt) (B := 3) E rfl (by decide) (tgt := 76) dX4_readOperands_66 (by decide) (fun c_29 => ?_) (fun c_29 => ?_)
      · skip
        replace hF := q_ifn hF c_29
        refine lv_aload_n hx hb dX4_readOperands_76 rfl (lv_at hl 1 rfl) ?_
        refine lv_iconst (v := 2) hx hb dX4_readOperands_77 zki_2 ?_
        have kc_30 : (2 : Int32).toInt = 2 := zt_2
        refine q_ci (q_runU (As := [.int 2]) (rest := []) E (hml.trans hl.1.symm) hI (c_X3_fails l X σ_5 a (2 : Int32) (Or.inl ha)) ku_X4_59_4 ha ⟨rfl, by decide⟩ (show vwCl[3]? = some (RX4, TX4, 11) from rfl) rfl ⟨Nat.le_of_ble_eq_true rfl, Nat.le_of_ble_eq_true rfl⟩ ⟨Nat.le_refl _, Nat.le_refl _⟩ rfl (Nat.le_of_ble_eq_true rfl) dX4_readOperands_78) hI (Nat.le_of_ble_eq_true rfl) (fun r_31 σ_32 H locs hpσ_32 hkσ_32 hI => ?_)
        have ahpσ_32 := hpσ_32.1
        have bhpσ_32 := hpσ_32.2.1
        have chpσ_32 := hpσ_32.2.2.1
        have dhpσ_32 := hpσ_32.2.2.2
        clear hpσ_32
        have fr_σ_32 := fr_σ_5.call dhpσ_32 rfl rfl
        replace hF := q_biX hF chpσ_32
        exact q_retz E hr hlk hI ⟨by omega, by omega⟩ ⟨⟨by omega, by omega⟩, (hF.trans hout), fr_σ_32⟩ dX4_readOperands_81
      · skip
        replace hF := q_ifp hF c_29
        refine lv_iload hx hb dX4_readOperands_69 (lv_at hl 0 rfl) ?_
        refine lv_bipush (v := 59) hx hb dX4_readOperands_71 zkb_59 ?_
        refine q_icmp_ne (A := r_26.toInt) (B := 59) E rfl (by decide) (tgt := 82) dX4_readOperands_73 (by decide) (fun c_33 => ?_) (fun c_33 => ?_)
        · skip
          replace hF := q_ifn hF c_33
          refine lv_aload_n hx hb dX4_readOperands_82 rfl (lv_at hl 1 rfl) ?_
          refine gs_X4_12_4 E hI ha dX4_readOperands_83 ?_
          refine gs_X4_139_8 E hI (q_tk (k' := 8) hI ha rfl (Nat.succ_ne_zero _)) dX4_readOperands_86 ?_
          refine lv_iload_n hx hb dX4_readOperands_89 rfl (lv_at hl 2 rfl) ?_
          refine lv_iload hx hb dX4_readOperands_90 (lv_at hl 0 rfl) ?_
          refine q_cv (q_rV4_2 (rest := []) E (hml.trans hl.1.symm) hI (c_X5_set l X σ_5 (q_rf X (q_rf X a 8) 6) v1 r_26 (q_tk (k' := 5) hI (q_tk (k' := 8) hI ha rfl (Nat.succ_ne_zero _)) rfl (Nat.succ_ne_zero _))) kv_X4_73 (q_tk (k' := 5) hI (q_tk (k' := 8) hI ha rfl (Nat.succ_ne_zero _)) rfl (Nat.succ_ne_zero _)) ⟨Nat.le_of_ble_eq_true rfl, Nat.le_of_ble_eq_true rfl⟩ (Nat.le_of_ble_eq_true rfl) dX4_readOperands_92) hI (Nat.le_of_ble_eq_true rfl) (fun σ_35 H locs hpσ_35 hkσ_35 hI => ?_)
          have ahpσ_35 := hpσ_35.1
          have bhpσ_35 := hpσ_35.2
          clear hpσ_35
          have fr_σ_35 := fr_σ_5.call bhpσ_35 rfl rfl
          replace hF := q_letX hF ahpσ_35
          refine lv_aload_n hx hb dX4_readOperands_95 rfl (lv_at hl 1 rfl) ?_
          refine q_cv (q_runU (As := []) (rest := []) E (hml.trans hl.1.symm) hI (c_X3_advance l X σ_35 a (Or.inl ha)) ku_X4_77_4 ha ⟨rfl, by decide⟩ (show vwCl[3]? = some (RX4, TX4, 11) from rfl) rfl ⟨Nat.le_of_ble_eq_true rfl, Nat.le_of_ble_eq_true rfl⟩ ⟨Nat.le_refl _, Nat.le_refl _⟩ rfl (Nat.le_of_ble_eq_true rfl) dX4_readOperands_96) hI (Nat.le_of_ble_eq_true rfl) (fun σ_37 H locs hpσ_37 hkσ_37 hI => ?_)
          have ahpσ_37 := hpσ_37.1
          have bhpσ_37 := hpσ_37.2
          clear hpσ_37
          have fr_σ_37 := fr_σ_35.call bhpσ_37 rfl rfl
          replace hF := q_letX hF ahpσ_37
          refine lv_iload_n hx hb dX4_readOperands_99 rfl (lv_at hl 4 rfl) ?_
          refine q_ci (q_runS (As := [.int r_1]) (rest := []) E (hml.trans hl.1.symm) hI (c_X8_highest l X σ_37 r_1) ks_X4_142 rfl ⟨Nat.le_of_ble_eq_true rfl, Nat.le_of_ble_eq_true rfl⟩ ⟨Nat.le_refl _, Nat.le_refl _⟩ rfl (Nat.le_of_ble_eq_true rfl) dX4_readOperands_100) hI (Nat.le_of_ble_eq_true rfl) (fun r_38 σ_39 H locs hpσ_39 hkσ_39 hI => ?_)
          have ahpσ_39 := hpσ_39.1
          have bhpσ_39 := hpσ_39.2
          clear hpσ_39
          replace hI := q_Irw ahpσ_39 hI
          replace hF := q_letX hF bhpσ_39
          refine lv_istore (lv' := [(4, .int r_38), (0, .ref a), (1, .int v1), (2, .ref r2), (3, .int r_1)]) hx hb dX4_readOperands_103 hl (by decide) rfl (fun ls hl => ?_)
          refine lv_iload hx hb dX4_readOperands_105 (lv_at hl 0 rfl) ?_
          refine lv_iconst (v := (-1)) hx hb dX4_readOperands_107 zki_m1 ?_
          refine q_icmp_ne (A := r_38.toInt) (B := (-1)) E rfl (by decide) (tgt := 113) dX4_readOperands_108 (by decide) (fun c_40 => ?_) (fun c_40 => ?_)
          · skip
            replace hF := q_ifn hF c_40
            refine lv_aload_n hx hb dX4_readOperands_113 rfl (lv_at hl 1 rfl) ?_
            refine lv_iload_n hx hb dX4_readOperands_114 rfl (lv_at hl 4 rfl) ?_
            refine lv_iconst (v := 4) hx hb dX4_readOperands_115 zki_4 ?_
            refine q_icmp_ne (A := r_1.toInt) (B := 4) E rfl (by decide) (tgt := 123) dX4_readOperands_116 (by decide) (fun c_41 => ?_) (fun c_41 => ?_)
            · skip
              replace hF := q_ifn hF c_41
              refine lv_iconst (v := 0) hx hb dX4_readOperands_123 zki_0 ?_
              refine lv_iload hx hb dX4_readOperands_124 (lv_at hl 0 rfl) ?_
              have kc_42 : (0 : Int32).toInt = 0 := zt_0
              refine q_ci (q_runU (As := [.int 0, .int r_38]) (rest := []) E (hml.trans hl.1.symm) hI (c_X3_passNumber l X σ_37 a (0 : Int32) r_38 (Or.inl ha)) ku_X4_145_4 ha ⟨rfl, by decide⟩ (show vwCl[3]? = some (RX4, TX4, 11) from rfl) rfl ⟨Nat.le_of_ble_eq_true rfl, Nat.le_of_ble_eq_true rfl⟩ ⟨Nat.le_refl _, Nat.le_refl _⟩ rfl (Nat.le_of_ble_eq_true rfl) dX4_readOperands_126) hI (Nat.le_of_ble_eq_true rfl) (fun r_43 σ_44 H locs hpσ_44 hkσ_44 hI => ?_)
              have ahpσ_44 := hpσ_44.1
              have bhpσ_44 := hpσ_44.2.1
              have chpσ_44 := hpσ_44.2.2
              clear hpσ_44
              have fr_σ_44 := fr_σ_37.call chpσ_44 rfl rfl
              replace hF := q_biX hF bhpσ_44
              refine lv_istore (lv' := [(5, .int r_43), (4, .int r_38), (0, .ref a), (1, .int v1), (2, .ref r2), (3, .int r_1)]) hx hb dX4_readOperands_129 hl (by decide) rfl (fun ls hl => ?_)
              refine lv_aload_n hx hb dX4_readOperands_131 rfl (lv_at hl 2 rfl) ?_
              refine gs_X4_12_4 E hI ha dX4_readOperands_132 ?_
              refine gs_X4_149_8 E hI (q_tk (k' := 8) hI ha rfl (Nat.succ_ne_zero _)) dX4_readOperands_135 ?_
              refine lv_iload_n hx hb dX4_readOperands_138 rfl (lv_at hl 3 rfl) ?_
              refine lv_iload hx hb dX4_readOperands_139 (lv_at hl 0 rfl) ?_
              refine q_cv (q_rV4_2 (rest := []) E (hml.trans hl.1.symm) hI (c_X5_set l X σ_44 (q_rf X (q_rf X a 8) 7) v1 r_43 (q_tk (k' := 5) hI (q_tk (k' := 8) hI ha rfl (Nat.succ_ne_zero _)) rfl (Nat.succ_ne_zero _))) kv_X4_73 (q_tk (k' := 5) hI (q_tk (k' := 8) hI ha rfl (Nat.succ_ne_zero _)) rfl (Nat.succ_ne_zero _)) ⟨Nat.le_of_ble_eq_true rfl, Nat.le_of_ble_eq_true rfl⟩ (Nat.le_of_ble_eq_true rfl) dX4_readOperands_141) hI (Nat.le_of_ble_eq_true rfl) (fun σ_46 H locs hpσ_46 hkσ_46 hI => ?_)
              have ahpσ_46 := hpσ_46.1
              have bhpσ_46 := hpσ_46.2
              clear hpσ_46
              have fr_σ_46 := fr_σ_44.call bhpσ_46 rfl rfl
              replace hF := q_letX hF ahpσ_46
              refine lv_iload hx hb dX4_readOperands_144 (lv_at hl 0 rfl) ?_
              refine lv_iconst (v := (-1)) hx hb dX4_readOperands_146 zki_m1 ?_
              refine q_icmp_eq (A := r_43.toInt) (B := (-1)) E rfl (by decide) (tgt := 154) dX4_readOperands_147 (by decide) (fun c_47 => ?_) (fun c_47 => ?_)
              · skip
                replace hF := q_ifp hF c_47
                refine lv_iconst (v := 0) hx hb dX4_readOperands_154 zki_0 ?_
                have hrv : (0 : Int32).toInt = 0 := zt_0
                exact q_retz E hr hlk hI ⟨by decide, by decide⟩ ⟨⟨by decide, by decide⟩, (hF.trans hout), fr_σ_46⟩ dX4_readOperands_155
              · skip
                replace hF := q_ifn hF c_47
                refine lv_iconst (v := 1) hx hb dX4_readOperands_150 zki_1 ?_
                refine lv_goto (tgt := 155) hx hb dX4_readOperands_151 (by decide) ?_
                have hrv : (1 : Int32).toInt = 1 := zt_1
                exact q_retz E hr hlk hI ⟨by decide, by decide⟩ ⟨⟨by decide, by decide⟩, (hF.trans hout), fr_σ_46⟩ dX4_readOperands_155
            · skip
              replace hF := q_ifp hF c_41
              refine lv_iconst (v := 1) hx hb dX4_readOperands_119 zki_1 ?_
              refine lv_goto (tgt := 124) hx hb dX4_readOperands_120 (by decide) ?_
              refine lv_iload hx hb dX4_readOperands_124 (lv_at hl 0 rfl) ?_
              have kc_48 : (1 : Int32).toInt = 1 := zt_1
              refine q_ci (q_runU (As := [.int 1, .int r_38]) (rest := []) E (hml.trans hl.1.symm) hI (c_X3_passNumber l X σ_37 a (1 : Int32) r_38 (Or.inl ha)) ku_X4_145_4 ha ⟨rfl, by decide⟩ (show vwCl[3]? = some (RX4, TX4, 11) from rfl) rfl ⟨Nat.le_of_ble_eq_true rfl, Nat.le_of_ble_eq_true rfl⟩ ⟨Nat.le_refl _, Nat.le_refl _⟩ rfl (Nat.le_of_ble_eq_true rfl) dX4_readOperands_126) hI (Nat.le_of_ble_eq_true rfl) (fun r_49 σ_50 H locs hpσ_50 hkσ_50 hI => ?_)
              have ahpσ_50 := hpσ_50.1
              have bhpσ_50 := hpσ_50.2.1
              have chpσ_50 := hpσ_50.2.2
              clear hpσ_50
              have fr_σ_50 := fr_σ_37.call chpσ_50 rfl rfl
              replace hF := q_biX hF bhpσ_50
              refine lv_istore (lv' := [(5, .int r_49), (4, .int r_38), (0, .ref a), (1, .int v1), (2, .ref r2), (3, .int r_1)]) hx hb dX4_readOperands_129 hl (by decide) rfl (fun ls hl => ?_)
              refine lv_aload_n hx hb dX4_readOperands_131 rfl (lv_at hl 2 rfl) ?_
              refine gs_X4_12_4 E hI ha dX4_readOperands_132 ?_
              refine gs_X4_149_8 E hI (q_tk (k' := 8) hI ha rfl (Nat.succ_ne_zero _)) dX4_readOperands_135 ?_
              refine lv_iload_n hx hb dX4_readOperands_138 rfl (lv_at hl 3 rfl) ?_
              refine lv_iload hx hb dX4_readOperands_139 (lv_at hl 0 rfl) ?_
              refine q_cv (q_rV4_2 (rest := []) E (hml.trans hl.1.symm) hI (c_X5_set l X σ_50 (q_rf X (q_rf X a 8) 7) v1 r_49 (q_tk (k' := 5) hI (q_tk (k' := 8) hI ha rfl (Nat.succ_ne_zero _)) rfl (Nat.succ_ne_zero _))) kv_X4_73 (q_tk (k' := 5) hI (q_tk (k' := 8) hI ha rfl (Nat.succ_ne_zero _)) rfl (Nat.succ_ne_zero _)) ⟨Nat.le_of_ble_eq_true rfl, Nat.le_of_ble_eq_true rfl⟩ (Nat.le_of_ble_eq_true rfl) dX4_readOperands_141) hI (Nat.le_of_ble_eq_true rfl) (fun σ_52 H locs hpσ_52 hkσ_52 hI => ?_)
              have ahpσ_52 := hpσ_52.1
              have bhpσ_52 := hpσ_52.2
              clear hpσ_52
              have fr_σ_52 := fr_σ_50.call bhpσ_52 rfl rfl
              replace hF := q_letX hF ahpσ_52
              refine lv_iload hx hb dX4_readOperands_144 (lv_at hl 0 rfl) ?_
              refine lv_iconst (v := (-1)) hx hb dX4_readOperands_146 zki_m1 ?_
              refine q_icmp_eq (A := r_49.toInt) (B := (-1)) E rfl (by decide) (tgt := 154) dX4_readOperands_147 (by decide) (fun c_53 => ?_) (fun c_53 => ?_)
              · skip
                replace hF := q_ifp hF c_53
                refine lv_iconst (v := 0) hx hb dX4_readOperands_154 zki_0 ?_
                have hrv : (0 : Int32).toInt = 0 := zt_0
                exact q_retz E hr hlk hI ⟨by decide, by decide⟩ ⟨⟨by decide, by decide⟩, (hF.trans hout), fr_σ_52⟩ dX4_readOperands_155
              · skip
                replace hF := q_ifn hF c_53
                refine lv_iconst (v := 1) hx hb dX4_readOperands_150 zki_1 ?_
                refine lv_goto (tgt := 155) hx hb dX4_readOperands_151 (by decide) ?_
                have hrv : (1 : Int32).toInt = 1 := zt_1
                exact q_retz E hr hlk hI ⟨by decide, by decide⟩ ⟨⟨by decide, by decide⟩, (hF.trans hout), fr_σ_52⟩ dX4_readOperands_155
          · skip
            replace hF := q_ifp hF c_40
            refine lv_iconst (v := 1) hx hb dX4_readOperands_111 zki_1 ?_
            have hrv : (1 : Int32).toInt = 1 := zt_1
            exact q_retz E hr hlk hI ⟨by decide, by decide⟩ ⟨⟨by decide, by decide⟩, (hF.trans hout), fr_σ_37⟩ dX4_readOperands_112
        · skip
          replace hF := q_ifp hF c_33
          refine lv_aload_n hx hb dX4_readOperands_76 rfl (lv_at hl 1 rfl) ?_
          refine lv_iconst (v := 2) hx hb dX4_readOperands_77 zki_2 ?_
          have kc_54 : (2 : Int32).toInt = 2 := zt_2
          refine q_ci (q_runU (As := [.int 2]) (rest := []) E (hml.trans hl.1.symm) hI (c_X3_fails l X σ_5 a (2 : Int32) (Or.inl ha)) ku_X4_59_4 ha ⟨rfl, by decide⟩ (show vwCl[3]? = some (RX4, TX4, 11) from rfl) rfl ⟨Nat.le_of_ble_eq_true rfl, Nat.le_of_ble_eq_true rfl⟩ ⟨Nat.le_refl _, Nat.le_refl _⟩ rfl (Nat.le_of_ble_eq_true rfl) dX4_readOperands_78) hI (Nat.le_of_ble_eq_true rfl) (fun r_55 σ_56 H locs hpσ_56 hkσ_56 hI => ?_)
          have ahpσ_56 := hpσ_56.1
          have bhpσ_56 := hpσ_56.2.1
          have chpσ_56 := hpσ_56.2.2.1
          have dhpσ_56 := hpσ_56.2.2.2
          clear hpσ_56
          have fr_σ_56 := fr_σ_5.call dhpσ_56 rfl rfl
          replace hF := q_biX hF chpσ_56
          exact q_retz E hr hlk hI ⟨by omega, by omega⟩ ⟨⟨by omega, by omega⟩, (hF.trans hout), fr_σ_56⟩ dX4_readOperands_81
  refine q_if_eq (A := r_3.toInt) E rfl (tgt := 47) dX4_readOperands_16 (by decide) (fun c_57 => ?_) (fun c_57 => ?_)
  · skip
    replace hF := q_ifp hF c_57
    exact J_47_5 σ _ _ ls fr_σ hF hI (lv_sub hl [1, 2, 3, 0] rfl)
  · skip
    replace hF := q_ifn hF c_57
    replace c_57 := q_ifOne bhpσ_4 c_57
    refine lv_aload_n hx hb dX4_readOperands_19 rfl (lv_at hl 1 rfl) ?_
    refine lv_aload_n hx hb dX4_readOperands_20 rfl (lv_at hl 3 rfl) ?_
    refine q_ci (q_runU (As := [.ref r2]) (rest := []) E (hml.trans hl.1.symm) hI (c_X3_passPlayer l X σ a r2 (Or.inl ha) hr2) ku_X4_126_4 ha ⟨rfl, by decide⟩ (show vwCl[3]? = some (RX4, TX4, 11) from rfl) rfl ⟨Nat.le_of_ble_eq_true rfl, Nat.le_of_ble_eq_true rfl⟩ ⟨Nat.le_refl _, Nat.le_refl _⟩ rfl (Nat.le_of_ble_eq_true rfl) dX4_readOperands_21) hI (Nat.le_of_ble_eq_true rfl) (fun r_58 σ_59 H locs hpσ_59 hkσ_59 hI => ?_)
    have ahpσ_59 := hpσ_59.1
    have bhpσ_59 := hpσ_59.2
    clear hpσ_59
    have fr_σ_59 := fr_σ.call bhpσ_59 rfl rfl
    replace hF := q_biX hF ahpσ_59
    refine lv_istore (lv' := [(4, .int r_58), (3, .int r_1), (0, .ref a), (1, .int v1), (2, .ref r2)]) hx hb dX4_readOperands_24 hl (by decide) rfl (fun ls hl => ?_)
    refine lv_iload hx hb dX4_readOperands_26 (lv_at hl 0 rfl) ?_
    refine lv_iconst (v := (-1)) hx hb dX4_readOperands_28 zki_m1 ?_
    refine q_icmp_ne (A := r_58.toInt) (B := (-1)) E rfl (by decide) (tgt := 34) dX4_readOperands_29 (by decide) (fun c_60 => ?_) (fun c_60 => ?_)
    · skip
      replace hF := q_ifn hF c_60
      refine lv_aload_n hx hb dX4_readOperands_34 rfl (lv_at hl 2 rfl) ?_
      refine gs_X4_12_4 E hI ha dX4_readOperands_35 ?_
      refine gs_X4_130_8 E hI (q_tk (k' := 8) hI ha rfl (Nat.succ_ne_zero _)) dX4_readOperands_38 ?_
      refine lv_iload_n hx hb dX4_readOperands_41 rfl (lv_at hl 3 rfl) ?_
      refine lv_iload hx hb dX4_readOperands_42 (lv_at hl 0 rfl) ?_
      refine q_cv (q_rV4_2 (rest := []) E (hml.trans hl.1.symm) hI (c_X5_set l X σ_59 (q_rf X (q_rf X a 8) 5) v1 r_58 (q_tk (k' := 5) hI (q_tk (k' := 8) hI ha rfl (Nat.succ_ne_zero _)) rfl (Nat.succ_ne_zero _))) kv_X4_73 (q_tk (k' := 5) hI (q_tk (k' := 8) hI ha rfl (Nat.succ_ne_zero _)) rfl (Nat.succ_ne_zero _)) ⟨Nat.le_of_ble_eq_true rfl, Nat.le_of_ble_eq_true rfl⟩ (Nat.le_of_ble_eq_true rfl) dX4_readOperands_44) hI (Nat.le_of_ble_eq_true rfl) (fun σ_62 H locs hpσ_62 hkσ_62 hI => ?_)
      have ahpσ_62 := hpσ_62.1
      have bhpσ_62 := hpσ_62.2
      clear hpσ_62
      have fr_σ_62 := fr_σ_59.call bhpσ_62 rfl rfl
      replace hF := q_letX hF ahpσ_62
      exact J_47_5 σ_62 _ _ ls fr_σ_62 hF hI (lv_sub hl [2, 3, 4, 1] rfl)
    · skip
      replace hF := q_ifp hF c_60
      refine lv_iconst (v := 0) hx hb dX4_readOperands_32 zki_0 ?_
      have hrv : (0 : Int32).toInt = 0 := zt_0
      exact q_retz E hr hlk hI ⟨by decide, by decide⟩ ⟨⟨by decide, by decide⟩, (hF.trans hout), fr_σ_59⟩ dX4_readOperands_33

set_option maxRecDepth 100000 in
set_option maxHeartbeats 4000000 in
theorem c_X4_readStep (l : Launch) (X : XW) (σ : ST) (a : Nat) (r1 : Nat) (ha : q_kd X a = 4) (hr1 : q_kd X r1 = 6) : Met l yX4_readStep (q_ws yX4_readStep cX4_readStep 5 (some .boolean)) (q_rm 8 175) (q_P X σ [.ref a, .ref r1]) (q_Qi X 8 σ (fun (r : Int32) (σ' : ST) => (0 ≤ r.toInt ∧ r.toInt ≤ 1) ∧ (r, σ') = F_X4_readStep X σ a r1 ∧ q_ow [(4, 2), (4, 3), (4, 4), (4, 5), (4, 6), (4, 7), (4, 10), (8, 1), (8, 2), (9, 2), (9, 3), (9, 4), (9, 5), (9, 6), (9, 7), (20, 99)] [] X σ σ')) 0 0 (q_reg X) := by
  refine q_met 8 (by first | exact rfl | decide +kernel) rfl (Nat.le_of_ble_eq_true rfl) (fun p e s m below meth c E hml hr hlk hI ls hl => ?_)
  have hx := E.1
  have hb := E.2.1
  have hl : lv_has ls 5 [(0, .ref a), (1, .ref r1)] := hl
  have fr_σ : q_ow [(4, 2), (4, 3), (4, 4), (4, 5), (4, 6), (4, 7), (4, 10), (8, 1), (8, 2), (9, 2), (9, 3), (9, 4), (9, 5), (9, 6), (9, 7), (20, 99)] [] X σ σ := q_ow.rf
  obtain ⟨out, hout⟩ : ∃ o, o = F_X4_readStep X σ a r1 := ⟨_, rfl⟩
  have hF := hout.symm
  unfold F_X4_readStep at hF
  refine lv_aload_n hx hb dX4_readStep_0 rfl (lv_at hl 0 rfl) ?_
  refine q_ci (q_rV3_0 (rest := []) E (hml.trans hl.1.symm) hI (c_X4_actionHere l X σ a ha) kv_X4_83 ha ⟨Nat.le_of_ble_eq_true rfl, Nat.le_of_ble_eq_true rfl⟩ (Nat.le_of_ble_eq_true rfl) dX4_readStep_1) hI (Nat.le_of_ble_eq_true rfl) (fun r_1 σ_2 H locs hpσ_2 hkσ_2 hI => ?_)
  have ahpσ_2 := hpσ_2.1
  have bhpσ_2 := hpσ_2.2
  clear hpσ_2
  replace hI := q_Irw ahpσ_2 hI
  replace hF := q_letX hF bhpσ_2
  refine lv_istore_n (lv' := [(2, .int r_1), (0, .ref a), (1, .ref r1)]) hx hb dX4_readStep_4 rfl hl (by decide) rfl (fun ls hl => ?_)
  refine lv_iload_n hx hb dX4_readStep_5 rfl (lv_at hl 0 rfl) ?_
  refine lv_iconst (v := (-1)) hx hb dX4_readStep_6 zki_m1 ?_
  refine q_icmp_ne (A := r_1.toInt) (B := (-1)) E rfl (by decide) (tgt := 16) dX4_readStep_7 (by decide) (fun c_3 => ?_) (fun c_3 => ?_)
  · skip
    replace hF := q_ifn hF c_3
    refine lv_aload_n hx hb dX4_readStep_16 rfl (lv_at hl 1 rfl) ?_
    refine gs_X4_12_4 E hI ha dX4_readStep_17 ?_
    refine gs_X4_87_8 E hI (q_tk (k' := 8) hI ha rfl (Nat.succ_ne_zero _)) dX4_readStep_20 ?_
    refine lv_topi (fun f_4 ef_4 => ?_)
    replace hF := q_letX hF ef_4
    refine lv_bipush (v := 30) hx hb dX4_readStep_23 zkb_30 ?_
    refine q_icmp_lt (A := f_4.toInt) (B := 30) E rfl (by decide) (tgt := 35) dX4_readStep_25 (by decide) (fun c_5 => ?_) (fun c_5 => ?_)
    · skip
      replace hF := q_ifp hF c_5
      refine lv_iload_n hx hb dX4_readStep_35 rfl (lv_at hl 0 rfl) ?_
      refine lv_iconst (v := 4) hx hb dX4_readStep_36 zki_4 ?_
      have J_47_5 : ∀  (H : Heap) (locs : List Loc) (ls : Array Slot), (F_X4_readStep_J47_1 X σ a r_1 r1 = out) → q_I X 8 σ s.heap locs σ H → lv_has ls 5 [(0, .ref a), (1, .ref r1), (2, .int r_1)] → W p l e (q_rm 8 175) s m ([.ref a, .ref r1] : List Value).toArray below meth c H locs 0 0 (MQ below (q_Qi X 8 σ (fun (r : Int32) (σ' : ST) => (0 ≤ r.toInt ∧ r.toInt ≤ 1) ∧ (r, σ') = F_X4_readStep X σ a r1 ∧ q_ow [(4, 2), (4, 3), (4, 4), (4, 5), (4, 6), (4, 7), (4, 10), (8, 1), (8, 2), (9, 2), (9, 3), (9, 4), (9, 5), (9, 6), (9, 7), (20, 99)] [] X σ σ')) ([.ref a, .ref r1] : List Value).toArray s 0 0 (q_reg X)) (F0 m 47 ls []) := by
        clear hF
        intro  H locs ls  hF hI hl
        unfold F_X4_readStep_J47_1 at hF
        refine lv_iconst (v := 1) hx hb dX4_readStep_47 zki_1 ?_
        refine lv_goto (tgt := 52) hx hb dX4_readStep_48 (by decide) ?_
        refine lv_istore_n (lv' := [(3, .int 1), (0, .ref a), (1, .ref r1), (2, .int r_1)]) hx hb dX4_readStep_52 rfl hl (by decide) rfl (fun ls hl => ?_)
        refine lv_iload_n hx hb dX4_readStep_53 rfl (lv_at hl 0 rfl) ?_
        have J_72_5 : ∀  (H : Heap) (locs : List Loc) (ls : Array Slot), (F_X4_readStep_J72_2 X σ a r_1 r1 = out) → q_I X 8 σ s.heap locs σ H → lv_has ls 5 [(0, .ref a), (1, .ref r1), (2, .int r_1), (3, .int 1)] → W p l e (q_rm 8 175) s m ([.ref a, .ref r1] : List Value).toArray below meth c H locs 0 0 (MQ below (q_Qi X 8 σ (fun (r : Int32) (σ' : ST) => (0 ≤ r.toInt ∧ r.toInt ≤ 1) ∧ (r, σ') = F_X4_readStep X σ a r1 ∧ q_ow [(4, 2), (4, 3), (4, 4), (4, 5), (4, 6), (4, 7), (4, 10), (8, 1), (8, 2), (9, 2), (9, 3), (9, 4), (9, 5), (9, 6), (9, 7), (20, 99)] [] X σ σ')) ([.ref a, .ref r1] : List Value).toArray s 0 0 (q_reg X)) (F0 m 72 ls []) := by
          clear hF
          intro  H locs ls  hF hI hl
          unfold F_X4_readStep_J72_2 at hF
          refine lv_aload_n hx hb dX4_readStep_72 rfl (lv_at hl 0 rfl) ?_
          refine gs_X4_12_4 E hI ha dX4_readStep_73 ?_
          refine lv_iload_n hx hb dX4_readStep_76 rfl (lv_at hl 2 rfl) ?_
          refine q_ci (q_rV7_1 (rest := []) E (hml.trans hl.1.symm) hI (c_X8_add l X σ (q_rf X a 8) r_1 (q_tk (k' := 8) hI ha rfl (Nat.succ_ne_zero _))) kv_X4_67 (q_tk (k' := 8) hI ha rfl (Nat.succ_ne_zero _)) ⟨Nat.le_of_ble_eq_true rfl, Nat.le_of_ble_eq_true rfl⟩ (Nat.le_of_ble_eq_true rfl) dX4_readStep_77) hI (Nat.le_of_ble_eq_true rfl) (fun r_6 σ_7 H locs hpσ_7 hkσ_7 hI => ?_)
          have ahpσ_7 := hpσ_7.1
          have bhpσ_7 := hpσ_7.2
          clear hpσ_7
          have fr_σ_7 := fr_σ.call bhpσ_7 rfl rfl
          replace hF := q_biX hF ahpσ_7
          refine lv_istore (lv' := [(4, .int r_6), (0, .ref a), (1, .ref r1), (2, .int r_1), (3, .int 1)]) hx hb dX4_readStep_80 hl (by decide) rfl (fun ls hl => ?_)
          refine lv_aload_n hx hb dX4_readStep_82 rfl (lv_at hl 1 rfl) ?_
          refine gs_X4_12_4 E hI ha dX4_readStep_83 ?_
          refine lv_dup hx hb dX4_readStep_86 rfl ?_
          refine gs_X4_87_8 E hI (q_tk (k' := 8) hI ha rfl (Nat.succ_ne_zero _)) dX4_readStep_87 ?_
          refine lv_topi (fun f_8 ef_8 => ?_)
          replace hF := q_letX hF ef_8
          refine lv_iconst (v := 1) hx hb dX4_readStep_90 zki_1 ?_
          refine lv_iadd hx hb dX4_readStep_91 ?_
          refine lv_topi (fun z_9 ez_9 => ?_)
          replace hF := q_letX hF ez_9
          refine ps_X4_87_8 E hI (q_tk (k' := 8) hI ha rfl (Nat.succ_ne_zero _)) (by decide) dX4_readStep_92 (fun H locs σ_10 hσ_10 hI => ?_)
          replace hF := q_letX hF hσ_10
          have fr_σ_10 := fr_σ_7.si hσ_10 (q_tk (k' := 8) hI ha rfl (Nat.succ_ne_zero _)) rfl
          refine lv_iload_n hx hb dX4_readStep_95 rfl (lv_at hl 4 rfl) ?_
          refine q_if_eq (A := 1) E (by decide) (tgt := 122) dX4_readStep_96 (by decide) (fun c_11 => ?_) (fun c_11 => ?_)
          · skip
            replace hF := q_ifp hF c_11
            refine lv_aload_n hx hb dX4_readStep_122 rfl (lv_at hl 1 rfl) ?_
            refine q_cv (q_runU (As := []) (rest := []) E (hml.trans hl.1.symm) hI (c_X3_advance l X σ_10 a (Or.inl ha)) ku_X4_77_4 ha ⟨rfl, by decide⟩ (show vwCl[3]? = some (RX4, TX4, 11) from rfl) rfl ⟨Nat.le_of_ble_eq_true rfl, Nat.le_of_ble_eq_true rfl⟩ ⟨Nat.le_refl _, Nat.le_refl _⟩ rfl (Nat.le_of_ble_eq_true rfl) dX4_readStep_123) hI (Nat.le_of_ble_eq_true rfl) (fun σ_13 H locs hpσ_13 hkσ_13 hI => ?_)
            have ahpσ_13 := hpσ_13.1
            have bhpσ_13 := hpσ_13.2
            clear hpσ_13
            have fr_σ_13 := fr_σ_10.call bhpσ_13 rfl rfl
            replace hF := q_letX hF ahpσ_13
            refine lv_iload_n hx hb dX4_readStep_126 rfl (lv_at hl 3 rfl) ?_
            refine q_ci (q_runS (As := [.int r_1]) (rest := []) E (hml.trans hl.1.symm) hI (c_X8_isWhen l X σ_13 r_1) ks_X4_90 rfl ⟨Nat.le_of_ble_eq_true rfl, Nat.le_of_ble_eq_true rfl⟩ ⟨Nat.le_refl _, Nat.le_refl _⟩ rfl (Nat.le_of_ble_eq_true rfl) dX4_readStep_127) hI (Nat.le_of_ble_eq_true rfl) (fun r_14 σ_15 H locs hpσ_15 hkσ_15 hI => ?_)
            have ahpσ_15 := hpσ_15.1
            have bhpσ_15 := hpσ_15.2.1
            have chpσ_15 := hpσ_15.2.2
            clear hpσ_15
            replace hI := q_Irw ahpσ_15 hI
            replace hF := q_letX hF chpσ_15
            refine q_if_eq (A := r_14.toInt) E rfl (tgt := 144) dX4_readStep_130 (by decide) (fun c_16 => ?_) (fun c_16 => ?_)
            · skip
              replace hF := q_ifp hF c_16
              refine lv_aload_n hx hb dX4_readStep_144 rfl (lv_at hl 1 rfl) ?_
              refine lv_iload hx hb dX4_readStep_145 (lv_at hl 0 rfl) ?_
              refine lv_aload_n hx hb dX4_readStep_147 rfl (lv_at hl 2 rfl) ?_
              refine q_ci (q_rV3_2 (rest := []) E (hml.trans hl.1.symm) hI (c_X4_readOperands l X σ_13 a r_6 r1 ha hr1) kv_X4_96 ha ⟨Nat.le_of_ble_eq_true rfl, Nat.le_of_ble_eq_true rfl⟩ (Nat.le_of_ble_eq_true rfl) dX4_readStep_148) hI (Nat.le_of_ble_eq_true rfl) (fun r_17 σ_18 H locs hpσ_18 hkσ_18 hI => ?_)
              have ahpσ_18 := hpσ_18.1
              have bhpσ_18 := hpσ_18.2.1
              have chpσ_18 := hpσ_18.2.2
              clear hpσ_18
              have fr_σ_18 := fr_σ_13.call chpσ_18 rfl rfl
              replace hF := q_biX hF bhpσ_18
              refine q_if_eq (A := r_17.toInt) E rfl (tgt := 165) dX4_readStep_151 (by decide) (fun c_19 => ?_) (fun c_19 => ?_)
              · skip
                replace hF := q_ifp hF c_19
                refine lv_iconst (v := 0) hx hb dX4_readStep_165 zki_0 ?_
                have hrv : (0 : Int32).toInt = 0 := zt_0
                exact q_retz E hr hlk hI ⟨by decide, by decide⟩ ⟨⟨by decide, by decide⟩, (hF.trans hout), fr_σ_18⟩ dX4_readStep_166
              · skip
                replace hF := q_ifn hF c_19
                replace c_19 := q_ifOne ahpσ_18 c_19
                refine lv_aload_n hx hb dX4_readStep_154 rfl (lv_at hl 1 rfl) ?_
                refine q_ci (q_runU (As := []) (rest := []) E (hml.trans hl.1.symm) hI (c_X3_passSemicolon l X σ_18 a (Or.inl ha)) ku_X4_80_4 ha ⟨rfl, by decide⟩ (show vwCl[3]? = some (RX4, TX4, 11) from rfl) rfl ⟨Nat.le_of_ble_eq_true rfl, Nat.le_of_ble_eq_true rfl⟩ ⟨Nat.le_refl _, Nat.le_refl _⟩ rfl (Nat.le_of_ble_eq_true rfl) dX4_readStep_155) hI (Nat.le_of_ble_eq_true rfl) (fun r_20 σ_21 H locs hpσ_21 hkσ_21 hI => ?_)
                have ahpσ_21 := hpσ_21.1
                have bhpσ_21 := hpσ_21.2.1
                have chpσ_21 := hpσ_21.2.2
                clear hpσ_21
                have fr_σ_21 := fr_σ_18.call chpσ_21 rfl rfl
                replace hF := q_biX hF bhpσ_21
                refine q_if_eq (A := r_20.toInt) E rfl (tgt := 165) dX4_readStep_158 (by decide) (fun c_22 => ?_) (fun c_22 => ?_)
                · skip
                  replace hF := q_ifp hF c_22
                  refine lv_iconst (v := 0) hx hb dX4_readStep_165 zki_0 ?_
                  have hrv : (0 : Int32).toInt = 0 := zt_0
                  exact q_retz E hr hlk hI ⟨by decide, by decide⟩ ⟨⟨by decide, by decide⟩, (hF.trans hout), fr_σ_21⟩ dX4_readStep_166
                · skip
                  replace hF := q_ifn hF c_22
                  replace c_22 := q_ifOne ahpσ_21 c_22
                  refine lv_iconst (v := 1) hx hb dX4_readStep_161 zki_1 ?_
                  refine lv_goto (tgt := 166) hx hb dX4_readStep_162 (by decide) ?_
                  have hrv : (1 : Int32).toInt = 1 := zt_1
                  exact q_retz E hr hlk hI ⟨by decide, by decide⟩ ⟨⟨by decide, by decide⟩, (hF.trans hout), fr_σ_21⟩ dX4_readStep_166
            · skip
              replace hF := q_ifn hF c_16
              replace c_16 := q_ifOne bhpσ_15 c_16
              refine lv_aload_n hx hb dX4_readStep_133 rfl (lv_at hl 1 rfl) ?_
              refine lv_iload hx hb dX4_readStep_134 (lv_at hl 0 rfl) ?_
              refine q_ci (q_rV3_1 (rest := []) E (hml.trans hl.1.symm) hI (c_X4_readTest l X σ_13 a r_6 ha) kv_X4_93 ha ⟨Nat.le_of_ble_eq_true rfl, Nat.le_of_ble_eq_true rfl⟩ (Nat.le_of_ble_eq_true rfl) dX4_readStep_136) hI (Nat.le_of_ble_eq_true rfl) (fun r_23 σ_24 H locs hpσ_24 hkσ_24 hI => ?_)
              have ahpσ_24 := hpσ_24.1
              have bhpσ_24 := hpσ_24.2.1
              have chpσ_24 := hpσ_24.2.2
              clear hpσ_24
              have fr_σ_24 := fr_σ_13.call chpσ_24 rfl rfl
              replace hF := q_biX hF bhpσ_24
              refine q_if_ne (A := r_23.toInt) E rfl (tgt := 144) dX4_readStep_139 (by decide) (fun c_25 => ?_) (fun c_25 => ?_)
              · skip
                replace hF := q_ifn hF c_25
                replace c_25 := q_ifOne ahpσ_24 c_25
                refine lv_aload_n hx hb dX4_readStep_144 rfl (lv_at hl 1 rfl) ?_
                refine lv_iload hx hb dX4_readStep_145 (lv_at hl 0 rfl) ?_
                refine lv_aload_n hx hb dX4_readStep_147 rfl (lv_at hl 2 rfl) ?_
                refine q_ci (q_rV3_2 (rest := []) E (hml.trans hl.1.symm) hI (c_X4_readOperands l X σ_24 a r_6 r1 ha hr1) kv_X4_96 ha ⟨Nat.le_of_ble_eq_true rfl, Nat.le_of_ble_eq_true rfl⟩ (Nat.le_of_ble_eq_true rfl) dX4_readStep_148) hI (Nat.le_of_ble_eq_true rfl) (fun r_26 σ_27 H locs hpσ_27 hkσ_27 hI => ?_)
                have ahpσ_27 := hpσ_27.1
                have bhpσ_27 := hpσ_27.2.1
                have chpσ_27 := hpσ_27.2.2
                clear hpσ_27
                have fr_σ_27 := fr_σ_24.call chpσ_27 rfl rfl
                replace hF := q_biX hF bhpσ_27
                refine q_if_eq (A := r_26.toInt) E rfl (tgt := 165) dX4_readStep_151 (by decide) (fun c_28 => ?_) (fun c_28 => ?_)
                · skip
                  replace hF := q_ifp hF c_28
                  refine lv_iconst (v := 0) hx hb dX4_readStep_165 zki_0 ?_
                  have hrv : (0 : Int32).toInt = 0 := zt_0
                  exact q_retz E hr hlk hI ⟨by decide, by decide⟩ ⟨⟨by decide, by decide⟩, (hF.trans hout), fr_σ_27⟩ dX4_readStep_166
                · skip
                  replace hF := q_ifn hF c_28
                  replace c_28 := q_ifOne ahpσ_27 c_28
                  refine lv_aload_n hx hb dX4_readStep_154 rfl (lv_at hl 1 rfl) ?_
                  refine q_ci (q_runU (As := []) (rest := []) E (hml.trans hl.1.symm) hI (c_X3_passSemicolon l X σ_27 a (Or.inl ha)) ku_X4_80_4 ha ⟨rfl, by decide⟩ (show vwCl[3]? = some (RX4, TX4, 11) from rfl) rfl ⟨Nat.le_of_ble_eq_true rfl, Nat.le_of_ble_eq_true rfl⟩ ⟨Nat.le_refl _, Nat.le_refl _⟩ rfl (Nat.le_of_ble_eq_true rfl) dX4_readStep_155) hI (Nat.le_of_ble_eq_true rfl) (fun r_29 σ_30 H locs hpσ_30 hkσ_30 hI => ?_)
                  have ahpσ_30 := hpσ_30.1
                  have bhpσ_30 := hpσ_30.2.1
                  have chpσ_30 := hpσ_30.2.2
                  clear hpσ_30
                  have fr_σ_30 := fr_σ_27.call chpσ_30 rfl rfl
                  replace hF := q_biX hF bhpσ_30
                  refine q_if_eq (A := r_29.toInt) E rfl (tgt := 165) dX4_readStep_158 (by decide) (fun c_31 => ?_) (fun c_31 => ?_)
                  · skip
                    replace hF := q_ifp hF c_31
                    refine lv_iconst (v := 0) hx hb dX4_readStep_165 zki_0 ?_
                    have hrv : (0 : Int32).toInt = 0 := zt_0
                    exact q_retz E hr hlk hI ⟨by decide, by decide⟩ ⟨⟨by decide, by decide⟩, (hF.trans hout), fr_σ_30⟩ dX4_readStep_166
                  · skip
                    replace hF := q_ifn hF c_31
                    replace c_31 := q_ifOne ahpσ_30 c_31
                    refine lv_iconst (v := 1) hx hb dX4_readStep_161 zki_1 ?_
                    refine lv_goto (tgt := 166) hx hb dX4_readStep_162 (by decide) ?_
                    have hrv : (1 : Int32).toInt = 1 := zt_1
                    exact q_retz E hr hlk hI ⟨by decide, by decide⟩ ⟨⟨by decide, by decide⟩, (hF.trans hout), fr_σ_30⟩ dX4_readStep_166
              · skip
                replace hF := q_ifp hF c_25
                refine lv_iconst (v := 0) hx hb dX4_readStep_142 zki_0 ?_
                have hrv : (0 : Int32).toInt = 0 := zt_0
                exact q_retz E hr hlk hI ⟨by decide, by decide⟩ ⟨⟨by decide, by decide⟩, (hF.trans hout), fr_σ_24⟩ dX4_readStep_143
          · skip
            replace hF := q_ifn hF c_11
            refine lv_aload_n hx hb dX4_readStep_99 rfl (lv_at hl 1 rfl) ?_
            refine gs_X4_23_4 E hI ha dX4_readStep_100 ?_
            refine lv_aload_n hx hb dX4_readStep_103 rfl (lv_at hl 1 rfl) ?_
            refine gs_X4_27_4 E hI ha dX4_readStep_104 ?_
            refine lv_topi (fun f_32 ef_32 => ?_)
            replace hF := q_letX hF ef_32
            refine lv_iload hx hb dX4_readStep_107 (lv_at hl 0 rfl) ?_
            refine q_cv (q_rV4_2 (rest := []) E (hml.trans hl.1.symm) hI (c_X5_set l X σ_10 (q_rf X a 9) f_32 r_6 (q_tk (k' := 5) hI ha rfl (Nat.succ_ne_zero _))) kv_X4_73 (q_tk (k' := 5) hI ha rfl (Nat.succ_ne_zero _)) ⟨Nat.le_of_ble_eq_true rfl, Nat.le_of_ble_eq_true rfl⟩ (Nat.le_of_ble_eq_true rfl) dX4_readStep_109) hI (Nat.le_of_ble_eq_true rfl) (fun σ_34 H locs hpσ_34 hkσ_34 hI => ?_)
            have ahpσ_34 := hpσ_34.1
            have bhpσ_34 := hpσ_34.2
            clear hpσ_34
            have fr_σ_34 := fr_σ_10.call bhpσ_34 rfl rfl
            replace hF := q_letX hF ahpσ_34
            refine lv_aload_n hx hb dX4_readStep_112 rfl (lv_at hl 1 rfl) ?_
            refine lv_dup hx hb dX4_readStep_113 rfl ?_
            refine gs_X4_27_4 E hI ha dX4_readStep_114 ?_
            refine lv_topi (fun f_35 ef_35 => ?_)
            replace hF := q_letX hF ef_35
            refine lv_iconst (v := 1) hx hb dX4_readStep_117 zki_1 ?_
            refine lv_iadd hx hb dX4_readStep_118 ?_
            refine lv_topi (fun z_36 ez_36 => ?_)
            replace hF := q_letX hF ez_36
            refine ps_X4_27_4 E hI ha (by decide) dX4_readStep_119 (fun H locs σ_37 hσ_37 hI => ?_)
            replace hF := q_letX hF hσ_37
            have fr_σ_37 := fr_σ_34.si hσ_37 ha rfl
            refine lv_aload_n hx hb dX4_readStep_122 rfl (lv_at hl 1 rfl) ?_
            refine q_cv (q_runU (As := []) (rest := []) E (hml.trans hl.1.symm) hI (c_X3_advance l X σ_37 a (Or.inl ha)) ku_X4_77_4 ha ⟨rfl, by decide⟩ (show vwCl[3]? = some (RX4, TX4, 11) from rfl) rfl ⟨Nat.le_of_ble_eq_true rfl, Nat.le_of_ble_eq_true rfl⟩ ⟨Nat.le_refl _, Nat.le_refl _⟩ rfl (Nat.le_of_ble_eq_true rfl) dX4_readStep_123) hI (Nat.le_of_ble_eq_true rfl) (fun σ_39 H locs hpσ_39 hkσ_39 hI => ?_)
            have ahpσ_39 := hpσ_39.1
            have bhpσ_39 := hpσ_39.2
            clear hpσ_39
            have fr_σ_39 := fr_σ_37.call bhpσ_39 rfl rfl
            replace hF := q_letX hF ahpσ_39
            refine lv_iload_n hx hb dX4_readStep_126 rfl (lv_at hl 3 rfl) ?_
            refine q_ci (q_runS (As := [.int r_1]) (rest := []) E (hml.trans hl.1.symm) hI (c_X8_isWhen l X σ_39 r_1) ks_X4_90 rfl ⟨Nat.le_of_ble_eq_true rfl, Nat.le_of_ble_eq_true rfl⟩ ⟨Nat.le_refl _, Nat.le_refl _⟩ rfl (Nat.le_of_ble_eq_true rfl) dX4_readStep_127) hI (Nat.le_of_ble_eq_true rfl) (fun r_40 σ_41 H locs hpσ_41 hkσ_41 hI => ?_)
            have ahpσ_41 := hpσ_41.1
            have bhpσ_41 := hpσ_41.2.1
            have chpσ_41 := hpσ_41.2.2
            clear hpσ_41
            replace hI := q_Irw ahpσ_41 hI
            replace hF := q_letX hF chpσ_41
            refine q_if_eq (A := r_40.toInt) E rfl (tgt := 144) dX4_readStep_130 (by decide) (fun c_42 => ?_) (fun c_42 => ?_)
            · skip
              replace hF := q_ifp hF c_42
              refine lv_aload_n hx hb dX4_readStep_144 rfl (lv_at hl 1 rfl) ?_
              refine lv_iload hx hb dX4_readStep_145 (lv_at hl 0 rfl) ?_
              refine lv_aload_n hx hb dX4_readStep_147 rfl (lv_at hl 2 rfl) ?_
              refine q_ci (q_rV3_2 (rest := []) E (hml.trans hl.1.symm) hI (c_X4_readOperands l X σ_39 a r_6 r1 ha hr1) kv_X4_96 ha ⟨Nat.le_of_ble_eq_true rfl, Nat.le_of_ble_eq_true rfl⟩ (Nat.le_of_ble_eq_true rfl) dX4_readStep_148) hI (Nat.le_of_ble_eq_true rfl) (fun r_43 σ_44 H locs hpσ_44 hkσ_44 hI => ?_)
              have ahpσ_44 := hpσ_44.1
              have bhpσ_44 := hpσ_44.2.1
              have chpσ_44 := hpσ_44.2.2
              clear hpσ_44
              have fr_σ_44 := fr_σ_39.call chpσ_44 rfl rfl
              replace hF := q_biX hF bhpσ_44
              refine q_if_eq (A := r_43.toInt) E rfl (tgt := 165) dX4_readStep_151 (by decide) (fun c_45 => ?_) (fun c_45 => ?_)
              · skip
                replace hF := q_ifp hF c_45
                refine lv_iconst (v := 0) hx hb dX4_readStep_165 zki_0 ?_
                have hrv : (0 : Int32).toInt = 0 := zt_0
                exact q_retz E hr hlk hI ⟨by decide, by decide⟩ ⟨⟨by decide, by decide⟩, (hF.trans hout), fr_σ_44⟩ dX4_readStep_166
              · skip
                replace hF := q_ifn hF c_45
                replace c_45 := q_ifOne ahpσ_44 c_45
                refine lv_aload_n hx hb dX4_readStep_154 rfl (lv_at hl 1 rfl) ?_
                refine q_ci (q_runU (As := []) (rest := []) E (hml.trans hl.1.symm) hI (c_X3_passSemicolon l X σ_44 a (Or.inl ha)) ku_X4_80_4 ha ⟨rfl, by decide⟩ (show vwCl[3]? = some (RX4, TX4, 11) from rfl) rfl ⟨Nat.le_of_ble_eq_true rfl, Nat.le_of_ble_eq_true rfl⟩ ⟨Nat.le_refl _, Nat.le_refl _⟩ rfl (Nat.le_of_ble_eq_true rfl) dX4_readStep_155) hI (Nat.le_of_ble_eq_true rfl) (fun r_46 σ_47 H locs hpσ_47 hkσ_47 hI => ?_)
                have ahpσ_47 := hpσ_47.1
                have bhpσ_47 := hpσ_47.2.1
                have chpσ_47 := hpσ_47.2.2
                clear hpσ_47
                have fr_σ_47 := fr_σ_44.call chpσ_47 rfl rfl
                replace hF := q_biX hF bhpσ_47
                refine q_if_eq (A := r_46.toInt) E rfl (tgt := 165) dX4_readStep_158 (by decide) (fun c_48 => ?_) (fun c_48 => ?_)
                · skip
                  replace hF := q_ifp hF c_48
                  refine lv_iconst (v := 0) hx hb dX4_readStep_165 zki_0 ?_
                  have hrv : (0 : Int32).toInt = 0 := zt_0
                  exact q_retz E hr hlk hI ⟨by decide, by decide⟩ ⟨⟨by decide, by decide⟩, (hF.trans hout), fr_σ_47⟩ dX4_readStep_166
                · skip
                  replace hF := q_ifn hF c_48
                  replace c_48 := q_ifOne ahpσ_47 c_48
                  refine lv_iconst (v := 1) hx hb dX4_readStep_161 zki_1 ?_
                  refine lv_goto (tgt := 166) hx hb dX4_readStep_162 (by decide) ?_
                  have hrv : (1 : Int32).toInt = 1 := zt_1
                  exact q_retz E hr hlk hI ⟨by decide, by decide⟩ ⟨⟨by decide, by decide⟩, (hF.trans hout), fr_σ_47⟩ dX4_readStep_166
            · skip
              replace hF := q_ifn hF c_42
              replace c_42 := q_ifOne bhpσ_41 c_42
              refine lv_aload_n hx hb dX4_readStep_133 rfl (lv_at hl 1 rfl) ?_
              refine lv_iload hx hb dX4_readStep_134 (lv_at hl 0 rfl) ?_
              refine q_ci (q_rV3_1 (rest := []) E (hml.trans hl.1.symm) hI (c_X4_readTest l X σ_39 a r_6 ha) kv_X4_93 ha ⟨Nat.le_of_ble_eq_true rfl, Nat.le_of_ble_eq_true rfl⟩ (Nat.le_of_ble_eq_true rfl) dX4_readStep_136) hI (Nat.le_of_ble_eq_true rfl) (fun r_49 σ_50 H locs hpσ_50 hkσ_50 hI => ?_)
              have ahpσ_50 := hpσ_50.1
              have bhpσ_50 := hpσ_50.2.1
              have chpσ_50 := hpσ_50.2.2
              clear hpσ_50
              have fr_σ_50 := fr_σ_39.call chpσ_50 rfl rfl
              replace hF := q_biX hF bhpσ_50
              refine q_if_ne (A := r_49.toInt) E rfl (tgt := 144) dX4_readStep_139 (by decide) (fun c_51 => ?_) (fun c_51 => ?_)
              · skip
                replace hF := q_ifn hF c_51
                replace c_51 := q_ifOne ahpσ_50 c_51
                refine lv_aload_n hx hb dX4_readStep_144 rfl (lv_at hl 1 rfl) ?_
                refine lv_iload hx hb dX4_readStep_145 (lv_at hl 0 rfl) ?_
                refine lv_aload_n hx hb dX4_readStep_147 rfl (lv_at hl 2 rfl) ?_
                refine q_ci (q_rV3_2 (rest := []) E (hml.trans hl.1.symm) hI (c_X4_readOperands l X σ_50 a r_6 r1 ha hr1) kv_X4_96 ha ⟨Nat.le_of_ble_eq_true rfl, Nat.le_of_ble_eq_true rfl⟩ (Nat.le_of_ble_eq_true rfl) dX4_readStep_148) hI (Nat.le_of_ble_eq_true rfl) (fun r_52 σ_53 H locs hpσ_53 hkσ_53 hI => ?_)
                have ahpσ_53 := hpσ_53.1
                have bhpσ_53 := hpσ_53.2.1
                have chpσ_53 := hpσ_53.2.2
                clear hpσ_53
                have fr_σ_53 := fr_σ_50.call chpσ_53 rfl rfl
                replace hF := q_biX hF bhpσ_53
                refine q_if_eq (A := r_52.toInt) E rfl (tgt := 165) dX4_readStep_151 (by decide) (fun c_54 => ?_) (fun c_54 => ?_)
                · skip
                  replace hF := q_ifp hF c_54
                  refine lv_iconst (v := 0) hx hb dX4_readStep_165 zki_0 ?_
                  have hrv : (0 : Int32).toInt = 0 := zt_0
                  exact q_retz E hr hlk hI ⟨by decide, by decide⟩ ⟨⟨by decide, by decide⟩, (hF.trans hout), fr_σ_53⟩ dX4_readStep_166
                · skip
                  replace hF := q_ifn hF c_54
                  replace c_54 := q_ifOne ahpσ_53 c_54
                  refine lv_aload_n hx hb dX4_readStep_154 rfl (lv_at hl 1 rfl) ?_
                  refine q_ci (q_runU (As := []) (rest := []) E (hml.trans hl.1.symm) hI (c_X3_passSemicolon l X σ_53 a (Or.inl ha)) ku_X4_80_4 ha ⟨rfl, by decide⟩ (show vwCl[3]? = some (RX4, TX4, 11) from rfl) rfl ⟨Nat.le_of_ble_eq_true rfl, Nat.le_of_ble_eq_true rfl⟩ ⟨Nat.le_refl _, Nat.le_refl _⟩ rfl (Nat.le_of_ble_eq_true rfl) dX4_readStep_155) hI (Nat.le_of_ble_eq_true rfl) (fun r_55 σ_56 H locs hpσ_56 hkσ_56 hI => ?_)
                  have ahpσ_56 := hpσ_56.1
                  have bhpσ_56 := hpσ_56.2.1
                  have chpσ_56 := hpσ_56.2.2
                  clear hpσ_56
                  have fr_σ_56 := fr_σ_53.call chpσ_56 rfl rfl
                  replace hF := q_biX hF bhpσ_56
                  refine q_if_eq (A := r_55.toInt) E rfl (tgt := 165) dX4_readStep_158 (by decide) (fun c_57 => ?_) (fun c_57 => ?_)
                  · skip
                    replace hF := q_ifp hF c_57
                    refine lv_iconst (v := 0) hx hb dX4_readStep_165 zki_0 ?_
                    have hrv : (0 : Int32).toInt = 0 := zt_0
                    exact q_retz E hr hlk hI ⟨by decide, by decide⟩ ⟨⟨by decide, by decide⟩, (hF.trans hout), fr_σ_56⟩ dX4_readStep_166
                  · skip
                    replace hF := q_ifn hF c_57
                    replace c_57 := q_ifOne ahpσ_56 c_57
                    refine lv_iconst (v := 1) hx hb dX4_readStep_161 zki_1 ?_
                    refine lv_goto (tgt := 166) hx hb dX4_readStep_162 (by decide) ?_
                    have hrv : (1 : Int32).toInt = 1 := zt_1
                    exact q_retz E hr hlk hI ⟨by decide, by decide⟩ ⟨⟨by decide, by decide⟩, (hF.trans hout), fr_σ_56⟩ dX4_readStep_166
              · skip
                replace hF := q_ifp hF c_51
                refine lv_iconst (v := 0) hx hb dX4_readStep_142 zki_0 ?_
                have hrv : (0 : Int32).toInt = 0 := zt_0
                exact q_retz E hr hlk hI ⟨by decide, by decide⟩ ⟨⟨by decide, by decide⟩, (hF.trans hout), fr_σ_50⟩ dX4_readStep_143
        refine q_if_eq (A := 1) E (by decide) (tgt := 72) dX4_readStep_54 (by decide) (fun c_58 => ?_) (fun c_58 => ?_)
        · skip
          replace hF := q_ifp hF c_58
          exact J_72_5 _ _ ls hF hI (lv_sub hl [1, 2, 3, 0] rfl)
        · skip
          replace hF := q_ifn hF c_58
          refine lv_aload_n hx hb dX4_readStep_57 rfl (lv_at hl 1 rfl) ?_
          refine gs_X4_27_4 E hI ha dX4_readStep_58 ?_
          refine lv_topi (fun f_59 ef_59 => ?_)
          replace hF := q_letX hF ef_59
          refine lv_iconst (v := 3) hx hb dX4_readStep_61 zki_3 ?_
          refine q_icmp_lt (A := f_59.toInt) (B := 3) E rfl (by decide) (tgt := 72) dX4_readStep_62 (by decide) (fun c_60 => ?_) (fun c_60 => ?_)
          · skip
            replace hF := q_ifp hF c_60
            exact J_72_5 _ _ ls hF hI (lv_sub hl [1, 2, 3, 0] rfl)
          · skip
            replace hF := q_ifn hF (Int.not_lt.mpr c_60)
            refine lv_aload_n hx hb dX4_readStep_65 rfl (lv_at hl 1 rfl) ?_
            refine lv_bipush (v := 7) hx hb dX4_readStep_66 zkb_7 ?_
            have kc_61 : (7 : Int32).toInt = 7 := zt_7
            refine q_ci (q_runU (As := [.int 7]) (rest := []) E (hml.trans hl.1.symm) hI (c_X3_fails l X σ a (7 : Int32) (Or.inl ha)) ku_X4_59_4 ha ⟨rfl, by decide⟩ (show vwCl[3]? = some (RX4, TX4, 11) from rfl) rfl ⟨Nat.le_of_ble_eq_true rfl, Nat.le_of_ble_eq_true rfl⟩ ⟨Nat.le_refl _, Nat.le_refl _⟩ rfl (Nat.le_of_ble_eq_true rfl) dX4_readStep_68) hI (Nat.le_of_ble_eq_true rfl) (fun r_62 σ_63 H locs hpσ_63 hkσ_63 hI => ?_)
            have ahpσ_63 := hpσ_63.1
            have bhpσ_63 := hpσ_63.2.1
            have chpσ_63 := hpσ_63.2.2.1
            have dhpσ_63 := hpσ_63.2.2.2
            clear hpσ_63
            have fr_σ_63 := fr_σ.call dhpσ_63 rfl rfl
            replace hF := q_biX hF chpσ_63
            exact q_retz E hr hlk hI ⟨by omega, by omega⟩ ⟨⟨by omega, by omega⟩, (hF.trans hout), fr_σ_63⟩ dX4_readStep_71
      have J_52_64 : ∀ (x_64 : Int32) (H : Heap) (locs : List Loc) (ls : Array Slot), (F_X4_readStep_J52_3 X σ a r_1 r1 x_64 = out) → q_I X 8 σ s.heap locs σ H → lv_has ls 5 [(0, .ref a), (1, .ref r1), (2, .int r_1)] → W p l e (q_rm 8 175) s m ([.ref a, .ref r1] : List Value).toArray below meth c H locs 0 0 (MQ below (q_Qi X 8 σ (fun (r : Int32) (σ' : ST) => (0 ≤ r.toInt ∧ r.toInt ≤ 1) ∧ (r, σ') = F_X4_readStep X σ a r1 ∧ q_ow [(4, 2), (4, 3), (4, 4), (4, 5), (4, 6), (4, 7), (4, 10), (8, 1), (8, 2), (9, 2), (9, 3), (9, 4), (9, 5), (9, 6), (9, 7), (20, 99)] [] X σ σ')) ([.ref a, .ref r1] : List Value).toArray s 0 0 (q_reg X)) (F0 m 52 ls [.int x_64]) := by
        clear hF
        intro x_64 H locs ls  hF hI hl
        unfold F_X4_readStep_J52_3 at hF
        refine lv_istore_n (lv' := [(3, .int x_64), (0, .ref a), (1, .ref r1), (2, .int r_1)]) hx hb dX4_readStep_52 rfl hl (by decide) rfl (fun ls hl => ?_)
        refine lv_iload_n hx hb dX4_readStep_53 rfl (lv_at hl 0 rfl) ?_
        have J_72_64 : ∀  (H : Heap) (locs : List Loc) (ls : Array Slot), (F_X4_readStep_J72_4 X σ a r_1 x_64 r1 = out) → q_I X 8 σ s.heap locs σ H → lv_has ls 5 [(0, .ref a), (1, .ref r1), (2, .int r_1), (3, .int x_64)] → W p l e (q_rm 8 175) s m ([.ref a, .ref r1] : List Value).toArray below meth c H locs 0 0 (MQ below (q_Qi X 8 σ (fun (r : Int32) (σ' : ST) => (0 ≤ r.toInt ∧ r.toInt ≤ 1) ∧ (r, σ') = F_X4_readStep X σ a r1 ∧ q_ow [(4, 2), (4, 3), (4, 4), (4, 5), (4, 6), (4, 7), (4, 10), (8, 1), (8, 2), (9, 2), (9, 3), (9, 4), (9, 5), (9, 6), (9, 7), (20, 99)] [] X σ σ')) ([.ref a, .ref r1] : List Value).toArray s 0 0 (q_reg X)) (F0 m 72 ls []) := by
          clear hF
          intro  H locs ls  hF hI hl
          unfold F_X4_readStep_J72_4 at hF
          refine lv_aload_n hx hb dX4_readStep_72 rfl (lv_at hl 0 rfl) ?_
          refine gs_X4_12_4 E hI ha dX4_readStep_73 ?_
          refine lv_iload_n hx hb dX4_readStep_76 rfl (lv_at hl 2 rfl) ?_
          refine q_ci (q_rV7_1 (rest := []) E (hml.trans hl.1.symm) hI (c_X8_add l X σ (q_rf X a 8) r_1 (q_tk (k' := 8) hI ha rfl (Nat.succ_ne_zero _))) kv_X4_67 (q_tk (k' := 8) hI ha rfl (Nat.succ_ne_zero _)) ⟨Nat.le_of_ble_eq_true rfl, Nat.le_of_ble_eq_true rfl⟩ (Nat.le_of_ble_eq_true rfl) dX4_readStep_77) hI (Nat.le_of_ble_eq_true rfl) (fun r_65 σ_66 H locs hpσ_66 hkσ_66 hI => ?_)
          have ahpσ_66 := hpσ_66.1
          have bhpσ_66 := hpσ_66.2
          clear hpσ_66
          have fr_σ_66 := fr_σ.call bhpσ_66 rfl rfl
          replace hF := q_biX hF ahpσ_66
          refine lv_istore (lv' := [(4, .int r_65), (0, .ref a), (1, .ref r1), (2, .int r_1), (3, .int x_64)]) hx hb dX4_readStep_80 hl (by decide) rfl (fun ls hl => ?_)
          refine lv_aload_n hx hb dX4_readStep_82 rfl (lv_at hl 1 rfl) ?_
          refine gs_X4_12_4 E hI ha dX4_readStep_83 ?_
          refine lv_dup hx hb dX4_readStep_86 rfl ?_
          refine gs_X4_87_8 E hI (q_tk (k' := 8) hI ha rfl (Nat.succ_ne_zero _)) dX4_readStep_87 ?_
          refine lv_topi (fun f_67 ef_67 => ?_)
          replace hF := q_letX hF ef_67
          refine lv_iconst (v := 1) hx hb dX4_readStep_90 zki_1 ?_
          refine lv_iadd hx hb dX4_readStep_91 ?_
          refine lv_topi (fun z_68 ez_68 => ?_)
          replace hF := q_letX hF ez_68
          refine ps_X4_87_8 E hI (q_tk (k' := 8) hI ha rfl (Nat.succ_ne_zero _)) (by decide) dX4_readStep_92 (fun H locs σ_69 hσ_69 hI => ?_)
          replace hF := q_letX hF hσ_69
          have fr_σ_69 := fr_σ_66.si hσ_69 (q_tk (k' := 8) hI ha rfl (Nat.succ_ne_zero _)) rfl
          refine lv_iload_n hx hb dX4_readStep_95 rfl (lv_at hl 4 rfl) ?_
          refine q_if_eq (A := x_64.toInt) E rfl (tgt := 122) dX4_readStep_96 (by decide) (fun c_70 => ?_) (fun c_70 => ?_)
          · skip
            replace hF := q_ifp hF c_70
            refine lv_aload_n hx hb dX4_readStep_122 rfl (lv_at hl 1 rfl) ?_
            refine q_cv (q_runU (As := []) (rest := []) E (hml.trans hl.1.symm) hI (c_X3_advance l X σ_69 a (Or.inl ha)) ku_X4_77_4 ha ⟨rfl, by decide⟩ (show vwCl[3]? = some (RX4, TX4, 11) from rfl) rfl ⟨Nat.le_of_ble_eq_true rfl, Nat.le_of_ble_eq_true rfl⟩ ⟨Nat.le_refl _, Nat.le_refl _⟩ rfl (Nat.le_of_ble_eq_true rfl) dX4_readStep_123) hI (Nat.le_of_ble_eq_true rfl) (fun σ_72 H locs hpσ_72 hkσ_72 hI => ?_)
            have ahpσ_72 := hpσ_72.1
            have bhpσ_72 := hpσ_72.2
            clear hpσ_72
            have fr_σ_72 := fr_σ_69.call bhpσ_72 rfl rfl
            replace hF := q_letX hF ahpσ_72
            refine lv_iload_n hx hb dX4_readStep_126 rfl (lv_at hl 3 rfl) ?_
            refine q_ci (q_runS (As := [.int r_1]) (rest := []) E (hml.trans hl.1.symm) hI (c_X8_isWhen l X σ_72 r_1) ks_X4_90 rfl ⟨Nat.le_of_ble_eq_true rfl, Nat.le_of_ble_eq_true rfl⟩ ⟨Nat.le_refl _, Nat.le_refl _⟩ rfl (Nat.le_of_ble_eq_true rfl) dX4_readStep_127) hI (Nat.le_of_ble_eq_true rfl) (fun r_73 σ_74 H locs hpσ_74 hkσ_74 hI => ?_)
            have ahpσ_74 := hpσ_74.1
            have bhpσ_74 := hpσ_74.2.1
            have chpσ_74 := hpσ_74.2.2
            clear hpσ_74
            replace hI := q_Irw ahpσ_74 hI
            replace hF := q_letX hF chpσ_74
            refine q_if_eq (A := r_73.toInt) E rfl (tgt := 144) dX4_readStep_130 (by decide) (fun c_75 => ?_) (fun c_75 => ?_)
            · skip
              replace hF := q_ifp hF c_75
              refine lv_aload_n hx hb dX4_readStep_144 rfl (lv_at hl 1 rfl) ?_
              refine lv_iload hx hb dX4_readStep_145 (lv_at hl 0 rfl) ?_
              refine lv_aload_n hx hb dX4_readStep_147 rfl (lv_at hl 2 rfl) ?_
              refine q_ci (q_rV3_2 (rest := []) E (hml.trans hl.1.symm) hI (c_X4_readOperands l X σ_72 a r_65 r1 ha hr1) kv_X4_96 ha ⟨Nat.le_of_ble_eq_true rfl, Nat.le_of_ble_eq_true rfl⟩ (Nat.le_of_ble_eq_true rfl) dX4_readStep_148) hI (Nat.le_of_ble_eq_true rfl) (fun r_76 σ_77 H locs hpσ_77 hkσ_77 hI => ?_)
              have ahpσ_77 := hpσ_77.1
              have bhpσ_77 := hpσ_77.2.1
              have chpσ_77 := hpσ_77.2.2
              clear hpσ_77
              have fr_σ_77 := fr_σ_72.call chpσ_77 rfl rfl
              replace hF := q_biX hF bhpσ_77
              refine q_if_eq (A := r_76.toInt) E rfl (tgt := 165) dX4_readStep_151 (by decide) (fun c_78 => ?_) (fun c_78 => ?_)
              · skip
                replace hF := q_ifp hF c_78
                refine lv_iconst (v := 0) hx hb dX4_readStep_165 zki_0 ?_
                have hrv : (0 : Int32).toInt = 0 := zt_0
                exact q_retz E hr hlk hI ⟨by decide, by decide⟩ ⟨⟨by decide, by decide⟩, (hF.trans hout), fr_σ_77⟩ dX4_readStep_166
              · skip
                replace hF := q_ifn hF c_78
                replace c_78 := q_ifOne ahpσ_77 c_78
                refine lv_aload_n hx hb dX4_readStep_154 rfl (lv_at hl 1 rfl) ?_
                refine q_ci (q_runU (As := []) (rest := []) E (hml.trans hl.1.symm) hI (c_X3_passSemicolon l X σ_77 a (Or.inl ha)) ku_X4_80_4 ha ⟨rfl, by decide⟩ (show vwCl[3]? = some (RX4, TX4, 11) from rfl) rfl ⟨Nat.le_of_ble_eq_true rfl, Nat.le_of_ble_eq_true rfl⟩ ⟨Nat.le_refl _, Nat.le_refl _⟩ rfl (Nat.le_of_ble_eq_true rfl) dX4_readStep_155) hI (Nat.le_of_ble_eq_true rfl) (fun r_79 σ_80 H locs hpσ_80 hkσ_80 hI => ?_)
                have ahpσ_80 := hpσ_80.1
                have bhpσ_80 := hpσ_80.2.1
                have chpσ_80 := hpσ_80.2.2
                clear hpσ_80
                have fr_σ_80 := fr_σ_77.call chpσ_80 rfl rfl
                replace hF := q_biX hF bhpσ_80
                refine q_if_eq (A := r_79.toInt) E rfl (tgt := 165) dX4_readStep_158 (by decide) (fun c_81 => ?_) (fun c_81 => ?_)
                · skip
                  replace hF := q_ifp hF c_81
                  refine lv_iconst (v := 0) hx hb dX4_readStep_165 zki_0 ?_
                  have hrv : (0 : Int32).toInt = 0 := zt_0
                  exact q_retz E hr hlk hI ⟨by decide, by decide⟩ ⟨⟨by decide, by decide⟩, (hF.trans hout), fr_σ_80⟩ dX4_readStep_166
                · skip
                  replace hF := q_ifn hF c_81
                  replace c_81 := q_ifOne ahpσ_80 c_81
                  refine lv_iconst (v := 1) hx hb dX4_readStep_161 zki_1 ?_
                  refine lv_goto (tgt := 166) hx hb dX4_readStep_162 (by decide) ?_
                  have hrv : (1 : Int32).toInt = 1 := zt_1
                  exact q_retz E hr hlk hI ⟨by decide, by decide⟩ ⟨⟨by decide, by decide⟩, (hF.trans hout), fr_σ_80⟩ dX4_readStep_166
            · skip
              replace hF := q_ifn hF c_75
              replace c_75 := q_ifOne bhpσ_74 c_75
              refine lv_aload_n hx hb dX4_readStep_133 rfl (lv_at hl 1 rfl) ?_
              refine lv_iload hx hb dX4_readStep_134 (lv_at hl 0 rfl) ?_
              refine q_ci (q_rV3_1 (rest := []) E (hml.trans hl.1.symm) hI (c_X4_readTest l X σ_72 a r_65 ha) kv_X4_93 ha ⟨Nat.le_of_ble_eq_true rfl, Nat.le_of_ble_eq_true rfl⟩ (Nat.le_of_ble_eq_true rfl) dX4_readStep_136) hI (Nat.le_of_ble_eq_true rfl) (fun r_82 σ_83 H locs hpσ_83 hkσ_83 hI => ?_)
              have ahpσ_83 := hpσ_83.1
              have bhpσ_83 := hpσ_83.2.1
              have chpσ_83 := hpσ_83.2.2
              clear hpσ_83
              have fr_σ_83 := fr_σ_72.call chpσ_83 rfl rfl
              replace hF := q_biX hF bhpσ_83
              refine q_if_ne (A := r_82.toInt) E rfl (tgt := 144) dX4_readStep_139 (by decide) (fun c_84 => ?_) (fun c_84 => ?_)
              · skip
                replace hF := q_ifn hF c_84
                replace c_84 := q_ifOne ahpσ_83 c_84
                refine lv_aload_n hx hb dX4_readStep_144 rfl (lv_at hl 1 rfl) ?_
                refine lv_iload hx hb dX4_readStep_145 (lv_at hl 0 rfl) ?_
                refine lv_aload_n hx hb dX4_readStep_147 rfl (lv_at hl 2 rfl) ?_
                refine q_ci (q_rV3_2 (rest := []) E (hml.trans hl.1.symm) hI (c_X4_readOperands l X σ_83 a r_65 r1 ha hr1) kv_X4_96 ha ⟨Nat.le_of_ble_eq_true rfl, Nat.le_of_ble_eq_true rfl⟩ (Nat.le_of_ble_eq_true rfl) dX4_readStep_148) hI (Nat.le_of_ble_eq_true rfl) (fun r_85 σ_86 H locs hpσ_86 hkσ_86 hI => ?_)
                have ahpσ_86 := hpσ_86.1
                have bhpσ_86 := hpσ_86.2.1
                have chpσ_86 := hpσ_86.2.2
                clear hpσ_86
                have fr_σ_86 := fr_σ_83.call chpσ_86 rfl rfl
                replace hF := q_biX hF bhpσ_86
                refine q_if_eq (A := r_85.toInt) E rfl (tgt := 165) dX4_readStep_151 (by decide) (fun c_87 => ?_) (fun c_87 => ?_)
                · skip
                  replace hF := q_ifp hF c_87
                  refine lv_iconst (v := 0) hx hb dX4_readStep_165 zki_0 ?_
                  have hrv : (0 : Int32).toInt = 0 := zt_0
                  exact q_retz E hr hlk hI ⟨by decide, by decide⟩ ⟨⟨by decide, by decide⟩, (hF.trans hout), fr_σ_86⟩ dX4_readStep_166
                · skip
                  replace hF := q_ifn hF c_87
                  replace c_87 := q_ifOne ahpσ_86 c_87
                  refine lv_aload_n hx hb dX4_readStep_154 rfl (lv_at hl 1 rfl) ?_
                  refine q_ci (q_runU (As := []) (rest := []) E (hml.trans hl.1.symm) hI (c_X3_passSemicolon l X σ_86 a (Or.inl ha)) ku_X4_80_4 ha ⟨rfl, by decide⟩ (show vwCl[3]? = some (RX4, TX4, 11) from rfl) rfl ⟨Nat.le_of_ble_eq_true rfl, Nat.le_of_ble_eq_true rfl⟩ ⟨Nat.le_refl _, Nat.le_refl _⟩ rfl (Nat.le_of_ble_eq_true rfl) dX4_readStep_155) hI (Nat.le_of_ble_eq_true rfl) (fun r_88 σ_89 H locs hpσ_89 hkσ_89 hI => ?_)
                  have ahpσ_89 := hpσ_89.1
                  have bhpσ_89 := hpσ_89.2.1
                  have chpσ_89 := hpσ_89.2.2
                  clear hpσ_89
                  have fr_σ_89 := fr_σ_86.call chpσ_89 rfl rfl
                  replace hF := q_biX hF bhpσ_89
                  refine q_if_eq (A := r_88.toInt) E rfl (tgt := 165) dX4_readStep_158 (by decide) (fun c_90 => ?_) (fun c_90 => ?_)
                  · skip
                    replace hF := q_ifp hF c_90
                    refine lv_iconst (v := 0) hx hb dX4_readStep_165 zki_0 ?_
                    have hrv : (0 : Int32).toInt = 0 := zt_0
                    exact q_retz E hr hlk hI ⟨by decide, by decide⟩ ⟨⟨by decide, by decide⟩, (hF.trans hout), fr_σ_89⟩ dX4_readStep_166
                  · skip
                    replace hF := q_ifn hF c_90
                    replace c_90 := q_ifOne ahpσ_89 c_90
                    refine lv_iconst (v := 1) hx hb dX4_readStep_161 zki_1 ?_
                    refine lv_goto (tgt := 166) hx hb dX4_readStep_162 (by decide) ?_
                    have hrv : (1 : Int32).toInt = 1 := zt_1
                    exact q_retz E hr hlk hI ⟨by decide, by decide⟩ ⟨⟨by decide, by decide⟩, (hF.trans hout), fr_σ_89⟩ dX4_readStep_166
              · skip
                replace hF := q_ifp hF c_84
                refine lv_iconst (v := 0) hx hb dX4_readStep_142 zki_0 ?_
                have hrv : (0 : Int32).toInt = 0 := zt_0
                exact q_retz E hr hlk hI ⟨by decide, by decide⟩ ⟨⟨by decide, by decide⟩, (hF.trans hout), fr_σ_83⟩ dX4_readStep_143
          · skip
            replace hF := q_ifn hF c_70
            refine lv_aload_n hx hb dX4_readStep_99 rfl (lv_at hl 1 rfl) ?_
            refine gs_X4_23_4 E hI ha dX4_readStep_100 ?_
            refine lv_aload_n hx hb dX4_readStep_103 rfl (lv_at hl 1 rfl) ?_
            refine gs_X4_27_4 E hI ha dX4_readStep_104 ?_
            refine lv_topi (fun f_91 ef_91 => ?_)
            replace hF := q_letX hF ef_91
            refine lv_iload hx hb dX4_readStep_107 (lv_at hl 0 rfl) ?_
            refine q_cv (q_rV4_2 (rest := []) E (hml.trans hl.1.symm) hI (c_X5_set l X σ_69 (q_rf X a 9) f_91 r_65 (q_tk (k' := 5) hI ha rfl (Nat.succ_ne_zero _))) kv_X4_73 (q_tk (k' := 5) hI ha rfl (Nat.succ_ne_zero _)) ⟨Nat.le_of_ble_eq_true rfl, Nat.le_of_ble_eq_true rfl⟩ (Nat.le_of_ble_eq_true rfl) dX4_readStep_109) hI (Nat.le_of_ble_eq_true rfl) (fun σ_93 H locs hpσ_93 hkσ_93 hI => ?_)
            have ahpσ_93 := hpσ_93.1
            have bhpσ_93 := hpσ_93.2
            clear hpσ_93
            have fr_σ_93 := fr_σ_69.call bhpσ_93 rfl rfl
            replace hF := q_letX hF ahpσ_93
            refine lv_aload_n hx hb dX4_readStep_112 rfl (lv_at hl 1 rfl) ?_
            refine lv_dup hx hb dX4_readStep_113 rfl ?_
            refine gs_X4_27_4 E hI ha dX4_readStep_114 ?_
            refine lv_topi (fun f_94 ef_94 => ?_)
            replace hF := q_letX hF ef_94
            refine lv_iconst (v := 1) hx hb dX4_readStep_117 zki_1 ?_
            refine lv_iadd hx hb dX4_readStep_118 ?_
            refine lv_topi (fun z_95 ez_95 => ?_)
            replace hF := q_letX hF ez_95
            refine ps_X4_27_4 E hI ha (by decide) dX4_readStep_119 (fun H locs σ_96 hσ_96 hI => ?_)
            replace hF := q_letX hF hσ_96
            have fr_σ_96 := fr_σ_93.si hσ_96 ha rfl
            refine lv_aload_n hx hb dX4_readStep_122 rfl (lv_at hl 1 rfl) ?_
            refine q_cv (q_runU (As := []) (rest := []) E (hml.trans hl.1.symm) hI (c_X3_advance l X σ_96 a (Or.inl ha)) ku_X4_77_4 ha ⟨rfl, by decide⟩ (show vwCl[3]? = some (RX4, TX4, 11) from rfl) rfl ⟨Nat.le_of_ble_eq_true rfl, Nat.le_of_ble_eq_true rfl⟩ ⟨Nat.le_refl _, Nat.le_refl _⟩ rfl (Nat.le_of_ble_eq_true rfl) dX4_readStep_123) hI (Nat.le_of_ble_eq_true rfl) (fun σ_98 H locs hpσ_98 hkσ_98 hI => ?_)
            have ahpσ_98 := hpσ_98.1
            have bhpσ_98 := hpσ_98.2
            clear hpσ_98
            have fr_σ_98 := fr_σ_96.call bhpσ_98 rfl rfl
            replace hF := q_letX hF ahpσ_98
            refine lv_iload_n hx hb dX4_readStep_126 rfl (lv_at hl 3 rfl) ?_
            refine q_ci (q_runS (As := [.int r_1]) (rest := []) E (hml.trans hl.1.symm) hI (c_X8_isWhen l X σ_98 r_1) ks_X4_90 rfl ⟨Nat.le_of_ble_eq_true rfl, Nat.le_of_ble_eq_true rfl⟩ ⟨Nat.le_refl _, Nat.le_refl _⟩ rfl (Nat.le_of_ble_eq_true rfl) dX4_readStep_127) hI (Nat.le_of_ble_eq_true rfl) (fun r_99 σ_100 H locs hpσ_100 hkσ_100 hI => ?_)
            have ahpσ_100 := hpσ_100.1
            have bhpσ_100 := hpσ_100.2.1
            have chpσ_100 := hpσ_100.2.2
            clear hpσ_100
            replace hI := q_Irw ahpσ_100 hI
            replace hF := q_letX hF chpσ_100
            refine q_if_eq (A := r_99.toInt) E rfl (tgt := 144) dX4_readStep_130 (by decide) (fun c_101 => ?_) (fun c_101 => ?_)
            · skip
              replace hF := q_ifp hF c_101
              refine lv_aload_n hx hb dX4_readStep_144 rfl (lv_at hl 1 rfl) ?_
              refine lv_iload hx hb dX4_readStep_145 (lv_at hl 0 rfl) ?_
              refine lv_aload_n hx hb dX4_readStep_147 rfl (lv_at hl 2 rfl) ?_
              refine q_ci (q_rV3_2 (rest := []) E (hml.trans hl.1.symm) hI (c_X4_readOperands l X σ_98 a r_65 r1 ha hr1) kv_X4_96 ha ⟨Nat.le_of_ble_eq_true rfl, Nat.le_of_ble_eq_true rfl⟩ (Nat.le_of_ble_eq_true rfl) dX4_readStep_148) hI (Nat.le_of_ble_eq_true rfl) (fun r_102 σ_103 H locs hpσ_103 hkσ_103 hI => ?_)
              have ahpσ_103 := hpσ_103.1
              have bhpσ_103 := hpσ_103.2.1
              have chpσ_103 := hpσ_103.2.2
              clear hpσ_103
              have fr_σ_103 := fr_σ_98.call chpσ_103 rfl rfl
              replace hF := q_biX hF bhpσ_103
              refine q_if_eq (A := r_102.toInt) E rfl (tgt := 165) dX4_readStep_151 (by decide) (fun c_104 => ?_) (fun c_104 => ?_)
              · skip
                replace hF := q_ifp hF c_104
                refine lv_iconst (v := 0) hx hb dX4_readStep_165 zki_0 ?_
                have hrv : (0 : Int32).toInt = 0 := zt_0
                exact q_retz E hr hlk hI ⟨by decide, by decide⟩ ⟨⟨by decide, by decide⟩, (hF.trans hout), fr_σ_103⟩ dX4_readStep_166
              · skip
                replace hF := q_ifn hF c_104
                replace c_104 := q_ifOne ahpσ_103 c_104
                refine lv_aload_n hx hb dX4_readStep_154 rfl (lv_at hl 1 rfl) ?_
                refine q_ci (q_runU (As := []) (rest := []) E (hml.trans hl.1.symm) hI (c_X3_passSemicolon l X σ_103 a (Or.inl ha)) ku_X4_80_4 ha ⟨rfl, by decide⟩ (show vwCl[3]? = some (RX4, TX4, 11) from rfl) rfl ⟨Nat.le_of_ble_eq_true rfl, Nat.le_of_ble_eq_true rfl⟩ ⟨Nat.le_refl _, Nat.le_refl _⟩ rfl (Nat.le_of_ble_eq_true rfl) dX4_readStep_155) hI (Nat.le_of_ble_eq_true rfl) (fun r_105 σ_106 H locs hpσ_106 hkσ_106 hI => ?_)
                have ahpσ_106 := hpσ_106.1
                have bhpσ_106 := hpσ_106.2.1
                have chpσ_106 := hpσ_106.2.2
                clear hpσ_106
                have fr_σ_106 := fr_σ_103.call chpσ_106 rfl rfl
                replace hF := q_biX hF bhpσ_106
                refine q_if_eq (A := r_105.toInt) E rfl (tgt := 165) dX4_readStep_158 (by decide) (fun c_107 => ?_) (fun c_107 => ?_)
                · skip
                  replace hF := q_ifp hF c_107
                  refine lv_iconst (v := 0) hx hb dX4_readStep_165 zki_0 ?_
                  have hrv : (0 : Int32).toInt = 0 := zt_0
                  exact q_retz E hr hlk hI ⟨by decide, by decide⟩ ⟨⟨by decide, by decide⟩, (hF.trans hout), fr_σ_106⟩ dX4_readStep_166
                · skip
                  replace hF := q_ifn hF c_107
                  replace c_107 := q_ifOne ahpσ_106 c_107
                  refine lv_iconst (v := 1) hx hb dX4_readStep_161 zki_1 ?_
                  refine lv_goto (tgt := 166) hx hb dX4_readStep_162 (by decide) ?_
                  have hrv : (1 : Int32).toInt = 1 := zt_1
                  exact q_retz E hr hlk hI ⟨by decide, by decide⟩ ⟨⟨by decide, by decide⟩, (hF.trans hout), fr_σ_106⟩ dX4_readStep_166
            · skip
              replace hF := q_ifn hF c_101
              replace c_101 := q_ifOne bhpσ_100 c_101
              refine lv_aload_n hx hb dX4_readStep_133 rfl (lv_at hl 1 rfl) ?_
              refine lv_iload hx hb dX4_readStep_134 (lv_at hl 0 rfl) ?_
              refine q_ci (q_rV3_1 (rest := []) E (hml.trans hl.1.symm) hI (c_X4_readTest l X σ_98 a r_65 ha) kv_X4_93 ha ⟨Nat.le_of_ble_eq_true rfl, Nat.le_of_ble_eq_true rfl⟩ (Nat.le_of_ble_eq_true rfl) dX4_readStep_136) hI (Nat.le_of_ble_eq_true rfl) (fun r_108 σ_109 H locs hpσ_109 hkσ_109 hI => ?_)
              have ahpσ_109 := hpσ_109.1
              have bhpσ_109 := hpσ_109.2.1
              have chpσ_109 := hpσ_109.2.2
              clear hpσ_109
              have fr_σ_109 := fr_σ_98.call chpσ_109 rfl rfl
              replace hF := q_biX hF bhpσ_109
              refine q_if_ne (A := r_108.toInt) E rfl (tgt := 144) dX4_readStep_139 (by decide) (fun c_110 => ?_) (fun c_110 => ?_)
              · skip
                replace hF := q_ifn hF c_110
                replace c_110 := q_ifOne ahpσ_109 c_110
                refine lv_aload_n hx hb dX4_readStep_144 rfl (lv_at hl 1 rfl) ?_
                refine lv_iload hx hb dX4_readStep_145 (lv_at hl 0 rfl) ?_
                refine lv_aload_n hx hb dX4_readStep_147 rfl (lv_at hl 2 rfl) ?_
                refine q_ci (q_rV3_2 (rest := []) E (hml.trans hl.1.symm) hI (c_X4_readOperands l X σ_109 a r_65 r1 ha hr1) kv_X4_96 ha ⟨Nat.le_of_ble_eq_true rfl, Nat.le_of_ble_eq_true rfl⟩ (Nat.le_of_ble_eq_true rfl) dX4_readStep_148) hI (Nat.le_of_ble_eq_true rfl) (fun r_111 σ_112 H locs hpσ_112 hkσ_112 hI => ?_)
                have ahpσ_112 := hpσ_112.1
                have bhpσ_112 := hpσ_112.2.1
                have chpσ_112 := hpσ_112.2.2
                clear hpσ_112
                have fr_σ_112 := fr_σ_109.call chpσ_112 rfl rfl
                replace hF := q_biX hF bhpσ_112
                refine q_if_eq (A := r_111.toInt) E rfl (tgt := 165) dX4_readStep_151 (by decide) (fun c_113 => ?_) (fun c_113 => ?_)
                · skip
                  replace hF := q_ifp hF c_113
                  refine lv_iconst (v := 0) hx hb dX4_readStep_165 zki_0 ?_
                  have hrv : (0 : Int32).toInt = 0 := zt_0
                  exact q_retz E hr hlk hI ⟨by decide, by decide⟩ ⟨⟨by decide, by decide⟩, (hF.trans hout), fr_σ_112⟩ dX4_readStep_166
                · skip
                  replace hF := q_ifn hF c_113
                  replace c_113 := q_ifOne ahpσ_112 c_113
                  refine lv_aload_n hx hb dX4_readStep_154 rfl (lv_at hl 1 rfl) ?_
                  refine q_ci (q_runU (As := []) (rest := []) E (hml.trans hl.1.symm) hI (c_X3_passSemicolon l X σ_112 a (Or.inl ha)) ku_X4_80_4 ha ⟨rfl, by decide⟩ (show vwCl[3]? = some (RX4, TX4, 11) from rfl) rfl ⟨Nat.le_of_ble_eq_true rfl, Nat.le_of_ble_eq_true rfl⟩ ⟨Nat.le_refl _, Nat.le_refl _⟩ rfl (Nat.le_of_ble_eq_true rfl) dX4_readStep_155) hI (Nat.le_of_ble_eq_true rfl) (fun r_114 σ_115 H locs hpσ_115 hkσ_115 hI => ?_)
                  have ahpσ_115 := hpσ_115.1
                  have bhpσ_115 := hpσ_115.2.1
                  have chpσ_115 := hpσ_115.2.2
                  clear hpσ_115
                  have fr_σ_115 := fr_σ_112.call chpσ_115 rfl rfl
                  replace hF := q_biX hF bhpσ_115
                  refine q_if_eq (A := r_114.toInt) E rfl (tgt := 165) dX4_readStep_158 (by decide) (fun c_116 => ?_) (fun c_116 => ?_)
                  · skip
                    replace hF := q_ifp hF c_116
                    refine lv_iconst (v := 0) hx hb dX4_readStep_165 zki_0 ?_
                    have hrv : (0 : Int32).toInt = 0 := zt_0
                    exact q_retz E hr hlk hI ⟨by decide, by decide⟩ ⟨⟨by decide, by decide⟩, (hF.trans hout), fr_σ_115⟩ dX4_readStep_166
                  · skip
                    replace hF := q_ifn hF c_116
                    replace c_116 := q_ifOne ahpσ_115 c_116
                    refine lv_iconst (v := 1) hx hb dX4_readStep_161 zki_1 ?_
                    refine lv_goto (tgt := 166) hx hb dX4_readStep_162 (by decide) ?_
                    have hrv : (1 : Int32).toInt = 1 := zt_1
                    exact q_retz E hr hlk hI ⟨by decide, by decide⟩ ⟨⟨by decide, by decide⟩, (hF.trans hout), fr_σ_115⟩ dX4_readStep_166
              · skip
                replace hF := q_ifp hF c_110
                refine lv_iconst (v := 0) hx hb dX4_readStep_142 zki_0 ?_
                have hrv : (0 : Int32).toInt = 0 := zt_0
                exact q_retz E hr hlk hI ⟨by decide, by decide⟩ ⟨⟨by decide, by decide⟩, (hF.trans hout), fr_σ_109⟩ dX4_readStep_143
        refine q_if_eq (A := x_64.toInt) E rfl (tgt := 72) dX4_readStep_54 (by decide) (fun c_117 => ?_) (fun c_117 => ?_)
        · skip
          replace hF := q_ifp hF c_117
          exact J_72_64 _ _ ls hF hI (lv_sub hl [1, 2, 3, 0] rfl)
        · skip
          replace hF := q_ifn hF c_117
          refine lv_aload_n hx hb dX4_readStep_57 rfl (lv_at hl 1 rfl) ?_
          refine gs_X4_27_4 E hI ha dX4_readStep_58 ?_
          refine lv_topi (fun f_118 ef_118 => ?_)
          replace hF := q_letX hF ef_118
          refine lv_iconst (v := 3) hx hb dX4_readStep_61 zki_3 ?_
          refine q_icmp_lt (A := f_118.toInt) (B := 3) E rfl (by decide) (tgt := 72) dX4_readStep_62 (by decide) (fun c_119 => ?_) (fun c_119 => ?_)
          · skip
            replace hF := q_ifp hF c_119
            exact J_72_64 _ _ ls hF hI (lv_sub hl [1, 2, 3, 0] rfl)
          · skip
            replace hF := q_ifn hF (Int.not_lt.mpr c_119)
            refine lv_aload_n hx hb dX4_readStep_65 rfl (lv_at hl 1 rfl) ?_
            refine lv_bipush (v := 7) hx hb dX4_readStep_66 zkb_7 ?_
            have kc_120 : (7 : Int32).toInt = 7 := zt_7
            refine q_ci (q_runU (As := [.int 7]) (rest := []) E (hml.trans hl.1.symm) hI (c_X3_fails l X σ a (7 : Int32) (Or.inl ha)) ku_X4_59_4 ha ⟨rfl, by decide⟩ (show vwCl[3]? = some (RX4, TX4, 11) from rfl) rfl ⟨Nat.le_of_ble_eq_true rfl, Nat.le_of_ble_eq_true rfl⟩ ⟨Nat.le_refl _, Nat.le_refl _⟩ rfl (Nat.le_of_ble_eq_true rfl) dX4_readStep_68) hI (Nat.le_of_ble_eq_true rfl) (fun r_121 σ_122 H locs hpσ_122 hkσ_122 hI => ?_)
            have ahpσ_122 := hpσ_122.1
            have bhpσ_122 := hpσ_122.2.1
            have chpσ_122 := hpσ_122.2.2.1
            have dhpσ_122 := hpσ_122.2.2.2
            clear hpσ_122
            have fr_σ_122 := fr_σ.call dhpσ_122 rfl rfl
            replace hF := q_biX hF chpσ_122
            exact q_retz E hr hlk hI ⟨by omega, by omega⟩ ⟨⟨by omega, by omega⟩, (hF.trans hout), fr_σ_122⟩ dX4_readStep_71
      refine q_icmp_eq (A := r_1.toInt) (B := 4) E rfl (by decide) (tgt := 47) dX4_readStep_37 (by decide) (fun c_123 => ?_) (fun c_123 => ?_)
      · skip
        replace hF := q_ifp hF c_123
        exact J_47_5 _ _ ls hF hI (lv_sub hl [1, 2, 0] rfl)
      · skip
        replace hF := q_ifn hF c_123
        refine lv_iload_n hx hb dX4_readStep_40 rfl (lv_at hl 0 rfl) ?_
        refine q_ci (q_runS (As := [.int r_1]) (rest := []) E (hml.trans hl.1.symm) hI (c_X8_isWhen l X σ r_1) ks_X4_90 rfl ⟨Nat.le_of_ble_eq_true rfl, Nat.le_of_ble_eq_true rfl⟩ ⟨Nat.le_refl _, Nat.le_refl _⟩ rfl (Nat.le_of_ble_eq_true rfl) dX4_readStep_41) hI (Nat.le_of_ble_eq_true rfl) (fun r_124 σ_125 H locs hpσ_125 hkσ_125 hI => ?_)
        have ahpσ_125 := hpσ_125.1
        have bhpσ_125 := hpσ_125.2.1
        have chpσ_125 := hpσ_125.2.2
        clear hpσ_125
        replace hI := q_Irw ahpσ_125 hI
        replace hF := q_letX hF chpσ_125
        refine q_if_eq (A := r_124.toInt) E rfl (tgt := 51) dX4_readStep_44 (by decide) (fun c_126 => ?_) (fun c_126 => ?_)
        · skip
          replace hF := q_ifp hF c_126
          refine lv_iconst (v := 0) hx hb dX4_readStep_51 zki_0 ?_
          exact J_52_64 0 _ _ ls hF hI (lv_sub hl [1, 2, 0] rfl)
        · skip
          replace hF := q_ifn hF c_126
          replace c_126 := q_ifOne bhpσ_125 c_126
          exact J_47_5 _ _ ls hF hI (lv_sub hl [1, 2, 0] rfl)
    · skip
      replace hF := q_ifn hF (Int.not_lt.mpr c_5)
      refine lv_aload_n hx hb dX4_readStep_28 rfl (lv_at hl 1 rfl) ?_
      refine lv_bipush (v := 6) hx hb dX4_readStep_29 zkb_6 ?_
      have kc_127 : (6 : Int32).toInt = 6 := zt_6
      refine q_ci (q_runU (As := [.int 6]) (rest := []) E (hml.trans hl.1.symm) hI (c_X3_fails l X σ a (6 : Int32) (Or.inl ha)) ku_X4_59_4 ha ⟨rfl, by decide⟩ (show vwCl[3]? = some (RX4, TX4, 11) from rfl) rfl ⟨Nat.le_of_ble_eq_true rfl, Nat.le_of_ble_eq_true rfl⟩ ⟨Nat.le_refl _, Nat.le_refl _⟩ rfl (Nat.le_of_ble_eq_true rfl) dX4_readStep_31) hI (Nat.le_of_ble_eq_true rfl) (fun r_128 σ_129 H locs hpσ_129 hkσ_129 hI => ?_)
      have ahpσ_129 := hpσ_129.1
      have bhpσ_129 := hpσ_129.2.1
      have chpσ_129 := hpσ_129.2.2.1
      have dhpσ_129 := hpσ_129.2.2.2
      clear hpσ_129
      have fr_σ_129 := fr_σ.call dhpσ_129 rfl rfl
      replace hF := q_biX hF chpσ_129
      exact q_retz E hr hlk hI ⟨by omega, by omega⟩ ⟨⟨by omega, by omega⟩, (hF.trans hout), fr_σ_129⟩ dX4_readStep_34
  · skip
    replace hF := q_ifp hF c_3
    refine lv_aload_n hx hb dX4_readStep_10 rfl (lv_at hl 1 rfl) ?_
    refine lv_iconst (v := 2) hx hb dX4_readStep_11 zki_2 ?_
    have kc_130 : (2 : Int32).toInt = 2 := zt_2
    refine q_ci (q_runU (As := [.int 2]) (rest := []) E (hml.trans hl.1.symm) hI (c_X3_fails l X σ a (2 : Int32) (Or.inl ha)) ku_X4_59_4 ha ⟨rfl, by decide⟩ (show vwCl[3]? = some (RX4, TX4, 11) from rfl) rfl ⟨Nat.le_of_ble_eq_true rfl, Nat.le_of_ble_eq_true rfl⟩ ⟨Nat.le_refl _, Nat.le_refl _⟩ rfl (Nat.le_of_ble_eq_true rfl) dX4_readStep_12) hI (Nat.le_of_ble_eq_true rfl) (fun r_131 σ_132 H locs hpσ_132 hkσ_132 hI => ?_)
    have ahpσ_132 := hpσ_132.1
    have bhpσ_132 := hpσ_132.2.1
    have chpσ_132 := hpσ_132.2.2.1
    have dhpσ_132 := hpσ_132.2.2.2
    clear hpσ_132
    have fr_σ_132 := fr_σ.call dhpσ_132 rfl rfl
    replace hF := q_biX hF chpσ_132
    exact q_retz E hr hlk hI ⟨by omega, by omega⟩ ⟨⟨by omega, by omega⟩, (hF.trans hout), fr_σ_132⟩ dX4_readStep_15

set_option maxRecDepth 100000 in
set_option maxHeartbeats 4000000 in
theorem c_X4_takes (l : Launch) (X : XW) (σ : ST) (a : Nat) (r1 : Nat) (v2 : Int32) (r3 : Nat) (ha : q_kd X a = 4) (hr1 : q_kd X r1 = 22) (hr3 : q_kd X r3 = 6) : Met l yX4_takes (q_ws yX4_takes cX4_takes 6 (some .boolean)) (q_rm 9 199) (q_P X σ [.ref a, .ref r1, .int v2, .ref r3]) (q_Qi X 8 σ (fun (r : Int32) (σ' : ST) => (0 ≤ r.toInt ∧ r.toInt ≤ 1) ∧ (r, σ') = F_X4_takes X σ a r1 v2 r3 ∧ q_ow [(4, 1), (4, 2), (4, 3), (4, 4), (4, 5), (4, 6), (4, 7), (4, 10), (8, 0), (8, 1), (8, 2), (9, 1), (9, 2), (9, 3), (9, 4), (9, 5), (9, 6), (9, 7), (20, 99)] [] X σ σ')) 0 0 (q_reg X) := by
  refine q_met 8 (by first | exact rfl | decide +kernel) rfl (Nat.le_of_ble_eq_true rfl) (fun p e s m below meth c E hml hr hlk hI ls hl => ?_)
  have hx := E.1
  have hb := E.2.1
  have hl : lv_has ls 6 [(0, .ref a), (1, .ref r1), (2, .int v2), (3, .ref r3)] := hl
  have fr_σ : q_ow [(4, 1), (4, 2), (4, 3), (4, 4), (4, 5), (4, 6), (4, 7), (4, 10), (8, 0), (8, 1), (8, 2), (9, 1), (9, 2), (9, 3), (9, 4), (9, 5), (9, 6), (9, 7), (20, 99)] [] X σ σ := q_ow.rf
  obtain ⟨out, hout⟩ : ∃ o, o = F_X4_takes X σ a r1 v2 r3 := ⟨_, rfl⟩
  have hF := hout.symm
  unfold F_X4_takes at hF
  refine lv_aload_n hx hb dX4_takes_0 rfl (lv_at hl 0 rfl) ?_
  refine gs_X4_12_4 E hI ha dX4_takes_1 ?_
  refine q_cv (q_rV7_0 (rest := []) E (hml.trans hl.1.symm) hI (c_X8_clear l X σ (q_rf X a 8) (q_tk (k' := 8) hI ha rfl (Nat.succ_ne_zero _))) kv_X4_31 (q_tk (k' := 8) hI ha rfl (Nat.succ_ne_zero _)) ⟨Nat.le_of_ble_eq_true rfl, Nat.le_of_ble_eq_true rfl⟩ (Nat.le_of_ble_eq_true rfl) dX4_takes_4) hI (Nat.le_of_ble_eq_true rfl) (fun σ_2 H locs hpσ_2 hkσ_2 hI => ?_)
  have ahpσ_2 := hpσ_2.1
  have bhpσ_2 := hpσ_2.2
  clear hpσ_2
  have fr_σ_2 := fr_σ.call bhpσ_2 rfl rfl
  replace hF := q_letX hF ahpσ_2
  refine lv_aload_n hx hb dX4_takes_7 rfl (lv_at hl 0 rfl) ?_
  refine lv_iconst (v := 0) hx hb dX4_takes_8 zki_0 ?_
  refine ps_X4_27_4 E hI ha (by decide) dX4_takes_9 (fun H locs σ_3 hσ_3 hI => ?_)
  replace hF := q_letX hF hσ_3
  have fr_σ_3 := fr_σ_2.si hσ_3 ha rfl
  refine lv_aload_n hx hb dX4_takes_12 rfl (lv_at hl 0 rfl) ?_
  refine lv_aload_n hx hb dX4_takes_13 rfl (lv_at hl 1 rfl) ?_
  refine lv_iload_n hx hb dX4_takes_14 rfl (lv_at hl 2 rfl) ?_
  refine q_cv (q_runU (As := [.ref r1, .int v2]) (rest := []) E (hml.trans hl.1.symm) hI (c_X3_start l X σ_3 a r1 v2 (Or.inl ha) hr1) ku_X4_34_4 ha ⟨rfl, by decide⟩ (show vwCl[3]? = some (RX4, TX4, 11) from rfl) rfl ⟨Nat.le_of_ble_eq_true rfl, Nat.le_of_ble_eq_true rfl⟩ ⟨Nat.le_refl _, Nat.le_refl _⟩ rfl (Nat.le_of_ble_eq_true rfl) dX4_takes_15) hI (Nat.le_of_ble_eq_true rfl) (fun σ_5 H locs hpσ_5 hkσ_5 hI => ?_)
  have ahpσ_5 := hpσ_5.1
  have bhpσ_5 := hpσ_5.2
  clear hpσ_5
  have fr_σ_5 := fr_σ_3.call bhpσ_5 rfl rfl
  replace hF := q_letX hF ahpσ_5
  refine lv_iconst (v := 0) hx hb dX4_takes_18 zki_0 ?_
  refine lv_istore (lv' := [(4, .int 0), (0, .ref a), (1, .ref r1), (2, .int v2), (3, .ref r3)]) hx hb dX4_takes_19 hl (by decide) rfl (fun ls hl => ?_)
  have L_21_8 : ∀ (k_8 : Nat) (x_6 : Int32) (σ_7 : ST) (H : Heap) (locs : List Loc) (ls : Array Slot), (2147483647 - x_6.toInt).toNat < k_8 → (0 ≤ x_6.toInt) → (q_ow [(4, 1), (4, 2), (4, 3), (4, 4), (4, 5), (4, 6), (4, 7), (4, 10), (8, 0), (8, 1), (8, 2), (9, 1), (9, 2), (9, 3), (9, 4), (9, 5), (9, 6), (9, 7), (20, 99)] [] X σ σ_7) → (F_X4_takes_L21_1 X a r3 k_8 x_6 σ_7 = out) → q_I X 8 σ s.heap locs σ_7 H → lv_has ls 6 [(0, .ref a), (1, .ref r1), (2, .int v2), (3, .ref r3), (4, .int x_6)] → W p l e (q_rm 9 199) s m ([.ref a, .ref r1, .int v2, .ref r3] : List Value).toArray below meth c H locs 0 0 (MQ below (q_Qi X 8 σ (fun (r : Int32) (σ' : ST) => (0 ≤ r.toInt ∧ r.toInt ≤ 1) ∧ (r, σ') = F_X4_takes X σ a r1 v2 r3 ∧ q_ow [(4, 1), (4, 2), (4, 3), (4, 4), (4, 5), (4, 6), (4, 7), (4, 10), (8, 0), (8, 1), (8, 2), (9, 1), (9, 2), (9, 3), (9, 4), (9, 5), (9, 6), (9, 7), (20, 99)] [] X σ σ')) ([.ref a, .ref r1, .int v2, .ref r3] : List Value).toArray s 0 0 (q_reg X)) (F0 m 21 ls []) := by
    clear hF
    intro k_8
    induction k_8 with
    | zero =>
      intro x_6 σ_7 H locs ls hms
      exact absurd hms (Nat.not_lt_zero _)
    | succ k_8 ih21 =>
      intro x_6 σ_7 H locs ls hm21 hge21 fr_σ_7 hF hI hl
      replace hF := (F_X4_takes_L21_1_s).symm.trans hF
      unfold F_X4_takes_B21_1 at hF
      refine lv_iload hx hb dX4_takes_21 (lv_at hl 4 rfl) ?_
      refine lv_sipush (v := 300) hx hb dX4_takes_23 zks_300 ?_
      have gc_9_x_6 := q_rng x_6
      refine q_icmp_ge (A := x_6.toInt) (B := 300) E rfl (by decide) (tgt := 72) dX4_takes_26 (by decide) (fun c_9 => ?_) (fun c_9 => ?_)
      · skip
        replace hF := q_ifn hF (Int.not_lt.mpr c_9)
        unfold F_X4_takes_E72_2 at hF
        refine lv_aload_n hx hb dX4_takes_72 rfl (lv_at hl 0 rfl) ?_
        refine gs_X4_12_4 E hI ha dX4_takes_73 ?_
        refine lv_iconst (v := 1) hx hb dX4_takes_76 zki_1 ?_
        refine ps_X4_55_8 E hI (q_tk (k' := 8) hI ha rfl (Nat.succ_ne_zero _)) (by decide) (by decide) (by decide) dX4_takes_77 (fun H locs σ_10 hσ_10 hI => ?_)
        replace hF := q_letX hF hσ_10
        have fr_σ_10 := fr_σ_7.si hσ_10 (q_tk (k' := 8) hI ha rfl (Nat.succ_ne_zero _)) rfl
        refine lv_aload_n hx hb dX4_takes_80 rfl (lv_at hl 0 rfl) ?_
        refine gs_X4_27_4 E hI ha dX4_takes_81 ?_
        refine lv_topi (fun f_11 ef_11 => ?_)
        replace hF := q_letX hF ef_11
        refine q_if_eq (A := f_11.toInt) E rfl (tgt := 95) dX4_takes_84 (by decide) (fun c_12 => ?_) (fun c_12 => ?_)
        · skip
          replace hF := q_ifp hF c_12
          refine lv_iconst (v := 1) hx hb dX4_takes_95 zki_1 ?_
          refine lv_goto (tgt := 100) hx hb dX4_takes_96 (by decide) ?_
          have hrv : (1 : Int32).toInt = 1 := zt_1
          exact q_retz E hr hlk hI ⟨by decide, by decide⟩ ⟨⟨by decide, by decide⟩, (hF.trans hout), fr_σ_10⟩ dX4_takes_100
        · skip
          replace hF := q_ifn hF c_12
          refine lv_aload_n hx hb dX4_takes_87 rfl (lv_at hl 0 rfl) ?_
          refine lv_iconst (v := 2) hx hb dX4_takes_88 zki_2 ?_
          have kc_13 : (2 : Int32).toInt = 2 := zt_2
          refine q_ci (q_runU (As := [.int 2]) (rest := []) E (hml.trans hl.1.symm) hI (c_X3_fails l X σ_10 a (2 : Int32) (Or.inl ha)) ku_X4_59_4 ha ⟨rfl, by decide⟩ (show vwCl[3]? = some (RX4, TX4, 11) from rfl) rfl ⟨Nat.le_of_ble_eq_true rfl, Nat.le_of_ble_eq_true rfl⟩ ⟨Nat.le_refl _, Nat.le_refl _⟩ rfl (Nat.le_of_ble_eq_true rfl) dX4_takes_89) hI (Nat.le_of_ble_eq_true rfl) (fun r_14 σ_15 H locs hpσ_15 hkσ_15 hI => ?_)
          have ahpσ_15 := hpσ_15.1
          have bhpσ_15 := hpσ_15.2.1
          have chpσ_15 := hpσ_15.2.2.1
          have dhpσ_15 := hpσ_15.2.2.2
          clear hpσ_15
          have fr_σ_15 := fr_σ_10.call dhpσ_15 rfl rfl
          replace hF := q_biX hF chpσ_15
          refine q_if_eq (A := r_14.toInt) E rfl (tgt := 99) dX4_takes_92 (by decide) (fun c_16 => ?_) (fun c_16 => ?_)
          · skip
            replace hF := q_ifp hF c_16
            refine lv_iconst (v := 0) hx hb dX4_takes_99 zki_0 ?_
            have hrv : (0 : Int32).toInt = 0 := zt_0
            exact q_retz E hr hlk hI ⟨by decide, by decide⟩ ⟨⟨by decide, by decide⟩, (hF.trans hout), fr_σ_15⟩ dX4_takes_100
          · skip
            replace hF := q_ifn hF c_16
            replace c_16 := q_ifOne ahpσ_15 c_16
            refine lv_iconst (v := 1) hx hb dX4_takes_95 zki_1 ?_
            refine lv_goto (tgt := 100) hx hb dX4_takes_96 (by decide) ?_
            have hrv : (1 : Int32).toInt = 1 := zt_1
            exact q_retz E hr hlk hI ⟨by decide, by decide⟩ ⟨⟨by decide, by decide⟩, (hF.trans hout), fr_σ_15⟩ dX4_takes_100
      · skip
        replace hF := q_ifp hF c_9
        refine lv_aload_n hx hb dX4_takes_29 rfl (lv_at hl 0 rfl) ?_
        refine gs_X4_38_4 E hI ha dX4_takes_30 ?_
        refine lv_topi (fun f_17 ef_17 => ?_)
        replace hF := q_letX hF ef_17
        refine q_if_eq (A := f_17.toInt) E rfl (tgt := 72) dX4_takes_33 (by decide) (fun c_18 => ?_) (fun c_18 => ?_)
        · skip
          replace hF := q_ifp hF c_18
          unfold F_X4_takes_E72_3 at hF
          refine lv_aload_n hx hb dX4_takes_72 rfl (lv_at hl 0 rfl) ?_
          refine gs_X4_12_4 E hI ha dX4_takes_73 ?_
          refine lv_iconst (v := 1) hx hb dX4_takes_76 zki_1 ?_
          refine ps_X4_55_8 E hI (q_tk (k' := 8) hI ha rfl (Nat.succ_ne_zero _)) (by decide) (by decide) (by decide) dX4_takes_77 (fun H locs σ_19 hσ_19 hI => ?_)
          replace hF := q_letX hF hσ_19
          have fr_σ_19 := fr_σ_7.si hσ_19 (q_tk (k' := 8) hI ha rfl (Nat.succ_ne_zero _)) rfl
          refine lv_aload_n hx hb dX4_takes_80 rfl (lv_at hl 0 rfl) ?_
          refine gs_X4_27_4 E hI ha dX4_takes_81 ?_
          refine lv_topi (fun f_20 ef_20 => ?_)
          replace hF := q_letX hF ef_20
          refine q_if_eq (A := f_20.toInt) E rfl (tgt := 95) dX4_takes_84 (by decide) (fun c_21 => ?_) (fun c_21 => ?_)
          · skip
            replace hF := q_ifp hF c_21
            refine lv_iconst (v := 1) hx hb dX4_takes_95 zki_1 ?_
            refine lv_goto (tgt := 100) hx hb dX4_takes_96 (by decide) ?_
            have hrv : (1 : Int32).toInt = 1 := zt_1
            exact q_retz E hr hlk hI ⟨by decide, by decide⟩ ⟨⟨by decide, by decide⟩, (hF.trans hout), fr_σ_19⟩ dX4_takes_100
          · skip
            replace hF := q_ifn hF c_21
            refine lv_aload_n hx hb dX4_takes_87 rfl (lv_at hl 0 rfl) ?_
            refine lv_iconst (v := 2) hx hb dX4_takes_88 zki_2 ?_
            have kc_22 : (2 : Int32).toInt = 2 := zt_2
            refine q_ci (q_runU (As := [.int 2]) (rest := []) E (hml.trans hl.1.symm) hI (c_X3_fails l X σ_19 a (2 : Int32) (Or.inl ha)) ku_X4_59_4 ha ⟨rfl, by decide⟩ (show vwCl[3]? = some (RX4, TX4, 11) from rfl) rfl ⟨Nat.le_of_ble_eq_true rfl, Nat.le_of_ble_eq_true rfl⟩ ⟨Nat.le_refl _, Nat.le_refl _⟩ rfl (Nat.le_of_ble_eq_true rfl) dX4_takes_89) hI (Nat.le_of_ble_eq_true rfl) (fun r_23 σ_24 H locs hpσ_24 hkσ_24 hI => ?_)
            have ahpσ_24 := hpσ_24.1
            have bhpσ_24 := hpσ_24.2.1
            have chpσ_24 := hpσ_24.2.2.1
            have dhpσ_24 := hpσ_24.2.2.2
            clear hpσ_24
            have fr_σ_24 := fr_σ_19.call dhpσ_24 rfl rfl
            replace hF := q_biX hF chpσ_24
            refine q_if_eq (A := r_23.toInt) E rfl (tgt := 99) dX4_takes_92 (by decide) (fun c_25 => ?_) (fun c_25 => ?_)
            · skip
              replace hF := q_ifp hF c_25
              refine lv_iconst (v := 0) hx hb dX4_takes_99 zki_0 ?_
              have hrv : (0 : Int32).toInt = 0 := zt_0
              exact q_retz E hr hlk hI ⟨by decide, by decide⟩ ⟨⟨by decide, by decide⟩, (hF.trans hout), fr_σ_24⟩ dX4_takes_100
            · skip
              replace hF := q_ifn hF c_25
              replace c_25 := q_ifOne ahpσ_24 c_25
              refine lv_iconst (v := 1) hx hb dX4_takes_95 zki_1 ?_
              refine lv_goto (tgt := 100) hx hb dX4_takes_96 (by decide) ?_
              have hrv : (1 : Int32).toInt = 1 := zt_1
              exact q_retz E hr hlk hI ⟨by decide, by decide⟩ ⟨⟨by decide, by decide⟩, (hF.trans hout), fr_σ_24⟩ dX4_takes_100
        · skip
          replace hF := q_ifn hF c_18
          refine lv_aload_n hx hb dX4_takes_36 rfl (lv_at hl 0 rfl) ?_
          refine va_ldcS hx hb E.2.2.1 (kz_X4_41 E) dX4_takes_37 ?_
          refine q_ci (q_runU (As := [.ref (q_sk X 13)]) (rest := []) E (hml.trans hl.1.symm) hI (c_X3_isWord l X σ_7 a 13 (Or.inl ha) (by decide : 13 < 22)) ku_X4_43_4 ha ⟨rfl, by decide⟩ (show vwCl[3]? = some (RX4, TX4, 11) from rfl) rfl ⟨Nat.le_of_ble_eq_true rfl, Nat.le_of_ble_eq_true rfl⟩ ⟨Nat.le_refl _, Nat.le_refl _⟩ rfl (Nat.le_of_ble_eq_true rfl) dX4_takes_39) hI (Nat.le_of_ble_eq_true rfl) (fun r_26 σ_27 H locs hpσ_27 hkσ_27 hI => ?_)
          have ahpσ_27 := hpσ_27.1
          have bhpσ_27 := hpσ_27.2.1
          have chpσ_27 := hpσ_27.2.2
          clear hpσ_27
          replace hI := q_Irw ahpσ_27 hI
          replace hF := q_letX hF chpσ_27
          refine q_if_eq (A := r_26.toInt) E rfl (tgt := 52) dX4_takes_42 (by decide) (fun c_28 => ?_) (fun c_28 => ?_)
          · skip
            replace hF := q_ifp hF c_28
            refine lv_aload_n hx hb dX4_takes_52 rfl (lv_at hl 0 rfl) ?_
            refine lv_aload_n hx hb dX4_takes_53 rfl (lv_at hl 3 rfl) ?_
            refine q_ci (q_rV3_1 (rest := []) E (hml.trans hl.1.symm) hI (c_X4_readStep l X σ_7 a r3 ha hr3) kv_X4_51 ha ⟨Nat.le_of_ble_eq_true rfl, Nat.le_of_ble_eq_true rfl⟩ (Nat.le_of_ble_eq_true rfl) dX4_takes_54) hI (Nat.le_of_ble_eq_true rfl) (fun r_29 σ_30 H locs hpσ_30 hkσ_30 hI => ?_)
            have ahpσ_30 := hpσ_30.1
            have bhpσ_30 := hpσ_30.2.1
            have chpσ_30 := hpσ_30.2.2
            clear hpσ_30
            have fr_σ_30 := fr_σ_7.call chpσ_30 rfl rfl
            replace hF := q_biX hF bhpσ_30
            refine lv_istore (lv' := [(5, .int r_29), (0, .ref a), (1, .ref r1), (2, .int v2), (3, .ref r3), (4, .int x_6)]) hx hb dX4_takes_57 hl (by decide) rfl (fun ls hl => ?_)
            refine lv_iload hx hb dX4_takes_59 (lv_at hl 0 rfl) ?_
            refine q_if_ne (A := r_29.toInt) E rfl (tgt := 66) dX4_takes_61 (by decide) (fun c_31 => ?_) (fun c_31 => ?_)
            · skip
              replace hF := q_ifn hF c_31
              replace c_31 := q_ifOne ahpσ_30 c_31
              obtain ⟨z_32, ez_32⟩ : ∃ y : Int32, y = x_6 + 1 := ⟨_, rfl⟩
              replace hF := q_letX hF ez_32
              refine lv_iinc (v := z_32) (lv' := [(4, .int z_32), (5, .int r_29), (0, .ref a), (1, .ref r1), (2, .int v2), (3, .ref r3)]) hx hb dX4_takes_66 hl (k := 5) rfl (by rw [ez_32]; rfl) (by decide) rfl (fun ls hl => ?_)
              have iz_32 : z_32.toInt = x_6.toInt + 1 := q_inc ez_32 (by first | (clear ahpσ_2 bhpσ_2 ahpσ_5 bhpσ_5 hm21 c_18 ahpσ_27 bhpσ_27 chpσ_27 c_28 ahpσ_30 bhpσ_30 chpσ_30 c_31; omega) | omega)
              refine lv_goto (tgt := 21) hx hb dX4_takes_69 (by decide) ?_
              exact ih21 z_32 σ_30 _ _ ls (by first | (clear ahpσ_2 bhpσ_2 ahpσ_5 bhpσ_5 ahpσ_27 bhpσ_27 chpσ_27 c_28 ahpσ_30 bhpσ_30 chpσ_30 c_31; omega) | omega) (by first | (clear ahpσ_2 bhpσ_2 ahpσ_5 bhpσ_5 hm21 c_18 ahpσ_27 bhpσ_27 chpσ_27 c_28 ahpσ_30 bhpσ_30 chpσ_30 c_31; omega) | omega) fr_σ_30 hF hI (lv_sub hl [2, 3, 4, 5, 0] rfl)
            · skip
              replace hF := q_ifp hF c_31
              skip
              refine lv_iconst (v := 0) hx hb dX4_takes_64 zki_0 ?_
              have hrv : (0 : Int32).toInt = 0 := zt_0
              exact q_retz E hr hlk hI ⟨by decide, by decide⟩ ⟨⟨by decide, by decide⟩, (hF.trans hout), fr_σ_30⟩ dX4_takes_65
          · skip
            replace hF := q_ifn hF c_28
            replace c_28 := q_ifOne bhpσ_27 c_28
            refine lv_aload_n hx hb dX4_takes_45 rfl (lv_at hl 0 rfl) ?_
            refine q_ci (q_rV3_0 (rest := []) E (hml.trans hl.1.symm) hI (c_X4_readEnd l X σ_7 a ha) kv_X4_47 ha ⟨Nat.le_of_ble_eq_true rfl, Nat.le_of_ble_eq_true rfl⟩ (Nat.le_of_ble_eq_true rfl) dX4_takes_46) hI (Nat.le_of_ble_eq_true rfl) (fun r_33 σ_34 H locs hpσ_34 hkσ_34 hI => ?_)
            have ahpσ_34 := hpσ_34.1
            have bhpσ_34 := hpσ_34.2.1
            have chpσ_34 := hpσ_34.2.2
            clear hpσ_34
            have fr_σ_34 := fr_σ_7.call chpσ_34 rfl rfl
            replace hF := q_biX hF bhpσ_34
            refine lv_goto (tgt := 57) hx hb dX4_takes_49 (by decide) ?_
            refine lv_istore (lv' := [(5, .int r_33), (0, .ref a), (1, .ref r1), (2, .int v2), (3, .ref r3), (4, .int x_6)]) hx hb dX4_takes_57 hl (by decide) rfl (fun ls hl => ?_)
            refine lv_iload hx hb dX4_takes_59 (lv_at hl 0 rfl) ?_
            refine q_if_ne (A := r_33.toInt) E rfl (tgt := 66) dX4_takes_61 (by decide) (fun c_35 => ?_) (fun c_35 => ?_)
            · skip
              replace hF := q_ifn hF c_35
              replace c_35 := q_ifOne ahpσ_34 c_35
              obtain ⟨z_36, ez_36⟩ : ∃ y : Int32, y = x_6 + 1 := ⟨_, rfl⟩
              replace hF := q_letX hF ez_36
              refine lv_iinc (v := z_36) (lv' := [(4, .int z_36), (5, .int r_33), (0, .ref a), (1, .ref r1), (2, .int v2), (3, .ref r3)]) hx hb dX4_takes_66 hl (k := 5) rfl (by rw [ez_36]; rfl) (by decide) rfl (fun ls hl => ?_)
              have iz_36 : z_36.toInt = x_6.toInt + 1 := q_inc ez_36 (by first | (clear ahpσ_2 bhpσ_2 ahpσ_5 bhpσ_5 hm21 c_18 ahpσ_27 bhpσ_27 chpσ_27 c_28 ahpσ_34 bhpσ_34 chpσ_34 c_35; omega) | omega)
              refine lv_goto (tgt := 21) hx hb dX4_takes_69 (by decide) ?_
              exact ih21 z_36 σ_34 _ _ ls (by first | (clear ahpσ_2 bhpσ_2 ahpσ_5 bhpσ_5 ahpσ_27 bhpσ_27 chpσ_27 c_28 ahpσ_34 bhpσ_34 chpσ_34 c_35; omega) | omega) (by first | (clear ahpσ_2 bhpσ_2 ahpσ_5 bhpσ_5 hm21 c_18 ahpσ_27 bhpσ_27 chpσ_27 c_28 ahpσ_34 bhpσ_34 chpσ_34 c_35; omega) | omega) fr_σ_34 hF hI (lv_sub hl [2, 3, 4, 5, 0] rfl)
            · skip
              replace hF := q_ifp hF c_35
              skip
              refine lv_iconst (v := 0) hx hb dX4_takes_64 zki_0 ?_
              have hrv : (0 : Int32).toInt = 0 := zt_0
              exact q_retz E hr hlk hI ⟨by decide, by decide⟩ ⟨⟨by decide, by decide⟩, (hF.trans hout), fr_σ_34⟩ dX4_takes_65
  exact L_21_8 ((2147483647 - (0 : Int32).toInt).toNat + 1) 0 σ_5 _ _ ls (Nat.lt_succ_self _) (by decide) fr_σ_5 hF hI (lv_sub hl [1, 2, 3, 4, 0] rfl)
end
/-! FROM 15.run.a.lean.txt -/
section
section QS
variable {p : Program} {l : Launch} {e : Env} {R : Room} {s : State} {m : MethodId} {args : Array Value} {below : List Frame} {meth : Method} {c : Code} {H : Heap} {locs : List Loc} {cells slots : Nat} {Q : State → Prop} {cc : ByteArray} {X : XW} {n : Nat} {σ0 σ : ST} {H0 : Heap} {pc : Nat} {ls : Array Slot} {rest : List Value} {a : Nat}
theorem gs_X7_70_8 (E : q_E p c cc s m args RX7 X) (hI : q_I X n σ0 H0 locs σ H) (ha : q_kd X a = 8) (hdg : decode cc pc = .ok (.getfield 70, 3)) (kk : W p l e R s m args below meth c H locs cells slots Q (F0 m (pc + 3) ls (.ref (q_rf X a 4) :: rest))) : W p l e R s m args below meth c H locs cells slots Q (F0 m pc ls (.ref a :: rest)) :=
  q_getf (ref := "CheatHeap$Script") E hI ha ⟨rfl, by decide⟩ (show vwCl[7]? = some (RX8, TX8, 8) from rfl) q_inX8 (f := 4) (by decide) (q_in_t1 (i := 199) (by first | rfl | decide +kernel) rfl) (Or.inl rfl) rfl hdg kk
theorem kv_X7_58 : q_okV RX7 58 RX5 yX5_get cX5_get 2 (some .int) 1 := ⟨(q_in_t6 (i := 145) (by first | rfl | decide +kernel) rfl), (q_in_t4 (i := 73) (by first | rfl | decide +kernel) rfl), (q_in_t4 (i := 74) (by first | rfl | decide +kernel) rfl), (q_in_t1 (i := 4) (by first | rfl | decide +kernel) rfl), (q_in_t4 (i := 75) (by first | rfl | decide +kernel) rfl), ⟨rfl, by decide, by decide, rfl⟩⟩
theorem gs_X7_55_8 (E : q_E p c cc s m args RX7 X) (hI : q_I X n σ0 H0 locs σ H) (ha : q_kd X a = 8) (hdg : decode cc pc = .ok (.getfield 55, 3)) (kk : W p l e R s m args below meth c H locs cells slots Q (F0 m (pc + 3) ls (.ref (q_rf X a 3) :: rest))) : W p l e R s m args below meth c H locs cells slots Q (F0 m pc ls (.ref a :: rest)) :=
  q_getf (ref := "CheatHeap$Script") E hI ha ⟨rfl, by decide⟩ (show vwCl[7]? = some (RX8, TX8, 8) from rfl) q_inX8 (f := 3) (by decide) (q_in_t1 (i := 196) (by first | rfl | decide +kernel) rfl) (Or.inl rfl) rfl hdg kk
theorem gs_X7_41_7 (E : q_E p c cc s m args RX7 X) (hI : q_I X n σ0 H0 locs σ H) (ha : q_kd X a = 7) (hdg : decode cc pc = .ok (.getfield 41, 3)) (kk : W p l e R s m args below meth c H locs cells slots Q (F0 m (pc + 3) ls (.ref (q_rf X a 7) :: rest))) : W p l e R s m args below meth c H locs cells slots Q (F0 m pc ls (.ref a :: rest)) :=
  q_getf (ref := "CheatHeap$Run") E hI ha ⟨rfl, by decide⟩ (show vwCl[6]? = some (RX7, TX7, 8) from rfl) q_inX7 (f := 7) (by decide) (q_in_t2 (i := 167) (by first | rfl | decide +kernel) rfl) (Or.inl rfl) rfl hdg kk
theorem kv_X7_73 : q_okV RX7 73 RX5 yX5_add cX5_add 3 none 2 := ⟨(q_in_t6 (i := 150) (by first | rfl | decide +kernel) rfl), (q_in_t4 (i := 113) (by first | rfl | decide +kernel) rfl), (q_in_t4 (i := 114) (by first | rfl | decide +kernel) rfl), (q_in_t1 (i := 4) (by first | rfl | decide +kernel) rfl), (q_in_t4 (i := 115) (by first | rfl | decide +kernel) rfl), ⟨rfl, by decide, by decide, rfl⟩⟩
theorem gs_X7_31_7 (E : q_E p c cc s m args RX7 X) (hI : q_I X n σ0 H0 locs σ H) (ha : q_kd X a = 7) (hdg : decode cc pc = .ok (.getfield 31, 3)) (kk : W p l e R s m args below meth c H locs cells slots Q (F0 m (pc + 3) ls (.int (σ.1 a 6) :: rest))) : W p l e R s m args below meth c H locs cells slots Q (F0 m pc ls (.ref a :: rest)) :=
  q_getf (ref := "CheatHeap$Run") E hI ha ⟨rfl, by decide⟩ (show vwCl[6]? = some (RX7, TX7, 8) from rfl) q_inX7 (f := 6) (by decide) (q_in_t2 (i := 166) (by first | rfl | decide +kernel) rfl) (Or.inl rfl) rfl hdg kk
theorem ps_X7_31_7 (E : q_E p c cc s m args RX7 X) (hI : q_I X n σ0 H0 locs σ H) (ha : q_kd X a = 7) {v : Int32} (hcl : n < 9) (hdg : decode cc pc = .ok (.putfield 31, 3)) (kk : ∀ (H1 : Heap) (locs1 : List Loc) (σ1 : ST), σ1 = q_si σ a 6 v → q_I X n σ0 H0 locs1 σ1 H1 → W p l e R s m args below meth c H1 locs1 cells slots Q (F0 m (pc + 3) ls rest)) : W p l e R s m args below meth c H locs cells slots Q (F0 m pc ls (.int v :: .ref a :: rest)) :=
  q_puti (ref := "CheatHeap$Run") E hI ha ⟨rfl, by decide⟩ (show vwCl[6]? = some (RX7, TX7, 8) from rfl) q_inX7 tyX7_ok nmX7 (f := 6) (by decide) (q_in_t2 (i := 166) (by first | rfl | decide +kernel) rfl) (Or.inl rfl) rfl rfl hcl hdg (q_inU rfl) (Or.inl rfl) (fun H1 l1 h => kk H1 l1 _ rfl h)
theorem gs_X7_129_1 (E : q_E p c cc s m args RX7 X) (hI : q_I X n σ0 H0 locs σ H) (ha : q_kd X a = 1) (hdg : decode cc pc = .ok (.getfield 129, 3)) (kk : W p l e R s m args below meth c H locs cells slots Q (F0 m (pc + 3) ls (.ref (q_rf X a 0) :: rest))) : W p l e R s m args below meth c H locs cells slots Q (F0 m pc ls (.ref a :: rest)) :=
  q_getf (ref := "CheatHeap$Game") E hI ha ⟨rfl, by decide⟩ (show vwCl[0]? = some (RX0, TX0, 15) from rfl) q_inX0 (f := 0) (by decide) (q_in_t1 (i := 230) (by first | rfl | decide +kernel) rfl) (Or.inl rfl) rfl hdg kk
theorem gs_X7_185_6 (E : q_E p c cc s m args RX7 X) (hI : q_I X n σ0 H0 locs σ H) (ha : q_kd X a = 6) (hdg : decode cc pc = .ok (.getfield 185, 3)) (kk : W p l e R s m args below meth c H locs cells slots Q (F0 m (pc + 3) ls (.int (σ.1 a 0) :: rest))) : W p l e R s m args below meth c H locs cells slots Q (F0 m pc ls (.ref a :: rest)) :=
  q_getf (ref := "CheatHeap$Rules") E hI ha ⟨rfl, by decide⟩ (show vwCl[5]? = some (RX6, TX6, 8) from rfl) q_inX6 (f := 0) (by decide) (q_in_t1 (i := 60) (by first | rfl | decide +kernel) rfl) (Or.inl rfl) rfl hdg kk
theorem gs_X7_77_1 (E : q_E p c cc s m args RX7 X) (hI : q_I X n σ0 H0 locs σ H) (ha : q_kd X a = 1) (hdg : decode cc pc = .ok (.getfield 77, 3)) (kk : W p l e R s m args below meth c H locs cells slots Q (F0 m (pc + 3) ls (.ref (q_rf X a 1) :: rest))) : W p l e R s m args below meth c H locs cells slots Q (F0 m pc ls (.ref a :: rest)) :=
  q_getf (ref := "CheatHeap$Game") E hI ha ⟨rfl, by decide⟩ (show vwCl[0]? = some (RX0, TX0, 15) from rfl) q_inX0 (f := 1) (by decide) (q_in_t1 (i := 233) (by first | rfl | decide +kernel) rfl) (Or.inl rfl) rfl hdg kk
theorem gs_X7_138_1 (E : q_E p c cc s m args RX7 X) (hI : q_I X n σ0 H0 locs σ H) (ha : q_kd X a = 1) (hdg : decode cc pc = .ok (.getfield 138, 3)) (kk : W p l e R s m args below meth c H locs cells slots Q (F0 m (pc + 3) ls (.int (σ.1 a 5) :: rest))) : W p l e R s m args below meth c H locs cells slots Q (F0 m pc ls (.ref a :: rest)) :=
  q_getf (ref := "CheatHeap$Game") E hI ha ⟨rfl, by decide⟩ (show vwCl[0]? = some (RX0, TX0, 15) from rfl) q_inX0 (f := 5) (by decide) (q_in_t2 (i := 6) (by first | rfl | decide +kernel) rfl) (Or.inl rfl) rfl hdg kk
theorem kv_X7_161 : q_okV RX7 161 RX1 yX1_heldBy cX1_heldBy 3 (some .int) 2 := ⟨(q_in_t6 (i := 164) (by first | rfl | decide +kernel) rfl), (q_in_t5 (i := 37) (by first | rfl | decide +kernel) rfl), (q_in_t5 (i := 38) (by first | rfl | decide +kernel) rfl), (q_in_t1 (i := 6) (by first | rfl | decide +kernel) rfl), (q_in_t5 (i := 39) (by first | rfl | decide +kernel) rfl), ⟨rfl, by decide, by decide, rfl⟩⟩
theorem gs_X7_158_1 (E : q_E p c cc s m args RX7 X) (hI : q_I X n σ0 H0 locs σ H) (ha : q_kd X a = 1) (hdg : decode cc pc = .ok (.getfield 158, 3)) (kk : W p l e R s m args below meth c H locs cells slots Q (F0 m (pc + 3) ls (.int (σ.1 a 4) :: rest))) : W p l e R s m args below meth c H locs cells slots Q (F0 m pc ls (.ref a :: rest)) :=
  q_getf (ref := "CheatHeap$Game") E hI ha ⟨rfl, by decide⟩ (show vwCl[0]? = some (RX0, TX0, 15) from rfl) q_inX0 (f := 4) (by decide) (q_in_t2 (i := 3) (by first | rfl | decide +kernel) rfl) (Or.inl rfl) rfl hdg kk
theorem gs_X7_165_6 (E : q_E p c cc s m args RX7 X) (hI : q_I X n σ0 H0 locs σ H) (ha : q_kd X a = 6) (hdg : decode cc pc = .ok (.getfield 165, 3)) (kk : W p l e R s m args below meth c H locs cells slots Q (F0 m (pc + 3) ls (.int (σ.1 a 3) :: rest))) : W p l e R s m args below meth c H locs cells slots Q (F0 m pc ls (.ref a :: rest)) :=
  q_getf (ref := "CheatHeap$Rules") E hI ha ⟨rfl, by decide⟩ (show vwCl[5]? = some (RX6, TX6, 8) from rfl) q_inX6 (f := 3) (by decide) (q_in_t1 (i := 69) (by first | rfl | decide +kernel) rfl) (Or.inl rfl) rfl hdg kk
theorem ks_X7_168 : q_okS RX7 168 yJ9_min_7cf53 cJ9_min_7cf53 2 (some .int) 2 := ⟨(q_in_t6 (i := 165) (by first | rfl | decide +kernel) rfl), (q_in_t3 (i := 43) (by first | rfl | decide +kernel) rfl), (q_in_t1 (i := 5) (by first | rfl | decide +kernel) rfl), (q_in_t3 (i := 44) (by first | rfl | decide +kernel) rfl), ⟨by decide, by decide, rfl⟩⟩
theorem kv_X7_173 : q_okV RX7 173 RX0 yX0_clearWanted cX0_clearWanted 1 none 0 := ⟨(q_in_t6 (i := 166) (by first | rfl | decide +kernel) rfl), (q_in_t5 (i := 75) (by first | rfl | decide +kernel) rfl), (q_in_t5 (i := 76) (by first | rfl | decide +kernel) rfl), (q_in_t1 (i := 2) (by first | rfl | decide +kernel) rfl), (q_in_t5 (i := 77) (by first | rfl | decide +kernel) rfl), ⟨rfl, by decide, by decide, rfl⟩⟩
theorem kv_X7_176 : q_okV RX7 176 RX0 yX0_want cX0_want 3 none 2 := ⟨(q_in_t6 (i := 167) (by first | rfl | decide +kernel) rfl), (q_in_t5 (i := 80) (by first | rfl | decide +kernel) rfl), (q_in_t5 (i := 81) (by first | rfl | decide +kernel) rfl), (q_in_t1 (i := 2) (by first | rfl | decide +kernel) rfl), (q_in_t5 (i := 82) (by first | rfl | decide +kernel) rfl), ⟨rfl, by decide, by decide, rfl⟩⟩
theorem ks_X7_182 : q_okS RX7 182 yX7_fullestOther cX7_fullestOther 5 (some .int) 1 := ⟨(q_in_t6 (i := 173) (by first | rfl | decide +kernel) rfl), (q_in_t6 (i := 174) (by first | rfl | decide +kernel) rfl), (q_in_t1 (i := 12) (by first | rfl | decide +kernel) rfl), (q_in_t6 (i := 175) (by first | rfl | decide +kernel) rfl), ⟨by decide, by decide, rfl⟩⟩
theorem kv_X7_179 : q_okV RX7 179 RX7 yX7_draw cX7_draw 1 (some .int) 0 := ⟨(q_in_t6 (i := 168) (by first | rfl | decide +kernel) rfl), (q_in_t6 (i := 170) (by first | rfl | decide +kernel) rfl), (q_in_p (i := 33) (by decide +kernel) rfl), (q_in_t1 (i := 12) (by first | rfl | decide +kernel) rfl), (q_in_t6 (i := 171) (by first | rfl | decide +kernel) rfl), ⟨rfl, by decide, by decide, rfl⟩⟩
theorem gs_X7_91_2 (E : q_E p c cc s m args RX7 X) (hI : q_I X n σ0 H0 locs σ H) (ha : q_kd X a = 2) (hdg : decode cc pc = .ok (.getfield 91, 3)) (kk : W p l e R s m args below meth c H locs cells slots Q (F0 m (pc + 3) ls (.ref (q_rf X a 3) :: rest))) : W p l e R s m args below meth c H locs cells slots Q (F0 m pc ls (.ref a :: rest)) :=
  q_getf (ref := "CheatHeap$Hands") E hI ha ⟨rfl, by decide⟩ (show vwCl[1]? = some (RX1, TX1, 7) from rfl) q_inX1 (f := 3) (by decide) (q_in_t1 (i := 116) (by first | rfl | decide +kernel) rfl) (Or.inl rfl) rfl hdg kk
theorem gs_X7_102_2 (E : q_E p c cc s m args RX7 X) (hI : q_I X n σ0 H0 locs σ H) (ha : q_kd X a = 2) (hdg : decode cc pc = .ok (.getfield 102, 3)) (kk : W p l e R s m args below meth c H locs cells slots Q (F0 m (pc + 3) ls (.ref (q_rf X a 2) :: rest))) : W p l e R s m args below meth c H locs cells slots Q (F0 m pc ls (.ref a :: rest)) :=
  q_getf (ref := "CheatHeap$Hands") E hI ha ⟨rfl, by decide⟩ (show vwCl[1]? = some (RX1, TX1, 7) from rfl) q_inX1 (f := 2) (by decide) (q_in_t1 (i := 112) (by first | rfl | decide +kernel) rfl) (Or.inl rfl) rfl hdg kk
theorem gs_X7_133_6 (E : q_E p c cc s m args RX7 X) (hI : q_I X n σ0 H0 locs σ H) (ha : q_kd X a = 6) (hdg : decode cc pc = .ok (.getfield 133, 3)) (kk : W p l e R s m args below meth c H locs cells slots Q (F0 m (pc + 3) ls (.int (σ.1 a 4) :: rest))) : W p l e R s m args below meth c H locs cells slots Q (F0 m pc ls (.ref a :: rest)) :=
  q_getf (ref := "CheatHeap$Rules") E hI ha ⟨rfl, by decide⟩ (show vwCl[5]? = some (RX6, TX6, 8) from rfl) q_inX6 (f := 4) (by decide) (q_in_t1 (i := 74) (by first | rfl | decide +kernel) rfl) (Or.inl rfl) rfl hdg kk
theorem kv_X7_188 : q_okV RX7 188 RX6 yX6_playerAfter cX6_playerAfter 3 (some .int) 2 := ⟨(q_in_t6 (i := 181) (by first | rfl | decide +kernel) rfl), (q_in_t5 (i := 129) (by first | rfl | decide +kernel) rfl), (q_in_t5 (i := 130) (by first | rfl | decide +kernel) rfl), (q_in_t1 (i := 3) (by first | rfl | decide +kernel) rfl), (q_in_t5 (i := 131) (by first | rfl | decide +kernel) rfl), ⟨rfl, by decide, by decide, rfl⟩⟩
theorem kv_X7_191 : q_okV RX7 191 RX0 yX0_isImpossibleFor cX0_isImpossibleFor 2 (some .boolean) 1 := ⟨(q_in_t6 (i := 182) (by first | rfl | decide +kernel) rfl), (q_in_t5 (i := 196) (by first | rfl | decide +kernel) rfl), (q_in_t5 (i := 197) (by first | rfl | decide +kernel) rfl), (q_in_t1 (i := 2) (by first | rfl | decide +kernel) rfl), (q_in_t5 (i := 198) (by first | rfl | decide +kernel) rfl), ⟨rfl, by decide, by decide, rfl⟩⟩
theorem gs_X7_99_2 (E : q_E p c cc s m args RX7 X) (hI : q_I X n σ0 H0 locs σ H) (ha : q_kd X a = 2) (hdg : decode cc pc = .ok (.getfield 99, 3)) (kk : W p l e R s m args below meth c H locs cells slots Q (F0 m (pc + 3) ls (.ref (q_rf X a 4) :: rest))) : W p l e R s m args below meth c H locs cells slots Q (F0 m pc ls (.ref a :: rest)) :=
  q_getf (ref := "CheatHeap$Hands") E hI ha ⟨rfl, by decide⟩ (show vwCl[1]? = some (RX1, TX1, 7) from rfl) q_inX1 (f := 4) (by decide) (q_in_t1 (i := 120) (by first | rfl | decide +kernel) rfl) (Or.inl rfl) rfl hdg kk
theorem gs_X7_123_1 (E : q_E p c cc s m args RX7 X) (hI : q_I X n σ0 H0 locs σ H) (ha : q_kd X a = 1) (hdg : decode cc pc = .ok (.getfield 123, 3)) (kk : W p l e R s m args below meth c H locs cells slots Q (F0 m (pc + 3) ls (.int (σ.1 a 7) :: rest))) : W p l e R s m args below meth c H locs cells slots Q (F0 m pc ls (.ref a :: rest)) :=
  q_getf (ref := "CheatHeap$Game") E hI ha ⟨rfl, by decide⟩ (show vwCl[0]? = some (RX0, TX0, 15) from rfl) q_inX0 (f := 7) (by decide) (q_in_t2 (i := 12) (by first | rfl | decide +kernel) rfl) (Or.inl rfl) rfl hdg kk
theorem gs_X7_120_1 (E : q_E p c cc s m args RX7 X) (hI : q_I X n σ0 H0 locs σ H) (ha : q_kd X a = 1) (hdg : decode cc pc = .ok (.getfield 120, 3)) (kk : W p l e R s m args below meth c H locs cells slots Q (F0 m (pc + 3) ls (.int (σ.1 a 6) :: rest))) : W p l e R s m args below meth c H locs cells slots Q (F0 m pc ls (.ref a :: rest)) :=
  q_getf (ref := "CheatHeap$Game") E hI ha ⟨rfl, by decide⟩ (show vwCl[0]? = some (RX0, TX0, 15) from rfl) q_inX0 (f := 6) (by decide) (q_in_t2 (i := 9) (by first | rfl | decide +kernel) rfl) (Or.inl rfl) rfl hdg kk
theorem gs_X7_15_7 (E : q_E p c cc s m args RX7 X) (hI : q_I X n σ0 H0 locs σ H) (ha : q_kd X a = 7) (hdg : decode cc pc = .ok (.getfield 15, 3)) (kk : W p l e R s m args below meth c H locs cells slots Q (F0 m (pc + 3) ls (.int (σ.1 a 1) :: rest))) : W p l e R s m args below meth c H locs cells slots Q (F0 m pc ls (.ref a :: rest)) :=
  q_getf (ref := "CheatHeap$Run") E hI ha ⟨rfl, by decide⟩ (show vwCl[6]? = some (RX7, TX7, 8) from rfl) q_inX7 (f := 1) (by decide) (q_in_t2 (i := 156) (by first | rfl | decide +kernel) rfl) (Or.inl rfl) rfl hdg kk
theorem ps_X7_15_7 (E : q_E p c cc s m args RX7 X) (hI : q_I X n σ0 H0 locs σ H) (ha : q_kd X a = 7) {v : Int32} (hcl : n < 9) (hdg : decode cc pc = .ok (.putfield 15, 3)) (kk : ∀ (H1 : Heap) (locs1 : List Loc) (σ1 : ST), σ1 = q_si σ a 1 v → q_I X n σ0 H0 locs1 σ1 H1 → W p l e R s m args below meth c H1 locs1 cells slots Q (F0 m (pc + 3) ls rest)) : W p l e R s m args below meth c H locs cells slots Q (F0 m pc ls (.int v :: .ref a :: rest)) :=
  q_puti (ref := "CheatHeap$Run") E hI ha ⟨rfl, by decide⟩ (show vwCl[6]? = some (RX7, TX7, 8) from rfl) q_inX7 tyX7_ok nmX7 (f := 1) (by decide) (q_in_t2 (i := 156) (by first | rfl | decide +kernel) rfl) (Or.inl rfl) rfl rfl hcl hdg (q_inU rfl) (Or.inl rfl) (fun H1 l1 h => kk H1 l1 _ rfl h)
theorem kv_X7_141 : q_okV RX7 141 RX7 yX7_choose cX7_choose 5 none 1 := ⟨(q_in_t6 (i := 160) (by first | rfl | decide +kernel) rfl), (q_in_t6 (i := 162) (by first | rfl | decide +kernel) rfl), (q_in_p (i := 32) (by decide +kernel) rfl), (q_in_t1 (i := 12) (by first | rfl | decide +kernel) rfl), (q_in_t6 (i := 163) (by first | rfl | decide +kernel) rfl), ⟨rfl, by decide, by decide, rfl⟩⟩
theorem kv_X7_144 : q_okV RX7 144 RX0 yX0_layWanted cX0_layWanted 2 none 0 := ⟨(q_in_t6 (i := 176) (by first | rfl | decide +kernel) rfl), (q_in_t5 (i := 91) (by first | rfl | decide +kernel) rfl), (q_in_t5 (i := 92) (by first | rfl | decide +kernel) rfl), (q_in_t1 (i := 2) (by first | rfl | decide +kernel) rfl), (q_in_t5 (i := 93) (by first | rfl | decide +kernel) rfl), ⟨rfl, by decide, by decide, rfl⟩⟩
theorem gs_X7_18_7 (E : q_E p c cc s m args RX7 X) (hI : q_I X n σ0 H0 locs σ H) (ha : q_kd X a = 7) (hdg : decode cc pc = .ok (.getfield 18, 3)) (kk : W p l e R s m args below meth c H locs cells slots Q (F0 m (pc + 3) ls (.int (σ.1 a 2) :: rest))) : W p l e R s m args below meth c H locs cells slots Q (F0 m pc ls (.ref a :: rest)) :=
  q_getf (ref := "CheatHeap$Run") E hI ha ⟨rfl, by decide⟩ (show vwCl[6]? = some (RX7, TX7, 8) from rfl) q_inX7 (f := 2) (by decide) (q_in_t2 (i := 158) (by first | rfl | decide +kernel) rfl) (Or.inl rfl) rfl hdg kk
theorem ps_X7_18_7 (E : q_E p c cc s m args RX7 X) (hI : q_I X n σ0 H0 locs σ H) (ha : q_kd X a = 7) {v : Int32} (hcl : n < 9) (hdg : decode cc pc = .ok (.putfield 18, 3)) (kk : ∀ (H1 : Heap) (locs1 : List Loc) (σ1 : ST), σ1 = q_si σ a 2 v → q_I X n σ0 H0 locs1 σ1 H1 → W p l e R s m args below meth c H1 locs1 cells slots Q (F0 m (pc + 3) ls rest)) : W p l e R s m args below meth c H locs cells slots Q (F0 m pc ls (.int v :: .ref a :: rest)) :=
  q_puti (ref := "CheatHeap$Run") E hI ha ⟨rfl, by decide⟩ (show vwCl[6]? = some (RX7, TX7, 8) from rfl) q_inX7 tyX7_ok nmX7 (f := 2) (by decide) (q_in_t2 (i := 158) (by first | rfl | decide +kernel) rfl) (Or.inl rfl) rfl rfl hcl hdg (q_inU rfl) (Or.inl rfl) (fun H1 l1 h => kk H1 l1 _ rfl h)
theorem kv_X7_147 : q_okV RX7 147 RX7 yX7_firstDoubter cX7_firstDoubter 4 (some .int) 1 := ⟨(q_in_t6 (i := 177) (by first | rfl | decide +kernel) rfl), (q_in_t6 (i := 179) (by first | rfl | decide +kernel) rfl), (q_in_p (i := 34) (by decide +kernel) rfl), (q_in_t1 (i := 12) (by first | rfl | decide +kernel) rfl), (q_in_t6 (i := 180) (by first | rfl | decide +kernel) rfl), ⟨rfl, by decide, by decide, rfl⟩⟩
theorem gs_X7_21_7 (E : q_E p c cc s m args RX7 X) (hI : q_I X n σ0 H0 locs σ H) (ha : q_kd X a = 7) (hdg : decode cc pc = .ok (.getfield 21, 3)) (kk : W p l e R s m args below meth c H locs cells slots Q (F0 m (pc + 3) ls (.int (σ.1 a 3) :: rest))) : W p l e R s m args below meth c H locs cells slots Q (F0 m pc ls (.ref a :: rest)) :=
  q_getf (ref := "CheatHeap$Run") E hI ha ⟨rfl, by decide⟩ (show vwCl[6]? = some (RX7, TX7, 8) from rfl) q_inX7 (f := 3) (by decide) (q_in_t2 (i := 160) (by first | rfl | decide +kernel) rfl) (Or.inl rfl) rfl hdg kk
theorem ps_X7_21_7 (E : q_E p c cc s m args RX7 X) (hI : q_I X n σ0 H0 locs σ H) (ha : q_kd X a = 7) {v : Int32} (hcl : n < 9) (hdg : decode cc pc = .ok (.putfield 21, 3)) (kk : ∀ (H1 : Heap) (locs1 : List Loc) (σ1 : ST), σ1 = q_si σ a 3 v → q_I X n σ0 H0 locs1 σ1 H1 → W p l e R s m args below meth c H1 locs1 cells slots Q (F0 m (pc + 3) ls rest)) : W p l e R s m args below meth c H locs cells slots Q (F0 m pc ls (.int v :: .ref a :: rest)) :=
  q_puti (ref := "CheatHeap$Run") E hI ha ⟨rfl, by decide⟩ (show vwCl[6]? = some (RX7, TX7, 8) from rfl) q_inX7 tyX7_ok nmX7 (f := 3) (by decide) (q_in_t2 (i := 160) (by first | rfl | decide +kernel) rfl) (Or.inl rfl) rfl rfl hcl hdg (q_inU rfl) (Or.inl rfl) (fun H1 l1 h => kk H1 l1 _ rfl h)
theorem gs_X7_109_1 (E : q_E p c cc s m args RX7 X) (hI : q_I X n σ0 H0 locs σ H) (ha : q_kd X a = 1) (hdg : decode cc pc = .ok (.getfield 109, 3)) (kk : W p l e R s m args below meth c H locs cells slots Q (F0 m (pc + 3) ls (.ref (q_rf X a 2) :: rest))) : W p l e R s m args below meth c H locs cells slots Q (F0 m pc ls (.ref a :: rest)) :=
  q_getf (ref := "CheatHeap$Game") E hI ha ⟨rfl, by decide⟩ (show vwCl[0]? = some (RX0, TX0, 15) from rfl) q_inX0 (f := 2) (by decide) (q_in_t1 (i := 237) (by first | rfl | decide +kernel) rfl) (Or.inl rfl) rfl hdg kk
theorem kv_X7_151 : q_okV RX7 151 RX2 yX2_topTruth cX2_topTruth 1 (some .int) 0 := ⟨(q_in_t6 (i := 183) (by first | rfl | decide +kernel) rfl), (q_in_t5 (i := 145) (by first | rfl | decide +kernel) rfl), (q_in_t5 (i := 146) (by first | rfl | decide +kernel) rfl), (q_in_t1 (i := 7) (by first | rfl | decide +kernel) rfl), (q_in_t5 (i := 147) (by first | rfl | decide +kernel) rfl), ⟨rfl, by decide, by decide, rfl⟩⟩
theorem kv_X7_155 : q_okV RX7 155 RX0 yX0_challenge cX0_challenge 5 (some .int) 1 := ⟨(q_in_t6 (i := 184) (by first | rfl | decide +kernel) rfl), (q_in_t5 (i := 141) (by first | rfl | decide +kernel) rfl), (q_in_t5 (i := 142) (by first | rfl | decide +kernel) rfl), (q_in_t1 (i := 2) (by first | rfl | decide +kernel) rfl), (q_in_t5 (i := 143) (by first | rfl | decide +kernel) rfl), ⟨rfl, by decide, by decide, rfl⟩⟩
theorem gs_X7_24_7 (E : q_E p c cc s m args RX7 X) (hI : q_I X n σ0 H0 locs σ H) (ha : q_kd X a = 7) (hdg : decode cc pc = .ok (.getfield 24, 3)) (kk : W p l e R s m args below meth c H locs cells slots Q (F0 m (pc + 3) ls (.int (σ.1 a 4) :: rest))) : W p l e R s m args below meth c H locs cells slots Q (F0 m pc ls (.ref a :: rest)) :=
  q_getf (ref := "CheatHeap$Run") E hI ha ⟨rfl, by decide⟩ (show vwCl[6]? = some (RX7, TX7, 8) from rfl) q_inX7 (f := 4) (by decide) (q_in_t2 (i := 162) (by first | rfl | decide +kernel) rfl) (Or.inl rfl) rfl hdg kk
theorem ps_X7_24_7 (E : q_E p c cc s m args RX7 X) (hI : q_I X n σ0 H0 locs σ H) (ha : q_kd X a = 7) {v : Int32} (hcl : n < 9) (hdg : decode cc pc = .ok (.putfield 24, 3)) (kk : ∀ (H1 : Heap) (locs1 : List Loc) (σ1 : ST), σ1 = q_si σ a 4 v → q_I X n σ0 H0 locs1 σ1 H1 → W p l e R s m args below meth c H1 locs1 cells slots Q (F0 m (pc + 3) ls rest)) : W p l e R s m args below meth c H locs cells slots Q (F0 m pc ls (.int v :: .ref a :: rest)) :=
  q_puti (ref := "CheatHeap$Run") E hI ha ⟨rfl, by decide⟩ (show vwCl[6]? = some (RX7, TX7, 8) from rfl) q_inX7 tyX7_ok nmX7 (f := 4) (by decide) (q_in_t2 (i := 162) (by first | rfl | decide +kernel) rfl) (Or.inl rfl) rfl rfl hcl hdg (q_inU rfl) (Or.inl rfl) (fun H1 l1 h => kk H1 l1 _ rfl h)
theorem kv_X7_126 : q_okV RX7 126 RX0 yX0_letLie cX0_letLie 1 none 0 := ⟨(q_in_t6 (i := 159) (by first | rfl | decide +kernel) rfl), (q_in_t5 (i := 114) (by first | rfl | decide +kernel) rfl), (q_in_t5 (i := 115) (by first | rfl | decide +kernel) rfl), (q_in_t1 (i := 2) (by first | rfl | decide +kernel) rfl), (q_in_t5 (i := 116) (by first | rfl | decide +kernel) rfl), ⟨rfl, by decide, by decide, rfl⟩⟩
theorem gs_X7_45_1 (E : q_E p c cc s m args RX7 X) (hI : q_I X n σ0 H0 locs σ H) (ha : q_kd X a = 1) (hdg : decode cc pc = .ok (.getfield 45, 3)) (kk : W p l e R s m args below meth c H locs cells slots Q (F0 m (pc + 3) ls (.ref (q_rf X a 3) :: rest))) : W p l e R s m args below meth c H locs cells slots Q (F0 m pc ls (.ref a :: rest)) :=
  q_getf (ref := "CheatHeap$Game") E hI ha ⟨rfl, by decide⟩ (show vwCl[0]? = some (RX0, TX0, 15) from rfl) q_inX0 (f := 3) (by decide) (q_in_t2 (i := 0) (by first | rfl | decide +kernel) rfl) (Or.inl rfl) rfl hdg kk
theorem gs_X7_81_8 (E : q_E p c cc s m args RX7 X) (hI : q_I X n σ0 H0 locs σ H) (ha : q_kd X a = 8) (hdg : decode cc pc = .ok (.getfield 81, 3)) (kk : W p l e R s m args below meth c H locs cells slots Q (F0 m (pc + 3) ls (.ref (q_rf X a 5) :: rest))) : W p l e R s m args below meth c H locs cells slots Q (F0 m pc ls (.ref a :: rest)) :=
  q_getf (ref := "CheatHeap$Script") E hI ha ⟨rfl, by decide⟩ (show vwCl[7]? = some (RX8, TX8, 8) from rfl) q_inX8 (f := 5) (by decide) (q_in_t1 (i := 202) (by first | rfl | decide +kernel) rfl) (Or.inl rfl) rfl hdg kk
theorem gs_X7_84_8 (E : q_E p c cc s m args RX7 X) (hI : q_I X n σ0 H0 locs σ H) (ha : q_kd X a = 8) (hdg : decode cc pc = .ok (.getfield 84, 3)) (kk : W p l e R s m args below meth c H locs cells slots Q (F0 m (pc + 3) ls (.ref (q_rf X a 7) :: rest))) : W p l e R s m args below meth c H locs cells slots Q (F0 m pc ls (.ref a :: rest)) :=
  q_getf (ref := "CheatHeap$Script") E hI ha ⟨rfl, by decide⟩ (show vwCl[7]? = some (RX8, TX8, 8) from rfl) q_inX8 (f := 7) (by decide) (q_in_t1 (i := 207) (by first | rfl | decide +kernel) rfl) (Or.inl rfl) rfl hdg kk
theorem kv_X7_87 : q_okV RX7 87 RX7 yX7_takeTurn cX7_takeTurn 3 none 1 := ⟨(q_in_t6 (i := 155) (by first | rfl | decide +kernel) rfl), (q_in_t6 (i := 157) (by first | rfl | decide +kernel) rfl), (q_in_p (i := 31) (by decide +kernel) rfl), (q_in_t1 (i := 12) (by first | rfl | decide +kernel) rfl), (q_in_t6 (i := 158) (by first | rfl | decide +kernel) rfl), ⟨rfl, by decide, by decide, rfl⟩⟩
theorem kv_X7_96 : q_okV RX7 96 RX5 yX5_set cX5_set 3 none 2 := ⟨(q_in_t6 (i := 185) (by first | rfl | decide +kernel) rfl), (q_in_t4 (i := 83) (by first | rfl | decide +kernel) rfl), (q_in_t4 (i := 84) (by first | rfl | decide +kernel) rfl), (q_in_t1 (i := 4) (by first | rfl | decide +kernel) rfl), (q_in_t4 (i := 85) (by first | rfl | decide +kernel) rfl), ⟨rfl, by decide, by decide, rfl⟩⟩
theorem gs_X7_52_8 (E : q_E p c cc s m args RX7 X) (hI : q_I X n σ0 H0 locs σ H) (ha : q_kd X a = 8) (hdg : decode cc pc = .ok (.getfield 52, 3)) (kk : W p l e R s m args below meth c H locs cells slots Q (F0 m (pc + 3) ls (.int (σ.1 a 2) :: rest))) : W p l e R s m args below meth c H locs cells slots Q (F0 m pc ls (.ref a :: rest)) :=
  q_getf (ref := "CheatHeap$Script") E hI ha ⟨rfl, by decide⟩ (show vwCl[7]? = some (RX8, TX8, 8) from rfl) q_inX8 (f := 2) (by decide) (q_in_t1 (i := 194) (by first | rfl | decide +kernel) rfl) (Or.inl rfl) rfl hdg kk
theorem kv_X7_105 : q_okV RX7 105 RX8 yX8_meets cX8_meets 5 (some .boolean) 2 := ⟨(q_in_t6 (i := 186) (by first | rfl | decide +kernel) rfl), (q_in_t6 (i := 187) (by first | rfl | decide +kernel) rfl), (q_in_t6 (i := 188) (by first | rfl | decide +kernel) rfl), (q_in_t1 (i := 8) (by first | rfl | decide +kernel) rfl), (q_in_t6 (i := 189) (by first | rfl | decide +kernel) rfl), ⟨rfl, by decide, by decide, rfl⟩⟩
theorem gs_X7_113_3 (E : q_E p c cc s m args RX7 X) (hI : q_I X n σ0 H0 locs σ H) (ha : q_kd X a = 3) (hdg : decode cc pc = .ok (.getfield 113, 3)) (kk : W p l e R s m args below meth c H locs cells slots Q (F0 m (pc + 3) ls (.int (σ.1 a 1) :: rest))) : W p l e R s m args below meth c H locs cells slots Q (F0 m pc ls (.ref a :: rest)) :=
  q_getf (ref := "CheatHeap$Pile") E hI ha ⟨rfl, by decide⟩ (show vwCl[2]? = some (RX2, TX2, 6) from rfl) q_inX2 (f := 1) (by decide) (q_in_t1 (i := 156) (by first | rfl | decide +kernel) rfl) (Or.inl rfl) rfl hdg kk
theorem gs_X7_117_2 (E : q_E p c cc s m args RX7 X) (hI : q_I X n σ0 H0 locs σ H) (ha : q_kd X a = 2) (hdg : decode cc pc = .ok (.getfield 117, 3)) (kk : W p l e R s m args below meth c H locs cells slots Q (F0 m (pc + 3) ls (.ref (q_rf X a 5) :: rest))) : W p l e R s m args below meth c H locs cells slots Q (F0 m pc ls (.ref a :: rest)) :=
  q_getf (ref := "CheatHeap$Hands") E hI ha ⟨rfl, by decide⟩ (show vwCl[1]? = some (RX1, TX1, 7) from rfl) q_inX1 (f := 5) (by decide) (q_in_t1 (i := 124) (by first | rfl | decide +kernel) rfl) (Or.inl rfl) rfl hdg kk
theorem ps_X7_9_7 (E : q_E p c cc s m args RX7 X) (hI : q_I X n σ0 H0 locs σ H) (ha : q_kd X a = 7) {v : Int32} (hcl : n < 9) (hdg : decode cc pc = .ok (.putfield 9, 3)) (kk : ∀ (H1 : Heap) (locs1 : List Loc) (σ1 : ST), σ1 = q_si σ a 0 v → q_I X n σ0 H0 locs1 σ1 H1 → W p l e R s m args below meth c H1 locs1 cells slots Q (F0 m (pc + 3) ls rest)) : W p l e R s m args below meth c H locs cells slots Q (F0 m pc ls (.int v :: .ref a :: rest)) :=
  q_puti (ref := "CheatHeap$Run") E hI ha ⟨rfl, by decide⟩ (show vwCl[6]? = some (RX7, TX7, 8) from rfl) q_inX7 tyX7_ok nmX7 (f := 0) (by decide) (q_in_t2 (i := 154) (by first | rfl | decide +kernel) rfl) (Or.inl rfl) rfl rfl hcl hdg (q_inU rfl) (Or.inl rfl) (fun H1 l1 h => kk H1 l1 _ rfl h)
theorem ps_X7_27_7 (E : q_E p c cc s m args RX7 X) (hI : q_I X n σ0 H0 locs σ H) (ha : q_kd X a = 7) {v : Int32} (hcl : n < 9) (h1 : 0 ≤ v.toInt) (h2 : v.toInt ≤ 1) (hdg : decode cc pc = .ok (.putfield 27, 3)) (kk : ∀ (H1 : Heap) (locs1 : List Loc) (σ1 : ST), σ1 = q_si σ a 5 v → q_I X n σ0 H0 locs1 σ1 H1 → W p l e R s m args below meth c H1 locs1 cells slots Q (F0 m (pc + 3) ls rest)) : W p l e R s m args below meth c H locs cells slots Q (F0 m pc ls (.int v :: .ref a :: rest)) :=
  q_puti (ref := "CheatHeap$Run") E hI ha ⟨rfl, by decide⟩ (show vwCl[6]? = some (RX7, TX7, 8) from rfl) q_inX7 tyX7_ok nmX7 (f := 5) (by decide) (q_in_t2 (i := 164) (by first | rfl | decide +kernel) rfl) (Or.inl rfl) rfl rfl hcl hdg (q_inB rfl h1 h2) (Or.inr ⟨rfl, h1, h2⟩) (fun H1 l1 h => kk H1 l1 _ rfl h)
theorem gs_X7_27_7 (E : q_E p c cc s m args RX7 X) (hI : q_I X n σ0 H0 locs σ H) (ha : q_kd X a = 7) (hdg : decode cc pc = .ok (.getfield 27, 3)) (kk : W p l e R s m args below meth c H locs cells slots Q (F0 m (pc + 3) ls (.int (σ.1 a 5) :: rest))) : W p l e R s m args below meth c H locs cells slots Q (F0 m pc ls (.ref a :: rest)) :=
  q_getf (ref := "CheatHeap$Run") E hI ha ⟨rfl, by decide⟩ (show vwCl[6]? = some (RX7, TX7, 8) from rfl) q_inX7 (f := 5) (by decide) (q_in_t2 (i := 164) (by first | rfl | decide +kernel) rfl) (Or.inl rfl) rfl hdg kk
theorem gs_X7_9_7 (E : q_E p c cc s m args RX7 X) (hI : q_I X n σ0 H0 locs σ H) (ha : q_kd X a = 7) (hdg : decode cc pc = .ok (.getfield 9, 3)) (kk : W p l e R s m args below meth c H locs cells slots Q (F0 m (pc + 3) ls (.int (σ.1 a 0) :: rest))) : W p l e R s m args below meth c H locs cells slots Q (F0 m pc ls (.ref a :: rest)) :=
  q_getf (ref := "CheatHeap$Run") E hI ha ⟨rfl, by decide⟩ (show vwCl[6]? = some (RX7, TX7, 8) from rfl) q_inX7 (f := 0) (by decide) (q_in_t2 (i := 154) (by first | rfl | decide +kernel) rfl) (Or.inl rfl) rfl hdg kk
theorem kv_X7_66 : q_okV RX7 66 RX7 yX7_behindStep cX7_behindStep 8 (some .int) 2 := ⟨(q_in_t6 (i := 151) (by first | rfl | decide +kernel) rfl), (q_in_t6 (i := 153) (by first | rfl | decide +kernel) rfl), (q_in_p (i := 30) (by decide +kernel) rfl), (q_in_t1 (i := 12) (by first | rfl | decide +kernel) rfl), (q_in_t6 (i := 154) (by first | rfl | decide +kernel) rfl), ⟨rfl, by decide, by decide, rfl⟩⟩
theorem kv_X7_62 : q_okV RX7 62 RX7 yX7_behindEnd cX7_behindEnd 4 (some .int) 2 := ⟨(q_in_t6 (i := 146) (by first | rfl | decide +kernel) rfl), (q_in_t6 (i := 148) (by first | rfl | decide +kernel) rfl), (q_in_p (i := 29) (by decide +kernel) rfl), (q_in_t1 (i := 12) (by first | rfl | decide +kernel) rfl), (q_in_t6 (i := 149) (by first | rfl | decide +kernel) rfl), ⟨rfl, by decide, by decide, rfl⟩⟩
end QS
end
/-! FROM 15.run.b00.lean.txt -/
section
set_option maxRecDepth 100000 in
set_option maxHeartbeats 4000000 in
theorem c_X7_behindEnd (l : Launch) (X : XW) (σ : ST) (a : Nat) (r1 : Nat) (v2 : Int32) (ha : q_kd X a = 7) (hr1 : q_kd X r1 = 8) : Met l yX7_behindEnd (q_ws yX7_behindEnd cX7_behindEnd 4 (some .int)) (q_rm 1 22) (q_P X σ [.ref a, .ref r1, .int v2]) (q_Qi X 8 σ (fun (r : Int32) (σ' : ST) => (r, σ') = F_X7_behindEnd X σ a r1 v2 ∧ q_ow [(20, 99)] [] X σ σ')) 0 0 (q_reg X) := by
  refine q_met 8 (by first | exact rfl | decide +kernel) rfl (Nat.le_of_ble_eq_true rfl) (fun p e s m below meth c E hml hr hlk hI ls hl => ?_)
  have hx := E.1
  have hb := E.2.1
  have hl : lv_has ls 4 [(0, .ref a), (1, .ref r1), (2, .int v2)] := hl
  have fr_σ : q_ow [(20, 99)] [] X σ σ := q_ow.rf
  obtain ⟨out, hout⟩ : ∃ o, o = F_X7_behindEnd X σ a r1 v2 := ⟨_, rfl⟩
  have hF := hout.symm
  unfold F_X7_behindEnd at hF
  refine lv_aload_n hx hb dX7_behindEnd_0 rfl (lv_at hl 1 rfl) ?_
  refine gs_X7_70_8 E hI hr1 dX7_behindEnd_1 ?_
  refine lv_iload_n hx hb dX7_behindEnd_4 rfl (lv_at hl 2 rfl) ?_
  refine q_ci (q_rV4_1 (rest := []) E (hml.trans hl.1.symm) hI (c_X5_get l X σ (q_rf X r1 4) v2 (q_tk (k' := 5) hI hr1 rfl (Nat.succ_ne_zero _))) kv_X7_58 (q_tk (k' := 5) hI hr1 rfl (Nat.succ_ne_zero _)) ⟨Nat.le_of_ble_eq_true rfl, Nat.le_of_ble_eq_true rfl⟩ (Nat.le_of_ble_eq_true rfl) dX7_behindEnd_5) hI (Nat.le_of_ble_eq_true rfl) (fun r_1 σ_2 H locs hpσ_2 hkσ_2 hI => ?_)
  have ahpσ_2 := hpσ_2.1
  have bhpσ_2 := hpσ_2.2
  clear hpσ_2
  replace hI := q_Irw ahpσ_2 hI
  replace hF := q_letX hF bhpσ_2
  refine lv_istore_n (lv' := [(3, .int r_1), (0, .ref a), (1, .ref r1), (2, .int v2)]) hx hb dX7_behindEnd_8 rfl hl (by decide) rfl (fun ls hl => ?_)
  refine lv_aload_n hx hb dX7_behindEnd_9 rfl (lv_at hl 2 rfl) ?_
  refine gs_X7_55_8 E hI hr1 dX7_behindEnd_10 ?_
  refine lv_iload_n hx hb dX7_behindEnd_13 rfl (lv_at hl 0 rfl) ?_
  refine q_ci (q_rV4_1 (rest := []) E (hml.trans hl.1.symm) hI (c_X5_get l X σ (q_rf X r1 3) r_1 (q_tk (k' := 5) hI hr1 rfl (Nat.succ_ne_zero _))) kv_X7_58 (q_tk (k' := 5) hI hr1 rfl (Nat.succ_ne_zero _)) ⟨Nat.le_of_ble_eq_true rfl, Nat.le_of_ble_eq_true rfl⟩ (Nat.le_of_ble_eq_true rfl) dX7_behindEnd_14) hI (Nat.le_of_ble_eq_true rfl) (fun r_3 σ_4 H locs hpσ_4 hkσ_4 hI => ?_)
  have ahpσ_4 := hpσ_4.1
  have bhpσ_4 := hpσ_4.2
  clear hpσ_4
  replace hI := q_Irw ahpσ_4 hI
  replace hF := q_letX hF bhpσ_4
  refine lv_iconst (v := 4) hx hb dX7_behindEnd_17 zki_4 ?_
  refine q_icmp_ne (A := r_3.toInt) (B := 4) E rfl (by decide) (tgt := 45) dX7_behindEnd_18 (by decide) (fun c_5 => ?_) (fun c_5 => ?_)
  · skip
    replace hF := q_ifn hF c_5
    refine lv_iload_n hx hb dX7_behindEnd_45 rfl (lv_at hl 3 rfl) ?_
    refine lv_iconst (v := 1) hx hb dX7_behindEnd_46 zki_1 ?_
    refine lv_iadd hx hb dX7_behindEnd_47 ?_
    refine lv_topi (fun z_6 ez_6 => ?_)
    replace hF := q_letX hF ez_6
    exact q_reti E hr hlk hI ⟨(hF.trans hout), fr_σ⟩ dX7_behindEnd_48
  · skip
    replace hF := q_ifp hF c_5
    refine lv_aload_n hx hb dX7_behindEnd_21 rfl (lv_at hl 1 rfl) ?_
    refine gs_X7_41_7 E hI ha dX7_behindEnd_22 ?_
    refine lv_iload_n hx hb dX7_behindEnd_25 rfl (lv_at hl 0 rfl) ?_
    refine lv_iconst (v := (-1)) hx hb dX7_behindEnd_26 zki_m1 ?_
    have kc_7 : ((-1) : Int32).toInt = (-1) := zt_m1
    refine q_cv (q_rV4_2 (rest := []) E (hml.trans hl.1.symm) hI (c_X5_add l X σ (q_rf X a 7) r_1 ((-1) : Int32) (q_tk (k' := 5) hI ha rfl (Nat.succ_ne_zero _))) kv_X7_73 (q_tk (k' := 5) hI ha rfl (Nat.succ_ne_zero _)) ⟨Nat.le_of_ble_eq_true rfl, Nat.le_of_ble_eq_true rfl⟩ (Nat.le_of_ble_eq_true rfl) dX7_behindEnd_27) hI (Nat.le_of_ble_eq_true rfl) (fun σ_9 H locs hpσ_9 hkσ_9 hI => ?_)
    have ahpσ_9 := hpσ_9.1
    have bhpσ_9 := hpσ_9.2
    clear hpσ_9
    have fr_σ_9 := fr_σ.call bhpσ_9 rfl rfl
    replace hF := q_letX hF ahpσ_9
    refine lv_aload_n hx hb dX7_behindEnd_30 rfl (lv_at hl 1 rfl) ?_
    refine gs_X7_41_7 E hI ha dX7_behindEnd_31 ?_
    refine lv_iload_n hx hb dX7_behindEnd_34 rfl (lv_at hl 0 rfl) ?_
    refine q_ci (q_rV4_1 (rest := []) E (hml.trans hl.1.symm) hI (c_X5_get l X σ_9 (q_rf X a 7) r_1 (q_tk (k' := 5) hI ha rfl (Nat.succ_ne_zero _))) kv_X7_58 (q_tk (k' := 5) hI ha rfl (Nat.succ_ne_zero _)) ⟨Nat.le_of_ble_eq_true rfl, Nat.le_of_ble_eq_true rfl⟩ (Nat.le_of_ble_eq_true rfl) dX7_behindEnd_35) hI (Nat.le_of_ble_eq_true rfl) (fun r_10 σ_11 H locs hpσ_11 hkσ_11 hI => ?_)
    have ahpσ_11 := hpσ_11.1
    have bhpσ_11 := hpσ_11.2
    clear hpσ_11
    replace hI := q_Irw ahpσ_11 hI
    replace hF := q_letX hF bhpσ_11
    refine q_if_le (A := r_10.toInt) E rfl (tgt := 45) dX7_behindEnd_38 (by decide) (fun c_12 => ?_) (fun c_12 => ?_)
    · skip
      replace hF := q_ifn hF (Int.not_lt.mpr c_12)
      refine lv_iload_n hx hb dX7_behindEnd_45 rfl (lv_at hl 3 rfl) ?_
      refine lv_iconst (v := 1) hx hb dX7_behindEnd_46 zki_1 ?_
      refine lv_iadd hx hb dX7_behindEnd_47 ?_
      refine lv_topi (fun z_13 ez_13 => ?_)
      replace hF := q_letX hF ez_13
      exact q_reti E hr hlk hI ⟨(hF.trans hout), fr_σ_9⟩ dX7_behindEnd_48
    · skip
      replace hF := q_ifp hF c_12
      refine lv_iload_n hx hb dX7_behindEnd_41 rfl (lv_at hl 0 rfl) ?_
      refine lv_iconst (v := 1) hx hb dX7_behindEnd_42 zki_1 ?_
      refine lv_iadd hx hb dX7_behindEnd_43 ?_
      refine lv_topi (fun z_14 ez_14 => ?_)
      replace hF := q_letX hF ez_14
      exact q_reti E hr hlk hI ⟨(hF.trans hout), fr_σ_9⟩ dX7_behindEnd_44

set_option maxRecDepth 100000 in
set_option maxHeartbeats 4000000 in
theorem c_X7_draw (l : Launch) (X : XW) (σ : ST) (a : Nat) (ha : q_kd X a = 7) : Met l yX7_draw (q_ws yX7_draw cX7_draw 1 (some .int)) (q_rm 0 0) (q_P X σ [.ref a]) (q_Qi X 8 σ (fun (r : Int32) (σ' : ST) => (r, σ') = F_X7_draw X σ a ∧ q_ow [(7, 6)] [] X σ σ')) 0 0 (q_reg X) := by
  refine q_met 8 (by first | exact rfl | decide +kernel) rfl (Nat.le_of_ble_eq_true rfl) (fun p e s m below meth c E hml hr hlk hI ls hl => ?_)
  have hx := E.1
  have hb := E.2.1
  have hl : lv_has ls 1 [(0, .ref a)] := hl
  have fr_σ : q_ow [(7, 6)] [] X σ σ := q_ow.rf
  obtain ⟨out, hout⟩ : ∃ o, o = F_X7_draw X σ a := ⟨_, rfl⟩
  have hF := hout.symm
  unfold F_X7_draw at hF
  refine lv_aload_n hx hb dX7_draw_0 rfl (lv_at hl 0 rfl) ?_
  refine lv_aload_n hx hb dX7_draw_1 rfl (lv_at hl 0 rfl) ?_
  refine gs_X7_31_7 E hI ha dX7_draw_2 ?_
  refine lv_topi (fun f_1 ef_1 => ?_)
  replace hF := q_letX hF ef_1
  refine lv_sipush (v := 2861) hx hb dX7_draw_5 zks_2861 ?_
  refine lv_imul hx hb dX7_draw_8 ?_
  refine lv_topi (fun z_2 ez_2 => ?_)
  replace hF := q_letX hF ez_2
  refine lv_sipush (v := 10259) hx hb dX7_draw_9 zks_10259 ?_
  refine lv_iadd hx hb dX7_draw_12 ?_
  refine lv_topi (fun z_3 ez_3 => ?_)
  replace hF := q_letX hF ez_3
  refine lv_ldc (v := 65536) hx hb E.2.2.1 (E.2.2.2.1 _ (q_in_t6 (i := 172) (by first | rfl | decide +kernel) rfl)) dX7_draw_13 ?_
  refine lv_irem hx hb dX7_draw_15 (by decide) ?_
  refine lv_topi (fun z_4 ez_4 => ?_)
  replace hF := q_letX hF (ez_4.trans (q_remI _ _))
  refine ps_X7_31_7 E hI ha (by decide) dX7_draw_16 (fun H locs σ_5 hσ_5 hI => ?_)
  replace hF := q_letX hF hσ_5
  have fr_σ_5 := fr_σ.si hσ_5 ha rfl
  refine lv_aload_n hx hb dX7_draw_19 rfl (lv_at hl 0 rfl) ?_
  refine gs_X7_31_7 E hI ha dX7_draw_20 ?_
  refine lv_topi (fun f_6 ef_6 => ?_)
  replace hF := q_letX hF ef_6
  refine lv_bipush (v := 8) hx hb dX7_draw_23 zkb_8 ?_
  refine lv_idiv hx hb dX7_draw_25 (by decide) ?_
  refine lv_topi (fun z_7 ez_7 => ?_)
  replace hF := q_letX hF ez_7
  refine lv_bipush (v := 16) hx hb dX7_draw_26 zkb_16 ?_
  refine lv_irem hx hb dX7_draw_28 (by decide) ?_
  refine lv_topi (fun z_8 ez_8 => ?_)
  replace hF := q_letX hF (ez_8.trans (q_remI _ _))
  exact q_reti E hr hlk hI ⟨(hF.trans hout), fr_σ_5⟩ dX7_draw_29

set_option maxRecDepth 100000 in
set_option maxHeartbeats 4000000 in
theorem c_X7_fullestOther (l : Launch) (X : XW) (σ : ST) (r0 : Nat) (hr0 : q_kd X r0 = 1) : Met l yX7_fullestOther (q_ws yX7_fullestOther cX7_fullestOther 5 (some .int)) (q_rm 2 43) (q_P X σ [.ref r0]) (q_Qi X 9 σ (fun (r : Int32) (σ' : ST) => σ' = σ ∧ r = F_X7_fullestOther X σ r0)) 0 0 (q_reg X) := by
  refine q_met 9 (by first | exact rfl | decide +kernel) rfl (Nat.le_of_ble_eq_true rfl) (fun p e s m below meth c E hml hr hlk hI ls hl => ?_)
  have hx := E.1
  have hb := E.2.1
  have hl : lv_has ls 5 [(0, .ref r0)] := hl
  obtain ⟨out, hout⟩ : ∃ o, o = F_X7_fullestOther X σ r0 := ⟨_, rfl⟩
  have hF := hout.symm
  unfold F_X7_fullestOther at hF
  refine lv_iconst (v := (-1)) hx hb dX7_fullestOther_0 zki_m1 ?_
  refine lv_istore_n (lv' := [(1, .int (-1)), (0, .ref r0)]) hx hb dX7_fullestOther_1 rfl hl (by decide) rfl (fun ls hl => ?_)
  refine lv_iconst (v := 0) hx hb dX7_fullestOther_2 zki_0 ?_
  refine lv_istore_n (lv' := [(2, .int 0), (1, .int (-1)), (0, .ref r0)]) hx hb dX7_fullestOther_3 rfl hl (by decide) rfl (fun ls hl => ?_)
  refine lv_iconst (v := 0) hx hb dX7_fullestOther_4 zki_0 ?_
  refine lv_istore_n (lv' := [(3, .int 0), (2, .int 0), (1, .int (-1)), (0, .ref r0)]) hx hb dX7_fullestOther_5 rfl hl (by decide) rfl (fun ls hl => ?_)
  have L_6_4 : ∀ (k_4 : Nat) (x_1 : Int32) (x_2 : Int32) (x_3 : Int32) (H : Heap) (locs : List Loc) (ls : Array Slot), (2147483647 - x_3.toInt).toNat < k_4 → (0 ≤ x_3.toInt) → (F_X7_fullestOther_L6_1 X σ r0 k_4 x_1 x_2 x_3 = out) → q_I X 9 σ s.heap locs σ H → lv_has ls 5 [(0, .ref r0), (1, .int x_1), (2, .int x_2), (3, .int x_3)] → W p l e (q_rm 2 43) s m ([.ref r0] : List Value).toArray below meth c H locs 0 0 (MQ below (q_Qi X 9 σ (fun (r : Int32) (σ' : ST) => σ' = σ ∧ r = F_X7_fullestOther X σ r0)) ([.ref r0] : List Value).toArray s 0 0 (q_reg X)) (F0 m 6 ls []) := by
    clear hF
    intro k_4
    induction k_4 with
    | zero =>
      intro x_1 x_2 x_3 H locs ls hms
      exact absurd hms (Nat.not_lt_zero _)
    | succ k_4 ih6 =>
      intro x_1 x_2 x_3 H locs ls hm6 hge6 hF hI hl
      replace hF := (F_X7_fullestOther_L6_1_s).symm.trans hF
      unfold F_X7_fullestOther_B6_1 at hF
      refine lv_iload_n hx hb dX7_fullestOther_6 rfl (lv_at hl 3 rfl) ?_
      refine lv_aload_n hx hb dX7_fullestOther_7 rfl (lv_at hl 0 rfl) ?_
      refine gs_X7_129_1 E hI hr0 dX7_fullestOther_8 ?_
      refine gs_X7_185_6 E hI (q_tk (k' := 6) hI hr0 rfl (Nat.succ_ne_zero _)) dX7_fullestOther_11 ?_
      refine lv_topi (fun f_5 ef_5 => ?_)
      replace hF := q_letX hF ef_5
      have bf_5 : -2147483648 ≤ f_5.toInt ∧ f_5.toInt ≤ 10 := by rw [ef_5]; exact q_bd hI (q_tk (k' := 6) hI hr0 rfl (Nat.succ_ne_zero _)) rfl
      have gc_6_x_3 := q_rng x_3
      have gc_6_f_5 := q_rng f_5
      refine q_icmp_ge (A := x_3.toInt) (B := f_5.toInt) E rfl rfl (tgt := 56) dX7_fullestOther_14 (by decide) (fun c_6 => ?_) (fun c_6 => ?_)
      · skip
        replace hF := q_ifn hF (Int.not_lt.mpr c_6)
        skip
        refine lv_iload_n hx hb dX7_fullestOther_56 rfl (lv_at hl 1 rfl) ?_
        exact q_reti E hr hlk hI ⟨rfl, (hF.trans hout)⟩ dX7_fullestOther_57
      · skip
        replace hF := q_ifp hF c_6
        refine lv_aload_n hx hb dX7_fullestOther_17 rfl (lv_at hl 0 rfl) ?_
        refine gs_X7_77_1 E hI hr0 dX7_fullestOther_18 ?_
        refine lv_aload_n hx hb dX7_fullestOther_21 rfl (lv_at hl 0 rfl) ?_
        refine gs_X7_138_1 E hI hr0 dX7_fullestOther_22 ?_
        refine lv_topi (fun f_7 ef_7 => ?_)
        replace hF := q_letX hF ef_7
        refine lv_iload_n hx hb dX7_fullestOther_25 rfl (lv_at hl 3 rfl) ?_
        refine q_ci (q_rV1_2 (rest := []) E (hml.trans hl.1.symm) hI (c_X1_heldBy l X σ (q_rf X r0 1) f_7 x_3 (q_tk (k' := 2) hI hr0 rfl (Nat.succ_ne_zero _))) kv_X7_161 (q_tk (k' := 2) hI hr0 rfl (Nat.succ_ne_zero _)) ⟨Nat.le_of_ble_eq_true rfl, Nat.le_of_ble_eq_true rfl⟩ (Nat.le_of_ble_eq_true rfl) dX7_fullestOther_26) hI (Nat.le_of_ble_eq_true rfl) (fun r_8 σ_9 H locs hpσ_9 hkσ_9 hI => ?_)
        have ahpσ_9 := hpσ_9.1
        have bhpσ_9 := hpσ_9.2
        clear hpσ_9
        replace hI := q_Irw ahpσ_9 hI
        replace hF := q_letX hF bhpσ_9
        refine lv_istore (lv' := [(4, .int r_8), (0, .ref r0), (1, .int x_1), (2, .int x_2), (3, .int x_3)]) hx hb dX7_fullestOther_29 hl (by decide) rfl (fun ls hl => ?_)
        refine lv_iload_n hx hb dX7_fullestOther_31 rfl (lv_at hl 4 rfl) ?_
        refine lv_aload_n hx hb dX7_fullestOther_32 rfl (lv_at hl 1 rfl) ?_
        refine gs_X7_158_1 E hI hr0 dX7_fullestOther_33 ?_
        refine lv_topi (fun f_10 ef_10 => ?_)
        replace hF := q_letX hF ef_10
        have gc_11_x_3 := q_rng x_3
        have gc_11_f_10 := q_rng f_10
        refine q_icmp_eq (A := x_3.toInt) (B := f_10.toInt) E rfl rfl (tgt := 50) dX7_fullestOther_36 (by decide) (fun c_11 => ?_) (fun c_11 => ?_)
        · skip
          replace hF := q_ifp hF c_11
          obtain ⟨z_12, ez_12⟩ : ∃ y : Int32, y = x_3 + 1 := ⟨_, rfl⟩
          replace hF := q_letX hF ez_12
          refine lv_iinc (v := z_12) (lv' := [(3, .int z_12), (4, .int r_8), (0, .ref r0), (1, .int x_1), (2, .int x_2)]) hx hb dX7_fullestOther_50 hl (k := 4) rfl (by rw [ez_12]; rfl) (by decide) rfl (fun ls hl => ?_)
          have iz_12 : z_12.toInt = x_3.toInt + 1 := q_inc ez_12 (by first | (clear hm6 gc_6_f_5 ahpσ_9 bhpσ_9 gc_11_x_3 gc_11_f_10; omega) | omega)
          refine lv_goto (tgt := 6) hx hb dX7_fullestOther_53 (by decide) ?_
          exact ih6 x_1 x_2 z_12 _ _ ls (by first | (clear gc_6_f_5 ahpσ_9 bhpσ_9 gc_11_x_3 gc_11_f_10; omega) | omega) (by first | (clear hm6 bf_5 gc_6_f_5 c_6 ahpσ_9 bhpσ_9 gc_11_x_3 gc_11_f_10; omega) | omega) hF hI (lv_sub hl [2, 3, 4, 0] rfl)
        · skip
          replace hF := q_ifn hF c_11
          refine lv_iload hx hb dX7_fullestOther_39 (lv_at hl 0 rfl) ?_
          refine lv_iload_n hx hb dX7_fullestOther_41 rfl (lv_at hl 3 rfl) ?_
          have gc_13_r_8 := q_rng r_8
          have gc_13_x_2 := q_rng x_2
          refine q_icmp_le (A := r_8.toInt) (B := x_2.toInt) E rfl rfl (tgt := 50) dX7_fullestOther_42 (by decide) (fun c_13 => ?_) (fun c_13 => ?_)
          · skip
            replace hF := q_ifn hF (Int.not_lt.mpr c_13)
            obtain ⟨z_14, ez_14⟩ : ∃ y : Int32, y = x_3 + 1 := ⟨_, rfl⟩
            replace hF := q_letX hF ez_14
            refine lv_iinc (v := z_14) (lv' := [(3, .int z_14), (4, .int r_8), (0, .ref r0), (1, .int x_1), (2, .int x_2)]) hx hb dX7_fullestOther_50 hl (k := 4) rfl (by rw [ez_14]; rfl) (by decide) rfl (fun ls hl => ?_)
            have iz_14 : z_14.toInt = x_3.toInt + 1 := q_inc ez_14 (by first | (clear hm6 gc_6_f_5 ahpσ_9 bhpσ_9 gc_11_x_3 gc_11_f_10 c_11 gc_13_r_8 gc_13_x_2 c_13; omega) | omega)
            refine lv_goto (tgt := 6) hx hb dX7_fullestOther_53 (by decide) ?_
            exact ih6 x_1 x_2 z_14 _ _ ls (by first | (clear gc_6_f_5 ahpσ_9 bhpσ_9 gc_11_x_3 gc_11_f_10 gc_13_r_8 gc_13_x_2 c_13; omega) | omega) (by first | (clear hm6 bf_5 gc_6_f_5 c_6 ahpσ_9 bhpσ_9 gc_11_x_3 gc_11_f_10 c_11 gc_13_r_8 gc_13_x_2 c_13; omega) | omega) hF hI (lv_sub hl [2, 3, 4, 0] rfl)
          · skip
            replace hF := q_ifp hF c_13
            refine lv_iload hx hb dX7_fullestOther_45 (lv_at hl 0 rfl) ?_
            refine lv_istore_n (lv' := [(2, .int r_8), (4, .int r_8), (0, .ref r0), (1, .int x_1), (3, .int x_3)]) hx hb dX7_fullestOther_47 rfl hl (by decide) rfl (fun ls hl => ?_)
            refine lv_iload_n hx hb dX7_fullestOther_48 rfl (lv_at hl 4 rfl) ?_
            refine lv_istore_n (lv' := [(1, .int x_3), (2, .int r_8), (4, .int r_8), (0, .ref r0), (3, .int x_3)]) hx hb dX7_fullestOther_49 rfl hl (by decide) rfl (fun ls hl => ?_)
            obtain ⟨z_15, ez_15⟩ : ∃ y : Int32, y = x_3 + 1 := ⟨_, rfl⟩
            replace hF := q_letX hF ez_15
            refine lv_iinc (v := z_15) (lv' := [(3, .int z_15), (1, .int x_3), (2, .int r_8), (4, .int r_8), (0, .ref r0)]) hx hb dX7_fullestOther_50 hl (k := 4) rfl (by rw [ez_15]; rfl) (by decide) rfl (fun ls hl => ?_)
            have iz_15 : z_15.toInt = x_3.toInt + 1 := q_inc ez_15 (by first | (clear hm6 gc_6_f_5 ahpσ_9 bhpσ_9 gc_11_x_3 gc_11_f_10 c_11 gc_13_r_8 gc_13_x_2 c_13; omega) | omega)
            refine lv_goto (tgt := 6) hx hb dX7_fullestOther_53 (by decide) ?_
            exact ih6 x_3 r_8 z_15 _ _ ls (by first | (clear gc_6_f_5 ahpσ_9 bhpσ_9 gc_11_x_3 gc_11_f_10 gc_13_r_8 gc_13_x_2 c_13; omega) | omega) (by first | (clear hm6 bf_5 gc_6_f_5 c_6 ahpσ_9 bhpσ_9 gc_11_x_3 gc_11_f_10 c_11 gc_13_r_8 gc_13_x_2 c_13; omega) | omega) hF hI (lv_sub hl [4, 1, 2, 0] rfl)
  exact L_6_4 ((2147483647 - (0 : Int32).toInt).toNat + 1) (-1) 0 0 _ _ ls (Nat.lt_succ_self _) (by decide) hF hI (lv_sub hl [3, 2, 1, 0] rfl)

set_option maxRecDepth 100000 in
set_option maxHeartbeats 4000000 in
theorem c_X7_choose (l : Launch) (X : XW) (σ : ST) (a : Nat) (r1 : Nat) (ha : q_kd X a = 7) (hr1 : q_kd X r1 = 1) : Met l yX7_choose (q_ws yX7_choose cX7_choose 5 none) (q_rm 3 67) (q_P X σ [.ref a, .ref r1]) (q_Qv X 8 σ (fun (σ' : ST) => σ' = F_X7_choose X σ a r1 ∧ q_ow [(1, 9), (7, 6), (20, 99)] [] X σ σ')) 0 0 (q_reg X) := by
  refine q_met 8 (by first | exact rfl | decide +kernel) rfl (Nat.le_of_ble_eq_true rfl) (fun p e s m below meth c E hml hr hlk hI ls hl => ?_)
  have hx := E.1
  have hb := E.2.1
  have hl : lv_has ls 5 [(0, .ref a), (1, .ref r1)] := hl
  have fr_σ : q_ow [(1, 9), (7, 6), (20, 99)] [] X σ σ := q_ow.rf
  obtain ⟨out, hout⟩ : ∃ o, o = F_X7_choose X σ a r1 := ⟨_, rfl⟩
  have hF := hout.symm
  unfold F_X7_choose at hF
  refine lv_aload_n hx hb dX7_choose_0 rfl (lv_at hl 1 rfl) ?_
  refine gs_X7_77_1 E hI hr1 dX7_choose_1 ?_
  refine lv_aload_n hx hb dX7_choose_4 rfl (lv_at hl 1 rfl) ?_
  refine gs_X7_138_1 E hI hr1 dX7_choose_5 ?_
  refine lv_topi (fun f_1 ef_1 => ?_)
  replace hF := q_letX hF ef_1
  refine lv_aload_n hx hb dX7_choose_8 rfl (lv_at hl 1 rfl) ?_
  refine gs_X7_158_1 E hI hr1 dX7_choose_9 ?_
  refine lv_topi (fun f_2 ef_2 => ?_)
  replace hF := q_letX hF ef_2
  refine q_ci (q_rV1_2 (rest := []) E (hml.trans hl.1.symm) hI (c_X1_heldBy l X σ (q_rf X r1 1) f_1 f_2 (q_tk (k' := 2) hI hr1 rfl (Nat.succ_ne_zero _))) kv_X7_161 (q_tk (k' := 2) hI hr1 rfl (Nat.succ_ne_zero _)) ⟨Nat.le_of_ble_eq_true rfl, Nat.le_of_ble_eq_true rfl⟩ (Nat.le_of_ble_eq_true rfl) dX7_choose_12) hI (Nat.le_of_ble_eq_true rfl) (fun r_3 σ_4 H locs hpσ_4 hkσ_4 hI => ?_)
  have ahpσ_4 := hpσ_4.1
  have bhpσ_4 := hpσ_4.2
  clear hpσ_4
  replace hI := q_Irw ahpσ_4 hI
  replace hF := q_letX hF bhpσ_4
  refine lv_istore_n (lv' := [(2, .int r_3), (0, .ref a), (1, .ref r1)]) hx hb dX7_choose_15 rfl hl (by decide) rfl (fun ls hl => ?_)
  refine lv_iload_n hx hb dX7_choose_16 rfl (lv_at hl 0 rfl) ?_
  refine lv_aload_n hx hb dX7_choose_17 rfl (lv_at hl 2 rfl) ?_
  refine gs_X7_129_1 E hI hr1 dX7_choose_18 ?_
  refine gs_X7_165_6 E hI (q_tk (k' := 6) hI hr1 rfl (Nat.succ_ne_zero _)) dX7_choose_21 ?_
  refine lv_topi (fun f_5 ef_5 => ?_)
  replace hF := q_letX hF ef_5
  have bf_5 : -2147483648 ≤ f_5.toInt ∧ f_5.toInt ≤ 4 := by rw [ef_5]; exact q_bd hI (q_tk (k' := 6) hI hr1 rfl (Nat.succ_ne_zero _)) rfl
  refine q_ci (q_runS (As := [.int r_3, .int f_5]) (rest := []) E (hml.trans hl.1.symm) hI (c_J9_min_7cf53 l X σ r_3 f_5) ks_X7_168 rfl ⟨Nat.le_of_ble_eq_true rfl, Nat.le_of_ble_eq_true rfl⟩ ⟨Nat.le_refl _, Nat.le_refl _⟩ rfl (Nat.le_of_ble_eq_true rfl) dX7_choose_24) hI (Nat.le_of_ble_eq_true rfl) (fun r_6 σ_7 H locs hpσ_7 hkσ_7 hI => ?_)
  have ahpσ_7 := hpσ_7.1
  have bhpσ_7 := hpσ_7.2.1
  have chpσ_7 := hpσ_7.2.2
  clear hpσ_7
  replace hI := q_Irw ahpσ_7 hI
  replace hF := q_letX hF chpσ_7
  refine lv_istore_n (lv' := [(3, .int r_6), (2, .int r_3), (0, .ref a), (1, .ref r1)]) hx hb dX7_choose_27 rfl hl (by decide) rfl (fun ls hl => ?_)
  refine lv_aload_n hx hb dX7_choose_28 rfl (lv_at hl 3 rfl) ?_
  refine q_cv (q_rV0_0 (rest := []) E (hml.trans hl.1.symm) hI (c_X0_clearWanted l X σ r1 hr1) kv_X7_173 hr1 ⟨Nat.le_of_ble_eq_true rfl, Nat.le_of_ble_eq_true rfl⟩ (Nat.le_of_ble_eq_true rfl) dX7_choose_29) hI (Nat.le_of_ble_eq_true rfl) (fun σ_9 H locs hpσ_9 hkσ_9 hI => ?_)
  have ahpσ_9 := hpσ_9.1
  have bhpσ_9 := hpσ_9.2
  clear hpσ_9
  have fr_σ_9 := fr_σ.call bhpσ_9 rfl rfl
  replace hF := q_letX hF ahpσ_9
  refine lv_aload_n hx hb dX7_choose_32 rfl (lv_at hl 3 rfl) ?_
  refine lv_aload_n hx hb dX7_choose_33 rfl (lv_at hl 3 rfl) ?_
  refine gs_X7_158_1 E hI hr1 dX7_choose_34 ?_
  refine lv_topi (fun f_10 ef_10 => ?_)
  replace hF := q_letX hF ef_10
  refine lv_iload_n hx hb dX7_choose_37 rfl (lv_at hl 0 rfl) ?_
  refine q_cv (q_rV0_2 (rest := []) E (hml.trans hl.1.symm) hI (c_X0_want l X σ_9 r1 f_10 r_6 hr1) kv_X7_176 hr1 ⟨Nat.le_of_ble_eq_true rfl, Nat.le_of_ble_eq_true rfl⟩ (Nat.le_of_ble_eq_true rfl) dX7_choose_38) hI (Nat.le_of_ble_eq_true rfl) (fun σ_12 H locs hpσ_12 hkσ_12 hI => ?_)
  have ahpσ_12 := hpσ_12.1
  have bhpσ_12 := hpσ_12.2
  clear hpσ_12
  have fr_σ_12 := fr_σ_9.call bhpσ_12 rfl rfl
  replace hF := q_letX hF ahpσ_12
  refine lv_iload_n hx hb dX7_choose_41 rfl (lv_at hl 0 rfl) ?_
  refine lv_aload_n hx hb dX7_choose_42 rfl (lv_at hl 3 rfl) ?_
  refine gs_X7_129_1 E hI hr1 dX7_choose_43 ?_
  refine gs_X7_165_6 E hI (q_tk (k' := 6) hI hr1 rfl (Nat.succ_ne_zero _)) dX7_choose_46 ?_
  refine lv_topi (fun f_13 ef_13 => ?_)
  replace hF := q_letX hF ef_13
  have bf_13 : -2147483648 ≤ f_13.toInt ∧ f_13.toInt ≤ 4 := by rw [ef_13]; exact q_bd hI (q_tk (k' := 6) hI hr1 rfl (Nat.succ_ne_zero _)) rfl
  refine q_icmp_ge (A := r_6.toInt) (B := f_13.toInt) E rfl rfl (tgt := 74) dX7_choose_49 (by decide) (fun c_14 => ?_) (fun c_14 => ?_)
  · skip
    replace hF := q_ifn hF (Int.not_lt.mpr c_14)
    refine lv_iconst (v := 0) hx hb dX7_choose_74 zki_0 ?_
    refine lv_istore (lv' := [(4, .int 0), (3, .int r_6), (2, .int r_3), (0, .ref a), (1, .ref r1)]) hx hb dX7_choose_75 hl (by decide) rfl (fun ls hl => ?_)
    refine lv_iload hx hb dX7_choose_77 (lv_at hl 0 rfl) ?_
    refine q_if_eq (A := 0) E (by decide) (tgt := 116) dX7_choose_79 (by decide) (fun c_15 => ?_) (fun c_15 => ?_)
    · skip
      replace hF := q_ifp hF c_15
      exact q_retv E hr hlk hI ⟨(hF.trans hout), fr_σ_12⟩ dX7_choose_116
    · skip
      replace hF := q_ifn hF c_15
      refine lv_iload_n hx hb dX7_choose_82 rfl (lv_at hl 2 rfl) ?_
      refine q_if_eq (A := r_3.toInt) E rfl (tgt := 107) dX7_choose_83 (by decide) (fun c_16 => ?_) (fun c_16 => ?_)
      · skip
        replace hF := q_ifp hF c_16
        refine lv_aload_n hx hb dX7_choose_107 rfl (lv_at hl 4 rfl) ?_
        refine lv_aload_n hx hb dX7_choose_108 rfl (lv_at hl 4 rfl) ?_
        refine q_ci (q_runS (As := [.ref r1]) (rest := [.ref r1]) E (hml.trans hl.1.symm) hI (c_X7_fullestOther l X σ_12 r1 hr1) ks_X7_182 rfl ⟨Nat.le_of_ble_eq_true rfl, Nat.le_of_ble_eq_true rfl⟩ ⟨Nat.le_refl _, Nat.le_refl _⟩ rfl (Nat.le_of_ble_eq_true rfl) dX7_choose_109) hI (Nat.le_of_ble_eq_true rfl) (fun r_17 σ_18 H locs hpσ_18 hkσ_18 hI => ?_)
        have ahpσ_18 := hpσ_18.1
        have bhpσ_18 := hpσ_18.2
        clear hpσ_18
        replace hI := q_Irw ahpσ_18 hI
        replace hF := q_letX hF bhpσ_18
        refine lv_iconst (v := 1) hx hb dX7_choose_112 zki_1 ?_
        have kc_19 : (1 : Int32).toInt = 1 := zt_1
        refine q_cv (q_rV0_2 (rest := []) E (hml.trans hl.1.symm) hI (c_X0_want l X σ_12 r1 r_17 (1 : Int32) hr1) kv_X7_176 hr1 ⟨Nat.le_of_ble_eq_true rfl, Nat.le_of_ble_eq_true rfl⟩ (Nat.le_of_ble_eq_true rfl) dX7_choose_113) hI (Nat.le_of_ble_eq_true rfl) (fun σ_21 H locs hpσ_21 hkσ_21 hI => ?_)
        have ahpσ_21 := hpσ_21.1
        have bhpσ_21 := hpσ_21.2
        clear hpσ_21
        have fr_σ_21 := fr_σ_12.call bhpσ_21 rfl rfl
        replace hF := q_letX hF ahpσ_21
        exact q_retv E hr hlk hI ⟨(hF.trans hout), fr_σ_21⟩ dX7_choose_116
      · skip
        replace hF := q_ifn hF c_16
        refine lv_aload_n hx hb dX7_choose_86 rfl (lv_at hl 3 rfl) ?_
        refine q_ci (q_rV6_0 (rest := []) E (hml.trans hl.1.symm) hI (c_X7_draw l X σ_12 a ha) kv_X7_179 ha ⟨Nat.le_of_ble_eq_true rfl, Nat.le_of_ble_eq_true rfl⟩ (Nat.le_of_ble_eq_true rfl) dX7_choose_87) hI (Nat.le_of_ble_eq_true rfl) (fun r_22 σ_23 H locs hpσ_23 hkσ_23 hI => ?_)
        have ahpσ_23 := hpσ_23.1
        have bhpσ_23 := hpσ_23.2
        clear hpσ_23
        have fr_σ_23 := fr_σ_12.call bhpσ_23 rfl rfl
        replace hF := q_biX hF ahpσ_23
        refine lv_aload_n hx hb dX7_choose_90 rfl (lv_at hl 4 rfl) ?_
        refine gs_X7_77_1 E hI hr1 dX7_choose_91 ?_
        refine gs_X7_91_2 E hI (q_tk (k' := 2) hI hr1 rfl (Nat.succ_ne_zero _)) dX7_choose_94 ?_
        refine lv_aload_n hx hb dX7_choose_97 rfl (lv_at hl 4 rfl) ?_
        refine gs_X7_138_1 E hI hr1 dX7_choose_98 ?_
        refine lv_topi (fun f_24 ef_24 => ?_)
        replace hF := q_letX hF ef_24
        refine q_ci (q_rV4_1 (rest := [.int r_22]) E (hml.trans hl.1.symm) hI (c_X5_get l X σ_23 (q_rf X (q_rf X r1 1) 3) f_24 (q_tk (k' := 5) hI (q_tk (k' := 2) hI hr1 rfl (Nat.succ_ne_zero _)) rfl (Nat.succ_ne_zero _))) kv_X7_58 (q_tk (k' := 5) hI (q_tk (k' := 2) hI hr1 rfl (Nat.succ_ne_zero _)) rfl (Nat.succ_ne_zero _)) ⟨Nat.le_of_ble_eq_true rfl, Nat.le_of_ble_eq_true rfl⟩ (Nat.le_of_ble_eq_true rfl) dX7_choose_101) hI (Nat.le_of_ble_eq_true rfl) (fun r_25 σ_26 H locs hpσ_26 hkσ_26 hI => ?_)
        have ahpσ_26 := hpσ_26.1
        have bhpσ_26 := hpσ_26.2
        clear hpσ_26
        replace hI := q_Irw ahpσ_26 hI
        replace hF := q_letX hF bhpσ_26
        refine q_icmp_ge (A := r_22.toInt) (B := r_25.toInt) E rfl rfl (tgt := 116) dX7_choose_104 (by decide) (fun c_27 => ?_) (fun c_27 => ?_)
        · skip
          replace hF := q_ifn hF (Int.not_lt.mpr c_27)
          exact q_retv E hr hlk hI ⟨(hF.trans hout), fr_σ_23⟩ dX7_choose_116
        · skip
          replace hF := q_ifp hF c_27
          refine lv_aload_n hx hb dX7_choose_107 rfl (lv_at hl 4 rfl) ?_
          refine lv_aload_n hx hb dX7_choose_108 rfl (lv_at hl 4 rfl) ?_
          refine q_ci (q_runS (As := [.ref r1]) (rest := [.ref r1]) E (hml.trans hl.1.symm) hI (c_X7_fullestOther l X σ_23 r1 hr1) ks_X7_182 rfl ⟨Nat.le_of_ble_eq_true rfl, Nat.le_of_ble_eq_true rfl⟩ ⟨Nat.le_refl _, Nat.le_refl _⟩ rfl (Nat.le_of_ble_eq_true rfl) dX7_choose_109) hI (Nat.le_of_ble_eq_true rfl) (fun r_28 σ_29 H locs hpσ_29 hkσ_29 hI => ?_)
          have ahpσ_29 := hpσ_29.1
          have bhpσ_29 := hpσ_29.2
          clear hpσ_29
          replace hI := q_Irw ahpσ_29 hI
          replace hF := q_letX hF bhpσ_29
          refine lv_iconst (v := 1) hx hb dX7_choose_112 zki_1 ?_
          have kc_30 : (1 : Int32).toInt = 1 := zt_1
          refine q_cv (q_rV0_2 (rest := []) E (hml.trans hl.1.symm) hI (c_X0_want l X σ_23 r1 r_28 (1 : Int32) hr1) kv_X7_176 hr1 ⟨Nat.le_of_ble_eq_true rfl, Nat.le_of_ble_eq_true rfl⟩ (Nat.le_of_ble_eq_true rfl) dX7_choose_113) hI (Nat.le_of_ble_eq_true rfl) (fun σ_32 H locs hpσ_32 hkσ_32 hI => ?_)
          have ahpσ_32 := hpσ_32.1
          have bhpσ_32 := hpσ_32.2
          clear hpσ_32
          have fr_σ_32 := fr_σ_23.call bhpσ_32 rfl rfl
          replace hF := q_letX hF ahpσ_32
          exact q_retv E hr hlk hI ⟨(hF.trans hout), fr_σ_32⟩ dX7_choose_116
  · skip
    replace hF := q_ifp hF c_14
    refine lv_aload_n hx hb dX7_choose_52 rfl (lv_at hl 3 rfl) ?_
    refine gs_X7_77_1 E hI hr1 dX7_choose_53 ?_
    refine gs_X7_102_2 E hI (q_tk (k' := 2) hI hr1 rfl (Nat.succ_ne_zero _)) dX7_choose_56 ?_
    refine lv_aload_n hx hb dX7_choose_59 rfl (lv_at hl 3 rfl) ?_
    refine gs_X7_138_1 E hI hr1 dX7_choose_60 ?_
    refine lv_topi (fun f_33 ef_33 => ?_)
    replace hF := q_letX hF ef_33
    refine q_ci (q_rV4_1 (rest := []) E (hml.trans hl.1.symm) hI (c_X5_get l X σ_12 (q_rf X (q_rf X r1 1) 2) f_33 (q_tk (k' := 5) hI (q_tk (k' := 2) hI hr1 rfl (Nat.succ_ne_zero _)) rfl (Nat.succ_ne_zero _))) kv_X7_58 (q_tk (k' := 5) hI (q_tk (k' := 2) hI hr1 rfl (Nat.succ_ne_zero _)) rfl (Nat.succ_ne_zero _)) ⟨Nat.le_of_ble_eq_true rfl, Nat.le_of_ble_eq_true rfl⟩ (Nat.le_of_ble_eq_true rfl) dX7_choose_63) hI (Nat.le_of_ble_eq_true rfl) (fun r_34 σ_35 H locs hpσ_35 hkσ_35 hI => ?_)
    have ahpσ_35 := hpσ_35.1
    have bhpσ_35 := hpσ_35.2
    clear hpσ_35
    replace hI := q_Irw ahpσ_35 hI
    replace hF := q_letX hF bhpσ_35
    refine lv_iload_n hx hb dX7_choose_66 rfl (lv_at hl 1 rfl) ?_
    refine q_icmp_le (A := r_34.toInt) (B := r_3.toInt) E rfl rfl (tgt := 74) dX7_choose_67 (by decide) (fun c_36 => ?_) (fun c_36 => ?_)
    · skip
      replace hF := q_ifn hF (Int.not_lt.mpr c_36)
      refine lv_iconst (v := 0) hx hb dX7_choose_74 zki_0 ?_
      refine lv_istore (lv' := [(4, .int 0), (3, .int r_6), (2, .int r_3), (0, .ref a), (1, .ref r1)]) hx hb dX7_choose_75 hl (by decide) rfl (fun ls hl => ?_)
      refine lv_iload hx hb dX7_choose_77 (lv_at hl 0 rfl) ?_
      refine q_if_eq (A := 0) E (by decide) (tgt := 116) dX7_choose_79 (by decide) (fun c_37 => ?_) (fun c_37 => ?_)
      · skip
        replace hF := q_ifp hF c_37
        exact q_retv E hr hlk hI ⟨(hF.trans hout), fr_σ_12⟩ dX7_choose_116
      · skip
        replace hF := q_ifn hF c_37
        refine lv_iload_n hx hb dX7_choose_82 rfl (lv_at hl 2 rfl) ?_
        refine q_if_eq (A := r_3.toInt) E rfl (tgt := 107) dX7_choose_83 (by decide) (fun c_38 => ?_) (fun c_38 => ?_)
        · skip
          replace hF := q_ifp hF c_38
          refine lv_aload_n hx hb dX7_choose_107 rfl (lv_at hl 4 rfl) ?_
          refine lv_aload_n hx hb dX7_choose_108 rfl (lv_at hl 4 rfl) ?_
          refine q_ci (q_runS (As := [.ref r1]) (rest := [.ref r1]) E (hml.trans hl.1.symm) hI (c_X7_fullestOther l X σ_12 r1 hr1) ks_X7_182 rfl ⟨Nat.le_of_ble_eq_true rfl, Nat.le_of_ble_eq_true rfl⟩ ⟨Nat.le_refl _, Nat.le_refl _⟩ rfl (Nat.le_of_ble_eq_true rfl) dX7_choose_109) hI (Nat.le_of_ble_eq_true rfl) (fun r_39 σ_40 H locs hpσ_40 hkσ_40 hI => ?_)
          have ahpσ_40 := hpσ_40.1
          have bhpσ_40 := hpσ_40.2
          clear hpσ_40
          replace hI := q_Irw ahpσ_40 hI
          replace hF := q_letX hF bhpσ_40
          refine lv_iconst (v := 1) hx hb dX7_choose_112 zki_1 ?_
          have kc_41 : (1 : Int32).toInt = 1 := zt_1
          refine q_cv (q_rV0_2 (rest := []) E (hml.trans hl.1.symm) hI (c_X0_want l X σ_12 r1 r_39 (1 : Int32) hr1) kv_X7_176 hr1 ⟨Nat.le_of_ble_eq_true rfl, Nat.le_of_ble_eq_true rfl⟩ (Nat.le_of_ble_eq_true rfl) dX7_choose_113) hI (Nat.le_of_ble_eq_true rfl) (fun σ_43 H locs hpσ_43 hkσ_43 hI => ?_)
          have ahpσ_43 := hpσ_43.1
          have bhpσ_43 := hpσ_43.2
          clear hpσ_43
          have fr_σ_43 := fr_σ_12.call bhpσ_43 rfl rfl
          replace hF := q_letX hF ahpσ_43
          exact q_retv E hr hlk hI ⟨(hF.trans hout), fr_σ_43⟩ dX7_choose_116
        · skip
          replace hF := q_ifn hF c_38
          refine lv_aload_n hx hb dX7_choose_86 rfl (lv_at hl 3 rfl) ?_
          refine q_ci (q_rV6_0 (rest := []) E (hml.trans hl.1.symm) hI (c_X7_draw l X σ_12 a ha) kv_X7_179 ha ⟨Nat.le_of_ble_eq_true rfl, Nat.le_of_ble_eq_true rfl⟩ (Nat.le_of_ble_eq_true rfl) dX7_choose_87) hI (Nat.le_of_ble_eq_true rfl) (fun r_44 σ_45 H locs hpσ_45 hkσ_45 hI => ?_)
          have ahpσ_45 := hpσ_45.1
          have bhpσ_45 := hpσ_45.2
          clear hpσ_45
          have fr_σ_45 := fr_σ_12.call bhpσ_45 rfl rfl
          replace hF := q_biX hF ahpσ_45
          refine lv_aload_n hx hb dX7_choose_90 rfl (lv_at hl 4 rfl) ?_
          refine gs_X7_77_1 E hI hr1 dX7_choose_91 ?_
          refine gs_X7_91_2 E hI (q_tk (k' := 2) hI hr1 rfl (Nat.succ_ne_zero _)) dX7_choose_94 ?_
          refine lv_aload_n hx hb dX7_choose_97 rfl (lv_at hl 4 rfl) ?_
          refine gs_X7_138_1 E hI hr1 dX7_choose_98 ?_
          refine lv_topi (fun f_46 ef_46 => ?_)
          replace hF := q_letX hF ef_46
          refine q_ci (q_rV4_1 (rest := [.int r_44]) E (hml.trans hl.1.symm) hI (c_X5_get l X σ_45 (q_rf X (q_rf X r1 1) 3) f_46 (q_tk (k' := 5) hI (q_tk (k' := 2) hI hr1 rfl (Nat.succ_ne_zero _)) rfl (Nat.succ_ne_zero _))) kv_X7_58 (q_tk (k' := 5) hI (q_tk (k' := 2) hI hr1 rfl (Nat.succ_ne_zero _)) rfl (Nat.succ_ne_zero _)) ⟨Nat.le_of_ble_eq_true rfl, Nat.le_of_ble_eq_true rfl⟩ (Nat.le_of_ble_eq_true rfl) dX7_choose_101) hI (Nat.le_of_ble_eq_true rfl) (fun r_47 σ_48 H locs hpσ_48 hkσ_48 hI => ?_)
          have ahpσ_48 := hpσ_48.1
          have bhpσ_48 := hpσ_48.2
          clear hpσ_48
          replace hI := q_Irw ahpσ_48 hI
          replace hF := q_letX hF bhpσ_48
          refine q_icmp_ge (A := r_44.toInt) (B := r_47.toInt) E rfl rfl (tgt := 116) dX7_choose_104 (by decide) (fun c_49 => ?_) (fun c_49 => ?_)
          · skip
            replace hF := q_ifn hF (Int.not_lt.mpr c_49)
            exact q_retv E hr hlk hI ⟨(hF.trans hout), fr_σ_45⟩ dX7_choose_116
          · skip
            replace hF := q_ifp hF c_49
            refine lv_aload_n hx hb dX7_choose_107 rfl (lv_at hl 4 rfl) ?_
            refine lv_aload_n hx hb dX7_choose_108 rfl (lv_at hl 4 rfl) ?_
            refine q_ci (q_runS (As := [.ref r1]) (rest := [.ref r1]) E (hml.trans hl.1.symm) hI (c_X7_fullestOther l X σ_45 r1 hr1) ks_X7_182 rfl ⟨Nat.le_of_ble_eq_true rfl, Nat.le_of_ble_eq_true rfl⟩ ⟨Nat.le_refl _, Nat.le_refl _⟩ rfl (Nat.le_of_ble_eq_true rfl) dX7_choose_109) hI (Nat.le_of_ble_eq_true rfl) (fun r_50 σ_51 H locs hpσ_51 hkσ_51 hI => ?_)
            have ahpσ_51 := hpσ_51.1
            have bhpσ_51 := hpσ_51.2
            clear hpσ_51
            replace hI := q_Irw ahpσ_51 hI
            replace hF := q_letX hF bhpσ_51
            refine lv_iconst (v := 1) hx hb dX7_choose_112 zki_1 ?_
            have kc_52 : (1 : Int32).toInt = 1 := zt_1
            refine q_cv (q_rV0_2 (rest := []) E (hml.trans hl.1.symm) hI (c_X0_want l X σ_45 r1 r_50 (1 : Int32) hr1) kv_X7_176 hr1 ⟨Nat.le_of_ble_eq_true rfl, Nat.le_of_ble_eq_true rfl⟩ (Nat.le_of_ble_eq_true rfl) dX7_choose_113) hI (Nat.le_of_ble_eq_true rfl) (fun σ_54 H locs hpσ_54 hkσ_54 hI => ?_)
            have ahpσ_54 := hpσ_54.1
            have bhpσ_54 := hpσ_54.2
            clear hpσ_54
            have fr_σ_54 := fr_σ_45.call bhpσ_54 rfl rfl
            replace hF := q_letX hF ahpσ_54
            exact q_retv E hr hlk hI ⟨(hF.trans hout), fr_σ_54⟩ dX7_choose_116
    · skip
      replace hF := q_ifp hF c_36
      refine lv_iconst (v := 1) hx hb dX7_choose_70 zki_1 ?_
      refine lv_goto (tgt := 75) hx hb dX7_choose_71 (by decide) ?_
      refine lv_istore (lv' := [(4, .int 1), (3, .int r_6), (2, .int r_3), (0, .ref a), (1, .ref r1)]) hx hb dX7_choose_75 hl (by decide) rfl (fun ls hl => ?_)
      refine lv_iload hx hb dX7_choose_77 (lv_at hl 0 rfl) ?_
      refine q_if_eq (A := 1) E (by decide) (tgt := 116) dX7_choose_79 (by decide) (fun c_55 => ?_) (fun c_55 => ?_)
      · skip
        replace hF := q_ifp hF c_55
        exact q_retv E hr hlk hI ⟨(hF.trans hout), fr_σ_12⟩ dX7_choose_116
      · skip
        replace hF := q_ifn hF c_55
        refine lv_iload_n hx hb dX7_choose_82 rfl (lv_at hl 2 rfl) ?_
        refine q_if_eq (A := r_3.toInt) E rfl (tgt := 107) dX7_choose_83 (by decide) (fun c_56 => ?_) (fun c_56 => ?_)
        · skip
          replace hF := q_ifp hF c_56
          refine lv_aload_n hx hb dX7_choose_107 rfl (lv_at hl 4 rfl) ?_
          refine lv_aload_n hx hb dX7_choose_108 rfl (lv_at hl 4 rfl) ?_
          refine q_ci (q_runS (As := [.ref r1]) (rest := [.ref r1]) E (hml.trans hl.1.symm) hI (c_X7_fullestOther l X σ_12 r1 hr1) ks_X7_182 rfl ⟨Nat.le_of_ble_eq_true rfl, Nat.le_of_ble_eq_true rfl⟩ ⟨Nat.le_refl _, Nat.le_refl _⟩ rfl (Nat.le_of_ble_eq_true rfl) dX7_choose_109) hI (Nat.le_of_ble_eq_true rfl) (fun r_57 σ_58 H locs hpσ_58 hkσ_58 hI => ?_)
          have ahpσ_58 := hpσ_58.1
          have bhpσ_58 := hpσ_58.2
          clear hpσ_58
          replace hI := q_Irw ahpσ_58 hI
          replace hF := q_letX hF bhpσ_58
          refine lv_iconst (v := 1) hx hb dX7_choose_112 zki_1 ?_
          have kc_59 : (1 : Int32).toInt = 1 := zt_1
          refine q_cv (q_rV0_2 (rest := []) E (hml.trans hl.1.symm) hI (c_X0_want l X σ_12 r1 r_57 (1 : Int32) hr1) kv_X7_176 hr1 ⟨Nat.le_of_ble_eq_true rfl, Nat.le_of_ble_eq_true rfl⟩ (Nat.le_of_ble_eq_true rfl) dX7_choose_113) hI (Nat.le_of_ble_eq_true rfl) (fun σ_61 H locs hpσ_61 hkσ_61 hI => ?_)
          have ahpσ_61 := hpσ_61.1
          have bhpσ_61 := hpσ_61.2
          clear hpσ_61
          have fr_σ_61 := fr_σ_12.call bhpσ_61 rfl rfl
          replace hF := q_letX hF ahpσ_61
          exact q_retv E hr hlk hI ⟨(hF.trans hout), fr_σ_61⟩ dX7_choose_116
        · skip
          replace hF := q_ifn hF c_56
          refine lv_aload_n hx hb dX7_choose_86 rfl (lv_at hl 3 rfl) ?_
          refine q_ci (q_rV6_0 (rest := []) E (hml.trans hl.1.symm) hI (c_X7_draw l X σ_12 a ha) kv_X7_179 ha ⟨Nat.le_of_ble_eq_true rfl, Nat.le_of_ble_eq_true rfl⟩ (Nat.le_of_ble_eq_true rfl) dX7_choose_87) hI (Nat.le_of_ble_eq_true rfl) (fun r_62 σ_63 H locs hpσ_63 hkσ_63 hI => ?_)
          have ahpσ_63 := hpσ_63.1
          have bhpσ_63 := hpσ_63.2
          clear hpσ_63
          have fr_σ_63 := fr_σ_12.call bhpσ_63 rfl rfl
          replace hF := q_biX hF ahpσ_63
          refine lv_aload_n hx hb dX7_choose_90 rfl (lv_at hl 4 rfl) ?_
          refine gs_X7_77_1 E hI hr1 dX7_choose_91 ?_
          refine gs_X7_91_2 E hI (q_tk (k' := 2) hI hr1 rfl (Nat.succ_ne_zero _)) dX7_choose_94 ?_
          refine lv_aload_n hx hb dX7_choose_97 rfl (lv_at hl 4 rfl) ?_
          refine gs_X7_138_1 E hI hr1 dX7_choose_98 ?_
          refine lv_topi (fun f_64 ef_64 => ?_)
          replace hF := q_letX hF ef_64
          refine q_ci (q_rV4_1 (rest := [.int r_62]) E (hml.trans hl.1.symm) hI (c_X5_get l X σ_63 (q_rf X (q_rf X r1 1) 3) f_64 (q_tk (k' := 5) hI (q_tk (k' := 2) hI hr1 rfl (Nat.succ_ne_zero _)) rfl (Nat.succ_ne_zero _))) kv_X7_58 (q_tk (k' := 5) hI (q_tk (k' := 2) hI hr1 rfl (Nat.succ_ne_zero _)) rfl (Nat.succ_ne_zero _)) ⟨Nat.le_of_ble_eq_true rfl, Nat.le_of_ble_eq_true rfl⟩ (Nat.le_of_ble_eq_true rfl) dX7_choose_101) hI (Nat.le_of_ble_eq_true rfl) (fun r_65 σ_66 H locs hpσ_66 hkσ_66 hI => ?_)
          have ahpσ_66 := hpσ_66.1
          have bhpσ_66 := hpσ_66.2
          clear hpσ_66
          replace hI := q_Irw ahpσ_66 hI
          replace hF := q_letX hF bhpσ_66
          refine q_icmp_ge (A := r_62.toInt) (B := r_65.toInt) E rfl rfl (tgt := 116) dX7_choose_104 (by decide) (fun c_67 => ?_) (fun c_67 => ?_)
          · skip
            replace hF := q_ifn hF (Int.not_lt.mpr c_67)
            exact q_retv E hr hlk hI ⟨(hF.trans hout), fr_σ_63⟩ dX7_choose_116
          · skip
            replace hF := q_ifp hF c_67
            refine lv_aload_n hx hb dX7_choose_107 rfl (lv_at hl 4 rfl) ?_
            refine lv_aload_n hx hb dX7_choose_108 rfl (lv_at hl 4 rfl) ?_
            refine q_ci (q_runS (As := [.ref r1]) (rest := [.ref r1]) E (hml.trans hl.1.symm) hI (c_X7_fullestOther l X σ_63 r1 hr1) ks_X7_182 rfl ⟨Nat.le_of_ble_eq_true rfl, Nat.le_of_ble_eq_true rfl⟩ ⟨Nat.le_refl _, Nat.le_refl _⟩ rfl (Nat.le_of_ble_eq_true rfl) dX7_choose_109) hI (Nat.le_of_ble_eq_true rfl) (fun r_68 σ_69 H locs hpσ_69 hkσ_69 hI => ?_)
            have ahpσ_69 := hpσ_69.1
            have bhpσ_69 := hpσ_69.2
            clear hpσ_69
            replace hI := q_Irw ahpσ_69 hI
            replace hF := q_letX hF bhpσ_69
            refine lv_iconst (v := 1) hx hb dX7_choose_112 zki_1 ?_
            have kc_70 : (1 : Int32).toInt = 1 := zt_1
            refine q_cv (q_rV0_2 (rest := []) E (hml.trans hl.1.symm) hI (c_X0_want l X σ_63 r1 r_68 (1 : Int32) hr1) kv_X7_176 hr1 ⟨Nat.le_of_ble_eq_true rfl, Nat.le_of_ble_eq_true rfl⟩ (Nat.le_of_ble_eq_true rfl) dX7_choose_113) hI (Nat.le_of_ble_eq_true rfl) (fun σ_72 H locs hpσ_72 hkσ_72 hI => ?_)
            have ahpσ_72 := hpσ_72.1
            have bhpσ_72 := hpσ_72.2
            clear hpσ_72
            have fr_σ_72 := fr_σ_63.call bhpσ_72 rfl rfl
            replace hF := q_letX hF ahpσ_72
            exact q_retv E hr hlk hI ⟨(hF.trans hout), fr_σ_72⟩ dX7_choose_116

set_option maxRecDepth 100000 in
set_option maxHeartbeats 4000000 in
theorem c_X7_firstDoubter (l : Launch) (X : XW) (σ : ST) (a : Nat) (r1 : Nat) (ha : q_kd X a = 7) (hr1 : q_kd X r1 = 1) : Met l yX7_firstDoubter (q_ws yX7_firstDoubter cX7_firstDoubter 4 (some .int)) (q_rm 3 65) (q_P X σ [.ref a, .ref r1]) (q_Qi X 8 σ (fun (r : Int32) (σ' : ST) => (r, σ') = F_X7_firstDoubter X σ a r1 ∧ q_ow [(7, 6)] [] X σ σ')) 0 0 (q_reg X) := by
  refine q_met 8 (by first | exact rfl | decide +kernel) rfl (Nat.le_of_ble_eq_true rfl) (fun p e s m below meth c E hml hr hlk hI ls hl => ?_)
  have hx := E.1
  have hb := E.2.1
  have hl : lv_has ls 4 [(0, .ref a), (1, .ref r1)] := hl
  have fr_σ : q_ow [(7, 6)] [] X σ σ := q_ow.rf
  obtain ⟨out, hout⟩ : ∃ o, o = F_X7_firstDoubter X σ a r1 := ⟨_, rfl⟩
  have hF := hout.symm
  unfold F_X7_firstDoubter at hF
  refine lv_iconst (v := 1) hx hb dX7_firstDoubter_0 zki_1 ?_
  refine lv_istore_n (lv' := [(2, .int 1), (0, .ref a), (1, .ref r1)]) hx hb dX7_firstDoubter_1 rfl hl (by decide) rfl (fun ls hl => ?_)
  have L_2_3 : ∀ (k_3 : Nat) (x_1 : Int32) (σ_2 : ST) (H : Heap) (locs : List Loc) (ls : Array Slot), (2147483647 - x_1.toInt).toNat < k_3 → (0 ≤ x_1.toInt) → (q_ow [(7, 6)] [] X σ σ_2) → (F_X7_firstDoubter_L2_1 X r1 a k_3 x_1 σ_2 = out) → q_I X 8 σ s.heap locs σ_2 H → lv_has ls 4 [(0, .ref a), (1, .ref r1), (2, .int x_1)] → W p l e (q_rm 3 65) s m ([.ref a, .ref r1] : List Value).toArray below meth c H locs 0 0 (MQ below (q_Qi X 8 σ (fun (r : Int32) (σ' : ST) => (r, σ') = F_X7_firstDoubter X σ a r1 ∧ q_ow [(7, 6)] [] X σ σ')) ([.ref a, .ref r1] : List Value).toArray s 0 0 (q_reg X)) (F0 m 2 ls []) := by
    clear hF
    intro k_3
    induction k_3 with
    | zero =>
      intro x_1 σ_2 H locs ls hms
      exact absurd hms (Nat.not_lt_zero _)
    | succ k_3 ih2 =>
      intro x_1 σ_2 H locs ls hm2 hge2 fr_σ_2 hF hI hl
      replace hF := (F_X7_firstDoubter_L2_1_s).symm.trans hF
      unfold F_X7_firstDoubter_B2_1 at hF
      refine lv_iload_n hx hb dX7_firstDoubter_2 rfl (lv_at hl 2 rfl) ?_
      refine lv_aload_n hx hb dX7_firstDoubter_3 rfl (lv_at hl 1 rfl) ?_
      refine gs_X7_129_1 E hI hr1 dX7_firstDoubter_4 ?_
      refine gs_X7_133_6 E hI (q_tk (k' := 6) hI hr1 rfl (Nat.succ_ne_zero _)) dX7_firstDoubter_7 ?_
      refine lv_topi (fun f_4 ef_4 => ?_)
      replace hF := q_letX hF ef_4
      have gc_5_x_1 := q_rng x_1
      have gc_5_f_4 := q_rng f_4
      refine q_icmp_ge (A := x_1.toInt) (B := f_4.toInt) E rfl rfl (tgt := 60) dX7_firstDoubter_10 (by decide) (fun c_5 => ?_) (fun c_5 => ?_)
      · skip
        replace hF := q_ifn hF (Int.not_lt.mpr c_5)
        skip
        refine lv_iconst (v := (-1)) hx hb dX7_firstDoubter_60 zki_m1 ?_
        exact q_reti E hr hlk hI ⟨(hF.trans hout), fr_σ_2⟩ dX7_firstDoubter_61
      · skip
        replace hF := q_ifp hF c_5
        refine lv_aload_n hx hb dX7_firstDoubter_13 rfl (lv_at hl 1 rfl) ?_
        refine gs_X7_129_1 E hI hr1 dX7_firstDoubter_14 ?_
        refine lv_aload_n hx hb dX7_firstDoubter_17 rfl (lv_at hl 1 rfl) ?_
        refine gs_X7_138_1 E hI hr1 dX7_firstDoubter_18 ?_
        refine lv_topi (fun f_6 ef_6 => ?_)
        replace hF := q_letX hF ef_6
        refine lv_iload_n hx hb dX7_firstDoubter_21 rfl (lv_at hl 2 rfl) ?_
        refine q_ci (q_rV5_2 (rest := []) E (hml.trans hl.1.symm) hI (c_X6_playerAfter l X σ_2 (q_rf X r1 0) f_6 x_1 (q_tk (k' := 6) hI hr1 rfl (Nat.succ_ne_zero _))) kv_X7_188 (q_tk (k' := 6) hI hr1 rfl (Nat.succ_ne_zero _)) ⟨Nat.le_of_ble_eq_true rfl, Nat.le_of_ble_eq_true rfl⟩ (Nat.le_of_ble_eq_true rfl) dX7_firstDoubter_22) hI (Nat.le_of_ble_eq_true rfl) (fun r_7 σ_8 H locs hpσ_8 hkσ_8 hI => ?_)
        have ahpσ_8 := hpσ_8.1
        have bhpσ_8 := hpσ_8.2
        clear hpσ_8
        replace hI := q_Irw ahpσ_8 hI
        replace hF := q_letX hF bhpσ_8
        refine lv_istore_n (lv' := [(3, .int r_7), (0, .ref a), (1, .ref r1), (2, .int x_1)]) hx hb dX7_firstDoubter_25 rfl hl (by decide) rfl (fun ls hl => ?_)
        refine lv_aload_n hx hb dX7_firstDoubter_26 rfl (lv_at hl 2 rfl) ?_
        refine lv_iload_n hx hb dX7_firstDoubter_27 rfl (lv_at hl 0 rfl) ?_
        refine q_ci (q_rV0_1 (rest := []) E (hml.trans hl.1.symm) hI (c_X0_isImpossibleFor l X σ_2 r1 r_7 hr1) kv_X7_191 hr1 ⟨Nat.le_of_ble_eq_true rfl, Nat.le_of_ble_eq_true rfl⟩ (Nat.le_of_ble_eq_true rfl) dX7_firstDoubter_28) hI (Nat.le_of_ble_eq_true rfl) (fun r_9 σ_10 H locs hpσ_10 hkσ_10 hI => ?_)
        have ahpσ_10 := hpσ_10.1
        have bhpσ_10 := hpσ_10.2.1
        have chpσ_10 := hpσ_10.2.2
        clear hpσ_10
        replace hI := q_Irw ahpσ_10 hI
        replace hF := q_letX hF chpσ_10
        refine q_if_ne (A := r_9.toInt) E rfl (tgt := 52) dX7_firstDoubter_31 (by decide) (fun c_11 => ?_) (fun c_11 => ?_)
        · skip
          replace hF := q_ifn hF c_11
          replace c_11 := q_ifOne bhpσ_10 c_11
          skip
          refine lv_iload_n hx hb dX7_firstDoubter_52 rfl (lv_at hl 0 rfl) ?_
          exact q_reti E hr hlk hI ⟨(hF.trans hout), fr_σ_2⟩ dX7_firstDoubter_53
        · skip
          replace hF := q_ifp hF c_11
          refine lv_aload_n hx hb dX7_firstDoubter_34 rfl (lv_at hl 1 rfl) ?_
          refine q_ci (q_rV6_0 (rest := []) E (hml.trans hl.1.symm) hI (c_X7_draw l X σ_2 a ha) kv_X7_179 ha ⟨Nat.le_of_ble_eq_true rfl, Nat.le_of_ble_eq_true rfl⟩ (Nat.le_of_ble_eq_true rfl) dX7_firstDoubter_35) hI (Nat.le_of_ble_eq_true rfl) (fun r_12 σ_13 H locs hpσ_13 hkσ_13 hI => ?_)
          have ahpσ_13 := hpσ_13.1
          have bhpσ_13 := hpσ_13.2
          clear hpσ_13
          have fr_σ_13 := fr_σ_2.call bhpσ_13 rfl rfl
          replace hF := q_biX hF ahpσ_13
          refine lv_aload_n hx hb dX7_firstDoubter_38 rfl (lv_at hl 2 rfl) ?_
          refine gs_X7_77_1 E hI hr1 dX7_firstDoubter_39 ?_
          refine gs_X7_99_2 E hI (q_tk (k' := 2) hI hr1 rfl (Nat.succ_ne_zero _)) dX7_firstDoubter_42 ?_
          refine lv_iload_n hx hb dX7_firstDoubter_45 rfl (lv_at hl 0 rfl) ?_
          refine q_ci (q_rV4_1 (rest := [.int r_12]) E (hml.trans hl.1.symm) hI (c_X5_get l X σ_13 (q_rf X (q_rf X r1 1) 4) r_7 (q_tk (k' := 5) hI (q_tk (k' := 2) hI hr1 rfl (Nat.succ_ne_zero _)) rfl (Nat.succ_ne_zero _))) kv_X7_58 (q_tk (k' := 5) hI (q_tk (k' := 2) hI hr1 rfl (Nat.succ_ne_zero _)) rfl (Nat.succ_ne_zero _)) ⟨Nat.le_of_ble_eq_true rfl, Nat.le_of_ble_eq_true rfl⟩ (Nat.le_of_ble_eq_true rfl) dX7_firstDoubter_46) hI (Nat.le_of_ble_eq_true rfl) (fun r_14 σ_15 H locs hpσ_15 hkσ_15 hI => ?_)
          have ahpσ_15 := hpσ_15.1
          have bhpσ_15 := hpσ_15.2
          clear hpσ_15
          replace hI := q_Irw ahpσ_15 hI
          replace hF := q_letX hF bhpσ_15
          have gc_16_r_12 := q_rng r_12
          have gc_16_r_14 := q_rng r_14
          refine q_icmp_ge (A := r_12.toInt) (B := r_14.toInt) E rfl rfl (tgt := 54) dX7_firstDoubter_49 (by decide) (fun c_16 => ?_) (fun c_16 => ?_)
          · skip
            replace hF := q_ifn hF (Int.not_lt.mpr c_16)
            obtain ⟨z_17, ez_17⟩ : ∃ y : Int32, y = x_1 + 1 := ⟨_, rfl⟩
            replace hF := q_letX hF ez_17
            refine lv_iinc (v := z_17) (lv' := [(2, .int z_17), (3, .int r_7), (0, .ref a), (1, .ref r1)]) hx hb dX7_firstDoubter_54 hl (k := 3) rfl (by rw [ez_17]; rfl) (by decide) rfl (fun ls hl => ?_)
            have iz_17 : z_17.toInt = x_1.toInt + 1 := q_inc ez_17 (by first | (clear hm2 ahpσ_8 bhpσ_8 ahpσ_10 bhpσ_10 chpσ_10 c_11 ahpσ_13 bhpσ_13 ahpσ_15 bhpσ_15 gc_16_r_12 gc_16_r_14 c_16; omega) | omega)
            refine lv_goto (tgt := 2) hx hb dX7_firstDoubter_57 (by decide) ?_
            exact ih2 z_17 σ_13 _ _ ls (by first | (clear ahpσ_8 bhpσ_8 ahpσ_10 bhpσ_10 chpσ_10 c_11 ahpσ_13 bhpσ_13 ahpσ_15 bhpσ_15 gc_16_r_12 gc_16_r_14 c_16; omega) | omega) (by first | (clear hm2 gc_5_f_4 c_5 ahpσ_8 bhpσ_8 ahpσ_10 bhpσ_10 chpσ_10 c_11 ahpσ_13 bhpσ_13 ahpσ_15 bhpσ_15 gc_16_r_12 gc_16_r_14 c_16; omega) | omega) fr_σ_13 hF hI (lv_sub hl [2, 3, 0] rfl)
          · skip
            replace hF := q_ifp hF c_16
            skip
            refine lv_iload_n hx hb dX7_firstDoubter_52 rfl (lv_at hl 0 rfl) ?_
            exact q_reti E hr hlk hI ⟨(hF.trans hout), fr_σ_13⟩ dX7_firstDoubter_53
  exact L_2_3 ((2147483647 - (1 : Int32).toInt).toNat + 1) 1 σ _ _ ls (Nat.lt_succ_self _) (by decide) fr_σ hF hI (lv_sub hl [1, 2, 0] rfl)

set_option maxRecDepth 100000 in
set_option maxHeartbeats 4000000 in
theorem c_X7_takeTurn (l : Launch) (X : XW) (σ : ST) (a : Nat) (r1 : Nat) (ha : q_kd X a = 7) (hr1 : q_kd X r1 = 1) : Met l yX7_takeTurn (q_ws yX7_takeTurn cX7_takeTurn 3 none) (q_rm 4 92) (q_P X σ [.ref a, .ref r1]) (q_Qv X 8 σ (fun (σ' : ST) => σ' = F_X7_takeTurn X σ a r1 ∧ q_ow [(1, 4), (1, 5), (1, 6), (1, 7), (1, 9), (3, 0), (3, 1), (7, 1), (7, 2), (7, 3), (7, 4), (7, 6), (20, 99)] [] X σ σ')) 0 0 (q_reg X) := by
  refine q_met 8 (by first | exact rfl | decide +kernel) rfl (Nat.le_of_ble_eq_true rfl) (fun p e s m below meth c E hml hr hlk hI ls hl => ?_)
  have hx := E.1
  have hb := E.2.1
  have hl : lv_has ls 3 [(0, .ref a), (1, .ref r1)] := hl
  have fr_σ : q_ow [(1, 4), (1, 5), (1, 6), (1, 7), (1, 9), (3, 0), (3, 1), (7, 1), (7, 2), (7, 3), (7, 4), (7, 6), (20, 99)] [] X σ σ := q_ow.rf
  obtain ⟨out, hout⟩ : ∃ o, o = F_X7_takeTurn X σ a r1 := ⟨_, rfl⟩
  have hF := hout.symm
  unfold F_X7_takeTurn at hF
  refine lv_aload_n hx hb dX7_takeTurn_0 rfl (lv_at hl 1 rfl) ?_
  refine gs_X7_123_1 E hI hr1 dX7_takeTurn_1 ?_
  refine lv_topi (fun f_1 ef_1 => ?_)
  replace hF := q_letX hF ef_1
  have bf_1 : 0 ≤ f_1.toInt ∧ f_1.toInt ≤ 1 := by rw [ef_1]; exact q_bd hI hr1 rfl
  have J_11_2 : ∀  (σ_2 : ST) (H : Heap) (locs : List Loc) (ls : Array Slot), (q_ow [(1, 4), (1, 5), (1, 6), (1, 7), (1, 9), (3, 0), (3, 1), (7, 1), (7, 2), (7, 3), (7, 4), (7, 6), (20, 99)] [] X σ σ_2) → (F_X7_takeTurn_J11_1 X r1 a σ_2 = out) → q_I X 8 σ s.heap locs σ_2 H → lv_has ls 3 [(0, .ref a), (1, .ref r1)] → W p l e (q_rm 4 92) s m ([.ref a, .ref r1] : List Value).toArray below meth c H locs 0 0 (MQ below (q_Qv X 8 σ (fun (σ' : ST) => σ' = F_X7_takeTurn X σ a r1 ∧ q_ow [(1, 4), (1, 5), (1, 6), (1, 7), (1, 9), (3, 0), (3, 1), (7, 1), (7, 2), (7, 3), (7, 4), (7, 6), (20, 99)] [] X σ σ')) ([.ref a, .ref r1] : List Value).toArray s 0 0 (q_reg X)) (F0 m 11 ls []) := by
    clear hF
    intro σ_2 H locs ls fr_σ_2 hF hI hl
    unfold F_X7_takeTurn_J11_1 at hF
    refine lv_aload_n hx hb dX7_takeTurn_11 rfl (lv_at hl 1 rfl) ?_
    refine gs_X7_120_1 E hI hr1 dX7_takeTurn_12 ?_
    refine lv_topi (fun f_3 ef_3 => ?_)
    replace hF := q_letX hF ef_3
    refine lv_iconst (v := (-1)) hx hb dX7_takeTurn_15 zki_m1 ?_
    refine q_icmp_ne (A := f_3.toInt) (B := (-1)) E rfl (by decide) (tgt := 47) dX7_takeTurn_16 (by decide) (fun c_4 => ?_) (fun c_4 => ?_)
    · skip
      replace hF := q_ifn hF c_4
      refine lv_aload_n hx hb dX7_takeTurn_47 rfl (lv_at hl 0 rfl) ?_
      refine lv_dup hx hb dX7_takeTurn_48 rfl ?_
      refine gs_X7_15_7 E hI ha dX7_takeTurn_49 ?_
      refine lv_topi (fun f_5 ef_5 => ?_)
      replace hF := q_letX hF ef_5
      refine lv_iconst (v := 1) hx hb dX7_takeTurn_52 zki_1 ?_
      refine lv_iadd hx hb dX7_takeTurn_53 ?_
      refine lv_topi (fun z_6 ez_6 => ?_)
      replace hF := q_letX hF ez_6
      refine ps_X7_15_7 E hI ha (by decide) dX7_takeTurn_54 (fun H locs σ_7 hσ_7 hI => ?_)
      replace hF := q_letX hF hσ_7
      have fr_σ_7 := fr_σ_2.si hσ_7 ha rfl
      exact q_retv E hr hlk hI ⟨(hF.trans hout), fr_σ_7⟩ dX7_takeTurn_57
    · skip
      replace hF := q_ifp hF c_4
      refine lv_aload_n hx hb dX7_takeTurn_19 rfl (lv_at hl 1 rfl) ?_
      refine gs_X7_129_1 E hI hr1 dX7_takeTurn_20 ?_
      refine gs_X7_133_6 E hI (q_tk (k' := 6) hI hr1 rfl (Nat.succ_ne_zero _)) dX7_takeTurn_23 ?_
      refine lv_topi (fun f_8 ef_8 => ?_)
      replace hF := q_letX hF ef_8
      refine lv_iconst (v := 2) hx hb dX7_takeTurn_26 zki_2 ?_
      refine q_icmp_lt (A := f_8.toInt) (B := 2) E rfl (by decide) (tgt := 47) dX7_takeTurn_27 (by decide) (fun c_9 => ?_) (fun c_9 => ?_)
      · skip
        replace hF := q_ifp hF c_9
        refine lv_aload_n hx hb dX7_takeTurn_47 rfl (lv_at hl 0 rfl) ?_
        refine lv_dup hx hb dX7_takeTurn_48 rfl ?_
        refine gs_X7_15_7 E hI ha dX7_takeTurn_49 ?_
        refine lv_topi (fun f_10 ef_10 => ?_)
        replace hF := q_letX hF ef_10
        refine lv_iconst (v := 1) hx hb dX7_takeTurn_52 zki_1 ?_
        refine lv_iadd hx hb dX7_takeTurn_53 ?_
        refine lv_topi (fun z_11 ez_11 => ?_)
        replace hF := q_letX hF ez_11
        refine ps_X7_15_7 E hI ha (by decide) dX7_takeTurn_54 (fun H locs σ_12 hσ_12 hI => ?_)
        replace hF := q_letX hF hσ_12
        have fr_σ_12 := fr_σ_2.si hσ_12 ha rfl
        exact q_retv E hr hlk hI ⟨(hF.trans hout), fr_σ_12⟩ dX7_takeTurn_57
      · skip
        replace hF := q_ifn hF (Int.not_lt.mpr c_9)
        refine lv_aload_n hx hb dX7_takeTurn_30 rfl (lv_at hl 1 rfl) ?_
        refine gs_X7_77_1 E hI hr1 dX7_takeTurn_31 ?_
        refine gs_X7_102_2 E hI (q_tk (k' := 2) hI hr1 rfl (Nat.succ_ne_zero _)) dX7_takeTurn_34 ?_
        refine lv_aload_n hx hb dX7_takeTurn_37 rfl (lv_at hl 1 rfl) ?_
        refine gs_X7_138_1 E hI hr1 dX7_takeTurn_38 ?_
        refine lv_topi (fun f_13 ef_13 => ?_)
        replace hF := q_letX hF ef_13
        refine q_ci (q_rV4_1 (rest := []) E (hml.trans hl.1.symm) hI (c_X5_get l X σ_2 (q_rf X (q_rf X r1 1) 2) f_13 (q_tk (k' := 5) hI (q_tk (k' := 2) hI hr1 rfl (Nat.succ_ne_zero _)) rfl (Nat.succ_ne_zero _))) kv_X7_58 (q_tk (k' := 5) hI (q_tk (k' := 2) hI hr1 rfl (Nat.succ_ne_zero _)) rfl (Nat.succ_ne_zero _)) ⟨Nat.le_of_ble_eq_true rfl, Nat.le_of_ble_eq_true rfl⟩ (Nat.le_of_ble_eq_true rfl) dX7_takeTurn_41) hI (Nat.le_of_ble_eq_true rfl) (fun r_14 σ_15 H locs hpσ_15 hkσ_15 hI => ?_)
        have ahpσ_15 := hpσ_15.1
        have bhpσ_15 := hpσ_15.2
        clear hpσ_15
        replace hI := q_Irw ahpσ_15 hI
        replace hF := q_letX hF bhpσ_15
        refine q_if_ne (A := r_14.toInt) E rfl (tgt := 58) dX7_takeTurn_44 (by decide) (fun c_16 => ?_) (fun c_16 => ?_)
        · skip
          replace hF := q_ifn hF c_16
          refine lv_aload_n hx hb dX7_takeTurn_58 rfl (lv_at hl 0 rfl) ?_
          refine lv_aload_n hx hb dX7_takeTurn_59 rfl (lv_at hl 1 rfl) ?_
          refine q_cv (q_rV6_1 (rest := []) E (hml.trans hl.1.symm) hI (c_X7_choose l X σ_2 a r1 ha hr1) kv_X7_141 ha ⟨Nat.le_of_ble_eq_true rfl, Nat.le_of_ble_eq_true rfl⟩ (Nat.le_of_ble_eq_true rfl) dX7_takeTurn_60) hI (Nat.le_of_ble_eq_true rfl) (fun σ_18 H locs hpσ_18 hkσ_18 hI => ?_)
          have ahpσ_18 := hpσ_18.1
          have bhpσ_18 := hpσ_18.2
          clear hpσ_18
          have fr_σ_18 := fr_σ_2.call bhpσ_18 rfl rfl
          replace hF := q_letX hF ahpσ_18
          refine lv_aload_n hx hb dX7_takeTurn_63 rfl (lv_at hl 1 rfl) ?_
          refine q_cv (q_rV0_0 (rest := []) E (hml.trans hl.1.symm) hI (c_X0_layWanted l X σ_18 r1 hr1) kv_X7_144 hr1 ⟨Nat.le_of_ble_eq_true rfl, Nat.le_of_ble_eq_true rfl⟩ (Nat.le_of_ble_eq_true rfl) dX7_takeTurn_64) hI (Nat.le_of_ble_eq_true rfl) (fun σ_20 H locs hpσ_20 hkσ_20 hI => ?_)
          have ahpσ_20 := hpσ_20.1
          have bhpσ_20 := hpσ_20.2
          clear hpσ_20
          have fr_σ_20 := fr_σ_18.call bhpσ_20 rfl rfl
          replace hF := q_letX hF ahpσ_20
          refine lv_aload_n hx hb dX7_takeTurn_67 rfl (lv_at hl 0 rfl) ?_
          refine lv_dup hx hb dX7_takeTurn_68 rfl ?_
          refine gs_X7_18_7 E hI ha dX7_takeTurn_69 ?_
          refine lv_topi (fun f_21 ef_21 => ?_)
          replace hF := q_letX hF ef_21
          refine lv_iconst (v := 1) hx hb dX7_takeTurn_72 zki_1 ?_
          refine lv_iadd hx hb dX7_takeTurn_73 ?_
          refine lv_topi (fun z_22 ez_22 => ?_)
          replace hF := q_letX hF ez_22
          refine ps_X7_18_7 E hI ha (by decide) dX7_takeTurn_74 (fun H locs σ_23 hσ_23 hI => ?_)
          replace hF := q_letX hF hσ_23
          have fr_σ_23 := fr_σ_20.si hσ_23 ha rfl
          refine lv_aload_n hx hb dX7_takeTurn_77 rfl (lv_at hl 0 rfl) ?_
          refine lv_aload_n hx hb dX7_takeTurn_78 rfl (lv_at hl 1 rfl) ?_
          refine q_ci (q_rV6_1 (rest := []) E (hml.trans hl.1.symm) hI (c_X7_firstDoubter l X σ_23 a r1 ha hr1) kv_X7_147 ha ⟨Nat.le_of_ble_eq_true rfl, Nat.le_of_ble_eq_true rfl⟩ (Nat.le_of_ble_eq_true rfl) dX7_takeTurn_79) hI (Nat.le_of_ble_eq_true rfl) (fun r_24 σ_25 H locs hpσ_25 hkσ_25 hI => ?_)
          have ahpσ_25 := hpσ_25.1
          have bhpσ_25 := hpσ_25.2
          clear hpσ_25
          have fr_σ_25 := fr_σ_23.call bhpσ_25 rfl rfl
          replace hF := q_biX hF ahpσ_25
          refine lv_istore_n (lv' := [(2, .int r_24), (0, .ref a), (1, .ref r1)]) hx hb dX7_takeTurn_82 rfl hl (by decide) rfl (fun ls hl => ?_)
          refine lv_iload_n hx hb dX7_takeTurn_83 rfl (lv_at hl 0 rfl) ?_
          refine lv_iconst (v := (-1)) hx hb dX7_takeTurn_84 zki_m1 ?_
          refine q_icmp_ne (A := r_24.toInt) (B := (-1)) E rfl (by decide) (tgt := 93) dX7_takeTurn_85 (by decide) (fun c_26 => ?_) (fun c_26 => ?_)
          · skip
            replace hF := q_ifn hF c_26
            refine lv_aload_n hx hb dX7_takeTurn_93 rfl (lv_at hl 1 rfl) ?_
            refine lv_dup hx hb dX7_takeTurn_94 rfl ?_
            refine gs_X7_21_7 E hI ha dX7_takeTurn_95 ?_
            refine lv_topi (fun f_27 ef_27 => ?_)
            replace hF := q_letX hF ef_27
            refine lv_iconst (v := 1) hx hb dX7_takeTurn_98 zki_1 ?_
            refine lv_iadd hx hb dX7_takeTurn_99 ?_
            refine lv_topi (fun z_28 ez_28 => ?_)
            replace hF := q_letX hF ez_28
            refine ps_X7_21_7 E hI ha (by decide) dX7_takeTurn_100 (fun H locs σ_29 hσ_29 hI => ?_)
            replace hF := q_letX hF hσ_29
            have fr_σ_29 := fr_σ_25.si hσ_29 ha rfl
            refine lv_aload_n hx hb dX7_takeTurn_103 rfl (lv_at hl 2 rfl) ?_
            refine gs_X7_109_1 E hI hr1 dX7_takeTurn_104 ?_
            refine q_ci (q_rV2_0 (rest := []) E (hml.trans hl.1.symm) hI (c_X2_topTruth l X σ_29 (q_rf X r1 2) (q_tk (k' := 3) hI hr1 rfl (Nat.succ_ne_zero _))) kv_X7_151 (q_tk (k' := 3) hI hr1 rfl (Nat.succ_ne_zero _)) ⟨Nat.le_of_ble_eq_true rfl, Nat.le_of_ble_eq_true rfl⟩ (Nat.le_of_ble_eq_true rfl) dX7_takeTurn_107) hI (Nat.le_of_ble_eq_true rfl) (fun r_30 σ_31 H locs hpσ_31 hkσ_31 hI => ?_)
            have ahpσ_31 := hpσ_31.1
            have bhpσ_31 := hpσ_31.2
            clear hpσ_31
            replace hI := q_Irw ahpσ_31 hI
            replace hF := q_letX hF bhpσ_31
            refine q_if_eq (A := r_30.toInt) E rfl (tgt := 123) dX7_takeTurn_110 (by decide) (fun c_32 => ?_) (fun c_32 => ?_)
            · skip
              replace hF := q_ifp hF c_32
              refine lv_aload_n hx hb dX7_takeTurn_123 rfl (lv_at hl 2 rfl) ?_
              refine lv_iload_n hx hb dX7_takeTurn_124 rfl (lv_at hl 0 rfl) ?_
              refine q_ci (q_rV0_1 (rest := []) E (hml.trans hl.1.symm) hI (c_X0_challenge l X σ_29 r1 r_24 hr1) kv_X7_155 hr1 ⟨Nat.le_of_ble_eq_true rfl, Nat.le_of_ble_eq_true rfl⟩ (Nat.le_of_ble_eq_true rfl) dX7_takeTurn_125) hI (Nat.le_of_ble_eq_true rfl) (fun r_33 σ_34 H locs hpσ_34 hkσ_34 hI => ?_)
              have ahpσ_34 := hpσ_34.1
              have bhpσ_34 := hpσ_34.2
              clear hpσ_34
              have fr_σ_34 := fr_σ_29.call bhpσ_34 rfl rfl
              replace hF := q_biX hF ahpσ_34
              refine lv_pop hx hb dX7_takeTurn_128 rfl ?_
              exact q_retv E hr hlk hI ⟨(hF.trans hout), fr_σ_34⟩ dX7_takeTurn_129
            · skip
              replace hF := q_ifn hF c_32
              refine lv_aload_n hx hb dX7_takeTurn_113 rfl (lv_at hl 1 rfl) ?_
              refine lv_dup hx hb dX7_takeTurn_114 rfl ?_
              refine gs_X7_24_7 E hI ha dX7_takeTurn_115 ?_
              refine lv_topi (fun f_35 ef_35 => ?_)
              replace hF := q_letX hF ef_35
              refine lv_iconst (v := 1) hx hb dX7_takeTurn_118 zki_1 ?_
              refine lv_iadd hx hb dX7_takeTurn_119 ?_
              refine lv_topi (fun z_36 ez_36 => ?_)
              replace hF := q_letX hF ez_36
              refine ps_X7_24_7 E hI ha (by decide) dX7_takeTurn_120 (fun H locs σ_37 hσ_37 hI => ?_)
              replace hF := q_letX hF hσ_37
              have fr_σ_37 := fr_σ_29.si hσ_37 ha rfl
              refine lv_aload_n hx hb dX7_takeTurn_123 rfl (lv_at hl 2 rfl) ?_
              refine lv_iload_n hx hb dX7_takeTurn_124 rfl (lv_at hl 0 rfl) ?_
              refine q_ci (q_rV0_1 (rest := []) E (hml.trans hl.1.symm) hI (c_X0_challenge l X σ_37 r1 r_24 hr1) kv_X7_155 hr1 ⟨Nat.le_of_ble_eq_true rfl, Nat.le_of_ble_eq_true rfl⟩ (Nat.le_of_ble_eq_true rfl) dX7_takeTurn_125) hI (Nat.le_of_ble_eq_true rfl) (fun r_38 σ_39 H locs hpσ_39 hkσ_39 hI => ?_)
              have ahpσ_39 := hpσ_39.1
              have bhpσ_39 := hpσ_39.2
              clear hpσ_39
              have fr_σ_39 := fr_σ_37.call bhpσ_39 rfl rfl
              replace hF := q_biX hF ahpσ_39
              refine lv_pop hx hb dX7_takeTurn_128 rfl ?_
              exact q_retv E hr hlk hI ⟨(hF.trans hout), fr_σ_39⟩ dX7_takeTurn_129
          · skip
            replace hF := q_ifp hF c_26
            refine lv_aload_n hx hb dX7_takeTurn_88 rfl (lv_at hl 2 rfl) ?_
            refine q_cv (q_rV0_0 (rest := []) E (hml.trans hl.1.symm) hI (c_X0_letLie l X σ_25 r1 hr1) kv_X7_126 hr1 ⟨Nat.le_of_ble_eq_true rfl, Nat.le_of_ble_eq_true rfl⟩ (Nat.le_of_ble_eq_true rfl) dX7_takeTurn_89) hI (Nat.le_of_ble_eq_true rfl) (fun σ_41 H locs hpσ_41 hkσ_41 hI => ?_)
            have ahpσ_41 := hpσ_41.1
            have bhpσ_41 := hpσ_41.2
            clear hpσ_41
            have fr_σ_41 := fr_σ_25.call bhpσ_41 rfl rfl
            replace hF := q_letX hF ahpσ_41
            exact q_retv E hr hlk hI ⟨(hF.trans hout), fr_σ_41⟩ dX7_takeTurn_92
        · skip
          replace hF := q_ifp hF c_16
          refine lv_aload_n hx hb dX7_takeTurn_47 rfl (lv_at hl 0 rfl) ?_
          refine lv_dup hx hb dX7_takeTurn_48 rfl ?_
          refine gs_X7_15_7 E hI ha dX7_takeTurn_49 ?_
          refine lv_topi (fun f_42 ef_42 => ?_)
          replace hF := q_letX hF ef_42
          refine lv_iconst (v := 1) hx hb dX7_takeTurn_52 zki_1 ?_
          refine lv_iadd hx hb dX7_takeTurn_53 ?_
          refine lv_topi (fun z_43 ez_43 => ?_)
          replace hF := q_letX hF ez_43
          refine ps_X7_15_7 E hI ha (by decide) dX7_takeTurn_54 (fun H locs σ_44 hσ_44 hI => ?_)
          replace hF := q_letX hF hσ_44
          have fr_σ_44 := fr_σ_2.si hσ_44 ha rfl
          exact q_retv E hr hlk hI ⟨(hF.trans hout), fr_σ_44⟩ dX7_takeTurn_57
  refine q_if_eq (A := f_1.toInt) E rfl (tgt := 11) dX7_takeTurn_4 (by decide) (fun c_45 => ?_) (fun c_45 => ?_)
  · skip
    replace hF := q_ifp hF c_45
    exact J_11_2 σ _ _ ls fr_σ hF hI (lv_sub hl [0, 1] rfl)
  · skip
    replace hF := q_ifn hF c_45
    refine lv_aload_n hx hb dX7_takeTurn_7 rfl (lv_at hl 1 rfl) ?_
    refine q_cv (q_rV0_0 (rest := []) E (hml.trans hl.1.symm) hI (c_X0_letLie l X σ r1 hr1) kv_X7_126 hr1 ⟨Nat.le_of_ble_eq_true rfl, Nat.le_of_ble_eq_true rfl⟩ (Nat.le_of_ble_eq_true rfl) dX7_takeTurn_8) hI (Nat.le_of_ble_eq_true rfl) (fun σ_47 H locs hpσ_47 hkσ_47 hI => ?_)
    have ahpσ_47 := hpσ_47.1
    have bhpσ_47 := hpσ_47.2
    clear hpσ_47
    have fr_σ_47 := fr_σ.call bhpσ_47 rfl rfl
    replace hF := q_letX hF ahpσ_47
    exact J_11_2 σ_47 _ _ ls fr_σ_47 hF hI (lv_sub hl [0, 1] rfl)

set_option maxRecDepth 100000 in
set_option maxHeartbeats 4000000 in
theorem c_X7_behindStep (l : Launch) (X : XW) (σ : ST) (a : Nat) (r1 : Nat) (v2 : Int32) (ha : q_kd X a = 7) (hr1 : q_kd X r1 = 1) : Met l yX7_behindStep (q_ws yX7_behindStep cX7_behindStep 8 (some .int)) (q_rm 5 114) (q_P X σ [.ref a, .ref r1, .int v2]) (q_Qi X 8 σ (fun (r : Int32) (σ' : ST) => (r, σ') = F_X7_behindStep X σ a r1 v2 ∧ q_ow [(1, 4), (1, 5), (1, 6), (1, 7), (1, 9), (3, 0), (3, 1), (7, 1), (7, 2), (7, 3), (7, 4), (7, 6), (20, 99)] [] X σ σ')) 0 0 (q_reg X) := by
  refine q_met 8 (by first | exact rfl | decide +kernel) rfl (Nat.le_of_ble_eq_true rfl) (fun p e s m below meth c E hml hr hlk hI ls hl => ?_)
  have hx := E.1
  have hb := E.2.1
  have hl : lv_has ls 8 [(0, .ref a), (1, .ref r1), (2, .int v2)] := hl
  have fr_σ : q_ow [(1, 4), (1, 5), (1, 6), (1, 7), (1, 9), (3, 0), (3, 1), (7, 1), (7, 2), (7, 3), (7, 4), (7, 6), (20, 99)] [] X σ σ := q_ow.rf
  obtain ⟨out, hout⟩ : ∃ o, o = F_X7_behindStep X σ a r1 v2 := ⟨_, rfl⟩
  have hF := hout.symm
  unfold F_X7_behindStep at hF
  refine lv_aload_n hx hb dX7_behindStep_0 rfl (lv_at hl 1 rfl) ?_
  refine gs_X7_45_1 E hI hr1 dX7_behindStep_1 ?_
  refine lv_astore_n (lv' := [(3, .ref (q_rf X r1 3)), (0, .ref a), (1, .ref r1), (2, .int v2)]) hx hb dX7_behindStep_4 rfl hl (by decide) rfl (fun ls hl => ?_)
  refine lv_aload_n hx hb dX7_behindStep_5 rfl (lv_at hl 2 rfl) ?_
  refine gs_X7_77_1 E hI hr1 dX7_behindStep_6 ?_
  refine lv_astore (lv' := [(4, .ref (q_rf X r1 1)), (3, .ref (q_rf X r1 3)), (0, .ref a), (1, .ref r1), (2, .int v2)]) hx hb dX7_behindStep_9 hl (by decide) rfl (fun ls hl => ?_)
  refine lv_aload_n hx hb dX7_behindStep_11 rfl (lv_at hl 1 rfl) ?_
  refine gs_X7_81_8 E hI (q_tk (k' := 8) hI hr1 rfl (Nat.succ_ne_zero _)) dX7_behindStep_12 ?_
  refine lv_iload_n hx hb dX7_behindStep_15 rfl (lv_at hl 4 rfl) ?_
  refine q_ci (q_rV4_1 (rest := []) E (hml.trans hl.1.symm) hI (c_X5_get l X σ (q_rf X (q_rf X r1 3) 5) v2 (q_tk (k' := 5) hI (q_tk (k' := 8) hI hr1 rfl (Nat.succ_ne_zero _)) rfl (Nat.succ_ne_zero _))) kv_X7_58 (q_tk (k' := 5) hI (q_tk (k' := 8) hI hr1 rfl (Nat.succ_ne_zero _)) rfl (Nat.succ_ne_zero _)) ⟨Nat.le_of_ble_eq_true rfl, Nat.le_of_ble_eq_true rfl⟩ (Nat.le_of_ble_eq_true rfl) dX7_behindStep_16) hI (Nat.le_of_ble_eq_true rfl) (fun r_1 σ_2 H locs hpσ_2 hkσ_2 hI => ?_)
  have ahpσ_2 := hpσ_2.1
  have bhpσ_2 := hpσ_2.2
  clear hpσ_2
  replace hI := q_Irw ahpσ_2 hI
  replace hF := q_letX hF bhpσ_2
  refine lv_istore (lv' := [(5, .int r_1), (4, .ref (q_rf X r1 1)), (3, .ref (q_rf X r1 3)), (0, .ref a), (1, .ref r1), (2, .int v2)]) hx hb dX7_behindStep_19 hl (by decide) rfl (fun ls hl => ?_)
  refine lv_aload_n hx hb dX7_behindStep_21 rfl (lv_at hl 2 rfl) ?_
  refine gs_X7_84_8 E hI (q_tk (k' := 8) hI hr1 rfl (Nat.succ_ne_zero _)) dX7_behindStep_22 ?_
  refine lv_iload_n hx hb dX7_behindStep_25 rfl (lv_at hl 5 rfl) ?_
  refine q_ci (q_rV4_1 (rest := []) E (hml.trans hl.1.symm) hI (c_X5_get l X σ (q_rf X (q_rf X r1 3) 7) v2 (q_tk (k' := 5) hI (q_tk (k' := 8) hI hr1 rfl (Nat.succ_ne_zero _)) rfl (Nat.succ_ne_zero _))) kv_X7_58 (q_tk (k' := 5) hI (q_tk (k' := 8) hI hr1 rfl (Nat.succ_ne_zero _)) rfl (Nat.succ_ne_zero _)) ⟨Nat.le_of_ble_eq_true rfl, Nat.le_of_ble_eq_true rfl⟩ (Nat.le_of_ble_eq_true rfl) dX7_behindStep_26) hI (Nat.le_of_ble_eq_true rfl) (fun r_3 σ_4 H locs hpσ_4 hkσ_4 hI => ?_)
  have ahpσ_4 := hpσ_4.1
  have bhpσ_4 := hpσ_4.2
  clear hpσ_4
  replace hI := q_Irw ahpσ_4 hI
  replace hF := q_letX hF bhpσ_4
  refine lv_istore (lv' := [(6, .int r_3), (5, .int r_1), (4, .ref (q_rf X r1 1)), (3, .ref (q_rf X r1 3)), (0, .ref a), (1, .ref r1), (2, .int v2)]) hx hb dX7_behindStep_29 hl (by decide) rfl (fun ls hl => ?_)
  refine lv_aload_n hx hb dX7_behindStep_31 rfl (lv_at hl 3 rfl) ?_
  refine gs_X7_70_8 E hI (q_tk (k' := 8) hI hr1 rfl (Nat.succ_ne_zero _)) dX7_behindStep_32 ?_
  refine lv_iload_n hx hb dX7_behindStep_35 rfl (lv_at hl 6 rfl) ?_
  refine q_ci (q_rV4_1 (rest := []) E (hml.trans hl.1.symm) hI (c_X5_get l X σ (q_rf X (q_rf X r1 3) 4) v2 (q_tk (k' := 5) hI (q_tk (k' := 8) hI hr1 rfl (Nat.succ_ne_zero _)) rfl (Nat.succ_ne_zero _))) kv_X7_58 (q_tk (k' := 5) hI (q_tk (k' := 8) hI hr1 rfl (Nat.succ_ne_zero _)) rfl (Nat.succ_ne_zero _)) ⟨Nat.le_of_ble_eq_true rfl, Nat.le_of_ble_eq_true rfl⟩ (Nat.le_of_ble_eq_true rfl) dX7_behindStep_36) hI (Nat.le_of_ble_eq_true rfl) (fun r_5 σ_6 H locs hpσ_6 hkσ_6 hI => ?_)
  have ahpσ_6 := hpσ_6.1
  have bhpσ_6 := hpσ_6.2
  clear hpσ_6
  replace hI := q_Irw ahpσ_6 hI
  replace hF := q_letX hF bhpσ_6
  refine lv_iconst (v := 1) hx hb dX7_behindStep_39 zki_1 ?_
  refine lv_iadd hx hb dX7_behindStep_40 ?_
  refine lv_topi (fun z_7 ez_7 => ?_)
  replace hF := q_letX hF ez_7
  refine lv_istore (lv' := [(7, .int z_7), (6, .int r_3), (5, .int r_1), (4, .ref (q_rf X r1 1)), (3, .ref (q_rf X r1 3)), (0, .ref a), (1, .ref r1), (2, .int v2)]) hx hb dX7_behindStep_41 hl (by decide) rfl (fun ls hl => ?_)
  refine lv_aload_n hx hb dX7_behindStep_43 rfl (lv_at hl 4 rfl) ?_
  refine gs_X7_55_8 E hI (q_tk (k' := 8) hI hr1 rfl (Nat.succ_ne_zero _)) dX7_behindStep_44 ?_
  refine lv_iload_n hx hb dX7_behindStep_47 rfl (lv_at hl 7 rfl) ?_
  refine q_ci (q_rV4_1 (rest := []) E (hml.trans hl.1.symm) hI (c_X5_get l X σ (q_rf X (q_rf X r1 3) 3) v2 (q_tk (k' := 5) hI (q_tk (k' := 8) hI hr1 rfl (Nat.succ_ne_zero _)) rfl (Nat.succ_ne_zero _))) kv_X7_58 (q_tk (k' := 5) hI (q_tk (k' := 8) hI hr1 rfl (Nat.succ_ne_zero _)) rfl (Nat.succ_ne_zero _)) ⟨Nat.le_of_ble_eq_true rfl, Nat.le_of_ble_eq_true rfl⟩ (Nat.le_of_ble_eq_true rfl) dX7_behindStep_48) hI (Nat.le_of_ble_eq_true rfl) (fun r_8 σ_9 H locs hpσ_9 hkσ_9 hI => ?_)
  have ahpσ_9 := hpσ_9.1
  have bhpσ_9 := hpσ_9.2
  clear hpσ_9
  replace hI := q_Irw ahpσ_9 hI
  replace hF := q_letX hF bhpσ_9
  by_cases c_10 : r_8.toInt = 0
  · refine lv_tableIn (off := 49) (tgt := 100) hx hb dX7_behindStep_51 (by first | (clear ahpσ_2 bhpσ_2 ahpσ_4 bhpσ_4 ahpσ_6 bhpσ_6 ahpσ_9 bhpσ_9; omega) | omega) (by first | (clear ahpσ_2 bhpσ_2 ahpσ_4 bhpσ_4 ahpσ_6 bhpσ_6 ahpσ_9 bhpσ_9; omega) | omega) (by rw [c_10]; rfl) (by decide) ?_
    replace hF := q_ifp hF c_10
    refine lv_aload_n hx hb dX7_behindStep_100 rfl (lv_at hl 5 rfl) ?_
    refine lv_aload_n hx hb dX7_behindStep_101 rfl (lv_at hl 6 rfl) ?_
    refine q_cv (q_rV6_1 (rest := []) E (hml.trans hl.1.symm) hI (c_X7_takeTurn l X σ a r1 ha hr1) kv_X7_87 ha ⟨Nat.le_of_ble_eq_true rfl, Nat.le_of_ble_eq_true rfl⟩ (Nat.le_of_ble_eq_true rfl) dX7_behindStep_102) hI (Nat.le_of_ble_eq_true rfl) (fun σ_12 H locs hpσ_12 hkσ_12 hI => ?_)
    have ahpσ_12 := hpσ_12.1
    have bhpσ_12 := hpσ_12.2
    clear hpσ_12
    have fr_σ_12 := fr_σ.call bhpσ_12 rfl rfl
    replace hF := q_letX hF ahpσ_12
    refine lv_iload_n hx hb dX7_behindStep_105 rfl (lv_at hl 7 rfl) ?_
    refine lv_iconst (v := 1) hx hb dX7_behindStep_106 zki_1 ?_
    refine lv_iadd hx hb dX7_behindStep_107 ?_
    refine lv_topi (fun z_13 ez_13 => ?_)
    replace hF := q_letX hF ez_13
    exact q_reti E hr hlk hI ⟨(hF.trans hout), fr_σ_12⟩ dX7_behindStep_108
  replace hF := q_ifn hF c_10
  by_cases c_14 : r_8.toInt = 1
  · refine lv_tableIn (off := 58) (tgt := 109) hx hb dX7_behindStep_51 (by first | (clear ahpσ_2 bhpσ_2 ahpσ_4 bhpσ_4 ahpσ_6 bhpσ_6 ahpσ_9 bhpσ_9; omega) | omega) (by first | (clear ahpσ_2 bhpσ_2 ahpσ_4 bhpσ_4 ahpσ_6 bhpσ_6 ahpσ_9 bhpσ_9; omega) | omega) (by rw [c_14]; rfl) (by decide) ?_
    replace hF := q_ifp hF c_14
    refine lv_aload hx hb dX7_behindStep_109 (lv_at hl 3 rfl) ?_
    refine gs_X7_91_2 E hI (q_tk (k' := 2) hI hr1 rfl (Nat.succ_ne_zero _)) dX7_behindStep_111 ?_
    refine lv_iload hx hb dX7_behindStep_114 (lv_at hl 2 rfl) ?_
    refine lv_iload hx hb dX7_behindStep_116 (lv_at hl 1 rfl) ?_
    refine q_cv (q_rV4_2 (rest := []) E (hml.trans hl.1.symm) hI (c_X5_set l X σ (q_rf X (q_rf X r1 1) 3) r_1 r_3 (q_tk (k' := 5) hI (q_tk (k' := 2) hI hr1 rfl (Nat.succ_ne_zero _)) rfl (Nat.succ_ne_zero _))) kv_X7_96 (q_tk (k' := 5) hI (q_tk (k' := 2) hI hr1 rfl (Nat.succ_ne_zero _)) rfl (Nat.succ_ne_zero _)) ⟨Nat.le_of_ble_eq_true rfl, Nat.le_of_ble_eq_true rfl⟩ (Nat.le_of_ble_eq_true rfl) dX7_behindStep_118) hI (Nat.le_of_ble_eq_true rfl) (fun σ_16 H locs hpσ_16 hkσ_16 hI => ?_)
    have ahpσ_16 := hpσ_16.1
    have bhpσ_16 := hpσ_16.2
    clear hpσ_16
    have fr_σ_16 := fr_σ.call bhpσ_16 rfl rfl
    replace hF := q_letX hF ahpσ_16
    refine lv_iload_n hx hb dX7_behindStep_121 rfl (lv_at hl 7 rfl) ?_
    refine lv_iconst (v := 1) hx hb dX7_behindStep_122 zki_1 ?_
    refine lv_iadd hx hb dX7_behindStep_123 ?_
    refine lv_topi (fun z_17 ez_17 => ?_)
    replace hF := q_letX hF ez_17
    exact q_reti E hr hlk hI ⟨(hF.trans hout), fr_σ_16⟩ dX7_behindStep_124
  replace hF := q_ifn hF c_14
  by_cases c_18 : r_8.toInt = 2
  · refine lv_tableIn (off := 74) (tgt := 125) hx hb dX7_behindStep_51 (by first | (clear ahpσ_2 bhpσ_2 ahpσ_4 bhpσ_4 ahpσ_6 bhpσ_6 ahpσ_9 bhpσ_9; omega) | omega) (by first | (clear ahpσ_2 bhpσ_2 ahpσ_4 bhpσ_4 ahpσ_6 bhpσ_6 ahpσ_9 bhpσ_9; omega) | omega) (by rw [c_18]; rfl) (by decide) ?_
    replace hF := q_ifp hF c_18
    refine lv_aload hx hb dX7_behindStep_125 (lv_at hl 3 rfl) ?_
    refine gs_X7_99_2 E hI (q_tk (k' := 2) hI hr1 rfl (Nat.succ_ne_zero _)) dX7_behindStep_127 ?_
    refine lv_iload hx hb dX7_behindStep_130 (lv_at hl 2 rfl) ?_
    refine lv_iload hx hb dX7_behindStep_132 (lv_at hl 1 rfl) ?_
    refine q_cv (q_rV4_2 (rest := []) E (hml.trans hl.1.symm) hI (c_X5_set l X σ (q_rf X (q_rf X r1 1) 4) r_1 r_3 (q_tk (k' := 5) hI (q_tk (k' := 2) hI hr1 rfl (Nat.succ_ne_zero _)) rfl (Nat.succ_ne_zero _))) kv_X7_96 (q_tk (k' := 5) hI (q_tk (k' := 2) hI hr1 rfl (Nat.succ_ne_zero _)) rfl (Nat.succ_ne_zero _)) ⟨Nat.le_of_ble_eq_true rfl, Nat.le_of_ble_eq_true rfl⟩ (Nat.le_of_ble_eq_true rfl) dX7_behindStep_134) hI (Nat.le_of_ble_eq_true rfl) (fun σ_20 H locs hpσ_20 hkσ_20 hI => ?_)
    have ahpσ_20 := hpσ_20.1
    have bhpσ_20 := hpσ_20.2
    clear hpσ_20
    have fr_σ_20 := fr_σ.call bhpσ_20 rfl rfl
    replace hF := q_letX hF ahpσ_20
    refine lv_iload_n hx hb dX7_behindStep_137 rfl (lv_at hl 7 rfl) ?_
    refine lv_iconst (v := 1) hx hb dX7_behindStep_138 zki_1 ?_
    refine lv_iadd hx hb dX7_behindStep_139 ?_
    refine lv_topi (fun z_21 ez_21 => ?_)
    replace hF := q_letX hF ez_21
    exact q_reti E hr hlk hI ⟨(hF.trans hout), fr_σ_20⟩ dX7_behindStep_140
  replace hF := q_ifn hF c_18
  by_cases c_22 : r_8.toInt = 3
  · refine lv_tableIn (off := 199) (tgt := 250) hx hb dX7_behindStep_51 (by first | (clear ahpσ_2 bhpσ_2 ahpσ_4 bhpσ_4 ahpσ_6 bhpσ_6 ahpσ_9 bhpσ_9; omega) | omega) (by first | (clear ahpσ_2 bhpσ_2 ahpσ_4 bhpσ_4 ahpσ_6 bhpσ_6 ahpσ_9 bhpσ_9; omega) | omega) (by rw [c_22]; rfl) (by decide) ?_
    replace hF := q_ifp hF c_22
    refine lv_aload_n hx hb dX7_behindStep_250 rfl (lv_at hl 4 rfl) ?_
    refine gs_X7_52_8 E hI (q_tk (k' := 8) hI hr1 rfl (Nat.succ_ne_zero _)) dX7_behindStep_251 ?_
    refine lv_topi (fun f_23 ef_23 => ?_)
    replace hF := q_letX hF ef_23
    exact q_reti E hr hlk hI ⟨(hF.trans hout), fr_σ⟩ dX7_behindStep_254
  replace hF := q_ifn hF c_22
  by_cases c_24 : r_8.toInt = 4
  · refine lv_tableIn (off := 90) (tgt := 141) hx hb dX7_behindStep_51 (by first | (clear ahpσ_2 bhpσ_2 ahpσ_4 bhpσ_4 ahpσ_6 bhpσ_6 ahpσ_9 bhpσ_9; omega) | omega) (by first | (clear ahpσ_2 bhpσ_2 ahpσ_4 bhpσ_4 ahpσ_6 bhpσ_6 ahpσ_9 bhpσ_9; omega) | omega) (by rw [c_24]; rfl) (by decide) ?_
    replace hF := q_ifp hF c_24
    refine lv_aload_n hx hb dX7_behindStep_141 rfl (lv_at hl 5 rfl) ?_
    refine gs_X7_41_7 E hI ha dX7_behindStep_142 ?_
    refine lv_iload_n hx hb dX7_behindStep_145 rfl (lv_at hl 7 rfl) ?_
    refine lv_iload hx hb dX7_behindStep_146 (lv_at hl 1 rfl) ?_
    refine q_cv (q_rV4_2 (rest := []) E (hml.trans hl.1.symm) hI (c_X5_set l X σ (q_rf X a 7) v2 r_3 (q_tk (k' := 5) hI ha rfl (Nat.succ_ne_zero _))) kv_X7_96 (q_tk (k' := 5) hI ha rfl (Nat.succ_ne_zero _)) ⟨Nat.le_of_ble_eq_true rfl, Nat.le_of_ble_eq_true rfl⟩ (Nat.le_of_ble_eq_true rfl) dX7_behindStep_148) hI (Nat.le_of_ble_eq_true rfl) (fun σ_26 H locs hpσ_26 hkσ_26 hI => ?_)
    have ahpσ_26 := hpσ_26.1
    have bhpσ_26 := hpσ_26.2
    clear hpσ_26
    have fr_σ_26 := fr_σ.call bhpσ_26 rfl rfl
    replace hF := q_letX hF ahpσ_26
    refine lv_iload_n hx hb dX7_behindStep_151 rfl (lv_at hl 7 rfl) ?_
    refine lv_iconst (v := 1) hx hb dX7_behindStep_152 zki_1 ?_
    refine lv_iadd hx hb dX7_behindStep_153 ?_
    refine lv_topi (fun z_27 ez_27 => ?_)
    replace hF := q_letX hF ez_27
    exact q_reti E hr hlk hI ⟨(hF.trans hout), fr_σ_26⟩ dX7_behindStep_154
  replace hF := q_ifn hF c_24
  by_cases c_28 : r_8.toInt = 5
  · refine lv_tableIn (off := 104) (tgt := 155) hx hb dX7_behindStep_51 (by first | (clear ahpσ_2 bhpσ_2 ahpσ_4 bhpσ_4 ahpσ_6 bhpσ_6 ahpσ_9 bhpσ_9; omega) | omega) (by first | (clear ahpσ_2 bhpσ_2 ahpσ_4 bhpσ_4 ahpσ_6 bhpσ_6 ahpσ_9 bhpσ_9; omega) | omega) (by rw [c_28]; rfl) (by decide) ?_
    replace hF := q_ifp hF c_28
    refine lv_aload_n hx hb dX7_behindStep_155 rfl (lv_at hl 4 rfl) ?_
    refine lv_iload_n hx hb dX7_behindStep_156 rfl (lv_at hl 7 rfl) ?_
    refine lv_aload hx hb dX7_behindStep_157 (lv_at hl 3 rfl) ?_
    refine gs_X7_102_2 E hI (q_tk (k' := 2) hI hr1 rfl (Nat.succ_ne_zero _)) dX7_behindStep_159 ?_
    refine lv_iload hx hb dX7_behindStep_162 (lv_at hl 2 rfl) ?_
    refine q_ci (q_rV4_1 (rest := [.int v2, .ref (q_rf X r1 3)]) E (hml.trans hl.1.symm) hI (c_X5_get l X σ (q_rf X (q_rf X r1 1) 2) r_1 (q_tk (k' := 5) hI (q_tk (k' := 2) hI hr1 rfl (Nat.succ_ne_zero _)) rfl (Nat.succ_ne_zero _))) kv_X7_58 (q_tk (k' := 5) hI (q_tk (k' := 2) hI hr1 rfl (Nat.succ_ne_zero _)) rfl (Nat.succ_ne_zero _)) ⟨Nat.le_of_ble_eq_true rfl, Nat.le_of_ble_eq_true rfl⟩ (Nat.le_of_ble_eq_true rfl) dX7_behindStep_164) hI (Nat.le_of_ble_eq_true rfl) (fun r_29 σ_30 H locs hpσ_30 hkσ_30 hI => ?_)
    have ahpσ_30 := hpσ_30.1
    have bhpσ_30 := hpσ_30.2
    clear hpσ_30
    replace hI := q_Irw ahpσ_30 hI
    replace hF := q_letX hF bhpσ_30
    refine q_ci (q_rV7_2 (rest := []) E (hml.trans hl.1.symm) hI (c_X8_meets l X σ (q_rf X r1 3) v2 r_29 (q_tk (k' := 8) hI hr1 rfl (Nat.succ_ne_zero _))) kv_X7_105 (q_tk (k' := 8) hI hr1 rfl (Nat.succ_ne_zero _)) ⟨Nat.le_of_ble_eq_true rfl, Nat.le_of_ble_eq_true rfl⟩ (Nat.le_of_ble_eq_true rfl) dX7_behindStep_167) hI (Nat.le_of_ble_eq_true rfl) (fun r_31 σ_32 H locs hpσ_32 hkσ_32 hI => ?_)
    have ahpσ_32 := hpσ_32.1
    have bhpσ_32 := hpσ_32.2.1
    have chpσ_32 := hpσ_32.2.2
    clear hpσ_32
    replace hI := q_Irw ahpσ_32 hI
    replace hF := q_letX hF chpσ_32
    refine q_if_eq (A := r_31.toInt) E rfl (tgt := 179) dX7_behindStep_170 (by decide) (fun c_33 => ?_) (fun c_33 => ?_)
    · skip
      replace hF := q_ifp hF c_33
      refine lv_iload hx hb dX7_behindStep_179 (lv_at hl 0 rfl) ?_
      exact q_reti E hr hlk hI ⟨(hF.trans hout), fr_σ⟩ dX7_behindStep_181
    · skip
      replace hF := q_ifn hF c_33
      replace c_33 := q_ifOne bhpσ_32 c_33
      refine lv_iload_n hx hb dX7_behindStep_173 rfl (lv_at hl 7 rfl) ?_
      refine lv_iconst (v := 1) hx hb dX7_behindStep_174 zki_1 ?_
      refine lv_iadd hx hb dX7_behindStep_175 ?_
      refine lv_topi (fun z_34 ez_34 => ?_)
      replace hF := q_letX hF ez_34
      refine lv_goto (tgt := 181) hx hb dX7_behindStep_176 (by decide) ?_
      exact q_reti E hr hlk hI ⟨(hF.trans hout), fr_σ⟩ dX7_behindStep_181
  replace hF := q_ifn hF c_28
  by_cases c_35 : r_8.toInt = 6
  · refine lv_tableIn (off := 131) (tgt := 182) hx hb dX7_behindStep_51 (by first | (clear ahpσ_2 bhpσ_2 ahpσ_4 bhpσ_4 ahpσ_6 bhpσ_6 ahpσ_9 bhpσ_9; omega) | omega) (by first | (clear ahpσ_2 bhpσ_2 ahpσ_4 bhpσ_4 ahpσ_6 bhpσ_6 ahpσ_9 bhpσ_9; omega) | omega) (by rw [c_35]; rfl) (by decide) ?_
    replace hF := q_ifp hF c_35
    refine lv_aload_n hx hb dX7_behindStep_182 rfl (lv_at hl 4 rfl) ?_
    refine lv_iload_n hx hb dX7_behindStep_183 rfl (lv_at hl 7 rfl) ?_
    refine lv_aload_n hx hb dX7_behindStep_184 rfl (lv_at hl 6 rfl) ?_
    refine gs_X7_109_1 E hI hr1 dX7_behindStep_185 ?_
    refine gs_X7_113_3 E hI (q_tk (k' := 3) hI hr1 rfl (Nat.succ_ne_zero _)) dX7_behindStep_188 ?_
    refine lv_topi (fun f_36 ef_36 => ?_)
    replace hF := q_letX hF ef_36
    refine q_ci (q_rV7_2 (rest := []) E (hml.trans hl.1.symm) hI (c_X8_meets l X σ (q_rf X r1 3) v2 f_36 (q_tk (k' := 8) hI hr1 rfl (Nat.succ_ne_zero _))) kv_X7_105 (q_tk (k' := 8) hI hr1 rfl (Nat.succ_ne_zero _)) ⟨Nat.le_of_ble_eq_true rfl, Nat.le_of_ble_eq_true rfl⟩ (Nat.le_of_ble_eq_true rfl) dX7_behindStep_191) hI (Nat.le_of_ble_eq_true rfl) (fun r_37 σ_38 H locs hpσ_38 hkσ_38 hI => ?_)
    have ahpσ_38 := hpσ_38.1
    have bhpσ_38 := hpσ_38.2.1
    have chpσ_38 := hpσ_38.2.2
    clear hpσ_38
    replace hI := q_Irw ahpσ_38 hI
    replace hF := q_letX hF chpσ_38
    refine q_if_eq (A := r_37.toInt) E rfl (tgt := 203) dX7_behindStep_194 (by decide) (fun c_39 => ?_) (fun c_39 => ?_)
    · skip
      replace hF := q_ifp hF c_39
      refine lv_iload hx hb dX7_behindStep_203 (lv_at hl 0 rfl) ?_
      exact q_reti E hr hlk hI ⟨(hF.trans hout), fr_σ⟩ dX7_behindStep_205
    · skip
      replace hF := q_ifn hF c_39
      replace c_39 := q_ifOne bhpσ_38 c_39
      refine lv_iload_n hx hb dX7_behindStep_197 rfl (lv_at hl 7 rfl) ?_
      refine lv_iconst (v := 1) hx hb dX7_behindStep_198 zki_1 ?_
      refine lv_iadd hx hb dX7_behindStep_199 ?_
      refine lv_topi (fun z_40 ez_40 => ?_)
      replace hF := q_letX hF ez_40
      refine lv_goto (tgt := 205) hx hb dX7_behindStep_200 (by decide) ?_
      exact q_reti E hr hlk hI ⟨(hF.trans hout), fr_σ⟩ dX7_behindStep_205
  replace hF := q_ifn hF c_35
  by_cases c_41 : r_8.toInt = 7
  · refine lv_tableIn (off := 155) (tgt := 206) hx hb dX7_behindStep_51 (by first | (clear ahpσ_2 bhpσ_2 ahpσ_4 bhpσ_4 ahpσ_6 bhpσ_6 ahpσ_9 bhpσ_9; omega) | omega) (by first | (clear ahpσ_2 bhpσ_2 ahpσ_4 bhpσ_4 ahpσ_6 bhpσ_6 ahpσ_9 bhpσ_9; omega) | omega) (by rw [c_41]; rfl) (by decide) ?_
    replace hF := q_ifp hF c_41
    refine lv_aload_n hx hb dX7_behindStep_206 rfl (lv_at hl 4 rfl) ?_
    refine lv_iload_n hx hb dX7_behindStep_207 rfl (lv_at hl 7 rfl) ?_
    refine lv_aload hx hb dX7_behindStep_208 (lv_at hl 3 rfl) ?_
    refine gs_X7_117_2 E hI (q_tk (k' := 2) hI hr1 rfl (Nat.succ_ne_zero _)) dX7_behindStep_210 ?_
    refine lv_iload hx hb dX7_behindStep_213 (lv_at hl 2 rfl) ?_
    refine q_ci (q_rV4_1 (rest := [.int v2, .ref (q_rf X r1 3)]) E (hml.trans hl.1.symm) hI (c_X5_get l X σ (q_rf X (q_rf X r1 1) 5) r_1 (q_tk (k' := 5) hI (q_tk (k' := 2) hI hr1 rfl (Nat.succ_ne_zero _)) rfl (Nat.succ_ne_zero _))) kv_X7_58 (q_tk (k' := 5) hI (q_tk (k' := 2) hI hr1 rfl (Nat.succ_ne_zero _)) rfl (Nat.succ_ne_zero _)) ⟨Nat.le_of_ble_eq_true rfl, Nat.le_of_ble_eq_true rfl⟩ (Nat.le_of_ble_eq_true rfl) dX7_behindStep_215) hI (Nat.le_of_ble_eq_true rfl) (fun r_42 σ_43 H locs hpσ_43 hkσ_43 hI => ?_)
    have ahpσ_43 := hpσ_43.1
    have bhpσ_43 := hpσ_43.2
    clear hpσ_43
    replace hI := q_Irw ahpσ_43 hI
    replace hF := q_letX hF bhpσ_43
    refine q_ci (q_rV7_2 (rest := []) E (hml.trans hl.1.symm) hI (c_X8_meets l X σ (q_rf X r1 3) v2 r_42 (q_tk (k' := 8) hI hr1 rfl (Nat.succ_ne_zero _))) kv_X7_105 (q_tk (k' := 8) hI hr1 rfl (Nat.succ_ne_zero _)) ⟨Nat.le_of_ble_eq_true rfl, Nat.le_of_ble_eq_true rfl⟩ (Nat.le_of_ble_eq_true rfl) dX7_behindStep_218) hI (Nat.le_of_ble_eq_true rfl) (fun r_44 σ_45 H locs hpσ_45 hkσ_45 hI => ?_)
    have ahpσ_45 := hpσ_45.1
    have bhpσ_45 := hpσ_45.2.1
    have chpσ_45 := hpσ_45.2.2
    clear hpσ_45
    replace hI := q_Irw ahpσ_45 hI
    replace hF := q_letX hF chpσ_45
    refine q_if_eq (A := r_44.toInt) E rfl (tgt := 230) dX7_behindStep_221 (by decide) (fun c_46 => ?_) (fun c_46 => ?_)
    · skip
      replace hF := q_ifp hF c_46
      refine lv_iload hx hb dX7_behindStep_230 (lv_at hl 0 rfl) ?_
      exact q_reti E hr hlk hI ⟨(hF.trans hout), fr_σ⟩ dX7_behindStep_232
    · skip
      replace hF := q_ifn hF c_46
      replace c_46 := q_ifOne bhpσ_45 c_46
      refine lv_iload_n hx hb dX7_behindStep_224 rfl (lv_at hl 7 rfl) ?_
      refine lv_iconst (v := 1) hx hb dX7_behindStep_225 zki_1 ?_
      refine lv_iadd hx hb dX7_behindStep_226 ?_
      refine lv_topi (fun z_47 ez_47 => ?_)
      replace hF := q_letX hF ez_47
      refine lv_goto (tgt := 232) hx hb dX7_behindStep_227 (by decide) ?_
      exact q_reti E hr hlk hI ⟨(hF.trans hout), fr_σ⟩ dX7_behindStep_232
  replace hF := q_ifn hF c_41
  by_cases c_48 : r_8.toInt = 8
  · refine lv_tableIn (off := 182) (tgt := 233) hx hb dX7_behindStep_51 (by first | (clear ahpσ_2 bhpσ_2 ahpσ_4 bhpσ_4 ahpσ_6 bhpσ_6 ahpσ_9 bhpσ_9; omega) | omega) (by first | (clear ahpσ_2 bhpσ_2 ahpσ_4 bhpσ_4 ahpσ_6 bhpσ_6 ahpσ_9 bhpσ_9; omega) | omega) (by rw [c_48]; rfl) (by decide) ?_
    replace hF := q_ifp hF c_48
    refine lv_aload_n hx hb dX7_behindStep_233 rfl (lv_at hl 6 rfl) ?_
    refine gs_X7_120_1 E hI hr1 dX7_behindStep_234 ?_
    refine lv_topi (fun f_49 ef_49 => ?_)
    replace hF := q_letX hF ef_49
    refine lv_iconst (v := (-1)) hx hb dX7_behindStep_237 zki_m1 ?_
    refine q_icmp_eq (A := f_49.toInt) (B := (-1)) E rfl (by decide) (tgt := 247) dX7_behindStep_238 (by decide) (fun c_50 => ?_) (fun c_50 => ?_)
    · skip
      replace hF := q_ifp hF c_50
      refine lv_iload hx hb dX7_behindStep_247 (lv_at hl 0 rfl) ?_
      exact q_reti E hr hlk hI ⟨(hF.trans hout), fr_σ⟩ dX7_behindStep_249
    · skip
      replace hF := q_ifn hF c_50
      refine lv_iload_n hx hb dX7_behindStep_241 rfl (lv_at hl 7 rfl) ?_
      refine lv_iconst (v := 1) hx hb dX7_behindStep_242 zki_1 ?_
      refine lv_iadd hx hb dX7_behindStep_243 ?_
      refine lv_topi (fun z_51 ez_51 => ?_)
      replace hF := q_letX hF ez_51
      refine lv_goto (tgt := 249) hx hb dX7_behindStep_244 (by decide) ?_
      exact q_reti E hr hlk hI ⟨(hF.trans hout), fr_σ⟩ dX7_behindStep_249
  replace hF := q_ifn hF c_48
  refine lv_tableOut (tgt := 250) hx hb dX7_behindStep_51 (by first | (clear ahpσ_2 bhpσ_2 ahpσ_4 bhpσ_4 ahpσ_6 bhpσ_6 ahpσ_9 bhpσ_9; omega) | omega) (by decide) ?_
  refine lv_aload_n hx hb dX7_behindStep_250 rfl (lv_at hl 4 rfl) ?_
  refine gs_X7_52_8 E hI (q_tk (k' := 8) hI hr1 rfl (Nat.succ_ne_zero _)) dX7_behindStep_251 ?_
  refine lv_topi (fun f_52 ef_52 => ?_)
  replace hF := q_letX hF ef_52
  exact q_reti E hr hlk hI ⟨(hF.trans hout), fr_σ⟩ dX7_behindStep_254

set_option maxRecDepth 100000 in
set_option maxHeartbeats 4000000 in
theorem c_X7_go (l : Launch) (X : XW) (σ : ST) (a : Nat) (r1 : Nat) (v2 : Int32) (ha : q_kd X a = 7) (hr1 : q_kd X r1 = 1) : Met l yX7_go (q_ws yX7_go cX7_go 6 none) (q_rm 6 141) (q_P X σ [.ref a, .ref r1, .int v2]) (q_Qv X 8 σ (fun (σ' : ST) => σ' = F_X7_go X σ a r1 v2 ∧ q_ow [(1, 4), (1, 5), (1, 6), (1, 7), (1, 9), (3, 0), (3, 1), (7, 0), (7, 1), (7, 2), (7, 3), (7, 4), (7, 5), (7, 6), (20, 99)] [] X σ σ')) 0 0 (q_reg X) := by
  refine q_met 8 (by first | exact rfl | decide +kernel) rfl (Nat.le_of_ble_eq_true rfl) (fun p e s m below meth c E hml hr hlk hI ls hl => ?_)
  have hx := E.1
  have hb := E.2.1
  have hl : lv_has ls 6 [(0, .ref a), (1, .ref r1), (2, .int v2)] := hl
  have fr_σ : q_ow [(1, 4), (1, 5), (1, 6), (1, 7), (1, 9), (3, 0), (3, 1), (7, 0), (7, 1), (7, 2), (7, 3), (7, 4), (7, 5), (7, 6), (20, 99)] [] X σ σ := q_ow.rf
  obtain ⟨out, hout⟩ : ∃ o, o = F_X7_go X σ a r1 v2 := ⟨_, rfl⟩
  have hF := hout.symm
  unfold F_X7_go at hF
  refine lv_aload_n hx hb dX7_go_0 rfl (lv_at hl 0 rfl) ?_
  refine lv_iconst (v := 0) hx hb dX7_go_1 zki_0 ?_
  refine ps_X7_9_7 E hI ha (by decide) dX7_go_2 (fun H locs σ_1 hσ_1 hI => ?_)
  replace hF := q_letX hF hσ_1
  have fr_σ_1 := fr_σ.si hσ_1 ha rfl
  refine lv_aload_n hx hb dX7_go_5 rfl (lv_at hl 0 rfl) ?_
  refine lv_iconst (v := 0) hx hb dX7_go_6 zki_0 ?_
  refine ps_X7_15_7 E hI ha (by decide) dX7_go_7 (fun H locs σ_2 hσ_2 hI => ?_)
  replace hF := q_letX hF hσ_2
  have fr_σ_2 := fr_σ_1.si hσ_2 ha rfl
  refine lv_aload_n hx hb dX7_go_10 rfl (lv_at hl 0 rfl) ?_
  refine lv_iconst (v := 0) hx hb dX7_go_11 zki_0 ?_
  refine ps_X7_18_7 E hI ha (by decide) dX7_go_12 (fun H locs σ_3 hσ_3 hI => ?_)
  replace hF := q_letX hF hσ_3
  have fr_σ_3 := fr_σ_2.si hσ_3 ha rfl
  refine lv_aload_n hx hb dX7_go_15 rfl (lv_at hl 0 rfl) ?_
  refine lv_iconst (v := 0) hx hb dX7_go_16 zki_0 ?_
  refine ps_X7_21_7 E hI ha (by decide) dX7_go_17 (fun H locs σ_4 hσ_4 hI => ?_)
  replace hF := q_letX hF hσ_4
  have fr_σ_4 := fr_σ_3.si hσ_4 ha rfl
  refine lv_aload_n hx hb dX7_go_20 rfl (lv_at hl 0 rfl) ?_
  refine lv_iconst (v := 0) hx hb dX7_go_21 zki_0 ?_
  refine ps_X7_24_7 E hI ha (by decide) dX7_go_22 (fun H locs σ_5 hσ_5 hI => ?_)
  replace hF := q_letX hF hσ_5
  have fr_σ_5 := fr_σ_4.si hσ_5 ha rfl
  refine lv_aload_n hx hb dX7_go_25 rfl (lv_at hl 0 rfl) ?_
  refine lv_iconst (v := 0) hx hb dX7_go_26 zki_0 ?_
  refine ps_X7_27_7 E hI ha (by decide) (by decide) (by decide) dX7_go_27 (fun H locs σ_6 hσ_6 hI => ?_)
  replace hF := q_letX hF hσ_6
  have fr_σ_6 := fr_σ_5.si hσ_6 ha rfl
  refine lv_aload_n hx hb dX7_go_30 rfl (lv_at hl 0 rfl) ?_
  refine lv_iload_n hx hb dX7_go_31 rfl (lv_at hl 2 rfl) ?_
  refine ps_X7_31_7 E hI ha (by decide) dX7_go_32 (fun H locs σ_7 hσ_7 hI => ?_)
  replace hF := q_letX hF hσ_7
  have fr_σ_7 := fr_σ_6.si hσ_7 ha rfl
  refine lv_aload_n hx hb dX7_go_35 rfl (lv_at hl 1 rfl) ?_
  refine gs_X7_45_1 E hI hr1 dX7_go_36 ?_
  refine lv_astore_n (lv' := [(3, .ref (q_rf X r1 3)), (0, .ref a), (1, .ref r1), (2, .int v2)]) hx hb dX7_go_39 rfl hl (by decide) rfl (fun ls hl => ?_)
  refine lv_iconst (v := 0) hx hb dX7_go_40 zki_0 ?_
  refine lv_istore (lv' := [(4, .int 0), (3, .ref (q_rf X r1 3)), (0, .ref a), (1, .ref r1), (2, .int v2)]) hx hb dX7_go_41 hl (by decide) rfl (fun ls hl => ?_)
  refine lv_iconst (v := 0) hx hb dX7_go_43 zki_0 ?_
  refine lv_istore (lv' := [(5, .int 0), (4, .int 0), (3, .ref (q_rf X r1 3)), (0, .ref a), (1, .ref r1), (2, .int v2)]) hx hb dX7_go_44 hl (by decide) rfl (fun ls hl => ?_)
  have L_46_11 : ∀ (k_11 : Nat) (x_8 : Int32) (x_9 : Int32) (σ_10 : ST) (H : Heap) (locs : List Loc) (ls : Array Slot), (2147483647 - x_9.toInt).toNat < k_11 → (0 ≤ x_9.toInt) → (q_ow [(1, 4), (1, 5), (1, 6), (1, 7), (1, 9), (3, 0), (3, 1), (7, 0), (7, 1), (7, 2), (7, 3), (7, 4), (7, 5), (7, 6), (20, 99)] [] X σ σ_10) → (F_X7_go_L46_1 X r1 a k_11 x_8 x_9 σ_10 = out) → q_I X 8 σ s.heap locs σ_10 H → lv_has ls 6 [(0, .ref a), (1, .ref r1), (2, .int v2), (3, .ref (q_rf X r1 3)), (4, .int x_8), (5, .int x_9)] → W p l e (q_rm 6 141) s m ([.ref a, .ref r1, .int v2] : List Value).toArray below meth c H locs 0 0 (MQ below (q_Qv X 8 σ (fun (σ' : ST) => σ' = F_X7_go X σ a r1 v2 ∧ q_ow [(1, 4), (1, 5), (1, 6), (1, 7), (1, 9), (3, 0), (3, 1), (7, 0), (7, 1), (7, 2), (7, 3), (7, 4), (7, 5), (7, 6), (20, 99)] [] X σ σ')) ([.ref a, .ref r1, .int v2] : List Value).toArray s 0 0 (q_reg X)) (F0 m 46 ls []) := by
    clear hF
    intro k_11
    induction k_11 with
    | zero =>
      intro x_8 x_9 σ_10 H locs ls hms
      exact absurd hms (Nat.not_lt_zero _)
    | succ k_11 ih46 =>
      intro x_8 x_9 σ_10 H locs ls hm46 hge46 fr_σ_10 hF hI hl
      replace hF := (F_X7_go_L46_1_s).symm.trans hF
      unfold F_X7_go_B46_1 at hF
      refine lv_iload hx hb dX7_go_46 (lv_at hl 5 rfl) ?_
      refine lv_ldc (v := 1000000) hx hb E.2.2.1 (E.2.2.2.1 _ (q_in_t6 (i := 144) (by first | rfl | decide +kernel) rfl)) dX7_go_48 ?_
      have gc_12_x_9 := q_rng x_9
      refine q_icmp_ge (A := x_9.toInt) (B := 1000000) E rfl (by decide) (tgt := 138) dX7_go_50 (by decide) (fun c_12 => ?_) (fun c_12 => ?_)
      · skip
        replace hF := q_ifn hF (Int.not_lt.mpr c_12)
        skip
        exact q_retv E hr hlk hI ⟨(hF.trans hout), fr_σ_10⟩ dX7_go_138
      · skip
        replace hF := q_ifp hF c_12
        refine lv_iload hx hb dX7_go_53 (lv_at hl 4 rfl) ?_
        refine lv_aload_n hx hb dX7_go_55 rfl (lv_at hl 3 rfl) ?_
        refine gs_X7_52_8 E hI (q_tk (k' := 8) hI hr1 rfl (Nat.succ_ne_zero _)) dX7_go_56 ?_
        refine lv_topi (fun f_13 ef_13 => ?_)
        replace hF := q_letX hF ef_13
        have gc_14_x_8 := q_rng x_8
        have gc_14_f_13 := q_rng f_13
        refine q_icmp_ge (A := x_8.toInt) (B := f_13.toInt) E rfl rfl (tgt := 138) dX7_go_59 (by decide) (fun c_14 => ?_) (fun c_14 => ?_)
        · skip
          replace hF := q_ifn hF (Int.not_lt.mpr c_14)
          skip
          exact q_retv E hr hlk hI ⟨(hF.trans hout), fr_σ_10⟩ dX7_go_138
        · skip
          replace hF := q_ifp hF c_14
          refine lv_aload_n hx hb dX7_go_62 rfl (lv_at hl 0 rfl) ?_
          refine gs_X7_27_7 E hI ha dX7_go_63 ?_
          refine lv_topi (fun f_15 ef_15 => ?_)
          replace hF := q_letX hF ef_15
          have bf_15 : 0 ≤ f_15.toInt ∧ f_15.toInt ≤ 1 := by rw [ef_15]; exact q_bd hI ha rfl
          refine q_if_ne (A := f_15.toInt) E rfl (tgt := 138) dX7_go_66 (by decide) (fun c_16 => ?_) (fun c_16 => ?_)
          · skip
            replace hF := q_ifn hF c_16
            skip
            exact q_retv E hr hlk hI ⟨(hF.trans hout), fr_σ_10⟩ dX7_go_138
          · skip
            replace hF := q_ifp hF c_16
            refine lv_aload_n hx hb dX7_go_69 rfl (lv_at hl 3 rfl) ?_
            refine gs_X7_55_8 E hI (q_tk (k' := 8) hI hr1 rfl (Nat.succ_ne_zero _)) dX7_go_70 ?_
            refine lv_iload hx hb dX7_go_73 (lv_at hl 4 rfl) ?_
            refine q_ci (q_rV4_1 (rest := []) E (hml.trans hl.1.symm) hI (c_X5_get l X σ_10 (q_rf X (q_rf X r1 3) 3) x_8 (q_tk (k' := 5) hI (q_tk (k' := 8) hI hr1 rfl (Nat.succ_ne_zero _)) rfl (Nat.succ_ne_zero _))) kv_X7_58 (q_tk (k' := 5) hI (q_tk (k' := 8) hI hr1 rfl (Nat.succ_ne_zero _)) rfl (Nat.succ_ne_zero _)) ⟨Nat.le_of_ble_eq_true rfl, Nat.le_of_ble_eq_true rfl⟩ (Nat.le_of_ble_eq_true rfl) dX7_go_75) hI (Nat.le_of_ble_eq_true rfl) (fun r_17 σ_18 H locs hpσ_18 hkσ_18 hI => ?_)
            have ahpσ_18 := hpσ_18.1
            have bhpσ_18 := hpσ_18.2
            clear hpσ_18
            replace hI := q_Irw ahpσ_18 hI
            replace hF := q_letX hF bhpσ_18
            refine lv_bipush (v := 9) hx hb dX7_go_78 zkb_9 ?_
            have gc_19_r_17 := q_rng r_17
            refine q_icmp_ne (A := r_17.toInt) (B := 9) E rfl (by decide) (tgt := 95) dX7_go_80 (by decide) (fun c_19 => ?_) (fun c_19 => ?_)
            · skip
              replace hF := q_ifn hF c_19
              refine lv_aload_n hx hb dX7_go_95 rfl (lv_at hl 0 rfl) ?_
              refine gs_X7_9_7 E hI ha dX7_go_96 ?_
              refine lv_topi (fun f_20 ef_20 => ?_)
              replace hF := q_letX hF ef_20
              refine lv_sipush (v := 300) hx hb dX7_go_99 zks_300 ?_
              have gc_21_f_20 := q_rng f_20
              refine q_icmp_ne (A := f_20.toInt) (B := 300) E rfl (by decide) (tgt := 113) dX7_go_102 (by decide) (fun c_21 => ?_) (fun c_21 => ?_)
              · skip
                replace hF := q_ifn hF c_21
                refine lv_aload_n hx hb dX7_go_113 rfl (lv_at hl 0 rfl) ?_
                refine lv_dup hx hb dX7_go_114 rfl ?_
                refine gs_X7_9_7 E hI ha dX7_go_115 ?_
                refine lv_topi (fun f_22 ef_22 => ?_)
                replace hF := q_letX hF ef_22
                refine lv_iconst (v := 1) hx hb dX7_go_118 zki_1 ?_
                refine lv_iadd hx hb dX7_go_119 ?_
                refine lv_topi (fun z_23 ez_23 => ?_)
                replace hF := q_letX hF ez_23
                refine ps_X7_9_7 E hI ha (by decide) dX7_go_120 (fun H locs σ_24 hσ_24 hI => ?_)
                replace hF := q_letX hF hσ_24
                have fr_σ_24 := fr_σ_10.si hσ_24 ha rfl
                refine lv_aload_n hx hb dX7_go_123 rfl (lv_at hl 0 rfl) ?_
                refine lv_aload_n hx hb dX7_go_124 rfl (lv_at hl 1 rfl) ?_
                refine lv_iload hx hb dX7_go_125 (lv_at hl 4 rfl) ?_
                refine q_ci (q_rV6_2 (rest := []) E (hml.trans hl.1.symm) hI (c_X7_behindStep l X σ_24 a r1 x_8 ha hr1) kv_X7_66 ha ⟨Nat.le_of_ble_eq_true rfl, Nat.le_of_ble_eq_true rfl⟩ (Nat.le_of_ble_eq_true rfl) dX7_go_127) hI (Nat.le_of_ble_eq_true rfl) (fun r_25 σ_26 H locs hpσ_26 hkσ_26 hI => ?_)
                have ahpσ_26 := hpσ_26.1
                have bhpσ_26 := hpσ_26.2
                clear hpσ_26
                have fr_σ_26 := fr_σ_24.call bhpσ_26 rfl rfl
                replace hF := q_biX hF ahpσ_26
                refine lv_istore (lv' := [(4, .int r_25), (0, .ref a), (1, .ref r1), (2, .int v2), (3, .ref (q_rf X r1 3)), (5, .int x_9)]) hx hb dX7_go_130 hl (by decide) rfl (fun ls hl => ?_)
                obtain ⟨z_27, ez_27⟩ : ∃ y : Int32, y = x_9 + 1 := ⟨_, rfl⟩
                replace hF := q_letX hF ez_27
                refine lv_iinc (v := z_27) (lv' := [(5, .int z_27), (4, .int r_25), (0, .ref a), (1, .ref r1), (2, .int v2), (3, .ref (q_rf X r1 3))]) hx hb dX7_go_132 hl (k := 5) rfl (by rw [ez_27]; rfl) (by decide) rfl (fun ls hl => ?_)
                have iz_27 : z_27.toInt = x_9.toInt + 1 := q_inc ez_27 (by first | (clear hm46 gc_14_x_8 gc_14_f_13 c_14 bf_15 c_16 ahpσ_18 bhpσ_18 gc_19_r_17 c_19 gc_21_f_20 c_21 ahpσ_26 bhpσ_26; omega) | omega)
                refine lv_goto (tgt := 46) hx hb dX7_go_135 (by decide) ?_
                exact ih46 r_25 z_27 σ_26 _ _ ls (by first | (clear gc_14_x_8 gc_14_f_13 c_14 bf_15 c_16 ahpσ_18 bhpσ_18 gc_19_r_17 gc_21_f_20 ahpσ_26 bhpσ_26; omega) | omega) (by first | (clear hm46 gc_14_x_8 gc_14_f_13 c_14 bf_15 c_16 ahpσ_18 bhpσ_18 gc_19_r_17 c_19 gc_21_f_20 c_21 ahpσ_26 bhpσ_26; omega) | omega) fr_σ_26 hF hI (lv_sub hl [2, 3, 4, 5, 1, 0] rfl)
              · skip
                replace hF := q_ifp hF c_21
                refine lv_aload_n hx hb dX7_go_105 rfl (lv_at hl 0 rfl) ?_
                refine lv_iconst (v := 1) hx hb dX7_go_106 zki_1 ?_
                refine ps_X7_27_7 E hI ha (by decide) (by decide) (by decide) dX7_go_107 (fun H locs σ_28 hσ_28 hI => ?_)
                replace hF := q_letX hF hσ_28
                have fr_σ_28 := fr_σ_10.si hσ_28 ha rfl
                refine lv_goto (tgt := 132) hx hb dX7_go_110 (by decide) ?_
                obtain ⟨z_29, ez_29⟩ : ∃ y : Int32, y = x_9 + 1 := ⟨_, rfl⟩
                replace hF := q_letX hF ez_29
                refine lv_iinc (v := z_29) (lv' := [(5, .int z_29), (0, .ref a), (1, .ref r1), (2, .int v2), (3, .ref (q_rf X r1 3)), (4, .int x_8)]) hx hb dX7_go_132 hl (k := 5) rfl (by rw [ez_29]; rfl) (by decide) rfl (fun ls hl => ?_)
                have iz_29 : z_29.toInt = x_9.toInt + 1 := q_inc ez_29 (by first | (clear hm46 gc_14_x_8 gc_14_f_13 c_14 bf_15 c_16 ahpσ_18 bhpσ_18 gc_19_r_17 c_19 gc_21_f_20 c_21; omega) | omega)
                refine lv_goto (tgt := 46) hx hb dX7_go_135 (by decide) ?_
                exact ih46 x_8 z_29 σ_28 _ _ ls (by first | (clear gc_14_x_8 gc_14_f_13 c_14 bf_15 c_16 ahpσ_18 bhpσ_18 gc_19_r_17 gc_21_f_20 c_21; omega) | omega) (by first | (clear hm46 gc_14_x_8 gc_14_f_13 c_14 bf_15 c_16 ahpσ_18 bhpσ_18 gc_19_r_17 c_19 gc_21_f_20 c_21; omega) | omega) fr_σ_28 hF hI (lv_sub hl [1, 2, 3, 4, 5, 0] rfl)
            · skip
              replace hF := q_ifp hF c_19
              refine lv_aload_n hx hb dX7_go_83 rfl (lv_at hl 0 rfl) ?_
              refine lv_aload_n hx hb dX7_go_84 rfl (lv_at hl 3 rfl) ?_
              refine lv_iload hx hb dX7_go_85 (lv_at hl 4 rfl) ?_
              refine q_ci (q_rV6_2 (rest := []) E (hml.trans hl.1.symm) hI (c_X7_behindEnd l X σ_10 a (q_rf X r1 3) x_8 ha (q_tk (k' := 8) hI hr1 rfl (Nat.succ_ne_zero _))) kv_X7_62 ha ⟨Nat.le_of_ble_eq_true rfl, Nat.le_of_ble_eq_true rfl⟩ (Nat.le_of_ble_eq_true rfl) dX7_go_87) hI (Nat.le_of_ble_eq_true rfl) (fun r_30 σ_31 H locs hpσ_31 hkσ_31 hI => ?_)
              have ahpσ_31 := hpσ_31.1
              have bhpσ_31 := hpσ_31.2
              clear hpσ_31
              have fr_σ_31 := fr_σ_10.call bhpσ_31 rfl rfl
              replace hF := q_biX hF ahpσ_31
              refine lv_istore (lv' := [(4, .int r_30), (0, .ref a), (1, .ref r1), (2, .int v2), (3, .ref (q_rf X r1 3)), (5, .int x_9)]) hx hb dX7_go_90 hl (by decide) rfl (fun ls hl => ?_)
              refine lv_goto (tgt := 132) hx hb dX7_go_92 (by decide) ?_
              obtain ⟨z_32, ez_32⟩ : ∃ y : Int32, y = x_9 + 1 := ⟨_, rfl⟩
              replace hF := q_letX hF ez_32
              refine lv_iinc (v := z_32) (lv' := [(5, .int z_32), (4, .int r_30), (0, .ref a), (1, .ref r1), (2, .int v2), (3, .ref (q_rf X r1 3))]) hx hb dX7_go_132 hl (k := 5) rfl (by rw [ez_32]; rfl) (by decide) rfl (fun ls hl => ?_)
              have iz_32 : z_32.toInt = x_9.toInt + 1 := q_inc ez_32 (by first | (clear hm46 gc_14_x_8 gc_14_f_13 c_14 bf_15 c_16 ahpσ_18 bhpσ_18 gc_19_r_17 c_19 ahpσ_31 bhpσ_31; omega) | omega)
              refine lv_goto (tgt := 46) hx hb dX7_go_135 (by decide) ?_
              exact ih46 r_30 z_32 σ_31 _ _ ls (by first | (clear gc_14_x_8 gc_14_f_13 c_14 bf_15 c_16 ahpσ_18 bhpσ_18 gc_19_r_17 c_19 ahpσ_31 bhpσ_31; omega) | omega) (by first | (clear hm46 gc_14_x_8 gc_14_f_13 c_14 bf_15 c_16 ahpσ_18 bhpσ_18 gc_19_r_17 c_19 ahpσ_31 bhpσ_31; omega) | omega) fr_σ_31 hF hI (lv_sub hl [2, 3, 4, 5, 1, 0] rfl)
  exact L_46_11 ((2147483647 - (0 : Int32).toInt).toNat + 1) 0 0 σ_7 _ _ ls (Nat.lt_succ_self _) (by decide) fr_σ_7 hF hI (lv_sub hl [3, 4, 5, 2, 1, 0] rfl)
end
/-! FROM 16.class.a.lean.txt -/
section
section QS
variable {p : Program} {l : Launch} {e : Env} {R : Room} {s : State} {m : MethodId} {args : Array Value} {below : List Frame} {meth : Method} {c : Code} {H : Heap} {locs : List Loc} {cells slots : Nat} {Q : State → Prop} {cc : ByteArray} {X : XW} {n : Nat} {σ0 σ : ST} {H0 : Heap} {pc : Nat} {ls : Array Slot} {rest : List Value} {a : Nat}
theorem gs_X11_9_11 (E : q_E p c cc s m args RX11 X) (hI : q_I X n σ0 H0 locs σ H) (ha : q_kd X a = 11) (hdg : decode cc pc = .ok (.getfield 9, 3)) (kk : W p l e R s m args below meth c H locs cells slots Q (F0 m (pc + 3) ls (.int (σ.1 a 0) :: rest))) : W p l e R s m args below meth c H locs cells slots Q (F0 m pc ls (.ref a :: rest)) :=
  q_getf (ref := "CheatHeap") E hI ha ⟨rfl, by decide⟩ (show vwCl[10]? = some (RX11, TX11, 17) from rfl) q_inX11 (f := 0) (by decide) (q_in_t2 (i := 202) (by first | rfl | decide +kernel) rfl) (Or.inl rfl) rfl hdg kk
theorem gs_X11_13_11 (E : q_E p c cc s m args RX11 X) (hI : q_I X n σ0 H0 locs σ H) (ha : q_kd X a = 11) (hdg : decode cc pc = .ok (.getfield 13, 3)) (kk : W p l e R s m args below meth c H locs cells slots Q (F0 m (pc + 3) ls (.long (σ.2.1 a 1) :: rest))) : W p l e R s m args below meth c H locs cells slots Q (F0 m pc ls (.ref a :: rest)) :=
  q_getf (ref := "CheatHeap") E hI ha ⟨rfl, by decide⟩ (show vwCl[10]? = some (RX11, TX11, 17) from rfl) q_inX11 (f := 1) (by decide) (q_in_t2 (i := 203) (by first | rfl | decide +kernel) rfl) (Or.inl rfl) rfl hdg kk
theorem gs_X11_17_11 (E : q_E p c cc s m args RX11 X) (hI : q_I X n σ0 H0 locs σ H) (ha : q_kd X a = 11) (hdg : decode cc pc = .ok (.getfield 17, 3)) (kk : W p l e R s m args below meth c H locs cells slots Q (F0 m (pc + 3) ls (.long (σ.2.1 a 2) :: rest))) : W p l e R s m args below meth c H locs cells slots Q (F0 m pc ls (.ref a :: rest)) :=
  q_getf (ref := "CheatHeap") E hI ha ⟨rfl, by decide⟩ (show vwCl[10]? = some (RX11, TX11, 17) from rfl) q_inX11 (f := 2) (by decide) (q_in_t2 (i := 204) (by first | rfl | decide +kernel) rfl) (Or.inl rfl) rfl hdg kk
theorem gs_X11_22_11 (E : q_E p c cc s m args RX11 X) (hI : q_I X n σ0 H0 locs σ H) (ha : q_kd X a = 11) (hdg : decode cc pc = .ok (.getfield 22, 3)) (kk : W p l e R s m args below meth c H locs cells slots Q (F0 m (pc + 3) ls (.ref (q_rf X a 3) :: rest))) : W p l e R s m args below meth c H locs cells slots Q (F0 m pc ls (.ref a :: rest)) :=
  q_getf (ref := "CheatHeap") E hI ha ⟨rfl, by decide⟩ (show vwCl[10]? = some (RX11, TX11, 17) from rfl) q_inX11 (f := 3) (by decide) (q_in_t2 (i := 205) (by first | rfl | decide +kernel) rfl) (Or.inl rfl) rfl hdg kk
theorem ps_X11_9_11 (E : q_E p c cc s m args RX11 X) (hI : q_I X n σ0 H0 locs σ H) (ha : q_kd X a = 11) {v : Int32} (hcl : n < 9) (hdg : decode cc pc = .ok (.putfield 9, 3)) (kk : ∀ (H1 : Heap) (locs1 : List Loc) (σ1 : ST), σ1 = q_si σ a 0 v → q_I X n σ0 H0 locs1 σ1 H1 → W p l e R s m args below meth c H1 locs1 cells slots Q (F0 m (pc + 3) ls rest)) : W p l e R s m args below meth c H locs cells slots Q (F0 m pc ls (.int v :: .ref a :: rest)) :=
  q_puti (ref := "CheatHeap") E hI ha ⟨rfl, by decide⟩ (show vwCl[10]? = some (RX11, TX11, 17) from rfl) q_inX11 tyX11_ok nmX11 (f := 0) (by decide) (q_in_t2 (i := 202) (by first | rfl | decide +kernel) rfl) (Or.inl rfl) rfl rfl hcl hdg (q_inU rfl) (Or.inl rfl) (fun H1 l1 h => kk H1 l1 _ rfl h)
theorem kv_X11_85 : q_okV RX11 85 RX11 yX11_trayAt cX11_trayAt 2 (some (.object "CheatHeap$Tray")) 1 := ⟨(q_in_t3 (i := 30) (by first | rfl | decide +kernel) rfl), (q_in_t3 (i := 32) (by first | rfl | decide +kernel) rfl), (q_in_p (i := 0) (by decide +kernel) rfl), (q_in_t1 (i := 1) (by first | rfl | decide +kernel) rfl), (q_in_t3 (i := 33) (by first | rfl | decide +kernel) rfl), ⟨rfl, by decide, by decide, rfl⟩⟩
theorem kv_X11_89 : q_okV RX11 89 RX11 yX11_no cX11_no 2 (some .boolean) 1 := ⟨(q_in_t3 (i := 34) (by first | rfl | decide +kernel) rfl), (q_in_t3 (i := 36) (by first | rfl | decide +kernel) rfl), (q_in_p (i := 1) (by decide +kernel) rfl), (q_in_t1 (i := 1) (by first | rfl | decide +kernel) rfl), (q_in_t3 (i := 37) (by first | rfl | decide +kernel) rfl), ⟨rfl, by decide, by decide, rfl⟩⟩
theorem kv_X11_93 : q_okV RX11 93 RX10 yX10_make cX10_make 4 none 2 := ⟨(q_in_t3 (i := 38) (by first | rfl | decide +kernel) rfl), (q_in_t3 (i := 39) (by first | rfl | decide +kernel) rfl), (q_in_t3 (i := 40) (by first | rfl | decide +kernel) rfl), (q_in_t1 (i := 13) (by first | rfl | decide +kernel) rfl), (q_in_t3 (i := 41) (by first | rfl | decide +kernel) rfl), ⟨rfl, by decide, by decide, rfl⟩⟩
theorem kv_X11_97 : q_okV RX11 97 RX11 yX11_yes cX11_yes 1 (some .boolean) 0 := ⟨(q_in_t3 (i := 46) (by first | rfl | decide +kernel) rfl), (q_in_t3 (i := 48) (by first | rfl | decide +kernel) rfl), (q_in_p (i := 2) (by decide +kernel) rfl), (q_in_t1 (i := 1) (by first | rfl | decide +kernel) rfl), (q_in_t3 (i := 49) (by first | rfl | decide +kernel) rfl), ⟨rfl, by decide, by decide, rfl⟩⟩
theorem kv_X11_117 : q_okV RX11 117 RX10 yX10_isMissing cX10_isMissing 1 (some .boolean) 0 := ⟨(q_in_t3 (i := 57) (by first | rfl | decide +kernel) rfl), (q_in_t3 (i := 58) (by first | rfl | decide +kernel) rfl), (q_in_t3 (i := 59) (by first | rfl | decide +kernel) rfl), (q_in_t1 (i := 13) (by first | rfl | decide +kernel) rfl), (q_in_t3 (i := 60) (by first | rfl | decide +kernel) rfl), ⟨rfl, by decide, by decide, rfl⟩⟩
theorem kv_X11_123 : q_okV RX11 123 RX10 yX10_hasPlaces cX10_hasPlaces 3 (some .boolean) 2 := ⟨(q_in_t3 (i := 61) (by first | rfl | decide +kernel) rfl), (q_in_t3 (i := 62) (by first | rfl | decide +kernel) rfl), (q_in_t3 (i := 63) (by first | rfl | decide +kernel) rfl), (q_in_t1 (i := 13) (by first | rfl | decide +kernel) rfl), (q_in_t3 (i := 64) (by first | rfl | decide +kernel) rfl), ⟨rfl, by decide, by decide, rfl⟩⟩
theorem ks_X11_101 : q_okS RX11 101 yX11_placeStatus cX11_placeStatus 2 (some .int) 2 := ⟨(q_in_t3 (i := 54) (by first | rfl | decide +kernel) rfl), (q_in_t3 (i := 55) (by first | rfl | decide +kernel) rfl), (q_in_t1 (i := 1) (by first | rfl | decide +kernel) rfl), (q_in_t3 (i := 56) (by first | rfl | decide +kernel) rfl), ⟨by decide, by decide, rfl⟩⟩
theorem kv_X11_105 : q_okV RX11 105 RX10 yX10_put cX10_put 4 none 2 := ⟨(q_in_t3 (i := 65) (by first | rfl | decide +kernel) rfl), (q_in_t3 (i := 66) (by first | rfl | decide +kernel) rfl), (q_in_t3 (i := 67) (by first | rfl | decide +kernel) rfl), (q_in_t1 (i := 13) (by first | rfl | decide +kernel) rfl), (q_in_t3 (i := 68) (by first | rfl | decide +kernel) rfl), ⟨rfl, by decide, by decide, rfl⟩⟩
theorem kv_X11_109 : q_okV RX11 109 RX11 yX11_none cX11_none 2 (some .int) 1 := ⟨(q_in_t3 (i := 77) (by first | rfl | decide +kernel) rfl), (q_in_t3 (i := 79) (by first | rfl | decide +kernel) rfl), (q_in_p (i := 4) (by decide +kernel) rfl), (q_in_t1 (i := 1) (by first | rfl | decide +kernel) rfl), (q_in_t3 (i := 80) (by first | rfl | decide +kernel) rfl), ⟨rfl, by decide, by decide, rfl⟩⟩
theorem kv_X11_113 : q_okV RX11 113 RX10 yX10_get cX10_get 2 (some .long) 1 := ⟨(q_in_t3 (i := 81) (by first | rfl | decide +kernel) rfl), (q_in_t3 (i := 82) (by first | rfl | decide +kernel) rfl), (q_in_t3 (i := 83) (by first | rfl | decide +kernel) rfl), (q_in_t1 (i := 13) (by first | rfl | decide +kernel) rfl), (q_in_t3 (i := 84) (by first | rfl | decide +kernel) rfl), ⟨rfl, by decide, by decide, rfl⟩⟩
theorem gs_X11_120_10 (E : q_E p c cc s m args RX11 X) (hI : q_I X n σ0 H0 locs σ H) (ha : q_kd X a = 10) (hdg : decode cc pc = .ok (.getfield 120, 3)) (kk : W p l e R s m args below meth c H locs cells slots Q (F0 m (pc + 3) ls (.int (σ.1 a 0) :: rest))) : W p l e R s m args below meth c H locs cells slots Q (F0 m pc ls (.ref a :: rest)) :=
  q_getf (ref := "CheatHeap$Tray") E hI ha ⟨rfl, by decide⟩ (show vwCl[9]? = some (RX10, TX10, 3) from rfl) q_inX10 (f := 0) (by decide) (q_in_t2 (i := 191) (by first | rfl | decide +kernel) rfl) (Or.inl rfl) rfl hdg kk
theorem kv_X11_127 : q_okV RX11 127 RX10 yX10_copyFrom cX10_copyFrom 5 none 4 := ⟨(q_in_t3 (i := 89) (by first | rfl | decide +kernel) rfl), (q_in_t3 (i := 90) (by first | rfl | decide +kernel) rfl), (q_in_t3 (i := 91) (by first | rfl | decide +kernel) rfl), (q_in_t1 (i := 13) (by first | rfl | decide +kernel) rfl), (q_in_t3 (i := 92) (by first | rfl | decide +kernel) rfl), ⟨rfl, by decide, by decide, rfl⟩⟩
theorem gs_X11_30_11 (E : q_E p c cc s m args RX11 X) (hI : q_I X n σ0 H0 locs σ H) (ha : q_kd X a = 11) (hdg : decode cc pc = .ok (.getfield 30, 3)) (kk : W p l e R s m args below meth c H locs cells slots Q (F0 m (pc + 3) ls (.int (σ.1 a 5) :: rest))) : W p l e R s m args below meth c H locs cells slots Q (F0 m pc ls (.ref a :: rest)) :=
  q_getf (ref := "CheatHeap") E hI ha ⟨rfl, by decide⟩ (show vwCl[10]? = some (RX11, TX11, 17) from rfl) q_inX11 (f := 5) (by decide) (q_in_t2 (i := 207) (by first | rfl | decide +kernel) rfl) (Or.inl rfl) rfl hdg kk
theorem gs_X11_26_11 (E : q_E p c cc s m args RX11 X) (hI : q_I X n σ0 H0 locs σ H) (ha : q_kd X a = 11) (hdg : decode cc pc = .ok (.getfield 26, 3)) (kk : W p l e R s m args below meth c H locs cells slots Q (F0 m (pc + 3) ls (.ref (q_rf X a 4) :: rest))) : W p l e R s m args below meth c H locs cells slots Q (F0 m pc ls (.ref a :: rest)) :=
  q_getf (ref := "CheatHeap") E hI ha ⟨rfl, by decide⟩ (show vwCl[10]? = some (RX11, TX11, 17) from rfl) q_inX11 (f := 4) (by decide) (q_in_t2 (i := 206) (by first | rfl | decide +kernel) rfl) (Or.inl rfl) rfl hdg kk
theorem ps_X11_30_11 (E : q_E p c cc s m args RX11 X) (hI : q_I X n σ0 H0 locs σ H) (ha : q_kd X a = 11) {v : Int32} (hcl : n < 1) (h1 : 0 ≤ v.toInt) (h2 : v.toInt ≤ 900) (hdg : decode cc pc = .ok (.putfield 30, 3)) (kk : ∀ (H1 : Heap) (locs1 : List Loc) (σ1 : ST), σ1 = q_si σ a 5 v → q_I X n σ0 H0 locs1 σ1 H1 → W p l e R s m args below meth c H1 locs1 cells slots Q (F0 m (pc + 3) ls rest)) : W p l e R s m args below meth c H locs cells slots Q (F0 m pc ls (.int v :: .ref a :: rest)) :=
  q_puti (ref := "CheatHeap") E hI ha ⟨rfl, by decide⟩ (show vwCl[10]? = some (RX11, TX11, 17) from rfl) q_inX11 tyX11_ok nmX11 (f := 5) (by decide) (q_in_t2 (i := 207) (by first | rfl | decide +kernel) rfl) (Or.inl rfl) rfl rfl hcl hdg (q_inB rfl h1 h2) (Or.inl rfl) (fun H1 l1 h => kk H1 l1 _ rfl h)
theorem kv_X11_131 : q_okV RX11 131 RX11 yX11_tapeInt cX11_tapeInt 3 none 1 := ⟨(q_in_t3 (i := 101) (by first | rfl | decide +kernel) rfl), (q_in_t3 (i := 103) (by first | rfl | decide +kernel) rfl), (q_in_p (i := 5) (by decide +kernel) rfl), (q_in_t1 (i := 1) (by first | rfl | decide +kernel) rfl), (q_in_t3 (i := 104) (by first | rfl | decide +kernel) rfl), ⟨rfl, by decide, by decide, rfl⟩⟩
theorem gs_X11_175_4 (E : q_E p c cc s m args RX11 X) (hI : q_I X n σ0 H0 locs σ H) (ha : q_kd X a = 4) (hdg : decode cc pc = .ok (.getfield 175, 3)) (kk : W p l e R s m args below meth c H locs cells slots Q (F0 m (pc + 3) ls (.int (σ.1 a 6) :: rest))) : W p l e R s m args below meth c H locs cells slots Q (F0 m pc ls (.ref a :: rest)) :=
  q_getf (ref := "CheatHeap$Reader") E hI ha ⟨rfl, by decide⟩ (show vwCl[3]? = some (RX4, TX4, 11) from rfl) q_inX4 (f := 6) (by decide) (q_in_t2 (i := 89) (by first | rfl | decide +kernel) rfl) (Or.inl rfl) rfl hdg kk
theorem gs_X11_175_9 (E : q_E p c cc s m args RX11 X) (hI : q_I X n σ0 H0 locs σ H) (ha : q_kd X a = 9) (hdg : decode cc pc = .ok (.getfield 175, 3)) (kk : W p l e R s m args below meth c H locs cells slots Q (F0 m (pc + 3) ls (.int (σ.1 a 6) :: rest))) : W p l e R s m args below meth c H locs cells slots Q (F0 m pc ls (.ref a :: rest)) :=
  q_getf (ref := "CheatHeap$Reader") E hI ha ⟨rfl, by decide⟩ (show vwCl[8]? = some (RX9, TX9, 12) from rfl) q_inX9 (f := 6) (by decide) (q_in_t2 (i := 89) (by first | rfl | decide +kernel) rfl) (Or.inl rfl) rfl hdg kk
theorem gsr_X11_175 (E : q_E p c cc s m args RX11 X) (hI : q_I X n σ0 H0 locs σ H) (ha : q_kd X a = 4 ∨ q_kd X a = 9) (hdg : decode cc pc = .ok (.getfield 175, 3)) (kk : W p l e R s m args below meth c H locs cells slots Q (F0 m (pc + 3) ls (.int (σ.1 a 6) :: rest))) : W p l e R s m args below meth c H locs cells slots Q (F0 m pc ls (.ref a :: rest)) := by
  rcases ha with ha | ha
  · exact gs_X11_175_4 E hI ha hdg kk
  · exact gs_X11_175_9 E hI ha hdg kk
theorem ps_X11_33_11 (E : q_E p c cc s m args RX11 X) (hI : q_I X n σ0 H0 locs σ H) (ha : q_kd X a = 11) {v : Int32} (hcl : n < 9) (hdg : decode cc pc = .ok (.putfield 33, 3)) (kk : ∀ (H1 : Heap) (locs1 : List Loc) (σ1 : ST), σ1 = q_si σ a 6 v → q_I X n σ0 H0 locs1 σ1 H1 → W p l e R s m args below meth c H1 locs1 cells slots Q (F0 m (pc + 3) ls rest)) : W p l e R s m args below meth c H locs cells slots Q (F0 m pc ls (.int v :: .ref a :: rest)) :=
  q_puti (ref := "CheatHeap") E hI ha ⟨rfl, by decide⟩ (show vwCl[10]? = some (RX11, TX11, 17) from rfl) q_inX11 tyX11_ok nmX11 (f := 6) (by decide) (q_in_t2 (i := 208) (by first | rfl | decide +kernel) rfl) (Or.inl rfl) rfl rfl hcl hdg (q_inU rfl) (Or.inl rfl) (fun H1 l1 h => kk H1 l1 _ rfl h)
theorem gs_X11_180_4 (E : q_E p c cc s m args RX11 X) (hI : q_I X n σ0 H0 locs σ H) (ha : q_kd X a = 4) (hdg : decode cc pc = .ok (.getfield 180, 3)) (kk : W p l e R s m args below meth c H locs cells slots Q (F0 m (pc + 3) ls (.int (σ.1 a 7) :: rest))) : W p l e R s m args below meth c H locs cells slots Q (F0 m pc ls (.ref a :: rest)) :=
  q_getf (ref := "CheatHeap$Reader") E hI ha ⟨rfl, by decide⟩ (show vwCl[3]? = some (RX4, TX4, 11) from rfl) q_inX4 (f := 7) (by decide) (q_in_t2 (i := 91) (by first | rfl | decide +kernel) rfl) (Or.inl rfl) rfl hdg kk
theorem gs_X11_180_9 (E : q_E p c cc s m args RX11 X) (hI : q_I X n σ0 H0 locs σ H) (ha : q_kd X a = 9) (hdg : decode cc pc = .ok (.getfield 180, 3)) (kk : W p l e R s m args below meth c H locs cells slots Q (F0 m (pc + 3) ls (.int (σ.1 a 7) :: rest))) : W p l e R s m args below meth c H locs cells slots Q (F0 m pc ls (.ref a :: rest)) :=
  q_getf (ref := "CheatHeap$Reader") E hI ha ⟨rfl, by decide⟩ (show vwCl[8]? = some (RX9, TX9, 12) from rfl) q_inX9 (f := 7) (by decide) (q_in_t2 (i := 91) (by first | rfl | decide +kernel) rfl) (Or.inl rfl) rfl hdg kk
theorem gsr_X11_180 (E : q_E p c cc s m args RX11 X) (hI : q_I X n σ0 H0 locs σ H) (ha : q_kd X a = 4 ∨ q_kd X a = 9) (hdg : decode cc pc = .ok (.getfield 180, 3)) (kk : W p l e R s m args below meth c H locs cells slots Q (F0 m (pc + 3) ls (.int (σ.1 a 7) :: rest))) : W p l e R s m args below meth c H locs cells slots Q (F0 m pc ls (.ref a :: rest)) := by
  rcases ha with ha | ha
  · exact gs_X11_180_4 E hI ha hdg kk
  · exact gs_X11_180_9 E hI ha hdg kk
theorem ps_X11_36_11 (E : q_E p c cc s m args RX11 X) (hI : q_I X n σ0 H0 locs σ H) (ha : q_kd X a = 11) {v : Int32} (hcl : n < 9) (hdg : decode cc pc = .ok (.putfield 36, 3)) (kk : ∀ (H1 : Heap) (locs1 : List Loc) (σ1 : ST), σ1 = q_si σ a 7 v → q_I X n σ0 H0 locs1 σ1 H1 → W p l e R s m args below meth c H1 locs1 cells slots Q (F0 m (pc + 3) ls rest)) : W p l e R s m args below meth c H locs cells slots Q (F0 m pc ls (.int v :: .ref a :: rest)) :=
  q_puti (ref := "CheatHeap") E hI ha ⟨rfl, by decide⟩ (show vwCl[10]? = some (RX11, TX11, 17) from rfl) q_inX11 tyX11_ok nmX11 (f := 7) (by decide) (q_in_t2 (i := 209) (by first | rfl | decide +kernel) rfl) (Or.inl rfl) rfl rfl hcl hdg (q_inU rfl) (Or.inl rfl) (fun H1 l1 h => kk H1 l1 _ rfl h)
theorem gs_X11_59_11 (E : q_E p c cc s m args RX11 X) (hI : q_I X n σ0 H0 locs σ H) (ha : q_kd X a = 11) (hdg : decode cc pc = .ok (.getfield 59, 3)) (kk : W p l e R s m args below meth c H locs cells slots Q (F0 m (pc + 3) ls (.ref (q_rf X a 12) :: rest))) : W p l e R s m args below meth c H locs cells slots Q (F0 m pc ls (.ref a :: rest)) :=
  q_getf (ref := "CheatHeap") E hI ha ⟨rfl, by decide⟩ (show vwCl[10]? = some (RX11, TX11, 17) from rfl) q_inX11 (f := 12) (by decide) (q_in_t2 (i := 214) (by first | rfl | decide +kernel) rfl) (Or.inl rfl) rfl hdg kk
theorem kv_X11_135 : q_okV RX11 135 RX9 yX9_takes cX9_takes 4 (some .boolean) 2 := ⟨(q_in_t3 (i := 109) (by first | rfl | decide +kernel) rfl), (q_in_t3 (i := 110) (by first | rfl | decide +kernel) rfl), (q_in_t3 (i := 111) (by first | rfl | decide +kernel) rfl), (q_in_t1 (i := 10) (by first | rfl | decide +kernel) rfl), (q_in_t3 (i := 112) (by first | rfl | decide +kernel) rfl), ⟨rfl, by decide, by decide, rfl⟩⟩
theorem kv_X11_139 : q_okV RX11 139 RX11 yX11_endReading cX11_endReading 2 none 1 := ⟨(q_in_t4 (i := 121) (by first | rfl | decide +kernel) rfl), (q_in_t4 (i := 123) (by first | rfl | decide +kernel) rfl), (q_in_p (i := 14) (by decide +kernel) rfl), (q_in_t1 (i := 1) (by first | rfl | decide +kernel) rfl), (q_in_t4 (i := 124) (by first | rfl | decide +kernel) rfl), ⟨rfl, by decide, by decide, rfl⟩⟩
theorem gs_X11_42_11 (E : q_E p c cc s m args RX11 X) (hI : q_I X n σ0 H0 locs σ H) (ha : q_kd X a = 11) (hdg : decode cc pc = .ok (.getfield 42, 3)) (kk : W p l e R s m args below meth c H locs cells slots Q (F0 m (pc + 3) ls (.ref (q_rf X a 8) :: rest))) : W p l e R s m args below meth c H locs cells slots Q (F0 m pc ls (.ref a :: rest)) :=
  q_getf (ref := "CheatHeap") E hI ha ⟨rfl, by decide⟩ (show vwCl[10]? = some (RX11, TX11, 17) from rfl) q_inX11 (f := 8) (by decide) (q_in_t2 (i := 210) (by first | rfl | decide +kernel) rfl) (Or.inl rfl) rfl hdg kk
theorem gs_X11_143_9 (E : q_E p c cc s m args RX11 X) (hI : q_I X n σ0 H0 locs σ H) (ha : q_kd X a = 9) (hdg : decode cc pc = .ok (.getfield 143, 3)) (kk : W p l e R s m args below meth c H locs cells slots Q (F0 m (pc + 3) ls (.ref (q_rf X a 8) :: rest))) : W p l e R s m args below meth c H locs cells slots Q (F0 m pc ls (.ref a :: rest)) :=
  q_getf (ref := "CheatHeap$TableReader") E hI ha ⟨rfl, by decide⟩ (show vwCl[8]? = some (RX9, TX9, 12) from rfl) q_inX9 (f := 8) (by decide) (q_in_t2 (i := 72) (by first | rfl | decide +kernel) rfl) (Or.inl rfl) rfl hdg kk
theorem kv_X11_144 : q_okV RX11 144 RX0 yX0_copyFrom cX0_copyFrom 2 none 1 := ⟨(q_in_t4 (i := 125) (by first | rfl | decide +kernel) rfl), (q_in_t4 (i := 126) (by first | rfl | decide +kernel) rfl), (q_in_t4 (i := 127) (by first | rfl | decide +kernel) rfl), (q_in_t1 (i := 2) (by first | rfl | decide +kernel) rfl), (q_in_t4 (i := 128) (by first | rfl | decide +kernel) rfl), ⟨rfl, by decide, by decide, rfl⟩⟩
theorem gs_X11_147_1 (E : q_E p c cc s m args RX11 X) (hI : q_I X n σ0 H0 locs σ H) (ha : q_kd X a = 1) (hdg : decode cc pc = .ok (.getfield 147, 3)) (kk : W p l e R s m args below meth c H locs cells slots Q (F0 m (pc + 3) ls (.ref (q_rf X a 0) :: rest))) : W p l e R s m args below meth c H locs cells slots Q (F0 m pc ls (.ref a :: rest)) :=
  q_getf (ref := "CheatHeap$Game") E hI ha ⟨rfl, by decide⟩ (show vwCl[0]? = some (RX0, TX0, 15) from rfl) q_inX0 (f := 0) (by decide) (q_in_t1 (i := 231) (by first | rfl | decide +kernel) rfl) (Or.inl rfl) rfl hdg kk
theorem gs_X11_151_6 (E : q_E p c cc s m args RX11 X) (hI : q_I X n σ0 H0 locs σ H) (ha : q_kd X a = 6) (hdg : decode cc pc = .ok (.getfield 151, 3)) (kk : W p l e R s m args below meth c H locs cells slots Q (F0 m (pc + 3) ls (.int (σ.1 a 4) :: rest))) : W p l e R s m args below meth c H locs cells slots Q (F0 m pc ls (.ref a :: rest)) :=
  q_getf (ref := "CheatHeap$Rules") E hI ha ⟨rfl, by decide⟩ (show vwCl[5]? = some (RX6, TX6, 8) from rfl) q_inX6 (f := 4) (by decide) (q_in_t1 (i := 76) (by first | rfl | decide +kernel) rfl) (Or.inl rfl) rfl hdg kk
theorem kv_X11_156 : q_okV RX11 156 RX11 yX11_good cX11_good 2 (some .int) 1 := ⟨(q_in_t4 (i := 152) (by first | rfl | decide +kernel) rfl), (q_in_t4 (i := 154) (by first | rfl | decide +kernel) rfl), (q_in_p (i := 15) (by decide +kernel) rfl), (q_in_t1 (i := 1) (by first | rfl | decide +kernel) rfl), (q_in_t4 (i := 155) (by first | rfl | decide +kernel) rfl), ⟨rfl, by decide, by decide, rfl⟩⟩
theorem gs_X11_66_11 (E : q_E p c cc s m args RX11 X) (hI : q_I X n σ0 H0 locs σ H) (ha : q_kd X a = 11) (hdg : decode cc pc = .ok (.getfield 66, 3)) (kk : W p l e R s m args below meth c H locs cells slots Q (F0 m (pc + 3) ls (.ref (q_rf X a 13) :: rest))) : W p l e R s m args below meth c H locs cells slots Q (F0 m pc ls (.ref a :: rest)) :=
  q_getf (ref := "CheatHeap") E hI ha ⟨rfl, by decide⟩ (show vwCl[10]? = some (RX11, TX11, 17) from rfl) q_inX11 (f := 13) (by decide) (q_in_t2 (i := 215) (by first | rfl | decide +kernel) rfl) (Or.inl rfl) rfl hdg kk
theorem kv_X11_159 : q_okV RX11 159 RX4 yX4_takes cX4_takes 6 (some .boolean) 3 := ⟨(q_in_t4 (i := 160) (by first | rfl | decide +kernel) rfl), (q_in_t4 (i := 161) (by first | rfl | decide +kernel) rfl), (q_in_t4 (i := 162) (by first | rfl | decide +kernel) rfl), (q_in_t1 (i := 11) (by first | rfl | decide +kernel) rfl), (q_in_t4 (i := 163) (by first | rfl | decide +kernel) rfl), ⟨rfl, by decide, by decide, rfl⟩⟩
theorem gs_X11_162_1 (E : q_E p c cc s m args RX11 X) (hI : q_I X n σ0 H0 locs σ H) (ha : q_kd X a = 1) (hdg : decode cc pc = .ok (.getfield 162, 3)) (kk : W p l e R s m args below meth c H locs cells slots Q (F0 m (pc + 3) ls (.ref (q_rf X a 3) :: rest))) : W p l e R s m args below meth c H locs cells slots Q (F0 m pc ls (.ref a :: rest)) :=
  q_getf (ref := "CheatHeap$Game") E hI ha ⟨rfl, by decide⟩ (show vwCl[0]? = some (RX0, TX0, 15) from rfl) q_inX0 (f := 3) (by decide) (q_in_t2 (i := 1) (by first | rfl | decide +kernel) rfl) (Or.inl rfl) rfl hdg kk
theorem gs_X11_166_4 (E : q_E p c cc s m args RX11 X) (hI : q_I X n σ0 H0 locs σ H) (ha : q_kd X a = 4) (hdg : decode cc pc = .ok (.getfield 166, 3)) (kk : W p l e R s m args below meth c H locs cells slots Q (F0 m (pc + 3) ls (.ref (q_rf X a 8) :: rest))) : W p l e R s m args below meth c H locs cells slots Q (F0 m pc ls (.ref a :: rest)) :=
  q_getf (ref := "CheatHeap$RoundReader") E hI ha ⟨rfl, by decide⟩ (show vwCl[3]? = some (RX4, TX4, 11) from rfl) q_inX4 (f := 8) (by decide) (q_in_t2 (i := 128) (by first | rfl | decide +kernel) rfl) (Or.inl rfl) rfl hdg kk
theorem kv_X11_167 : q_okV RX11 167 RX8 yX8_copyFrom cX8_copyFrom 2 none 1 := ⟨(q_in_t5 (i := 1) (by first | rfl | decide +kernel) rfl), (q_in_t4 (i := 148) (by first | rfl | decide +kernel) rfl), (q_in_t4 (i := 149) (by first | rfl | decide +kernel) rfl), (q_in_t1 (i := 8) (by first | rfl | decide +kernel) rfl), (q_in_t4 (i := 150) (by first | rfl | decide +kernel) rfl), ⟨rfl, by decide, by decide, rfl⟩⟩
theorem gs_X11_172_8 (E : q_E p c cc s m args RX11 X) (hI : q_I X n σ0 H0 locs σ H) (ha : q_kd X a = 8) (hdg : decode cc pc = .ok (.getfield 172, 3)) (kk : W p l e R s m args below meth c H locs cells slots Q (F0 m (pc + 3) ls (.int (σ.1 a 1) :: rest))) : W p l e R s m args below meth c H locs cells slots Q (F0 m pc ls (.ref a :: rest)) :=
  q_getf (ref := "CheatHeap$Script") E hI ha ⟨rfl, by decide⟩ (show vwCl[7]? = some (RX8, TX8, 8) from rfl) q_inX8 (f := 1) (by decide) (q_in_t1 (i := 192) (by first | rfl | decide +kernel) rfl) (Or.inl rfl) rfl hdg kk
theorem gs_X11_36_11 (E : q_E p c cc s m args RX11 X) (hI : q_I X n σ0 H0 locs σ H) (ha : q_kd X a = 11) (hdg : decode cc pc = .ok (.getfield 36, 3)) (kk : W p l e R s m args below meth c H locs cells slots Q (F0 m (pc + 3) ls (.int (σ.1 a 7) :: rest))) : W p l e R s m args below meth c H locs cells slots Q (F0 m pc ls (.ref a :: rest)) :=
  q_getf (ref := "CheatHeap") E hI ha ⟨rfl, by decide⟩ (show vwCl[10]? = some (RX11, TX11, 17) from rfl) q_inX11 (f := 7) (by decide) (q_in_t2 (i := 209) (by first | rfl | decide +kernel) rfl) (Or.inl rfl) rfl hdg kk
theorem gs_X11_33_11 (E : q_E p c cc s m args RX11 X) (hI : q_I X n σ0 H0 locs σ H) (ha : q_kd X a = 11) (hdg : decode cc pc = .ok (.getfield 33, 3)) (kk : W p l e R s m args below meth c H locs cells slots Q (F0 m (pc + 3) ls (.int (σ.1 a 6) :: rest))) : W p l e R s m args below meth c H locs cells slots Q (F0 m pc ls (.ref a :: rest)) :=
  q_getf (ref := "CheatHeap") E hI ha ⟨rfl, by decide⟩ (show vwCl[10]? = some (RX11, TX11, 17) from rfl) q_inX11 (f := 6) (by decide) (q_in_t2 (i := 208) (by first | rfl | decide +kernel) rfl) (Or.inl rfl) rfl hdg kk
theorem gs_X11_183_6 (E : q_E p c cc s m args RX11 X) (hI : q_I X n σ0 H0 locs σ H) (ha : q_kd X a = 6) (hdg : decode cc pc = .ok (.getfield 183, 3)) (kk : W p l e R s m args below meth c H locs cells slots Q (F0 m (pc + 3) ls (.int (σ.1 a 0) :: rest))) : W p l e R s m args below meth c H locs cells slots Q (F0 m pc ls (.ref a :: rest)) :=
  q_getf (ref := "CheatHeap$Rules") E hI ha ⟨rfl, by decide⟩ (show vwCl[5]? = some (RX6, TX6, 8) from rfl) q_inX6 (f := 0) (by decide) (q_in_t1 (i := 61) (by first | rfl | decide +kernel) rfl) (Or.inl rfl) rfl hdg kk
theorem gs_X11_186_6 (E : q_E p c cc s m args RX11 X) (hI : q_I X n σ0 H0 locs σ H) (ha : q_kd X a = 6) (hdg : decode cc pc = .ok (.getfield 186, 3)) (kk : W p l e R s m args below meth c H locs cells slots Q (F0 m (pc + 3) ls (.int (σ.1 a 1) :: rest))) : W p l e R s m args below meth c H locs cells slots Q (F0 m pc ls (.ref a :: rest)) :=
  q_getf (ref := "CheatHeap$Rules") E hI ha ⟨rfl, by decide⟩ (show vwCl[5]? = some (RX6, TX6, 8) from rfl) q_inX6 (f := 1) (by decide) (q_in_t1 (i := 64) (by first | rfl | decide +kernel) rfl) (Or.inl rfl) rfl hdg kk
theorem gs_X11_189_6 (E : q_E p c cc s m args RX11 X) (hI : q_I X n σ0 H0 locs σ H) (ha : q_kd X a = 6) (hdg : decode cc pc = .ok (.getfield 189, 3)) (kk : W p l e R s m args below meth c H locs cells slots Q (F0 m (pc + 3) ls (.int (σ.1 a 2) :: rest))) : W p l e R s m args below meth c H locs cells slots Q (F0 m pc ls (.ref a :: rest)) :=
  q_getf (ref := "CheatHeap$Rules") E hI ha ⟨rfl, by decide⟩ (show vwCl[5]? = some (RX6, TX6, 8) from rfl) q_inX6 (f := 2) (by decide) (q_in_t1 (i := 67) (by first | rfl | decide +kernel) rfl) (Or.inl rfl) rfl hdg kk
theorem gs_X11_192_6 (E : q_E p c cc s m args RX11 X) (hI : q_I X n σ0 H0 locs σ H) (ha : q_kd X a = 6) (hdg : decode cc pc = .ok (.getfield 192, 3)) (kk : W p l e R s m args below meth c H locs cells slots Q (F0 m (pc + 3) ls (.int (σ.1 a 3) :: rest))) : W p l e R s m args below meth c H locs cells slots Q (F0 m pc ls (.ref a :: rest)) :=
  q_getf (ref := "CheatHeap$Rules") E hI ha ⟨rfl, by decide⟩ (show vwCl[5]? = some (RX6, TX6, 8) from rfl) q_inX6 (f := 3) (by decide) (q_in_t1 (i := 71) (by first | rfl | decide +kernel) rfl) (Or.inl rfl) rfl hdg kk
theorem gs_X11_195_1 (E : q_E p c cc s m args RX11 X) (hI : q_I X n σ0 H0 locs σ H) (ha : q_kd X a = 1) (hdg : decode cc pc = .ok (.getfield 195, 3)) (kk : W p l e R s m args below meth c H locs cells slots Q (F0 m (pc + 3) ls (.int (σ.1 a 4) :: rest))) : W p l e R s m args below meth c H locs cells slots Q (F0 m pc ls (.ref a :: rest)) :=
  q_getf (ref := "CheatHeap$Game") E hI ha ⟨rfl, by decide⟩ (show vwCl[0]? = some (RX0, TX0, 15) from rfl) q_inX0 (f := 4) (by decide) (q_in_t2 (i := 4) (by first | rfl | decide +kernel) rfl) (Or.inl rfl) rfl hdg kk
theorem gs_X11_198_1 (E : q_E p c cc s m args RX11 X) (hI : q_I X n σ0 H0 locs σ H) (ha : q_kd X a = 1) (hdg : decode cc pc = .ok (.getfield 198, 3)) (kk : W p l e R s m args below meth c H locs cells slots Q (F0 m (pc + 3) ls (.int (σ.1 a 5) :: rest))) : W p l e R s m args below meth c H locs cells slots Q (F0 m pc ls (.ref a :: rest)) :=
  q_getf (ref := "CheatHeap$Game") E hI ha ⟨rfl, by decide⟩ (show vwCl[0]? = some (RX0, TX0, 15) from rfl) q_inX0 (f := 5) (by decide) (q_in_t2 (i := 7) (by first | rfl | decide +kernel) rfl) (Or.inl rfl) rfl hdg kk
theorem gs_X11_201_1 (E : q_E p c cc s m args RX11 X) (hI : q_I X n σ0 H0 locs σ H) (ha : q_kd X a = 1) (hdg : decode cc pc = .ok (.getfield 201, 3)) (kk : W p l e R s m args below meth c H locs cells slots Q (F0 m (pc + 3) ls (.ref (q_rf X a 2) :: rest))) : W p l e R s m args below meth c H locs cells slots Q (F0 m pc ls (.ref a :: rest)) :=
  q_getf (ref := "CheatHeap$Game") E hI ha ⟨rfl, by decide⟩ (show vwCl[0]? = some (RX0, TX0, 15) from rfl) q_inX0 (f := 2) (by decide) (q_in_t1 (i := 238) (by first | rfl | decide +kernel) rfl) (Or.inl rfl) rfl hdg kk
theorem gs_X11_205_3 (E : q_E p c cc s m args RX11 X) (hI : q_I X n σ0 H0 locs σ H) (ha : q_kd X a = 3) (hdg : decode cc pc = .ok (.getfield 205, 3)) (kk : W p l e R s m args below meth c H locs cells slots Q (F0 m (pc + 3) ls (.int (σ.1 a 1) :: rest))) : W p l e R s m args below meth c H locs cells slots Q (F0 m pc ls (.ref a :: rest)) :=
  q_getf (ref := "CheatHeap$Pile") E hI ha ⟨rfl, by decide⟩ (show vwCl[2]? = some (RX2, TX2, 6) from rfl) q_inX2 (f := 1) (by decide) (q_in_t1 (i := 158) (by first | rfl | decide +kernel) rfl) (Or.inl rfl) rfl hdg kk
theorem gs_X11_210_1 (E : q_E p c cc s m args RX11 X) (hI : q_I X n σ0 H0 locs σ H) (ha : q_kd X a = 1) (hdg : decode cc pc = .ok (.getfield 210, 3)) (kk : W p l e R s m args below meth c H locs cells slots Q (F0 m (pc + 3) ls (.int (σ.1 a 7) :: rest))) : W p l e R s m args below meth c H locs cells slots Q (F0 m pc ls (.ref a :: rest)) :=
  q_getf (ref := "CheatHeap$Game") E hI ha ⟨rfl, by decide⟩ (show vwCl[0]? = some (RX0, TX0, 15) from rfl) q_inX0 (f := 7) (by decide) (q_in_t2 (i := 13) (by first | rfl | decide +kernel) rfl) (Or.inl rfl) rfl hdg kk
theorem gs_X11_213_1 (E : q_E p c cc s m args RX11 X) (hI : q_I X n σ0 H0 locs σ H) (ha : q_kd X a = 1) (hdg : decode cc pc = .ok (.getfield 213, 3)) (kk : W p l e R s m args below meth c H locs cells slots Q (F0 m (pc + 3) ls (.int (σ.1 a 6) :: rest))) : W p l e R s m args below meth c H locs cells slots Q (F0 m pc ls (.ref a :: rest)) :=
  q_getf (ref := "CheatHeap$Game") E hI ha ⟨rfl, by decide⟩ (show vwCl[0]? = some (RX0, TX0, 15) from rfl) q_inX0 (f := 6) (by decide) (q_in_t2 (i := 10) (by first | rfl | decide +kernel) rfl) (Or.inl rfl) rfl hdg kk
theorem gs_X11_216_3 (E : q_E p c cc s m args RX11 X) (hI : q_I X n σ0 H0 locs σ H) (ha : q_kd X a = 3) (hdg : decode cc pc = .ok (.getfield 216, 3)) (kk : W p l e R s m args below meth c H locs cells slots Q (F0 m (pc + 3) ls (.int (σ.1 a 0) :: rest))) : W p l e R s m args below meth c H locs cells slots Q (F0 m pc ls (.ref a :: rest)) :=
  q_getf (ref := "CheatHeap$Pile") E hI ha ⟨rfl, by decide⟩ (show vwCl[2]? = some (RX2, TX2, 6) from rfl) q_inX2 (f := 0) (by decide) (q_in_t1 (i := 154) (by first | rfl | decide +kernel) rfl) (Or.inl rfl) rfl hdg kk
theorem kv_X11_219 : q_okV RX11 219 RX11 yX11_isPlayer cX11_isPlayer 2 (some .boolean) 1 := ⟨(q_in_t5 (i := 14) (by first | rfl | decide +kernel) rfl), (q_in_t5 (i := 16) (by first | rfl | decide +kernel) rfl), (q_in_p (i := 21) (by decide +kernel) rfl), (q_in_t1 (i := 1) (by first | rfl | decide +kernel) rfl), (q_in_t5 (i := 17) (by first | rfl | decide +kernel) rfl), ⟨rfl, by decide, by decide, rfl⟩⟩
theorem gs_X11_222_1 (E : q_E p c cc s m args RX11 X) (hI : q_I X n σ0 H0 locs σ H) (ha : q_kd X a = 1) (hdg : decode cc pc = .ok (.getfield 222, 3)) (kk : W p l e R s m args below meth c H locs cells slots Q (F0 m (pc + 3) ls (.ref (q_rf X a 1) :: rest))) : W p l e R s m args below meth c H locs cells slots Q (F0 m pc ls (.ref a :: rest)) :=
  q_getf (ref := "CheatHeap$Game") E hI ha ⟨rfl, by decide⟩ (show vwCl[0]? = some (RX0, TX0, 15) from rfl) q_inX0 (f := 1) (by decide) (q_in_t1 (i := 235) (by first | rfl | decide +kernel) rfl) (Or.inl rfl) rfl hdg kk
theorem gs_X11_226_2 (E : q_E p c cc s m args RX11 X) (hI : q_I X n σ0 H0 locs σ H) (ha : q_kd X a = 2) (hdg : decode cc pc = .ok (.getfield 226, 3)) (kk : W p l e R s m args below meth c H locs cells slots Q (F0 m (pc + 3) ls (.ref (q_rf X a 3) :: rest))) : W p l e R s m args below meth c H locs cells slots Q (F0 m pc ls (.ref a :: rest)) :=
  q_getf (ref := "CheatHeap$Hands") E hI ha ⟨rfl, by decide⟩ (show vwCl[1]? = some (RX1, TX1, 7) from rfl) q_inX1 (f := 3) (by decide) (q_in_t1 (i := 118) (by first | rfl | decide +kernel) rfl) (Or.inl rfl) rfl hdg kk
theorem kv_X11_232 : q_okV RX11 232 RX5 yX5_get cX5_get 2 (some .int) 1 := ⟨(q_in_t5 (i := 18) (by first | rfl | decide +kernel) rfl), (q_in_t4 (i := 73) (by first | rfl | decide +kernel) rfl), (q_in_t4 (i := 74) (by first | rfl | decide +kernel) rfl), (q_in_t1 (i := 4) (by first | rfl | decide +kernel) rfl), (q_in_t4 (i := 75) (by first | rfl | decide +kernel) rfl), ⟨rfl, by decide, by decide, rfl⟩⟩
theorem gs_X11_236_2 (E : q_E p c cc s m args RX11 X) (hI : q_I X n σ0 H0 locs σ H) (ha : q_kd X a = 2) (hdg : decode cc pc = .ok (.getfield 236, 3)) (kk : W p l e R s m args below meth c H locs cells slots Q (F0 m (pc + 3) ls (.ref (q_rf X a 4) :: rest))) : W p l e R s m args below meth c H locs cells slots Q (F0 m pc ls (.ref a :: rest)) :=
  q_getf (ref := "CheatHeap$Hands") E hI ha ⟨rfl, by decide⟩ (show vwCl[1]? = some (RX1, TX1, 7) from rfl) q_inX1 (f := 4) (by decide) (q_in_t1 (i := 122) (by first | rfl | decide +kernel) rfl) (Or.inl rfl) rfl hdg kk
theorem gs_X11_239_2 (E : q_E p c cc s m args RX11 X) (hI : q_I X n σ0 H0 locs σ H) (ha : q_kd X a = 2) (hdg : decode cc pc = .ok (.getfield 239, 3)) (kk : W p l e R s m args below meth c H locs cells slots Q (F0 m (pc + 3) ls (.ref (q_rf X a 2) :: rest))) : W p l e R s m args below meth c H locs cells slots Q (F0 m pc ls (.ref a :: rest)) :=
  q_getf (ref := "CheatHeap$Hands") E hI ha ⟨rfl, by decide⟩ (show vwCl[1]? = some (RX1, TX1, 7) from rfl) q_inX1 (f := 2) (by decide) (q_in_t1 (i := 114) (by first | rfl | decide +kernel) rfl) (Or.inl rfl) rfl hdg kk
theorem gs_X11_241_2 (E : q_E p c cc s m args RX11 X) (hI : q_I X n σ0 H0 locs σ H) (ha : q_kd X a = 2) (hdg : decode cc pc = .ok (.getfield 241, 3)) (kk : W p l e R s m args below meth c H locs cells slots Q (F0 m (pc + 3) ls (.ref (q_rf X a 5) :: rest))) : W p l e R s m args below meth c H locs cells slots Q (F0 m pc ls (.ref a :: rest)) :=
  q_getf (ref := "CheatHeap$Hands") E hI ha ⟨rfl, by decide⟩ (show vwCl[1]? = some (RX1, TX1, 7) from rfl) q_inX1 (f := 5) (by decide) (q_in_t1 (i := 126) (by first | rfl | decide +kernel) rfl) (Or.inl rfl) rfl hdg kk
theorem gs_X11_244_2 (E : q_E p c cc s m args RX11 X) (hI : q_I X n σ0 H0 locs σ H) (ha : q_kd X a = 2) (hdg : decode cc pc = .ok (.getfield 244, 3)) (kk : W p l e R s m args below meth c H locs cells slots Q (F0 m (pc + 3) ls (.ref (q_rf X a 6) :: rest))) : W p l e R s m args below meth c H locs cells slots Q (F0 m pc ls (.ref a :: rest)) :=
  q_getf (ref := "CheatHeap$Hands") E hI ha ⟨rfl, by decide⟩ (show vwCl[1]? = some (RX1, TX1, 7) from rfl) q_inX1 (f := 6) (by decide) (q_in_t1 (i := 129) (by first | rfl | decide +kernel) rfl) (Or.inl rfl) rfl hdg kk
theorem kv_X11_247 : q_okV RX11 247 RX1 yX1_allLaidBy cX1_allLaidBy 2 (some .int) 1 := ⟨(q_in_t5 (i := 19) (by first | rfl | decide +kernel) rfl), (q_in_t5 (i := 20) (by first | rfl | decide +kernel) rfl), (q_in_t5 (i := 21) (by first | rfl | decide +kernel) rfl), (q_in_t1 (i := 6) (by first | rfl | decide +kernel) rfl), (q_in_t5 (i := 22) (by first | rfl | decide +kernel) rfl), ⟨rfl, by decide, by decide, rfl⟩⟩
theorem kv_X11_250 : q_okV RX11 250 RX11 yX11_isKind cX11_isKind 2 (some .boolean) 1 := ⟨(q_in_t5 (i := 32) (by first | rfl | decide +kernel) rfl), (q_in_t5 (i := 34) (by first | rfl | decide +kernel) rfl), (q_in_p (i := 22) (by decide +kernel) rfl), (q_in_t1 (i := 1) (by first | rfl | decide +kernel) rfl), (q_in_t5 (i := 35) (by first | rfl | decide +kernel) rfl), ⟨rfl, by decide, by decide, rfl⟩⟩
theorem kv_X11_253 : q_okV RX11 253 RX1 yX1_heldBy cX1_heldBy 3 (some .int) 2 := ⟨(q_in_t5 (i := 36) (by first | rfl | decide +kernel) rfl), (q_in_t5 (i := 37) (by first | rfl | decide +kernel) rfl), (q_in_t5 (i := 38) (by first | rfl | decide +kernel) rfl), (q_in_t1 (i := 6) (by first | rfl | decide +kernel) rfl), (q_in_t5 (i := 39) (by first | rfl | decide +kernel) rfl), ⟨rfl, by decide, by decide, rfl⟩⟩
theorem gs_X11_257_6 (E : q_E p c cc s m args RX11 X) (hI : q_I X n σ0 H0 locs σ H) (ha : q_kd X a = 6) (hdg : decode cc pc = .ok (.getfield 257, 3)) (kk : W p l e R s m args below meth c H locs cells slots Q (F0 m (pc + 3) ls (.ref (q_rf X a 5) :: rest))) : W p l e R s m args below meth c H locs cells slots Q (F0 m pc ls (.ref a :: rest)) :=
  q_getf (ref := "CheatHeap$Rules") E hI ha ⟨rfl, by decide⟩ (show vwCl[5]? = some (RX6, TX6, 8) from rfl) q_inX6 (f := 5) (by decide) (q_in_t1 (i := 81) (by first | rfl | decide +kernel) rfl) (Or.inl rfl) rfl hdg kk
theorem gs_X11_260_3 (E : q_E p c cc s m args RX11 X) (hI : q_I X n σ0 H0 locs σ H) (ha : q_kd X a = 3) (hdg : decode cc pc = .ok (.getfield 260, 3)) (kk : W p l e R s m args below meth c H locs cells slots Q (F0 m (pc + 3) ls (.ref (q_rf X a 2) :: rest))) : W p l e R s m args below meth c H locs cells slots Q (F0 m pc ls (.ref a :: rest)) :=
  q_getf (ref := "CheatHeap$Pile") E hI ha ⟨rfl, by decide⟩ (show vwCl[2]? = some (RX2, TX2, 6) from rfl) q_inX2 (f := 2) (by decide) (q_in_t1 (i := 160) (by first | rfl | decide +kernel) rfl) (Or.inl rfl) rfl hdg kk
theorem gs_X11_263_3 (E : q_E p c cc s m args RX11 X) (hI : q_I X n σ0 H0 locs σ H) (ha : q_kd X a = 3) (hdg : decode cc pc = .ok (.getfield 263, 3)) (kk : W p l e R s m args below meth c H locs cells slots Q (F0 m (pc + 3) ls (.ref (q_rf X a 3) :: rest))) : W p l e R s m args below meth c H locs cells slots Q (F0 m pc ls (.ref a :: rest)) :=
  q_getf (ref := "CheatHeap$Pile") E hI ha ⟨rfl, by decide⟩ (show vwCl[2]? = some (RX2, TX2, 6) from rfl) q_inX2 (f := 3) (by decide) (q_in_t1 (i := 162) (by first | rfl | decide +kernel) rfl) (Or.inl rfl) rfl hdg kk
theorem gs_X11_266_3 (E : q_E p c cc s m args RX11 X) (hI : q_I X n σ0 H0 locs σ H) (ha : q_kd X a = 3) (hdg : decode cc pc = .ok (.getfield 266, 3)) (kk : W p l e R s m args below meth c H locs cells slots Q (F0 m (pc + 3) ls (.ref (q_rf X a 4) :: rest))) : W p l e R s m args below meth c H locs cells slots Q (F0 m pc ls (.ref a :: rest)) :=
  q_getf (ref := "CheatHeap$Pile") E hI ha ⟨rfl, by decide⟩ (show vwCl[2]? = some (RX2, TX2, 6) from rfl) q_inX2 (f := 4) (by decide) (q_in_t1 (i := 164) (by first | rfl | decide +kernel) rfl) (Or.inl rfl) rfl hdg kk
theorem kv_X11_269 : q_okV RX11 269 RX2 yX2_truth cX2_truth 4 (some .int) 1 := ⟨(q_in_t5 (i := 49) (by first | rfl | decide +kernel) rfl), (q_in_t5 (i := 50) (by first | rfl | decide +kernel) rfl), (q_in_t5 (i := 51) (by first | rfl | decide +kernel) rfl), (q_in_t1 (i := 7) (by first | rfl | decide +kernel) rfl), (q_in_t5 (i := 52) (by first | rfl | decide +kernel) rfl), ⟨rfl, by decide, by decide, rfl⟩⟩
theorem kv_X11_272 : q_okV RX11 272 RX2 yX2_kindOf cX2_kindOf 3 (some .int) 2 := ⟨(q_in_t5 (i := 58) (by first | rfl | decide +kernel) rfl), (q_in_t5 (i := 59) (by first | rfl | decide +kernel) rfl), (q_in_t5 (i := 60) (by first | rfl | decide +kernel) rfl), (q_in_t1 (i := 7) (by first | rfl | decide +kernel) rfl), (q_in_t5 (i := 61) (by first | rfl | decide +kernel) rfl), ⟨rfl, by decide, by decide, rfl⟩⟩
theorem kv_X11_275 : q_okV RX11 275 RX11 yX11_isKindOrNone cX11_isKindOrNone 2 (some .boolean) 1 := ⟨(q_in_t5 (i := 70) (by first | rfl | decide +kernel) rfl), (q_in_t5 (i := 72) (by first | rfl | decide +kernel) rfl), (q_in_p (i := 23) (by decide +kernel) rfl), (q_in_t1 (i := 1) (by first | rfl | decide +kernel) rfl), (q_in_t5 (i := 73) (by first | rfl | decide +kernel) rfl), ⟨rfl, by decide, by decide, rfl⟩⟩
theorem kv_X11_278 : q_okV RX11 278 RX0 yX0_clearWanted cX0_clearWanted 1 none 0 := ⟨(q_in_t5 (i := 74) (by first | rfl | decide +kernel) rfl), (q_in_t5 (i := 75) (by first | rfl | decide +kernel) rfl), (q_in_t5 (i := 76) (by first | rfl | decide +kernel) rfl), (q_in_t1 (i := 2) (by first | rfl | decide +kernel) rfl), (q_in_t5 (i := 77) (by first | rfl | decide +kernel) rfl), ⟨rfl, by decide, by decide, rfl⟩⟩
theorem kv_X11_281 : q_okV RX11 281 RX0 yX0_want cX0_want 3 none 2 := ⟨(q_in_t5 (i := 79) (by first | rfl | decide +kernel) rfl), (q_in_t5 (i := 80) (by first | rfl | decide +kernel) rfl), (q_in_t5 (i := 81) (by first | rfl | decide +kernel) rfl), (q_in_t1 (i := 2) (by first | rfl | decide +kernel) rfl), (q_in_t5 (i := 82) (by first | rfl | decide +kernel) rfl), ⟨rfl, by decide, by decide, rfl⟩⟩
theorem gs_X11_284_1 (E : q_E p c cc s m args RX11 X) (hI : q_I X n σ0 H0 locs σ H) (ha : q_kd X a = 1) (hdg : decode cc pc = .ok (.getfield 284, 3)) (kk : W p l e R s m args below meth c H locs cells slots Q (F0 m (pc + 3) ls (.int (σ.1 a 9) :: rest))) : W p l e R s m args below meth c H locs cells slots Q (F0 m pc ls (.ref a :: rest)) :=
  q_getf (ref := "CheatHeap$Game") E hI ha ⟨rfl, by decide⟩ (show vwCl[0]? = some (RX0, TX0, 15) from rfl) q_inX0 (f := 9) (by decide) (q_in_t2 (i := 16) (by first | rfl | decide +kernel) rfl) (Or.inl rfl) rfl hdg kk
theorem kv_X11_287 : q_okV RX11 287 RX0 yX0_holdsWanted cX0_holdsWanted 2 (some .boolean) 0 := ⟨(q_in_t5 (i := 84) (by first | rfl | decide +kernel) rfl), (q_in_t5 (i := 85) (by first | rfl | decide +kernel) rfl), (q_in_t5 (i := 86) (by first | rfl | decide +kernel) rfl), (q_in_t1 (i := 2) (by first | rfl | decide +kernel) rfl), (q_in_t5 (i := 87) (by first | rfl | decide +kernel) rfl), ⟨rfl, by decide, by decide, rfl⟩⟩
theorem kv_X11_290 : q_okV RX11 290 RX0 yX0_layWanted cX0_layWanted 2 none 0 := ⟨(q_in_t5 (i := 90) (by first | rfl | decide +kernel) rfl), (q_in_t5 (i := 91) (by first | rfl | decide +kernel) rfl), (q_in_t5 (i := 92) (by first | rfl | decide +kernel) rfl), (q_in_t1 (i := 2) (by first | rfl | decide +kernel) rfl), (q_in_t5 (i := 93) (by first | rfl | decide +kernel) rfl), ⟨rfl, by decide, by decide, rfl⟩⟩
theorem kv_X11_293 : q_okV RX11 293 RX0 yX0_letLie cX0_letLie 1 none 0 := ⟨(q_in_t5 (i := 113) (by first | rfl | decide +kernel) rfl), (q_in_t5 (i := 114) (by first | rfl | decide +kernel) rfl), (q_in_t5 (i := 115) (by first | rfl | decide +kernel) rfl), (q_in_t1 (i := 2) (by first | rfl | decide +kernel) rfl), (q_in_t5 (i := 116) (by first | rfl | decide +kernel) rfl), ⟨rfl, by decide, by decide, rfl⟩⟩
theorem kv_X11_296 : q_okV RX11 296 RX11 yX11_doubterStatus cX11_doubterStatus 2 (some .int) 1 := ⟨(q_in_t5 (i := 136) (by first | rfl | decide +kernel) rfl), (q_in_t5 (i := 138) (by first | rfl | decide +kernel) rfl), (q_in_p (i := 25) (by decide +kernel) rfl), (q_in_t1 (i := 1) (by first | rfl | decide +kernel) rfl), (q_in_t5 (i := 139) (by first | rfl | decide +kernel) rfl), ⟨rfl, by decide, by decide, rfl⟩⟩
theorem kv_X11_299 : q_okV RX11 299 RX0 yX0_challenge cX0_challenge 5 (some .int) 1 := ⟨(q_in_t5 (i := 140) (by first | rfl | decide +kernel) rfl), (q_in_t5 (i := 141) (by first | rfl | decide +kernel) rfl), (q_in_t5 (i := 142) (by first | rfl | decide +kernel) rfl), (q_in_t1 (i := 2) (by first | rfl | decide +kernel) rfl), (q_in_t5 (i := 143) (by first | rfl | decide +kernel) rfl), ⟨rfl, by decide, by decide, rfl⟩⟩
theorem ks_X11_302 : q_okS RX11 302 yX11_isSixteenths cX11_isSixteenths 1 (some .boolean) 1 := ⟨(q_in_t5 (i := 165) (by first | rfl | decide +kernel) rfl), (q_in_t5 (i := 166) (by first | rfl | decide +kernel) rfl), (q_in_t1 (i := 1) (by first | rfl | decide +kernel) rfl), (q_in_t5 (i := 167) (by first | rfl | decide +kernel) rfl), ⟨by decide, by decide, rfl⟩⟩
theorem kv_X11_305 : q_okV RX11 305 RX5 yX5_set cX5_set 3 none 2 := ⟨(q_in_t5 (i := 168) (by first | rfl | decide +kernel) rfl), (q_in_t4 (i := 83) (by first | rfl | decide +kernel) rfl), (q_in_t4 (i := 84) (by first | rfl | decide +kernel) rfl), (q_in_t1 (i := 4) (by first | rfl | decide +kernel) rfl), (q_in_t4 (i := 85) (by first | rfl | decide +kernel) rfl), ⟨rfl, by decide, by decide, rfl⟩⟩
theorem kv_X11_308 : q_okV RX11 308 RX1 yX1_knownTo cX1_knownTo 4 (some .int) 2 := ⟨(q_in_t5 (i := 173) (by first | rfl | decide +kernel) rfl), (q_in_t5 (i := 174) (by first | rfl | decide +kernel) rfl), (q_in_t5 (i := 175) (by first | rfl | decide +kernel) rfl), (q_in_t1 (i := 6) (by first | rfl | decide +kernel) rfl), (q_in_t5 (i := 176) (by first | rfl | decide +kernel) rfl), ⟨rfl, by decide, by decide, rfl⟩⟩
theorem kv_X11_314 : q_okV RX11 314 RX0 yX0_unknownTo cX0_unknownTo 3 (some .int) 2 := ⟨(q_in_t5 (i := 190) (by first | rfl | decide +kernel) rfl), (q_in_t5 (i := 186) (by first | rfl | decide +kernel) rfl), (q_in_t5 (i := 187) (by first | rfl | decide +kernel) rfl), (q_in_t1 (i := 2) (by first | rfl | decide +kernel) rfl), (q_in_t5 (i := 188) (by first | rfl | decide +kernel) rfl), ⟨rfl, by decide, by decide, rfl⟩⟩
theorem kv_X11_311 : q_okV RX11 311 RX0 yX0_allUnknownTo cX0_allUnknownTo 4 (some .int) 1 := ⟨(q_in_t5 (i := 181) (by first | rfl | decide +kernel) rfl), (q_in_t5 (i := 182) (by first | rfl | decide +kernel) rfl), (q_in_t5 (i := 183) (by first | rfl | decide +kernel) rfl), (q_in_t1 (i := 2) (by first | rfl | decide +kernel) rfl), (q_in_t5 (i := 184) (by first | rfl | decide +kernel) rfl), ⟨rfl, by decide, by decide, rfl⟩⟩
theorem kv_X11_317 : q_okV RX11 317 RX0 yX0_isImpossibleFor cX0_isImpossibleFor 2 (some .boolean) 1 := ⟨(q_in_t5 (i := 195) (by first | rfl | decide +kernel) rfl), (q_in_t5 (i := 196) (by first | rfl | decide +kernel) rfl), (q_in_t5 (i := 197) (by first | rfl | decide +kernel) rfl), (q_in_t1 (i := 2) (by first | rfl | decide +kernel) rfl), (q_in_t5 (i := 198) (by first | rfl | decide +kernel) rfl), ⟨rfl, by decide, by decide, rfl⟩⟩
theorem ks_X11_424 : q_okS RX11 424 yJ9_abs_067f4 cJ9_abs_067f4 2 (some .long) 1 := ⟨(q_in_t5 (i := 223) (by first | rfl | decide +kernel) rfl), (q_in_t5 (i := 224) (by first | rfl | decide +kernel) rfl), (q_in_t1 (i := 5) (by first | rfl | decide +kernel) rfl), (q_in_t5 (i := 225) (by first | rfl | decide +kernel) rfl), ⟨by decide, by decide, rfl⟩⟩
theorem ks_X11_428 : q_okS RX11 428 yX11_commonDivisor cX11_commonDivisor 7 (some .long) 2 := ⟨(q_in_t5 (i := 226) (by first | rfl | decide +kernel) rfl), (q_in_t5 (i := 227) (by first | rfl | decide +kernel) rfl), (q_in_t1 (i := 1) (by first | rfl | decide +kernel) rfl), (q_in_t5 (i := 228) (by first | rfl | decide +kernel) rfl), ⟨by decide, by decide, rfl⟩⟩
theorem ps_X11_13_11 (E : q_E p c cc s m args RX11 X) (hI : q_I X n σ0 H0 locs σ H) (ha : q_kd X a = 11) {v : Int64} (hdg : decode cc pc = .ok (.putfield 13, 3)) (kk : ∀ (H1 : Heap) (locs1 : List Loc) (σ1 : ST), σ1 = q_sl σ a 1 v → q_I X n σ0 H0 locs1 σ1 H1 → W p l e R s m args below meth c H1 locs1 cells slots Q (F0 m (pc + 3) ls rest)) : W p l e R s m args below meth c H locs cells slots Q (F0 m pc ls (.long v :: .ref a :: rest)) :=
  q_putl E hI ha ⟨rfl, by decide⟩ (show vwCl[10]? = some (RX11, TX11, 17) from rfl) q_inX11 tyX11_ok nmX11 (f := 1) (by decide) (q_in_t2 (i := 203) (by first | rfl | decide +kernel) rfl) (Or.inl rfl) rfl rfl rfl hdg (fun H1 l1 h => kk H1 l1 _ rfl h)
theorem ps_X11_17_11 (E : q_E p c cc s m args RX11 X) (hI : q_I X n σ0 H0 locs σ H) (ha : q_kd X a = 11) {v : Int64} (hdg : decode cc pc = .ok (.putfield 17, 3)) (kk : ∀ (H1 : Heap) (locs1 : List Loc) (σ1 : ST), σ1 = q_sl σ a 2 v → q_I X n σ0 H0 locs1 σ1 H1 → W p l e R s m args below meth c H1 locs1 cells slots Q (F0 m (pc + 3) ls rest)) : W p l e R s m args below meth c H locs cells slots Q (F0 m pc ls (.long v :: .ref a :: rest)) :=
  q_putl E hI ha ⟨rfl, by decide⟩ (show vwCl[10]? = some (RX11, TX11, 17) from rfl) q_inX11 tyX11_ok nmX11 (f := 2) (by decide) (q_in_t2 (i := 204) (by first | rfl | decide +kernel) rfl) (Or.inl rfl) rfl rfl rfl hdg (fun H1 l1 h => kk H1 l1 _ rfl h)
theorem kv_X11_320 : q_okV RX11 320 RX0 yX0_trueWays cX0_trueWays 2 (some .long) 1 := ⟨(q_in_t5 (i := 207) (by first | rfl | decide +kernel) rfl), (q_in_t5 (i := 208) (by first | rfl | decide +kernel) rfl), (q_in_t5 (i := 209) (by first | rfl | decide +kernel) rfl), (q_in_t1 (i := 2) (by first | rfl | decide +kernel) rfl), (q_in_t5 (i := 210) (by first | rfl | decide +kernel) rfl), ⟨rfl, by decide, by decide, rfl⟩⟩
theorem kv_X11_323 : q_okV RX11 323 RX0 yX0_allWays cX0_allWays 2 (some .long) 1 := ⟨(q_in_t5 (i := 214) (by first | rfl | decide +kernel) rfl), (q_in_t5 (i := 215) (by first | rfl | decide +kernel) rfl), (q_in_t5 (i := 216) (by first | rfl | decide +kernel) rfl), (q_in_t1 (i := 2) (by first | rfl | decide +kernel) rfl), (q_in_t5 (i := 217) (by first | rfl | decide +kernel) rfl), ⟨rfl, by decide, by decide, rfl⟩⟩
theorem kv_X11_326 : q_okV RX11 326 RX11 yX11_tell cX11_tell 7 (some .boolean) 2 := ⟨(q_in_t5 (i := 219) (by first | rfl | decide +kernel) rfl), (q_in_t5 (i := 221) (by first | rfl | decide +kernel) rfl), (q_in_p (i := 26) (by decide +kernel) rfl), (q_in_t1 (i := 1) (by first | rfl | decide +kernel) rfl), (q_in_t5 (i := 222) (by first | rfl | decide +kernel) rfl), ⟨rfl, by decide, by decide, rfl⟩⟩
theorem kv_X11_330 : q_okV RX11 330 RX1 yX1_honestTop cX1_honestTop 2 (some .long) 1 := ⟨(q_in_t5 (i := 233) (by first | rfl | decide +kernel) rfl), (q_in_t5 (i := 234) (by first | rfl | decide +kernel) rfl), (q_in_t5 (i := 235) (by first | rfl | decide +kernel) rfl), (q_in_t1 (i := 6) (by first | rfl | decide +kernel) rfl), (q_in_t5 (i := 236) (by first | rfl | decide +kernel) rfl), ⟨rfl, by decide, by decide, rfl⟩⟩
theorem kv_X11_333 : q_okV RX11 333 RX1 yX1_honestBottom cX1_honestBottom 2 (some .long) 1 := ⟨(q_in_t5 (i := 237) (by first | rfl | decide +kernel) rfl), (q_in_t5 (i := 238) (by first | rfl | decide +kernel) rfl), (q_in_t5 (i := 239) (by first | rfl | decide +kernel) rfl), (q_in_t1 (i := 6) (by first | rfl | decide +kernel) rfl), (q_in_t6 (i := 0) (by first | rfl | decide +kernel) rfl), ⟨rfl, by decide, by decide, rfl⟩⟩
theorem kv_X11_336 : q_okV RX11 336 RX0 yX0_worthTop cX0_worthTop 2 (some .long) 1 := ⟨(q_in_t6 (i := 10) (by first | rfl | decide +kernel) rfl), (q_in_t6 (i := 11) (by first | rfl | decide +kernel) rfl), (q_in_t6 (i := 12) (by first | rfl | decide +kernel) rfl), (q_in_t1 (i := 2) (by first | rfl | decide +kernel) rfl), (q_in_t6 (i := 13) (by first | rfl | decide +kernel) rfl), ⟨rfl, by decide, by decide, rfl⟩⟩
theorem kv_X11_339 : q_okV RX11 339 RX6 yX6_playerAfter cX6_playerAfter 3 (some .int) 2 := ⟨(q_in_t6 (i := 21) (by first | rfl | decide +kernel) rfl), (q_in_t5 (i := 129) (by first | rfl | decide +kernel) rfl), (q_in_t5 (i := 130) (by first | rfl | decide +kernel) rfl), (q_in_t1 (i := 3) (by first | rfl | decide +kernel) rfl), (q_in_t5 (i := 131) (by first | rfl | decide +kernel) rfl), ⟨rfl, by decide, by decide, rfl⟩⟩
theorem kv_X11_342 : q_okV RX11 342 RX1 yX1_laidBy cX1_laidBy 3 (some .int) 2 := ⟨(q_in_t6 (i := 26) (by first | rfl | decide +kernel) rfl), (q_in_t5 (i := 154) (by first | rfl | decide +kernel) rfl), (q_in_t5 (i := 155) (by first | rfl | decide +kernel) rfl), (q_in_t1 (i := 6) (by first | rfl | decide +kernel) rfl), (q_in_t5 (i := 156) (by first | rfl | decide +kernel) rfl), ⟨rfl, by decide, by decide, rfl⟩⟩
theorem kv_X11_345 : q_okV RX11 345 RX2 yX2_timesSaid cX2_timesSaid 5 (some .int) 2 := ⟨(q_in_t6 (i := 31) (by first | rfl | decide +kernel) rfl), (q_in_t6 (i := 32) (by first | rfl | decide +kernel) rfl), (q_in_t6 (i := 33) (by first | rfl | decide +kernel) rfl), (q_in_t1 (i := 7) (by first | rfl | decide +kernel) rfl), (q_in_t6 (i := 34) (by first | rfl | decide +kernel) rfl), ⟨rfl, by decide, by decide, rfl⟩⟩
theorem kv_X11_348 : q_okV RX11 348 RX0 yX0_turnsAhead cX0_turnsAhead 3 (some .int) 1 := ⟨(q_in_t6 (i := 39) (by first | rfl | decide +kernel) rfl), (q_in_t6 (i := 40) (by first | rfl | decide +kernel) rfl), (q_in_t6 (i := 41) (by first | rfl | decide +kernel) rfl), (q_in_t1 (i := 2) (by first | rfl | decide +kernel) rfl), (q_in_t6 (i := 42) (by first | rfl | decide +kernel) rfl), ⟨rfl, by decide, by decide, rfl⟩⟩
theorem kv_X11_351 : q_okV RX11 351 RX11 yX11_forecastStatus cX11_forecastStatus 3 (some .int) 2 := ⟨(q_in_t6 (i := 47) (by first | rfl | decide +kernel) rfl), (q_in_t6 (i := 49) (by first | rfl | decide +kernel) rfl), (q_in_p (i := 27) (by decide +kernel) rfl), (q_in_t1 (i := 1) (by first | rfl | decide +kernel) rfl), (q_in_t6 (i := 50) (by first | rfl | decide +kernel) rfl), ⟨rfl, by decide, by decide, rfl⟩⟩
theorem kv_X11_354 : q_okV RX11 354 RX0 yX0_fallingKind cX0_fallingKind 3 (some .int) 2 := ⟨(q_in_t6 (i := 51) (by first | rfl | decide +kernel) rfl), (q_in_t6 (i := 52) (by first | rfl | decide +kernel) rfl), (q_in_t6 (i := 53) (by first | rfl | decide +kernel) rfl), (q_in_t1 (i := 2) (by first | rfl | decide +kernel) rfl), (q_in_t6 (i := 54) (by first | rfl | decide +kernel) rfl), ⟨rfl, by decide, by decide, rfl⟩⟩
theorem kv_X11_357 : q_okV RX11 357 RX0 yX0_foresee cX0_foresee 7 none 2 := ⟨(q_in_t6 (i := 60) (by first | rfl | decide +kernel) rfl), (q_in_t6 (i := 61) (by first | rfl | decide +kernel) rfl), (q_in_t6 (i := 62) (by first | rfl | decide +kernel) rfl), (q_in_t1 (i := 2) (by first | rfl | decide +kernel) rfl), (q_in_t6 (i := 63) (by first | rfl | decide +kernel) rfl), ⟨rfl, by decide, by decide, rfl⟩⟩
theorem gs_X11_360_1 (E : q_E p c cc s m args RX11 X) (hI : q_I X n σ0 H0 locs σ H) (ha : q_kd X a = 1) (hdg : decode cc pc = .ok (.getfield 360, 3)) (kk : W p l e R s m args below meth c H locs cells slots Q (F0 m (pc + 3) ls (.int (σ.1 a 11) :: rest))) : W p l e R s m args below meth c H locs cells slots Q (F0 m pc ls (.ref a :: rest)) :=
  q_getf (ref := "CheatHeap$Game") E hI ha ⟨rfl, by decide⟩ (show vwCl[0]? = some (RX0, TX0, 15) from rfl) q_inX0 (f := 11) (by decide) (q_in_t2 (i := 19) (by first | rfl | decide +kernel) rfl) (Or.inl rfl) rfl hdg kk
theorem gs_X11_363_1 (E : q_E p c cc s m args RX11 X) (hI : q_I X n σ0 H0 locs σ H) (ha : q_kd X a = 1) (hdg : decode cc pc = .ok (.getfield 363, 3)) (kk : W p l e R s m args below meth c H locs cells slots Q (F0 m (pc + 3) ls (.int (σ.1 a 12) :: rest))) : W p l e R s m args below meth c H locs cells slots Q (F0 m pc ls (.ref a :: rest)) :=
  q_getf (ref := "CheatHeap$Game") E hI ha ⟨rfl, by decide⟩ (show vwCl[0]? = some (RX0, TX0, 15) from rfl) q_inX0 (f := 12) (by decide) (q_in_t2 (i := 21) (by first | rfl | decide +kernel) rfl) (Or.inl rfl) rfl hdg kk
theorem kv_X11_366 : q_okV RX11 366 RX11 yX11_goodOrNotThere cX11_goodOrNotThere 2 (some .int) 1 := ⟨(q_in_t6 (i := 71) (by first | rfl | decide +kernel) rfl), (q_in_t6 (i := 73) (by first | rfl | decide +kernel) rfl), (q_in_p (i := 28) (by decide +kernel) rfl), (q_in_t1 (i := 1) (by first | rfl | decide +kernel) rfl), (q_in_t6 (i := 74) (by first | rfl | decide +kernel) rfl), ⟨rfl, by decide, by decide, rfl⟩⟩
theorem gs_X11_369_1 (E : q_E p c cc s m args RX11 X) (hI : q_I X n σ0 H0 locs σ H) (ha : q_kd X a = 1) (hdg : decode cc pc = .ok (.getfield 369, 3)) (kk : W p l e R s m args below meth c H locs cells slots Q (F0 m (pc + 3) ls (.int (σ.1 a 13) :: rest))) : W p l e R s m args below meth c H locs cells slots Q (F0 m pc ls (.ref a :: rest)) :=
  q_getf (ref := "CheatHeap$Game") E hI ha ⟨rfl, by decide⟩ (show vwCl[0]? = some (RX0, TX0, 15) from rfl) q_inX0 (f := 13) (by decide) (q_in_t2 (i := 23) (by first | rfl | decide +kernel) rfl) (Or.inl rfl) rfl hdg kk
theorem gs_X11_372_1 (E : q_E p c cc s m args RX11 X) (hI : q_I X n σ0 H0 locs σ H) (ha : q_kd X a = 1) (hdg : decode cc pc = .ok (.getfield 372, 3)) (kk : W p l e R s m args below meth c H locs cells slots Q (F0 m (pc + 3) ls (.int (σ.1 a 14) :: rest))) : W p l e R s m args below meth c H locs cells slots Q (F0 m pc ls (.ref a :: rest)) :=
  q_getf (ref := "CheatHeap$Game") E hI ha ⟨rfl, by decide⟩ (show vwCl[0]? = some (RX0, TX0, 15) from rfl) q_inX0 (f := 14) (by decide) (q_in_t2 (i := 25) (by first | rfl | decide +kernel) rfl) (Or.inl rfl) rfl hdg kk
theorem ks_X11_375 : q_okS RX11 375 yJ9_min_7cf53 cJ9_min_7cf53 2 (some .int) 2 := ⟨(q_in_t6 (i := 91) (by first | rfl | decide +kernel) rfl), (q_in_t3 (i := 43) (by first | rfl | decide +kernel) rfl), (q_in_t1 (i := 5) (by first | rfl | decide +kernel) rfl), (q_in_t3 (i := 44) (by first | rfl | decide +kernel) rfl), ⟨by decide, by decide, rfl⟩⟩
theorem kv_X11_380 : q_okV RX11 380 RX0 yX0_sixteenthsLeft cX0_sixteenthsLeft 5 (some .int) 3 := ⟨(q_in_t6 (i := 92) (by first | rfl | decide +kernel) rfl), (q_in_t6 (i := 93) (by first | rfl | decide +kernel) rfl), (q_in_t6 (i := 94) (by first | rfl | decide +kernel) rfl), (q_in_t1 (i := 2) (by first | rfl | decide +kernel) rfl), (q_in_t6 (i := 95) (by first | rfl | decide +kernel) rfl), ⟨rfl, by decide, by decide, rfl⟩⟩
theorem kv_X11_386 : q_okV RX11 386 RX6 yX6_kindAfter cX6_kindAfter 3 (some .int) 2 := ⟨(q_in_t6 (i := 101) (by first | rfl | decide +kernel) rfl), (q_in_t5 (i := 122) (by first | rfl | decide +kernel) rfl), (q_in_t5 (i := 123) (by first | rfl | decide +kernel) rfl), (q_in_t1 (i := 3) (by first | rfl | decide +kernel) rfl), (q_in_t5 (i := 124) (by first | rfl | decide +kernel) rfl), ⟨rfl, by decide, by decide, rfl⟩⟩
theorem kv_X11_389 : q_okV RX11 389 RX0 yX0_lyingOf cX0_lyingOf 4 (some .int) 1 := ⟨(q_in_t6 (i := 110) (by first | rfl | decide +kernel) rfl), (q_in_t6 (i := 111) (by first | rfl | decide +kernel) rfl), (q_in_t6 (i := 112) (by first | rfl | decide +kernel) rfl), (q_in_t1 (i := 2) (by first | rfl | decide +kernel) rfl), (q_in_t6 (i := 113) (by first | rfl | decide +kernel) rfl), ⟨rfl, by decide, by decide, rfl⟩⟩
theorem ks_X11_392 : q_okS RX11 392 yX11_waysToTake cX11_waysToTake 5 (some .long) 2 := ⟨(q_in_t6 (i := 119) (by first | rfl | decide +kernel) rfl), (q_in_t5 (i := 212) (by first | rfl | decide +kernel) rfl), (q_in_t1 (i := 1) (by first | rfl | decide +kernel) rfl), (q_in_t5 (i := 213) (by first | rfl | decide +kernel) rfl), ⟨by decide, by decide, rfl⟩⟩
theorem gs_X11_396_8 (E : q_E p c cc s m args RX11 X) (hI : q_I X n σ0 H0 locs σ H) (ha : q_kd X a = 8) (hdg : decode cc pc = .ok (.getfield 396, 3)) (kk : W p l e R s m args below meth c H locs cells slots Q (F0 m (pc + 3) ls (.int (σ.1 a 0) :: rest))) : W p l e R s m args below meth c H locs cells slots Q (F0 m pc ls (.ref a :: rest)) :=
  q_getf (ref := "CheatHeap$Script") E hI ha ⟨rfl, by decide⟩ (show vwCl[7]? = some (RX8, TX8, 8) from rfl) q_inX8 (f := 0) (by decide) (q_in_t1 (i := 189) (by first | rfl | decide +kernel) rfl) (Or.inl rfl) rfl hdg kk
theorem gs_X11_73_11 (E : q_E p c cc s m args RX11 X) (hI : q_I X n σ0 H0 locs σ H) (ha : q_kd X a = 11) (hdg : decode cc pc = .ok (.getfield 73, 3)) (kk : W p l e R s m args below meth c H locs cells slots Q (F0 m (pc + 3) ls (.ref (q_rf X a 14) :: rest))) : W p l e R s m args below meth c H locs cells slots Q (F0 m pc ls (.ref a :: rest)) :=
  q_getf (ref := "CheatHeap") E hI ha ⟨rfl, by decide⟩ (show vwCl[10]? = some (RX11, TX11, 17) from rfl) q_inX11 (f := 14) (by decide) (q_in_t2 (i := 216) (by first | rfl | decide +kernel) rfl) (Or.inl rfl) rfl hdg kk
theorem kv_X11_399 : q_okV RX11 399 RX7 yX7_go cX7_go 6 none 2 := ⟨(q_in_t6 (i := 140) (by first | rfl | decide +kernel) rfl), (q_in_t6 (i := 141) (by first | rfl | decide +kernel) rfl), (q_in_t6 (i := 142) (by first | rfl | decide +kernel) rfl), (q_in_t1 (i := 12) (by first | rfl | decide +kernel) rfl), (q_in_t6 (i := 143) (by first | rfl | decide +kernel) rfl), ⟨rfl, by decide, by decide, rfl⟩⟩
theorem ps_X11_80_11 (E : q_E p c cc s m args RX11 X) (hI : q_I X n σ0 H0 locs σ H) (ha : q_kd X a = 11) {v : Int32} (hcl : n < 9) (h1 : 0 ≤ v.toInt) (h2 : v.toInt ≤ 1) (hdg : decode cc pc = .ok (.putfield 80, 3)) (kk : ∀ (H1 : Heap) (locs1 : List Loc) (σ1 : ST), σ1 = q_si σ a 16 v → q_I X n σ0 H0 locs1 σ1 H1 → W p l e R s m args below meth c H1 locs1 cells slots Q (F0 m (pc + 3) ls rest)) : W p l e R s m args below meth c H locs cells slots Q (F0 m pc ls (.int v :: .ref a :: rest)) :=
  q_puti (ref := "CheatHeap") E hI ha ⟨rfl, by decide⟩ (show vwCl[10]? = some (RX11, TX11, 17) from rfl) q_inX11 tyX11_ok nmX11 (f := 16) (by decide) (q_in_t2 (i := 218) (by first | rfl | decide +kernel) rfl) (Or.inl rfl) rfl rfl hcl hdg (q_inB rfl h1 h2) (Or.inr ⟨rfl, h1, h2⟩) (fun H1 l1 h => kk H1 l1 _ rfl h)
theorem gs_X11_403_7 (E : q_E p c cc s m args RX11 X) (hI : q_I X n σ0 H0 locs σ H) (ha : q_kd X a = 7) (hdg : decode cc pc = .ok (.getfield 403, 3)) (kk : W p l e R s m args below meth c H locs cells slots Q (F0 m (pc + 3) ls (.int (σ.1 a 0) :: rest))) : W p l e R s m args below meth c H locs cells slots Q (F0 m pc ls (.ref a :: rest)) :=
  q_getf (ref := "CheatHeap$Run") E hI ha ⟨rfl, by decide⟩ (show vwCl[6]? = some (RX7, TX7, 8) from rfl) q_inX7 (f := 0) (by decide) (q_in_t2 (i := 155) (by first | rfl | decide +kernel) rfl) (Or.inl rfl) rfl hdg kk
theorem gs_X11_80_11 (E : q_E p c cc s m args RX11 X) (hI : q_I X n σ0 H0 locs σ H) (ha : q_kd X a = 11) (hdg : decode cc pc = .ok (.getfield 80, 3)) (kk : W p l e R s m args below meth c H locs cells slots Q (F0 m (pc + 3) ls (.int (σ.1 a 16) :: rest))) : W p l e R s m args below meth c H locs cells slots Q (F0 m pc ls (.ref a :: rest)) :=
  q_getf (ref := "CheatHeap") E hI ha ⟨rfl, by decide⟩ (show vwCl[10]? = some (RX11, TX11, 17) from rfl) q_inX11 (f := 16) (by decide) (q_in_t2 (i := 218) (by first | rfl | decide +kernel) rfl) (Or.inl rfl) rfl hdg kk
theorem gs_X11_404_7 (E : q_E p c cc s m args RX11 X) (hI : q_I X n σ0 H0 locs σ H) (ha : q_kd X a = 7) (hdg : decode cc pc = .ok (.getfield 404, 3)) (kk : W p l e R s m args below meth c H locs cells slots Q (F0 m (pc + 3) ls (.int (σ.1 a 1) :: rest))) : W p l e R s m args below meth c H locs cells slots Q (F0 m pc ls (.ref a :: rest)) :=
  q_getf (ref := "CheatHeap$Run") E hI ha ⟨rfl, by decide⟩ (show vwCl[6]? = some (RX7, TX7, 8) from rfl) q_inX7 (f := 1) (by decide) (q_in_t2 (i := 157) (by first | rfl | decide +kernel) rfl) (Or.inl rfl) rfl hdg kk
theorem gs_X11_407_7 (E : q_E p c cc s m args RX11 X) (hI : q_I X n σ0 H0 locs σ H) (ha : q_kd X a = 7) (hdg : decode cc pc = .ok (.getfield 407, 3)) (kk : W p l e R s m args below meth c H locs cells slots Q (F0 m (pc + 3) ls (.int (σ.1 a 2) :: rest))) : W p l e R s m args below meth c H locs cells slots Q (F0 m pc ls (.ref a :: rest)) :=
  q_getf (ref := "CheatHeap$Run") E hI ha ⟨rfl, by decide⟩ (show vwCl[6]? = some (RX7, TX7, 8) from rfl) q_inX7 (f := 2) (by decide) (q_in_t2 (i := 159) (by first | rfl | decide +kernel) rfl) (Or.inl rfl) rfl hdg kk
theorem gs_X11_408_7 (E : q_E p c cc s m args RX11 X) (hI : q_I X n σ0 H0 locs σ H) (ha : q_kd X a = 7) (hdg : decode cc pc = .ok (.getfield 408, 3)) (kk : W p l e R s m args below meth c H locs cells slots Q (F0 m (pc + 3) ls (.int (σ.1 a 3) :: rest))) : W p l e R s m args below meth c H locs cells slots Q (F0 m pc ls (.ref a :: rest)) :=
  q_getf (ref := "CheatHeap$Run") E hI ha ⟨rfl, by decide⟩ (show vwCl[6]? = some (RX7, TX7, 8) from rfl) q_inX7 (f := 3) (by decide) (q_in_t2 (i := 161) (by first | rfl | decide +kernel) rfl) (Or.inl rfl) rfl hdg kk
theorem gs_X11_411_7 (E : q_E p c cc s m args RX11 X) (hI : q_I X n σ0 H0 locs σ H) (ha : q_kd X a = 7) (hdg : decode cc pc = .ok (.getfield 411, 3)) (kk : W p l e R s m args below meth c H locs cells slots Q (F0 m (pc + 3) ls (.int (σ.1 a 4) :: rest))) : W p l e R s m args below meth c H locs cells slots Q (F0 m pc ls (.ref a :: rest)) :=
  q_getf (ref := "CheatHeap$Run") E hI ha ⟨rfl, by decide⟩ (show vwCl[6]? = some (RX7, TX7, 8) from rfl) q_inX7 (f := 4) (by decide) (q_in_t2 (i := 163) (by first | rfl | decide +kernel) rfl) (Or.inl rfl) rfl hdg kk
theorem gs_X11_414_7 (E : q_E p c cc s m args RX11 X) (hI : q_I X n σ0 H0 locs σ H) (ha : q_kd X a = 7) (hdg : decode cc pc = .ok (.getfield 414, 3)) (kk : W p l e R s m args below meth c H locs cells slots Q (F0 m (pc + 3) ls (.int (σ.1 a 5) :: rest))) : W p l e R s m args below meth c H locs cells slots Q (F0 m pc ls (.ref a :: rest)) :=
  q_getf (ref := "CheatHeap$Run") E hI ha ⟨rfl, by decide⟩ (show vwCl[6]? = some (RX7, TX7, 8) from rfl) q_inX7 (f := 5) (by decide) (q_in_t2 (i := 165) (by first | rfl | decide +kernel) rfl) (Or.inl rfl) rfl hdg kk
theorem kv_X11_417 : q_okV RX11 417 RX11 yX11_seedsStatus cX11_seedsStatus 4 (some .int) 3 := ⟨(q_in_t6 (i := 199) (by first | rfl | decide +kernel) rfl), (q_in_t6 (i := 201) (by first | rfl | decide +kernel) rfl), (q_in_p (i := 35) (by decide +kernel) rfl), (q_in_t1 (i := 1) (by first | rfl | decide +kernel) rfl), (q_in_t6 (i := 202) (by first | rfl | decide +kernel) rfl), ⟨rfl, by decide, by decide, rfl⟩⟩
theorem gs_X11_46_11 (E : q_E p c cc s m args RX11 X) (hI : q_I X n σ0 H0 locs σ H) (ha : q_kd X a = 11) (hdg : decode cc pc = .ok (.getfield 46, 3)) (kk : W p l e R s m args below meth c H locs cells slots Q (F0 m (pc + 3) ls (.ref (q_rf X a 9) :: rest))) : W p l e R s m args below meth c H locs cells slots Q (F0 m pc ls (.ref a :: rest)) :=
  q_getf (ref := "CheatHeap") E hI ha ⟨rfl, by decide⟩ (show vwCl[10]? = some (RX11, TX11, 17) from rfl) q_inX11 (f := 9) (by decide) (q_in_t2 (i := 211) (by first | rfl | decide +kernel) rfl) (Or.inl rfl) rfl hdg kk
theorem gs_X11_77_11 (E : q_E p c cc s m args RX11 X) (hI : q_I X n σ0 H0 locs σ H) (ha : q_kd X a = 11) (hdg : decode cc pc = .ok (.getfield 77, 3)) (kk : W p l e R s m args below meth c H locs cells slots Q (F0 m (pc + 3) ls (.ref (q_rf X a 15) :: rest))) : W p l e R s m args below meth c H locs cells slots Q (F0 m pc ls (.ref a :: rest)) :=
  q_getf (ref := "CheatHeap") E hI ha ⟨rfl, by decide⟩ (show vwCl[10]? = some (RX11, TX11, 17) from rfl) q_inX11 (f := 15) (by decide) (q_in_t2 (i := 217) (by first | rfl | decide +kernel) rfl) (Or.inl rfl) rfl hdg kk
theorem gs_X11_49_11 (E : q_E p c cc s m args RX11 X) (hI : q_I X n σ0 H0 locs σ H) (ha : q_kd X a = 11) (hdg : decode cc pc = .ok (.getfield 49, 3)) (kk : W p l e R s m args below meth c H locs cells slots Q (F0 m (pc + 3) ls (.ref (q_rf X a 10) :: rest))) : W p l e R s m args below meth c H locs cells slots Q (F0 m pc ls (.ref a :: rest)) :=
  q_getf (ref := "CheatHeap") E hI ha ⟨rfl, by decide⟩ (show vwCl[10]? = some (RX11, TX11, 17) from rfl) q_inX11 (f := 10) (by decide) (q_in_t2 (i := 212) (by first | rfl | decide +kernel) rfl) (Or.inl rfl) rfl hdg kk
theorem gs_X11_53_11 (E : q_E p c cc s m args RX11 X) (hI : q_I X n σ0 H0 locs σ H) (ha : q_kd X a = 11) (hdg : decode cc pc = .ok (.getfield 53, 3)) (kk : W p l e R s m args below meth c H locs cells slots Q (F0 m (pc + 3) ls (.int (σ.1 a 11) :: rest))) : W p l e R s m args below meth c H locs cells slots Q (F0 m pc ls (.ref a :: rest)) :=
  q_getf (ref := "CheatHeap") E hI ha ⟨rfl, by decide⟩ (show vwCl[10]? = some (RX11, TX11, 17) from rfl) q_inX11 (f := 11) (by decide) (q_in_t2 (i := 213) (by first | rfl | decide +kernel) rfl) (Or.inl rfl) rfl hdg kk
theorem kv_X11_420 : q_okV RX11 420 RX11 yX11_markAt cX11_markAt 2 (some (.object "CheatHeap$Game")) 1 := ⟨(q_in_t6 (i := 211) (by first | rfl | decide +kernel) rfl), (q_in_t6 (i := 213) (by first | rfl | decide +kernel) rfl), (q_in_p (i := 36) (by decide +kernel) rfl), (q_in_t1 (i := 1) (by first | rfl | decide +kernel) rfl), (q_in_t6 (i := 214) (by first | rfl | decide +kernel) rfl), ⟨rfl, by decide, by decide, rfl⟩⟩
theorem ps_X11_53_11 (E : q_E p c cc s m args RX11 X) (hI : q_I X n σ0 H0 locs σ H) (ha : q_kd X a = 11) {v : Int32} (hcl : n < 1) (h1 : 0 ≤ v.toInt) (h2 : v.toInt ≤ 3) (hdg : decode cc pc = .ok (.putfield 53, 3)) (kk : ∀ (H1 : Heap) (locs1 : List Loc) (σ1 : ST), σ1 = q_si σ a 11 v → q_I X n σ0 H0 locs1 σ1 H1 → W p l e R s m args below meth c H1 locs1 cells slots Q (F0 m (pc + 3) ls rest)) : W p l e R s m args below meth c H locs cells slots Q (F0 m pc ls (.int v :: .ref a :: rest)) :=
  q_puti (ref := "CheatHeap") E hI ha ⟨rfl, by decide⟩ (show vwCl[10]? = some (RX11, TX11, 17) from rfl) q_inX11 tyX11_ok nmX11 (f := 11) (by decide) (q_in_t2 (i := 213) (by first | rfl | decide +kernel) rfl) (Or.inl rfl) rfl rfl hcl hdg (q_inB rfl h1 h2) (Or.inl rfl) (fun H1 l1 h => kk H1 l1 _ rfl h)
end QS
end
/-! FROM 16.class.b00.lean.txt -/
section
set_option maxRecDepth 100000 in
set_option maxHeartbeats 4000000 in
theorem c_X11_status (l : Launch) (X : XW) (σ : ST) (a : Nat) (ha : q_kd X a = 11) : Met l yX11_status (q_ws yX11_status cX11_status 1 (some .int)) (q_rm 0 0) (q_P X σ [.ref a]) (q_Qi X 9 σ (fun (r : Int32) (σ' : ST) => σ' = σ ∧ r = F_X11_status X σ a)) 0 0 (q_reg X) := by
  refine q_met 9 (by first | exact rfl | decide +kernel) rfl (Nat.le_of_ble_eq_true rfl) (fun p e s m below meth c E hml hr hlk hI ls hl => ?_)
  have hx := E.1
  have hb := E.2.1
  have hl : lv_has ls 1 [(0, .ref a)] := hl
  obtain ⟨out, hout⟩ : ∃ o, o = F_X11_status X σ a := ⟨_, rfl⟩
  have hF := hout.symm
  unfold F_X11_status at hF
  refine lv_aload_n hx hb dX11_status_0 rfl (lv_at hl 0 rfl) ?_
  refine gs_X11_9_11 E hI ha dX11_status_1 ?_
  refine lv_topi (fun f_1 ef_1 => ?_)
  replace hF := q_letX hF ef_1
  exact q_reti E hr hlk hI ⟨rfl, (hF.trans hout)⟩ dX11_status_4

set_option maxRecDepth 100000 in
set_option maxHeartbeats 4000000 in
theorem c_X11_top (l : Launch) (X : XW) (σ : ST) (a : Nat) (ha : q_kd X a = 11) : Met l yX11_top (q_ws yX11_top cX11_top 1 (some .long)) (q_rm 0 0) (q_P X σ [.ref a]) (q_Ql X 9 σ (fun (r : Int64) (σ' : ST) => σ' = σ ∧ r = F_X11_top X σ a)) 0 0 (q_reg X) := by
  refine q_met 9 (by first | exact rfl | decide +kernel) rfl (Nat.le_of_ble_eq_true rfl) (fun p e s m below meth c E hml hr hlk hI ls hl => ?_)
  have hx := E.1
  have hb := E.2.1
  have hl : lv_has ls 1 [(0, .ref a)] := hl
  obtain ⟨out, hout⟩ : ∃ o, o = F_X11_top X σ a := ⟨_, rfl⟩
  have hF := hout.symm
  unfold F_X11_top at hF
  refine lv_aload_n hx hb dX11_top_0 rfl (lv_at hl 0 rfl) ?_
  refine gs_X11_13_11 E hI ha dX11_top_1 ?_
  refine lv_topl (fun g_1 eg_1 => ?_)
  replace hF := q_letX hF eg_1
  exact q_retl E hr hlk hI ⟨rfl, (hF.trans hout)⟩ dX11_top_4

set_option maxRecDepth 100000 in
set_option maxHeartbeats 4000000 in
theorem c_X11_bottom (l : Launch) (X : XW) (σ : ST) (a : Nat) (ha : q_kd X a = 11) : Met l yX11_bottom (q_ws yX11_bottom cX11_bottom 1 (some .long)) (q_rm 0 0) (q_P X σ [.ref a]) (q_Ql X 9 σ (fun (r : Int64) (σ' : ST) => σ' = σ ∧ r = F_X11_bottom X σ a)) 0 0 (q_reg X) := by
  refine q_met 9 (by first | exact rfl | decide +kernel) rfl (Nat.le_of_ble_eq_true rfl) (fun p e s m below meth c E hml hr hlk hI ls hl => ?_)
  have hx := E.1
  have hb := E.2.1
  have hl : lv_has ls 1 [(0, .ref a)] := hl
  obtain ⟨out, hout⟩ : ∃ o, o = F_X11_bottom X σ a := ⟨_, rfl⟩
  have hF := hout.symm
  unfold F_X11_bottom at hF
  refine lv_aload_n hx hb dX11_bottom_0 rfl (lv_at hl 0 rfl) ?_
  refine gs_X11_17_11 E hI ha dX11_bottom_1 ?_
  refine lv_topl (fun g_1 eg_1 => ?_)
  replace hF := q_letX hF eg_1
  exact q_retl E hr hlk hI ⟨rfl, (hF.trans hout)⟩ dX11_bottom_4

set_option maxRecDepth 100000 in
set_option maxHeartbeats 4000000 in
theorem c_X11_trayAt (l : Launch) (X : XW) (σ : ST) (a : Nat) (v1 : Int32) (ha : q_kd X a = 11) : Met l yX11_trayAt (q_ws yX11_trayAt cX11_trayAt 2 (some (.object "CheatHeap$Tray"))) (q_rm 0 0) (q_P X σ [.ref a, .int v1]) (q_Qq X 9 σ (fun (r : Option Nat) (σ' : ST) => σ' = σ ∧ ((∀ y, r = some y → q_kd X y = 10 ∧ y = (q_rf X (q_rf X a 3) v1.toNatClampNeg) ∧ 0 ≤ v1.toInt ∧ v1.toInt < 4) ∧ (r = none → ¬ (0 ≤ v1.toInt ∧ v1.toInt < 4))) ∧ r = F_X11_trayAt X σ a v1)) 0 0 (q_reg X) := by
  refine q_met 9 (by first | exact rfl | decide +kernel) rfl (Nat.le_of_ble_eq_true rfl) (fun p e s m below meth c E hml hr hlk hI ls hl => ?_)
  have hx := E.1
  have hb := E.2.1
  have hl : lv_has ls 2 [(0, .ref a), (1, .int v1)] := hl
  obtain ⟨out, hout⟩ : ∃ o, o = F_X11_trayAt X σ a v1 := ⟨_, rfl⟩
  have hF := hout.symm
  unfold F_X11_trayAt at hF
  refine lv_iload_n hx hb dX11_trayAt_0 rfl (lv_at hl 1 rfl) ?_
  refine q_if_lt (A := v1.toInt) E rfl (tgt := 18) dX11_trayAt_1 (by decide) (fun c_1 => ?_) (fun c_1 => ?_)
  · skip
    replace hF := q_ifp hF c_1
    refine lv_null hx hb dX11_trayAt_18 ?_
    exact q_retq (r := none) E hr hlk hI rfl ⟨rfl, ⟨fun y h => (nomatch h), fun _ => by omega⟩, (hF.trans hout)⟩ dX11_trayAt_19
  · skip
    replace hF := q_ifn hF (Int.not_lt.mpr c_1)
    refine lv_iload_n hx hb dX11_trayAt_4 rfl (lv_at hl 1 rfl) ?_
    refine lv_iconst (v := 4) hx hb dX11_trayAt_5 zki_4 ?_
    refine q_icmp_ge (A := v1.toInt) (B := 4) E rfl (by decide) (tgt := 18) dX11_trayAt_6 (by decide) (fun c_2 => ?_) (fun c_2 => ?_)
    · skip
      replace hF := q_ifn hF (Int.not_lt.mpr c_2)
      refine lv_null hx hb dX11_trayAt_18 ?_
      exact q_retq (r := none) E hr hlk hI rfl ⟨rfl, ⟨fun y h => (nomatch h), fun _ => by omega⟩, (hF.trans hout)⟩ dX11_trayAt_19
    · skip
      replace hF := q_ifp hF c_2
      refine lv_aload_n hx hb dX11_trayAt_9 rfl (lv_at hl 0 rfl) ?_
      refine gs_X11_22_11 E hI ha dX11_trayAt_10 ?_
      refine lv_iload_n hx hb dX11_trayAt_13 rfl (lv_at hl 1 rfl) ?_
      refine q_aald E hI (q_tk (k' := 23) hI ha rfl (Nat.succ_ne_zero _)) (Or.inl rfl) (by omega) (by rw [q_lnk (v := 4) hI (q_tk (k' := 23) hI ha rfl (Nat.succ_ne_zero _)) rfl (by decide)]; omega) dX11_trayAt_14 ?_
      refine lv_goto (tgt := 19) hx hb dX11_trayAt_15 (by decide) ?_
      exact q_retq (r := some (q_rf X (q_rf X a 3) (v1 : Int32).toNatClampNeg)) E hr hlk hI rfl ⟨rfl, ⟨fun y h => by cases h; exact ⟨(q_tk23 hI (q_tk (k' := 23) hI ha rfl (Nat.succ_ne_zero _)) (by omega) (by omega)), rfl, by omega, by omega⟩, fun h => (nomatch h)⟩, (hF.trans hout)⟩ dX11_trayAt_19

set_option maxRecDepth 100000 in
set_option maxHeartbeats 4000000 in
theorem c_X11_no (l : Launch) (X : XW) (σ : ST) (a : Nat) (v1 : Int32) (ha : q_kd X a = 11) : Met l yX11_no (q_ws yX11_no cX11_no 2 (some .boolean)) (q_rm 0 0) (q_P X σ [.ref a, .int v1]) (q_Qi X 8 σ (fun (r : Int32) (σ' : ST) => (0 ≤ r.toInt ∧ r.toInt ≤ 1) ∧ (r.toInt = 0) ∧ (r, σ') = F_X11_no X σ a v1 ∧ q_ow [(11, 0)] [] X σ σ')) 0 0 (q_reg X) := by
  refine q_met 8 (by first | exact rfl | decide +kernel) rfl (Nat.le_of_ble_eq_true rfl) (fun p e s m below meth c E hml hr hlk hI ls hl => ?_)
  have hx := E.1
  have hb := E.2.1
  have hl : lv_has ls 2 [(0, .ref a), (1, .int v1)] := hl
  have fr_σ : q_ow [(11, 0)] [] X σ σ := q_ow.rf
  obtain ⟨out, hout⟩ : ∃ o, o = F_X11_no X σ a v1 := ⟨_, rfl⟩
  have hF := hout.symm
  unfold F_X11_no at hF
  refine lv_aload_n hx hb dX11_no_0 rfl (lv_at hl 0 rfl) ?_
  refine lv_iload_n hx hb dX11_no_1 rfl (lv_at hl 1 rfl) ?_
  refine ps_X11_9_11 E hI ha (by decide) dX11_no_2 (fun H locs σ_1 hσ_1 hI => ?_)
  replace hF := q_letX hF hσ_1
  have fr_σ_1 := fr_σ.si hσ_1 ha rfl
  refine lv_iconst (v := 0) hx hb dX11_no_5 zki_0 ?_
  have hrv : (0 : Int32).toInt = 0 := zt_0
  exact q_retz E hr hlk hI ⟨by decide, by decide⟩ ⟨⟨by decide, by decide⟩, (by decide), (hF.trans hout), fr_σ_1⟩ dX11_no_6

set_option maxRecDepth 100000 in
set_option maxHeartbeats 4000000 in
theorem c_X11_yes (l : Launch) (X : XW) (σ : ST) (a : Nat) (ha : q_kd X a = 11) : Met l yX11_yes (q_ws yX11_yes cX11_yes 1 (some .boolean)) (q_rm 0 0) (q_P X σ [.ref a]) (q_Qi X 8 σ (fun (r : Int32) (σ' : ST) => (0 ≤ r.toInt ∧ r.toInt ≤ 1) ∧ (r.toInt = 1) ∧ (r, σ') = F_X11_yes X σ a ∧ q_ow [(11, 0)] [] X σ σ')) 0 0 (q_reg X) := by
  refine q_met 8 (by first | exact rfl | decide +kernel) rfl (Nat.le_of_ble_eq_true rfl) (fun p e s m below meth c E hml hr hlk hI ls hl => ?_)
  have hx := E.1
  have hb := E.2.1
  have hl : lv_has ls 1 [(0, .ref a)] := hl
  have fr_σ : q_ow [(11, 0)] [] X σ σ := q_ow.rf
  obtain ⟨out, hout⟩ : ∃ o, o = F_X11_yes X σ a := ⟨_, rfl⟩
  have hF := hout.symm
  unfold F_X11_yes at hF
  refine lv_aload_n hx hb dX11_yes_0 rfl (lv_at hl 0 rfl) ?_
  refine lv_iconst (v := 0) hx hb dX11_yes_1 zki_0 ?_
  refine ps_X11_9_11 E hI ha (by decide) dX11_yes_2 (fun H locs σ_1 hσ_1 hI => ?_)
  replace hF := q_letX hF hσ_1
  have fr_σ_1 := fr_σ.si hσ_1 ha rfl
  refine lv_iconst (v := 1) hx hb dX11_yes_5 zki_1 ?_
  have hrv : (1 : Int32).toInt = 1 := zt_1
  exact q_retz E hr hlk hI ⟨by decide, by decide⟩ ⟨⟨by decide, by decide⟩, (by decide), (hF.trans hout), fr_σ_1⟩ dX11_yes_6

set_option maxRecDepth 100000 in
set_option maxHeartbeats 4000000 in
theorem c_X11_tray (l : Launch) (X : XW) (σ : ST) (a : Nat) (v1 : Int32) (v2 : Int32) (v3 : Int32) (ha : q_kd X a = 11) : Met l yX11_tray (q_ws yX11_tray cX11_tray 5 (some .boolean)) (q_rm 2 44) (q_P X σ [.ref a, .int v1, .int v2, .int v3]) (q_Qi X 0 σ (fun (r : Int32) (σ' : ST) => (0 ≤ r.toInt ∧ r.toInt ≤ 1) ∧ (q_KS (fun b g => b = (q_rf X (q_rf X a 3) v1.toNatClampNeg) ∧ g ≤ 1) 8 X σ σ') ∧ (r.toInt = 1 ↔ (0 ≤ v1.toInt ∧ v1.toInt < 4 ∧ 0 ≤ v2.toInt ∧ v2.toInt ≤ 3 ∧ 0 ≤ v3.toInt ∧ v3.toInt ≤ 60)) ∧ (r.toInt = 1 → σ'.1 (q_rf X (q_rf X a 3) v1.toNatClampNeg) 0 = v2 ∧ (σ'.1 (q_rf X (q_rf X a 3) v1.toNatClampNeg) 1).toInt = v3.toInt) ∧ (r.toInt = 0 → q_K 8 X σ σ') ∧ (r, σ') = F_X11_tray X σ a v1 v2 v3 ∧ q_ow [(10, 0), (10, 1), (11, 0)] [(21, 99)] X σ σ')) 0 0 (q_reg X) := by
  refine q_met 0 (by first | exact rfl | decide +kernel) rfl (Nat.le_of_ble_eq_true rfl) (fun p e s m below meth c E hml hr hlk hI ls hl => ?_)
  have hx := E.1
  have hb := E.2.1
  have hl : lv_has ls 5 [(0, .ref a), (1, .int v1), (2, .int v2), (3, .int v3)] := hl
  have ks_σ : q_KS (fun b g => b = (q_rf X (q_rf X a 3) v1.toNatClampNeg) ∧ g ≤ 1) 8 X σ σ := q_KS.rf
  have fr_σ : q_ow [(10, 0), (10, 1), (11, 0)] [(21, 99)] X σ σ := q_ow.rf
  obtain ⟨out, hout⟩ : ∃ o, o = F_X11_tray X σ a v1 v2 v3 := ⟨_, rfl⟩
  have hF := hout.symm
  unfold F_X11_tray at hF
  refine lv_aload_n hx hb dX11_tray_0 rfl (lv_at hl 0 rfl) ?_
  refine lv_iload_n hx hb dX11_tray_1 rfl (lv_at hl 1 rfl) ?_
  refine q_cq (q_rV10_1 (rest := []) E (hml.trans hl.1.symm) hI (c_X11_trayAt l X σ a v1 ha) kv_X11_85 ha ⟨Nat.le_of_ble_eq_true rfl, Nat.le_of_ble_eq_true rfl⟩ (Nat.le_of_ble_eq_true rfl) dX11_tray_2) hI (Nat.le_of_ble_eq_true rfl) (fun r_1 σ_2 H locs hpσ_2 hkσ_2 hI => ?_)
  have ahpσ_2 := hpσ_2.1
  have bhpσ_2 := hpσ_2.2.1
  have chpσ_2 := hpσ_2.2.2
  clear hpσ_2
  replace hI := q_Irw ahpσ_2 hI
  replace hF := q_letX hF chpσ_2
  rcases r_1 with _ | r_1
  · show W _ _ _ _ _ _ _ _ _ _ _ _ _ _ _ (F0 m (2 + 3) ls [.null])
    replace hF := q_onN hF
    have nq_v1 := bhpσ_2.2 rfl
    refine lv_astoreN (lv' := [(4, .null), (0, .ref a), (1, .int v1), (2, .int v2), (3, .int v3)]) hx hb dX11_tray_5 hl (by decide) rfl (fun ls hl => ?_)
    refine lv_aloadN hx hb dX11_tray_7 (lv_at hl 0 rfl) ?_
    refine lv_ifnullN (tgt := 21) hx hb dX11_tray_9 (by decide) ?_
    refine lv_aload_n hx hb dX11_tray_21 rfl (lv_at hl 1 rfl) ?_
    refine lv_iconst (v := 1) hx hb dX11_tray_22 zki_1 ?_
    have kc_3 : (1 : Int32).toInt = 1 := zt_1
    refine q_ci (q_rV10_1 (rest := []) E (hml.trans hl.1.symm) hI (c_X11_no l X σ a (1 : Int32) ha) kv_X11_89 ha ⟨Nat.le_of_ble_eq_true rfl, Nat.le_of_ble_eq_true rfl⟩ (Nat.le_of_ble_eq_true rfl) dX11_tray_23) hI (Nat.le_of_ble_eq_true rfl) (fun r_4 σ_5 H locs hpσ_5 hkσ_5 hI => ?_)
    have ahpσ_5 := hpσ_5.1
    have bhpσ_5 := hpσ_5.2.1
    have chpσ_5 := hpσ_5.2.2.1
    have dhpσ_5 := hpσ_5.2.2.2
    clear hpσ_5
    have fr_σ_5 := fr_σ.call dhpσ_5 rfl rfl
    replace hF := q_biX hF chpσ_5
    have ks_σ_5 : q_KS (fun b g => b = (q_rf X (q_rf X a 3) v1.toNatClampNeg) ∧ g ≤ 1) 8 X σ σ_5 := ks_σ.K hkσ_5 (by decide)
    exact q_retz E hr hlk hI ⟨by omega, by omega⟩ ⟨⟨by omega, by omega⟩, ks_σ_5, (by constructor <;> intro h9 <;> omega), (by intro h9; exfalso; omega), (fun _ => hkσ_5), (hF.trans hout), fr_σ_5⟩ dX11_tray_26
  · show W _ _ _ _ _ _ _ _ _ _ _ _ _ _ _ (F0 m (2 + 3) ls [.ref r_1])
    replace hF := q_onS hF
    obtain ⟨kq_r_1, eq_r_1, lo_r_1, hi_r_1⟩ := bhpσ_2.1 _ rfl
    have f0_r_1 : (σ.1 (q_rf X (q_rf X a 3) v1.toNatClampNeg) 0).toInt = (σ.1 r_1 0).toInt := by rw [← eq_r_1]
    have f1_r_1 : (σ.1 (q_rf X (q_rf X a 3) v1.toNatClampNeg) 1).toInt = (σ.1 r_1 1).toInt := by rw [← eq_r_1]
    have g1_r_1 : -1 ≤ (σ.1 r_1 1).toInt ∧ (σ.1 r_1 1).toInt ≤ 60 := q_bd hI kq_r_1 rfl
    refine lv_astore (lv' := [(4, .ref r_1), (0, .ref a), (1, .int v1), (2, .int v2), (3, .int v3)]) hx hb dX11_tray_5 hl (by decide) rfl (fun ls hl => ?_)
    refine lv_aload hx hb dX11_tray_7 (lv_at hl 0 rfl) ?_
    refine lv_ifnull hx hb dX11_tray_9 ?_
    refine lv_iload_n hx hb dX11_tray_12 rfl (lv_at hl 3 rfl) ?_
    refine q_if_lt (A := v2.toInt) E rfl (tgt := 21) dX11_tray_13 (by decide) (fun c_6 => ?_) (fun c_6 => ?_)
    · skip
      replace hF := q_ifp hF c_6
      refine lv_aload_n hx hb dX11_tray_21 rfl (lv_at hl 1 rfl) ?_
      refine lv_iconst (v := 1) hx hb dX11_tray_22 zki_1 ?_
      have kc_7 : (1 : Int32).toInt = 1 := zt_1
      refine q_ci (q_rV10_1 (rest := []) E (hml.trans hl.1.symm) hI (c_X11_no l X σ a (1 : Int32) ha) kv_X11_89 ha ⟨Nat.le_of_ble_eq_true rfl, Nat.le_of_ble_eq_true rfl⟩ (Nat.le_of_ble_eq_true rfl) dX11_tray_23) hI (Nat.le_of_ble_eq_true rfl) (fun r_8 σ_9 H locs hpσ_9 hkσ_9 hI => ?_)
      have ahpσ_9 := hpσ_9.1
      have bhpσ_9 := hpσ_9.2.1
      have chpσ_9 := hpσ_9.2.2.1
      have dhpσ_9 := hpσ_9.2.2.2
      clear hpσ_9
      have fr_σ_9 := fr_σ.call dhpσ_9 rfl rfl
      replace hF := q_biX hF chpσ_9
      have ks_σ_9 : q_KS (fun b g => b = (q_rf X (q_rf X a 3) v1.toNatClampNeg) ∧ g ≤ 1) 8 X σ σ_9 := ks_σ.K hkσ_9 (by decide)
      exact q_retz E hr hlk hI ⟨by omega, by omega⟩ ⟨⟨by omega, by omega⟩, ks_σ_9, (by constructor <;> intro h9 <;> omega), (by intro h9; exfalso; omega), (fun _ => hkσ_9), (hF.trans hout), fr_σ_9⟩ dX11_tray_26
    · skip
      replace hF := q_ifn hF (Int.not_lt.mpr c_6)
      refine lv_iload_n hx hb dX11_tray_16 rfl (lv_at hl 3 rfl) ?_
      refine lv_iconst (v := 3) hx hb dX11_tray_17 zki_3 ?_
      refine q_icmp_le (A := v2.toInt) (B := 3) E rfl (by decide) (tgt := 27) dX11_tray_18 (by decide) (fun c_10 => ?_) (fun c_10 => ?_)
      · skip
        replace hF := q_ifn hF (Int.not_lt.mpr c_10)
        refine lv_iload_n hx hb dX11_tray_27 rfl (lv_at hl 4 rfl) ?_
        refine lv_bipush (v := 60) hx hb dX11_tray_28 zkb_60 ?_
        refine q_icmp_le (A := v3.toInt) (B := 60) E rfl (by decide) (tgt := 39) dX11_tray_30 (by decide) (fun c_11 => ?_) (fun c_11 => ?_)
        · skip
          replace hF := q_ifn hF (Int.not_lt.mpr c_11)
          refine lv_iload_n hx hb dX11_tray_39 rfl (lv_at hl 4 rfl) ?_
          refine q_if_ge (A := v3.toInt) E rfl (tgt := 50) dX11_tray_40 (by decide) (fun c_12 => ?_) (fun c_12 => ?_)
          · skip
            replace hF := q_ifn hF (Int.not_lt.mpr c_12)
            refine lv_aload hx hb dX11_tray_50 (lv_at hl 0 rfl) ?_
            refine lv_iload_n hx hb dX11_tray_52 rfl (lv_at hl 3 rfl) ?_
            refine lv_iload_n hx hb dX11_tray_53 rfl (lv_at hl 4 rfl) ?_
            refine q_cv (q_rV9_2 (rest := []) E (hml.trans hl.1.symm) hI (c_X10_make l X σ r_1 v2 v3 kq_r_1 (by first | (clear ahpσ_2 bhpσ_2 chpσ_2 lo_r_1 hi_r_1 f0_r_1 f1_r_1 g1_r_1 c_6 c_10 c_11 c_12; omega) | omega) (by first | (clear ahpσ_2 bhpσ_2 chpσ_2 lo_r_1 hi_r_1 f0_r_1 f1_r_1 g1_r_1 c_6 c_10 c_11 c_12; omega) | omega)) kv_X11_93 kq_r_1 ⟨Nat.le_of_ble_eq_true rfl, Nat.le_of_ble_eq_true rfl⟩ (Nat.le_of_ble_eq_true rfl) dX11_tray_54) hI (Nat.le_of_ble_eq_true rfl) (fun σ_14 H locs hpσ_14 hkσ_14 hI => ?_)
            have ahpσ_14 := hpσ_14.1
            have bhpσ_14 := hpσ_14.2.1
            have chpσ_14 := hpσ_14.2.2.1
            have dhpσ_14 := hpσ_14.2.2.2.1
            have ehpσ_14 := hpσ_14.2.2.2.2
            clear hpσ_14
            have fr_σ_14 := fr_σ.call ehpσ_14 rfl rfl
            replace hF := q_letX hF dhpσ_14
            have ks_σ_14 : q_KS (fun b g => b = (q_rf X (q_rf X a 3) v1.toNatClampNeg) ∧ g ≤ 1) 8 X σ σ_14 := ks_σ.KS ahpσ_14 (by decide) (fun b g h => ⟨h.1.trans eq_r_1, h.2⟩)
            have mk0σ_14 : σ_14.1 r_1 0 = v2 := bhpσ_14
            have mk1σ_14 : (σ_14.1 r_1 1).toInt = v3.toInt := by rw [chpσ_14]; omega
            refine lv_aload_n hx hb dX11_tray_57 rfl (lv_at hl 1 rfl) ?_
            refine q_ci (q_rV10_0 (rest := []) E (hml.trans hl.1.symm) hI (c_X11_yes l X σ_14 a ha) kv_X11_97 ha ⟨Nat.le_of_ble_eq_true rfl, Nat.le_of_ble_eq_true rfl⟩ (Nat.le_of_ble_eq_true rfl) dX11_tray_58) hI (Nat.le_of_ble_eq_true rfl) (fun r_15 σ_16 H locs hpσ_16 hkσ_16 hI => ?_)
            have ahpσ_16 := hpσ_16.1
            have bhpσ_16 := hpσ_16.2.1
            have chpσ_16 := hpσ_16.2.2.1
            have dhpσ_16 := hpσ_16.2.2.2
            clear hpσ_16
            have fr_σ_16 := fr_σ_14.call dhpσ_16 rfl rfl
            replace hF := q_biX hF chpσ_16
            have ks_σ_16 : q_KS (fun b g => b = (q_rf X (q_rf X a 3) v1.toNatClampNeg) ∧ g ≤ 1) 8 X σ σ_16 := ks_σ_14.K hkσ_16 (by decide)
            have mk0σ_16 : σ_16.1 r_1 0 = v2 := (hkσ_16 r_1 0 (by rw [kq_r_1]; decide)).trans mk0σ_14
            have mk1σ_16 : (σ_16.1 r_1 1).toInt = v3.toInt := (congrArg Int32.toInt (hkσ_16 r_1 1 (by rw [kq_r_1]; decide))).trans mk1σ_14
            exact q_retz E hr hlk hI ⟨by omega, by omega⟩ ⟨⟨by omega, by omega⟩, ks_σ_16, (by constructor <;> intro h9 <;> omega), (fun _ => ⟨by rw [← eq_r_1]; exact mk0σ_16, by rw [← eq_r_1]; exact mk1σ_16⟩), (by intro h9; exfalso; omega), (hF.trans hout), fr_σ_16⟩ dX11_tray_61
          · skip
            replace hF := q_ifp hF c_12
            refine lv_aload_n hx hb dX11_tray_43 rfl (lv_at hl 1 rfl) ?_
            refine lv_bipush (v := 6) hx hb dX11_tray_44 zkb_6 ?_
            have kc_17 : (6 : Int32).toInt = 6 := zt_6
            refine q_ci (q_rV10_1 (rest := []) E (hml.trans hl.1.symm) hI (c_X11_no l X σ a (6 : Int32) ha) kv_X11_89 ha ⟨Nat.le_of_ble_eq_true rfl, Nat.le_of_ble_eq_true rfl⟩ (Nat.le_of_ble_eq_true rfl) dX11_tray_46) hI (Nat.le_of_ble_eq_true rfl) (fun r_18 σ_19 H locs hpσ_19 hkσ_19 hI => ?_)
            have ahpσ_19 := hpσ_19.1
            have bhpσ_19 := hpσ_19.2.1
            have chpσ_19 := hpσ_19.2.2.1
            have dhpσ_19 := hpσ_19.2.2.2
            clear hpσ_19
            have fr_σ_19 := fr_σ.call dhpσ_19 rfl rfl
            replace hF := q_biX hF chpσ_19
            have ks_σ_19 : q_KS (fun b g => b = (q_rf X (q_rf X a 3) v1.toNatClampNeg) ∧ g ≤ 1) 8 X σ σ_19 := ks_σ.K hkσ_19 (by decide)
            exact q_retz E hr hlk hI ⟨by omega, by omega⟩ ⟨⟨by omega, by omega⟩, ks_σ_19, (by constructor <;> intro h9 <;> omega), (by intro h9; exfalso; omega), (fun _ => hkσ_19), (hF.trans hout), fr_σ_19⟩ dX11_tray_49
        · skip
          replace hF := q_ifp hF c_11
          refine lv_aload_n hx hb dX11_tray_33 rfl (lv_at hl 1 rfl) ?_
          refine lv_iconst (v := 5) hx hb dX11_tray_34 zki_5 ?_
          have kc_20 : (5 : Int32).toInt = 5 := zt_5
          refine q_ci (q_rV10_1 (rest := []) E (hml.trans hl.1.symm) hI (c_X11_no l X σ a (5 : Int32) ha) kv_X11_89 ha ⟨Nat.le_of_ble_eq_true rfl, Nat.le_of_ble_eq_true rfl⟩ (Nat.le_of_ble_eq_true rfl) dX11_tray_35) hI (Nat.le_of_ble_eq_true rfl) (fun r_21 σ_22 H locs hpσ_22 hkσ_22 hI => ?_)
          have ahpσ_22 := hpσ_22.1
          have bhpσ_22 := hpσ_22.2.1
          have chpσ_22 := hpσ_22.2.2.1
          have dhpσ_22 := hpσ_22.2.2.2
          clear hpσ_22
          have fr_σ_22 := fr_σ.call dhpσ_22 rfl rfl
          replace hF := q_biX hF chpσ_22
          have ks_σ_22 : q_KS (fun b g => b = (q_rf X (q_rf X a 3) v1.toNatClampNeg) ∧ g ≤ 1) 8 X σ σ_22 := ks_σ.K hkσ_22 (by decide)
          exact q_retz E hr hlk hI ⟨by omega, by omega⟩ ⟨⟨by omega, by omega⟩, ks_σ_22, (by constructor <;> intro h9 <;> omega), (by intro h9; exfalso; omega), (fun _ => hkσ_22), (hF.trans hout), fr_σ_22⟩ dX11_tray_38
      · skip
        replace hF := q_ifp hF c_10
        refine lv_aload_n hx hb dX11_tray_21 rfl (lv_at hl 1 rfl) ?_
        refine lv_iconst (v := 1) hx hb dX11_tray_22 zki_1 ?_
        have kc_23 : (1 : Int32).toInt = 1 := zt_1
        refine q_ci (q_rV10_1 (rest := []) E (hml.trans hl.1.symm) hI (c_X11_no l X σ a (1 : Int32) ha) kv_X11_89 ha ⟨Nat.le_of_ble_eq_true rfl, Nat.le_of_ble_eq_true rfl⟩ (Nat.le_of_ble_eq_true rfl) dX11_tray_23) hI (Nat.le_of_ble_eq_true rfl) (fun r_24 σ_25 H locs hpσ_25 hkσ_25 hI => ?_)
        have ahpσ_25 := hpσ_25.1
        have bhpσ_25 := hpσ_25.2.1
        have chpσ_25 := hpσ_25.2.2.1
        have dhpσ_25 := hpσ_25.2.2.2
        clear hpσ_25
        have fr_σ_25 := fr_σ.call dhpσ_25 rfl rfl
        replace hF := q_biX hF chpσ_25
        have ks_σ_25 : q_KS (fun b g => b = (q_rf X (q_rf X a 3) v1.toNatClampNeg) ∧ g ≤ 1) 8 X σ σ_25 := ks_σ.K hkσ_25 (by decide)
        exact q_retz E hr hlk hI ⟨by omega, by omega⟩ ⟨⟨by omega, by omega⟩, ks_σ_25, (by constructor <;> intro h9 <;> omega), (by intro h9; exfalso; omega), (fun _ => hkσ_25), (hF.trans hout), fr_σ_25⟩ dX11_tray_26

set_option maxRecDepth 100000 in
set_option maxHeartbeats 4000000 in
theorem c_X11_placeStatus (l : Launch) (X : XW) (σ : ST) (r0 : Nat) (v1 : Int32) (hr0 : q_kd X r0 = 10) : Met l yX11_placeStatus (q_ws yX11_placeStatus cX11_placeStatus 2 (some .int)) (q_rm 1 22) (q_P X σ [.ref r0, .int v1]) (q_Qi X 9 σ (fun (r : Int32) (σ' : ST) => σ' = σ ∧ ((σ.1 r0 1).toInt = -1 → r.toInt = 3) ∧ ((σ.1 r0 1).toInt ≠ -1 → (r.toInt = 0 ↔ 0 ≤ v1.toInt ∧ v1.toInt + 1 ≤ (σ.1 r0 1).toInt)) ∧ (r.toInt = 0 ∨ r.toInt = 3 ∨ r.toInt = 4) ∧ r = F_X11_placeStatus X σ r0 v1)) 0 0 (q_reg X) := by
  refine q_met 9 (by first | exact rfl | decide +kernel) rfl (Nat.le_of_ble_eq_true rfl) (fun p e s m below meth c E hml hr hlk hI ls hl => ?_)
  have hx := E.1
  have hb := E.2.1
  have hl : lv_has ls 2 [(0, .ref r0), (1, .int v1)] := hl
  obtain ⟨out, hout⟩ : ∃ o, o = F_X11_placeStatus X σ r0 v1 := ⟨_, rfl⟩
  have hF := hout.symm
  unfold F_X11_placeStatus at hF
  refine lv_aload_n hx hb dX11_placeStatus_0 rfl (lv_at hl 0 rfl) ?_
  refine lv_ifnonnull (tgt := 6) hx hb dX11_placeStatus_1 (by decide) ?_
  refine lv_aload_n hx hb dX11_placeStatus_6 rfl (lv_at hl 0 rfl) ?_
  refine q_ci (q_rV9_0 (rest := []) E (hml.trans hl.1.symm) hI (c_X10_isMissing l X σ r0 hr0) kv_X11_117 hr0 ⟨Nat.le_of_ble_eq_true rfl, Nat.le_of_ble_eq_true rfl⟩ (Nat.le_of_ble_eq_true rfl) dX11_placeStatus_7) hI (Nat.le_of_ble_eq_true rfl) (fun r_1 σ_2 H locs hpσ_2 hkσ_2 hI => ?_)
  have ahpσ_2 := hpσ_2.1
  have bhpσ_2 := hpσ_2.2.1
  have chpσ_2 := hpσ_2.2.2.1
  have dhpσ_2 := hpσ_2.2.2.2
  clear hpσ_2
  replace hI := q_Irw ahpσ_2 hI
  replace hF := q_letX hF dhpσ_2
  refine q_if_eq (A := r_1.toInt) E rfl (tgt := 15) dX11_placeStatus_10 (by decide) (fun c_3 => ?_) (fun c_3 => ?_)
  · skip
    replace hF := q_ifp hF c_3
    replace chpσ_2 := q_ifNo chpσ_2 c_3
    refine lv_aload_n hx hb dX11_placeStatus_15 rfl (lv_at hl 0 rfl) ?_
    refine lv_iload_n hx hb dX11_placeStatus_16 rfl (lv_at hl 1 rfl) ?_
    refine lv_iconst (v := 1) hx hb dX11_placeStatus_17 zki_1 ?_
    have kc_4 : (1 : Int32).toInt = 1 := zt_1
    refine q_ci (q_rV9_2 (rest := []) E (hml.trans hl.1.symm) hI (c_X10_hasPlaces l X σ r0 v1 (1 : Int32) hr0) kv_X11_123 hr0 ⟨Nat.le_of_ble_eq_true rfl, Nat.le_of_ble_eq_true rfl⟩ (Nat.le_of_ble_eq_true rfl) dX11_placeStatus_18) hI (Nat.le_of_ble_eq_true rfl) (fun r_5 σ_6 H locs hpσ_6 hkσ_6 hI => ?_)
    have ahpσ_6 := hpσ_6.1
    have bhpσ_6 := hpσ_6.2.1
    have chpσ_6 := hpσ_6.2.2.1
    have dhpσ_6 := hpσ_6.2.2.2
    clear hpσ_6
    replace hI := q_Irw ahpσ_6 hI
    replace hF := q_letX hF dhpσ_6
    refine q_if_eq (A := r_5.toInt) E rfl (tgt := 28) dX11_placeStatus_21 (by decide) (fun c_7 => ?_) (fun c_7 => ?_)
    · skip
      replace hF := q_ifp hF c_7
      replace chpσ_6 := q_ifNo chpσ_6 c_7
      refine lv_iconst (v := 4) hx hb dX11_placeStatus_28 zki_4 ?_
      have hrv : (4 : Int32).toInt = 4 := zt_4
      exact q_reti E hr hlk hI ⟨rfl, (by first | (clear ahpσ_2 bhpσ_2 dhpσ_2 c_3 ahpσ_6 bhpσ_6 dhpσ_6 c_7; omega) | omega), (by intro h8; constructor <;> intro h9 <;> omega), (by first | (clear ahpσ_2 bhpσ_2 dhpσ_2 c_3 chpσ_2 kc_4 ahpσ_6 bhpσ_6 dhpσ_6 c_7 chpσ_6; omega) | omega), (hF.trans hout)⟩ dX11_placeStatus_29
    · skip
      replace hF := q_ifn hF c_7
      replace c_7 := q_ifOne bhpσ_6 c_7
      replace chpσ_6 := q_ifYes chpσ_6 c_7
      refine lv_iconst (v := 0) hx hb dX11_placeStatus_24 zki_0 ?_
      refine lv_goto (tgt := 29) hx hb dX11_placeStatus_25 (by decide) ?_
      have hrv : (0 : Int32).toInt = 0 := zt_0
      exact q_reti E hr hlk hI ⟨rfl, (by first | (clear ahpσ_2 bhpσ_2 dhpσ_2 c_3 chpσ_2 ahpσ_6 bhpσ_6 dhpσ_6 c_7 hrv; omega) | omega), (by intro h8; constructor <;> intro h9 <;> omega), (by first | (clear ahpσ_2 bhpσ_2 dhpσ_2 c_3 chpσ_2 kc_4 ahpσ_6 bhpσ_6 dhpσ_6 c_7 chpσ_6; omega) | omega), (hF.trans hout)⟩ dX11_placeStatus_29
  · skip
    replace hF := q_ifn hF c_3
    replace c_3 := q_ifOne bhpσ_2 c_3
    replace chpσ_2 := q_ifYes chpσ_2 c_3
    refine lv_iconst (v := 3) hx hb dX11_placeStatus_13 zki_3 ?_
    have hrv : (3 : Int32).toInt = 3 := zt_3
    exact q_reti E hr hlk hI ⟨rfl, (by first | (clear ahpσ_2 bhpσ_2 dhpσ_2 c_3 chpσ_2; omega) | omega), (by intro h8; constructor <;> intro h9 <;> omega), (by first | (clear ahpσ_2 bhpσ_2 dhpσ_2 c_3 chpσ_2; omega) | omega), (hF.trans hout)⟩ dX11_placeStatus_14

set_option maxRecDepth 100000 in
set_option maxHeartbeats 4000000 in
theorem c_X11_placeStatus_n (l : Launch) (X : XW) (σ : ST) (v1 : Int32) : Met l yX11_placeStatus (q_ws yX11_placeStatus cX11_placeStatus 2 (some .int)) (q_rm 1 22) (q_P X σ [.null, .int v1]) (q_Qi X 9 σ (fun (r : Int32) (σ' : ST) => σ' = σ ∧ (r.toInt = 1) ∧ r = F_X11_placeStatus_n X σ v1)) 0 0 (q_reg X) := by
  refine q_met 9 (by first | exact rfl | decide +kernel) rfl (Nat.le_of_ble_eq_true rfl) (fun p e s m below meth c E hml hr hlk hI ls hl => ?_)
  have hx := E.1
  have hb := E.2.1
  have hl : lv_has ls 2 [(0, .null), (1, .int v1)] := hl
  obtain ⟨out, hout⟩ : ∃ o, o = F_X11_placeStatus_n X σ v1 := ⟨_, rfl⟩
  have hF := hout.symm
  unfold F_X11_placeStatus_n at hF
  refine lv_aload_nN hx hb dX11_placeStatus_0 rfl (lv_at hl 0 rfl) ?_
  refine lv_ifnonnullN hx hb dX11_placeStatus_1 ?_
  refine lv_iconst (v := 1) hx hb dX11_placeStatus_4 zki_1 ?_
  have hrv : (1 : Int32).toInt = 1 := zt_1
  exact q_reti E hr hlk hI ⟨rfl, (by decide), (hF.trans hout)⟩ dX11_placeStatus_5

set_option maxRecDepth 100000 in
set_option maxHeartbeats 4000000 in
theorem c_X11_write (l : Launch) (X : XW) (σ : ST) (a : Nat) (v1 : Int32) (v2 : Int32) (v3 : Int64) (ha : q_kd X a = 11) : Met l yX11_write (q_ws yX11_write cX11_write 7 (some .boolean)) (q_rm 2 45) (q_P X σ [.ref a, .int v1, .int v2, .long v3]) (q_Qi X 8 σ (fun (r : Int32) (σ' : ST) => (0 ≤ r.toInt ∧ r.toInt ≤ 1) ∧ (r.toInt = 1 ↔ (0 ≤ v1.toInt ∧ v1.toInt < 4 ∧ 0 ≤ v2.toInt ∧ v2.toInt + 1 ≤ (σ.1 (q_rf X (q_rf X a 3) v1.toNatClampNeg) 1).toInt)) ∧ (r, σ') = F_X11_write X σ a v1 v2 v3 ∧ q_ow [(11, 0)] [(21, 99)] X σ σ')) 0 0 (q_reg X) := by
  refine q_met 8 (by first | exact rfl | decide +kernel) rfl (Nat.le_of_ble_eq_true rfl) (fun p e s m below meth c E hml hr hlk hI ls hl => ?_)
  have hx := E.1
  have hb := E.2.1
  have hl : lv_has ls 7 [(0, .ref a), (1, .int v1), (2, .int v2), (3, .long v3)] := hl
  have fr_σ : q_ow [(11, 0)] [(21, 99)] X σ σ := q_ow.rf
  obtain ⟨out, hout⟩ : ∃ o, o = F_X11_write X σ a v1 v2 v3 := ⟨_, rfl⟩
  have hF := hout.symm
  unfold F_X11_write at hF
  refine lv_aload_n hx hb dX11_write_0 rfl (lv_at hl 0 rfl) ?_
  refine lv_iload_n hx hb dX11_write_1 rfl (lv_at hl 1 rfl) ?_
  refine q_cq (q_rV10_1 (rest := []) E (hml.trans hl.1.symm) hI (c_X11_trayAt l X σ a v1 ha) kv_X11_85 ha ⟨Nat.le_of_ble_eq_true rfl, Nat.le_of_ble_eq_true rfl⟩ (Nat.le_of_ble_eq_true rfl) dX11_write_2) hI (Nat.le_of_ble_eq_true rfl) (fun r_1 σ_2 H locs hpσ_2 hkσ_2 hI => ?_)
  have ahpσ_2 := hpσ_2.1
  have bhpσ_2 := hpσ_2.2.1
  have chpσ_2 := hpσ_2.2.2
  clear hpσ_2
  replace hI := q_Irw ahpσ_2 hI
  replace hF := q_letX hF chpσ_2
  rcases r_1 with _ | r_1
  · show W _ _ _ _ _ _ _ _ _ _ _ _ _ _ _ (F0 m (2 + 3) ls [.null])
    replace hF := q_onN hF
    have nq_v1 := bhpσ_2.2 rfl
    refine lv_astoreN (lv' := [(5, .null), (0, .ref a), (1, .int v1), (2, .int v2), (3, .long v3)]) hx hb dX11_write_5 hl (by decide) rfl (fun ls hl => ?_)
    refine lv_aloadN hx hb dX11_write_7 (lv_at hl 0 rfl) ?_
    refine lv_iload_n hx hb dX11_write_9 rfl (lv_at hl 3 rfl) ?_
    refine q_ci (q_runS (As := [.null, .int v2]) (rest := []) E (hml.trans hl.1.symm) hI (c_X11_placeStatus_n l X σ v2) ks_X11_101 rfl ⟨Nat.le_of_ble_eq_true rfl, Nat.le_of_ble_eq_true rfl⟩ ⟨Nat.le_refl _, Nat.le_refl _⟩ rfl (Nat.le_of_ble_eq_true rfl) dX11_write_10) hI (Nat.le_of_ble_eq_true rfl) (fun r_3 σ_4 H locs hpσ_4 hkσ_4 hI => ?_)
    have ahpσ_4 := hpσ_4.1
    have bhpσ_4 := hpσ_4.2.1
    have chpσ_4 := hpσ_4.2.2
    clear hpσ_4
    replace hI := q_Irw ahpσ_4 hI
    replace hF := q_letX hF chpσ_4
    refine lv_istore (lv' := [(6, .int r_3), (5, .null), (0, .ref a), (1, .int v1), (2, .int v2), (3, .long v3)]) hx hb dX11_write_13 hl (by decide) rfl (fun ls hl => ?_)
    refine lv_aloadN hx hb dX11_write_15 (lv_at hl 1 rfl) ?_
    refine lv_ifnullN (tgt := 25) hx hb dX11_write_17 (by decide) ?_
    refine lv_aload_n hx hb dX11_write_25 rfl (lv_at hl 2 rfl) ?_
    refine lv_iload hx hb dX11_write_26 (lv_at hl 0 rfl) ?_
    refine q_ci (q_rV10_1 (rest := []) E (hml.trans hl.1.symm) hI (c_X11_no l X σ a r_3 ha) kv_X11_89 ha ⟨Nat.le_of_ble_eq_true rfl, Nat.le_of_ble_eq_true rfl⟩ (Nat.le_of_ble_eq_true rfl) dX11_write_28) hI (Nat.le_of_ble_eq_true rfl) (fun r_5 σ_6 H locs hpσ_6 hkσ_6 hI => ?_)
    have ahpσ_6 := hpσ_6.1
    have bhpσ_6 := hpσ_6.2.1
    have chpσ_6 := hpσ_6.2.2.1
    have dhpσ_6 := hpσ_6.2.2.2
    clear hpσ_6
    have fr_σ_6 := fr_σ.call dhpσ_6 rfl rfl
    replace hF := q_biX hF chpσ_6
    exact q_retz E hr hlk hI ⟨by omega, by omega⟩ ⟨⟨by omega, by omega⟩, (by constructor <;> intro h9 <;> omega), (hF.trans hout), fr_σ_6⟩ dX11_write_31
  · show W _ _ _ _ _ _ _ _ _ _ _ _ _ _ _ (F0 m (2 + 3) ls [.ref r_1])
    replace hF := q_onS hF
    obtain ⟨kq_r_1, eq_r_1, lo_r_1, hi_r_1⟩ := bhpσ_2.1 _ rfl
    have f0_r_1 : (σ.1 (q_rf X (q_rf X a 3) v1.toNatClampNeg) 0).toInt = (σ.1 r_1 0).toInt := by rw [← eq_r_1]
    have f1_r_1 : (σ.1 (q_rf X (q_rf X a 3) v1.toNatClampNeg) 1).toInt = (σ.1 r_1 1).toInt := by rw [← eq_r_1]
    have g1_r_1 : -1 ≤ (σ.1 r_1 1).toInt ∧ (σ.1 r_1 1).toInt ≤ 60 := q_bd hI kq_r_1 rfl
    refine lv_astore (lv' := [(5, .ref r_1), (0, .ref a), (1, .int v1), (2, .int v2), (3, .long v3)]) hx hb dX11_write_5 hl (by decide) rfl (fun ls hl => ?_)
    refine lv_aload hx hb dX11_write_7 (lv_at hl 0 rfl) ?_
    refine lv_iload_n hx hb dX11_write_9 rfl (lv_at hl 3 rfl) ?_
    refine q_ci (q_runS (As := [.ref r_1, .int v2]) (rest := []) E (hml.trans hl.1.symm) hI (c_X11_placeStatus l X σ r_1 v2 kq_r_1) ks_X11_101 rfl ⟨Nat.le_of_ble_eq_true rfl, Nat.le_of_ble_eq_true rfl⟩ ⟨Nat.le_refl _, Nat.le_refl _⟩ rfl (Nat.le_of_ble_eq_true rfl) dX11_write_10) hI (Nat.le_of_ble_eq_true rfl) (fun r_7 σ_8 H locs hpσ_8 hkσ_8 hI => ?_)
    have ahpσ_8 := hpσ_8.1
    have bhpσ_8 := hpσ_8.2.1
    have chpσ_8 := hpσ_8.2.2.1
    have dhpσ_8 := hpσ_8.2.2.2.1
    have ehpσ_8 := hpσ_8.2.2.2.2
    clear hpσ_8
    replace hI := q_Irw ahpσ_8 hI
    replace hF := q_letX hF ehpσ_8
    refine lv_istore (lv' := [(6, .int r_7), (5, .ref r_1), (0, .ref a), (1, .int v1), (2, .int v2), (3, .long v3)]) hx hb dX11_write_13 hl (by decide) rfl (fun ls hl => ?_)
    refine lv_aload hx hb dX11_write_15 (lv_at hl 1 rfl) ?_
    refine lv_ifnull hx hb dX11_write_17 ?_
    refine lv_iload hx hb dX11_write_20 (lv_at hl 0 rfl) ?_
    refine q_if_eq (A := r_7.toInt) E rfl (tgt := 32) dX11_write_22 (by decide) (fun c_9 => ?_) (fun c_9 => ?_)
    · skip
      replace hF := q_ifp hF c_9
      refine lv_aload hx hb dX11_write_32 (lv_at hl 1 rfl) ?_
      refine lv_iload_n hx hb dX11_write_34 rfl (lv_at hl 4 rfl) ?_
      refine lv_lload_n hx hb dX11_write_35 rfl (lv_at hl 5 rfl) ?_
      refine q_cv (q_rV9_2 (rest := []) E (hml.trans hl.1.symm) hI (c_X10_put l X σ r_1 v2 v3 kq_r_1) kv_X11_105 kq_r_1 ⟨Nat.le_of_ble_eq_true rfl, Nat.le_of_ble_eq_true rfl⟩ (Nat.le_of_ble_eq_true rfl) dX11_write_36) hI (Nat.le_of_ble_eq_true rfl) (fun σ_11 H locs hpσ_11 hkσ_11 hI => ?_)
      have ahpσ_11 := hpσ_11.1
      have bhpσ_11 := hpσ_11.2
      clear hpσ_11
      have fr_σ_11 := fr_σ.call bhpσ_11 rfl rfl
      replace hF := q_letX hF ahpσ_11
      refine lv_aload_n hx hb dX11_write_39 rfl (lv_at hl 2 rfl) ?_
      refine q_ci (q_rV10_0 (rest := []) E (hml.trans hl.1.symm) hI (c_X11_yes l X σ_11 a ha) kv_X11_97 ha ⟨Nat.le_of_ble_eq_true rfl, Nat.le_of_ble_eq_true rfl⟩ (Nat.le_of_ble_eq_true rfl) dX11_write_40) hI (Nat.le_of_ble_eq_true rfl) (fun r_12 σ_13 H locs hpσ_13 hkσ_13 hI => ?_)
      have ahpσ_13 := hpσ_13.1
      have bhpσ_13 := hpσ_13.2.1
      have chpσ_13 := hpσ_13.2.2.1
      have dhpσ_13 := hpσ_13.2.2.2
      clear hpσ_13
      have fr_σ_13 := fr_σ_11.call dhpσ_13 rfl rfl
      replace hF := q_biX hF chpσ_13
      exact q_retz E hr hlk hI ⟨by omega, by omega⟩ ⟨⟨by omega, by omega⟩, (by constructor <;> intro h9 <;> omega), (hF.trans hout), fr_σ_13⟩ dX11_write_43
    · skip
      replace hF := q_ifn hF c_9
      refine lv_aload_n hx hb dX11_write_25 rfl (lv_at hl 2 rfl) ?_
      refine lv_iload hx hb dX11_write_26 (lv_at hl 0 rfl) ?_
      refine q_ci (q_rV10_1 (rest := []) E (hml.trans hl.1.symm) hI (c_X11_no l X σ a r_7 ha) kv_X11_89 ha ⟨Nat.le_of_ble_eq_true rfl, Nat.le_of_ble_eq_true rfl⟩ (Nat.le_of_ble_eq_true rfl) dX11_write_28) hI (Nat.le_of_ble_eq_true rfl) (fun r_14 σ_15 H locs hpσ_15 hkσ_15 hI => ?_)
      have ahpσ_15 := hpσ_15.1
      have bhpσ_15 := hpσ_15.2.1
      have chpσ_15 := hpσ_15.2.2.1
      have dhpσ_15 := hpσ_15.2.2.2
      clear hpσ_15
      have fr_σ_15 := fr_σ.call dhpσ_15 rfl rfl
      replace hF := q_biX hF chpσ_15
      exact q_retz E hr hlk hI ⟨by omega, by omega⟩ ⟨⟨by omega, by omega⟩, (by constructor <;> intro h9 <;> omega), (hF.trans hout), fr_σ_15⟩ dX11_write_31

set_option maxRecDepth 100000 in
set_option maxHeartbeats 4000000 in
theorem c_X11_none (l : Launch) (X : XW) (σ : ST) (a : Nat) (v1 : Int32) (ha : q_kd X a = 11) : Met l yX11_none (q_ws yX11_none cX11_none 2 (some .int)) (q_rm 0 0) (q_P X σ [.ref a, .int v1]) (q_Qi X 8 σ (fun (r : Int32) (σ' : ST) => (r.toInt = -1) ∧ (r, σ') = F_X11_none X σ a v1 ∧ q_ow [(11, 0)] [] X σ σ')) 0 0 (q_reg X) := by
  refine q_met 8 (by first | exact rfl | decide +kernel) rfl (Nat.le_of_ble_eq_true rfl) (fun p e s m below meth c E hml hr hlk hI ls hl => ?_)
  have hx := E.1
  have hb := E.2.1
  have hl : lv_has ls 2 [(0, .ref a), (1, .int v1)] := hl
  have fr_σ : q_ow [(11, 0)] [] X σ σ := q_ow.rf
  obtain ⟨out, hout⟩ : ∃ o, o = F_X11_none X σ a v1 := ⟨_, rfl⟩
  have hF := hout.symm
  unfold F_X11_none at hF
  refine lv_aload_n hx hb dX11_none_0 rfl (lv_at hl 0 rfl) ?_
  refine lv_iload_n hx hb dX11_none_1 rfl (lv_at hl 1 rfl) ?_
  refine ps_X11_9_11 E hI ha (by decide) dX11_none_2 (fun H locs σ_1 hσ_1 hI => ?_)
  replace hF := q_letX hF hσ_1
  have fr_σ_1 := fr_σ.si hσ_1 ha rfl
  refine lv_iconst (v := (-1)) hx hb dX11_none_5 zki_m1 ?_
  have hrv : ((-1) : Int32).toInt = (-1) := zt_m1
  exact q_reti E hr hlk hI ⟨(by decide), (hF.trans hout), fr_σ_1⟩ dX11_none_6

set_option maxRecDepth 100000 in
set_option maxHeartbeats 4000000 in
theorem c_X11_read (l : Launch) (X : XW) (σ : ST) (a : Nat) (v1 : Int32) (v2 : Int32) (ha : q_kd X a = 11) : Met l yX11_read (q_ws yX11_read cX11_read 5 (some .long)) (q_rm 2 43) (q_P X σ [.ref a, .int v1, .int v2]) (q_Ql X 8 σ (fun (r : Int64) (σ' : ST) => (r, σ') = F_X11_read X σ a v1 v2 ∧ q_ow [(11, 0)] [] X σ σ')) 0 0 (q_reg X) := by
  refine q_met 8 (by first | exact rfl | decide +kernel) rfl (Nat.le_of_ble_eq_true rfl) (fun p e s m below meth c E hml hr hlk hI ls hl => ?_)
  have hx := E.1
  have hb := E.2.1
  have hl : lv_has ls 5 [(0, .ref a), (1, .int v1), (2, .int v2)] := hl
  have fr_σ : q_ow [(11, 0)] [] X σ σ := q_ow.rf
  obtain ⟨out, hout⟩ : ∃ o, o = F_X11_read X σ a v1 v2 := ⟨_, rfl⟩
  have hF := hout.symm
  unfold F_X11_read at hF
  refine lv_aload_n hx hb dX11_read_0 rfl (lv_at hl 0 rfl) ?_
  refine lv_iload_n hx hb dX11_read_1 rfl (lv_at hl 1 rfl) ?_
  refine q_cq (q_rV10_1 (rest := []) E (hml.trans hl.1.symm) hI (c_X11_trayAt l X σ a v1 ha) kv_X11_85 ha ⟨Nat.le_of_ble_eq_true rfl, Nat.le_of_ble_eq_true rfl⟩ (Nat.le_of_ble_eq_true rfl) dX11_read_2) hI (Nat.le_of_ble_eq_true rfl) (fun r_1 σ_2 H locs hpσ_2 hkσ_2 hI => ?_)
  have ahpσ_2 := hpσ_2.1
  have bhpσ_2 := hpσ_2.2.1
  have chpσ_2 := hpσ_2.2.2
  clear hpσ_2
  replace hI := q_Irw ahpσ_2 hI
  replace hF := q_letX hF chpσ_2
  rcases r_1 with _ | r_1
  · show W _ _ _ _ _ _ _ _ _ _ _ _ _ _ _ (F0 m (2 + 3) ls [.null])
    replace hF := q_onN hF
    have nq_v1 := bhpσ_2.2 rfl
    refine lv_astore_nN (lv' := [(3, .null), (0, .ref a), (1, .int v1), (2, .int v2)]) hx hb dX11_read_5 rfl hl (by decide) rfl (fun ls hl => ?_)
    refine lv_aload_nN hx hb dX11_read_6 rfl (lv_at hl 0 rfl) ?_
    refine lv_iload_n hx hb dX11_read_7 rfl (lv_at hl 3 rfl) ?_
    refine q_ci (q_runS (As := [.null, .int v2]) (rest := []) E (hml.trans hl.1.symm) hI (c_X11_placeStatus_n l X σ v2) ks_X11_101 rfl ⟨Nat.le_of_ble_eq_true rfl, Nat.le_of_ble_eq_true rfl⟩ ⟨Nat.le_refl _, Nat.le_refl _⟩ rfl (Nat.le_of_ble_eq_true rfl) dX11_read_8) hI (Nat.le_of_ble_eq_true rfl) (fun r_3 σ_4 H locs hpσ_4 hkσ_4 hI => ?_)
    have ahpσ_4 := hpσ_4.1
    have bhpσ_4 := hpσ_4.2.1
    have chpσ_4 := hpσ_4.2.2
    clear hpσ_4
    replace hI := q_Irw ahpσ_4 hI
    replace hF := q_letX hF chpσ_4
    refine lv_istore (lv' := [(4, .int r_3), (3, .null), (0, .ref a), (1, .int v1), (2, .int v2)]) hx hb dX11_read_11 hl (by decide) rfl (fun ls hl => ?_)
    refine lv_aload_nN hx hb dX11_read_13 rfl (lv_at hl 1 rfl) ?_
    refine lv_ifnullN (tgt := 22) hx hb dX11_read_14 (by decide) ?_
    refine lv_aload_n hx hb dX11_read_22 rfl (lv_at hl 2 rfl) ?_
    refine lv_iload hx hb dX11_read_23 (lv_at hl 0 rfl) ?_
    refine q_ci (q_rV10_1 (rest := []) E (hml.trans hl.1.symm) hI (c_X11_none l X σ a r_3 ha) kv_X11_109 ha ⟨Nat.le_of_ble_eq_true rfl, Nat.le_of_ble_eq_true rfl⟩ (Nat.le_of_ble_eq_true rfl) dX11_read_25) hI (Nat.le_of_ble_eq_true rfl) (fun r_5 σ_6 H locs hpσ_6 hkσ_6 hI => ?_)
    have ahpσ_6 := hpσ_6.1
    have bhpσ_6 := hpσ_6.2.1
    have chpσ_6 := hpσ_6.2.2
    clear hpσ_6
    have fr_σ_6 := fr_σ.call chpσ_6 rfl rfl
    replace hF := q_biX hF bhpσ_6
    refine lv_i2l hx hb dX11_read_28 rfl ?_
    refine lv_topl (fun y_7 ey_7 => ?_)
    replace hF := q_letX hF ey_7
    exact q_retl E hr hlk hI ⟨(hF.trans hout), fr_σ_6⟩ dX11_read_29
  · show W _ _ _ _ _ _ _ _ _ _ _ _ _ _ _ (F0 m (2 + 3) ls [.ref r_1])
    replace hF := q_onS hF
    obtain ⟨kq_r_1, eq_r_1, lo_r_1, hi_r_1⟩ := bhpσ_2.1 _ rfl
    have f0_r_1 : (σ.1 (q_rf X (q_rf X a 3) v1.toNatClampNeg) 0).toInt = (σ.1 r_1 0).toInt := by rw [← eq_r_1]
    have f1_r_1 : (σ.1 (q_rf X (q_rf X a 3) v1.toNatClampNeg) 1).toInt = (σ.1 r_1 1).toInt := by rw [← eq_r_1]
    have g1_r_1 : -1 ≤ (σ.1 r_1 1).toInt ∧ (σ.1 r_1 1).toInt ≤ 60 := q_bd hI kq_r_1 rfl
    refine lv_astore_n (lv' := [(3, .ref r_1), (0, .ref a), (1, .int v1), (2, .int v2)]) hx hb dX11_read_5 rfl hl (by decide) rfl (fun ls hl => ?_)
    refine lv_aload_n hx hb dX11_read_6 rfl (lv_at hl 0 rfl) ?_
    refine lv_iload_n hx hb dX11_read_7 rfl (lv_at hl 3 rfl) ?_
    refine q_ci (q_runS (As := [.ref r_1, .int v2]) (rest := []) E (hml.trans hl.1.symm) hI (c_X11_placeStatus l X σ r_1 v2 kq_r_1) ks_X11_101 rfl ⟨Nat.le_of_ble_eq_true rfl, Nat.le_of_ble_eq_true rfl⟩ ⟨Nat.le_refl _, Nat.le_refl _⟩ rfl (Nat.le_of_ble_eq_true rfl) dX11_read_8) hI (Nat.le_of_ble_eq_true rfl) (fun r_8 σ_9 H locs hpσ_9 hkσ_9 hI => ?_)
    have ahpσ_9 := hpσ_9.1
    have bhpσ_9 := hpσ_9.2.1
    have chpσ_9 := hpσ_9.2.2.1
    have dhpσ_9 := hpσ_9.2.2.2.1
    have ehpσ_9 := hpσ_9.2.2.2.2
    clear hpσ_9
    replace hI := q_Irw ahpσ_9 hI
    replace hF := q_letX hF ehpσ_9
    refine lv_istore (lv' := [(4, .int r_8), (3, .ref r_1), (0, .ref a), (1, .int v1), (2, .int v2)]) hx hb dX11_read_11 hl (by decide) rfl (fun ls hl => ?_)
    refine lv_aload_n hx hb dX11_read_13 rfl (lv_at hl 1 rfl) ?_
    refine lv_ifnull hx hb dX11_read_14 ?_
    refine lv_iload hx hb dX11_read_17 (lv_at hl 0 rfl) ?_
    refine q_if_eq (A := r_8.toInt) E rfl (tgt := 30) dX11_read_19 (by decide) (fun c_10 => ?_) (fun c_10 => ?_)
    · skip
      replace hF := q_ifp hF c_10
      refine lv_aload_n hx hb dX11_read_30 rfl (lv_at hl 2 rfl) ?_
      refine lv_iconst (v := 0) hx hb dX11_read_31 zki_0 ?_
      refine ps_X11_9_11 E hI ha (by decide) dX11_read_32 (fun H locs σ_11 hσ_11 hI => ?_)
      replace hF := q_letX hF hσ_11
      have fr_σ_11 := fr_σ.si hσ_11 ha rfl
      refine lv_aload_n hx hb dX11_read_35 rfl (lv_at hl 1 rfl) ?_
      refine lv_iload_n hx hb dX11_read_36 rfl (lv_at hl 4 rfl) ?_
      refine q_cl_ (q_rV9_1 (rest := []) E (hml.trans hl.1.symm) hI (c_X10_get l X σ_11 r_1 v2 kq_r_1) kv_X11_113 kq_r_1 ⟨Nat.le_of_ble_eq_true rfl, Nat.le_of_ble_eq_true rfl⟩ (Nat.le_of_ble_eq_true rfl) dX11_read_37) hI (Nat.le_of_ble_eq_true rfl) (fun r_12 σ_13 H locs hpσ_13 hkσ_13 hI => ?_)
      have ahpσ_13 := hpσ_13.1
      have bhpσ_13 := hpσ_13.2
      clear hpσ_13
      replace hI := q_Irw ahpσ_13 hI
      replace hF := q_letX hF bhpσ_13
      exact q_retl E hr hlk hI ⟨(hF.trans hout), fr_σ_11⟩ dX11_read_40
    · skip
      replace hF := q_ifn hF c_10
      refine lv_aload_n hx hb dX11_read_22 rfl (lv_at hl 2 rfl) ?_
      refine lv_iload hx hb dX11_read_23 (lv_at hl 0 rfl) ?_
      refine q_ci (q_rV10_1 (rest := []) E (hml.trans hl.1.symm) hI (c_X11_none l X σ a r_8 ha) kv_X11_109 ha ⟨Nat.le_of_ble_eq_true rfl, Nat.le_of_ble_eq_true rfl⟩ (Nat.le_of_ble_eq_true rfl) dX11_read_25) hI (Nat.le_of_ble_eq_true rfl) (fun r_14 σ_15 H locs hpσ_15 hkσ_15 hI => ?_)
      have ahpσ_15 := hpσ_15.1
      have bhpσ_15 := hpσ_15.2.1
      have chpσ_15 := hpσ_15.2.2
      clear hpσ_15
      have fr_σ_15 := fr_σ.call chpσ_15 rfl rfl
      replace hF := q_biX hF bhpσ_15
      refine lv_i2l hx hb dX11_read_28 rfl ?_
      refine lv_topl (fun y_16 ey_16 => ?_)
      replace hF := q_letX hF ey_16
      exact q_retl E hr hlk hI ⟨(hF.trans hout), fr_σ_15⟩ dX11_read_29
end
