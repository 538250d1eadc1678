section
set_option maxRecDepth 100000 in
set_option maxHeartbeats 4000000 in
theorem c_X7_behindStep (l : Launch) (X : XW) (σ : ST) (a : Nat) (r1 : Nat) (v2 : Int32) (ha : q_kd X a = 7) (hr1 : q_kd X r1 = 1) : Met l yX7_behindStep (q_ws yX7_behindStep cX7_behindStep 8 (some .int)) (q_rm 5 114) (q_P X σ [.ref a, .ref r1, .int v2]) (q_Qi X 8 σ (fun (r : Int32) (σ' : ST) => (r, σ') = F_X7_behindStep X σ a r1 v2 ∧ q_ow [(1, 4), (1, 5), (1, 6), (1, 7), (1, 9), (3, 0), (3, 1), (7, 1), (7, 2), (7, 3), (7, 4), (7, 6), (20, 99)] [] X σ σ')) 0 0 (q_reg X) := by
  refine q_met 8 (by first | exact rfl | decide +kernel) rfl (Nat.le_of_ble_eq_true rfl) (fun p e s m below meth c E hml hr hlk hI ls hl => ?_)
  have hx := E.1
  have hb := E.2.1
  have hl : lv_has ls 8 [(0, .ref a), (1, .ref r1), (2, .int v2)] := hl
  have fr_σ : q_ow [(1, 4), (1, 5), (1, 6), (1, 7), (1, 9), (3, 0), (3, 1), (7, 1), (7, 2), (7, 3), (7, 4), (7, 6), (20, 99)] [] X σ σ := q_ow.rf
  obtain ⟨out, hout⟩ : ∃ o, o = F_X7_behindStep X σ a r1 v2 := ⟨_, rfl⟩
  have hF := hout.symm
  unfold F_X7_behindStep at hF
  refine lv_aload_n hx hb dX7_behindStep_0 rfl (lv_at hl 1 rfl) ?_
  refine gs_X7_45_1 E hI hr1 dX7_behindStep_1 ?_
  refine lv_astore_n (lv' := [(3, .ref (q_rf X r1 3)), (0, .ref a), (1, .ref r1), (2, .int v2)]) hx hb dX7_behindStep_4 rfl hl (by decide) rfl (fun ls hl => ?_)
  refine lv_aload_n hx hb dX7_behindStep_5 rfl (lv_at hl 2 rfl) ?_
  refine gs_X7_77_1 E hI hr1 dX7_behindStep_6 ?_
  refine lv_astore (lv' := [(4, .ref (q_rf X r1 1)), (3, .ref (q_rf X r1 3)), (0, .ref a), (1, .ref r1), (2, .int v2)]) hx hb dX7_behindStep_9 hl (by decide) rfl (fun ls hl => ?_)
  refine lv_aload_n hx hb dX7_behindStep_11 rfl (lv_at hl 1 rfl) ?_
  refine gs_X7_81_8 E hI (q_tk (k' := 8) hI hr1 rfl (by decide)) dX7_behindStep_12 ?_
  refine lv_iload_n hx hb dX7_behindStep_15 rfl (lv_at hl 4 rfl) ?_
  refine q_ci (q_runV (As := [.int v2]) (rest := []) E (hml.trans hl.1.symm) hI (c_X5_get l X σ (q_rf X (q_rf X r1 3) 5) v2 (q_tk (k' := 5) hI (q_tk (k' := 8) hI hr1 rfl (by decide)) rfl (by decide))) kv_X7_58 (q_tk (k' := 5) hI (q_tk (k' := 8) hI hr1 rfl (by decide)) rfl (by decide)) ⟨rfl, by decide⟩ (show vwCl[4]? = some (RX5, TX5, 1) from rfl) rfl ⟨Nat.le_of_ble_eq_true rfl, Nat.le_of_ble_eq_true rfl⟩ ⟨Nat.le_refl _, Nat.le_refl _⟩ rfl (Nat.le_of_ble_eq_true rfl) dX7_behindStep_16) hI (by decide) (fun r_1 σ_2 H locs hpσ_2 hkσ_2 hI => ?_)
  obtain ⟨ahpσ_2, bhpσ_2⟩ := hpσ_2
  rw [ahpσ_2] at hI
  replace hF := q_letX hF bhpσ_2
  refine lv_istore (lv' := [(5, .int r_1), (4, .ref (q_rf X r1 1)), (3, .ref (q_rf X r1 3)), (0, .ref a), (1, .ref r1), (2, .int v2)]) hx hb dX7_behindStep_19 hl (by decide) rfl (fun ls hl => ?_)
  refine lv_aload_n hx hb dX7_behindStep_21 rfl (lv_at hl 2 rfl) ?_
  refine gs_X7_84_8 E hI (q_tk (k' := 8) hI hr1 rfl (by decide)) dX7_behindStep_22 ?_
  refine lv_iload_n hx hb dX7_behindStep_25 rfl (lv_at hl 5 rfl) ?_
  refine q_ci (q_runV (As := [.int v2]) (rest := []) E (hml.trans hl.1.symm) hI (c_X5_get l X σ (q_rf X (q_rf X r1 3) 7) v2 (q_tk (k' := 5) hI (q_tk (k' := 8) hI hr1 rfl (by decide)) rfl (by decide))) kv_X7_58 (q_tk (k' := 5) hI (q_tk (k' := 8) hI hr1 rfl (by decide)) rfl (by decide)) ⟨rfl, by decide⟩ (show vwCl[4]? = some (RX5, TX5, 1) from rfl) rfl ⟨Nat.le_of_ble_eq_true rfl, Nat.le_of_ble_eq_true rfl⟩ ⟨Nat.le_refl _, Nat.le_refl _⟩ rfl (Nat.le_of_ble_eq_true rfl) dX7_behindStep_26) hI (by decide) (fun r_3 σ_4 H locs hpσ_4 hkσ_4 hI => ?_)
  obtain ⟨ahpσ_4, bhpσ_4⟩ := hpσ_4
  rw [ahpσ_4] at hI
  replace hF := q_letX hF bhpσ_4
  refine lv_istore (lv' := [(6, .int r_3), (5, .int r_1), (4, .ref (q_rf X r1 1)), (3, .ref (q_rf X r1 3)), (0, .ref a), (1, .ref r1), (2, .int v2)]) hx hb dX7_behindStep_29 hl (by decide) rfl (fun ls hl => ?_)
  refine lv_aload_n hx hb dX7_behindStep_31 rfl (lv_at hl 3 rfl) ?_
  refine gs_X7_70_8 E hI (q_tk (k' := 8) hI hr1 rfl (by decide)) dX7_behindStep_32 ?_
  refine lv_iload_n hx hb dX7_behindStep_35 rfl (lv_at hl 6 rfl) ?_
  refine q_ci (q_runV (As := [.int v2]) (rest := []) E (hml.trans hl.1.symm) hI (c_X5_get l X σ (q_rf X (q_rf X r1 3) 4) v2 (q_tk (k' := 5) hI (q_tk (k' := 8) hI hr1 rfl (by decide)) rfl (by decide))) kv_X7_58 (q_tk (k' := 5) hI (q_tk (k' := 8) hI hr1 rfl (by decide)) rfl (by decide)) ⟨rfl, by decide⟩ (show vwCl[4]? = some (RX5, TX5, 1) from rfl) rfl ⟨Nat.le_of_ble_eq_true rfl, Nat.le_of_ble_eq_true rfl⟩ ⟨Nat.le_refl _, Nat.le_refl _⟩ rfl (Nat.le_of_ble_eq_true rfl) dX7_behindStep_36) hI (by decide) (fun r_5 σ_6 H locs hpσ_6 hkσ_6 hI => ?_)
  obtain ⟨ahpσ_6, bhpσ_6⟩ := hpσ_6
  rw [ahpσ_6] at hI
  replace hF := q_letX hF bhpσ_6
  refine lv_iconst (v := 1) hx hb dX7_behindStep_39 (by decide) ?_
  refine lv_iadd hx hb dX7_behindStep_40 ?_
  refine lv_topi (fun z_7 ez_7 => ?_)
  replace hF := q_letX hF ez_7
  refine lv_istore (lv' := [(7, .int z_7), (6, .int r_3), (5, .int r_1), (4, .ref (q_rf X r1 1)), (3, .ref (q_rf X r1 3)), (0, .ref a), (1, .ref r1), (2, .int v2)]) hx hb dX7_behindStep_41 hl (by decide) rfl (fun ls hl => ?_)
  refine lv_aload_n hx hb dX7_behindStep_43 rfl (lv_at hl 4 rfl) ?_
  refine gs_X7_55_8 E hI (q_tk (k' := 8) hI hr1 rfl (by decide)) dX7_behindStep_44 ?_
  refine lv_iload_n hx hb dX7_behindStep_47 rfl (lv_at hl 7 rfl) ?_
  refine q_ci (q_runV (As := [.int v2]) (rest := []) E (hml.trans hl.1.symm) hI (c_X5_get l X σ (q_rf X (q_rf X r1 3) 3) v2 (q_tk (k' := 5) hI (q_tk (k' := 8) hI hr1 rfl (by decide)) rfl (by decide))) kv_X7_58 (q_tk (k' := 5) hI (q_tk (k' := 8) hI hr1 rfl (by decide)) rfl (by decide)) ⟨rfl, by decide⟩ (show vwCl[4]? = some (RX5, TX5, 1) from rfl) rfl ⟨Nat.le_of_ble_eq_true rfl, Nat.le_of_ble_eq_true rfl⟩ ⟨Nat.le_refl _, Nat.le_refl _⟩ rfl (Nat.le_of_ble_eq_true rfl) dX7_behindStep_48) hI (by decide) (fun r_8 σ_9 H locs hpσ_9 hkσ_9 hI => ?_)
  obtain ⟨ahpσ_9, bhpσ_9⟩ := hpσ_9
  rw [ahpσ_9] at hI
  replace hF := q_letX hF bhpσ_9
  by_cases c_10 : r_8.toInt = 0
  · refine lv_tableIn (off := 49) (tgt := 100) hx hb dX7_behindStep_51 (by omega) (by omega) (by rw [c_10]; rfl) (by decide) ?_
    replace hF := q_ifp hF c_10
    refine lv_aload_n hx hb dX7_behindStep_100 rfl (lv_at hl 5 rfl) ?_
    refine lv_aload_n hx hb dX7_behindStep_101 rfl (lv_at hl 6 rfl) ?_
    refine q_cv (q_runV (As := [.ref r1]) (rest := []) E (hml.trans hl.1.symm) hI (c_X7_takeTurn l X σ a r1 ha hr1) kv_X7_87 ha ⟨rfl, by decide⟩ (show vwCl[6]? = some (RX7, TX7, 8) from rfl) rfl ⟨Nat.le_of_ble_eq_true rfl, Nat.le_of_ble_eq_true rfl⟩ ⟨Nat.le_refl _, Nat.le_refl _⟩ rfl (Nat.le_of_ble_eq_true rfl) dX7_behindStep_102) hI (by decide) (fun σ_12 H locs hpσ_12 hkσ_12 hI => ?_)
    obtain ⟨ahpσ_12, bhpσ_12⟩ := hpσ_12
    have fr_σ_12 := fr_σ.call bhpσ_12 rfl rfl
    replace hF := q_letX hF ahpσ_12
    refine lv_iload_n hx hb dX7_behindStep_105 rfl (lv_at hl 7 rfl) ?_
    refine lv_iconst (v := 1) hx hb dX7_behindStep_106 (by decide) ?_
    refine lv_iadd hx hb dX7_behindStep_107 ?_
    refine lv_topi (fun z_13 ez_13 => ?_)
    replace hF := q_letX hF ez_13
    exact q_reti E hr hlk hI ⟨(hF.trans hout), fr_σ_12⟩ dX7_behindStep_108
  replace hF := q_ifn hF c_10
  by_cases c_14 : r_8.toInt = 1
  · refine lv_tableIn (off := 58) (tgt := 109) hx hb dX7_behindStep_51 (by omega) (by omega) (by rw [c_14]; rfl) (by decide) ?_
    replace hF := q_ifp hF c_14
    refine lv_aload hx hb dX7_behindStep_109 (lv_at hl 3 rfl) ?_
    refine gs_X7_91_2 E hI (q_tk (k' := 2) hI hr1 rfl (by decide)) dX7_behindStep_111 ?_
    refine lv_iload hx hb dX7_behindStep_114 (lv_at hl 2 rfl) ?_
    refine lv_iload hx hb dX7_behindStep_116 (lv_at hl 1 rfl) ?_
    refine q_cv (q_runV (As := [.int r_1, .int r_3]) (rest := []) E (hml.trans hl.1.symm) hI (c_X5_set l X σ (q_rf X (q_rf X r1 1) 3) r_1 r_3 (q_tk (k' := 5) hI (q_tk (k' := 2) hI hr1 rfl (by decide)) rfl (by decide))) kv_X7_96 (q_tk (k' := 5) hI (q_tk (k' := 2) hI hr1 rfl (by decide)) rfl (by decide)) ⟨rfl, by decide⟩ (show vwCl[4]? = some (RX5, TX5, 1) from rfl) rfl ⟨Nat.le_of_ble_eq_true rfl, Nat.le_of_ble_eq_true rfl⟩ ⟨Nat.le_refl _, Nat.le_refl _⟩ rfl (Nat.le_of_ble_eq_true rfl) dX7_behindStep_118) hI (by decide) (fun σ_16 H locs hpσ_16 hkσ_16 hI => ?_)
    obtain ⟨ahpσ_16, bhpσ_16⟩ := hpσ_16
    have fr_σ_16 := fr_σ.call bhpσ_16 rfl rfl
    replace hF := q_letX hF ahpσ_16
    refine lv_iload_n hx hb dX7_behindStep_121 rfl (lv_at hl 7 rfl) ?_
    refine lv_iconst (v := 1) hx hb dX7_behindStep_122 (by decide) ?_
    refine lv_iadd hx hb dX7_behindStep_123 ?_
    refine lv_topi (fun z_17 ez_17 => ?_)
    replace hF := q_letX hF ez_17
    exact q_reti E hr hlk hI ⟨(hF.trans hout), fr_σ_16⟩ dX7_behindStep_124
  replace hF := q_ifn hF c_14
  by_cases c_18 : r_8.toInt = 2
  · refine lv_tableIn (off := 74) (tgt := 125) hx hb dX7_behindStep_51 (by omega) (by omega) (by rw [c_18]; rfl) (by decide) ?_
    replace hF := q_ifp hF c_18
    refine lv_aload hx hb dX7_behindStep_125 (lv_at hl 3 rfl) ?_
    refine gs_X7_99_2 E hI (q_tk (k' := 2) hI hr1 rfl (by decide)) dX7_behindStep_127 ?_
    refine lv_iload hx hb dX7_behindStep_130 (lv_at hl 2 rfl) ?_
    refine lv_iload hx hb dX7_behindStep_132 (lv_at hl 1 rfl) ?_
    refine q_cv (q_runV (As := [.int r_1, .int r_3]) (rest := []) E (hml.trans hl.1.symm) hI (c_X5_set l X σ (q_rf X (q_rf X r1 1) 4) r_1 r_3 (q_tk (k' := 5) hI (q_tk (k' := 2) hI hr1 rfl (by decide)) rfl (by decide))) kv_X7_96 (q_tk (k' := 5) hI (q_tk (k' := 2) hI hr1 rfl (by decide)) rfl (by decide)) ⟨rfl, by decide⟩ (show vwCl[4]? = some (RX5, TX5, 1) from rfl) rfl ⟨Nat.le_of_ble_eq_true rfl, Nat.le_of_ble_eq_true rfl⟩ ⟨Nat.le_refl _, Nat.le_refl _⟩ rfl (Nat.le_of_ble_eq_true rfl) dX7_behindStep_134) hI (by decide) (fun σ_20 H locs hpσ_20 hkσ_20 hI => ?_)
    obtain ⟨ahpσ_20, bhpσ_20⟩ := hpσ_20
    have fr_σ_20 := fr_σ.call bhpσ_20 rfl rfl
    replace hF := q_letX hF ahpσ_20
    refine lv_iload_n hx hb dX7_behindStep_137 rfl (lv_at hl 7 rfl) ?_
    refine lv_iconst (v := 1) hx hb dX7_behindStep_138 (by decide) ?_
    refine lv_iadd hx hb dX7_behindStep_139 ?_
    refine lv_topi (fun z_21 ez_21 => ?_)
    replace hF := q_letX hF ez_21
    exact q_reti E hr hlk hI ⟨(hF.trans hout), fr_σ_20⟩ dX7_behindStep_140
  replace hF := q_ifn hF c_18
  by_cases c_22 : r_8.toInt = 3
  · refine lv_tableIn (off := 199) (tgt := 250) hx hb dX7_behindStep_51 (by omega) (by omega) (by rw [c_22]; rfl) (by decide) ?_
    replace hF := q_ifp hF c_22
    refine lv_aload_n hx hb dX7_behindStep_250 rfl (lv_at hl 4 rfl) ?_
    refine gs_X7_52_8 E hI (q_tk (k' := 8) hI hr1 rfl (by decide)) dX7_behindStep_251 ?_
    refine lv_topi (fun f_23 ef_23 => ?_)
    replace hF := q_letX hF ef_23
    exact q_reti E hr hlk hI ⟨(hF.trans hout), fr_σ⟩ dX7_behindStep_254
  replace hF := q_ifn hF c_22
  by_cases c_24 : r_8.toInt = 4
  · refine lv_tableIn (off := 90) (tgt := 141) hx hb dX7_behindStep_51 (by omega) (by omega) (by rw [c_24]; rfl) (by decide) ?_
    replace hF := q_ifp hF c_24
    refine lv_aload_n hx hb dX7_behindStep_141 rfl (lv_at hl 5 rfl) ?_
    refine gs_X7_41_7 E hI ha dX7_behindStep_142 ?_
    refine lv_iload_n hx hb dX7_behindStep_145 rfl (lv_at hl 7 rfl) ?_
    refine lv_iload hx hb dX7_behindStep_146 (lv_at hl 1 rfl) ?_
    refine q_cv (q_runV (As := [.int v2, .int r_3]) (rest := []) E (hml.trans hl.1.symm) hI (c_X5_set l X σ (q_rf X a 7) v2 r_3 (q_tk (k' := 5) hI ha rfl (by decide))) kv_X7_96 (q_tk (k' := 5) hI ha rfl (by decide)) ⟨rfl, by decide⟩ (show vwCl[4]? = some (RX5, TX5, 1) from rfl) rfl ⟨Nat.le_of_ble_eq_true rfl, Nat.le_of_ble_eq_true rfl⟩ ⟨Nat.le_refl _, Nat.le_refl _⟩ rfl (Nat.le_of_ble_eq_true rfl) dX7_behindStep_148) hI (by decide) (fun σ_26 H locs hpσ_26 hkσ_26 hI => ?_)
    obtain ⟨ahpσ_26, bhpσ_26⟩ := hpσ_26
    have fr_σ_26 := fr_σ.call bhpσ_26 rfl rfl
    replace hF := q_letX hF ahpσ_26
    refine lv_iload_n hx hb dX7_behindStep_151 rfl (lv_at hl 7 rfl) ?_
    refine lv_iconst (v := 1) hx hb dX7_behindStep_152 (by decide) ?_
    refine lv_iadd hx hb dX7_behindStep_153 ?_
    refine lv_topi (fun z_27 ez_27 => ?_)
    replace hF := q_letX hF ez_27
    exact q_reti E hr hlk hI ⟨(hF.trans hout), fr_σ_26⟩ dX7_behindStep_154
  replace hF := q_ifn hF c_24
  by_cases c_28 : r_8.toInt = 5
  · refine lv_tableIn (off := 104) (tgt := 155) hx hb dX7_behindStep_51 (by omega) (by omega) (by rw [c_28]; rfl) (by decide) ?_
    replace hF := q_ifp hF c_28
    refine lv_aload_n hx hb dX7_behindStep_155 rfl (lv_at hl 4 rfl) ?_
    refine lv_iload_n hx hb dX7_behindStep_156 rfl (lv_at hl 7 rfl) ?_
    refine lv_aload hx hb dX7_behindStep_157 (lv_at hl 3 rfl) ?_
    refine gs_X7_102_2 E hI (q_tk (k' := 2) hI hr1 rfl (by decide)) dX7_behindStep_159 ?_
    refine lv_iload hx hb dX7_behindStep_162 (lv_at hl 2 rfl) ?_
    refine q_ci (q_runV (As := [.int r_1]) (rest := [.int v2, .ref (q_rf X r1 3)]) E (hml.trans hl.1.symm) hI (c_X5_get l X σ (q_rf X (q_rf X r1 1) 2) r_1 (q_tk (k' := 5) hI (q_tk (k' := 2) hI hr1 rfl (by decide)) rfl (by decide))) kv_X7_58 (q_tk (k' := 5) hI (q_tk (k' := 2) hI hr1 rfl (by decide)) rfl (by decide)) ⟨rfl, by decide⟩ (show vwCl[4]? = some (RX5, TX5, 1) from rfl) rfl ⟨Nat.le_of_ble_eq_true rfl, Nat.le_of_ble_eq_true rfl⟩ ⟨Nat.le_refl _, Nat.le_refl _⟩ rfl (Nat.le_of_ble_eq_true rfl) dX7_behindStep_164) hI (by decide) (fun r_29 σ_30 H locs hpσ_30 hkσ_30 hI => ?_)
    obtain ⟨ahpσ_30, bhpσ_30⟩ := hpσ_30
    rw [ahpσ_30] at hI
    replace hF := q_letX hF bhpσ_30
    refine q_ci (q_runV (As := [.int v2, .int r_29]) (rest := []) E (hml.trans hl.1.symm) hI (c_X8_meets l X σ (q_rf X r1 3) v2 r_29 (q_tk (k' := 8) hI hr1 rfl (by decide))) kv_X7_105 (q_tk (k' := 8) hI hr1 rfl (by decide)) ⟨rfl, by decide⟩ (show vwCl[7]? = some (RX8, TX8, 8) from rfl) rfl ⟨Nat.le_of_ble_eq_true rfl, Nat.le_of_ble_eq_true rfl⟩ ⟨Nat.le_refl _, Nat.le_refl _⟩ rfl (Nat.le_of_ble_eq_true rfl) dX7_behindStep_167) hI (by decide) (fun r_31 σ_32 H locs hpσ_32 hkσ_32 hI => ?_)
    obtain ⟨ahpσ_32, bhpσ_32, chpσ_32⟩ := hpσ_32
    rw [ahpσ_32] at hI
    replace hF := q_letX hF chpσ_32
    refine q_if_eq (A := r_31.toInt) E rfl (tgt := 179) dX7_behindStep_170 (by decide) (fun c_33 => ?_) (fun c_33 => ?_)
    · skip
      replace hF := q_ifp hF c_33
      refine lv_iload hx hb dX7_behindStep_179 (lv_at hl 0 rfl) ?_
      exact q_reti E hr hlk hI ⟨(hF.trans hout), fr_σ⟩ dX7_behindStep_181
    · skip
      replace hF := q_ifn hF c_33
      refine lv_iload_n hx hb dX7_behindStep_173 rfl (lv_at hl 7 rfl) ?_
      refine lv_iconst (v := 1) hx hb dX7_behindStep_174 (by decide) ?_
      refine lv_iadd hx hb dX7_behindStep_175 ?_
      refine lv_topi (fun z_34 ez_34 => ?_)
      replace hF := q_letX hF ez_34
      refine lv_goto (tgt := 181) hx hb dX7_behindStep_176 (by decide) ?_
      exact q_reti E hr hlk hI ⟨(hF.trans hout), fr_σ⟩ dX7_behindStep_181
  replace hF := q_ifn hF c_28
  by_cases c_35 : r_8.toInt = 6
  · refine lv_tableIn (off := 131) (tgt := 182) hx hb dX7_behindStep_51 (by omega) (by omega) (by rw [c_35]; rfl) (by decide) ?_
    replace hF := q_ifp hF c_35
    refine lv_aload_n hx hb dX7_behindStep_182 rfl (lv_at hl 4 rfl) ?_
    refine lv_iload_n hx hb dX7_behindStep_183 rfl (lv_at hl 7 rfl) ?_
    refine lv_aload_n hx hb dX7_behindStep_184 rfl (lv_at hl 6 rfl) ?_
    refine gs_X7_109_1 E hI hr1 dX7_behindStep_185 ?_
    refine gs_X7_113_3 E hI (q_tk (k' := 3) hI hr1 rfl (by decide)) dX7_behindStep_188 ?_
    refine lv_topi (fun f_36 ef_36 => ?_)
    replace hF := q_letX hF ef_36
    refine q_ci (q_runV (As := [.int v2, .int f_36]) (rest := []) E (hml.trans hl.1.symm) hI (c_X8_meets l X σ (q_rf X r1 3) v2 f_36 (q_tk (k' := 8) hI hr1 rfl (by decide))) kv_X7_105 (q_tk (k' := 8) hI hr1 rfl (by decide)) ⟨rfl, by decide⟩ (show vwCl[7]? = some (RX8, TX8, 8) from rfl) rfl ⟨Nat.le_of_ble_eq_true rfl, Nat.le_of_ble_eq_true rfl⟩ ⟨Nat.le_refl _, Nat.le_refl _⟩ rfl (Nat.le_of_ble_eq_true rfl) dX7_behindStep_191) hI (by decide) (fun r_37 σ_38 H locs hpσ_38 hkσ_38 hI => ?_)
    obtain ⟨ahpσ_38, bhpσ_38, chpσ_38⟩ := hpσ_38
    rw [ahpσ_38] at hI
    replace hF := q_letX hF chpσ_38
    refine q_if_eq (A := r_37.toInt) E rfl (tgt := 203) dX7_behindStep_194 (by decide) (fun c_39 => ?_) (fun c_39 => ?_)
    · skip
      replace hF := q_ifp hF c_39
      refine lv_iload hx hb dX7_behindStep_203 (lv_at hl 0 rfl) ?_
      exact q_reti E hr hlk hI ⟨(hF.trans hout), fr_σ⟩ dX7_behindStep_205
    · skip
      replace hF := q_ifn hF c_39
      refine lv_iload_n hx hb dX7_behindStep_197 rfl (lv_at hl 7 rfl) ?_
      refine lv_iconst (v := 1) hx hb dX7_behindStep_198 (by decide) ?_
      refine lv_iadd hx hb dX7_behindStep_199 ?_
      refine lv_topi (fun z_40 ez_40 => ?_)
      replace hF := q_letX hF ez_40
      refine lv_goto (tgt := 205) hx hb dX7_behindStep_200 (by decide) ?_
      exact q_reti E hr hlk hI ⟨(hF.trans hout), fr_σ⟩ dX7_behindStep_205
  replace hF := q_ifn hF c_35
  by_cases c_41 : r_8.toInt = 7
  · refine lv_tableIn (off := 155) (tgt := 206) hx hb dX7_behindStep_51 (by omega) (by omega) (by rw [c_41]; rfl) (by decide) ?_
    replace hF := q_ifp hF c_41
    refine lv_aload_n hx hb dX7_behindStep_206 rfl (lv_at hl 4 rfl) ?_
    refine lv_iload_n hx hb dX7_behindStep_207 rfl (lv_at hl 7 rfl) ?_
    refine lv_aload hx hb dX7_behindStep_208 (lv_at hl 3 rfl) ?_
    refine gs_X7_117_2 E hI (q_tk (k' := 2) hI hr1 rfl (by decide)) dX7_behindStep_210 ?_
    refine lv_iload hx hb dX7_behindStep_213 (lv_at hl 2 rfl) ?_
    refine q_ci (q_runV (As := [.int r_1]) (rest := [.int v2, .ref (q_rf X r1 3)]) E (hml.trans hl.1.symm) hI (c_X5_get l X σ (q_rf X (q_rf X r1 1) 5) r_1 (q_tk (k' := 5) hI (q_tk (k' := 2) hI hr1 rfl (by decide)) rfl (by decide))) kv_X7_58 (q_tk (k' := 5) hI (q_tk (k' := 2) hI hr1 rfl (by decide)) rfl (by decide)) ⟨rfl, by decide⟩ (show vwCl[4]? = some (RX5, TX5, 1) from rfl) rfl ⟨Nat.le_of_ble_eq_true rfl, Nat.le_of_ble_eq_true rfl⟩ ⟨Nat.le_refl _, Nat.le_refl _⟩ rfl (Nat.le_of_ble_eq_true rfl) dX7_behindStep_215) hI (by decide) (fun r_42 σ_43 H locs hpσ_43 hkσ_43 hI => ?_)
    obtain ⟨ahpσ_43, bhpσ_43⟩ := hpσ_43
    rw [ahpσ_43] at hI
    replace hF := q_letX hF bhpσ_43
    refine q_ci (q_runV (As := [.int v2, .int r_42]) (rest := []) E (hml.trans hl.1.symm) hI (c_X8_meets l X σ (q_rf X r1 3) v2 r_42 (q_tk (k' := 8) hI hr1 rfl (by decide))) kv_X7_105 (q_tk (k' := 8) hI hr1 rfl (by decide)) ⟨rfl, by decide⟩ (show vwCl[7]? = some (RX8, TX8, 8) from rfl) rfl ⟨Nat.le_of_ble_eq_true rfl, Nat.le_of_ble_eq_true rfl⟩ ⟨Nat.le_refl _, Nat.le_refl _⟩ rfl (Nat.le_of_ble_eq_true rfl) dX7_behindStep_218) hI (by decide) (fun r_44 σ_45 H locs hpσ_45 hkσ_45 hI => ?_)
    obtain ⟨ahpσ_45, bhpσ_45, chpσ_45⟩ := hpσ_45
    rw [ahpσ_45] at hI
    replace hF := q_letX hF chpσ_45
    refine q_if_eq (A := r_44.toInt) E rfl (tgt := 230) dX7_behindStep_221 (by decide) (fun c_46 => ?_) (fun c_46 => ?_)
    · skip
      replace hF := q_ifp hF c_46
      refine lv_iload hx hb dX7_behindStep_230 (lv_at hl 0 rfl) ?_
      exact q_reti E hr hlk hI ⟨(hF.trans hout), fr_σ⟩ dX7_behindStep_232
    · skip
      replace hF := q_ifn hF c_46
      refine lv_iload_n hx hb dX7_behindStep_224 rfl (lv_at hl 7 rfl) ?_
      refine lv_iconst (v := 1) hx hb dX7_behindStep_225 (by decide) ?_
      refine lv_iadd hx hb dX7_behindStep_226 ?_
      refine lv_topi (fun z_47 ez_47 => ?_)
      replace hF := q_letX hF ez_47
      refine lv_goto (tgt := 232) hx hb dX7_behindStep_227 (by decide) ?_
      exact q_reti E hr hlk hI ⟨(hF.trans hout), fr_σ⟩ dX7_behindStep_232
  replace hF := q_ifn hF c_41
  by_cases c_48 : r_8.toInt = 8
  · refine lv_tableIn (off := 182) (tgt := 233) hx hb dX7_behindStep_51 (by omega) (by omega) (by rw [c_48]; rfl) (by decide) ?_
    replace hF := q_ifp hF c_48
    refine lv_aload_n hx hb dX7_behindStep_233 rfl (lv_at hl 6 rfl) ?_
    refine gs_X7_120_1 E hI hr1 dX7_behindStep_234 ?_
    refine lv_topi (fun f_49 ef_49 => ?_)
    replace hF := q_letX hF ef_49
    refine lv_iconst (v := (-1)) hx hb dX7_behindStep_237 (by decide) ?_
    refine q_icmp_eq (A := f_49.toInt) (B := (-1)) E rfl (by decide) (tgt := 247) dX7_behindStep_238 (by decide) (fun c_50 => ?_) (fun c_50 => ?_)
    · skip
      replace hF := q_ifp hF c_50
      refine lv_iload hx hb dX7_behindStep_247 (lv_at hl 0 rfl) ?_
      exact q_reti E hr hlk hI ⟨(hF.trans hout), fr_σ⟩ dX7_behindStep_249
    · skip
      replace hF := q_ifn hF c_50
      refine lv_iload_n hx hb dX7_behindStep_241 rfl (lv_at hl 7 rfl) ?_
      refine lv_iconst (v := 1) hx hb dX7_behindStep_242 (by decide) ?_
      refine lv_iadd hx hb dX7_behindStep_243 ?_
      refine lv_topi (fun z_51 ez_51 => ?_)
      replace hF := q_letX hF ez_51
      refine lv_goto (tgt := 249) hx hb dX7_behindStep_244 (by decide) ?_
      exact q_reti E hr hlk hI ⟨(hF.trans hout), fr_σ⟩ dX7_behindStep_249
  replace hF := q_ifn hF c_48
  refine lv_tableOut (tgt := 250) hx hb dX7_behindStep_51 (by omega) (by decide) ?_
  refine lv_aload_n hx hb dX7_behindStep_250 rfl (lv_at hl 4 rfl) ?_
  refine gs_X7_52_8 E hI (q_tk (k' := 8) hI hr1 rfl (by decide)) dX7_behindStep_251 ?_
  refine lv_topi (fun f_52 ef_52 => ?_)
  replace hF := q_letX hF ef_52
  exact q_reti E hr hlk hI ⟨(hF.trans hout), fr_σ⟩ dX7_behindStep_254
end
