section
set_option maxRecDepth 100000 in
set_option maxHeartbeats 4000000 in
theorem c_X7_behindEnd (l : Launch) (X : XW) (σ : ST) (a : Nat) (r1 : Nat) (v2 : Int32) (ha : q_kd X a = 7) (hr1 : q_kd X r1 = 8) : Met l yX7_behindEnd (q_ws yX7_behindEnd cX7_behindEnd 4 (some .int)) (q_rm 1 22) (q_P X σ [.ref a, .ref r1, .int v2]) (q_Qi X 8 σ (fun (r : Int32) (σ' : ST) => (r, σ') = F_X7_behindEnd X σ a r1 v2 ∧ q_ow [(20, 99)] [] X σ σ')) 0 0 (q_reg X) := by
  refine q_met 8 (by first | exact rfl | decide +kernel) rfl (Nat.le_of_ble_eq_true rfl) (fun p e s m below meth c E hml hr hlk hI ls hl => ?_)
  have hx := E.1
  have hb := E.2.1
  have hl : lv_has ls 4 [(0, .ref a), (1, .ref r1), (2, .int v2)] := hl
  have fr_σ : q_ow [(20, 99)] [] X σ σ := q_ow.rf
  obtain ⟨out, hout⟩ : ∃ o, o = F_X7_behindEnd X σ a r1 v2 := ⟨_, rfl⟩
  have hF := hout.symm
  unfold F_X7_behindEnd at hF
  refine lv_aload_n hx hb dX7_behindEnd_0 rfl (lv_at hl 1 rfl) ?_
  refine gs_X7_70_8 E hI hr1 dX7_behindEnd_1 ?_
  refine lv_iload_n hx hb dX7_behindEnd_4 rfl (lv_at hl 2 rfl) ?_
  refine q_ci (q_runV (As := [.int v2]) (rest := []) E (hml.trans hl.1.symm) hI (c_X5_get l X σ (q_rf X r1 4) v2 (q_tk (k' := 5) hI hr1 rfl (by decide))) kv_X7_58 (q_tk (k' := 5) hI hr1 rfl (by decide)) ⟨rfl, by decide⟩ (show vwCl[4]? = some (RX5, TX5, 1) from rfl) rfl ⟨Nat.le_of_ble_eq_true rfl, Nat.le_of_ble_eq_true rfl⟩ ⟨Nat.le_refl _, Nat.le_refl _⟩ rfl (Nat.le_of_ble_eq_true rfl) dX7_behindEnd_5) hI (by decide) (fun r_1 σ_2 H locs hpσ_2 hkσ_2 hI => ?_)
  obtain ⟨ahpσ_2, bhpσ_2⟩ := hpσ_2
  rw [ahpσ_2] at hI
  replace hF := q_letX hF bhpσ_2
  refine lv_istore_n (lv' := [(3, .int r_1), (0, .ref a), (1, .ref r1), (2, .int v2)]) hx hb dX7_behindEnd_8 rfl hl (by decide) rfl (fun ls hl => ?_)
  refine lv_aload_n hx hb dX7_behindEnd_9 rfl (lv_at hl 2 rfl) ?_
  refine gs_X7_55_8 E hI hr1 dX7_behindEnd_10 ?_
  refine lv_iload_n hx hb dX7_behindEnd_13 rfl (lv_at hl 0 rfl) ?_
  refine q_ci (q_runV (As := [.int r_1]) (rest := []) E (hml.trans hl.1.symm) hI (c_X5_get l X σ (q_rf X r1 3) r_1 (q_tk (k' := 5) hI hr1 rfl (by decide))) kv_X7_58 (q_tk (k' := 5) hI hr1 rfl (by decide)) ⟨rfl, by decide⟩ (show vwCl[4]? = some (RX5, TX5, 1) from rfl) rfl ⟨Nat.le_of_ble_eq_true rfl, Nat.le_of_ble_eq_true rfl⟩ ⟨Nat.le_refl _, Nat.le_refl _⟩ rfl (Nat.le_of_ble_eq_true rfl) dX7_behindEnd_14) hI (by decide) (fun r_3 σ_4 H locs hpσ_4 hkσ_4 hI => ?_)
  obtain ⟨ahpσ_4, bhpσ_4⟩ := hpσ_4
  rw [ahpσ_4] at hI
  replace hF := q_letX hF bhpσ_4
  refine lv_iconst (v := 4) hx hb dX7_behindEnd_17 (by decide) ?_
  refine q_icmp_ne (A := r_3.toInt) (B := 4) E rfl (by decide) (tgt := 45) dX7_behindEnd_18 (by decide) (fun c_5 => ?_) (fun c_5 => ?_)
  · skip
    replace hF := q_ifn hF c_5
    refine lv_iload_n hx hb dX7_behindEnd_45 rfl (lv_at hl 3 rfl) ?_
    refine lv_iconst (v := 1) hx hb dX7_behindEnd_46 (by decide) ?_
    refine lv_iadd hx hb dX7_behindEnd_47 ?_
    refine lv_topi (fun z_6 ez_6 => ?_)
    replace hF := q_letX hF ez_6
    exact q_reti E hr hlk hI ⟨(hF.trans hout), fr_σ⟩ dX7_behindEnd_48
  · skip
    replace hF := q_ifp hF c_5
    refine lv_aload_n hx hb dX7_behindEnd_21 rfl (lv_at hl 1 rfl) ?_
    refine gs_X7_41_7 E hI ha dX7_behindEnd_22 ?_
    refine lv_iload_n hx hb dX7_behindEnd_25 rfl (lv_at hl 0 rfl) ?_
    refine lv_iconst (v := (-1)) hx hb dX7_behindEnd_26 (by decide) ?_
    have kc_7 : ((-1) : Int32).toInt = (-1) := rfl
    refine q_cv (q_runV (As := [.int r_1, .int (-1)]) (rest := []) E (hml.trans hl.1.symm) hI (c_X5_add l X σ (q_rf X a 7) r_1 ((-1) : Int32) (q_tk (k' := 5) hI ha rfl (by decide))) kv_X7_73 (q_tk (k' := 5) hI ha rfl (by decide)) ⟨rfl, by decide⟩ (show vwCl[4]? = some (RX5, TX5, 1) from rfl) rfl ⟨Nat.le_of_ble_eq_true rfl, Nat.le_of_ble_eq_true rfl⟩ ⟨Nat.le_refl _, Nat.le_refl _⟩ rfl (Nat.le_of_ble_eq_true rfl) dX7_behindEnd_27) hI (by decide) (fun σ_9 H locs hpσ_9 hkσ_9 hI => ?_)
    obtain ⟨ahpσ_9, bhpσ_9⟩ := hpσ_9
    have fr_σ_9 := fr_σ.call bhpσ_9 rfl rfl
    replace hF := q_letX hF ahpσ_9
    refine lv_aload_n hx hb dX7_behindEnd_30 rfl (lv_at hl 1 rfl) ?_
    refine gs_X7_41_7 E hI ha dX7_behindEnd_31 ?_
    refine lv_iload_n hx hb dX7_behindEnd_34 rfl (lv_at hl 0 rfl) ?_
    refine q_ci (q_runV (As := [.int r_1]) (rest := []) E (hml.trans hl.1.symm) hI (c_X5_get l X σ_9 (q_rf X a 7) r_1 (q_tk (k' := 5) hI ha rfl (by decide))) kv_X7_58 (q_tk (k' := 5) hI ha rfl (by decide)) ⟨rfl, by decide⟩ (show vwCl[4]? = some (RX5, TX5, 1) from rfl) rfl ⟨Nat.le_of_ble_eq_true rfl, Nat.le_of_ble_eq_true rfl⟩ ⟨Nat.le_refl _, Nat.le_refl _⟩ rfl (Nat.le_of_ble_eq_true rfl) dX7_behindEnd_35) hI (by decide) (fun r_10 σ_11 H locs hpσ_11 hkσ_11 hI => ?_)
    obtain ⟨ahpσ_11, bhpσ_11⟩ := hpσ_11
    rw [ahpσ_11] at hI
    replace hF := q_letX hF bhpσ_11
    refine q_if_le (A := r_10.toInt) E rfl (tgt := 45) dX7_behindEnd_38 (by decide) (fun c_12 => ?_) (fun c_12 => ?_)
    · skip
      replace hF := q_ifn hF (Int.not_lt.mpr c_12)
      refine lv_iload_n hx hb dX7_behindEnd_45 rfl (lv_at hl 3 rfl) ?_
      refine lv_iconst (v := 1) hx hb dX7_behindEnd_46 (by decide) ?_
      refine lv_iadd hx hb dX7_behindEnd_47 ?_
      refine lv_topi (fun z_13 ez_13 => ?_)
      replace hF := q_letX hF ez_13
      exact q_reti E hr hlk hI ⟨(hF.trans hout), fr_σ_9⟩ dX7_behindEnd_48
    · skip
      replace hF := q_ifp hF c_12
      refine lv_iload_n hx hb dX7_behindEnd_41 rfl (lv_at hl 0 rfl) ?_
      refine lv_iconst (v := 1) hx hb dX7_behindEnd_42 (by decide) ?_
      refine lv_iadd hx hb dX7_behindEnd_43 ?_
      refine lv_topi (fun z_14 ez_14 => ?_)
      replace hF := q_letX hF ez_14
      exact q_reti E hr hlk hI ⟨(hF.trans hout), fr_σ_9⟩ dX7_behindEnd_44
end
