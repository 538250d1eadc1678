section
set_option maxRecDepth 100000 in
set_option maxHeartbeats 4000000 in
theorem c_X12_isWell (l : Launch) (X : XW) (σ : ST) (a : Nat) (ha : q_kd X a = 12) : Met l yX12_isWell (q_ws yX12_isWell cX12_isWell 1 (some .boolean)) (q_rm 1 21) (q_P X σ [.ref a]) (q_Qi X 8 σ (fun (r : Int32) (σ' : ST) => (0 ≤ r.toInt ∧ r.toInt ≤ 1) ∧ (r.toInt = 1 → (σ.1 a 12).toInt = 0) ∧ (r, σ') = F_X12_isWell X σ a ∧ q_ow [(12, 0), (12, 10), (12, 11)] [] X σ σ')) 0 0 (q_reg X) := by
  refine q_met 8 (by first | exact rfl | decide +kernel) rfl (Nat.le_of_ble_eq_true rfl) (fun p e s m below meth c E hml hr hlk hI ls hl => ?_)
  have hx := E.1
  have hb := E.2.1
  have hl : lv_has ls 1 [(0, .ref a)] := hl
  have fr_σ : q_ow [(12, 0), (12, 10), (12, 11)] [] X σ σ := q_ow.rf
  obtain ⟨out, hout⟩ : ∃ o, o = F_X12_isWell X σ a := ⟨_, rfl⟩
  have hF := hout.symm
  unfold F_X12_isWell at hF
  refine lv_aload_n hx hb dX12_isWell_0 rfl (lv_at hl 0 rfl) ?_
  refine lv_aload_n hx hb dX12_isWell_1 rfl (lv_at hl 0 rfl) ?_
  refine gs_X12_187_12 E hI ha dX12_isWell_2 ?_
  refine lv_topi (fun f_1 ef_1 => ?_)
  replace hF := q_letX hF ef_1
  have if_1 : f_1.toInt = (σ.1 a 12).toInt := congrArg Int32.toInt ef_1
  refine ps_X12_28_12 E hI ha (by decide) dX12_isWell_5 (fun H locs σ_2 hσ_2 hI => ?_)
  replace hF := q_letX hF hσ_2
  have fr_σ_2 := fr_σ.si hσ_2 ha rfl
  have mv12_σ_2 : (σ_2.1 a 12).toInt = (σ.1 a 12).toInt := congrArg Int32.toInt (q_rdn hσ_2 (Or.inr (by decide)))
  refine lv_aload_n hx hb dX12_isWell_8 rfl (lv_at hl 0 rfl) ?_
  refine lv_aload_n hx hb dX12_isWell_9 rfl (lv_at hl 0 rfl) ?_
  refine gs_X12_187_12 E hI ha dX12_isWell_10 ?_
  refine lv_topi (fun f_3 ef_3 => ?_)
  replace hF := q_letX hF ef_3
  have if_3 : f_3.toInt = (σ_2.1 a 12).toInt := congrArg Int32.toInt ef_3
  refine q_if_ne (A := f_3.toInt) E rfl (tgt := 20) dX12_isWell_13 (by decide) (fun c_4 => ?_) (fun c_4 => ?_)
  · skip
    replace hF := q_ifn hF c_4
    refine lv_aload_n hx hb dX12_isWell_20 rfl (lv_at hl 0 rfl) ?_
    refine gs_X12_190_12 E hI ha dX12_isWell_21 ?_
    refine lv_topi (fun f_5 ef_5 => ?_)
    replace hF := q_letX hF ef_5
    have if_5 : f_5.toInt = (σ_2.1 a 13).toInt := congrArg Int32.toInt ef_5
    refine ps_X12_32_12 E hI ha (by decide) dX12_isWell_24 (fun H locs σ_6 hσ_6 hI => ?_)
    replace hF := q_letX hF hσ_6
    have fr_σ_6 := fr_σ_2.si hσ_6 ha rfl
    have mv12_σ_6 : (σ_6.1 a 12).toInt = (σ_2.1 a 12).toInt := congrArg Int32.toInt (q_rdn hσ_6 (Or.inr (by decide)))
    refine lv_aload_n hx hb dX12_isWell_27 rfl (lv_at hl 0 rfl) ?_
    refine gs_X12_187_12 E hI ha dX12_isWell_28 ?_
    refine lv_topi (fun f_7 ef_7 => ?_)
    replace hF := q_letX hF ef_7
    have if_7 : f_7.toInt = (σ_6.1 a 12).toInt := congrArg Int32.toInt ef_7
    refine q_if_eq (A := f_7.toInt) E rfl (tgt := 43) dX12_isWell_31 (by decide) (fun c_8 => ?_) (fun c_8 => ?_)
    · skip
      replace hF := q_ifp hF c_8
      refine lv_iconst (v := 1) hx hb dX12_isWell_43 zki_1 ?_
      refine lv_goto (tgt := 48) hx hb dX12_isWell_44 (by decide) ?_
      have hrv : (1 : Int32).toInt = 1 := zt_1
      exact q_retz E hr hlk hI ⟨by decide, by decide⟩ ⟨⟨by decide, by decide⟩, (by first | (clear if_1 c_4 if_5 hrv; omega) | omega), (hF.trans hout), fr_σ_6⟩ dX12_isWell_48
    · skip
      replace hF := q_ifn hF c_8
      refine lv_aload_n hx hb dX12_isWell_34 rfl (lv_at hl 0 rfl) ?_
      refine lv_bipush (v := 10) hx hb dX12_isWell_35 zkb_10 ?_
      have kc_9 : (10 : Int32).toInt = 10 := zt_10
      refine q_ci (q_rV11_1 (rest := []) E (hml.trans hl.1.symm) hI (c_X12_no l X σ_6 a (10 : Int32) ha) kv_X12_74 ha ⟨Nat.le_of_ble_eq_true rfl, Nat.le_of_ble_eq_true rfl⟩ (Nat.le_of_ble_eq_true rfl) dX12_isWell_37) hI (Nat.le_of_ble_eq_true rfl) (fun r_10 σ_11 H locs hpσ_11 hkσ_11 hI => ?_)
      have ahpσ_11 := hpσ_11.1
      have bhpσ_11 := hpσ_11.2.1
      have chpσ_11 := hpσ_11.2.2.1
      have dhpσ_11 := hpσ_11.2.2.2
      clear hpσ_11
      have fr_σ_11 := fr_σ_6.call dhpσ_11 rfl rfl
      replace hF := q_biX hF chpσ_11
      have mv12_σ_11 : (σ_11.1 a 12).toInt = (σ_6.1 a 12).toInt := congrArg Int32.toInt ((q_K.le hkσ_11 (by decide) : q_K 8 X σ_6 σ_11) a 12 (by rw [ha]; decide))
      refine q_if_eq (A := r_10.toInt) E rfl (tgt := 47) dX12_isWell_40 (by decide) (fun c_12 => ?_) (fun c_12 => ?_)
      · skip
        replace hF := q_ifp hF c_12
        refine lv_iconst (v := 0) hx hb dX12_isWell_47 zki_0 ?_
        have hrv : (0 : Int32).toInt = 0 := zt_0
        exact q_retz E hr hlk hI ⟨by decide, by decide⟩ ⟨⟨by decide, by decide⟩, (by first | (clear if_1 mv12_σ_2 if_3 c_4 if_5 mv12_σ_6 if_7 c_8 kc_9 ahpσ_11 bhpσ_11 chpσ_11 dhpσ_11 mv12_σ_11 c_12; omega) | omega), (hF.trans hout), fr_σ_11⟩ dX12_isWell_48
      · skip
        replace hF := q_ifn hF c_12
        replace c_12 := q_ifOne ahpσ_11 c_12
        refine lv_iconst (v := 1) hx hb dX12_isWell_43 zki_1 ?_
        refine lv_goto (tgt := 48) hx hb dX12_isWell_44 (by decide) ?_
        have hrv : (1 : Int32).toInt = 1 := zt_1
        exact q_retz E hr hlk hI ⟨by decide, by decide⟩ ⟨⟨by decide, by decide⟩, (by first | (clear if_1 mv12_σ_2 if_3 c_4 if_5 mv12_σ_6 if_7 c_8 kc_9 ahpσ_11 chpσ_11 dhpσ_11 mv12_σ_11 hrv; omega) | omega), (hF.trans hout), fr_σ_11⟩ dX12_isWell_48
  · skip
    replace hF := q_ifp hF c_4
    refine lv_iconst (v := (-1)) hx hb dX12_isWell_16 zki_m1 ?_
    refine lv_goto (tgt := 24) hx hb dX12_isWell_17 (by decide) ?_
    refine ps_X12_32_12 E hI ha (by decide) dX12_isWell_24 (fun H locs σ_13 hσ_13 hI => ?_)
    replace hF := q_letX hF hσ_13
    have fr_σ_13 := fr_σ_2.si hσ_13 ha rfl
    have mv12_σ_13 : (σ_13.1 a 12).toInt = (σ_2.1 a 12).toInt := congrArg Int32.toInt (q_rdn hσ_13 (Or.inr (by decide)))
    refine lv_aload_n hx hb dX12_isWell_27 rfl (lv_at hl 0 rfl) ?_
    refine gs_X12_187_12 E hI ha dX12_isWell_28 ?_
    refine lv_topi (fun f_14 ef_14 => ?_)
    replace hF := q_letX hF ef_14
    have if_14 : f_14.toInt = (σ_13.1 a 12).toInt := congrArg Int32.toInt ef_14
    refine q_if_eq (A := f_14.toInt) E rfl (tgt := 43) dX12_isWell_31 (by decide) (fun c_15 => ?_) (fun c_15 => ?_)
    · skip
      replace hF := q_ifp hF c_15
      refine lv_iconst (v := 1) hx hb dX12_isWell_43 zki_1 ?_
      refine lv_goto (tgt := 48) hx hb dX12_isWell_44 (by decide) ?_
      have hrv : (1 : Int32).toInt = 1 := zt_1
      exact q_retz E hr hlk hI ⟨by decide, by decide⟩ ⟨⟨by decide, by decide⟩, (by first | (clear if_1 mv12_σ_13 if_14 c_15 hrv; omega) | omega), (hF.trans hout), fr_σ_13⟩ dX12_isWell_48
    · skip
      replace hF := q_ifn hF c_15
      refine lv_aload_n hx hb dX12_isWell_34 rfl (lv_at hl 0 rfl) ?_
      refine lv_bipush (v := 10) hx hb dX12_isWell_35 zkb_10 ?_
      have kc_16 : (10 : Int32).toInt = 10 := zt_10
      refine q_ci (q_rV11_1 (rest := []) E (hml.trans hl.1.symm) hI (c_X12_no l X σ_13 a (10 : Int32) ha) kv_X12_74 ha ⟨Nat.le_of_ble_eq_true rfl, Nat.le_of_ble_eq_true rfl⟩ (Nat.le_of_ble_eq_true rfl) dX12_isWell_37) hI (Nat.le_of_ble_eq_true rfl) (fun r_17 σ_18 H locs hpσ_18 hkσ_18 hI => ?_)
      have ahpσ_18 := hpσ_18.1
      have bhpσ_18 := hpσ_18.2.1
      have chpσ_18 := hpσ_18.2.2.1
      have dhpσ_18 := hpσ_18.2.2.2
      clear hpσ_18
      have fr_σ_18 := fr_σ_13.call dhpσ_18 rfl rfl
      replace hF := q_biX hF chpσ_18
      have mv12_σ_18 : (σ_18.1 a 12).toInt = (σ_13.1 a 12).toInt := congrArg Int32.toInt ((q_K.le hkσ_18 (by decide) : q_K 8 X σ_13 σ_18) a 12 (by rw [ha]; decide))
      refine q_if_eq (A := r_17.toInt) E rfl (tgt := 47) dX12_isWell_40 (by decide) (fun c_19 => ?_) (fun c_19 => ?_)
      · skip
        replace hF := q_ifp hF c_19
        refine lv_iconst (v := 0) hx hb dX12_isWell_47 zki_0 ?_
        have hrv : (0 : Int32).toInt = 0 := zt_0
        exact q_retz E hr hlk hI ⟨by decide, by decide⟩ ⟨⟨by decide, by decide⟩, (by first | (clear if_1 mv12_σ_2 if_3 c_4 mv12_σ_13 if_14 c_15 kc_16 ahpσ_18 bhpσ_18 chpσ_18 dhpσ_18 mv12_σ_18 c_19; omega) | omega), (hF.trans hout), fr_σ_18⟩ dX12_isWell_48
      · skip
        replace hF := q_ifn hF c_19
        replace c_19 := q_ifOne ahpσ_18 c_19
        refine lv_iconst (v := 1) hx hb dX12_isWell_43 zki_1 ?_
        refine lv_goto (tgt := 48) hx hb dX12_isWell_44 (by decide) ?_
        have hrv : (1 : Int32).toInt = 1 := zt_1
        exact q_retz E hr hlk hI ⟨by decide, by decide⟩ ⟨⟨by decide, by decide⟩, (by first | (clear if_1 mv12_σ_2 if_3 c_4 mv12_σ_13 if_14 c_15 kc_16 ahpσ_18 chpσ_18 dhpσ_18 mv12_σ_18 hrv; omega) | omega), (hF.trans hout), fr_σ_18⟩ dX12_isWell_48
end
