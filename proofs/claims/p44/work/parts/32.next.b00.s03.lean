section
set_option maxRecDepth 100000 in
set_option maxHeartbeats 4000000 in
theorem c_X12_count (l : Launch) (X : XW) (σ : ST) (a : Nat) (v1 : Int32) (v2 : Int32) (ha : q_kd X a = 12) (hs : 0 ≤ (σ.1 a 15).toInt ∧ (σ.1 a 15).toInt ≤ (σ.1 a 16).toInt ∧ (σ.1 a 16).toInt ≤ (σ.1 a 9).toInt ∧ (σ.1 a 9).toInt ≤ 900 ∧ 0 ≤ (σ.1 a 14).toInt ∧ (σ.1 a 14).toInt ≤ 4 ∧ (σ.1 a 14).toInt ≤ 4 * ((σ.1 a 16).toInt - (σ.1 a 15).toInt) ∧ (σ.1 a 14).toInt ≤ 4 * ((σ.1 a 9).toInt - (σ.1 a 15).toInt) ∧ 0 ≤ (σ.1 a 12).toInt) (hv : 0 ≤ v1.toInt ∧ v1.toInt ≤ 10 ∧ 0 ≤ v2.toInt) : Met l yX12_count (q_ws yX12_count cX12_count 4 (some .int)) (q_rm 2 42) (q_P X σ [.ref a, .int v1, .int v2]) (q_Qi X 2 σ (fun (r : Int32) (σ' : ST) => (q_KS (fun b g => b = a ∧ 12 ≤ g ∧ g ≤ 18) 9 X σ σ') ∧ (0 ≤ (σ'.1 a 15).toInt ∧ (σ'.1 a 15).toInt ≤ (σ'.1 a 16).toInt ∧ (σ'.1 a 16).toInt ≤ (σ'.1 a 9).toInt ∧ (σ'.1 a 9).toInt ≤ 900 ∧ 0 ≤ (σ'.1 a 14).toInt ∧ (σ'.1 a 14).toInt ≤ 4 ∧ (σ'.1 a 14).toInt ≤ 4 * ((σ'.1 a 16).toInt - (σ'.1 a 15).toInt) ∧ (σ'.1 a 14).toInt ≤ 4 * ((σ'.1 a 9).toInt - (σ'.1 a 15).toInt) ∧ 0 ≤ (σ'.1 a 12).toInt ∧ (σ'.1 a 9).toInt = (σ.1 a 9).toInt ∧ (σ.1 a 15).toInt ≤ (σ'.1 a 15).toInt ∧ (σ.1 a 12).toInt ≤ (σ'.1 a 12).toInt) ∧ ((σ.1 a 16).toInt ≤ (σ'.1 a 15).toInt + 1000 * (σ'.1 a 12).toInt ∧ 0 ≤ r.toInt ∧ r.toInt ≤ v2.toInt ∧ v1.toInt ≤ r.toInt + 10 * (σ'.1 a 12).toInt) ∧ (r, σ') = F_X12_count X σ a v1 v2 ∧ q_ow [(12, 12), (12, 13), (12, 14), (12, 15), (12, 16), (12, 17), (12, 18)] [(12, 19)] X σ σ')) 0 0 (q_reg X) := by
  refine q_met 2 (by first | exact rfl | decide +kernel) rfl (Nat.le_of_ble_eq_true rfl) (fun p e s m below meth c E hml hr hlk hI ls hl => ?_)
  have hx := E.1
  have hb := E.2.1
  have hl : lv_has ls 4 [(0, .ref a), (1, .int v1), (2, .int v2)] := hl
  have ks_σ : q_KS (fun b g => b = a ∧ 12 ≤ g ∧ g ≤ 18) 9 X σ σ := q_KS.rf
  have fr_σ : q_ow [(12, 12), (12, 13), (12, 14), (12, 15), (12, 16), (12, 17), (12, 18)] [(12, 19)] X σ σ := q_ow.rf
  obtain ⟨out, hout⟩ : ∃ o, o = F_X12_count X σ a v1 v2 := ⟨_, rfl⟩
  have hF := hout.symm
  unfold F_X12_count at hF
  refine lv_aload_n hx hb dX12_count_0 rfl (lv_at hl 0 rfl) ?_
  refine gs_X12_187_12 E hI ha dX12_count_1 ?_
  refine lv_topi (fun f_1 ef_1 => ?_)
  replace hF := q_letX hF ef_1
  have if_1 : f_1.toInt = (σ.1 a 12).toInt := congrArg Int32.toInt ef_1
  have J_19_2 : ∀  (σ_2 : ST) (H : Heap) (locs : List Loc) (ls : Array Slot), (0 ≤ (σ_2.1 a 15).toInt ∧ (σ_2.1 a 15).toInt ≤ (σ_2.1 a 16).toInt ∧ (σ_2.1 a 16).toInt ≤ (σ_2.1 a 9).toInt ∧ (σ_2.1 a 9).toInt ≤ 900 ∧ 0 ≤ (σ_2.1 a 14).toInt ∧ (σ_2.1 a 14).toInt ≤ 4 ∧ (σ_2.1 a 14).toInt ≤ 4 * ((σ_2.1 a 16).toInt - (σ_2.1 a 15).toInt) ∧ (σ_2.1 a 14).toInt ≤ 4 * ((σ_2.1 a 9).toInt - (σ_2.1 a 15).toInt) ∧ 0 ≤ (σ_2.1 a 12).toInt ∧ (σ_2.1 a 9).toInt = (σ.1 a 9).toInt ∧ (σ_2.1 a 15).toInt = (σ.1 a 15).toInt ∧ (σ_2.1 a 16).toInt = (σ.1 a 16).toInt ∧ (σ.1 a 12).toInt ≤ (σ_2.1 a 12).toInt) → (q_KS (fun b g => b = a ∧ 12 ≤ g ∧ g ≤ 18) 9 X σ σ_2) → (q_ow [(12, 12), (12, 13), (12, 14), (12, 15), (12, 16), (12, 17), (12, 18)] [(12, 19)] X σ σ_2) → (F_X12_count_J19_1 X a v1 v2 σ_2 = out) → q_I X 2 σ s.heap locs σ_2 H → lv_has ls 4 [(0, .ref a), (1, .int v1), (2, .int v2)] → W p l e (q_rm 2 42) s m ([.ref a, .int v1, .int v2] : List Value).toArray below meth c H locs 0 0 (MQ below (q_Qi X 2 σ (fun (r : Int32) (σ' : ST) => (q_KS (fun b g => b = a ∧ 12 ≤ g ∧ g ≤ 18) 9 X σ σ') ∧ (0 ≤ (σ'.1 a 15).toInt ∧ (σ'.1 a 15).toInt ≤ (σ'.1 a 16).toInt ∧ (σ'.1 a 16).toInt ≤ (σ'.1 a 9).toInt ∧ (σ'.1 a 9).toInt ≤ 900 ∧ 0 ≤ (σ'.1 a 14).toInt ∧ (σ'.1 a 14).toInt ≤ 4 ∧ (σ'.1 a 14).toInt ≤ 4 * ((σ'.1 a 16).toInt - (σ'.1 a 15).toInt) ∧ (σ'.1 a 14).toInt ≤ 4 * ((σ'.1 a 9).toInt - (σ'.1 a 15).toInt) ∧ 0 ≤ (σ'.1 a 12).toInt ∧ (σ'.1 a 9).toInt = (σ.1 a 9).toInt ∧ (σ.1 a 15).toInt ≤ (σ'.1 a 15).toInt ∧ (σ.1 a 12).toInt ≤ (σ'.1 a 12).toInt) ∧ ((σ.1 a 16).toInt ≤ (σ'.1 a 15).toInt + 1000 * (σ'.1 a 12).toInt ∧ 0 ≤ r.toInt ∧ r.toInt ≤ v2.toInt ∧ v1.toInt ≤ r.toInt + 10 * (σ'.1 a 12).toInt) ∧ (r, σ') = F_X12_count X σ a v1 v2 ∧ q_ow [(12, 12), (12, 13), (12, 14), (12, 15), (12, 16), (12, 17), (12, 18)] [(12, 19)] X σ σ')) ([.ref a, .int v1, .int v2] : List Value).toArray s 0 0 (q_reg X)) (F0 m 19 ls []) := by
    clear hF
    intro σ_2 H locs ls j19σ_2 ks_σ_2 fr_σ_2 hF hI hl
    try clear fr_σ
    unfold F_X12_count_J19_1 at hF
    refine lv_aload_n hx hb dX12_count_19 rfl (lv_at hl 0 rfl) ?_
    refine gs_X12_187_12 E hI ha dX12_count_20 ?_
    refine lv_topi (fun f_3 ef_3 => ?_)
    replace hF := q_letX hF ef_3
    have if_3 : f_3.toInt = (σ_2.1 a 12).toInt := congrArg Int32.toInt ef_3
    refine q_if_ne (A := f_3.toInt) E rfl (tgt := 50) dX12_count_23 (by decide) (fun c_4 => ?_) (fun c_4 => ?_)
    · skip
      replace hF := q_ifn hF c_4
      refine lv_aload_n hx hb dX12_count_50 rfl (lv_at hl 0 rfl) ?_
      refine gs_X12_187_12 E hI ha dX12_count_51 ?_
      refine lv_topi (fun f_5 ef_5 => ?_)
      replace hF := q_letX hF ef_5
      have if_5 : f_5.toInt = (σ_2.1 a 12).toInt := congrArg Int32.toInt ef_5
      refine q_if_le (A := f_5.toInt) E rfl (tgt := 59) dX12_count_54 (by decide) (fun c_6 => ?_) (fun c_6 => ?_)
      · skip
        replace hF := q_ifn hF (Int.not_lt.mpr c_6)
        refine lv_aload_n hx hb dX12_count_59 rfl (lv_at hl 0 rfl) ?_
        refine gs_X12_129_12 E hI ha dX12_count_60 ?_
        refine lv_topi (fun f_7 ef_7 => ?_)
        replace hF := q_letX hF ef_7
        have if_7 : f_7.toInt = (σ_2.1 a 17).toInt := congrArg Int32.toInt ef_7
        refine lv_istore_n (lv' := [(3, .int f_7), (0, .ref a), (1, .int v1), (2, .int v2)]) hx hb dX12_count_63 rfl hl (by decide) rfl (fun ls hl => ?_)
        refine lv_aload_n hx hb dX12_count_64 rfl (lv_at hl 1 rfl) ?_
        refine q_cv (q_runV (As := []) (rest := []) E (hml.trans hl.1.symm) hI (c_X12_next l X σ_2 a ha (by omega) (by omega) (by omega)) kv_X12_197 ha ⟨rfl, by decide⟩ (show vwCl[11]? = some (RX12, TX12, 46) from rfl) rfl ⟨Nat.le_of_ble_eq_true rfl, Nat.le_of_ble_eq_true rfl⟩ ⟨Nat.le_refl _, Nat.le_refl _⟩ rfl (Nat.le_of_ble_eq_true rfl) dX12_count_65) hI (by decide) (fun σ_9 H locs hpσ_9 hkσ_9 hI => ?_)
        obtain ⟨ahpσ_9, bhpσ_9, chpσ_9, dhpσ_9, ehpσ_9⟩ := hpσ_9
        have fr_σ_9 := fr_σ_2.call ehpσ_9 rfl rfl
        replace hF := q_letX hF dhpσ_9
        have ks_σ_9 : q_KS (fun b g => b = a ∧ 12 ≤ g ∧ g ≤ 18) 9 X σ σ_9 := ks_σ_2.KS ahpσ_9 (by decide) (fun _ _ h => h)
        refine lv_iload_n hx hb dX12_count_68 rfl (lv_at hl 0 rfl) ?_
        exact q_reti E hr hlk hI ⟨ks_σ_9, (by omega), (by omega), (hF.trans hout), fr_σ_9⟩ dX12_count_69
      · skip
        replace hF := q_ifp hF c_6
        refine lv_iconst (v := 0) hx hb dX12_count_57 (by decide) ?_
        have hrv : (0 : Int32).toInt = 0 := rfl
        exact q_reti E hr hlk hI ⟨ks_σ_2, (by omega), (by omega), (hF.trans hout), fr_σ_2⟩ dX12_count_58
    · skip
      replace hF := q_ifp hF c_4
      refine lv_aload_n hx hb dX12_count_26 rfl (lv_at hl 0 rfl) ?_
      refine gs_X12_129_12 E hI ha dX12_count_27 ?_
      refine lv_topi (fun f_10 ef_10 => ?_)
      replace hF := q_letX hF ef_10
      have if_10 : f_10.toInt = (σ_2.1 a 17).toInt := congrArg Int32.toInt ef_10
      refine lv_i2l hx hb dX12_count_30 rfl ?_
      refine lv_topl (fun y_11 ey_11 => ?_)
      replace hF := q_letX hF ey_11
      have ggy_11 := q_rng f_10
      have iy_11 : y_11.toInt = f_10.toInt := by rw [ey_11]; exact (q_i2l _).trans rfl
      refine lv_iload_n hx hb dX12_count_31 rfl (lv_at hl 1 rfl) ?_
      refine lv_i2l hx hb dX12_count_32 rfl ?_
      refine lv_topl (fun y_12 ey_12 => ?_)
      replace hF := q_letX hF ey_12
      have ggy_12 := q_rng v1
      have iy_12 : y_12.toInt = v1.toInt := by rw [ey_12]; exact (q_i2l _).trans rfl
      refine lv_iload_n hx hb dX12_count_33 rfl (lv_at hl 2 rfl) ?_
      refine lv_i2l hx hb dX12_count_34 rfl ?_
      refine lv_topl (fun y_13 ey_13 => ?_)
      replace hF := q_letX hF ey_13
      have ggy_13 := q_rng v2
      have iy_13 : y_13.toInt = v2.toInt := by rw [ey_13]; exact (q_i2l _).trans rfl
      refine q_ci (q_runS (As := [.long y_11, .long y_12, .long y_13]) (rest := []) E (hml.trans hl.1.symm) hI (c_X12_isIn l X σ_2 y_11 y_12 y_13) ks_X12_94 rfl ⟨Nat.le_of_ble_eq_true rfl, Nat.le_of_ble_eq_true rfl⟩ ⟨Nat.le_refl _, Nat.le_refl _⟩ rfl (Nat.le_of_ble_eq_true rfl) dX12_count_35) hI (by decide) (fun r_14 σ_15 H locs hpσ_15 hkσ_15 hI => ?_)
      obtain ⟨ahpσ_15, bhpσ_15, chpσ_15, dhpσ_15⟩ := hpσ_15
      rw [ahpσ_15] at hI
      replace hF := q_letX hF dhpσ_15
      refine q_if_ne (A := r_14.toInt) E rfl (tgt := 50) dX12_count_38 (by decide) (fun c_16 => ?_) (fun c_16 => ?_)
      · skip
        replace hF := q_ifn hF c_16
        refine lv_aload_n hx hb dX12_count_50 rfl (lv_at hl 0 rfl) ?_
        refine gs_X12_187_12 E hI ha dX12_count_51 ?_
        refine lv_topi (fun f_17 ef_17 => ?_)
        replace hF := q_letX hF ef_17
        have if_17 : f_17.toInt = (σ_2.1 a 12).toInt := congrArg Int32.toInt ef_17
        refine q_if_le (A := f_17.toInt) E rfl (tgt := 59) dX12_count_54 (by decide) (fun c_18 => ?_) (fun c_18 => ?_)
        · skip
          replace hF := q_ifn hF (Int.not_lt.mpr c_18)
          refine lv_aload_n hx hb dX12_count_59 rfl (lv_at hl 0 rfl) ?_
          refine gs_X12_129_12 E hI ha dX12_count_60 ?_
          refine lv_topi (fun f_19 ef_19 => ?_)
          replace hF := q_letX hF ef_19
          have if_19 : f_19.toInt = (σ_2.1 a 17).toInt := congrArg Int32.toInt ef_19
          refine lv_istore_n (lv' := [(3, .int f_19), (0, .ref a), (1, .int v1), (2, .int v2)]) hx hb dX12_count_63 rfl hl (by decide) rfl (fun ls hl => ?_)
          refine lv_aload_n hx hb dX12_count_64 rfl (lv_at hl 1 rfl) ?_
          refine q_cv (q_runV (As := []) (rest := []) E (hml.trans hl.1.symm) hI (c_X12_next l X σ_2 a ha (by omega) (by omega) (by omega)) kv_X12_197 ha ⟨rfl, by decide⟩ (show vwCl[11]? = some (RX12, TX12, 46) from rfl) rfl ⟨Nat.le_of_ble_eq_true rfl, Nat.le_of_ble_eq_true rfl⟩ ⟨Nat.le_refl _, Nat.le_refl _⟩ rfl (Nat.le_of_ble_eq_true rfl) dX12_count_65) hI (by decide) (fun σ_21 H locs hpσ_21 hkσ_21 hI => ?_)
          obtain ⟨ahpσ_21, bhpσ_21, chpσ_21, dhpσ_21, ehpσ_21⟩ := hpσ_21
          have fr_σ_21 := fr_σ_2.call ehpσ_21 rfl rfl
          replace hF := q_letX hF dhpσ_21
          have ks_σ_21 : q_KS (fun b g => b = a ∧ 12 ≤ g ∧ g ≤ 18) 9 X σ σ_21 := ks_σ_2.KS ahpσ_21 (by decide) (fun _ _ h => h)
          refine lv_iload_n hx hb dX12_count_68 rfl (lv_at hl 0 rfl) ?_
          exact q_reti E hr hlk hI ⟨ks_σ_21, (by omega), (by omega), (hF.trans hout), fr_σ_21⟩ dX12_count_69
        · skip
          replace hF := q_ifp hF c_18
          refine lv_iconst (v := 0) hx hb dX12_count_57 (by decide) ?_
          have hrv : (0 : Int32).toInt = 0 := rfl
          exact q_reti E hr hlk hI ⟨ks_σ_2, (by omega), (by omega), (hF.trans hout), fr_σ_2⟩ dX12_count_58
      · skip
        replace hF := q_ifp hF c_16
        refine lv_aload_n hx hb dX12_count_41 rfl (lv_at hl 0 rfl) ?_
        refine lv_iconst (v := 4) hx hb dX12_count_42 (by decide) ?_
        refine lv_aload_n hx hb dX12_count_43 rfl (lv_at hl 0 rfl) ?_
        refine gs_X12_104_12 E hI ha dX12_count_44 ?_
        refine lv_topi (fun f_22 ef_22 => ?_)
        replace hF := q_letX hF ef_22
        have if_22 : f_22.toInt = (σ_2.1 a 15).toInt := congrArg Int32.toInt ef_22
        have kc_23 : (4 : Int32).toInt = 4 := rfl
        refine q_cv (q_runV (As := [.int 4, .int f_22]) (rest := []) E (hml.trans hl.1.symm) hI (c_X12_fail l X σ_2 a (4 : Int32) f_22 ha (by omega) (by omega)) kv_X12_193 ha ⟨rfl, by decide⟩ (show vwCl[11]? = some (RX12, TX12, 46) from rfl) rfl ⟨Nat.le_of_ble_eq_true rfl, Nat.le_of_ble_eq_true rfl⟩ ⟨Nat.le_refl _, Nat.le_refl _⟩ rfl (Nat.le_of_ble_eq_true rfl) dX12_count_47) hI (by decide) (fun σ_25 H locs hpσ_25 hkσ_25 hI => ?_)
        obtain ⟨ahpσ_25, bhpσ_25, chpσ_25, dhpσ_25, ehpσ_25⟩ := hpσ_25
        have fr_σ_25 := fr_σ_2.call ehpσ_25 rfl rfl
        replace hF := q_letX hF dhpσ_25
        have ks_σ_25 : q_KS (fun b g => b = a ∧ 12 ≤ g ∧ g ≤ 18) 9 X σ σ_25 := ks_σ_2.KS ahpσ_25 (by decide) (fun _ _ h => h)
        refine lv_aload_n hx hb dX12_count_50 rfl (lv_at hl 0 rfl) ?_
        refine gs_X12_187_12 E hI ha dX12_count_51 ?_
        refine lv_topi (fun f_26 ef_26 => ?_)
        replace hF := q_letX hF ef_26
        have if_26 : f_26.toInt = (σ_25.1 a 12).toInt := congrArg Int32.toInt ef_26
        refine q_if_le (A := f_26.toInt) E rfl (tgt := 59) dX12_count_54 (by decide) (fun c_27 => ?_) (fun c_27 => ?_)
        · skip
          replace hF := q_ifn hF (Int.not_lt.mpr c_27)
          refine lv_aload_n hx hb dX12_count_59 rfl (lv_at hl 0 rfl) ?_
          refine gs_X12_129_12 E hI ha dX12_count_60 ?_
          refine lv_topi (fun f_28 ef_28 => ?_)
          replace hF := q_letX hF ef_28
          have if_28 : f_28.toInt = (σ_25.1 a 17).toInt := congrArg Int32.toInt ef_28
          refine lv_istore_n (lv' := [(3, .int f_28), (0, .ref a), (1, .int v1), (2, .int v2)]) hx hb dX12_count_63 rfl hl (by decide) rfl (fun ls hl => ?_)
          refine lv_aload_n hx hb dX12_count_64 rfl (lv_at hl 1 rfl) ?_
          refine q_cv (q_runV (As := []) (rest := []) E (hml.trans hl.1.symm) hI (c_X12_next l X σ_25 a ha (by omega) (by omega) (by omega)) kv_X12_197 ha ⟨rfl, by decide⟩ (show vwCl[11]? = some (RX12, TX12, 46) from rfl) rfl ⟨Nat.le_of_ble_eq_true rfl, Nat.le_of_ble_eq_true rfl⟩ ⟨Nat.le_refl _, Nat.le_refl _⟩ rfl (Nat.le_of_ble_eq_true rfl) dX12_count_65) hI (by decide) (fun σ_30 H locs hpσ_30 hkσ_30 hI => ?_)
          obtain ⟨ahpσ_30, bhpσ_30, chpσ_30, dhpσ_30, ehpσ_30⟩ := hpσ_30
          have fr_σ_30 := fr_σ_25.call ehpσ_30 rfl rfl
          replace hF := q_letX hF dhpσ_30
          have ks_σ_30 : q_KS (fun b g => b = a ∧ 12 ≤ g ∧ g ≤ 18) 9 X σ σ_30 := ks_σ_25.KS ahpσ_30 (by decide) (fun _ _ h => h)
          refine lv_iload_n hx hb dX12_count_68 rfl (lv_at hl 0 rfl) ?_
          exact q_reti E hr hlk hI ⟨ks_σ_30, (by omega), (by omega), (hF.trans hout), fr_σ_30⟩ dX12_count_69
        · skip
          replace hF := q_ifp hF c_27
          refine lv_iconst (v := 0) hx hb dX12_count_57 (by decide) ?_
          have hrv : (0 : Int32).toInt = 0 := rfl
          exact q_reti E hr hlk hI ⟨ks_σ_25, (by omega), (by omega), (hF.trans hout), fr_σ_25⟩ dX12_count_58
  refine q_if_ne (A := f_1.toInt) E rfl (tgt := 19) dX12_count_4 (by decide) (fun c_31 => ?_) (fun c_31 => ?_)
  · skip
    replace hF := q_ifn hF c_31
    exact J_19_2 σ _ _ ls (by omega) ks_σ fr_σ hF hI (lv_sub hl [0, 1, 2] rfl)
  · skip
    replace hF := q_ifp hF c_31
    refine lv_aload_n hx hb dX12_count_7 rfl (lv_at hl 0 rfl) ?_
    refine gs_X12_110_12 E hI ha dX12_count_8 ?_
    refine lv_topi (fun f_32 ef_32 => ?_)
    replace hF := q_letX hF ef_32
    have if_32 : f_32.toInt = (σ.1 a 14).toInt := congrArg Int32.toInt ef_32
    refine lv_iconst (v := 2) hx hb dX12_count_11 (by decide) ?_
    refine q_icmp_eq (A := f_32.toInt) (B := 2) E rfl (by decide) (tgt := 19) dX12_count_12 (by decide) (fun c_33 => ?_) (fun c_33 => ?_)
    · skip
      replace hF := q_ifp hF c_33
      exact J_19_2 σ _ _ ls (by omega) ks_σ fr_σ hF hI (lv_sub hl [0, 1, 2] rfl)
    · skip
      replace hF := q_ifn hF c_33
      refine lv_aload_n hx hb dX12_count_15 rfl (lv_at hl 0 rfl) ?_
      refine q_cv (q_runV (As := []) (rest := []) E (hml.trans hl.1.symm) hI (c_X12_wrong l X σ a ha (by omega)) kv_X12_200 ha ⟨rfl, by decide⟩ (show vwCl[11]? = some (RX12, TX12, 46) from rfl) rfl ⟨Nat.le_of_ble_eq_true rfl, Nat.le_of_ble_eq_true rfl⟩ ⟨Nat.le_refl _, Nat.le_refl _⟩ rfl (Nat.le_of_ble_eq_true rfl) dX12_count_16) hI (by decide) (fun σ_35 H locs hpσ_35 hkσ_35 hI => ?_)
      obtain ⟨ahpσ_35, bhpσ_35, chpσ_35, dhpσ_35, ehpσ_35⟩ := hpσ_35
      have fr_σ_35 := fr_σ.call ehpσ_35 rfl rfl
      replace hF := q_letX hF dhpσ_35
      have ks_σ_35 : q_KS (fun b g => b = a ∧ 12 ≤ g ∧ g ≤ 18) 9 X σ σ_35 := ks_σ.KS ahpσ_35 (by decide) (fun _ _ h => h)
      exact J_19_2 σ_35 _ _ ls (by omega) ks_σ_35 fr_σ_35 hF hI (lv_sub hl [0, 1, 2] rfl)
end
