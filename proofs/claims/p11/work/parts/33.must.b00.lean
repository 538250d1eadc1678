set_option maxRecDepth 100000 in
set_option maxHeartbeats 4000000 in
theorem c_X12_must (l : Launch) (X : XW) (σ : ST) (a : Nat) (v1 : Int32) (ha : q_kd X a = 12) (hs : 0 ≤ (σ.1 a 15).toInt ∧ (σ.1 a 15).toInt ≤ (σ.1 a 16).toInt ∧ (σ.1 a 16).toInt ≤ (σ.1 a 9).toInt ∧ (σ.1 a 9).toInt ≤ 900 ∧ 0 ≤ (σ.1 a 14).toInt ∧ (σ.1 a 14).toInt ≤ 4 ∧ (σ.1 a 14).toInt ≤ 4 * ((σ.1 a 16).toInt - (σ.1 a 15).toInt) ∧ (σ.1 a 14).toInt ≤ 4 * ((σ.1 a 9).toInt - (σ.1 a 15).toInt) ∧ 0 ≤ (σ.1 a 12).toInt) (hv : 0 ≤ v1.toInt) : Met l yX12_must (q_ws yX12_must cX12_must 2 none) (q_rm 2 42) (q_P X σ [.ref a, .int v1]) (q_Qv X 2 σ (fun (σ' : ST) => (q_KS (fun b g => b = a ∧ 12 ≤ g ∧ g ≤ 18) 9 X σ σ') ∧ (0 ≤ (σ'.1 a 15).toInt ∧ (σ'.1 a 15).toInt ≤ (σ'.1 a 16).toInt ∧ (σ'.1 a 16).toInt ≤ (σ'.1 a 9).toInt ∧ (σ'.1 a 9).toInt ≤ 900 ∧ 0 ≤ (σ'.1 a 14).toInt ∧ (σ'.1 a 14).toInt ≤ 4 ∧ (σ'.1 a 14).toInt ≤ 4 * ((σ'.1 a 16).toInt - (σ'.1 a 15).toInt) ∧ (σ'.1 a 14).toInt ≤ 4 * ((σ'.1 a 9).toInt - (σ'.1 a 15).toInt) ∧ 0 ≤ (σ'.1 a 12).toInt ∧ (σ'.1 a 9).toInt = (σ.1 a 9).toInt ∧ (σ.1 a 15).toInt ≤ (σ'.1 a 15).toInt ∧ (σ.1 a 12).toInt ≤ (σ'.1 a 12).toInt) ∧ ((σ.1 a 16).toInt ≤ (σ'.1 a 15).toInt + 1000 * (σ'.1 a 12).toInt ∧ 1 ≤ v1.toInt + (σ'.1 a 12).toInt) ∧ σ' = F_X12_must X σ a v1 ∧ q_ow [(12, 12), (12, 13), (12, 14), (12, 15), (12, 16), (12, 17), (12, 18)] [(12, 19)] X σ σ')) 0 0 (q_reg X) := by
  refine q_met 2 (by decide +kernel) rfl (Nat.le_of_ble_eq_true rfl) (fun p e s m below meth c E hml hr hlk hI ls hl => ?_)
  have hx := E.1
  have hb := E.2.1
  have hl : lv_has ls 2 [(0, .ref a), (1, .int v1)] := hl
  have ks_σ : q_KS (fun b g => b = a ∧ 12 ≤ g ∧ g ≤ 18) 9 X σ σ := q_KS.rf
  have fr_σ : q_ow [(12, 12), (12, 13), (12, 14), (12, 15), (12, 16), (12, 17), (12, 18)] [(12, 19)] X σ σ := q_ow.rf
  obtain ⟨out, hout⟩ : ∃ o, o = F_X12_must X σ a v1 := ⟨_, rfl⟩
  have hF := hout.symm
  unfold F_X12_must at hF
  refine lv_aload_n hx hb dX12_must_0 rfl (lv_at hl 0 rfl) ?_
  refine gs_X12_187_12 E hI ha dX12_must_1 ?_
  refine lv_topi (fun f_1 ef_1 => ?_)
  replace hF := q_letX hF ef_1
  have if_1 : f_1.toInt = (σ.1 a 12).toInt := congrArg Int32.toInt ef_1
  refine q_if_le (A := f_1.toInt) E rfl (tgt := 8) dX12_must_4 (by decide) (fun c_2 => ?_) (fun c_2 => ?_)
  · skip
    replace hF := q_ifn hF (Int.not_lt.mpr c_2)
    refine lv_iload_n hx hb dX12_must_8 rfl (lv_at hl 1 rfl) ?_
    refine q_if_eq (A := v1.toInt) E rfl (tgt := 19) dX12_must_9 (by decide) (fun c_3 => ?_) (fun c_3 => ?_)
    · skip
      replace hF := q_ifp hF c_3
      refine lv_aload_n hx hb dX12_must_19 rfl (lv_at hl 0 rfl) ?_
      refine q_cv (q_runV (As := []) (rest := []) E (hml.trans hl.1.symm) hI (c_X12_wrong l X σ a ha (by omega)) kv_X12_200 ha ⟨rfl, by decide⟩ (show vwCl[11]? = some (RX12, TX12, 46) from rfl) rfl ⟨Nat.le_of_ble_eq_true rfl, Nat.le_of_ble_eq_true rfl⟩ ⟨Nat.le_refl _, Nat.le_refl _⟩ rfl (Nat.le_of_ble_eq_true rfl) dX12_must_20) hI (by decide) (fun σ_5 H locs hpσ_5 hkσ_5 hI => ?_)
      obtain ⟨ahpσ_5, bhpσ_5, chpσ_5, dhpσ_5, ehpσ_5⟩ := hpσ_5
      have fr_σ_5 := fr_σ.call ehpσ_5 rfl rfl
      replace hF := q_letX hF dhpσ_5
      have ks_σ_5 : q_KS (fun b g => b = a ∧ 12 ≤ g ∧ g ≤ 18) 9 X σ σ_5 := ks_σ.KS ahpσ_5 (by decide) (fun _ _ h => h)
      exact q_retv E hr hlk hI ⟨ks_σ_5, (by omega), (by omega), (hF.trans hout), fr_σ_5⟩ dX12_must_23
    · skip
      replace hF := q_ifn hF c_3
      refine lv_aload_n hx hb dX12_must_12 rfl (lv_at hl 0 rfl) ?_
      refine q_cv (q_runV (As := []) (rest := []) E (hml.trans hl.1.symm) hI (c_X12_next l X σ a ha (by omega) (by omega) (by omega)) kv_X12_197 ha ⟨rfl, by decide⟩ (show vwCl[11]? = some (RX12, TX12, 46) from rfl) rfl ⟨Nat.le_of_ble_eq_true rfl, Nat.le_of_ble_eq_true rfl⟩ ⟨Nat.le_refl _, Nat.le_refl _⟩ rfl (Nat.le_of_ble_eq_true rfl) dX12_must_13) hI (by decide) (fun σ_7 H locs hpσ_7 hkσ_7 hI => ?_)
      obtain ⟨ahpσ_7, bhpσ_7, chpσ_7, dhpσ_7, ehpσ_7⟩ := hpσ_7
      have fr_σ_7 := fr_σ.call ehpσ_7 rfl rfl
      replace hF := q_letX hF dhpσ_7
      have ks_σ_7 : q_KS (fun b g => b = a ∧ 12 ≤ g ∧ g ≤ 18) 9 X σ σ_7 := ks_σ.KS ahpσ_7 (by decide) (fun _ _ h => h)
      refine lv_goto (tgt := 23) hx hb dX12_must_16 (by decide) ?_
      exact q_retv E hr hlk hI ⟨ks_σ_7, (by omega), (by omega), (hF.trans hout), fr_σ_7⟩ dX12_must_23
  · skip
    replace hF := q_ifp hF c_2
    exact q_retv E hr hlk hI ⟨ks_σ, (by omega), (by omega), (hF.trans hout), fr_σ⟩ dX12_must_7

set_option maxRecDepth 100000 in
set_option maxHeartbeats 4000000 in
theorem c_X12_count (l : Launch) (X : XW) (σ : ST) (a : Nat) (v1 : Int32) (v2 : Int32) (ha : q_kd X a = 12) (hs : 0 ≤ (σ.1 a 15).toInt ∧ (σ.1 a 15).toInt ≤ (σ.1 a 16).toInt ∧ (σ.1 a 16).toInt ≤ (σ.1 a 9).toInt ∧ (σ.1 a 9).toInt ≤ 900 ∧ 0 ≤ (σ.1 a 14).toInt ∧ (σ.1 a 14).toInt ≤ 4 ∧ (σ.1 a 14).toInt ≤ 4 * ((σ.1 a 16).toInt - (σ.1 a 15).toInt) ∧ (σ.1 a 14).toInt ≤ 4 * ((σ.1 a 9).toInt - (σ.1 a 15).toInt) ∧ 0 ≤ (σ.1 a 12).toInt) (hv : 0 ≤ v1.toInt ∧ v1.toInt ≤ 10 ∧ 0 ≤ v2.toInt) : Met l yX12_count (q_ws yX12_count cX12_count 4 (some .int)) (q_rm 2 42) (q_P X σ [.ref a, .int v1, .int v2]) (q_Qi X 2 σ (fun (r : Int32) (σ' : ST) => (q_KS (fun b g => b = a ∧ 12 ≤ g ∧ g ≤ 18) 9 X σ σ') ∧ (0 ≤ (σ'.1 a 15).toInt ∧ (σ'.1 a 15).toInt ≤ (σ'.1 a 16).toInt ∧ (σ'.1 a 16).toInt ≤ (σ'.1 a 9).toInt ∧ (σ'.1 a 9).toInt ≤ 900 ∧ 0 ≤ (σ'.1 a 14).toInt ∧ (σ'.1 a 14).toInt ≤ 4 ∧ (σ'.1 a 14).toInt ≤ 4 * ((σ'.1 a 16).toInt - (σ'.1 a 15).toInt) ∧ (σ'.1 a 14).toInt ≤ 4 * ((σ'.1 a 9).toInt - (σ'.1 a 15).toInt) ∧ 0 ≤ (σ'.1 a 12).toInt ∧ (σ'.1 a 9).toInt = (σ.1 a 9).toInt ∧ (σ.1 a 15).toInt ≤ (σ'.1 a 15).toInt ∧ (σ.1 a 12).toInt ≤ (σ'.1 a 12).toInt) ∧ ((σ.1 a 16).toInt ≤ (σ'.1 a 15).toInt + 1000 * (σ'.1 a 12).toInt ∧ 0 ≤ r.toInt ∧ r.toInt ≤ v2.toInt ∧ v1.toInt ≤ r.toInt + 10 * (σ'.1 a 12).toInt) ∧ (r, σ') = F_X12_count X σ a v1 v2 ∧ q_ow [(12, 12), (12, 13), (12, 14), (12, 15), (12, 16), (12, 17), (12, 18)] [(12, 19)] X σ σ')) 0 0 (q_reg X) := by
  refine q_met 2 (by decide +kernel) rfl (Nat.le_of_ble_eq_true rfl) (fun p e s m below meth c E hml hr hlk hI ls hl => ?_)
  have hx := E.1
  have hb := E.2.1
  have hl : lv_has ls 4 [(0, .ref a), (1, .int v1), (2, .int v2)] := hl
  have ks_σ : q_KS (fun b g => b = a ∧ 12 ≤ g ∧ g ≤ 18) 9 X σ σ := q_KS.rf
  have fr_σ : q_ow [(12, 12), (12, 13), (12, 14), (12, 15), (12, 16), (12, 17), (12, 18)] [(12, 19)] X σ σ := q_ow.rf
  obtain ⟨out, hout⟩ : ∃ o, o = F_X12_count X σ a v1 v2 := ⟨_, rfl⟩
  have hF := hout.symm
  unfold F_X12_count at hF
  refine lv_aload_n hx hb dX12_count_0 rfl (lv_at hl 0 rfl) ?_
  refine gs_X12_187_12 E hI ha dX12_count_1 ?_
  refine lv_topi (fun f_1 ef_1 => ?_)
  replace hF := q_letX hF ef_1
  have if_1 : f_1.toInt = (σ.1 a 12).toInt := congrArg Int32.toInt ef_1
  have J_19_2 : ∀  (σ_2 : ST) (H : Heap) (locs : List Loc) (ls : Array Slot), (0 ≤ (σ_2.1 a 15).toInt ∧ (σ_2.1 a 15).toInt ≤ (σ_2.1 a 16).toInt ∧ (σ_2.1 a 16).toInt ≤ (σ_2.1 a 9).toInt ∧ (σ_2.1 a 9).toInt ≤ 900 ∧ 0 ≤ (σ_2.1 a 14).toInt ∧ (σ_2.1 a 14).toInt ≤ 4 ∧ (σ_2.1 a 14).toInt ≤ 4 * ((σ_2.1 a 16).toInt - (σ_2.1 a 15).toInt) ∧ (σ_2.1 a 14).toInt ≤ 4 * ((σ_2.1 a 9).toInt - (σ_2.1 a 15).toInt) ∧ 0 ≤ (σ_2.1 a 12).toInt ∧ (σ_2.1 a 9).toInt = (σ.1 a 9).toInt ∧ (σ_2.1 a 15).toInt = (σ.1 a 15).toInt ∧ (σ_2.1 a 16).toInt = (σ.1 a 16).toInt ∧ (σ.1 a 12).toInt ≤ (σ_2.1 a 12).toInt) → (q_KS (fun b g => b = a ∧ 12 ≤ g ∧ g ≤ 18) 9 X σ σ_2) → (q_ow [(12, 12), (12, 13), (12, 14), (12, 15), (12, 16), (12, 17), (12, 18)] [(12, 19)] X σ σ_2) → (F_X12_count_J19_1 X a v1 v2 σ_2 = out) → q_I X 2 σ s.heap locs σ_2 H → lv_has ls 4 [(0, .ref a), (1, .int v1), (2, .int v2)] → W p l e (q_rm 2 42) s m ([.ref a, .int v1, .int v2] : List Value).toArray below meth c H locs 0 0 (MQ below (q_Qi X 2 σ (fun (r : Int32) (σ' : ST) => (q_KS (fun b g => b = a ∧ 12 ≤ g ∧ g ≤ 18) 9 X σ σ') ∧ (0 ≤ (σ'.1 a 15).toInt ∧ (σ'.1 a 15).toInt ≤ (σ'.1 a 16).toInt ∧ (σ'.1 a 16).toInt ≤ (σ'.1 a 9).toInt ∧ (σ'.1 a 9).toInt ≤ 900 ∧ 0 ≤ (σ'.1 a 14).toInt ∧ (σ'.1 a 14).toInt ≤ 4 ∧ (σ'.1 a 14).toInt ≤ 4 * ((σ'.1 a 16).toInt - (σ'.1 a 15).toInt) ∧ (σ'.1 a 14).toInt ≤ 4 * ((σ'.1 a 9).toInt - (σ'.1 a 15).toInt) ∧ 0 ≤ (σ'.1 a 12).toInt ∧ (σ'.1 a 9).toInt = (σ.1 a 9).toInt ∧ (σ.1 a 15).toInt ≤ (σ'.1 a 15).toInt ∧ (σ.1 a 12).toInt ≤ (σ'.1 a 12).toInt) ∧ ((σ.1 a 16).toInt ≤ (σ'.1 a 15).toInt + 1000 * (σ'.1 a 12).toInt ∧ 0 ≤ r.toInt ∧ r.toInt ≤ v2.toInt ∧ v1.toInt ≤ r.toInt + 10 * (σ'.1 a 12).toInt) ∧ (r, σ') = F_X12_count X σ a v1 v2 ∧ q_ow [(12, 12), (12, 13), (12, 14), (12, 15), (12, 16), (12, 17), (12, 18)] [(12, 19)] X σ σ')) ([.ref a, .int v1, .int v2] : List Value).toArray s 0 0 (q_reg X)) (F0 m 19 ls []) := by
    clear hF
    intro σ_2 H locs ls j19σ_2 ks_σ_2 fr_σ_2 hF hI hl
    unfold F_X12_count_J19_1 at hF
    refine lv_aload_n hx hb dX12_count_19 rfl (lv_at hl 0 rfl) ?_
    refine gs_X12_187_12 E hI ha dX12_count_20 ?_
    refine lv_topi (fun f_3 ef_3 => ?_)
    replace hF := q_letX hF ef_3
    have if_3 : f_3.toInt = (σ_2.1 a 12).toInt := congrArg Int32.toInt ef_3
    refine q_if_ne (A := f_3.toInt) E rfl (tgt := 50) dX12_count_23 (by decide) (fun c_4 => ?_) (fun c_4 => ?_)
    · skip
      replace hF := q_ifn hF c_4
      refine lv_aload_n hx hb dX12_count_50 rfl (lv_at hl 0 rfl) ?_
      refine gs_X12_187_12 E hI ha dX12_count_51 ?_
      refine lv_topi (fun f_5 ef_5 => ?_)
      replace hF := q_letX hF ef_5
      have if_5 : f_5.toInt = (σ_2.1 a 12).toInt := congrArg Int32.toInt ef_5
      refine q_if_le (A := f_5.toInt) E rfl (tgt := 59) dX12_count_54 (by decide) (fun c_6 => ?_) (fun c_6 => ?_)
      · skip
        replace hF := q_ifn hF (Int.not_lt.mpr c_6)
        refine lv_aload_n hx hb dX12_count_59 rfl (lv_at hl 0 rfl) ?_
        refine gs_X12_129_12 E hI ha dX12_count_60 ?_
        refine lv_topi (fun f_7 ef_7 => ?_)
        replace hF := q_letX hF ef_7
        have if_7 : f_7.toInt = (σ_2.1 a 17).toInt := congrArg Int32.toInt ef_7
        refine lv_istore_n (lv' := [(3, .int f_7), (0, .ref a), (1, .int v1), (2, .int v2)]) hx hb dX12_count_63 rfl hl (by decide) rfl (fun ls hl => ?_)
        refine lv_aload_n hx hb dX12_count_64 rfl (lv_at hl 1 rfl) ?_
        refine q_cv (q_runV (As := []) (rest := []) E (hml.trans hl.1.symm) hI (c_X12_next l X σ_2 a ha (by omega) (by omega) (by omega)) kv_X12_197 ha ⟨rfl, by decide⟩ (show vwCl[11]? = some (RX12, TX12, 46) from rfl) rfl ⟨Nat.le_of_ble_eq_true rfl, Nat.le_of_ble_eq_true rfl⟩ ⟨Nat.le_refl _, Nat.le_refl _⟩ rfl (Nat.le_of_ble_eq_true rfl) dX12_count_65) hI (by decide) (fun σ_9 H locs hpσ_9 hkσ_9 hI => ?_)
        obtain ⟨ahpσ_9, bhpσ_9, chpσ_9, dhpσ_9, ehpσ_9⟩ := hpσ_9
        have fr_σ_9 := fr_σ_2.call ehpσ_9 rfl rfl
        replace hF := q_letX hF dhpσ_9
        have ks_σ_9 : q_KS (fun b g => b = a ∧ 12 ≤ g ∧ g ≤ 18) 9 X σ σ_9 := ks_σ_2.KS ahpσ_9 (by decide) (fun _ _ h => h)
        refine lv_iload_n hx hb dX12_count_68 rfl (lv_at hl 0 rfl) ?_
        exact q_reti E hr hlk hI ⟨ks_σ_9, (by omega), (by omega), (hF.trans hout), fr_σ_9⟩ dX12_count_69
      · skip
        replace hF := q_ifp hF c_6
        refine lv_iconst (v := 0) hx hb dX12_count_57 (by decide) ?_
        have hrv : (0 : Int32).toInt = 0 := rfl
        exact q_reti E hr hlk hI ⟨ks_σ_2, (by omega), (by omega), (hF.trans hout), fr_σ_2⟩ dX12_count_58
    · skip
      replace hF := q_ifp hF c_4
      refine lv_aload_n hx hb dX12_count_26 rfl (lv_at hl 0 rfl) ?_
      refine gs_X12_129_12 E hI ha dX12_count_27 ?_
      refine lv_topi (fun f_10 ef_10 => ?_)
      replace hF := q_letX hF ef_10
      have if_10 : f_10.toInt = (σ_2.1 a 17).toInt := congrArg Int32.toInt ef_10
      refine lv_i2l hx hb dX12_count_30 rfl ?_
      refine lv_topl (fun y_11 ey_11 => ?_)
      replace hF := q_letX hF ey_11
      have ggy_11 := q_rng f_10
      have iy_11 : y_11.toInt = f_10.toInt := by rw [ey_11]; exact (q_i2l _).trans rfl
      refine lv_iload_n hx hb dX12_count_31 rfl (lv_at hl 1 rfl) ?_
      refine lv_i2l hx hb dX12_count_32 rfl ?_
      refine lv_topl (fun y_12 ey_12 => ?_)
      replace hF := q_letX hF ey_12
      have ggy_12 := q_rng v1
      have iy_12 : y_12.toInt = v1.toInt := by rw [ey_12]; exact (q_i2l _).trans rfl
      refine lv_iload_n hx hb dX12_count_33 rfl (lv_at hl 2 rfl) ?_
      refine lv_i2l hx hb dX12_count_34 rfl ?_
      refine lv_topl (fun y_13 ey_13 => ?_)
      replace hF := q_letX hF ey_13
      have ggy_13 := q_rng v2
      have iy_13 : y_13.toInt = v2.toInt := by rw [ey_13]; exact (q_i2l _).trans rfl
      refine q_ci (q_runS (As := [.long y_11, .long y_12, .long y_13]) (rest := []) E (hml.trans hl.1.symm) hI (c_X12_isIn l X σ_2 y_11 y_12 y_13) ks_X12_94 rfl ⟨Nat.le_of_ble_eq_true rfl, Nat.le_of_ble_eq_true rfl⟩ ⟨Nat.le_refl _, Nat.le_refl _⟩ rfl (Nat.le_of_ble_eq_true rfl) dX12_count_35) hI (by decide) (fun r_14 σ_15 H locs hpσ_15 hkσ_15 hI => ?_)
      obtain ⟨ahpσ_15, bhpσ_15, chpσ_15, dhpσ_15⟩ := hpσ_15
      rw [ahpσ_15] at hI
      replace hF := q_letX hF dhpσ_15
      refine q_if_ne (A := r_14.toInt) E rfl (tgt := 50) dX12_count_38 (by decide) (fun c_16 => ?_) (fun c_16 => ?_)
      · skip
        replace hF := q_ifn hF c_16
        refine lv_aload_n hx hb dX12_count_50 rfl (lv_at hl 0 rfl) ?_
        refine gs_X12_187_12 E hI ha dX12_count_51 ?_
        refine lv_topi (fun f_17 ef_17 => ?_)
        replace hF := q_letX hF ef_17
        have if_17 : f_17.toInt = (σ_2.1 a 12).toInt := congrArg Int32.toInt ef_17
        refine q_if_le (A := f_17.toInt) E rfl (tgt := 59) dX12_count_54 (by decide) (fun c_18 => ?_) (fun c_18 => ?_)
        · skip
          replace hF := q_ifn hF (Int.not_lt.mpr c_18)
          refine lv_aload_n hx hb dX12_count_59 rfl (lv_at hl 0 rfl) ?_
          refine gs_X12_129_12 E hI ha dX12_count_60 ?_
          refine lv_topi (fun f_19 ef_19 => ?_)
          replace hF := q_letX hF ef_19
          have if_19 : f_19.toInt = (σ_2.1 a 17).toInt := congrArg Int32.toInt ef_19
          refine lv_istore_n (lv' := [(3, .int f_19), (0, .ref a), (1, .int v1), (2, .int v2)]) hx hb dX12_count_63 rfl hl (by decide) rfl (fun ls hl => ?_)
          refine lv_aload_n hx hb dX12_count_64 rfl (lv_at hl 1 rfl) ?_
          refine q_cv (q_runV (As := []) (rest := []) E (hml.trans hl.1.symm) hI (c_X12_next l X σ_2 a ha (by omega) (by omega) (by omega)) kv_X12_197 ha ⟨rfl, by decide⟩ (show vwCl[11]? = some (RX12, TX12, 46) from rfl) rfl ⟨Nat.le_of_ble_eq_true rfl, Nat.le_of_ble_eq_true rfl⟩ ⟨Nat.le_refl _, Nat.le_refl _⟩ rfl (Nat.le_of_ble_eq_true rfl) dX12_count_65) hI (by decide) (fun σ_21 H locs hpσ_21 hkσ_21 hI => ?_)
          obtain ⟨ahpσ_21, bhpσ_21, chpσ_21, dhpσ_21, ehpσ_21⟩ := hpσ_21
          have fr_σ_21 := fr_σ_2.call ehpσ_21 rfl rfl
          replace hF := q_letX hF dhpσ_21
          have ks_σ_21 : q_KS (fun b g => b = a ∧ 12 ≤ g ∧ g ≤ 18) 9 X σ σ_21 := ks_σ_2.KS ahpσ_21 (by decide) (fun _ _ h => h)
          refine lv_iload_n hx hb dX12_count_68 rfl (lv_at hl 0 rfl) ?_
          exact q_reti E hr hlk hI ⟨ks_σ_21, (by omega), (by omega), (hF.trans hout), fr_σ_21⟩ dX12_count_69
        · skip
          replace hF := q_ifp hF c_18
          refine lv_iconst (v := 0) hx hb dX12_count_57 (by decide) ?_
          have hrv : (0 : Int32).toInt = 0 := rfl
          exact q_reti E hr hlk hI ⟨ks_σ_2, (by omega), (by omega), (hF.trans hout), fr_σ_2⟩ dX12_count_58
      · skip
        replace hF := q_ifp hF c_16
        refine lv_aload_n hx hb dX12_count_41 rfl (lv_at hl 0 rfl) ?_
        refine lv_iconst (v := 4) hx hb dX12_count_42 (by decide) ?_
        refine lv_aload_n hx hb dX12_count_43 rfl (lv_at hl 0 rfl) ?_
        refine gs_X12_104_12 E hI ha dX12_count_44 ?_
        refine lv_topi (fun f_22 ef_22 => ?_)
        replace hF := q_letX hF ef_22
        have if_22 : f_22.toInt = (σ_2.1 a 15).toInt := congrArg Int32.toInt ef_22
        have kc_23 : (4 : Int32).toInt = 4 := rfl
        refine q_cv (q_runV (As := [.int 4, .int f_22]) (rest := []) E (hml.trans hl.1.symm) hI (c_X12_fail l X σ_2 a (4 : Int32) f_22 ha (by omega) (by omega)) kv_X12_193 ha ⟨rfl, by decide⟩ (show vwCl[11]? = some (RX12, TX12, 46) from rfl) rfl ⟨Nat.le_of_ble_eq_true rfl, Nat.le_of_ble_eq_true rfl⟩ ⟨Nat.le_refl _, Nat.le_refl _⟩ rfl (Nat.le_of_ble_eq_true rfl) dX12_count_47) hI (by decide) (fun σ_25 H locs hpσ_25 hkσ_25 hI => ?_)
        obtain ⟨ahpσ_25, bhpσ_25, chpσ_25, dhpσ_25, ehpσ_25⟩ := hpσ_25
        have fr_σ_25 := fr_σ_2.call ehpσ_25 rfl rfl
        replace hF := q_letX hF dhpσ_25
        have ks_σ_25 : q_KS (fun b g => b = a ∧ 12 ≤ g ∧ g ≤ 18) 9 X σ σ_25 := ks_σ_2.KS ahpσ_25 (by decide) (fun _ _ h => h)
        refine lv_aload_n hx hb dX12_count_50 rfl (lv_at hl 0 rfl) ?_
        refine gs_X12_187_12 E hI ha dX12_count_51 ?_
        refine lv_topi (fun f_26 ef_26 => ?_)
        replace hF := q_letX hF ef_26
        have if_26 : f_26.toInt = (σ_25.1 a 12).toInt := congrArg Int32.toInt ef_26
        refine q_if_le (A := f_26.toInt) E rfl (tgt := 59) dX12_count_54 (by decide) (fun c_27 => ?_) (fun c_27 => ?_)
        · skip
          replace hF := q_ifn hF (Int.not_lt.mpr c_27)
          refine lv_aload_n hx hb dX12_count_59 rfl (lv_at hl 0 rfl) ?_
          refine gs_X12_129_12 E hI ha dX12_count_60 ?_
          refine lv_topi (fun f_28 ef_28 => ?_)
          replace hF := q_letX hF ef_28
          have if_28 : f_28.toInt = (σ_25.1 a 17).toInt := congrArg Int32.toInt ef_28
          refine lv_istore_n (lv' := [(3, .int f_28), (0, .ref a), (1, .int v1), (2, .int v2)]) hx hb dX12_count_63 rfl hl (by decide) rfl (fun ls hl => ?_)
          refine lv_aload_n hx hb dX12_count_64 rfl (lv_at hl 1 rfl) ?_
          refine q_cv (q_runV (As := []) (rest := []) E (hml.trans hl.1.symm) hI (c_X12_next l X σ_25 a ha (by omega) (by omega) (by omega)) kv_X12_197 ha ⟨rfl, by decide⟩ (show vwCl[11]? = some (RX12, TX12, 46) from rfl) rfl ⟨Nat.le_of_ble_eq_true rfl, Nat.le_of_ble_eq_true rfl⟩ ⟨Nat.le_refl _, Nat.le_refl _⟩ rfl (Nat.le_of_ble_eq_true rfl) dX12_count_65) hI (by decide) (fun σ_30 H locs hpσ_30 hkσ_30 hI => ?_)
          obtain ⟨ahpσ_30, bhpσ_30, chpσ_30, dhpσ_30, ehpσ_30⟩ := hpσ_30
          have fr_σ_30 := fr_σ_25.call ehpσ_30 rfl rfl
          replace hF := q_letX hF dhpσ_30
          have ks_σ_30 : q_KS (fun b g => b = a ∧ 12 ≤ g ∧ g ≤ 18) 9 X σ σ_30 := ks_σ_25.KS ahpσ_30 (by decide) (fun _ _ h => h)
          refine lv_iload_n hx hb dX12_count_68 rfl (lv_at hl 0 rfl) ?_
          exact q_reti E hr hlk hI ⟨ks_σ_30, (by omega), (by omega), (hF.trans hout), fr_σ_30⟩ dX12_count_69
        · skip
          replace hF := q_ifp hF c_27
          refine lv_iconst (v := 0) hx hb dX12_count_57 (by decide) ?_
          have hrv : (0 : Int32).toInt = 0 := rfl
          exact q_reti E hr hlk hI ⟨ks_σ_25, (by omega), (by omega), (hF.trans hout), fr_σ_25⟩ dX12_count_58
  refine q_if_ne (A := f_1.toInt) E rfl (tgt := 19) dX12_count_4 (by decide) (fun c_31 => ?_) (fun c_31 => ?_)
  · skip
    replace hF := q_ifn hF c_31
    exact J_19_2 σ _ _ ls (by omega) ks_σ fr_σ hF hI (lv_sub hl [0, 1, 2] rfl)
  · skip
    replace hF := q_ifp hF c_31
    refine lv_aload_n hx hb dX12_count_7 rfl (lv_at hl 0 rfl) ?_
    refine gs_X12_110_12 E hI ha dX12_count_8 ?_
    refine lv_topi (fun f_32 ef_32 => ?_)
    replace hF := q_letX hF ef_32
    have if_32 : f_32.toInt = (σ.1 a 14).toInt := congrArg Int32.toInt ef_32
    refine lv_iconst (v := 2) hx hb dX12_count_11 (by decide) ?_
    refine q_icmp_eq (A := f_32.toInt) (B := 2) E rfl (by decide) (tgt := 19) dX12_count_12 (by decide) (fun c_33 => ?_) (fun c_33 => ?_)
    · skip
      replace hF := q_ifp hF c_33
      exact J_19_2 σ _ _ ls (by omega) ks_σ fr_σ hF hI (lv_sub hl [0, 1, 2] rfl)
    · skip
      replace hF := q_ifn hF c_33
      refine lv_aload_n hx hb dX12_count_15 rfl (lv_at hl 0 rfl) ?_
      refine q_cv (q_runV (As := []) (rest := []) E (hml.trans hl.1.symm) hI (c_X12_wrong l X σ a ha (by omega)) kv_X12_200 ha ⟨rfl, by decide⟩ (show vwCl[11]? = some (RX12, TX12, 46) from rfl) rfl ⟨Nat.le_of_ble_eq_true rfl, Nat.le_of_ble_eq_true rfl⟩ ⟨Nat.le_refl _, Nat.le_refl _⟩ rfl (Nat.le_of_ble_eq_true rfl) dX12_count_16) hI (by decide) (fun σ_35 H locs hpσ_35 hkσ_35 hI => ?_)
      obtain ⟨ahpσ_35, bhpσ_35, chpσ_35, dhpσ_35, ehpσ_35⟩ := hpσ_35
      have fr_σ_35 := fr_σ.call ehpσ_35 rfl rfl
      replace hF := q_letX hF dhpσ_35
      have ks_σ_35 : q_KS (fun b g => b = a ∧ 12 ≤ g ∧ g ≤ 18) 9 X σ σ_35 := ks_σ.KS ahpσ_35 (by decide) (fun _ _ h => h)
      exact J_19_2 σ_35 _ _ ls (by omega) ks_σ_35 fr_σ_35 hF hI (lv_sub hl [0, 1, 2] rfl)

set_option maxRecDepth 100000 in
set_option maxHeartbeats 4000000 in
theorem c_X12_spelled (l : Launch) (X : XW) (σ : ST) (v0 : Int32) (v1 : Int32) (v2 : Int32) (v3 : Int32) (v4 : Int32) (v5 : Int32) : Met l yX12_spelled (q_ws yX12_spelled cX12_spelled 8 (some .long)) (q_rm 0 0) (q_P X σ [.int v0, .int v1, .int v2, .int v3, .int v4, .int v5]) (q_Ql X 9 σ (fun (r : Int64) (σ' : ST) => σ' = σ ∧ r = F_X12_spelled X σ v0 v1 v2 v3 v4 v5)) 0 0 (q_reg X) := by
  refine q_met 9 (by decide +kernel) rfl (Nat.le_of_ble_eq_true rfl) (fun p e s m below meth c E hml hr hlk hI ls hl => ?_)
  have hx := E.1
  have hb := E.2.1
  have hl : lv_has ls 8 [(0, .int v0), (1, .int v1), (2, .int v2), (3, .int v3), (4, .int v4), (5, .int v5)] := hl
  obtain ⟨out, hout⟩ : ∃ o, o = F_X12_spelled X σ v0 v1 v2 v3 v4 v5 := ⟨_, rfl⟩
  have hF := hout.symm
  unfold F_X12_spelled at hF
  refine lv_iload_n hx hb dX12_spelled_0 rfl (lv_at hl 0 rfl) ?_
  refine lv_i2l hx hb dX12_spelled_1 rfl ?_
  refine lv_topl (fun y_1 ey_1 => ?_)
  replace hF := q_letX hF ey_1
  refine lv_ldc2 (v := 96) hx hb E.2.2.1 (E.2.2.2.1 _ (q_in_t (i := 1640) (by decide +kernel) rfl)) dX12_spelled_2 ?_
  refine lv_lsub hx hb dX12_spelled_5 ?_
  refine lv_topl (fun y_2 ey_2 => ?_)
  replace hF := q_letX hF ey_2
  refine lv_ldc2 (v := 32) hx hb E.2.2.1 (E.2.2.2.1 _ (q_in_t (i := 1639) (by decide +kernel) rfl)) dX12_spelled_6 ?_
  refine lv_lmul hx hb dX12_spelled_9 ?_
  refine lv_topl (fun y_3 ey_3 => ?_)
  replace hF := q_letX hF ey_3
  refine lv_iload_n hx hb dX12_spelled_10 rfl (lv_at hl 1 rfl) ?_
  refine lv_i2l hx hb dX12_spelled_11 rfl ?_
  refine lv_topl (fun y_4 ey_4 => ?_)
  replace hF := q_letX hF ey_4
  refine lv_ladd hx hb dX12_spelled_12 ?_
  refine lv_topl (fun y_5 ey_5 => ?_)
  replace hF := q_letX hF ey_5
  refine lv_ldc2 (v := 96) hx hb E.2.2.1 (E.2.2.2.1 _ (q_in_t (i := 1640) (by decide +kernel) rfl)) dX12_spelled_13 ?_
  refine lv_lsub hx hb dX12_spelled_16 ?_
  refine lv_topl (fun y_6 ey_6 => ?_)
  replace hF := q_letX hF ey_6
  refine lv_lstore (lv' := [(6, .long y_6), (0, .int v0), (1, .int v1), (2, .int v2), (3, .int v3), (4, .int v4), (5, .int v5)]) hx hb dX12_spelled_17 hl (by decide) rfl (fun ls hl => ?_)
  refine lv_iload_n hx hb dX12_spelled_19 rfl (lv_at hl 3 rfl) ?_
  refine q_if_le (A := v2.toInt) E rfl (tgt := 39) dX12_spelled_20 (by decide) (fun c_7 => ?_) (fun c_7 => ?_)
  · skip
    replace hF := q_ifn hF (Int.not_lt.mpr c_7)
    refine lv_lload hx hb dX12_spelled_39 (lv_at hl 0 rfl) ?_
    refine lv_lstore (lv' := [(6, .long y_6), (0, .int v0), (1, .int v1), (2, .int v2), (3, .int v3), (4, .int v4), (5, .int v5)]) hx hb dX12_spelled_41 hl (by decide) rfl (fun ls hl => ?_)
    refine lv_iload_n hx hb dX12_spelled_43 rfl (lv_at hl 4 rfl) ?_
    refine q_if_le (A := v3.toInt) E rfl (tgt := 63) dX12_spelled_44 (by decide) (fun c_8 => ?_) (fun c_8 => ?_)
    · skip
      replace hF := q_ifn hF (Int.not_lt.mpr c_8)
      refine lv_lload hx hb dX12_spelled_63 (lv_at hl 0 rfl) ?_
      refine lv_lstore (lv' := [(6, .long y_6), (0, .int v0), (1, .int v1), (2, .int v2), (3, .int v3), (4, .int v4), (5, .int v5)]) hx hb dX12_spelled_65 hl (by decide) rfl (fun ls hl => ?_)
      refine lv_iload hx hb dX12_spelled_67 (lv_at hl 5 rfl) ?_
      refine q_if_le (A := v4.toInt) E rfl (tgt := 89) dX12_spelled_69 (by decide) (fun c_9 => ?_) (fun c_9 => ?_)
      · skip
        replace hF := q_ifn hF (Int.not_lt.mpr c_9)
        refine lv_lload hx hb dX12_spelled_89 (lv_at hl 0 rfl) ?_
        refine lv_lstore (lv' := [(6, .long y_6), (0, .int v0), (1, .int v1), (2, .int v2), (3, .int v3), (4, .int v4), (5, .int v5)]) hx hb dX12_spelled_91 hl (by decide) rfl (fun ls hl => ?_)
        refine lv_iload hx hb dX12_spelled_93 (lv_at hl 6 rfl) ?_
        refine q_if_le (A := v5.toInt) E rfl (tgt := 115) dX12_spelled_95 (by decide) (fun c_10 => ?_) (fun c_10 => ?_)
        · skip
          replace hF := q_ifn hF (Int.not_lt.mpr c_10)
          refine lv_lload hx hb dX12_spelled_115 (lv_at hl 0 rfl) ?_
          exact q_retl E hr hlk hI ⟨rfl, (hF.trans hout)⟩ dX12_spelled_117
        · skip
          replace hF := q_ifp hF c_10
          refine lv_lload hx hb dX12_spelled_98 (lv_at hl 0 rfl) ?_
          refine lv_ldc2 (v := 32) hx hb E.2.2.1 (E.2.2.2.1 _ (q_in_t (i := 1639) (by decide +kernel) rfl)) dX12_spelled_100 ?_
          refine lv_lmul hx hb dX12_spelled_103 ?_
          refine lv_topl (fun y_11 ey_11 => ?_)
          replace hF := q_letX hF ey_11
          refine lv_iload hx hb dX12_spelled_104 (lv_at hl 6 rfl) ?_
          refine lv_i2l hx hb dX12_spelled_106 rfl ?_
          refine lv_topl (fun y_12 ey_12 => ?_)
          replace hF := q_letX hF ey_12
          refine lv_ladd hx hb dX12_spelled_107 ?_
          refine lv_topl (fun y_13 ey_13 => ?_)
          replace hF := q_letX hF ey_13
          refine lv_ldc2 (v := 96) hx hb E.2.2.1 (E.2.2.2.1 _ (q_in_t (i := 1640) (by decide +kernel) rfl)) dX12_spelled_108 ?_
          refine lv_lsub hx hb dX12_spelled_111 ?_
          refine lv_topl (fun y_14 ey_14 => ?_)
          replace hF := q_letX hF ey_14
          refine lv_goto (tgt := 117) hx hb dX12_spelled_112 (by decide) ?_
          exact q_retl E hr hlk hI ⟨rfl, (hF.trans hout)⟩ dX12_spelled_117
      · skip
        replace hF := q_ifp hF c_9
        refine lv_lload hx hb dX12_spelled_72 (lv_at hl 0 rfl) ?_
        refine lv_ldc2 (v := 32) hx hb E.2.2.1 (E.2.2.2.1 _ (q_in_t (i := 1639) (by decide +kernel) rfl)) dX12_spelled_74 ?_
        refine lv_lmul hx hb dX12_spelled_77 ?_
        refine lv_topl (fun y_15 ey_15 => ?_)
        replace hF := q_letX hF ey_15
        refine lv_iload hx hb dX12_spelled_78 (lv_at hl 5 rfl) ?_
        refine lv_i2l hx hb dX12_spelled_80 rfl ?_
        refine lv_topl (fun y_16 ey_16 => ?_)
        replace hF := q_letX hF ey_16
        refine lv_ladd hx hb dX12_spelled_81 ?_
        refine lv_topl (fun y_17 ey_17 => ?_)
        replace hF := q_letX hF ey_17
        refine lv_ldc2 (v := 96) hx hb E.2.2.1 (E.2.2.2.1 _ (q_in_t (i := 1640) (by decide +kernel) rfl)) dX12_spelled_82 ?_
        refine lv_lsub hx hb dX12_spelled_85 ?_
        refine lv_topl (fun y_18 ey_18 => ?_)
        replace hF := q_letX hF ey_18
        refine lv_goto (tgt := 91) hx hb dX12_spelled_86 (by decide) ?_
        refine lv_lstore (lv' := [(6, .long y_18), (0, .int v0), (1, .int v1), (2, .int v2), (3, .int v3), (4, .int v4), (5, .int v5)]) hx hb dX12_spelled_91 hl (by decide) rfl (fun ls hl => ?_)
        refine lv_iload hx hb dX12_spelled_93 (lv_at hl 6 rfl) ?_
        refine q_if_le (A := v5.toInt) E rfl (tgt := 115) dX12_spelled_95 (by decide) (fun c_19 => ?_) (fun c_19 => ?_)
        · skip
          replace hF := q_ifn hF (Int.not_lt.mpr c_19)
          refine lv_lload hx hb dX12_spelled_115 (lv_at hl 0 rfl) ?_
          exact q_retl E hr hlk hI ⟨rfl, (hF.trans hout)⟩ dX12_spelled_117
        · skip
          replace hF := q_ifp hF c_19
          refine lv_lload hx hb dX12_spelled_98 (lv_at hl 0 rfl) ?_
          refine lv_ldc2 (v := 32) hx hb E.2.2.1 (E.2.2.2.1 _ (q_in_t (i := 1639) (by decide +kernel) rfl)) dX12_spelled_100 ?_
          refine lv_lmul hx hb dX12_spelled_103 ?_
          refine lv_topl (fun y_20 ey_20 => ?_)
          replace hF := q_letX hF ey_20
          refine lv_iload hx hb dX12_spelled_104 (lv_at hl 6 rfl) ?_
          refine lv_i2l hx hb dX12_spelled_106 rfl ?_
          refine lv_topl (fun y_21 ey_21 => ?_)
          replace hF := q_letX hF ey_21
          refine lv_ladd hx hb dX12_spelled_107 ?_
          refine lv_topl (fun y_22 ey_22 => ?_)
          replace hF := q_letX hF ey_22
          refine lv_ldc2 (v := 96) hx hb E.2.2.1 (E.2.2.2.1 _ (q_in_t (i := 1640) (by decide +kernel) rfl)) dX12_spelled_108 ?_
          refine lv_lsub hx hb dX12_spelled_111 ?_
          refine lv_topl (fun y_23 ey_23 => ?_)
          replace hF := q_letX hF ey_23
          refine lv_goto (tgt := 117) hx hb dX12_spelled_112 (by decide) ?_
          exact q_retl E hr hlk hI ⟨rfl, (hF.trans hout)⟩ dX12_spelled_117
    · skip
      replace hF := q_ifp hF c_8
      refine lv_lload hx hb dX12_spelled_47 (lv_at hl 0 rfl) ?_
      refine lv_ldc2 (v := 32) hx hb E.2.2.1 (E.2.2.2.1 _ (q_in_t (i := 1639) (by decide +kernel) rfl)) dX12_spelled_49 ?_
      refine lv_lmul hx hb dX12_spelled_52 ?_
      refine lv_topl (fun y_24 ey_24 => ?_)
      replace hF := q_letX hF ey_24
      refine lv_iload_n hx hb dX12_spelled_53 rfl (lv_at hl 4 rfl) ?_
      refine lv_i2l hx hb dX12_spelled_54 rfl ?_
      refine lv_topl (fun y_25 ey_25 => ?_)
      replace hF := q_letX hF ey_25
      refine lv_ladd hx hb dX12_spelled_55 ?_
      refine lv_topl (fun y_26 ey_26 => ?_)
      replace hF := q_letX hF ey_26
      refine lv_ldc2 (v := 96) hx hb E.2.2.1 (E.2.2.2.1 _ (q_in_t (i := 1640) (by decide +kernel) rfl)) dX12_spelled_56 ?_
      refine lv_lsub hx hb dX12_spelled_59 ?_
      refine lv_topl (fun y_27 ey_27 => ?_)
      replace hF := q_letX hF ey_27
      refine lv_goto (tgt := 65) hx hb dX12_spelled_60 (by decide) ?_
      refine lv_lstore (lv' := [(6, .long y_27), (0, .int v0), (1, .int v1), (2, .int v2), (3, .int v3), (4, .int v4), (5, .int v5)]) hx hb dX12_spelled_65 hl (by decide) rfl (fun ls hl => ?_)
      refine lv_iload hx hb dX12_spelled_67 (lv_at hl 5 rfl) ?_
      refine q_if_le (A := v4.toInt) E rfl (tgt := 89) dX12_spelled_69 (by decide) (fun c_28 => ?_) (fun c_28 => ?_)
      · skip
        replace hF := q_ifn hF (Int.not_lt.mpr c_28)
        refine lv_lload hx hb dX12_spelled_89 (lv_at hl 0 rfl) ?_
        refine lv_lstore (lv' := [(6, .long y_27), (0, .int v0), (1, .int v1), (2, .int v2), (3, .int v3), (4, .int v4), (5, .int v5)]) hx hb dX12_spelled_91 hl (by decide) rfl (fun ls hl => ?_)
        refine lv_iload hx hb dX12_spelled_93 (lv_at hl 6 rfl) ?_
        refine q_if_le (A := v5.toInt) E rfl (tgt := 115) dX12_spelled_95 (by decide) (fun c_29 => ?_) (fun c_29 => ?_)
        · skip
          replace hF := q_ifn hF (Int.not_lt.mpr c_29)
          refine lv_lload hx hb dX12_spelled_115 (lv_at hl 0 rfl) ?_
          exact q_retl E hr hlk hI ⟨rfl, (hF.trans hout)⟩ dX12_spelled_117
        · skip
          replace hF := q_ifp hF c_29
          refine lv_lload hx hb dX12_spelled_98 (lv_at hl 0 rfl) ?_
          refine lv_ldc2 (v := 32) hx hb E.2.2.1 (E.2.2.2.1 _ (q_in_t (i := 1639) (by decide +kernel) rfl)) dX12_spelled_100 ?_
          refine lv_lmul hx hb dX12_spelled_103 ?_
          refine lv_topl (fun y_30 ey_30 => ?_)
          replace hF := q_letX hF ey_30
          refine lv_iload hx hb dX12_spelled_104 (lv_at hl 6 rfl) ?_
          refine lv_i2l hx hb dX12_spelled_106 rfl ?_
          refine lv_topl (fun y_31 ey_31 => ?_)
          replace hF := q_letX hF ey_31
          refine lv_ladd hx hb dX12_spelled_107 ?_
          refine lv_topl (fun y_32 ey_32 => ?_)
          replace hF := q_letX hF ey_32
          refine lv_ldc2 (v := 96) hx hb E.2.2.1 (E.2.2.2.1 _ (q_in_t (i := 1640) (by decide +kernel) rfl)) dX12_spelled_108 ?_
          refine lv_lsub hx hb dX12_spelled_111 ?_
          refine lv_topl (fun y_33 ey_33 => ?_)
          replace hF := q_letX hF ey_33
          refine lv_goto (tgt := 117) hx hb dX12_spelled_112 (by decide) ?_
          exact q_retl E hr hlk hI ⟨rfl, (hF.trans hout)⟩ dX12_spelled_117
      · skip
        replace hF := q_ifp hF c_28
        refine lv_lload hx hb dX12_spelled_72 (lv_at hl 0 rfl) ?_
        refine lv_ldc2 (v := 32) hx hb E.2.2.1 (E.2.2.2.1 _ (q_in_t (i := 1639) (by decide +kernel) rfl)) dX12_spelled_74 ?_
        refine lv_lmul hx hb dX12_spelled_77 ?_
        refine lv_topl (fun y_34 ey_34 => ?_)
        replace hF := q_letX hF ey_34
        refine lv_iload hx hb dX12_spelled_78 (lv_at hl 5 rfl) ?_
        refine lv_i2l hx hb dX12_spelled_80 rfl ?_
        refine lv_topl (fun y_35 ey_35 => ?_)
        replace hF := q_letX hF ey_35
        refine lv_ladd hx hb dX12_spelled_81 ?_
        refine lv_topl (fun y_36 ey_36 => ?_)
        replace hF := q_letX hF ey_36
        refine lv_ldc2 (v := 96) hx hb E.2.2.1 (E.2.2.2.1 _ (q_in_t (i := 1640) (by decide +kernel) rfl)) dX12_spelled_82 ?_
        refine lv_lsub hx hb dX12_spelled_85 ?_
        refine lv_topl (fun y_37 ey_37 => ?_)
        replace hF := q_letX hF ey_37
        refine lv_goto (tgt := 91) hx hb dX12_spelled_86 (by decide) ?_
        refine lv_lstore (lv' := [(6, .long y_37), (0, .int v0), (1, .int v1), (2, .int v2), (3, .int v3), (4, .int v4), (5, .int v5)]) hx hb dX12_spelled_91 hl (by decide) rfl (fun ls hl => ?_)
        refine lv_iload hx hb dX12_spelled_93 (lv_at hl 6 rfl) ?_
        refine q_if_le (A := v5.toInt) E rfl (tgt := 115) dX12_spelled_95 (by decide) (fun c_38 => ?_) (fun c_38 => ?_)
        · skip
          replace hF := q_ifn hF (Int.not_lt.mpr c_38)
          refine lv_lload hx hb dX12_spelled_115 (lv_at hl 0 rfl) ?_
          exact q_retl E hr hlk hI ⟨rfl, (hF.trans hout)⟩ dX12_spelled_117
        · skip
          replace hF := q_ifp hF c_38
          refine lv_lload hx hb dX12_spelled_98 (lv_at hl 0 rfl) ?_
          refine lv_ldc2 (v := 32) hx hb E.2.2.1 (E.2.2.2.1 _ (q_in_t (i := 1639) (by decide +kernel) rfl)) dX12_spelled_100 ?_
          refine lv_lmul hx hb dX12_spelled_103 ?_
          refine lv_topl (fun y_39 ey_39 => ?_)
          replace hF := q_letX hF ey_39
          refine lv_iload hx hb dX12_spelled_104 (lv_at hl 6 rfl) ?_
          refine lv_i2l hx hb dX12_spelled_106 rfl ?_
          refine lv_topl (fun y_40 ey_40 => ?_)
          replace hF := q_letX hF ey_40
          refine lv_ladd hx hb dX12_spelled_107 ?_
          refine lv_topl (fun y_41 ey_41 => ?_)
          replace hF := q_letX hF ey_41
          refine lv_ldc2 (v := 96) hx hb E.2.2.1 (E.2.2.2.1 _ (q_in_t (i := 1640) (by decide +kernel) rfl)) dX12_spelled_108 ?_
          refine lv_lsub hx hb dX12_spelled_111 ?_
          refine lv_topl (fun y_42 ey_42 => ?_)
          replace hF := q_letX hF ey_42
          refine lv_goto (tgt := 117) hx hb dX12_spelled_112 (by decide) ?_
          exact q_retl E hr hlk hI ⟨rfl, (hF.trans hout)⟩ dX12_spelled_117
  · skip
    replace hF := q_ifp hF c_7
    refine lv_lload hx hb dX12_spelled_23 (lv_at hl 0 rfl) ?_
    refine lv_ldc2 (v := 32) hx hb E.2.2.1 (E.2.2.2.1 _ (q_in_t (i := 1639) (by decide +kernel) rfl)) dX12_spelled_25 ?_
    refine lv_lmul hx hb dX12_spelled_28 ?_
    refine lv_topl (fun y_43 ey_43 => ?_)
    replace hF := q_letX hF ey_43
    refine lv_iload_n hx hb dX12_spelled_29 rfl (lv_at hl 3 rfl) ?_
    refine lv_i2l hx hb dX12_spelled_30 rfl ?_
    refine lv_topl (fun y_44 ey_44 => ?_)
    replace hF := q_letX hF ey_44
    refine lv_ladd hx hb dX12_spelled_31 ?_
    refine lv_topl (fun y_45 ey_45 => ?_)
    replace hF := q_letX hF ey_45
    refine lv_ldc2 (v := 96) hx hb E.2.2.1 (E.2.2.2.1 _ (q_in_t (i := 1640) (by decide +kernel) rfl)) dX12_spelled_32 ?_
    refine lv_lsub hx hb dX12_spelled_35 ?_
    refine lv_topl (fun y_46 ey_46 => ?_)
    replace hF := q_letX hF ey_46
    refine lv_goto (tgt := 41) hx hb dX12_spelled_36 (by decide) ?_
    refine lv_lstore (lv' := [(6, .long y_46), (0, .int v0), (1, .int v1), (2, .int v2), (3, .int v3), (4, .int v4), (5, .int v5)]) hx hb dX12_spelled_41 hl (by decide) rfl (fun ls hl => ?_)
    refine lv_iload_n hx hb dX12_spelled_43 rfl (lv_at hl 4 rfl) ?_
    refine q_if_le (A := v3.toInt) E rfl (tgt := 63) dX12_spelled_44 (by decide) (fun c_47 => ?_) (fun c_47 => ?_)
    · skip
      replace hF := q_ifn hF (Int.not_lt.mpr c_47)
      refine lv_lload hx hb dX12_spelled_63 (lv_at hl 0 rfl) ?_
      refine lv_lstore (lv' := [(6, .long y_46), (0, .int v0), (1, .int v1), (2, .int v2), (3, .int v3), (4, .int v4), (5, .int v5)]) hx hb dX12_spelled_65 hl (by decide) rfl (fun ls hl => ?_)
      refine lv_iload hx hb dX12_spelled_67 (lv_at hl 5 rfl) ?_
      refine q_if_le (A := v4.toInt) E rfl (tgt := 89) dX12_spelled_69 (by decide) (fun c_48 => ?_) (fun c_48 => ?_)
      · skip
        replace hF := q_ifn hF (Int.not_lt.mpr c_48)
        refine lv_lload hx hb dX12_spelled_89 (lv_at hl 0 rfl) ?_
        refine lv_lstore (lv' := [(6, .long y_46), (0, .int v0), (1, .int v1), (2, .int v2), (3, .int v3), (4, .int v4), (5, .int v5)]) hx hb dX12_spelled_91 hl (by decide) rfl (fun ls hl => ?_)
        refine lv_iload hx hb dX12_spelled_93 (lv_at hl 6 rfl) ?_
        refine q_if_le (A := v5.toInt) E rfl (tgt := 115) dX12_spelled_95 (by decide) (fun c_49 => ?_) (fun c_49 => ?_)
        · skip
          replace hF := q_ifn hF (Int.not_lt.mpr c_49)
          refine lv_lload hx hb dX12_spelled_115 (lv_at hl 0 rfl) ?_
          exact q_retl E hr hlk hI ⟨rfl, (hF.trans hout)⟩ dX12_spelled_117
        · skip
          replace hF := q_ifp hF c_49
          refine lv_lload hx hb dX12_spelled_98 (lv_at hl 0 rfl) ?_
          refine lv_ldc2 (v := 32) hx hb E.2.2.1 (E.2.2.2.1 _ (q_in_t (i := 1639) (by decide +kernel) rfl)) dX12_spelled_100 ?_
          refine lv_lmul hx hb dX12_spelled_103 ?_
          refine lv_topl (fun y_50 ey_50 => ?_)
          replace hF := q_letX hF ey_50
          refine lv_iload hx hb dX12_spelled_104 (lv_at hl 6 rfl) ?_
          refine lv_i2l hx hb dX12_spelled_106 rfl ?_
          refine lv_topl (fun y_51 ey_51 => ?_)
          replace hF := q_letX hF ey_51
          refine lv_ladd hx hb dX12_spelled_107 ?_
          refine lv_topl (fun y_52 ey_52 => ?_)
          replace hF := q_letX hF ey_52
          refine lv_ldc2 (v := 96) hx hb E.2.2.1 (E.2.2.2.1 _ (q_in_t (i := 1640) (by decide +kernel) rfl)) dX12_spelled_108 ?_
          refine lv_lsub hx hb dX12_spelled_111 ?_
          refine lv_topl (fun y_53 ey_53 => ?_)
          replace hF := q_letX hF ey_53
          refine lv_goto (tgt := 117) hx hb dX12_spelled_112 (by decide) ?_
          exact q_retl E hr hlk hI ⟨rfl, (hF.trans hout)⟩ dX12_spelled_117
      · skip
        replace hF := q_ifp hF c_48
        refine lv_lload hx hb dX12_spelled_72 (lv_at hl 0 rfl) ?_
        refine lv_ldc2 (v := 32) hx hb E.2.2.1 (E.2.2.2.1 _ (q_in_t (i := 1639) (by decide +kernel) rfl)) dX12_spelled_74 ?_
        refine lv_lmul hx hb dX12_spelled_77 ?_
        refine lv_topl (fun y_54 ey_54 => ?_)
        replace hF := q_letX hF ey_54
        refine lv_iload hx hb dX12_spelled_78 (lv_at hl 5 rfl) ?_
        refine lv_i2l hx hb dX12_spelled_80 rfl ?_
        refine lv_topl (fun y_55 ey_55 => ?_)
        replace hF := q_letX hF ey_55
        refine lv_ladd hx hb dX12_spelled_81 ?_
        refine lv_topl (fun y_56 ey_56 => ?_)
        replace hF := q_letX hF ey_56
        refine lv_ldc2 (v := 96) hx hb E.2.2.1 (E.2.2.2.1 _ (q_in_t (i := 1640) (by decide +kernel) rfl)) dX12_spelled_82 ?_
        refine lv_lsub hx hb dX12_spelled_85 ?_
        refine lv_topl (fun y_57 ey_57 => ?_)
        replace hF := q_letX hF ey_57
        refine lv_goto (tgt := 91) hx hb dX12_spelled_86 (by decide) ?_
        refine lv_lstore (lv' := [(6, .long y_57), (0, .int v0), (1, .int v1), (2, .int v2), (3, .int v3), (4, .int v4), (5, .int v5)]) hx hb dX12_spelled_91 hl (by decide) rfl (fun ls hl => ?_)
        refine lv_iload hx hb dX12_spelled_93 (lv_at hl 6 rfl) ?_
        refine q_if_le (A := v5.toInt) E rfl (tgt := 115) dX12_spelled_95 (by decide) (fun c_58 => ?_) (fun c_58 => ?_)
        · skip
          replace hF := q_ifn hF (Int.not_lt.mpr c_58)
          refine lv_lload hx hb dX12_spelled_115 (lv_at hl 0 rfl) ?_
          exact q_retl E hr hlk hI ⟨rfl, (hF.trans hout)⟩ dX12_spelled_117
        · skip
          replace hF := q_ifp hF c_58
          refine lv_lload hx hb dX12_spelled_98 (lv_at hl 0 rfl) ?_
          refine lv_ldc2 (v := 32) hx hb E.2.2.1 (E.2.2.2.1 _ (q_in_t (i := 1639) (by decide +kernel) rfl)) dX12_spelled_100 ?_
          refine lv_lmul hx hb dX12_spelled_103 ?_
          refine lv_topl (fun y_59 ey_59 => ?_)
          replace hF := q_letX hF ey_59
          refine lv_iload hx hb dX12_spelled_104 (lv_at hl 6 rfl) ?_
          refine lv_i2l hx hb dX12_spelled_106 rfl ?_
          refine lv_topl (fun y_60 ey_60 => ?_)
          replace hF := q_letX hF ey_60
          refine lv_ladd hx hb dX12_spelled_107 ?_
          refine lv_topl (fun y_61 ey_61 => ?_)
          replace hF := q_letX hF ey_61
          refine lv_ldc2 (v := 96) hx hb E.2.2.1 (E.2.2.2.1 _ (q_in_t (i := 1640) (by decide +kernel) rfl)) dX12_spelled_108 ?_
          refine lv_lsub hx hb dX12_spelled_111 ?_
          refine lv_topl (fun y_62 ey_62 => ?_)
          replace hF := q_letX hF ey_62
          refine lv_goto (tgt := 117) hx hb dX12_spelled_112 (by decide) ?_
          exact q_retl E hr hlk hI ⟨rfl, (hF.trans hout)⟩ dX12_spelled_117
    · skip
      replace hF := q_ifp hF c_47
      refine lv_lload hx hb dX12_spelled_47 (lv_at hl 0 rfl) ?_
      refine lv_ldc2 (v := 32) hx hb E.2.2.1 (E.2.2.2.1 _ (q_in_t (i := 1639) (by decide +kernel) rfl)) dX12_spelled_49 ?_
      refine lv_lmul hx hb dX12_spelled_52 ?_
      refine lv_topl (fun y_63 ey_63 => ?_)
      replace hF := q_letX hF ey_63
      refine lv_iload_n hx hb dX12_spelled_53 rfl (lv_at hl 4 rfl) ?_
      refine lv_i2l hx hb dX12_spelled_54 rfl ?_
      refine lv_topl (fun y_64 ey_64 => ?_)
      replace hF := q_letX hF ey_64
      refine lv_ladd hx hb dX12_spelled_55 ?_
      refine lv_topl (fun y_65 ey_65 => ?_)
      replace hF := q_letX hF ey_65
      refine lv_ldc2 (v := 96) hx hb E.2.2.1 (E.2.2.2.1 _ (q_in_t (i := 1640) (by decide +kernel) rfl)) dX12_spelled_56 ?_
      refine lv_lsub hx hb dX12_spelled_59 ?_
      refine lv_topl (fun y_66 ey_66 => ?_)
      replace hF := q_letX hF ey_66
      refine lv_goto (tgt := 65) hx hb dX12_spelled_60 (by decide) ?_
      refine lv_lstore (lv' := [(6, .long y_66), (0, .int v0), (1, .int v1), (2, .int v2), (3, .int v3), (4, .int v4), (5, .int v5)]) hx hb dX12_spelled_65 hl (by decide) rfl (fun ls hl => ?_)
      refine lv_iload hx hb dX12_spelled_67 (lv_at hl 5 rfl) ?_
      refine q_if_le (A := v4.toInt) E rfl (tgt := 89) dX12_spelled_69 (by decide) (fun c_67 => ?_) (fun c_67 => ?_)
      · skip
        replace hF := q_ifn hF (Int.not_lt.mpr c_67)
        refine lv_lload hx hb dX12_spelled_89 (lv_at hl 0 rfl) ?_
        refine lv_lstore (lv' := [(6, .long y_66), (0, .int v0), (1, .int v1), (2, .int v2), (3, .int v3), (4, .int v4), (5, .int v5)]) hx hb dX12_spelled_91 hl (by decide) rfl (fun ls hl => ?_)
        refine lv_iload hx hb dX12_spelled_93 (lv_at hl 6 rfl) ?_
        refine q_if_le (A := v5.toInt) E rfl (tgt := 115) dX12_spelled_95 (by decide) (fun c_68 => ?_) (fun c_68 => ?_)
        · skip
          replace hF := q_ifn hF (Int.not_lt.mpr c_68)
          refine lv_lload hx hb dX12_spelled_115 (lv_at hl 0 rfl) ?_
          exact q_retl E hr hlk hI ⟨rfl, (hF.trans hout)⟩ dX12_spelled_117
        · skip
          replace hF := q_ifp hF c_68
          refine lv_lload hx hb dX12_spelled_98 (lv_at hl 0 rfl) ?_
          refine lv_ldc2 (v := 32) hx hb E.2.2.1 (E.2.2.2.1 _ (q_in_t (i := 1639) (by decide +kernel) rfl)) dX12_spelled_100 ?_
          refine lv_lmul hx hb dX12_spelled_103 ?_
          refine lv_topl (fun y_69 ey_69 => ?_)
          replace hF := q_letX hF ey_69
          refine lv_iload hx hb dX12_spelled_104 (lv_at hl 6 rfl) ?_
          refine lv_i2l hx hb dX12_spelled_106 rfl ?_
          refine lv_topl (fun y_70 ey_70 => ?_)
          replace hF := q_letX hF ey_70
          refine lv_ladd hx hb dX12_spelled_107 ?_
          refine lv_topl (fun y_71 ey_71 => ?_)
          replace hF := q_letX hF ey_71
          refine lv_ldc2 (v := 96) hx hb E.2.2.1 (E.2.2.2.1 _ (q_in_t (i := 1640) (by decide +kernel) rfl)) dX12_spelled_108 ?_
          refine lv_lsub hx hb dX12_spelled_111 ?_
          refine lv_topl (fun y_72 ey_72 => ?_)
          replace hF := q_letX hF ey_72
          refine lv_goto (tgt := 117) hx hb dX12_spelled_112 (by decide) ?_
          exact q_retl E hr hlk hI ⟨rfl, (hF.trans hout)⟩ dX12_spelled_117
      · skip
        replace hF := q_ifp hF c_67
        refine lv_lload hx hb dX12_spelled_72 (lv_at hl 0 rfl) ?_
        refine lv_ldc2 (v := 32) hx hb E.2.2.1 (E.2.2.2.1 _ (q_in_t (i := 1639) (by decide +kernel) rfl)) dX12_spelled_74 ?_
        refine lv_lmul hx hb dX12_spelled_77 ?_
        refine lv_topl (fun y_73 ey_73 => ?_)
        replace hF := q_letX hF ey_73
        refine lv_iload hx hb dX12_spelled_78 (lv_at hl 5 rfl) ?_
        refine lv_i2l hx hb dX12_spelled_80 rfl ?_
        refine lv_topl (fun y_74 ey_74 => ?_)
        replace hF := q_letX hF ey_74
        refine lv_ladd hx hb dX12_spelled_81 ?_
        refine lv_topl (fun y_75 ey_75 => ?_)
        replace hF := q_letX hF ey_75
        refine lv_ldc2 (v := 96) hx hb E.2.2.1 (E.2.2.2.1 _ (q_in_t (i := 1640) (by decide +kernel) rfl)) dX12_spelled_82 ?_
        refine lv_lsub hx hb dX12_spelled_85 ?_
        refine lv_topl (fun y_76 ey_76 => ?_)
        replace hF := q_letX hF ey_76
        refine lv_goto (tgt := 91) hx hb dX12_spelled_86 (by decide) ?_
        refine lv_lstore (lv' := [(6, .long y_76), (0, .int v0), (1, .int v1), (2, .int v2), (3, .int v3), (4, .int v4), (5, .int v5)]) hx hb dX12_spelled_91 hl (by decide) rfl (fun ls hl => ?_)
        refine lv_iload hx hb dX12_spelled_93 (lv_at hl 6 rfl) ?_
        refine q_if_le (A := v5.toInt) E rfl (tgt := 115) dX12_spelled_95 (by decide) (fun c_77 => ?_) (fun c_77 => ?_)
        · skip
          replace hF := q_ifn hF (Int.not_lt.mpr c_77)
          refine lv_lload hx hb dX12_spelled_115 (lv_at hl 0 rfl) ?_
          exact q_retl E hr hlk hI ⟨rfl, (hF.trans hout)⟩ dX12_spelled_117
        · skip
          replace hF := q_ifp hF c_77
          refine lv_lload hx hb dX12_spelled_98 (lv_at hl 0 rfl) ?_
          refine lv_ldc2 (v := 32) hx hb E.2.2.1 (E.2.2.2.1 _ (q_in_t (i := 1639) (by decide +kernel) rfl)) dX12_spelled_100 ?_
          refine lv_lmul hx hb dX12_spelled_103 ?_
          refine lv_topl (fun y_78 ey_78 => ?_)
          replace hF := q_letX hF ey_78
          refine lv_iload hx hb dX12_spelled_104 (lv_at hl 6 rfl) ?_
          refine lv_i2l hx hb dX12_spelled_106 rfl ?_
          refine lv_topl (fun y_79 ey_79 => ?_)
          replace hF := q_letX hF ey_79
          refine lv_ladd hx hb dX12_spelled_107 ?_
          refine lv_topl (fun y_80 ey_80 => ?_)
          replace hF := q_letX hF ey_80
          refine lv_ldc2 (v := 96) hx hb E.2.2.1 (E.2.2.2.1 _ (q_in_t (i := 1640) (by decide +kernel) rfl)) dX12_spelled_108 ?_
          refine lv_lsub hx hb dX12_spelled_111 ?_
          refine lv_topl (fun y_81 ey_81 => ?_)
          replace hF := q_letX hF ey_81
          refine lv_goto (tgt := 117) hx hb dX12_spelled_112 (by decide) ?_
          exact q_retl E hr hlk hI ⟨rfl, (hF.trans hout)⟩ dX12_spelled_117
