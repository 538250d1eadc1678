section
set_option maxRecDepth 100000 in
set_option maxHeartbeats 4000000 in
theorem c_X12_must (l : Launch) (X : XW) (σ : ST) (a : Nat) (v1 : Int32) (ha : q_kd X a = 12) (hs : 0 ≤ (σ.1 a 15).toInt ∧ (σ.1 a 15).toInt ≤ (σ.1 a 16).toInt ∧ (σ.1 a 16).toInt ≤ (σ.1 a 9).toInt ∧ (σ.1 a 9).toInt ≤ 900 ∧ 0 ≤ (σ.1 a 14).toInt ∧ (σ.1 a 14).toInt ≤ 4 ∧ (σ.1 a 14).toInt ≤ 4 * ((σ.1 a 16).toInt - (σ.1 a 15).toInt) ∧ (σ.1 a 14).toInt ≤ 4 * ((σ.1 a 9).toInt - (σ.1 a 15).toInt) ∧ 0 ≤ (σ.1 a 12).toInt) (hv : 0 ≤ v1.toInt) : Met l yX12_must (q_ws yX12_must cX12_must 2 none) (q_rm 2 42) (q_P X σ [.ref a, .int v1]) (q_Qv X 2 σ (fun (σ' : ST) => (q_KS (fun b g => b = a ∧ 12 ≤ g ∧ g ≤ 18) 9 X σ σ') ∧ (0 ≤ (σ'.1 a 15).toInt ∧ (σ'.1 a 15).toInt ≤ (σ'.1 a 16).toInt ∧ (σ'.1 a 16).toInt ≤ (σ'.1 a 9).toInt ∧ (σ'.1 a 9).toInt ≤ 900 ∧ 0 ≤ (σ'.1 a 14).toInt ∧ (σ'.1 a 14).toInt ≤ 4 ∧ (σ'.1 a 14).toInt ≤ 4 * ((σ'.1 a 16).toInt - (σ'.1 a 15).toInt) ∧ (σ'.1 a 14).toInt ≤ 4 * ((σ'.1 a 9).toInt - (σ'.1 a 15).toInt) ∧ 0 ≤ (σ'.1 a 12).toInt ∧ (σ'.1 a 9).toInt = (σ.1 a 9).toInt ∧ (σ.1 a 15).toInt ≤ (σ'.1 a 15).toInt ∧ (σ.1 a 12).toInt ≤ (σ'.1 a 12).toInt) ∧ ((σ.1 a 16).toInt ≤ (σ'.1 a 15).toInt + 1000 * (σ'.1 a 12).toInt ∧ 1 ≤ v1.toInt + (σ'.1 a 12).toInt) ∧ σ' = F_X12_must X σ a v1 ∧ q_ow [(12, 12), (12, 13), (12, 14), (12, 15), (12, 16), (12, 17), (12, 18)] [(12, 19)] X σ σ')) 0 0 (q_reg X) := by
  refine q_met 2 (by first | exact rfl | decide +kernel) rfl (Nat.le_of_ble_eq_true rfl) (fun p e s m below meth c E hml hr hlk hI ls hl => ?_)
  have hx := E.1
  have hb := E.2.1
  have hl : lv_has ls 2 [(0, .ref a), (1, .int v1)] := hl
  have ks_σ : q_KS (fun b g => b = a ∧ 12 ≤ g ∧ g ≤ 18) 9 X σ σ := q_KS.rf
  have fr_σ : q_ow [(12, 12), (12, 13), (12, 14), (12, 15), (12, 16), (12, 17), (12, 18)] [(12, 19)] X σ σ := q_ow.rf
  obtain ⟨out, hout⟩ : ∃ o, o = F_X12_must X σ a v1 := ⟨_, rfl⟩
  have hF := hout.symm
  unfold F_X12_must at hF
  refine lv_aload_n hx hb dX12_must_0 rfl (lv_at hl 0 rfl) ?_
  refine gs_X12_187_12 E hI ha dX12_must_1 ?_
  refine lv_topi (fun f_1 ef_1 => ?_)
  replace hF := q_letX hF ef_1
  have if_1 : f_1.toInt = (σ.1 a 12).toInt := congrArg Int32.toInt ef_1
  refine q_if_le (A := f_1.toInt) E rfl (tgt := 8) dX12_must_4 (by decide) (fun c_2 => ?_) (fun c_2 => ?_)
  · skip
    replace hF := q_ifn hF (Int.not_lt.mpr c_2)
    refine lv_iload_n hx hb dX12_must_8 rfl (lv_at hl 1 rfl) ?_
    refine q_if_eq (A := v1.toInt) E rfl (tgt := 19) dX12_must_9 (by decide) (fun c_3 => ?_) (fun c_3 => ?_)
    · skip
      replace hF := q_ifp hF c_3
      refine lv_aload_n hx hb dX12_must_19 rfl (lv_at hl 0 rfl) ?_
      refine q_cv (q_runV (As := []) (rest := []) E (hml.trans hl.1.symm) hI (c_X12_wrong l X σ a ha (by omega)) kv_X12_200 ha ⟨rfl, by decide⟩ (show vwCl[11]? = some (RX12, TX12, 46) from rfl) rfl ⟨Nat.le_of_ble_eq_true rfl, Nat.le_of_ble_eq_true rfl⟩ ⟨Nat.le_refl _, Nat.le_refl _⟩ rfl (Nat.le_of_ble_eq_true rfl) dX12_must_20) hI (by decide) (fun σ_5 H locs hpσ_5 hkσ_5 hI => ?_)
      obtain ⟨ahpσ_5, bhpσ_5, chpσ_5, dhpσ_5, ehpσ_5⟩ := hpσ_5
      have fr_σ_5 := fr_σ.call ehpσ_5 rfl rfl
      replace hF := q_letX hF dhpσ_5
      have ks_σ_5 : q_KS (fun b g => b = a ∧ 12 ≤ g ∧ g ≤ 18) 9 X σ σ_5 := ks_σ.KS ahpσ_5 (by decide) (fun _ _ h => h)
      exact q_retv E hr hlk hI ⟨ks_σ_5, (by omega), (by omega), (hF.trans hout), fr_σ_5⟩ dX12_must_23
    · skip
      replace hF := q_ifn hF c_3
      refine lv_aload_n hx hb dX12_must_12 rfl (lv_at hl 0 rfl) ?_
      refine q_cv (q_runV (As := []) (rest := []) E (hml.trans hl.1.symm) hI (c_X12_next l X σ a ha (by omega) (by omega) (by omega)) kv_X12_197 ha ⟨rfl, by decide⟩ (show vwCl[11]? = some (RX12, TX12, 46) from rfl) rfl ⟨Nat.le_of_ble_eq_true rfl, Nat.le_of_ble_eq_true rfl⟩ ⟨Nat.le_refl _, Nat.le_refl _⟩ rfl (Nat.le_of_ble_eq_true rfl) dX12_must_13) hI (by decide) (fun σ_7 H locs hpσ_7 hkσ_7 hI => ?_)
      obtain ⟨ahpσ_7, bhpσ_7, chpσ_7, dhpσ_7, ehpσ_7⟩ := hpσ_7
      have fr_σ_7 := fr_σ.call ehpσ_7 rfl rfl
      replace hF := q_letX hF dhpσ_7
      have ks_σ_7 : q_KS (fun b g => b = a ∧ 12 ≤ g ∧ g ≤ 18) 9 X σ σ_7 := ks_σ.KS ahpσ_7 (by decide) (fun _ _ h => h)
      refine lv_goto (tgt := 23) hx hb dX12_must_16 (by decide) ?_
      exact q_retv E hr hlk hI ⟨ks_σ_7, (by omega), (by omega), (hF.trans hout), fr_σ_7⟩ dX12_must_23
  · skip
    replace hF := q_ifp hF c_2
    exact q_retv E hr hlk hI ⟨ks_σ, (by omega), (by omega), (hF.trans hout), fr_σ⟩ dX12_must_7
end
