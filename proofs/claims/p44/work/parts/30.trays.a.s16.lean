section
set_option maxRecDepth 100000 in
set_option maxHeartbeats 4000000 in
theorem c_X12_wrong (l : Launch) (X : XW) (σ : ST) (a : Nat) (ha : q_kd X a = 12) (h0 : 0 ≤ (σ.1 a 12).toInt) : Met l yX12_wrong (q_ws yX12_wrong cX12_wrong 1 none) (q_rm 1 22) (q_P X σ [.ref a]) (q_Qv X 2 σ (fun (σ' : ST) => (q_KS (fun b g => b = a ∧ 12 ≤ g ∧ g ≤ 18) 9 X σ σ') ∧ ((σ'.1 a 9).toInt = (σ.1 a 9).toInt ∧ (σ'.1 a 14).toInt = (σ.1 a 14).toInt ∧ (σ'.1 a 15).toInt = (σ.1 a 15).toInt ∧ (σ'.1 a 16).toInt = (σ.1 a 16).toInt) ∧ ((σ.1 a 12).toInt ≤ (σ'.1 a 12).toInt ∧ 1 ≤ (σ'.1 a 12).toInt) ∧ σ' = F_X12_wrong X σ a ∧ q_ow [(12, 12), (12, 13)] [] X σ σ')) 0 0 (q_reg X) := by
  refine q_met 2 (by first | exact rfl | decide +kernel) rfl (Nat.le_of_ble_eq_true rfl) (fun p e s m below meth c E hml hr hlk hI ls hl => ?_)
  have hx := E.1
  have hb := E.2.1
  have hl : lv_has ls 1 [(0, .ref a)] := hl
  have ks_σ : q_KS (fun b g => b = a ∧ 12 ≤ g ∧ g ≤ 18) 9 X σ σ := q_KS.rf
  have fr_σ : q_ow [(12, 12), (12, 13)] [] X σ σ := q_ow.rf
  obtain ⟨out, hout⟩ : ∃ o, o = F_X12_wrong X σ a := ⟨_, rfl⟩
  have hF := hout.symm
  unfold F_X12_wrong at hF
  refine lv_aload_n hx hb dX12_wrong_0 rfl (lv_at hl 0 rfl) ?_
  refine lv_aload_n hx hb dX12_wrong_1 rfl (lv_at hl 0 rfl) ?_
  refine gs_X12_110_12 E hI ha dX12_wrong_2 ?_
  refine lv_topi (fun f_1 ef_1 => ?_)
  replace hF := q_letX hF ef_1
  have if_1 : f_1.toInt = (σ.1 a 14).toInt := congrArg Int32.toInt ef_1
  refine lv_iconst (v := 4) hx hb dX12_wrong_5 (by decide) ?_
  refine q_icmp_ne (A := f_1.toInt) (B := 4) E rfl (by decide) (tgt := 13) dX12_wrong_6 (by decide) (fun c_2 => ?_) (fun c_2 => ?_)
  · skip
    replace hF := q_ifn hF c_2
    refine lv_iconst (v := 2) hx hb dX12_wrong_13 (by decide) ?_
    refine lv_aload_n hx hb dX12_wrong_14 rfl (lv_at hl 0 rfl) ?_
    refine gs_X12_104_12 E hI ha dX12_wrong_15 ?_
    refine lv_topi (fun f_3 ef_3 => ?_)
    replace hF := q_letX hF ef_3
    have if_3 : f_3.toInt = (σ.1 a 15).toInt := congrArg Int32.toInt ef_3
    have kc_4 : (2 : Int32).toInt = 2 := rfl
    refine q_cv (q_runV (As := [.int 2, .int f_3]) (rest := []) E (hml.trans hl.1.symm) hI (c_X12_fail l X σ a (2 : Int32) f_3 ha (by omega) (by omega)) kv_X12_193 ha ⟨rfl, by decide⟩ (show vwCl[11]? = some (RX12, TX12, 46) from rfl) rfl ⟨Nat.le_of_ble_eq_true rfl, Nat.le_of_ble_eq_true rfl⟩ ⟨Nat.le_refl _, Nat.le_refl _⟩ rfl (Nat.le_of_ble_eq_true rfl) dX12_wrong_18) hI (by decide) (fun σ_6 H locs hpσ_6 hkσ_6 hI => ?_)
    obtain ⟨ahpσ_6, bhpσ_6, chpσ_6, dhpσ_6, ehpσ_6⟩ := hpσ_6
    have fr_σ_6 := fr_σ.call ehpσ_6 rfl rfl
    replace hF := q_letX hF dhpσ_6
    have ks_σ_6 : q_KS (fun b g => b = a ∧ 12 ≤ g ∧ g ≤ 18) 9 X σ σ_6 := ks_σ.KS ahpσ_6 (by decide) (fun _ _ h => h)
    exact q_retv E hr hlk hI ⟨ks_σ_6, (by omega), (by omega), (hF.trans hout), fr_σ_6⟩ dX12_wrong_21
  · skip
    replace hF := q_ifp hF c_2
    refine lv_iconst (v := 1) hx hb dX12_wrong_9 (by decide) ?_
    refine lv_goto (tgt := 14) hx hb dX12_wrong_10 (by decide) ?_
    refine lv_aload_n hx hb dX12_wrong_14 rfl (lv_at hl 0 rfl) ?_
    refine gs_X12_104_12 E hI ha dX12_wrong_15 ?_
    refine lv_topi (fun f_7 ef_7 => ?_)
    replace hF := q_letX hF ef_7
    have if_7 : f_7.toInt = (σ.1 a 15).toInt := congrArg Int32.toInt ef_7
    have kc_8 : (1 : Int32).toInt = 1 := rfl
    refine q_cv (q_runV (As := [.int 1, .int f_7]) (rest := []) E (hml.trans hl.1.symm) hI (c_X12_fail l X σ a (1 : Int32) f_7 ha (by omega) (by omega)) kv_X12_193 ha ⟨rfl, by decide⟩ (show vwCl[11]? = some (RX12, TX12, 46) from rfl) rfl ⟨Nat.le_of_ble_eq_true rfl, Nat.le_of_ble_eq_true rfl⟩ ⟨Nat.le_refl _, Nat.le_refl _⟩ rfl (Nat.le_of_ble_eq_true rfl) dX12_wrong_18) hI (by decide) (fun σ_10 H locs hpσ_10 hkσ_10 hI => ?_)
    obtain ⟨ahpσ_10, bhpσ_10, chpσ_10, dhpσ_10, ehpσ_10⟩ := hpσ_10
    have fr_σ_10 := fr_σ.call ehpσ_10 rfl rfl
    replace hF := q_letX hF dhpσ_10
    have ks_σ_10 : q_KS (fun b g => b = a ∧ 12 ≤ g ∧ g ≤ 18) 9 X σ σ_10 := ks_σ.KS ahpσ_10 (by decide) (fun _ _ h => h)
    exact q_retv E hr hlk hI ⟨ks_σ_10, (by omega), (by omega), (hF.trans hout), fr_σ_10⟩ dX12_wrong_21
end
