section
set_option maxRecDepth 100000 in
set_option maxHeartbeats 4000000 in
theorem c_X12_isWord (l : Launch) (X : XW) (σ : ST) (a : Nat) (v1 : Int64) (ha : q_kd X a = 12) : Met l yX12_isWord (q_ws yX12_isWord cX12_isWord 3 (some .boolean)) (q_rm 0 0) (q_P X σ [.ref a, .long v1]) (q_Qi X 9 σ (fun (r : Int32) (σ' : ST) => σ' = σ ∧ (0 ≤ r.toInt ∧ r.toInt ≤ 1) ∧ (r.toInt = 1 → (σ.1 a 14).toInt = 1) ∧ r = F_X12_isWord X σ a v1)) 0 0 (q_reg X) := by
  refine q_met 9 (by first | exact rfl | decide +kernel) rfl (Nat.le_of_ble_eq_true rfl) (fun p e s m below meth c E hml hr hlk hI ls hl => ?_)
  have hx := E.1
  have hb := E.2.1
  have hl : lv_has ls 3 [(0, .ref a), (1, .long v1)] := hl
  obtain ⟨out, hout⟩ : ∃ o, o = F_X12_isWord X σ a v1 := ⟨_, rfl⟩
  have hF := hout.symm
  unfold F_X12_isWord at hF
  refine lv_aload_n hx hb dX12_isWord_0 rfl (lv_at hl 0 rfl) ?_
  refine gs_X12_110_12 E hI ha dX12_isWord_1 ?_
  refine lv_topi (fun f_1 ef_1 => ?_)
  replace hF := q_letX hF ef_1
  have if_1 : f_1.toInt = (σ.1 a 14).toInt := congrArg Int32.toInt ef_1
  refine lv_iconst (v := 1) hx hb dX12_isWord_4 (by decide) ?_
  refine q_icmp_ne (A := f_1.toInt) (B := 1) E rfl (by decide) (tgt := 21) dX12_isWord_5 (by decide) (fun c_2 => ?_) (fun c_2 => ?_)
  · skip
    replace hF := q_ifn hF c_2
    refine lv_iconst (v := 0) hx hb dX12_isWord_21 (by decide) ?_
    have hrv : (0 : Int32).toInt = 0 := rfl
    exact q_retz E hr hlk hI ⟨by decide, by decide⟩ ⟨rfl, ⟨by decide, by decide⟩, (by omega), (hF.trans hout)⟩ dX12_isWord_22
  · skip
    replace hF := q_ifp hF c_2
    refine lv_aload_n hx hb dX12_isWord_8 rfl (lv_at hl 0 rfl) ?_
    refine gs_X12_116_12 E hI ha dX12_isWord_9 ?_
    refine lv_topl (fun g_3 eg_3 => ?_)
    replace hF := q_letX hF eg_3
    refine lv_lload_n hx hb dX12_isWord_12 rfl (lv_at hl 1 rfl) ?_
    refine q_lcmpX E dX12_isWord_13 (fun z_4 ez_4 hz_4 => ?_)
    replace hF := q_letX hF ez_4
    refine q_if_ne (A := z_4.toInt) E rfl (tgt := 21) dX12_isWord_14 (by decide) (fun c_5 => ?_) (fun c_5 => ?_)
    · skip
      replace hF := q_ifn hF c_5
      refine lv_iconst (v := 0) hx hb dX12_isWord_21 (by decide) ?_
      have hrv : (0 : Int32).toInt = 0 := rfl
      exact q_retz E hr hlk hI ⟨by decide, by decide⟩ ⟨rfl, ⟨by decide, by decide⟩, (by omega), (hF.trans hout)⟩ dX12_isWord_22
    · skip
      replace hF := q_ifp hF c_5
      refine lv_iconst (v := 1) hx hb dX12_isWord_17 (by decide) ?_
      refine lv_goto (tgt := 22) hx hb dX12_isWord_18 (by decide) ?_
      have hrv : (1 : Int32).toInt = 1 := rfl
      exact q_retz E hr hlk hI ⟨by decide, by decide⟩ ⟨rfl, ⟨by decide, by decide⟩, (by omega), (hF.trans hout)⟩ dX12_isWord_22

set_option maxRecDepth 100000 in
set_option maxHeartbeats 4000000 in
theorem c_X12_fail (l : Launch) (X : XW) (σ : ST) (a : Nat) (v1 : Int32) (v2 : Int32) (ha : q_kd X a = 12) (h0 : 0 ≤ (σ.1 a 12).toInt) (h1 : 1 ≤ v1.toInt) : Met l yX12_fail (q_ws yX12_fail cX12_fail 3 none) (q_rm 0 0) (q_P X σ [.ref a, .int v1, .int v2]) (q_Qv X 2 σ (fun (σ' : ST) => (q_KS (fun b g => b = a ∧ 12 ≤ g ∧ g ≤ 18) 9 X σ σ') ∧ ((σ'.1 a 9).toInt = (σ.1 a 9).toInt ∧ (σ'.1 a 14).toInt = (σ.1 a 14).toInt ∧ (σ'.1 a 15).toInt = (σ.1 a 15).toInt ∧ (σ'.1 a 16).toInt = (σ.1 a 16).toInt) ∧ ((σ.1 a 12).toInt ≤ (σ'.1 a 12).toInt ∧ 1 ≤ (σ'.1 a 12).toInt) ∧ σ' = F_X12_fail X σ a v1 v2 ∧ q_ow [(12, 12), (12, 13)] [] X σ σ')) 0 0 (q_reg X) := by
  refine q_met 2 (by first | exact rfl | decide +kernel) rfl (Nat.le_of_ble_eq_true rfl) (fun p e s m below meth c E hml hr hlk hI ls hl => ?_)
  have hx := E.1
  have hb := E.2.1
  have hl : lv_has ls 3 [(0, .ref a), (1, .int v1), (2, .int v2)] := hl
  have ks_σ : q_KS (fun b g => b = a ∧ 12 ≤ g ∧ g ≤ 18) 9 X σ σ := q_KS.rf
  have fr_σ : q_ow [(12, 12), (12, 13)] [] X σ σ := q_ow.rf
  obtain ⟨out, hout⟩ : ∃ o, o = F_X12_fail X σ a v1 v2 := ⟨_, rfl⟩
  have hF := hout.symm
  unfold F_X12_fail at hF
  refine lv_aload_n hx hb dX12_fail_0 rfl (lv_at hl 0 rfl) ?_
  refine gs_X12_187_12 E hI ha dX12_fail_1 ?_
  refine lv_topi (fun f_1 ef_1 => ?_)
  replace hF := q_letX hF ef_1
  have if_1 : f_1.toInt = (σ.1 a 12).toInt := congrArg Int32.toInt ef_1
  refine q_if_le (A := f_1.toInt) E rfl (tgt := 8) dX12_fail_4 (by decide) (fun c_2 => ?_) (fun c_2 => ?_)
  · skip
    replace hF := q_ifn hF (Int.not_lt.mpr c_2)
    refine lv_aload_n hx hb dX12_fail_8 rfl (lv_at hl 0 rfl) ?_
    refine lv_iload_n hx hb dX12_fail_9 rfl (lv_at hl 1 rfl) ?_
    refine ps_X12_187_12 E hI ha (by decide) dX12_fail_10 (fun H locs σ_3 hσ_3 hI => ?_)
    replace hF := q_letX hF hσ_3
    have fr_σ_3 := fr_σ.si hσ_3 ha rfl
    have ks_σ_3 : q_KS (fun b g => b = a ∧ 12 ≤ g ∧ g ≤ 18) 9 X σ σ_3 := ks_σ.siS hσ_3 ⟨rfl, by decide, by decide⟩
    have mv9_σ_3 : (σ_3.1 a 9).toInt = (σ.1 a 9).toInt := congrArg Int32.toInt (q_rdn hσ_3 (Or.inr (by decide)))
    have mv12_σ_3 : (σ_3.1 a 12).toInt = v1.toInt := congrArg Int32.toInt (q_rd hσ_3)
    have mv14_σ_3 : (σ_3.1 a 14).toInt = (σ.1 a 14).toInt := congrArg Int32.toInt (q_rdn hσ_3 (Or.inr (by decide)))
    have mv15_σ_3 : (σ_3.1 a 15).toInt = (σ.1 a 15).toInt := congrArg Int32.toInt (q_rdn hσ_3 (Or.inr (by decide)))
    have mv16_σ_3 : (σ_3.1 a 16).toInt = (σ.1 a 16).toInt := congrArg Int32.toInt (q_rdn hσ_3 (Or.inr (by decide)))
    have mv17_σ_3 : (σ_3.1 a 17).toInt = (σ.1 a 17).toInt := congrArg Int32.toInt (q_rdn hσ_3 (Or.inr (by decide)))
    refine lv_aload_n hx hb dX12_fail_13 rfl (lv_at hl 0 rfl) ?_
    refine lv_iload_n hx hb dX12_fail_14 rfl (lv_at hl 2 rfl) ?_
    refine ps_X12_190_12 E hI ha (by decide) dX12_fail_15 (fun H locs σ_4 hσ_4 hI => ?_)
    replace hF := q_letX hF hσ_4
    have fr_σ_4 := fr_σ_3.si hσ_4 ha rfl
    have ks_σ_4 : q_KS (fun b g => b = a ∧ 12 ≤ g ∧ g ≤ 18) 9 X σ σ_4 := ks_σ_3.siS hσ_4 ⟨rfl, by decide, by decide⟩
    have mv9_σ_4 : (σ_4.1 a 9).toInt = (σ.1 a 9).toInt := (congrArg Int32.toInt (q_rdn hσ_4 (Or.inr (by decide)))).trans mv9_σ_3
    have mv12_σ_4 : (σ_4.1 a 12).toInt = v1.toInt := (congrArg Int32.toInt (q_rdn hσ_4 (Or.inr (by decide)))).trans mv12_σ_3
    have mv14_σ_4 : (σ_4.1 a 14).toInt = (σ.1 a 14).toInt := (congrArg Int32.toInt (q_rdn hσ_4 (Or.inr (by decide)))).trans mv14_σ_3
    have mv15_σ_4 : (σ_4.1 a 15).toInt = (σ.1 a 15).toInt := (congrArg Int32.toInt (q_rdn hσ_4 (Or.inr (by decide)))).trans mv15_σ_3
    have mv16_σ_4 : (σ_4.1 a 16).toInt = (σ.1 a 16).toInt := (congrArg Int32.toInt (q_rdn hσ_4 (Or.inr (by decide)))).trans mv16_σ_3
    have mv17_σ_4 : (σ_4.1 a 17).toInt = (σ.1 a 17).toInt := (congrArg Int32.toInt (q_rdn hσ_4 (Or.inr (by decide)))).trans mv17_σ_3
    exact q_retv E hr hlk hI ⟨ks_σ_4, (by first | (clear mv9_σ_3 mv12_σ_3 mv14_σ_3 mv15_σ_3 mv16_σ_3 mv17_σ_3; omega) | omega), (by first | (clear mv9_σ_3 mv12_σ_3 mv14_σ_3 mv15_σ_3 mv16_σ_3 mv17_σ_3; omega) | omega), (hF.trans hout), fr_σ_4⟩ dX12_fail_18
  · skip
    replace hF := q_ifp hF c_2
    exact q_retv E hr hlk hI ⟨ks_σ, (by omega), (by omega), (hF.trans hout), fr_σ⟩ dX12_fail_7
end
