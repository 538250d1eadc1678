section
set_option maxRecDepth 100000 in
set_option maxHeartbeats 4000000 in
theorem c_X12_status (l : Launch) (X : XW) (σ : ST) (a : Nat) (ha : q_kd X a = 12) : Met l yX12_status (q_ws yX12_status cX12_status 1 (some .int)) (q_rm 0 0) (q_P X σ [.ref a]) (q_Qi X 8 σ (fun (r : Int32) (σ' : ST) => (r, σ') = F_X12_status X σ a ∧ q_ow [(12, 1)] [] X σ σ')) 0 0 (q_reg X) := by
  refine q_met 8 (by first | exact rfl | decide +kernel) rfl (Nat.le_of_ble_eq_true rfl) (fun p e s m below meth c E hml hr hlk hI ls hl => ?_)
  have hx := E.1
  have hb := E.2.1
  have hl : lv_has ls 1 [(0, .ref a)] := hl
  have fr_σ : q_ow [(12, 1)] [] X σ σ := q_ow.rf
  obtain ⟨out, hout⟩ : ∃ o, o = F_X12_status X σ a := ⟨_, rfl⟩
  have hF := hout.symm
  unfold F_X12_status at hF
  refine lv_aload_n hx hb dX12_status_0 rfl (lv_at hl 0 rfl) ?_
  refine lv_iconst (v := 0) hx hb dX12_status_1 (by decide) ?_
  refine ps_X12_59_12 E hI ha (by decide) dX12_status_2 (fun H locs σ_1 hσ_1 hI => ?_)
  replace hF := q_letX hF hσ_1
  have fr_σ_1 := fr_σ.si hσ_1 ha rfl
  refine lv_aload_n hx hb dX12_status_5 rfl (lv_at hl 0 rfl) ?_
  refine gs_X12_62_12 E hI ha dX12_status_6 ?_
  refine lv_topi (fun f_2 ef_2 => ?_)
  replace hF := q_letX hF ef_2
  exact q_reti E hr hlk hI ⟨(hF.trans hout), fr_σ_1⟩ dX12_status_9

set_option maxRecDepth 100000 in
set_option maxHeartbeats 4000000 in
theorem c_X12_top (l : Launch) (X : XW) (σ : ST) (a : Nat) (ha : q_kd X a = 12) : Met l yX12_top (q_ws yX12_top cX12_top 1 (some .long)) (q_rm 0 0) (q_P X σ [.ref a]) (q_Ql X 8 σ (fun (r : Int64) (σ' : ST) => (r, σ') = F_X12_top X σ a ∧ q_ow [(12, 1)] [] X σ σ')) 0 0 (q_reg X) := by
  refine q_met 8 (by first | exact rfl | decide +kernel) rfl (Nat.le_of_ble_eq_true rfl) (fun p e s m below meth c E hml hr hlk hI ls hl => ?_)
  have hx := E.1
  have hb := E.2.1
  have hl : lv_has ls 1 [(0, .ref a)] := hl
  have fr_σ : q_ow [(12, 1)] [] X σ σ := q_ow.rf
  obtain ⟨out, hout⟩ : ∃ o, o = F_X12_top X σ a := ⟨_, rfl⟩
  have hF := hout.symm
  unfold F_X12_top at hF
  refine lv_aload_n hx hb dX12_top_0 rfl (lv_at hl 0 rfl) ?_
  refine lv_iconst (v := 0) hx hb dX12_top_1 (by decide) ?_
  refine ps_X12_59_12 E hI ha (by decide) dX12_top_2 (fun H locs σ_1 hσ_1 hI => ?_)
  replace hF := q_letX hF hσ_1
  have fr_σ_1 := fr_σ.si hσ_1 ha rfl
  refine lv_aload_n hx hb dX12_top_5 rfl (lv_at hl 0 rfl) ?_
  refine gs_X12_65_12 E hI ha dX12_top_6 ?_
  refine lv_topl (fun g_2 eg_2 => ?_)
  replace hF := q_letX hF eg_2
  exact q_retl E hr hlk hI ⟨(hF.trans hout), fr_σ_1⟩ dX12_top_9

set_option maxRecDepth 100000 in
set_option maxHeartbeats 4000000 in
theorem c_X12_bottom (l : Launch) (X : XW) (σ : ST) (a : Nat) (ha : q_kd X a = 12) : Met l yX12_bottom (q_ws yX12_bottom cX12_bottom 1 (some .long)) (q_rm 0 0) (q_P X σ [.ref a]) (q_Ql X 8 σ (fun (r : Int64) (σ' : ST) => (r, σ') = F_X12_bottom X σ a ∧ q_ow [(12, 1)] [] X σ σ')) 0 0 (q_reg X) := by
  refine q_met 8 (by first | exact rfl | decide +kernel) rfl (Nat.le_of_ble_eq_true rfl) (fun p e s m below meth c E hml hr hlk hI ls hl => ?_)
  have hx := E.1
  have hb := E.2.1
  have hl : lv_has ls 1 [(0, .ref a)] := hl
  have fr_σ : q_ow [(12, 1)] [] X σ σ := q_ow.rf
  obtain ⟨out, hout⟩ : ∃ o, o = F_X12_bottom X σ a := ⟨_, rfl⟩
  have hF := hout.symm
  unfold F_X12_bottom at hF
  refine lv_aload_n hx hb dX12_bottom_0 rfl (lv_at hl 0 rfl) ?_
  refine lv_iconst (v := 0) hx hb dX12_bottom_1 (by decide) ?_
  refine ps_X12_59_12 E hI ha (by decide) dX12_bottom_2 (fun H locs σ_1 hσ_1 hI => ?_)
  replace hF := q_letX hF hσ_1
  have fr_σ_1 := fr_σ.si hσ_1 ha rfl
  refine lv_aload_n hx hb dX12_bottom_5 rfl (lv_at hl 0 rfl) ?_
  refine gs_X12_7_12 E hI ha dX12_bottom_6 ?_
  refine lv_topl (fun g_2 eg_2 => ?_)
  replace hF := q_letX hF eg_2
  exact q_retl E hr hlk hI ⟨(hF.trans hout), fr_σ_1⟩ dX12_bottom_9

set_option maxRecDepth 100000 in
set_option maxHeartbeats 4000000 in
theorem c_X12_no (l : Launch) (X : XW) (σ : ST) (a : Nat) (v1 : Int32) (ha : q_kd X a = 12) : Met l yX12_no (q_ws yX12_no cX12_no 2 (some .boolean)) (q_rm 0 0) (q_P X σ [.ref a, .int v1]) (q_Qi X 8 σ (fun (r : Int32) (σ' : ST) => (0 ≤ r.toInt ∧ r.toInt ≤ 1) ∧ (r.toInt = 0) ∧ (r, σ') = F_X12_no X σ a v1 ∧ q_ow [(12, 0)] [] X σ σ')) 0 0 (q_reg X) := by
  refine q_met 8 (by first | exact rfl | decide +kernel) rfl (Nat.le_of_ble_eq_true rfl) (fun p e s m below meth c E hml hr hlk hI ls hl => ?_)
  have hx := E.1
  have hb := E.2.1
  have hl : lv_has ls 2 [(0, .ref a), (1, .int v1)] := hl
  have fr_σ : q_ow [(12, 0)] [] X σ σ := q_ow.rf
  obtain ⟨out, hout⟩ : ∃ o, o = F_X12_no X σ a v1 := ⟨_, rfl⟩
  have hF := hout.symm
  unfold F_X12_no at hF
  refine lv_aload_n hx hb dX12_no_0 rfl (lv_at hl 0 rfl) ?_
  refine lv_iload_n hx hb dX12_no_1 rfl (lv_at hl 1 rfl) ?_
  refine ps_X12_62_12 E hI ha (by decide) dX12_no_2 (fun H locs σ_1 hσ_1 hI => ?_)
  replace hF := q_letX hF hσ_1
  have fr_σ_1 := fr_σ.si hσ_1 ha rfl
  refine lv_iconst (v := 0) hx hb dX12_no_5 (by decide) ?_
  have hrv : (0 : Int32).toInt = 0 := rfl
  exact q_retz E hr hlk hI ⟨by decide, by decide⟩ ⟨⟨by decide, by decide⟩, (by decide), (hF.trans hout), fr_σ_1⟩ dX12_no_6
end
