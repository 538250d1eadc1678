section
set_option maxRecDepth 100000 in
set_option maxHeartbeats 4000000 in
theorem c_X12_fault (l : Launch) (X : XW) (σ : ST) (a : Nat) (v1 : Int32) (ha : q_kd X a = 12) : Met l yX12_fault (q_ws yX12_fault cX12_fault 2 (some .int)) (q_rm 0 0) (q_P X σ [.ref a, .int v1]) (q_Qi X 8 σ (fun (r : Int32) (σ' : ST) => (r, σ') = F_X12_fault X σ a v1 ∧ q_ow [(12, 1)] [] X σ σ')) 0 0 (q_reg X) := by
  refine q_met 8 (by first | exact rfl | decide +kernel) rfl (Nat.le_of_ble_eq_true rfl) (fun p e s m below meth c E hml hr hlk hI ls hl => ?_)
  have hx := E.1
  have hb := E.2.1
  have hl : lv_has ls 2 [(0, .ref a), (1, .int v1)] := hl
  have fr_σ : q_ow [(12, 1)] [] X σ σ := q_ow.rf
  obtain ⟨out, hout⟩ : ∃ o, o = F_X12_fault X σ a v1 := ⟨_, rfl⟩
  have hF := hout.symm
  unfold F_X12_fault at hF
  refine lv_aload_n hx hb dX12_fault_0 rfl (lv_at hl 0 rfl) ?_
  refine lv_iconst (v := 0) hx hb dX12_fault_1 (by decide) ?_
  refine ps_X12_59_12 E hI ha (by decide) dX12_fault_2 (fun H locs σ_1 hσ_1 hI => ?_)
  replace hF := q_letX hF hσ_1
  have fr_σ_1 := fr_σ.si hσ_1 ha rfl
  refine lv_iload_n hx hb dX12_fault_5 rfl (lv_at hl 1 rfl) ?_
  refine q_if_ne (A := v1.toInt) E rfl (tgt := 16) dX12_fault_6 (by decide) (fun c_2 => ?_) (fun c_2 => ?_)
  · skip
    replace hF := q_ifn hF c_2
    refine lv_iload_n hx hb dX12_fault_16 rfl (lv_at hl 1 rfl) ?_
    refine lv_iconst (v := 1) hx hb dX12_fault_17 (by decide) ?_
    refine q_icmp_ne (A := v1.toInt) (B := 1) E rfl (by decide) (tgt := 28) dX12_fault_18 (by decide) (fun c_3 => ?_) (fun c_3 => ?_)
    · skip
      replace hF := q_ifn hF c_3
      refine lv_iconst (v := (-1)) hx hb dX12_fault_28 (by decide) ?_
      exact q_reti E hr hlk hI ⟨(hF.trans hout), fr_σ_1⟩ dX12_fault_29
    · skip
      replace hF := q_ifp hF c_3
      refine lv_aload_n hx hb dX12_fault_21 rfl (lv_at hl 0 rfl) ?_
      refine gs_X12_32_12 E hI ha dX12_fault_22 ?_
      refine lv_topi (fun f_4 ef_4 => ?_)
      replace hF := q_letX hF ef_4
      refine lv_goto (tgt := 29) hx hb dX12_fault_25 (by decide) ?_
      exact q_reti E hr hlk hI ⟨(hF.trans hout), fr_σ_1⟩ dX12_fault_29
  · skip
    replace hF := q_ifp hF c_2
    refine lv_aload_n hx hb dX12_fault_9 rfl (lv_at hl 0 rfl) ?_
    refine gs_X12_28_12 E hI ha dX12_fault_10 ?_
    refine lv_topi (fun f_5 ef_5 => ?_)
    replace hF := q_letX hF ef_5
    refine lv_goto (tgt := 29) hx hb dX12_fault_13 (by decide) ?_
    exact q_reti E hr hlk hI ⟨(hF.trans hout), fr_σ_1⟩ dX12_fault_29
end
