section
set_option maxRecDepth 100000 in
set_option maxHeartbeats 4000000 in
theorem c_X12_draw (l : Launch) (X : XW) (σ : ST) (a : Nat) (ha : q_kd X a = 12) : Met l yX12_draw (q_ws yX12_draw cX12_draw 1 (some .int)) (q_rm 0 0) (q_P X σ [.ref a]) (q_Qi X 8 σ (fun (r : Int32) (σ' : ST) => (q_KS (fun b g => b = a ∧ g = 39) 9 X σ σ') ∧ (r, σ') = F_X12_draw X σ a ∧ q_ow [(12, 39)] [] X σ σ')) 0 0 (q_reg X) := by
  refine q_met 8 (by first | exact rfl | decide +kernel) rfl (Nat.le_of_ble_eq_true rfl) (fun p e s m below meth c E hml hr hlk hI ls hl => ?_)
  have hx := E.1
  have hb := E.2.1
  have hl : lv_has ls 1 [(0, .ref a)] := hl
  have ks_σ : q_KS (fun b g => b = a ∧ g = 39) 9 X σ σ := q_KS.rf
  have fr_σ : q_ow [(12, 39)] [] X σ σ := q_ow.rf
  obtain ⟨out, hout⟩ : ∃ o, o = F_X12_draw X σ a := ⟨_, rfl⟩
  have hF := hout.symm
  unfold F_X12_draw at hF
  refine lv_aload_n hx hb dX12_draw_0 rfl (lv_at hl 0 rfl) ?_
  refine lv_aload_n hx hb dX12_draw_1 rfl (lv_at hl 0 rfl) ?_
  refine gs_X12_395_12 E hI ha dX12_draw_2 ?_
  refine lv_topi (fun f_1 ef_1 => ?_)
  replace hF := q_letX hF ef_1
  refine lv_sipush (v := 2861) hx hb dX12_draw_5 zks_2861 ?_
  refine lv_imul hx hb dX12_draw_8 ?_
  refine lv_topi (fun z_2 ez_2 => ?_)
  replace hF := q_letX hF ez_2
  refine lv_sipush (v := 10259) hx hb dX12_draw_9 zks_10259 ?_
  refine lv_iadd hx hb dX12_draw_12 ?_
  refine lv_topi (fun z_3 ez_3 => ?_)
  replace hF := q_letX hF ez_3
  refine lv_ldcw (v := 65536) hx hb E.2.2.1 (E.2.2.2.1 _ (q_in_t9 (i := 174) (by first | rfl | decide +kernel) rfl)) dX12_draw_13 ?_
  refine lv_irem hx hb dX12_draw_16 (by decide) ?_
  refine lv_topi (fun z_4 ez_4 => ?_)
  replace hF := q_letX hF (ez_4.trans (q_remI _ _))
  refine ps_X12_395_12 E hI ha (by decide) dX12_draw_17 (fun H locs σ_5 hσ_5 hI => ?_)
  replace hF := q_letX hF hσ_5
  have fr_σ_5 := fr_σ.si hσ_5 ha rfl
  have ks_σ_5 : q_KS (fun b g => b = a ∧ g = 39) 9 X σ σ_5 := ks_σ.siS hσ_5 ⟨rfl, rfl⟩
  refine lv_aload_n hx hb dX12_draw_20 rfl (lv_at hl 0 rfl) ?_
  refine gs_X12_395_12 E hI ha dX12_draw_21 ?_
  refine lv_topi (fun f_6 ef_6 => ?_)
  replace hF := q_letX hF ef_6
  refine lv_bipush (v := 8) hx hb dX12_draw_24 zkb_8 ?_
  refine lv_idiv hx hb dX12_draw_26 (by decide) ?_
  refine lv_topi (fun z_7 ez_7 => ?_)
  replace hF := q_letX hF ez_7
  refine lv_bipush (v := 16) hx hb dX12_draw_27 zkb_16 ?_
  refine lv_irem hx hb dX12_draw_29 (by decide) ?_
  refine lv_topi (fun z_8 ez_8 => ?_)
  replace hF := q_letX hF (ez_8.trans (q_remI _ _))
  exact q_reti E hr hlk hI ⟨ks_σ_5, (hF.trans hout), fr_σ_5⟩ dX12_draw_30
end
