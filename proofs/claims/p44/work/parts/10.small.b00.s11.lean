section
set_option maxRecDepth 100000 in
set_option maxHeartbeats 4000000 in
theorem c_J9_floorMod_7cf53 (l : Launch) (X : XW) (σ : ST) (v0 : Int32) (v1 : Int32) (hne : ¬ v1 = 0) : Met l yJ9_floorMod_7cf53 (q_ws yJ9_floorMod_7cf53 cJ9_floorMod_7cf53 3 (some .int)) (q_rm 0 0) (q_P X σ [.int v0, .int v1]) (q_Qi X 9 σ (fun (r : Int32) (σ' : ST) => σ' = σ ∧ r = F_J9_floorMod_7cf53 X σ v0 v1)) 0 0 (q_reg X) := by
  refine q_met 9 (by first | exact rfl | decide +kernel) rfl (Nat.le_of_ble_eq_true rfl) (fun p e s m below meth c E hml hr hlk hI ls hl => ?_)
  have hx := E.1
  have hb := E.2.1
  have hl : lv_has ls 3 [(0, .int v0), (1, .int v1)] := hl
  obtain ⟨out, hout⟩ : ∃ o, o = F_J9_floorMod_7cf53 X σ v0 v1 := ⟨_, rfl⟩
  have hF := hout.symm
  unfold F_J9_floorMod_7cf53 at hF
  refine lv_iload_n hx hb dJ9_floorMod_7cf53_0 rfl (lv_at hl 0 rfl) ?_
  refine lv_iload_n hx hb dJ9_floorMod_7cf53_1 rfl (lv_at hl 1 rfl) ?_
  refine lv_irem hx hb dJ9_floorMod_7cf53_2 hne ?_
  refine lv_topi (fun z_1 ez_1 => ?_)
  replace hF := q_letX hF (ez_1.trans (q_remI _ _))
  refine lv_istore_n (lv' := [(2, .int z_1), (0, .int v0), (1, .int v1)]) hx hb dJ9_floorMod_7cf53_3 rfl hl (by decide) rfl (fun ls hl => ?_)
  refine lv_iload_n hx hb dJ9_floorMod_7cf53_4 rfl (lv_at hl 1 rfl) ?_
  refine lv_iload_n hx hb dJ9_floorMod_7cf53_5 rfl (lv_at hl 2 rfl) ?_
  refine lv_ixor hx hb dJ9_floorMod_7cf53_6 ?_
  refine lv_topi (fun z_2 ez_2 => ?_)
  replace hF := q_letX hF ez_2
  refine q_if_ge (A := z_2.toInt) E rfl (tgt := 18) dJ9_floorMod_7cf53_7 (by decide) (fun c_3 => ?_) (fun c_3 => ?_)
  · skip
    replace hF := q_ifn hF (Int.not_lt.mpr c_3)
    refine lv_iload_n hx hb dJ9_floorMod_7cf53_18 rfl (lv_at hl 0 rfl) ?_
    exact q_reti E hr hlk hI ⟨rfl, (hF.trans hout)⟩ dJ9_floorMod_7cf53_19
  · skip
    replace hF := q_ifp hF c_3
    refine lv_iload_n hx hb dJ9_floorMod_7cf53_10 rfl (lv_at hl 0 rfl) ?_
    refine q_if_eq (A := z_1.toInt) E rfl (tgt := 18) dJ9_floorMod_7cf53_11 (by decide) (fun c_4 => ?_) (fun c_4 => ?_)
    · skip
      replace hF := q_ifp hF c_4
      refine lv_iload_n hx hb dJ9_floorMod_7cf53_18 rfl (lv_at hl 0 rfl) ?_
      exact q_reti E hr hlk hI ⟨rfl, (hF.trans hout)⟩ dJ9_floorMod_7cf53_19
    · skip
      replace hF := q_ifn hF c_4
      refine lv_iload_n hx hb dJ9_floorMod_7cf53_14 rfl (lv_at hl 0 rfl) ?_
      refine lv_iload_n hx hb dJ9_floorMod_7cf53_15 rfl (lv_at hl 2 rfl) ?_
      refine lv_iadd hx hb dJ9_floorMod_7cf53_16 ?_
      refine lv_topi (fun z_5 ez_5 => ?_)
      replace hF := q_letX hF ez_5
      exact q_reti E hr hlk hI ⟨rfl, (hF.trans hout)⟩ dJ9_floorMod_7cf53_17

set_option maxRecDepth 100000 in
set_option maxHeartbeats 4000000 in
theorem c_J9_abs_067f4 (l : Launch) (X : XW) (σ : ST) (v0 : Int64) : Met l yJ9_abs_067f4 (q_ws yJ9_abs_067f4 cJ9_abs_067f4 2 (some .long)) (q_rm 0 0) (q_P X σ [.long v0]) (q_Ql X 9 σ (fun (r : Int64) (σ' : ST) => σ' = σ ∧ r = F_J9_abs_067f4 X σ v0)) 0 0 (q_reg X) := by
  refine q_met 9 (by first | exact rfl | decide +kernel) rfl (Nat.le_of_ble_eq_true rfl) (fun p e s m below meth c E hml hr hlk hI ls hl => ?_)
  have hx := E.1
  have hb := E.2.1
  have hl : lv_has ls 2 [(0, .long v0)] := hl
  obtain ⟨out, hout⟩ : ∃ o, o = F_J9_abs_067f4 X σ v0 := ⟨_, rfl⟩
  have hF := hout.symm
  unfold F_J9_abs_067f4 at hF
  refine lv_lload_n hx hb dJ9_abs_067f4_0 rfl (lv_at hl 0 rfl) ?_
  refine lv_lconst (v := 0) hx hb dJ9_abs_067f4_1 (by decide) ?_
  have kc_2 : (0 : Int64).toInt = 0 := rfl
  refine q_lcmpX E dJ9_abs_067f4_2 (fun z_1 ez_1 hz_1 => ?_)
  replace hF := q_letX hF ez_1
  refine q_if_ge (A := z_1.toInt) E rfl (tgt := 11) dJ9_abs_067f4_3 (by decide) (fun c_3 => ?_) (fun c_3 => ?_)
  · skip
    replace hF := q_ifn hF (Int.not_lt.mpr c_3)
    refine lv_lload_n hx hb dJ9_abs_067f4_11 rfl (lv_at hl 0 rfl) ?_
    exact q_retl E hr hlk hI ⟨rfl, (hF.trans hout)⟩ dJ9_abs_067f4_12
  · skip
    replace hF := q_ifp hF c_3
    refine lv_lload_n hx hb dJ9_abs_067f4_6 rfl (lv_at hl 0 rfl) ?_
    refine lv_lneg hx hb dJ9_abs_067f4_7 ?_
    refine lv_topl (fun y_4 ey_4 => ?_)
    replace hF := q_letX hF ey_4
    refine lv_goto (tgt := 12) hx hb dJ9_abs_067f4_8 (by decide) ?_
    exact q_retl E hr hlk hI ⟨rfl, (hF.trans hout)⟩ dJ9_abs_067f4_12
end
