section
set_option maxRecDepth 100000 in
set_option maxHeartbeats 4000000 in
theorem c_X5_get (l : Launch) (X : XW) (σ : ST) (a : Nat) (v1 : Int32) (ha : q_kd X a = 5) : Met l yX5_get (q_ws yX5_get cX5_get 2 (some .int)) (q_rm 0 0) (q_P X σ [.ref a, .int v1]) (q_Qi X 9 σ (fun (r : Int32) (σ' : ST) => σ' = σ ∧ r = F_X5_get X σ a v1)) 0 0 (q_reg X) := by
  refine q_met 9 (by first | exact rfl | decide +kernel) rfl (Nat.le_of_ble_eq_true rfl) (fun p e s m below meth c E hml hr hlk hI ls hl => ?_)
  have hx := E.1
  have hb := E.2.1
  have hl : lv_has ls 2 [(0, .ref a), (1, .int v1)] := hl
  obtain ⟨out, hout⟩ : ∃ o, o = F_X5_get X σ a v1 := ⟨_, rfl⟩
  have hF := hout.symm
  unfold F_X5_get at hF
  refine lv_iload_n hx hb dX5_get_0 rfl (lv_at hl 1 rfl) ?_
  refine q_if_lt (A := v1.toInt) E rfl (tgt := 22) dX5_get_1 (by decide) (fun c_1 => ?_) (fun c_1 => ?_)
  · skip
    replace hF := q_ifp hF c_1
    refine lv_iconst (v := 0) hx hb dX5_get_22 (by decide) ?_
    exact q_reti E hr hlk hI ⟨rfl, (hF.trans hout)⟩ dX5_get_23
  · skip
    replace hF := q_ifn hF (Int.not_lt.mpr c_1)
    refine lv_iload_n hx hb dX5_get_4 rfl (lv_at hl 1 rfl) ?_
    refine lv_aload_n hx hb dX5_get_5 rfl (lv_at hl 0 rfl) ?_
    refine gs_X5_13_5 E hI ha dX5_get_6 ?_
    refine q_alenX E hI (q_tk (k' := 20) hI ha rfl (by decide)) (by decide) (t := 1) rfl rfl dX5_get_9 (fun n_2 en_2 hn_2 => ?_)
    replace hF := q_letX hF en_2
    refine q_icmp_ge (A := v1.toInt) (B := n_2.toInt) E rfl rfl (tgt := 22) dX5_get_10 (by decide) (fun c_3 => ?_) (fun c_3 => ?_)
    · skip
      replace hF := q_ifn hF (Int.not_lt.mpr c_3)
      refine lv_iconst (v := 0) hx hb dX5_get_22 (by decide) ?_
      exact q_reti E hr hlk hI ⟨rfl, (hF.trans hout)⟩ dX5_get_23
    · skip
      replace hF := q_ifp hF c_3
      refine lv_aload_n hx hb dX5_get_13 rfl (lv_at hl 0 rfl) ?_
      refine gs_X5_13_5 E hI ha dX5_get_14 ?_
      refine lv_iload_n hx hb dX5_get_17 rfl (lv_at hl 1 rfl) ?_
      refine q_iald E hI (q_tk (k' := 20) hI ha rfl (by decide)) ⟨by decide, rfl⟩ (by omega) (by omega) dX5_get_18 ?_
      refine lv_topi (fun f_4 ef_4 => ?_)
      replace hF := q_letX hF ef_4
      refine lv_goto (tgt := 23) hx hb dX5_get_19 (by decide) ?_
      exact q_reti E hr hlk hI ⟨rfl, (hF.trans hout)⟩ dX5_get_23

set_option maxRecDepth 100000 in
set_option maxHeartbeats 4000000 in
theorem c_X5_set (l : Launch) (X : XW) (σ : ST) (a : Nat) (v1 : Int32) (v2 : Int32) (ha : q_kd X a = 5) : Met l yX5_set (q_ws yX5_set cX5_set 3 none) (q_rm 0 0) (q_P X σ [.ref a, .int v1, .int v2]) (q_Qv X 8 σ (fun (σ' : ST) => σ' = F_X5_set X σ a v1 v2 ∧ q_ow [(20, 99)] [] X σ σ')) 0 0 (q_reg X) := by
  refine q_met 8 (by first | exact rfl | decide +kernel) rfl (Nat.le_of_ble_eq_true rfl) (fun p e s m below meth c E hml hr hlk hI ls hl => ?_)
  have hx := E.1
  have hb := E.2.1
  have hl : lv_has ls 3 [(0, .ref a), (1, .int v1), (2, .int v2)] := hl
  have fr_σ : q_ow [(20, 99)] [] X σ σ := q_ow.rf
  obtain ⟨out, hout⟩ : ∃ o, o = F_X5_set X σ a v1 v2 := ⟨_, rfl⟩
  have hF := hout.symm
  unfold F_X5_set at hF
  refine lv_iload_n hx hb dX5_set_0 rfl (lv_at hl 1 rfl) ?_
  refine q_if_lt (A := v1.toInt) E rfl (tgt := 20) dX5_set_1 (by decide) (fun c_1 => ?_) (fun c_1 => ?_)
  · skip
    replace hF := q_ifp hF c_1
    exact q_retv E hr hlk hI ⟨(hF.trans hout), fr_σ⟩ dX5_set_20
  · skip
    replace hF := q_ifn hF (Int.not_lt.mpr c_1)
    refine lv_iload_n hx hb dX5_set_4 rfl (lv_at hl 1 rfl) ?_
    refine lv_aload_n hx hb dX5_set_5 rfl (lv_at hl 0 rfl) ?_
    refine gs_X5_13_5 E hI ha dX5_set_6 ?_
    refine q_alenX E hI (q_tk (k' := 20) hI ha rfl (by decide)) (by decide) (t := 1) rfl rfl dX5_set_9 (fun n_2 en_2 hn_2 => ?_)
    replace hF := q_letX hF en_2
    refine q_icmp_ge (A := v1.toInt) (B := n_2.toInt) E rfl rfl (tgt := 20) dX5_set_10 (by decide) (fun c_3 => ?_) (fun c_3 => ?_)
    · skip
      replace hF := q_ifn hF (Int.not_lt.mpr c_3)
      exact q_retv E hr hlk hI ⟨(hF.trans hout), fr_σ⟩ dX5_set_20
    · skip
      replace hF := q_ifp hF c_3
      refine lv_aload_n hx hb dX5_set_13 rfl (lv_at hl 0 rfl) ?_
      refine gs_X5_13_5 E hI ha dX5_set_14 ?_
      refine lv_iload_n hx hb dX5_set_17 rfl (lv_at hl 1 rfl) ?_
      refine lv_iload_n hx hb dX5_set_18 rfl (lv_at hl 2 rfl) ?_
      refine q_iastN E hI (q_tk (k' := 20) hI ha rfl (by decide)) ⟨by decide, rfl⟩ (by omega) (by omega) (show 8 < 9 by decide) (q_inU rfl) dX5_set_19 (fun H locs σ_4 hσ_4 hI => ?_)
      replace hF := q_letX hF hσ_4
      have fr_σ_4 := fr_σ.si hσ_4 (q_tk (k' := 20) hI ha rfl (by decide)) rfl
      exact q_retv E hr hlk hI ⟨(hF.trans hout), fr_σ_4⟩ dX5_set_20
end
