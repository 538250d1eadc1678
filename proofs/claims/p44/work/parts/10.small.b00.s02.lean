section
set_option maxRecDepth 100000 in
set_option maxHeartbeats 4000000 in
theorem c_X10_cut (l : Launch) (X : XW) (σ : ST) (a : Nat) (v1 : Int64) (ha : q_kd X a = 10) : Met l yX10_cut (q_ws yX10_cut cX10_cut 3 (some .long)) (q_rm 0 0) (q_P X σ [.ref a, .long v1]) (q_Ql X 9 σ (fun (r : Int64) (σ' : ST) => σ' = σ ∧ r = F_X10_cut X σ a v1)) 0 0 (q_reg X) := by
  refine q_met 9 (by first | exact rfl | decide +kernel) rfl (Nat.le_of_ble_eq_true rfl) (fun p e s m below meth c E hml hr hlk hI ls hl => ?_)
  have hx := E.1
  have hb := E.2.1
  have hl : lv_has ls 3 [(0, .ref a), (1, .long v1)] := hl
  obtain ⟨out, hout⟩ : ∃ o, o = F_X10_cut X σ a v1 := ⟨_, rfl⟩
  have hF := hout.symm
  unfold F_X10_cut at hF
  refine lv_aload_n hx hb dX10_cut_0 rfl (lv_at hl 0 rfl) ?_
  refine gs_X10_9_10 E hI ha dX10_cut_1 ?_
  refine lv_topi (fun f_1 ef_1 => ?_)
  replace hF := q_letX hF ef_1
  have bf_1 : 0 ≤ f_1.toInt ∧ f_1.toInt ≤ 3 := by rw [ef_1]; exact q_bd hI ha rfl
  by_cases c_2 : f_1.toInt = 0
  · refine lv_tableIn (off := 28) (tgt := 32) hx hb dX10_cut_4 (by omega) (by omega) (by rw [c_2]; rfl) (by decide) ?_
    replace hF := q_ifp hF c_2
    refine lv_lload_n hx hb dX10_cut_32 rfl (lv_at hl 1 rfl) ?_
    refine lv_l2i hx hb dX10_cut_33 rfl ?_
    refine lv_topi (fun z_3 ez_3 => ?_)
    replace hF := q_letX hF ez_3
    refine lv_i2b hx hb dX10_cut_34 rfl ?_
    refine lv_topi (fun z_4 ez_4 => ?_)
    replace hF := q_letX hF ez_4
    refine lv_i2l hx hb dX10_cut_35 rfl ?_
    refine lv_topl (fun y_5 ey_5 => ?_)
    replace hF := q_letX hF ey_5
    exact q_retl E hr hlk hI ⟨rfl, (hF.trans hout)⟩ dX10_cut_36
  replace hF := q_ifn hF c_2
  by_cases c_6 : f_1.toInt = 1
  · refine lv_tableIn (off := 33) (tgt := 37) hx hb dX10_cut_4 (by omega) (by omega) (by rw [c_6]; rfl) (by decide) ?_
    replace hF := q_ifp hF c_6
    refine lv_lload_n hx hb dX10_cut_37 rfl (lv_at hl 1 rfl) ?_
    refine lv_l2i hx hb dX10_cut_38 rfl ?_
    refine lv_topi (fun z_7 ez_7 => ?_)
    replace hF := q_letX hF ez_7
    refine lv_i2s hx hb dX10_cut_39 rfl ?_
    refine lv_topi (fun z_8 ez_8 => ?_)
    replace hF := q_letX hF ez_8
    refine lv_i2l hx hb dX10_cut_40 rfl ?_
    refine lv_topl (fun y_9 ey_9 => ?_)
    replace hF := q_letX hF ey_9
    exact q_retl E hr hlk hI ⟨rfl, (hF.trans hout)⟩ dX10_cut_41
  replace hF := q_ifn hF c_6
  by_cases c_10 : f_1.toInt = 2
  · refine lv_tableIn (off := 38) (tgt := 42) hx hb dX10_cut_4 (by omega) (by omega) (by rw [c_10]; rfl) (by decide) ?_
    replace hF := q_ifp hF c_10
    refine lv_lload_n hx hb dX10_cut_42 rfl (lv_at hl 1 rfl) ?_
    refine lv_l2i hx hb dX10_cut_43 rfl ?_
    refine lv_topi (fun z_11 ez_11 => ?_)
    replace hF := q_letX hF ez_11
    refine lv_i2l hx hb dX10_cut_44 rfl ?_
    refine lv_topl (fun y_12 ey_12 => ?_)
    replace hF := q_letX hF ey_12
    exact q_retl E hr hlk hI ⟨rfl, (hF.trans hout)⟩ dX10_cut_45
  replace hF := q_ifn hF c_10
  refine lv_tableOut (tgt := 46) hx hb dX10_cut_4 (by omega) (by decide) ?_
  refine lv_lload_n hx hb dX10_cut_46 rfl (lv_at hl 1 rfl) ?_
  exact q_retl E hr hlk hI ⟨rfl, (hF.trans hout)⟩ dX10_cut_47

set_option maxRecDepth 100000 in
set_option maxHeartbeats 4000000 in
theorem c_X10_put (l : Launch) (X : XW) (σ : ST) (a : Nat) (v1 : Int32) (v2 : Int64) (ha : q_kd X a = 10) : Met l yX10_put (q_ws yX10_put cX10_put 4 none) (q_rm 1 22) (q_P X σ [.ref a, .int v1, .long v2]) (q_Qv X 8 σ (fun (σ' : ST) => σ' = F_X10_put X σ a v1 v2 ∧ q_ow [] [(21, 99)] X σ σ')) 0 0 (q_reg X) := by
  refine q_met 8 (by first | exact rfl | decide +kernel) rfl (Nat.le_of_ble_eq_true rfl) (fun p e s m below meth c E hml hr hlk hI ls hl => ?_)
  have hx := E.1
  have hb := E.2.1
  have hl : lv_has ls 4 [(0, .ref a), (1, .int v1), (2, .long v2)] := hl
  have fr_σ : q_ow [] [(21, 99)] X σ σ := q_ow.rf
  obtain ⟨out, hout⟩ : ∃ o, o = F_X10_put X σ a v1 v2 := ⟨_, rfl⟩
  have hF := hout.symm
  unfold F_X10_put at hF
  refine lv_iload_n hx hb dX10_put_0 rfl (lv_at hl 1 rfl) ?_
  refine q_if_lt (A := v1.toInt) E rfl (tgt := 21) dX10_put_1 (by decide) (fun c_1 => ?_) (fun c_1 => ?_)
  · skip
    replace hF := q_ifp hF c_1
    exact q_retv E hr hlk hI ⟨(hF.trans hout), fr_σ⟩ dX10_put_21
  · skip
    replace hF := q_ifn hF (Int.not_lt.mpr c_1)
    refine lv_iload_n hx hb dX10_put_4 rfl (lv_at hl 1 rfl) ?_
    refine lv_bipush (v := 60) hx hb dX10_put_5 (by decide) ?_
    refine q_icmp_ge (A := v1.toInt) (B := 60) E rfl (by decide) (tgt := 21) dX10_put_7 (by decide) (fun c_2 => ?_) (fun c_2 => ?_)
    · skip
      replace hF := q_ifn hF (Int.not_lt.mpr c_2)
      exact q_retv E hr hlk hI ⟨(hF.trans hout), fr_σ⟩ dX10_put_21
    · skip
      replace hF := q_ifp hF c_2
      refine lv_aload_n hx hb dX10_put_10 rfl (lv_at hl 0 rfl) ?_
      refine gs_X10_18_10 E hI ha dX10_put_11 ?_
      refine lv_iload_n hx hb dX10_put_14 rfl (lv_at hl 1 rfl) ?_
      refine lv_aload_n hx hb dX10_put_15 rfl (lv_at hl 0 rfl) ?_
      refine lv_lload_n hx hb dX10_put_16 rfl (lv_at hl 2 rfl) ?_
      refine q_cl_ (q_runV (As := [.long v2]) (rest := [.int v1, .ref (q_rf X a 2)]) E (hml.trans hl.1.symm) hI (c_X10_cut l X σ a v2 ha) kv_X10_31 ha ⟨rfl, by decide⟩ (show vwCl[9]? = some (RX10, TX10, 3) from rfl) rfl ⟨Nat.le_of_ble_eq_true rfl, Nat.le_of_ble_eq_true rfl⟩ ⟨Nat.le_refl _, Nat.le_refl _⟩ rfl (Nat.le_of_ble_eq_true rfl) dX10_put_17) hI (by decide) (fun r_3 σ_4 H locs hpσ_4 hkσ_4 hI => ?_)
      obtain ⟨ahpσ_4, bhpσ_4⟩ := hpσ_4
      rw [ahpσ_4] at hI
      replace hF := q_letX hF bhpσ_4
      refine q_lastN E hI (q_tk (k' := 21) hI ha rfl (by decide)) ⟨by decide, rfl⟩ (by omega) (by rw [q_lnk (v := 60) hI (q_tk (k' := 21) hI ha rfl (by decide)) rfl (by decide)]; omega) dX10_put_20 (fun H locs σ_5 hσ_5 hI => ?_)
      replace hF := q_letX hF hσ_5
      have fr_σ_5 := fr_σ.sl hσ_5 (q_tk (k' := 21) hI ha rfl (by decide)) rfl
      exact q_retv E hr hlk hI ⟨(hF.trans hout), fr_σ_5⟩ dX10_put_21
end
