section
set_option maxRecDepth 100000 in
set_option maxHeartbeats 4000000 in
theorem c_X10_get (l : Launch) (X : XW) (σ : ST) (a : Nat) (v1 : Int32) (ha : q_kd X a = 10) : Met l yX10_get (q_ws yX10_get cX10_get 2 (some .long)) (q_rm 0 0) (q_P X σ [.ref a, .int v1]) (q_Ql X 9 σ (fun (r : Int64) (σ' : ST) => σ' = σ ∧ r = F_X10_get X σ a v1)) 0 0 (q_reg X) := by
  refine q_met 9 (by first | exact rfl | decide +kernel) rfl (Nat.le_of_ble_eq_true rfl) (fun p e s m below meth c E hml hr hlk hI ls hl => ?_)
  have hx := E.1
  have hb := E.2.1
  have hl : lv_has ls 2 [(0, .ref a), (1, .int v1)] := hl
  obtain ⟨out, hout⟩ : ∃ o, o = F_X10_get X σ a v1 := ⟨_, rfl⟩
  have hF := hout.symm
  unfold F_X10_get at hF
  refine lv_iload_n hx hb dX10_get_0 rfl (lv_at hl 1 rfl) ?_
  refine q_if_lt (A := v1.toInt) E rfl (tgt := 19) dX10_get_1 (by decide) (fun c_1 => ?_) (fun c_1 => ?_)
  · skip
    replace hF := q_ifp hF c_1
    refine lv_lconst (v := 0) hx hb dX10_get_19 (by decide) ?_
    exact q_retl E hr hlk hI ⟨rfl, (hF.trans hout)⟩ dX10_get_20
  · skip
    replace hF := q_ifn hF (Int.not_lt.mpr c_1)
    refine lv_iload_n hx hb dX10_get_4 rfl (lv_at hl 1 rfl) ?_
    refine lv_bipush (v := 60) hx hb dX10_get_5 (by decide) ?_
    refine q_icmp_ge (A := v1.toInt) (B := 60) E rfl (by decide) (tgt := 19) dX10_get_7 (by decide) (fun c_2 => ?_) (fun c_2 => ?_)
    · skip
      replace hF := q_ifn hF (Int.not_lt.mpr c_2)
      refine lv_lconst (v := 0) hx hb dX10_get_19 (by decide) ?_
      exact q_retl E hr hlk hI ⟨rfl, (hF.trans hout)⟩ dX10_get_20
    · skip
      replace hF := q_ifp hF c_2
      refine lv_aload_n hx hb dX10_get_10 rfl (lv_at hl 0 rfl) ?_
      refine gs_X10_18_10 E hI ha dX10_get_11 ?_
      refine lv_iload_n hx hb dX10_get_14 rfl (lv_at hl 1 rfl) ?_
      refine q_lald E hI (q_tk (k' := 21) hI ha rfl (by decide)) ⟨by decide, rfl⟩ (by omega) (by rw [q_lnk (v := 60) hI (q_tk (k' := 21) hI ha rfl (by decide)) rfl (by decide)]; omega) dX10_get_15 ?_
      refine lv_topl (fun g_3 eg_3 => ?_)
      replace hF := q_letX hF eg_3
      refine lv_goto (tgt := 20) hx hb dX10_get_16 (by decide) ?_
      exact q_retl E hr hlk hI ⟨rfl, (hF.trans hout)⟩ dX10_get_20

set_option maxRecDepth 100000 in
set_option maxHeartbeats 4000000 in
theorem c_X10_copyFrom (l : Launch) (X : XW) (σ : ST) (a : Nat) (r1 : Nat) (v2 : Int32) (v3 : Int32) (v4 : Int32) (ha : q_kd X a = 10) (hr1 : q_kd X r1 = 10) : Met l yX10_copyFrom (q_ws yX10_copyFrom cX10_copyFrom 5 none) (q_rm 1 60) (q_P X σ [.ref a, .ref r1, .int v2, .int v3, .int v4]) (q_Qv X 8 σ (fun (σ' : ST) => σ' = F_X10_copyFrom X σ a r1 v2 v3 v4 ∧ q_ow [] [(21, 99)] X σ σ')) 0 0 (q_reg X) := by
  refine q_met 8 (by first | exact rfl | decide +kernel) rfl (Nat.le_of_ble_eq_true rfl) (fun p e s m below meth c E hml hr hlk hI ls hl => ?_)
  have hx := E.1
  have hb := E.2.1
  have hl : lv_has ls 5 [(0, .ref a), (1, .ref r1), (2, .int v2), (3, .int v3), (4, .int v4)] := hl
  have fr_σ : q_ow [] [(21, 99)] X σ σ := q_ow.rf
  have gp0 := q_bd (f := 1) (lo := -1) (hi := 60) hI ha rfl
  have gp1 := q_bd (f := 1) (lo := -1) (hi := 60) hI hr1 rfl
  obtain ⟨out, hout⟩ : ∃ o, o = F_X10_copyFrom X σ a r1 v2 v3 v4 := ⟨_, rfl⟩
  have hF := hout.symm
  unfold F_X10_copyFrom at hF
  refine lv_aload_n hx hb dX10_copyFrom_0 rfl (lv_at hl 1 rfl) ?_
  refine lv_iload_n hx hb dX10_copyFrom_1 rfl (lv_at hl 2 rfl) ?_
  refine lv_iload hx hb dX10_copyFrom_2 (lv_at hl 4 rfl) ?_
  refine q_ci (q_runV (As := [.int v2, .int v4]) (rest := []) E (hml.trans hl.1.symm) hI (c_X10_hasPlaces l X σ r1 v2 v4 hr1) kv_X10_35 hr1 ⟨rfl, by decide⟩ (show vwCl[9]? = some (RX10, TX10, 3) from rfl) rfl ⟨Nat.le_of_ble_eq_true rfl, Nat.le_of_ble_eq_true rfl⟩ ⟨Nat.le_refl _, Nat.le_refl _⟩ rfl (Nat.le_of_ble_eq_true rfl) dX10_copyFrom_4) hI (by decide) (fun r_1 σ_2 H locs hpσ_2 hkσ_2 hI => ?_)
  obtain ⟨ahpσ_2, bhpσ_2, chpσ_2, dhpσ_2⟩ := hpσ_2
  rw [ahpσ_2] at hI
  replace hF := q_letX hF dhpσ_2
  refine q_if_eq (A := r_1.toInt) E rfl (tgt := 35) dX10_copyFrom_7 (by decide) (fun c_3 => ?_) (fun c_3 => ?_)
  · skip
    replace hF := q_ifp hF c_3
    exact q_retv E hr hlk hI ⟨(hF.trans hout), fr_σ⟩ dX10_copyFrom_35
  · skip
    replace hF := q_ifn hF c_3
    refine lv_aload_n hx hb dX10_copyFrom_10 rfl (lv_at hl 0 rfl) ?_
    refine lv_iload_n hx hb dX10_copyFrom_11 rfl (lv_at hl 3 rfl) ?_
    refine lv_iload hx hb dX10_copyFrom_12 (lv_at hl 4 rfl) ?_
    refine q_ci (q_runV (As := [.int v3, .int v4]) (rest := []) E (hml.trans hl.1.symm) hI (c_X10_hasPlaces l X σ a v3 v4 ha) kv_X10_35 ha ⟨rfl, by decide⟩ (show vwCl[9]? = some (RX10, TX10, 3) from rfl) rfl ⟨Nat.le_of_ble_eq_true rfl, Nat.le_of_ble_eq_true rfl⟩ ⟨Nat.le_refl _, Nat.le_refl _⟩ rfl (Nat.le_of_ble_eq_true rfl) dX10_copyFrom_14) hI (by decide) (fun r_4 σ_5 H locs hpσ_5 hkσ_5 hI => ?_)
    obtain ⟨ahpσ_5, bhpσ_5, chpσ_5, dhpσ_5⟩ := hpσ_5
    rw [ahpσ_5] at hI
    replace hF := q_letX hF dhpσ_5
    refine q_if_eq (A := r_4.toInt) E rfl (tgt := 35) dX10_copyFrom_17 (by decide) (fun c_6 => ?_) (fun c_6 => ?_)
    · skip
      replace hF := q_ifp hF c_6
      exact q_retv E hr hlk hI ⟨(hF.trans hout), fr_σ⟩ dX10_copyFrom_35
    · skip
      replace hF := q_ifn hF c_6
      refine lv_aload_n hx hb dX10_copyFrom_20 rfl (lv_at hl 1 rfl) ?_
      refine gs_X10_18_10 E hI hr1 dX10_copyFrom_21 ?_
      refine lv_iload_n hx hb dX10_copyFrom_24 rfl (lv_at hl 2 rfl) ?_
      refine lv_aload_n hx hb dX10_copyFrom_25 rfl (lv_at hl 0 rfl) ?_
      refine gs_X10_18_10 E hI ha dX10_copyFrom_26 ?_
      refine lv_iload_n hx hb dX10_copyFrom_29 rfl (lv_at hl 3 rfl) ?_
      refine lv_iload hx hb dX10_copyFrom_30 (lv_at hl 4 rfl) ?_
      refine q_copyl E (hml.trans hl.1.symm) hI (q_tk (k' := 21) hI hr1 rfl (by decide)) (q_tk (k' := 21) hI ha rfl (by decide)) (q_in_t3 (i := 94) (by first | rfl | decide +kernel) rfl) (q_in_t3 (i := 96) (by first | rfl | decide +kernel) rfl) (q_in_t3 (i := 95) (by first | rfl | decide +kernel) rfl) (q_in_t1 (i := 15) (by first | rfl | decide +kernel) rfl) (by omega) (by omega) (by omega) (by omega) (by omega) (by decide) (by decide) dX10_copyFrom_32 ⟨Nat.le_refl _, Nat.le_refl _⟩ (fun H locs σ_7 hσ_7 hI => ?_)
      replace hF := q_letX hF hσ_7
      have fr_σ_7 := fr_σ.cpy hσ_7 (q_tk (k' := 21) hI ha rfl (by decide)) (fun _ => rfl)
      exact q_retv E hr hlk hI ⟨(hF.trans hout), fr_σ_7⟩ dX10_copyFrom_35
end
