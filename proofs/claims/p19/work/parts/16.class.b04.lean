set_option maxRecDepth 100000 in
set_option maxHeartbeats 4000000 in
theorem c_X11_waits (l : Launch) (X : XW) (σ : ST) (a : Nat) (v1 : Int32) (ha : q_kd X a = 11) : Met l yX11_waits (q_ws yX11_waits cX11_waits 2 (some .int)) (q_rm 3 66) (q_P X σ [.ref a, .int v1]) (q_Qi X 8 σ (fun (r : Int32) (σ' : ST) => (r, σ') = F_X11_waits X σ a v1 ∧ q_ow [(11, 0)] [] X σ σ')) 0 0 (q_reg X) := by
  refine q_met 8 (by first | exact rfl | decide +kernel) rfl (Nat.le_of_ble_eq_true rfl) (fun p e s m below meth c E hml hr hlk hI ls hl => ?_)
  have hx := E.1
  have hb := E.2.1
  have hl : lv_has ls 2 [(0, .ref a), (1, .int v1)] := hl
  have fr_σ : q_ow [(11, 0)] [] X σ σ := q_ow.rf
  obtain ⟨out, hout⟩ : ∃ o, o = F_X11_waits X σ a v1 := ⟨_, rfl⟩
  have hF := hout.symm
  unfold F_X11_waits at hF
  refine lv_aload_n hx hb dX11_waits_0 rfl (lv_at hl 0 rfl) ?_
  refine lv_iload_n hx hb dX11_waits_1 rfl (lv_at hl 1 rfl) ?_
  refine q_ci (q_runV (As := [.int v1]) (rest := []) E (hml.trans hl.1.symm) hI (c_X11_isPlayer l X σ a v1 ha) kv_X11_219 ha ⟨rfl, by decide⟩ (show vwCl[10]? = some (RX11, TX11, 17) from rfl) rfl ⟨Nat.le_of_ble_eq_true rfl, Nat.le_of_ble_eq_true rfl⟩ ⟨Nat.le_refl _, Nat.le_refl _⟩ rfl (Nat.le_of_ble_eq_true rfl) dX11_waits_2) hI (by decide) (fun r_1 σ_2 H locs hpσ_2 hkσ_2 hI => ?_)
  obtain ⟨ahpσ_2, bhpσ_2, chpσ_2⟩ := hpσ_2
  rw [ahpσ_2] at hI
  replace hF := q_letX hF chpσ_2
  refine q_if_eq (A := r_1.toInt) E rfl (tgt := 23) dX11_waits_5 (by decide) (fun c_3 => ?_) (fun c_3 => ?_)
  · skip
    replace hF := q_ifp hF c_3
    refine lv_aload_n hx hb dX11_waits_23 rfl (lv_at hl 0 rfl) ?_
    refine lv_iconst (v := 2) hx hb dX11_waits_24 (by decide) ?_
    have kc_4 : (2 : Int32).toInt = 2 := rfl
    refine q_ci (q_runV (As := [.int 2]) (rest := []) E (hml.trans hl.1.symm) hI (c_X11_none l X σ a (2 : Int32) ha) kv_X11_109 ha ⟨rfl, by decide⟩ (show vwCl[10]? = some (RX11, TX11, 17) from rfl) rfl ⟨Nat.le_of_ble_eq_true rfl, Nat.le_of_ble_eq_true rfl⟩ ⟨Nat.le_refl _, Nat.le_refl _⟩ rfl (Nat.le_of_ble_eq_true rfl) dX11_waits_25) hI (by decide) (fun r_5 σ_6 H locs hpσ_6 hkσ_6 hI => ?_)
    obtain ⟨ahpσ_6, bhpσ_6, chpσ_6⟩ := hpσ_6
    have fr_σ_6 := fr_σ.call chpσ_6 rfl rfl
    replace hF := q_biX hF bhpσ_6
    exact q_reti E hr hlk hI ⟨(hF.trans hout), fr_σ_6⟩ dX11_waits_28
  · skip
    replace hF := q_ifn hF c_3
    replace c_3 := q_ifOne bhpσ_2 c_3
    refine lv_aload_n hx hb dX11_waits_8 rfl (lv_at hl 0 rfl) ?_
    refine lv_aload_n hx hb dX11_waits_9 rfl (lv_at hl 0 rfl) ?_
    refine gs_X11_42_11 E hI ha dX11_waits_10 ?_
    refine lv_iload_n hx hb dX11_waits_13 rfl (lv_at hl 1 rfl) ?_
    refine q_ci (q_runV (As := [.int v1]) (rest := [.ref a]) E (hml.trans hl.1.symm) hI (c_X0_turnsAhead l X σ (q_rf X a 8) v1 (q_tk (k' := 1) hI ha rfl (by decide))) kv_X11_348 (q_tk (k' := 1) hI ha rfl (by decide)) ⟨rfl, by decide⟩ (show vwCl[0]? = some (RX0, TX0, 15) from rfl) rfl ⟨Nat.le_of_ble_eq_true rfl, Nat.le_of_ble_eq_true rfl⟩ ⟨Nat.le_refl _, Nat.le_refl _⟩ rfl (Nat.le_of_ble_eq_true rfl) dX11_waits_14) hI (by decide) (fun r_7 σ_8 H locs hpσ_8 hkσ_8 hI => ?_)
    obtain ⟨ahpσ_8, bhpσ_8⟩ := hpσ_8
    rw [ahpσ_8] at hI
    replace hF := q_letX hF bhpσ_8
    refine q_ci (q_runV (As := [.int r_7]) (rest := []) E (hml.trans hl.1.symm) hI (c_X11_good l X σ a r_7 ha) kv_X11_156 ha ⟨rfl, by decide⟩ (show vwCl[10]? = some (RX11, TX11, 17) from rfl) rfl ⟨Nat.le_of_ble_eq_true rfl, Nat.le_of_ble_eq_true rfl⟩ ⟨Nat.le_refl _, Nat.le_refl _⟩ rfl (Nat.le_of_ble_eq_true rfl) dX11_waits_17) hI (by decide) (fun r_9 σ_10 H locs hpσ_10 hkσ_10 hI => ?_)
    obtain ⟨ahpσ_10, bhpσ_10, chpσ_10⟩ := hpσ_10
    have fr_σ_10 := fr_σ.call chpσ_10 rfl rfl
    replace hF := q_biX hF bhpσ_10
    refine lv_goto (tgt := 28) hx hb dX11_waits_20 (by decide) ?_
    exact q_reti E hr hlk hI ⟨(hF.trans hout), fr_σ_10⟩ dX11_waits_28

set_option maxRecDepth 100000 in
set_option maxHeartbeats 4000000 in
theorem c_X11_forecastStatus (l : Launch) (X : XW) (σ : ST) (a : Nat) (v1 : Int32) (v2 : Int32) (ha : q_kd X a = 11) : Met l yX11_forecastStatus (q_ws yX11_forecastStatus cX11_forecastStatus 3 (some .int)) (q_rm 1 21) (q_P X σ [.ref a, .int v1, .int v2]) (q_Qi X 9 σ (fun (r : Int32) (σ' : ST) => σ' = σ ∧ r = F_X11_forecastStatus X σ a v1 v2)) 0 0 (q_reg X) := by
  refine q_met 9 (by first | exact rfl | decide +kernel) rfl (Nat.le_of_ble_eq_true rfl) (fun p e s m below meth c E hml hr hlk hI ls hl => ?_)
  have hx := E.1
  have hb := E.2.1
  have hl : lv_has ls 3 [(0, .ref a), (1, .int v1), (2, .int v2)] := hl
  obtain ⟨out, hout⟩ : ∃ o, o = F_X11_forecastStatus X σ a v1 v2 := ⟨_, rfl⟩
  have hF := hout.symm
  unfold F_X11_forecastStatus at hF
  refine lv_aload_n hx hb dX11_forecastStatus_0 rfl (lv_at hl 0 rfl) ?_
  refine lv_iload_n hx hb dX11_forecastStatus_1 rfl (lv_at hl 1 rfl) ?_
  refine q_ci (q_runV (As := [.int v1]) (rest := []) E (hml.trans hl.1.symm) hI (c_X11_isPlayer l X σ a v1 ha) kv_X11_219 ha ⟨rfl, by decide⟩ (show vwCl[10]? = some (RX11, TX11, 17) from rfl) rfl ⟨Nat.le_of_ble_eq_true rfl, Nat.le_of_ble_eq_true rfl⟩ ⟨Nat.le_refl _, Nat.le_refl _⟩ rfl (Nat.le_of_ble_eq_true rfl) dX11_forecastStatus_2) hI (by decide) (fun r_1 σ_2 H locs hpσ_2 hkσ_2 hI => ?_)
  obtain ⟨ahpσ_2, bhpσ_2, chpσ_2⟩ := hpσ_2
  rw [ahpσ_2] at hI
  replace hF := q_letX hF chpσ_2
  refine q_if_ne (A := r_1.toInt) E rfl (tgt := 10) dX11_forecastStatus_5 (by decide) (fun c_3 => ?_) (fun c_3 => ?_)
  · skip
    replace hF := q_ifn hF c_3
    replace c_3 := q_ifOne bhpσ_2 c_3
    refine lv_iload_n hx hb dX11_forecastStatus_10 rfl (lv_at hl 2 rfl) ?_
    refine q_if_lt (A := v2.toInt) E rfl (tgt := 20) dX11_forecastStatus_11 (by decide) (fun c_4 => ?_) (fun c_4 => ?_)
    · skip
      replace hF := q_ifp hF c_4
      refine lv_iconst (v := 5) hx hb dX11_forecastStatus_20 (by decide) ?_
      refine lv_goto (tgt := 25) hx hb dX11_forecastStatus_21 (by decide) ?_
      exact q_reti E hr hlk hI ⟨rfl, (hF.trans hout)⟩ dX11_forecastStatus_25
    · skip
      replace hF := q_ifn hF (Int.not_lt.mpr c_4)
      refine lv_iload_n hx hb dX11_forecastStatus_14 rfl (lv_at hl 2 rfl) ?_
      refine lv_bipush (v := 60) hx hb dX11_forecastStatus_15 (by decide) ?_
      refine q_icmp_le (A := v2.toInt) (B := 60) E rfl (by decide) (tgt := 24) dX11_forecastStatus_17 (by decide) (fun c_5 => ?_) (fun c_5 => ?_)
      · skip
        replace hF := q_ifn hF (Int.not_lt.mpr c_5)
        refine lv_iconst (v := 0) hx hb dX11_forecastStatus_24 (by decide) ?_
        exact q_reti E hr hlk hI ⟨rfl, (hF.trans hout)⟩ dX11_forecastStatus_25
      · skip
        replace hF := q_ifp hF c_5
        refine lv_iconst (v := 5) hx hb dX11_forecastStatus_20 (by decide) ?_
        refine lv_goto (tgt := 25) hx hb dX11_forecastStatus_21 (by decide) ?_
        exact q_reti E hr hlk hI ⟨rfl, (hF.trans hout)⟩ dX11_forecastStatus_25
  · skip
    replace hF := q_ifp hF c_3
    refine lv_iconst (v := 2) hx hb dX11_forecastStatus_8 (by decide) ?_
    exact q_reti E hr hlk hI ⟨rfl, (hF.trans hout)⟩ dX11_forecastStatus_9

set_option maxRecDepth 100000 in
set_option maxHeartbeats 4000000 in
theorem c_X11_falls (l : Launch) (X : XW) (σ : ST) (a : Nat) (v1 : Int32) (v2 : Int32) (ha : q_kd X a = 11) : Met l yX11_falls (q_ws yX11_falls cX11_falls 4 (some .int)) (q_rm 4 88) (q_P X σ [.ref a, .int v1, .int v2]) (q_Qi X 8 σ (fun (r : Int32) (σ' : ST) => (r, σ') = F_X11_falls X σ a v1 v2 ∧ q_ow [(11, 0)] [] X σ σ')) 0 0 (q_reg X) := by
  refine q_met 8 (by first | exact rfl | decide +kernel) rfl (Nat.le_of_ble_eq_true rfl) (fun p e s m below meth c E hml hr hlk hI ls hl => ?_)
  have hx := E.1
  have hb := E.2.1
  have hl : lv_has ls 4 [(0, .ref a), (1, .int v1), (2, .int v2)] := hl
  have fr_σ : q_ow [(11, 0)] [] X σ σ := q_ow.rf
  obtain ⟨out, hout⟩ : ∃ o, o = F_X11_falls X σ a v1 v2 := ⟨_, rfl⟩
  have hF := hout.symm
  unfold F_X11_falls at hF
  refine lv_aload_n hx hb dX11_falls_0 rfl (lv_at hl 0 rfl) ?_
  refine lv_iload_n hx hb dX11_falls_1 rfl (lv_at hl 1 rfl) ?_
  refine lv_iload_n hx hb dX11_falls_2 rfl (lv_at hl 2 rfl) ?_
  refine q_ci (q_runV (As := [.int v1, .int v2]) (rest := []) E (hml.trans hl.1.symm) hI (c_X11_forecastStatus l X σ a v1 v2 ha) kv_X11_351 ha ⟨rfl, by decide⟩ (show vwCl[10]? = some (RX11, TX11, 17) from rfl) rfl ⟨Nat.le_of_ble_eq_true rfl, Nat.le_of_ble_eq_true rfl⟩ ⟨Nat.le_refl _, Nat.le_refl _⟩ rfl (Nat.le_of_ble_eq_true rfl) dX11_falls_3) hI (by decide) (fun r_1 σ_2 H locs hpσ_2 hkσ_2 hI => ?_)
  obtain ⟨ahpσ_2, bhpσ_2⟩ := hpσ_2
  rw [ahpσ_2] at hI
  replace hF := q_letX hF bhpσ_2
  refine lv_istore_n (lv' := [(3, .int r_1), (0, .ref a), (1, .int v1), (2, .int v2)]) hx hb dX11_falls_6 rfl hl (by decide) rfl (fun ls hl => ?_)
  refine lv_iload_n hx hb dX11_falls_7 rfl (lv_at hl 0 rfl) ?_
  refine q_if_ne (A := r_1.toInt) E rfl (tgt := 27) dX11_falls_8 (by decide) (fun c_3 => ?_) (fun c_3 => ?_)
  · skip
    replace hF := q_ifn hF c_3
    refine lv_aload_n hx hb dX11_falls_27 rfl (lv_at hl 1 rfl) ?_
    refine lv_iload_n hx hb dX11_falls_28 rfl (lv_at hl 0 rfl) ?_
    refine q_ci (q_runV (As := [.int r_1]) (rest := []) E (hml.trans hl.1.symm) hI (c_X11_none l X σ a r_1 ha) kv_X11_109 ha ⟨rfl, by decide⟩ (show vwCl[10]? = some (RX11, TX11, 17) from rfl) rfl ⟨Nat.le_of_ble_eq_true rfl, Nat.le_of_ble_eq_true rfl⟩ ⟨Nat.le_refl _, Nat.le_refl _⟩ rfl (Nat.le_of_ble_eq_true rfl) dX11_falls_29) hI (by decide) (fun r_4 σ_5 H locs hpσ_5 hkσ_5 hI => ?_)
    obtain ⟨ahpσ_5, bhpσ_5, chpσ_5⟩ := hpσ_5
    have fr_σ_5 := fr_σ.call chpσ_5 rfl rfl
    replace hF := q_biX hF bhpσ_5
    exact q_reti E hr hlk hI ⟨(hF.trans hout), fr_σ_5⟩ dX11_falls_32
  · skip
    replace hF := q_ifp hF c_3
    refine lv_aload_n hx hb dX11_falls_11 rfl (lv_at hl 1 rfl) ?_
    refine lv_aload_n hx hb dX11_falls_12 rfl (lv_at hl 1 rfl) ?_
    refine gs_X11_42_11 E hI ha dX11_falls_13 ?_
    refine lv_iload_n hx hb dX11_falls_16 rfl (lv_at hl 2 rfl) ?_
    refine lv_iload_n hx hb dX11_falls_17 rfl (lv_at hl 3 rfl) ?_
    refine q_ci (q_runV (As := [.int v1, .int v2]) (rest := [.ref a]) E (hml.trans hl.1.symm) hI (c_X0_fallingKind l X σ (q_rf X a 8) v1 v2 (q_tk (k' := 1) hI ha rfl (by decide))) kv_X11_354 (q_tk (k' := 1) hI ha rfl (by decide)) ⟨rfl, by decide⟩ (show vwCl[0]? = some (RX0, TX0, 15) from rfl) rfl ⟨Nat.le_of_ble_eq_true rfl, Nat.le_of_ble_eq_true rfl⟩ ⟨Nat.le_refl _, Nat.le_refl _⟩ rfl (Nat.le_of_ble_eq_true rfl) dX11_falls_18) hI (by decide) (fun r_6 σ_7 H locs hpσ_7 hkσ_7 hI => ?_)
    obtain ⟨ahpσ_7, bhpσ_7⟩ := hpσ_7
    rw [ahpσ_7] at hI
    replace hF := q_letX hF bhpσ_7
    refine q_ci (q_runV (As := [.int r_6]) (rest := []) E (hml.trans hl.1.symm) hI (c_X11_good l X σ a r_6 ha) kv_X11_156 ha ⟨rfl, by decide⟩ (show vwCl[10]? = some (RX11, TX11, 17) from rfl) rfl ⟨Nat.le_of_ble_eq_true rfl, Nat.le_of_ble_eq_true rfl⟩ ⟨Nat.le_refl _, Nat.le_refl _⟩ rfl (Nat.le_of_ble_eq_true rfl) dX11_falls_21) hI (by decide) (fun r_8 σ_9 H locs hpσ_9 hkσ_9 hI => ?_)
    obtain ⟨ahpσ_9, bhpσ_9, chpσ_9⟩ := hpσ_9
    have fr_σ_9 := fr_σ.call chpσ_9 rfl rfl
    replace hF := q_biX hF bhpσ_9
    refine lv_goto (tgt := 32) hx hb dX11_falls_24 (by decide) ?_
    exact q_reti E hr hlk hI ⟨(hF.trans hout), fr_σ_9⟩ dX11_falls_32

set_option maxRecDepth 100000 in
set_option maxHeartbeats 4000000 in
theorem c_X11_honestly (l : Launch) (X : XW) (σ : ST) (a : Nat) (v1 : Int32) (v2 : Int32) (ha : q_kd X a = 11) : Met l yX11_honestly (q_ws yX11_honestly cX11_honestly 4 (some .int)) (q_rm 5 114) (q_P X σ [.ref a, .int v1, .int v2]) (q_Qi X 8 σ (fun (r : Int32) (σ' : ST) => (r, σ') = F_X11_honestly X σ a v1 v2 ∧ q_ow [(1, 11), (1, 12), (1, 13), (1, 14), (11, 0), (20, 99)] [] X σ σ')) 0 0 (q_reg X) := by
  refine q_met 8 (by first | exact rfl | decide +kernel) rfl (Nat.le_of_ble_eq_true rfl) (fun p e s m below meth c E hml hr hlk hI ls hl => ?_)
  have hx := E.1
  have hb := E.2.1
  have hl : lv_has ls 4 [(0, .ref a), (1, .int v1), (2, .int v2)] := hl
  have fr_σ : q_ow [(1, 11), (1, 12), (1, 13), (1, 14), (11, 0), (20, 99)] [] X σ σ := q_ow.rf
  obtain ⟨out, hout⟩ : ∃ o, o = F_X11_honestly X σ a v1 v2 := ⟨_, rfl⟩
  have hF := hout.symm
  unfold F_X11_honestly at hF
  refine lv_aload_n hx hb dX11_honestly_0 rfl (lv_at hl 0 rfl) ?_
  refine lv_iload_n hx hb dX11_honestly_1 rfl (lv_at hl 1 rfl) ?_
  refine lv_iload_n hx hb dX11_honestly_2 rfl (lv_at hl 2 rfl) ?_
  refine q_ci (q_runV (As := [.int v1, .int v2]) (rest := []) E (hml.trans hl.1.symm) hI (c_X11_forecastStatus l X σ a v1 v2 ha) kv_X11_351 ha ⟨rfl, by decide⟩ (show vwCl[10]? = some (RX11, TX11, 17) from rfl) rfl ⟨Nat.le_of_ble_eq_true rfl, Nat.le_of_ble_eq_true rfl⟩ ⟨Nat.le_refl _, Nat.le_refl _⟩ rfl (Nat.le_of_ble_eq_true rfl) dX11_honestly_3) hI (by decide) (fun r_1 σ_2 H locs hpσ_2 hkσ_2 hI => ?_)
  obtain ⟨ahpσ_2, bhpσ_2⟩ := hpσ_2
  rw [ahpσ_2] at hI
  replace hF := q_letX hF bhpσ_2
  refine lv_istore_n (lv' := [(3, .int r_1), (0, .ref a), (1, .int v1), (2, .int v2)]) hx hb dX11_honestly_6 rfl hl (by decide) rfl (fun ls hl => ?_)
  refine lv_iload_n hx hb dX11_honestly_7 rfl (lv_at hl 0 rfl) ?_
  refine q_if_eq (A := r_1.toInt) E rfl (tgt := 17) dX11_honestly_8 (by decide) (fun c_3 => ?_) (fun c_3 => ?_)
  · skip
    replace hF := q_ifp hF c_3
    refine lv_aload_n hx hb dX11_honestly_17 rfl (lv_at hl 1 rfl) ?_
    refine gs_X11_42_11 E hI ha dX11_honestly_18 ?_
    refine lv_iload_n hx hb dX11_honestly_21 rfl (lv_at hl 2 rfl) ?_
    refine lv_iload_n hx hb dX11_honestly_22 rfl (lv_at hl 3 rfl) ?_
    refine q_cv (q_runV (As := [.int v1, .int v2]) (rest := []) E (hml.trans hl.1.symm) hI (c_X0_foresee l X σ (q_rf X a 8) v1 v2 (q_tk (k' := 1) hI ha rfl (by decide))) kv_X11_357 (q_tk (k' := 1) hI ha rfl (by decide)) ⟨rfl, by decide⟩ (show vwCl[0]? = some (RX0, TX0, 15) from rfl) rfl ⟨Nat.le_of_ble_eq_true rfl, Nat.le_of_ble_eq_true rfl⟩ ⟨Nat.le_refl _, Nat.le_refl _⟩ rfl (Nat.le_of_ble_eq_true rfl) dX11_honestly_23) hI (by decide) (fun σ_5 H locs hpσ_5 hkσ_5 hI => ?_)
    obtain ⟨ahpσ_5, bhpσ_5⟩ := hpσ_5
    have fr_σ_5 := fr_σ.call bhpσ_5 rfl rfl
    replace hF := q_letX hF ahpσ_5
    refine lv_aload_n hx hb dX11_honestly_26 rfl (lv_at hl 1 rfl) ?_
    refine lv_aload_n hx hb dX11_honestly_27 rfl (lv_at hl 1 rfl) ?_
    refine gs_X11_42_11 E hI ha dX11_honestly_28 ?_
    refine gs_X11_360_1 E hI (q_tk (k' := 1) hI ha rfl (by decide)) dX11_honestly_31 ?_
    refine lv_topi (fun f_6 ef_6 => ?_)
    replace hF := q_letX hF ef_6
    refine q_ci (q_runV (As := [.int f_6]) (rest := []) E (hml.trans hl.1.symm) hI (c_X11_good l X σ_5 a f_6 ha) kv_X11_156 ha ⟨rfl, by decide⟩ (show vwCl[10]? = some (RX11, TX11, 17) from rfl) rfl ⟨Nat.le_of_ble_eq_true rfl, Nat.le_of_ble_eq_true rfl⟩ ⟨Nat.le_refl _, Nat.le_refl _⟩ rfl (Nat.le_of_ble_eq_true rfl) dX11_honestly_34) hI (by decide) (fun r_7 σ_8 H locs hpσ_8 hkσ_8 hI => ?_)
    obtain ⟨ahpσ_8, bhpσ_8, chpσ_8⟩ := hpσ_8
    have fr_σ_8 := fr_σ_5.call chpσ_8 rfl rfl
    replace hF := q_biX hF bhpσ_8
    exact q_reti E hr hlk hI ⟨(hF.trans hout), fr_σ_8⟩ dX11_honestly_37
  · skip
    replace hF := q_ifn hF c_3
    refine lv_aload_n hx hb dX11_honestly_11 rfl (lv_at hl 1 rfl) ?_
    refine lv_iload_n hx hb dX11_honestly_12 rfl (lv_at hl 0 rfl) ?_
    refine q_ci (q_runV (As := [.int r_1]) (rest := []) E (hml.trans hl.1.symm) hI (c_X11_none l X σ a r_1 ha) kv_X11_109 ha ⟨rfl, by decide⟩ (show vwCl[10]? = some (RX11, TX11, 17) from rfl) rfl ⟨Nat.le_of_ble_eq_true rfl, Nat.le_of_ble_eq_true rfl⟩ ⟨Nat.le_refl _, Nat.le_refl _⟩ rfl (Nat.le_of_ble_eq_true rfl) dX11_honestly_13) hI (by decide) (fun r_9 σ_10 H locs hpσ_10 hkσ_10 hI => ?_)
    obtain ⟨ahpσ_10, bhpσ_10, chpσ_10⟩ := hpσ_10
    have fr_σ_10 := fr_σ.call chpσ_10 rfl rfl
    replace hF := q_biX hF bhpσ_10
    exact q_reti E hr hlk hI ⟨(hF.trans hout), fr_σ_10⟩ dX11_honestly_16

set_option maxRecDepth 100000 in
set_option maxHeartbeats 4000000 in
theorem c_X11_goodOrNotThere (l : Launch) (X : XW) (σ : ST) (a : Nat) (v1 : Int32) (ha : q_kd X a = 11) : Met l yX11_goodOrNotThere (q_ws yX11_goodOrNotThere cX11_goodOrNotThere 2 (some .int)) (q_rm 1 21) (q_P X σ [.ref a, .int v1]) (q_Qi X 8 σ (fun (r : Int32) (σ' : ST) => (r, σ') = F_X11_goodOrNotThere X σ a v1 ∧ q_ow [(11, 0)] [] X σ σ')) 0 0 (q_reg X) := by
  refine q_met 8 (by first | exact rfl | decide +kernel) rfl (Nat.le_of_ble_eq_true rfl) (fun p e s m below meth c E hml hr hlk hI ls hl => ?_)
  have hx := E.1
  have hb := E.2.1
  have hl : lv_has ls 2 [(0, .ref a), (1, .int v1)] := hl
  have fr_σ : q_ow [(11, 0)] [] X σ σ := q_ow.rf
  obtain ⟨out, hout⟩ : ∃ o, o = F_X11_goodOrNotThere X σ a v1 := ⟨_, rfl⟩
  have hF := hout.symm
  unfold F_X11_goodOrNotThere at hF
  refine lv_iload_n hx hb dX11_goodOrNotThere_0 rfl (lv_at hl 1 rfl) ?_
  refine lv_iconst (v := (-1)) hx hb dX11_goodOrNotThere_1 (by decide) ?_
  refine q_icmp_ne (A := v1.toInt) (B := (-1)) E rfl (by decide) (tgt := 14) dX11_goodOrNotThere_2 (by decide) (fun c_1 => ?_) (fun c_1 => ?_)
  · skip
    replace hF := q_ifn hF c_1
    refine lv_aload_n hx hb dX11_goodOrNotThere_14 rfl (lv_at hl 0 rfl) ?_
    refine lv_iload_n hx hb dX11_goodOrNotThere_15 rfl (lv_at hl 1 rfl) ?_
    refine q_ci (q_runV (As := [.int v1]) (rest := []) E (hml.trans hl.1.symm) hI (c_X11_good l X σ a v1 ha) kv_X11_156 ha ⟨rfl, by decide⟩ (show vwCl[10]? = some (RX11, TX11, 17) from rfl) rfl ⟨Nat.le_of_ble_eq_true rfl, Nat.le_of_ble_eq_true rfl⟩ ⟨Nat.le_refl _, Nat.le_refl _⟩ rfl (Nat.le_of_ble_eq_true rfl) dX11_goodOrNotThere_16) hI (by decide) (fun r_2 σ_3 H locs hpσ_3 hkσ_3 hI => ?_)
    obtain ⟨ahpσ_3, bhpσ_3, chpσ_3⟩ := hpσ_3
    have fr_σ_3 := fr_σ.call chpσ_3 rfl rfl
    replace hF := q_biX hF bhpσ_3
    exact q_reti E hr hlk hI ⟨(hF.trans hout), fr_σ_3⟩ dX11_goodOrNotThere_19
  · skip
    replace hF := q_ifp hF c_1
    refine lv_aload_n hx hb dX11_goodOrNotThere_5 rfl (lv_at hl 0 rfl) ?_
    refine lv_bipush (v := 8) hx hb dX11_goodOrNotThere_6 (by decide) ?_
    have kc_4 : (8 : Int32).toInt = 8 := rfl
    refine q_ci (q_runV (As := [.int 8]) (rest := []) E (hml.trans hl.1.symm) hI (c_X11_none l X σ a (8 : Int32) ha) kv_X11_109 ha ⟨rfl, by decide⟩ (show vwCl[10]? = some (RX11, TX11, 17) from rfl) rfl ⟨Nat.le_of_ble_eq_true rfl, Nat.le_of_ble_eq_true rfl⟩ ⟨Nat.le_refl _, Nat.le_refl _⟩ rfl (Nat.le_of_ble_eq_true rfl) dX11_goodOrNotThere_8) hI (by decide) (fun r_5 σ_6 H locs hpσ_6 hkσ_6 hI => ?_)
    obtain ⟨ahpσ_6, bhpσ_6, chpσ_6⟩ := hpσ_6
    have fr_σ_6 := fr_σ.call chpσ_6 rfl rfl
    replace hF := q_biX hF bhpσ_6
    refine lv_goto (tgt := 19) hx hb dX11_goodOrNotThere_11 (by decide) ?_
    exact q_reti E hr hlk hI ⟨(hF.trans hout), fr_σ_6⟩ dX11_goodOrNotThere_19

set_option maxRecDepth 100000 in
set_option maxHeartbeats 4000000 in
theorem c_X11_rid (l : Launch) (X : XW) (σ : ST) (a : Nat) (v1 : Int32) (ha : q_kd X a = 11) : Met l yX11_rid (q_ws yX11_rid cX11_rid 2 (some .int)) (q_rm 5 114) (q_P X σ [.ref a, .int v1]) (q_Qi X 8 σ (fun (r : Int32) (σ' : ST) => (r, σ') = F_X11_rid X σ a v1 ∧ q_ow [(1, 11), (1, 12), (1, 13), (1, 14), (11, 0), (20, 99)] [] X σ σ')) 0 0 (q_reg X) := by
  refine q_met 8 (by first | exact rfl | decide +kernel) rfl (Nat.le_of_ble_eq_true rfl) (fun p e s m below meth c E hml hr hlk hI ls hl => ?_)
  have hx := E.1
  have hb := E.2.1
  have hl : lv_has ls 2 [(0, .ref a), (1, .int v1)] := hl
  have fr_σ : q_ow [(1, 11), (1, 12), (1, 13), (1, 14), (11, 0), (20, 99)] [] X σ σ := q_ow.rf
  obtain ⟨out, hout⟩ : ∃ o, o = F_X11_rid X σ a v1 := ⟨_, rfl⟩
  have hF := hout.symm
  unfold F_X11_rid at hF
  refine lv_aload_n hx hb dX11_rid_0 rfl (lv_at hl 0 rfl) ?_
  refine lv_iload_n hx hb dX11_rid_1 rfl (lv_at hl 1 rfl) ?_
  refine q_ci (q_runV (As := [.int v1]) (rest := []) E (hml.trans hl.1.symm) hI (c_X11_isPlayer l X σ a v1 ha) kv_X11_219 ha ⟨rfl, by decide⟩ (show vwCl[10]? = some (RX11, TX11, 17) from rfl) rfl ⟨Nat.le_of_ble_eq_true rfl, Nat.le_of_ble_eq_true rfl⟩ ⟨Nat.le_refl _, Nat.le_refl _⟩ rfl (Nat.le_of_ble_eq_true rfl) dX11_rid_2) hI (by decide) (fun r_1 σ_2 H locs hpσ_2 hkσ_2 hI => ?_)
  obtain ⟨ahpσ_2, bhpσ_2, chpσ_2⟩ := hpσ_2
  rw [ahpσ_2] at hI
  replace hF := q_letX hF chpσ_2
  refine q_if_ne (A := r_1.toInt) E rfl (tgt := 14) dX11_rid_5 (by decide) (fun c_3 => ?_) (fun c_3 => ?_)
  · skip
    replace hF := q_ifn hF c_3
    replace c_3 := q_ifOne bhpσ_2 c_3
    refine lv_aload_n hx hb dX11_rid_14 rfl (lv_at hl 0 rfl) ?_
    refine gs_X11_42_11 E hI ha dX11_rid_15 ?_
    refine lv_iload_n hx hb dX11_rid_18 rfl (lv_at hl 1 rfl) ?_
    refine lv_bipush (v := 60) hx hb dX11_rid_19 (by decide) ?_
    have kc_4 : (60 : Int32).toInt = 60 := rfl
    refine q_cv (q_runV (As := [.int v1, .int 60]) (rest := []) E (hml.trans hl.1.symm) hI (c_X0_foresee l X σ (q_rf X a 8) v1 (60 : Int32) (q_tk (k' := 1) hI ha rfl (by decide))) kv_X11_357 (q_tk (k' := 1) hI ha rfl (by decide)) ⟨rfl, by decide⟩ (show vwCl[0]? = some (RX0, TX0, 15) from rfl) rfl ⟨Nat.le_of_ble_eq_true rfl, Nat.le_of_ble_eq_true rfl⟩ ⟨Nat.le_refl _, Nat.le_refl _⟩ rfl (Nat.le_of_ble_eq_true rfl) dX11_rid_21) hI (by decide) (fun σ_6 H locs hpσ_6 hkσ_6 hI => ?_)
    obtain ⟨ahpσ_6, bhpσ_6⟩ := hpσ_6
    have fr_σ_6 := fr_σ.call bhpσ_6 rfl rfl
    replace hF := q_letX hF ahpσ_6
    refine lv_aload_n hx hb dX11_rid_24 rfl (lv_at hl 0 rfl) ?_
    refine lv_aload_n hx hb dX11_rid_25 rfl (lv_at hl 0 rfl) ?_
    refine gs_X11_42_11 E hI ha dX11_rid_26 ?_
    refine gs_X11_363_1 E hI (q_tk (k' := 1) hI ha rfl (by decide)) dX11_rid_29 ?_
    refine lv_topi (fun f_7 ef_7 => ?_)
    replace hF := q_letX hF ef_7
    refine q_ci (q_runV (As := [.int f_7]) (rest := []) E (hml.trans hl.1.symm) hI (c_X11_goodOrNotThere l X σ_6 a f_7 ha) kv_X11_366 ha ⟨rfl, by decide⟩ (show vwCl[10]? = some (RX11, TX11, 17) from rfl) rfl ⟨Nat.le_of_ble_eq_true rfl, Nat.le_of_ble_eq_true rfl⟩ ⟨Nat.le_refl _, Nat.le_refl _⟩ rfl (Nat.le_of_ble_eq_true rfl) dX11_rid_32) hI (by decide) (fun r_8 σ_9 H locs hpσ_9 hkσ_9 hI => ?_)
    obtain ⟨ahpσ_9, bhpσ_9⟩ := hpσ_9
    have fr_σ_9 := fr_σ_6.call bhpσ_9 rfl rfl
    replace hF := q_biX hF ahpσ_9
    exact q_reti E hr hlk hI ⟨(hF.trans hout), fr_σ_9⟩ dX11_rid_35
  · skip
    replace hF := q_ifp hF c_3
    refine lv_aload_n hx hb dX11_rid_8 rfl (lv_at hl 0 rfl) ?_
    refine lv_iconst (v := 2) hx hb dX11_rid_9 (by decide) ?_
    have kc_10 : (2 : Int32).toInt = 2 := rfl
    refine q_ci (q_runV (As := [.int 2]) (rest := []) E (hml.trans hl.1.symm) hI (c_X11_none l X σ a (2 : Int32) ha) kv_X11_109 ha ⟨rfl, by decide⟩ (show vwCl[10]? = some (RX11, TX11, 17) from rfl) rfl ⟨Nat.le_of_ble_eq_true rfl, Nat.le_of_ble_eq_true rfl⟩ ⟨Nat.le_refl _, Nat.le_refl _⟩ rfl (Nat.le_of_ble_eq_true rfl) dX11_rid_10) hI (by decide) (fun r_11 σ_12 H locs hpσ_12 hkσ_12 hI => ?_)
    obtain ⟨ahpσ_12, bhpσ_12, chpσ_12⟩ := hpσ_12
    have fr_σ_12 := fr_σ.call chpσ_12 rfl rfl
    replace hF := q_biX hF bhpσ_12
    exact q_reti E hr hlk hI ⟨(hF.trans hout), fr_σ_12⟩ dX11_rid_13

set_option maxRecDepth 100000 in
set_option maxHeartbeats 4000000 in
theorem c_X11_lastKind (l : Launch) (X : XW) (σ : ST) (a : Nat) (v1 : Int32) (ha : q_kd X a = 11) : Met l yX11_lastKind (q_ws yX11_lastKind cX11_lastKind 2 (some .int)) (q_rm 5 114) (q_P X σ [.ref a, .int v1]) (q_Qi X 8 σ (fun (r : Int32) (σ' : ST) => (r, σ') = F_X11_lastKind X σ a v1 ∧ q_ow [(1, 11), (1, 12), (1, 13), (1, 14), (11, 0), (20, 99)] [] X σ σ')) 0 0 (q_reg X) := by
  refine q_met 8 (by first | exact rfl | decide +kernel) rfl (Nat.le_of_ble_eq_true rfl) (fun p e s m below meth c E hml hr hlk hI ls hl => ?_)
  have hx := E.1
  have hb := E.2.1
  have hl : lv_has ls 2 [(0, .ref a), (1, .int v1)] := hl
  have fr_σ : q_ow [(1, 11), (1, 12), (1, 13), (1, 14), (11, 0), (20, 99)] [] X σ σ := q_ow.rf
  obtain ⟨out, hout⟩ : ∃ o, o = F_X11_lastKind X σ a v1 := ⟨_, rfl⟩
  have hF := hout.symm
  unfold F_X11_lastKind at hF
  refine lv_aload_n hx hb dX11_lastKind_0 rfl (lv_at hl 0 rfl) ?_
  refine lv_iload_n hx hb dX11_lastKind_1 rfl (lv_at hl 1 rfl) ?_
  refine q_ci (q_runV (As := [.int v1]) (rest := []) E (hml.trans hl.1.symm) hI (c_X11_isPlayer l X σ a v1 ha) kv_X11_219 ha ⟨rfl, by decide⟩ (show vwCl[10]? = some (RX11, TX11, 17) from rfl) rfl ⟨Nat.le_of_ble_eq_true rfl, Nat.le_of_ble_eq_true rfl⟩ ⟨Nat.le_refl _, Nat.le_refl _⟩ rfl (Nat.le_of_ble_eq_true rfl) dX11_lastKind_2) hI (by decide) (fun r_1 σ_2 H locs hpσ_2 hkσ_2 hI => ?_)
  obtain ⟨ahpσ_2, bhpσ_2, chpσ_2⟩ := hpσ_2
  rw [ahpσ_2] at hI
  replace hF := q_letX hF chpσ_2
  refine q_if_ne (A := r_1.toInt) E rfl (tgt := 14) dX11_lastKind_5 (by decide) (fun c_3 => ?_) (fun c_3 => ?_)
  · skip
    replace hF := q_ifn hF c_3
    replace c_3 := q_ifOne bhpσ_2 c_3
    refine lv_aload_n hx hb dX11_lastKind_14 rfl (lv_at hl 0 rfl) ?_
    refine gs_X11_42_11 E hI ha dX11_lastKind_15 ?_
    refine lv_iload_n hx hb dX11_lastKind_18 rfl (lv_at hl 1 rfl) ?_
    refine lv_bipush (v := 60) hx hb dX11_lastKind_19 (by decide) ?_
    have kc_4 : (60 : Int32).toInt = 60 := rfl
    refine q_cv (q_runV (As := [.int v1, .int 60]) (rest := []) E (hml.trans hl.1.symm) hI (c_X0_foresee l X σ (q_rf X a 8) v1 (60 : Int32) (q_tk (k' := 1) hI ha rfl (by decide))) kv_X11_357 (q_tk (k' := 1) hI ha rfl (by decide)) ⟨rfl, by decide⟩ (show vwCl[0]? = some (RX0, TX0, 15) from rfl) rfl ⟨Nat.le_of_ble_eq_true rfl, Nat.le_of_ble_eq_true rfl⟩ ⟨Nat.le_refl _, Nat.le_refl _⟩ rfl (Nat.le_of_ble_eq_true rfl) dX11_lastKind_21) hI (by decide) (fun σ_6 H locs hpσ_6 hkσ_6 hI => ?_)
    obtain ⟨ahpσ_6, bhpσ_6⟩ := hpσ_6
    have fr_σ_6 := fr_σ.call bhpσ_6 rfl rfl
    replace hF := q_letX hF ahpσ_6
    refine lv_aload_n hx hb dX11_lastKind_24 rfl (lv_at hl 0 rfl) ?_
    refine lv_aload_n hx hb dX11_lastKind_25 rfl (lv_at hl 0 rfl) ?_
    refine gs_X11_42_11 E hI ha dX11_lastKind_26 ?_
    refine gs_X11_363_1 E hI (q_tk (k' := 1) hI ha rfl (by decide)) dX11_lastKind_29 ?_
    refine lv_topi (fun f_7 ef_7 => ?_)
    replace hF := q_letX hF ef_7
    refine lv_iconst (v := (-1)) hx hb dX11_lastKind_32 (by decide) ?_
    refine q_icmp_ne (A := f_7.toInt) (B := (-1)) E rfl (by decide) (tgt := 40) dX11_lastKind_33 (by decide) (fun c_8 => ?_) (fun c_8 => ?_)
    · skip
      replace hF := q_ifn hF c_8
      refine lv_aload_n hx hb dX11_lastKind_40 rfl (lv_at hl 0 rfl) ?_
      refine gs_X11_42_11 E hI ha dX11_lastKind_41 ?_
      refine gs_X11_369_1 E hI (q_tk (k' := 1) hI ha rfl (by decide)) dX11_lastKind_44 ?_
      refine lv_topi (fun f_9 ef_9 => ?_)
      replace hF := q_letX hF ef_9
      refine q_ci (q_runV (As := [.int f_9]) (rest := []) E (hml.trans hl.1.symm) hI (c_X11_goodOrNotThere l X σ_6 a f_9 ha) kv_X11_366 ha ⟨rfl, by decide⟩ (show vwCl[10]? = some (RX11, TX11, 17) from rfl) rfl ⟨Nat.le_of_ble_eq_true rfl, Nat.le_of_ble_eq_true rfl⟩ ⟨Nat.le_refl _, Nat.le_refl _⟩ rfl (Nat.le_of_ble_eq_true rfl) dX11_lastKind_47) hI (by decide) (fun r_10 σ_11 H locs hpσ_11 hkσ_11 hI => ?_)
      obtain ⟨ahpσ_11, bhpσ_11⟩ := hpσ_11
      have fr_σ_11 := fr_σ_6.call bhpσ_11 rfl rfl
      replace hF := q_biX hF ahpσ_11
      exact q_reti E hr hlk hI ⟨(hF.trans hout), fr_σ_11⟩ dX11_lastKind_50
    · skip
      replace hF := q_ifp hF c_8
      refine lv_iconst (v := (-1)) hx hb dX11_lastKind_36 (by decide) ?_
      refine lv_goto (tgt := 47) hx hb dX11_lastKind_37 (by decide) ?_
      have kc_12 : ((-1) : Int32).toInt = (-1) := rfl
      refine q_ci (q_runV (As := [.int (-1)]) (rest := []) E (hml.trans hl.1.symm) hI (c_X11_goodOrNotThere l X σ_6 a ((-1) : Int32) ha) kv_X11_366 ha ⟨rfl, by decide⟩ (show vwCl[10]? = some (RX11, TX11, 17) from rfl) rfl ⟨Nat.le_of_ble_eq_true rfl, Nat.le_of_ble_eq_true rfl⟩ ⟨Nat.le_refl _, Nat.le_refl _⟩ rfl (Nat.le_of_ble_eq_true rfl) dX11_lastKind_47) hI (by decide) (fun r_13 σ_14 H locs hpσ_14 hkσ_14 hI => ?_)
      obtain ⟨ahpσ_14, bhpσ_14⟩ := hpσ_14
      have fr_σ_14 := fr_σ_6.call bhpσ_14 rfl rfl
      replace hF := q_biX hF ahpσ_14
      exact q_reti E hr hlk hI ⟨(hF.trans hout), fr_σ_14⟩ dX11_lastKind_50
  · skip
    replace hF := q_ifp hF c_3
    refine lv_aload_n hx hb dX11_lastKind_8 rfl (lv_at hl 0 rfl) ?_
    refine lv_iconst (v := 2) hx hb dX11_lastKind_9 (by decide) ?_
    have kc_15 : (2 : Int32).toInt = 2 := rfl
    refine q_ci (q_runV (As := [.int 2]) (rest := []) E (hml.trans hl.1.symm) hI (c_X11_none l X σ a (2 : Int32) ha) kv_X11_109 ha ⟨rfl, by decide⟩ (show vwCl[10]? = some (RX11, TX11, 17) from rfl) rfl ⟨Nat.le_of_ble_eq_true rfl, Nat.le_of_ble_eq_true rfl⟩ ⟨Nat.le_refl _, Nat.le_refl _⟩ rfl (Nat.le_of_ble_eq_true rfl) dX11_lastKind_10) hI (by decide) (fun r_16 σ_17 H locs hpσ_17 hkσ_17 hI => ?_)
    obtain ⟨ahpσ_17, bhpσ_17, chpσ_17⟩ := hpσ_17
    have fr_σ_17 := fr_σ.call chpσ_17 rfl rfl
    replace hF := q_biX hF bhpσ_17
    exact q_reti E hr hlk hI ⟨(hF.trans hout), fr_σ_17⟩ dX11_lastKind_13

set_option maxRecDepth 100000 in
set_option maxHeartbeats 4000000 in
theorem c_X11_mustLie (l : Launch) (X : XW) (σ : ST) (a : Nat) (v1 : Int32) (ha : q_kd X a = 11) : Met l yX11_mustLie (q_ws yX11_mustLie cX11_mustLie 2 (some .int)) (q_rm 5 114) (q_P X σ [.ref a, .int v1]) (q_Qi X 8 σ (fun (r : Int32) (σ' : ST) => (r, σ') = F_X11_mustLie X σ a v1 ∧ q_ow [(1, 11), (1, 12), (1, 13), (1, 14), (11, 0), (20, 99)] [] X σ σ')) 0 0 (q_reg X) := by
  refine q_met 8 (by first | exact rfl | decide +kernel) rfl (Nat.le_of_ble_eq_true rfl) (fun p e s m below meth c E hml hr hlk hI ls hl => ?_)
  have hx := E.1
  have hb := E.2.1
  have hl : lv_has ls 2 [(0, .ref a), (1, .int v1)] := hl
  have fr_σ : q_ow [(1, 11), (1, 12), (1, 13), (1, 14), (11, 0), (20, 99)] [] X σ σ := q_ow.rf
  obtain ⟨out, hout⟩ : ∃ o, o = F_X11_mustLie X σ a v1 := ⟨_, rfl⟩
  have hF := hout.symm
  unfold F_X11_mustLie at hF
  refine lv_aload_n hx hb dX11_mustLie_0 rfl (lv_at hl 0 rfl) ?_
  refine lv_iload_n hx hb dX11_mustLie_1 rfl (lv_at hl 1 rfl) ?_
  refine q_ci (q_runV (As := [.int v1]) (rest := []) E (hml.trans hl.1.symm) hI (c_X11_isPlayer l X σ a v1 ha) kv_X11_219 ha ⟨rfl, by decide⟩ (show vwCl[10]? = some (RX11, TX11, 17) from rfl) rfl ⟨Nat.le_of_ble_eq_true rfl, Nat.le_of_ble_eq_true rfl⟩ ⟨Nat.le_refl _, Nat.le_refl _⟩ rfl (Nat.le_of_ble_eq_true rfl) dX11_mustLie_2) hI (by decide) (fun r_1 σ_2 H locs hpσ_2 hkσ_2 hI => ?_)
  obtain ⟨ahpσ_2, bhpσ_2, chpσ_2⟩ := hpσ_2
  rw [ahpσ_2] at hI
  replace hF := q_letX hF chpσ_2
  refine q_if_ne (A := r_1.toInt) E rfl (tgt := 14) dX11_mustLie_5 (by decide) (fun c_3 => ?_) (fun c_3 => ?_)
  · skip
    replace hF := q_ifn hF c_3
    replace c_3 := q_ifOne bhpσ_2 c_3
    refine lv_aload_n hx hb dX11_mustLie_14 rfl (lv_at hl 0 rfl) ?_
    refine gs_X11_42_11 E hI ha dX11_mustLie_15 ?_
    refine lv_iload_n hx hb dX11_mustLie_18 rfl (lv_at hl 1 rfl) ?_
    refine lv_bipush (v := 60) hx hb dX11_mustLie_19 (by decide) ?_
    have kc_4 : (60 : Int32).toInt = 60 := rfl
    refine q_cv (q_runV (As := [.int v1, .int 60]) (rest := []) E (hml.trans hl.1.symm) hI (c_X0_foresee l X σ (q_rf X a 8) v1 (60 : Int32) (q_tk (k' := 1) hI ha rfl (by decide))) kv_X11_357 (q_tk (k' := 1) hI ha rfl (by decide)) ⟨rfl, by decide⟩ (show vwCl[0]? = some (RX0, TX0, 15) from rfl) rfl ⟨Nat.le_of_ble_eq_true rfl, Nat.le_of_ble_eq_true rfl⟩ ⟨Nat.le_refl _, Nat.le_refl _⟩ rfl (Nat.le_of_ble_eq_true rfl) dX11_mustLie_21) hI (by decide) (fun σ_6 H locs hpσ_6 hkσ_6 hI => ?_)
    obtain ⟨ahpσ_6, bhpσ_6⟩ := hpσ_6
    have fr_σ_6 := fr_σ.call bhpσ_6 rfl rfl
    replace hF := q_letX hF ahpσ_6
    refine lv_aload_n hx hb dX11_mustLie_24 rfl (lv_at hl 0 rfl) ?_
    refine lv_aload_n hx hb dX11_mustLie_25 rfl (lv_at hl 0 rfl) ?_
    refine gs_X11_42_11 E hI ha dX11_mustLie_26 ?_
    refine gs_X11_372_1 E hI (q_tk (k' := 1) hI ha rfl (by decide)) dX11_mustLie_29 ?_
    refine lv_topi (fun f_7 ef_7 => ?_)
    replace hF := q_letX hF ef_7
    refine q_ci (q_runV (As := [.int f_7]) (rest := []) E (hml.trans hl.1.symm) hI (c_X11_goodOrNotThere l X σ_6 a f_7 ha) kv_X11_366 ha ⟨rfl, by decide⟩ (show vwCl[10]? = some (RX11, TX11, 17) from rfl) rfl ⟨Nat.le_of_ble_eq_true rfl, Nat.le_of_ble_eq_true rfl⟩ ⟨Nat.le_refl _, Nat.le_refl _⟩ rfl (Nat.le_of_ble_eq_true rfl) dX11_mustLie_32) hI (by decide) (fun r_8 σ_9 H locs hpσ_9 hkσ_9 hI => ?_)
    obtain ⟨ahpσ_9, bhpσ_9⟩ := hpσ_9
    have fr_σ_9 := fr_σ_6.call bhpσ_9 rfl rfl
    replace hF := q_biX hF ahpσ_9
    exact q_reti E hr hlk hI ⟨(hF.trans hout), fr_σ_9⟩ dX11_mustLie_35
  · skip
    replace hF := q_ifp hF c_3
    refine lv_aload_n hx hb dX11_mustLie_8 rfl (lv_at hl 0 rfl) ?_
    refine lv_iconst (v := 2) hx hb dX11_mustLie_9 (by decide) ?_
    have kc_10 : (2 : Int32).toInt = 2 := rfl
    refine q_ci (q_runV (As := [.int 2]) (rest := []) E (hml.trans hl.1.symm) hI (c_X11_none l X σ a (2 : Int32) ha) kv_X11_109 ha ⟨rfl, by decide⟩ (show vwCl[10]? = some (RX11, TX11, 17) from rfl) rfl ⟨Nat.le_of_ble_eq_true rfl, Nat.le_of_ble_eq_true rfl⟩ ⟨Nat.le_refl _, Nat.le_refl _⟩ rfl (Nat.le_of_ble_eq_true rfl) dX11_mustLie_10) hI (by decide) (fun r_11 σ_12 H locs hpσ_12 hkσ_12 hI => ?_)
    obtain ⟨ahpσ_12, bhpσ_12, chpσ_12⟩ := hpσ_12
    have fr_σ_12 := fr_σ.call chpσ_12 rfl rfl
    replace hF := q_biX hF bhpσ_12
    exact q_reti E hr hlk hI ⟨(hF.trans hout), fr_σ_12⟩ dX11_mustLie_13

set_option maxRecDepth 100000 in
set_option maxHeartbeats 4000000 in
theorem c_X11_soonest (l : Launch) (X : XW) (σ : ST) (a : Nat) (ha : q_kd X a = 11) : Met l yX11_soonest (q_ws yX11_soonest cX11_soonest 4 (some .int)) (q_rm 5 114) (q_P X σ [.ref a]) (q_Qi X 8 σ (fun (r : Int32) (σ' : ST) => (r, σ') = F_X11_soonest X σ a ∧ q_ow [(1, 11), (1, 12), (1, 13), (1, 14), (11, 0), (20, 99)] [] X σ σ')) 0 0 (q_reg X) := by
  refine q_met 8 (by first | exact rfl | decide +kernel) rfl (Nat.le_of_ble_eq_true rfl) (fun p e s m below meth c E hml hr hlk hI ls hl => ?_)
  have hx := E.1
  have hb := E.2.1
  have hl : lv_has ls 4 [(0, .ref a)] := hl
  have fr_σ : q_ow [(1, 11), (1, 12), (1, 13), (1, 14), (11, 0), (20, 99)] [] X σ σ := q_ow.rf
  obtain ⟨out, hout⟩ : ∃ o, o = F_X11_soonest X σ a := ⟨_, rfl⟩
  have hF := hout.symm
  unfold F_X11_soonest at hF
  refine lv_iconst (v := (-1)) hx hb dX11_soonest_0 (by decide) ?_
  refine lv_istore_n (lv' := [(1, .int (-1)), (0, .ref a)]) hx hb dX11_soonest_1 rfl hl (by decide) rfl (fun ls hl => ?_)
  refine lv_bipush (v := 61) hx hb dX11_soonest_2 (by decide) ?_
  refine lv_istore_n (lv' := [(2, .int 61), (1, .int (-1)), (0, .ref a)]) hx hb dX11_soonest_4 rfl hl (by decide) rfl (fun ls hl => ?_)
  refine lv_iconst (v := 0) hx hb dX11_soonest_5 (by decide) ?_
  refine lv_istore_n (lv' := [(3, .int 0), (2, .int 61), (1, .int (-1)), (0, .ref a)]) hx hb dX11_soonest_6 rfl hl (by decide) rfl (fun ls hl => ?_)
  have L_7_5 : ∀ (k_5 : Nat) (x_1 : Int32) (x_2 : Int32) (x_3 : Int32) (σ_4 : ST) (H : Heap) (locs : List Loc) (ls : Array Slot), (2147483647 - x_3.toInt).toNat < k_5 → (0 ≤ x_3.toInt) → (q_ow [(1, 11), (1, 12), (1, 13), (1, 14), (11, 0), (20, 99)] [] X σ σ_4) → (F_X11_soonest_L7_1 X a k_5 x_1 x_2 x_3 σ_4 = out) → q_I X 8 σ s.heap locs σ_4 H → lv_has ls 4 [(0, .ref a), (1, .int x_1), (2, .int x_2), (3, .int x_3)] → W p l e (q_rm 5 114) s m ([.ref a] : List Value).toArray below meth c H locs 0 0 (MQ below (q_Qi X 8 σ (fun (r : Int32) (σ' : ST) => (r, σ') = F_X11_soonest X σ a ∧ q_ow [(1, 11), (1, 12), (1, 13), (1, 14), (11, 0), (20, 99)] [] X σ σ')) ([.ref a] : List Value).toArray s 0 0 (q_reg X)) (F0 m 7 ls []) := by
    clear hF
    intro k_5
    induction k_5 with
    | zero =>
      intro x_1 x_2 x_3 σ_4 H locs ls hms
      exact absurd hms (Nat.not_lt_zero _)
    | succ k_5 ih7 =>
      intro x_1 x_2 x_3 σ_4 H locs ls hm7 hge7 fr_σ_4 hF hI hl
      replace hF := (F_X11_soonest_L7_1_s).symm.trans hF
      unfold F_X11_soonest_B7_1 at hF
      refine lv_iload_n hx hb dX11_soonest_7 rfl (lv_at hl 3 rfl) ?_
      refine lv_aload_n hx hb dX11_soonest_8 rfl (lv_at hl 0 rfl) ?_
      refine gs_X11_42_11 E hI ha dX11_soonest_9 ?_
      refine gs_X11_147_1 E hI (q_tk (k' := 1) hI ha rfl (by decide)) dX11_soonest_12 ?_
      refine gs_X11_151_6 E hI (q_tk (k' := 6) hI (q_tk (k' := 1) hI ha rfl (by decide)) rfl (by decide)) dX11_soonest_15 ?_
      refine lv_topi (fun f_6 ef_6 => ?_)
      replace hF := q_letX hF ef_6
      have gc_7_x_3 := q_rng x_3
      have gc_7_f_6 := q_rng f_6
      refine q_icmp_ge (A := x_3.toInt) (B := f_6.toInt) E rfl rfl (tgt := 69) dX11_soonest_18 (by decide) (fun c_7 => ?_) (fun c_7 => ?_)
      · skip
        replace hF := q_ifn hF (Int.not_lt.mpr c_7)
        unfold F_X11_soonest_E69_2 at hF
        refine lv_aload_n hx hb dX11_soonest_69 rfl (lv_at hl 0 rfl) ?_
        refine lv_iload_n hx hb dX11_soonest_70 rfl (lv_at hl 1 rfl) ?_
        refine q_ci (q_runV (As := [.int x_1]) (rest := []) E (hml.trans hl.1.symm) hI (c_X11_goodOrNotThere l X σ_4 a x_1 ha) kv_X11_366 ha ⟨rfl, by decide⟩ (show vwCl[10]? = some (RX11, TX11, 17) from rfl) rfl ⟨Nat.le_of_ble_eq_true rfl, Nat.le_of_ble_eq_true rfl⟩ ⟨Nat.le_refl _, Nat.le_refl _⟩ rfl (Nat.le_of_ble_eq_true rfl) dX11_soonest_71) hI (by decide) (fun r_8 σ_9 H locs hpσ_9 hkσ_9 hI => ?_)
        obtain ⟨ahpσ_9, bhpσ_9⟩ := hpσ_9
        have fr_σ_9 := fr_σ_4.call bhpσ_9 rfl rfl
        replace hF := q_biX hF ahpσ_9
        exact q_reti E hr hlk hI ⟨(hF.trans hout), fr_σ_9⟩ dX11_soonest_74
      · skip
        replace hF := q_ifp hF c_7
        refine lv_aload_n hx hb dX11_soonest_21 rfl (lv_at hl 0 rfl) ?_
        refine gs_X11_42_11 E hI ha dX11_soonest_22 ?_
        refine lv_iload_n hx hb dX11_soonest_25 rfl (lv_at hl 3 rfl) ?_
        refine lv_bipush (v := 60) hx hb dX11_soonest_26 (by decide) ?_
        have kc_10 : (60 : Int32).toInt = 60 := rfl
        refine q_cv (q_runV (As := [.int x_3, .int 60]) (rest := []) E (hml.trans hl.1.symm) hI (c_X0_foresee l X σ_4 (q_rf X a 8) x_3 (60 : Int32) (q_tk (k' := 1) hI ha rfl (by decide))) kv_X11_357 (q_tk (k' := 1) hI ha rfl (by decide)) ⟨rfl, by decide⟩ (show vwCl[0]? = some (RX0, TX0, 15) from rfl) rfl ⟨Nat.le_of_ble_eq_true rfl, Nat.le_of_ble_eq_true rfl⟩ ⟨Nat.le_refl _, Nat.le_refl _⟩ rfl (Nat.le_of_ble_eq_true rfl) dX11_soonest_28) hI (by decide) (fun σ_12 H locs hpσ_12 hkσ_12 hI => ?_)
        obtain ⟨ahpσ_12, bhpσ_12⟩ := hpσ_12
        have fr_σ_12 := fr_σ_4.call bhpσ_12 rfl rfl
        replace hF := q_letX hF ahpσ_12
        refine lv_aload_n hx hb dX11_soonest_31 rfl (lv_at hl 0 rfl) ?_
        refine gs_X11_42_11 E hI ha dX11_soonest_32 ?_
        refine gs_X11_363_1 E hI (q_tk (k' := 1) hI ha rfl (by decide)) dX11_soonest_35 ?_
        refine lv_topi (fun f_13 ef_13 => ?_)
        replace hF := q_letX hF ef_13
        refine lv_iconst (v := (-1)) hx hb dX11_soonest_38 (by decide) ?_
        have gc_14_f_13 := q_rng f_13
        refine q_icmp_eq (A := f_13.toInt) (B := (-1)) E rfl (by decide) (tgt := 63) dX11_soonest_39 (by decide) (fun c_14 => ?_) (fun c_14 => ?_)
        · skip
          replace hF := q_ifp hF c_14
          obtain ⟨z_15, ez_15⟩ : ∃ y : Int32, y = x_3 + 1 := ⟨_, rfl⟩
          replace hF := q_letX hF ez_15
          refine lv_iinc (v := z_15) (lv' := [(3, .int z_15), (0, .ref a), (1, .int x_1), (2, .int x_2)]) hx hb dX11_soonest_63 hl (k := 3) rfl (by rw [ez_15]; rfl) (by decide) rfl (fun ls hl => ?_)
          have iz_15 : z_15.toInt = x_3.toInt + 1 := q_inc ez_15 (by omega)
          refine lv_goto (tgt := 7) hx hb dX11_soonest_66 (by decide) ?_
          exact ih7 x_1 x_2 z_15 σ_12 _ _ ls (by omega) (by omega) fr_σ_12 hF hI (lv_sub hl [1, 2, 3, 0] rfl)
        · skip
          replace hF := q_ifn hF c_14
          refine lv_aload_n hx hb dX11_soonest_42 rfl (lv_at hl 0 rfl) ?_
          refine gs_X11_42_11 E hI ha dX11_soonest_43 ?_
          refine gs_X11_363_1 E hI (q_tk (k' := 1) hI ha rfl (by decide)) dX11_soonest_46 ?_
          refine lv_topi (fun f_16 ef_16 => ?_)
          replace hF := q_letX hF ef_16
          refine lv_iload_n hx hb dX11_soonest_49 rfl (lv_at hl 2 rfl) ?_
          have gc_17_f_16 := q_rng f_16
          have gc_17_x_2 := q_rng x_2
          refine q_icmp_ge (A := f_16.toInt) (B := x_2.toInt) E rfl rfl (tgt := 63) dX11_soonest_50 (by decide) (fun c_17 => ?_) (fun c_17 => ?_)
          · skip
            replace hF := q_ifn hF (Int.not_lt.mpr c_17)
            obtain ⟨z_18, ez_18⟩ : ∃ y : Int32, y = x_3 + 1 := ⟨_, rfl⟩
            replace hF := q_letX hF ez_18
            refine lv_iinc (v := z_18) (lv' := [(3, .int z_18), (0, .ref a), (1, .int x_1), (2, .int x_2)]) hx hb dX11_soonest_63 hl (k := 3) rfl (by rw [ez_18]; rfl) (by decide) rfl (fun ls hl => ?_)
            have iz_18 : z_18.toInt = x_3.toInt + 1 := q_inc ez_18 (by first | (clear hm7 kc_10 ahpσ_12 bhpσ_12 gc_14_f_13 c_14 gc_17_f_16 gc_17_x_2 c_17; omega) | omega)
            refine lv_goto (tgt := 7) hx hb dX11_soonest_66 (by decide) ?_
            exact ih7 x_1 x_2 z_18 σ_12 _ _ ls (by first | (clear kc_10 ahpσ_12 bhpσ_12 gc_14_f_13 gc_17_f_16 gc_17_x_2 c_17; omega) | omega) (by omega) fr_σ_12 hF hI (lv_sub hl [1, 2, 3, 0] rfl)
          · skip
            replace hF := q_ifp hF c_17
            refine lv_aload_n hx hb dX11_soonest_53 rfl (lv_at hl 0 rfl) ?_
            refine gs_X11_42_11 E hI ha dX11_soonest_54 ?_
            refine gs_X11_363_1 E hI (q_tk (k' := 1) hI ha rfl (by decide)) dX11_soonest_57 ?_
            refine lv_topi (fun f_19 ef_19 => ?_)
            replace hF := q_letX hF ef_19
            refine lv_istore_n (lv' := [(2, .int f_19), (0, .ref a), (1, .int x_1), (3, .int x_3)]) hx hb dX11_soonest_60 rfl hl (by decide) rfl (fun ls hl => ?_)
            refine lv_iload_n hx hb dX11_soonest_61 rfl (lv_at hl 3 rfl) ?_
            refine lv_istore_n (lv' := [(1, .int x_3), (2, .int f_19), (0, .ref a), (3, .int x_3)]) hx hb dX11_soonest_62 rfl hl (by decide) rfl (fun ls hl => ?_)
            obtain ⟨z_20, ez_20⟩ : ∃ y : Int32, y = x_3 + 1 := ⟨_, rfl⟩
            replace hF := q_letX hF ez_20
            refine lv_iinc (v := z_20) (lv' := [(3, .int z_20), (1, .int x_3), (2, .int f_19), (0, .ref a)]) hx hb dX11_soonest_63 hl (k := 3) rfl (by rw [ez_20]; rfl) (by decide) rfl (fun ls hl => ?_)
            have iz_20 : z_20.toInt = x_3.toInt + 1 := q_inc ez_20 (by first | (clear hm7 kc_10 ahpσ_12 bhpσ_12 gc_14_f_13 c_14 gc_17_f_16 gc_17_x_2 c_17; omega) | omega)
            refine lv_goto (tgt := 7) hx hb dX11_soonest_66 (by decide) ?_
            exact ih7 x_3 f_19 z_20 σ_12 _ _ ls (by first | (clear kc_10 ahpσ_12 bhpσ_12 gc_14_f_13 gc_17_f_16 gc_17_x_2 c_17; omega) | omega) (by omega) fr_σ_12 hF hI (lv_sub hl [3, 1, 2, 0] rfl)
  exact L_7_5 ((2147483647 - (0 : Int32).toInt).toNat + 1) (-1) 61 0 σ _ _ ls (Nat.lt_succ_self _) (by decide) fr_σ hF hI (lv_sub hl [3, 2, 1, 0] rfl)

set_option maxRecDepth 100000 in
set_option maxHeartbeats 4000000 in
theorem c_X11_best (l : Launch) (X : XW) (σ : ST) (a : Nat) (v1 : Int32) (v2 : Int32) (ha : q_kd X a = 11) : Met l yX11_best (q_ws yX11_best cX11_best 11 (some .int)) (q_rm 2 52) (q_P X σ [.ref a, .int v1, .int v2]) (q_Qi X 8 σ (fun (r : Int32) (σ' : ST) => (r, σ') = F_X11_best X σ a v1 v2 ∧ q_ow [(11, 0)] [(11, 1), (11, 2)] X σ σ')) 0 0 (q_reg X) := by
  refine q_met 8 (by first | exact rfl | decide +kernel) rfl (Nat.le_of_ble_eq_true rfl) (fun p e s m below meth c E hml hr hlk hI ls hl => ?_)
  have hx := E.1
  have hb := E.2.1
  have hl : lv_has ls 11 [(0, .ref a), (1, .int v1), (2, .int v2)] := hl
  have fr_σ : q_ow [(11, 0)] [(11, 1), (11, 2)] X σ σ := q_ow.rf
  obtain ⟨out, hout⟩ : ∃ o, o = F_X11_best X σ a v1 v2 := ⟨_, rfl⟩
  have hF := hout.symm
  unfold F_X11_best at hF
  refine lv_iload_n hx hb dX11_best_0 rfl (lv_at hl 1 rfl) ?_
  refine q_ci (q_runS (As := [.int v1]) (rest := []) E (hml.trans hl.1.symm) hI (c_X11_isSixteenths l X σ v1) ks_X11_302 rfl ⟨Nat.le_of_ble_eq_true rfl, Nat.le_of_ble_eq_true rfl⟩ ⟨Nat.le_refl _, Nat.le_refl _⟩ rfl (Nat.le_of_ble_eq_true rfl) dX11_best_1) hI (by decide) (fun r_1 σ_2 H locs hpσ_2 hkσ_2 hI => ?_)
  obtain ⟨ahpσ_2, bhpσ_2, chpσ_2⟩ := hpσ_2
  rw [ahpσ_2] at hI
  replace hF := q_letX hF chpσ_2
  refine q_if_eq (A := r_1.toInt) E rfl (tgt := 16) dX11_best_4 (by decide) (fun c_3 => ?_) (fun c_3 => ?_)
  · skip
    replace hF := q_ifp hF c_3
    refine lv_aload_n hx hb dX11_best_16 rfl (lv_at hl 0 rfl) ?_
    refine lv_iconst (v := 5) hx hb dX11_best_17 (by decide) ?_
    have kc_4 : (5 : Int32).toInt = 5 := rfl
    refine q_ci (q_runV (As := [.int 5]) (rest := []) E (hml.trans hl.1.symm) hI (c_X11_none l X σ a (5 : Int32) ha) kv_X11_109 ha ⟨rfl, by decide⟩ (show vwCl[10]? = some (RX11, TX11, 17) from rfl) rfl ⟨Nat.le_of_ble_eq_true rfl, Nat.le_of_ble_eq_true rfl⟩ ⟨Nat.le_refl _, Nat.le_refl _⟩ rfl (Nat.le_of_ble_eq_true rfl) dX11_best_18) hI (by decide) (fun r_5 σ_6 H locs hpσ_6 hkσ_6 hI => ?_)
    obtain ⟨ahpσ_6, bhpσ_6, chpσ_6⟩ := hpσ_6
    have fr_σ_6 := fr_σ.call chpσ_6 rfl rfl
    replace hF := q_biX hF bhpσ_6
    exact q_reti E hr hlk hI ⟨(hF.trans hout), fr_σ_6⟩ dX11_best_21
  · skip
    replace hF := q_ifn hF c_3
    replace c_3 := q_ifOne bhpσ_2 c_3
    refine lv_iload_n hx hb dX11_best_7 rfl (lv_at hl 2 rfl) ?_
    refine q_if_lt (A := v2.toInt) E rfl (tgt := 16) dX11_best_8 (by decide) (fun c_7 => ?_) (fun c_7 => ?_)
    · skip
      replace hF := q_ifp hF c_7
      refine lv_aload_n hx hb dX11_best_16 rfl (lv_at hl 0 rfl) ?_
      refine lv_iconst (v := 5) hx hb dX11_best_17 (by decide) ?_
      have kc_8 : (5 : Int32).toInt = 5 := rfl
      refine q_ci (q_runV (As := [.int 5]) (rest := []) E (hml.trans hl.1.symm) hI (c_X11_none l X σ a (5 : Int32) ha) kv_X11_109 ha ⟨rfl, by decide⟩ (show vwCl[10]? = some (RX11, TX11, 17) from rfl) rfl ⟨Nat.le_of_ble_eq_true rfl, Nat.le_of_ble_eq_true rfl⟩ ⟨Nat.le_refl _, Nat.le_refl _⟩ rfl (Nat.le_of_ble_eq_true rfl) dX11_best_18) hI (by decide) (fun r_9 σ_10 H locs hpσ_10 hkσ_10 hI => ?_)
      obtain ⟨ahpσ_10, bhpσ_10, chpσ_10⟩ := hpσ_10
      have fr_σ_10 := fr_σ.call chpσ_10 rfl rfl
      replace hF := q_biX hF bhpσ_10
      exact q_reti E hr hlk hI ⟨(hF.trans hout), fr_σ_10⟩ dX11_best_21
    · skip
      replace hF := q_ifn hF (Int.not_lt.mpr c_7)
      refine lv_iload_n hx hb dX11_best_11 rfl (lv_at hl 2 rfl) ?_
      refine lv_iconst (v := 1) hx hb dX11_best_12 (by decide) ?_
      have gc_11_v2 := q_rng v2
      refine q_icmp_le (A := v2.toInt) (B := 1) E rfl (by decide) (tgt := 22) dX11_best_13 (by decide) (fun c_11 => ?_) (fun c_11 => ?_)
      · skip
        replace hF := q_ifn hF (Int.not_lt.mpr c_11)
        refine lv_aload_n hx hb dX11_best_22 rfl (lv_at hl 0 rfl) ?_
        refine gs_X11_42_11 E hI ha dX11_best_23 ?_
        refine gs_X11_147_1 E hI (q_tk (k' := 1) hI ha rfl (by decide)) dX11_best_26 ?_
        refine gs_X11_151_6 E hI (q_tk (k' := 6) hI (q_tk (k' := 1) hI ha rfl (by decide)) rfl (by decide)) dX11_best_29 ?_
        refine lv_topi (fun f_12 ef_12 => ?_)
        replace hF := q_letX hF ef_12
        refine q_if_ne (A := f_12.toInt) E rfl (tgt := 42) dX11_best_32 (by decide) (fun c_13 => ?_) (fun c_13 => ?_)
        · skip
          replace hF := q_ifn hF c_13
          refine lv_aload_n hx hb dX11_best_42 rfl (lv_at hl 0 rfl) ?_
          refine gs_X11_42_11 E hI ha dX11_best_43 ?_
          refine gs_X11_222_1 E hI (q_tk (k' := 1) hI ha rfl (by decide)) dX11_best_46 ?_
          refine gs_X11_239_2 E hI (q_tk (k' := 2) hI (q_tk (k' := 1) hI ha rfl (by decide)) rfl (by decide)) dX11_best_49 ?_
          refine lv_aload_n hx hb dX11_best_52 rfl (lv_at hl 0 rfl) ?_
          refine gs_X11_42_11 E hI ha dX11_best_53 ?_
          refine gs_X11_198_1 E hI (q_tk (k' := 1) hI ha rfl (by decide)) dX11_best_56 ?_
          refine lv_topi (fun f_14 ef_14 => ?_)
          replace hF := q_letX hF ef_14
          refine q_ci (q_runV (As := [.int f_14]) (rest := []) E (hml.trans hl.1.symm) hI (c_X5_get l X σ (q_rf X (q_rf X (q_rf X a 8) 1) 2) f_14 (q_tk (k' := 5) hI (q_tk (k' := 2) hI (q_tk (k' := 1) hI ha rfl (by decide)) rfl (by decide)) rfl (by decide))) kv_X11_232 (q_tk (k' := 5) hI (q_tk (k' := 2) hI (q_tk (k' := 1) hI ha rfl (by decide)) rfl (by decide)) rfl (by decide)) ⟨rfl, by decide⟩ (show vwCl[4]? = some (RX5, TX5, 1) from rfl) rfl ⟨Nat.le_of_ble_eq_true rfl, Nat.le_of_ble_eq_true rfl⟩ ⟨Nat.le_refl _, Nat.le_refl _⟩ rfl (Nat.le_of_ble_eq_true rfl) dX11_best_59) hI (by decide) (fun r_15 σ_16 H locs hpσ_16 hkσ_16 hI => ?_)
          obtain ⟨ahpσ_16, bhpσ_16⟩ := hpσ_16
          rw [ahpσ_16] at hI
          replace hF := q_letX hF bhpσ_16
          refine lv_istore_n (lv' := [(3, .int r_15), (0, .ref a), (1, .int v1), (2, .int v2)]) hx hb dX11_best_62 rfl hl (by decide) rfl (fun ls hl => ?_)
          refine lv_aload_n hx hb dX11_best_63 rfl (lv_at hl 1 rfl) ?_
          refine gs_X11_42_11 E hI ha dX11_best_64 ?_
          refine gs_X11_210_1 E hI (q_tk (k' := 1) hI ha rfl (by decide)) dX11_best_67 ?_
          refine lv_topi (fun f_17 ef_17 => ?_)
          replace hF := q_letX hF ef_17
          have bf_17 : 0 ≤ f_17.toInt ∧ f_17.toInt ≤ 1 := by rw [ef_17]; exact q_bd hI (q_tk (k' := 1) hI ha rfl (by decide)) rfl
          refine q_if_ne (A := f_17.toInt) E rfl (tgt := 88) dX11_best_70 (by decide) (fun c_18 => ?_) (fun c_18 => ?_)
          · skip
            replace hF := q_ifn hF c_18
            refine lv_aload_n hx hb dX11_best_88 rfl (lv_at hl 1 rfl) ?_
            refine lv_bipush (v := 9) hx hb dX11_best_89 (by decide) ?_
            have kc_19 : (9 : Int32).toInt = 9 := rfl
            refine q_ci (q_runV (As := [.int 9]) (rest := []) E (hml.trans hl.1.symm) hI (c_X11_none l X σ a (9 : Int32) ha) kv_X11_109 ha ⟨rfl, by decide⟩ (show vwCl[10]? = some (RX11, TX11, 17) from rfl) rfl ⟨Nat.le_of_ble_eq_true rfl, Nat.le_of_ble_eq_true rfl⟩ ⟨Nat.le_refl _, Nat.le_refl _⟩ rfl (Nat.le_of_ble_eq_true rfl) dX11_best_91) hI (by decide) (fun r_20 σ_21 H locs hpσ_21 hkσ_21 hI => ?_)
            obtain ⟨ahpσ_21, bhpσ_21, chpσ_21⟩ := hpσ_21
            have fr_σ_21 := fr_σ.call chpσ_21 rfl rfl
            replace hF := q_biX hF bhpσ_21
            exact q_reti E hr hlk hI ⟨(hF.trans hout), fr_σ_21⟩ dX11_best_94
          · skip
            replace hF := q_ifp hF c_18
            refine lv_aload_n hx hb dX11_best_73 rfl (lv_at hl 1 rfl) ?_
            refine gs_X11_42_11 E hI ha dX11_best_74 ?_
            refine gs_X11_213_1 E hI (q_tk (k' := 1) hI ha rfl (by decide)) dX11_best_77 ?_
            refine lv_topi (fun f_22 ef_22 => ?_)
            replace hF := q_letX hF ef_22
            refine lv_iconst (v := (-1)) hx hb dX11_best_80 (by decide) ?_
            have gc_23_f_22 := q_rng f_22
            refine q_icmp_ne (A := f_22.toInt) (B := (-1)) E rfl (by decide) (tgt := 88) dX11_best_81 (by decide) (fun c_23 => ?_) (fun c_23 => ?_)
            · skip
              replace hF := q_ifn hF c_23
              refine lv_aload_n hx hb dX11_best_88 rfl (lv_at hl 1 rfl) ?_
              refine lv_bipush (v := 9) hx hb dX11_best_89 (by decide) ?_
              have kc_24 : (9 : Int32).toInt = 9 := rfl
              refine q_ci (q_runV (As := [.int 9]) (rest := []) E (hml.trans hl.1.symm) hI (c_X11_none l X σ a (9 : Int32) ha) kv_X11_109 ha ⟨rfl, by decide⟩ (show vwCl[10]? = some (RX11, TX11, 17) from rfl) rfl ⟨Nat.le_of_ble_eq_true rfl, Nat.le_of_ble_eq_true rfl⟩ ⟨Nat.le_refl _, Nat.le_refl _⟩ rfl (Nat.le_of_ble_eq_true rfl) dX11_best_91) hI (by decide) (fun r_25 σ_26 H locs hpσ_26 hkσ_26 hI => ?_)
              obtain ⟨ahpσ_26, bhpσ_26, chpσ_26⟩ := hpσ_26
              have fr_σ_26 := fr_σ.call chpσ_26 rfl rfl
              replace hF := q_biX hF bhpσ_26
              exact q_reti E hr hlk hI ⟨(hF.trans hout), fr_σ_26⟩ dX11_best_94
            · skip
              replace hF := q_ifp hF c_23
              refine lv_iload_n hx hb dX11_best_84 rfl (lv_at hl 0 rfl) ?_
              refine q_if_ne (A := r_15.toInt) E rfl (tgt := 95) dX11_best_85 (by decide) (fun c_27 => ?_) (fun c_27 => ?_)
              · skip
                replace hF := q_ifn hF c_27
                refine lv_aload_n hx hb dX11_best_95 rfl (lv_at hl 1 rfl) ?_
                refine gs_X11_42_11 E hI ha dX11_best_96 ?_
                refine gs_X11_222_1 E hI (q_tk (k' := 1) hI ha rfl (by decide)) dX11_best_99 ?_
                refine lv_aload_n hx hb dX11_best_102 rfl (lv_at hl 1 rfl) ?_
                refine gs_X11_42_11 E hI ha dX11_best_103 ?_
                refine gs_X11_198_1 E hI (q_tk (k' := 1) hI ha rfl (by decide)) dX11_best_106 ?_
                refine lv_topi (fun f_28 ef_28 => ?_)
                replace hF := q_letX hF ef_28
                refine lv_aload_n hx hb dX11_best_109 rfl (lv_at hl 1 rfl) ?_
                refine gs_X11_42_11 E hI ha dX11_best_110 ?_
                refine gs_X11_195_1 E hI (q_tk (k' := 1) hI ha rfl (by decide)) dX11_best_113 ?_
                refine lv_topi (fun f_29 ef_29 => ?_)
                replace hF := q_letX hF ef_29
                refine q_ci (q_runV (As := [.int f_28, .int f_29]) (rest := []) E (hml.trans hl.1.symm) hI (c_X1_heldBy l X σ (q_rf X (q_rf X a 8) 1) f_28 f_29 (q_tk (k' := 2) hI (q_tk (k' := 1) hI ha rfl (by decide)) rfl (by decide))) kv_X11_253 (q_tk (k' := 2) hI (q_tk (k' := 1) hI ha rfl (by decide)) rfl (by decide)) ⟨rfl, by decide⟩ (show vwCl[1]? = some (RX1, TX1, 7) from rfl) rfl ⟨Nat.le_of_ble_eq_true rfl, Nat.le_of_ble_eq_true rfl⟩ ⟨Nat.le_refl _, Nat.le_refl _⟩ rfl (Nat.le_of_ble_eq_true rfl) dX11_best_116) hI (by decide) (fun r_30 σ_31 H locs hpσ_31 hkσ_31 hI => ?_)
                obtain ⟨ahpσ_31, bhpσ_31⟩ := hpσ_31
                rw [ahpσ_31] at hI
                replace hF := q_letX hF bhpσ_31
                refine lv_istore (lv' := [(4, .int r_30), (3, .int r_15), (0, .ref a), (1, .int v1), (2, .int v2)]) hx hb dX11_best_119 hl (by decide) rfl (fun ls hl => ?_)
                refine lv_iconst (v := (-1)) hx hb dX11_best_121 (by decide) ?_
                refine lv_istore (lv' := [(5, .int (-1)), (4, .int r_30), (3, .int r_15), (0, .ref a), (1, .int v1), (2, .int v2)]) hx hb dX11_best_122 hl (by decide) rfl (fun ls hl => ?_)
                refine lv_iconst (v := (-1)) hx hb dX11_best_124 (by decide) ?_
                refine lv_istore (lv' := [(6, .int (-1)), (5, .int (-1)), (4, .int r_30), (3, .int r_15), (0, .ref a), (1, .int v1), (2, .int v2)]) hx hb dX11_best_125 hl (by decide) rfl (fun ls hl => ?_)
                refine lv_iconst (v := (-1)) hx hb dX11_best_127 (by decide) ?_
                refine lv_istore (lv' := [(7, .int (-1)), (6, .int (-1)), (5, .int (-1)), (4, .int r_30), (3, .int r_15), (0, .ref a), (1, .int v1), (2, .int v2)]) hx hb dX11_best_128 hl (by decide) rfl (fun ls hl => ?_)
                refine lv_iconst (v := 0) hx hb dX11_best_130 (by decide) ?_
                refine lv_istore (lv' := [(8, .int 0), (7, .int (-1)), (6, .int (-1)), (5, .int (-1)), (4, .int r_30), (3, .int r_15), (0, .ref a), (1, .int v1), (2, .int v2)]) hx hb dX11_best_131 hl (by decide) rfl (fun ls hl => ?_)
                have L_133_36 : ∀ (k_36 : Nat) (x_32 : Int32) (x_33 : Int32) (x_34 : Int32) (x_35 : Int32) (H : Heap) (locs : List Loc) (ls : Array Slot), (2147483647 - x_35.toInt).toNat < k_36 → (0 ≤ x_35.toInt) → (F_X11_best_L133_1 X σ a r_15 r_30 v2 v1 k_36 x_32 x_33 x_34 x_35 = out) → q_I X 8 σ s.heap locs σ H → lv_has ls 11 [(0, .ref a), (1, .int v1), (2, .int v2), (3, .int r_15), (4, .int r_30), (5, .int x_32), (6, .int x_33), (7, .int x_34), (8, .int x_35)] → W p l e (q_rm 2 52) s m ([.ref a, .int v1, .int v2] : List Value).toArray below meth c H locs 0 0 (MQ below (q_Qi X 8 σ (fun (r : Int32) (σ' : ST) => (r, σ') = F_X11_best X σ a v1 v2 ∧ q_ow [(11, 0)] [(11, 1), (11, 2)] X σ σ')) ([.ref a, .int v1, .int v2] : List Value).toArray s 0 0 (q_reg X)) (F0 m 133 ls []) := by
                  clear hF
                  intro k_36
                  induction k_36 with
                  | zero =>
                    intro x_32 x_33 x_34 x_35 H locs ls hms
                    exact absurd hms (Nat.not_lt_zero _)
                  | succ k_36 ih133 =>
                    intro x_32 x_33 x_34 x_35 H locs ls hm133 hge133 hF hI hl
                    replace hF := (F_X11_best_L133_1_s).symm.trans hF
                    unfold F_X11_best_B133_1 at hF
                    refine lv_iload hx hb dX11_best_133 (lv_at hl 8 rfl) ?_
                    refine lv_aload_n hx hb dX11_best_135 rfl (lv_at hl 0 rfl) ?_
                    refine gs_X11_42_11 E hI ha dX11_best_136 ?_
                    refine gs_X11_147_1 E hI (q_tk (k' := 1) hI ha rfl (by decide)) dX11_best_139 ?_
                    refine gs_X11_192_6 E hI (q_tk (k' := 6) hI (q_tk (k' := 1) hI ha rfl (by decide)) rfl (by decide)) dX11_best_142 ?_
                    refine lv_topi (fun f_37 ef_37 => ?_)
                    replace hF := q_letX hF ef_37
                    have bf_37 : -2147483648 ≤ f_37.toInt ∧ f_37.toInt ≤ 4 := by rw [ef_37]; exact q_bd hI (q_tk (k' := 6) hI (q_tk (k' := 1) hI ha rfl (by decide)) rfl (by decide)) rfl
                    refine lv_iload_n hx hb dX11_best_145 rfl (lv_at hl 3 rfl) ?_
                    refine lv_iload hx hb dX11_best_146 (lv_at hl 4 rfl) ?_
                    refine lv_isub hx hb dX11_best_148 ?_
                    refine lv_topi (fun z_38 ez_38 => ?_)
                    replace hF := q_letX hF ez_38
                    refine q_ci (q_runS (As := [.int f_37, .int z_38]) (rest := [.int x_35]) E (hml.trans hl.1.symm) hI (c_J9_min_7cf53 l X σ f_37 z_38) ks_X11_375 rfl ⟨Nat.le_of_ble_eq_true rfl, Nat.le_of_ble_eq_true rfl⟩ ⟨Nat.le_refl _, Nat.le_refl _⟩ rfl (Nat.le_of_ble_eq_true rfl) dX11_best_149) hI (by decide) (fun r_39 σ_40 H locs hpσ_40 hkσ_40 hI => ?_)
                    obtain ⟨ahpσ_40, bhpσ_40, chpσ_40⟩ := hpσ_40
                    rw [ahpσ_40] at hI
                    replace hF := q_letX hF chpσ_40
                    have gc_41_x_35 := q_rng x_35
                    have gc_41_r_39 := q_rng r_39
                    refine q_icmp_gt (A := x_35.toInt) (B := r_39.toInt) E rfl rfl (tgt := 239) dX11_best_152 (by decide) (fun c_41 => ?_) (fun c_41 => ?_)
                    · skip
                      replace hF := q_ifp hF c_41
                      unfold F_X11_best_E239_2 at hF
                      refine lv_aload_n hx hb dX11_best_239 rfl (lv_at hl 0 rfl) ?_
                      refine lv_iload hx hb dX11_best_240 (lv_at hl 7 rfl) ?_
                      refine lv_i2l hx hb dX11_best_242 rfl ?_
                      refine lv_topl (fun y_42 ey_42 => ?_)
                      replace hF := q_letX hF ey_42
                      refine lv_ldc2 (v := 16) hx hb E.2.2.1 (E.2.2.2.1 _ (q_in_t6 (i := 96) (by first | rfl | decide +kernel) rfl)) dX11_best_243 ?_
                      refine q_ci (q_runV (As := [.long y_42, .long 16]) (rest := []) E (hml.trans hl.1.symm) hI (c_X11_tell l X σ a y_42 (16 : Int64) ha) kv_X11_326 ha ⟨rfl, by decide⟩ (show vwCl[10]? = some (RX11, TX11, 17) from rfl) rfl ⟨Nat.le_of_ble_eq_true rfl, Nat.le_of_ble_eq_true rfl⟩ ⟨Nat.le_refl _, Nat.le_refl _⟩ rfl (Nat.le_of_ble_eq_true rfl) dX11_best_246) hI (by decide) (fun r_43 σ_44 H locs hpσ_44 hkσ_44 hI => ?_)
                      obtain ⟨ahpσ_44, bhpσ_44, chpσ_44⟩ := hpσ_44
                      have fr_σ_44 := fr_σ.call chpσ_44 rfl rfl
                      replace hF := q_biX hF bhpσ_44
                      refine lv_pop hx hb dX11_best_249 rfl ?_
                      refine lv_iload_n hx hb dX11_best_250 rfl (lv_at hl 2 rfl) ?_
                      refine q_if_ne (A := v2.toInt) E rfl (tgt := 259) dX11_best_251 (by decide) (fun c_45 => ?_) (fun c_45 => ?_)
                      · skip
                        replace hF := q_ifn hF c_45
                        refine lv_iload hx hb dX11_best_259 (lv_at hl 6 rfl) ?_
                        exact q_reti E hr hlk hI ⟨(hF.trans hout), fr_σ_44⟩ dX11_best_261
                      · skip
                        replace hF := q_ifp hF c_45
                        refine lv_iload hx hb dX11_best_254 (lv_at hl 5 rfl) ?_
                        refine lv_goto (tgt := 261) hx hb dX11_best_256 (by decide) ?_
                        exact q_reti E hr hlk hI ⟨(hF.trans hout), fr_σ_44⟩ dX11_best_261
                    · skip
                      replace hF := q_ifn hF (Int.not_lt.mpr c_41)
                      refine lv_aload_n hx hb dX11_best_155 rfl (lv_at hl 0 rfl) ?_
                      refine gs_X11_42_11 E hI ha dX11_best_156 ?_
                      refine gs_X11_147_1 E hI (q_tk (k' := 1) hI ha rfl (by decide)) dX11_best_159 ?_
                      refine gs_X11_192_6 E hI (q_tk (k' := 6) hI (q_tk (k' := 1) hI ha rfl (by decide)) rfl (by decide)) dX11_best_162 ?_
                      refine lv_topi (fun f_46 ef_46 => ?_)
                      replace hF := q_letX hF ef_46
                      have bf_46 : -2147483648 ≤ f_46.toInt ∧ f_46.toInt ≤ 4 := by rw [ef_46]; exact q_bd hI (q_tk (k' := 6) hI (q_tk (k' := 1) hI ha rfl (by decide)) rfl (by decide)) rfl
                      refine lv_iload hx hb dX11_best_165 (lv_at hl 8 rfl) ?_
                      refine lv_isub hx hb dX11_best_167 ?_
                      refine lv_topi (fun z_47 ez_47 => ?_)
                      replace hF := q_letX hF ez_47
                      refine lv_iload hx hb dX11_best_168 (lv_at hl 4 rfl) ?_
                      refine q_ci (q_runS (As := [.int z_47, .int r_30]) (rest := []) E (hml.trans hl.1.symm) hI (c_J9_min_7cf53 l X σ z_47 r_30) ks_X11_375 rfl ⟨Nat.le_of_ble_eq_true rfl, Nat.le_of_ble_eq_true rfl⟩ ⟨Nat.le_refl _, Nat.le_refl _⟩ rfl (Nat.le_of_ble_eq_true rfl) dX11_best_170) hI (by decide) (fun r_48 σ_49 H locs hpσ_49 hkσ_49 hI => ?_)
                      obtain ⟨ahpσ_49, bhpσ_49, chpσ_49⟩ := hpσ_49
                      rw [ahpσ_49] at hI
                      replace hF := q_letX hF chpσ_49
                      refine lv_istore (lv' := [(9, .int r_48), (0, .ref a), (1, .int v1), (2, .int v2), (3, .int r_15), (4, .int r_30), (5, .int x_32), (6, .int x_33), (7, .int x_34), (8, .int x_35)]) hx hb dX11_best_173 hl (by decide) rfl (fun ls hl => ?_)
                      have L_175_54 : ∀ (k_54 : Nat) (x_50 : Int32) (x_51 : Int32) (x_52 : Int32) (x_53 : Int32) (H : Heap) (locs : List Loc) (ls : Array Slot), (x_53.toInt + 2147483649).toNat < k_54 → (F_X11_best_L175_3 X x_35 (F_X11_best_L133_1 X σ a r_15 r_30 v2 v1 k_36) σ a v1 k_54 x_50 x_51 x_52 x_53 = out) → q_I X 8 σ s.heap locs σ H → lv_has ls 11 [(0, .ref a), (1, .int v1), (2, .int v2), (3, .int r_15), (4, .int r_30), (5, .int x_50), (6, .int x_51), (7, .int x_52), (8, .int x_35), (9, .int x_53)] → W p l e (q_rm 2 52) s m ([.ref a, .int v1, .int v2] : List Value).toArray below meth c H locs 0 0 (MQ below (q_Qi X 8 σ (fun (r : Int32) (σ' : ST) => (r, σ') = F_X11_best X σ a v1 v2 ∧ q_ow [(11, 0)] [(11, 1), (11, 2)] X σ σ')) ([.ref a, .int v1, .int v2] : List Value).toArray s 0 0 (q_reg X)) (F0 m 175 ls []) := by
                        clear hF
                        intro k_54
                        induction k_54 with
                        | zero =>
                          intro x_50 x_51 x_52 x_53 H locs ls hms
                          exact absurd hms (Nat.not_lt_zero _)
                        | succ k_54 ih175 =>
                          intro x_50 x_51 x_52 x_53 H locs ls hm175  hF hI hl
                          replace hF := (F_X11_best_L175_3_s).symm.trans hF
                          unfold F_X11_best_B175_3 at hF
                          refine lv_iload hx hb dX11_best_175 (lv_at hl 9 rfl) ?_
                          refine q_if_lt (A := x_53.toInt) E rfl (tgt := 233) dX11_best_177 (by decide) (fun c_55 => ?_) (fun c_55 => ?_)
                          · skip
                            replace hF := q_ifp hF c_55
                            unfold F_X11_best_E233_4 at hF
                            obtain ⟨z_56, ez_56⟩ : ∃ y : Int32, y = x_35 + 1 := ⟨_, rfl⟩
                            replace hF := q_letX hF ez_56
                            refine lv_iinc (v := z_56) (lv' := [(8, .int z_56), (0, .ref a), (1, .int v1), (2, .int v2), (3, .int r_15), (4, .int r_30), (5, .int x_50), (6, .int x_51), (7, .int x_52), (9, .int x_53)]) hx hb dX11_best_233 hl (k := 8) rfl (by rw [ez_56]; rfl) (by decide) rfl (fun ls hl => ?_)
                            have iz_56 : z_56.toInt = x_35.toInt + 1 := q_inc ez_56 (by first | (clear ahpσ_2 bhpσ_2 chpσ_2 c_3 c_7 gc_11_v2 c_11 c_13 ahpσ_16 bhpσ_16 bf_17 c_18 gc_23_f_22 c_23 c_27 ahpσ_31 bhpσ_31 hm133 ahpσ_40 chpσ_40 bf_46 ahpσ_49 bhpσ_49 chpσ_49 hm175 c_55; omega) | omega)
                            refine lv_goto (tgt := 133) hx hb dX11_best_236 (by decide) ?_
                            exact ih133 x_50 x_51 x_52 z_56 _ _ ls (by first | (clear ahpσ_2 bhpσ_2 chpσ_2 c_3 c_7 gc_11_v2 c_11 c_13 ahpσ_16 bhpσ_16 bf_17 c_18 gc_23_f_22 c_23 c_27 ahpσ_31 bhpσ_31 ahpσ_40 chpσ_40 bf_46 ahpσ_49 bhpσ_49 chpσ_49 hm175 c_55; omega) | omega) (by first | (clear ahpσ_2 bhpσ_2 chpσ_2 c_3 c_7 gc_11_v2 c_11 c_13 ahpσ_16 bhpσ_16 bf_17 c_18 gc_23_f_22 c_23 c_27 ahpσ_31 bhpσ_31 hm133 bf_37 ahpσ_40 bhpσ_40 chpσ_40 gc_41_r_39 c_41 bf_46 ahpσ_49 bhpσ_49 chpσ_49 hm175 c_55; omega) | omega) hF hI (lv_sub hl [1, 2, 3, 4, 5, 6, 7, 8, 0] rfl)
                          · skip
                            replace hF := q_ifn hF (Int.not_lt.mpr c_55)
                            refine lv_aload_n hx hb dX11_best_180 rfl (lv_at hl 0 rfl) ?_
                            refine gs_X11_42_11 E hI ha dX11_best_181 ?_
                            refine lv_iload hx hb dX11_best_184 (lv_at hl 9 rfl) ?_
                            refine lv_iload hx hb dX11_best_186 (lv_at hl 8 rfl) ?_
                            refine lv_iload_n hx hb dX11_best_188 rfl (lv_at hl 1 rfl) ?_
                            refine q_ci (q_runV (As := [.int x_53, .int x_35, .int v1]) (rest := []) E (hml.trans hl.1.symm) hI (c_X0_sixteenthsLeft l X σ (q_rf X a 8) x_53 x_35 v1 (q_tk (k' := 1) hI ha rfl (by decide))) kv_X11_380 (q_tk (k' := 1) hI ha rfl (by decide)) ⟨rfl, by decide⟩ (show vwCl[0]? = some (RX0, TX0, 15) from rfl) rfl ⟨Nat.le_of_ble_eq_true rfl, Nat.le_of_ble_eq_true rfl⟩ ⟨Nat.le_refl _, Nat.le_refl _⟩ rfl (Nat.le_of_ble_eq_true rfl) dX11_best_189) hI (by decide) (fun r_57 σ_58 H locs hpσ_58 hkσ_58 hI => ?_)
                            obtain ⟨ahpσ_58, bhpσ_58⟩ := hpσ_58
                            rw [ahpσ_58] at hI
                            replace hF := q_letX hF bhpσ_58
                            refine lv_istore (lv' := [(10, .int r_57), (0, .ref a), (1, .int v1), (2, .int v2), (3, .int r_15), (4, .int r_30), (5, .int x_50), (6, .int x_51), (7, .int x_52), (8, .int x_35), (9, .int x_53)]) hx hb dX11_best_192 hl (by decide) rfl (fun ls hl => ?_)
                            refine lv_iload hx hb dX11_best_194 (lv_at hl 10 rfl) ?_
                            refine lv_iload hx hb dX11_best_196 (lv_at hl 9 rfl) ?_
                            refine lv_iadd hx hb dX11_best_198 ?_
                            refine lv_topi (fun z_59 ez_59 => ?_)
                            replace hF := q_letX hF ez_59
                            refine q_if_le (A := z_59.toInt) E rfl (tgt := 227) dX11_best_199 (by decide) (fun c_60 => ?_) (fun c_60 => ?_)
                            · skip
                              replace hF := q_ifn hF (Int.not_lt.mpr c_60)
                              obtain ⟨z_61, ez_61⟩ : ∃ y : Int32, y = x_53 + (-1) := ⟨_, rfl⟩
                              replace hF := q_letX hF ez_61
                              refine lv_iinc (v := z_61) (lv' := [(9, .int z_61), (10, .int r_57), (0, .ref a), (1, .int v1), (2, .int v2), (3, .int r_15), (4, .int r_30), (5, .int x_50), (6, .int x_51), (7, .int x_52), (8, .int x_35)]) hx hb dX11_best_227 hl (k := 10) rfl (by rw [ez_61]; rfl) (by decide) rfl (fun ls hl => ?_)
                              have iz_61 : z_61.toInt = x_53.toInt - 1 := q_dec ez_61 (by first | (clear ahpσ_2 bhpσ_2 chpσ_2 c_3 c_7 gc_11_v2 c_11 c_13 ahpσ_16 bhpσ_16 bf_17 c_18 gc_23_f_22 c_23 c_27 ahpσ_31 bhpσ_31 hm133 hge133 bf_37 ahpσ_40 bhpσ_40 chpσ_40 gc_41_x_35 gc_41_r_39 c_41 bf_46 ahpσ_49 bhpσ_49 chpσ_49 hm175 ahpσ_58 bhpσ_58 c_60; omega) | omega)
                              refine lv_goto (tgt := 175) hx hb dX11_best_230 (by decide) ?_
                              exact ih175 x_50 x_51 x_52 z_61 _ _ ls (by first | (clear ahpσ_2 bhpσ_2 chpσ_2 c_3 c_7 gc_11_v2 c_11 c_13 ahpσ_16 bhpσ_16 bf_17 c_18 gc_23_f_22 c_23 c_27 ahpσ_31 bhpσ_31 hm133 hge133 bf_37 ahpσ_40 bhpσ_40 chpσ_40 gc_41_x_35 gc_41_r_39 c_41 bf_46 ahpσ_49 bhpσ_49 chpσ_49 ahpσ_58 bhpσ_58 c_60; omega) | omega) hF hI (lv_sub hl [2, 3, 4, 5, 6, 7, 8, 9, 10, 0] rfl)
                            · skip
                              replace hF := q_ifp hF c_60
                              refine lv_iload hx hb dX11_best_202 (lv_at hl 8 rfl) ?_
                              refine lv_iconst (v := (-1)) hx hb dX11_best_204 (by decide) ?_
                              have gc_62_x_52 := q_rng x_52
                              refine q_icmp_eq (A := x_52.toInt) (B := (-1)) E rfl (by decide) (tgt := 215) dX11_best_205 (by decide) (fun c_62 => ?_) (fun c_62 => ?_)
                              · skip
                                replace hF := q_ifp hF c_62
                                refine lv_iload hx hb dX11_best_215 (lv_at hl 0 rfl) ?_
                                refine lv_istore (lv' := [(7, .int r_57), (10, .int r_57), (0, .ref a), (1, .int v1), (2, .int v2), (3, .int r_15), (4, .int r_30), (5, .int x_50), (6, .int x_51), (8, .int x_35), (9, .int x_53)]) hx hb dX11_best_217 hl (by decide) rfl (fun ls hl => ?_)
                                refine lv_iload hx hb dX11_best_219 (lv_at hl 10 rfl) ?_
                                refine lv_istore (lv' := [(5, .int x_53), (7, .int r_57), (10, .int r_57), (0, .ref a), (1, .int v1), (2, .int v2), (3, .int r_15), (4, .int r_30), (6, .int x_51), (8, .int x_35), (9, .int x_53)]) hx hb dX11_best_221 hl (by decide) rfl (fun ls hl => ?_)
                                refine lv_iload hx hb dX11_best_223 (lv_at hl 9 rfl) ?_
                                refine lv_istore (lv' := [(6, .int x_35), (5, .int x_53), (7, .int r_57), (10, .int r_57), (0, .ref a), (1, .int v1), (2, .int v2), (3, .int r_15), (4, .int r_30), (8, .int x_35), (9, .int x_53)]) hx hb dX11_best_225 hl (by decide) rfl (fun ls hl => ?_)
                                obtain ⟨z_63, ez_63⟩ : ∃ y : Int32, y = x_53 + (-1) := ⟨_, rfl⟩
                                replace hF := q_letX hF ez_63
                                refine lv_iinc (v := z_63) (lv' := [(9, .int z_63), (6, .int x_35), (5, .int x_53), (7, .int r_57), (10, .int r_57), (0, .ref a), (1, .int v1), (2, .int v2), (3, .int r_15), (4, .int r_30), (8, .int x_35)]) hx hb dX11_best_227 hl (k := 10) rfl (by rw [ez_63]; rfl) (by decide) rfl (fun ls hl => ?_)
                                have iz_63 : z_63.toInt = x_53.toInt - 1 := q_dec ez_63 (by first | (clear ahpσ_2 bhpσ_2 chpσ_2 c_3 c_7 gc_11_v2 c_11 c_13 ahpσ_16 bhpσ_16 bf_17 c_18 gc_23_f_22 c_23 c_27 ahpσ_31 bhpσ_31 hm133 hge133 bf_37 ahpσ_40 bhpσ_40 chpσ_40 gc_41_x_35 gc_41_r_39 c_41 bf_46 ahpσ_49 bhpσ_49 chpσ_49 hm175 ahpσ_58 bhpσ_58 c_60 gc_62_x_52 c_62; omega) | omega)
                                refine lv_goto (tgt := 175) hx hb dX11_best_230 (by decide) ?_
                                exact ih175 x_53 x_35 r_57 z_63 _ _ ls (by first | (clear ahpσ_2 bhpσ_2 chpσ_2 c_3 c_7 gc_11_v2 c_11 c_13 ahpσ_16 bhpσ_16 bf_17 c_18 gc_23_f_22 c_23 c_27 ahpσ_31 bhpσ_31 hm133 hge133 bf_37 ahpσ_40 bhpσ_40 chpσ_40 gc_41_x_35 gc_41_r_39 c_41 bf_46 ahpσ_49 bhpσ_49 chpσ_49 ahpσ_58 bhpσ_58 c_60 gc_62_x_52 c_62; omega) | omega) hF hI (lv_sub hl [5, 6, 7, 8, 9, 2, 1, 3, 10, 0] rfl)
                              · skip
                                replace hF := q_ifn hF c_62
                                refine lv_iload hx hb dX11_best_208 (lv_at hl 0 rfl) ?_
                                refine lv_iload hx hb dX11_best_210 (lv_at hl 8 rfl) ?_
                                have gc_64_r_57 := q_rng r_57
                                have gc_64_x_52 := q_rng x_52
                                refine q_icmp_ge (A := r_57.toInt) (B := x_52.toInt) E rfl rfl (tgt := 227) dX11_best_212 (by decide) (fun c_64 => ?_) (fun c_64 => ?_)
                                · skip
                                  replace hF := q_ifn hF (Int.not_lt.mpr c_64)
                                  obtain ⟨z_65, ez_65⟩ : ∃ y : Int32, y = x_53 + (-1) := ⟨_, rfl⟩
                                  replace hF := q_letX hF ez_65
                                  refine lv_iinc (v := z_65) (lv' := [(9, .int z_65), (10, .int r_57), (0, .ref a), (1, .int v1), (2, .int v2), (3, .int r_15), (4, .int r_30), (5, .int x_50), (6, .int x_51), (7, .int x_52), (8, .int x_35)]) hx hb dX11_best_227 hl (k := 10) rfl (by rw [ez_65]; rfl) (by decide) rfl (fun ls hl => ?_)
                                  have iz_65 : z_65.toInt = x_53.toInt - 1 := q_dec ez_65 (by first | (clear ahpσ_2 bhpσ_2 chpσ_2 c_3 c_7 gc_11_v2 c_11 c_13 ahpσ_16 bhpσ_16 bf_17 c_18 gc_23_f_22 c_23 c_27 ahpσ_31 bhpσ_31 hm133 hge133 bf_37 ahpσ_40 bhpσ_40 chpσ_40 gc_41_x_35 gc_41_r_39 c_41 bf_46 ahpσ_49 bhpσ_49 chpσ_49 hm175 ahpσ_58 bhpσ_58 c_60 gc_62_x_52 c_62 gc_64_r_57 gc_64_x_52 c_64; omega) | omega)
                                  refine lv_goto (tgt := 175) hx hb dX11_best_230 (by decide) ?_
                                  exact ih175 x_50 x_51 x_52 z_65 _ _ ls (by first | (clear ahpσ_2 bhpσ_2 chpσ_2 c_3 c_7 gc_11_v2 c_11 c_13 ahpσ_16 bhpσ_16 bf_17 c_18 gc_23_f_22 c_23 c_27 ahpσ_31 bhpσ_31 hm133 hge133 bf_37 ahpσ_40 bhpσ_40 chpσ_40 gc_41_x_35 gc_41_r_39 c_41 bf_46 ahpσ_49 bhpσ_49 chpσ_49 ahpσ_58 bhpσ_58 c_60 gc_62_x_52 gc_64_r_57 gc_64_x_52 c_64; omega) | omega) hF hI (lv_sub hl [2, 3, 4, 5, 6, 7, 8, 9, 10, 0] rfl)
                                · skip
                                  replace hF := q_ifp hF c_64
                                  refine lv_iload hx hb dX11_best_215 (lv_at hl 0 rfl) ?_
                                  refine lv_istore (lv' := [(7, .int r_57), (10, .int r_57), (0, .ref a), (1, .int v1), (2, .int v2), (3, .int r_15), (4, .int r_30), (5, .int x_50), (6, .int x_51), (8, .int x_35), (9, .int x_53)]) hx hb dX11_best_217 hl (by decide) rfl (fun ls hl => ?_)
                                  refine lv_iload hx hb dX11_best_219 (lv_at hl 10 rfl) ?_
                                  refine lv_istore (lv' := [(5, .int x_53), (7, .int r_57), (10, .int r_57), (0, .ref a), (1, .int v1), (2, .int v2), (3, .int r_15), (4, .int r_30), (6, .int x_51), (8, .int x_35), (9, .int x_53)]) hx hb dX11_best_221 hl (by decide) rfl (fun ls hl => ?_)
                                  refine lv_iload hx hb dX11_best_223 (lv_at hl 9 rfl) ?_
                                  refine lv_istore (lv' := [(6, .int x_35), (5, .int x_53), (7, .int r_57), (10, .int r_57), (0, .ref a), (1, .int v1), (2, .int v2), (3, .int r_15), (4, .int r_30), (8, .int x_35), (9, .int x_53)]) hx hb dX11_best_225 hl (by decide) rfl (fun ls hl => ?_)
                                  obtain ⟨z_66, ez_66⟩ : ∃ y : Int32, y = x_53 + (-1) := ⟨_, rfl⟩
                                  replace hF := q_letX hF ez_66
                                  refine lv_iinc (v := z_66) (lv' := [(9, .int z_66), (6, .int x_35), (5, .int x_53), (7, .int r_57), (10, .int r_57), (0, .ref a), (1, .int v1), (2, .int v2), (3, .int r_15), (4, .int r_30), (8, .int x_35)]) hx hb dX11_best_227 hl (k := 10) rfl (by rw [ez_66]; rfl) (by decide) rfl (fun ls hl => ?_)
                                  have iz_66 : z_66.toInt = x_53.toInt - 1 := q_dec ez_66 (by first | (clear ahpσ_2 bhpσ_2 chpσ_2 c_3 c_7 gc_11_v2 c_11 c_13 ahpσ_16 bhpσ_16 bf_17 c_18 gc_23_f_22 c_23 c_27 ahpσ_31 bhpσ_31 hm133 hge133 bf_37 ahpσ_40 bhpσ_40 chpσ_40 gc_41_x_35 gc_41_r_39 c_41 bf_46 ahpσ_49 bhpσ_49 chpσ_49 hm175 ahpσ_58 bhpσ_58 c_60 gc_62_x_52 c_62 gc_64_r_57 gc_64_x_52 c_64; omega) | omega)
                                  refine lv_goto (tgt := 175) hx hb dX11_best_230 (by decide) ?_
                                  exact ih175 x_53 x_35 r_57 z_66 _ _ ls (by first | (clear ahpσ_2 bhpσ_2 chpσ_2 c_3 c_7 gc_11_v2 c_11 c_13 ahpσ_16 bhpσ_16 bf_17 c_18 gc_23_f_22 c_23 c_27 ahpσ_31 bhpσ_31 hm133 hge133 bf_37 ahpσ_40 bhpσ_40 chpσ_40 gc_41_x_35 gc_41_r_39 c_41 bf_46 ahpσ_49 bhpσ_49 chpσ_49 ahpσ_58 bhpσ_58 c_60 gc_62_x_52 gc_64_r_57 gc_64_x_52 c_64; omega) | omega) hF hI (lv_sub hl [5, 6, 7, 8, 9, 2, 1, 3, 10, 0] rfl)
                      exact L_175_54 ((r_48.toInt + 2147483649).toNat + 1) x_32 x_33 x_34 r_48 _ _ ls (Nat.lt_succ_self _) hF hI (lv_sub hl [1, 2, 3, 4, 5, 6, 7, 8, 9, 0] rfl)
                exact L_133_36 ((2147483647 - (0 : Int32).toInt).toNat + 1) (-1) (-1) (-1) 0 _ _ ls (Nat.lt_succ_self _) (by decide) hF hI (lv_sub hl [6, 7, 8, 5, 4, 3, 2, 1, 0] rfl)
              · skip
                replace hF := q_ifp hF c_27
                refine lv_aload_n hx hb dX11_best_88 rfl (lv_at hl 1 rfl) ?_
                refine lv_bipush (v := 9) hx hb dX11_best_89 (by decide) ?_
                have kc_67 : (9 : Int32).toInt = 9 := rfl
                refine q_ci (q_runV (As := [.int 9]) (rest := []) E (hml.trans hl.1.symm) hI (c_X11_none l X σ a (9 : Int32) ha) kv_X11_109 ha ⟨rfl, by decide⟩ (show vwCl[10]? = some (RX11, TX11, 17) from rfl) rfl ⟨Nat.le_of_ble_eq_true rfl, Nat.le_of_ble_eq_true rfl⟩ ⟨Nat.le_refl _, Nat.le_refl _⟩ rfl (Nat.le_of_ble_eq_true rfl) dX11_best_91) hI (by decide) (fun r_68 σ_69 H locs hpσ_69 hkσ_69 hI => ?_)
                obtain ⟨ahpσ_69, bhpσ_69, chpσ_69⟩ := hpσ_69
                have fr_σ_69 := fr_σ.call chpσ_69 rfl rfl
                replace hF := q_biX hF bhpσ_69
                exact q_reti E hr hlk hI ⟨(hF.trans hout), fr_σ_69⟩ dX11_best_94
        · skip
          replace hF := q_ifp hF c_13
          refine lv_aload_n hx hb dX11_best_35 rfl (lv_at hl 0 rfl) ?_
          refine lv_bipush (v := 8) hx hb dX11_best_36 (by decide) ?_
          have kc_70 : (8 : Int32).toInt = 8 := rfl
          refine q_ci (q_runV (As := [.int 8]) (rest := []) E (hml.trans hl.1.symm) hI (c_X11_none l X σ a (8 : Int32) ha) kv_X11_109 ha ⟨rfl, by decide⟩ (show vwCl[10]? = some (RX11, TX11, 17) from rfl) rfl ⟨Nat.le_of_ble_eq_true rfl, Nat.le_of_ble_eq_true rfl⟩ ⟨Nat.le_refl _, Nat.le_refl _⟩ rfl (Nat.le_of_ble_eq_true rfl) dX11_best_38) hI (by decide) (fun r_71 σ_72 H locs hpσ_72 hkσ_72 hI => ?_)
          obtain ⟨ahpσ_72, bhpσ_72, chpσ_72⟩ := hpσ_72
          have fr_σ_72 := fr_σ.call chpσ_72 rfl rfl
          replace hF := q_biX hF bhpσ_72
          exact q_reti E hr hlk hI ⟨(hF.trans hout), fr_σ_72⟩ dX11_best_41
      · skip
        replace hF := q_ifp hF c_11
        refine lv_aload_n hx hb dX11_best_16 rfl (lv_at hl 0 rfl) ?_
        refine lv_iconst (v := 5) hx hb dX11_best_17 (by decide) ?_
        have kc_73 : (5 : Int32).toInt = 5 := rfl
        refine q_ci (q_runV (As := [.int 5]) (rest := []) E (hml.trans hl.1.symm) hI (c_X11_none l X σ a (5 : Int32) ha) kv_X11_109 ha ⟨rfl, by decide⟩ (show vwCl[10]? = some (RX11, TX11, 17) from rfl) rfl ⟨Nat.le_of_ble_eq_true rfl, Nat.le_of_ble_eq_true rfl⟩ ⟨Nat.le_refl _, Nat.le_refl _⟩ rfl (Nat.le_of_ble_eq_true rfl) dX11_best_18) hI (by decide) (fun r_74 σ_75 H locs hpσ_75 hkσ_75 hI => ?_)
        obtain ⟨ahpσ_75, bhpσ_75, chpσ_75⟩ := hpσ_75
        have fr_σ_75 := fr_σ.call chpσ_75 rfl rfl
        replace hF := q_biX hF bhpσ_75
        exact q_reti E hr hlk hI ⟨(hF.trans hout), fr_σ_75⟩ dX11_best_21

set_option maxRecDepth 100000 in
set_option maxHeartbeats 4000000 in
theorem c_X11_sayer (l : Launch) (X : XW) (σ : ST) (a : Nat) (v1 : Int32) (ha : q_kd X a = 11) : Met l yX11_sayer (q_ws yX11_sayer cX11_sayer 4 (some .int)) (q_rm 2 44) (q_P X σ [.ref a, .int v1]) (q_Qi X 8 σ (fun (r : Int32) (σ' : ST) => (r, σ') = F_X11_sayer X σ a v1 ∧ q_ow [(11, 0)] [] X σ σ')) 0 0 (q_reg X) := by
  refine q_met 8 (by first | exact rfl | decide +kernel) rfl (Nat.le_of_ble_eq_true rfl) (fun p e s m below meth c E hml hr hlk hI ls hl => ?_)
  have hx := E.1
  have hb := E.2.1
  have hl : lv_has ls 4 [(0, .ref a), (1, .int v1)] := hl
  have fr_σ : q_ow [(11, 0)] [] X σ σ := q_ow.rf
  obtain ⟨out, hout⟩ : ∃ o, o = F_X11_sayer X σ a v1 := ⟨_, rfl⟩
  have hF := hout.symm
  unfold F_X11_sayer at hF
  refine lv_aload_n hx hb dX11_sayer_0 rfl (lv_at hl 0 rfl) ?_
  refine lv_iload_n hx hb dX11_sayer_1 rfl (lv_at hl 1 rfl) ?_
  refine q_ci (q_runV (As := [.int v1]) (rest := []) E (hml.trans hl.1.symm) hI (c_X11_isKind l X σ a v1 ha) kv_X11_250 ha ⟨rfl, by decide⟩ (show vwCl[10]? = some (RX11, TX11, 17) from rfl) rfl ⟨Nat.le_of_ble_eq_true rfl, Nat.le_of_ble_eq_true rfl⟩ ⟨Nat.le_refl _, Nat.le_refl _⟩ rfl (Nat.le_of_ble_eq_true rfl) dX11_sayer_2) hI (by decide) (fun r_1 σ_2 H locs hpσ_2 hkσ_2 hI => ?_)
  obtain ⟨ahpσ_2, bhpσ_2, chpσ_2⟩ := hpσ_2
  rw [ahpσ_2] at hI
  replace hF := q_letX hF chpσ_2
  refine q_if_ne (A := r_1.toInt) E rfl (tgt := 14) dX11_sayer_5 (by decide) (fun c_3 => ?_) (fun c_3 => ?_)
  · skip
    replace hF := q_ifn hF c_3
    replace c_3 := q_ifOne bhpσ_2 c_3
    refine lv_aload_n hx hb dX11_sayer_14 rfl (lv_at hl 0 rfl) ?_
    refine gs_X11_42_11 E hI ha dX11_sayer_15 ?_
    refine gs_X11_147_1 E hI (q_tk (k' := 1) hI ha rfl (by decide)) dX11_sayer_18 ?_
    refine gs_X11_151_6 E hI (q_tk (k' := 6) hI (q_tk (k' := 1) hI ha rfl (by decide)) rfl (by decide)) dX11_sayer_21 ?_
    refine lv_topi (fun f_4 ef_4 => ?_)
    replace hF := q_letX hF ef_4
    refine q_if_ne (A := f_4.toInt) E rfl (tgt := 34) dX11_sayer_24 (by decide) (fun c_5 => ?_) (fun c_5 => ?_)
    · skip
      replace hF := q_ifn hF c_5
      refine lv_aload_n hx hb dX11_sayer_34 rfl (lv_at hl 0 rfl) ?_
      refine gs_X11_42_11 E hI ha dX11_sayer_35 ?_
      refine gs_X11_210_1 E hI (q_tk (k' := 1) hI ha rfl (by decide)) dX11_sayer_38 ?_
      refine lv_topi (fun f_6 ef_6 => ?_)
      replace hF := q_letX hF ef_6
      have bf_6 : 0 ≤ f_6.toInt ∧ f_6.toInt ≤ 1 := by rw [ef_6]; exact q_bd hI (q_tk (k' := 1) hI ha rfl (by decide)) rfl
      refine q_if_eq (A := f_6.toInt) E rfl (tgt := 48) dX11_sayer_41 (by decide) (fun c_7 => ?_) (fun c_7 => ?_)
      · skip
        replace hF := q_ifp hF c_7
        refine lv_iconst (v := 0) hx hb dX11_sayer_48 (by decide) ?_
        refine lv_istore_n (lv' := [(2, .int 0), (0, .ref a), (1, .int v1)]) hx hb dX11_sayer_49 rfl hl (by decide) rfl (fun ls hl => ?_)
        refine lv_iload_n hx hb dX11_sayer_50 rfl (lv_at hl 0 rfl) ?_
        refine lv_istore_n (lv' := [(3, .int 0), (2, .int 0), (0, .ref a), (1, .int v1)]) hx hb dX11_sayer_51 rfl hl (by decide) rfl (fun ls hl => ?_)
        have L_52_9 : ∀ (k_9 : Nat) (x_8 : Int32) (H : Heap) (locs : List Loc) (ls : Array Slot), (2147483647 - x_8.toInt).toNat < k_9 → (0 ≤ x_8.toInt) → (F_X11_sayer_L52_1 X σ a v1 k_9 x_8 = out) → q_I X 8 σ s.heap locs σ H → lv_has ls 4 [(0, .ref a), (1, .int v1), (2, .int 0), (3, .int x_8)] → W p l e (q_rm 2 44) s m ([.ref a, .int v1] : List Value).toArray below meth c H locs 0 0 (MQ below (q_Qi X 8 σ (fun (r : Int32) (σ' : ST) => (r, σ') = F_X11_sayer X σ a v1 ∧ q_ow [(11, 0)] [] X σ σ')) ([.ref a, .int v1] : List Value).toArray s 0 0 (q_reg X)) (F0 m 52 ls []) := by
          clear hF
          intro k_9
          induction k_9 with
          | zero =>
            intro x_8 H locs ls hms
            exact absurd hms (Nat.not_lt_zero _)
          | succ k_9 ih52 =>
            intro x_8 H locs ls hm52 hge52 hF hI hl
            replace hF := (F_X11_sayer_L52_1_s).symm.trans hF
            unfold F_X11_sayer_B52_1 at hF
            refine lv_iload_n hx hb dX11_sayer_52 rfl (lv_at hl 3 rfl) ?_
            refine lv_aload_n hx hb dX11_sayer_53 rfl (lv_at hl 0 rfl) ?_
            refine gs_X11_42_11 E hI ha dX11_sayer_54 ?_
            refine gs_X11_147_1 E hI (q_tk (k' := 1) hI ha rfl (by decide)) dX11_sayer_57 ?_
            refine gs_X11_183_6 E hI (q_tk (k' := 6) hI (q_tk (k' := 1) hI ha rfl (by decide)) rfl (by decide)) dX11_sayer_60 ?_
            refine lv_topi (fun f_10 ef_10 => ?_)
            replace hF := q_letX hF ef_10
            have bf_10 : -2147483648 ≤ f_10.toInt ∧ f_10.toInt ≤ 10 := by rw [ef_10]; exact q_bd hI (q_tk (k' := 6) hI (q_tk (k' := 1) hI ha rfl (by decide)) rfl (by decide)) rfl
            have gc_11_x_8 := q_rng x_8
            have gc_11_f_10 := q_rng f_10
            refine q_icmp_gt (A := x_8.toInt) (B := f_10.toInt) E rfl rfl (tgt := 117) dX11_sayer_63 (by decide) (fun c_11 => ?_) (fun c_11 => ?_)
            · skip
              replace hF := q_ifp hF c_11
              unfold F_X11_sayer_E117_2 at hF
              refine lv_aload_n hx hb dX11_sayer_117 rfl (lv_at hl 0 rfl) ?_
              refine lv_bipush (v := 8) hx hb dX11_sayer_118 (by decide) ?_
              have kc_12 : (8 : Int32).toInt = 8 := rfl
              refine q_ci (q_runV (As := [.int 8]) (rest := []) E (hml.trans hl.1.symm) hI (c_X11_none l X σ a (8 : Int32) ha) kv_X11_109 ha ⟨rfl, by decide⟩ (show vwCl[10]? = some (RX11, TX11, 17) from rfl) rfl ⟨Nat.le_of_ble_eq_true rfl, Nat.le_of_ble_eq_true rfl⟩ ⟨Nat.le_refl _, Nat.le_refl _⟩ rfl (Nat.le_of_ble_eq_true rfl) dX11_sayer_120) hI (by decide) (fun r_13 σ_14 H locs hpσ_14 hkσ_14 hI => ?_)
              obtain ⟨ahpσ_14, bhpσ_14, chpσ_14⟩ := hpσ_14
              have fr_σ_14 := fr_σ.call chpσ_14 rfl rfl
              replace hF := q_biX hF bhpσ_14
              exact q_reti E hr hlk hI ⟨(hF.trans hout), fr_σ_14⟩ dX11_sayer_123
            · skip
              replace hF := q_ifn hF (Int.not_lt.mpr c_11)
              refine lv_aload_n hx hb dX11_sayer_66 rfl (lv_at hl 0 rfl) ?_
              refine gs_X11_42_11 E hI ha dX11_sayer_67 ?_
              refine gs_X11_147_1 E hI (q_tk (k' := 1) hI ha rfl (by decide)) dX11_sayer_70 ?_
              refine lv_aload_n hx hb dX11_sayer_73 rfl (lv_at hl 0 rfl) ?_
              refine gs_X11_42_11 E hI ha dX11_sayer_74 ?_
              refine gs_X11_195_1 E hI (q_tk (k' := 1) hI ha rfl (by decide)) dX11_sayer_77 ?_
              refine lv_topi (fun f_15 ef_15 => ?_)
              replace hF := q_letX hF ef_15
              refine lv_iload_n hx hb dX11_sayer_80 rfl (lv_at hl 3 rfl) ?_
              refine q_ci (q_runV (As := [.int f_15, .int x_8]) (rest := []) E (hml.trans hl.1.symm) hI (c_X6_kindAfter l X σ (q_rf X (q_rf X a 8) 0) f_15 x_8 (q_tk (k' := 6) hI (q_tk (k' := 1) hI ha rfl (by decide)) rfl (by decide))) kv_X11_386 (q_tk (k' := 6) hI (q_tk (k' := 1) hI ha rfl (by decide)) rfl (by decide)) ⟨rfl, by decide⟩ (show vwCl[5]? = some (RX6, TX6, 8) from rfl) rfl ⟨Nat.le_of_ble_eq_true rfl, Nat.le_of_ble_eq_true rfl⟩ ⟨Nat.le_refl _, Nat.le_refl _⟩ rfl (Nat.le_of_ble_eq_true rfl) dX11_sayer_81) hI (by decide) (fun r_16 σ_17 H locs hpσ_17 hkσ_17 hI => ?_)
              obtain ⟨ahpσ_17, bhpσ_17⟩ := hpσ_17
              rw [ahpσ_17] at hI
              replace hF := q_letX hF bhpσ_17
              refine lv_iload_n hx hb dX11_sayer_84 rfl (lv_at hl 1 rfl) ?_
              have gc_18_r_16 := q_rng r_16
              have gc_18_v1 := q_rng v1
              refine q_icmp_ne (A := r_16.toInt) (B := v1.toInt) E rfl rfl (tgt := 111) dX11_sayer_85 (by decide) (fun c_18 => ?_) (fun c_18 => ?_)
              · skip
                replace hF := q_ifn hF c_18
                obtain ⟨z_19, ez_19⟩ : ∃ y : Int32, y = x_8 + 1 := ⟨_, rfl⟩
                replace hF := q_letX hF ez_19
                refine lv_iinc (v := z_19) (lv' := [(3, .int z_19), (0, .ref a), (1, .int v1), (2, .int 0)]) hx hb dX11_sayer_111 hl (k := 3) rfl (by rw [ez_19]; rfl) (by decide) rfl (fun ls hl => ?_)
                have iz_19 : z_19.toInt = x_8.toInt + 1 := q_inc ez_19 (by first | (clear ahpσ_2 bhpσ_2 chpσ_2 c_3 c_5 bf_6 c_7 hm52 gc_11_f_10 ahpσ_17 bhpσ_17 gc_18_r_16 gc_18_v1 c_18; omega) | omega)
                refine lv_goto (tgt := 52) hx hb dX11_sayer_114 (by decide) ?_
                exact ih52 z_19 _ _ ls (by first | (clear ahpσ_2 bhpσ_2 chpσ_2 c_3 c_5 bf_6 c_7 gc_11_f_10 ahpσ_17 bhpσ_17 gc_18_r_16 gc_18_v1; omega) | omega) (by first | (clear ahpσ_2 bhpσ_2 chpσ_2 c_3 c_5 bf_6 c_7 hm52 bf_10 gc_11_f_10 c_11 ahpσ_17 bhpσ_17 gc_18_r_16 gc_18_v1 c_18; omega) | omega) hF hI (lv_sub hl [1, 2, 3, 0] rfl)
              · skip
                replace hF := q_ifp hF c_18
                unfold F_X11_sayer_E88_3 at hF
                refine lv_aload_n hx hb dX11_sayer_88 rfl (lv_at hl 0 rfl) ?_
                refine lv_aload_n hx hb dX11_sayer_89 rfl (lv_at hl 0 rfl) ?_
                refine gs_X11_42_11 E hI ha dX11_sayer_90 ?_
                refine gs_X11_147_1 E hI (q_tk (k' := 1) hI ha rfl (by decide)) dX11_sayer_93 ?_
                refine lv_aload_n hx hb dX11_sayer_96 rfl (lv_at hl 0 rfl) ?_
                refine gs_X11_42_11 E hI ha dX11_sayer_97 ?_
                refine gs_X11_198_1 E hI (q_tk (k' := 1) hI ha rfl (by decide)) dX11_sayer_100 ?_
                refine lv_topi (fun f_20 ef_20 => ?_)
                replace hF := q_letX hF ef_20
                refine lv_iload_n hx hb dX11_sayer_103 rfl (lv_at hl 3 rfl) ?_
                refine q_ci (q_runV (As := [.int f_20, .int x_8]) (rest := [.ref a]) E (hml.trans hl.1.symm) hI (c_X6_playerAfter l X σ (q_rf X (q_rf X a 8) 0) f_20 x_8 (q_tk (k' := 6) hI (q_tk (k' := 1) hI ha rfl (by decide)) rfl (by decide))) kv_X11_339 (q_tk (k' := 6) hI (q_tk (k' := 1) hI ha rfl (by decide)) rfl (by decide)) ⟨rfl, by decide⟩ (show vwCl[5]? = some (RX6, TX6, 8) from rfl) rfl ⟨Nat.le_of_ble_eq_true rfl, Nat.le_of_ble_eq_true rfl⟩ ⟨Nat.le_refl _, Nat.le_refl _⟩ rfl (Nat.le_of_ble_eq_true rfl) dX11_sayer_104) hI (by decide) (fun r_21 σ_22 H locs hpσ_22 hkσ_22 hI => ?_)
                obtain ⟨ahpσ_22, bhpσ_22⟩ := hpσ_22
                rw [ahpσ_22] at hI
                replace hF := q_letX hF bhpσ_22
                refine q_ci (q_runV (As := [.int r_21]) (rest := []) E (hml.trans hl.1.symm) hI (c_X11_good l X σ a r_21 ha) kv_X11_156 ha ⟨rfl, by decide⟩ (show vwCl[10]? = some (RX11, TX11, 17) from rfl) rfl ⟨Nat.le_of_ble_eq_true rfl, Nat.le_of_ble_eq_true rfl⟩ ⟨Nat.le_refl _, Nat.le_refl _⟩ rfl (Nat.le_of_ble_eq_true rfl) dX11_sayer_107) hI (by decide) (fun r_23 σ_24 H locs hpσ_24 hkσ_24 hI => ?_)
                obtain ⟨ahpσ_24, bhpσ_24, chpσ_24⟩ := hpσ_24
                have fr_σ_24 := fr_σ.call chpσ_24 rfl rfl
                replace hF := q_biX hF bhpσ_24
                exact q_reti E hr hlk hI ⟨(hF.trans hout), fr_σ_24⟩ dX11_sayer_110
        exact L_52_9 ((2147483647 - (0 : Int32).toInt).toNat + 1) 0 _ _ ls (Nat.lt_succ_self _) (by decide) hF hI (lv_sub hl [2, 3, 1, 0] rfl)
      · skip
        replace hF := q_ifn hF c_7
        refine lv_iconst (v := 1) hx hb dX11_sayer_44 (by decide) ?_
        refine lv_goto (tgt := 49) hx hb dX11_sayer_45 (by decide) ?_
        refine lv_istore_n (lv' := [(2, .int 1), (0, .ref a), (1, .int v1)]) hx hb dX11_sayer_49 rfl hl (by decide) rfl (fun ls hl => ?_)
        refine lv_iload_n hx hb dX11_sayer_50 rfl (lv_at hl 0 rfl) ?_
        refine lv_istore_n (lv' := [(3, .int 1), (2, .int 1), (0, .ref a), (1, .int v1)]) hx hb dX11_sayer_51 rfl hl (by decide) rfl (fun ls hl => ?_)
        have L_52_26 : ∀ (k_26 : Nat) (x_25 : Int32) (H : Heap) (locs : List Loc) (ls : Array Slot), (2147483647 - x_25.toInt).toNat < k_26 → (0 ≤ x_25.toInt) → (F_X11_sayer_L52_4 X σ a v1 k_26 x_25 = out) → q_I X 8 σ s.heap locs σ H → lv_has ls 4 [(0, .ref a), (1, .int v1), (2, .int 1), (3, .int x_25)] → W p l e (q_rm 2 44) s m ([.ref a, .int v1] : List Value).toArray below meth c H locs 0 0 (MQ below (q_Qi X 8 σ (fun (r : Int32) (σ' : ST) => (r, σ') = F_X11_sayer X σ a v1 ∧ q_ow [(11, 0)] [] X σ σ')) ([.ref a, .int v1] : List Value).toArray s 0 0 (q_reg X)) (F0 m 52 ls []) := by
          clear hF
          intro k_26
          induction k_26 with
          | zero =>
            intro x_25 H locs ls hms
            exact absurd hms (Nat.not_lt_zero _)
          | succ k_26 ih52 =>
            intro x_25 H locs ls hm52 hge52 hF hI hl
            replace hF := (F_X11_sayer_L52_4_s).symm.trans hF
            unfold F_X11_sayer_B52_4 at hF
            refine lv_iload_n hx hb dX11_sayer_52 rfl (lv_at hl 3 rfl) ?_
            refine lv_aload_n hx hb dX11_sayer_53 rfl (lv_at hl 0 rfl) ?_
            refine gs_X11_42_11 E hI ha dX11_sayer_54 ?_
            refine gs_X11_147_1 E hI (q_tk (k' := 1) hI ha rfl (by decide)) dX11_sayer_57 ?_
            refine gs_X11_183_6 E hI (q_tk (k' := 6) hI (q_tk (k' := 1) hI ha rfl (by decide)) rfl (by decide)) dX11_sayer_60 ?_
            refine lv_topi (fun f_27 ef_27 => ?_)
            replace hF := q_letX hF ef_27
            have bf_27 : -2147483648 ≤ f_27.toInt ∧ f_27.toInt ≤ 10 := by rw [ef_27]; exact q_bd hI (q_tk (k' := 6) hI (q_tk (k' := 1) hI ha rfl (by decide)) rfl (by decide)) rfl
            have gc_28_x_25 := q_rng x_25
            have gc_28_f_27 := q_rng f_27
            refine q_icmp_gt (A := x_25.toInt) (B := f_27.toInt) E rfl rfl (tgt := 117) dX11_sayer_63 (by decide) (fun c_28 => ?_) (fun c_28 => ?_)
            · skip
              replace hF := q_ifp hF c_28
              unfold F_X11_sayer_E117_5 at hF
              refine lv_aload_n hx hb dX11_sayer_117 rfl (lv_at hl 0 rfl) ?_
              refine lv_bipush (v := 8) hx hb dX11_sayer_118 (by decide) ?_
              have kc_29 : (8 : Int32).toInt = 8 := rfl
              refine q_ci (q_runV (As := [.int 8]) (rest := []) E (hml.trans hl.1.symm) hI (c_X11_none l X σ a (8 : Int32) ha) kv_X11_109 ha ⟨rfl, by decide⟩ (show vwCl[10]? = some (RX11, TX11, 17) from rfl) rfl ⟨Nat.le_of_ble_eq_true rfl, Nat.le_of_ble_eq_true rfl⟩ ⟨Nat.le_refl _, Nat.le_refl _⟩ rfl (Nat.le_of_ble_eq_true rfl) dX11_sayer_120) hI (by decide) (fun r_30 σ_31 H locs hpσ_31 hkσ_31 hI => ?_)
              obtain ⟨ahpσ_31, bhpσ_31, chpσ_31⟩ := hpσ_31
              have fr_σ_31 := fr_σ.call chpσ_31 rfl rfl
              replace hF := q_biX hF bhpσ_31
              exact q_reti E hr hlk hI ⟨(hF.trans hout), fr_σ_31⟩ dX11_sayer_123
            · skip
              replace hF := q_ifn hF (Int.not_lt.mpr c_28)
              refine lv_aload_n hx hb dX11_sayer_66 rfl (lv_at hl 0 rfl) ?_
              refine gs_X11_42_11 E hI ha dX11_sayer_67 ?_
              refine gs_X11_147_1 E hI (q_tk (k' := 1) hI ha rfl (by decide)) dX11_sayer_70 ?_
              refine lv_aload_n hx hb dX11_sayer_73 rfl (lv_at hl 0 rfl) ?_
              refine gs_X11_42_11 E hI ha dX11_sayer_74 ?_
              refine gs_X11_195_1 E hI (q_tk (k' := 1) hI ha rfl (by decide)) dX11_sayer_77 ?_
              refine lv_topi (fun f_32 ef_32 => ?_)
              replace hF := q_letX hF ef_32
              refine lv_iload_n hx hb dX11_sayer_80 rfl (lv_at hl 3 rfl) ?_
              refine q_ci (q_runV (As := [.int f_32, .int x_25]) (rest := []) E (hml.trans hl.1.symm) hI (c_X6_kindAfter l X σ (q_rf X (q_rf X a 8) 0) f_32 x_25 (q_tk (k' := 6) hI (q_tk (k' := 1) hI ha rfl (by decide)) rfl (by decide))) kv_X11_386 (q_tk (k' := 6) hI (q_tk (k' := 1) hI ha rfl (by decide)) rfl (by decide)) ⟨rfl, by decide⟩ (show vwCl[5]? = some (RX6, TX6, 8) from rfl) rfl ⟨Nat.le_of_ble_eq_true rfl, Nat.le_of_ble_eq_true rfl⟩ ⟨Nat.le_refl _, Nat.le_refl _⟩ rfl (Nat.le_of_ble_eq_true rfl) dX11_sayer_81) hI (by decide) (fun r_33 σ_34 H locs hpσ_34 hkσ_34 hI => ?_)
              obtain ⟨ahpσ_34, bhpσ_34⟩ := hpσ_34
              rw [ahpσ_34] at hI
              replace hF := q_letX hF bhpσ_34
              refine lv_iload_n hx hb dX11_sayer_84 rfl (lv_at hl 1 rfl) ?_
              have gc_35_r_33 := q_rng r_33
              have gc_35_v1 := q_rng v1
              refine q_icmp_ne (A := r_33.toInt) (B := v1.toInt) E rfl rfl (tgt := 111) dX11_sayer_85 (by decide) (fun c_35 => ?_) (fun c_35 => ?_)
              · skip
                replace hF := q_ifn hF c_35
                obtain ⟨z_36, ez_36⟩ : ∃ y : Int32, y = x_25 + 1 := ⟨_, rfl⟩
                replace hF := q_letX hF ez_36
                refine lv_iinc (v := z_36) (lv' := [(3, .int z_36), (0, .ref a), (1, .int v1), (2, .int 1)]) hx hb dX11_sayer_111 hl (k := 3) rfl (by rw [ez_36]; rfl) (by decide) rfl (fun ls hl => ?_)
                have iz_36 : z_36.toInt = x_25.toInt + 1 := q_inc ez_36 (by first | (clear ahpσ_2 bhpσ_2 chpσ_2 c_3 c_5 bf_6 c_7 hm52 gc_28_f_27 ahpσ_34 bhpσ_34 gc_35_r_33 gc_35_v1 c_35; omega) | omega)
                refine lv_goto (tgt := 52) hx hb dX11_sayer_114 (by decide) ?_
                exact ih52 z_36 _ _ ls (by first | (clear ahpσ_2 bhpσ_2 chpσ_2 c_3 c_5 bf_6 c_7 gc_28_f_27 ahpσ_34 bhpσ_34 gc_35_r_33 gc_35_v1; omega) | omega) (by first | (clear ahpσ_2 bhpσ_2 chpσ_2 c_3 c_5 bf_6 c_7 hm52 bf_27 gc_28_f_27 c_28 ahpσ_34 bhpσ_34 gc_35_r_33 gc_35_v1 c_35; omega) | omega) hF hI (lv_sub hl [1, 2, 3, 0] rfl)
              · skip
                replace hF := q_ifp hF c_35
                unfold F_X11_sayer_E88_6 at hF
                refine lv_aload_n hx hb dX11_sayer_88 rfl (lv_at hl 0 rfl) ?_
                refine lv_aload_n hx hb dX11_sayer_89 rfl (lv_at hl 0 rfl) ?_
                refine gs_X11_42_11 E hI ha dX11_sayer_90 ?_
                refine gs_X11_147_1 E hI (q_tk (k' := 1) hI ha rfl (by decide)) dX11_sayer_93 ?_
                refine lv_aload_n hx hb dX11_sayer_96 rfl (lv_at hl 0 rfl) ?_
                refine gs_X11_42_11 E hI ha dX11_sayer_97 ?_
                refine gs_X11_198_1 E hI (q_tk (k' := 1) hI ha rfl (by decide)) dX11_sayer_100 ?_
                refine lv_topi (fun f_37 ef_37 => ?_)
                replace hF := q_letX hF ef_37
                refine lv_iload_n hx hb dX11_sayer_103 rfl (lv_at hl 3 rfl) ?_
                refine q_ci (q_runV (As := [.int f_37, .int x_25]) (rest := [.ref a]) E (hml.trans hl.1.symm) hI (c_X6_playerAfter l X σ (q_rf X (q_rf X a 8) 0) f_37 x_25 (q_tk (k' := 6) hI (q_tk (k' := 1) hI ha rfl (by decide)) rfl (by decide))) kv_X11_339 (q_tk (k' := 6) hI (q_tk (k' := 1) hI ha rfl (by decide)) rfl (by decide)) ⟨rfl, by decide⟩ (show vwCl[5]? = some (RX6, TX6, 8) from rfl) rfl ⟨Nat.le_of_ble_eq_true rfl, Nat.le_of_ble_eq_true rfl⟩ ⟨Nat.le_refl _, Nat.le_refl _⟩ rfl (Nat.le_of_ble_eq_true rfl) dX11_sayer_104) hI (by decide) (fun r_38 σ_39 H locs hpσ_39 hkσ_39 hI => ?_)
                obtain ⟨ahpσ_39, bhpσ_39⟩ := hpσ_39
                rw [ahpσ_39] at hI
                replace hF := q_letX hF bhpσ_39
                refine q_ci (q_runV (As := [.int r_38]) (rest := []) E (hml.trans hl.1.symm) hI (c_X11_good l X σ a r_38 ha) kv_X11_156 ha ⟨rfl, by decide⟩ (show vwCl[10]? = some (RX11, TX11, 17) from rfl) rfl ⟨Nat.le_of_ble_eq_true rfl, Nat.le_of_ble_eq_true rfl⟩ ⟨Nat.le_refl _, Nat.le_refl _⟩ rfl (Nat.le_of_ble_eq_true rfl) dX11_sayer_107) hI (by decide) (fun r_40 σ_41 H locs hpσ_41 hkσ_41 hI => ?_)
                obtain ⟨ahpσ_41, bhpσ_41, chpσ_41⟩ := hpσ_41
                have fr_σ_41 := fr_σ.call chpσ_41 rfl rfl
                replace hF := q_biX hF bhpσ_41
                exact q_reti E hr hlk hI ⟨(hF.trans hout), fr_σ_41⟩ dX11_sayer_110
        exact L_52_26 ((2147483647 - (1 : Int32).toInt).toNat + 1) 1 _ _ ls (Nat.lt_succ_self _) (by decide) hF hI (lv_sub hl [2, 3, 1, 0] rfl)
    · skip
      replace hF := q_ifp hF c_5
      refine lv_aload_n hx hb dX11_sayer_27 rfl (lv_at hl 0 rfl) ?_
      refine lv_bipush (v := 8) hx hb dX11_sayer_28 (by decide) ?_
      have kc_42 : (8 : Int32).toInt = 8 := rfl
      refine q_ci (q_runV (As := [.int 8]) (rest := []) E (hml.trans hl.1.symm) hI (c_X11_none l X σ a (8 : Int32) ha) kv_X11_109 ha ⟨rfl, by decide⟩ (show vwCl[10]? = some (RX11, TX11, 17) from rfl) rfl ⟨Nat.le_of_ble_eq_true rfl, Nat.le_of_ble_eq_true rfl⟩ ⟨Nat.le_refl _, Nat.le_refl _⟩ rfl (Nat.le_of_ble_eq_true rfl) dX11_sayer_30) hI (by decide) (fun r_43 σ_44 H locs hpσ_44 hkσ_44 hI => ?_)
      obtain ⟨ahpσ_44, bhpσ_44, chpσ_44⟩ := hpσ_44
      have fr_σ_44 := fr_σ.call chpσ_44 rfl rfl
      replace hF := q_biX hF bhpσ_44
      exact q_reti E hr hlk hI ⟨(hF.trans hout), fr_σ_44⟩ dX11_sayer_33
  · skip
    replace hF := q_ifp hF c_3
    refine lv_aload_n hx hb dX11_sayer_8 rfl (lv_at hl 0 rfl) ?_
    refine lv_iconst (v := 2) hx hb dX11_sayer_9 (by decide) ?_
    have kc_45 : (2 : Int32).toInt = 2 := rfl
    refine q_ci (q_runV (As := [.int 2]) (rest := []) E (hml.trans hl.1.symm) hI (c_X11_none l X σ a (2 : Int32) ha) kv_X11_109 ha ⟨rfl, by decide⟩ (show vwCl[10]? = some (RX11, TX11, 17) from rfl) rfl ⟨Nat.le_of_ble_eq_true rfl, Nat.le_of_ble_eq_true rfl⟩ ⟨Nat.le_refl _, Nat.le_refl _⟩ rfl (Nat.le_of_ble_eq_true rfl) dX11_sayer_10) hI (by decide) (fun r_46 σ_47 H locs hpσ_47 hkσ_47 hI => ?_)
    obtain ⟨ahpσ_47, bhpσ_47, chpσ_47⟩ := hpσ_47
    have fr_σ_47 := fr_σ.call chpσ_47 rfl rfl
    replace hF := q_biX hF bhpσ_47
    exact q_reti E hr hlk hI ⟨(hF.trans hout), fr_σ_47⟩ dX11_sayer_13

set_option maxRecDepth 100000 in
set_option maxHeartbeats 4000000 in
theorem c_X11_has (l : Launch) (X : XW) (σ : ST) (a : Nat) (v1 : Int32) (ha : q_kd X a = 11) : Met l yX11_has (q_ws yX11_has cX11_has 4 (some .int)) (q_rm 2 43) (q_P X σ [.ref a, .int v1]) (q_Qi X 8 σ (fun (r : Int32) (σ' : ST) => (r, σ') = F_X11_has X σ a v1 ∧ q_ow [(11, 0)] [] X σ σ')) 0 0 (q_reg X) := by
  refine q_met 8 (by first | exact rfl | decide +kernel) rfl (Nat.le_of_ble_eq_true rfl) (fun p e s m below meth c E hml hr hlk hI ls hl => ?_)
  have hx := E.1
  have hb := E.2.1
  have hl : lv_has ls 4 [(0, .ref a), (1, .int v1)] := hl
  have fr_σ : q_ow [(11, 0)] [] X σ σ := q_ow.rf
  obtain ⟨out, hout⟩ : ∃ o, o = F_X11_has X σ a v1 := ⟨_, rfl⟩
  have hF := hout.symm
  unfold F_X11_has at hF
  refine lv_aload_n hx hb dX11_has_0 rfl (lv_at hl 0 rfl) ?_
  refine lv_iload_n hx hb dX11_has_1 rfl (lv_at hl 1 rfl) ?_
  refine q_ci (q_runV (As := [.int v1]) (rest := []) E (hml.trans hl.1.symm) hI (c_X11_isPlayer l X σ a v1 ha) kv_X11_219 ha ⟨rfl, by decide⟩ (show vwCl[10]? = some (RX11, TX11, 17) from rfl) rfl ⟨Nat.le_of_ble_eq_true rfl, Nat.le_of_ble_eq_true rfl⟩ ⟨Nat.le_refl _, Nat.le_refl _⟩ rfl (Nat.le_of_ble_eq_true rfl) dX11_has_2) hI (by decide) (fun r_1 σ_2 H locs hpσ_2 hkσ_2 hI => ?_)
  obtain ⟨ahpσ_2, bhpσ_2, chpσ_2⟩ := hpσ_2
  rw [ahpσ_2] at hI
  replace hF := q_letX hF chpσ_2
  refine q_if_ne (A := r_1.toInt) E rfl (tgt := 14) dX11_has_5 (by decide) (fun c_3 => ?_) (fun c_3 => ?_)
  · skip
    replace hF := q_ifn hF c_3
    replace c_3 := q_ifOne bhpσ_2 c_3
    refine lv_iconst (v := 0) hx hb dX11_has_14 (by decide) ?_
    refine lv_istore_n (lv' := [(2, .int 0), (0, .ref a), (1, .int v1)]) hx hb dX11_has_15 rfl hl (by decide) rfl (fun ls hl => ?_)
    refine lv_iconst (v := 0) hx hb dX11_has_16 (by decide) ?_
    refine lv_istore_n (lv' := [(3, .int 0), (2, .int 0), (0, .ref a), (1, .int v1)]) hx hb dX11_has_17 rfl hl (by decide) rfl (fun ls hl => ?_)
    have L_18_6 : ∀ (k_6 : Nat) (x_4 : Int32) (x_5 : Int32) (H : Heap) (locs : List Loc) (ls : Array Slot), (2147483647 - x_5.toInt).toNat < k_6 → (0 ≤ x_5.toInt) → (F_X11_has_L18_1 X σ a v1 k_6 x_4 x_5 = out) → q_I X 8 σ s.heap locs σ H → lv_has ls 4 [(0, .ref a), (1, .int v1), (2, .int x_4), (3, .int x_5)] → W p l e (q_rm 2 43) s m ([.ref a, .int v1] : List Value).toArray below meth c H locs 0 0 (MQ below (q_Qi X 8 σ (fun (r : Int32) (σ' : ST) => (r, σ') = F_X11_has X σ a v1 ∧ q_ow [(11, 0)] [] X σ σ')) ([.ref a, .int v1] : List Value).toArray s 0 0 (q_reg X)) (F0 m 18 ls []) := by
      clear hF
      intro k_6
      induction k_6 with
      | zero =>
        intro x_4 x_5 H locs ls hms
        exact absurd hms (Nat.not_lt_zero _)
      | succ k_6 ih18 =>
        intro x_4 x_5 H locs ls hm18 hge18 hF hI hl
        replace hF := (F_X11_has_L18_1_s).symm.trans hF
        unfold F_X11_has_B18_1 at hF
        refine lv_iload_n hx hb dX11_has_18 rfl (lv_at hl 3 rfl) ?_
        refine lv_aload_n hx hb dX11_has_19 rfl (lv_at hl 0 rfl) ?_
        refine gs_X11_42_11 E hI ha dX11_has_20 ?_
        refine gs_X11_147_1 E hI (q_tk (k' := 1) hI ha rfl (by decide)) dX11_has_23 ?_
        refine gs_X11_183_6 E hI (q_tk (k' := 6) hI (q_tk (k' := 1) hI ha rfl (by decide)) rfl (by decide)) dX11_has_26 ?_
        refine lv_topi (fun f_7 ef_7 => ?_)
        replace hF := q_letX hF ef_7
        have bf_7 : -2147483648 ≤ f_7.toInt ∧ f_7.toInt ≤ 10 := by rw [ef_7]; exact q_bd hI (q_tk (k' := 6) hI (q_tk (k' := 1) hI ha rfl (by decide)) rfl (by decide)) rfl
        have gc_8_x_5 := q_rng x_5
        have gc_8_f_7 := q_rng f_7
        refine q_icmp_ge (A := x_5.toInt) (B := f_7.toInt) E rfl rfl (tgt := 59) dX11_has_29 (by decide) (fun c_8 => ?_) (fun c_8 => ?_)
        · skip
          replace hF := q_ifn hF (Int.not_lt.mpr c_8)
          unfold F_X11_has_E59_2 at hF
          refine lv_aload_n hx hb dX11_has_59 rfl (lv_at hl 0 rfl) ?_
          refine lv_iload_n hx hb dX11_has_60 rfl (lv_at hl 2 rfl) ?_
          refine q_ci (q_runV (As := [.int x_4]) (rest := []) E (hml.trans hl.1.symm) hI (c_X11_good l X σ a x_4 ha) kv_X11_156 ha ⟨rfl, by decide⟩ (show vwCl[10]? = some (RX11, TX11, 17) from rfl) rfl ⟨Nat.le_of_ble_eq_true rfl, Nat.le_of_ble_eq_true rfl⟩ ⟨Nat.le_refl _, Nat.le_refl _⟩ rfl (Nat.le_of_ble_eq_true rfl) dX11_has_61) hI (by decide) (fun r_9 σ_10 H locs hpσ_10 hkσ_10 hI => ?_)
          obtain ⟨ahpσ_10, bhpσ_10, chpσ_10⟩ := hpσ_10
          have fr_σ_10 := fr_σ.call chpσ_10 rfl rfl
          replace hF := q_biX hF bhpσ_10
          exact q_reti E hr hlk hI ⟨(hF.trans hout), fr_σ_10⟩ dX11_has_64
        · skip
          replace hF := q_ifp hF c_8
          refine lv_aload_n hx hb dX11_has_32 rfl (lv_at hl 0 rfl) ?_
          refine gs_X11_42_11 E hI ha dX11_has_33 ?_
          refine gs_X11_222_1 E hI (q_tk (k' := 1) hI ha rfl (by decide)) dX11_has_36 ?_
          refine lv_iload_n hx hb dX11_has_39 rfl (lv_at hl 1 rfl) ?_
          refine lv_iload_n hx hb dX11_has_40 rfl (lv_at hl 3 rfl) ?_
          refine q_ci (q_runV (As := [.int v1, .int x_5]) (rest := []) E (hml.trans hl.1.symm) hI (c_X1_heldBy l X σ (q_rf X (q_rf X a 8) 1) v1 x_5 (q_tk (k' := 2) hI (q_tk (k' := 1) hI ha rfl (by decide)) rfl (by decide))) kv_X11_253 (q_tk (k' := 2) hI (q_tk (k' := 1) hI ha rfl (by decide)) rfl (by decide)) ⟨rfl, by decide⟩ (show vwCl[1]? = some (RX1, TX1, 7) from rfl) rfl ⟨Nat.le_of_ble_eq_true rfl, Nat.le_of_ble_eq_true rfl⟩ ⟨Nat.le_refl _, Nat.le_refl _⟩ rfl (Nat.le_of_ble_eq_true rfl) dX11_has_41) hI (by decide) (fun r_11 σ_12 H locs hpσ_12 hkσ_12 hI => ?_)
          obtain ⟨ahpσ_12, bhpσ_12⟩ := hpσ_12
          rw [ahpσ_12] at hI
          replace hF := q_letX hF bhpσ_12
          refine q_if_le (A := r_11.toInt) E rfl (tgt := 53) dX11_has_44 (by decide) (fun c_13 => ?_) (fun c_13 => ?_)
          · skip
            replace hF := q_ifn hF (Int.not_lt.mpr c_13)
            obtain ⟨z_14, ez_14⟩ : ∃ y : Int32, y = x_5 + 1 := ⟨_, rfl⟩
            replace hF := q_letX hF ez_14
            refine lv_iinc (v := z_14) (lv' := [(3, .int z_14), (0, .ref a), (1, .int v1), (2, .int x_4)]) hx hb dX11_has_53 hl (k := 3) rfl (by rw [ez_14]; rfl) (by decide) rfl (fun ls hl => ?_)
            have iz_14 : z_14.toInt = x_5.toInt + 1 := q_inc ez_14 (by first | (clear ahpσ_2 bhpσ_2 chpσ_2 c_3 hm18 gc_8_f_7 ahpσ_12 bhpσ_12 c_13; omega) | omega)
            refine lv_goto (tgt := 18) hx hb dX11_has_56 (by decide) ?_
            exact ih18 x_4 z_14 _ _ ls (by first | (clear ahpσ_2 bhpσ_2 chpσ_2 c_3 gc_8_f_7 ahpσ_12 bhpσ_12 c_13; omega) | omega) (by first | (clear ahpσ_2 bhpσ_2 chpσ_2 c_3 hm18 bf_7 gc_8_f_7 c_8 ahpσ_12 bhpσ_12 c_13; omega) | omega) hF hI (lv_sub hl [1, 2, 3, 0] rfl)
          · skip
            replace hF := q_ifp hF c_13
            refine lv_iload_n hx hb dX11_has_47 rfl (lv_at hl 2 rfl) ?_
            refine lv_iconst (v := 1) hx hb dX11_has_48 (by decide) ?_
            refine lv_iload_n hx hb dX11_has_49 rfl (lv_at hl 3 rfl) ?_
            refine lv_ishl hx hb dX11_has_50 ?_
            refine lv_topi (fun z_15 ez_15 => ?_)
            replace hF := q_letX hF ez_15
            refine lv_ior hx hb dX11_has_51 ?_
            refine lv_topi (fun z_16 ez_16 => ?_)
            replace hF := q_letX hF ez_16
            refine lv_istore_n (lv' := [(2, .int z_16), (0, .ref a), (1, .int v1), (3, .int x_5)]) hx hb dX11_has_52 rfl hl (by decide) rfl (fun ls hl => ?_)
            obtain ⟨z_17, ez_17⟩ : ∃ y : Int32, y = x_5 + 1 := ⟨_, rfl⟩
            replace hF := q_letX hF ez_17
            refine lv_iinc (v := z_17) (lv' := [(3, .int z_17), (2, .int z_16), (0, .ref a), (1, .int v1)]) hx hb dX11_has_53 hl (k := 3) rfl (by rw [ez_17]; rfl) (by decide) rfl (fun ls hl => ?_)
            have iz_17 : z_17.toInt = x_5.toInt + 1 := q_inc ez_17 (by first | (clear ahpσ_2 bhpσ_2 chpσ_2 c_3 hm18 gc_8_f_7 ahpσ_12 bhpσ_12 c_13; omega) | omega)
            refine lv_goto (tgt := 18) hx hb dX11_has_56 (by decide) ?_
            exact ih18 z_16 z_17 _ _ ls (by first | (clear ahpσ_2 bhpσ_2 chpσ_2 c_3 gc_8_f_7 ahpσ_12 bhpσ_12 c_13; omega) | omega) (by first | (clear ahpσ_2 bhpσ_2 chpσ_2 c_3 hm18 bf_7 gc_8_f_7 c_8 ahpσ_12 bhpσ_12 c_13; omega) | omega) hF hI (lv_sub hl [2, 3, 1, 0] rfl)
    exact L_18_6 ((2147483647 - (0 : Int32).toInt).toNat + 1) 0 0 _ _ ls (Nat.lt_succ_self _) (by decide) hF hI (lv_sub hl [2, 3, 1, 0] rfl)
  · skip
    replace hF := q_ifp hF c_3
    refine lv_aload_n hx hb dX11_has_8 rfl (lv_at hl 0 rfl) ?_
    refine lv_iconst (v := 2) hx hb dX11_has_9 (by decide) ?_
    have kc_18 : (2 : Int32).toInt = 2 := rfl
    refine q_ci (q_runV (As := [.int 2]) (rest := []) E (hml.trans hl.1.symm) hI (c_X11_none l X σ a (2 : Int32) ha) kv_X11_109 ha ⟨rfl, by decide⟩ (show vwCl[10]? = some (RX11, TX11, 17) from rfl) rfl ⟨Nat.le_of_ble_eq_true rfl, Nat.le_of_ble_eq_true rfl⟩ ⟨Nat.le_refl _, Nat.le_refl _⟩ rfl (Nat.le_of_ble_eq_true rfl) dX11_has_10) hI (by decide) (fun r_19 σ_20 H locs hpσ_20 hkσ_20 hI => ?_)
    obtain ⟨ahpσ_20, bhpσ_20, chpσ_20⟩ := hpσ_20
    have fr_σ_20 := fr_σ.call chpσ_20 rfl rfl
    replace hF := q_biX hF bhpσ_20
    exact q_reti E hr hlk hI ⟨(hF.trans hout), fr_σ_20⟩ dX11_has_13
