set_option maxRecDepth 100000 in
set_option maxHeartbeats 4000000 in
theorem c_X11_known (l : Launch) (X : XW) (σ : ST) (a : Nat) (v1 : Int32) (v2 : Int32) (ha : q_kd X a = 11) : Met l yX11_known (q_ws yX11_known cX11_known 3 (some .int)) (q_rm 2 44) (q_P X σ [.ref a, .int v1, .int v2]) (q_Qi X 8 σ (fun (r : Int32) (σ' : ST) => (r, σ') = F_X11_known X σ a v1 v2 ∧ q_ow [(11, 0)] [] X σ σ')) 0 0 (q_reg X) := by
  refine q_met 8 (by first | exact rfl | decide +kernel) rfl (Nat.le_of_ble_eq_true rfl) (fun p e s m below meth c E hml hr hlk hI ls hl => ?_)
  have hx := E.1
  have hb := E.2.1
  have hl : lv_has ls 3 [(0, .ref a), (1, .int v1), (2, .int v2)] := hl
  have fr_σ : q_ow [(11, 0)] [] X σ σ := q_ow.rf
  obtain ⟨out, hout⟩ : ∃ o, o = F_X11_known X σ a v1 v2 := ⟨_, rfl⟩
  have hF := hout.symm
  unfold F_X11_known at hF
  refine lv_aload_n hx hb dX11_known_0 rfl (lv_at hl 0 rfl) ?_
  refine lv_iload_n hx hb dX11_known_1 rfl (lv_at hl 1 rfl) ?_
  refine q_ci (q_runV (As := [.int v1]) (rest := []) E (hml.trans hl.1.symm) hI (c_X11_isPlayer l X σ a v1 ha) kv_X11_219 ha ⟨rfl, by decide⟩ (show vwCl[10]? = some (RX11, TX11, 17) from rfl) rfl ⟨Nat.le_of_ble_eq_true rfl, Nat.le_of_ble_eq_true rfl⟩ ⟨Nat.le_refl _, Nat.le_refl _⟩ rfl (Nat.le_of_ble_eq_true rfl) dX11_known_2) hI (by decide) (fun r_1 σ_2 H locs hpσ_2 hkσ_2 hI => ?_)
  obtain ⟨ahpσ_2, bhpσ_2, chpσ_2⟩ := hpσ_2
  rw [ahpσ_2] at hI
  replace hF := q_letX hF chpσ_2
  refine q_if_eq (A := r_1.toInt) E rfl (tgt := 16) dX11_known_5 (by decide) (fun c_3 => ?_) (fun c_3 => ?_)
  · skip
    replace hF := q_ifp hF c_3
    refine lv_aload_n hx hb dX11_known_16 rfl (lv_at hl 0 rfl) ?_
    refine lv_iconst (v := 2) hx hb dX11_known_17 (by decide) ?_
    have kc_4 : (2 : Int32).toInt = 2 := rfl
    refine q_ci (q_runV (As := [.int 2]) (rest := []) E (hml.trans hl.1.symm) hI (c_X11_none l X σ a (2 : Int32) ha) kv_X11_109 ha ⟨rfl, by decide⟩ (show vwCl[10]? = some (RX11, TX11, 17) from rfl) rfl ⟨Nat.le_of_ble_eq_true rfl, Nat.le_of_ble_eq_true rfl⟩ ⟨Nat.le_refl _, Nat.le_refl _⟩ rfl (Nat.le_of_ble_eq_true rfl) dX11_known_18) hI (by decide) (fun r_5 σ_6 H locs hpσ_6 hkσ_6 hI => ?_)
    obtain ⟨ahpσ_6, bhpσ_6, chpσ_6⟩ := hpσ_6
    have fr_σ_6 := fr_σ.call chpσ_6 rfl rfl
    replace hF := q_biX hF bhpσ_6
    exact q_reti E hr hlk hI ⟨(hF.trans hout), fr_σ_6⟩ dX11_known_21
  · skip
    replace hF := q_ifn hF c_3
    replace c_3 := q_ifOne bhpσ_2 c_3
    refine lv_aload_n hx hb dX11_known_8 rfl (lv_at hl 0 rfl) ?_
    refine lv_iload_n hx hb dX11_known_9 rfl (lv_at hl 2 rfl) ?_
    refine q_ci (q_runV (As := [.int v2]) (rest := []) E (hml.trans hl.1.symm) hI (c_X11_isKind l X σ a v2 ha) kv_X11_250 ha ⟨rfl, by decide⟩ (show vwCl[10]? = some (RX11, TX11, 17) from rfl) rfl ⟨Nat.le_of_ble_eq_true rfl, Nat.le_of_ble_eq_true rfl⟩ ⟨Nat.le_refl _, Nat.le_refl _⟩ rfl (Nat.le_of_ble_eq_true rfl) dX11_known_10) hI (by decide) (fun r_7 σ_8 H locs hpσ_8 hkσ_8 hI => ?_)
    obtain ⟨ahpσ_8, bhpσ_8, chpσ_8⟩ := hpσ_8
    rw [ahpσ_8] at hI
    replace hF := q_letX hF chpσ_8
    refine q_if_ne (A := r_7.toInt) E rfl (tgt := 22) dX11_known_13 (by decide) (fun c_9 => ?_) (fun c_9 => ?_)
    · skip
      replace hF := q_ifn hF c_9
      replace c_9 := q_ifOne bhpσ_8 c_9
      refine lv_aload_n hx hb dX11_known_22 rfl (lv_at hl 0 rfl) ?_
      refine lv_aload_n hx hb dX11_known_23 rfl (lv_at hl 0 rfl) ?_
      refine gs_X11_42_11 E hI ha dX11_known_24 ?_
      refine gs_X11_222_1 E hI (q_tk (k' := 1) hI ha rfl (by decide)) dX11_known_27 ?_
      refine lv_iload_n hx hb dX11_known_30 rfl (lv_at hl 1 rfl) ?_
      refine lv_iload_n hx hb dX11_known_31 rfl (lv_at hl 2 rfl) ?_
      refine q_ci (q_runV (As := [.int v1, .int v2]) (rest := [.ref a]) E (hml.trans hl.1.symm) hI (c_X1_knownTo l X σ (q_rf X (q_rf X a 8) 1) v1 v2 (q_tk (k' := 2) hI (q_tk (k' := 1) hI ha rfl (by decide)) rfl (by decide))) kv_X11_308 (q_tk (k' := 2) hI (q_tk (k' := 1) hI ha rfl (by decide)) rfl (by decide)) ⟨rfl, by decide⟩ (show vwCl[1]? = some (RX1, TX1, 7) from rfl) rfl ⟨Nat.le_of_ble_eq_true rfl, Nat.le_of_ble_eq_true rfl⟩ ⟨Nat.le_refl _, Nat.le_refl _⟩ rfl (Nat.le_of_ble_eq_true rfl) dX11_known_32) hI (by decide) (fun r_10 σ_11 H locs hpσ_11 hkσ_11 hI => ?_)
      obtain ⟨ahpσ_11, bhpσ_11⟩ := hpσ_11
      rw [ahpσ_11] at hI
      replace hF := q_letX hF bhpσ_11
      refine q_ci (q_runV (As := [.int r_10]) (rest := []) E (hml.trans hl.1.symm) hI (c_X11_good l X σ a r_10 ha) kv_X11_156 ha ⟨rfl, by decide⟩ (show vwCl[10]? = some (RX11, TX11, 17) from rfl) rfl ⟨Nat.le_of_ble_eq_true rfl, Nat.le_of_ble_eq_true rfl⟩ ⟨Nat.le_refl _, Nat.le_refl _⟩ rfl (Nat.le_of_ble_eq_true rfl) dX11_known_35) hI (by decide) (fun r_12 σ_13 H locs hpσ_13 hkσ_13 hI => ?_)
      obtain ⟨ahpσ_13, bhpσ_13, chpσ_13⟩ := hpσ_13
      have fr_σ_13 := fr_σ.call chpσ_13 rfl rfl
      replace hF := q_biX hF bhpσ_13
      exact q_reti E hr hlk hI ⟨(hF.trans hout), fr_σ_13⟩ dX11_known_38
    · skip
      replace hF := q_ifp hF c_9
      refine lv_aload_n hx hb dX11_known_16 rfl (lv_at hl 0 rfl) ?_
      refine lv_iconst (v := 2) hx hb dX11_known_17 (by decide) ?_
      have kc_14 : (2 : Int32).toInt = 2 := rfl
      refine q_ci (q_runV (As := [.int 2]) (rest := []) E (hml.trans hl.1.symm) hI (c_X11_none l X σ a (2 : Int32) ha) kv_X11_109 ha ⟨rfl, by decide⟩ (show vwCl[10]? = some (RX11, TX11, 17) from rfl) rfl ⟨Nat.le_of_ble_eq_true rfl, Nat.le_of_ble_eq_true rfl⟩ ⟨Nat.le_refl _, Nat.le_refl _⟩ rfl (Nat.le_of_ble_eq_true rfl) dX11_known_18) hI (by decide) (fun r_15 σ_16 H locs hpσ_16 hkσ_16 hI => ?_)
      obtain ⟨ahpσ_16, bhpσ_16, chpσ_16⟩ := hpσ_16
      have fr_σ_16 := fr_σ.call chpσ_16 rfl rfl
      replace hF := q_biX hF bhpσ_16
      exact q_reti E hr hlk hI ⟨(hF.trans hout), fr_σ_16⟩ dX11_known_21

set_option maxRecDepth 100000 in
set_option maxHeartbeats 4000000 in
theorem c_X11_unknown (l : Launch) (X : XW) (σ : ST) (a : Nat) (v1 : Int32) (v2 : Int32) (ha : q_kd X a = 11) : Met l yX11_unknown (q_ws yX11_unknown cX11_unknown 3 (some .int)) (q_rm 4 89) (q_P X σ [.ref a, .int v1, .int v2]) (q_Qi X 8 σ (fun (r : Int32) (σ' : ST) => (r, σ') = F_X11_unknown X σ a v1 v2 ∧ q_ow [(11, 0)] [] X σ σ')) 0 0 (q_reg X) := by
  refine q_met 8 (by first | exact rfl | decide +kernel) rfl (Nat.le_of_ble_eq_true rfl) (fun p e s m below meth c E hml hr hlk hI ls hl => ?_)
  have hx := E.1
  have hb := E.2.1
  have hl : lv_has ls 3 [(0, .ref a), (1, .int v1), (2, .int v2)] := hl
  have fr_σ : q_ow [(11, 0)] [] X σ σ := q_ow.rf
  obtain ⟨out, hout⟩ : ∃ o, o = F_X11_unknown X σ a v1 v2 := ⟨_, rfl⟩
  have hF := hout.symm
  unfold F_X11_unknown at hF
  refine lv_aload_n hx hb dX11_unknown_0 rfl (lv_at hl 0 rfl) ?_
  refine lv_iload_n hx hb dX11_unknown_1 rfl (lv_at hl 1 rfl) ?_
  refine q_ci (q_runV (As := [.int v1]) (rest := []) E (hml.trans hl.1.symm) hI (c_X11_isPlayer l X σ a v1 ha) kv_X11_219 ha ⟨rfl, by decide⟩ (show vwCl[10]? = some (RX11, TX11, 17) from rfl) rfl ⟨Nat.le_of_ble_eq_true rfl, Nat.le_of_ble_eq_true rfl⟩ ⟨Nat.le_refl _, Nat.le_refl _⟩ rfl (Nat.le_of_ble_eq_true rfl) dX11_unknown_2) hI (by decide) (fun r_1 σ_2 H locs hpσ_2 hkσ_2 hI => ?_)
  obtain ⟨ahpσ_2, bhpσ_2, chpσ_2⟩ := hpσ_2
  rw [ahpσ_2] at hI
  replace hF := q_letX hF chpσ_2
  refine q_if_eq (A := r_1.toInt) E rfl (tgt := 16) dX11_unknown_5 (by decide) (fun c_3 => ?_) (fun c_3 => ?_)
  · skip
    replace hF := q_ifp hF c_3
    refine lv_aload_n hx hb dX11_unknown_16 rfl (lv_at hl 0 rfl) ?_
    refine lv_iconst (v := 2) hx hb dX11_unknown_17 (by decide) ?_
    have kc_4 : (2 : Int32).toInt = 2 := rfl
    refine q_ci (q_runV (As := [.int 2]) (rest := []) E (hml.trans hl.1.symm) hI (c_X11_none l X σ a (2 : Int32) ha) kv_X11_109 ha ⟨rfl, by decide⟩ (show vwCl[10]? = some (RX11, TX11, 17) from rfl) rfl ⟨Nat.le_of_ble_eq_true rfl, Nat.le_of_ble_eq_true rfl⟩ ⟨Nat.le_refl _, Nat.le_refl _⟩ rfl (Nat.le_of_ble_eq_true rfl) dX11_unknown_18) hI (by decide) (fun r_5 σ_6 H locs hpσ_6 hkσ_6 hI => ?_)
    obtain ⟨ahpσ_6, bhpσ_6, chpσ_6⟩ := hpσ_6
    have fr_σ_6 := fr_σ.call chpσ_6 rfl rfl
    replace hF := q_biX hF bhpσ_6
    exact q_reti E hr hlk hI ⟨(hF.trans hout), fr_σ_6⟩ dX11_unknown_21
  · skip
    replace hF := q_ifn hF c_3
    replace c_3 := q_ifOne bhpσ_2 c_3
    refine lv_aload_n hx hb dX11_unknown_8 rfl (lv_at hl 0 rfl) ?_
    refine lv_iload_n hx hb dX11_unknown_9 rfl (lv_at hl 2 rfl) ?_
    refine q_ci (q_runV (As := [.int v2]) (rest := []) E (hml.trans hl.1.symm) hI (c_X11_isKindOrNone l X σ a v2 ha) kv_X11_275 ha ⟨rfl, by decide⟩ (show vwCl[10]? = some (RX11, TX11, 17) from rfl) rfl ⟨Nat.le_of_ble_eq_true rfl, Nat.le_of_ble_eq_true rfl⟩ ⟨Nat.le_refl _, Nat.le_refl _⟩ rfl (Nat.le_of_ble_eq_true rfl) dX11_unknown_10) hI (by decide) (fun r_7 σ_8 H locs hpσ_8 hkσ_8 hI => ?_)
    obtain ⟨ahpσ_8, bhpσ_8, chpσ_8⟩ := hpσ_8
    rw [ahpσ_8] at hI
    replace hF := q_letX hF chpσ_8
    refine q_if_ne (A := r_7.toInt) E rfl (tgt := 22) dX11_unknown_13 (by decide) (fun c_9 => ?_) (fun c_9 => ?_)
    · skip
      replace hF := q_ifn hF c_9
      replace c_9 := q_ifOne bhpσ_8 c_9
      refine lv_aload_n hx hb dX11_unknown_22 rfl (lv_at hl 0 rfl) ?_
      refine lv_iload_n hx hb dX11_unknown_23 rfl (lv_at hl 2 rfl) ?_
      refine lv_iconst (v := (-1)) hx hb dX11_unknown_24 (by decide) ?_
      refine q_icmp_ne (A := v2.toInt) (B := (-1)) E rfl (by decide) (tgt := 39) dX11_unknown_25 (by decide) (fun c_10 => ?_) (fun c_10 => ?_)
      · skip
        replace hF := q_ifn hF c_10
        refine lv_aload_n hx hb dX11_unknown_39 rfl (lv_at hl 0 rfl) ?_
        refine gs_X11_42_11 E hI ha dX11_unknown_40 ?_
        refine lv_iload_n hx hb dX11_unknown_43 rfl (lv_at hl 1 rfl) ?_
        refine lv_iload_n hx hb dX11_unknown_44 rfl (lv_at hl 2 rfl) ?_
        refine q_ci (q_runV (As := [.int v1, .int v2]) (rest := [.ref a]) E (hml.trans hl.1.symm) hI (c_X0_unknownTo l X σ (q_rf X a 8) v1 v2 (q_tk (k' := 1) hI ha rfl (by decide))) kv_X11_314 (q_tk (k' := 1) hI ha rfl (by decide)) ⟨rfl, by decide⟩ (show vwCl[0]? = some (RX0, TX0, 15) from rfl) rfl ⟨Nat.le_of_ble_eq_true rfl, Nat.le_of_ble_eq_true rfl⟩ ⟨Nat.le_refl _, Nat.le_refl _⟩ rfl (Nat.le_of_ble_eq_true rfl) dX11_unknown_45) hI (by decide) (fun r_11 σ_12 H locs hpσ_12 hkσ_12 hI => ?_)
        obtain ⟨ahpσ_12, bhpσ_12⟩ := hpσ_12
        rw [ahpσ_12] at hI
        replace hF := q_letX hF bhpσ_12
        refine q_ci (q_runV (As := [.int r_11]) (rest := []) E (hml.trans hl.1.symm) hI (c_X11_good l X σ a r_11 ha) kv_X11_156 ha ⟨rfl, by decide⟩ (show vwCl[10]? = some (RX11, TX11, 17) from rfl) rfl ⟨Nat.le_of_ble_eq_true rfl, Nat.le_of_ble_eq_true rfl⟩ ⟨Nat.le_refl _, Nat.le_refl _⟩ rfl (Nat.le_of_ble_eq_true rfl) dX11_unknown_48) hI (by decide) (fun r_13 σ_14 H locs hpσ_14 hkσ_14 hI => ?_)
        obtain ⟨ahpσ_14, bhpσ_14, chpσ_14⟩ := hpσ_14
        have fr_σ_14 := fr_σ.call chpσ_14 rfl rfl
        replace hF := q_biX hF bhpσ_14
        exact q_reti E hr hlk hI ⟨(hF.trans hout), fr_σ_14⟩ dX11_unknown_51
      · skip
        replace hF := q_ifp hF c_10
        refine lv_aload_n hx hb dX11_unknown_28 rfl (lv_at hl 0 rfl) ?_
        refine gs_X11_42_11 E hI ha dX11_unknown_29 ?_
        refine lv_iload_n hx hb dX11_unknown_32 rfl (lv_at hl 1 rfl) ?_
        refine q_ci (q_runV (As := [.int v1]) (rest := [.ref a]) E (hml.trans hl.1.symm) hI (c_X0_allUnknownTo l X σ (q_rf X a 8) v1 (q_tk (k' := 1) hI ha rfl (by decide))) kv_X11_311 (q_tk (k' := 1) hI ha rfl (by decide)) ⟨rfl, by decide⟩ (show vwCl[0]? = some (RX0, TX0, 15) from rfl) rfl ⟨Nat.le_of_ble_eq_true rfl, Nat.le_of_ble_eq_true rfl⟩ ⟨Nat.le_refl _, Nat.le_refl _⟩ rfl (Nat.le_of_ble_eq_true rfl) dX11_unknown_33) hI (by decide) (fun r_15 σ_16 H locs hpσ_16 hkσ_16 hI => ?_)
        obtain ⟨ahpσ_16, bhpσ_16⟩ := hpσ_16
        rw [ahpσ_16] at hI
        replace hF := q_letX hF bhpσ_16
        refine lv_goto (tgt := 48) hx hb dX11_unknown_36 (by decide) ?_
        refine q_ci (q_runV (As := [.int r_15]) (rest := []) E (hml.trans hl.1.symm) hI (c_X11_good l X σ a r_15 ha) kv_X11_156 ha ⟨rfl, by decide⟩ (show vwCl[10]? = some (RX11, TX11, 17) from rfl) rfl ⟨Nat.le_of_ble_eq_true rfl, Nat.le_of_ble_eq_true rfl⟩ ⟨Nat.le_refl _, Nat.le_refl _⟩ rfl (Nat.le_of_ble_eq_true rfl) dX11_unknown_48) hI (by decide) (fun r_17 σ_18 H locs hpσ_18 hkσ_18 hI => ?_)
        obtain ⟨ahpσ_18, bhpσ_18, chpσ_18⟩ := hpσ_18
        have fr_σ_18 := fr_σ.call chpσ_18 rfl rfl
        replace hF := q_biX hF bhpσ_18
        exact q_reti E hr hlk hI ⟨(hF.trans hout), fr_σ_18⟩ dX11_unknown_51
    · skip
      replace hF := q_ifp hF c_9
      refine lv_aload_n hx hb dX11_unknown_16 rfl (lv_at hl 0 rfl) ?_
      refine lv_iconst (v := 2) hx hb dX11_unknown_17 (by decide) ?_
      have kc_19 : (2 : Int32).toInt = 2 := rfl
      refine q_ci (q_runV (As := [.int 2]) (rest := []) E (hml.trans hl.1.symm) hI (c_X11_none l X σ a (2 : Int32) ha) kv_X11_109 ha ⟨rfl, by decide⟩ (show vwCl[10]? = some (RX11, TX11, 17) from rfl) rfl ⟨Nat.le_of_ble_eq_true rfl, Nat.le_of_ble_eq_true rfl⟩ ⟨Nat.le_refl _, Nat.le_refl _⟩ rfl (Nat.le_of_ble_eq_true rfl) dX11_unknown_18) hI (by decide) (fun r_20 σ_21 H locs hpσ_21 hkσ_21 hI => ?_)
      obtain ⟨ahpσ_21, bhpσ_21, chpσ_21⟩ := hpσ_21
      have fr_σ_21 := fr_σ.call chpσ_21 rfl rfl
      replace hF := q_biX hF bhpσ_21
      exact q_reti E hr hlk hI ⟨(hF.trans hout), fr_σ_21⟩ dX11_unknown_21

set_option maxRecDepth 100000 in
set_option maxHeartbeats 4000000 in
theorem c_X11_impossible (l : Launch) (X : XW) (σ : ST) (a : Nat) (v1 : Int32) (ha : q_kd X a = 11) : Met l yX11_impossible (q_ws yX11_impossible cX11_impossible 3 (some .int)) (q_rm 3 65) (q_P X σ [.ref a, .int v1]) (q_Qi X 8 σ (fun (r : Int32) (σ' : ST) => (r, σ') = F_X11_impossible X σ a v1 ∧ q_ow [(11, 0)] [] X σ σ')) 0 0 (q_reg X) := by
  refine q_met 8 (by first | exact rfl | decide +kernel) rfl (Nat.le_of_ble_eq_true rfl) (fun p e s m below meth c E hml hr hlk hI ls hl => ?_)
  have hx := E.1
  have hb := E.2.1
  have hl : lv_has ls 3 [(0, .ref a), (1, .int v1)] := hl
  have fr_σ : q_ow [(11, 0)] [] X σ σ := q_ow.rf
  obtain ⟨out, hout⟩ : ∃ o, o = F_X11_impossible X σ a v1 := ⟨_, rfl⟩
  have hF := hout.symm
  unfold F_X11_impossible at hF
  refine lv_aload_n hx hb dX11_impossible_0 rfl (lv_at hl 0 rfl) ?_
  refine lv_iload_n hx hb dX11_impossible_1 rfl (lv_at hl 1 rfl) ?_
  refine q_ci (q_runV (As := [.int v1]) (rest := []) E (hml.trans hl.1.symm) hI (c_X11_doubterStatus l X σ a v1 ha) kv_X11_296 ha ⟨rfl, by decide⟩ (show vwCl[10]? = some (RX11, TX11, 17) from rfl) rfl ⟨Nat.le_of_ble_eq_true rfl, Nat.le_of_ble_eq_true rfl⟩ ⟨Nat.le_refl _, Nat.le_refl _⟩ rfl (Nat.le_of_ble_eq_true rfl) dX11_impossible_2) hI (by decide) (fun r_1 σ_2 H locs hpσ_2 hkσ_2 hI => ?_)
  obtain ⟨ahpσ_2, bhpσ_2⟩ := hpσ_2
  rw [ahpσ_2] at hI
  replace hF := q_letX hF bhpσ_2
  refine lv_istore_n (lv' := [(2, .int r_1), (0, .ref a), (1, .int v1)]) hx hb dX11_impossible_5 rfl hl (by decide) rfl (fun ls hl => ?_)
  refine lv_iload_n hx hb dX11_impossible_6 rfl (lv_at hl 0 rfl) ?_
  refine q_if_eq (A := r_1.toInt) E rfl (tgt := 16) dX11_impossible_7 (by decide) (fun c_3 => ?_) (fun c_3 => ?_)
  · skip
    replace hF := q_ifp hF c_3
    refine lv_aload_n hx hb dX11_impossible_16 rfl (lv_at hl 1 rfl) ?_
    refine lv_aload_n hx hb dX11_impossible_17 rfl (lv_at hl 1 rfl) ?_
    refine gs_X11_42_11 E hI ha dX11_impossible_18 ?_
    refine lv_iload_n hx hb dX11_impossible_21 rfl (lv_at hl 2 rfl) ?_
    refine q_ci (q_runV (As := [.int v1]) (rest := [.ref a]) E (hml.trans hl.1.symm) hI (c_X0_isImpossibleFor l X σ (q_rf X a 8) v1 (q_tk (k' := 1) hI ha rfl (by decide))) kv_X11_317 (q_tk (k' := 1) hI ha rfl (by decide)) ⟨rfl, by decide⟩ (show vwCl[0]? = some (RX0, TX0, 15) from rfl) rfl ⟨Nat.le_of_ble_eq_true rfl, Nat.le_of_ble_eq_true rfl⟩ ⟨Nat.le_refl _, Nat.le_refl _⟩ rfl (Nat.le_of_ble_eq_true rfl) dX11_impossible_22) hI (by decide) (fun r_4 σ_5 H locs hpσ_5 hkσ_5 hI => ?_)
    obtain ⟨ahpσ_5, bhpσ_5, chpσ_5⟩ := hpσ_5
    rw [ahpσ_5] at hI
    replace hF := q_letX hF chpσ_5
    refine q_if_eq (A := r_4.toInt) E rfl (tgt := 32) dX11_impossible_25 (by decide) (fun c_6 => ?_) (fun c_6 => ?_)
    · skip
      replace hF := q_ifp hF c_6
      refine lv_iconst (v := 0) hx hb dX11_impossible_32 (by decide) ?_
      have kc_7 : (0 : Int32).toInt = 0 := rfl
      refine q_ci (q_runV (As := [.int 0]) (rest := []) E (hml.trans hl.1.symm) hI (c_X11_good l X σ a (0 : Int32) ha) kv_X11_156 ha ⟨rfl, by decide⟩ (show vwCl[10]? = some (RX11, TX11, 17) from rfl) rfl ⟨Nat.le_of_ble_eq_true rfl, Nat.le_of_ble_eq_true rfl⟩ ⟨Nat.le_refl _, Nat.le_refl _⟩ rfl (Nat.le_of_ble_eq_true rfl) dX11_impossible_33) hI (by decide) (fun r_8 σ_9 H locs hpσ_9 hkσ_9 hI => ?_)
      obtain ⟨ahpσ_9, bhpσ_9, chpσ_9⟩ := hpσ_9
      have fr_σ_9 := fr_σ.call chpσ_9 rfl rfl
      replace hF := q_biX hF bhpσ_9
      exact q_reti E hr hlk hI ⟨(hF.trans hout), fr_σ_9⟩ dX11_impossible_36
    · skip
      replace hF := q_ifn hF c_6
      replace c_6 := q_ifOne bhpσ_5 c_6
      refine lv_iconst (v := 1) hx hb dX11_impossible_28 (by decide) ?_
      refine lv_goto (tgt := 33) hx hb dX11_impossible_29 (by decide) ?_
      have kc_10 : (1 : Int32).toInt = 1 := rfl
      refine q_ci (q_runV (As := [.int 1]) (rest := []) E (hml.trans hl.1.symm) hI (c_X11_good l X σ a (1 : Int32) ha) kv_X11_156 ha ⟨rfl, by decide⟩ (show vwCl[10]? = some (RX11, TX11, 17) from rfl) rfl ⟨Nat.le_of_ble_eq_true rfl, Nat.le_of_ble_eq_true rfl⟩ ⟨Nat.le_refl _, Nat.le_refl _⟩ rfl (Nat.le_of_ble_eq_true rfl) dX11_impossible_33) hI (by decide) (fun r_11 σ_12 H locs hpσ_12 hkσ_12 hI => ?_)
      obtain ⟨ahpσ_12, bhpσ_12, chpσ_12⟩ := hpσ_12
      have fr_σ_12 := fr_σ.call chpσ_12 rfl rfl
      replace hF := q_biX hF bhpσ_12
      exact q_reti E hr hlk hI ⟨(hF.trans hout), fr_σ_12⟩ dX11_impossible_36
  · skip
    replace hF := q_ifn hF c_3
    refine lv_aload_n hx hb dX11_impossible_10 rfl (lv_at hl 1 rfl) ?_
    refine lv_iload_n hx hb dX11_impossible_11 rfl (lv_at hl 0 rfl) ?_
    refine q_ci (q_runV (As := [.int r_1]) (rest := []) E (hml.trans hl.1.symm) hI (c_X11_none l X σ a r_1 ha) kv_X11_109 ha ⟨rfl, by decide⟩ (show vwCl[10]? = some (RX11, TX11, 17) from rfl) rfl ⟨Nat.le_of_ble_eq_true rfl, Nat.le_of_ble_eq_true rfl⟩ ⟨Nat.le_refl _, Nat.le_refl _⟩ rfl (Nat.le_of_ble_eq_true rfl) dX11_impossible_12) hI (by decide) (fun r_13 σ_14 H locs hpσ_14 hkσ_14 hI => ?_)
    obtain ⟨ahpσ_14, bhpσ_14, chpσ_14⟩ := hpσ_14
    have fr_σ_14 := fr_σ.call chpσ_14 rfl rfl
    replace hF := q_biX hF bhpσ_14
    exact q_reti E hr hlk hI ⟨(hF.trans hout), fr_σ_14⟩ dX11_impossible_15

set_option maxRecDepth 100000 in
set_option maxHeartbeats 4000000 in
theorem c_X11_commonDivisor (l : Launch) (X : XW) (σ : ST) (v0 : Int64) (v1 : Int64) : Met l yX11_commonDivisor (q_ws yX11_commonDivisor cX11_commonDivisor 7 (some .long)) (q_rm 0 0) (q_P X σ [.long v0, .long v1]) (q_Ql X 9 σ (fun (r : Int64) (σ' : ST) => σ' = σ ∧ r = F_X11_commonDivisor X σ v0 v1)) 0 0 (q_reg X) := by
  refine q_met 9 (by first | exact rfl | decide +kernel) rfl (Nat.le_of_ble_eq_true rfl) (fun p e s m below meth c E hml hr hlk hI ls hl => ?_)
  have hx := E.1
  have hb := E.2.1
  have hl : lv_has ls 7 [(0, .long v0), (2, .long v1)] := hl
  obtain ⟨out, hout⟩ : ∃ o, o = F_X11_commonDivisor X σ v0 v1 := ⟨_, rfl⟩
  have hF := hout.symm
  unfold F_X11_commonDivisor at hF
  refine lv_iconst (v := 0) hx hb dX11_commonDivisor_0 (by decide) ?_
  refine lv_istore (lv' := [(4, .int 0), (0, .long v0), (2, .long v1)]) hx hb dX11_commonDivisor_1 hl (by decide) rfl (fun ls hl => ?_)
  have L_3_4 : ∀ (k_4 : Nat) (w_1 : Int64) (w_2 : Int64) (x_3 : Int32) (H : Heap) (locs : List Loc) (ls : Array Slot), (2147483647 - x_3.toInt).toNat < k_4 → (0 ≤ x_3.toInt) → (F_X11_commonDivisor_L3_1 X k_4 w_1 w_2 x_3 = out) → q_I X 9 σ s.heap locs σ H → lv_has ls 7 [(0, .long w_1), (2, .long w_2), (4, .int x_3)] → W p l e (q_rm 0 0) s m ([.long v0, .long v1] : List Value).toArray below meth c H locs 0 0 (MQ below (q_Ql X 9 σ (fun (r : Int64) (σ' : ST) => σ' = σ ∧ r = F_X11_commonDivisor X σ v0 v1)) ([.long v0, .long v1] : List Value).toArray s 0 0 (q_reg X)) (F0 m 3 ls []) := by
    clear hF
    intro k_4
    induction k_4 with
    | zero =>
      intro w_1 w_2 x_3 H locs ls hms
      exact absurd hms (Nat.not_lt_zero _)
    | succ k_4 ih3 =>
      intro w_1 w_2 x_3 H locs ls hm3 hge3 hF hI hl
      replace hF := (F_X11_commonDivisor_L3_1_s).symm.trans hF
      unfold F_X11_commonDivisor_B3_1 at hF
      refine lv_iload hx hb dX11_commonDivisor_3 (lv_at hl 2 rfl) ?_
      refine lv_sipush (v := 200) hx hb dX11_commonDivisor_5 (by decide) ?_
      have gc_5_x_3 := q_rng x_3
      refine q_icmp_ge (A := x_3.toInt) (B := 200) E rfl (by decide) (tgt := 33) dX11_commonDivisor_8 (by decide) (fun c_5 => ?_) (fun c_5 => ?_)
      · skip
        replace hF := q_ifn hF (Int.not_lt.mpr c_5)
        skip
        refine lv_lload_n hx hb dX11_commonDivisor_33 rfl (lv_at hl 0 rfl) ?_
        exact q_retl E hr hlk hI ⟨rfl, (hF.trans hout)⟩ dX11_commonDivisor_34
      · skip
        replace hF := q_ifp hF c_5
        refine lv_lload_n hx hb dX11_commonDivisor_11 rfl (lv_at hl 1 rfl) ?_
        refine lv_lconst (v := 0) hx hb dX11_commonDivisor_12 (by decide) ?_
        have kc_7 : (0 : Int64).toInt = 0 := rfl
        refine q_lcmpX E dX11_commonDivisor_13 (fun z_6 ez_6 hz_6 => ?_)
        replace hF := q_letX hF ez_6
        refine q_if_eq (A := z_6.toInt) E rfl (tgt := 33) dX11_commonDivisor_14 (by decide) (fun c_8 => ?_) (fun c_8 => ?_)
        · skip
          replace hF := q_ifp hF c_8
          skip
          refine lv_lload_n hx hb dX11_commonDivisor_33 rfl (lv_at hl 0 rfl) ?_
          exact q_retl E hr hlk hI ⟨rfl, (hF.trans hout)⟩ dX11_commonDivisor_34
        · skip
          replace hF := q_ifn hF c_8
          refine lv_lload_n hx hb dX11_commonDivisor_17 rfl (lv_at hl 0 rfl) ?_
          refine lv_lload_n hx hb dX11_commonDivisor_18 rfl (lv_at hl 1 rfl) ?_
          refine lv_lrem hx hb dX11_commonDivisor_19 (q_ne0l (by first | (clear w_1 hm3 hge3 gc_5_x_3 c_5; omega) | omega)) ?_
          refine lv_topl (fun y_9 ey_9 => ?_)
          replace hF := q_letX hF (ey_9.trans (q_remJ _ _))
          refine lv_lstore (lv' := [(5, .long y_9), (0, .long w_1), (2, .long w_2), (4, .int x_3)]) hx hb dX11_commonDivisor_20 hl (by decide) rfl (fun ls hl => ?_)
          refine lv_lload_n hx hb dX11_commonDivisor_22 rfl (lv_at hl 2 rfl) ?_
          refine lv_lstore_n (lv' := [(0, .long w_2), (5, .long y_9), (2, .long w_2), (4, .int x_3)]) hx hb dX11_commonDivisor_23 rfl hl (by decide) rfl (fun ls hl => ?_)
          refine lv_lload hx hb dX11_commonDivisor_24 (lv_at hl 1 rfl) ?_
          refine lv_lstore_n (lv' := [(2, .long y_9), (0, .long w_2), (5, .long y_9), (4, .int x_3)]) hx hb dX11_commonDivisor_26 rfl hl (by decide) rfl (fun ls hl => ?_)
          obtain ⟨z_10, ez_10⟩ : ∃ y : Int32, y = x_3 + 1 := ⟨_, rfl⟩
          replace hF := q_letX hF ez_10
          refine lv_iinc (v := z_10) (lv' := [(4, .int z_10), (2, .long y_9), (0, .long w_2), (5, .long y_9)]) hx hb dX11_commonDivisor_27 hl (k := 3) rfl (by rw [ez_10]; rfl) (by decide) rfl (fun ls hl => ?_)
          have iz_10 : z_10.toInt = x_3.toInt + 1 := q_inc ez_10 (by first | (clear w_1 w_2 hm3 kc_7 hz_6 c_8; omega) | omega)
          refine lv_goto (tgt := 3) hx hb dX11_commonDivisor_30 (by decide) ?_
          exact ih3 w_2 y_9 z_10 _ _ ls (by first | (clear w_1 kc_7; omega) | omega) (by first | (clear w_1 w_2 hm3 kc_7 hz_6 c_8; omega) | omega) hF hI (lv_sub hl [2, 1, 0] rfl)
  exact L_3_4 ((2147483647 - (0 : Int32).toInt).toNat + 1) v0 v1 0 _ _ ls (Nat.lt_succ_self _) (by decide) hF hI (lv_sub hl [1, 2, 0] rfl)

set_option maxRecDepth 100000 in
set_option maxHeartbeats 4000000 in
theorem c_X11_tell (l : Launch) (X : XW) (σ : ST) (a : Nat) (v1 : Int64) (v2 : Int64) (ha : q_kd X a = 11) : Met l yX11_tell (q_ws yX11_tell cX11_tell 7 (some .boolean)) (q_rm 1 26) (q_P X σ [.ref a, .long v1, .long v2]) (q_Qi X 8 σ (fun (r : Int32) (σ' : ST) => (0 ≤ r.toInt ∧ r.toInt ≤ 1) ∧ (r, σ') = F_X11_tell X σ a v1 v2 ∧ q_ow [(11, 0)] [(11, 1), (11, 2)] X σ σ')) 0 0 (q_reg X) := by
  refine q_met 8 (by first | exact rfl | decide +kernel) rfl (Nat.le_of_ble_eq_true rfl) (fun p e s m below meth c E hml hr hlk hI ls hl => ?_)
  have hx := E.1
  have hb := E.2.1
  have hl : lv_has ls 7 [(0, .ref a), (1, .long v1), (3, .long v2)] := hl
  have fr_σ : q_ow [(11, 0)] [(11, 1), (11, 2)] X σ σ := q_ow.rf
  obtain ⟨out, hout⟩ : ∃ o, o = F_X11_tell X σ a v1 v2 := ⟨_, rfl⟩
  have hF := hout.symm
  unfold F_X11_tell at hF
  refine lv_lload_n hx hb dX11_tell_0 rfl (lv_at hl 1 rfl) ?_
  refine q_cl_ (q_runS (As := [.long v1]) (rest := []) E (hml.trans hl.1.symm) hI (c_J9_abs_067f4 l X σ v1) ks_X11_424 rfl ⟨Nat.le_of_ble_eq_true rfl, Nat.le_of_ble_eq_true rfl⟩ ⟨Nat.le_refl _, Nat.le_refl _⟩ rfl (Nat.le_of_ble_eq_true rfl) dX11_tell_1) hI (by decide) (fun r_1 σ_2 H locs hpσ_2 hkσ_2 hI => ?_)
  obtain ⟨ahpσ_2, bhpσ_2⟩ := hpσ_2
  rw [ahpσ_2] at hI
  replace hF := q_letX hF bhpσ_2
  refine lv_lload_n hx hb dX11_tell_4 rfl (lv_at hl 2 rfl) ?_
  refine q_cl_ (q_runS (As := [.long r_1, .long v2]) (rest := []) E (hml.trans hl.1.symm) hI (c_X11_commonDivisor l X σ r_1 v2) ks_X11_428 rfl ⟨Nat.le_of_ble_eq_true rfl, Nat.le_of_ble_eq_true rfl⟩ ⟨Nat.le_refl _, Nat.le_refl _⟩ rfl (Nat.le_of_ble_eq_true rfl) dX11_tell_5) hI (by decide) (fun r_3 σ_4 H locs hpσ_4 hkσ_4 hI => ?_)
  obtain ⟨ahpσ_4, bhpσ_4⟩ := hpσ_4
  rw [ahpσ_4] at hI
  replace hF := q_letX hF bhpσ_4
  refine lv_lstore (lv' := [(5, .long r_3), (0, .ref a), (1, .long v1), (3, .long v2)]) hx hb dX11_tell_8 hl (by decide) rfl (fun ls hl => ?_)
  refine lv_lload_n hx hb dX11_tell_10 rfl (lv_at hl 2 rfl) ?_
  refine lv_lconst (v := 0) hx hb dX11_tell_11 (by decide) ?_
  have kc_6 : (0 : Int64).toInt = 0 := rfl
  refine q_lcmpX E dX11_tell_12 (fun z_5 ez_5 hz_5 => ?_)
  replace hF := q_letX hF ez_5
  refine q_if_eq (A := z_5.toInt) E rfl (tgt := 29) dX11_tell_13 (by decide) (fun c_7 => ?_) (fun c_7 => ?_)
  · skip
    replace hF := q_ifp hF c_7
    refine lv_aload_n hx hb dX11_tell_29 rfl (lv_at hl 1 rfl) ?_
    refine lv_lconst (v := 0) hx hb dX11_tell_30 (by decide) ?_
    refine ps_X11_13_11 E hI ha  dX11_tell_31 (fun H locs σ_8 hσ_8 hI => ?_)
    replace hF := q_letX hF hσ_8
    have fr_σ_8 := fr_σ.sl hσ_8 ha rfl
    refine lv_aload_n hx hb dX11_tell_34 rfl (lv_at hl 1 rfl) ?_
    refine lv_lconst (v := 1) hx hb dX11_tell_35 (by decide) ?_
    refine ps_X11_17_11 E hI ha  dX11_tell_36 (fun H locs σ_9 hσ_9 hI => ?_)
    replace hF := q_letX hF hσ_9
    have fr_σ_9 := fr_σ_8.sl hσ_9 ha rfl
    refine lv_goto (tgt := 58) hx hb dX11_tell_39 (by decide) ?_
    refine lv_aload_n hx hb dX11_tell_58 rfl (lv_at hl 1 rfl) ?_
    refine q_ci (q_runV (As := []) (rest := []) E (hml.trans hl.1.symm) hI (c_X11_yes l X σ_9 a ha) kv_X11_97 ha ⟨rfl, by decide⟩ (show vwCl[10]? = some (RX11, TX11, 17) from rfl) rfl ⟨Nat.le_of_ble_eq_true rfl, Nat.le_of_ble_eq_true rfl⟩ ⟨Nat.le_refl _, Nat.le_refl _⟩ rfl (Nat.le_of_ble_eq_true rfl) dX11_tell_59) hI (by decide) (fun r_10 σ_11 H locs hpσ_11 hkσ_11 hI => ?_)
    obtain ⟨ahpσ_11, bhpσ_11, chpσ_11, dhpσ_11⟩ := hpσ_11
    have fr_σ_11 := fr_σ_9.call dhpσ_11 rfl rfl
    replace hF := q_biX hF chpσ_11
    exact q_retz E hr hlk hI ⟨by omega, by omega⟩ ⟨⟨by omega, by omega⟩, (hF.trans hout), fr_σ_11⟩ dX11_tell_62
  · skip
    replace hF := q_ifn hF c_7
    refine lv_lload_n hx hb dX11_tell_16 rfl (lv_at hl 3 rfl) ?_
    refine lv_lconst (v := 0) hx hb dX11_tell_17 (by decide) ?_
    have kc_13 : (0 : Int64).toInt = 0 := rfl
    refine q_lcmpX E dX11_tell_18 (fun z_12 ez_12 hz_12 => ?_)
    replace hF := q_letX hF ez_12
    refine q_if_le (A := z_12.toInt) E rfl (tgt := 29) dX11_tell_19 (by decide) (fun c_14 => ?_) (fun c_14 => ?_)
    · skip
      replace hF := q_ifn hF (Int.not_lt.mpr c_14)
      refine lv_aload_n hx hb dX11_tell_29 rfl (lv_at hl 1 rfl) ?_
      refine lv_lconst (v := 0) hx hb dX11_tell_30 (by decide) ?_
      refine ps_X11_13_11 E hI ha  dX11_tell_31 (fun H locs σ_15 hσ_15 hI => ?_)
      replace hF := q_letX hF hσ_15
      have fr_σ_15 := fr_σ.sl hσ_15 ha rfl
      refine lv_aload_n hx hb dX11_tell_34 rfl (lv_at hl 1 rfl) ?_
      refine lv_lconst (v := 1) hx hb dX11_tell_35 (by decide) ?_
      refine ps_X11_17_11 E hI ha  dX11_tell_36 (fun H locs σ_16 hσ_16 hI => ?_)
      replace hF := q_letX hF hσ_16
      have fr_σ_16 := fr_σ_15.sl hσ_16 ha rfl
      refine lv_goto (tgt := 58) hx hb dX11_tell_39 (by decide) ?_
      refine lv_aload_n hx hb dX11_tell_58 rfl (lv_at hl 1 rfl) ?_
      refine q_ci (q_runV (As := []) (rest := []) E (hml.trans hl.1.symm) hI (c_X11_yes l X σ_16 a ha) kv_X11_97 ha ⟨rfl, by decide⟩ (show vwCl[10]? = some (RX11, TX11, 17) from rfl) rfl ⟨Nat.le_of_ble_eq_true rfl, Nat.le_of_ble_eq_true rfl⟩ ⟨Nat.le_refl _, Nat.le_refl _⟩ rfl (Nat.le_of_ble_eq_true rfl) dX11_tell_59) hI (by decide) (fun r_17 σ_18 H locs hpσ_18 hkσ_18 hI => ?_)
      obtain ⟨ahpσ_18, bhpσ_18, chpσ_18, dhpσ_18⟩ := hpσ_18
      have fr_σ_18 := fr_σ_16.call dhpσ_18 rfl rfl
      replace hF := q_biX hF chpσ_18
      exact q_retz E hr hlk hI ⟨by omega, by omega⟩ ⟨⟨by omega, by omega⟩, (hF.trans hout), fr_σ_18⟩ dX11_tell_62
    · skip
      replace hF := q_ifp hF c_14
      refine lv_lload hx hb dX11_tell_22 (lv_at hl 0 rfl) ?_
      refine lv_lconst (v := 0) hx hb dX11_tell_24 (by decide) ?_
      have kc_20 : (0 : Int64).toInt = 0 := rfl
      refine q_lcmpX E dX11_tell_25 (fun z_19 ez_19 hz_19 => ?_)
      replace hF := q_letX hF ez_19
      refine q_if_gt (A := z_19.toInt) E rfl (tgt := 42) dX11_tell_26 (by decide) (fun c_21 => ?_) (fun c_21 => ?_)
      · skip
        replace hF := q_ifp hF c_21
        refine lv_aload_n hx hb dX11_tell_42 rfl (lv_at hl 1 rfl) ?_
        refine lv_lload_n hx hb dX11_tell_43 rfl (lv_at hl 2 rfl) ?_
        refine lv_lload hx hb dX11_tell_44 (lv_at hl 0 rfl) ?_
        refine lv_ldiv hx hb dX11_tell_46 (q_ne0l (by first | (clear ahpσ_2 bhpσ_2 ahpσ_4 bhpσ_4 hz_5 c_7 kc_13 hz_12 c_14 kc_20; omega) | omega)) ?_
        refine lv_topl (fun y_22 ey_22 => ?_)
        replace hF := q_letX hF ey_22
        refine ps_X11_13_11 E hI ha  dX11_tell_47 (fun H locs σ_23 hσ_23 hI => ?_)
        replace hF := q_letX hF hσ_23
        have fr_σ_23 := fr_σ.sl hσ_23 ha rfl
        refine lv_aload_n hx hb dX11_tell_50 rfl (lv_at hl 1 rfl) ?_
        refine lv_lload_n hx hb dX11_tell_51 rfl (lv_at hl 3 rfl) ?_
        refine lv_lload hx hb dX11_tell_52 (lv_at hl 0 rfl) ?_
        refine lv_ldiv hx hb dX11_tell_54 (q_ne0l (by first | (clear ahpσ_2 bhpσ_2 ahpσ_4 bhpσ_4 hz_5 c_7 kc_13 hz_12 c_14 kc_20; omega) | omega)) ?_
        refine lv_topl (fun y_24 ey_24 => ?_)
        replace hF := q_letX hF ey_24
        refine ps_X11_17_11 E hI ha  dX11_tell_55 (fun H locs σ_25 hσ_25 hI => ?_)
        replace hF := q_letX hF hσ_25
        have fr_σ_25 := fr_σ_23.sl hσ_25 ha rfl
        refine lv_aload_n hx hb dX11_tell_58 rfl (lv_at hl 1 rfl) ?_
        refine q_ci (q_runV (As := []) (rest := []) E (hml.trans hl.1.symm) hI (c_X11_yes l X σ_25 a ha) kv_X11_97 ha ⟨rfl, by decide⟩ (show vwCl[10]? = some (RX11, TX11, 17) from rfl) rfl ⟨Nat.le_of_ble_eq_true rfl, Nat.le_of_ble_eq_true rfl⟩ ⟨Nat.le_refl _, Nat.le_refl _⟩ rfl (Nat.le_of_ble_eq_true rfl) dX11_tell_59) hI (by decide) (fun r_26 σ_27 H locs hpσ_27 hkσ_27 hI => ?_)
        obtain ⟨ahpσ_27, bhpσ_27, chpσ_27, dhpσ_27⟩ := hpσ_27
        have fr_σ_27 := fr_σ_25.call dhpσ_27 rfl rfl
        replace hF := q_biX hF chpσ_27
        exact q_retz E hr hlk hI ⟨by omega, by omega⟩ ⟨⟨by omega, by omega⟩, (hF.trans hout), fr_σ_27⟩ dX11_tell_62
      · skip
        replace hF := q_ifn hF (Int.not_lt.mpr c_21)
        refine lv_aload_n hx hb dX11_tell_29 rfl (lv_at hl 1 rfl) ?_
        refine lv_lconst (v := 0) hx hb dX11_tell_30 (by decide) ?_
        refine ps_X11_13_11 E hI ha  dX11_tell_31 (fun H locs σ_28 hσ_28 hI => ?_)
        replace hF := q_letX hF hσ_28
        have fr_σ_28 := fr_σ.sl hσ_28 ha rfl
        refine lv_aload_n hx hb dX11_tell_34 rfl (lv_at hl 1 rfl) ?_
        refine lv_lconst (v := 1) hx hb dX11_tell_35 (by decide) ?_
        refine ps_X11_17_11 E hI ha  dX11_tell_36 (fun H locs σ_29 hσ_29 hI => ?_)
        replace hF := q_letX hF hσ_29
        have fr_σ_29 := fr_σ_28.sl hσ_29 ha rfl
        refine lv_goto (tgt := 58) hx hb dX11_tell_39 (by decide) ?_
        refine lv_aload_n hx hb dX11_tell_58 rfl (lv_at hl 1 rfl) ?_
        refine q_ci (q_runV (As := []) (rest := []) E (hml.trans hl.1.symm) hI (c_X11_yes l X σ_29 a ha) kv_X11_97 ha ⟨rfl, by decide⟩ (show vwCl[10]? = some (RX11, TX11, 17) from rfl) rfl ⟨Nat.le_of_ble_eq_true rfl, Nat.le_of_ble_eq_true rfl⟩ ⟨Nat.le_refl _, Nat.le_refl _⟩ rfl (Nat.le_of_ble_eq_true rfl) dX11_tell_59) hI (by decide) (fun r_30 σ_31 H locs hpσ_31 hkσ_31 hI => ?_)
        obtain ⟨ahpσ_31, bhpσ_31, chpσ_31, dhpσ_31⟩ := hpσ_31
        have fr_σ_31 := fr_σ_29.call dhpσ_31 rfl rfl
        replace hF := q_biX hF chpσ_31
        exact q_retz E hr hlk hI ⟨by omega, by omega⟩ ⟨⟨by omega, by omega⟩, (hF.trans hout), fr_σ_31⟩ dX11_tell_62

set_option maxRecDepth 100000 in
set_option maxHeartbeats 4000000 in
theorem c_X11_blind (l : Launch) (X : XW) (σ : ST) (a : Nat) (v1 : Int32) (ha : q_kd X a = 11) : Met l yX11_blind (q_ws yX11_blind cX11_blind 3 (some .boolean)) (q_rm 5 110) (q_P X σ [.ref a, .int v1]) (q_Qi X 8 σ (fun (r : Int32) (σ' : ST) => (0 ≤ r.toInt ∧ r.toInt ≤ 1) ∧ (r, σ') = F_X11_blind X σ a v1 ∧ q_ow [(11, 0)] [(11, 1), (11, 2)] X σ σ')) 0 0 (q_reg X) := by
  refine q_met 8 (by first | exact rfl | decide +kernel) rfl (Nat.le_of_ble_eq_true rfl) (fun p e s m below meth c E hml hr hlk hI ls hl => ?_)
  have hx := E.1
  have hb := E.2.1
  have hl : lv_has ls 3 [(0, .ref a), (1, .int v1)] := hl
  have fr_σ : q_ow [(11, 0)] [(11, 1), (11, 2)] X σ σ := q_ow.rf
  obtain ⟨out, hout⟩ : ∃ o, o = F_X11_blind X σ a v1 := ⟨_, rfl⟩
  have hF := hout.symm
  unfold F_X11_blind at hF
  refine lv_aload_n hx hb dX11_blind_0 rfl (lv_at hl 0 rfl) ?_
  refine lv_iload_n hx hb dX11_blind_1 rfl (lv_at hl 1 rfl) ?_
  refine q_ci (q_runV (As := [.int v1]) (rest := []) E (hml.trans hl.1.symm) hI (c_X11_doubterStatus l X σ a v1 ha) kv_X11_296 ha ⟨rfl, by decide⟩ (show vwCl[10]? = some (RX11, TX11, 17) from rfl) rfl ⟨Nat.le_of_ble_eq_true rfl, Nat.le_of_ble_eq_true rfl⟩ ⟨Nat.le_refl _, Nat.le_refl _⟩ rfl (Nat.le_of_ble_eq_true rfl) dX11_blind_2) hI (by decide) (fun r_1 σ_2 H locs hpσ_2 hkσ_2 hI => ?_)
  obtain ⟨ahpσ_2, bhpσ_2⟩ := hpσ_2
  rw [ahpσ_2] at hI
  replace hF := q_letX hF bhpσ_2
  refine lv_istore_n (lv' := [(2, .int r_1), (0, .ref a), (1, .int v1)]) hx hb dX11_blind_5 rfl hl (by decide) rfl (fun ls hl => ?_)
  refine lv_iload_n hx hb dX11_blind_6 rfl (lv_at hl 0 rfl) ?_
  refine q_if_eq (A := r_1.toInt) E rfl (tgt := 16) dX11_blind_7 (by decide) (fun c_3 => ?_) (fun c_3 => ?_)
  · skip
    replace hF := q_ifp hF c_3
    refine lv_aload_n hx hb dX11_blind_16 rfl (lv_at hl 1 rfl) ?_
    refine lv_aload_n hx hb dX11_blind_17 rfl (lv_at hl 1 rfl) ?_
    refine gs_X11_42_11 E hI ha dX11_blind_18 ?_
    refine lv_iload_n hx hb dX11_blind_21 rfl (lv_at hl 2 rfl) ?_
    refine q_cl_ (q_runV (As := [.int v1]) (rest := [.ref a]) E (hml.trans hl.1.symm) hI (c_X0_trueWays l X σ (q_rf X a 8) v1 (q_tk (k' := 1) hI ha rfl (by decide))) kv_X11_320 (q_tk (k' := 1) hI ha rfl (by decide)) ⟨rfl, by decide⟩ (show vwCl[0]? = some (RX0, TX0, 15) from rfl) rfl ⟨Nat.le_of_ble_eq_true rfl, Nat.le_of_ble_eq_true rfl⟩ ⟨Nat.le_refl _, Nat.le_refl _⟩ rfl (Nat.le_of_ble_eq_true rfl) dX11_blind_22) hI (by decide) (fun r_4 σ_5 H locs hpσ_5 hkσ_5 hI => ?_)
    obtain ⟨ahpσ_5, bhpσ_5⟩ := hpσ_5
    rw [ahpσ_5] at hI
    replace hF := q_letX hF bhpσ_5
    refine lv_aload_n hx hb dX11_blind_25 rfl (lv_at hl 1 rfl) ?_
    refine gs_X11_42_11 E hI ha dX11_blind_26 ?_
    refine lv_iload_n hx hb dX11_blind_29 rfl (lv_at hl 2 rfl) ?_
    refine q_cl_ (q_runV (As := [.int v1]) (rest := [.long r_4, .ref a]) E (hml.trans hl.1.symm) hI (c_X0_allWays l X σ (q_rf X a 8) v1 (q_tk (k' := 1) hI ha rfl (by decide))) kv_X11_323 (q_tk (k' := 1) hI ha rfl (by decide)) ⟨rfl, by decide⟩ (show vwCl[0]? = some (RX0, TX0, 15) from rfl) rfl ⟨Nat.le_of_ble_eq_true rfl, Nat.le_of_ble_eq_true rfl⟩ ⟨Nat.le_refl _, Nat.le_refl _⟩ rfl (Nat.le_of_ble_eq_true rfl) dX11_blind_30) hI (by decide) (fun r_6 σ_7 H locs hpσ_7 hkσ_7 hI => ?_)
    obtain ⟨ahpσ_7, bhpσ_7⟩ := hpσ_7
    rw [ahpσ_7] at hI
    replace hF := q_letX hF bhpσ_7
    refine q_ci (q_runV (As := [.long r_4, .long r_6]) (rest := []) E (hml.trans hl.1.symm) hI (c_X11_tell l X σ a r_4 r_6 ha) kv_X11_326 ha ⟨rfl, by decide⟩ (show vwCl[10]? = some (RX11, TX11, 17) from rfl) rfl ⟨Nat.le_of_ble_eq_true rfl, Nat.le_of_ble_eq_true rfl⟩ ⟨Nat.le_refl _, Nat.le_refl _⟩ rfl (Nat.le_of_ble_eq_true rfl) dX11_blind_33) hI (by decide) (fun r_8 σ_9 H locs hpσ_9 hkσ_9 hI => ?_)
    obtain ⟨ahpσ_9, bhpσ_9, chpσ_9⟩ := hpσ_9
    have fr_σ_9 := fr_σ.call chpσ_9 rfl rfl
    replace hF := q_biX hF bhpσ_9
    exact q_retz E hr hlk hI ⟨by omega, by omega⟩ ⟨⟨by omega, by omega⟩, (hF.trans hout), fr_σ_9⟩ dX11_blind_36
  · skip
    replace hF := q_ifn hF c_3
    refine lv_aload_n hx hb dX11_blind_10 rfl (lv_at hl 1 rfl) ?_
    refine lv_iload_n hx hb dX11_blind_11 rfl (lv_at hl 0 rfl) ?_
    refine q_ci (q_runV (As := [.int r_1]) (rest := []) E (hml.trans hl.1.symm) hI (c_X11_no l X σ a r_1 ha) kv_X11_89 ha ⟨rfl, by decide⟩ (show vwCl[10]? = some (RX11, TX11, 17) from rfl) rfl ⟨Nat.le_of_ble_eq_true rfl, Nat.le_of_ble_eq_true rfl⟩ ⟨Nat.le_refl _, Nat.le_refl _⟩ rfl (Nat.le_of_ble_eq_true rfl) dX11_blind_12) hI (by decide) (fun r_10 σ_11 H locs hpσ_11 hkσ_11 hI => ?_)
    obtain ⟨ahpσ_11, bhpσ_11, chpσ_11, dhpσ_11⟩ := hpσ_11
    have fr_σ_11 := fr_σ.call dhpσ_11 rfl rfl
    replace hF := q_biX hF chpσ_11
    exact q_retz E hr hlk hI ⟨by omega, by omega⟩ ⟨⟨by omega, by omega⟩, (hF.trans hout), fr_σ_11⟩ dX11_blind_15

set_option maxRecDepth 100000 in
set_option maxHeartbeats 4000000 in
theorem c_X11_honest (l : Launch) (X : XW) (σ : ST) (a : Nat) (v1 : Int32) (ha : q_kd X a = 11) : Met l yX11_honest (q_ws yX11_honest cX11_honest 2 (some .boolean)) (q_rm 2 52) (q_P X σ [.ref a, .int v1]) (q_Qi X 8 σ (fun (r : Int32) (σ' : ST) => (0 ≤ r.toInt ∧ r.toInt ≤ 1) ∧ (r, σ') = F_X11_honest X σ a v1 ∧ q_ow [(11, 0)] [(11, 1), (11, 2)] X σ σ')) 0 0 (q_reg X) := by
  refine q_met 8 (by first | exact rfl | decide +kernel) rfl (Nat.le_of_ble_eq_true rfl) (fun p e s m below meth c E hml hr hlk hI ls hl => ?_)
  have hx := E.1
  have hb := E.2.1
  have hl : lv_has ls 2 [(0, .ref a), (1, .int v1)] := hl
  have fr_σ : q_ow [(11, 0)] [(11, 1), (11, 2)] X σ σ := q_ow.rf
  obtain ⟨out, hout⟩ : ∃ o, o = F_X11_honest X σ a v1 := ⟨_, rfl⟩
  have hF := hout.symm
  unfold F_X11_honest at hF
  refine lv_aload_n hx hb dX11_honest_0 rfl (lv_at hl 0 rfl) ?_
  refine lv_iload_n hx hb dX11_honest_1 rfl (lv_at hl 1 rfl) ?_
  refine q_ci (q_runV (As := [.int v1]) (rest := []) E (hml.trans hl.1.symm) hI (c_X11_isPlayer l X σ a v1 ha) kv_X11_219 ha ⟨rfl, by decide⟩ (show vwCl[10]? = some (RX11, TX11, 17) from rfl) rfl ⟨Nat.le_of_ble_eq_true rfl, Nat.le_of_ble_eq_true rfl⟩ ⟨Nat.le_refl _, Nat.le_refl _⟩ rfl (Nat.le_of_ble_eq_true rfl) dX11_honest_2) hI (by decide) (fun r_1 σ_2 H locs hpσ_2 hkσ_2 hI => ?_)
  obtain ⟨ahpσ_2, bhpσ_2, chpσ_2⟩ := hpσ_2
  rw [ahpσ_2] at hI
  replace hF := q_letX hF chpσ_2
  refine q_if_ne (A := r_1.toInt) E rfl (tgt := 14) dX11_honest_5 (by decide) (fun c_3 => ?_) (fun c_3 => ?_)
  · skip
    replace hF := q_ifn hF c_3
    replace c_3 := q_ifOne bhpσ_2 c_3
    refine lv_aload_n hx hb dX11_honest_14 rfl (lv_at hl 0 rfl) ?_
    refine lv_aload_n hx hb dX11_honest_15 rfl (lv_at hl 0 rfl) ?_
    refine gs_X11_42_11 E hI ha dX11_honest_16 ?_
    refine gs_X11_222_1 E hI (q_tk (k' := 1) hI ha rfl (by decide)) dX11_honest_19 ?_
    refine lv_iload_n hx hb dX11_honest_22 rfl (lv_at hl 1 rfl) ?_
    refine q_cl_ (q_runV (As := [.int v1]) (rest := [.ref a]) E (hml.trans hl.1.symm) hI (c_X1_honestTop l X σ (q_rf X (q_rf X a 8) 1) v1 (q_tk (k' := 2) hI (q_tk (k' := 1) hI ha rfl (by decide)) rfl (by decide))) kv_X11_330 (q_tk (k' := 2) hI (q_tk (k' := 1) hI ha rfl (by decide)) rfl (by decide)) ⟨rfl, by decide⟩ (show vwCl[1]? = some (RX1, TX1, 7) from rfl) rfl ⟨Nat.le_of_ble_eq_true rfl, Nat.le_of_ble_eq_true rfl⟩ ⟨Nat.le_refl _, Nat.le_refl _⟩ rfl (Nat.le_of_ble_eq_true rfl) dX11_honest_23) hI (by decide) (fun r_4 σ_5 H locs hpσ_5 hkσ_5 hI => ?_)
    obtain ⟨ahpσ_5, bhpσ_5⟩ := hpσ_5
    rw [ahpσ_5] at hI
    replace hF := q_letX hF bhpσ_5
    refine lv_aload_n hx hb dX11_honest_26 rfl (lv_at hl 0 rfl) ?_
    refine gs_X11_42_11 E hI ha dX11_honest_27 ?_
    refine gs_X11_222_1 E hI (q_tk (k' := 1) hI ha rfl (by decide)) dX11_honest_30 ?_
    refine lv_iload_n hx hb dX11_honest_33 rfl (lv_at hl 1 rfl) ?_
    refine q_cl_ (q_runV (As := [.int v1]) (rest := [.long r_4, .ref a]) E (hml.trans hl.1.symm) hI (c_X1_honestBottom l X σ (q_rf X (q_rf X a 8) 1) v1 (q_tk (k' := 2) hI (q_tk (k' := 1) hI ha rfl (by decide)) rfl (by decide))) kv_X11_333 (q_tk (k' := 2) hI (q_tk (k' := 1) hI ha rfl (by decide)) rfl (by decide)) ⟨rfl, by decide⟩ (show vwCl[1]? = some (RX1, TX1, 7) from rfl) rfl ⟨Nat.le_of_ble_eq_true rfl, Nat.le_of_ble_eq_true rfl⟩ ⟨Nat.le_refl _, Nat.le_refl _⟩ rfl (Nat.le_of_ble_eq_true rfl) dX11_honest_34) hI (by decide) (fun r_6 σ_7 H locs hpσ_7 hkσ_7 hI => ?_)
    obtain ⟨ahpσ_7, bhpσ_7⟩ := hpσ_7
    rw [ahpσ_7] at hI
    replace hF := q_letX hF bhpσ_7
    refine q_ci (q_runV (As := [.long r_4, .long r_6]) (rest := []) E (hml.trans hl.1.symm) hI (c_X11_tell l X σ a r_4 r_6 ha) kv_X11_326 ha ⟨rfl, by decide⟩ (show vwCl[10]? = some (RX11, TX11, 17) from rfl) rfl ⟨Nat.le_of_ble_eq_true rfl, Nat.le_of_ble_eq_true rfl⟩ ⟨Nat.le_refl _, Nat.le_refl _⟩ rfl (Nat.le_of_ble_eq_true rfl) dX11_honest_37) hI (by decide) (fun r_8 σ_9 H locs hpσ_9 hkσ_9 hI => ?_)
    obtain ⟨ahpσ_9, bhpσ_9, chpσ_9⟩ := hpσ_9
    have fr_σ_9 := fr_σ.call chpσ_9 rfl rfl
    replace hF := q_biX hF bhpσ_9
    exact q_retz E hr hlk hI ⟨by omega, by omega⟩ ⟨⟨by omega, by omega⟩, (hF.trans hout), fr_σ_9⟩ dX11_honest_40
  · skip
    replace hF := q_ifp hF c_3
    refine lv_aload_n hx hb dX11_honest_8 rfl (lv_at hl 0 rfl) ?_
    refine lv_iconst (v := 2) hx hb dX11_honest_9 (by decide) ?_
    have kc_10 : (2 : Int32).toInt = 2 := rfl
    refine q_ci (q_runV (As := [.int 2]) (rest := []) E (hml.trans hl.1.symm) hI (c_X11_no l X σ a (2 : Int32) ha) kv_X11_89 ha ⟨rfl, by decide⟩ (show vwCl[10]? = some (RX11, TX11, 17) from rfl) rfl ⟨Nat.le_of_ble_eq_true rfl, Nat.le_of_ble_eq_true rfl⟩ ⟨Nat.le_refl _, Nat.le_refl _⟩ rfl (Nat.le_of_ble_eq_true rfl) dX11_honest_10) hI (by decide) (fun r_11 σ_12 H locs hpσ_12 hkσ_12 hI => ?_)
    obtain ⟨ahpσ_12, bhpσ_12, chpσ_12, dhpσ_12⟩ := hpσ_12
    have fr_σ_12 := fr_σ.call dhpσ_12 rfl rfl
    replace hF := q_biX hF chpσ_12
    exact q_retz E hr hlk hI ⟨by omega, by omega⟩ ⟨⟨by omega, by omega⟩, (hF.trans hout), fr_σ_12⟩ dX11_honest_13

set_option maxRecDepth 100000 in
set_option maxHeartbeats 4000000 in
theorem c_X11_belief (l : Launch) (X : XW) (σ : ST) (a : Nat) (v1 : Int32) (ha : q_kd X a = 11) : Met l yX11_belief (q_ws yX11_belief cX11_belief 11 (some .boolean)) (q_rm 5 110) (q_P X σ [.ref a, .int v1]) (q_Qi X 8 σ (fun (r : Int32) (σ' : ST) => (0 ≤ r.toInt ∧ r.toInt ≤ 1) ∧ (r, σ') = F_X11_belief X σ a v1 ∧ q_ow [(11, 0)] [(11, 1), (11, 2)] X σ σ')) 0 0 (q_reg X) := by
  refine q_met 8 (by first | exact rfl | decide +kernel) rfl (Nat.le_of_ble_eq_true rfl) (fun p e s m below meth c E hml hr hlk hI ls hl => ?_)
  have hx := E.1
  have hb := E.2.1
  have hl : lv_has ls 11 [(0, .ref a), (1, .int v1)] := hl
  have fr_σ : q_ow [(11, 0)] [(11, 1), (11, 2)] X σ σ := q_ow.rf
  obtain ⟨out, hout⟩ : ∃ o, o = F_X11_belief X σ a v1 := ⟨_, rfl⟩
  have hF := hout.symm
  unfold F_X11_belief at hF
  refine lv_aload_n hx hb dX11_belief_0 rfl (lv_at hl 0 rfl) ?_
  refine lv_iload_n hx hb dX11_belief_1 rfl (lv_at hl 1 rfl) ?_
  refine q_ci (q_runV (As := [.int v1]) (rest := []) E (hml.trans hl.1.symm) hI (c_X11_doubterStatus l X σ a v1 ha) kv_X11_296 ha ⟨rfl, by decide⟩ (show vwCl[10]? = some (RX11, TX11, 17) from rfl) rfl ⟨Nat.le_of_ble_eq_true rfl, Nat.le_of_ble_eq_true rfl⟩ ⟨Nat.le_refl _, Nat.le_refl _⟩ rfl (Nat.le_of_ble_eq_true rfl) dX11_belief_2) hI (by decide) (fun r_1 σ_2 H locs hpσ_2 hkσ_2 hI => ?_)
  obtain ⟨ahpσ_2, bhpσ_2⟩ := hpσ_2
  rw [ahpσ_2] at hI
  replace hF := q_letX hF bhpσ_2
  refine lv_istore_n (lv' := [(2, .int r_1), (0, .ref a), (1, .int v1)]) hx hb dX11_belief_5 rfl hl (by decide) rfl (fun ls hl => ?_)
  refine lv_iload_n hx hb dX11_belief_6 rfl (lv_at hl 0 rfl) ?_
  refine q_if_eq (A := r_1.toInt) E rfl (tgt := 16) dX11_belief_7 (by decide) (fun c_3 => ?_) (fun c_3 => ?_)
  · skip
    replace hF := q_ifp hF c_3
    refine lv_aload_n hx hb dX11_belief_16 rfl (lv_at hl 1 rfl) ?_
    refine gs_X11_42_11 E hI ha dX11_belief_17 ?_
    refine lv_iload_n hx hb dX11_belief_20 rfl (lv_at hl 2 rfl) ?_
    refine q_cl_ (q_runV (As := [.int v1]) (rest := []) E (hml.trans hl.1.symm) hI (c_X0_trueWays l X σ (q_rf X a 8) v1 (q_tk (k' := 1) hI ha rfl (by decide))) kv_X11_320 (q_tk (k' := 1) hI ha rfl (by decide)) ⟨rfl, by decide⟩ (show vwCl[0]? = some (RX0, TX0, 15) from rfl) rfl ⟨Nat.le_of_ble_eq_true rfl, Nat.le_of_ble_eq_true rfl⟩ ⟨Nat.le_refl _, Nat.le_refl _⟩ rfl (Nat.le_of_ble_eq_true rfl) dX11_belief_21) hI (by decide) (fun r_4 σ_5 H locs hpσ_5 hkσ_5 hI => ?_)
    obtain ⟨ahpσ_5, bhpσ_5⟩ := hpσ_5
    rw [ahpσ_5] at hI
    replace hF := q_letX hF bhpσ_5
    refine lv_lstore_n (lv' := [(3, .long r_4), (2, .int r_1), (0, .ref a), (1, .int v1)]) hx hb dX11_belief_24 rfl hl (by decide) rfl (fun ls hl => ?_)
    refine lv_aload_n hx hb dX11_belief_25 rfl (lv_at hl 2 rfl) ?_
    refine gs_X11_42_11 E hI ha dX11_belief_26 ?_
    refine lv_iload_n hx hb dX11_belief_29 rfl (lv_at hl 3 rfl) ?_
    refine q_cl_ (q_runV (As := [.int v1]) (rest := []) E (hml.trans hl.1.symm) hI (c_X0_allWays l X σ (q_rf X a 8) v1 (q_tk (k' := 1) hI ha rfl (by decide))) kv_X11_323 (q_tk (k' := 1) hI ha rfl (by decide)) ⟨rfl, by decide⟩ (show vwCl[0]? = some (RX0, TX0, 15) from rfl) rfl ⟨Nat.le_of_ble_eq_true rfl, Nat.le_of_ble_eq_true rfl⟩ ⟨Nat.le_refl _, Nat.le_refl _⟩ rfl (Nat.le_of_ble_eq_true rfl) dX11_belief_30) hI (by decide) (fun r_6 σ_7 H locs hpσ_7 hkσ_7 hI => ?_)
    obtain ⟨ahpσ_7, bhpσ_7⟩ := hpσ_7
    rw [ahpσ_7] at hI
    replace hF := q_letX hF bhpσ_7
    refine lv_lload_n hx hb dX11_belief_33 rfl (lv_at hl 0 rfl) ?_
    refine lv_lsub hx hb dX11_belief_34 ?_
    refine lv_topl (fun y_8 ey_8 => ?_)
    replace hF := q_letX hF ey_8
    refine lv_lstore (lv' := [(5, .long y_8), (3, .long r_4), (2, .int r_1), (0, .ref a), (1, .int v1)]) hx hb dX11_belief_35 hl (by decide) rfl (fun ls hl => ?_)
    refine lv_aload_n hx hb dX11_belief_37 rfl (lv_at hl 3 rfl) ?_
    refine gs_X11_42_11 E hI ha dX11_belief_38 ?_
    refine gs_X11_222_1 E hI (q_tk (k' := 1) hI ha rfl (by decide)) dX11_belief_41 ?_
    refine lv_aload_n hx hb dX11_belief_44 rfl (lv_at hl 3 rfl) ?_
    refine gs_X11_42_11 E hI ha dX11_belief_45 ?_
    refine gs_X11_198_1 E hI (q_tk (k' := 1) hI ha rfl (by decide)) dX11_belief_48 ?_
    refine lv_topi (fun f_9 ef_9 => ?_)
    replace hF := q_letX hF ef_9
    refine q_cl_ (q_runV (As := [.int f_9]) (rest := []) E (hml.trans hl.1.symm) hI (c_X1_honestTop l X σ (q_rf X (q_rf X a 8) 1) f_9 (q_tk (k' := 2) hI (q_tk (k' := 1) hI ha rfl (by decide)) rfl (by decide))) kv_X11_330 (q_tk (k' := 2) hI (q_tk (k' := 1) hI ha rfl (by decide)) rfl (by decide)) ⟨rfl, by decide⟩ (show vwCl[1]? = some (RX1, TX1, 7) from rfl) rfl ⟨Nat.le_of_ble_eq_true rfl, Nat.le_of_ble_eq_true rfl⟩ ⟨Nat.le_refl _, Nat.le_refl _⟩ rfl (Nat.le_of_ble_eq_true rfl) dX11_belief_51) hI (by decide) (fun r_10 σ_11 H locs hpσ_11 hkσ_11 hI => ?_)
    obtain ⟨ahpσ_11, bhpσ_11⟩ := hpσ_11
    rw [ahpσ_11] at hI
    replace hF := q_letX hF bhpσ_11
    refine lv_lstore (lv' := [(7, .long r_10), (5, .long y_8), (3, .long r_4), (2, .int r_1), (0, .ref a), (1, .int v1)]) hx hb dX11_belief_54 hl (by decide) rfl (fun ls hl => ?_)
    refine lv_aload_n hx hb dX11_belief_56 rfl (lv_at hl 4 rfl) ?_
    refine gs_X11_42_11 E hI ha dX11_belief_57 ?_
    refine gs_X11_222_1 E hI (q_tk (k' := 1) hI ha rfl (by decide)) dX11_belief_60 ?_
    refine lv_aload_n hx hb dX11_belief_63 rfl (lv_at hl 4 rfl) ?_
    refine gs_X11_42_11 E hI ha dX11_belief_64 ?_
    refine gs_X11_198_1 E hI (q_tk (k' := 1) hI ha rfl (by decide)) dX11_belief_67 ?_
    refine lv_topi (fun f_12 ef_12 => ?_)
    replace hF := q_letX hF ef_12
    refine q_cl_ (q_runV (As := [.int f_12]) (rest := []) E (hml.trans hl.1.symm) hI (c_X1_honestBottom l X σ (q_rf X (q_rf X a 8) 1) f_12 (q_tk (k' := 2) hI (q_tk (k' := 1) hI ha rfl (by decide)) rfl (by decide))) kv_X11_333 (q_tk (k' := 2) hI (q_tk (k' := 1) hI ha rfl (by decide)) rfl (by decide)) ⟨rfl, by decide⟩ (show vwCl[1]? = some (RX1, TX1, 7) from rfl) rfl ⟨Nat.le_of_ble_eq_true rfl, Nat.le_of_ble_eq_true rfl⟩ ⟨Nat.le_refl _, Nat.le_refl _⟩ rfl (Nat.le_of_ble_eq_true rfl) dX11_belief_70) hI (by decide) (fun r_13 σ_14 H locs hpσ_14 hkσ_14 hI => ?_)
    obtain ⟨ahpσ_14, bhpσ_14⟩ := hpσ_14
    rw [ahpσ_14] at hI
    replace hF := q_letX hF bhpσ_14
    refine lv_lload hx hb dX11_belief_73 (lv_at hl 0 rfl) ?_
    refine lv_lsub hx hb dX11_belief_75 ?_
    refine lv_topl (fun y_15 ey_15 => ?_)
    replace hF := q_letX hF ey_15
    refine lv_lstore (lv' := [(9, .long y_15), (7, .long r_10), (5, .long y_8), (3, .long r_4), (2, .int r_1), (0, .ref a), (1, .int v1)]) hx hb dX11_belief_76 hl (by decide) rfl (fun ls hl => ?_)
    refine lv_aload_n hx hb dX11_belief_78 rfl (lv_at hl 5 rfl) ?_
    refine lv_lload_n hx hb dX11_belief_79 rfl (lv_at hl 3 rfl) ?_
    refine lv_lload hx hb dX11_belief_80 (lv_at hl 1 rfl) ?_
    refine lv_lmul hx hb dX11_belief_82 ?_
    refine lv_topl (fun y_16 ey_16 => ?_)
    replace hF := q_letX hF ey_16
    refine lv_lload_n hx hb dX11_belief_83 rfl (lv_at hl 3 rfl) ?_
    refine lv_lload hx hb dX11_belief_84 (lv_at hl 1 rfl) ?_
    refine lv_lmul hx hb dX11_belief_86 ?_
    refine lv_topl (fun y_17 ey_17 => ?_)
    replace hF := q_letX hF ey_17
    refine lv_lload hx hb dX11_belief_87 (lv_at hl 2 rfl) ?_
    refine lv_lload hx hb dX11_belief_89 (lv_at hl 0 rfl) ?_
    refine lv_lmul hx hb dX11_belief_91 ?_
    refine lv_topl (fun y_18 ey_18 => ?_)
    replace hF := q_letX hF ey_18
    refine lv_ladd hx hb dX11_belief_92 ?_
    refine lv_topl (fun y_19 ey_19 => ?_)
    replace hF := q_letX hF ey_19
    refine q_ci (q_runV (As := [.long y_16, .long y_19]) (rest := []) E (hml.trans hl.1.symm) hI (c_X11_tell l X σ a y_16 y_19 ha) kv_X11_326 ha ⟨rfl, by decide⟩ (show vwCl[10]? = some (RX11, TX11, 17) from rfl) rfl ⟨Nat.le_of_ble_eq_true rfl, Nat.le_of_ble_eq_true rfl⟩ ⟨Nat.le_refl _, Nat.le_refl _⟩ rfl (Nat.le_of_ble_eq_true rfl) dX11_belief_93) hI (by decide) (fun r_20 σ_21 H locs hpσ_21 hkσ_21 hI => ?_)
    obtain ⟨ahpσ_21, bhpσ_21, chpσ_21⟩ := hpσ_21
    have fr_σ_21 := fr_σ.call chpσ_21 rfl rfl
    replace hF := q_biX hF bhpσ_21
    exact q_retz E hr hlk hI ⟨by omega, by omega⟩ ⟨⟨by omega, by omega⟩, (hF.trans hout), fr_σ_21⟩ dX11_belief_96
  · skip
    replace hF := q_ifn hF c_3
    refine lv_aload_n hx hb dX11_belief_10 rfl (lv_at hl 1 rfl) ?_
    refine lv_iload_n hx hb dX11_belief_11 rfl (lv_at hl 0 rfl) ?_
    refine q_ci (q_runV (As := [.int r_1]) (rest := []) E (hml.trans hl.1.symm) hI (c_X11_no l X σ a r_1 ha) kv_X11_89 ha ⟨rfl, by decide⟩ (show vwCl[10]? = some (RX11, TX11, 17) from rfl) rfl ⟨Nat.le_of_ble_eq_true rfl, Nat.le_of_ble_eq_true rfl⟩ ⟨Nat.le_refl _, Nat.le_refl _⟩ rfl (Nat.le_of_ble_eq_true rfl) dX11_belief_12) hI (by decide) (fun r_22 σ_23 H locs hpσ_23 hkσ_23 hI => ?_)
    obtain ⟨ahpσ_23, bhpσ_23, chpσ_23, dhpσ_23⟩ := hpσ_23
    have fr_σ_23 := fr_σ.call dhpσ_23 rfl rfl
    replace hF := q_biX hF chpσ_23
    exact q_retz E hr hlk hI ⟨by omega, by omega⟩ ⟨⟨by omega, by omega⟩, (hF.trans hout), fr_σ_23⟩ dX11_belief_15

set_option maxRecDepth 100000 in
set_option maxHeartbeats 4000000 in
theorem c_X11_worth (l : Launch) (X : XW) (σ : ST) (a : Nat) (v1 : Int32) (ha : q_kd X a = 11) : Met l yX11_worth (q_ws yX11_worth cX11_worth 3 (some .boolean)) (q_rm 6 131) (q_P X σ [.ref a, .int v1]) (q_Qi X 8 σ (fun (r : Int32) (σ' : ST) => (0 ≤ r.toInt ∧ r.toInt ≤ 1) ∧ (r, σ') = F_X11_worth X σ a v1 ∧ q_ow [(11, 0)] [(11, 1), (11, 2)] X σ σ')) 0 0 (q_reg X) := by
  refine q_met 8 (by first | exact rfl | decide +kernel) rfl (Nat.le_of_ble_eq_true rfl) (fun p e s m below meth c E hml hr hlk hI ls hl => ?_)
  have hx := E.1
  have hb := E.2.1
  have hl : lv_has ls 3 [(0, .ref a), (1, .int v1)] := hl
  have fr_σ : q_ow [(11, 0)] [(11, 1), (11, 2)] X σ σ := q_ow.rf
  obtain ⟨out, hout⟩ : ∃ o, o = F_X11_worth X σ a v1 := ⟨_, rfl⟩
  have hF := hout.symm
  unfold F_X11_worth at hF
  refine lv_aload_n hx hb dX11_worth_0 rfl (lv_at hl 0 rfl) ?_
  refine lv_iload_n hx hb dX11_worth_1 rfl (lv_at hl 1 rfl) ?_
  refine q_ci (q_runV (As := [.int v1]) (rest := []) E (hml.trans hl.1.symm) hI (c_X11_doubterStatus l X σ a v1 ha) kv_X11_296 ha ⟨rfl, by decide⟩ (show vwCl[10]? = some (RX11, TX11, 17) from rfl) rfl ⟨Nat.le_of_ble_eq_true rfl, Nat.le_of_ble_eq_true rfl⟩ ⟨Nat.le_refl _, Nat.le_refl _⟩ rfl (Nat.le_of_ble_eq_true rfl) dX11_worth_2) hI (by decide) (fun r_1 σ_2 H locs hpσ_2 hkσ_2 hI => ?_)
  obtain ⟨ahpσ_2, bhpσ_2⟩ := hpσ_2
  rw [ahpσ_2] at hI
  replace hF := q_letX hF bhpσ_2
  refine lv_istore_n (lv' := [(2, .int r_1), (0, .ref a), (1, .int v1)]) hx hb dX11_worth_5 rfl hl (by decide) rfl (fun ls hl => ?_)
  refine lv_iload_n hx hb dX11_worth_6 rfl (lv_at hl 0 rfl) ?_
  refine q_if_eq (A := r_1.toInt) E rfl (tgt := 16) dX11_worth_7 (by decide) (fun c_3 => ?_) (fun c_3 => ?_)
  · skip
    replace hF := q_ifp hF c_3
    refine lv_aload_n hx hb dX11_worth_16 rfl (lv_at hl 1 rfl) ?_
    refine lv_aload_n hx hb dX11_worth_17 rfl (lv_at hl 1 rfl) ?_
    refine gs_X11_42_11 E hI ha dX11_worth_18 ?_
    refine lv_iload_n hx hb dX11_worth_21 rfl (lv_at hl 2 rfl) ?_
    refine q_cl_ (q_runV (As := [.int v1]) (rest := [.ref a]) E (hml.trans hl.1.symm) hI (c_X0_worthTop l X σ (q_rf X a 8) v1 (q_tk (k' := 1) hI ha rfl (by decide))) kv_X11_336 (q_tk (k' := 1) hI ha rfl (by decide)) ⟨rfl, by decide⟩ (show vwCl[0]? = some (RX0, TX0, 15) from rfl) rfl ⟨Nat.le_of_ble_eq_true rfl, Nat.le_of_ble_eq_true rfl⟩ ⟨Nat.le_refl _, Nat.le_refl _⟩ rfl (Nat.le_of_ble_eq_true rfl) dX11_worth_22) hI (by decide) (fun r_4 σ_5 H locs hpσ_5 hkσ_5 hI => ?_)
    obtain ⟨ahpσ_5, bhpσ_5⟩ := hpσ_5
    rw [ahpσ_5] at hI
    replace hF := q_letX hF bhpσ_5
    refine lv_aload_n hx hb dX11_worth_25 rfl (lv_at hl 1 rfl) ?_
    refine gs_X11_42_11 E hI ha dX11_worth_26 ?_
    refine lv_iload_n hx hb dX11_worth_29 rfl (lv_at hl 2 rfl) ?_
    refine q_cl_ (q_runV (As := [.int v1]) (rest := [.long r_4, .ref a]) E (hml.trans hl.1.symm) hI (c_X0_allWays l X σ (q_rf X a 8) v1 (q_tk (k' := 1) hI ha rfl (by decide))) kv_X11_323 (q_tk (k' := 1) hI ha rfl (by decide)) ⟨rfl, by decide⟩ (show vwCl[0]? = some (RX0, TX0, 15) from rfl) rfl ⟨Nat.le_of_ble_eq_true rfl, Nat.le_of_ble_eq_true rfl⟩ ⟨Nat.le_refl _, Nat.le_refl _⟩ rfl (Nat.le_of_ble_eq_true rfl) dX11_worth_30) hI (by decide) (fun r_6 σ_7 H locs hpσ_7 hkσ_7 hI => ?_)
    obtain ⟨ahpσ_7, bhpσ_7⟩ := hpσ_7
    rw [ahpσ_7] at hI
    replace hF := q_letX hF bhpσ_7
    refine q_ci (q_runV (As := [.long r_4, .long r_6]) (rest := []) E (hml.trans hl.1.symm) hI (c_X11_tell l X σ a r_4 r_6 ha) kv_X11_326 ha ⟨rfl, by decide⟩ (show vwCl[10]? = some (RX11, TX11, 17) from rfl) rfl ⟨Nat.le_of_ble_eq_true rfl, Nat.le_of_ble_eq_true rfl⟩ ⟨Nat.le_refl _, Nat.le_refl _⟩ rfl (Nat.le_of_ble_eq_true rfl) dX11_worth_33) hI (by decide) (fun r_8 σ_9 H locs hpσ_9 hkσ_9 hI => ?_)
    obtain ⟨ahpσ_9, bhpσ_9, chpσ_9⟩ := hpσ_9
    have fr_σ_9 := fr_σ.call chpσ_9 rfl rfl
    replace hF := q_biX hF bhpσ_9
    exact q_retz E hr hlk hI ⟨by omega, by omega⟩ ⟨⟨by omega, by omega⟩, (hF.trans hout), fr_σ_9⟩ dX11_worth_36
  · skip
    replace hF := q_ifn hF c_3
    refine lv_aload_n hx hb dX11_worth_10 rfl (lv_at hl 1 rfl) ?_
    refine lv_iload_n hx hb dX11_worth_11 rfl (lv_at hl 0 rfl) ?_
    refine q_ci (q_runV (As := [.int r_1]) (rest := []) E (hml.trans hl.1.symm) hI (c_X11_no l X σ a r_1 ha) kv_X11_89 ha ⟨rfl, by decide⟩ (show vwCl[10]? = some (RX11, TX11, 17) from rfl) rfl ⟨Nat.le_of_ble_eq_true rfl, Nat.le_of_ble_eq_true rfl⟩ ⟨Nat.le_refl _, Nat.le_refl _⟩ rfl (Nat.le_of_ble_eq_true rfl) dX11_worth_12) hI (by decide) (fun r_10 σ_11 H locs hpσ_11 hkσ_11 hI => ?_)
    obtain ⟨ahpσ_11, bhpσ_11, chpσ_11, dhpσ_11⟩ := hpσ_11
    have fr_σ_11 := fr_σ.call dhpσ_11 rfl rfl
    replace hF := q_biX hF chpσ_11
    exact q_retz E hr hlk hI ⟨by omega, by omega⟩ ⟨⟨by omega, by omega⟩, (hF.trans hout), fr_σ_11⟩ dX11_worth_15

set_option maxRecDepth 100000 in
set_option maxHeartbeats 4000000 in
theorem c_X11_ready (l : Launch) (X : XW) (σ : ST) (a : Nat) (ha : q_kd X a = 11) : Met l yX11_ready (q_ws yX11_ready cX11_ready 5 (some .int)) (q_rm 6 131) (q_P X σ [.ref a]) (q_Qi X 8 σ (fun (r : Int32) (σ' : ST) => (r, σ') = F_X11_ready X σ a ∧ q_ow [(11, 0)] [] X σ σ')) 0 0 (q_reg X) := by
  refine q_met 8 (by first | exact rfl | decide +kernel) rfl (Nat.le_of_ble_eq_true rfl) (fun p e s m below meth c E hml hr hlk hI ls hl => ?_)
  have hx := E.1
  have hb := E.2.1
  have hl : lv_has ls 5 [(0, .ref a)] := hl
  have fr_σ : q_ow [(11, 0)] [] X σ σ := q_ow.rf
  obtain ⟨out, hout⟩ : ∃ o, o = F_X11_ready X σ a := ⟨_, rfl⟩
  have hF := hout.symm
  unfold F_X11_ready at hF
  refine lv_aload_n hx hb dX11_ready_0 rfl (lv_at hl 0 rfl) ?_
  refine gs_X11_42_11 E hI ha dX11_ready_1 ?_
  refine gs_X11_147_1 E hI (q_tk (k' := 1) hI ha rfl (by decide)) dX11_ready_4 ?_
  refine gs_X11_151_6 E hI (q_tk (k' := 6) hI (q_tk (k' := 1) hI ha rfl (by decide)) rfl (by decide)) dX11_ready_7 ?_
  refine lv_topi (fun f_1 ef_1 => ?_)
  replace hF := q_letX hF ef_1
  refine lv_istore_n (lv' := [(1, .int f_1), (0, .ref a)]) hx hb dX11_ready_10 rfl hl (by decide) rfl (fun ls hl => ?_)
  refine lv_aload_n hx hb dX11_ready_11 rfl (lv_at hl 1 rfl) ?_
  refine gs_X11_42_11 E hI ha dX11_ready_12 ?_
  refine gs_X11_210_1 E hI (q_tk (k' := 1) hI ha rfl (by decide)) dX11_ready_15 ?_
  refine lv_topi (fun f_2 ef_2 => ?_)
  replace hF := q_letX hF ef_2
  have bf_2 : 0 ≤ f_2.toInt ∧ f_2.toInt ≤ 1 := by rw [ef_2]; exact q_bd hI (q_tk (k' := 1) hI ha rfl (by decide)) rfl
  refine q_if_eq (A := f_2.toInt) E rfl (tgt := 26) dX11_ready_18 (by decide) (fun c_3 => ?_) (fun c_3 => ?_)
  · skip
    replace hF := q_ifp hF c_3
    refine lv_aload_n hx hb dX11_ready_26 rfl (lv_at hl 1 rfl) ?_
    refine lv_bipush (v := 8) hx hb dX11_ready_27 (by decide) ?_
    have kc_4 : (8 : Int32).toInt = 8 := rfl
    refine q_ci (q_runV (As := [.int 8]) (rest := []) E (hml.trans hl.1.symm) hI (c_X11_none l X σ a (8 : Int32) ha) kv_X11_109 ha ⟨rfl, by decide⟩ (show vwCl[10]? = some (RX11, TX11, 17) from rfl) rfl ⟨Nat.le_of_ble_eq_true rfl, Nat.le_of_ble_eq_true rfl⟩ ⟨Nat.le_refl _, Nat.le_refl _⟩ rfl (Nat.le_of_ble_eq_true rfl) dX11_ready_29) hI (by decide) (fun r_5 σ_6 H locs hpσ_6 hkσ_6 hI => ?_)
    obtain ⟨ahpσ_6, bhpσ_6, chpσ_6⟩ := hpσ_6
    have fr_σ_6 := fr_σ.call chpσ_6 rfl rfl
    replace hF := q_biX hF bhpσ_6
    exact q_reti E hr hlk hI ⟨(hF.trans hout), fr_σ_6⟩ dX11_ready_32
  · skip
    replace hF := q_ifn hF c_3
    refine lv_iload_n hx hb dX11_ready_21 rfl (lv_at hl 0 rfl) ?_
    refine lv_iconst (v := 2) hx hb dX11_ready_22 (by decide) ?_
    have gc_7_f_1 := q_rng f_1
    refine q_icmp_ge (A := f_1.toInt) (B := 2) E rfl (by decide) (tgt := 33) dX11_ready_23 (by decide) (fun c_7 => ?_) (fun c_7 => ?_)
    · skip
      replace hF := q_ifn hF (Int.not_lt.mpr c_7)
      refine lv_aload_n hx hb dX11_ready_33 rfl (lv_at hl 1 rfl) ?_
      refine gs_X11_42_11 E hI ha dX11_ready_34 ?_
      refine gs_X11_147_1 E hI (q_tk (k' := 1) hI ha rfl (by decide)) dX11_ready_37 ?_
      refine lv_aload_n hx hb dX11_ready_40 rfl (lv_at hl 1 rfl) ?_
      refine gs_X11_42_11 E hI ha dX11_ready_41 ?_
      refine gs_X11_198_1 E hI (q_tk (k' := 1) hI ha rfl (by decide)) dX11_ready_44 ?_
      refine lv_topi (fun f_8 ef_8 => ?_)
      replace hF := q_letX hF ef_8
      refine lv_iconst (v := 1) hx hb dX11_ready_47 (by decide) ?_
      have kc_9 : (1 : Int32).toInt = 1 := rfl
      refine q_ci (q_runV (As := [.int f_8, .int 1]) (rest := []) E (hml.trans hl.1.symm) hI (c_X6_playerAfter l X σ (q_rf X (q_rf X a 8) 0) f_8 (1 : Int32) (q_tk (k' := 6) hI (q_tk (k' := 1) hI ha rfl (by decide)) rfl (by decide))) kv_X11_339 (q_tk (k' := 6) hI (q_tk (k' := 1) hI ha rfl (by decide)) rfl (by decide)) ⟨rfl, by decide⟩ (show vwCl[5]? = some (RX6, TX6, 8) from rfl) rfl ⟨Nat.le_of_ble_eq_true rfl, Nat.le_of_ble_eq_true rfl⟩ ⟨Nat.le_refl _, Nat.le_refl _⟩ rfl (Nat.le_of_ble_eq_true rfl) dX11_ready_48) hI (by decide) (fun r_10 σ_11 H locs hpσ_11 hkσ_11 hI => ?_)
      obtain ⟨ahpσ_11, bhpσ_11⟩ := hpσ_11
      rw [ahpσ_11] at hI
      replace hF := q_letX hF bhpσ_11
      refine lv_istore_n (lv' := [(2, .int r_10), (1, .int f_1), (0, .ref a)]) hx hb dX11_ready_51 rfl hl (by decide) rfl (fun ls hl => ?_)
      refine lv_iconst (v := 2) hx hb dX11_ready_52 (by decide) ?_
      refine lv_istore_n (lv' := [(3, .int 2), (2, .int r_10), (1, .int f_1), (0, .ref a)]) hx hb dX11_ready_53 rfl hl (by decide) rfl (fun ls hl => ?_)
      have L_54_14 : ∀ (k_14 : Nat) (x_12 : Int32) (x_13 : Int32) (H : Heap) (locs : List Loc) (ls : Array Slot), (2147483647 - x_13.toInt).toNat < k_14 → (0 ≤ x_13.toInt) → (F_X11_ready_L54_1 X f_1 σ a k_14 x_12 x_13 = out) → q_I X 8 σ s.heap locs σ H → lv_has ls 5 [(0, .ref a), (1, .int f_1), (2, .int x_12), (3, .int x_13)] → W p l e (q_rm 6 131) s m ([.ref a] : List Value).toArray below meth c H locs 0 0 (MQ below (q_Qi X 8 σ (fun (r : Int32) (σ' : ST) => (r, σ') = F_X11_ready X σ a ∧ q_ow [(11, 0)] [] X σ σ')) ([.ref a] : List Value).toArray s 0 0 (q_reg X)) (F0 m 54 ls []) := by
        clear hF
        intro k_14
        induction k_14 with
        | zero =>
          intro x_12 x_13 H locs ls hms
          exact absurd hms (Nat.not_lt_zero _)
        | succ k_14 ih54 =>
          intro x_12 x_13 H locs ls hm54 hge54 hF hI hl
          replace hF := (F_X11_ready_L54_1_s).symm.trans hF
          unfold F_X11_ready_B54_1 at hF
          refine lv_iload_n hx hb dX11_ready_54 rfl (lv_at hl 3 rfl) ?_
          refine lv_iload_n hx hb dX11_ready_55 rfl (lv_at hl 1 rfl) ?_
          have gc_15_x_13 := q_rng x_13
          have gc_15_f_1 := q_rng f_1
          refine q_icmp_ge (A := x_13.toInt) (B := f_1.toInt) E rfl rfl (tgt := 128) dX11_ready_56 (by decide) (fun c_15 => ?_) (fun c_15 => ?_)
          · skip
            replace hF := q_ifn hF (Int.not_lt.mpr c_15)
            unfold F_X11_ready_E128_2 at hF
            refine lv_aload_n hx hb dX11_ready_128 rfl (lv_at hl 0 rfl) ?_
            refine lv_iload_n hx hb dX11_ready_129 rfl (lv_at hl 2 rfl) ?_
            refine q_ci (q_runV (As := [.int x_12]) (rest := []) E (hml.trans hl.1.symm) hI (c_X11_good l X σ a x_12 ha) kv_X11_156 ha ⟨rfl, by decide⟩ (show vwCl[10]? = some (RX11, TX11, 17) from rfl) rfl ⟨Nat.le_of_ble_eq_true rfl, Nat.le_of_ble_eq_true rfl⟩ ⟨Nat.le_refl _, Nat.le_refl _⟩ rfl (Nat.le_of_ble_eq_true rfl) dX11_ready_130) hI (by decide) (fun r_16 σ_17 H locs hpσ_17 hkσ_17 hI => ?_)
            obtain ⟨ahpσ_17, bhpσ_17, chpσ_17⟩ := hpσ_17
            have fr_σ_17 := fr_σ.call chpσ_17 rfl rfl
            replace hF := q_biX hF bhpσ_17
            exact q_reti E hr hlk hI ⟨(hF.trans hout), fr_σ_17⟩ dX11_ready_133
          · skip
            replace hF := q_ifp hF c_15
            refine lv_aload_n hx hb dX11_ready_59 rfl (lv_at hl 0 rfl) ?_
            refine gs_X11_42_11 E hI ha dX11_ready_60 ?_
            refine gs_X11_147_1 E hI (q_tk (k' := 1) hI ha rfl (by decide)) dX11_ready_63 ?_
            refine lv_aload_n hx hb dX11_ready_66 rfl (lv_at hl 0 rfl) ?_
            refine gs_X11_42_11 E hI ha dX11_ready_67 ?_
            refine gs_X11_198_1 E hI (q_tk (k' := 1) hI ha rfl (by decide)) dX11_ready_70 ?_
            refine lv_topi (fun f_18 ef_18 => ?_)
            replace hF := q_letX hF ef_18
            refine lv_iload_n hx hb dX11_ready_73 rfl (lv_at hl 3 rfl) ?_
            refine q_ci (q_runV (As := [.int f_18, .int x_13]) (rest := []) E (hml.trans hl.1.symm) hI (c_X6_playerAfter l X σ (q_rf X (q_rf X a 8) 0) f_18 x_13 (q_tk (k' := 6) hI (q_tk (k' := 1) hI ha rfl (by decide)) rfl (by decide))) kv_X11_339 (q_tk (k' := 6) hI (q_tk (k' := 1) hI ha rfl (by decide)) rfl (by decide)) ⟨rfl, by decide⟩ (show vwCl[5]? = some (RX6, TX6, 8) from rfl) rfl ⟨Nat.le_of_ble_eq_true rfl, Nat.le_of_ble_eq_true rfl⟩ ⟨Nat.le_refl _, Nat.le_refl _⟩ rfl (Nat.le_of_ble_eq_true rfl) dX11_ready_74) hI (by decide) (fun r_19 σ_20 H locs hpσ_20 hkσ_20 hI => ?_)
            obtain ⟨ahpσ_20, bhpσ_20⟩ := hpσ_20
            rw [ahpσ_20] at hI
            replace hF := q_letX hF bhpσ_20
            refine lv_istore (lv' := [(4, .int r_19), (0, .ref a), (1, .int f_1), (2, .int x_12), (3, .int x_13)]) hx hb dX11_ready_77 hl (by decide) rfl (fun ls hl => ?_)
            refine lv_aload_n hx hb dX11_ready_79 rfl (lv_at hl 1 rfl) ?_
            refine gs_X11_42_11 E hI ha dX11_ready_80 ?_
            refine lv_iload hx hb dX11_ready_83 (lv_at hl 0 rfl) ?_
            refine q_cl_ (q_runV (As := [.int r_19]) (rest := []) E (hml.trans hl.1.symm) hI (c_X0_worthTop l X σ (q_rf X a 8) r_19 (q_tk (k' := 1) hI ha rfl (by decide))) kv_X11_336 (q_tk (k' := 1) hI ha rfl (by decide)) ⟨rfl, by decide⟩ (show vwCl[0]? = some (RX0, TX0, 15) from rfl) rfl ⟨Nat.le_of_ble_eq_true rfl, Nat.le_of_ble_eq_true rfl⟩ ⟨Nat.le_refl _, Nat.le_refl _⟩ rfl (Nat.le_of_ble_eq_true rfl) dX11_ready_85) hI (by decide) (fun r_21 σ_22 H locs hpσ_22 hkσ_22 hI => ?_)
            obtain ⟨ahpσ_22, bhpσ_22⟩ := hpσ_22
            rw [ahpσ_22] at hI
            replace hF := q_letX hF bhpσ_22
            refine lv_aload_n hx hb dX11_ready_88 rfl (lv_at hl 1 rfl) ?_
            refine gs_X11_42_11 E hI ha dX11_ready_89 ?_
            refine lv_iload_n hx hb dX11_ready_92 rfl (lv_at hl 3 rfl) ?_
            refine q_cl_ (q_runV (As := [.int x_12]) (rest := [.long r_21]) E (hml.trans hl.1.symm) hI (c_X0_allWays l X σ (q_rf X a 8) x_12 (q_tk (k' := 1) hI ha rfl (by decide))) kv_X11_323 (q_tk (k' := 1) hI ha rfl (by decide)) ⟨rfl, by decide⟩ (show vwCl[0]? = some (RX0, TX0, 15) from rfl) rfl ⟨Nat.le_of_ble_eq_true rfl, Nat.le_of_ble_eq_true rfl⟩ ⟨Nat.le_refl _, Nat.le_refl _⟩ rfl (Nat.le_of_ble_eq_true rfl) dX11_ready_93) hI (by decide) (fun r_23 σ_24 H locs hpσ_24 hkσ_24 hI => ?_)
            obtain ⟨ahpσ_24, bhpσ_24⟩ := hpσ_24
            rw [ahpσ_24] at hI
            replace hF := q_letX hF bhpσ_24
            refine lv_lmul hx hb dX11_ready_96 ?_
            refine lv_topl (fun y_25 ey_25 => ?_)
            replace hF := q_letX hF ey_25
            refine lv_aload_n hx hb dX11_ready_97 rfl (lv_at hl 1 rfl) ?_
            refine gs_X11_42_11 E hI ha dX11_ready_98 ?_
            refine lv_iload_n hx hb dX11_ready_101 rfl (lv_at hl 3 rfl) ?_
            refine q_cl_ (q_runV (As := [.int x_12]) (rest := [.long y_25]) E (hml.trans hl.1.symm) hI (c_X0_worthTop l X σ (q_rf X a 8) x_12 (q_tk (k' := 1) hI ha rfl (by decide))) kv_X11_336 (q_tk (k' := 1) hI ha rfl (by decide)) ⟨rfl, by decide⟩ (show vwCl[0]? = some (RX0, TX0, 15) from rfl) rfl ⟨Nat.le_of_ble_eq_true rfl, Nat.le_of_ble_eq_true rfl⟩ ⟨Nat.le_refl _, Nat.le_refl _⟩ rfl (Nat.le_of_ble_eq_true rfl) dX11_ready_102) hI (by decide) (fun r_26 σ_27 H locs hpσ_27 hkσ_27 hI => ?_)
            obtain ⟨ahpσ_27, bhpσ_27⟩ := hpσ_27
            rw [ahpσ_27] at hI
            replace hF := q_letX hF bhpσ_27
            refine lv_aload_n hx hb dX11_ready_105 rfl (lv_at hl 1 rfl) ?_
            refine gs_X11_42_11 E hI ha dX11_ready_106 ?_
            refine lv_iload hx hb dX11_ready_109 (lv_at hl 0 rfl) ?_
            refine q_cl_ (q_runV (As := [.int r_19]) (rest := [.long r_26, .long y_25]) E (hml.trans hl.1.symm) hI (c_X0_allWays l X σ (q_rf X a 8) r_19 (q_tk (k' := 1) hI ha rfl (by decide))) kv_X11_323 (q_tk (k' := 1) hI ha rfl (by decide)) ⟨rfl, by decide⟩ (show vwCl[0]? = some (RX0, TX0, 15) from rfl) rfl ⟨Nat.le_of_ble_eq_true rfl, Nat.le_of_ble_eq_true rfl⟩ ⟨Nat.le_refl _, Nat.le_refl _⟩ rfl (Nat.le_of_ble_eq_true rfl) dX11_ready_111) hI (by decide) (fun r_28 σ_29 H locs hpσ_29 hkσ_29 hI => ?_)
            obtain ⟨ahpσ_29, bhpσ_29⟩ := hpσ_29
            rw [ahpσ_29] at hI
            replace hF := q_letX hF bhpσ_29
            refine lv_lmul hx hb dX11_ready_114 ?_
            refine lv_topl (fun y_30 ey_30 => ?_)
            replace hF := q_letX hF ey_30
            refine q_lcmpX E dX11_ready_115 (fun z_31 ez_31 hz_31 => ?_)
            replace hF := q_letX hF ez_31
            refine q_if_le (A := z_31.toInt) E rfl (tgt := 122) dX11_ready_116 (by decide) (fun c_32 => ?_) (fun c_32 => ?_)
            · skip
              replace hF := q_ifn hF (Int.not_lt.mpr c_32)
              obtain ⟨z_33, ez_33⟩ : ∃ y : Int32, y = x_13 + 1 := ⟨_, rfl⟩
              replace hF := q_letX hF ez_33
              refine lv_iinc (v := z_33) (lv' := [(3, .int z_33), (4, .int r_19), (0, .ref a), (1, .int f_1), (2, .int x_12)]) hx hb dX11_ready_122 hl (k := 4) rfl (by rw [ez_33]; rfl) (by decide) rfl (fun ls hl => ?_)
              have iz_33 : z_33.toInt = x_13.toInt + 1 := q_inc ez_33 (by first | (clear bf_2 c_3 kc_9 ahpσ_11 bhpσ_11 hm54 gc_15_f_1 ahpσ_20 bhpσ_20 ahpσ_22 bhpσ_22 ahpσ_24 bhpσ_24 ahpσ_27 bhpσ_27 ahpσ_29 bhpσ_29 hz_31 c_32; omega) | omega)
              refine lv_goto (tgt := 54) hx hb dX11_ready_125 (by decide) ?_
              exact ih54 x_12 z_33 _ _ ls (by first | (clear bf_2 c_3 kc_9 ahpσ_11 bhpσ_11 gc_15_f_1 ahpσ_20 bhpσ_20 ahpσ_22 bhpσ_22 ahpσ_24 bhpσ_24 ahpσ_27 bhpσ_27 ahpσ_29 bhpσ_29; omega) | omega) (by first | (clear bf_2 c_3 gc_7_f_1 c_7 kc_9 ahpσ_11 bhpσ_11 hm54 gc_15_f_1 c_15 ahpσ_20 bhpσ_20 ahpσ_22 bhpσ_22 ahpσ_24 bhpσ_24 ahpσ_27 bhpσ_27 ahpσ_29 bhpσ_29 hz_31 c_32; omega) | omega) hF hI (lv_sub hl [2, 3, 4, 0] rfl)
            · skip
              replace hF := q_ifp hF c_32
              refine lv_iload hx hb dX11_ready_119 (lv_at hl 0 rfl) ?_
              refine lv_istore_n (lv' := [(2, .int r_19), (4, .int r_19), (0, .ref a), (1, .int f_1), (3, .int x_13)]) hx hb dX11_ready_121 rfl hl (by decide) rfl (fun ls hl => ?_)
              obtain ⟨z_34, ez_34⟩ : ∃ y : Int32, y = x_13 + 1 := ⟨_, rfl⟩
              replace hF := q_letX hF ez_34
              refine lv_iinc (v := z_34) (lv' := [(3, .int z_34), (2, .int r_19), (4, .int r_19), (0, .ref a), (1, .int f_1)]) hx hb dX11_ready_122 hl (k := 4) rfl (by rw [ez_34]; rfl) (by decide) rfl (fun ls hl => ?_)
              have iz_34 : z_34.toInt = x_13.toInt + 1 := q_inc ez_34 (by first | (clear bf_2 c_3 kc_9 ahpσ_11 bhpσ_11 hm54 gc_15_f_1 ahpσ_20 bhpσ_20 ahpσ_22 bhpσ_22 ahpσ_24 bhpσ_24 ahpσ_27 bhpσ_27 ahpσ_29 bhpσ_29 hz_31 c_32; omega) | omega)
              refine lv_goto (tgt := 54) hx hb dX11_ready_125 (by decide) ?_
              exact ih54 r_19 z_34 _ _ ls (by first | (clear bf_2 c_3 kc_9 ahpσ_11 bhpσ_11 gc_15_f_1 ahpσ_20 bhpσ_20 ahpσ_22 bhpσ_22 ahpσ_24 bhpσ_24 ahpσ_27 bhpσ_27 ahpσ_29 bhpσ_29; omega) | omega) (by first | (clear bf_2 c_3 gc_7_f_1 c_7 kc_9 ahpσ_11 bhpσ_11 hm54 gc_15_f_1 c_15 ahpσ_20 bhpσ_20 ahpσ_22 bhpσ_22 ahpσ_24 bhpσ_24 ahpσ_27 bhpσ_27 ahpσ_29 bhpσ_29 hz_31 c_32; omega) | omega) hF hI (lv_sub hl [3, 4, 1, 0] rfl)
      exact L_54_14 ((2147483647 - (2 : Int32).toInt).toNat + 1) r_10 2 _ _ ls (Nat.lt_succ_self _) (by decide) hF hI (lv_sub hl [3, 2, 1, 0] rfl)
    · skip
      replace hF := q_ifp hF c_7
      refine lv_aload_n hx hb dX11_ready_26 rfl (lv_at hl 1 rfl) ?_
      refine lv_bipush (v := 8) hx hb dX11_ready_27 (by decide) ?_
      have kc_35 : (8 : Int32).toInt = 8 := rfl
      refine q_ci (q_runV (As := [.int 8]) (rest := []) E (hml.trans hl.1.symm) hI (c_X11_none l X σ a (8 : Int32) ha) kv_X11_109 ha ⟨rfl, by decide⟩ (show vwCl[10]? = some (RX11, TX11, 17) from rfl) rfl ⟨Nat.le_of_ble_eq_true rfl, Nat.le_of_ble_eq_true rfl⟩ ⟨Nat.le_refl _, Nat.le_refl _⟩ rfl (Nat.le_of_ble_eq_true rfl) dX11_ready_29) hI (by decide) (fun r_36 σ_37 H locs hpσ_37 hkσ_37 hI => ?_)
      obtain ⟨ahpσ_37, bhpσ_37, chpσ_37⟩ := hpσ_37
      have fr_σ_37 := fr_σ.call chpσ_37 rfl rfl
      replace hF := q_biX hF bhpσ_37
      exact q_reti E hr hlk hI ⟨(hF.trans hout), fr_σ_37⟩ dX11_ready_32

set_option maxRecDepth 100000 in
set_option maxHeartbeats 4000000 in
theorem c_X11_heap (l : Launch) (X : XW) (σ : ST) (a : Nat) (v1 : Int32) (v2 : Int32) (ha : q_kd X a = 11) : Met l yX11_heap (q_ws yX11_heap cX11_heap 9 (some .boolean)) (q_rm 4 89) (q_P X σ [.ref a, .int v1, .int v2]) (q_Qi X 8 σ (fun (r : Int32) (σ' : ST) => (0 ≤ r.toInt ∧ r.toInt ≤ 1) ∧ (r, σ') = F_X11_heap X σ a v1 v2 ∧ q_ow [(11, 0)] [(11, 1), (11, 2)] X σ σ')) 0 0 (q_reg X) := by
  refine q_met 8 (by first | exact rfl | decide +kernel) rfl (Nat.le_of_ble_eq_true rfl) (fun p e s m below meth c E hml hr hlk hI ls hl => ?_)
  have hx := E.1
  have hb := E.2.1
  have hl : lv_has ls 9 [(0, .ref a), (1, .int v1), (2, .int v2)] := hl
  have fr_σ : q_ow [(11, 0)] [(11, 1), (11, 2)] X σ σ := q_ow.rf
  obtain ⟨out, hout⟩ : ∃ o, o = F_X11_heap X σ a v1 v2 := ⟨_, rfl⟩
  have hF := hout.symm
  unfold F_X11_heap at hF
  refine lv_aload_n hx hb dX11_heap_0 rfl (lv_at hl 0 rfl) ?_
  refine lv_iload_n hx hb dX11_heap_1 rfl (lv_at hl 1 rfl) ?_
  refine q_ci (q_runV (As := [.int v1]) (rest := []) E (hml.trans hl.1.symm) hI (c_X11_isPlayer l X σ a v1 ha) kv_X11_219 ha ⟨rfl, by decide⟩ (show vwCl[10]? = some (RX11, TX11, 17) from rfl) rfl ⟨Nat.le_of_ble_eq_true rfl, Nat.le_of_ble_eq_true rfl⟩ ⟨Nat.le_refl _, Nat.le_refl _⟩ rfl (Nat.le_of_ble_eq_true rfl) dX11_heap_2) hI (by decide) (fun r_1 σ_2 H locs hpσ_2 hkσ_2 hI => ?_)
  obtain ⟨ahpσ_2, bhpσ_2, chpσ_2⟩ := hpσ_2
  rw [ahpσ_2] at hI
  replace hF := q_letX hF chpσ_2
  refine q_if_eq (A := r_1.toInt) E rfl (tgt := 16) dX11_heap_5 (by decide) (fun c_3 => ?_) (fun c_3 => ?_)
  · skip
    replace hF := q_ifp hF c_3
    refine lv_aload_n hx hb dX11_heap_16 rfl (lv_at hl 0 rfl) ?_
    refine lv_iconst (v := 2) hx hb dX11_heap_17 (by decide) ?_
    have kc_4 : (2 : Int32).toInt = 2 := rfl
    refine q_ci (q_runV (As := [.int 2]) (rest := []) E (hml.trans hl.1.symm) hI (c_X11_no l X σ a (2 : Int32) ha) kv_X11_89 ha ⟨rfl, by decide⟩ (show vwCl[10]? = some (RX11, TX11, 17) from rfl) rfl ⟨Nat.le_of_ble_eq_true rfl, Nat.le_of_ble_eq_true rfl⟩ ⟨Nat.le_refl _, Nat.le_refl _⟩ rfl (Nat.le_of_ble_eq_true rfl) dX11_heap_18) hI (by decide) (fun r_5 σ_6 H locs hpσ_6 hkσ_6 hI => ?_)
    obtain ⟨ahpσ_6, bhpσ_6, chpσ_6, dhpσ_6⟩ := hpσ_6
    have fr_σ_6 := fr_σ.call dhpσ_6 rfl rfl
    replace hF := q_biX hF chpσ_6
    exact q_retz E hr hlk hI ⟨by omega, by omega⟩ ⟨⟨by omega, by omega⟩, (hF.trans hout), fr_σ_6⟩ dX11_heap_21
  · skip
    replace hF := q_ifn hF c_3
    replace c_3 := q_ifOne bhpσ_2 c_3
    refine lv_aload_n hx hb dX11_heap_8 rfl (lv_at hl 0 rfl) ?_
    refine lv_iload_n hx hb dX11_heap_9 rfl (lv_at hl 2 rfl) ?_
    refine q_ci (q_runV (As := [.int v2]) (rest := []) E (hml.trans hl.1.symm) hI (c_X11_isKind l X σ a v2 ha) kv_X11_250 ha ⟨rfl, by decide⟩ (show vwCl[10]? = some (RX11, TX11, 17) from rfl) rfl ⟨Nat.le_of_ble_eq_true rfl, Nat.le_of_ble_eq_true rfl⟩ ⟨Nat.le_refl _, Nat.le_refl _⟩ rfl (Nat.le_of_ble_eq_true rfl) dX11_heap_10) hI (by decide) (fun r_7 σ_8 H locs hpσ_8 hkσ_8 hI => ?_)
    obtain ⟨ahpσ_8, bhpσ_8, chpσ_8⟩ := hpσ_8
    rw [ahpσ_8] at hI
    replace hF := q_letX hF chpσ_8
    refine q_if_ne (A := r_7.toInt) E rfl (tgt := 22) dX11_heap_13 (by decide) (fun c_9 => ?_) (fun c_9 => ?_)
    · skip
      replace hF := q_ifn hF c_9
      replace c_9 := q_ifOne bhpσ_8 c_9
      refine lv_aload_n hx hb dX11_heap_22 rfl (lv_at hl 0 rfl) ?_
      refine gs_X11_42_11 E hI ha dX11_heap_23 ?_
      refine gs_X11_222_1 E hI (q_tk (k' := 1) hI ha rfl (by decide)) dX11_heap_26 ?_
      refine lv_iload_n hx hb dX11_heap_29 rfl (lv_at hl 1 rfl) ?_
      refine lv_iload_n hx hb dX11_heap_30 rfl (lv_at hl 2 rfl) ?_
      refine q_ci (q_runV (As := [.int v1, .int v2]) (rest := []) E (hml.trans hl.1.symm) hI (c_X1_laidBy l X σ (q_rf X (q_rf X a 8) 1) v1 v2 (q_tk (k' := 2) hI (q_tk (k' := 1) hI ha rfl (by decide)) rfl (by decide))) kv_X11_342 (q_tk (k' := 2) hI (q_tk (k' := 1) hI ha rfl (by decide)) rfl (by decide)) ⟨rfl, by decide⟩ (show vwCl[1]? = some (RX1, TX1, 7) from rfl) rfl ⟨Nat.le_of_ble_eq_true rfl, Nat.le_of_ble_eq_true rfl⟩ ⟨Nat.le_refl _, Nat.le_refl _⟩ rfl (Nat.le_of_ble_eq_true rfl) dX11_heap_31) hI (by decide) (fun r_10 σ_11 H locs hpσ_11 hkσ_11 hI => ?_)
      obtain ⟨ahpσ_11, bhpσ_11⟩ := hpσ_11
      rw [ahpσ_11] at hI
      replace hF := q_letX hF bhpσ_11
      refine lv_i2l hx hb dX11_heap_34 rfl ?_
      refine lv_topl (fun y_12 ey_12 => ?_)
      replace hF := q_letX hF ey_12
      refine lv_lstore_n (lv' := [(3, .long y_12), (0, .ref a), (1, .int v1), (2, .int v2)]) hx hb dX11_heap_35 rfl hl (by decide) rfl (fun ls hl => ?_)
      refine lv_aload_n hx hb dX11_heap_36 rfl (lv_at hl 1 rfl) ?_
      refine gs_X11_42_11 E hI ha dX11_heap_37 ?_
      refine gs_X11_201_1 E hI (q_tk (k' := 1) hI ha rfl (by decide)) dX11_heap_40 ?_
      refine gs_X11_205_3 E hI (q_tk (k' := 3) hI (q_tk (k' := 1) hI ha rfl (by decide)) rfl (by decide)) dX11_heap_43 ?_
      refine lv_topi (fun f_13 ef_13 => ?_)
      replace hF := q_letX hF ef_13
      refine lv_aload_n hx hb dX11_heap_46 rfl (lv_at hl 1 rfl) ?_
      refine gs_X11_42_11 E hI ha dX11_heap_47 ?_
      refine gs_X11_222_1 E hI (q_tk (k' := 1) hI ha rfl (by decide)) dX11_heap_50 ?_
      refine lv_iload_n hx hb dX11_heap_53 rfl (lv_at hl 2 rfl) ?_
      refine q_ci (q_runV (As := [.int v1]) (rest := [.int f_13]) E (hml.trans hl.1.symm) hI (c_X1_allLaidBy l X σ (q_rf X (q_rf X a 8) 1) v1 (q_tk (k' := 2) hI (q_tk (k' := 1) hI ha rfl (by decide)) rfl (by decide))) kv_X11_247 (q_tk (k' := 2) hI (q_tk (k' := 1) hI ha rfl (by decide)) rfl (by decide)) ⟨rfl, by decide⟩ (show vwCl[1]? = some (RX1, TX1, 7) from rfl) rfl ⟨Nat.le_of_ble_eq_true rfl, Nat.le_of_ble_eq_true rfl⟩ ⟨Nat.le_refl _, Nat.le_refl _⟩ rfl (Nat.le_of_ble_eq_true rfl) dX11_heap_54) hI (by decide) (fun r_14 σ_15 H locs hpσ_15 hkσ_15 hI => ?_)
      obtain ⟨ahpσ_15, bhpσ_15⟩ := hpσ_15
      rw [ahpσ_15] at hI
      replace hF := q_letX hF bhpσ_15
      refine lv_isub hx hb dX11_heap_57 ?_
      refine lv_topi (fun z_16 ez_16 => ?_)
      replace hF := q_letX hF ez_16
      refine lv_i2l hx hb dX11_heap_58 rfl ?_
      refine lv_topl (fun y_17 ey_17 => ?_)
      replace hF := q_letX hF ey_17
      refine lv_lstore (lv' := [(5, .long y_17), (3, .long y_12), (0, .ref a), (1, .int v1), (2, .int v2)]) hx hb dX11_heap_59 hl (by decide) rfl (fun ls hl => ?_)
      refine lv_aload_n hx hb dX11_heap_61 rfl (lv_at hl 2 rfl) ?_
      refine gs_X11_42_11 E hI ha dX11_heap_62 ?_
      refine lv_iload_n hx hb dX11_heap_65 rfl (lv_at hl 3 rfl) ?_
      refine q_ci (q_runV (As := [.int v1]) (rest := []) E (hml.trans hl.1.symm) hI (c_X0_allUnknownTo l X σ (q_rf X a 8) v1 (q_tk (k' := 1) hI ha rfl (by decide))) kv_X11_311 (q_tk (k' := 1) hI ha rfl (by decide)) ⟨rfl, by decide⟩ (show vwCl[0]? = some (RX0, TX0, 15) from rfl) rfl ⟨Nat.le_of_ble_eq_true rfl, Nat.le_of_ble_eq_true rfl⟩ ⟨Nat.le_refl _, Nat.le_refl _⟩ rfl (Nat.le_of_ble_eq_true rfl) dX11_heap_66) hI (by decide) (fun r_18 σ_19 H locs hpσ_19 hkσ_19 hI => ?_)
      obtain ⟨ahpσ_19, bhpσ_19⟩ := hpσ_19
      rw [ahpσ_19] at hI
      replace hF := q_letX hF bhpσ_19
      refine lv_i2l hx hb dX11_heap_69 rfl ?_
      refine lv_topl (fun y_20 ey_20 => ?_)
      replace hF := q_letX hF ey_20
      refine lv_lstore (lv' := [(7, .long y_20), (5, .long y_17), (3, .long y_12), (0, .ref a), (1, .int v1), (2, .int v2)]) hx hb dX11_heap_70 hl (by decide) rfl (fun ls hl => ?_)
      refine lv_lload hx hb dX11_heap_72 (lv_at hl 0 rfl) ?_
      refine lv_lconst (v := 0) hx hb dX11_heap_74 (by decide) ?_
      have kc_22 : (0 : Int64).toInt = 0 := rfl
      refine q_lcmpX E dX11_heap_75 (fun z_21 ez_21 hz_21 => ?_)
      replace hF := q_letX hF ez_21
      refine q_if_ne (A := z_21.toInt) E rfl (tgt := 86) dX11_heap_76 (by decide) (fun c_23 => ?_) (fun c_23 => ?_)
      · skip
        replace hF := q_ifn hF c_23
        refine lv_aload_n hx hb dX11_heap_86 rfl (lv_at hl 3 rfl) ?_
        refine lv_lload_n hx hb dX11_heap_87 rfl (lv_at hl 2 rfl) ?_
        refine lv_lload hx hb dX11_heap_88 (lv_at hl 0 rfl) ?_
        refine lv_lmul hx hb dX11_heap_90 ?_
        refine lv_topl (fun y_24 ey_24 => ?_)
        replace hF := q_letX hF ey_24
        refine lv_lload hx hb dX11_heap_91 (lv_at hl 1 rfl) ?_
        refine lv_aload_n hx hb dX11_heap_93 rfl (lv_at hl 3 rfl) ?_
        refine gs_X11_42_11 E hI ha dX11_heap_94 ?_
        refine lv_iload_n hx hb dX11_heap_97 rfl (lv_at hl 4 rfl) ?_
        refine lv_iload_n hx hb dX11_heap_98 rfl (lv_at hl 5 rfl) ?_
        refine q_ci (q_runV (As := [.int v1, .int v2]) (rest := [.long y_17, .long y_24, .ref a]) E (hml.trans hl.1.symm) hI (c_X0_unknownTo l X σ (q_rf X a 8) v1 v2 (q_tk (k' := 1) hI ha rfl (by decide))) kv_X11_314 (q_tk (k' := 1) hI ha rfl (by decide)) ⟨rfl, by decide⟩ (show vwCl[0]? = some (RX0, TX0, 15) from rfl) rfl ⟨Nat.le_of_ble_eq_true rfl, Nat.le_of_ble_eq_true rfl⟩ ⟨Nat.le_refl _, Nat.le_refl _⟩ rfl (Nat.le_of_ble_eq_true rfl) dX11_heap_99) hI (by decide) (fun r_25 σ_26 H locs hpσ_26 hkσ_26 hI => ?_)
        obtain ⟨ahpσ_26, bhpσ_26⟩ := hpσ_26
        rw [ahpσ_26] at hI
        replace hF := q_letX hF bhpσ_26
        refine lv_i2l hx hb dX11_heap_102 rfl ?_
        refine lv_topl (fun y_27 ey_27 => ?_)
        replace hF := q_letX hF ey_27
        refine lv_lmul hx hb dX11_heap_103 ?_
        refine lv_topl (fun y_28 ey_28 => ?_)
        replace hF := q_letX hF ey_28
        refine lv_ladd hx hb dX11_heap_104 ?_
        refine lv_topl (fun y_29 ey_29 => ?_)
        replace hF := q_letX hF ey_29
        refine lv_lload hx hb dX11_heap_105 (lv_at hl 0 rfl) ?_
        refine q_ci (q_runV (As := [.long y_29, .long y_20]) (rest := []) E (hml.trans hl.1.symm) hI (c_X11_tell l X σ a y_29 y_20 ha) kv_X11_326 ha ⟨rfl, by decide⟩ (show vwCl[10]? = some (RX11, TX11, 17) from rfl) rfl ⟨Nat.le_of_ble_eq_true rfl, Nat.le_of_ble_eq_true rfl⟩ ⟨Nat.le_refl _, Nat.le_refl _⟩ rfl (Nat.le_of_ble_eq_true rfl) dX11_heap_107) hI (by decide) (fun r_30 σ_31 H locs hpσ_31 hkσ_31 hI => ?_)
        obtain ⟨ahpσ_31, bhpσ_31, chpσ_31⟩ := hpσ_31
        have fr_σ_31 := fr_σ.call chpσ_31 rfl rfl
        replace hF := q_biX hF bhpσ_31
        exact q_retz E hr hlk hI ⟨by omega, by omega⟩ ⟨⟨by omega, by omega⟩, (hF.trans hout), fr_σ_31⟩ dX11_heap_110
      · skip
        replace hF := q_ifp hF c_23
        refine lv_aload_n hx hb dX11_heap_79 rfl (lv_at hl 3 rfl) ?_
        refine lv_lload_n hx hb dX11_heap_80 rfl (lv_at hl 2 rfl) ?_
        refine lv_lconst (v := 1) hx hb dX11_heap_81 (by decide) ?_
        refine q_ci (q_runV (As := [.long y_12, .long 1]) (rest := []) E (hml.trans hl.1.symm) hI (c_X11_tell l X σ a y_12 (1 : Int64) ha) kv_X11_326 ha ⟨rfl, by decide⟩ (show vwCl[10]? = some (RX11, TX11, 17) from rfl) rfl ⟨Nat.le_of_ble_eq_true rfl, Nat.le_of_ble_eq_true rfl⟩ ⟨Nat.le_refl _, Nat.le_refl _⟩ rfl (Nat.le_of_ble_eq_true rfl) dX11_heap_82) hI (by decide) (fun r_32 σ_33 H locs hpσ_33 hkσ_33 hI => ?_)
        obtain ⟨ahpσ_33, bhpσ_33, chpσ_33⟩ := hpσ_33
        have fr_σ_33 := fr_σ.call chpσ_33 rfl rfl
        replace hF := q_biX hF bhpσ_33
        exact q_retz E hr hlk hI ⟨by omega, by omega⟩ ⟨⟨by omega, by omega⟩, (hF.trans hout), fr_σ_33⟩ dX11_heap_85
    · skip
      replace hF := q_ifp hF c_9
      refine lv_aload_n hx hb dX11_heap_16 rfl (lv_at hl 0 rfl) ?_
      refine lv_iconst (v := 2) hx hb dX11_heap_17 (by decide) ?_
      have kc_34 : (2 : Int32).toInt = 2 := rfl
      refine q_ci (q_runV (As := [.int 2]) (rest := []) E (hml.trans hl.1.symm) hI (c_X11_no l X σ a (2 : Int32) ha) kv_X11_89 ha ⟨rfl, by decide⟩ (show vwCl[10]? = some (RX11, TX11, 17) from rfl) rfl ⟨Nat.le_of_ble_eq_true rfl, Nat.le_of_ble_eq_true rfl⟩ ⟨Nat.le_refl _, Nat.le_refl _⟩ rfl (Nat.le_of_ble_eq_true rfl) dX11_heap_18) hI (by decide) (fun r_35 σ_36 H locs hpσ_36 hkσ_36 hI => ?_)
      obtain ⟨ahpσ_36, bhpσ_36, chpσ_36, dhpσ_36⟩ := hpσ_36
      have fr_σ_36 := fr_σ.call dhpσ_36 rfl rfl
      replace hF := q_biX hF chpσ_36
      exact q_retz E hr hlk hI ⟨by omega, by omega⟩ ⟨⟨by omega, by omega⟩, (hF.trans hout), fr_σ_36⟩ dX11_heap_21

set_option maxRecDepth 100000 in
set_option maxHeartbeats 4000000 in
theorem c_X11_said (l : Launch) (X : XW) (σ : ST) (a : Nat) (v1 : Int32) (v2 : Int32) (ha : q_kd X a = 11) : Met l yX11_said (q_ws yX11_said cX11_said 3 (some .int)) (q_rm 2 45) (q_P X σ [.ref a, .int v1, .int v2]) (q_Qi X 8 σ (fun (r : Int32) (σ' : ST) => (r, σ') = F_X11_said X σ a v1 v2 ∧ q_ow [(11, 0)] [] X σ σ')) 0 0 (q_reg X) := by
  refine q_met 8 (by first | exact rfl | decide +kernel) rfl (Nat.le_of_ble_eq_true rfl) (fun p e s m below meth c E hml hr hlk hI ls hl => ?_)
  have hx := E.1
  have hb := E.2.1
  have hl : lv_has ls 3 [(0, .ref a), (1, .int v1), (2, .int v2)] := hl
  have fr_σ : q_ow [(11, 0)] [] X σ σ := q_ow.rf
  obtain ⟨out, hout⟩ : ∃ o, o = F_X11_said X σ a v1 v2 := ⟨_, rfl⟩
  have hF := hout.symm
  unfold F_X11_said at hF
  refine lv_aload_n hx hb dX11_said_0 rfl (lv_at hl 0 rfl) ?_
  refine lv_iload_n hx hb dX11_said_1 rfl (lv_at hl 1 rfl) ?_
  refine q_ci (q_runV (As := [.int v1]) (rest := []) E (hml.trans hl.1.symm) hI (c_X11_isPlayer l X σ a v1 ha) kv_X11_219 ha ⟨rfl, by decide⟩ (show vwCl[10]? = some (RX11, TX11, 17) from rfl) rfl ⟨Nat.le_of_ble_eq_true rfl, Nat.le_of_ble_eq_true rfl⟩ ⟨Nat.le_refl _, Nat.le_refl _⟩ rfl (Nat.le_of_ble_eq_true rfl) dX11_said_2) hI (by decide) (fun r_1 σ_2 H locs hpσ_2 hkσ_2 hI => ?_)
  obtain ⟨ahpσ_2, bhpσ_2, chpσ_2⟩ := hpσ_2
  rw [ahpσ_2] at hI
  replace hF := q_letX hF chpσ_2
  refine q_if_eq (A := r_1.toInt) E rfl (tgt := 16) dX11_said_5 (by decide) (fun c_3 => ?_) (fun c_3 => ?_)
  · skip
    replace hF := q_ifp hF c_3
    refine lv_aload_n hx hb dX11_said_16 rfl (lv_at hl 0 rfl) ?_
    refine lv_iconst (v := 2) hx hb dX11_said_17 (by decide) ?_
    have kc_4 : (2 : Int32).toInt = 2 := rfl
    refine q_ci (q_runV (As := [.int 2]) (rest := []) E (hml.trans hl.1.symm) hI (c_X11_none l X σ a (2 : Int32) ha) kv_X11_109 ha ⟨rfl, by decide⟩ (show vwCl[10]? = some (RX11, TX11, 17) from rfl) rfl ⟨Nat.le_of_ble_eq_true rfl, Nat.le_of_ble_eq_true rfl⟩ ⟨Nat.le_refl _, Nat.le_refl _⟩ rfl (Nat.le_of_ble_eq_true rfl) dX11_said_18) hI (by decide) (fun r_5 σ_6 H locs hpσ_6 hkσ_6 hI => ?_)
    obtain ⟨ahpσ_6, bhpσ_6, chpσ_6⟩ := hpσ_6
    have fr_σ_6 := fr_σ.call chpσ_6 rfl rfl
    replace hF := q_biX hF bhpσ_6
    exact q_reti E hr hlk hI ⟨(hF.trans hout), fr_σ_6⟩ dX11_said_21
  · skip
    replace hF := q_ifn hF c_3
    replace c_3 := q_ifOne bhpσ_2 c_3
    refine lv_aload_n hx hb dX11_said_8 rfl (lv_at hl 0 rfl) ?_
    refine lv_iload_n hx hb dX11_said_9 rfl (lv_at hl 2 rfl) ?_
    refine q_ci (q_runV (As := [.int v2]) (rest := []) E (hml.trans hl.1.symm) hI (c_X11_isKind l X σ a v2 ha) kv_X11_250 ha ⟨rfl, by decide⟩ (show vwCl[10]? = some (RX11, TX11, 17) from rfl) rfl ⟨Nat.le_of_ble_eq_true rfl, Nat.le_of_ble_eq_true rfl⟩ ⟨Nat.le_refl _, Nat.le_refl _⟩ rfl (Nat.le_of_ble_eq_true rfl) dX11_said_10) hI (by decide) (fun r_7 σ_8 H locs hpσ_8 hkσ_8 hI => ?_)
    obtain ⟨ahpσ_8, bhpσ_8, chpσ_8⟩ := hpσ_8
    rw [ahpσ_8] at hI
    replace hF := q_letX hF chpσ_8
    refine q_if_ne (A := r_7.toInt) E rfl (tgt := 22) dX11_said_13 (by decide) (fun c_9 => ?_) (fun c_9 => ?_)
    · skip
      replace hF := q_ifn hF c_9
      replace c_9 := q_ifOne bhpσ_8 c_9
      refine lv_aload_n hx hb dX11_said_22 rfl (lv_at hl 0 rfl) ?_
      refine lv_aload_n hx hb dX11_said_23 rfl (lv_at hl 0 rfl) ?_
      refine gs_X11_42_11 E hI ha dX11_said_24 ?_
      refine gs_X11_201_1 E hI (q_tk (k' := 1) hI ha rfl (by decide)) dX11_said_27 ?_
      refine lv_iload_n hx hb dX11_said_30 rfl (lv_at hl 1 rfl) ?_
      refine lv_iload_n hx hb dX11_said_31 rfl (lv_at hl 2 rfl) ?_
      refine q_ci (q_runV (As := [.int v1, .int v2]) (rest := [.ref a]) E (hml.trans hl.1.symm) hI (c_X2_timesSaid l X σ (q_rf X (q_rf X a 8) 2) v1 v2 (q_tk (k' := 3) hI (q_tk (k' := 1) hI ha rfl (by decide)) rfl (by decide))) kv_X11_345 (q_tk (k' := 3) hI (q_tk (k' := 1) hI ha rfl (by decide)) rfl (by decide)) ⟨rfl, by decide⟩ (show vwCl[2]? = some (RX2, TX2, 6) from rfl) rfl ⟨Nat.le_of_ble_eq_true rfl, Nat.le_of_ble_eq_true rfl⟩ ⟨Nat.le_refl _, Nat.le_refl _⟩ rfl (Nat.le_of_ble_eq_true rfl) dX11_said_32) hI (by decide) (fun r_10 σ_11 H locs hpσ_11 hkσ_11 hI => ?_)
      obtain ⟨ahpσ_11, bhpσ_11⟩ := hpσ_11
      rw [ahpσ_11] at hI
      replace hF := q_letX hF bhpσ_11
      refine q_ci (q_runV (As := [.int r_10]) (rest := []) E (hml.trans hl.1.symm) hI (c_X11_good l X σ a r_10 ha) kv_X11_156 ha ⟨rfl, by decide⟩ (show vwCl[10]? = some (RX11, TX11, 17) from rfl) rfl ⟨Nat.le_of_ble_eq_true rfl, Nat.le_of_ble_eq_true rfl⟩ ⟨Nat.le_refl _, Nat.le_refl _⟩ rfl (Nat.le_of_ble_eq_true rfl) dX11_said_35) hI (by decide) (fun r_12 σ_13 H locs hpσ_13 hkσ_13 hI => ?_)
      obtain ⟨ahpσ_13, bhpσ_13, chpσ_13⟩ := hpσ_13
      have fr_σ_13 := fr_σ.call chpσ_13 rfl rfl
      replace hF := q_biX hF bhpσ_13
      exact q_reti E hr hlk hI ⟨(hF.trans hout), fr_σ_13⟩ dX11_said_38
    · skip
      replace hF := q_ifp hF c_9
      refine lv_aload_n hx hb dX11_said_16 rfl (lv_at hl 0 rfl) ?_
      refine lv_iconst (v := 2) hx hb dX11_said_17 (by decide) ?_
      have kc_14 : (2 : Int32).toInt = 2 := rfl
      refine q_ci (q_runV (As := [.int 2]) (rest := []) E (hml.trans hl.1.symm) hI (c_X11_none l X σ a (2 : Int32) ha) kv_X11_109 ha ⟨rfl, by decide⟩ (show vwCl[10]? = some (RX11, TX11, 17) from rfl) rfl ⟨Nat.le_of_ble_eq_true rfl, Nat.le_of_ble_eq_true rfl⟩ ⟨Nat.le_refl _, Nat.le_refl _⟩ rfl (Nat.le_of_ble_eq_true rfl) dX11_said_18) hI (by decide) (fun r_15 σ_16 H locs hpσ_16 hkσ_16 hI => ?_)
      obtain ⟨ahpσ_16, bhpσ_16, chpσ_16⟩ := hpσ_16
      have fr_σ_16 := fr_σ.call chpσ_16 rfl rfl
      replace hF := q_biX hF bhpσ_16
      exact q_reti E hr hlk hI ⟨(hF.trans hout), fr_σ_16⟩ dX11_said_21
