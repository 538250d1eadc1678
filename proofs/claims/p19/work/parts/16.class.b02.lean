set_option maxRecDepth 100000 in
set_option maxHeartbeats 4000000 in
theorem c_X11_hand (l : Launch) (X : XW) (σ : ST) (a : Nat) (v1 : Int32) (v2 : Int32) (ha : q_kd X a = 11) : Met l yX11_hand (q_ws yX11_hand cX11_hand 3 (some .int)) (q_rm 2 43) (q_P X σ [.ref a, .int v1, .int v2]) (q_Qi X 8 σ (fun (r : Int32) (σ' : ST) => (r, σ') = F_X11_hand X σ a v1 v2 ∧ q_ow [(11, 0)] [] X σ σ')) 0 0 (q_reg X) := by
  refine q_met 8 (by first | exact rfl | decide +kernel) rfl (Nat.le_of_ble_eq_true rfl) (fun p e s m below meth c E hml hr hlk hI ls hl => ?_)
  have hx := E.1
  have hb := E.2.1
  have hl : lv_has ls 3 [(0, .ref a), (1, .int v1), (2, .int v2)] := hl
  have fr_σ : q_ow [(11, 0)] [] X σ σ := q_ow.rf
  obtain ⟨out, hout⟩ : ∃ o, o = F_X11_hand X σ a v1 v2 := ⟨_, rfl⟩
  have hF := hout.symm
  unfold F_X11_hand at hF
  refine lv_aload_n hx hb dX11_hand_0 rfl (lv_at hl 0 rfl) ?_
  refine lv_iload_n hx hb dX11_hand_1 rfl (lv_at hl 1 rfl) ?_
  refine q_ci (q_runV (As := [.int v1]) (rest := []) E (hml.trans hl.1.symm) hI (c_X11_isPlayer l X σ a v1 ha) kv_X11_219 ha ⟨rfl, by decide⟩ (show vwCl[10]? = some (RX11, TX11, 17) from rfl) rfl ⟨Nat.le_of_ble_eq_true rfl, Nat.le_of_ble_eq_true rfl⟩ ⟨Nat.le_refl _, Nat.le_refl _⟩ rfl (Nat.le_of_ble_eq_true rfl) dX11_hand_2) hI (by decide) (fun r_1 σ_2 H locs hpσ_2 hkσ_2 hI => ?_)
  obtain ⟨ahpσ_2, bhpσ_2, chpσ_2⟩ := hpσ_2
  rw [ahpσ_2] at hI
  replace hF := q_letX hF chpσ_2
  refine q_if_eq (A := r_1.toInt) E rfl (tgt := 16) dX11_hand_5 (by decide) (fun c_3 => ?_) (fun c_3 => ?_)
  · skip
    replace hF := q_ifp hF c_3
    refine lv_aload_n hx hb dX11_hand_16 rfl (lv_at hl 0 rfl) ?_
    refine lv_iconst (v := 2) hx hb dX11_hand_17 (by decide) ?_
    have kc_4 : (2 : Int32).toInt = 2 := rfl
    refine q_ci (q_runV (As := [.int 2]) (rest := []) E (hml.trans hl.1.symm) hI (c_X11_none l X σ a (2 : Int32) ha) kv_X11_109 ha ⟨rfl, by decide⟩ (show vwCl[10]? = some (RX11, TX11, 17) from rfl) rfl ⟨Nat.le_of_ble_eq_true rfl, Nat.le_of_ble_eq_true rfl⟩ ⟨Nat.le_refl _, Nat.le_refl _⟩ rfl (Nat.le_of_ble_eq_true rfl) dX11_hand_18) hI (by decide) (fun r_5 σ_6 H locs hpσ_6 hkσ_6 hI => ?_)
    obtain ⟨ahpσ_6, bhpσ_6, chpσ_6⟩ := hpσ_6
    have fr_σ_6 := fr_σ.call chpσ_6 rfl rfl
    replace hF := q_biX hF bhpσ_6
    exact q_reti E hr hlk hI ⟨(hF.trans hout), fr_σ_6⟩ dX11_hand_21
  · skip
    replace hF := q_ifn hF c_3
    replace c_3 := q_ifOne bhpσ_2 c_3
    refine lv_aload_n hx hb dX11_hand_8 rfl (lv_at hl 0 rfl) ?_
    refine lv_iload_n hx hb dX11_hand_9 rfl (lv_at hl 2 rfl) ?_
    refine q_ci (q_runV (As := [.int v2]) (rest := []) E (hml.trans hl.1.symm) hI (c_X11_isKind l X σ a v2 ha) kv_X11_250 ha ⟨rfl, by decide⟩ (show vwCl[10]? = some (RX11, TX11, 17) from rfl) rfl ⟨Nat.le_of_ble_eq_true rfl, Nat.le_of_ble_eq_true rfl⟩ ⟨Nat.le_refl _, Nat.le_refl _⟩ rfl (Nat.le_of_ble_eq_true rfl) dX11_hand_10) hI (by decide) (fun r_7 σ_8 H locs hpσ_8 hkσ_8 hI => ?_)
    obtain ⟨ahpσ_8, bhpσ_8, chpσ_8⟩ := hpσ_8
    rw [ahpσ_8] at hI
    replace hF := q_letX hF chpσ_8
    refine q_if_ne (A := r_7.toInt) E rfl (tgt := 22) dX11_hand_13 (by decide) (fun c_9 => ?_) (fun c_9 => ?_)
    · skip
      replace hF := q_ifn hF c_9
      replace c_9 := q_ifOne bhpσ_8 c_9
      refine lv_aload_n hx hb dX11_hand_22 rfl (lv_at hl 0 rfl) ?_
      refine lv_aload_n hx hb dX11_hand_23 rfl (lv_at hl 0 rfl) ?_
      refine gs_X11_42_11 E hI ha dX11_hand_24 ?_
      refine gs_X11_222_1 E hI (q_tk (k' := 1) hI ha rfl (by decide)) dX11_hand_27 ?_
      refine lv_iload_n hx hb dX11_hand_30 rfl (lv_at hl 1 rfl) ?_
      refine lv_iload_n hx hb dX11_hand_31 rfl (lv_at hl 2 rfl) ?_
      refine q_ci (q_runV (As := [.int v1, .int v2]) (rest := [.ref a]) E (hml.trans hl.1.symm) hI (c_X1_heldBy l X σ (q_rf X (q_rf X a 8) 1) v1 v2 (q_tk (k' := 2) hI (q_tk (k' := 1) hI ha rfl (by decide)) rfl (by decide))) kv_X11_253 (q_tk (k' := 2) hI (q_tk (k' := 1) hI ha rfl (by decide)) rfl (by decide)) ⟨rfl, by decide⟩ (show vwCl[1]? = some (RX1, TX1, 7) from rfl) rfl ⟨Nat.le_of_ble_eq_true rfl, Nat.le_of_ble_eq_true rfl⟩ ⟨Nat.le_refl _, Nat.le_refl _⟩ rfl (Nat.le_of_ble_eq_true rfl) dX11_hand_32) hI (by decide) (fun r_10 σ_11 H locs hpσ_11 hkσ_11 hI => ?_)
      obtain ⟨ahpσ_11, bhpσ_11⟩ := hpσ_11
      rw [ahpσ_11] at hI
      replace hF := q_letX hF bhpσ_11
      refine q_ci (q_runV (As := [.int r_10]) (rest := []) E (hml.trans hl.1.symm) hI (c_X11_good l X σ a r_10 ha) kv_X11_156 ha ⟨rfl, by decide⟩ (show vwCl[10]? = some (RX11, TX11, 17) from rfl) rfl ⟨Nat.le_of_ble_eq_true rfl, Nat.le_of_ble_eq_true rfl⟩ ⟨Nat.le_refl _, Nat.le_refl _⟩ rfl (Nat.le_of_ble_eq_true rfl) dX11_hand_35) hI (by decide) (fun r_12 σ_13 H locs hpσ_13 hkσ_13 hI => ?_)
      obtain ⟨ahpσ_13, bhpσ_13, chpσ_13⟩ := hpσ_13
      have fr_σ_13 := fr_σ.call chpσ_13 rfl rfl
      replace hF := q_biX hF bhpσ_13
      exact q_reti E hr hlk hI ⟨(hF.trans hout), fr_σ_13⟩ dX11_hand_38
    · skip
      replace hF := q_ifp hF c_9
      refine lv_aload_n hx hb dX11_hand_16 rfl (lv_at hl 0 rfl) ?_
      refine lv_iconst (v := 2) hx hb dX11_hand_17 (by decide) ?_
      have kc_14 : (2 : Int32).toInt = 2 := rfl
      refine q_ci (q_runV (As := [.int 2]) (rest := []) E (hml.trans hl.1.symm) hI (c_X11_none l X σ a (2 : Int32) ha) kv_X11_109 ha ⟨rfl, by decide⟩ (show vwCl[10]? = some (RX11, TX11, 17) from rfl) rfl ⟨Nat.le_of_ble_eq_true rfl, Nat.le_of_ble_eq_true rfl⟩ ⟨Nat.le_refl _, Nat.le_refl _⟩ rfl (Nat.le_of_ble_eq_true rfl) dX11_hand_18) hI (by decide) (fun r_15 σ_16 H locs hpσ_16 hkσ_16 hI => ?_)
      obtain ⟨ahpσ_16, bhpσ_16, chpσ_16⟩ := hpσ_16
      have fr_σ_16 := fr_σ.call chpσ_16 rfl rfl
      replace hF := q_biX hF bhpσ_16
      exact q_reti E hr hlk hI ⟨(hF.trans hout), fr_σ_16⟩ dX11_hand_21

set_option maxRecDepth 100000 in
set_option maxHeartbeats 4000000 in
theorem c_X11_inGame (l : Launch) (X : XW) (σ : ST) (a : Nat) (v1 : Int32) (ha : q_kd X a = 11) : Met l yX11_inGame (q_ws yX11_inGame cX11_inGame 2 (some .int)) (q_rm 1 21) (q_P X σ [.ref a, .int v1]) (q_Qi X 8 σ (fun (r : Int32) (σ' : ST) => (r, σ') = F_X11_inGame X σ a v1 ∧ q_ow [(11, 0)] [] X σ σ')) 0 0 (q_reg X) := by
  refine q_met 8 (by first | exact rfl | decide +kernel) rfl (Nat.le_of_ble_eq_true rfl) (fun p e s m below meth c E hml hr hlk hI ls hl => ?_)
  have hx := E.1
  have hb := E.2.1
  have hl : lv_has ls 2 [(0, .ref a), (1, .int v1)] := hl
  have fr_σ : q_ow [(11, 0)] [] X σ σ := q_ow.rf
  obtain ⟨out, hout⟩ : ∃ o, o = F_X11_inGame X σ a v1 := ⟨_, rfl⟩
  have hF := hout.symm
  unfold F_X11_inGame at hF
  refine lv_aload_n hx hb dX11_inGame_0 rfl (lv_at hl 0 rfl) ?_
  refine lv_iload_n hx hb dX11_inGame_1 rfl (lv_at hl 1 rfl) ?_
  refine q_ci (q_runV (As := [.int v1]) (rest := []) E (hml.trans hl.1.symm) hI (c_X11_isKind l X σ a v1 ha) kv_X11_250 ha ⟨rfl, by decide⟩ (show vwCl[10]? = some (RX11, TX11, 17) from rfl) rfl ⟨Nat.le_of_ble_eq_true rfl, Nat.le_of_ble_eq_true rfl⟩ ⟨Nat.le_refl _, Nat.le_refl _⟩ rfl (Nat.le_of_ble_eq_true rfl) dX11_inGame_2) hI (by decide) (fun r_1 σ_2 H locs hpσ_2 hkσ_2 hI => ?_)
  obtain ⟨ahpσ_2, bhpσ_2, chpσ_2⟩ := hpσ_2
  rw [ahpσ_2] at hI
  replace hF := q_letX hF chpσ_2
  refine q_if_eq (A := r_1.toInt) E rfl (tgt := 29) dX11_inGame_5 (by decide) (fun c_3 => ?_) (fun c_3 => ?_)
  · skip
    replace hF := q_ifp hF c_3
    refine lv_aload_n hx hb dX11_inGame_29 rfl (lv_at hl 0 rfl) ?_
    refine lv_iconst (v := 2) hx hb dX11_inGame_30 (by decide) ?_
    have kc_4 : (2 : Int32).toInt = 2 := rfl
    refine q_ci (q_runV (As := [.int 2]) (rest := []) E (hml.trans hl.1.symm) hI (c_X11_none l X σ a (2 : Int32) ha) kv_X11_109 ha ⟨rfl, by decide⟩ (show vwCl[10]? = some (RX11, TX11, 17) from rfl) rfl ⟨Nat.le_of_ble_eq_true rfl, Nat.le_of_ble_eq_true rfl⟩ ⟨Nat.le_refl _, Nat.le_refl _⟩ rfl (Nat.le_of_ble_eq_true rfl) dX11_inGame_31) hI (by decide) (fun r_5 σ_6 H locs hpσ_6 hkσ_6 hI => ?_)
    obtain ⟨ahpσ_6, bhpσ_6, chpσ_6⟩ := hpσ_6
    have fr_σ_6 := fr_σ.call chpσ_6 rfl rfl
    replace hF := q_biX hF bhpσ_6
    exact q_reti E hr hlk hI ⟨(hF.trans hout), fr_σ_6⟩ dX11_inGame_34
  · skip
    replace hF := q_ifn hF c_3
    replace c_3 := q_ifOne bhpσ_2 c_3
    refine lv_aload_n hx hb dX11_inGame_8 rfl (lv_at hl 0 rfl) ?_
    refine lv_aload_n hx hb dX11_inGame_9 rfl (lv_at hl 0 rfl) ?_
    refine gs_X11_42_11 E hI ha dX11_inGame_10 ?_
    refine gs_X11_147_1 E hI (q_tk (k' := 1) hI ha rfl (by decide)) dX11_inGame_13 ?_
    refine gs_X11_257_6 E hI (q_tk (k' := 6) hI (q_tk (k' := 1) hI ha rfl (by decide)) rfl (by decide)) dX11_inGame_16 ?_
    refine lv_iload_n hx hb dX11_inGame_19 rfl (lv_at hl 1 rfl) ?_
    refine q_ci (q_runV (As := [.int v1]) (rest := [.ref a]) E (hml.trans hl.1.symm) hI (c_X5_get l X σ (q_rf X (q_rf X (q_rf X a 8) 0) 5) v1 (q_tk (k' := 5) hI (q_tk (k' := 6) hI (q_tk (k' := 1) hI ha rfl (by decide)) rfl (by decide)) rfl (by decide))) kv_X11_232 (q_tk (k' := 5) hI (q_tk (k' := 6) hI (q_tk (k' := 1) hI ha rfl (by decide)) rfl (by decide)) rfl (by decide)) ⟨rfl, by decide⟩ (show vwCl[4]? = some (RX5, TX5, 1) from rfl) rfl ⟨Nat.le_of_ble_eq_true rfl, Nat.le_of_ble_eq_true rfl⟩ ⟨Nat.le_refl _, Nat.le_refl _⟩ rfl (Nat.le_of_ble_eq_true rfl) dX11_inGame_20) hI (by decide) (fun r_7 σ_8 H locs hpσ_8 hkσ_8 hI => ?_)
    obtain ⟨ahpσ_8, bhpσ_8⟩ := hpσ_8
    rw [ahpσ_8] at hI
    replace hF := q_letX hF bhpσ_8
    refine q_ci (q_runV (As := [.int r_7]) (rest := []) E (hml.trans hl.1.symm) hI (c_X11_good l X σ a r_7 ha) kv_X11_156 ha ⟨rfl, by decide⟩ (show vwCl[10]? = some (RX11, TX11, 17) from rfl) rfl ⟨Nat.le_of_ble_eq_true rfl, Nat.le_of_ble_eq_true rfl⟩ ⟨Nat.le_refl _, Nat.le_refl _⟩ rfl (Nat.le_of_ble_eq_true rfl) dX11_inGame_23) hI (by decide) (fun r_9 σ_10 H locs hpσ_10 hkσ_10 hI => ?_)
    obtain ⟨ahpσ_10, bhpσ_10, chpσ_10⟩ := hpσ_10
    have fr_σ_10 := fr_σ.call chpσ_10 rfl rfl
    replace hF := q_biX hF bhpσ_10
    refine lv_goto (tgt := 34) hx hb dX11_inGame_26 (by decide) ?_
    exact q_reti E hr hlk hI ⟨(hF.trans hout), fr_σ_10⟩ dX11_inGame_34

set_option maxRecDepth 100000 in
set_option maxHeartbeats 4000000 in
theorem c_X11_laying (l : Launch) (X : XW) (σ : ST) (a : Nat) (v1 : Int32) (v2 : Int32) (ha : q_kd X a = 11) : Met l yX11_laying (q_ws yX11_laying cX11_laying 4 (some .int)) (q_rm 2 44) (q_P X σ [.ref a, .int v1, .int v2]) (q_Qi X 8 σ (fun (r : Int32) (σ' : ST) => (r, σ') = F_X11_laying X σ a v1 v2 ∧ q_ow [(11, 0)] [] X σ σ')) 0 0 (q_reg X) := by
  refine q_met 8 (by first | exact rfl | decide +kernel) rfl (Nat.le_of_ble_eq_true rfl) (fun p e s m below meth c E hml hr hlk hI ls hl => ?_)
  have hx := E.1
  have hb := E.2.1
  have hl : lv_has ls 4 [(0, .ref a), (1, .int v1), (2, .int v2)] := hl
  have fr_σ : q_ow [(11, 0)] [] X σ σ := q_ow.rf
  obtain ⟨out, hout⟩ : ∃ o, o = F_X11_laying X σ a v1 v2 := ⟨_, rfl⟩
  have hF := hout.symm
  unfold F_X11_laying at hF
  refine lv_iload_n hx hb dX11_laying_0 rfl (lv_at hl 2 rfl) ?_
  refine q_if_lt (A := v2.toInt) E rfl (tgt := 9) dX11_laying_1 (by decide) (fun c_1 => ?_) (fun c_1 => ?_)
  · skip
    replace hF := q_ifp hF c_1
    refine lv_aload_n hx hb dX11_laying_9 rfl (lv_at hl 0 rfl) ?_
    refine lv_iconst (v := 5) hx hb dX11_laying_10 (by decide) ?_
    have kc_2 : (5 : Int32).toInt = 5 := rfl
    refine q_ci (q_runV (As := [.int 5]) (rest := []) E (hml.trans hl.1.symm) hI (c_X11_none l X σ a (5 : Int32) ha) kv_X11_109 ha ⟨rfl, by decide⟩ (show vwCl[10]? = some (RX11, TX11, 17) from rfl) rfl ⟨Nat.le_of_ble_eq_true rfl, Nat.le_of_ble_eq_true rfl⟩ ⟨Nat.le_refl _, Nat.le_refl _⟩ rfl (Nat.le_of_ble_eq_true rfl) dX11_laying_11) hI (by decide) (fun r_3 σ_4 H locs hpσ_4 hkσ_4 hI => ?_)
    obtain ⟨ahpσ_4, bhpσ_4, chpσ_4⟩ := hpσ_4
    have fr_σ_4 := fr_σ.call chpσ_4 rfl rfl
    replace hF := q_biX hF bhpσ_4
    exact q_reti E hr hlk hI ⟨(hF.trans hout), fr_σ_4⟩ dX11_laying_14
  · skip
    replace hF := q_ifn hF (Int.not_lt.mpr c_1)
    refine lv_iload_n hx hb dX11_laying_4 rfl (lv_at hl 2 rfl) ?_
    refine lv_iconst (v := 3) hx hb dX11_laying_5 (by decide) ?_
    refine q_icmp_le (A := v2.toInt) (B := 3) E rfl (by decide) (tgt := 15) dX11_laying_6 (by decide) (fun c_5 => ?_) (fun c_5 => ?_)
    · skip
      replace hF := q_ifn hF (Int.not_lt.mpr c_5)
      refine lv_aload_n hx hb dX11_laying_15 rfl (lv_at hl 0 rfl) ?_
      refine gs_X11_42_11 E hI ha dX11_laying_16 ?_
      refine gs_X11_201_1 E hI (q_tk (k' := 1) hI ha rfl (by decide)) dX11_laying_19 ?_
      refine lv_astore_n (lv' := [(3, .ref (q_rf X (q_rf X a 8) 2)), (0, .ref a), (1, .int v1), (2, .int v2)]) hx hb dX11_laying_22 rfl hl (by decide) rfl (fun ls hl => ?_)
      refine lv_iload_n hx hb dX11_laying_23 rfl (lv_at hl 2 rfl) ?_
      refine q_if_lt (A := v1.toInt) E rfl (tgt := 35) dX11_laying_24 (by decide) (fun c_6 => ?_) (fun c_6 => ?_)
      · skip
        replace hF := q_ifp hF c_6
        refine lv_aload_n hx hb dX11_laying_35 rfl (lv_at hl 1 rfl) ?_
        refine lv_bipush (v := 8) hx hb dX11_laying_36 (by decide) ?_
        have kc_7 : (8 : Int32).toInt = 8 := rfl
        refine q_ci (q_runV (As := [.int 8]) (rest := []) E (hml.trans hl.1.symm) hI (c_X11_none l X σ a (8 : Int32) ha) kv_X11_109 ha ⟨rfl, by decide⟩ (show vwCl[10]? = some (RX11, TX11, 17) from rfl) rfl ⟨Nat.le_of_ble_eq_true rfl, Nat.le_of_ble_eq_true rfl⟩ ⟨Nat.le_refl _, Nat.le_refl _⟩ rfl (Nat.le_of_ble_eq_true rfl) dX11_laying_38) hI (by decide) (fun r_8 σ_9 H locs hpσ_9 hkσ_9 hI => ?_)
        obtain ⟨ahpσ_9, bhpσ_9, chpσ_9⟩ := hpσ_9
        have fr_σ_9 := fr_σ.call chpσ_9 rfl rfl
        replace hF := q_biX hF bhpσ_9
        exact q_reti E hr hlk hI ⟨(hF.trans hout), fr_σ_9⟩ dX11_laying_41
      · skip
        replace hF := q_ifn hF (Int.not_lt.mpr c_6)
        refine lv_iload_n hx hb dX11_laying_27 rfl (lv_at hl 2 rfl) ?_
        refine lv_aload_n hx hb dX11_laying_28 rfl (lv_at hl 0 rfl) ?_
        refine gs_X11_216_3 E hI (q_tk (k' := 3) hI (q_tk (k' := 1) hI ha rfl (by decide)) rfl (by decide)) dX11_laying_29 ?_
        refine lv_topi (fun f_10 ef_10 => ?_)
        replace hF := q_letX hF ef_10
        refine q_icmp_lt (A := v1.toInt) (B := f_10.toInt) E rfl rfl (tgt := 42) dX11_laying_32 (by decide) (fun c_11 => ?_) (fun c_11 => ?_)
        · skip
          replace hF := q_ifp hF c_11
          refine lv_iload_n hx hb dX11_laying_42 rfl (lv_at hl 3 rfl) ?_
          by_cases c_12 : v2.toInt = 0
          · refine lv_tableIn (off := 25) (tgt := 68) hx hb dX11_laying_43 (by first | (clear c_1 c_5 c_6 c_11; omega) | omega) (by first | (clear c_1 c_5 c_6 c_11; omega) | omega) (by rw [c_12]; rfl) (by decide) ?_
            replace hF := q_ifp hF c_12
            refine lv_aload_n hx hb dX11_laying_68 rfl (lv_at hl 1 rfl) ?_
            refine lv_aload_n hx hb dX11_laying_69 rfl (lv_at hl 0 rfl) ?_
            refine gs_X11_260_3 E hI (q_tk (k' := 3) hI (q_tk (k' := 1) hI ha rfl (by decide)) rfl (by decide)) dX11_laying_70 ?_
            refine lv_iload_n hx hb dX11_laying_73 rfl (lv_at hl 2 rfl) ?_
            refine q_ci (q_runV (As := [.int v1]) (rest := [.ref a]) E (hml.trans hl.1.symm) hI (c_X5_get l X σ (q_rf X (q_rf X (q_rf X a 8) 2) 2) v1 (q_tk (k' := 5) hI (q_tk (k' := 3) hI (q_tk (k' := 1) hI ha rfl (by decide)) rfl (by decide)) rfl (by decide))) kv_X11_232 (q_tk (k' := 5) hI (q_tk (k' := 3) hI (q_tk (k' := 1) hI ha rfl (by decide)) rfl (by decide)) rfl (by decide)) ⟨rfl, by decide⟩ (show vwCl[4]? = some (RX5, TX5, 1) from rfl) rfl ⟨Nat.le_of_ble_eq_true rfl, Nat.le_of_ble_eq_true rfl⟩ ⟨Nat.le_refl _, Nat.le_refl _⟩ rfl (Nat.le_of_ble_eq_true rfl) dX11_laying_74) hI (by decide) (fun r_13 σ_14 H locs hpσ_14 hkσ_14 hI => ?_)
            obtain ⟨ahpσ_14, bhpσ_14⟩ := hpσ_14
            rw [ahpσ_14] at hI
            replace hF := q_letX hF bhpσ_14
            refine q_ci (q_runV (As := [.int r_13]) (rest := []) E (hml.trans hl.1.symm) hI (c_X11_good l X σ a r_13 ha) kv_X11_156 ha ⟨rfl, by decide⟩ (show vwCl[10]? = some (RX11, TX11, 17) from rfl) rfl ⟨Nat.le_of_ble_eq_true rfl, Nat.le_of_ble_eq_true rfl⟩ ⟨Nat.le_refl _, Nat.le_refl _⟩ rfl (Nat.le_of_ble_eq_true rfl) dX11_laying_77) hI (by decide) (fun r_15 σ_16 H locs hpσ_16 hkσ_16 hI => ?_)
            obtain ⟨ahpσ_16, bhpσ_16, chpσ_16⟩ := hpσ_16
            have fr_σ_16 := fr_σ.call chpσ_16 rfl rfl
            replace hF := q_biX hF bhpσ_16
            exact q_reti E hr hlk hI ⟨(hF.trans hout), fr_σ_16⟩ dX11_laying_80
          replace hF := q_ifn hF c_12
          by_cases c_17 : v2.toInt = 1
          · refine lv_tableIn (off := 38) (tgt := 81) hx hb dX11_laying_43 (by first | (clear c_1 c_5 c_6 c_11; omega) | omega) (by first | (clear c_1 c_5 c_6 c_11; omega) | omega) (by rw [c_17]; rfl) (by decide) ?_
            replace hF := q_ifp hF c_17
            refine lv_aload_n hx hb dX11_laying_81 rfl (lv_at hl 1 rfl) ?_
            refine lv_aload_n hx hb dX11_laying_82 rfl (lv_at hl 0 rfl) ?_
            refine gs_X11_263_3 E hI (q_tk (k' := 3) hI (q_tk (k' := 1) hI ha rfl (by decide)) rfl (by decide)) dX11_laying_83 ?_
            refine lv_iload_n hx hb dX11_laying_86 rfl (lv_at hl 2 rfl) ?_
            refine q_ci (q_runV (As := [.int v1]) (rest := [.ref a]) E (hml.trans hl.1.symm) hI (c_X5_get l X σ (q_rf X (q_rf X (q_rf X a 8) 2) 3) v1 (q_tk (k' := 5) hI (q_tk (k' := 3) hI (q_tk (k' := 1) hI ha rfl (by decide)) rfl (by decide)) rfl (by decide))) kv_X11_232 (q_tk (k' := 5) hI (q_tk (k' := 3) hI (q_tk (k' := 1) hI ha rfl (by decide)) rfl (by decide)) rfl (by decide)) ⟨rfl, by decide⟩ (show vwCl[4]? = some (RX5, TX5, 1) from rfl) rfl ⟨Nat.le_of_ble_eq_true rfl, Nat.le_of_ble_eq_true rfl⟩ ⟨Nat.le_refl _, Nat.le_refl _⟩ rfl (Nat.le_of_ble_eq_true rfl) dX11_laying_87) hI (by decide) (fun r_18 σ_19 H locs hpσ_19 hkσ_19 hI => ?_)
            obtain ⟨ahpσ_19, bhpσ_19⟩ := hpσ_19
            rw [ahpσ_19] at hI
            replace hF := q_letX hF bhpσ_19
            refine q_ci (q_runV (As := [.int r_18]) (rest := []) E (hml.trans hl.1.symm) hI (c_X11_good l X σ a r_18 ha) kv_X11_156 ha ⟨rfl, by decide⟩ (show vwCl[10]? = some (RX11, TX11, 17) from rfl) rfl ⟨Nat.le_of_ble_eq_true rfl, Nat.le_of_ble_eq_true rfl⟩ ⟨Nat.le_refl _, Nat.le_refl _⟩ rfl (Nat.le_of_ble_eq_true rfl) dX11_laying_90) hI (by decide) (fun r_20 σ_21 H locs hpσ_21 hkσ_21 hI => ?_)
            obtain ⟨ahpσ_21, bhpσ_21, chpσ_21⟩ := hpσ_21
            have fr_σ_21 := fr_σ.call chpσ_21 rfl rfl
            replace hF := q_biX hF bhpσ_21
            exact q_reti E hr hlk hI ⟨(hF.trans hout), fr_σ_21⟩ dX11_laying_93
          replace hF := q_ifn hF c_17
          by_cases c_22 : v2.toInt = 2
          · refine lv_tableIn (off := 51) (tgt := 94) hx hb dX11_laying_43 (by first | (clear c_1 c_5 c_6 c_11; omega) | omega) (by first | (clear c_1 c_5 c_6 c_11; omega) | omega) (by rw [c_22]; rfl) (by decide) ?_
            replace hF := q_ifp hF c_22
            refine lv_aload_n hx hb dX11_laying_94 rfl (lv_at hl 1 rfl) ?_
            refine lv_aload_n hx hb dX11_laying_95 rfl (lv_at hl 0 rfl) ?_
            refine gs_X11_266_3 E hI (q_tk (k' := 3) hI (q_tk (k' := 1) hI ha rfl (by decide)) rfl (by decide)) dX11_laying_96 ?_
            refine lv_iload_n hx hb dX11_laying_99 rfl (lv_at hl 2 rfl) ?_
            refine q_ci (q_runV (As := [.int v1]) (rest := [.ref a]) E (hml.trans hl.1.symm) hI (c_X5_get l X σ (q_rf X (q_rf X (q_rf X a 8) 2) 4) v1 (q_tk (k' := 5) hI (q_tk (k' := 3) hI (q_tk (k' := 1) hI ha rfl (by decide)) rfl (by decide)) rfl (by decide))) kv_X11_232 (q_tk (k' := 5) hI (q_tk (k' := 3) hI (q_tk (k' := 1) hI ha rfl (by decide)) rfl (by decide)) rfl (by decide)) ⟨rfl, by decide⟩ (show vwCl[4]? = some (RX5, TX5, 1) from rfl) rfl ⟨Nat.le_of_ble_eq_true rfl, Nat.le_of_ble_eq_true rfl⟩ ⟨Nat.le_refl _, Nat.le_refl _⟩ rfl (Nat.le_of_ble_eq_true rfl) dX11_laying_100) hI (by decide) (fun r_23 σ_24 H locs hpσ_24 hkσ_24 hI => ?_)
            obtain ⟨ahpσ_24, bhpσ_24⟩ := hpσ_24
            rw [ahpσ_24] at hI
            replace hF := q_letX hF bhpσ_24
            refine q_ci (q_runV (As := [.int r_23]) (rest := []) E (hml.trans hl.1.symm) hI (c_X11_good l X σ a r_23 ha) kv_X11_156 ha ⟨rfl, by decide⟩ (show vwCl[10]? = some (RX11, TX11, 17) from rfl) rfl ⟨Nat.le_of_ble_eq_true rfl, Nat.le_of_ble_eq_true rfl⟩ ⟨Nat.le_refl _, Nat.le_refl _⟩ rfl (Nat.le_of_ble_eq_true rfl) dX11_laying_103) hI (by decide) (fun r_25 σ_26 H locs hpσ_26 hkσ_26 hI => ?_)
            obtain ⟨ahpσ_26, bhpσ_26, chpσ_26⟩ := hpσ_26
            have fr_σ_26 := fr_σ.call chpσ_26 rfl rfl
            replace hF := q_biX hF bhpσ_26
            exact q_reti E hr hlk hI ⟨(hF.trans hout), fr_σ_26⟩ dX11_laying_106
          replace hF := q_ifn hF c_22
          refine lv_tableOut (tgt := 107) hx hb dX11_laying_43 (by first | (clear c_6 c_11; omega) | omega) (by decide) ?_
          refine lv_aload_n hx hb dX11_laying_107 rfl (lv_at hl 1 rfl) ?_
          refine lv_aload_n hx hb dX11_laying_108 rfl (lv_at hl 0 rfl) ?_
          refine lv_iload_n hx hb dX11_laying_109 rfl (lv_at hl 2 rfl) ?_
          refine q_ci (q_runV (As := [.int v1]) (rest := [.ref a]) E (hml.trans hl.1.symm) hI (c_X2_truth l X σ (q_rf X (q_rf X a 8) 2) v1 (q_tk (k' := 3) hI (q_tk (k' := 1) hI ha rfl (by decide)) rfl (by decide))) kv_X11_269 (q_tk (k' := 3) hI (q_tk (k' := 1) hI ha rfl (by decide)) rfl (by decide)) ⟨rfl, by decide⟩ (show vwCl[2]? = some (RX2, TX2, 6) from rfl) rfl ⟨Nat.le_of_ble_eq_true rfl, Nat.le_of_ble_eq_true rfl⟩ ⟨Nat.le_refl _, Nat.le_refl _⟩ rfl (Nat.le_of_ble_eq_true rfl) dX11_laying_110) hI (by decide) (fun r_27 σ_28 H locs hpσ_28 hkσ_28 hI => ?_)
          obtain ⟨ahpσ_28, bhpσ_28⟩ := hpσ_28
          rw [ahpσ_28] at hI
          replace hF := q_letX hF bhpσ_28
          refine q_ci (q_runV (As := [.int r_27]) (rest := []) E (hml.trans hl.1.symm) hI (c_X11_good l X σ a r_27 ha) kv_X11_156 ha ⟨rfl, by decide⟩ (show vwCl[10]? = some (RX11, TX11, 17) from rfl) rfl ⟨Nat.le_of_ble_eq_true rfl, Nat.le_of_ble_eq_true rfl⟩ ⟨Nat.le_refl _, Nat.le_refl _⟩ rfl (Nat.le_of_ble_eq_true rfl) dX11_laying_113) hI (by decide) (fun r_29 σ_30 H locs hpσ_30 hkσ_30 hI => ?_)
          obtain ⟨ahpσ_30, bhpσ_30, chpσ_30⟩ := hpσ_30
          have fr_σ_30 := fr_σ.call chpσ_30 rfl rfl
          replace hF := q_biX hF bhpσ_30
          exact q_reti E hr hlk hI ⟨(hF.trans hout), fr_σ_30⟩ dX11_laying_116
        · skip
          replace hF := q_ifn hF (Int.not_lt.mpr c_11)
          refine lv_aload_n hx hb dX11_laying_35 rfl (lv_at hl 1 rfl) ?_
          refine lv_bipush (v := 8) hx hb dX11_laying_36 (by decide) ?_
          have kc_31 : (8 : Int32).toInt = 8 := rfl
          refine q_ci (q_runV (As := [.int 8]) (rest := []) E (hml.trans hl.1.symm) hI (c_X11_none l X σ a (8 : Int32) ha) kv_X11_109 ha ⟨rfl, by decide⟩ (show vwCl[10]? = some (RX11, TX11, 17) from rfl) rfl ⟨Nat.le_of_ble_eq_true rfl, Nat.le_of_ble_eq_true rfl⟩ ⟨Nat.le_refl _, Nat.le_refl _⟩ rfl (Nat.le_of_ble_eq_true rfl) dX11_laying_38) hI (by decide) (fun r_32 σ_33 H locs hpσ_33 hkσ_33 hI => ?_)
          obtain ⟨ahpσ_33, bhpσ_33, chpσ_33⟩ := hpσ_33
          have fr_σ_33 := fr_σ.call chpσ_33 rfl rfl
          replace hF := q_biX hF bhpσ_33
          exact q_reti E hr hlk hI ⟨(hF.trans hout), fr_σ_33⟩ dX11_laying_41
    · skip
      replace hF := q_ifp hF c_5
      refine lv_aload_n hx hb dX11_laying_9 rfl (lv_at hl 0 rfl) ?_
      refine lv_iconst (v := 5) hx hb dX11_laying_10 (by decide) ?_
      have kc_34 : (5 : Int32).toInt = 5 := rfl
      refine q_ci (q_runV (As := [.int 5]) (rest := []) E (hml.trans hl.1.symm) hI (c_X11_none l X σ a (5 : Int32) ha) kv_X11_109 ha ⟨rfl, by decide⟩ (show vwCl[10]? = some (RX11, TX11, 17) from rfl) rfl ⟨Nat.le_of_ble_eq_true rfl, Nat.le_of_ble_eq_true rfl⟩ ⟨Nat.le_refl _, Nat.le_refl _⟩ rfl (Nat.le_of_ble_eq_true rfl) dX11_laying_11) hI (by decide) (fun r_35 σ_36 H locs hpσ_36 hkσ_36 hI => ?_)
      obtain ⟨ahpσ_36, bhpσ_36, chpσ_36⟩ := hpσ_36
      have fr_σ_36 := fr_σ.call chpσ_36 rfl rfl
      replace hF := q_biX hF bhpσ_36
      exact q_reti E hr hlk hI ⟨(hF.trans hout), fr_σ_36⟩ dX11_laying_14

set_option maxRecDepth 100000 in
set_option maxHeartbeats 4000000 in
theorem c_X11_cardOf (l : Launch) (X : XW) (σ : ST) (a : Nat) (v1 : Int32) (v2 : Int32) (ha : q_kd X a = 11) : Met l yX11_cardOf (q_ws yX11_cardOf cX11_cardOf 4 (some .int)) (q_rm 2 43) (q_P X σ [.ref a, .int v1, .int v2]) (q_Qi X 8 σ (fun (r : Int32) (σ' : ST) => (r, σ') = F_X11_cardOf X σ a v1 v2 ∧ q_ow [(11, 0)] [] X σ σ')) 0 0 (q_reg X) := by
  refine q_met 8 (by first | exact rfl | decide +kernel) rfl (Nat.le_of_ble_eq_true rfl) (fun p e s m below meth c E hml hr hlk hI ls hl => ?_)
  have hx := E.1
  have hb := E.2.1
  have hl : lv_has ls 4 [(0, .ref a), (1, .int v1), (2, .int v2)] := hl
  have fr_σ : q_ow [(11, 0)] [] X σ σ := q_ow.rf
  obtain ⟨out, hout⟩ : ∃ o, o = F_X11_cardOf X σ a v1 v2 := ⟨_, rfl⟩
  have hF := hout.symm
  unfold F_X11_cardOf at hF
  refine lv_aload_n hx hb dX11_cardOf_0 rfl (lv_at hl 0 rfl) ?_
  refine gs_X11_42_11 E hI ha dX11_cardOf_1 ?_
  refine gs_X11_201_1 E hI (q_tk (k' := 1) hI ha rfl (by decide)) dX11_cardOf_4 ?_
  refine lv_astore_n (lv' := [(3, .ref (q_rf X (q_rf X a 8) 2)), (0, .ref a), (1, .int v1), (2, .int v2)]) hx hb dX11_cardOf_7 rfl hl (by decide) rfl (fun ls hl => ?_)
  refine lv_iload_n hx hb dX11_cardOf_8 rfl (lv_at hl 2 rfl) ?_
  refine q_if_lt (A := v1.toInt) E rfl (tgt := 36) dX11_cardOf_9 (by decide) (fun c_1 => ?_) (fun c_1 => ?_)
  · skip
    replace hF := q_ifp hF c_1
    refine lv_aload_n hx hb dX11_cardOf_36 rfl (lv_at hl 1 rfl) ?_
    refine lv_bipush (v := 8) hx hb dX11_cardOf_37 (by decide) ?_
    have kc_2 : (8 : Int32).toInt = 8 := rfl
    refine q_ci (q_runV (As := [.int 8]) (rest := []) E (hml.trans hl.1.symm) hI (c_X11_none l X σ a (8 : Int32) ha) kv_X11_109 ha ⟨rfl, by decide⟩ (show vwCl[10]? = some (RX11, TX11, 17) from rfl) rfl ⟨Nat.le_of_ble_eq_true rfl, Nat.le_of_ble_eq_true rfl⟩ ⟨Nat.le_refl _, Nat.le_refl _⟩ rfl (Nat.le_of_ble_eq_true rfl) dX11_cardOf_39) hI (by decide) (fun r_3 σ_4 H locs hpσ_4 hkσ_4 hI => ?_)
    obtain ⟨ahpσ_4, bhpσ_4, chpσ_4⟩ := hpσ_4
    have fr_σ_4 := fr_σ.call chpσ_4 rfl rfl
    replace hF := q_biX hF bhpσ_4
    exact q_reti E hr hlk hI ⟨(hF.trans hout), fr_σ_4⟩ dX11_cardOf_42
  · skip
    replace hF := q_ifn hF (Int.not_lt.mpr c_1)
    refine lv_iload_n hx hb dX11_cardOf_12 rfl (lv_at hl 2 rfl) ?_
    refine lv_aload_n hx hb dX11_cardOf_13 rfl (lv_at hl 0 rfl) ?_
    refine gs_X11_216_3 E hI (q_tk (k' := 3) hI (q_tk (k' := 1) hI ha rfl (by decide)) rfl (by decide)) dX11_cardOf_14 ?_
    refine lv_topi (fun f_5 ef_5 => ?_)
    replace hF := q_letX hF ef_5
    refine q_icmp_ge (A := v1.toInt) (B := f_5.toInt) E rfl rfl (tgt := 36) dX11_cardOf_17 (by decide) (fun c_6 => ?_) (fun c_6 => ?_)
    · skip
      replace hF := q_ifn hF (Int.not_lt.mpr c_6)
      refine lv_aload_n hx hb dX11_cardOf_36 rfl (lv_at hl 1 rfl) ?_
      refine lv_bipush (v := 8) hx hb dX11_cardOf_37 (by decide) ?_
      have kc_7 : (8 : Int32).toInt = 8 := rfl
      refine q_ci (q_runV (As := [.int 8]) (rest := []) E (hml.trans hl.1.symm) hI (c_X11_none l X σ a (8 : Int32) ha) kv_X11_109 ha ⟨rfl, by decide⟩ (show vwCl[10]? = some (RX11, TX11, 17) from rfl) rfl ⟨Nat.le_of_ble_eq_true rfl, Nat.le_of_ble_eq_true rfl⟩ ⟨Nat.le_refl _, Nat.le_refl _⟩ rfl (Nat.le_of_ble_eq_true rfl) dX11_cardOf_39) hI (by decide) (fun r_8 σ_9 H locs hpσ_9 hkσ_9 hI => ?_)
      obtain ⟨ahpσ_9, bhpσ_9, chpσ_9⟩ := hpσ_9
      have fr_σ_9 := fr_σ.call chpσ_9 rfl rfl
      replace hF := q_biX hF bhpσ_9
      exact q_reti E hr hlk hI ⟨(hF.trans hout), fr_σ_9⟩ dX11_cardOf_42
    · skip
      replace hF := q_ifp hF c_6
      refine lv_iload_n hx hb dX11_cardOf_20 rfl (lv_at hl 3 rfl) ?_
      refine q_if_lt (A := v2.toInt) E rfl (tgt := 36) dX11_cardOf_21 (by decide) (fun c_10 => ?_) (fun c_10 => ?_)
      · skip
        replace hF := q_ifp hF c_10
        refine lv_aload_n hx hb dX11_cardOf_36 rfl (lv_at hl 1 rfl) ?_
        refine lv_bipush (v := 8) hx hb dX11_cardOf_37 (by decide) ?_
        have kc_11 : (8 : Int32).toInt = 8 := rfl
        refine q_ci (q_runV (As := [.int 8]) (rest := []) E (hml.trans hl.1.symm) hI (c_X11_none l X σ a (8 : Int32) ha) kv_X11_109 ha ⟨rfl, by decide⟩ (show vwCl[10]? = some (RX11, TX11, 17) from rfl) rfl ⟨Nat.le_of_ble_eq_true rfl, Nat.le_of_ble_eq_true rfl⟩ ⟨Nat.le_refl _, Nat.le_refl _⟩ rfl (Nat.le_of_ble_eq_true rfl) dX11_cardOf_39) hI (by decide) (fun r_12 σ_13 H locs hpσ_13 hkσ_13 hI => ?_)
        obtain ⟨ahpσ_13, bhpσ_13, chpσ_13⟩ := hpσ_13
        have fr_σ_13 := fr_σ.call chpσ_13 rfl rfl
        replace hF := q_biX hF bhpσ_13
        exact q_reti E hr hlk hI ⟨(hF.trans hout), fr_σ_13⟩ dX11_cardOf_42
      · skip
        replace hF := q_ifn hF (Int.not_lt.mpr c_10)
        refine lv_iload_n hx hb dX11_cardOf_24 rfl (lv_at hl 3 rfl) ?_
        refine lv_aload_n hx hb dX11_cardOf_25 rfl (lv_at hl 0 rfl) ?_
        refine gs_X11_266_3 E hI (q_tk (k' := 3) hI (q_tk (k' := 1) hI ha rfl (by decide)) rfl (by decide)) dX11_cardOf_26 ?_
        refine lv_iload_n hx hb dX11_cardOf_29 rfl (lv_at hl 2 rfl) ?_
        refine q_ci (q_runV (As := [.int v1]) (rest := [.int v2]) E (hml.trans hl.1.symm) hI (c_X5_get l X σ (q_rf X (q_rf X (q_rf X a 8) 2) 4) v1 (q_tk (k' := 5) hI (q_tk (k' := 3) hI (q_tk (k' := 1) hI ha rfl (by decide)) rfl (by decide)) rfl (by decide))) kv_X11_232 (q_tk (k' := 5) hI (q_tk (k' := 3) hI (q_tk (k' := 1) hI ha rfl (by decide)) rfl (by decide)) rfl (by decide)) ⟨rfl, by decide⟩ (show vwCl[4]? = some (RX5, TX5, 1) from rfl) rfl ⟨Nat.le_of_ble_eq_true rfl, Nat.le_of_ble_eq_true rfl⟩ ⟨Nat.le_refl _, Nat.le_refl _⟩ rfl (Nat.le_of_ble_eq_true rfl) dX11_cardOf_30) hI (by decide) (fun r_14 σ_15 H locs hpσ_15 hkσ_15 hI => ?_)
        obtain ⟨ahpσ_15, bhpσ_15⟩ := hpσ_15
        rw [ahpσ_15] at hI
        replace hF := q_letX hF bhpσ_15
        refine q_icmp_lt (A := v2.toInt) (B := r_14.toInt) E rfl rfl (tgt := 43) dX11_cardOf_33 (by decide) (fun c_16 => ?_) (fun c_16 => ?_)
        · skip
          replace hF := q_ifp hF c_16
          refine lv_aload_n hx hb dX11_cardOf_43 rfl (lv_at hl 1 rfl) ?_
          refine lv_aload_n hx hb dX11_cardOf_44 rfl (lv_at hl 0 rfl) ?_
          refine lv_iload_n hx hb dX11_cardOf_45 rfl (lv_at hl 2 rfl) ?_
          refine lv_iload_n hx hb dX11_cardOf_46 rfl (lv_at hl 3 rfl) ?_
          refine q_ci (q_runV (As := [.int v1, .int v2]) (rest := [.ref a]) E (hml.trans hl.1.symm) hI (c_X2_kindOf l X σ (q_rf X (q_rf X a 8) 2) v1 v2 (q_tk (k' := 3) hI (q_tk (k' := 1) hI ha rfl (by decide)) rfl (by decide))) kv_X11_272 (q_tk (k' := 3) hI (q_tk (k' := 1) hI ha rfl (by decide)) rfl (by decide)) ⟨rfl, by decide⟩ (show vwCl[2]? = some (RX2, TX2, 6) from rfl) rfl ⟨Nat.le_of_ble_eq_true rfl, Nat.le_of_ble_eq_true rfl⟩ ⟨Nat.le_refl _, Nat.le_refl _⟩ rfl (Nat.le_of_ble_eq_true rfl) dX11_cardOf_47) hI (by decide) (fun r_17 σ_18 H locs hpσ_18 hkσ_18 hI => ?_)
          obtain ⟨ahpσ_18, bhpσ_18⟩ := hpσ_18
          rw [ahpσ_18] at hI
          replace hF := q_letX hF bhpσ_18
          refine q_ci (q_runV (As := [.int r_17]) (rest := []) E (hml.trans hl.1.symm) hI (c_X11_good l X σ a r_17 ha) kv_X11_156 ha ⟨rfl, by decide⟩ (show vwCl[10]? = some (RX11, TX11, 17) from rfl) rfl ⟨Nat.le_of_ble_eq_true rfl, Nat.le_of_ble_eq_true rfl⟩ ⟨Nat.le_refl _, Nat.le_refl _⟩ rfl (Nat.le_of_ble_eq_true rfl) dX11_cardOf_50) hI (by decide) (fun r_19 σ_20 H locs hpσ_20 hkσ_20 hI => ?_)
          obtain ⟨ahpσ_20, bhpσ_20, chpσ_20⟩ := hpσ_20
          have fr_σ_20 := fr_σ.call chpσ_20 rfl rfl
          replace hF := q_biX hF bhpσ_20
          exact q_reti E hr hlk hI ⟨(hF.trans hout), fr_σ_20⟩ dX11_cardOf_53
        · skip
          replace hF := q_ifn hF (Int.not_lt.mpr c_16)
          refine lv_aload_n hx hb dX11_cardOf_36 rfl (lv_at hl 1 rfl) ?_
          refine lv_bipush (v := 8) hx hb dX11_cardOf_37 (by decide) ?_
          have kc_21 : (8 : Int32).toInt = 8 := rfl
          refine q_ci (q_runV (As := [.int 8]) (rest := []) E (hml.trans hl.1.symm) hI (c_X11_none l X σ a (8 : Int32) ha) kv_X11_109 ha ⟨rfl, by decide⟩ (show vwCl[10]? = some (RX11, TX11, 17) from rfl) rfl ⟨Nat.le_of_ble_eq_true rfl, Nat.le_of_ble_eq_true rfl⟩ ⟨Nat.le_refl _, Nat.le_refl _⟩ rfl (Nat.le_of_ble_eq_true rfl) dX11_cardOf_39) hI (by decide) (fun r_22 σ_23 H locs hpσ_23 hkσ_23 hI => ?_)
          obtain ⟨ahpσ_23, bhpσ_23, chpσ_23⟩ := hpσ_23
          have fr_σ_23 := fr_σ.call chpσ_23 rfl rfl
          replace hF := q_biX hF bhpσ_23
          exact q_reti E hr hlk hI ⟨(hF.trans hout), fr_σ_23⟩ dX11_cardOf_42

set_option maxRecDepth 100000 in
set_option maxHeartbeats 4000000 in
theorem c_X11_copyHand (l : Launch) (X : XW) (σ : ST) (a : Nat) (v1 : Int32) (v2 : Int32) (ha : q_kd X a = 11) : Met l yX11_copyHand (q_ws yX11_copyHand cX11_copyHand 6 (some .int)) (q_rm 2 45) (q_P X σ [.ref a, .int v1, .int v2]) (q_Qi X 8 σ (fun (r : Int32) (σ' : ST) => (r, σ') = F_X11_copyHand X σ a v1 v2 ∧ q_ow [(11, 0)] [(21, 99)] X σ σ')) 0 0 (q_reg X) := by
  refine q_met 8 (by first | exact rfl | decide +kernel) rfl (Nat.le_of_ble_eq_true rfl) (fun p e s m below meth c E hml hr hlk hI ls hl => ?_)
  have hx := E.1
  have hb := E.2.1
  have hl : lv_has ls 6 [(0, .ref a), (1, .int v1), (2, .int v2)] := hl
  have fr_σ : q_ow [(11, 0)] [(21, 99)] X σ σ := q_ow.rf
  obtain ⟨out, hout⟩ : ∃ o, o = F_X11_copyHand X σ a v1 v2 := ⟨_, rfl⟩
  have hF := hout.symm
  unfold F_X11_copyHand at hF
  refine lv_aload_n hx hb dX11_copyHand_0 rfl (lv_at hl 0 rfl) ?_
  refine lv_iload_n hx hb dX11_copyHand_1 rfl (lv_at hl 2 rfl) ?_
  refine q_cq (q_runV (As := [.int v2]) (rest := []) E (hml.trans hl.1.symm) hI (c_X11_trayAt l X σ a v2 ha) kv_X11_85 ha ⟨rfl, by decide⟩ (show vwCl[10]? = some (RX11, TX11, 17) from rfl) rfl ⟨Nat.le_of_ble_eq_true rfl, Nat.le_of_ble_eq_true rfl⟩ ⟨Nat.le_refl _, Nat.le_refl _⟩ rfl (Nat.le_of_ble_eq_true rfl) dX11_copyHand_2) hI (by decide) (fun r_1 σ_2 H locs hpσ_2 hkσ_2 hI => ?_)
  obtain ⟨ahpσ_2, bhpσ_2, chpσ_2⟩ := hpσ_2
  rw [ahpσ_2] at hI
  replace hF := q_letX hF chpσ_2
  rcases r_1 with _ | r_1
  · show W _ _ _ _ _ _ _ _ _ _ _ _ _ _ _ (F0 m (2 + 3) ls [.null])
    replace hF := q_onN hF
    have nq_v2 := bhpσ_2.2 rfl
    refine lv_astore_nN (lv' := [(3, .null), (0, .ref a), (1, .int v1), (2, .int v2)]) hx hb dX11_copyHand_5 rfl hl (by decide) rfl (fun ls hl => ?_)
    refine lv_aload_nN hx hb dX11_copyHand_6 rfl (lv_at hl 0 rfl) ?_
    refine lv_ifnonnullN hx hb dX11_copyHand_7 ?_
    refine lv_aload_n hx hb dX11_copyHand_10 rfl (lv_at hl 1 rfl) ?_
    refine lv_iconst (v := 1) hx hb dX11_copyHand_11 (by decide) ?_
    have kc_3 : (1 : Int32).toInt = 1 := rfl
    refine q_ci (q_runV (As := [.int 1]) (rest := []) E (hml.trans hl.1.symm) hI (c_X11_none l X σ a (1 : Int32) ha) kv_X11_109 ha ⟨rfl, by decide⟩ (show vwCl[10]? = some (RX11, TX11, 17) from rfl) rfl ⟨Nat.le_of_ble_eq_true rfl, Nat.le_of_ble_eq_true rfl⟩ ⟨Nat.le_refl _, Nat.le_refl _⟩ rfl (Nat.le_of_ble_eq_true rfl) dX11_copyHand_12) hI (by decide) (fun r_4 σ_5 H locs hpσ_5 hkσ_5 hI => ?_)
    obtain ⟨ahpσ_5, bhpσ_5, chpσ_5⟩ := hpσ_5
    have fr_σ_5 := fr_σ.call chpσ_5 rfl rfl
    replace hF := q_biX hF bhpσ_5
    exact q_reti E hr hlk hI ⟨(hF.trans hout), fr_σ_5⟩ dX11_copyHand_15
  · show W _ _ _ _ _ _ _ _ _ _ _ _ _ _ _ (F0 m (2 + 3) ls [.ref r_1])
    replace hF := q_onS hF
    obtain ⟨kq_r_1, eq_r_1, lo_r_1, hi_r_1⟩ := bhpσ_2.1 _ rfl
    have f0_r_1 : (σ.1 (q_rf X (q_rf X a 3) v2.toNatClampNeg) 0).toInt = (σ.1 r_1 0).toInt := by rw [← eq_r_1]
    have f1_r_1 : (σ.1 (q_rf X (q_rf X a 3) v2.toNatClampNeg) 1).toInt = (σ.1 r_1 1).toInt := by rw [← eq_r_1]
    have g1_r_1 : -1 ≤ (σ.1 r_1 1).toInt ∧ (σ.1 r_1 1).toInt ≤ 60 := q_bd hI kq_r_1 rfl
    refine lv_astore_n (lv' := [(3, .ref r_1), (0, .ref a), (1, .int v1), (2, .int v2)]) hx hb dX11_copyHand_5 rfl hl (by decide) rfl (fun ls hl => ?_)
    refine lv_aload_n hx hb dX11_copyHand_6 rfl (lv_at hl 0 rfl) ?_
    refine lv_ifnonnull (tgt := 16) hx hb dX11_copyHand_7 (by decide) ?_
    refine lv_aload_n hx hb dX11_copyHand_16 rfl (lv_at hl 0 rfl) ?_
    refine q_ci (q_runV (As := []) (rest := []) E (hml.trans hl.1.symm) hI (c_X10_isMissing l X σ r_1 kq_r_1) kv_X11_117 kq_r_1 ⟨rfl, by decide⟩ (show vwCl[9]? = some (RX10, TX10, 3) from rfl) rfl ⟨Nat.le_of_ble_eq_true rfl, Nat.le_of_ble_eq_true rfl⟩ ⟨Nat.le_refl _, Nat.le_refl _⟩ rfl (Nat.le_of_ble_eq_true rfl) dX11_copyHand_17) hI (by decide) (fun r_6 σ_7 H locs hpσ_7 hkσ_7 hI => ?_)
    obtain ⟨ahpσ_7, bhpσ_7, chpσ_7, dhpσ_7⟩ := hpσ_7
    rw [ahpσ_7] at hI
    replace hF := q_letX hF dhpσ_7
    refine q_if_eq (A := r_6.toInt) E rfl (tgt := 29) dX11_copyHand_20 (by decide) (fun c_8 => ?_) (fun c_8 => ?_)
    · skip
      replace hF := q_ifp hF c_8
      replace chpσ_7 := q_ifNo chpσ_7 c_8
      refine lv_aload_n hx hb dX11_copyHand_29 rfl (lv_at hl 1 rfl) ?_
      refine lv_iload_n hx hb dX11_copyHand_30 rfl (lv_at hl 2 rfl) ?_
      refine q_ci (q_runV (As := [.int v1]) (rest := []) E (hml.trans hl.1.symm) hI (c_X11_isPlayer l X σ a v1 ha) kv_X11_219 ha ⟨rfl, by decide⟩ (show vwCl[10]? = some (RX11, TX11, 17) from rfl) rfl ⟨Nat.le_of_ble_eq_true rfl, Nat.le_of_ble_eq_true rfl⟩ ⟨Nat.le_refl _, Nat.le_refl _⟩ rfl (Nat.le_of_ble_eq_true rfl) dX11_copyHand_31) hI (by decide) (fun r_9 σ_10 H locs hpσ_10 hkσ_10 hI => ?_)
      obtain ⟨ahpσ_10, bhpσ_10, chpσ_10⟩ := hpσ_10
      rw [ahpσ_10] at hI
      replace hF := q_letX hF chpσ_10
      refine q_if_ne (A := r_9.toInt) E rfl (tgt := 43) dX11_copyHand_34 (by decide) (fun c_11 => ?_) (fun c_11 => ?_)
      · skip
        replace hF := q_ifn hF c_11
        replace c_11 := q_ifOne bhpσ_10 c_11
        refine lv_aload_n hx hb dX11_copyHand_43 rfl (lv_at hl 1 rfl) ?_
        refine gs_X11_42_11 E hI ha dX11_copyHand_44 ?_
        refine gs_X11_147_1 E hI (q_tk (k' := 1) hI ha rfl (by decide)) dX11_copyHand_47 ?_
        refine gs_X11_183_6 E hI (q_tk (k' := 6) hI (q_tk (k' := 1) hI ha rfl (by decide)) rfl (by decide)) dX11_copyHand_50 ?_
        refine lv_topi (fun f_12 ef_12 => ?_)
        replace hF := q_letX hF ef_12
        have bf_12 : -2147483648 ≤ f_12.toInt ∧ f_12.toInt ≤ 10 := by rw [ef_12]; exact q_bd hI (q_tk (k' := 6) hI (q_tk (k' := 1) hI ha rfl (by decide)) rfl (by decide)) rfl
        refine lv_istore (lv' := [(4, .int f_12), (3, .ref r_1), (0, .ref a), (1, .int v1), (2, .int v2)]) hx hb dX11_copyHand_53 hl (by decide) rfl (fun ls hl => ?_)
        refine lv_aload_n hx hb dX11_copyHand_55 rfl (lv_at hl 1 rfl) ?_
        refine lv_iconst (v := 0) hx hb dX11_copyHand_56 (by decide) ?_
        refine lv_iload hx hb dX11_copyHand_57 (lv_at hl 0 rfl) ?_
        have kc_13 : (0 : Int32).toInt = 0 := rfl
        refine q_ci (q_runV (As := [.int 0, .int f_12]) (rest := []) E (hml.trans hl.1.symm) hI (c_X10_hasPlaces l X σ r_1 (0 : Int32) f_12 kq_r_1) kv_X11_123 kq_r_1 ⟨rfl, by decide⟩ (show vwCl[9]? = some (RX10, TX10, 3) from rfl) rfl ⟨Nat.le_of_ble_eq_true rfl, Nat.le_of_ble_eq_true rfl⟩ ⟨Nat.le_refl _, Nat.le_refl _⟩ rfl (Nat.le_of_ble_eq_true rfl) dX11_copyHand_59) hI (by decide) (fun r_14 σ_15 H locs hpσ_15 hkσ_15 hI => ?_)
        obtain ⟨ahpσ_15, bhpσ_15, chpσ_15, dhpσ_15⟩ := hpσ_15
        rw [ahpσ_15] at hI
        replace hF := q_letX hF dhpσ_15
        refine q_if_ne (A := r_14.toInt) E rfl (tgt := 71) dX11_copyHand_62 (by decide) (fun c_16 => ?_) (fun c_16 => ?_)
        · skip
          replace hF := q_ifn hF c_16
          replace c_16 := q_ifOne bhpσ_15 c_16
          replace chpσ_15 := q_ifYes chpσ_15 c_16
          refine lv_iconst (v := 0) hx hb dX11_copyHand_71 (by decide) ?_
          refine lv_istore (lv' := [(5, .int 0), (4, .int f_12), (3, .ref r_1), (0, .ref a), (1, .int v1), (2, .int v2)]) hx hb dX11_copyHand_72 hl (by decide) rfl (fun ls hl => ?_)
          have L_74_19 : ∀ (k_19 : Nat) (x_17 : Int32) (σ_18 : ST) (H : Heap) (locs : List Loc) (ls : Array Slot), (2147483647 - x_17.toInt).toNat < k_19 → (0 ≤ x_17.toInt) → (q_ow [(11, 0)] [(21, 99)] X σ σ_18) → (F_X11_copyHand_L74_1 X f_12 a v1 r_1 k_19 x_17 σ_18 = out) → q_I X 8 σ s.heap locs σ_18 H → lv_has ls 6 [(0, .ref a), (1, .int v1), (2, .int v2), (3, .ref r_1), (4, .int f_12), (5, .int x_17)] → W p l e (q_rm 2 45) s m ([.ref a, .int v1, .int v2] : List Value).toArray below meth c H locs 0 0 (MQ below (q_Qi X 8 σ (fun (r : Int32) (σ' : ST) => (r, σ') = F_X11_copyHand X σ a v1 v2 ∧ q_ow [(11, 0)] [(21, 99)] X σ σ')) ([.ref a, .int v1, .int v2] : List Value).toArray s 0 0 (q_reg X)) (F0 m 74 ls []) := by
            clear hF
            intro k_19
            induction k_19 with
            | zero =>
              intro x_17 σ_18 H locs ls hms
              exact absurd hms (Nat.not_lt_zero _)
            | succ k_19 ih74 =>
              intro x_17 σ_18 H locs ls hm74 hge74 fr_σ_18 hF hI hl
              replace hF := (F_X11_copyHand_L74_1_s).symm.trans hF
              unfold F_X11_copyHand_B74_1 at hF
              refine lv_iload hx hb dX11_copyHand_74 (lv_at hl 5 rfl) ?_
              refine lv_iload hx hb dX11_copyHand_76 (lv_at hl 4 rfl) ?_
              have gc_20_x_17 := q_rng x_17
              have gc_20_f_12 := q_rng f_12
              refine q_icmp_ge (A := x_17.toInt) (B := f_12.toInt) E rfl rfl (tgt := 107) dX11_copyHand_78 (by decide) (fun c_20 => ?_) (fun c_20 => ?_)
              · skip
                replace hF := q_ifn hF (Int.not_lt.mpr c_20)
                unfold F_X11_copyHand_E107_2 at hF
                refine lv_aload_n hx hb dX11_copyHand_107 rfl (lv_at hl 0 rfl) ?_
                refine lv_iload hx hb dX11_copyHand_108 (lv_at hl 4 rfl) ?_
                refine q_ci (q_runV (As := [.int f_12]) (rest := []) E (hml.trans hl.1.symm) hI (c_X11_good l X σ_18 a f_12 ha) kv_X11_156 ha ⟨rfl, by decide⟩ (show vwCl[10]? = some (RX11, TX11, 17) from rfl) rfl ⟨Nat.le_of_ble_eq_true rfl, Nat.le_of_ble_eq_true rfl⟩ ⟨Nat.le_refl _, Nat.le_refl _⟩ rfl (Nat.le_of_ble_eq_true rfl) dX11_copyHand_110) hI (by decide) (fun r_21 σ_22 H locs hpσ_22 hkσ_22 hI => ?_)
                obtain ⟨ahpσ_22, bhpσ_22, chpσ_22⟩ := hpσ_22
                have fr_σ_22 := fr_σ_18.call chpσ_22 rfl rfl
                replace hF := q_biX hF bhpσ_22
                exact q_reti E hr hlk hI ⟨(hF.trans hout), fr_σ_22⟩ dX11_copyHand_113
              · skip
                replace hF := q_ifp hF c_20
                refine lv_aload_n hx hb dX11_copyHand_81 rfl (lv_at hl 3 rfl) ?_
                refine lv_iload hx hb dX11_copyHand_82 (lv_at hl 5 rfl) ?_
                refine lv_aload_n hx hb dX11_copyHand_84 rfl (lv_at hl 0 rfl) ?_
                refine gs_X11_42_11 E hI ha dX11_copyHand_85 ?_
                refine gs_X11_222_1 E hI (q_tk (k' := 1) hI ha rfl (by decide)) dX11_copyHand_88 ?_
                refine lv_iload_n hx hb dX11_copyHand_91 rfl (lv_at hl 1 rfl) ?_
                refine lv_iload hx hb dX11_copyHand_92 (lv_at hl 5 rfl) ?_
                refine q_ci (q_runV (As := [.int v1, .int x_17]) (rest := [.int x_17, .ref r_1]) E (hml.trans hl.1.symm) hI (c_X1_heldBy l X σ_18 (q_rf X (q_rf X a 8) 1) v1 x_17 (q_tk (k' := 2) hI (q_tk (k' := 1) hI ha rfl (by decide)) rfl (by decide))) kv_X11_253 (q_tk (k' := 2) hI (q_tk (k' := 1) hI ha rfl (by decide)) rfl (by decide)) ⟨rfl, by decide⟩ (show vwCl[1]? = some (RX1, TX1, 7) from rfl) rfl ⟨Nat.le_of_ble_eq_true rfl, Nat.le_of_ble_eq_true rfl⟩ ⟨Nat.le_refl _, Nat.le_refl _⟩ rfl (Nat.le_of_ble_eq_true rfl) dX11_copyHand_94) hI (by decide) (fun r_23 σ_24 H locs hpσ_24 hkσ_24 hI => ?_)
                obtain ⟨ahpσ_24, bhpσ_24⟩ := hpσ_24
                rw [ahpσ_24] at hI
                replace hF := q_letX hF bhpσ_24
                refine lv_i2l hx hb dX11_copyHand_97 rfl ?_
                refine lv_topl (fun y_25 ey_25 => ?_)
                replace hF := q_letX hF ey_25
                refine q_cv (q_runV (As := [.int x_17, .long y_25]) (rest := []) E (hml.trans hl.1.symm) hI (c_X10_put l X σ_18 r_1 x_17 y_25 kq_r_1) kv_X11_105 kq_r_1 ⟨rfl, by decide⟩ (show vwCl[9]? = some (RX10, TX10, 3) from rfl) rfl ⟨Nat.le_of_ble_eq_true rfl, Nat.le_of_ble_eq_true rfl⟩ ⟨Nat.le_refl _, Nat.le_refl _⟩ rfl (Nat.le_of_ble_eq_true rfl) dX11_copyHand_98) hI (by decide) (fun σ_27 H locs hpσ_27 hkσ_27 hI => ?_)
                obtain ⟨ahpσ_27, bhpσ_27⟩ := hpσ_27
                have fr_σ_27 := fr_σ_18.call bhpσ_27 rfl rfl
                replace hF := q_letX hF ahpσ_27
                obtain ⟨z_28, ez_28⟩ : ∃ y : Int32, y = x_17 + 1 := ⟨_, rfl⟩
                replace hF := q_letX hF ez_28
                refine lv_iinc (v := z_28) (lv' := [(5, .int z_28), (0, .ref a), (1, .int v1), (2, .int v2), (3, .ref r_1), (4, .int f_12)]) hx hb dX11_copyHand_101 hl (k := 5) rfl (by rw [ez_28]; rfl) (by decide) rfl (fun ls hl => ?_)
                have iz_28 : z_28.toInt = x_17.toInt + 1 := q_inc ez_28 (by first | (clear ahpσ_2 bhpσ_2 chpσ_2 lo_r_1 hi_r_1 f0_r_1 f1_r_1 g1_r_1 ahpσ_7 bhpσ_7 dhpσ_7 c_8 chpσ_7 ahpσ_10 bhpσ_10 chpσ_10 c_11 kc_13 ahpσ_15 bhpσ_15 dhpσ_15 c_16 hm74 gc_20_f_12 ahpσ_24 bhpσ_24 ahpσ_27 bhpσ_27; omega) | omega)
                refine lv_goto (tgt := 74) hx hb dX11_copyHand_104 (by decide) ?_
                exact ih74 z_28 σ_27 _ _ ls (by first | (clear ahpσ_2 bhpσ_2 chpσ_2 lo_r_1 hi_r_1 f0_r_1 f1_r_1 g1_r_1 ahpσ_7 bhpσ_7 dhpσ_7 c_8 chpσ_7 ahpσ_10 bhpσ_10 chpσ_10 c_11 kc_13 ahpσ_15 bhpσ_15 dhpσ_15 c_16 gc_20_f_12 ahpσ_24 bhpσ_24 ahpσ_27 bhpσ_27; omega) | omega) (by first | (clear ahpσ_2 bhpσ_2 chpσ_2 lo_r_1 hi_r_1 f0_r_1 f1_r_1 g1_r_1 ahpσ_7 bhpσ_7 dhpσ_7 c_8 chpσ_7 ahpσ_10 bhpσ_10 chpσ_10 c_11 bf_12 kc_13 ahpσ_15 bhpσ_15 dhpσ_15 c_16 chpσ_15 hm74 gc_20_f_12 c_20 ahpσ_24 bhpσ_24 ahpσ_27 bhpσ_27; omega) | omega) fr_σ_27 hF hI (lv_sub hl [1, 2, 3, 4, 5, 0] rfl)
          exact L_74_19 ((2147483647 - (0 : Int32).toInt).toNat + 1) 0 σ _ _ ls (Nat.lt_succ_self _) (by decide) fr_σ hF hI (lv_sub hl [3, 4, 5, 2, 1, 0] rfl)
        · skip
          replace hF := q_ifp hF c_16
          replace chpσ_15 := q_ifNo chpσ_15 c_16
          refine lv_aload_n hx hb dX11_copyHand_65 rfl (lv_at hl 2 rfl) ?_
          refine lv_iconst (v := 4) hx hb dX11_copyHand_66 (by decide) ?_
          have kc_29 : (4 : Int32).toInt = 4 := rfl
          refine q_ci (q_runV (As := [.int 4]) (rest := []) E (hml.trans hl.1.symm) hI (c_X11_none l X σ a (4 : Int32) ha) kv_X11_109 ha ⟨rfl, by decide⟩ (show vwCl[10]? = some (RX11, TX11, 17) from rfl) rfl ⟨Nat.le_of_ble_eq_true rfl, Nat.le_of_ble_eq_true rfl⟩ ⟨Nat.le_refl _, Nat.le_refl _⟩ rfl (Nat.le_of_ble_eq_true rfl) dX11_copyHand_67) hI (by decide) (fun r_30 σ_31 H locs hpσ_31 hkσ_31 hI => ?_)
          obtain ⟨ahpσ_31, bhpσ_31, chpσ_31⟩ := hpσ_31
          have fr_σ_31 := fr_σ.call chpσ_31 rfl rfl
          replace hF := q_biX hF bhpσ_31
          exact q_reti E hr hlk hI ⟨(hF.trans hout), fr_σ_31⟩ dX11_copyHand_70
      · skip
        replace hF := q_ifp hF c_11
        refine lv_aload_n hx hb dX11_copyHand_37 rfl (lv_at hl 1 rfl) ?_
        refine lv_iconst (v := 2) hx hb dX11_copyHand_38 (by decide) ?_
        have kc_32 : (2 : Int32).toInt = 2 := rfl
        refine q_ci (q_runV (As := [.int 2]) (rest := []) E (hml.trans hl.1.symm) hI (c_X11_none l X σ a (2 : Int32) ha) kv_X11_109 ha ⟨rfl, by decide⟩ (show vwCl[10]? = some (RX11, TX11, 17) from rfl) rfl ⟨Nat.le_of_ble_eq_true rfl, Nat.le_of_ble_eq_true rfl⟩ ⟨Nat.le_refl _, Nat.le_refl _⟩ rfl (Nat.le_of_ble_eq_true rfl) dX11_copyHand_39) hI (by decide) (fun r_33 σ_34 H locs hpσ_34 hkσ_34 hI => ?_)
        obtain ⟨ahpσ_34, bhpσ_34, chpσ_34⟩ := hpσ_34
        have fr_σ_34 := fr_σ.call chpσ_34 rfl rfl
        replace hF := q_biX hF bhpσ_34
        exact q_reti E hr hlk hI ⟨(hF.trans hout), fr_σ_34⟩ dX11_copyHand_42
    · skip
      replace hF := q_ifn hF c_8
      replace c_8 := q_ifOne bhpσ_7 c_8
      replace chpσ_7 := q_ifYes chpσ_7 c_8
      refine lv_aload_n hx hb dX11_copyHand_23 rfl (lv_at hl 1 rfl) ?_
      refine lv_iconst (v := 3) hx hb dX11_copyHand_24 (by decide) ?_
      have kc_35 : (3 : Int32).toInt = 3 := rfl
      refine q_ci (q_runV (As := [.int 3]) (rest := []) E (hml.trans hl.1.symm) hI (c_X11_none l X σ a (3 : Int32) ha) kv_X11_109 ha ⟨rfl, by decide⟩ (show vwCl[10]? = some (RX11, TX11, 17) from rfl) rfl ⟨Nat.le_of_ble_eq_true rfl, Nat.le_of_ble_eq_true rfl⟩ ⟨Nat.le_refl _, Nat.le_refl _⟩ rfl (Nat.le_of_ble_eq_true rfl) dX11_copyHand_25) hI (by decide) (fun r_36 σ_37 H locs hpσ_37 hkσ_37 hI => ?_)
      obtain ⟨ahpσ_37, bhpσ_37, chpσ_37⟩ := hpσ_37
      have fr_σ_37 := fr_σ.call chpσ_37 rfl rfl
      replace hF := q_biX hF bhpσ_37
      exact q_reti E hr hlk hI ⟨(hF.trans hout), fr_σ_37⟩ dX11_copyHand_28

set_option maxRecDepth 100000 in
set_option maxHeartbeats 4000000 in
theorem c_X11_isKindOrNone (l : Launch) (X : XW) (σ : ST) (a : Nat) (v1 : Int32) (ha : q_kd X a = 11) : Met l yX11_isKindOrNone (q_ws yX11_isKindOrNone cX11_isKindOrNone 2 (some .boolean)) (q_rm 1 21) (q_P X σ [.ref a, .int v1]) (q_Qi X 9 σ (fun (r : Int32) (σ' : ST) => σ' = σ ∧ (0 ≤ r.toInt ∧ r.toInt ≤ 1) ∧ r = F_X11_isKindOrNone X σ a v1)) 0 0 (q_reg X) := by
  refine q_met 9 (by first | exact rfl | decide +kernel) rfl (Nat.le_of_ble_eq_true rfl) (fun p e s m below meth c E hml hr hlk hI ls hl => ?_)
  have hx := E.1
  have hb := E.2.1
  have hl : lv_has ls 2 [(0, .ref a), (1, .int v1)] := hl
  obtain ⟨out, hout⟩ : ∃ o, o = F_X11_isKindOrNone X σ a v1 := ⟨_, rfl⟩
  have hF := hout.symm
  unfold F_X11_isKindOrNone at hF
  refine lv_iload_n hx hb dX11_isKindOrNone_0 rfl (lv_at hl 1 rfl) ?_
  refine lv_iconst (v := (-1)) hx hb dX11_isKindOrNone_1 (by decide) ?_
  refine q_icmp_eq (A := v1.toInt) (B := (-1)) E rfl (by decide) (tgt := 13) dX11_isKindOrNone_2 (by decide) (fun c_1 => ?_) (fun c_1 => ?_)
  · skip
    replace hF := q_ifp hF c_1
    refine lv_iconst (v := 1) hx hb dX11_isKindOrNone_13 (by decide) ?_
    refine lv_goto (tgt := 18) hx hb dX11_isKindOrNone_14 (by decide) ?_
    have hrv : (1 : Int32).toInt = 1 := rfl
    exact q_retz E hr hlk hI ⟨by decide, by decide⟩ ⟨rfl, ⟨by decide, by decide⟩, (hF.trans hout)⟩ dX11_isKindOrNone_18
  · skip
    replace hF := q_ifn hF c_1
    refine lv_aload_n hx hb dX11_isKindOrNone_5 rfl (lv_at hl 0 rfl) ?_
    refine lv_iload_n hx hb dX11_isKindOrNone_6 rfl (lv_at hl 1 rfl) ?_
    refine q_ci (q_runV (As := [.int v1]) (rest := []) E (hml.trans hl.1.symm) hI (c_X11_isKind l X σ a v1 ha) kv_X11_250 ha ⟨rfl, by decide⟩ (show vwCl[10]? = some (RX11, TX11, 17) from rfl) rfl ⟨Nat.le_of_ble_eq_true rfl, Nat.le_of_ble_eq_true rfl⟩ ⟨Nat.le_refl _, Nat.le_refl _⟩ rfl (Nat.le_of_ble_eq_true rfl) dX11_isKindOrNone_7) hI (by decide) (fun r_2 σ_3 H locs hpσ_3 hkσ_3 hI => ?_)
    obtain ⟨ahpσ_3, bhpσ_3, chpσ_3⟩ := hpσ_3
    rw [ahpσ_3] at hI
    replace hF := q_letX hF chpσ_3
    refine q_if_eq (A := r_2.toInt) E rfl (tgt := 17) dX11_isKindOrNone_10 (by decide) (fun c_4 => ?_) (fun c_4 => ?_)
    · skip
      replace hF := q_ifp hF c_4
      refine lv_iconst (v := 0) hx hb dX11_isKindOrNone_17 (by decide) ?_
      have hrv : (0 : Int32).toInt = 0 := rfl
      exact q_retz E hr hlk hI ⟨by decide, by decide⟩ ⟨rfl, ⟨by decide, by decide⟩, (hF.trans hout)⟩ dX11_isKindOrNone_18
    · skip
      replace hF := q_ifn hF c_4
      replace c_4 := q_ifOne bhpσ_3 c_4
      refine lv_iconst (v := 1) hx hb dX11_isKindOrNone_13 (by decide) ?_
      refine lv_goto (tgt := 18) hx hb dX11_isKindOrNone_14 (by decide) ?_
      have hrv : (1 : Int32).toInt = 1 := rfl
      exact q_retz E hr hlk hI ⟨by decide, by decide⟩ ⟨rfl, ⟨by decide, by decide⟩, (hF.trans hout)⟩ dX11_isKindOrNone_18

set_option maxRecDepth 100000 in
set_option maxHeartbeats 4000000 in
theorem c_X11_lay (l : Launch) (X : XW) (σ : ST) (a : Nat) (v1 : Int32) (v2 : Int32) (v3 : Int32) (v4 : Int32) (ha : q_kd X a = 11) : Met l yX11_lay (q_ws yX11_lay cX11_lay 5 (some .int)) (q_rm 4 89) (q_P X σ [.ref a, .int v1, .int v2, .int v3, .int v4]) (q_Qi X 8 σ (fun (r : Int32) (σ' : ST) => (r, σ') = F_X11_lay X σ a v1 v2 v3 v4 ∧ q_ow [(1, 7), (1, 9), (3, 0), (3, 1), (11, 0), (20, 99)] [] X σ σ')) 0 0 (q_reg X) := by
  refine q_met 8 (by first | exact rfl | decide +kernel) rfl (Nat.le_of_ble_eq_true rfl) (fun p e s m below meth c E hml hr hlk hI ls hl => ?_)
  have hx := E.1
  have hb := E.2.1
  have hl : lv_has ls 5 [(0, .ref a), (1, .int v1), (2, .int v2), (3, .int v3), (4, .int v4)] := hl
  have fr_σ : q_ow [(1, 7), (1, 9), (3, 0), (3, 1), (11, 0), (20, 99)] [] X σ σ := q_ow.rf
  obtain ⟨out, hout⟩ : ∃ o, o = F_X11_lay X σ a v1 v2 v3 v4 := ⟨_, rfl⟩
  have hF := hout.symm
  unfold F_X11_lay at hF
  refine lv_aload_n hx hb dX11_lay_0 rfl (lv_at hl 0 rfl) ?_
  refine lv_iload_n hx hb dX11_lay_1 rfl (lv_at hl 1 rfl) ?_
  refine q_ci (q_runV (As := [.int v1]) (rest := []) E (hml.trans hl.1.symm) hI (c_X11_isKindOrNone l X σ a v1 ha) kv_X11_275 ha ⟨rfl, by decide⟩ (show vwCl[10]? = some (RX11, TX11, 17) from rfl) rfl ⟨Nat.le_of_ble_eq_true rfl, Nat.le_of_ble_eq_true rfl⟩ ⟨Nat.le_refl _, Nat.le_refl _⟩ rfl (Nat.le_of_ble_eq_true rfl) dX11_lay_2) hI (by decide) (fun r_1 σ_2 H locs hpσ_2 hkσ_2 hI => ?_)
  obtain ⟨ahpσ_2, bhpσ_2, chpσ_2⟩ := hpσ_2
  rw [ahpσ_2] at hI
  replace hF := q_letX hF chpσ_2
  refine q_if_eq (A := r_1.toInt) E rfl (tgt := 33) dX11_lay_5 (by decide) (fun c_3 => ?_) (fun c_3 => ?_)
  · skip
    replace hF := q_ifp hF c_3
    refine lv_aload_n hx hb dX11_lay_33 rfl (lv_at hl 0 rfl) ?_
    refine lv_iconst (v := 2) hx hb dX11_lay_34 (by decide) ?_
    have kc_4 : (2 : Int32).toInt = 2 := rfl
    refine q_ci (q_runV (As := [.int 2]) (rest := []) E (hml.trans hl.1.symm) hI (c_X11_none l X σ a (2 : Int32) ha) kv_X11_109 ha ⟨rfl, by decide⟩ (show vwCl[10]? = some (RX11, TX11, 17) from rfl) rfl ⟨Nat.le_of_ble_eq_true rfl, Nat.le_of_ble_eq_true rfl⟩ ⟨Nat.le_refl _, Nat.le_refl _⟩ rfl (Nat.le_of_ble_eq_true rfl) dX11_lay_35) hI (by decide) (fun r_5 σ_6 H locs hpσ_6 hkσ_6 hI => ?_)
    obtain ⟨ahpσ_6, bhpσ_6, chpσ_6⟩ := hpσ_6
    have fr_σ_6 := fr_σ.call chpσ_6 rfl rfl
    replace hF := q_biX hF bhpσ_6
    exact q_reti E hr hlk hI ⟨(hF.trans hout), fr_σ_6⟩ dX11_lay_38
  · skip
    replace hF := q_ifn hF c_3
    replace c_3 := q_ifOne bhpσ_2 c_3
    refine lv_aload_n hx hb dX11_lay_8 rfl (lv_at hl 0 rfl) ?_
    refine lv_iload_n hx hb dX11_lay_9 rfl (lv_at hl 2 rfl) ?_
    refine q_ci (q_runV (As := [.int v2]) (rest := []) E (hml.trans hl.1.symm) hI (c_X11_isKindOrNone l X σ a v2 ha) kv_X11_275 ha ⟨rfl, by decide⟩ (show vwCl[10]? = some (RX11, TX11, 17) from rfl) rfl ⟨Nat.le_of_ble_eq_true rfl, Nat.le_of_ble_eq_true rfl⟩ ⟨Nat.le_refl _, Nat.le_refl _⟩ rfl (Nat.le_of_ble_eq_true rfl) dX11_lay_10) hI (by decide) (fun r_7 σ_8 H locs hpσ_8 hkσ_8 hI => ?_)
    obtain ⟨ahpσ_8, bhpσ_8, chpσ_8⟩ := hpσ_8
    rw [ahpσ_8] at hI
    replace hF := q_letX hF chpσ_8
    refine q_if_eq (A := r_7.toInt) E rfl (tgt := 33) dX11_lay_13 (by decide) (fun c_9 => ?_) (fun c_9 => ?_)
    · skip
      replace hF := q_ifp hF c_9
      refine lv_aload_n hx hb dX11_lay_33 rfl (lv_at hl 0 rfl) ?_
      refine lv_iconst (v := 2) hx hb dX11_lay_34 (by decide) ?_
      have kc_10 : (2 : Int32).toInt = 2 := rfl
      refine q_ci (q_runV (As := [.int 2]) (rest := []) E (hml.trans hl.1.symm) hI (c_X11_none l X σ a (2 : Int32) ha) kv_X11_109 ha ⟨rfl, by decide⟩ (show vwCl[10]? = some (RX11, TX11, 17) from rfl) rfl ⟨Nat.le_of_ble_eq_true rfl, Nat.le_of_ble_eq_true rfl⟩ ⟨Nat.le_refl _, Nat.le_refl _⟩ rfl (Nat.le_of_ble_eq_true rfl) dX11_lay_35) hI (by decide) (fun r_11 σ_12 H locs hpσ_12 hkσ_12 hI => ?_)
      obtain ⟨ahpσ_12, bhpσ_12, chpσ_12⟩ := hpσ_12
      have fr_σ_12 := fr_σ.call chpσ_12 rfl rfl
      replace hF := q_biX hF bhpσ_12
      exact q_reti E hr hlk hI ⟨(hF.trans hout), fr_σ_12⟩ dX11_lay_38
    · skip
      replace hF := q_ifn hF c_9
      replace c_9 := q_ifOne bhpσ_8 c_9
      refine lv_aload_n hx hb dX11_lay_16 rfl (lv_at hl 0 rfl) ?_
      refine lv_iload_n hx hb dX11_lay_17 rfl (lv_at hl 3 rfl) ?_
      refine q_ci (q_runV (As := [.int v3]) (rest := []) E (hml.trans hl.1.symm) hI (c_X11_isKindOrNone l X σ a v3 ha) kv_X11_275 ha ⟨rfl, by decide⟩ (show vwCl[10]? = some (RX11, TX11, 17) from rfl) rfl ⟨Nat.le_of_ble_eq_true rfl, Nat.le_of_ble_eq_true rfl⟩ ⟨Nat.le_refl _, Nat.le_refl _⟩ rfl (Nat.le_of_ble_eq_true rfl) dX11_lay_18) hI (by decide) (fun r_13 σ_14 H locs hpσ_14 hkσ_14 hI => ?_)
      obtain ⟨ahpσ_14, bhpσ_14, chpσ_14⟩ := hpσ_14
      rw [ahpσ_14] at hI
      replace hF := q_letX hF chpσ_14
      refine q_if_eq (A := r_13.toInt) E rfl (tgt := 33) dX11_lay_21 (by decide) (fun c_15 => ?_) (fun c_15 => ?_)
      · skip
        replace hF := q_ifp hF c_15
        refine lv_aload_n hx hb dX11_lay_33 rfl (lv_at hl 0 rfl) ?_
        refine lv_iconst (v := 2) hx hb dX11_lay_34 (by decide) ?_
        have kc_16 : (2 : Int32).toInt = 2 := rfl
        refine q_ci (q_runV (As := [.int 2]) (rest := []) E (hml.trans hl.1.symm) hI (c_X11_none l X σ a (2 : Int32) ha) kv_X11_109 ha ⟨rfl, by decide⟩ (show vwCl[10]? = some (RX11, TX11, 17) from rfl) rfl ⟨Nat.le_of_ble_eq_true rfl, Nat.le_of_ble_eq_true rfl⟩ ⟨Nat.le_refl _, Nat.le_refl _⟩ rfl (Nat.le_of_ble_eq_true rfl) dX11_lay_35) hI (by decide) (fun r_17 σ_18 H locs hpσ_18 hkσ_18 hI => ?_)
        obtain ⟨ahpσ_18, bhpσ_18, chpσ_18⟩ := hpσ_18
        have fr_σ_18 := fr_σ.call chpσ_18 rfl rfl
        replace hF := q_biX hF bhpσ_18
        exact q_reti E hr hlk hI ⟨(hF.trans hout), fr_σ_18⟩ dX11_lay_38
      · skip
        replace hF := q_ifn hF c_15
        replace c_15 := q_ifOne bhpσ_14 c_15
        refine lv_aload_n hx hb dX11_lay_24 rfl (lv_at hl 0 rfl) ?_
        refine lv_iload hx hb dX11_lay_25 (lv_at hl 4 rfl) ?_
        refine q_ci (q_runV (As := [.int v4]) (rest := []) E (hml.trans hl.1.symm) hI (c_X11_isKindOrNone l X σ a v4 ha) kv_X11_275 ha ⟨rfl, by decide⟩ (show vwCl[10]? = some (RX11, TX11, 17) from rfl) rfl ⟨Nat.le_of_ble_eq_true rfl, Nat.le_of_ble_eq_true rfl⟩ ⟨Nat.le_refl _, Nat.le_refl _⟩ rfl (Nat.le_of_ble_eq_true rfl) dX11_lay_27) hI (by decide) (fun r_19 σ_20 H locs hpσ_20 hkσ_20 hI => ?_)
        obtain ⟨ahpσ_20, bhpσ_20, chpσ_20⟩ := hpσ_20
        rw [ahpσ_20] at hI
        replace hF := q_letX hF chpσ_20
        refine q_if_ne (A := r_19.toInt) E rfl (tgt := 39) dX11_lay_30 (by decide) (fun c_21 => ?_) (fun c_21 => ?_)
        · skip
          replace hF := q_ifn hF c_21
          replace c_21 := q_ifOne bhpσ_20 c_21
          refine lv_iload_n hx hb dX11_lay_39 rfl (lv_at hl 1 rfl) ?_
          refine lv_iconst (v := (-1)) hx hb dX11_lay_40 (by decide) ?_
          refine q_icmp_eq (A := v1.toInt) (B := (-1)) E rfl (by decide) (tgt := 65) dX11_lay_41 (by decide) (fun c_22 => ?_) (fun c_22 => ?_)
          · skip
            replace hF := q_ifp hF c_22
            refine lv_aload_n hx hb dX11_lay_65 rfl (lv_at hl 0 rfl) ?_
            refine lv_iconst (v := 5) hx hb dX11_lay_66 (by decide) ?_
            have kc_23 : (5 : Int32).toInt = 5 := rfl
            refine q_ci (q_runV (As := [.int 5]) (rest := []) E (hml.trans hl.1.symm) hI (c_X11_none l X σ a (5 : Int32) ha) kv_X11_109 ha ⟨rfl, by decide⟩ (show vwCl[10]? = some (RX11, TX11, 17) from rfl) rfl ⟨Nat.le_of_ble_eq_true rfl, Nat.le_of_ble_eq_true rfl⟩ ⟨Nat.le_refl _, Nat.le_refl _⟩ rfl (Nat.le_of_ble_eq_true rfl) dX11_lay_67) hI (by decide) (fun r_24 σ_25 H locs hpσ_25 hkσ_25 hI => ?_)
            obtain ⟨ahpσ_25, bhpσ_25, chpσ_25⟩ := hpσ_25
            have fr_σ_25 := fr_σ.call chpσ_25 rfl rfl
            replace hF := q_biX hF bhpσ_25
            exact q_reti E hr hlk hI ⟨(hF.trans hout), fr_σ_25⟩ dX11_lay_70
          · skip
            replace hF := q_ifn hF c_22
            refine lv_iload_n hx hb dX11_lay_44 rfl (lv_at hl 2 rfl) ?_
            refine lv_iconst (v := (-1)) hx hb dX11_lay_45 (by decide) ?_
            have J_54_25 : ∀  (H : Heap) (locs : List Loc) (ls : Array Slot), (F_X11_lay_J54_1 X v3 v4 σ a v1 v2 = out) → q_I X 8 σ s.heap locs σ H → lv_has ls 5 [(0, .ref a), (1, .int v1), (2, .int v2), (3, .int v3), (4, .int v4)] → W p l e (q_rm 4 89) s m ([.ref a, .int v1, .int v2, .int v3, .int v4] : List Value).toArray below meth c H locs 0 0 (MQ below (q_Qi X 8 σ (fun (r : Int32) (σ' : ST) => (r, σ') = F_X11_lay X σ a v1 v2 v3 v4 ∧ q_ow [(1, 7), (1, 9), (3, 0), (3, 1), (11, 0), (20, 99)] [] X σ σ')) ([.ref a, .int v1, .int v2, .int v3, .int v4] : List Value).toArray s 0 0 (q_reg X)) (F0 m 54 ls []) := by
              clear hF
              intro  H locs ls  hF hI hl
              unfold F_X11_lay_J54_1 at hF
              refine lv_iload_n hx hb dX11_lay_54 rfl (lv_at hl 3 rfl) ?_
              refine lv_iconst (v := (-1)) hx hb dX11_lay_55 (by decide) ?_
              have J_71_25 : ∀  (H : Heap) (locs : List Loc) (ls : Array Slot), (F_X11_lay_J71_2 X σ a v1 v2 v3 v4 = out) → q_I X 8 σ s.heap locs σ H → lv_has ls 5 [(0, .ref a), (1, .int v1), (2, .int v2), (3, .int v3), (4, .int v4)] → W p l e (q_rm 4 89) s m ([.ref a, .int v1, .int v2, .int v3, .int v4] : List Value).toArray below meth c H locs 0 0 (MQ below (q_Qi X 8 σ (fun (r : Int32) (σ' : ST) => (r, σ') = F_X11_lay X σ a v1 v2 v3 v4 ∧ q_ow [(1, 7), (1, 9), (3, 0), (3, 1), (11, 0), (20, 99)] [] X σ σ')) ([.ref a, .int v1, .int v2, .int v3, .int v4] : List Value).toArray s 0 0 (q_reg X)) (F0 m 71 ls []) := by
                clear hF
                intro  H locs ls  hF hI hl
                unfold F_X11_lay_J71_2 at hF
                refine lv_aload_n hx hb dX11_lay_71 rfl (lv_at hl 0 rfl) ?_
                refine gs_X11_42_11 E hI ha dX11_lay_72 ?_
                refine q_cv (q_runV (As := []) (rest := []) E (hml.trans hl.1.symm) hI (c_X0_clearWanted l X σ (q_rf X a 8) (q_tk (k' := 1) hI ha rfl (by decide))) kv_X11_278 (q_tk (k' := 1) hI ha rfl (by decide)) ⟨rfl, by decide⟩ (show vwCl[0]? = some (RX0, TX0, 15) from rfl) rfl ⟨Nat.le_of_ble_eq_true rfl, Nat.le_of_ble_eq_true rfl⟩ ⟨Nat.le_refl _, Nat.le_refl _⟩ rfl (Nat.le_of_ble_eq_true rfl) dX11_lay_75) hI (by decide) (fun σ_27 H locs hpσ_27 hkσ_27 hI => ?_)
                obtain ⟨ahpσ_27, bhpσ_27⟩ := hpσ_27
                have fr_σ_27 := fr_σ.call bhpσ_27 rfl rfl
                replace hF := q_letX hF ahpσ_27
                refine lv_aload_n hx hb dX11_lay_78 rfl (lv_at hl 0 rfl) ?_
                refine gs_X11_42_11 E hI ha dX11_lay_79 ?_
                refine lv_iload_n hx hb dX11_lay_82 rfl (lv_at hl 1 rfl) ?_
                refine lv_iconst (v := 1) hx hb dX11_lay_83 (by decide) ?_
                have kc_28 : (1 : Int32).toInt = 1 := rfl
                refine q_cv (q_runV (As := [.int v1, .int 1]) (rest := []) E (hml.trans hl.1.symm) hI (c_X0_want l X σ_27 (q_rf X a 8) v1 (1 : Int32) (q_tk (k' := 1) hI ha rfl (by decide))) kv_X11_281 (q_tk (k' := 1) hI ha rfl (by decide)) ⟨rfl, by decide⟩ (show vwCl[0]? = some (RX0, TX0, 15) from rfl) rfl ⟨Nat.le_of_ble_eq_true rfl, Nat.le_of_ble_eq_true rfl⟩ ⟨Nat.le_refl _, Nat.le_refl _⟩ rfl (Nat.le_of_ble_eq_true rfl) dX11_lay_84) hI (by decide) (fun σ_30 H locs hpσ_30 hkσ_30 hI => ?_)
                obtain ⟨ahpσ_30, bhpσ_30⟩ := hpσ_30
                have fr_σ_30 := fr_σ_27.call bhpσ_30 rfl rfl
                replace hF := q_letX hF ahpσ_30
                refine lv_aload_n hx hb dX11_lay_87 rfl (lv_at hl 0 rfl) ?_
                refine gs_X11_42_11 E hI ha dX11_lay_88 ?_
                refine lv_iload_n hx hb dX11_lay_91 rfl (lv_at hl 2 rfl) ?_
                refine lv_iconst (v := 1) hx hb dX11_lay_92 (by decide) ?_
                have kc_31 : (1 : Int32).toInt = 1 := rfl
                refine q_cv (q_runV (As := [.int v2, .int 1]) (rest := []) E (hml.trans hl.1.symm) hI (c_X0_want l X σ_30 (q_rf X a 8) v2 (1 : Int32) (q_tk (k' := 1) hI ha rfl (by decide))) kv_X11_281 (q_tk (k' := 1) hI ha rfl (by decide)) ⟨rfl, by decide⟩ (show vwCl[0]? = some (RX0, TX0, 15) from rfl) rfl ⟨Nat.le_of_ble_eq_true rfl, Nat.le_of_ble_eq_true rfl⟩ ⟨Nat.le_refl _, Nat.le_refl _⟩ rfl (Nat.le_of_ble_eq_true rfl) dX11_lay_93) hI (by decide) (fun σ_33 H locs hpσ_33 hkσ_33 hI => ?_)
                obtain ⟨ahpσ_33, bhpσ_33⟩ := hpσ_33
                have fr_σ_33 := fr_σ_30.call bhpσ_33 rfl rfl
                replace hF := q_letX hF ahpσ_33
                refine lv_aload_n hx hb dX11_lay_96 rfl (lv_at hl 0 rfl) ?_
                refine gs_X11_42_11 E hI ha dX11_lay_97 ?_
                refine lv_iload_n hx hb dX11_lay_100 rfl (lv_at hl 3 rfl) ?_
                refine lv_iconst (v := 1) hx hb dX11_lay_101 (by decide) ?_
                have kc_34 : (1 : Int32).toInt = 1 := rfl
                refine q_cv (q_runV (As := [.int v3, .int 1]) (rest := []) E (hml.trans hl.1.symm) hI (c_X0_want l X σ_33 (q_rf X a 8) v3 (1 : Int32) (q_tk (k' := 1) hI ha rfl (by decide))) kv_X11_281 (q_tk (k' := 1) hI ha rfl (by decide)) ⟨rfl, by decide⟩ (show vwCl[0]? = some (RX0, TX0, 15) from rfl) rfl ⟨Nat.le_of_ble_eq_true rfl, Nat.le_of_ble_eq_true rfl⟩ ⟨Nat.le_refl _, Nat.le_refl _⟩ rfl (Nat.le_of_ble_eq_true rfl) dX11_lay_102) hI (by decide) (fun σ_36 H locs hpσ_36 hkσ_36 hI => ?_)
                obtain ⟨ahpσ_36, bhpσ_36⟩ := hpσ_36
                have fr_σ_36 := fr_σ_33.call bhpσ_36 rfl rfl
                replace hF := q_letX hF ahpσ_36
                refine lv_aload_n hx hb dX11_lay_105 rfl (lv_at hl 0 rfl) ?_
                refine gs_X11_42_11 E hI ha dX11_lay_106 ?_
                refine lv_iload hx hb dX11_lay_109 (lv_at hl 4 rfl) ?_
                refine lv_iconst (v := 1) hx hb dX11_lay_111 (by decide) ?_
                have kc_37 : (1 : Int32).toInt = 1 := rfl
                refine q_cv (q_runV (As := [.int v4, .int 1]) (rest := []) E (hml.trans hl.1.symm) hI (c_X0_want l X σ_36 (q_rf X a 8) v4 (1 : Int32) (q_tk (k' := 1) hI ha rfl (by decide))) kv_X11_281 (q_tk (k' := 1) hI ha rfl (by decide)) ⟨rfl, by decide⟩ (show vwCl[0]? = some (RX0, TX0, 15) from rfl) rfl ⟨Nat.le_of_ble_eq_true rfl, Nat.le_of_ble_eq_true rfl⟩ ⟨Nat.le_refl _, Nat.le_refl _⟩ rfl (Nat.le_of_ble_eq_true rfl) dX11_lay_112) hI (by decide) (fun σ_39 H locs hpσ_39 hkσ_39 hI => ?_)
                obtain ⟨ahpσ_39, bhpσ_39⟩ := hpσ_39
                have fr_σ_39 := fr_σ_36.call bhpσ_39 rfl rfl
                replace hF := q_letX hF ahpσ_39
                refine lv_aload_n hx hb dX11_lay_115 rfl (lv_at hl 0 rfl) ?_
                refine gs_X11_42_11 E hI ha dX11_lay_116 ?_
                refine gs_X11_284_1 E hI (q_tk (k' := 1) hI ha rfl (by decide)) dX11_lay_119 ?_
                refine lv_topi (fun f_40 ef_40 => ?_)
                replace hF := q_letX hF ef_40
                refine lv_aload_n hx hb dX11_lay_122 rfl (lv_at hl 0 rfl) ?_
                refine gs_X11_42_11 E hI ha dX11_lay_123 ?_
                refine gs_X11_147_1 E hI (q_tk (k' := 1) hI ha rfl (by decide)) dX11_lay_126 ?_
                refine gs_X11_192_6 E hI (q_tk (k' := 6) hI (q_tk (k' := 1) hI ha rfl (by decide)) rfl (by decide)) dX11_lay_129 ?_
                refine lv_topi (fun f_41 ef_41 => ?_)
                replace hF := q_letX hF ef_41
                have bf_41 : -2147483648 ≤ f_41.toInt ∧ f_41.toInt ≤ 4 := by rw [ef_41]; exact q_bd hI (q_tk (k' := 6) hI (q_tk (k' := 1) hI ha rfl (by decide)) rfl (by decide)) rfl
                refine q_icmp_le (A := f_40.toInt) (B := f_41.toInt) E rfl rfl (tgt := 142) dX11_lay_132 (by decide) (fun c_42 => ?_) (fun c_42 => ?_)
                · skip
                  replace hF := q_ifn hF (Int.not_lt.mpr c_42)
                  refine lv_aload_n hx hb dX11_lay_142 rfl (lv_at hl 0 rfl) ?_
                  refine gs_X11_42_11 E hI ha dX11_lay_143 ?_
                  refine gs_X11_210_1 E hI (q_tk (k' := 1) hI ha rfl (by decide)) dX11_lay_146 ?_
                  refine lv_topi (fun f_43 ef_43 => ?_)
                  replace hF := q_letX hF ef_43
                  have bf_43 : 0 ≤ f_43.toInt ∧ f_43.toInt ≤ 1 := by rw [ef_43]; exact q_bd hI (q_tk (k' := 1) hI ha rfl (by decide)) rfl
                  refine q_if_ne (A := f_43.toInt) E rfl (tgt := 186) dX11_lay_149 (by decide) (fun c_44 => ?_) (fun c_44 => ?_)
                  · skip
                    replace hF := q_ifn hF c_44
                    refine lv_aload_n hx hb dX11_lay_186 rfl (lv_at hl 0 rfl) ?_
                    refine lv_bipush (v := 9) hx hb dX11_lay_187 (by decide) ?_
                    have kc_45 : (9 : Int32).toInt = 9 := rfl
                    refine q_ci (q_runV (As := [.int 9]) (rest := []) E (hml.trans hl.1.symm) hI (c_X11_none l X σ_39 a (9 : Int32) ha) kv_X11_109 ha ⟨rfl, by decide⟩ (show vwCl[10]? = some (RX11, TX11, 17) from rfl) rfl ⟨Nat.le_of_ble_eq_true rfl, Nat.le_of_ble_eq_true rfl⟩ ⟨Nat.le_refl _, Nat.le_refl _⟩ rfl (Nat.le_of_ble_eq_true rfl) dX11_lay_189) hI (by decide) (fun r_46 σ_47 H locs hpσ_47 hkσ_47 hI => ?_)
                    obtain ⟨ahpσ_47, bhpσ_47, chpσ_47⟩ := hpσ_47
                    have fr_σ_47 := fr_σ_39.call chpσ_47 rfl rfl
                    replace hF := q_biX hF bhpσ_47
                    exact q_reti E hr hlk hI ⟨(hF.trans hout), fr_σ_47⟩ dX11_lay_192
                  · skip
                    replace hF := q_ifp hF c_44
                    refine lv_aload_n hx hb dX11_lay_152 rfl (lv_at hl 0 rfl) ?_
                    refine gs_X11_42_11 E hI ha dX11_lay_153 ?_
                    refine gs_X11_213_1 E hI (q_tk (k' := 1) hI ha rfl (by decide)) dX11_lay_156 ?_
                    refine lv_topi (fun f_48 ef_48 => ?_)
                    replace hF := q_letX hF ef_48
                    refine lv_iconst (v := (-1)) hx hb dX11_lay_159 (by decide) ?_
                    refine q_icmp_ne (A := f_48.toInt) (B := (-1)) E rfl (by decide) (tgt := 186) dX11_lay_160 (by decide) (fun c_49 => ?_) (fun c_49 => ?_)
                    · skip
                      replace hF := q_ifn hF c_49
                      refine lv_aload_n hx hb dX11_lay_186 rfl (lv_at hl 0 rfl) ?_
                      refine lv_bipush (v := 9) hx hb dX11_lay_187 (by decide) ?_
                      have kc_50 : (9 : Int32).toInt = 9 := rfl
                      refine q_ci (q_runV (As := [.int 9]) (rest := []) E (hml.trans hl.1.symm) hI (c_X11_none l X σ_39 a (9 : Int32) ha) kv_X11_109 ha ⟨rfl, by decide⟩ (show vwCl[10]? = some (RX11, TX11, 17) from rfl) rfl ⟨Nat.le_of_ble_eq_true rfl, Nat.le_of_ble_eq_true rfl⟩ ⟨Nat.le_refl _, Nat.le_refl _⟩ rfl (Nat.le_of_ble_eq_true rfl) dX11_lay_189) hI (by decide) (fun r_51 σ_52 H locs hpσ_52 hkσ_52 hI => ?_)
                      obtain ⟨ahpσ_52, bhpσ_52, chpσ_52⟩ := hpσ_52
                      have fr_σ_52 := fr_σ_39.call chpσ_52 rfl rfl
                      replace hF := q_biX hF bhpσ_52
                      exact q_reti E hr hlk hI ⟨(hF.trans hout), fr_σ_52⟩ dX11_lay_192
                    · skip
                      replace hF := q_ifp hF c_49
                      refine lv_aload_n hx hb dX11_lay_163 rfl (lv_at hl 0 rfl) ?_
                      refine gs_X11_42_11 E hI ha dX11_lay_164 ?_
                      refine gs_X11_147_1 E hI (q_tk (k' := 1) hI ha rfl (by decide)) dX11_lay_167 ?_
                      refine gs_X11_151_6 E hI (q_tk (k' := 6) hI (q_tk (k' := 1) hI ha rfl (by decide)) rfl (by decide)) dX11_lay_170 ?_
                      refine lv_topi (fun f_53 ef_53 => ?_)
                      replace hF := q_letX hF ef_53
                      refine q_if_eq (A := f_53.toInt) E rfl (tgt := 186) dX11_lay_173 (by decide) (fun c_54 => ?_) (fun c_54 => ?_)
                      · skip
                        replace hF := q_ifp hF c_54
                        refine lv_aload_n hx hb dX11_lay_186 rfl (lv_at hl 0 rfl) ?_
                        refine lv_bipush (v := 9) hx hb dX11_lay_187 (by decide) ?_
                        have kc_55 : (9 : Int32).toInt = 9 := rfl
                        refine q_ci (q_runV (As := [.int 9]) (rest := []) E (hml.trans hl.1.symm) hI (c_X11_none l X σ_39 a (9 : Int32) ha) kv_X11_109 ha ⟨rfl, by decide⟩ (show vwCl[10]? = some (RX11, TX11, 17) from rfl) rfl ⟨Nat.le_of_ble_eq_true rfl, Nat.le_of_ble_eq_true rfl⟩ ⟨Nat.le_refl _, Nat.le_refl _⟩ rfl (Nat.le_of_ble_eq_true rfl) dX11_lay_189) hI (by decide) (fun r_56 σ_57 H locs hpσ_57 hkσ_57 hI => ?_)
                        obtain ⟨ahpσ_57, bhpσ_57, chpσ_57⟩ := hpσ_57
                        have fr_σ_57 := fr_σ_39.call chpσ_57 rfl rfl
                        replace hF := q_biX hF bhpσ_57
                        exact q_reti E hr hlk hI ⟨(hF.trans hout), fr_σ_57⟩ dX11_lay_192
                      · skip
                        replace hF := q_ifn hF c_54
                        refine lv_aload_n hx hb dX11_lay_176 rfl (lv_at hl 0 rfl) ?_
                        refine gs_X11_42_11 E hI ha dX11_lay_177 ?_
                        refine q_ci (q_runV (As := []) (rest := []) E (hml.trans hl.1.symm) hI (c_X0_holdsWanted l X σ_39 (q_rf X a 8) (q_tk (k' := 1) hI ha rfl (by decide))) kv_X11_287 (q_tk (k' := 1) hI ha rfl (by decide)) ⟨rfl, by decide⟩ (show vwCl[0]? = some (RX0, TX0, 15) from rfl) rfl ⟨Nat.le_of_ble_eq_true rfl, Nat.le_of_ble_eq_true rfl⟩ ⟨Nat.le_refl _, Nat.le_refl _⟩ rfl (Nat.le_of_ble_eq_true rfl) dX11_lay_180) hI (by decide) (fun r_58 σ_59 H locs hpσ_59 hkσ_59 hI => ?_)
                        obtain ⟨ahpσ_59, bhpσ_59, chpσ_59⟩ := hpσ_59
                        rw [ahpσ_59] at hI
                        replace hF := q_letX hF chpσ_59
                        refine q_if_ne (A := r_58.toInt) E rfl (tgt := 193) dX11_lay_183 (by decide) (fun c_60 => ?_) (fun c_60 => ?_)
                        · skip
                          replace hF := q_ifn hF c_60
                          replace c_60 := q_ifOne bhpσ_59 c_60
                          refine lv_aload_n hx hb dX11_lay_193 rfl (lv_at hl 0 rfl) ?_
                          refine gs_X11_42_11 E hI ha dX11_lay_194 ?_
                          refine q_cv (q_runV (As := []) (rest := []) E (hml.trans hl.1.symm) hI (c_X0_layWanted l X σ_39 (q_rf X a 8) (q_tk (k' := 1) hI ha rfl (by decide))) kv_X11_290 (q_tk (k' := 1) hI ha rfl (by decide)) ⟨rfl, by decide⟩ (show vwCl[0]? = some (RX0, TX0, 15) from rfl) rfl ⟨Nat.le_of_ble_eq_true rfl, Nat.le_of_ble_eq_true rfl⟩ ⟨Nat.le_refl _, Nat.le_refl _⟩ rfl (Nat.le_of_ble_eq_true rfl) dX11_lay_197) hI (by decide) (fun σ_62 H locs hpσ_62 hkσ_62 hI => ?_)
                          obtain ⟨ahpσ_62, bhpσ_62⟩ := hpσ_62
                          have fr_σ_62 := fr_σ_39.call bhpσ_62 rfl rfl
                          replace hF := q_letX hF ahpσ_62
                          refine lv_aload_n hx hb dX11_lay_200 rfl (lv_at hl 0 rfl) ?_
                          refine lv_aload_n hx hb dX11_lay_201 rfl (lv_at hl 0 rfl) ?_
                          refine gs_X11_42_11 E hI ha dX11_lay_202 ?_
                          refine gs_X11_201_1 E hI (q_tk (k' := 1) hI ha rfl (by decide)) dX11_lay_205 ?_
                          refine gs_X11_205_3 E hI (q_tk (k' := 3) hI (q_tk (k' := 1) hI ha rfl (by decide)) rfl (by decide)) dX11_lay_208 ?_
                          refine lv_topi (fun f_63 ef_63 => ?_)
                          replace hF := q_letX hF ef_63
                          refine q_ci (q_runV (As := [.int f_63]) (rest := []) E (hml.trans hl.1.symm) hI (c_X11_good l X σ_62 a f_63 ha) kv_X11_156 ha ⟨rfl, by decide⟩ (show vwCl[10]? = some (RX11, TX11, 17) from rfl) rfl ⟨Nat.le_of_ble_eq_true rfl, Nat.le_of_ble_eq_true rfl⟩ ⟨Nat.le_refl _, Nat.le_refl _⟩ rfl (Nat.le_of_ble_eq_true rfl) dX11_lay_211) hI (by decide) (fun r_64 σ_65 H locs hpσ_65 hkσ_65 hI => ?_)
                          obtain ⟨ahpσ_65, bhpσ_65, chpσ_65⟩ := hpσ_65
                          have fr_σ_65 := fr_σ_62.call chpσ_65 rfl rfl
                          replace hF := q_biX hF bhpσ_65
                          exact q_reti E hr hlk hI ⟨(hF.trans hout), fr_σ_65⟩ dX11_lay_214
                        · skip
                          replace hF := q_ifp hF c_60
                          refine lv_aload_n hx hb dX11_lay_186 rfl (lv_at hl 0 rfl) ?_
                          refine lv_bipush (v := 9) hx hb dX11_lay_187 (by decide) ?_
                          have kc_66 : (9 : Int32).toInt = 9 := rfl
                          refine q_ci (q_runV (As := [.int 9]) (rest := []) E (hml.trans hl.1.symm) hI (c_X11_none l X σ_39 a (9 : Int32) ha) kv_X11_109 ha ⟨rfl, by decide⟩ (show vwCl[10]? = some (RX11, TX11, 17) from rfl) rfl ⟨Nat.le_of_ble_eq_true rfl, Nat.le_of_ble_eq_true rfl⟩ ⟨Nat.le_refl _, Nat.le_refl _⟩ rfl (Nat.le_of_ble_eq_true rfl) dX11_lay_189) hI (by decide) (fun r_67 σ_68 H locs hpσ_68 hkσ_68 hI => ?_)
                          obtain ⟨ahpσ_68, bhpσ_68, chpσ_68⟩ := hpσ_68
                          have fr_σ_68 := fr_σ_39.call chpσ_68 rfl rfl
                          replace hF := q_biX hF bhpσ_68
                          exact q_reti E hr hlk hI ⟨(hF.trans hout), fr_σ_68⟩ dX11_lay_192
                · skip
                  replace hF := q_ifp hF c_42
                  refine lv_aload_n hx hb dX11_lay_135 rfl (lv_at hl 0 rfl) ?_
                  refine lv_bipush (v := 7) hx hb dX11_lay_136 (by decide) ?_
                  have kc_69 : (7 : Int32).toInt = 7 := rfl
                  refine q_ci (q_runV (As := [.int 7]) (rest := []) E (hml.trans hl.1.symm) hI (c_X11_none l X σ_39 a (7 : Int32) ha) kv_X11_109 ha ⟨rfl, by decide⟩ (show vwCl[10]? = some (RX11, TX11, 17) from rfl) rfl ⟨Nat.le_of_ble_eq_true rfl, Nat.le_of_ble_eq_true rfl⟩ ⟨Nat.le_refl _, Nat.le_refl _⟩ rfl (Nat.le_of_ble_eq_true rfl) dX11_lay_138) hI (by decide) (fun r_70 σ_71 H locs hpσ_71 hkσ_71 hI => ?_)
                  obtain ⟨ahpσ_71, bhpσ_71, chpσ_71⟩ := hpσ_71
                  have fr_σ_71 := fr_σ_39.call chpσ_71 rfl rfl
                  replace hF := q_biX hF bhpσ_71
                  exact q_reti E hr hlk hI ⟨(hF.trans hout), fr_σ_71⟩ dX11_lay_141
              refine q_icmp_ne (A := v3.toInt) (B := (-1)) E rfl (by decide) (tgt := 71) dX11_lay_56 (by decide) (fun c_72 => ?_) (fun c_72 => ?_)
              · skip
                replace hF := q_ifn hF c_72
                exact J_71_25 _ _ ls hF hI (lv_sub hl [0, 1, 2, 3, 4] rfl)
              · skip
                replace hF := q_ifp hF c_72
                refine lv_iload hx hb dX11_lay_59 (lv_at hl 4 rfl) ?_
                refine lv_iconst (v := (-1)) hx hb dX11_lay_61 (by decide) ?_
                refine q_icmp_eq (A := v4.toInt) (B := (-1)) E rfl (by decide) (tgt := 71) dX11_lay_62 (by decide) (fun c_73 => ?_) (fun c_73 => ?_)
                · skip
                  replace hF := q_ifp hF c_73
                  exact J_71_25 _ _ ls hF hI (lv_sub hl [0, 1, 2, 3, 4] rfl)
                · skip
                  replace hF := q_ifn hF c_73
                  refine lv_aload_n hx hb dX11_lay_65 rfl (lv_at hl 0 rfl) ?_
                  refine lv_iconst (v := 5) hx hb dX11_lay_66 (by decide) ?_
                  have kc_74 : (5 : Int32).toInt = 5 := rfl
                  refine q_ci (q_runV (As := [.int 5]) (rest := []) E (hml.trans hl.1.symm) hI (c_X11_none l X σ a (5 : Int32) ha) kv_X11_109 ha ⟨rfl, by decide⟩ (show vwCl[10]? = some (RX11, TX11, 17) from rfl) rfl ⟨Nat.le_of_ble_eq_true rfl, Nat.le_of_ble_eq_true rfl⟩ ⟨Nat.le_refl _, Nat.le_refl _⟩ rfl (Nat.le_of_ble_eq_true rfl) dX11_lay_67) hI (by decide) (fun r_75 σ_76 H locs hpσ_76 hkσ_76 hI => ?_)
                  obtain ⟨ahpσ_76, bhpσ_76, chpσ_76⟩ := hpσ_76
                  have fr_σ_76 := fr_σ.call chpσ_76 rfl rfl
                  replace hF := q_biX hF bhpσ_76
                  exact q_reti E hr hlk hI ⟨(hF.trans hout), fr_σ_76⟩ dX11_lay_70
            refine q_icmp_ne (A := v2.toInt) (B := (-1)) E rfl (by decide) (tgt := 54) dX11_lay_46 (by decide) (fun c_77 => ?_) (fun c_77 => ?_)
            · skip
              replace hF := q_ifn hF c_77
              exact J_54_25 _ _ ls hF hI (lv_sub hl [0, 1, 2, 3, 4] rfl)
            · skip
              replace hF := q_ifp hF c_77
              refine lv_iload_n hx hb dX11_lay_49 rfl (lv_at hl 3 rfl) ?_
              refine lv_iconst (v := (-1)) hx hb dX11_lay_50 (by decide) ?_
              refine q_icmp_ne (A := v3.toInt) (B := (-1)) E rfl (by decide) (tgt := 65) dX11_lay_51 (by decide) (fun c_78 => ?_) (fun c_78 => ?_)
              · skip
                replace hF := q_ifn hF c_78
                refine lv_aload_n hx hb dX11_lay_65 rfl (lv_at hl 0 rfl) ?_
                refine lv_iconst (v := 5) hx hb dX11_lay_66 (by decide) ?_
                have kc_79 : (5 : Int32).toInt = 5 := rfl
                refine q_ci (q_runV (As := [.int 5]) (rest := []) E (hml.trans hl.1.symm) hI (c_X11_none l X σ a (5 : Int32) ha) kv_X11_109 ha ⟨rfl, by decide⟩ (show vwCl[10]? = some (RX11, TX11, 17) from rfl) rfl ⟨Nat.le_of_ble_eq_true rfl, Nat.le_of_ble_eq_true rfl⟩ ⟨Nat.le_refl _, Nat.le_refl _⟩ rfl (Nat.le_of_ble_eq_true rfl) dX11_lay_67) hI (by decide) (fun r_80 σ_81 H locs hpσ_81 hkσ_81 hI => ?_)
                obtain ⟨ahpσ_81, bhpσ_81, chpσ_81⟩ := hpσ_81
                have fr_σ_81 := fr_σ.call chpσ_81 rfl rfl
                replace hF := q_biX hF bhpσ_81
                exact q_reti E hr hlk hI ⟨(hF.trans hout), fr_σ_81⟩ dX11_lay_70
              · skip
                replace hF := q_ifp hF c_78
                exact J_54_25 _ _ ls hF hI (lv_sub hl [0, 1, 2, 3, 4] rfl)
        · skip
          replace hF := q_ifp hF c_21
          refine lv_aload_n hx hb dX11_lay_33 rfl (lv_at hl 0 rfl) ?_
          refine lv_iconst (v := 2) hx hb dX11_lay_34 (by decide) ?_
          have kc_82 : (2 : Int32).toInt = 2 := rfl
          refine q_ci (q_runV (As := [.int 2]) (rest := []) E (hml.trans hl.1.symm) hI (c_X11_none l X σ a (2 : Int32) ha) kv_X11_109 ha ⟨rfl, by decide⟩ (show vwCl[10]? = some (RX11, TX11, 17) from rfl) rfl ⟨Nat.le_of_ble_eq_true rfl, Nat.le_of_ble_eq_true rfl⟩ ⟨Nat.le_refl _, Nat.le_refl _⟩ rfl (Nat.le_of_ble_eq_true rfl) dX11_lay_35) hI (by decide) (fun r_83 σ_84 H locs hpσ_84 hkσ_84 hI => ?_)
          obtain ⟨ahpσ_84, bhpσ_84, chpσ_84⟩ := hpσ_84
          have fr_σ_84 := fr_σ.call chpσ_84 rfl rfl
          replace hF := q_biX hF bhpσ_84
          exact q_reti E hr hlk hI ⟨(hF.trans hout), fr_σ_84⟩ dX11_lay_38

set_option maxRecDepth 100000 in
set_option maxHeartbeats 4000000 in
theorem c_X11_leave (l : Launch) (X : XW) (σ : ST) (a : Nat) (ha : q_kd X a = 11) : Met l yX11_leave (q_ws yX11_leave cX11_leave 1 (some .int)) (q_rm 3 64) (q_P X σ [.ref a]) (q_Qi X 8 σ (fun (r : Int32) (σ' : ST) => (r, σ') = F_X11_leave X σ a ∧ q_ow [(1, 4), (1, 5), (1, 6), (1, 7), (11, 0)] [] X σ σ')) 0 0 (q_reg X) := by
  refine q_met 8 (by first | exact rfl | decide +kernel) rfl (Nat.le_of_ble_eq_true rfl) (fun p e s m below meth c E hml hr hlk hI ls hl => ?_)
  have hx := E.1
  have hb := E.2.1
  have hl : lv_has ls 1 [(0, .ref a)] := hl
  have fr_σ : q_ow [(1, 4), (1, 5), (1, 6), (1, 7), (11, 0)] [] X σ σ := q_ow.rf
  obtain ⟨out, hout⟩ : ∃ o, o = F_X11_leave X σ a := ⟨_, rfl⟩
  have hF := hout.symm
  unfold F_X11_leave at hF
  refine lv_aload_n hx hb dX11_leave_0 rfl (lv_at hl 0 rfl) ?_
  refine gs_X11_42_11 E hI ha dX11_leave_1 ?_
  refine gs_X11_210_1 E hI (q_tk (k' := 1) hI ha rfl (by decide)) dX11_leave_4 ?_
  refine lv_topi (fun f_1 ef_1 => ?_)
  replace hF := q_letX hF ef_1
  have bf_1 : 0 ≤ f_1.toInt ∧ f_1.toInt ≤ 1 := by rw [ef_1]; exact q_bd hI (q_tk (k' := 1) hI ha rfl (by decide)) rfl
  refine q_if_ne (A := f_1.toInt) E rfl (tgt := 17) dX11_leave_7 (by decide) (fun c_2 => ?_) (fun c_2 => ?_)
  · skip
    replace hF := q_ifn hF c_2
    refine lv_aload_n hx hb dX11_leave_17 rfl (lv_at hl 0 rfl) ?_
    refine gs_X11_42_11 E hI ha dX11_leave_18 ?_
    refine q_cv (q_runV (As := []) (rest := []) E (hml.trans hl.1.symm) hI (c_X0_letLie l X σ (q_rf X a 8) (q_tk (k' := 1) hI ha rfl (by decide))) kv_X11_293 (q_tk (k' := 1) hI ha rfl (by decide)) ⟨rfl, by decide⟩ (show vwCl[0]? = some (RX0, TX0, 15) from rfl) rfl ⟨Nat.le_of_ble_eq_true rfl, Nat.le_of_ble_eq_true rfl⟩ ⟨Nat.le_refl _, Nat.le_refl _⟩ rfl (Nat.le_of_ble_eq_true rfl) dX11_leave_21) hI (by decide) (fun σ_4 H locs hpσ_4 hkσ_4 hI => ?_)
    obtain ⟨ahpσ_4, bhpσ_4⟩ := hpσ_4
    have fr_σ_4 := fr_σ.call bhpσ_4 rfl rfl
    replace hF := q_letX hF ahpσ_4
    refine lv_aload_n hx hb dX11_leave_24 rfl (lv_at hl 0 rfl) ?_
    refine lv_aload_n hx hb dX11_leave_25 rfl (lv_at hl 0 rfl) ?_
    refine gs_X11_42_11 E hI ha dX11_leave_26 ?_
    refine gs_X11_198_1 E hI (q_tk (k' := 1) hI ha rfl (by decide)) dX11_leave_29 ?_
    refine lv_topi (fun f_5 ef_5 => ?_)
    replace hF := q_letX hF ef_5
    refine q_ci (q_runV (As := [.int f_5]) (rest := []) E (hml.trans hl.1.symm) hI (c_X11_good l X σ_4 a f_5 ha) kv_X11_156 ha ⟨rfl, by decide⟩ (show vwCl[10]? = some (RX11, TX11, 17) from rfl) rfl ⟨Nat.le_of_ble_eq_true rfl, Nat.le_of_ble_eq_true rfl⟩ ⟨Nat.le_refl _, Nat.le_refl _⟩ rfl (Nat.le_of_ble_eq_true rfl) dX11_leave_32) hI (by decide) (fun r_6 σ_7 H locs hpσ_7 hkσ_7 hI => ?_)
    obtain ⟨ahpσ_7, bhpσ_7, chpσ_7⟩ := hpσ_7
    have fr_σ_7 := fr_σ_4.call chpσ_7 rfl rfl
    replace hF := q_biX hF bhpσ_7
    exact q_reti E hr hlk hI ⟨(hF.trans hout), fr_σ_7⟩ dX11_leave_35
  · skip
    replace hF := q_ifp hF c_2
    refine lv_aload_n hx hb dX11_leave_10 rfl (lv_at hl 0 rfl) ?_
    refine lv_bipush (v := 8) hx hb dX11_leave_11 (by decide) ?_
    have kc_8 : (8 : Int32).toInt = 8 := rfl
    refine q_ci (q_runV (As := [.int 8]) (rest := []) E (hml.trans hl.1.symm) hI (c_X11_none l X σ a (8 : Int32) ha) kv_X11_109 ha ⟨rfl, by decide⟩ (show vwCl[10]? = some (RX11, TX11, 17) from rfl) rfl ⟨Nat.le_of_ble_eq_true rfl, Nat.le_of_ble_eq_true rfl⟩ ⟨Nat.le_refl _, Nat.le_refl _⟩ rfl (Nat.le_of_ble_eq_true rfl) dX11_leave_13) hI (by decide) (fun r_9 σ_10 H locs hpσ_10 hkσ_10 hI => ?_)
    obtain ⟨ahpσ_10, bhpσ_10, chpσ_10⟩ := hpσ_10
    have fr_σ_10 := fr_σ.call chpσ_10 rfl rfl
    replace hF := q_biX hF bhpσ_10
    exact q_reti E hr hlk hI ⟨(hF.trans hout), fr_σ_10⟩ dX11_leave_16

set_option maxRecDepth 100000 in
set_option maxHeartbeats 4000000 in
theorem c_X11_doubterStatus (l : Launch) (X : XW) (σ : ST) (a : Nat) (v1 : Int32) (ha : q_kd X a = 11) : Met l yX11_doubterStatus (q_ws yX11_doubterStatus cX11_doubterStatus 2 (some .int)) (q_rm 1 21) (q_P X σ [.ref a, .int v1]) (q_Qi X 9 σ (fun (r : Int32) (σ' : ST) => σ' = σ ∧ r = F_X11_doubterStatus X σ a v1)) 0 0 (q_reg X) := by
  refine q_met 9 (by first | exact rfl | decide +kernel) rfl (Nat.le_of_ble_eq_true rfl) (fun p e s m below meth c E hml hr hlk hI ls hl => ?_)
  have hx := E.1
  have hb := E.2.1
  have hl : lv_has ls 2 [(0, .ref a), (1, .int v1)] := hl
  obtain ⟨out, hout⟩ : ∃ o, o = F_X11_doubterStatus X σ a v1 := ⟨_, rfl⟩
  have hF := hout.symm
  unfold F_X11_doubterStatus at hF
  refine lv_aload_n hx hb dX11_doubterStatus_0 rfl (lv_at hl 0 rfl) ?_
  refine lv_iload_n hx hb dX11_doubterStatus_1 rfl (lv_at hl 1 rfl) ?_
  refine q_ci (q_runV (As := [.int v1]) (rest := []) E (hml.trans hl.1.symm) hI (c_X11_isPlayer l X σ a v1 ha) kv_X11_219 ha ⟨rfl, by decide⟩ (show vwCl[10]? = some (RX11, TX11, 17) from rfl) rfl ⟨Nat.le_of_ble_eq_true rfl, Nat.le_of_ble_eq_true rfl⟩ ⟨Nat.le_refl _, Nat.le_refl _⟩ rfl (Nat.le_of_ble_eq_true rfl) dX11_doubterStatus_2) hI (by decide) (fun r_1 σ_2 H locs hpσ_2 hkσ_2 hI => ?_)
  obtain ⟨ahpσ_2, bhpσ_2, chpσ_2⟩ := hpσ_2
  rw [ahpσ_2] at hI
  replace hF := q_letX hF chpσ_2
  refine q_if_ne (A := r_1.toInt) E rfl (tgt := 10) dX11_doubterStatus_5 (by decide) (fun c_3 => ?_) (fun c_3 => ?_)
  · skip
    replace hF := q_ifn hF c_3
    replace c_3 := q_ifOne bhpσ_2 c_3
    refine lv_aload_n hx hb dX11_doubterStatus_10 rfl (lv_at hl 0 rfl) ?_
    refine gs_X11_42_11 E hI ha dX11_doubterStatus_11 ?_
    refine gs_X11_210_1 E hI (q_tk (k' := 1) hI ha rfl (by decide)) dX11_doubterStatus_14 ?_
    refine lv_topi (fun f_4 ef_4 => ?_)
    replace hF := q_letX hF ef_4
    have bf_4 : 0 ≤ f_4.toInt ∧ f_4.toInt ≤ 1 := by rw [ef_4]; exact q_bd hI (q_tk (k' := 1) hI ha rfl (by decide)) rfl
    refine q_if_ne (A := f_4.toInt) E rfl (tgt := 23) dX11_doubterStatus_17 (by decide) (fun c_5 => ?_) (fun c_5 => ?_)
    · skip
      replace hF := q_ifn hF c_5
      refine lv_iload_n hx hb dX11_doubterStatus_23 rfl (lv_at hl 1 rfl) ?_
      refine lv_aload_n hx hb dX11_doubterStatus_24 rfl (lv_at hl 0 rfl) ?_
      refine gs_X11_42_11 E hI ha dX11_doubterStatus_25 ?_
      refine gs_X11_198_1 E hI (q_tk (k' := 1) hI ha rfl (by decide)) dX11_doubterStatus_28 ?_
      refine lv_topi (fun f_6 ef_6 => ?_)
      replace hF := q_letX hF ef_6
      refine q_icmp_ne (A := v1.toInt) (B := f_6.toInt) E rfl rfl (tgt := 38) dX11_doubterStatus_31 (by decide) (fun c_7 => ?_) (fun c_7 => ?_)
      · skip
        replace hF := q_ifn hF c_7
        refine lv_iconst (v := 0) hx hb dX11_doubterStatus_38 (by decide) ?_
        exact q_reti E hr hlk hI ⟨rfl, (hF.trans hout)⟩ dX11_doubterStatus_39
      · skip
        replace hF := q_ifp hF c_7
        refine lv_iconst (v := 5) hx hb dX11_doubterStatus_34 (by decide) ?_
        refine lv_goto (tgt := 39) hx hb dX11_doubterStatus_35 (by decide) ?_
        exact q_reti E hr hlk hI ⟨rfl, (hF.trans hout)⟩ dX11_doubterStatus_39
    · skip
      replace hF := q_ifp hF c_5
      refine lv_bipush (v := 8) hx hb dX11_doubterStatus_20 (by decide) ?_
      exact q_reti E hr hlk hI ⟨rfl, (hF.trans hout)⟩ dX11_doubterStatus_22
  · skip
    replace hF := q_ifp hF c_3
    refine lv_iconst (v := 2) hx hb dX11_doubterStatus_8 (by decide) ?_
    exact q_reti E hr hlk hI ⟨rfl, (hF.trans hout)⟩ dX11_doubterStatus_9

set_option maxRecDepth 100000 in
set_option maxHeartbeats 4000000 in
theorem c_X11_doubt (l : Launch) (X : XW) (σ : ST) (a : Nat) (v1 : Int32) (ha : q_kd X a = 11) : Met l yX11_doubt (q_ws yX11_doubt cX11_doubt 3 (some .int)) (q_rm 4 92) (q_P X σ [.ref a, .int v1]) (q_Qi X 8 σ (fun (r : Int32) (σ' : ST) => (r, σ') = F_X11_doubt X σ a v1 ∧ q_ow [(1, 4), (1, 5), (1, 6), (1, 7), (3, 0), (3, 1), (11, 0), (20, 99)] [] X σ σ')) 0 0 (q_reg X) := by
  refine q_met 8 (by first | exact rfl | decide +kernel) rfl (Nat.le_of_ble_eq_true rfl) (fun p e s m below meth c E hml hr hlk hI ls hl => ?_)
  have hx := E.1
  have hb := E.2.1
  have hl : lv_has ls 3 [(0, .ref a), (1, .int v1)] := hl
  have fr_σ : q_ow [(1, 4), (1, 5), (1, 6), (1, 7), (3, 0), (3, 1), (11, 0), (20, 99)] [] X σ σ := q_ow.rf
  obtain ⟨out, hout⟩ : ∃ o, o = F_X11_doubt X σ a v1 := ⟨_, rfl⟩
  have hF := hout.symm
  unfold F_X11_doubt at hF
  refine lv_aload_n hx hb dX11_doubt_0 rfl (lv_at hl 0 rfl) ?_
  refine lv_iload_n hx hb dX11_doubt_1 rfl (lv_at hl 1 rfl) ?_
  refine q_ci (q_runV (As := [.int v1]) (rest := []) E (hml.trans hl.1.symm) hI (c_X11_doubterStatus l X σ a v1 ha) kv_X11_296 ha ⟨rfl, by decide⟩ (show vwCl[10]? = some (RX11, TX11, 17) from rfl) rfl ⟨Nat.le_of_ble_eq_true rfl, Nat.le_of_ble_eq_true rfl⟩ ⟨Nat.le_refl _, Nat.le_refl _⟩ rfl (Nat.le_of_ble_eq_true rfl) dX11_doubt_2) hI (by decide) (fun r_1 σ_2 H locs hpσ_2 hkσ_2 hI => ?_)
  obtain ⟨ahpσ_2, bhpσ_2⟩ := hpσ_2
  rw [ahpσ_2] at hI
  replace hF := q_letX hF bhpσ_2
  refine lv_istore_n (lv' := [(2, .int r_1), (0, .ref a), (1, .int v1)]) hx hb dX11_doubt_5 rfl hl (by decide) rfl (fun ls hl => ?_)
  refine lv_iload_n hx hb dX11_doubt_6 rfl (lv_at hl 0 rfl) ?_
  refine q_if_ne (A := r_1.toInt) E rfl (tgt := 25) dX11_doubt_7 (by decide) (fun c_3 => ?_) (fun c_3 => ?_)
  · skip
    replace hF := q_ifn hF c_3
    refine lv_aload_n hx hb dX11_doubt_25 rfl (lv_at hl 1 rfl) ?_
    refine lv_iload_n hx hb dX11_doubt_26 rfl (lv_at hl 0 rfl) ?_
    refine q_ci (q_runV (As := [.int r_1]) (rest := []) E (hml.trans hl.1.symm) hI (c_X11_none l X σ a r_1 ha) kv_X11_109 ha ⟨rfl, by decide⟩ (show vwCl[10]? = some (RX11, TX11, 17) from rfl) rfl ⟨Nat.le_of_ble_eq_true rfl, Nat.le_of_ble_eq_true rfl⟩ ⟨Nat.le_refl _, Nat.le_refl _⟩ rfl (Nat.le_of_ble_eq_true rfl) dX11_doubt_27) hI (by decide) (fun r_4 σ_5 H locs hpσ_5 hkσ_5 hI => ?_)
    obtain ⟨ahpσ_5, bhpσ_5, chpσ_5⟩ := hpσ_5
    have fr_σ_5 := fr_σ.call chpσ_5 rfl rfl
    replace hF := q_biX hF bhpσ_5
    exact q_reti E hr hlk hI ⟨(hF.trans hout), fr_σ_5⟩ dX11_doubt_30
  · skip
    replace hF := q_ifp hF c_3
    refine lv_aload_n hx hb dX11_doubt_10 rfl (lv_at hl 1 rfl) ?_
    refine lv_aload_n hx hb dX11_doubt_11 rfl (lv_at hl 1 rfl) ?_
    refine gs_X11_42_11 E hI ha dX11_doubt_12 ?_
    refine lv_iload_n hx hb dX11_doubt_15 rfl (lv_at hl 2 rfl) ?_
    refine q_ci (q_runV (As := [.int v1]) (rest := [.ref a]) E (hml.trans hl.1.symm) hI (c_X0_challenge l X σ (q_rf X a 8) v1 (q_tk (k' := 1) hI ha rfl (by decide))) kv_X11_299 (q_tk (k' := 1) hI ha rfl (by decide)) ⟨rfl, by decide⟩ (show vwCl[0]? = some (RX0, TX0, 15) from rfl) rfl ⟨Nat.le_of_ble_eq_true rfl, Nat.le_of_ble_eq_true rfl⟩ ⟨Nat.le_refl _, Nat.le_refl _⟩ rfl (Nat.le_of_ble_eq_true rfl) dX11_doubt_16) hI (by decide) (fun r_6 σ_7 H locs hpσ_7 hkσ_7 hI => ?_)
    obtain ⟨ahpσ_7, bhpσ_7⟩ := hpσ_7
    have fr_σ_7 := fr_σ.call bhpσ_7 rfl rfl
    replace hF := q_biX hF ahpσ_7
    refine q_ci (q_runV (As := [.int r_6]) (rest := []) E (hml.trans hl.1.symm) hI (c_X11_good l X σ_7 a r_6 ha) kv_X11_156 ha ⟨rfl, by decide⟩ (show vwCl[10]? = some (RX11, TX11, 17) from rfl) rfl ⟨Nat.le_of_ble_eq_true rfl, Nat.le_of_ble_eq_true rfl⟩ ⟨Nat.le_refl _, Nat.le_refl _⟩ rfl (Nat.le_of_ble_eq_true rfl) dX11_doubt_19) hI (by decide) (fun r_8 σ_9 H locs hpσ_9 hkσ_9 hI => ?_)
    obtain ⟨ahpσ_9, bhpσ_9, chpσ_9⟩ := hpσ_9
    have fr_σ_9 := fr_σ_7.call chpσ_9 rfl rfl
    replace hF := q_biX hF bhpσ_9
    refine lv_goto (tgt := 30) hx hb dX11_doubt_22 (by decide) ?_
    exact q_reti E hr hlk hI ⟨(hF.trans hout), fr_σ_9⟩ dX11_doubt_30

set_option maxRecDepth 100000 in
set_option maxHeartbeats 4000000 in
theorem c_X11_isSixteenths (l : Launch) (X : XW) (σ : ST) (v0 : Int32) : Met l yX11_isSixteenths (q_ws yX11_isSixteenths cX11_isSixteenths 1 (some .boolean)) (q_rm 0 0) (q_P X σ [.int v0]) (q_Qi X 9 σ (fun (r : Int32) (σ' : ST) => σ' = σ ∧ (0 ≤ r.toInt ∧ r.toInt ≤ 1) ∧ r = F_X11_isSixteenths X σ v0)) 0 0 (q_reg X) := by
  refine q_met 9 (by first | exact rfl | decide +kernel) rfl (Nat.le_of_ble_eq_true rfl) (fun p e s m below meth c E hml hr hlk hI ls hl => ?_)
  have hx := E.1
  have hb := E.2.1
  have hl : lv_has ls 1 [(0, .int v0)] := hl
  obtain ⟨out, hout⟩ : ∃ o, o = F_X11_isSixteenths X σ v0 := ⟨_, rfl⟩
  have hF := hout.symm
  unfold F_X11_isSixteenths at hF
  refine lv_iload_n hx hb dX11_isSixteenths_0 rfl (lv_at hl 0 rfl) ?_
  refine q_if_lt (A := v0.toInt) E rfl (tgt := 14) dX11_isSixteenths_1 (by decide) (fun c_1 => ?_) (fun c_1 => ?_)
  · skip
    replace hF := q_ifp hF c_1
    refine lv_iconst (v := 0) hx hb dX11_isSixteenths_14 (by decide) ?_
    have hrv : (0 : Int32).toInt = 0 := rfl
    exact q_retz E hr hlk hI ⟨by decide, by decide⟩ ⟨rfl, ⟨by decide, by decide⟩, (hF.trans hout)⟩ dX11_isSixteenths_15
  · skip
    replace hF := q_ifn hF (Int.not_lt.mpr c_1)
    refine lv_iload_n hx hb dX11_isSixteenths_4 rfl (lv_at hl 0 rfl) ?_
    refine lv_bipush (v := 16) hx hb dX11_isSixteenths_5 (by decide) ?_
    refine q_icmp_gt (A := v0.toInt) (B := 16) E rfl (by decide) (tgt := 14) dX11_isSixteenths_7 (by decide) (fun c_2 => ?_) (fun c_2 => ?_)
    · skip
      replace hF := q_ifp hF c_2
      refine lv_iconst (v := 0) hx hb dX11_isSixteenths_14 (by decide) ?_
      have hrv : (0 : Int32).toInt = 0 := rfl
      exact q_retz E hr hlk hI ⟨by decide, by decide⟩ ⟨rfl, ⟨by decide, by decide⟩, (hF.trans hout)⟩ dX11_isSixteenths_15
    · skip
      replace hF := q_ifn hF (Int.not_lt.mpr c_2)
      refine lv_iconst (v := 1) hx hb dX11_isSixteenths_10 (by decide) ?_
      refine lv_goto (tgt := 15) hx hb dX11_isSixteenths_11 (by decide) ?_
      have hrv : (1 : Int32).toInt = 1 := rfl
      exact q_retz E hr hlk hI ⟨by decide, by decide⟩ ⟨rfl, ⟨by decide, by decide⟩, (hF.trans hout)⟩ dX11_isSixteenths_15

set_option maxRecDepth 100000 in
set_option maxHeartbeats 4000000 in
theorem c_X11_bend (l : Launch) (X : XW) (σ : ST) (a : Nat) (v1 : Int32) (v2 : Int32) (v3 : Int32) (ha : q_kd X a = 11) : Met l yX11_bend (q_ws yX11_bend cX11_bend 4 (some .boolean)) (q_rm 1 22) (q_P X σ [.ref a, .int v1, .int v2, .int v3]) (q_Qi X 8 σ (fun (r : Int32) (σ' : ST) => (0 ≤ r.toInt ∧ r.toInt ≤ 1) ∧ (r, σ') = F_X11_bend X σ a v1 v2 v3 ∧ q_ow [(11, 0), (20, 99)] [] X σ σ')) 0 0 (q_reg X) := by
  refine q_met 8 (by first | exact rfl | decide +kernel) rfl (Nat.le_of_ble_eq_true rfl) (fun p e s m below meth c E hml hr hlk hI ls hl => ?_)
  have hx := E.1
  have hb := E.2.1
  have hl : lv_has ls 4 [(0, .ref a), (1, .int v1), (2, .int v2), (3, .int v3)] := hl
  have fr_σ : q_ow [(11, 0), (20, 99)] [] X σ σ := q_ow.rf
  obtain ⟨out, hout⟩ : ∃ o, o = F_X11_bend X σ a v1 v2 v3 := ⟨_, rfl⟩
  have hF := hout.symm
  unfold F_X11_bend at hF
  refine lv_aload_n hx hb dX11_bend_0 rfl (lv_at hl 0 rfl) ?_
  refine lv_iload_n hx hb dX11_bend_1 rfl (lv_at hl 1 rfl) ?_
  refine q_ci (q_runV (As := [.int v1]) (rest := []) E (hml.trans hl.1.symm) hI (c_X11_isPlayer l X σ a v1 ha) kv_X11_219 ha ⟨rfl, by decide⟩ (show vwCl[10]? = some (RX11, TX11, 17) from rfl) rfl ⟨Nat.le_of_ble_eq_true rfl, Nat.le_of_ble_eq_true rfl⟩ ⟨Nat.le_refl _, Nat.le_refl _⟩ rfl (Nat.le_of_ble_eq_true rfl) dX11_bend_2) hI (by decide) (fun r_1 σ_2 H locs hpσ_2 hkσ_2 hI => ?_)
  obtain ⟨ahpσ_2, bhpσ_2, chpσ_2⟩ := hpσ_2
  rw [ahpσ_2] at hI
  replace hF := q_letX hF chpσ_2
  refine q_if_ne (A := r_1.toInt) E rfl (tgt := 14) dX11_bend_5 (by decide) (fun c_3 => ?_) (fun c_3 => ?_)
  · skip
    replace hF := q_ifn hF c_3
    replace c_3 := q_ifOne bhpσ_2 c_3
    refine lv_iload_n hx hb dX11_bend_14 rfl (lv_at hl 2 rfl) ?_
    refine q_ci (q_runS (As := [.int v2]) (rest := []) E (hml.trans hl.1.symm) hI (c_X11_isSixteenths l X σ v2) ks_X11_302 rfl ⟨Nat.le_of_ble_eq_true rfl, Nat.le_of_ble_eq_true rfl⟩ ⟨Nat.le_refl _, Nat.le_refl _⟩ rfl (Nat.le_of_ble_eq_true rfl) dX11_bend_15) hI (by decide) (fun r_4 σ_5 H locs hpσ_5 hkσ_5 hI => ?_)
    obtain ⟨ahpσ_5, bhpσ_5, chpσ_5⟩ := hpσ_5
    rw [ahpσ_5] at hI
    replace hF := q_letX hF chpσ_5
    refine q_if_eq (A := r_4.toInt) E rfl (tgt := 28) dX11_bend_18 (by decide) (fun c_6 => ?_) (fun c_6 => ?_)
    · skip
      replace hF := q_ifp hF c_6
      refine lv_aload_n hx hb dX11_bend_28 rfl (lv_at hl 0 rfl) ?_
      refine lv_iconst (v := 5) hx hb dX11_bend_29 (by decide) ?_
      have kc_7 : (5 : Int32).toInt = 5 := rfl
      refine q_ci (q_runV (As := [.int 5]) (rest := []) E (hml.trans hl.1.symm) hI (c_X11_no l X σ a (5 : Int32) ha) kv_X11_89 ha ⟨rfl, by decide⟩ (show vwCl[10]? = some (RX11, TX11, 17) from rfl) rfl ⟨Nat.le_of_ble_eq_true rfl, Nat.le_of_ble_eq_true rfl⟩ ⟨Nat.le_refl _, Nat.le_refl _⟩ rfl (Nat.le_of_ble_eq_true rfl) dX11_bend_30) hI (by decide) (fun r_8 σ_9 H locs hpσ_9 hkσ_9 hI => ?_)
      obtain ⟨ahpσ_9, bhpσ_9, chpσ_9, dhpσ_9⟩ := hpσ_9
      have fr_σ_9 := fr_σ.call dhpσ_9 rfl rfl
      replace hF := q_biX hF chpσ_9
      exact q_retz E hr hlk hI ⟨by omega, by omega⟩ ⟨⟨by omega, by omega⟩, (hF.trans hout), fr_σ_9⟩ dX11_bend_33
    · skip
      replace hF := q_ifn hF c_6
      replace c_6 := q_ifOne bhpσ_5 c_6
      refine lv_iload_n hx hb dX11_bend_21 rfl (lv_at hl 3 rfl) ?_
      refine q_ci (q_runS (As := [.int v3]) (rest := []) E (hml.trans hl.1.symm) hI (c_X11_isSixteenths l X σ v3) ks_X11_302 rfl ⟨Nat.le_of_ble_eq_true rfl, Nat.le_of_ble_eq_true rfl⟩ ⟨Nat.le_refl _, Nat.le_refl _⟩ rfl (Nat.le_of_ble_eq_true rfl) dX11_bend_22) hI (by decide) (fun r_10 σ_11 H locs hpσ_11 hkσ_11 hI => ?_)
      obtain ⟨ahpσ_11, bhpσ_11, chpσ_11⟩ := hpσ_11
      rw [ahpσ_11] at hI
      replace hF := q_letX hF chpσ_11
      refine q_if_ne (A := r_10.toInt) E rfl (tgt := 34) dX11_bend_25 (by decide) (fun c_12 => ?_) (fun c_12 => ?_)
      · skip
        replace hF := q_ifn hF c_12
        replace c_12 := q_ifOne bhpσ_11 c_12
        refine lv_aload_n hx hb dX11_bend_34 rfl (lv_at hl 0 rfl) ?_
        refine gs_X11_42_11 E hI ha dX11_bend_35 ?_
        refine gs_X11_222_1 E hI (q_tk (k' := 1) hI ha rfl (by decide)) dX11_bend_38 ?_
        refine gs_X11_226_2 E hI (q_tk (k' := 2) hI (q_tk (k' := 1) hI ha rfl (by decide)) rfl (by decide)) dX11_bend_41 ?_
        refine lv_iload_n hx hb dX11_bend_44 rfl (lv_at hl 1 rfl) ?_
        refine lv_iload_n hx hb dX11_bend_45 rfl (lv_at hl 2 rfl) ?_
        refine q_cv (q_runV (As := [.int v1, .int v2]) (rest := []) E (hml.trans hl.1.symm) hI (c_X5_set l X σ (q_rf X (q_rf X (q_rf X a 8) 1) 3) v1 v2 (q_tk (k' := 5) hI (q_tk (k' := 2) hI (q_tk (k' := 1) hI ha rfl (by decide)) rfl (by decide)) rfl (by decide))) kv_X11_305 (q_tk (k' := 5) hI (q_tk (k' := 2) hI (q_tk (k' := 1) hI ha rfl (by decide)) rfl (by decide)) rfl (by decide)) ⟨rfl, by decide⟩ (show vwCl[4]? = some (RX5, TX5, 1) from rfl) rfl ⟨Nat.le_of_ble_eq_true rfl, Nat.le_of_ble_eq_true rfl⟩ ⟨Nat.le_refl _, Nat.le_refl _⟩ rfl (Nat.le_of_ble_eq_true rfl) dX11_bend_46) hI (by decide) (fun σ_14 H locs hpσ_14 hkσ_14 hI => ?_)
        obtain ⟨ahpσ_14, bhpσ_14⟩ := hpσ_14
        have fr_σ_14 := fr_σ.call bhpσ_14 rfl rfl
        replace hF := q_letX hF ahpσ_14
        refine lv_aload_n hx hb dX11_bend_49 rfl (lv_at hl 0 rfl) ?_
        refine gs_X11_42_11 E hI ha dX11_bend_50 ?_
        refine gs_X11_222_1 E hI (q_tk (k' := 1) hI ha rfl (by decide)) dX11_bend_53 ?_
        refine gs_X11_236_2 E hI (q_tk (k' := 2) hI (q_tk (k' := 1) hI ha rfl (by decide)) rfl (by decide)) dX11_bend_56 ?_
        refine lv_iload_n hx hb dX11_bend_59 rfl (lv_at hl 1 rfl) ?_
        refine lv_iload_n hx hb dX11_bend_60 rfl (lv_at hl 3 rfl) ?_
        refine q_cv (q_runV (As := [.int v1, .int v3]) (rest := []) E (hml.trans hl.1.symm) hI (c_X5_set l X σ_14 (q_rf X (q_rf X (q_rf X a 8) 1) 4) v1 v3 (q_tk (k' := 5) hI (q_tk (k' := 2) hI (q_tk (k' := 1) hI ha rfl (by decide)) rfl (by decide)) rfl (by decide))) kv_X11_305 (q_tk (k' := 5) hI (q_tk (k' := 2) hI (q_tk (k' := 1) hI ha rfl (by decide)) rfl (by decide)) rfl (by decide)) ⟨rfl, by decide⟩ (show vwCl[4]? = some (RX5, TX5, 1) from rfl) rfl ⟨Nat.le_of_ble_eq_true rfl, Nat.le_of_ble_eq_true rfl⟩ ⟨Nat.le_refl _, Nat.le_refl _⟩ rfl (Nat.le_of_ble_eq_true rfl) dX11_bend_61) hI (by decide) (fun σ_16 H locs hpσ_16 hkσ_16 hI => ?_)
        obtain ⟨ahpσ_16, bhpσ_16⟩ := hpσ_16
        have fr_σ_16 := fr_σ_14.call bhpσ_16 rfl rfl
        replace hF := q_letX hF ahpσ_16
        refine lv_aload_n hx hb dX11_bend_64 rfl (lv_at hl 0 rfl) ?_
        refine q_ci (q_runV (As := []) (rest := []) E (hml.trans hl.1.symm) hI (c_X11_yes l X σ_16 a ha) kv_X11_97 ha ⟨rfl, by decide⟩ (show vwCl[10]? = some (RX11, TX11, 17) from rfl) rfl ⟨Nat.le_of_ble_eq_true rfl, Nat.le_of_ble_eq_true rfl⟩ ⟨Nat.le_refl _, Nat.le_refl _⟩ rfl (Nat.le_of_ble_eq_true rfl) dX11_bend_65) hI (by decide) (fun r_17 σ_18 H locs hpσ_18 hkσ_18 hI => ?_)
        obtain ⟨ahpσ_18, bhpσ_18, chpσ_18, dhpσ_18⟩ := hpσ_18
        have fr_σ_18 := fr_σ_16.call dhpσ_18 rfl rfl
        replace hF := q_biX hF chpσ_18
        exact q_retz E hr hlk hI ⟨by omega, by omega⟩ ⟨⟨by omega, by omega⟩, (hF.trans hout), fr_σ_18⟩ dX11_bend_68
      · skip
        replace hF := q_ifp hF c_12
        refine lv_aload_n hx hb dX11_bend_28 rfl (lv_at hl 0 rfl) ?_
        refine lv_iconst (v := 5) hx hb dX11_bend_29 (by decide) ?_
        have kc_19 : (5 : Int32).toInt = 5 := rfl
        refine q_ci (q_runV (As := [.int 5]) (rest := []) E (hml.trans hl.1.symm) hI (c_X11_no l X σ a (5 : Int32) ha) kv_X11_89 ha ⟨rfl, by decide⟩ (show vwCl[10]? = some (RX11, TX11, 17) from rfl) rfl ⟨Nat.le_of_ble_eq_true rfl, Nat.le_of_ble_eq_true rfl⟩ ⟨Nat.le_refl _, Nat.le_refl _⟩ rfl (Nat.le_of_ble_eq_true rfl) dX11_bend_30) hI (by decide) (fun r_20 σ_21 H locs hpσ_21 hkσ_21 hI => ?_)
        obtain ⟨ahpσ_21, bhpσ_21, chpσ_21, dhpσ_21⟩ := hpσ_21
        have fr_σ_21 := fr_σ.call dhpσ_21 rfl rfl
        replace hF := q_biX hF chpσ_21
        exact q_retz E hr hlk hI ⟨by omega, by omega⟩ ⟨⟨by omega, by omega⟩, (hF.trans hout), fr_σ_21⟩ dX11_bend_33
  · skip
    replace hF := q_ifp hF c_3
    refine lv_aload_n hx hb dX11_bend_8 rfl (lv_at hl 0 rfl) ?_
    refine lv_iconst (v := 2) hx hb dX11_bend_9 (by decide) ?_
    have kc_22 : (2 : Int32).toInt = 2 := rfl
    refine q_ci (q_runV (As := [.int 2]) (rest := []) E (hml.trans hl.1.symm) hI (c_X11_no l X σ a (2 : Int32) ha) kv_X11_89 ha ⟨rfl, by decide⟩ (show vwCl[10]? = some (RX11, TX11, 17) from rfl) rfl ⟨Nat.le_of_ble_eq_true rfl, Nat.le_of_ble_eq_true rfl⟩ ⟨Nat.le_refl _, Nat.le_refl _⟩ rfl (Nat.le_of_ble_eq_true rfl) dX11_bend_10) hI (by decide) (fun r_23 σ_24 H locs hpσ_24 hkσ_24 hI => ?_)
    obtain ⟨ahpσ_24, bhpσ_24, chpσ_24, dhpσ_24⟩ := hpσ_24
    have fr_σ_24 := fr_σ.call dhpσ_24 rfl rfl
    replace hF := q_biX hF chpσ_24
    exact q_retz E hr hlk hI ⟨by omega, by omega⟩ ⟨⟨by omega, by omega⟩, (hF.trans hout), fr_σ_24⟩ dX11_bend_13
