section
set_option maxRecDepth 100000 in
set_option maxHeartbeats 4000000 in
theorem c_X11_lies (l : Launch) (X : XW) (σ : ST) (a : Nat) (v1 : Int32) (ha : q_kd X a = 11) : Met l yX11_lies (q_ws yX11_lies cX11_lies 2 (some .int)) (q_rm 3 66) (q_P X σ [.ref a, .int v1]) (q_Qi X 8 σ (fun (r : Int32) (σ' : ST) => (r, σ') = F_X11_lies X σ a v1 ∧ q_ow [(11, 0)] [] X σ σ')) 0 0 (q_reg X) := by
  refine q_met 8 (by first | exact rfl | decide +kernel) rfl (Nat.le_of_ble_eq_true rfl) (fun p e s m below meth c E hml hr hlk hI ls hl => ?_)
  have hx := E.1
  have hb := E.2.1
  have hl : lv_has ls 2 [(0, .ref a), (1, .int v1)] := hl
  have fr_σ : q_ow [(11, 0)] [] X σ σ := q_ow.rf
  obtain ⟨out, hout⟩ : ∃ o, o = F_X11_lies X σ a v1 := ⟨_, rfl⟩
  have hF := hout.symm
  unfold F_X11_lies at hF
  refine lv_aload_n hx hb dX11_lies_0 rfl (lv_at hl 0 rfl) ?_
  refine lv_iload_n hx hb dX11_lies_1 rfl (lv_at hl 1 rfl) ?_
  refine q_ci (q_runV (As := [.int v1]) (rest := []) E (hml.trans hl.1.symm) hI (c_X11_isKind l X σ a v1 ha) kv_X11_250 ha ⟨rfl, by decide⟩ (show vwCl[10]? = some (RX11, TX11, 17) from rfl) rfl ⟨Nat.le_of_ble_eq_true rfl, Nat.le_of_ble_eq_true rfl⟩ ⟨Nat.le_refl _, Nat.le_refl _⟩ rfl (Nat.le_of_ble_eq_true rfl) dX11_lies_2) hI (by decide) (fun r_1 σ_2 H locs hpσ_2 hkσ_2 hI => ?_)
  obtain ⟨ahpσ_2, bhpσ_2, chpσ_2⟩ := hpσ_2
  rw [ahpσ_2] at hI
  replace hF := q_letX hF chpσ_2
  refine q_if_eq (A := r_1.toInt) E rfl (tgt := 23) dX11_lies_5 (by decide) (fun c_3 => ?_) (fun c_3 => ?_)
  · skip
    replace hF := q_ifp hF c_3
    refine lv_aload_n hx hb dX11_lies_23 rfl (lv_at hl 0 rfl) ?_
    refine lv_iconst (v := 2) hx hb dX11_lies_24 (by decide) ?_
    have kc_4 : (2 : Int32).toInt = 2 := rfl
    refine q_ci (q_runV (As := [.int 2]) (rest := []) E (hml.trans hl.1.symm) hI (c_X11_none l X σ a (2 : Int32) ha) kv_X11_109 ha ⟨rfl, by decide⟩ (show vwCl[10]? = some (RX11, TX11, 17) from rfl) rfl ⟨Nat.le_of_ble_eq_true rfl, Nat.le_of_ble_eq_true rfl⟩ ⟨Nat.le_refl _, Nat.le_refl _⟩ rfl (Nat.le_of_ble_eq_true rfl) dX11_lies_25) hI (by decide) (fun r_5 σ_6 H locs hpσ_6 hkσ_6 hI => ?_)
    obtain ⟨ahpσ_6, bhpσ_6, chpσ_6⟩ := hpσ_6
    have fr_σ_6 := fr_σ.call chpσ_6 rfl rfl
    replace hF := q_biX hF bhpσ_6
    exact q_reti E hr hlk hI ⟨(hF.trans hout), fr_σ_6⟩ dX11_lies_28
  · skip
    replace hF := q_ifn hF c_3
    refine lv_aload_n hx hb dX11_lies_8 rfl (lv_at hl 0 rfl) ?_
    refine lv_aload_n hx hb dX11_lies_9 rfl (lv_at hl 0 rfl) ?_
    refine gs_X11_42_11 E hI ha dX11_lies_10 ?_
    refine lv_iload_n hx hb dX11_lies_13 rfl (lv_at hl 1 rfl) ?_
    refine q_ci (q_runV (As := [.int v1]) (rest := [.ref a]) E (hml.trans hl.1.symm) hI (c_X0_lyingOf l X σ (q_rf X a 8) v1 (q_tk (k' := 1) hI ha rfl (by decide))) kv_X11_389 (q_tk (k' := 1) hI ha rfl (by decide)) ⟨rfl, by decide⟩ (show vwCl[0]? = some (RX0, TX0, 15) from rfl) rfl ⟨Nat.le_of_ble_eq_true rfl, Nat.le_of_ble_eq_true rfl⟩ ⟨Nat.le_refl _, Nat.le_refl _⟩ rfl (Nat.le_of_ble_eq_true rfl) dX11_lies_14) hI (by decide) (fun r_7 σ_8 H locs hpσ_8 hkσ_8 hI => ?_)
    obtain ⟨ahpσ_8, bhpσ_8⟩ := hpσ_8
    rw [ahpσ_8] at hI
    replace hF := q_letX hF bhpσ_8
    refine q_ci (q_runV (As := [.int r_7]) (rest := []) E (hml.trans hl.1.symm) hI (c_X11_good l X σ a r_7 ha) kv_X11_156 ha ⟨rfl, by decide⟩ (show vwCl[10]? = some (RX11, TX11, 17) from rfl) rfl ⟨Nat.le_of_ble_eq_true rfl, Nat.le_of_ble_eq_true rfl⟩ ⟨Nat.le_refl _, Nat.le_refl _⟩ rfl (Nat.le_of_ble_eq_true rfl) dX11_lies_17) hI (by decide) (fun r_9 σ_10 H locs hpσ_10 hkσ_10 hI => ?_)
    obtain ⟨ahpσ_10, bhpσ_10, chpσ_10⟩ := hpσ_10
    have fr_σ_10 := fr_σ.call chpσ_10 rfl rfl
    replace hF := q_biX hF bhpσ_10
    refine lv_goto (tgt := 28) hx hb dX11_lies_20 (by decide) ?_
    exact q_reti E hr hlk hI ⟨(hF.trans hout), fr_σ_10⟩ dX11_lies_28

set_option maxRecDepth 100000 in
set_option maxHeartbeats 4000000 in
theorem c_X11_guess (l : Launch) (X : XW) (σ : ST) (a : Nat) (v1 : Int32) (v2 : Int32) (v3 : Int32) (ha : q_kd X a = 11) : Met l yX11_guess (q_ws yX11_guess cX11_guess 5 (some .boolean)) (q_rm 4 89) (q_P X σ [.ref a, .int v1, .int v2, .int v3]) (q_Qi X 8 σ (fun (r : Int32) (σ' : ST) => (0 ≤ r.toInt ∧ r.toInt ≤ 1) ∧ (r, σ') = F_X11_guess X σ a v1 v2 v3 ∧ q_ow [(11, 0)] [(11, 1), (11, 2)] X σ σ')) 0 0 (q_reg X) := by
  refine q_met 8 (by first | exact rfl | decide +kernel) rfl (Nat.le_of_ble_eq_true rfl) (fun p e s m below meth c E hml hr hlk hI ls hl => ?_)
  have hx := E.1
  have hb := E.2.1
  have hl : lv_has ls 5 [(0, .ref a), (1, .int v1), (2, .int v2), (3, .int v3)] := hl
  have fr_σ : q_ow [(11, 0)] [(11, 1), (11, 2)] X σ σ := q_ow.rf
  obtain ⟨out, hout⟩ : ∃ o, o = F_X11_guess X σ a v1 v2 v3 := ⟨_, rfl⟩
  have hF := hout.symm
  unfold F_X11_guess at hF
  refine lv_aload_n hx hb dX11_guess_0 rfl (lv_at hl 0 rfl) ?_
  refine lv_iload_n hx hb dX11_guess_1 rfl (lv_at hl 1 rfl) ?_
  refine q_ci (q_runV (As := [.int v1]) (rest := []) E (hml.trans hl.1.symm) hI (c_X11_isPlayer l X σ a v1 ha) kv_X11_219 ha ⟨rfl, by decide⟩ (show vwCl[10]? = some (RX11, TX11, 17) from rfl) rfl ⟨Nat.le_of_ble_eq_true rfl, Nat.le_of_ble_eq_true rfl⟩ ⟨Nat.le_refl _, Nat.le_refl _⟩ rfl (Nat.le_of_ble_eq_true rfl) dX11_guess_2) hI (by decide) (fun r_1 σ_2 H locs hpσ_2 hkσ_2 hI => ?_)
  obtain ⟨ahpσ_2, bhpσ_2, chpσ_2⟩ := hpσ_2
  rw [ahpσ_2] at hI
  replace hF := q_letX hF chpσ_2
  refine q_if_eq (A := r_1.toInt) E rfl (tgt := 16) dX11_guess_5 (by decide) (fun c_3 => ?_) (fun c_3 => ?_)
  · skip
    replace hF := q_ifp hF c_3
    refine lv_aload_n hx hb dX11_guess_16 rfl (lv_at hl 0 rfl) ?_
    refine lv_iconst (v := 2) hx hb dX11_guess_17 (by decide) ?_
    have kc_4 : (2 : Int32).toInt = 2 := rfl
    refine q_ci (q_runV (As := [.int 2]) (rest := []) E (hml.trans hl.1.symm) hI (c_X11_no l X σ a (2 : Int32) ha) kv_X11_89 ha ⟨rfl, by decide⟩ (show vwCl[10]? = some (RX11, TX11, 17) from rfl) rfl ⟨Nat.le_of_ble_eq_true rfl, Nat.le_of_ble_eq_true rfl⟩ ⟨Nat.le_refl _, Nat.le_refl _⟩ rfl (Nat.le_of_ble_eq_true rfl) dX11_guess_18) hI (by decide) (fun r_5 σ_6 H locs hpσ_6 hkσ_6 hI => ?_)
    obtain ⟨ahpσ_6, bhpσ_6, chpσ_6, dhpσ_6⟩ := hpσ_6
    have fr_σ_6 := fr_σ.call dhpσ_6 rfl rfl
    replace hF := q_biX hF chpσ_6
    exact q_retz E hr hlk hI ⟨by omega, by omega⟩ ⟨⟨by omega, by omega⟩, (hF.trans hout), fr_σ_6⟩ dX11_guess_21
  · skip
    replace hF := q_ifn hF c_3
    refine lv_aload_n hx hb dX11_guess_8 rfl (lv_at hl 0 rfl) ?_
    refine lv_iload_n hx hb dX11_guess_9 rfl (lv_at hl 2 rfl) ?_
    refine q_ci (q_runV (As := [.int v2]) (rest := []) E (hml.trans hl.1.symm) hI (c_X11_isKind l X σ a v2 ha) kv_X11_250 ha ⟨rfl, by decide⟩ (show vwCl[10]? = some (RX11, TX11, 17) from rfl) rfl ⟨Nat.le_of_ble_eq_true rfl, Nat.le_of_ble_eq_true rfl⟩ ⟨Nat.le_refl _, Nat.le_refl _⟩ rfl (Nat.le_of_ble_eq_true rfl) dX11_guess_10) hI (by decide) (fun r_7 σ_8 H locs hpσ_8 hkσ_8 hI => ?_)
    obtain ⟨ahpσ_8, bhpσ_8, chpσ_8⟩ := hpσ_8
    rw [ahpσ_8] at hI
    replace hF := q_letX hF chpσ_8
    refine q_if_ne (A := r_7.toInt) E rfl (tgt := 22) dX11_guess_13 (by decide) (fun c_9 => ?_) (fun c_9 => ?_)
    · skip
      replace hF := q_ifn hF c_9
      refine lv_iload_n hx hb dX11_guess_22 rfl (lv_at hl 3 rfl) ?_
      refine q_if_lt (A := v3.toInt) E rfl (tgt := 31) dX11_guess_23 (by decide) (fun c_10 => ?_) (fun c_10 => ?_)
      · skip
        replace hF := q_ifp hF c_10
        refine lv_aload_n hx hb dX11_guess_31 rfl (lv_at hl 0 rfl) ?_
        refine lv_iconst (v := 5) hx hb dX11_guess_32 (by decide) ?_
        have kc_11 : (5 : Int32).toInt = 5 := rfl
        refine q_ci (q_runV (As := [.int 5]) (rest := []) E (hml.trans hl.1.symm) hI (c_X11_no l X σ a (5 : Int32) ha) kv_X11_89 ha ⟨rfl, by decide⟩ (show vwCl[10]? = some (RX11, TX11, 17) from rfl) rfl ⟨Nat.le_of_ble_eq_true rfl, Nat.le_of_ble_eq_true rfl⟩ ⟨Nat.le_refl _, Nat.le_refl _⟩ rfl (Nat.le_of_ble_eq_true rfl) dX11_guess_33) hI (by decide) (fun r_12 σ_13 H locs hpσ_13 hkσ_13 hI => ?_)
        obtain ⟨ahpσ_13, bhpσ_13, chpσ_13, dhpσ_13⟩ := hpσ_13
        have fr_σ_13 := fr_σ.call dhpσ_13 rfl rfl
        replace hF := q_biX hF chpσ_13
        exact q_retz E hr hlk hI ⟨by omega, by omega⟩ ⟨⟨by omega, by omega⟩, (hF.trans hout), fr_σ_13⟩ dX11_guess_36
      · skip
        replace hF := q_ifn hF (Int.not_lt.mpr c_10)
        refine lv_iload_n hx hb dX11_guess_26 rfl (lv_at hl 3 rfl) ?_
        refine lv_iconst (v := 4) hx hb dX11_guess_27 (by decide) ?_
        refine q_icmp_le (A := v3.toInt) (B := 4) E rfl (by decide) (tgt := 37) dX11_guess_28 (by decide) (fun c_14 => ?_) (fun c_14 => ?_)
        · skip
          replace hF := q_ifn hF (Int.not_lt.mpr c_14)
          refine lv_aload_n hx hb dX11_guess_37 rfl (lv_at hl 0 rfl) ?_
          refine gs_X11_42_11 E hI ha dX11_guess_38 ?_
          refine lv_iload_n hx hb dX11_guess_41 rfl (lv_at hl 1 rfl) ?_
          refine q_ci (q_runV (As := [.int v1]) (rest := []) E (hml.trans hl.1.symm) hI (c_X0_allUnknownTo l X σ (q_rf X a 8) v1 (q_tk (k' := 1) hI ha rfl (by decide))) kv_X11_311 (q_tk (k' := 1) hI ha rfl (by decide)) ⟨rfl, by decide⟩ (show vwCl[0]? = some (RX0, TX0, 15) from rfl) rfl ⟨Nat.le_of_ble_eq_true rfl, Nat.le_of_ble_eq_true rfl⟩ ⟨Nat.le_refl _, Nat.le_refl _⟩ rfl (Nat.le_of_ble_eq_true rfl) dX11_guess_42) hI (by decide) (fun r_15 σ_16 H locs hpσ_16 hkσ_16 hI => ?_)
          obtain ⟨ahpσ_16, bhpσ_16⟩ := hpσ_16
          rw [ahpσ_16] at hI
          replace hF := q_letX hF bhpσ_16
          refine lv_istore (lv' := [(4, .int r_15), (0, .ref a), (1, .int v1), (2, .int v2), (3, .int v3)]) hx hb dX11_guess_45 hl (by decide) rfl (fun ls hl => ?_)
          refine lv_iload hx hb dX11_guess_47 (lv_at hl 0 rfl) ?_
          refine lv_iload_n hx hb dX11_guess_49 rfl (lv_at hl 4 rfl) ?_
          refine q_icmp_ge (A := r_15.toInt) (B := v3.toInt) E rfl rfl (tgt := 60) dX11_guess_50 (by decide) (fun c_17 => ?_) (fun c_17 => ?_)
          · skip
            replace hF := q_ifn hF (Int.not_lt.mpr c_17)
            refine lv_aload_n hx hb dX11_guess_60 rfl (lv_at hl 1 rfl) ?_
            refine lv_aload_n hx hb dX11_guess_61 rfl (lv_at hl 1 rfl) ?_
            refine gs_X11_42_11 E hI ha dX11_guess_62 ?_
            refine lv_iload_n hx hb dX11_guess_65 rfl (lv_at hl 2 rfl) ?_
            refine lv_iload_n hx hb dX11_guess_66 rfl (lv_at hl 3 rfl) ?_
            refine q_ci (q_runV (As := [.int v1, .int v2]) (rest := [.ref a]) E (hml.trans hl.1.symm) hI (c_X0_unknownTo l X σ (q_rf X a 8) v1 v2 (q_tk (k' := 1) hI ha rfl (by decide))) kv_X11_314 (q_tk (k' := 1) hI ha rfl (by decide)) ⟨rfl, by decide⟩ (show vwCl[0]? = some (RX0, TX0, 15) from rfl) rfl ⟨Nat.le_of_ble_eq_true rfl, Nat.le_of_ble_eq_true rfl⟩ ⟨Nat.le_refl _, Nat.le_refl _⟩ rfl (Nat.le_of_ble_eq_true rfl) dX11_guess_67) hI (by decide) (fun r_18 σ_19 H locs hpσ_19 hkσ_19 hI => ?_)
            obtain ⟨ahpσ_19, bhpσ_19⟩ := hpσ_19
            rw [ahpσ_19] at hI
            replace hF := q_letX hF bhpσ_19
            refine lv_iload_n hx hb dX11_guess_70 rfl (lv_at hl 4 rfl) ?_
            refine q_cl_ (q_runS (As := [.int r_18, .int v3]) (rest := [.ref a]) E (hml.trans hl.1.symm) hI (c_X11_waysToTake l X σ r_18 v3) ks_X11_392 rfl ⟨Nat.le_of_ble_eq_true rfl, Nat.le_of_ble_eq_true rfl⟩ ⟨Nat.le_refl _, Nat.le_refl _⟩ rfl (Nat.le_of_ble_eq_true rfl) dX11_guess_71) hI (by decide) (fun r_20 σ_21 H locs hpσ_21 hkσ_21 hI => ?_)
            obtain ⟨ahpσ_21, bhpσ_21⟩ := hpσ_21
            rw [ahpσ_21] at hI
            replace hF := q_letX hF bhpσ_21
            refine lv_iload hx hb dX11_guess_74 (lv_at hl 0 rfl) ?_
            refine lv_iload_n hx hb dX11_guess_76 rfl (lv_at hl 4 rfl) ?_
            refine q_cl_ (q_runS (As := [.int r_15, .int v3]) (rest := [.long r_20, .ref a]) E (hml.trans hl.1.symm) hI (c_X11_waysToTake l X σ r_15 v3) ks_X11_392 rfl ⟨Nat.le_of_ble_eq_true rfl, Nat.le_of_ble_eq_true rfl⟩ ⟨Nat.le_refl _, Nat.le_refl _⟩ rfl (Nat.le_of_ble_eq_true rfl) dX11_guess_77) hI (by decide) (fun r_22 σ_23 H locs hpσ_23 hkσ_23 hI => ?_)
            obtain ⟨ahpσ_23, bhpσ_23⟩ := hpσ_23
            rw [ahpσ_23] at hI
            replace hF := q_letX hF bhpσ_23
            refine q_ci (q_runV (As := [.long r_20, .long r_22]) (rest := []) E (hml.trans hl.1.symm) hI (c_X11_tell l X σ a r_20 r_22 ha) kv_X11_326 ha ⟨rfl, by decide⟩ (show vwCl[10]? = some (RX11, TX11, 17) from rfl) rfl ⟨Nat.le_of_ble_eq_true rfl, Nat.le_of_ble_eq_true rfl⟩ ⟨Nat.le_refl _, Nat.le_refl _⟩ rfl (Nat.le_of_ble_eq_true rfl) dX11_guess_80) hI (by decide) (fun r_24 σ_25 H locs hpσ_25 hkσ_25 hI => ?_)
            obtain ⟨ahpσ_25, bhpσ_25, chpσ_25⟩ := hpσ_25
            have fr_σ_25 := fr_σ.call chpσ_25 rfl rfl
            replace hF := q_biX hF bhpσ_25
            exact q_retz E hr hlk hI ⟨by omega, by omega⟩ ⟨⟨by omega, by omega⟩, (hF.trans hout), fr_σ_25⟩ dX11_guess_83
          · skip
            replace hF := q_ifp hF c_17
            refine lv_aload_n hx hb dX11_guess_53 rfl (lv_at hl 1 rfl) ?_
            refine lv_bipush (v := 9) hx hb dX11_guess_54 (by decide) ?_
            have kc_26 : (9 : Int32).toInt = 9 := rfl
            refine q_ci (q_runV (As := [.int 9]) (rest := []) E (hml.trans hl.1.symm) hI (c_X11_no l X σ a (9 : Int32) ha) kv_X11_89 ha ⟨rfl, by decide⟩ (show vwCl[10]? = some (RX11, TX11, 17) from rfl) rfl ⟨Nat.le_of_ble_eq_true rfl, Nat.le_of_ble_eq_true rfl⟩ ⟨Nat.le_refl _, Nat.le_refl _⟩ rfl (Nat.le_of_ble_eq_true rfl) dX11_guess_56) hI (by decide) (fun r_27 σ_28 H locs hpσ_28 hkσ_28 hI => ?_)
            obtain ⟨ahpσ_28, bhpσ_28, chpσ_28, dhpσ_28⟩ := hpσ_28
            have fr_σ_28 := fr_σ.call dhpσ_28 rfl rfl
            replace hF := q_biX hF chpσ_28
            exact q_retz E hr hlk hI ⟨by omega, by omega⟩ ⟨⟨by omega, by omega⟩, (hF.trans hout), fr_σ_28⟩ dX11_guess_59
        · skip
          replace hF := q_ifp hF c_14
          refine lv_aload_n hx hb dX11_guess_31 rfl (lv_at hl 0 rfl) ?_
          refine lv_iconst (v := 5) hx hb dX11_guess_32 (by decide) ?_
          have kc_29 : (5 : Int32).toInt = 5 := rfl
          refine q_ci (q_runV (As := [.int 5]) (rest := []) E (hml.trans hl.1.symm) hI (c_X11_no l X σ a (5 : Int32) ha) kv_X11_89 ha ⟨rfl, by decide⟩ (show vwCl[10]? = some (RX11, TX11, 17) from rfl) rfl ⟨Nat.le_of_ble_eq_true rfl, Nat.le_of_ble_eq_true rfl⟩ ⟨Nat.le_refl _, Nat.le_refl _⟩ rfl (Nat.le_of_ble_eq_true rfl) dX11_guess_33) hI (by decide) (fun r_30 σ_31 H locs hpσ_31 hkσ_31 hI => ?_)
          obtain ⟨ahpσ_31, bhpσ_31, chpσ_31, dhpσ_31⟩ := hpσ_31
          have fr_σ_31 := fr_σ.call dhpσ_31 rfl rfl
          replace hF := q_biX hF chpσ_31
          exact q_retz E hr hlk hI ⟨by omega, by omega⟩ ⟨⟨by omega, by omega⟩, (hF.trans hout), fr_σ_31⟩ dX11_guess_36
    · skip
      replace hF := q_ifp hF c_9
      refine lv_aload_n hx hb dX11_guess_16 rfl (lv_at hl 0 rfl) ?_
      refine lv_iconst (v := 2) hx hb dX11_guess_17 (by decide) ?_
      have kc_32 : (2 : Int32).toInt = 2 := rfl
      refine q_ci (q_runV (As := [.int 2]) (rest := []) E (hml.trans hl.1.symm) hI (c_X11_no l X σ a (2 : Int32) ha) kv_X11_89 ha ⟨rfl, by decide⟩ (show vwCl[10]? = some (RX11, TX11, 17) from rfl) rfl ⟨Nat.le_of_ble_eq_true rfl, Nat.le_of_ble_eq_true rfl⟩ ⟨Nat.le_refl _, Nat.le_refl _⟩ rfl (Nat.le_of_ble_eq_true rfl) dX11_guess_18) hI (by decide) (fun r_33 σ_34 H locs hpσ_34 hkσ_34 hI => ?_)
      obtain ⟨ahpσ_34, bhpσ_34, chpσ_34, dhpσ_34⟩ := hpσ_34
      have fr_σ_34 := fr_σ.call dhpσ_34 rfl rfl
      replace hF := q_biX hF chpσ_34
      exact q_retz E hr hlk hI ⟨by omega, by omega⟩ ⟨⟨by omega, by omega⟩, (hF.trans hout), fr_σ_34⟩ dX11_guess_21
end
