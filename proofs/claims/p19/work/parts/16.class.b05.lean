/-! FROM 16.class.b05.lean.txt -/
section
set_option maxRecDepth 100000 in
set_option maxHeartbeats 4000000 in
theorem c_X11_lies (l : Launch) (X : XW) (σ : ST) (a : Nat) (v1 : Int32) (ha : q_kd X a = 11) : Met l yX11_lies (q_ws yX11_lies cX11_lies 2 (some .int)) (q_rm 3 66) (q_P X σ [.ref a, .int v1]) (q_Qi X 8 σ (fun (r : Int32) (σ' : ST) => (r, σ') = F_X11_lies X σ a v1 ∧ q_ow [(11, 0)] [] X σ σ')) 0 0 (q_reg X) := by
  refine q_met 8 (by first | exact rfl | decide +kernel) rfl (Nat.le_of_ble_eq_true rfl) (fun p e s m below meth c E hml hr hlk hI ls hl => ?_)
  have hx := E.1
  have hb := E.2.1
  have hl : lv_has ls 2 [(0, .ref a), (1, .int v1)] := hl
  have fr_σ : q_ow [(11, 0)] [] X σ σ := q_ow.rf
  obtain ⟨out, hout⟩ : ∃ o, o = F_X11_lies X σ a v1 := ⟨_, rfl⟩
  have hF := hout.symm
  unfold F_X11_lies at hF
  refine lv_aload_n hx hb dX11_lies_0 rfl (lv_at hl 0 rfl) ?_
  refine lv_iload_n hx hb dX11_lies_1 rfl (lv_at hl 1 rfl) ?_
  refine q_ci (q_runV (As := [.int v1]) (rest := []) E (hml.trans hl.1.symm) hI (c_X11_isKind l X σ a v1 ha) kv_X11_250 ha ⟨rfl, by decide⟩ (show vwCl[10]? = some (RX11, TX11, 17) from rfl) rfl ⟨Nat.le_of_ble_eq_true rfl, Nat.le_of_ble_eq_true rfl⟩ ⟨Nat.le_refl _, Nat.le_refl _⟩ rfl (Nat.le_of_ble_eq_true rfl) dX11_lies_2) hI (by decide) (fun r_1 σ_2 H locs hpσ_2 hkσ_2 hI => ?_)
  obtain ⟨ahpσ_2, bhpσ_2, chpσ_2⟩ := hpσ_2
  rw [ahpσ_2] at hI
  replace hF := q_letX hF chpσ_2
  refine q_if_eq (A := r_1.toInt) E rfl (tgt := 23) dX11_lies_5 (by decide) (fun c_3 => ?_) (fun c_3 => ?_)
  · skip
    replace hF := q_ifp hF c_3
    refine lv_aload_n hx hb dX11_lies_23 rfl (lv_at hl 0 rfl) ?_
    refine lv_iconst (v := 2) hx hb dX11_lies_24 (by decide) ?_
    have kc_4 : (2 : Int32).toInt = 2 := rfl
    refine q_ci (q_runV (As := [.int 2]) (rest := []) E (hml.trans hl.1.symm) hI (c_X11_none l X σ a (2 : Int32) ha) kv_X11_109 ha ⟨rfl, by decide⟩ (show vwCl[10]? = some (RX11, TX11, 17) from rfl) rfl ⟨Nat.le_of_ble_eq_true rfl, Nat.le_of_ble_eq_true rfl⟩ ⟨Nat.le_refl _, Nat.le_refl _⟩ rfl (Nat.le_of_ble_eq_true rfl) dX11_lies_25) hI (by decide) (fun r_5 σ_6 H locs hpσ_6 hkσ_6 hI => ?_)
    obtain ⟨ahpσ_6, bhpσ_6, chpσ_6⟩ := hpσ_6
    have fr_σ_6 := fr_σ.call chpσ_6 rfl rfl
    replace hF := q_biX hF bhpσ_6
    exact q_reti E hr hlk hI ⟨(hF.trans hout), fr_σ_6⟩ dX11_lies_28
  · skip
    replace hF := q_ifn hF c_3
    replace c_3 := q_ifOne bhpσ_2 c_3
    refine lv_aload_n hx hb dX11_lies_8 rfl (lv_at hl 0 rfl) ?_
    refine lv_aload_n hx hb dX11_lies_9 rfl (lv_at hl 0 rfl) ?_
    refine gs_X11_42_11 E hI ha dX11_lies_10 ?_
    refine lv_iload_n hx hb dX11_lies_13 rfl (lv_at hl 1 rfl) ?_
    refine q_ci (q_runV (As := [.int v1]) (rest := [.ref a]) E (hml.trans hl.1.symm) hI (c_X0_lyingOf l X σ (q_rf X a 8) v1 (q_tk (k' := 1) hI ha rfl (by decide))) kv_X11_389 (q_tk (k' := 1) hI ha rfl (by decide)) ⟨rfl, by decide⟩ (show vwCl[0]? = some (RX0, TX0, 15) from rfl) rfl ⟨Nat.le_of_ble_eq_true rfl, Nat.le_of_ble_eq_true rfl⟩ ⟨Nat.le_refl _, Nat.le_refl _⟩ rfl (Nat.le_of_ble_eq_true rfl) dX11_lies_14) hI (by decide) (fun r_7 σ_8 H locs hpσ_8 hkσ_8 hI => ?_)
    obtain ⟨ahpσ_8, bhpσ_8⟩ := hpσ_8
    rw [ahpσ_8] at hI
    replace hF := q_letX hF bhpσ_8
    refine q_ci (q_runV (As := [.int r_7]) (rest := []) E (hml.trans hl.1.symm) hI (c_X11_good l X σ a r_7 ha) kv_X11_156 ha ⟨rfl, by decide⟩ (show vwCl[10]? = some (RX11, TX11, 17) from rfl) rfl ⟨Nat.le_of_ble_eq_true rfl, Nat.le_of_ble_eq_true rfl⟩ ⟨Nat.le_refl _, Nat.le_refl _⟩ rfl (Nat.le_of_ble_eq_true rfl) dX11_lies_17) hI (by decide) (fun r_9 σ_10 H locs hpσ_10 hkσ_10 hI => ?_)
    obtain ⟨ahpσ_10, bhpσ_10, chpσ_10⟩ := hpσ_10
    have fr_σ_10 := fr_σ.call chpσ_10 rfl rfl
    replace hF := q_biX hF bhpσ_10
    refine lv_goto (tgt := 28) hx hb dX11_lies_20 (by decide) ?_
    exact q_reti E hr hlk hI ⟨(hF.trans hout), fr_σ_10⟩ dX11_lies_28

set_option maxRecDepth 100000 in
set_option maxHeartbeats 4000000 in
theorem c_X11_guess (l : Launch) (X : XW) (σ : ST) (a : Nat) (v1 : Int32) (v2 : Int32) (v3 : Int32) (ha : q_kd X a = 11) : Met l yX11_guess (q_ws yX11_guess cX11_guess 5 (some .boolean)) (q_rm 4 89) (q_P X σ [.ref a, .int v1, .int v2, .int v3]) (q_Qi X 8 σ (fun (r : Int32) (σ' : ST) => (0 ≤ r.toInt ∧ r.toInt ≤ 1) ∧ (r, σ') = F_X11_guess X σ a v1 v2 v3 ∧ q_ow [(11, 0)] [(11, 1), (11, 2)] X σ σ')) 0 0 (q_reg X) := by
  refine q_met 8 (by first | exact rfl | decide +kernel) rfl (Nat.le_of_ble_eq_true rfl) (fun p e s m below meth c E hml hr hlk hI ls hl => ?_)
  have hx := E.1
  have hb := E.2.1
  have hl : lv_has ls 5 [(0, .ref a), (1, .int v1), (2, .int v2), (3, .int v3)] := hl
  have fr_σ : q_ow [(11, 0)] [(11, 1), (11, 2)] X σ σ := q_ow.rf
  obtain ⟨out, hout⟩ : ∃ o, o = F_X11_guess X σ a v1 v2 v3 := ⟨_, rfl⟩
  have hF := hout.symm
  unfold F_X11_guess at hF
  refine lv_aload_n hx hb dX11_guess_0 rfl (lv_at hl 0 rfl) ?_
  refine lv_iload_n hx hb dX11_guess_1 rfl (lv_at hl 1 rfl) ?_
  refine q_ci (q_runV (As := [.int v1]) (rest := []) E (hml.trans hl.1.symm) hI (c_X11_isPlayer l X σ a v1 ha) kv_X11_219 ha ⟨rfl, by decide⟩ (show vwCl[10]? = some (RX11, TX11, 17) from rfl) rfl ⟨Nat.le_of_ble_eq_true rfl, Nat.le_of_ble_eq_true rfl⟩ ⟨Nat.le_refl _, Nat.le_refl _⟩ rfl (Nat.le_of_ble_eq_true rfl) dX11_guess_2) hI (by decide) (fun r_1 σ_2 H locs hpσ_2 hkσ_2 hI => ?_)
  obtain ⟨ahpσ_2, bhpσ_2, chpσ_2⟩ := hpσ_2
  rw [ahpσ_2] at hI
  replace hF := q_letX hF chpσ_2
  refine q_if_eq (A := r_1.toInt) E rfl (tgt := 16) dX11_guess_5 (by decide) (fun c_3 => ?_) (fun c_3 => ?_)
  · skip
    replace hF := q_ifp hF c_3
    refine lv_aload_n hx hb dX11_guess_16 rfl (lv_at hl 0 rfl) ?_
    refine lv_iconst (v := 2) hx hb dX11_guess_17 (by decide) ?_
    have kc_4 : (2 : Int32).toInt = 2 := rfl
    refine q_ci (q_runV (As := [.int 2]) (rest := []) E (hml.trans hl.1.symm) hI (c_X11_no l X σ a (2 : Int32) ha) kv_X11_89 ha ⟨rfl, by decide⟩ (show vwCl[10]? = some (RX11, TX11, 17) from rfl) rfl ⟨Nat.le_of_ble_eq_true rfl, Nat.le_of_ble_eq_true rfl⟩ ⟨Nat.le_refl _, Nat.le_refl _⟩ rfl (Nat.le_of_ble_eq_true rfl) dX11_guess_18) hI (by decide) (fun r_5 σ_6 H locs hpσ_6 hkσ_6 hI => ?_)
    obtain ⟨ahpσ_6, bhpσ_6, chpσ_6, dhpσ_6⟩ := hpσ_6
    have fr_σ_6 := fr_σ.call dhpσ_6 rfl rfl
    replace hF := q_biX hF chpσ_6
    exact q_retz E hr hlk hI ⟨by omega, by omega⟩ ⟨⟨by omega, by omega⟩, (hF.trans hout), fr_σ_6⟩ dX11_guess_21
  · skip
    replace hF := q_ifn hF c_3
    replace c_3 := q_ifOne bhpσ_2 c_3
    refine lv_aload_n hx hb dX11_guess_8 rfl (lv_at hl 0 rfl) ?_
    refine lv_iload_n hx hb dX11_guess_9 rfl (lv_at hl 2 rfl) ?_
    refine q_ci (q_runV (As := [.int v2]) (rest := []) E (hml.trans hl.1.symm) hI (c_X11_isKind l X σ a v2 ha) kv_X11_250 ha ⟨rfl, by decide⟩ (show vwCl[10]? = some (RX11, TX11, 17) from rfl) rfl ⟨Nat.le_of_ble_eq_true rfl, Nat.le_of_ble_eq_true rfl⟩ ⟨Nat.le_refl _, Nat.le_refl _⟩ rfl (Nat.le_of_ble_eq_true rfl) dX11_guess_10) hI (by decide) (fun r_7 σ_8 H locs hpσ_8 hkσ_8 hI => ?_)
    obtain ⟨ahpσ_8, bhpσ_8, chpσ_8⟩ := hpσ_8
    rw [ahpσ_8] at hI
    replace hF := q_letX hF chpσ_8
    refine q_if_ne (A := r_7.toInt) E rfl (tgt := 22) dX11_guess_13 (by decide) (fun c_9 => ?_) (fun c_9 => ?_)
    · skip
      replace hF := q_ifn hF c_9
      replace c_9 := q_ifOne bhpσ_8 c_9
      refine lv_iload_n hx hb dX11_guess_22 rfl (lv_at hl 3 rfl) ?_
      refine q_if_lt (A := v3.toInt) E rfl (tgt := 31) dX11_guess_23 (by decide) (fun c_10 => ?_) (fun c_10 => ?_)
      · skip
        replace hF := q_ifp hF c_10
        refine lv_aload_n hx hb dX11_guess_31 rfl (lv_at hl 0 rfl) ?_
        refine lv_iconst (v := 5) hx hb dX11_guess_32 (by decide) ?_
        have kc_11 : (5 : Int32).toInt = 5 := rfl
        refine q_ci (q_runV (As := [.int 5]) (rest := []) E (hml.trans hl.1.symm) hI (c_X11_no l X σ a (5 : Int32) ha) kv_X11_89 ha ⟨rfl, by decide⟩ (show vwCl[10]? = some (RX11, TX11, 17) from rfl) rfl ⟨Nat.le_of_ble_eq_true rfl, Nat.le_of_ble_eq_true rfl⟩ ⟨Nat.le_refl _, Nat.le_refl _⟩ rfl (Nat.le_of_ble_eq_true rfl) dX11_guess_33) hI (by decide) (fun r_12 σ_13 H locs hpσ_13 hkσ_13 hI => ?_)
        obtain ⟨ahpσ_13, bhpσ_13, chpσ_13, dhpσ_13⟩ := hpσ_13
        have fr_σ_13 := fr_σ.call dhpσ_13 rfl rfl
        replace hF := q_biX hF chpσ_13
        exact q_retz E hr hlk hI ⟨by omega, by omega⟩ ⟨⟨by omega, by omega⟩, (hF.trans hout), fr_σ_13⟩ dX11_guess_36
      · skip
        replace hF := q_ifn hF (Int.not_lt.mpr c_10)
        refine lv_iload_n hx hb dX11_guess_26 rfl (lv_at hl 3 rfl) ?_
        refine lv_iconst (v := 4) hx hb dX11_guess_27 (by decide) ?_
        refine q_icmp_le (A := v3.toInt) (B := 4) E rfl (by decide) (tgt := 37) dX11_guess_28 (by decide) (fun c_14 => ?_) (fun c_14 => ?_)
        · skip
          replace hF := q_ifn hF (Int.not_lt.mpr c_14)
          refine lv_aload_n hx hb dX11_guess_37 rfl (lv_at hl 0 rfl) ?_
          refine gs_X11_42_11 E hI ha dX11_guess_38 ?_
          refine lv_iload_n hx hb dX11_guess_41 rfl (lv_at hl 1 rfl) ?_
          refine q_ci (q_runV (As := [.int v1]) (rest := []) E (hml.trans hl.1.symm) hI (c_X0_allUnknownTo l X σ (q_rf X a 8) v1 (q_tk (k' := 1) hI ha rfl (by decide))) kv_X11_311 (q_tk (k' := 1) hI ha rfl (by decide)) ⟨rfl, by decide⟩ (show vwCl[0]? = some (RX0, TX0, 15) from rfl) rfl ⟨Nat.le_of_ble_eq_true rfl, Nat.le_of_ble_eq_true rfl⟩ ⟨Nat.le_refl _, Nat.le_refl _⟩ rfl (Nat.le_of_ble_eq_true rfl) dX11_guess_42) hI (by decide) (fun r_15 σ_16 H locs hpσ_16 hkσ_16 hI => ?_)
          obtain ⟨ahpσ_16, bhpσ_16⟩ := hpσ_16
          rw [ahpσ_16] at hI
          replace hF := q_letX hF bhpσ_16
          refine lv_istore (lv' := [(4, .int r_15), (0, .ref a), (1, .int v1), (2, .int v2), (3, .int v3)]) hx hb dX11_guess_45 hl (by decide) rfl (fun ls hl => ?_)
          refine lv_iload hx hb dX11_guess_47 (lv_at hl 0 rfl) ?_
          refine lv_iload_n hx hb dX11_guess_49 rfl (lv_at hl 4 rfl) ?_
          refine q_icmp_ge (A := r_15.toInt) (B := v3.toInt) E rfl rfl (tgt := 60) dX11_guess_50 (by decide) (fun c_17 => ?_) (fun c_17 => ?_)
          · skip
            replace hF := q_ifn hF (Int.not_lt.mpr c_17)
            refine lv_aload_n hx hb dX11_guess_60 rfl (lv_at hl 1 rfl) ?_
            refine lv_aload_n hx hb dX11_guess_61 rfl (lv_at hl 1 rfl) ?_
            refine gs_X11_42_11 E hI ha dX11_guess_62 ?_
            refine lv_iload_n hx hb dX11_guess_65 rfl (lv_at hl 2 rfl) ?_
            refine lv_iload_n hx hb dX11_guess_66 rfl (lv_at hl 3 rfl) ?_
            refine q_ci (q_runV (As := [.int v1, .int v2]) (rest := [.ref a]) E (hml.trans hl.1.symm) hI (c_X0_unknownTo l X σ (q_rf X a 8) v1 v2 (q_tk (k' := 1) hI ha rfl (by decide))) kv_X11_314 (q_tk (k' := 1) hI ha rfl (by decide)) ⟨rfl, by decide⟩ (show vwCl[0]? = some (RX0, TX0, 15) from rfl) rfl ⟨Nat.le_of_ble_eq_true rfl, Nat.le_of_ble_eq_true rfl⟩ ⟨Nat.le_refl _, Nat.le_refl _⟩ rfl (Nat.le_of_ble_eq_true rfl) dX11_guess_67) hI (by decide) (fun r_18 σ_19 H locs hpσ_19 hkσ_19 hI => ?_)
            obtain ⟨ahpσ_19, bhpσ_19⟩ := hpσ_19
            rw [ahpσ_19] at hI
            replace hF := q_letX hF bhpσ_19
            refine lv_iload_n hx hb dX11_guess_70 rfl (lv_at hl 4 rfl) ?_
            refine q_cl_ (q_runS (As := [.int r_18, .int v3]) (rest := [.ref a]) E (hml.trans hl.1.symm) hI (c_X11_waysToTake l X σ r_18 v3) ks_X11_392 rfl ⟨Nat.le_of_ble_eq_true rfl, Nat.le_of_ble_eq_true rfl⟩ ⟨Nat.le_refl _, Nat.le_refl _⟩ rfl (Nat.le_of_ble_eq_true rfl) dX11_guess_71) hI (by decide) (fun r_20 σ_21 H locs hpσ_21 hkσ_21 hI => ?_)
            obtain ⟨ahpσ_21, bhpσ_21⟩ := hpσ_21
            rw [ahpσ_21] at hI
            replace hF := q_letX hF bhpσ_21
            refine lv_iload hx hb dX11_guess_74 (lv_at hl 0 rfl) ?_
            refine lv_iload_n hx hb dX11_guess_76 rfl (lv_at hl 4 rfl) ?_
            refine q_cl_ (q_runS (As := [.int r_15, .int v3]) (rest := [.long r_20, .ref a]) E (hml.trans hl.1.symm) hI (c_X11_waysToTake l X σ r_15 v3) ks_X11_392 rfl ⟨Nat.le_of_ble_eq_true rfl, Nat.le_of_ble_eq_true rfl⟩ ⟨Nat.le_refl _, Nat.le_refl _⟩ rfl (Nat.le_of_ble_eq_true rfl) dX11_guess_77) hI (by decide) (fun r_22 σ_23 H locs hpσ_23 hkσ_23 hI => ?_)
            obtain ⟨ahpσ_23, bhpσ_23⟩ := hpσ_23
            rw [ahpσ_23] at hI
            replace hF := q_letX hF bhpσ_23
            refine q_ci (q_runV (As := [.long r_20, .long r_22]) (rest := []) E (hml.trans hl.1.symm) hI (c_X11_tell l X σ a r_20 r_22 ha) kv_X11_326 ha ⟨rfl, by decide⟩ (show vwCl[10]? = some (RX11, TX11, 17) from rfl) rfl ⟨Nat.le_of_ble_eq_true rfl, Nat.le_of_ble_eq_true rfl⟩ ⟨Nat.le_refl _, Nat.le_refl _⟩ rfl (Nat.le_of_ble_eq_true rfl) dX11_guess_80) hI (by decide) (fun r_24 σ_25 H locs hpσ_25 hkσ_25 hI => ?_)
            obtain ⟨ahpσ_25, bhpσ_25, chpσ_25⟩ := hpσ_25
            have fr_σ_25 := fr_σ.call chpσ_25 rfl rfl
            replace hF := q_biX hF bhpσ_25
            exact q_retz E hr hlk hI ⟨by omega, by omega⟩ ⟨⟨by omega, by omega⟩, (hF.trans hout), fr_σ_25⟩ dX11_guess_83
          · skip
            replace hF := q_ifp hF c_17
            refine lv_aload_n hx hb dX11_guess_53 rfl (lv_at hl 1 rfl) ?_
            refine lv_bipush (v := 9) hx hb dX11_guess_54 (by decide) ?_
            have kc_26 : (9 : Int32).toInt = 9 := rfl
            refine q_ci (q_runV (As := [.int 9]) (rest := []) E (hml.trans hl.1.symm) hI (c_X11_no l X σ a (9 : Int32) ha) kv_X11_89 ha ⟨rfl, by decide⟩ (show vwCl[10]? = some (RX11, TX11, 17) from rfl) rfl ⟨Nat.le_of_ble_eq_true rfl, Nat.le_of_ble_eq_true rfl⟩ ⟨Nat.le_refl _, Nat.le_refl _⟩ rfl (Nat.le_of_ble_eq_true rfl) dX11_guess_56) hI (by decide) (fun r_27 σ_28 H locs hpσ_28 hkσ_28 hI => ?_)
            obtain ⟨ahpσ_28, bhpσ_28, chpσ_28, dhpσ_28⟩ := hpσ_28
            have fr_σ_28 := fr_σ.call dhpσ_28 rfl rfl
            replace hF := q_biX hF chpσ_28
            exact q_retz E hr hlk hI ⟨by omega, by omega⟩ ⟨⟨by omega, by omega⟩, (hF.trans hout), fr_σ_28⟩ dX11_guess_59
        · skip
          replace hF := q_ifp hF c_14
          refine lv_aload_n hx hb dX11_guess_31 rfl (lv_at hl 0 rfl) ?_
          refine lv_iconst (v := 5) hx hb dX11_guess_32 (by decide) ?_
          have kc_29 : (5 : Int32).toInt = 5 := rfl
          refine q_ci (q_runV (As := [.int 5]) (rest := []) E (hml.trans hl.1.symm) hI (c_X11_no l X σ a (5 : Int32) ha) kv_X11_89 ha ⟨rfl, by decide⟩ (show vwCl[10]? = some (RX11, TX11, 17) from rfl) rfl ⟨Nat.le_of_ble_eq_true rfl, Nat.le_of_ble_eq_true rfl⟩ ⟨Nat.le_refl _, Nat.le_refl _⟩ rfl (Nat.le_of_ble_eq_true rfl) dX11_guess_33) hI (by decide) (fun r_30 σ_31 H locs hpσ_31 hkσ_31 hI => ?_)
          obtain ⟨ahpσ_31, bhpσ_31, chpσ_31, dhpσ_31⟩ := hpσ_31
          have fr_σ_31 := fr_σ.call dhpσ_31 rfl rfl
          replace hF := q_biX hF chpσ_31
          exact q_retz E hr hlk hI ⟨by omega, by omega⟩ ⟨⟨by omega, by omega⟩, (hF.trans hout), fr_σ_31⟩ dX11_guess_36
    · skip
      replace hF := q_ifp hF c_9
      refine lv_aload_n hx hb dX11_guess_16 rfl (lv_at hl 0 rfl) ?_
      refine lv_iconst (v := 2) hx hb dX11_guess_17 (by decide) ?_
      have kc_32 : (2 : Int32).toInt = 2 := rfl
      refine q_ci (q_runV (As := [.int 2]) (rest := []) E (hml.trans hl.1.symm) hI (c_X11_no l X σ a (2 : Int32) ha) kv_X11_89 ha ⟨rfl, by decide⟩ (show vwCl[10]? = some (RX11, TX11, 17) from rfl) rfl ⟨Nat.le_of_ble_eq_true rfl, Nat.le_of_ble_eq_true rfl⟩ ⟨Nat.le_refl _, Nat.le_refl _⟩ rfl (Nat.le_of_ble_eq_true rfl) dX11_guess_18) hI (by decide) (fun r_33 σ_34 H locs hpσ_34 hkσ_34 hI => ?_)
      obtain ⟨ahpσ_34, bhpσ_34, chpσ_34, dhpσ_34⟩ := hpσ_34
      have fr_σ_34 := fr_σ.call dhpσ_34 rfl rfl
      replace hF := q_biX hF chpσ_34
      exact q_retz E hr hlk hI ⟨by omega, by omega⟩ ⟨⟨by omega, by omega⟩, (hF.trans hout), fr_σ_34⟩ dX11_guess_21

set_option maxRecDepth 100000 in
set_option maxHeartbeats 4000000 in
theorem c_X11_fullest (l : Launch) (X : XW) (σ : ST) (a : Nat) (ha : q_kd X a = 11) : Met l yX11_fullest (q_ws yX11_fullest cX11_fullest 4 (some .int)) (q_rm 2 42) (q_P X σ [.ref a]) (q_Qi X 8 σ (fun (r : Int32) (σ' : ST) => (r, σ') = F_X11_fullest X σ a ∧ q_ow [(11, 0)] [] X σ σ')) 0 0 (q_reg X) := by
  refine q_met 8 (by first | exact rfl | decide +kernel) rfl (Nat.le_of_ble_eq_true rfl) (fun p e s m below meth c E hml hr hlk hI ls hl => ?_)
  have hx := E.1
  have hb := E.2.1
  have hl : lv_has ls 4 [(0, .ref a)] := hl
  have fr_σ : q_ow [(11, 0)] [] X σ σ := q_ow.rf
  obtain ⟨out, hout⟩ : ∃ o, o = F_X11_fullest X σ a := ⟨_, rfl⟩
  have hF := hout.symm
  unfold F_X11_fullest at hF
  refine lv_iconst (v := (-1)) hx hb dX11_fullest_0 (by decide) ?_
  refine lv_istore_n (lv' := [(1, .int (-1)), (0, .ref a)]) hx hb dX11_fullest_1 rfl hl (by decide) rfl (fun ls hl => ?_)
  refine lv_iconst (v := (-1)) hx hb dX11_fullest_2 (by decide) ?_
  refine lv_istore_n (lv' := [(2, .int (-1)), (1, .int (-1)), (0, .ref a)]) hx hb dX11_fullest_3 rfl hl (by decide) rfl (fun ls hl => ?_)
  refine lv_iconst (v := 0) hx hb dX11_fullest_4 (by decide) ?_
  refine lv_istore_n (lv' := [(3, .int 0), (2, .int (-1)), (1, .int (-1)), (0, .ref a)]) hx hb dX11_fullest_5 rfl hl (by decide) rfl (fun ls hl => ?_)
  have L_6_4 : ∀ (k_4 : Nat) (x_1 : Int32) (x_2 : Int32) (x_3 : Int32) (H : Heap) (locs : List Loc) (ls : Array Slot), (2147483647 - x_3.toInt).toNat < k_4 → (0 ≤ x_3.toInt) → (F_X11_fullest_L6_1 X σ a k_4 x_1 x_2 x_3 = out) → q_I X 8 σ s.heap locs σ H → lv_has ls 4 [(0, .ref a), (1, .int x_1), (2, .int x_2), (3, .int x_3)] → W p l e (q_rm 2 42) s m ([.ref a] : List Value).toArray below meth c H locs 0 0 (MQ below (q_Qi X 8 σ (fun (r : Int32) (σ' : ST) => (r, σ') = F_X11_fullest X σ a ∧ q_ow [(11, 0)] [] X σ σ')) ([.ref a] : List Value).toArray s 0 0 (q_reg X)) (F0 m 6 ls []) := by
    clear hF
    intro k_4
    induction k_4 with
    | zero =>
      intro x_1 x_2 x_3 H locs ls hms
      exact absurd hms (Nat.not_lt_zero _)
    | succ k_4 ih6 =>
      intro x_1 x_2 x_3 H locs ls hm6 hge6 hF hI hl
      replace hF := (F_X11_fullest_L6_1_s).symm.trans hF
      unfold F_X11_fullest_B6_1 at hF
      refine lv_iload_n hx hb dX11_fullest_6 rfl (lv_at hl 3 rfl) ?_
      refine lv_aload_n hx hb dX11_fullest_7 rfl (lv_at hl 0 rfl) ?_
      refine gs_X11_42_11 E hI ha dX11_fullest_8 ?_
      refine gs_X11_147_1 E hI (q_tk (k' := 1) hI ha rfl (by decide)) dX11_fullest_11 ?_
      refine gs_X11_151_6 E hI (q_tk (k' := 6) hI (q_tk (k' := 1) hI ha rfl (by decide)) rfl (by decide)) dX11_fullest_14 ?_
      refine lv_topi (fun f_5 ef_5 => ?_)
      replace hF := q_letX hF ef_5
      have gc_6_x_3 := q_rng x_3
      have gc_6_f_5 := q_rng f_5
      refine q_icmp_ge (A := x_3.toInt) (B := f_5.toInt) E rfl rfl (tgt := 61) dX11_fullest_17 (by decide) (fun c_6 => ?_) (fun c_6 => ?_)
      · skip
        replace hF := q_ifn hF (Int.not_lt.mpr c_6)
        unfold F_X11_fullest_E61_2 at hF
        refine lv_aload_n hx hb dX11_fullest_61 rfl (lv_at hl 0 rfl) ?_
        refine lv_iload_n hx hb dX11_fullest_62 rfl (lv_at hl 1 rfl) ?_
        refine q_ci (q_runV (As := [.int x_1]) (rest := []) E (hml.trans hl.1.symm) hI (c_X11_goodOrNotThere l X σ a x_1 ha) kv_X11_366 ha ⟨rfl, by decide⟩ (show vwCl[10]? = some (RX11, TX11, 17) from rfl) rfl ⟨Nat.le_of_ble_eq_true rfl, Nat.le_of_ble_eq_true rfl⟩ ⟨Nat.le_refl _, Nat.le_refl _⟩ rfl (Nat.le_of_ble_eq_true rfl) dX11_fullest_63) hI (by decide) (fun r_7 σ_8 H locs hpσ_8 hkσ_8 hI => ?_)
        obtain ⟨ahpσ_8, bhpσ_8⟩ := hpσ_8
        have fr_σ_8 := fr_σ.call bhpσ_8 rfl rfl
        replace hF := q_biX hF ahpσ_8
        exact q_reti E hr hlk hI ⟨(hF.trans hout), fr_σ_8⟩ dX11_fullest_66
      · skip
        replace hF := q_ifp hF c_6
        refine lv_aload_n hx hb dX11_fullest_20 rfl (lv_at hl 0 rfl) ?_
        refine gs_X11_42_11 E hI ha dX11_fullest_21 ?_
        refine gs_X11_222_1 E hI (q_tk (k' := 1) hI ha rfl (by decide)) dX11_fullest_24 ?_
        refine gs_X11_239_2 E hI (q_tk (k' := 2) hI (q_tk (k' := 1) hI ha rfl (by decide)) rfl (by decide)) dX11_fullest_27 ?_
        refine lv_iload_n hx hb dX11_fullest_30 rfl (lv_at hl 3 rfl) ?_
        refine q_ci (q_runV (As := [.int x_3]) (rest := []) E (hml.trans hl.1.symm) hI (c_X5_get l X σ (q_rf X (q_rf X (q_rf X a 8) 1) 2) x_3 (q_tk (k' := 5) hI (q_tk (k' := 2) hI (q_tk (k' := 1) hI ha rfl (by decide)) rfl (by decide)) rfl (by decide))) kv_X11_232 (q_tk (k' := 5) hI (q_tk (k' := 2) hI (q_tk (k' := 1) hI ha rfl (by decide)) rfl (by decide)) rfl (by decide)) ⟨rfl, by decide⟩ (show vwCl[4]? = some (RX5, TX5, 1) from rfl) rfl ⟨Nat.le_of_ble_eq_true rfl, Nat.le_of_ble_eq_true rfl⟩ ⟨Nat.le_refl _, Nat.le_refl _⟩ rfl (Nat.le_of_ble_eq_true rfl) dX11_fullest_31) hI (by decide) (fun r_9 σ_10 H locs hpσ_10 hkσ_10 hI => ?_)
        obtain ⟨ahpσ_10, bhpσ_10⟩ := hpσ_10
        rw [ahpσ_10] at hI
        replace hF := q_letX hF bhpσ_10
        refine lv_iload_n hx hb dX11_fullest_34 rfl (lv_at hl 2 rfl) ?_
        have gc_11_r_9 := q_rng r_9
        have gc_11_x_2 := q_rng x_2
        refine q_icmp_le (A := r_9.toInt) (B := x_2.toInt) E rfl rfl (tgt := 55) dX11_fullest_35 (by decide) (fun c_11 => ?_) (fun c_11 => ?_)
        · skip
          replace hF := q_ifn hF (Int.not_lt.mpr c_11)
          obtain ⟨z_12, ez_12⟩ : ∃ y : Int32, y = x_3 + 1 := ⟨_, rfl⟩
          replace hF := q_letX hF ez_12
          refine lv_iinc (v := z_12) (lv' := [(3, .int z_12), (0, .ref a), (1, .int x_1), (2, .int x_2)]) hx hb dX11_fullest_55 hl (k := 3) rfl (by rw [ez_12]; rfl) (by decide) rfl (fun ls hl => ?_)
          have iz_12 : z_12.toInt = x_3.toInt + 1 := q_inc ez_12 (by first | (clear hm6 ahpσ_10 bhpσ_10 gc_11_r_9 gc_11_x_2 c_11; omega) | omega)
          refine lv_goto (tgt := 6) hx hb dX11_fullest_58 (by decide) ?_
          exact ih6 x_1 x_2 z_12 _ _ ls (by first | (clear ahpσ_10 bhpσ_10 gc_11_r_9 gc_11_x_2 c_11; omega) | omega) (by first | (clear hm6 gc_6_f_5 c_6 ahpσ_10 bhpσ_10 gc_11_r_9 gc_11_x_2 c_11; omega) | omega) hF hI (lv_sub hl [1, 2, 3, 0] rfl)
        · skip
          replace hF := q_ifp hF c_11
          refine lv_aload_n hx hb dX11_fullest_38 rfl (lv_at hl 0 rfl) ?_
          refine gs_X11_42_11 E hI ha dX11_fullest_39 ?_
          refine gs_X11_222_1 E hI (q_tk (k' := 1) hI ha rfl (by decide)) dX11_fullest_42 ?_
          refine gs_X11_239_2 E hI (q_tk (k' := 2) hI (q_tk (k' := 1) hI ha rfl (by decide)) rfl (by decide)) dX11_fullest_45 ?_
          refine lv_iload_n hx hb dX11_fullest_48 rfl (lv_at hl 3 rfl) ?_
          refine q_ci (q_runV (As := [.int x_3]) (rest := []) E (hml.trans hl.1.symm) hI (c_X5_get l X σ (q_rf X (q_rf X (q_rf X a 8) 1) 2) x_3 (q_tk (k' := 5) hI (q_tk (k' := 2) hI (q_tk (k' := 1) hI ha rfl (by decide)) rfl (by decide)) rfl (by decide))) kv_X11_232 (q_tk (k' := 5) hI (q_tk (k' := 2) hI (q_tk (k' := 1) hI ha rfl (by decide)) rfl (by decide)) rfl (by decide)) ⟨rfl, by decide⟩ (show vwCl[4]? = some (RX5, TX5, 1) from rfl) rfl ⟨Nat.le_of_ble_eq_true rfl, Nat.le_of_ble_eq_true rfl⟩ ⟨Nat.le_refl _, Nat.le_refl _⟩ rfl (Nat.le_of_ble_eq_true rfl) dX11_fullest_49) hI (by decide) (fun r_13 σ_14 H locs hpσ_14 hkσ_14 hI => ?_)
          obtain ⟨ahpσ_14, bhpσ_14⟩ := hpσ_14
          rw [ahpσ_14] at hI
          replace hF := q_letX hF bhpσ_14
          refine lv_istore_n (lv' := [(2, .int r_13), (0, .ref a), (1, .int x_1), (3, .int x_3)]) hx hb dX11_fullest_52 rfl hl (by decide) rfl (fun ls hl => ?_)
          refine lv_iload_n hx hb dX11_fullest_53 rfl (lv_at hl 3 rfl) ?_
          refine lv_istore_n (lv' := [(1, .int x_3), (2, .int r_13), (0, .ref a), (3, .int x_3)]) hx hb dX11_fullest_54 rfl hl (by decide) rfl (fun ls hl => ?_)
          obtain ⟨z_15, ez_15⟩ : ∃ y : Int32, y = x_3 + 1 := ⟨_, rfl⟩
          replace hF := q_letX hF ez_15
          refine lv_iinc (v := z_15) (lv' := [(3, .int z_15), (1, .int x_3), (2, .int r_13), (0, .ref a)]) hx hb dX11_fullest_55 hl (k := 3) rfl (by rw [ez_15]; rfl) (by decide) rfl (fun ls hl => ?_)
          have iz_15 : z_15.toInt = x_3.toInt + 1 := q_inc ez_15 (by first | (clear hm6 ahpσ_10 bhpσ_10 gc_11_r_9 gc_11_x_2 c_11 ahpσ_14 bhpσ_14; omega) | omega)
          refine lv_goto (tgt := 6) hx hb dX11_fullest_58 (by decide) ?_
          exact ih6 x_3 r_13 z_15 _ _ ls (by first | (clear ahpσ_10 bhpσ_10 gc_11_r_9 gc_11_x_2 c_11 ahpσ_14 bhpσ_14; omega) | omega) (by first | (clear hm6 gc_6_f_5 c_6 ahpσ_10 bhpσ_10 gc_11_r_9 gc_11_x_2 c_11 ahpσ_14 bhpσ_14; omega) | omega) hF hI (lv_sub hl [3, 1, 2, 0] rfl)
  exact L_6_4 ((2147483647 - (0 : Int32).toInt).toNat + 1) (-1) (-1) 0 _ _ ls (Nat.lt_succ_self _) (by decide) hF hI (lv_sub hl [3, 2, 1, 0] rfl)

set_option maxRecDepth 100000 in
set_option maxHeartbeats 4000000 in
theorem c_X11_quartet (l : Launch) (X : XW) (σ : ST) (a : Nat) (v1 : Int32) (ha : q_kd X a = 11) : Met l yX11_quartet (q_ws yX11_quartet cX11_quartet 4 (some .int)) (q_rm 2 43) (q_P X σ [.ref a, .int v1]) (q_Qi X 8 σ (fun (r : Int32) (σ' : ST) => (r, σ') = F_X11_quartet X σ a v1 ∧ q_ow [(11, 0)] [] X σ σ')) 0 0 (q_reg X) := by
  refine q_met 8 (by first | exact rfl | decide +kernel) rfl (Nat.le_of_ble_eq_true rfl) (fun p e s m below meth c E hml hr hlk hI ls hl => ?_)
  have hx := E.1
  have hb := E.2.1
  have hl : lv_has ls 4 [(0, .ref a), (1, .int v1)] := hl
  have fr_σ : q_ow [(11, 0)] [] X σ σ := q_ow.rf
  obtain ⟨out, hout⟩ : ∃ o, o = F_X11_quartet X σ a v1 := ⟨_, rfl⟩
  have hF := hout.symm
  unfold F_X11_quartet at hF
  refine lv_aload_n hx hb dX11_quartet_0 rfl (lv_at hl 0 rfl) ?_
  refine lv_iload_n hx hb dX11_quartet_1 rfl (lv_at hl 1 rfl) ?_
  refine q_ci (q_runV (As := [.int v1]) (rest := []) E (hml.trans hl.1.symm) hI (c_X11_isPlayer l X σ a v1 ha) kv_X11_219 ha ⟨rfl, by decide⟩ (show vwCl[10]? = some (RX11, TX11, 17) from rfl) rfl ⟨Nat.le_of_ble_eq_true rfl, Nat.le_of_ble_eq_true rfl⟩ ⟨Nat.le_refl _, Nat.le_refl _⟩ rfl (Nat.le_of_ble_eq_true rfl) dX11_quartet_2) hI (by decide) (fun r_1 σ_2 H locs hpσ_2 hkσ_2 hI => ?_)
  obtain ⟨ahpσ_2, bhpσ_2, chpσ_2⟩ := hpσ_2
  rw [ahpσ_2] at hI
  replace hF := q_letX hF chpσ_2
  refine q_if_ne (A := r_1.toInt) E rfl (tgt := 14) dX11_quartet_5 (by decide) (fun c_3 => ?_) (fun c_3 => ?_)
  · skip
    replace hF := q_ifn hF c_3
    replace c_3 := q_ifOne bhpσ_2 c_3
    refine lv_iconst (v := 0) hx hb dX11_quartet_14 (by decide) ?_
    refine lv_istore_n (lv' := [(2, .int 0), (0, .ref a), (1, .int v1)]) hx hb dX11_quartet_15 rfl hl (by decide) rfl (fun ls hl => ?_)
    have L_16_5 : ∀ (k_5 : Nat) (x_4 : Int32) (H : Heap) (locs : List Loc) (ls : Array Slot), (2147483647 - x_4.toInt).toNat < k_5 → (0 ≤ x_4.toInt) → (F_X11_quartet_L16_1 X σ a v1 k_5 x_4 = out) → q_I X 8 σ s.heap locs σ H → lv_has ls 4 [(0, .ref a), (1, .int v1), (2, .int x_4)] → W p l e (q_rm 2 43) s m ([.ref a, .int v1] : List Value).toArray below meth c H locs 0 0 (MQ below (q_Qi X 8 σ (fun (r : Int32) (σ' : ST) => (r, σ') = F_X11_quartet X σ a v1 ∧ q_ow [(11, 0)] [] X σ σ')) ([.ref a, .int v1] : List Value).toArray s 0 0 (q_reg X)) (F0 m 16 ls []) := by
      clear hF
      intro k_5
      induction k_5 with
      | zero =>
        intro x_4 H locs ls hms
        exact absurd hms (Nat.not_lt_zero _)
      | succ k_5 ih16 =>
        intro x_4 H locs ls hm16 hge16 hF hI hl
        replace hF := (F_X11_quartet_L16_1_s).symm.trans hF
        unfold F_X11_quartet_B16_1 at hF
        refine lv_iload_n hx hb dX11_quartet_16 rfl (lv_at hl 2 rfl) ?_
        refine lv_aload_n hx hb dX11_quartet_17 rfl (lv_at hl 0 rfl) ?_
        refine gs_X11_42_11 E hI ha dX11_quartet_18 ?_
        refine gs_X11_147_1 E hI (q_tk (k' := 1) hI ha rfl (by decide)) dX11_quartet_21 ?_
        refine gs_X11_183_6 E hI (q_tk (k' := 6) hI (q_tk (k' := 1) hI ha rfl (by decide)) rfl (by decide)) dX11_quartet_24 ?_
        refine lv_topi (fun f_6 ef_6 => ?_)
        replace hF := q_letX hF ef_6
        have bf_6 : -2147483648 ≤ f_6.toInt ∧ f_6.toInt ≤ 10 := by rw [ef_6]; exact q_bd hI (q_tk (k' := 6) hI (q_tk (k' := 1) hI ha rfl (by decide)) rfl (by decide)) rfl
        have gc_7_x_4 := q_rng x_4
        have gc_7_f_6 := q_rng f_6
        refine q_icmp_ge (A := x_4.toInt) (B := f_6.toInt) E rfl rfl (tgt := 77) dX11_quartet_27 (by decide) (fun c_7 => ?_) (fun c_7 => ?_)
        · skip
          replace hF := q_ifn hF (Int.not_lt.mpr c_7)
          unfold F_X11_quartet_E77_2 at hF
          refine lv_aload_n hx hb dX11_quartet_77 rfl (lv_at hl 0 rfl) ?_
          refine lv_bipush (v := 8) hx hb dX11_quartet_78 (by decide) ?_
          have kc_8 : (8 : Int32).toInt = 8 := rfl
          refine q_ci (q_runV (As := [.int 8]) (rest := []) E (hml.trans hl.1.symm) hI (c_X11_none l X σ a (8 : Int32) ha) kv_X11_109 ha ⟨rfl, by decide⟩ (show vwCl[10]? = some (RX11, TX11, 17) from rfl) rfl ⟨Nat.le_of_ble_eq_true rfl, Nat.le_of_ble_eq_true rfl⟩ ⟨Nat.le_refl _, Nat.le_refl _⟩ rfl (Nat.le_of_ble_eq_true rfl) dX11_quartet_80) hI (by decide) (fun r_9 σ_10 H locs hpσ_10 hkσ_10 hI => ?_)
          obtain ⟨ahpσ_10, bhpσ_10, chpσ_10⟩ := hpσ_10
          have fr_σ_10 := fr_σ.call chpσ_10 rfl rfl
          replace hF := q_biX hF bhpσ_10
          exact q_reti E hr hlk hI ⟨(hF.trans hout), fr_σ_10⟩ dX11_quartet_83
        · skip
          replace hF := q_ifp hF c_7
          refine lv_aload_n hx hb dX11_quartet_30 rfl (lv_at hl 0 rfl) ?_
          refine gs_X11_42_11 E hI ha dX11_quartet_31 ?_
          refine gs_X11_147_1 E hI (q_tk (k' := 1) hI ha rfl (by decide)) dX11_quartet_34 ?_
          refine gs_X11_257_6 E hI (q_tk (k' := 6) hI (q_tk (k' := 1) hI ha rfl (by decide)) rfl (by decide)) dX11_quartet_37 ?_
          refine lv_iload_n hx hb dX11_quartet_40 rfl (lv_at hl 2 rfl) ?_
          refine q_ci (q_runV (As := [.int x_4]) (rest := []) E (hml.trans hl.1.symm) hI (c_X5_get l X σ (q_rf X (q_rf X (q_rf X a 8) 0) 5) x_4 (q_tk (k' := 5) hI (q_tk (k' := 6) hI (q_tk (k' := 1) hI ha rfl (by decide)) rfl (by decide)) rfl (by decide))) kv_X11_232 (q_tk (k' := 5) hI (q_tk (k' := 6) hI (q_tk (k' := 1) hI ha rfl (by decide)) rfl (by decide)) rfl (by decide)) ⟨rfl, by decide⟩ (show vwCl[4]? = some (RX5, TX5, 1) from rfl) rfl ⟨Nat.le_of_ble_eq_true rfl, Nat.le_of_ble_eq_true rfl⟩ ⟨Nat.le_refl _, Nat.le_refl _⟩ rfl (Nat.le_of_ble_eq_true rfl) dX11_quartet_41) hI (by decide) (fun r_11 σ_12 H locs hpσ_12 hkσ_12 hI => ?_)
          obtain ⟨ahpσ_12, bhpσ_12⟩ := hpσ_12
          rw [ahpσ_12] at hI
          replace hF := q_letX hF bhpσ_12
          refine lv_istore_n (lv' := [(3, .int r_11), (0, .ref a), (1, .int v1), (2, .int x_4)]) hx hb dX11_quartet_44 rfl hl (by decide) rfl (fun ls hl => ?_)
          refine lv_iload_n hx hb dX11_quartet_45 rfl (lv_at hl 0 rfl) ?_
          refine q_if_le (A := r_11.toInt) E rfl (tgt := 71) dX11_quartet_46 (by decide) (fun c_13 => ?_) (fun c_13 => ?_)
          · skip
            replace hF := q_ifn hF (Int.not_lt.mpr c_13)
            obtain ⟨z_14, ez_14⟩ : ∃ y : Int32, y = x_4 + 1 := ⟨_, rfl⟩
            replace hF := q_letX hF ez_14
            refine lv_iinc (v := z_14) (lv' := [(2, .int z_14), (3, .int r_11), (0, .ref a), (1, .int v1)]) hx hb dX11_quartet_71 hl (k := 3) rfl (by rw [ez_14]; rfl) (by decide) rfl (fun ls hl => ?_)
            have iz_14 : z_14.toInt = x_4.toInt + 1 := q_inc ez_14 (by omega)
            refine lv_goto (tgt := 16) hx hb dX11_quartet_74 (by decide) ?_
            exact ih16 z_14 _ _ ls (by omega) (by omega) hF hI (lv_sub hl [2, 3, 0] rfl)
          · skip
            replace hF := q_ifp hF c_13
            refine lv_aload_n hx hb dX11_quartet_49 rfl (lv_at hl 1 rfl) ?_
            refine gs_X11_42_11 E hI ha dX11_quartet_50 ?_
            refine gs_X11_222_1 E hI (q_tk (k' := 1) hI ha rfl (by decide)) dX11_quartet_53 ?_
            refine lv_iload_n hx hb dX11_quartet_56 rfl (lv_at hl 2 rfl) ?_
            refine lv_iload_n hx hb dX11_quartet_57 rfl (lv_at hl 3 rfl) ?_
            refine q_ci (q_runV (As := [.int v1, .int x_4]) (rest := []) E (hml.trans hl.1.symm) hI (c_X1_heldBy l X σ (q_rf X (q_rf X a 8) 1) v1 x_4 (q_tk (k' := 2) hI (q_tk (k' := 1) hI ha rfl (by decide)) rfl (by decide))) kv_X11_253 (q_tk (k' := 2) hI (q_tk (k' := 1) hI ha rfl (by decide)) rfl (by decide)) ⟨rfl, by decide⟩ (show vwCl[1]? = some (RX1, TX1, 7) from rfl) rfl ⟨Nat.le_of_ble_eq_true rfl, Nat.le_of_ble_eq_true rfl⟩ ⟨Nat.le_refl _, Nat.le_refl _⟩ rfl (Nat.le_of_ble_eq_true rfl) dX11_quartet_58) hI (by decide) (fun r_15 σ_16 H locs hpσ_16 hkσ_16 hI => ?_)
            obtain ⟨ahpσ_16, bhpσ_16⟩ := hpσ_16
            rw [ahpσ_16] at hI
            replace hF := q_letX hF bhpσ_16
            refine lv_iload_n hx hb dX11_quartet_61 rfl (lv_at hl 0 rfl) ?_
            have gc_17_r_15 := q_rng r_15
            have gc_17_r_11 := q_rng r_11
            refine q_icmp_ne (A := r_15.toInt) (B := r_11.toInt) E rfl rfl (tgt := 71) dX11_quartet_62 (by decide) (fun c_17 => ?_) (fun c_17 => ?_)
            · skip
              replace hF := q_ifn hF c_17
              obtain ⟨z_18, ez_18⟩ : ∃ y : Int32, y = x_4 + 1 := ⟨_, rfl⟩
              replace hF := q_letX hF ez_18
              refine lv_iinc (v := z_18) (lv' := [(2, .int z_18), (3, .int r_11), (0, .ref a), (1, .int v1)]) hx hb dX11_quartet_71 hl (k := 3) rfl (by rw [ez_18]; rfl) (by decide) rfl (fun ls hl => ?_)
              have iz_18 : z_18.toInt = x_4.toInt + 1 := q_inc ez_18 (by first | (clear ahpσ_2 bhpσ_2 chpσ_2 c_3 hm16 gc_7_f_6 ahpσ_12 bhpσ_12 c_13 ahpσ_16 bhpσ_16 gc_17_r_15 gc_17_r_11 c_17; omega) | omega)
              refine lv_goto (tgt := 16) hx hb dX11_quartet_74 (by decide) ?_
              exact ih16 z_18 _ _ ls (by first | (clear ahpσ_2 bhpσ_2 chpσ_2 c_3 gc_7_f_6 ahpσ_12 bhpσ_12 c_13 ahpσ_16 bhpσ_16 gc_17_r_15 gc_17_r_11; omega) | omega) (by first | (clear ahpσ_2 bhpσ_2 chpσ_2 c_3 hm16 bf_6 gc_7_f_6 c_7 ahpσ_12 bhpσ_12 c_13 ahpσ_16 bhpσ_16 gc_17_r_15 gc_17_r_11 c_17; omega) | omega) hF hI (lv_sub hl [2, 3, 0] rfl)
            · skip
              replace hF := q_ifp hF c_17
              unfold F_X11_quartet_E65_3 at hF
              refine lv_aload_n hx hb dX11_quartet_65 rfl (lv_at hl 1 rfl) ?_
              refine lv_iload_n hx hb dX11_quartet_66 rfl (lv_at hl 3 rfl) ?_
              refine q_ci (q_runV (As := [.int x_4]) (rest := []) E (hml.trans hl.1.symm) hI (c_X11_good l X σ a x_4 ha) kv_X11_156 ha ⟨rfl, by decide⟩ (show vwCl[10]? = some (RX11, TX11, 17) from rfl) rfl ⟨Nat.le_of_ble_eq_true rfl, Nat.le_of_ble_eq_true rfl⟩ ⟨Nat.le_refl _, Nat.le_refl _⟩ rfl (Nat.le_of_ble_eq_true rfl) dX11_quartet_67) hI (by decide) (fun r_19 σ_20 H locs hpσ_20 hkσ_20 hI => ?_)
              obtain ⟨ahpσ_20, bhpσ_20, chpσ_20⟩ := hpσ_20
              have fr_σ_20 := fr_σ.call chpσ_20 rfl rfl
              replace hF := q_biX hF bhpσ_20
              exact q_reti E hr hlk hI ⟨(hF.trans hout), fr_σ_20⟩ dX11_quartet_70
    exact L_16_5 ((2147483647 - (0 : Int32).toInt).toNat + 1) 0 _ _ ls (Nat.lt_succ_self _) (by decide) hF hI (lv_sub hl [1, 2, 0] rfl)
  · skip
    replace hF := q_ifp hF c_3
    refine lv_aload_n hx hb dX11_quartet_8 rfl (lv_at hl 0 rfl) ?_
    refine lv_iconst (v := 2) hx hb dX11_quartet_9 (by decide) ?_
    have kc_21 : (2 : Int32).toInt = 2 := rfl
    refine q_ci (q_runV (As := [.int 2]) (rest := []) E (hml.trans hl.1.symm) hI (c_X11_none l X σ a (2 : Int32) ha) kv_X11_109 ha ⟨rfl, by decide⟩ (show vwCl[10]? = some (RX11, TX11, 17) from rfl) rfl ⟨Nat.le_of_ble_eq_true rfl, Nat.le_of_ble_eq_true rfl⟩ ⟨Nat.le_refl _, Nat.le_refl _⟩ rfl (Nat.le_of_ble_eq_true rfl) dX11_quartet_10) hI (by decide) (fun r_22 σ_23 H locs hpσ_23 hkσ_23 hI => ?_)
    obtain ⟨ahpσ_23, bhpσ_23, chpσ_23⟩ := hpσ_23
    have fr_σ_23 := fr_σ.call chpσ_23 rfl rfl
    replace hF := q_biX hF bhpσ_23
    exact q_reti E hr hlk hI ⟨(hF.trans hout), fr_σ_23⟩ dX11_quartet_13

set_option maxRecDepth 100000 in
set_option maxHeartbeats 4000000 in
theorem c_X11_sorts (l : Launch) (X : XW) (σ : ST) (a : Nat) (v1 : Int32) (ha : q_kd X a = 11) : Met l yX11_sorts (q_ws yX11_sorts cX11_sorts 4 (some .int)) (q_rm 2 44) (q_P X σ [.ref a, .int v1]) (q_Qi X 8 σ (fun (r : Int32) (σ' : ST) => (r, σ') = F_X11_sorts X σ a v1 ∧ q_ow [(11, 0)] [] X σ σ')) 0 0 (q_reg X) := by
  refine q_met 8 (by first | exact rfl | decide +kernel) rfl (Nat.le_of_ble_eq_true rfl) (fun p e s m below meth c E hml hr hlk hI ls hl => ?_)
  have hx := E.1
  have hb := E.2.1
  have hl : lv_has ls 4 [(0, .ref a), (1, .int v1)] := hl
  have fr_σ : q_ow [(11, 0)] [] X σ σ := q_ow.rf
  obtain ⟨out, hout⟩ : ∃ o, o = F_X11_sorts X σ a v1 := ⟨_, rfl⟩
  have hF := hout.symm
  unfold F_X11_sorts at hF
  refine lv_iload_n hx hb dX11_sorts_0 rfl (lv_at hl 1 rfl) ?_
  refine q_if_lt (A := v1.toInt) E rfl (tgt := 9) dX11_sorts_1 (by decide) (fun c_1 => ?_) (fun c_1 => ?_)
  · skip
    replace hF := q_ifp hF c_1
    refine lv_aload_n hx hb dX11_sorts_9 rfl (lv_at hl 0 rfl) ?_
    refine lv_iconst (v := 5) hx hb dX11_sorts_10 (by decide) ?_
    have kc_2 : (5 : Int32).toInt = 5 := rfl
    refine q_ci (q_runV (As := [.int 5]) (rest := []) E (hml.trans hl.1.symm) hI (c_X11_none l X σ a (5 : Int32) ha) kv_X11_109 ha ⟨rfl, by decide⟩ (show vwCl[10]? = some (RX11, TX11, 17) from rfl) rfl ⟨Nat.le_of_ble_eq_true rfl, Nat.le_of_ble_eq_true rfl⟩ ⟨Nat.le_refl _, Nat.le_refl _⟩ rfl (Nat.le_of_ble_eq_true rfl) dX11_sorts_11) hI (by decide) (fun r_3 σ_4 H locs hpσ_4 hkσ_4 hI => ?_)
    obtain ⟨ahpσ_4, bhpσ_4, chpσ_4⟩ := hpσ_4
    have fr_σ_4 := fr_σ.call chpσ_4 rfl rfl
    replace hF := q_biX hF bhpσ_4
    exact q_reti E hr hlk hI ⟨(hF.trans hout), fr_σ_4⟩ dX11_sorts_14
  · skip
    replace hF := q_ifn hF (Int.not_lt.mpr c_1)
    refine lv_iload_n hx hb dX11_sorts_4 rfl (lv_at hl 1 rfl) ?_
    refine lv_iconst (v := 2) hx hb dX11_sorts_5 (by decide) ?_
    have gc_5_v1 := q_rng v1
    refine q_icmp_le (A := v1.toInt) (B := 2) E rfl (by decide) (tgt := 15) dX11_sorts_6 (by decide) (fun c_5 => ?_) (fun c_5 => ?_)
    · skip
      replace hF := q_ifn hF (Int.not_lt.mpr c_5)
      refine lv_iconst (v := 0) hx hb dX11_sorts_15 (by decide) ?_
      refine lv_istore_n (lv' := [(2, .int 0), (0, .ref a), (1, .int v1)]) hx hb dX11_sorts_16 rfl hl (by decide) rfl (fun ls hl => ?_)
      refine lv_iconst (v := 0) hx hb dX11_sorts_17 (by decide) ?_
      refine lv_istore_n (lv' := [(3, .int 0), (2, .int 0), (0, .ref a), (1, .int v1)]) hx hb dX11_sorts_18 rfl hl (by decide) rfl (fun ls hl => ?_)
      have L_19_8 : ∀ (k_8 : Nat) (x_6 : Int32) (x_7 : Int32) (H : Heap) (locs : List Loc) (ls : Array Slot), (2147483647 - x_7.toInt).toNat < k_8 → (0 ≤ x_7.toInt) → (F_X11_sorts_L19_1 X σ a v1 k_8 x_6 x_7 = out) → q_I X 8 σ s.heap locs σ H → lv_has ls 4 [(0, .ref a), (1, .int v1), (2, .int x_6), (3, .int x_7)] → W p l e (q_rm 2 44) s m ([.ref a, .int v1] : List Value).toArray below meth c H locs 0 0 (MQ below (q_Qi X 8 σ (fun (r : Int32) (σ' : ST) => (r, σ') = F_X11_sorts X σ a v1 ∧ q_ow [(11, 0)] [] X σ σ')) ([.ref a, .int v1] : List Value).toArray s 0 0 (q_reg X)) (F0 m 19 ls []) := by
        clear hF
        intro k_8
        induction k_8 with
        | zero =>
          intro x_6 x_7 H locs ls hms
          exact absurd hms (Nat.not_lt_zero _)
        | succ k_8 ih19 =>
          intro x_6 x_7 H locs ls hm19 hge19 hF hI hl
          replace hF := (F_X11_sorts_L19_1_s).symm.trans hF
          unfold F_X11_sorts_B19_1 at hF
          refine lv_iload_n hx hb dX11_sorts_19 rfl (lv_at hl 3 rfl) ?_
          refine lv_aload_n hx hb dX11_sorts_20 rfl (lv_at hl 0 rfl) ?_
          refine gs_X11_42_11 E hI ha dX11_sorts_21 ?_
          refine gs_X11_201_1 E hI (q_tk (k' := 1) hI ha rfl (by decide)) dX11_sorts_24 ?_
          refine gs_X11_216_3 E hI (q_tk (k' := 3) hI (q_tk (k' := 1) hI ha rfl (by decide)) rfl (by decide)) dX11_sorts_27 ?_
          refine lv_topi (fun f_9 ef_9 => ?_)
          replace hF := q_letX hF ef_9
          have gc_10_x_7 := q_rng x_7
          have gc_10_f_9 := q_rng f_9
          refine q_icmp_ge (A := x_7.toInt) (B := f_9.toInt) E rfl rfl (tgt := 57) dX11_sorts_30 (by decide) (fun c_10 => ?_) (fun c_10 => ?_)
          · skip
            replace hF := q_ifn hF (Int.not_lt.mpr c_10)
            unfold F_X11_sorts_E57_2 at hF
            refine lv_aload_n hx hb dX11_sorts_57 rfl (lv_at hl 0 rfl) ?_
            refine lv_iload_n hx hb dX11_sorts_58 rfl (lv_at hl 2 rfl) ?_
            refine q_ci (q_runV (As := [.int x_6]) (rest := []) E (hml.trans hl.1.symm) hI (c_X11_good l X σ a x_6 ha) kv_X11_156 ha ⟨rfl, by decide⟩ (show vwCl[10]? = some (RX11, TX11, 17) from rfl) rfl ⟨Nat.le_of_ble_eq_true rfl, Nat.le_of_ble_eq_true rfl⟩ ⟨Nat.le_refl _, Nat.le_refl _⟩ rfl (Nat.le_of_ble_eq_true rfl) dX11_sorts_59) hI (by decide) (fun r_11 σ_12 H locs hpσ_12 hkσ_12 hI => ?_)
            obtain ⟨ahpσ_12, bhpσ_12, chpσ_12⟩ := hpσ_12
            have fr_σ_12 := fr_σ.call chpσ_12 rfl rfl
            replace hF := q_biX hF bhpσ_12
            exact q_reti E hr hlk hI ⟨(hF.trans hout), fr_σ_12⟩ dX11_sorts_62
          · skip
            replace hF := q_ifp hF c_10
            refine lv_aload_n hx hb dX11_sorts_33 rfl (lv_at hl 0 rfl) ?_
            refine gs_X11_42_11 E hI ha dX11_sorts_34 ?_
            refine gs_X11_201_1 E hI (q_tk (k' := 1) hI ha rfl (by decide)) dX11_sorts_37 ?_
            refine lv_iload_n hx hb dX11_sorts_40 rfl (lv_at hl 3 rfl) ?_
            refine q_ci (q_runV (As := [.int x_7]) (rest := []) E (hml.trans hl.1.symm) hI (c_X2_truth l X σ (q_rf X (q_rf X a 8) 2) x_7 (q_tk (k' := 3) hI (q_tk (k' := 1) hI ha rfl (by decide)) rfl (by decide))) kv_X11_269 (q_tk (k' := 3) hI (q_tk (k' := 1) hI ha rfl (by decide)) rfl (by decide)) ⟨rfl, by decide⟩ (show vwCl[2]? = some (RX2, TX2, 6) from rfl) rfl ⟨Nat.le_of_ble_eq_true rfl, Nat.le_of_ble_eq_true rfl⟩ ⟨Nat.le_refl _, Nat.le_refl _⟩ rfl (Nat.le_of_ble_eq_true rfl) dX11_sorts_41) hI (by decide) (fun r_13 σ_14 H locs hpσ_14 hkσ_14 hI => ?_)
            obtain ⟨ahpσ_14, bhpσ_14⟩ := hpσ_14
            rw [ahpσ_14] at hI
            replace hF := q_letX hF bhpσ_14
            refine lv_iload_n hx hb dX11_sorts_44 rfl (lv_at hl 1 rfl) ?_
            have gc_15_r_13 := q_rng r_13
            have gc_15_v1 := q_rng v1
            refine q_icmp_ne (A := r_13.toInt) (B := v1.toInt) E rfl rfl (tgt := 51) dX11_sorts_45 (by decide) (fun c_15 => ?_) (fun c_15 => ?_)
            · skip
              replace hF := q_ifn hF c_15
              obtain ⟨z_16, ez_16⟩ : ∃ y : Int32, y = x_7 + 1 := ⟨_, rfl⟩
              replace hF := q_letX hF ez_16
              refine lv_iinc (v := z_16) (lv' := [(3, .int z_16), (0, .ref a), (1, .int v1), (2, .int x_6)]) hx hb dX11_sorts_51 hl (k := 3) rfl (by rw [ez_16]; rfl) (by decide) rfl (fun ls hl => ?_)
              have iz_16 : z_16.toInt = x_7.toInt + 1 := q_inc ez_16 (by omega)
              refine lv_goto (tgt := 19) hx hb dX11_sorts_54 (by decide) ?_
              exact ih19 x_6 z_16 _ _ ls (by omega) (by omega) hF hI (lv_sub hl [1, 2, 3, 0] rfl)
            · skip
              replace hF := q_ifp hF c_15
              obtain ⟨z_17, ez_17⟩ : ∃ y : Int32, y = x_6 + 1 := ⟨_, rfl⟩
              replace hF := q_letX hF ez_17
              refine lv_iinc (v := z_17) (lv' := [(2, .int z_17), (0, .ref a), (1, .int v1), (3, .int x_7)]) hx hb dX11_sorts_48 hl (k := 2) rfl (by rw [ez_17]; rfl) (by decide) rfl (fun ls hl => ?_)
              obtain ⟨z_18, ez_18⟩ : ∃ y : Int32, y = x_7 + 1 := ⟨_, rfl⟩
              replace hF := q_letX hF ez_18
              refine lv_iinc (v := z_18) (lv' := [(3, .int z_18), (2, .int z_17), (0, .ref a), (1, .int v1)]) hx hb dX11_sorts_51 hl (k := 3) rfl (by rw [ez_18]; rfl) (by decide) rfl (fun ls hl => ?_)
              have iz_18 : z_18.toInt = x_7.toInt + 1 := q_inc ez_18 (by omega)
              refine lv_goto (tgt := 19) hx hb dX11_sorts_54 (by decide) ?_
              exact ih19 z_17 z_18 _ _ ls (by first | (clear c_1 gc_5_v1 c_5 ahpσ_14 bhpσ_14 gc_15_r_13 gc_15_v1 c_15; omega) | omega) (by omega) hF hI (lv_sub hl [2, 3, 1, 0] rfl)
      exact L_19_8 ((2147483647 - (0 : Int32).toInt).toNat + 1) 0 0 _ _ ls (Nat.lt_succ_self _) (by decide) hF hI (lv_sub hl [2, 3, 1, 0] rfl)
    · skip
      replace hF := q_ifp hF c_5
      refine lv_aload_n hx hb dX11_sorts_9 rfl (lv_at hl 0 rfl) ?_
      refine lv_iconst (v := 5) hx hb dX11_sorts_10 (by decide) ?_
      have kc_19 : (5 : Int32).toInt = 5 := rfl
      refine q_ci (q_runV (As := [.int 5]) (rest := []) E (hml.trans hl.1.symm) hI (c_X11_none l X σ a (5 : Int32) ha) kv_X11_109 ha ⟨rfl, by decide⟩ (show vwCl[10]? = some (RX11, TX11, 17) from rfl) rfl ⟨Nat.le_of_ble_eq_true rfl, Nat.le_of_ble_eq_true rfl⟩ ⟨Nat.le_refl _, Nat.le_refl _⟩ rfl (Nat.le_of_ble_eq_true rfl) dX11_sorts_11) hI (by decide) (fun r_20 σ_21 H locs hpσ_21 hkσ_21 hI => ?_)
      obtain ⟨ahpσ_21, bhpσ_21, chpσ_21⟩ := hpσ_21
      have fr_σ_21 := fr_σ.call chpσ_21 rfl rfl
      replace hF := q_biX hF bhpσ_21
      exact q_reti E hr hlk hI ⟨(hF.trans hout), fr_σ_21⟩ dX11_sorts_14

set_option maxRecDepth 100000 in
set_option maxHeartbeats 4000000 in
theorem c_X11_liar (l : Launch) (X : XW) (σ : ST) (a : Nat) (ha : q_kd X a = 11) : Met l yX11_liar (q_ws yX11_liar cX11_liar 4 (some .int)) (q_rm 2 42) (q_P X σ [.ref a]) (q_Qi X 8 σ (fun (r : Int32) (σ' : ST) => (r, σ') = F_X11_liar X σ a ∧ q_ow [(11, 0)] [] X σ σ')) 0 0 (q_reg X) := by
  refine q_met 8 (by first | exact rfl | decide +kernel) rfl (Nat.le_of_ble_eq_true rfl) (fun p e s m below meth c E hml hr hlk hI ls hl => ?_)
  have hx := E.1
  have hb := E.2.1
  have hl : lv_has ls 4 [(0, .ref a)] := hl
  have fr_σ : q_ow [(11, 0)] [] X σ σ := q_ow.rf
  obtain ⟨out, hout⟩ : ∃ o, o = F_X11_liar X σ a := ⟨_, rfl⟩
  have hF := hout.symm
  unfold F_X11_liar at hF
  refine lv_aload_n hx hb dX11_liar_0 rfl (lv_at hl 0 rfl) ?_
  refine gs_X11_42_11 E hI ha dX11_liar_1 ?_
  refine gs_X11_222_1 E hI (q_tk (k' := 1) hI ha rfl (by decide)) dX11_liar_4 ?_
  refine lv_astore_n (lv' := [(1, .ref (q_rf X (q_rf X a 8) 1)), (0, .ref a)]) hx hb dX11_liar_7 rfl hl (by decide) rfl (fun ls hl => ?_)
  refine lv_aload_n hx hb dX11_liar_8 rfl (lv_at hl 1 rfl) ?_
  refine gs_X11_42_11 E hI ha dX11_liar_9 ?_
  refine gs_X11_147_1 E hI (q_tk (k' := 1) hI ha rfl (by decide)) dX11_liar_12 ?_
  refine gs_X11_151_6 E hI (q_tk (k' := 6) hI (q_tk (k' := 1) hI ha rfl (by decide)) rfl (by decide)) dX11_liar_15 ?_
  refine lv_topi (fun f_1 ef_1 => ?_)
  replace hF := q_letX hF ef_1
  refine q_if_ne (A := f_1.toInt) E rfl (tgt := 25) dX11_liar_18 (by decide) (fun c_2 => ?_) (fun c_2 => ?_)
  · skip
    replace hF := q_ifn hF c_2
    refine lv_iconst (v := 0) hx hb dX11_liar_25 (by decide) ?_
    refine lv_istore_n (lv' := [(2, .int 0), (1, .ref (q_rf X (q_rf X a 8) 1)), (0, .ref a)]) hx hb dX11_liar_26 rfl hl (by decide) rfl (fun ls hl => ?_)
    refine lv_iconst (v := 1) hx hb dX11_liar_27 (by decide) ?_
    refine lv_istore_n (lv' := [(3, .int 1), (2, .int 0), (1, .ref (q_rf X (q_rf X a 8) 1)), (0, .ref a)]) hx hb dX11_liar_28 rfl hl (by decide) rfl (fun ls hl => ?_)
    have L_29_5 : ∀ (k_5 : Nat) (x_3 : Int32) (x_4 : Int32) (H : Heap) (locs : List Loc) (ls : Array Slot), (2147483647 - x_4.toInt).toNat < k_5 → (0 ≤ x_4.toInt) → (F_X11_liar_L29_1 X σ a k_5 x_3 x_4 = out) → q_I X 8 σ s.heap locs σ H → lv_has ls 4 [(0, .ref a), (1, .ref (q_rf X (q_rf X a 8) 1)), (2, .int x_3), (3, .int x_4)] → W p l e (q_rm 2 42) s m ([.ref a] : List Value).toArray below meth c H locs 0 0 (MQ below (q_Qi X 8 σ (fun (r : Int32) (σ' : ST) => (r, σ') = F_X11_liar X σ a ∧ q_ow [(11, 0)] [] X σ σ')) ([.ref a] : List Value).toArray s 0 0 (q_reg X)) (F0 m 29 ls []) := by
      clear hF
      intro k_5
      induction k_5 with
      | zero =>
        intro x_3 x_4 H locs ls hms
        exact absurd hms (Nat.not_lt_zero _)
      | succ k_5 ih29 =>
        intro x_3 x_4 H locs ls hm29 hge29 hF hI hl
        replace hF := (F_X11_liar_L29_1_s).symm.trans hF
        unfold F_X11_liar_B29_1 at hF
        refine lv_iload_n hx hb dX11_liar_29 rfl (lv_at hl 3 rfl) ?_
        refine lv_aload_n hx hb dX11_liar_30 rfl (lv_at hl 0 rfl) ?_
        refine gs_X11_42_11 E hI ha dX11_liar_31 ?_
        refine gs_X11_147_1 E hI (q_tk (k' := 1) hI ha rfl (by decide)) dX11_liar_34 ?_
        refine gs_X11_151_6 E hI (q_tk (k' := 6) hI (q_tk (k' := 1) hI ha rfl (by decide)) rfl (by decide)) dX11_liar_37 ?_
        refine lv_topi (fun f_6 ef_6 => ?_)
        replace hF := q_letX hF ef_6
        have gc_7_x_4 := q_rng x_4
        have gc_7_f_6 := q_rng f_6
        refine q_icmp_ge (A := x_4.toInt) (B := f_6.toInt) E rfl rfl (tgt := 77) dX11_liar_40 (by decide) (fun c_7 => ?_) (fun c_7 => ?_)
        · skip
          replace hF := q_ifn hF (Int.not_lt.mpr c_7)
          unfold F_X11_liar_E77_2 at hF
          refine lv_aload_n hx hb dX11_liar_77 rfl (lv_at hl 0 rfl) ?_
          refine lv_iload_n hx hb dX11_liar_78 rfl (lv_at hl 2 rfl) ?_
          refine q_ci (q_runV (As := [.int x_3]) (rest := []) E (hml.trans hl.1.symm) hI (c_X11_goodOrNotThere l X σ a x_3 ha) kv_X11_366 ha ⟨rfl, by decide⟩ (show vwCl[10]? = some (RX11, TX11, 17) from rfl) rfl ⟨Nat.le_of_ble_eq_true rfl, Nat.le_of_ble_eq_true rfl⟩ ⟨Nat.le_refl _, Nat.le_refl _⟩ rfl (Nat.le_of_ble_eq_true rfl) dX11_liar_79) hI (by decide) (fun r_8 σ_9 H locs hpσ_9 hkσ_9 hI => ?_)
          obtain ⟨ahpσ_9, bhpσ_9⟩ := hpσ_9
          have fr_σ_9 := fr_σ.call bhpσ_9 rfl rfl
          replace hF := q_biX hF ahpσ_9
          exact q_reti E hr hlk hI ⟨(hF.trans hout), fr_σ_9⟩ dX11_liar_82
        · skip
          replace hF := q_ifp hF c_7
          refine lv_aload_n hx hb dX11_liar_43 rfl (lv_at hl 1 rfl) ?_
          refine lv_iload_n hx hb dX11_liar_44 rfl (lv_at hl 3 rfl) ?_
          refine q_cl_ (q_runV (As := [.int x_4]) (rest := []) E (hml.trans hl.1.symm) hI (c_X1_honestTop l X σ (q_rf X (q_rf X a 8) 1) x_4 (q_tk (k' := 2) hI (q_tk (k' := 1) hI ha rfl (by decide)) rfl (by decide))) kv_X11_330 (q_tk (k' := 2) hI (q_tk (k' := 1) hI ha rfl (by decide)) rfl (by decide)) ⟨rfl, by decide⟩ (show vwCl[1]? = some (RX1, TX1, 7) from rfl) rfl ⟨Nat.le_of_ble_eq_true rfl, Nat.le_of_ble_eq_true rfl⟩ ⟨Nat.le_refl _, Nat.le_refl _⟩ rfl (Nat.le_of_ble_eq_true rfl) dX11_liar_45) hI (by decide) (fun r_10 σ_11 H locs hpσ_11 hkσ_11 hI => ?_)
          obtain ⟨ahpσ_11, bhpσ_11⟩ := hpσ_11
          rw [ahpσ_11] at hI
          replace hF := q_letX hF bhpσ_11
          refine lv_aload_n hx hb dX11_liar_48 rfl (lv_at hl 1 rfl) ?_
          refine lv_iload_n hx hb dX11_liar_49 rfl (lv_at hl 2 rfl) ?_
          refine q_cl_ (q_runV (As := [.int x_3]) (rest := [.long r_10]) E (hml.trans hl.1.symm) hI (c_X1_honestBottom l X σ (q_rf X (q_rf X a 8) 1) x_3 (q_tk (k' := 2) hI (q_tk (k' := 1) hI ha rfl (by decide)) rfl (by decide))) kv_X11_333 (q_tk (k' := 2) hI (q_tk (k' := 1) hI ha rfl (by decide)) rfl (by decide)) ⟨rfl, by decide⟩ (show vwCl[1]? = some (RX1, TX1, 7) from rfl) rfl ⟨Nat.le_of_ble_eq_true rfl, Nat.le_of_ble_eq_true rfl⟩ ⟨Nat.le_refl _, Nat.le_refl _⟩ rfl (Nat.le_of_ble_eq_true rfl) dX11_liar_50) hI (by decide) (fun r_12 σ_13 H locs hpσ_13 hkσ_13 hI => ?_)
          obtain ⟨ahpσ_13, bhpσ_13⟩ := hpσ_13
          rw [ahpσ_13] at hI
          replace hF := q_letX hF bhpσ_13
          refine lv_lmul hx hb dX11_liar_53 ?_
          refine lv_topl (fun y_14 ey_14 => ?_)
          replace hF := q_letX hF ey_14
          refine lv_aload_n hx hb dX11_liar_54 rfl (lv_at hl 1 rfl) ?_
          refine lv_iload_n hx hb dX11_liar_55 rfl (lv_at hl 2 rfl) ?_
          refine q_cl_ (q_runV (As := [.int x_3]) (rest := [.long y_14]) E (hml.trans hl.1.symm) hI (c_X1_honestTop l X σ (q_rf X (q_rf X a 8) 1) x_3 (q_tk (k' := 2) hI (q_tk (k' := 1) hI ha rfl (by decide)) rfl (by decide))) kv_X11_330 (q_tk (k' := 2) hI (q_tk (k' := 1) hI ha rfl (by decide)) rfl (by decide)) ⟨rfl, by decide⟩ (show vwCl[1]? = some (RX1, TX1, 7) from rfl) rfl ⟨Nat.le_of_ble_eq_true rfl, Nat.le_of_ble_eq_true rfl⟩ ⟨Nat.le_refl _, Nat.le_refl _⟩ rfl (Nat.le_of_ble_eq_true rfl) dX11_liar_56) hI (by decide) (fun r_15 σ_16 H locs hpσ_16 hkσ_16 hI => ?_)
          obtain ⟨ahpσ_16, bhpσ_16⟩ := hpσ_16
          rw [ahpσ_16] at hI
          replace hF := q_letX hF bhpσ_16
          refine lv_aload_n hx hb dX11_liar_59 rfl (lv_at hl 1 rfl) ?_
          refine lv_iload_n hx hb dX11_liar_60 rfl (lv_at hl 3 rfl) ?_
          refine q_cl_ (q_runV (As := [.int x_4]) (rest := [.long r_15, .long y_14]) E (hml.trans hl.1.symm) hI (c_X1_honestBottom l X σ (q_rf X (q_rf X a 8) 1) x_4 (q_tk (k' := 2) hI (q_tk (k' := 1) hI ha rfl (by decide)) rfl (by decide))) kv_X11_333 (q_tk (k' := 2) hI (q_tk (k' := 1) hI ha rfl (by decide)) rfl (by decide)) ⟨rfl, by decide⟩ (show vwCl[1]? = some (RX1, TX1, 7) from rfl) rfl ⟨Nat.le_of_ble_eq_true rfl, Nat.le_of_ble_eq_true rfl⟩ ⟨Nat.le_refl _, Nat.le_refl _⟩ rfl (Nat.le_of_ble_eq_true rfl) dX11_liar_61) hI (by decide) (fun r_17 σ_18 H locs hpσ_18 hkσ_18 hI => ?_)
          obtain ⟨ahpσ_18, bhpσ_18⟩ := hpσ_18
          rw [ahpσ_18] at hI
          replace hF := q_letX hF bhpσ_18
          refine lv_lmul hx hb dX11_liar_64 ?_
          refine lv_topl (fun y_19 ey_19 => ?_)
          replace hF := q_letX hF ey_19
          refine q_lcmpX E dX11_liar_65 (fun z_20 ez_20 hz_20 => ?_)
          replace hF := q_letX hF ez_20
          refine q_if_ge (A := z_20.toInt) E rfl (tgt := 71) dX11_liar_66 (by decide) (fun c_21 => ?_) (fun c_21 => ?_)
          · skip
            replace hF := q_ifn hF (Int.not_lt.mpr c_21)
            obtain ⟨z_22, ez_22⟩ : ∃ y : Int32, y = x_4 + 1 := ⟨_, rfl⟩
            replace hF := q_letX hF ez_22
            refine lv_iinc (v := z_22) (lv' := [(3, .int z_22), (0, .ref a), (1, .ref (q_rf X (q_rf X a 8) 1)), (2, .int x_3)]) hx hb dX11_liar_71 hl (k := 3) rfl (by rw [ez_22]; rfl) (by decide) rfl (fun ls hl => ?_)
            have iz_22 : z_22.toInt = x_4.toInt + 1 := q_inc ez_22 (by omega)
            refine lv_goto (tgt := 29) hx hb dX11_liar_74 (by decide) ?_
            exact ih29 x_3 z_22 _ _ ls (by first | (clear c_2 ahpσ_11 bhpσ_11 ahpσ_13 bhpσ_13 ahpσ_16 bhpσ_16 ahpσ_18 bhpσ_18; omega) | omega) (by omega) hF hI (lv_sub hl [1, 2, 3, 0] rfl)
          · skip
            replace hF := q_ifp hF c_21
            refine lv_iload_n hx hb dX11_liar_69 rfl (lv_at hl 3 rfl) ?_
            refine lv_istore_n (lv' := [(2, .int x_4), (0, .ref a), (1, .ref (q_rf X (q_rf X a 8) 1)), (3, .int x_4)]) hx hb dX11_liar_70 rfl hl (by decide) rfl (fun ls hl => ?_)
            obtain ⟨z_23, ez_23⟩ : ∃ y : Int32, y = x_4 + 1 := ⟨_, rfl⟩
            replace hF := q_letX hF ez_23
            refine lv_iinc (v := z_23) (lv' := [(3, .int z_23), (2, .int x_4), (0, .ref a), (1, .ref (q_rf X (q_rf X a 8) 1))]) hx hb dX11_liar_71 hl (k := 3) rfl (by rw [ez_23]; rfl) (by decide) rfl (fun ls hl => ?_)
            have iz_23 : z_23.toInt = x_4.toInt + 1 := q_inc ez_23 (by omega)
            refine lv_goto (tgt := 29) hx hb dX11_liar_74 (by decide) ?_
            exact ih29 x_4 z_23 _ _ ls (by first | (clear c_2 ahpσ_11 bhpσ_11 ahpσ_13 bhpσ_13 ahpσ_16 bhpσ_16 ahpσ_18 bhpσ_18; omega) | omega) (by omega) hF hI (lv_sub hl [2, 3, 1, 0] rfl)
    exact L_29_5 ((2147483647 - (1 : Int32).toInt).toNat + 1) 0 1 _ _ ls (Nat.lt_succ_self _) (by decide) hF hI (lv_sub hl [3, 2, 1, 0] rfl)
  · skip
    replace hF := q_ifp hF c_2
    refine lv_iconst (v := (-1)) hx hb dX11_liar_21 (by decide) ?_
    refine lv_goto (tgt := 26) hx hb dX11_liar_22 (by decide) ?_
    refine lv_istore_n (lv' := [(2, .int (-1)), (1, .ref (q_rf X (q_rf X a 8) 1)), (0, .ref a)]) hx hb dX11_liar_26 rfl hl (by decide) rfl (fun ls hl => ?_)
    refine lv_iconst (v := 1) hx hb dX11_liar_27 (by decide) ?_
    refine lv_istore_n (lv' := [(3, .int 1), (2, .int (-1)), (1, .ref (q_rf X (q_rf X a 8) 1)), (0, .ref a)]) hx hb dX11_liar_28 rfl hl (by decide) rfl (fun ls hl => ?_)
    have L_29_26 : ∀ (k_26 : Nat) (x_24 : Int32) (x_25 : Int32) (H : Heap) (locs : List Loc) (ls : Array Slot), (2147483647 - x_25.toInt).toNat < k_26 → (0 ≤ x_25.toInt) → (F_X11_liar_L29_3 X σ a k_26 x_24 x_25 = out) → q_I X 8 σ s.heap locs σ H → lv_has ls 4 [(0, .ref a), (1, .ref (q_rf X (q_rf X a 8) 1)), (2, .int x_24), (3, .int x_25)] → W p l e (q_rm 2 42) s m ([.ref a] : List Value).toArray below meth c H locs 0 0 (MQ below (q_Qi X 8 σ (fun (r : Int32) (σ' : ST) => (r, σ') = F_X11_liar X σ a ∧ q_ow [(11, 0)] [] X σ σ')) ([.ref a] : List Value).toArray s 0 0 (q_reg X)) (F0 m 29 ls []) := by
      clear hF
      intro k_26
      induction k_26 with
      | zero =>
        intro x_24 x_25 H locs ls hms
        exact absurd hms (Nat.not_lt_zero _)
      | succ k_26 ih29 =>
        intro x_24 x_25 H locs ls hm29 hge29 hF hI hl
        replace hF := (F_X11_liar_L29_3_s).symm.trans hF
        unfold F_X11_liar_B29_3 at hF
        refine lv_iload_n hx hb dX11_liar_29 rfl (lv_at hl 3 rfl) ?_
        refine lv_aload_n hx hb dX11_liar_30 rfl (lv_at hl 0 rfl) ?_
        refine gs_X11_42_11 E hI ha dX11_liar_31 ?_
        refine gs_X11_147_1 E hI (q_tk (k' := 1) hI ha rfl (by decide)) dX11_liar_34 ?_
        refine gs_X11_151_6 E hI (q_tk (k' := 6) hI (q_tk (k' := 1) hI ha rfl (by decide)) rfl (by decide)) dX11_liar_37 ?_
        refine lv_topi (fun f_27 ef_27 => ?_)
        replace hF := q_letX hF ef_27
        have gc_28_x_25 := q_rng x_25
        have gc_28_f_27 := q_rng f_27
        refine q_icmp_ge (A := x_25.toInt) (B := f_27.toInt) E rfl rfl (tgt := 77) dX11_liar_40 (by decide) (fun c_28 => ?_) (fun c_28 => ?_)
        · skip
          replace hF := q_ifn hF (Int.not_lt.mpr c_28)
          unfold F_X11_liar_E77_4 at hF
          refine lv_aload_n hx hb dX11_liar_77 rfl (lv_at hl 0 rfl) ?_
          refine lv_iload_n hx hb dX11_liar_78 rfl (lv_at hl 2 rfl) ?_
          refine q_ci (q_runV (As := [.int x_24]) (rest := []) E (hml.trans hl.1.symm) hI (c_X11_goodOrNotThere l X σ a x_24 ha) kv_X11_366 ha ⟨rfl, by decide⟩ (show vwCl[10]? = some (RX11, TX11, 17) from rfl) rfl ⟨Nat.le_of_ble_eq_true rfl, Nat.le_of_ble_eq_true rfl⟩ ⟨Nat.le_refl _, Nat.le_refl _⟩ rfl (Nat.le_of_ble_eq_true rfl) dX11_liar_79) hI (by decide) (fun r_29 σ_30 H locs hpσ_30 hkσ_30 hI => ?_)
          obtain ⟨ahpσ_30, bhpσ_30⟩ := hpσ_30
          have fr_σ_30 := fr_σ.call bhpσ_30 rfl rfl
          replace hF := q_biX hF ahpσ_30
          exact q_reti E hr hlk hI ⟨(hF.trans hout), fr_σ_30⟩ dX11_liar_82
        · skip
          replace hF := q_ifp hF c_28
          refine lv_aload_n hx hb dX11_liar_43 rfl (lv_at hl 1 rfl) ?_
          refine lv_iload_n hx hb dX11_liar_44 rfl (lv_at hl 3 rfl) ?_
          refine q_cl_ (q_runV (As := [.int x_25]) (rest := []) E (hml.trans hl.1.symm) hI (c_X1_honestTop l X σ (q_rf X (q_rf X a 8) 1) x_25 (q_tk (k' := 2) hI (q_tk (k' := 1) hI ha rfl (by decide)) rfl (by decide))) kv_X11_330 (q_tk (k' := 2) hI (q_tk (k' := 1) hI ha rfl (by decide)) rfl (by decide)) ⟨rfl, by decide⟩ (show vwCl[1]? = some (RX1, TX1, 7) from rfl) rfl ⟨Nat.le_of_ble_eq_true rfl, Nat.le_of_ble_eq_true rfl⟩ ⟨Nat.le_refl _, Nat.le_refl _⟩ rfl (Nat.le_of_ble_eq_true rfl) dX11_liar_45) hI (by decide) (fun r_31 σ_32 H locs hpσ_32 hkσ_32 hI => ?_)
          obtain ⟨ahpσ_32, bhpσ_32⟩ := hpσ_32
          rw [ahpσ_32] at hI
          replace hF := q_letX hF bhpσ_32
          refine lv_aload_n hx hb dX11_liar_48 rfl (lv_at hl 1 rfl) ?_
          refine lv_iload_n hx hb dX11_liar_49 rfl (lv_at hl 2 rfl) ?_
          refine q_cl_ (q_runV (As := [.int x_24]) (rest := [.long r_31]) E (hml.trans hl.1.symm) hI (c_X1_honestBottom l X σ (q_rf X (q_rf X a 8) 1) x_24 (q_tk (k' := 2) hI (q_tk (k' := 1) hI ha rfl (by decide)) rfl (by decide))) kv_X11_333 (q_tk (k' := 2) hI (q_tk (k' := 1) hI ha rfl (by decide)) rfl (by decide)) ⟨rfl, by decide⟩ (show vwCl[1]? = some (RX1, TX1, 7) from rfl) rfl ⟨Nat.le_of_ble_eq_true rfl, Nat.le_of_ble_eq_true rfl⟩ ⟨Nat.le_refl _, Nat.le_refl _⟩ rfl (Nat.le_of_ble_eq_true rfl) dX11_liar_50) hI (by decide) (fun r_33 σ_34 H locs hpσ_34 hkσ_34 hI => ?_)
          obtain ⟨ahpσ_34, bhpσ_34⟩ := hpσ_34
          rw [ahpσ_34] at hI
          replace hF := q_letX hF bhpσ_34
          refine lv_lmul hx hb dX11_liar_53 ?_
          refine lv_topl (fun y_35 ey_35 => ?_)
          replace hF := q_letX hF ey_35
          refine lv_aload_n hx hb dX11_liar_54 rfl (lv_at hl 1 rfl) ?_
          refine lv_iload_n hx hb dX11_liar_55 rfl (lv_at hl 2 rfl) ?_
          refine q_cl_ (q_runV (As := [.int x_24]) (rest := [.long y_35]) E (hml.trans hl.1.symm) hI (c_X1_honestTop l X σ (q_rf X (q_rf X a 8) 1) x_24 (q_tk (k' := 2) hI (q_tk (k' := 1) hI ha rfl (by decide)) rfl (by decide))) kv_X11_330 (q_tk (k' := 2) hI (q_tk (k' := 1) hI ha rfl (by decide)) rfl (by decide)) ⟨rfl, by decide⟩ (show vwCl[1]? = some (RX1, TX1, 7) from rfl) rfl ⟨Nat.le_of_ble_eq_true rfl, Nat.le_of_ble_eq_true rfl⟩ ⟨Nat.le_refl _, Nat.le_refl _⟩ rfl (Nat.le_of_ble_eq_true rfl) dX11_liar_56) hI (by decide) (fun r_36 σ_37 H locs hpσ_37 hkσ_37 hI => ?_)
          obtain ⟨ahpσ_37, bhpσ_37⟩ := hpσ_37
          rw [ahpσ_37] at hI
          replace hF := q_letX hF bhpσ_37
          refine lv_aload_n hx hb dX11_liar_59 rfl (lv_at hl 1 rfl) ?_
          refine lv_iload_n hx hb dX11_liar_60 rfl (lv_at hl 3 rfl) ?_
          refine q_cl_ (q_runV (As := [.int x_25]) (rest := [.long r_36, .long y_35]) E (hml.trans hl.1.symm) hI (c_X1_honestBottom l X σ (q_rf X (q_rf X a 8) 1) x_25 (q_tk (k' := 2) hI (q_tk (k' := 1) hI ha rfl (by decide)) rfl (by decide))) kv_X11_333 (q_tk (k' := 2) hI (q_tk (k' := 1) hI ha rfl (by decide)) rfl (by decide)) ⟨rfl, by decide⟩ (show vwCl[1]? = some (RX1, TX1, 7) from rfl) rfl ⟨Nat.le_of_ble_eq_true rfl, Nat.le_of_ble_eq_true rfl⟩ ⟨Nat.le_refl _, Nat.le_refl _⟩ rfl (Nat.le_of_ble_eq_true rfl) dX11_liar_61) hI (by decide) (fun r_38 σ_39 H locs hpσ_39 hkσ_39 hI => ?_)
          obtain ⟨ahpσ_39, bhpσ_39⟩ := hpσ_39
          rw [ahpσ_39] at hI
          replace hF := q_letX hF bhpσ_39
          refine lv_lmul hx hb dX11_liar_64 ?_
          refine lv_topl (fun y_40 ey_40 => ?_)
          replace hF := q_letX hF ey_40
          refine q_lcmpX E dX11_liar_65 (fun z_41 ez_41 hz_41 => ?_)
          replace hF := q_letX hF ez_41
          refine q_if_ge (A := z_41.toInt) E rfl (tgt := 71) dX11_liar_66 (by decide) (fun c_42 => ?_) (fun c_42 => ?_)
          · skip
            replace hF := q_ifn hF (Int.not_lt.mpr c_42)
            obtain ⟨z_43, ez_43⟩ : ∃ y : Int32, y = x_25 + 1 := ⟨_, rfl⟩
            replace hF := q_letX hF ez_43
            refine lv_iinc (v := z_43) (lv' := [(3, .int z_43), (0, .ref a), (1, .ref (q_rf X (q_rf X a 8) 1)), (2, .int x_24)]) hx hb dX11_liar_71 hl (k := 3) rfl (by rw [ez_43]; rfl) (by decide) rfl (fun ls hl => ?_)
            have iz_43 : z_43.toInt = x_25.toInt + 1 := q_inc ez_43 (by first | (clear c_2 hm29 ahpσ_32 bhpσ_32 ahpσ_34 bhpσ_34 ahpσ_37 bhpσ_37 ahpσ_39 bhpσ_39 hz_41 c_42; omega) | omega)
            refine lv_goto (tgt := 29) hx hb dX11_liar_74 (by decide) ?_
            exact ih29 x_24 z_43 _ _ ls (by first | (clear c_2 ahpσ_32 bhpσ_32 ahpσ_34 bhpσ_34 ahpσ_37 bhpσ_37 ahpσ_39 bhpσ_39; omega) | omega) (by omega) hF hI (lv_sub hl [1, 2, 3, 0] rfl)
          · skip
            replace hF := q_ifp hF c_42
            refine lv_iload_n hx hb dX11_liar_69 rfl (lv_at hl 3 rfl) ?_
            refine lv_istore_n (lv' := [(2, .int x_25), (0, .ref a), (1, .ref (q_rf X (q_rf X a 8) 1)), (3, .int x_25)]) hx hb dX11_liar_70 rfl hl (by decide) rfl (fun ls hl => ?_)
            obtain ⟨z_44, ez_44⟩ : ∃ y : Int32, y = x_25 + 1 := ⟨_, rfl⟩
            replace hF := q_letX hF ez_44
            refine lv_iinc (v := z_44) (lv' := [(3, .int z_44), (2, .int x_25), (0, .ref a), (1, .ref (q_rf X (q_rf X a 8) 1))]) hx hb dX11_liar_71 hl (k := 3) rfl (by rw [ez_44]; rfl) (by decide) rfl (fun ls hl => ?_)
            have iz_44 : z_44.toInt = x_25.toInt + 1 := q_inc ez_44 (by first | (clear c_2 hm29 ahpσ_32 bhpσ_32 ahpσ_34 bhpσ_34 ahpσ_37 bhpσ_37 ahpσ_39 bhpσ_39 hz_41 c_42; omega) | omega)
            refine lv_goto (tgt := 29) hx hb dX11_liar_74 (by decide) ?_
            exact ih29 x_25 z_44 _ _ ls (by first | (clear c_2 ahpσ_32 bhpσ_32 ahpσ_34 bhpσ_34 ahpσ_37 bhpσ_37 ahpσ_39 bhpσ_39; omega) | omega) (by omega) hF hI (lv_sub hl [2, 3, 1, 0] rfl)
    exact L_29_26 ((2147483647 - (1 : Int32).toInt).toNat + 1) (-1) 1 _ _ ls (Nat.lt_succ_self _) (by decide) hF hI (lv_sub hl [3, 2, 1, 0] rfl)

set_option maxRecDepth 100000 in
set_option maxHeartbeats 4000000 in
theorem c_X11_play (l : Launch) (X : XW) (σ : ST) (a : Nat) (v1 : Int32) (ha : q_kd X a = 11) : Met l yX11_play (q_ws yX11_play cX11_play 2 (some .int)) (q_rm 7 166) (q_P X σ [.ref a, .int v1]) (q_Qi X 8 σ (fun (r : Int32) (σ' : ST) => (r, σ') = F_X11_play X σ a v1 ∧ q_ow [(1, 4), (1, 5), (1, 6), (1, 7), (1, 9), (3, 0), (3, 1), (7, 0), (7, 1), (7, 2), (7, 3), (7, 4), (7, 5), (7, 6), (11, 0), (11, 16), (20, 99)] [] X σ σ')) 0 0 (q_reg X) := by
  refine q_met 8 (by first | exact rfl | decide +kernel) rfl (Nat.le_of_ble_eq_true rfl) (fun p e s m below meth c E hml hr hlk hI ls hl => ?_)
  have hx := E.1
  have hb := E.2.1
  have hl : lv_has ls 2 [(0, .ref a), (1, .int v1)] := hl
  have fr_σ : q_ow [(1, 4), (1, 5), (1, 6), (1, 7), (1, 9), (3, 0), (3, 1), (7, 0), (7, 1), (7, 2), (7, 3), (7, 4), (7, 5), (7, 6), (11, 0), (11, 16), (20, 99)] [] X σ σ := q_ow.rf
  obtain ⟨out, hout⟩ : ∃ o, o = F_X11_play X σ a v1 := ⟨_, rfl⟩
  have hF := hout.symm
  unfold F_X11_play at hF
  refine lv_iload_n hx hb dX11_play_0 rfl (lv_at hl 1 rfl) ?_
  refine q_if_lt (A := v1.toInt) E rfl (tgt := 11) dX11_play_1 (by decide) (fun c_1 => ?_) (fun c_1 => ?_)
  · skip
    replace hF := q_ifp hF c_1
    refine lv_aload_n hx hb dX11_play_11 rfl (lv_at hl 0 rfl) ?_
    refine lv_iconst (v := 5) hx hb dX11_play_12 (by decide) ?_
    have kc_2 : (5 : Int32).toInt = 5 := rfl
    refine q_ci (q_runV (As := [.int 5]) (rest := []) E (hml.trans hl.1.symm) hI (c_X11_none l X σ a (5 : Int32) ha) kv_X11_109 ha ⟨rfl, by decide⟩ (show vwCl[10]? = some (RX11, TX11, 17) from rfl) rfl ⟨Nat.le_of_ble_eq_true rfl, Nat.le_of_ble_eq_true rfl⟩ ⟨Nat.le_refl _, Nat.le_refl _⟩ rfl (Nat.le_of_ble_eq_true rfl) dX11_play_13) hI (by decide) (fun r_3 σ_4 H locs hpσ_4 hkσ_4 hI => ?_)
    obtain ⟨ahpσ_4, bhpσ_4, chpσ_4⟩ := hpσ_4
    have fr_σ_4 := fr_σ.call chpσ_4 rfl rfl
    replace hF := q_biX hF bhpσ_4
    exact q_reti E hr hlk hI ⟨(hF.trans hout), fr_σ_4⟩ dX11_play_16
  · skip
    replace hF := q_ifn hF (Int.not_lt.mpr c_1)
    refine lv_iload_n hx hb dX11_play_4 rfl (lv_at hl 1 rfl) ?_
    refine lv_sipush (v := 9999) hx hb dX11_play_5 (by decide) ?_
    refine q_icmp_le (A := v1.toInt) (B := 9999) E rfl (by decide) (tgt := 17) dX11_play_8 (by decide) (fun c_5 => ?_) (fun c_5 => ?_)
    · skip
      replace hF := q_ifn hF (Int.not_lt.mpr c_5)
      refine lv_aload_n hx hb dX11_play_17 rfl (lv_at hl 0 rfl) ?_
      refine gs_X11_42_11 E hI ha dX11_play_18 ?_
      refine gs_X11_162_1 E hI (q_tk (k' := 1) hI ha rfl (by decide)) dX11_play_21 ?_
      refine gs_X11_396_8 E hI (q_tk (k' := 8) hI (q_tk (k' := 1) hI ha rfl (by decide)) rfl (by decide)) dX11_play_24 ?_
      refine lv_topi (fun f_6 ef_6 => ?_)
      replace hF := q_letX hF ef_6
      have bf_6 : 0 ≤ f_6.toInt ∧ f_6.toInt ≤ 1 := by rw [ef_6]; exact q_bd hI (q_tk (k' := 8) hI (q_tk (k' := 1) hI ha rfl (by decide)) rfl (by decide)) rfl
      refine q_if_ne (A := f_6.toInt) E rfl (tgt := 37) dX11_play_27 (by decide) (fun c_7 => ?_) (fun c_7 => ?_)
      · skip
        replace hF := q_ifn hF c_7
        refine lv_aload_n hx hb dX11_play_37 rfl (lv_at hl 0 rfl) ?_
        refine gs_X11_73_11 E hI ha dX11_play_38 ?_
        refine lv_aload_n hx hb dX11_play_41 rfl (lv_at hl 0 rfl) ?_
        refine gs_X11_42_11 E hI ha dX11_play_42 ?_
        refine lv_iload_n hx hb dX11_play_45 rfl (lv_at hl 1 rfl) ?_
        refine q_cv (q_runV (As := [.ref (q_rf X a 8), .int v1]) (rest := []) E (hml.trans hl.1.symm) hI (c_X7_go l X σ (q_rf X a 14) (q_rf X a 8) v1 (q_tk (k' := 7) hI ha rfl (by decide)) (q_tk (k' := 1) hI ha rfl (by decide))) kv_X11_399 (q_tk (k' := 7) hI ha rfl (by decide)) ⟨rfl, by decide⟩ (show vwCl[6]? = some (RX7, TX7, 8) from rfl) rfl ⟨Nat.le_of_ble_eq_true rfl, Nat.le_of_ble_eq_true rfl⟩ ⟨Nat.le_refl _, Nat.le_refl _⟩ rfl (Nat.le_of_ble_eq_true rfl) dX11_play_46) hI (by decide) (fun σ_9 H locs hpσ_9 hkσ_9 hI => ?_)
        obtain ⟨ahpσ_9, bhpσ_9⟩ := hpσ_9
        have fr_σ_9 := fr_σ.call bhpσ_9 rfl rfl
        replace hF := q_letX hF ahpσ_9
        refine lv_aload_n hx hb dX11_play_49 rfl (lv_at hl 0 rfl) ?_
        refine lv_iconst (v := 1) hx hb dX11_play_50 (by decide) ?_
        refine ps_X11_80_11 E hI ha (by decide) (by decide) (by decide) dX11_play_51 (fun H locs σ_10 hσ_10 hI => ?_)
        replace hF := q_letX hF hσ_10
        have fr_σ_10 := fr_σ_9.si hσ_10 ha rfl
        refine lv_aload_n hx hb dX11_play_54 rfl (lv_at hl 0 rfl) ?_
        refine lv_aload_n hx hb dX11_play_55 rfl (lv_at hl 0 rfl) ?_
        refine gs_X11_73_11 E hI ha dX11_play_56 ?_
        refine gs_X11_403_7 E hI (q_tk (k' := 7) hI ha rfl (by decide)) dX11_play_59 ?_
        refine lv_topi (fun f_11 ef_11 => ?_)
        replace hF := q_letX hF ef_11
        refine q_ci (q_runV (As := [.int f_11]) (rest := []) E (hml.trans hl.1.symm) hI (c_X11_good l X σ_10 a f_11 ha) kv_X11_156 ha ⟨rfl, by decide⟩ (show vwCl[10]? = some (RX11, TX11, 17) from rfl) rfl ⟨Nat.le_of_ble_eq_true rfl, Nat.le_of_ble_eq_true rfl⟩ ⟨Nat.le_refl _, Nat.le_refl _⟩ rfl (Nat.le_of_ble_eq_true rfl) dX11_play_62) hI (by decide) (fun r_12 σ_13 H locs hpσ_13 hkσ_13 hI => ?_)
        obtain ⟨ahpσ_13, bhpσ_13, chpσ_13⟩ := hpσ_13
        have fr_σ_13 := fr_σ_10.call chpσ_13 rfl rfl
        replace hF := q_biX hF bhpσ_13
        exact q_reti E hr hlk hI ⟨(hF.trans hout), fr_σ_13⟩ dX11_play_65
      · skip
        replace hF := q_ifp hF c_7
        refine lv_aload_n hx hb dX11_play_30 rfl (lv_at hl 0 rfl) ?_
        refine lv_bipush (v := 8) hx hb dX11_play_31 (by decide) ?_
        have kc_14 : (8 : Int32).toInt = 8 := rfl
        refine q_ci (q_runV (As := [.int 8]) (rest := []) E (hml.trans hl.1.symm) hI (c_X11_none l X σ a (8 : Int32) ha) kv_X11_109 ha ⟨rfl, by decide⟩ (show vwCl[10]? = some (RX11, TX11, 17) from rfl) rfl ⟨Nat.le_of_ble_eq_true rfl, Nat.le_of_ble_eq_true rfl⟩ ⟨Nat.le_refl _, Nat.le_refl _⟩ rfl (Nat.le_of_ble_eq_true rfl) dX11_play_33) hI (by decide) (fun r_15 σ_16 H locs hpσ_16 hkσ_16 hI => ?_)
        obtain ⟨ahpσ_16, bhpσ_16, chpσ_16⟩ := hpσ_16
        have fr_σ_16 := fr_σ.call chpσ_16 rfl rfl
        replace hF := q_biX hF bhpσ_16
        exact q_reti E hr hlk hI ⟨(hF.trans hout), fr_σ_16⟩ dX11_play_36
    · skip
      replace hF := q_ifp hF c_5
      refine lv_aload_n hx hb dX11_play_11 rfl (lv_at hl 0 rfl) ?_
      refine lv_iconst (v := 5) hx hb dX11_play_12 (by decide) ?_
      have kc_17 : (5 : Int32).toInt = 5 := rfl
      refine q_ci (q_runV (As := [.int 5]) (rest := []) E (hml.trans hl.1.symm) hI (c_X11_none l X σ a (5 : Int32) ha) kv_X11_109 ha ⟨rfl, by decide⟩ (show vwCl[10]? = some (RX11, TX11, 17) from rfl) rfl ⟨Nat.le_of_ble_eq_true rfl, Nat.le_of_ble_eq_true rfl⟩ ⟨Nat.le_refl _, Nat.le_refl _⟩ rfl (Nat.le_of_ble_eq_true rfl) dX11_play_13) hI (by decide) (fun r_18 σ_19 H locs hpσ_19 hkσ_19 hI => ?_)
      obtain ⟨ahpσ_19, bhpσ_19, chpσ_19⟩ := hpσ_19
      have fr_σ_19 := fr_σ.call chpσ_19 rfl rfl
      replace hF := q_biX hF bhpσ_19
      exact q_reti E hr hlk hI ⟨(hF.trans hout), fr_σ_19⟩ dX11_play_16

set_option maxRecDepth 100000 in
set_option maxHeartbeats 4000000 in
theorem c_X11_played (l : Launch) (X : XW) (σ : ST) (a : Nat) (v1 : Int32) (ha : q_kd X a = 11) : Met l yX11_played (q_ws yX11_played cX11_played 2 (some .int)) (q_rm 1 21) (q_P X σ [.ref a, .int v1]) (q_Qi X 8 σ (fun (r : Int32) (σ' : ST) => (r, σ') = F_X11_played X σ a v1 ∧ q_ow [(11, 0)] [] X σ σ')) 0 0 (q_reg X) := by
  refine q_met 8 (by first | exact rfl | decide +kernel) rfl (Nat.le_of_ble_eq_true rfl) (fun p e s m below meth c E hml hr hlk hI ls hl => ?_)
  have hx := E.1
  have hb := E.2.1
  have hl : lv_has ls 2 [(0, .ref a), (1, .int v1)] := hl
  have fr_σ : q_ow [(11, 0)] [] X σ σ := q_ow.rf
  obtain ⟨out, hout⟩ : ∃ o, o = F_X11_played X σ a v1 := ⟨_, rfl⟩
  have hF := hout.symm
  unfold F_X11_played at hF
  refine lv_iload_n hx hb dX11_played_0 rfl (lv_at hl 1 rfl) ?_
  refine q_if_lt (A := v1.toInt) E rfl (tgt := 9) dX11_played_1 (by decide) (fun c_1 => ?_) (fun c_1 => ?_)
  · skip
    replace hF := q_ifp hF c_1
    refine lv_aload_n hx hb dX11_played_9 rfl (lv_at hl 0 rfl) ?_
    refine lv_iconst (v := 5) hx hb dX11_played_10 (by decide) ?_
    have kc_2 : (5 : Int32).toInt = 5 := rfl
    refine q_ci (q_runV (As := [.int 5]) (rest := []) E (hml.trans hl.1.symm) hI (c_X11_none l X σ a (5 : Int32) ha) kv_X11_109 ha ⟨rfl, by decide⟩ (show vwCl[10]? = some (RX11, TX11, 17) from rfl) rfl ⟨Nat.le_of_ble_eq_true rfl, Nat.le_of_ble_eq_true rfl⟩ ⟨Nat.le_refl _, Nat.le_refl _⟩ rfl (Nat.le_of_ble_eq_true rfl) dX11_played_11) hI (by decide) (fun r_3 σ_4 H locs hpσ_4 hkσ_4 hI => ?_)
    obtain ⟨ahpσ_4, bhpσ_4, chpσ_4⟩ := hpσ_4
    have fr_σ_4 := fr_σ.call chpσ_4 rfl rfl
    replace hF := q_biX hF bhpσ_4
    exact q_reti E hr hlk hI ⟨(hF.trans hout), fr_σ_4⟩ dX11_played_14
  · skip
    replace hF := q_ifn hF (Int.not_lt.mpr c_1)
    refine lv_iload_n hx hb dX11_played_4 rfl (lv_at hl 1 rfl) ?_
    refine lv_iconst (v := 4) hx hb dX11_played_5 (by decide) ?_
    refine q_icmp_le (A := v1.toInt) (B := 4) E rfl (by decide) (tgt := 15) dX11_played_6 (by decide) (fun c_5 => ?_) (fun c_5 => ?_)
    · skip
      replace hF := q_ifn hF (Int.not_lt.mpr c_5)
      refine lv_aload_n hx hb dX11_played_15 rfl (lv_at hl 0 rfl) ?_
      refine gs_X11_80_11 E hI ha dX11_played_16 ?_
      refine lv_topi (fun f_6 ef_6 => ?_)
      replace hF := q_letX hF ef_6
      have bf_6 : 0 ≤ f_6.toInt ∧ f_6.toInt ≤ 1 := by rw [ef_6]; exact q_bd hI ha rfl
      refine q_if_ne (A := f_6.toInt) E rfl (tgt := 29) dX11_played_19 (by decide) (fun c_7 => ?_) (fun c_7 => ?_)
      · skip
        replace hF := q_ifn hF c_7
        refine lv_iload_n hx hb dX11_played_29 rfl (lv_at hl 1 rfl) ?_
        by_cases c_8 : v1.toInt = 0
        · refine lv_tableIn (off := 30) (tgt := 60) hx hb dX11_played_30 (by omega) (by first | (clear c_1 c_5 bf_6 c_7; omega) | omega) (by rw [c_8]; rfl) (by decide) ?_
          replace hF := q_ifp hF c_8
          refine lv_aload_n hx hb dX11_played_60 rfl (lv_at hl 0 rfl) ?_
          refine lv_aload_n hx hb dX11_played_61 rfl (lv_at hl 0 rfl) ?_
          refine gs_X11_73_11 E hI ha dX11_played_62 ?_
          refine gs_X11_404_7 E hI (q_tk (k' := 7) hI ha rfl (by decide)) dX11_played_65 ?_
          refine lv_topi (fun f_9 ef_9 => ?_)
          replace hF := q_letX hF ef_9
          refine q_ci (q_runV (As := [.int f_9]) (rest := []) E (hml.trans hl.1.symm) hI (c_X11_good l X σ a f_9 ha) kv_X11_156 ha ⟨rfl, by decide⟩ (show vwCl[10]? = some (RX11, TX11, 17) from rfl) rfl ⟨Nat.le_of_ble_eq_true rfl, Nat.le_of_ble_eq_true rfl⟩ ⟨Nat.le_refl _, Nat.le_refl _⟩ rfl (Nat.le_of_ble_eq_true rfl) dX11_played_68) hI (by decide) (fun r_10 σ_11 H locs hpσ_11 hkσ_11 hI => ?_)
          obtain ⟨ahpσ_11, bhpσ_11, chpσ_11⟩ := hpσ_11
          have fr_σ_11 := fr_σ.call chpσ_11 rfl rfl
          replace hF := q_biX hF bhpσ_11
          exact q_reti E hr hlk hI ⟨(hF.trans hout), fr_σ_11⟩ dX11_played_71
        replace hF := q_ifn hF c_8
        by_cases c_12 : v1.toInt = 1
        · refine lv_tableIn (off := 42) (tgt := 72) hx hb dX11_played_30 (by omega) (by first | (clear c_1 c_5 bf_6 c_7; omega) | omega) (by rw [c_12]; rfl) (by decide) ?_
          replace hF := q_ifp hF c_12
          refine lv_aload_n hx hb dX11_played_72 rfl (lv_at hl 0 rfl) ?_
          refine lv_aload_n hx hb dX11_played_73 rfl (lv_at hl 0 rfl) ?_
          refine gs_X11_73_11 E hI ha dX11_played_74 ?_
          refine gs_X11_407_7 E hI (q_tk (k' := 7) hI ha rfl (by decide)) dX11_played_77 ?_
          refine lv_topi (fun f_13 ef_13 => ?_)
          replace hF := q_letX hF ef_13
          refine q_ci (q_runV (As := [.int f_13]) (rest := []) E (hml.trans hl.1.symm) hI (c_X11_good l X σ a f_13 ha) kv_X11_156 ha ⟨rfl, by decide⟩ (show vwCl[10]? = some (RX11, TX11, 17) from rfl) rfl ⟨Nat.le_of_ble_eq_true rfl, Nat.le_of_ble_eq_true rfl⟩ ⟨Nat.le_refl _, Nat.le_refl _⟩ rfl (Nat.le_of_ble_eq_true rfl) dX11_played_80) hI (by decide) (fun r_14 σ_15 H locs hpσ_15 hkσ_15 hI => ?_)
          obtain ⟨ahpσ_15, bhpσ_15, chpσ_15⟩ := hpσ_15
          have fr_σ_15 := fr_σ.call chpσ_15 rfl rfl
          replace hF := q_biX hF bhpσ_15
          exact q_reti E hr hlk hI ⟨(hF.trans hout), fr_σ_15⟩ dX11_played_83
        replace hF := q_ifn hF c_12
        by_cases c_16 : v1.toInt = 2
        · refine lv_tableIn (off := 54) (tgt := 84) hx hb dX11_played_30 (by omega) (by first | (clear c_1 c_5 bf_6 c_7; omega) | omega) (by rw [c_16]; rfl) (by decide) ?_
          replace hF := q_ifp hF c_16
          refine lv_aload_n hx hb dX11_played_84 rfl (lv_at hl 0 rfl) ?_
          refine lv_aload_n hx hb dX11_played_85 rfl (lv_at hl 0 rfl) ?_
          refine gs_X11_73_11 E hI ha dX11_played_86 ?_
          refine gs_X11_408_7 E hI (q_tk (k' := 7) hI ha rfl (by decide)) dX11_played_89 ?_
          refine lv_topi (fun f_17 ef_17 => ?_)
          replace hF := q_letX hF ef_17
          refine q_ci (q_runV (As := [.int f_17]) (rest := []) E (hml.trans hl.1.symm) hI (c_X11_good l X σ a f_17 ha) kv_X11_156 ha ⟨rfl, by decide⟩ (show vwCl[10]? = some (RX11, TX11, 17) from rfl) rfl ⟨Nat.le_of_ble_eq_true rfl, Nat.le_of_ble_eq_true rfl⟩ ⟨Nat.le_refl _, Nat.le_refl _⟩ rfl (Nat.le_of_ble_eq_true rfl) dX11_played_92) hI (by decide) (fun r_18 σ_19 H locs hpσ_19 hkσ_19 hI => ?_)
          obtain ⟨ahpσ_19, bhpσ_19, chpσ_19⟩ := hpσ_19
          have fr_σ_19 := fr_σ.call chpσ_19 rfl rfl
          replace hF := q_biX hF bhpσ_19
          exact q_reti E hr hlk hI ⟨(hF.trans hout), fr_σ_19⟩ dX11_played_95
        replace hF := q_ifn hF c_16
        by_cases c_20 : v1.toInt = 3
        · refine lv_tableIn (off := 66) (tgt := 96) hx hb dX11_played_30 (by omega) (by first | (clear c_1 c_5 bf_6 c_7; omega) | omega) (by rw [c_20]; rfl) (by decide) ?_
          replace hF := q_ifp hF c_20
          refine lv_aload_n hx hb dX11_played_96 rfl (lv_at hl 0 rfl) ?_
          refine lv_aload_n hx hb dX11_played_97 rfl (lv_at hl 0 rfl) ?_
          refine gs_X11_73_11 E hI ha dX11_played_98 ?_
          refine gs_X11_411_7 E hI (q_tk (k' := 7) hI ha rfl (by decide)) dX11_played_101 ?_
          refine lv_topi (fun f_21 ef_21 => ?_)
          replace hF := q_letX hF ef_21
          refine q_ci (q_runV (As := [.int f_21]) (rest := []) E (hml.trans hl.1.symm) hI (c_X11_good l X σ a f_21 ha) kv_X11_156 ha ⟨rfl, by decide⟩ (show vwCl[10]? = some (RX11, TX11, 17) from rfl) rfl ⟨Nat.le_of_ble_eq_true rfl, Nat.le_of_ble_eq_true rfl⟩ ⟨Nat.le_refl _, Nat.le_refl _⟩ rfl (Nat.le_of_ble_eq_true rfl) dX11_played_104) hI (by decide) (fun r_22 σ_23 H locs hpσ_23 hkσ_23 hI => ?_)
          obtain ⟨ahpσ_23, bhpσ_23, chpσ_23⟩ := hpσ_23
          have fr_σ_23 := fr_σ.call chpσ_23 rfl rfl
          replace hF := q_biX hF bhpσ_23
          exact q_reti E hr hlk hI ⟨(hF.trans hout), fr_σ_23⟩ dX11_played_107
        replace hF := q_ifn hF c_20
        refine lv_tableOut (tgt := 108) hx hb dX11_played_30 (by first | (clear bf_6 c_7; omega) | omega) (by decide) ?_
        refine lv_aload_n hx hb dX11_played_108 rfl (lv_at hl 0 rfl) ?_
        refine lv_aload_n hx hb dX11_played_109 rfl (lv_at hl 0 rfl) ?_
        refine gs_X11_73_11 E hI ha dX11_played_110 ?_
        refine gs_X11_414_7 E hI (q_tk (k' := 7) hI ha rfl (by decide)) dX11_played_113 ?_
        refine lv_topi (fun f_24 ef_24 => ?_)
        replace hF := q_letX hF ef_24
        have bf_24 : 0 ≤ f_24.toInt ∧ f_24.toInt ≤ 1 := by rw [ef_24]; exact q_bd hI (q_tk (k' := 7) hI ha rfl (by decide)) rfl
        refine q_if_eq (A := f_24.toInt) E rfl (tgt := 123) dX11_played_116 (by decide) (fun c_25 => ?_) (fun c_25 => ?_)
        · skip
          replace hF := q_ifp hF c_25
          refine lv_iconst (v := 0) hx hb dX11_played_123 (by decide) ?_
          have kc_26 : (0 : Int32).toInt = 0 := rfl
          refine q_ci (q_runV (As := [.int 0]) (rest := []) E (hml.trans hl.1.symm) hI (c_X11_good l X σ a (0 : Int32) ha) kv_X11_156 ha ⟨rfl, by decide⟩ (show vwCl[10]? = some (RX11, TX11, 17) from rfl) rfl ⟨Nat.le_of_ble_eq_true rfl, Nat.le_of_ble_eq_true rfl⟩ ⟨Nat.le_refl _, Nat.le_refl _⟩ rfl (Nat.le_of_ble_eq_true rfl) dX11_played_124) hI (by decide) (fun r_27 σ_28 H locs hpσ_28 hkσ_28 hI => ?_)
          obtain ⟨ahpσ_28, bhpσ_28, chpσ_28⟩ := hpσ_28
          have fr_σ_28 := fr_σ.call chpσ_28 rfl rfl
          replace hF := q_biX hF bhpσ_28
          exact q_reti E hr hlk hI ⟨(hF.trans hout), fr_σ_28⟩ dX11_played_127
        · skip
          replace hF := q_ifn hF c_25
          refine lv_iconst (v := 1) hx hb dX11_played_119 (by decide) ?_
          refine lv_goto (tgt := 124) hx hb dX11_played_120 (by decide) ?_
          have kc_29 : (1 : Int32).toInt = 1 := rfl
          refine q_ci (q_runV (As := [.int 1]) (rest := []) E (hml.trans hl.1.symm) hI (c_X11_good l X σ a (1 : Int32) ha) kv_X11_156 ha ⟨rfl, by decide⟩ (show vwCl[10]? = some (RX11, TX11, 17) from rfl) rfl ⟨Nat.le_of_ble_eq_true rfl, Nat.le_of_ble_eq_true rfl⟩ ⟨Nat.le_refl _, Nat.le_refl _⟩ rfl (Nat.le_of_ble_eq_true rfl) dX11_played_124) hI (by decide) (fun r_30 σ_31 H locs hpσ_31 hkσ_31 hI => ?_)
          obtain ⟨ahpσ_31, bhpσ_31, chpσ_31⟩ := hpσ_31
          have fr_σ_31 := fr_σ.call chpσ_31 rfl rfl
          replace hF := q_biX hF bhpσ_31
          exact q_reti E hr hlk hI ⟨(hF.trans hout), fr_σ_31⟩ dX11_played_127
      · skip
        replace hF := q_ifp hF c_7
        refine lv_aload_n hx hb dX11_played_22 rfl (lv_at hl 0 rfl) ?_
        refine lv_bipush (v := 8) hx hb dX11_played_23 (by decide) ?_
        have kc_32 : (8 : Int32).toInt = 8 := rfl
        refine q_ci (q_runV (As := [.int 8]) (rest := []) E (hml.trans hl.1.symm) hI (c_X11_none l X σ a (8 : Int32) ha) kv_X11_109 ha ⟨rfl, by decide⟩ (show vwCl[10]? = some (RX11, TX11, 17) from rfl) rfl ⟨Nat.le_of_ble_eq_true rfl, Nat.le_of_ble_eq_true rfl⟩ ⟨Nat.le_refl _, Nat.le_refl _⟩ rfl (Nat.le_of_ble_eq_true rfl) dX11_played_25) hI (by decide) (fun r_33 σ_34 H locs hpσ_34 hkσ_34 hI => ?_)
        obtain ⟨ahpσ_34, bhpσ_34, chpσ_34⟩ := hpσ_34
        have fr_σ_34 := fr_σ.call chpσ_34 rfl rfl
        replace hF := q_biX hF bhpσ_34
        exact q_reti E hr hlk hI ⟨(hF.trans hout), fr_σ_34⟩ dX11_played_28
    · skip
      replace hF := q_ifp hF c_5
      refine lv_aload_n hx hb dX11_played_9 rfl (lv_at hl 0 rfl) ?_
      refine lv_iconst (v := 5) hx hb dX11_played_10 (by decide) ?_
      have kc_35 : (5 : Int32).toInt = 5 := rfl
      refine q_ci (q_runV (As := [.int 5]) (rest := []) E (hml.trans hl.1.symm) hI (c_X11_none l X σ a (5 : Int32) ha) kv_X11_109 ha ⟨rfl, by decide⟩ (show vwCl[10]? = some (RX11, TX11, 17) from rfl) rfl ⟨Nat.le_of_ble_eq_true rfl, Nat.le_of_ble_eq_true rfl⟩ ⟨Nat.le_refl _, Nat.le_refl _⟩ rfl (Nat.le_of_ble_eq_true rfl) dX11_played_11) hI (by decide) (fun r_36 σ_37 H locs hpσ_37 hkσ_37 hI => ?_)
      obtain ⟨ahpσ_37, bhpσ_37, chpσ_37⟩ := hpσ_37
      have fr_σ_37 := fr_σ.call chpσ_37 rfl rfl
      replace hF := q_biX hF bhpσ_37
      exact q_reti E hr hlk hI ⟨(hF.trans hout), fr_σ_37⟩ dX11_played_14

set_option maxRecDepth 100000 in
set_option maxHeartbeats 4000000 in
theorem c_X11_seedsStatus (l : Launch) (X : XW) (σ : ST) (a : Nat) (v1 : Int32) (v2 : Int32) (v3 : Int32) (ha : q_kd X a = 11) : Met l yX11_seedsStatus (q_ws yX11_seedsStatus cX11_seedsStatus 4 (some .int)) (q_rm 1 21) (q_P X σ [.ref a, .int v1, .int v2, .int v3]) (q_Qi X 9 σ (fun (r : Int32) (σ' : ST) => σ' = σ ∧ r = F_X11_seedsStatus X σ a v1 v2 v3)) 0 0 (q_reg X) := by
  refine q_met 9 (by first | exact rfl | decide +kernel) rfl (Nat.le_of_ble_eq_true rfl) (fun p e s m below meth c E hml hr hlk hI ls hl => ?_)
  have hx := E.1
  have hb := E.2.1
  have hl : lv_has ls 4 [(0, .ref a), (1, .int v1), (2, .int v2), (3, .int v3)] := hl
  obtain ⟨out, hout⟩ : ∃ o, o = F_X11_seedsStatus X σ a v1 v2 v3 := ⟨_, rfl⟩
  have hF := hout.symm
  unfold F_X11_seedsStatus at hF
  refine lv_aload_n hx hb dX11_seedsStatus_0 rfl (lv_at hl 0 rfl) ?_
  refine lv_iload_n hx hb dX11_seedsStatus_1 rfl (lv_at hl 1 rfl) ?_
  refine q_ci (q_runV (As := [.int v1]) (rest := []) E (hml.trans hl.1.symm) hI (c_X11_isPlayer l X σ a v1 ha) kv_X11_219 ha ⟨rfl, by decide⟩ (show vwCl[10]? = some (RX11, TX11, 17) from rfl) rfl ⟨Nat.le_of_ble_eq_true rfl, Nat.le_of_ble_eq_true rfl⟩ ⟨Nat.le_refl _, Nat.le_refl _⟩ rfl (Nat.le_of_ble_eq_true rfl) dX11_seedsStatus_2) hI (by decide) (fun r_1 σ_2 H locs hpσ_2 hkσ_2 hI => ?_)
  obtain ⟨ahpσ_2, bhpσ_2, chpσ_2⟩ := hpσ_2
  rw [ahpσ_2] at hI
  replace hF := q_letX hF chpσ_2
  refine q_if_ne (A := r_1.toInt) E rfl (tgt := 10) dX11_seedsStatus_5 (by decide) (fun c_3 => ?_) (fun c_3 => ?_)
  · skip
    replace hF := q_ifn hF c_3
    replace c_3 := q_ifOne bhpσ_2 c_3
    refine lv_iload_n hx hb dX11_seedsStatus_10 rfl (lv_at hl 2 rfl) ?_
    refine q_if_lt (A := v2.toInt) E rfl (tgt := 36) dX11_seedsStatus_11 (by decide) (fun c_4 => ?_) (fun c_4 => ?_)
    · skip
      replace hF := q_ifp hF c_4
      refine lv_iconst (v := 5) hx hb dX11_seedsStatus_36 (by decide) ?_
      exact q_reti E hr hlk hI ⟨rfl, (hF.trans hout)⟩ dX11_seedsStatus_37
    · skip
      replace hF := q_ifn hF (Int.not_lt.mpr c_4)
      refine lv_iload_n hx hb dX11_seedsStatus_14 rfl (lv_at hl 3 rfl) ?_
      refine lv_iconst (v := 1) hx hb dX11_seedsStatus_15 (by decide) ?_
      refine q_icmp_lt (A := v3.toInt) (B := 1) E rfl (by decide) (tgt := 36) dX11_seedsStatus_16 (by decide) (fun c_5 => ?_) (fun c_5 => ?_)
      · skip
        replace hF := q_ifp hF c_5
        refine lv_iconst (v := 5) hx hb dX11_seedsStatus_36 (by decide) ?_
        exact q_reti E hr hlk hI ⟨rfl, (hF.trans hout)⟩ dX11_seedsStatus_37
      · skip
        replace hF := q_ifn hF (Int.not_lt.mpr c_5)
        refine lv_iload_n hx hb dX11_seedsStatus_19 rfl (lv_at hl 3 rfl) ?_
        refine lv_bipush (v := 20) hx hb dX11_seedsStatus_20 (by decide) ?_
        refine q_icmp_gt (A := v3.toInt) (B := 20) E rfl (by decide) (tgt := 36) dX11_seedsStatus_22 (by decide) (fun c_6 => ?_) (fun c_6 => ?_)
        · skip
          replace hF := q_ifp hF c_6
          refine lv_iconst (v := 5) hx hb dX11_seedsStatus_36 (by decide) ?_
          exact q_reti E hr hlk hI ⟨rfl, (hF.trans hout)⟩ dX11_seedsStatus_37
        · skip
          replace hF := q_ifn hF (Int.not_lt.mpr c_6)
          refine lv_iload_n hx hb dX11_seedsStatus_25 rfl (lv_at hl 2 rfl) ?_
          refine lv_sipush (v := 9999) hx hb dX11_seedsStatus_26 (by decide) ?_
          refine lv_iload_n hx hb dX11_seedsStatus_29 rfl (lv_at hl 3 rfl) ?_
          refine lv_isub hx hb dX11_seedsStatus_30 ?_
          refine lv_topi (fun z_7 ez_7 => ?_)
          replace hF := q_letX hF ez_7
          refine lv_iconst (v := 1) hx hb dX11_seedsStatus_31 (by decide) ?_
          refine lv_iadd hx hb dX11_seedsStatus_32 ?_
          refine lv_topi (fun z_8 ez_8 => ?_)
          replace hF := q_letX hF ez_8
          refine q_icmp_le (A := v2.toInt) (B := z_8.toInt) E rfl rfl (tgt := 38) dX11_seedsStatus_33 (by decide) (fun c_9 => ?_) (fun c_9 => ?_)
          · skip
            replace hF := q_ifn hF (Int.not_lt.mpr c_9)
            refine lv_aload_n hx hb dX11_seedsStatus_38 rfl (lv_at hl 0 rfl) ?_
            refine gs_X11_42_11 E hI ha dX11_seedsStatus_39 ?_
            refine gs_X11_162_1 E hI (q_tk (k' := 1) hI ha rfl (by decide)) dX11_seedsStatus_42 ?_
            refine gs_X11_396_8 E hI (q_tk (k' := 8) hI (q_tk (k' := 1) hI ha rfl (by decide)) rfl (by decide)) dX11_seedsStatus_45 ?_
            refine lv_topi (fun f_10 ef_10 => ?_)
            replace hF := q_letX hF ef_10
            have bf_10 : 0 ≤ f_10.toInt ∧ f_10.toInt ≤ 1 := by rw [ef_10]; exact q_bd hI (q_tk (k' := 8) hI (q_tk (k' := 1) hI ha rfl (by decide)) rfl (by decide)) rfl
            refine q_if_eq (A := f_10.toInt) E rfl (tgt := 55) dX11_seedsStatus_48 (by decide) (fun c_11 => ?_) (fun c_11 => ?_)
            · skip
              replace hF := q_ifp hF c_11
              refine lv_bipush (v := 8) hx hb dX11_seedsStatus_55 (by decide) ?_
              exact q_reti E hr hlk hI ⟨rfl, (hF.trans hout)⟩ dX11_seedsStatus_57
            · skip
              replace hF := q_ifn hF c_11
              refine lv_iconst (v := 0) hx hb dX11_seedsStatus_51 (by decide) ?_
              refine lv_goto (tgt := 57) hx hb dX11_seedsStatus_52 (by decide) ?_
              exact q_reti E hr hlk hI ⟨rfl, (hF.trans hout)⟩ dX11_seedsStatus_57
          · skip
            replace hF := q_ifp hF c_9
            refine lv_iconst (v := 5) hx hb dX11_seedsStatus_36 (by decide) ?_
            exact q_reti E hr hlk hI ⟨rfl, (hF.trans hout)⟩ dX11_seedsStatus_37
  · skip
    replace hF := q_ifp hF c_3
    refine lv_iconst (v := 2) hx hb dX11_seedsStatus_8 (by decide) ?_
    exact q_reti E hr hlk hI ⟨rfl, (hF.trans hout)⟩ dX11_seedsStatus_9

set_option maxRecDepth 100000 in
set_option maxHeartbeats 4000000 in
theorem c_X11_wins (l : Launch) (X : XW) (σ : ST) (a : Nat) (v1 : Int32) (v2 : Int32) (v3 : Int32) (ha : q_kd X a = 11) : Met l yX11_wins (q_ws yX11_wins cX11_wins 7 (some .boolean)) (q_rm 7 166) (q_P X σ [.ref a, .int v1, .int v2, .int v3]) (q_Qi X 8 σ (fun (r : Int32) (σ' : ST) => (0 ≤ r.toInt ∧ r.toInt ≤ 1) ∧ (r, σ') = F_X11_wins X σ a v1 v2 v3 ∧ q_ow [(1, 4), (1, 5), (1, 6), (1, 7), (1, 9), (3, 0), (3, 1), (6, 0), (6, 1), (6, 2), (6, 3), (6, 4), (7, 0), (7, 1), (7, 2), (7, 3), (7, 4), (7, 5), (7, 6), (8, 0), (8, 1), (8, 2), (11, 0), (20, 99)] [(11, 1), (11, 2)] X σ σ')) 0 0 (q_reg X) := by
  refine q_met 8 (by first | exact rfl | decide +kernel) rfl (Nat.le_of_ble_eq_true rfl) (fun p e s m below meth c E hml hr hlk hI ls hl => ?_)
  have hx := E.1
  have hb := E.2.1
  have hl : lv_has ls 7 [(0, .ref a), (1, .int v1), (2, .int v2), (3, .int v3)] := hl
  have fr_σ : q_ow [(1, 4), (1, 5), (1, 6), (1, 7), (1, 9), (3, 0), (3, 1), (6, 0), (6, 1), (6, 2), (6, 3), (6, 4), (7, 0), (7, 1), (7, 2), (7, 3), (7, 4), (7, 5), (7, 6), (8, 0), (8, 1), (8, 2), (11, 0), (20, 99)] [(11, 1), (11, 2)] X σ σ := q_ow.rf
  obtain ⟨out, hout⟩ : ∃ o, o = F_X11_wins X σ a v1 v2 v3 := ⟨_, rfl⟩
  have hF := hout.symm
  unfold F_X11_wins at hF
  refine lv_aload_n hx hb dX11_wins_0 rfl (lv_at hl 0 rfl) ?_
  refine lv_iload_n hx hb dX11_wins_1 rfl (lv_at hl 1 rfl) ?_
  refine lv_iload_n hx hb dX11_wins_2 rfl (lv_at hl 2 rfl) ?_
  refine lv_iload_n hx hb dX11_wins_3 rfl (lv_at hl 3 rfl) ?_
  refine q_ci (q_runV (As := [.int v1, .int v2, .int v3]) (rest := []) E (hml.trans hl.1.symm) hI (c_X11_seedsStatus l X σ a v1 v2 v3 ha) kv_X11_417 ha ⟨rfl, by decide⟩ (show vwCl[10]? = some (RX11, TX11, 17) from rfl) rfl ⟨Nat.le_of_ble_eq_true rfl, Nat.le_of_ble_eq_true rfl⟩ ⟨Nat.le_refl _, Nat.le_refl _⟩ rfl (Nat.le_of_ble_eq_true rfl) dX11_wins_4) hI (by decide) (fun r_1 σ_2 H locs hpσ_2 hkσ_2 hI => ?_)
  obtain ⟨ahpσ_2, bhpσ_2⟩ := hpσ_2
  rw [ahpσ_2] at hI
  replace hF := q_letX hF bhpσ_2
  refine lv_istore (lv' := [(4, .int r_1), (0, .ref a), (1, .int v1), (2, .int v2), (3, .int v3)]) hx hb dX11_wins_7 hl (by decide) rfl (fun ls hl => ?_)
  refine lv_iload hx hb dX11_wins_9 (lv_at hl 0 rfl) ?_
  refine q_if_eq (A := r_1.toInt) E rfl (tgt := 21) dX11_wins_11 (by decide) (fun c_3 => ?_) (fun c_3 => ?_)
  · skip
    replace hF := q_ifp hF c_3
    refine lv_iconst (v := 0) hx hb dX11_wins_21 (by decide) ?_
    refine lv_istore (lv' := [(5, .int 0), (4, .int r_1), (0, .ref a), (1, .int v1), (2, .int v2), (3, .int v3)]) hx hb dX11_wins_22 hl (by decide) rfl (fun ls hl => ?_)
    refine lv_iconst (v := 0) hx hb dX11_wins_24 (by decide) ?_
    refine lv_istore (lv' := [(6, .int 0), (5, .int 0), (4, .int r_1), (0, .ref a), (1, .int v1), (2, .int v2), (3, .int v3)]) hx hb dX11_wins_25 hl (by decide) rfl (fun ls hl => ?_)
    have L_27_7 : ∀ (k_7 : Nat) (x_4 : Int32) (x_5 : Int32) (σ_6 : ST) (H : Heap) (locs : List Loc) (ls : Array Slot), (2147483647 - x_5.toInt).toNat < k_7 → (0 ≤ x_5.toInt) → (q_ow [(1, 4), (1, 5), (1, 6), (1, 7), (1, 9), (3, 0), (3, 1), (6, 0), (6, 1), (6, 2), (6, 3), (6, 4), (7, 0), (7, 1), (7, 2), (7, 3), (7, 4), (7, 5), (7, 6), (8, 0), (8, 1), (8, 2), (11, 0), (20, 99)] [(11, 1), (11, 2)] X σ σ_6) → (F_X11_wins_L27_1 X v3 a v2 v1 k_7 x_4 x_5 σ_6 = out) → q_I X 8 σ s.heap locs σ_6 H → lv_has ls 7 [(0, .ref a), (1, .int v1), (2, .int v2), (3, .int v3), (4, .int r_1), (5, .int x_4), (6, .int x_5)] → W p l e (q_rm 7 166) s m ([.ref a, .int v1, .int v2, .int v3] : List Value).toArray below meth c H locs 0 0 (MQ below (q_Qi X 8 σ (fun (r : Int32) (σ' : ST) => (0 ≤ r.toInt ∧ r.toInt ≤ 1) ∧ (r, σ') = F_X11_wins X σ a v1 v2 v3 ∧ q_ow [(1, 4), (1, 5), (1, 6), (1, 7), (1, 9), (3, 0), (3, 1), (6, 0), (6, 1), (6, 2), (6, 3), (6, 4), (7, 0), (7, 1), (7, 2), (7, 3), (7, 4), (7, 5), (7, 6), (8, 0), (8, 1), (8, 2), (11, 0), (20, 99)] [(11, 1), (11, 2)] X σ σ')) ([.ref a, .int v1, .int v2, .int v3] : List Value).toArray s 0 0 (q_reg X)) (F0 m 27 ls []) := by
      clear hF
      intro k_7
      induction k_7 with
      | zero =>
        intro x_4 x_5 σ_6 H locs ls hms
        exact absurd hms (Nat.not_lt_zero _)
      | succ k_7 ih27 =>
        intro x_4 x_5 σ_6 H locs ls hm27 hge27 fr_σ_6 hF hI hl
        replace hF := (F_X11_wins_L27_1_s).symm.trans hF
        unfold F_X11_wins_B27_1 at hF
        refine lv_iload hx hb dX11_wins_27 (lv_at hl 6 rfl) ?_
        refine lv_iload_n hx hb dX11_wins_29 rfl (lv_at hl 3 rfl) ?_
        have gc_8_x_5 := q_rng x_5
        have gc_8_v3 := q_rng v3
        refine q_icmp_ge (A := x_5.toInt) (B := v3.toInt) E rfl rfl (tgt := 79) dX11_wins_30 (by decide) (fun c_8 => ?_) (fun c_8 => ?_)
        · skip
          replace hF := q_ifn hF (Int.not_lt.mpr c_8)
          unfold F_X11_wins_E79_2 at hF
          refine lv_aload_n hx hb dX11_wins_79 rfl (lv_at hl 0 rfl) ?_
          refine lv_iload hx hb dX11_wins_80 (lv_at hl 5 rfl) ?_
          refine lv_i2l hx hb dX11_wins_82 rfl ?_
          refine lv_topl (fun y_9 ey_9 => ?_)
          replace hF := q_letX hF ey_9
          refine lv_iload_n hx hb dX11_wins_83 rfl (lv_at hl 3 rfl) ?_
          refine lv_i2l hx hb dX11_wins_84 rfl ?_
          refine lv_topl (fun y_10 ey_10 => ?_)
          replace hF := q_letX hF ey_10
          refine q_ci (q_runV (As := [.long y_9, .long y_10]) (rest := []) E (hml.trans hl.1.symm) hI (c_X11_tell l X σ_6 a y_9 y_10 ha) kv_X11_326 ha ⟨rfl, by decide⟩ (show vwCl[10]? = some (RX11, TX11, 17) from rfl) rfl ⟨Nat.le_of_ble_eq_true rfl, Nat.le_of_ble_eq_true rfl⟩ ⟨Nat.le_refl _, Nat.le_refl _⟩ rfl (Nat.le_of_ble_eq_true rfl) dX11_wins_85) hI (by decide) (fun r_11 σ_12 H locs hpσ_12 hkσ_12 hI => ?_)
          obtain ⟨ahpσ_12, bhpσ_12, chpσ_12⟩ := hpσ_12
          have fr_σ_12 := fr_σ_6.call chpσ_12 rfl rfl
          replace hF := q_biX hF bhpσ_12
          exact q_retz E hr hlk hI ⟨by omega, by omega⟩ ⟨⟨by omega, by omega⟩, (hF.trans hout), fr_σ_12⟩ dX11_wins_88
        · skip
          replace hF := q_ifp hF c_8
          refine lv_aload_n hx hb dX11_wins_33 rfl (lv_at hl 0 rfl) ?_
          refine gs_X11_46_11 E hI ha dX11_wins_34 ?_
          refine lv_aload_n hx hb dX11_wins_37 rfl (lv_at hl 0 rfl) ?_
          refine gs_X11_42_11 E hI ha dX11_wins_38 ?_
          refine q_cv (q_runV (As := [.ref (q_rf X a 8)]) (rest := []) E (hml.trans hl.1.symm) hI (c_X0_copyFrom l X σ_6 (q_rf X a 9) (q_rf X a 8) (q_tk (k' := 1) hI ha rfl (by decide)) (q_tk (k' := 1) hI ha rfl (by decide))) kv_X11_144 (q_tk (k' := 1) hI ha rfl (by decide)) ⟨rfl, by decide⟩ (show vwCl[0]? = some (RX0, TX0, 15) from rfl) rfl ⟨Nat.le_of_ble_eq_true rfl, Nat.le_of_ble_eq_true rfl⟩ ⟨Nat.le_refl _, Nat.le_refl _⟩ rfl (Nat.le_of_ble_eq_true rfl) dX11_wins_41) hI (by decide) (fun σ_14 H locs hpσ_14 hkσ_14 hI => ?_)
          obtain ⟨ahpσ_14, bhpσ_14⟩ := hpσ_14
          have fr_σ_14 := fr_σ_6.call bhpσ_14 rfl rfl
          replace hF := q_letX hF ahpσ_14
          refine lv_aload_n hx hb dX11_wins_44 rfl (lv_at hl 0 rfl) ?_
          refine gs_X11_77_11 E hI ha dX11_wins_45 ?_
          refine lv_aload_n hx hb dX11_wins_48 rfl (lv_at hl 0 rfl) ?_
          refine gs_X11_46_11 E hI ha dX11_wins_49 ?_
          refine lv_iload_n hx hb dX11_wins_52 rfl (lv_at hl 2 rfl) ?_
          refine lv_iload hx hb dX11_wins_53 (lv_at hl 6 rfl) ?_
          refine lv_iadd hx hb dX11_wins_55 ?_
          refine lv_topi (fun z_15 ez_15 => ?_)
          replace hF := q_letX hF ez_15
          refine q_cv (q_runV (As := [.ref (q_rf X a 9), .int z_15]) (rest := []) E (hml.trans hl.1.symm) hI (c_X7_go l X σ_14 (q_rf X a 15) (q_rf X a 9) z_15 (q_tk (k' := 7) hI ha rfl (by decide)) (q_tk (k' := 1) hI ha rfl (by decide))) kv_X11_399 (q_tk (k' := 7) hI ha rfl (by decide)) ⟨rfl, by decide⟩ (show vwCl[6]? = some (RX7, TX7, 8) from rfl) rfl ⟨Nat.le_of_ble_eq_true rfl, Nat.le_of_ble_eq_true rfl⟩ ⟨Nat.le_refl _, Nat.le_refl _⟩ rfl (Nat.le_of_ble_eq_true rfl) dX11_wins_56) hI (by decide) (fun σ_17 H locs hpσ_17 hkσ_17 hI => ?_)
          obtain ⟨ahpσ_17, bhpσ_17⟩ := hpσ_17
          have fr_σ_17 := fr_σ_14.call bhpσ_17 rfl rfl
          replace hF := q_letX hF ahpσ_17
          refine lv_aload_n hx hb dX11_wins_59 rfl (lv_at hl 0 rfl) ?_
          refine gs_X11_46_11 E hI ha dX11_wins_60 ?_
          refine gs_X11_213_1 E hI (q_tk (k' := 1) hI ha rfl (by decide)) dX11_wins_63 ?_
          refine lv_topi (fun f_18 ef_18 => ?_)
          replace hF := q_letX hF ef_18
          refine lv_iload_n hx hb dX11_wins_66 rfl (lv_at hl 1 rfl) ?_
          have gc_19_f_18 := q_rng f_18
          have gc_19_v1 := q_rng v1
          refine q_icmp_ne (A := f_18.toInt) (B := v1.toInt) E rfl rfl (tgt := 73) dX11_wins_67 (by decide) (fun c_19 => ?_) (fun c_19 => ?_)
          · skip
            replace hF := q_ifn hF c_19
            obtain ⟨z_20, ez_20⟩ : ∃ y : Int32, y = x_5 + 1 := ⟨_, rfl⟩
            replace hF := q_letX hF ez_20
            refine lv_iinc (v := z_20) (lv' := [(6, .int z_20), (0, .ref a), (1, .int v1), (2, .int v2), (3, .int v3), (4, .int r_1), (5, .int x_4)]) hx hb dX11_wins_73 hl (k := 6) rfl (by rw [ez_20]; rfl) (by decide) rfl (fun ls hl => ?_)
            have iz_20 : z_20.toInt = x_5.toInt + 1 := q_inc ez_20 (by first | (clear ahpσ_2 bhpσ_2 c_3 hm27 ahpσ_14 bhpσ_14 ahpσ_17 bhpσ_17 gc_19_f_18 gc_19_v1 c_19; omega) | omega)
            refine lv_goto (tgt := 27) hx hb dX11_wins_76 (by decide) ?_
            exact ih27 x_4 z_20 σ_17 _ _ ls (by first | (clear ahpσ_2 bhpσ_2 c_3 ahpσ_14 bhpσ_14 ahpσ_17 bhpσ_17 gc_19_f_18 gc_19_v1; omega) | omega) (by first | (clear ahpσ_2 bhpσ_2 c_3 hm27 gc_8_v3 c_8 ahpσ_14 bhpσ_14 ahpσ_17 bhpσ_17 gc_19_f_18 gc_19_v1 c_19; omega) | omega) fr_σ_17 hF hI (lv_sub hl [1, 2, 3, 4, 5, 6, 0] rfl)
          · skip
            replace hF := q_ifp hF c_19
            obtain ⟨z_21, ez_21⟩ : ∃ y : Int32, y = x_4 + 1 := ⟨_, rfl⟩
            replace hF := q_letX hF ez_21
            refine lv_iinc (v := z_21) (lv' := [(5, .int z_21), (0, .ref a), (1, .int v1), (2, .int v2), (3, .int v3), (4, .int r_1), (6, .int x_5)]) hx hb dX11_wins_70 hl (k := 5) rfl (by rw [ez_21]; rfl) (by decide) rfl (fun ls hl => ?_)
            obtain ⟨z_22, ez_22⟩ : ∃ y : Int32, y = x_5 + 1 := ⟨_, rfl⟩
            replace hF := q_letX hF ez_22
            refine lv_iinc (v := z_22) (lv' := [(6, .int z_22), (5, .int z_21), (0, .ref a), (1, .int v1), (2, .int v2), (3, .int v3), (4, .int r_1)]) hx hb dX11_wins_73 hl (k := 6) rfl (by rw [ez_22]; rfl) (by decide) rfl (fun ls hl => ?_)
            have iz_22 : z_22.toInt = x_5.toInt + 1 := q_inc ez_22 (by first | (clear ahpσ_2 bhpσ_2 c_3 hm27 ahpσ_14 bhpσ_14 ahpσ_17 bhpσ_17 gc_19_f_18 gc_19_v1 c_19; omega) | omega)
            refine lv_goto (tgt := 27) hx hb dX11_wins_76 (by decide) ?_
            exact ih27 z_21 z_22 σ_17 _ _ ls (by first | (clear ahpσ_2 bhpσ_2 c_3 ahpσ_14 bhpσ_14 ahpσ_17 bhpσ_17 gc_19_f_18 gc_19_v1 c_19; omega) | omega) (by first | (clear ahpσ_2 bhpσ_2 c_3 hm27 gc_8_v3 c_8 ahpσ_14 bhpσ_14 ahpσ_17 bhpσ_17 gc_19_f_18 gc_19_v1 c_19; omega) | omega) fr_σ_17 hF hI (lv_sub hl [2, 3, 4, 5, 6, 1, 0] rfl)
    exact L_27_7 ((2147483647 - (0 : Int32).toInt).toNat + 1) 0 0 σ _ _ ls (Nat.lt_succ_self _) (by decide) fr_σ hF hI (lv_sub hl [3, 4, 5, 6, 2, 1, 0] rfl)
  · skip
    replace hF := q_ifn hF c_3
    refine lv_aload_n hx hb dX11_wins_14 rfl (lv_at hl 1 rfl) ?_
    refine lv_iload hx hb dX11_wins_15 (lv_at hl 0 rfl) ?_
    refine q_ci (q_runV (As := [.int r_1]) (rest := []) E (hml.trans hl.1.symm) hI (c_X11_no l X σ a r_1 ha) kv_X11_89 ha ⟨rfl, by decide⟩ (show vwCl[10]? = some (RX11, TX11, 17) from rfl) rfl ⟨Nat.le_of_ble_eq_true rfl, Nat.le_of_ble_eq_true rfl⟩ ⟨Nat.le_refl _, Nat.le_refl _⟩ rfl (Nat.le_of_ble_eq_true rfl) dX11_wins_17) hI (by decide) (fun r_23 σ_24 H locs hpσ_24 hkσ_24 hI => ?_)
    obtain ⟨ahpσ_24, bhpσ_24, chpσ_24, dhpσ_24⟩ := hpσ_24
    have fr_σ_24 := fr_σ.call dhpσ_24 rfl rfl
    replace hF := q_biX hF chpσ_24
    exact q_retz E hr hlk hI ⟨by omega, by omega⟩ ⟨⟨by omega, by omega⟩, (hF.trans hout), fr_σ_24⟩ dX11_wins_20

set_option maxRecDepth 100000 in
set_option maxHeartbeats 4000000 in
theorem c_X11_left (l : Launch) (X : XW) (σ : ST) (a : Nat) (v1 : Int32) (v2 : Int32) (v3 : Int32) (ha : q_kd X a = 11) : Met l yX11_left (q_ws yX11_left cX11_left 7 (some .boolean)) (q_rm 7 166) (q_P X σ [.ref a, .int v1, .int v2, .int v3]) (q_Qi X 8 σ (fun (r : Int32) (σ' : ST) => (0 ≤ r.toInt ∧ r.toInt ≤ 1) ∧ (r, σ') = F_X11_left X σ a v1 v2 v3 ∧ q_ow [(1, 4), (1, 5), (1, 6), (1, 7), (1, 9), (3, 0), (3, 1), (6, 0), (6, 1), (6, 2), (6, 3), (6, 4), (7, 0), (7, 1), (7, 2), (7, 3), (7, 4), (7, 5), (7, 6), (8, 0), (8, 1), (8, 2), (11, 0), (20, 99)] [(11, 1), (11, 2)] X σ σ')) 0 0 (q_reg X) := by
  refine q_met 8 (by first | exact rfl | decide +kernel) rfl (Nat.le_of_ble_eq_true rfl) (fun p e s m below meth c E hml hr hlk hI ls hl => ?_)
  have hx := E.1
  have hb := E.2.1
  have hl : lv_has ls 7 [(0, .ref a), (1, .int v1), (2, .int v2), (3, .int v3)] := hl
  have fr_σ : q_ow [(1, 4), (1, 5), (1, 6), (1, 7), (1, 9), (3, 0), (3, 1), (6, 0), (6, 1), (6, 2), (6, 3), (6, 4), (7, 0), (7, 1), (7, 2), (7, 3), (7, 4), (7, 5), (7, 6), (8, 0), (8, 1), (8, 2), (11, 0), (20, 99)] [(11, 1), (11, 2)] X σ σ := q_ow.rf
  obtain ⟨out, hout⟩ : ∃ o, o = F_X11_left X σ a v1 v2 v3 := ⟨_, rfl⟩
  have hF := hout.symm
  unfold F_X11_left at hF
  refine lv_aload_n hx hb dX11_left_0 rfl (lv_at hl 0 rfl) ?_
  refine lv_iload_n hx hb dX11_left_1 rfl (lv_at hl 1 rfl) ?_
  refine lv_iload_n hx hb dX11_left_2 rfl (lv_at hl 2 rfl) ?_
  refine lv_iload_n hx hb dX11_left_3 rfl (lv_at hl 3 rfl) ?_
  refine q_ci (q_runV (As := [.int v1, .int v2, .int v3]) (rest := []) E (hml.trans hl.1.symm) hI (c_X11_seedsStatus l X σ a v1 v2 v3 ha) kv_X11_417 ha ⟨rfl, by decide⟩ (show vwCl[10]? = some (RX11, TX11, 17) from rfl) rfl ⟨Nat.le_of_ble_eq_true rfl, Nat.le_of_ble_eq_true rfl⟩ ⟨Nat.le_refl _, Nat.le_refl _⟩ rfl (Nat.le_of_ble_eq_true rfl) dX11_left_4) hI (by decide) (fun r_1 σ_2 H locs hpσ_2 hkσ_2 hI => ?_)
  obtain ⟨ahpσ_2, bhpσ_2⟩ := hpσ_2
  rw [ahpσ_2] at hI
  replace hF := q_letX hF bhpσ_2
  refine lv_istore (lv' := [(4, .int r_1), (0, .ref a), (1, .int v1), (2, .int v2), (3, .int v3)]) hx hb dX11_left_7 hl (by decide) rfl (fun ls hl => ?_)
  refine lv_iload hx hb dX11_left_9 (lv_at hl 0 rfl) ?_
  refine q_if_eq (A := r_1.toInt) E rfl (tgt := 21) dX11_left_11 (by decide) (fun c_3 => ?_) (fun c_3 => ?_)
  · skip
    replace hF := q_ifp hF c_3
    refine lv_iconst (v := 0) hx hb dX11_left_21 (by decide) ?_
    refine lv_istore (lv' := [(5, .int 0), (4, .int r_1), (0, .ref a), (1, .int v1), (2, .int v2), (3, .int v3)]) hx hb dX11_left_22 hl (by decide) rfl (fun ls hl => ?_)
    refine lv_iconst (v := 0) hx hb dX11_left_24 (by decide) ?_
    refine lv_istore (lv' := [(6, .int 0), (5, .int 0), (4, .int r_1), (0, .ref a), (1, .int v1), (2, .int v2), (3, .int v3)]) hx hb dX11_left_25 hl (by decide) rfl (fun ls hl => ?_)
    have L_27_7 : ∀ (k_7 : Nat) (x_4 : Int32) (x_5 : Int32) (σ_6 : ST) (H : Heap) (locs : List Loc) (ls : Array Slot), (2147483647 - x_5.toInt).toNat < k_7 → (0 ≤ x_5.toInt) → (q_ow [(1, 4), (1, 5), (1, 6), (1, 7), (1, 9), (3, 0), (3, 1), (6, 0), (6, 1), (6, 2), (6, 3), (6, 4), (7, 0), (7, 1), (7, 2), (7, 3), (7, 4), (7, 5), (7, 6), (8, 0), (8, 1), (8, 2), (11, 0), (20, 99)] [(11, 1), (11, 2)] X σ σ_6) → (F_X11_left_L27_1 X v3 a v2 v1 k_7 x_4 x_5 σ_6 = out) → q_I X 8 σ s.heap locs σ_6 H → lv_has ls 7 [(0, .ref a), (1, .int v1), (2, .int v2), (3, .int v3), (4, .int r_1), (5, .int x_4), (6, .int x_5)] → W p l e (q_rm 7 166) s m ([.ref a, .int v1, .int v2, .int v3] : List Value).toArray below meth c H locs 0 0 (MQ below (q_Qi X 8 σ (fun (r : Int32) (σ' : ST) => (0 ≤ r.toInt ∧ r.toInt ≤ 1) ∧ (r, σ') = F_X11_left X σ a v1 v2 v3 ∧ q_ow [(1, 4), (1, 5), (1, 6), (1, 7), (1, 9), (3, 0), (3, 1), (6, 0), (6, 1), (6, 2), (6, 3), (6, 4), (7, 0), (7, 1), (7, 2), (7, 3), (7, 4), (7, 5), (7, 6), (8, 0), (8, 1), (8, 2), (11, 0), (20, 99)] [(11, 1), (11, 2)] X σ σ')) ([.ref a, .int v1, .int v2, .int v3] : List Value).toArray s 0 0 (q_reg X)) (F0 m 27 ls []) := by
      clear hF
      intro k_7
      induction k_7 with
      | zero =>
        intro x_4 x_5 σ_6 H locs ls hms
        exact absurd hms (Nat.not_lt_zero _)
      | succ k_7 ih27 =>
        intro x_4 x_5 σ_6 H locs ls hm27 hge27 fr_σ_6 hF hI hl
        replace hF := (F_X11_left_L27_1_s).symm.trans hF
        unfold F_X11_left_B27_1 at hF
        refine lv_iload hx hb dX11_left_27 (lv_at hl 6 rfl) ?_
        refine lv_iload_n hx hb dX11_left_29 rfl (lv_at hl 3 rfl) ?_
        have gc_8_x_5 := q_rng x_5
        have gc_8_v3 := q_rng v3
        refine q_icmp_ge (A := x_5.toInt) (B := v3.toInt) E rfl rfl (tgt := 84) dX11_left_30 (by decide) (fun c_8 => ?_) (fun c_8 => ?_)
        · skip
          replace hF := q_ifn hF (Int.not_lt.mpr c_8)
          unfold F_X11_left_E84_2 at hF
          refine lv_aload_n hx hb dX11_left_84 rfl (lv_at hl 0 rfl) ?_
          refine lv_iload hx hb dX11_left_85 (lv_at hl 5 rfl) ?_
          refine lv_i2l hx hb dX11_left_87 rfl ?_
          refine lv_topl (fun y_9 ey_9 => ?_)
          replace hF := q_letX hF ey_9
          refine lv_iload_n hx hb dX11_left_88 rfl (lv_at hl 3 rfl) ?_
          refine lv_i2l hx hb dX11_left_89 rfl ?_
          refine lv_topl (fun y_10 ey_10 => ?_)
          replace hF := q_letX hF ey_10
          refine q_ci (q_runV (As := [.long y_9, .long y_10]) (rest := []) E (hml.trans hl.1.symm) hI (c_X11_tell l X σ_6 a y_9 y_10 ha) kv_X11_326 ha ⟨rfl, by decide⟩ (show vwCl[10]? = some (RX11, TX11, 17) from rfl) rfl ⟨Nat.le_of_ble_eq_true rfl, Nat.le_of_ble_eq_true rfl⟩ ⟨Nat.le_refl _, Nat.le_refl _⟩ rfl (Nat.le_of_ble_eq_true rfl) dX11_left_90) hI (by decide) (fun r_11 σ_12 H locs hpσ_12 hkσ_12 hI => ?_)
          obtain ⟨ahpσ_12, bhpσ_12, chpσ_12⟩ := hpσ_12
          have fr_σ_12 := fr_σ_6.call chpσ_12 rfl rfl
          replace hF := q_biX hF bhpσ_12
          exact q_retz E hr hlk hI ⟨by omega, by omega⟩ ⟨⟨by omega, by omega⟩, (hF.trans hout), fr_σ_12⟩ dX11_left_93
        · skip
          replace hF := q_ifp hF c_8
          refine lv_aload_n hx hb dX11_left_33 rfl (lv_at hl 0 rfl) ?_
          refine gs_X11_46_11 E hI ha dX11_left_34 ?_
          refine lv_aload_n hx hb dX11_left_37 rfl (lv_at hl 0 rfl) ?_
          refine gs_X11_42_11 E hI ha dX11_left_38 ?_
          refine q_cv (q_runV (As := [.ref (q_rf X a 8)]) (rest := []) E (hml.trans hl.1.symm) hI (c_X0_copyFrom l X σ_6 (q_rf X a 9) (q_rf X a 8) (q_tk (k' := 1) hI ha rfl (by decide)) (q_tk (k' := 1) hI ha rfl (by decide))) kv_X11_144 (q_tk (k' := 1) hI ha rfl (by decide)) ⟨rfl, by decide⟩ (show vwCl[0]? = some (RX0, TX0, 15) from rfl) rfl ⟨Nat.le_of_ble_eq_true rfl, Nat.le_of_ble_eq_true rfl⟩ ⟨Nat.le_refl _, Nat.le_refl _⟩ rfl (Nat.le_of_ble_eq_true rfl) dX11_left_41) hI (by decide) (fun σ_14 H locs hpσ_14 hkσ_14 hI => ?_)
          obtain ⟨ahpσ_14, bhpσ_14⟩ := hpσ_14
          have fr_σ_14 := fr_σ_6.call bhpσ_14 rfl rfl
          replace hF := q_letX hF ahpσ_14
          refine lv_aload_n hx hb dX11_left_44 rfl (lv_at hl 0 rfl) ?_
          refine gs_X11_77_11 E hI ha dX11_left_45 ?_
          refine lv_aload_n hx hb dX11_left_48 rfl (lv_at hl 0 rfl) ?_
          refine gs_X11_46_11 E hI ha dX11_left_49 ?_
          refine lv_iload_n hx hb dX11_left_52 rfl (lv_at hl 2 rfl) ?_
          refine lv_iload hx hb dX11_left_53 (lv_at hl 6 rfl) ?_
          refine lv_iadd hx hb dX11_left_55 ?_
          refine lv_topi (fun z_15 ez_15 => ?_)
          replace hF := q_letX hF ez_15
          refine q_cv (q_runV (As := [.ref (q_rf X a 9), .int z_15]) (rest := []) E (hml.trans hl.1.symm) hI (c_X7_go l X σ_14 (q_rf X a 15) (q_rf X a 9) z_15 (q_tk (k' := 7) hI ha rfl (by decide)) (q_tk (k' := 1) hI ha rfl (by decide))) kv_X11_399 (q_tk (k' := 7) hI ha rfl (by decide)) ⟨rfl, by decide⟩ (show vwCl[6]? = some (RX7, TX7, 8) from rfl) rfl ⟨Nat.le_of_ble_eq_true rfl, Nat.le_of_ble_eq_true rfl⟩ ⟨Nat.le_refl _, Nat.le_refl _⟩ rfl (Nat.le_of_ble_eq_true rfl) dX11_left_56) hI (by decide) (fun σ_17 H locs hpσ_17 hkσ_17 hI => ?_)
          obtain ⟨ahpσ_17, bhpσ_17⟩ := hpσ_17
          have fr_σ_17 := fr_σ_14.call bhpσ_17 rfl rfl
          replace hF := q_letX hF ahpσ_17
          refine lv_iload hx hb dX11_left_59 (lv_at hl 5 rfl) ?_
          refine lv_aload_n hx hb dX11_left_61 rfl (lv_at hl 0 rfl) ?_
          refine gs_X11_46_11 E hI ha dX11_left_62 ?_
          refine gs_X11_222_1 E hI (q_tk (k' := 1) hI ha rfl (by decide)) dX11_left_65 ?_
          refine gs_X11_239_2 E hI (q_tk (k' := 2) hI (q_tk (k' := 1) hI ha rfl (by decide)) rfl (by decide)) dX11_left_68 ?_
          refine lv_iload_n hx hb dX11_left_71 rfl (lv_at hl 1 rfl) ?_
          refine q_ci (q_runV (As := [.int v1]) (rest := [.int x_4]) E (hml.trans hl.1.symm) hI (c_X5_get l X σ_17 (q_rf X (q_rf X (q_rf X a 9) 1) 2) v1 (q_tk (k' := 5) hI (q_tk (k' := 2) hI (q_tk (k' := 1) hI ha rfl (by decide)) rfl (by decide)) rfl (by decide))) kv_X11_232 (q_tk (k' := 5) hI (q_tk (k' := 2) hI (q_tk (k' := 1) hI ha rfl (by decide)) rfl (by decide)) rfl (by decide)) ⟨rfl, by decide⟩ (show vwCl[4]? = some (RX5, TX5, 1) from rfl) rfl ⟨Nat.le_of_ble_eq_true rfl, Nat.le_of_ble_eq_true rfl⟩ ⟨Nat.le_refl _, Nat.le_refl _⟩ rfl (Nat.le_of_ble_eq_true rfl) dX11_left_72) hI (by decide) (fun r_18 σ_19 H locs hpσ_19 hkσ_19 hI => ?_)
          obtain ⟨ahpσ_19, bhpσ_19⟩ := hpσ_19
          rw [ahpσ_19] at hI
          replace hF := q_letX hF bhpσ_19
          refine lv_iadd hx hb dX11_left_75 ?_
          refine lv_topi (fun z_20 ez_20 => ?_)
          replace hF := q_letX hF ez_20
          refine lv_istore (lv' := [(5, .int z_20), (0, .ref a), (1, .int v1), (2, .int v2), (3, .int v3), (4, .int r_1), (6, .int x_5)]) hx hb dX11_left_76 hl (by decide) rfl (fun ls hl => ?_)
          obtain ⟨z_21, ez_21⟩ : ∃ y : Int32, y = x_5 + 1 := ⟨_, rfl⟩
          replace hF := q_letX hF ez_21
          refine lv_iinc (v := z_21) (lv' := [(6, .int z_21), (5, .int z_20), (0, .ref a), (1, .int v1), (2, .int v2), (3, .int v3), (4, .int r_1)]) hx hb dX11_left_78 hl (k := 6) rfl (by rw [ez_21]; rfl) (by decide) rfl (fun ls hl => ?_)
          have iz_21 : z_21.toInt = x_5.toInt + 1 := q_inc ez_21 (by first | (clear ahpσ_2 bhpσ_2 c_3 hm27 ahpσ_14 bhpσ_14 ahpσ_17 bhpσ_17 ahpσ_19 bhpσ_19; omega) | omega)
          refine lv_goto (tgt := 27) hx hb dX11_left_81 (by decide) ?_
          exact ih27 z_20 z_21 σ_17 _ _ ls (by first | (clear ahpσ_2 bhpσ_2 c_3 ahpσ_14 bhpσ_14 ahpσ_17 bhpσ_17 ahpσ_19 bhpσ_19; omega) | omega) (by first | (clear ahpσ_2 bhpσ_2 c_3 hm27 gc_8_v3 c_8 ahpσ_14 bhpσ_14 ahpσ_17 bhpσ_17 ahpσ_19 bhpσ_19; omega) | omega) fr_σ_17 hF hI (lv_sub hl [2, 3, 4, 5, 6, 1, 0] rfl)
    exact L_27_7 ((2147483647 - (0 : Int32).toInt).toNat + 1) 0 0 σ _ _ ls (Nat.lt_succ_self _) (by decide) fr_σ hF hI (lv_sub hl [3, 4, 5, 6, 2, 1, 0] rfl)
  · skip
    replace hF := q_ifn hF c_3
    refine lv_aload_n hx hb dX11_left_14 rfl (lv_at hl 1 rfl) ?_
    refine lv_iload hx hb dX11_left_15 (lv_at hl 0 rfl) ?_
    refine q_ci (q_runV (As := [.int r_1]) (rest := []) E (hml.trans hl.1.symm) hI (c_X11_no l X σ a r_1 ha) kv_X11_89 ha ⟨rfl, by decide⟩ (show vwCl[10]? = some (RX11, TX11, 17) from rfl) rfl ⟨Nat.le_of_ble_eq_true rfl, Nat.le_of_ble_eq_true rfl⟩ ⟨Nat.le_refl _, Nat.le_refl _⟩ rfl (Nat.le_of_ble_eq_true rfl) dX11_left_17) hI (by decide) (fun r_22 σ_23 H locs hpσ_23 hkσ_23 hI => ?_)
    obtain ⟨ahpσ_23, bhpσ_23, chpσ_23, dhpσ_23⟩ := hpσ_23
    have fr_σ_23 := fr_σ.call dhpσ_23 rfl rfl
    replace hF := q_biX hF chpσ_23
    exact q_retz E hr hlk hI ⟨by omega, by omega⟩ ⟨⟨by omega, by omega⟩, (hF.trans hout), fr_σ_23⟩ dX11_left_20

set_option maxRecDepth 100000 in
set_option maxHeartbeats 4000000 in
theorem c_X11_markAt (l : Launch) (X : XW) (σ : ST) (a : Nat) (v1 : Int32) (ha : q_kd X a = 11) : Met l yX11_markAt (q_ws yX11_markAt cX11_markAt 2 (some (.object "CheatHeap$Game"))) (q_rm 0 0) (q_P X σ [.ref a, .int v1]) (q_Qq X 9 σ (fun (r : Option Nat) (σ' : ST) => σ' = σ ∧ ((∀ y, r = some y → q_kd X y = 1 ∧ 0 ≤ v1.toInt ∧ v1.toInt < 3) ∧ (r = none → ¬ (0 ≤ v1.toInt ∧ v1.toInt < 3))) ∧ r = F_X11_markAt X σ a v1)) 0 0 (q_reg X) := by
  refine q_met 9 (by first | exact rfl | decide +kernel) rfl (Nat.le_of_ble_eq_true rfl) (fun p e s m below meth c E hml hr hlk hI ls hl => ?_)
  have hx := E.1
  have hb := E.2.1
  have hl : lv_has ls 2 [(0, .ref a), (1, .int v1)] := hl
  obtain ⟨out, hout⟩ : ∃ o, o = F_X11_markAt X σ a v1 := ⟨_, rfl⟩
  have hF := hout.symm
  unfold F_X11_markAt at hF
  refine lv_iload_n hx hb dX11_markAt_0 rfl (lv_at hl 1 rfl) ?_
  refine q_if_lt (A := v1.toInt) E rfl (tgt := 18) dX11_markAt_1 (by decide) (fun c_1 => ?_) (fun c_1 => ?_)
  · skip
    replace hF := q_ifp hF c_1
    refine lv_null hx hb dX11_markAt_18 ?_
    exact q_retq (r := none) E hr hlk hI rfl ⟨rfl, ⟨fun y h => (nomatch h), fun _ => by omega⟩, (hF.trans hout)⟩ dX11_markAt_19
  · skip
    replace hF := q_ifn hF (Int.not_lt.mpr c_1)
    refine lv_iload_n hx hb dX11_markAt_4 rfl (lv_at hl 1 rfl) ?_
    refine lv_iconst (v := 3) hx hb dX11_markAt_5 (by decide) ?_
    refine q_icmp_ge (A := v1.toInt) (B := 3) E rfl (by decide) (tgt := 18) dX11_markAt_6 (by decide) (fun c_2 => ?_) (fun c_2 => ?_)
    · skip
      replace hF := q_ifn hF (Int.not_lt.mpr c_2)
      refine lv_null hx hb dX11_markAt_18 ?_
      exact q_retq (r := none) E hr hlk hI rfl ⟨rfl, ⟨fun y h => (nomatch h), fun _ => by omega⟩, (hF.trans hout)⟩ dX11_markAt_19
    · skip
      replace hF := q_ifp hF c_2
      refine lv_aload_n hx hb dX11_markAt_9 rfl (lv_at hl 0 rfl) ?_
      refine gs_X11_49_11 E hI ha dX11_markAt_10 ?_
      refine lv_iload_n hx hb dX11_markAt_13 rfl (lv_at hl 1 rfl) ?_
      refine q_aald E hI (q_tk (k' := 24) hI ha rfl (by decide)) (Or.inr rfl) (by omega) (by rw [q_lnk (v := 3) hI (q_tk (k' := 24) hI ha rfl (by decide)) rfl (by decide)]; omega) dX11_markAt_14 ?_
      refine lv_goto (tgt := 19) hx hb dX11_markAt_15 (by decide) ?_
      exact q_retq (r := some (q_rf X (q_rf X a 10) (v1 : Int32).toNatClampNeg)) E hr hlk hI rfl ⟨rfl, ⟨fun y h => by cases h; exact ⟨(q_tk24 hI (q_tk (k' := 24) hI ha rfl (by decide)) (by omega) (by omega)), by omega, by omega⟩, fun h => (nomatch h)⟩, (hF.trans hout)⟩ dX11_markAt_19
end
/-! FROM 16.class.b06.lean.txt -/
section
set_option maxRecDepth 100000 in
set_option maxHeartbeats 4000000 in
theorem c_X11_mark (l : Launch) (X : XW) (σ : ST) (a : Nat) (ha : q_kd X a = 11) : Met l yX11_mark (q_ws yX11_mark cX11_mark 2 (some .int)) (q_rm 3 64) (q_P X σ [.ref a]) (q_Qi X 0 σ (fun (r : Int32) (σ' : ST) => (q_KS (fun b g => b = a ∧ g = 11) 8 X σ σ') ∧ ((σ.1 a 11).toInt < 3 → (σ'.1 a 11).toInt = (σ.1 a 11).toInt + 1 ∧ r.toInt = (σ.1 a 11).toInt + 1) ∧ ((σ.1 a 11).toInt = 3 → (σ'.1 a 11).toInt = 3 ∧ r.toInt = -1) ∧ (r, σ') = F_X11_mark X σ a ∧ q_ow [(1, 4), (1, 5), (1, 6), (1, 7), (3, 0), (3, 1), (6, 0), (6, 1), (6, 2), (6, 3), (6, 4), (8, 0), (8, 1), (8, 2), (11, 0), (11, 11), (20, 99)] [] X σ σ')) 0 0 (q_reg X) := by
  refine q_met 0 (by first | exact rfl | decide +kernel) rfl (Nat.le_of_ble_eq_true rfl) (fun p e s m below meth c E hml hr hlk hI ls hl => ?_)
  have hx := E.1
  have hb := E.2.1
  have hl : lv_has ls 2 [(0, .ref a)] := hl
  have ks_σ : q_KS (fun b g => b = a ∧ g = 11) 8 X σ σ := q_KS.rf
  have fr_σ : q_ow [(1, 4), (1, 5), (1, 6), (1, 7), (3, 0), (3, 1), (6, 0), (6, 1), (6, 2), (6, 3), (6, 4), (8, 0), (8, 1), (8, 2), (11, 0), (11, 11), (20, 99)] [] X σ σ := q_ow.rf
  obtain ⟨out, hout⟩ : ∃ o, o = F_X11_mark X σ a := ⟨_, rfl⟩
  have hF := hout.symm
  unfold F_X11_mark at hF
  refine lv_aload_n hx hb dX11_mark_0 rfl (lv_at hl 0 rfl) ?_
  refine lv_aload_n hx hb dX11_mark_1 rfl (lv_at hl 0 rfl) ?_
  refine gs_X11_53_11 E hI ha dX11_mark_2 ?_
  refine lv_topi (fun f_1 ef_1 => ?_)
  replace hF := q_letX hF ef_1
  have if_1 : f_1.toInt = (σ.1 a 11).toInt := congrArg Int32.toInt ef_1
  have bf_1 : 0 ≤ f_1.toInt ∧ f_1.toInt ≤ 3 := by rw [ef_1]; exact q_bd hI ha rfl
  refine q_cq (q_runV (As := [.int f_1]) (rest := []) E (hml.trans hl.1.symm) hI (c_X11_markAt l X σ a f_1 ha) kv_X11_420 ha ⟨rfl, by decide⟩ (show vwCl[10]? = some (RX11, TX11, 17) from rfl) rfl ⟨Nat.le_of_ble_eq_true rfl, Nat.le_of_ble_eq_true rfl⟩ ⟨Nat.le_refl _, Nat.le_refl _⟩ rfl (Nat.le_of_ble_eq_true rfl) dX11_mark_5) hI (by decide) (fun r_2 σ_3 H locs hpσ_3 hkσ_3 hI => ?_)
  obtain ⟨ahpσ_3, bhpσ_3, chpσ_3⟩ := hpσ_3
  rw [ahpσ_3] at hI
  replace hF := q_letX hF chpσ_3
  rcases r_2 with _ | r_2
  · show W _ _ _ _ _ _ _ _ _ _ _ _ _ _ _ (F0 m (5 + 3) ls [.null])
    replace hF := q_onN hF
    have nq_f_1 := bhpσ_3.2 rfl
    refine lv_astore_nN (lv' := [(1, .null), (0, .ref a)]) hx hb dX11_mark_8 rfl hl (by decide) rfl (fun ls hl => ?_)
    refine lv_aload_nN hx hb dX11_mark_9 rfl (lv_at hl 0 rfl) ?_
    refine lv_ifnonnullN hx hb dX11_mark_10 ?_
    refine lv_aload_n hx hb dX11_mark_13 rfl (lv_at hl 1 rfl) ?_
    refine lv_bipush (v := 7) hx hb dX11_mark_14 (by decide) ?_
    have kc_4 : (7 : Int32).toInt = 7 := rfl
    refine q_ci (q_runV (As := [.int 7]) (rest := []) E (hml.trans hl.1.symm) hI (c_X11_none l X σ a (7 : Int32) ha) kv_X11_109 ha ⟨rfl, by decide⟩ (show vwCl[10]? = some (RX11, TX11, 17) from rfl) rfl ⟨Nat.le_of_ble_eq_true rfl, Nat.le_of_ble_eq_true rfl⟩ ⟨Nat.le_refl _, Nat.le_refl _⟩ rfl (Nat.le_of_ble_eq_true rfl) dX11_mark_16) hI (by decide) (fun r_5 σ_6 H locs hpσ_6 hkσ_6 hI => ?_)
    obtain ⟨ahpσ_6, bhpσ_6, chpσ_6⟩ := hpσ_6
    have fr_σ_6 := fr_σ.call chpσ_6 rfl rfl
    replace hF := q_biX hF bhpσ_6
    have mv11_σ_6 : (σ_6.1 a 11).toInt = (σ.1 a 11).toInt := congrArg Int32.toInt ((q_K.le hkσ_6 (by decide) : q_K 8 X σ σ_6) a 11 (by rw [ha]; decide))
    have ks_σ_6 : q_KS (fun b g => b = a ∧ g = 11) 8 X σ σ_6 := ks_σ.K hkσ_6 (by decide)
    exact q_reti E hr hlk hI ⟨ks_σ_6, (by first | (clear ahpσ_3 bhpσ_3 chpσ_3 kc_4 bhpσ_6 chpσ_6; omega) | omega), (by first | (clear if_1 bf_1 ahpσ_3 bhpσ_3 chpσ_3 nq_f_1 kc_4 bhpσ_6 chpσ_6; omega) | omega), (hF.trans hout), fr_σ_6⟩ dX11_mark_19
  · show W _ _ _ _ _ _ _ _ _ _ _ _ _ _ _ (F0 m (5 + 3) ls [.ref r_2])
    replace hF := q_onS hF
    obtain ⟨kq_r_2, lo_r_2, hi_r_2⟩ := bhpσ_3.1 _ rfl
    refine lv_astore_n (lv' := [(1, .ref r_2), (0, .ref a)]) hx hb dX11_mark_8 rfl hl (by decide) rfl (fun ls hl => ?_)
    refine lv_aload_n hx hb dX11_mark_9 rfl (lv_at hl 0 rfl) ?_
    refine lv_ifnonnull (tgt := 20) hx hb dX11_mark_10 (by decide) ?_
    refine lv_aload_n hx hb dX11_mark_20 rfl (lv_at hl 0 rfl) ?_
    refine lv_aload_n hx hb dX11_mark_21 rfl (lv_at hl 1 rfl) ?_
    refine gs_X11_42_11 E hI ha dX11_mark_22 ?_
    refine q_cv (q_runV (As := [.ref (q_rf X a 8)]) (rest := []) E (hml.trans hl.1.symm) hI (c_X0_copyFrom l X σ r_2 (q_rf X a 8) kq_r_2 (q_tk (k' := 1) hI ha rfl (by decide))) kv_X11_144 kq_r_2 ⟨rfl, by decide⟩ (show vwCl[0]? = some (RX0, TX0, 15) from rfl) rfl ⟨Nat.le_of_ble_eq_true rfl, Nat.le_of_ble_eq_true rfl⟩ ⟨Nat.le_refl _, Nat.le_refl _⟩ rfl (Nat.le_of_ble_eq_true rfl) dX11_mark_25) hI (by decide) (fun σ_8 H locs hpσ_8 hkσ_8 hI => ?_)
    obtain ⟨ahpσ_8, bhpσ_8⟩ := hpσ_8
    have fr_σ_8 := fr_σ.call bhpσ_8 rfl rfl
    replace hF := q_letX hF ahpσ_8
    have mv11_σ_8 : (σ_8.1 a 11).toInt = (σ.1 a 11).toInt := congrArg Int32.toInt ((q_K.le hkσ_8 (by decide) : q_K 8 X σ σ_8) a 11 (by rw [ha]; decide))
    have ks_σ_8 : q_KS (fun b g => b = a ∧ g = 11) 8 X σ σ_8 := ks_σ.K hkσ_8 (by decide)
    refine lv_aload_n hx hb dX11_mark_28 rfl (lv_at hl 1 rfl) ?_
    refine lv_dup hx hb dX11_mark_29 rfl ?_
    refine gs_X11_53_11 E hI ha dX11_mark_30 ?_
    refine lv_topi (fun f_9 ef_9 => ?_)
    replace hF := q_letX hF ef_9
    have if_9 : f_9.toInt = (σ_8.1 a 11).toInt := congrArg Int32.toInt ef_9
    have bf_9 : 0 ≤ f_9.toInt ∧ f_9.toInt ≤ 3 := by rw [ef_9]; exact q_bd hI ha rfl
    refine lv_iconst (v := 1) hx hb dX11_mark_33 (by decide) ?_
    refine lv_iadd hx hb dX11_mark_34 ?_
    refine lv_topi (fun z_10 ez_10 => ?_)
    replace hF := q_letX hF ez_10
    have kc_11 : (1 : Int32).toInt = 1 := rfl
    have iz_10 := q_add ez_10 (by first | (clear ahpσ_3 bhpσ_3 chpσ_3 lo_r_2 ahpσ_8 bhpσ_8 bf_9; omega) | omega) (by first | (clear ahpσ_3 bhpσ_3 chpσ_3 lo_r_2 ahpσ_8 bhpσ_8 bf_9; omega) | omega)
    refine ps_X11_53_11 E hI ha (by decide) (by first | (clear ahpσ_3 bhpσ_3 chpσ_3 lo_r_2 ahpσ_8 bhpσ_8 bf_9; omega) | omega) (by first | (clear ahpσ_3 bhpσ_3 chpσ_3 lo_r_2 ahpσ_8 bhpσ_8 bf_9; omega) | omega) dX11_mark_35 (fun H locs σ_12 hσ_12 hI => ?_)
    replace hF := q_letX hF hσ_12
    have fr_σ_12 := fr_σ_8.si hσ_12 ha rfl
    have ks_σ_12 : q_KS (fun b g => b = a ∧ g = 11) 8 X σ σ_12 := ks_σ_8.siS hσ_12 ⟨rfl, rfl⟩
    have mv11_σ_12 : (σ_12.1 a 11).toInt = z_10.toInt := congrArg Int32.toInt (q_rd hσ_12)
    refine lv_aload_n hx hb dX11_mark_38 rfl (lv_at hl 1 rfl) ?_
    refine lv_aload_n hx hb dX11_mark_39 rfl (lv_at hl 1 rfl) ?_
    refine gs_X11_53_11 E hI ha dX11_mark_40 ?_
    refine lv_topi (fun f_13 ef_13 => ?_)
    replace hF := q_letX hF ef_13
    have if_13 : f_13.toInt = (σ_12.1 a 11).toInt := congrArg Int32.toInt ef_13
    have bf_13 : 0 ≤ f_13.toInt ∧ f_13.toInt ≤ 3 := by rw [ef_13]; exact q_bd hI ha rfl
    refine q_ci (q_runV (As := [.int f_13]) (rest := []) E (hml.trans hl.1.symm) hI (c_X11_good l X σ_12 a f_13 ha) kv_X11_156 ha ⟨rfl, by decide⟩ (show vwCl[10]? = some (RX11, TX11, 17) from rfl) rfl ⟨Nat.le_of_ble_eq_true rfl, Nat.le_of_ble_eq_true rfl⟩ ⟨Nat.le_refl _, Nat.le_refl _⟩ rfl (Nat.le_of_ble_eq_true rfl) dX11_mark_43) hI (by decide) (fun r_14 σ_15 H locs hpσ_15 hkσ_15 hI => ?_)
    obtain ⟨ahpσ_15, bhpσ_15, chpσ_15⟩ := hpσ_15
    have fr_σ_15 := fr_σ_12.call chpσ_15 rfl rfl
    replace hF := q_biX hF bhpσ_15
    have mv11_σ_15 : (σ_15.1 a 11).toInt = (σ_12.1 a 11).toInt := congrArg Int32.toInt ((q_K.le hkσ_15 (by decide) : q_K 8 X σ_12 σ_15) a 11 (by rw [ha]; decide))
    have ks_σ_15 : q_KS (fun b g => b = a ∧ g = 11) 8 X σ σ_15 := ks_σ_12.K hkσ_15 (by decide)
    exact q_reti E hr hlk hI ⟨ks_σ_15, (by first | (clear if_1 bf_1 ahpσ_3 bhpσ_3 chpσ_3 lo_r_2 hi_r_2 ahpσ_8 bhpσ_8 bf_9 bf_13 bhpσ_15 chpσ_15; omega) | omega), (by first | (clear ahpσ_3 bhpσ_3 chpσ_3 lo_r_2 ahpσ_8 bhpσ_8 bf_9 bf_13 bhpσ_15 chpσ_15; omega) | omega), (hF.trans hout), fr_σ_15⟩ dX11_mark_46

set_option maxRecDepth 100000 in
set_option maxHeartbeats 4000000 in
theorem c_X11_back (l : Launch) (X : XW) (σ : ST) (a : Nat) (ha : q_kd X a = 11) : Met l yX11_back (q_ws yX11_back cX11_back 2 (some .int)) (q_rm 3 64) (q_P X σ [.ref a]) (q_Qi X 0 σ (fun (r : Int32) (σ' : ST) => (q_KS (fun b g => b = a ∧ g = 11) 8 X σ σ') ∧ (0 < (σ.1 a 11).toInt → (σ'.1 a 11).toInt = (σ.1 a 11).toInt - 1 ∧ r.toInt = (σ.1 a 11).toInt - 1) ∧ ((σ.1 a 11).toInt = 0 → (σ'.1 a 11).toInt = 0 ∧ r.toInt = -1) ∧ (r, σ') = F_X11_back X σ a ∧ q_ow [(1, 4), (1, 5), (1, 6), (1, 7), (3, 0), (3, 1), (6, 0), (6, 1), (6, 2), (6, 3), (6, 4), (8, 0), (8, 1), (8, 2), (11, 0), (11, 11), (20, 99)] [] X σ σ')) 0 0 (q_reg X) := by
  refine q_met 0 (by first | exact rfl | decide +kernel) rfl (Nat.le_of_ble_eq_true rfl) (fun p e s m below meth c E hml hr hlk hI ls hl => ?_)
  have hx := E.1
  have hb := E.2.1
  have hl : lv_has ls 2 [(0, .ref a)] := hl
  have ks_σ : q_KS (fun b g => b = a ∧ g = 11) 8 X σ σ := q_KS.rf
  have fr_σ : q_ow [(1, 4), (1, 5), (1, 6), (1, 7), (3, 0), (3, 1), (6, 0), (6, 1), (6, 2), (6, 3), (6, 4), (8, 0), (8, 1), (8, 2), (11, 0), (11, 11), (20, 99)] [] X σ σ := q_ow.rf
  obtain ⟨out, hout⟩ : ∃ o, o = F_X11_back X σ a := ⟨_, rfl⟩
  have hF := hout.symm
  unfold F_X11_back at hF
  refine lv_aload_n hx hb dX11_back_0 rfl (lv_at hl 0 rfl) ?_
  refine lv_aload_n hx hb dX11_back_1 rfl (lv_at hl 0 rfl) ?_
  refine gs_X11_53_11 E hI ha dX11_back_2 ?_
  refine lv_topi (fun f_1 ef_1 => ?_)
  replace hF := q_letX hF ef_1
  have if_1 : f_1.toInt = (σ.1 a 11).toInt := congrArg Int32.toInt ef_1
  have bf_1 : 0 ≤ f_1.toInt ∧ f_1.toInt ≤ 3 := by rw [ef_1]; exact q_bd hI ha rfl
  refine lv_iconst (v := 1) hx hb dX11_back_5 (by decide) ?_
  refine lv_isub hx hb dX11_back_6 ?_
  refine lv_topi (fun z_2 ez_2 => ?_)
  replace hF := q_letX hF ez_2
  have kc_3 : (1 : Int32).toInt = 1 := rfl
  have iz_2 := q_sub ez_2 (by omega) (by omega)
  refine q_cq (q_runV (As := [.int z_2]) (rest := []) E (hml.trans hl.1.symm) hI (c_X11_markAt l X σ a z_2 ha) kv_X11_420 ha ⟨rfl, by decide⟩ (show vwCl[10]? = some (RX11, TX11, 17) from rfl) rfl ⟨Nat.le_of_ble_eq_true rfl, Nat.le_of_ble_eq_true rfl⟩ ⟨Nat.le_refl _, Nat.le_refl _⟩ rfl (Nat.le_of_ble_eq_true rfl) dX11_back_7) hI (by decide) (fun r_4 σ_5 H locs hpσ_5 hkσ_5 hI => ?_)
  obtain ⟨ahpσ_5, bhpσ_5, chpσ_5⟩ := hpσ_5
  rw [ahpσ_5] at hI
  replace hF := q_letX hF chpσ_5
  rcases r_4 with _ | r_4
  · show W _ _ _ _ _ _ _ _ _ _ _ _ _ _ _ (F0 m (7 + 3) ls [.null])
    replace hF := q_onN hF
    have nq_z_2 := bhpσ_5.2 rfl
    refine lv_astore_nN (lv' := [(1, .null), (0, .ref a)]) hx hb dX11_back_10 rfl hl (by decide) rfl (fun ls hl => ?_)
    refine lv_aload_nN hx hb dX11_back_11 rfl (lv_at hl 0 rfl) ?_
    refine lv_ifnonnullN hx hb dX11_back_12 ?_
    refine lv_aload_n hx hb dX11_back_15 rfl (lv_at hl 1 rfl) ?_
    refine lv_bipush (v := 8) hx hb dX11_back_16 (by decide) ?_
    have kc_6 : (8 : Int32).toInt = 8 := rfl
    refine q_ci (q_runV (As := [.int 8]) (rest := []) E (hml.trans hl.1.symm) hI (c_X11_none l X σ a (8 : Int32) ha) kv_X11_109 ha ⟨rfl, by decide⟩ (show vwCl[10]? = some (RX11, TX11, 17) from rfl) rfl ⟨Nat.le_of_ble_eq_true rfl, Nat.le_of_ble_eq_true rfl⟩ ⟨Nat.le_refl _, Nat.le_refl _⟩ rfl (Nat.le_of_ble_eq_true rfl) dX11_back_18) hI (by decide) (fun r_7 σ_8 H locs hpσ_8 hkσ_8 hI => ?_)
    obtain ⟨ahpσ_8, bhpσ_8, chpσ_8⟩ := hpσ_8
    have fr_σ_8 := fr_σ.call chpσ_8 rfl rfl
    replace hF := q_biX hF bhpσ_8
    have mv11_σ_8 : (σ_8.1 a 11).toInt = (σ.1 a 11).toInt := congrArg Int32.toInt ((q_K.le hkσ_8 (by decide) : q_K 8 X σ σ_8) a 11 (by rw [ha]; decide))
    have ks_σ_8 : q_KS (fun b g => b = a ∧ g = 11) 8 X σ σ_8 := ks_σ.K hkσ_8 (by decide)
    exact q_reti E hr hlk hI ⟨ks_σ_8, (by first | (clear ahpσ_5 bhpσ_5 chpσ_5 kc_6 bhpσ_8 chpσ_8; omega) | omega), (by first | (clear bf_1 ahpσ_5 bhpσ_5 chpσ_5 nq_z_2 kc_6 bhpσ_8 chpσ_8; omega) | omega), (hF.trans hout), fr_σ_8⟩ dX11_back_21
  · show W _ _ _ _ _ _ _ _ _ _ _ _ _ _ _ (F0 m (7 + 3) ls [.ref r_4])
    replace hF := q_onS hF
    obtain ⟨kq_r_4, lo_r_4, hi_r_4⟩ := bhpσ_5.1 _ rfl
    refine lv_astore_n (lv' := [(1, .ref r_4), (0, .ref a)]) hx hb dX11_back_10 rfl hl (by decide) rfl (fun ls hl => ?_)
    refine lv_aload_n hx hb dX11_back_11 rfl (lv_at hl 0 rfl) ?_
    refine lv_ifnonnull (tgt := 22) hx hb dX11_back_12 (by decide) ?_
    refine lv_aload_n hx hb dX11_back_22 rfl (lv_at hl 1 rfl) ?_
    refine gs_X11_42_11 E hI ha dX11_back_23 ?_
    refine lv_aload_n hx hb dX11_back_26 rfl (lv_at hl 0 rfl) ?_
    refine q_cv (q_runV (As := [.ref r_4]) (rest := []) E (hml.trans hl.1.symm) hI (c_X0_copyFrom l X σ (q_rf X a 8) r_4 (q_tk (k' := 1) hI ha rfl (by decide)) kq_r_4) kv_X11_144 (q_tk (k' := 1) hI ha rfl (by decide)) ⟨rfl, by decide⟩ (show vwCl[0]? = some (RX0, TX0, 15) from rfl) rfl ⟨Nat.le_of_ble_eq_true rfl, Nat.le_of_ble_eq_true rfl⟩ ⟨Nat.le_refl _, Nat.le_refl _⟩ rfl (Nat.le_of_ble_eq_true rfl) dX11_back_27) hI (by decide) (fun σ_10 H locs hpσ_10 hkσ_10 hI => ?_)
    obtain ⟨ahpσ_10, bhpσ_10⟩ := hpσ_10
    have fr_σ_10 := fr_σ.call bhpσ_10 rfl rfl
    replace hF := q_letX hF ahpσ_10
    have mv11_σ_10 : (σ_10.1 a 11).toInt = (σ.1 a 11).toInt := congrArg Int32.toInt ((q_K.le hkσ_10 (by decide) : q_K 8 X σ σ_10) a 11 (by rw [ha]; decide))
    have ks_σ_10 : q_KS (fun b g => b = a ∧ g = 11) 8 X σ σ_10 := ks_σ.K hkσ_10 (by decide)
    refine lv_aload_n hx hb dX11_back_30 rfl (lv_at hl 1 rfl) ?_
    refine lv_dup hx hb dX11_back_31 rfl ?_
    refine gs_X11_53_11 E hI ha dX11_back_32 ?_
    refine lv_topi (fun f_11 ef_11 => ?_)
    replace hF := q_letX hF ef_11
    have if_11 : f_11.toInt = (σ_10.1 a 11).toInt := congrArg Int32.toInt ef_11
    have bf_11 : 0 ≤ f_11.toInt ∧ f_11.toInt ≤ 3 := by rw [ef_11]; exact q_bd hI ha rfl
    refine lv_iconst (v := 1) hx hb dX11_back_35 (by decide) ?_
    refine lv_isub hx hb dX11_back_36 ?_
    refine lv_topi (fun z_12 ez_12 => ?_)
    replace hF := q_letX hF ez_12
    have kc_13 : (1 : Int32).toInt = 1 := rfl
    have iz_12 := q_sub ez_12 (by first | (clear ahpσ_5 bhpσ_5 chpσ_5 hi_r_4 ahpσ_10 bhpσ_10 bf_11 kc_13; omega) | omega) (by first | (clear ahpσ_5 bhpσ_5 chpσ_5 hi_r_4 ahpσ_10 bhpσ_10 bf_11 kc_13; omega) | omega)
    refine ps_X11_53_11 E hI ha (by decide) (by first | (clear ahpσ_5 bhpσ_5 chpσ_5 hi_r_4 ahpσ_10 bhpσ_10 bf_11 kc_13; omega) | omega) (by first | (clear ahpσ_5 bhpσ_5 chpσ_5 hi_r_4 ahpσ_10 bhpσ_10 bf_11 kc_13; omega) | omega) dX11_back_37 (fun H locs σ_14 hσ_14 hI => ?_)
    replace hF := q_letX hF hσ_14
    have fr_σ_14 := fr_σ_10.si hσ_14 ha rfl
    have ks_σ_14 : q_KS (fun b g => b = a ∧ g = 11) 8 X σ σ_14 := ks_σ_10.siS hσ_14 ⟨rfl, rfl⟩
    have mv11_σ_14 : (σ_14.1 a 11).toInt = z_12.toInt := congrArg Int32.toInt (q_rd hσ_14)
    refine lv_aload_n hx hb dX11_back_40 rfl (lv_at hl 1 rfl) ?_
    refine lv_aload_n hx hb dX11_back_41 rfl (lv_at hl 1 rfl) ?_
    refine gs_X11_53_11 E hI ha dX11_back_42 ?_
    refine lv_topi (fun f_15 ef_15 => ?_)
    replace hF := q_letX hF ef_15
    have if_15 : f_15.toInt = (σ_14.1 a 11).toInt := congrArg Int32.toInt ef_15
    have bf_15 : 0 ≤ f_15.toInt ∧ f_15.toInt ≤ 3 := by rw [ef_15]; exact q_bd hI ha rfl
    refine q_ci (q_runV (As := [.int f_15]) (rest := []) E (hml.trans hl.1.symm) hI (c_X11_good l X σ_14 a f_15 ha) kv_X11_156 ha ⟨rfl, by decide⟩ (show vwCl[10]? = some (RX11, TX11, 17) from rfl) rfl ⟨Nat.le_of_ble_eq_true rfl, Nat.le_of_ble_eq_true rfl⟩ ⟨Nat.le_refl _, Nat.le_refl _⟩ rfl (Nat.le_of_ble_eq_true rfl) dX11_back_45) hI (by decide) (fun r_16 σ_17 H locs hpσ_17 hkσ_17 hI => ?_)
    obtain ⟨ahpσ_17, bhpσ_17, chpσ_17⟩ := hpσ_17
    have fr_σ_17 := fr_σ_14.call chpσ_17 rfl rfl
    replace hF := q_biX hF bhpσ_17
    have mv11_σ_17 : (σ_17.1 a 11).toInt = (σ_14.1 a 11).toInt := congrArg Int32.toInt ((q_K.le hkσ_17 (by decide) : q_K 8 X σ_14 σ_17) a 11 (by rw [ha]; decide))
    have ks_σ_17 : q_KS (fun b g => b = a ∧ g = 11) 8 X σ σ_17 := ks_σ_14.K hkσ_17 (by decide)
    exact q_reti E hr hlk hI ⟨ks_σ_17, (by first | (clear bf_1 ahpσ_5 bhpσ_5 chpσ_5 lo_r_4 hi_r_4 ahpσ_10 bhpσ_10 bf_11 kc_13 bf_15 bhpσ_17 chpσ_17; omega) | omega), (by first | (clear ahpσ_5 bhpσ_5 chpσ_5 hi_r_4 ahpσ_10 bhpσ_10 bf_11 kc_13 bf_15 bhpσ_17 chpσ_17; omega) | omega), (hF.trans hout), fr_σ_17⟩ dX11_back_48
end
/-! FROM 20.num.lean.txt -/
section
theorem q_addI {x y z : Int32} {A B : Int} (e : z = x + y) (ea : x.toInt = A) (eb : y.toInt = B) (h1 : -2147483648 ≤ A + B) (h2 : A + B ≤ 2147483647) : z.toInt = A + B := by
  subst ea; subst eb; exact q_add e h1 h2
theorem q_subI {x y z : Int32} {A B : Int} (e : z = x - y) (ea : x.toInt = A) (eb : y.toInt = B) (h1 : -2147483648 ≤ A - B) (h2 : A - B ≤ 2147483647) : z.toInt = A - B := by
  subst ea; subst eb; exact q_sub e h1 h2
theorem q_mulI {x y z : Int32} {A B : Int} (e : z = x * y) (ea : x.toInt = A) (eb : y.toInt = B) (h1 : -2147483648 ≤ A * B) (h2 : A * B ≤ 2147483647) : z.toInt = A * B := by
  subst ea; subst eb; exact q_mul e h1 h2
theorem q_addJ {x y z : Int64} {A B : Int} (e : z = x + y) (ea : x.toInt = A) (eb : y.toInt = B) (h1 : -9223372036854775808 ≤ A + B) (h2 : A + B ≤ 9223372036854775807) : z.toInt = A + B := by
  subst ea; subst eb
  rw [e, Int64.toInt_add]
  exact Int.bmod_eq_of_le (by omega) (by omega)
theorem q_subJ {x y z : Int64} {A B : Int} (e : z = x - y) (ea : x.toInt = A) (eb : y.toInt = B) (h1 : -9223372036854775808 ≤ A - B) (h2 : A - B ≤ 9223372036854775807) : z.toInt = A - B := by
  subst ea; subst eb
  rw [e, Int64.toInt_sub]
  exact Int.bmod_eq_of_le (by omega) (by omega)
theorem q_mulJ {x y z : Int64} {A B : Int} (e : z = x * y) (ea : x.toInt = A) (eb : y.toInt = B) (h1 : -9223372036854775808 ≤ A * B) (h2 : A * B ≤ 9223372036854775807) : z.toInt = A * B := by
  subst ea; subst eb
  rw [e, Int64.toInt_mul]
  exact Int.bmod_eq_of_le (by omega) (by omega)
/-- the model's table -/
def m_c (X : XW) (σ : ST) (a : Nat) (j : Int) : Int := (σ.1 (q_rf X a 20) j.toNat).toInt
/-- a byte of the model's tape -/
def m_look (X : XW) (σ : ST) (a : Nat) (p : Int) : Int := if p < (σ.1 a 9).toInt then ((σ.1 (q_rf X a 7) p.toNat) &&& 255).toInt else 0
theorem m_k30 {n : Nat} {X : XW} {σ σ' : ST} {a : Nat} (h : q_K n X σ σ') (hT : q_T X) (ha : q_kd X a = 12) (hn : 1 ≤ n) (j : Nat) : (σ'.1 (q_rf X a 4) j).toInt = (σ.1 (q_rf X a 4) j).toInt := by
  have hk : q_kd X (q_rf X a 4) = 30 := (hT.1 a 4 (by rw [ha]; decide)).trans (by rw [ha]; rfl)
  exact congrArg Int32.toInt (h _ j (by rw [hk]; exact hn))
theorem m_k31 {n : Nat} {X : XW} {σ σ' : ST} {a : Nat} (h : q_K n X σ σ') (hT : q_T X) (ha : q_kd X a = 12) (hn : 1 ≤ n) (j : Nat) : (σ'.1 (q_rf X a 5) j).toInt = (σ.1 (q_rf X a 5) j).toInt := by
  have hk : q_kd X (q_rf X a 5) = 31 := (hT.1 a 5 (by rw [ha]; decide)).trans (by rw [ha]; rfl)
  exact congrArg Int32.toInt (h _ j (by rw [hk]; exact hn))
theorem m_cK {n : Nat} {X : XW} {σ σ' : ST} {a : Nat} (h : q_K n X σ σ') (hT : q_T X) (ha : q_kd X a = 12) (hn : 2 ≤ n) (j : Int) : m_c X σ' a j = m_c X σ a j := by
  have hk : q_kd X (q_rf X a 20) = 34 := (hT.1 a 20 (by rw [ha]; decide)).trans (by rw [ha]; rfl)
  exact congrArg Int32.toInt (h _ _ (by rw [hk]; exact hn))
theorem m_ne {X : XW} {a b k k' : Nat} (ha : q_kd X a = k) (hb : q_kd X b = k') (h : k ≠ k') : a ≠ b := by
  rintro rfl
  exact h (ha.symm.trans hb)
theorem q_cl9 (k f : Nat) : q_cl k f ≤ 9 := by
  unfold q_cl
  split
  all_goals first | (split <;> decide) | decide
theorem m_lookK {X : XW} {σ σ' : ST} {a : Nat} {S : Nat → Nat → Prop} (h : q_KS S 9 X σ σ') (hT : q_T X) (ha : q_kd X a = 12) (hS : ∀ b g, S b g → b = a ∧ g ≠ 9) (p : Int) : m_look X σ' a p = m_look X σ a p := by
  have hk : q_kd X (q_rf X a 7) = 33 := (hT.1 a 7 (by rw [ha]; decide)).trans (by rw [ha]; rfl)
  unfold m_look
  rw [h a 9 (q_cl9 _ _) (fun z => (hS _ _ z).2 rfl), h (q_rf X a 7) p.toNat (q_cl9 _ _) (fun z => m_ne hk ha (by decide) (hS _ _ z).1)]
theorem q_KS.to {S : Nat → Nat → Prop} {n n' : Nat} {X : XW} {σ σ' : ST} (h : q_KS S n X σ σ') (hn : n' ≤ n) : q_KS S n' X σ σ' := fun b g q hs => h b g (Nat.le_trans q hn) hs
theorem m_and255 (x : Int32) : 0 ≤ (x &&& 255).toInt ∧ (x &&& 255).toInt ≤ 255 := by
  have h : (x &&& 255) = (x.toUInt32 &&& 255).toInt32 := rfl
  have h2 : (x.toUInt32 &&& 255).toNat ≤ 255 := by
    rw [UInt32.toNat_and]
    exact Nat.and_le_right
  have h3 : ((x.toUInt32 &&& 255).toInt32).toInt = ((x.toUInt32 &&& 255).toNat : Int) := by
    show ((x.toUInt32 &&& 255).toBitVec).toInt = _
    rw [BitVec.toInt_eq_toNat_of_lt (by show 2 * (x.toUInt32 &&& 255).toNat < _; omega)]
    rfl
  rw [h, h3]
  omega
end
/-! FROM 21.table.lean.txt -/
section
theorem m_rd {X : XW} {σ : ST} {a : Nat} {i z : Int32} {A : Int} (e : z = σ.1 (q_rf X a 20) i.toNatClampNeg) (h : i.toInt = A) : z.toInt = m_c X σ a A := by
  subst h
  exact congrArg Int32.toInt e
theorem m_wr {X : XW} {σ σ' : ST} {a : Nat} {i v : Int32} {A : Int} (e : σ' = q_si σ (q_rf X a 20) i.toNatClampNeg v) (h : i.toInt = A) (h0 : 0 ≤ A) : ∀ j : Int, 0 ≤ j → m_c X σ' a j = if j = A then v.toInt else m_c X σ a j := by
  subst h
  intro j hj
  unfold m_c
  by_cases q : j = i.toInt
  · subst q
    rw [if_pos rfl]
    exact congrArg Int32.toInt (q_rd e)
  · rw [if_neg q]
    refine congrArg Int32.toInt (q_rdn e (Or.inr ?_))
    show j.toNat ≠ i.toInt.toNat
    omega
theorem m_wo {X : XW} {σ σ' : ST} {a b f : Nat} {v : Int32} (e : σ' = q_si σ b f v) (h : b ≠ q_rf X a 20) (j : Int) : m_c X σ' a j = m_c X σ a j := congrArg Int32.toInt (q_rdn e (Or.inl (Ne.symm h)))
theorem m_wl {X : XW} {σ σ' : ST} {b f : Nat} {v : Int64} (e : σ' = q_sl σ b f v) (a : Nat) (j : Int) : m_c X σ' a j = m_c X σ a j := congrArg Int32.toInt (q_rdl e)
end
/-! FROM 22.game.lean.txt -/
section
/-! the model's game: what its table, hands, heap and steps are between two calls -/
/-- the sum of n cells from b on -/
def m_S (c : Int → Int) (b : Int) : Nat → Int
  | 0 => 0
  | n + 1 => m_S c b n + c (b + (n : Int))
/-- how many cards the first n layings have -/
def m_L (c : Int → Int) : Nat → Int
  | 0 => 0
  | n + 1 => m_L c n + c (94 + 7 * (n : Int) + 2)
theorem m_S_ext {c c' : Int → Int} {b : Int} {n : Nat} (h : ∀ j : Int, b ≤ j → j < b + (n : Int) → c' j = c j) : m_S c' b n = m_S c b n := by
  induction n with
  | zero => rfl
  | succ n ih =>
    show m_S c' b n + c' (b + (n : Int)) = m_S c b n + c (b + (n : Int))
    rw [ih (fun j h1 h2 => h j h1 (by omega)), h _ (by omega) (by omega)]
theorem m_L_ext {c c' : Int → Int} {n : Nat} (h : ∀ i : Int, 0 ≤ i → i < (n : Int) → c' (94 + 7 * i + 2) = c (94 + 7 * i + 2)) : m_L c' n = m_L c n := by
  induction n with
  | zero => rfl
  | succ n ih =>
    show m_L c' n + c' (94 + 7 * (n : Int) + 2) = m_L c n + c (94 + 7 * (n : Int) + 2)
    rw [ih (fun j h1 h2 => h j h1 (by omega)), h _ (by omega) (by omega)]
theorem m_S_succ (c : Int → Int) (b k : Int) (h : 0 ≤ k) : m_S c b (k + 1).toNat = m_S c b k.toNat + c (b + k) := by
  have e : (k + 1).toNat = k.toNat + 1 := by omega
  have e2 : (k.toNat : Int) = k := by omega
  rw [e]
  show m_S c b k.toNat + c (b + (k.toNat : Int)) = _
  rw [e2]
theorem m_L_succ (c : Int → Int) (k : Int) (h : 0 ≤ k) : m_L c (k + 1).toNat = m_L c k.toNat + c (94 + 7 * k + 2) := by
  have e : (k + 1).toNat = k.toNat + 1 := by omega
  have e2 : (k.toNat : Int) = k := by omega
  rw [e]
  show m_L c k.toNat + c (94 + 7 * (k.toNat : Int) + 2) = _
  rw [e2]
theorem m_S_add (c : Int → Int) (b : Int) (m n : Nat) : m_S c b (m + n) = m_S c b m + m_S c (b + (m : Int)) n := by
  induction n with
  | zero => show m_S c b m = m_S c b m + 0; omega
  | succ n ih =>
    show m_S c b (m + n) + c (b + ((m + n : Nat) : Int)) = m_S c b m + (m_S c (b + (m : Int)) n + c (b + (m : Int) + (n : Int)))
    have e : b + ((m + n : Nat) : Int) = b + (m : Int) + (n : Int) := by omega
    rw [ih, e]
    omega
theorem m_S_nn {c : Int → Int} {b : Int} {n : Nat} (h : ∀ j : Int, b ≤ j → j < b + (n : Int) → 0 ≤ c j) : 0 ≤ m_S c b n := by
  induction n with
  | zero => exact Int.le_refl _
  | succ n ih =>
    have h1 := ih (fun j a b => h j a (by omega))
    have h2 := h (b + (n : Int)) (by omega) (by omega)
    show 0 ≤ m_S c b n + c (b + (n : Int))
    omega
/-- six hands -/
theorem m_S_6 (c : Int → Int) : m_S c 34 60 = m_S c 34 10 + m_S c 44 10 + m_S c 54 10 + m_S c 64 10 + m_S c 74 10 + m_S c 84 10 := by
  have h1 : m_S c 34 60 = m_S c 34 50 + m_S c (34 + ((50 : Nat) : Int)) 10 := m_S_add c 34 50 10
  have h2 : m_S c 34 50 = m_S c 34 40 + m_S c (34 + ((40 : Nat) : Int)) 10 := m_S_add c 34 40 10
  have h3 : m_S c 34 40 = m_S c 34 30 + m_S c (34 + ((30 : Nat) : Int)) 10 := m_S_add c 34 30 10
  have h4 : m_S c 34 30 = m_S c 34 20 + m_S c (34 + ((20 : Nat) : Int)) 10 := m_S_add c 34 20 10
  have h5 : m_S c 34 20 = m_S c 34 10 + m_S c (34 + ((10 : Nat) : Int)) 10 := m_S_add c 34 10 10
  have f : ∀ i j : Int, i = j → m_S c i 10 = m_S c j 10 := fun i j h => by rw [h]
  rw [f (34 + ((50 : Nat) : Int)) 84 (by omega)] at h1
  rw [f (34 + ((40 : Nat) : Int)) 74 (by omega)] at h2
  rw [f (34 + ((30 : Nat) : Int)) 64 (by omega)] at h3
  rw [f (34 + ((20 : Nat) : Int)) 54 (by omega)] at h4
  rw [f (34 + ((10 : Nat) : Int)) 44 (by omega)] at h5
  omega
/-- one hand changed -/
theorem m_S_hand {c c' : Int → Int} {p : Int} (hp : 0 ≤ p ∧ p < 6) (h : ∀ j : Int, 34 ≤ j → j < 94 → ¬ (34 + 10 * p ≤ j ∧ j < 44 + 10 * p) → c' j = c j) : m_S c' 34 60 - m_S c 34 60 = m_S c' (34 + 10 * p) 10 - m_S c (34 + 10 * p) 10 := by
  have e : ∀ q : Int, 0 ≤ q → q < 6 → q ≠ p → m_S c' (34 + 10 * q) 10 = m_S c (34 + 10 * q) 10 := fun q h0 h1 h2 => m_S_ext (fun j a b => h j (by omega) (by omega) (by omega))
  rw [m_S_6 c', m_S_6 c]
  have a0 := e 0 (by decide) (by decide)
  have a1 := e 1 (by decide) (by decide)
  have a2 := e 2 (by decide) (by decide)
  have a3 := e 3 (by decide) (by decide)
  have a4 := e 4 (by decide) (by decide)
  have a5 := e 5 (by decide) (by decide)
  have hc : p = 0 ∨ p = 1 ∨ p = 2 ∨ p = 3 ∨ p = 4 ∨ p = 5 := by omega
  rcases hc with rfl | rfl | rfl | rfl | rfl | rfl
  · have b1 := a1 (by decide); have b2 := a2 (by decide); have b3 := a3 (by decide); have b4 := a4 (by decide); have b5 := a5 (by decide)
    simp only [Int.reduceMul, Int.reduceAdd] at b1 b2 b3 b4 b5 ⊢
    omega
  · have b0 := a0 (by decide); have b2 := a2 (by decide); have b3 := a3 (by decide); have b4 := a4 (by decide); have b5 := a5 (by decide)
    simp only [Int.reduceMul, Int.reduceAdd] at b0 b2 b3 b4 b5 ⊢
    omega
  · have b1 := a1 (by decide); have b0 := a0 (by decide); have b3 := a3 (by decide); have b4 := a4 (by decide); have b5 := a5 (by decide)
    simp only [Int.reduceMul, Int.reduceAdd] at b1 b0 b3 b4 b5 ⊢
    omega
  · have b1 := a1 (by decide); have b2 := a2 (by decide); have b0 := a0 (by decide); have b4 := a4 (by decide); have b5 := a5 (by decide)
    simp only [Int.reduceMul, Int.reduceAdd] at b1 b2 b0 b4 b5 ⊢
    omega
  · have b1 := a1 (by decide); have b2 := a2 (by decide); have b3 := a3 (by decide); have b0 := a0 (by decide); have b5 := a5 (by decide)
    simp only [Int.reduceMul, Int.reduceAdd] at b1 b2 b3 b0 b5 ⊢
    omega
  · have b1 := a1 (by decide); have b2 := a2 (by decide); have b3 := a3 (by decide); have b4 := a4 (by decide); have b0 := a0 (by decide)
    simp only [Int.reduceMul, Int.reduceAdd] at b1 b2 b3 b4 b0 ⊢
    omega
/-- a cell of the sum written -/
theorem m_S_upd {c c' : Int → Int} {b A v : Int} {n : Nat} (e : ∀ j : Int, b ≤ j → j < b + (n : Int) → c' j = if j = A then v else c j) (h0 : b ≤ A) (h1 : A < b + (n : Int)) : m_S c' b n = m_S c b n + (v - c A) := by
  induction n with
  | zero => omega
  | succ n ih =>
    show m_S c' b n + c' (b + (n : Int)) = m_S c b n + c (b + (n : Int)) + (v - c A)
    by_cases q : A = b + (n : Int)
    · rw [m_S_ext (c := c) (fun j a1 a2 => by rw [e j a1 (by omega), if_neg (by omega)]), e (b + (n : Int)) (by omega) (by omega), if_pos q.symm, q]
      omega
    · rw [ih (fun j a1 a2 => e j a1 (by omega)) (by omega), e (b + (n : Int)) (by omega) (by omega), if_neg (by omega)]
      omega
def m_H (c : Int → Int) : Prop := (2 ≤ c 0 ∧ c 0 ≤ 10) ∧ (0 ≤ c 2 ∧ c 2 ≤ 6) ∧ (1 ≤ c 4 ∧ c 4 ≤ 4) ∧ (0 ≤ c 5 ∧ c 5 < c 0) ∧ (-1 ≤ c 6 ∧ c 6 < c 2 ∧ c 2 ≤ 6 * (c 6 + 1)) ∧ (0 ≤ c 7 ∧ c 7 ≤ 1) ∧ (0 ≤ c 9 ∧ c 9 ≤ 80) ∧ (c 7 ≤ c 9 ∧ c 7 ≤ c 6 + 1)
def m_D (c : Int → Int) : Prop := ∀ p k : Int, 0 ≤ p → p < 6 → 0 ≤ k → k < 10 → 0 ≤ c (34 + 10 * p + k) ∧ (c 0 ≤ k → c (34 + 10 * p + k) = 0)
def m_Y (c : Int → Int) : Prop := ∀ i : Int, 0 ≤ i → i < c 9 → (1 ≤ c (94 + 7 * i + 2) ∧ c (94 + 7 * i + 2) ≤ 4) ∧ ∀ t : Int, 0 ≤ t → t < c (94 + 7 * i + 2) → 0 ≤ c (94 + 7 * i + 3 + t) ∧ c (94 + 7 * i + 3 + t) < c 0
def m_T (c : Int → Int) : Prop := m_S c 34 60 + m_L c (c 9).toNat ≤ 80
def m_O (c : Int → Int) : Prop := c 7 = 1 → c (94 + 7 * (c 9 - 1)) = c 6
/-- a step of a round, at place w, of number s, of e -/
def m_stp (c : Int → Int) (w s e : Int) : Prop := (0 ≤ c w ∧ c w ≤ 5) ∧ ((c w = 1 ∨ c w = 2 ∨ (c w = 3 ∧ (c (w + 6) = 0 ∨ c (w + 6) = 2))) → 0 ≤ c (w + 1) ∧ c (w + 1) ≤ 5) ∧ (c w = 3 → 0 ≤ c (w + 6) ∧ c (w + 6) ≤ 3) ∧ (s < c (w + 8) ∧ c (w + 8) ≤ e)
def m_Q (c : Int → Int) : Prop := (0 ≤ c 655 ∧ c 655 ≤ 30) ∧ ∀ s : Int, 0 ≤ s → s < c 655 → m_stp c (656 + 9 * s) s (c 655)
def m_W (c : Int → Int) (n : Int) : Prop := ∀ q : Int, 0 ≤ q → q < 6 → 0 ≤ c (28 + q) ∧ c (28 + q) ≤ c (22 + q) ∧ c (22 + q) ≤ n
def m_G (c : Int → Int) : Prop := m_H c ∧ m_D c ∧ m_Y c ∧ m_T c ∧ m_O c ∧ m_Q c
theorem m_stp.ext {c c' : Int → Int} {w s e : Int} (h : m_stp c w s e) (q : ∀ j : Int, w ≤ j → j < w + 9 → c' j = c j) : m_stp c' w s e := by
  unfold m_stp at h ⊢
  rw [q w (by omega) (by omega), q (w + 1) (by omega) (by omega), q (w + 6) (by omega) (by omega), q (w + 8) (by omega) (by omega)]
  exact h
theorem m_W.ext {c c' : Int → Int} {n : Int} (q : ∀ j : Int, 22 ≤ j → j < 34 → c' j = c j) (h : m_W c n) : m_W c' n := by
  intro p h0 h1
  rw [q (28 + p) (by omega) (by omega), q (22 + p) (by omega) (by omega)]
  exact h p h0 h1
theorem m_W.le {c : Int → Int} {n n' : Int} (h : m_W c n) (hn : n ≤ n') : m_W c n' := fun p h0 h1 => by have := h p h0 h1; omega
theorem m_G.ext {c c' : Int → Int} (q : ∀ j : Int, 0 ≤ j → j < 930 → c' j = c j) (h : m_G c) : m_G c' := by
  obtain ⟨hH, hD, hY, hT, hO, hQ⟩ := h
  have b9 : 0 ≤ c 9 ∧ c 9 ≤ 80 := hH.2.2.2.2.2.2.1
  have b5 : 0 ≤ c 655 ∧ c 655 ≤ 30 := hQ.1
  have e9 : c' 9 = c 9 := q 9 (by decide) (by decide)
  have e0 : c' 0 = c 0 := q 0 (by decide) (by decide)
  refine ⟨?_, ?_, ?_, ?_, ?_, ?_⟩
  · unfold m_H at hH ⊢
    rw [q 0 (by decide) (by decide), q 2 (by decide) (by decide), q 4 (by decide) (by decide), q 5 (by decide) (by decide), q 6 (by decide) (by decide), q 7 (by decide) (by decide), q 9 (by decide) (by decide)]
    exact hH
  · intro p k h0 h1 h2 h3
    rw [q _ (by omega) (by omega), e0]
    exact hD p k h0 h1 h2 h3
  · intro i h0 h1
    rw [e9] at h1
    have w := hY i h0 h1
    rw [q (94 + 7 * i + 2) (by omega) (by omega)]
    refine ⟨w.1, fun t t0 t1 => ?_⟩
    rw [q (94 + 7 * i + 3 + t) (by omega) (by omega), e0]
    exact w.2 t t0 t1
  · unfold m_T at hT ⊢
    rw [m_S_ext (fun j a b => q j (by omega) (by omega)), e9, m_L_ext (fun i a b => q _ (by omega) (by omega))]
    exact hT
  · intro h7
    rw [q 7 (by decide) (by decide)] at h7
    have h8 : 1 ≤ c 9 := by have := hH.2.2.2.2.2.2.2.1; omega
    rw [e9, q (94 + 7 * (c 9 - 1)) (by omega) (by omega), q 6 (by decide) (by decide)]
    exact hO h7
  · have e5 : c' 655 = c 655 := q 655 (by decide) (by decide)
    refine ⟨by rw [e5]; exact b5, fun s h0 h1 => ?_⟩
    rw [e5] at h1 ⊢
    exact (hQ.2 s h0 h1).ext (fun j a b => q j (by omega) (by omega))
/-- a cell of the head, or of those that say how they lie and doubt -/
theorem m_G.wr {c c' : Int → Int} {A v : Int} (h : m_G c) (e : ∀ j : Int, 0 ≤ j → c' j = if j = A then v else c j) (hA : A = 7 ∧ v = 0 ∨ A = 8 ∨ 10 ≤ A ∧ A < 34 ∨ A = 5 ∧ 0 ≤ v ∧ v < c 0 ∨ A = 6 ∧ 0 ≤ v ∧ v < c 2 ∧ c 7 = 0 ∨ A = 654 ∨ 930 ≤ A) : m_G c' := by
  obtain ⟨hH, hD, hY, hT, hO, hQ⟩ := h
  have q : ∀ j : Int, 0 ≤ j → j ≠ A → c' j = c j := fun j hj hn => by rw [e j hj, if_neg hn]
  have s : ∀ j : Int, 0 ≤ j → j = A → c' j = v := fun j hj hn => by rw [e j hj, if_pos hn]
  have b9 : 0 ≤ c 9 ∧ c 9 ≤ 80 := hH.2.2.2.2.2.2.1
  have b5 : 0 ≤ c 655 ∧ c 655 ≤ 30 := hQ.1
  have e9 : c' 9 = c 9 := q 9 (by decide) (by omega)
  have e0 : c' 0 = c 0 := q 0 (by decide) (by omega)
  have e2 : c' 2 = c 2 := q 2 (by decide) (by omega)
  have e4 : c' 4 = c 4 := q 4 (by decide) (by omega)
  refine ⟨?_, ?_, ?_, ?_, ?_, ?_⟩
  · unfold m_H at hH ⊢
    have r5 : c' 5 = c 5 ∨ (A = 5 ∧ c' 5 = v) := by
      by_cases w : 5 = A
      · exact Or.inr ⟨w.symm, s 5 (by decide) w⟩
      · exact Or.inl (q 5 (by decide) w)
    have r6 : c' 6 = c 6 ∨ (A = 6 ∧ c' 6 = v) := by
      by_cases w : 6 = A
      · exact Or.inr ⟨w.symm, s 6 (by decide) w⟩
      · exact Or.inl (q 6 (by decide) w)
    have r7 : (A ≠ 7 ∧ c' 7 = c 7) ∨ (A = 7 ∧ c' 7 = v) := by
      by_cases w : 7 = A
      · exact Or.inr ⟨w.symm, s 7 (by decide) w⟩
      · exact Or.inl ⟨fun z => w z.symm, q 7 (by decide) w⟩
    rw [e0, e2, e4, e9]
    omega
  · intro p k h0 h1 h2 h3
    rw [q _ (by omega) (by omega), e0]
    exact hD p k h0 h1 h2 h3
  · intro i h0 h1
    rw [e9] at h1
    have w := hY i h0 h1
    rw [q (94 + 7 * i + 2) (by omega) (by omega)]
    refine ⟨w.1, fun t t0 t1 => ?_⟩
    rw [q (94 + 7 * i + 3 + t) (by omega) (by omega), e0]
    exact w.2 t t0 t1
  · unfold m_T at hT ⊢
    rw [m_S_ext (fun j a b => q j (by omega) (by omega)), e9, m_L_ext (fun i a b => q _ (by omega) (by omega))]
    exact hT
  · intro h7
    have h8 := hH.2.2.2.2.2.2.2.1
    by_cases w7 : 7 = A
    · have := s 7 (by decide) w7
      omega
    · rw [q 7 (by decide) w7] at h7
      rw [e9, q (94 + 7 * (c 9 - 1)) (by omega) (by omega), q 6 (by decide) (by omega)]
      exact hO h7
  · have e5 : c' 655 = c 655 := q 655 (by decide) (by omega)
    refine ⟨by rw [e5]; exact b5, fun s h0 h1 => ?_⟩
    rw [e5] at h1 ⊢
    exact (hQ.2 s h0 h1).ext (fun j a b => q j (by omega) (by omega))
theorem m_W.wr {c c' : Int → Int} {A v n : Int} (h : m_W c n) (e : ∀ j : Int, 0 ≤ j → c' j = if j = A then v else c j) (hA : A < 22 ∨ 34 ≤ A) : m_W c' n := m_W.ext (fun j a b => by rw [e j (by omega), if_neg (by omega)]) h
end
/-! FROM 23.sums.lean.txt -/
section
theorem m_G.hd {c : Int → Int} (h : m_G c) : (2 ≤ c 0 ∧ c 0 ≤ 10) ∧ (0 ≤ c 2 ∧ c 2 ≤ 6) ∧ (1 ≤ c 4 ∧ c 4 ≤ 4) ∧ (0 ≤ c 5 ∧ c 5 < c 0) ∧ (-1 ≤ c 6 ∧ c 6 < c 2 ∧ c 2 ≤ 6 * (c 6 + 1)) ∧ (0 ≤ c 7 ∧ c 7 ≤ 1) ∧ (0 ≤ c 9 ∧ c 9 ≤ 80) ∧ (c 7 ≤ c 9 ∧ c 7 ≤ c 6 + 1) := h.1
theorem m_G.hand0 {c : Int → Int} (h : m_G c) {j : Int} (h0 : 34 ≤ j) (h1 : j < 94) : 0 ≤ c j := by
  have e : j = 34 + 10 * ((j - 34) / 10) + (j - 34) % 10 := by omega
  rw [e]
  exact (h.2.1 _ _ (by omega) (by omega) (by omega) (by omega)).1
theorem m_G.L0 {c : Int → Int} (h : m_G c) (n : Nat) (hn : (n : Int) ≤ c 9) : 0 ≤ m_L c n := by
  induction n with
  | zero => exact Int.le_refl _
  | succ n ih =>
    have h1 := ih (by omega)
    have h2 := (h.2.2.1 (n : Int) (by omega) (by omega)).1
    show 0 ≤ m_L c n + c (94 + 7 * (n : Int) + 2)
    omega
/-- the cards of the first layings are no more than all -/
theorem m_G.Lle {c : Int → Int} (h : m_G c) (n : Nat) (hn : (n : Int) ≤ c 9) : (n : Int) ≤ m_L c n ∧ m_L c n ≤ 4 * (n : Int) := by
  induction n with
  | zero => exact ⟨Int.le_refl _, Int.le_refl _⟩
  | succ n ih =>
    have h1 := ih (by omega)
    have h2 := (h.2.2.1 (n : Int) (by omega) (by omega)).1
    show ((n + 1 : Nat) : Int) ≤ m_L c n + c (94 + 7 * (n : Int) + 2) ∧ m_L c n + c (94 + 7 * (n : Int) + 2) ≤ 4 * ((n + 1 : Nat) : Int)
    omega
theorem m_G.Lmono {c : Int → Int} (h : m_G c) (m n : Nat) (hn : ((m + n : Nat) : Int) ≤ c 9) : m_L c m ≤ m_L c (m + n) := by
  induction n with
  | zero => exact Int.le_refl _
  | succ n ih =>
    have h1 := ih (by omega)
    have h2 := (h.2.2.1 ((m + n : Nat) : Int) (by omega) (by omega)).1
    show m_L c m ≤ m_L c (m + n) + c (94 + 7 * ((m + n : Nat) : Int) + 2)
    omega
theorem m_G.Lall {c : Int → Int} (h : m_G c) {k : Int} (h0 : 0 ≤ k) (h1 : k ≤ c 9) : 0 ≤ m_L c k.toNat ∧ m_L c k.toNat ≤ m_L c (c 9).toNat := by
  have b := h.hd.2.2.2.2.2.2.1
  refine ⟨h.L0 _ (by omega), ?_⟩
  have w := h.Lmono k.toNat ((c 9).toNat - k.toNat) (by omega)
  have e : k.toNat + ((c 9).toNat - k.toNat) = (c 9).toNat := by omega
  rw [e] at w
  exact w
theorem m_G.S0 {c : Int → Int} (h : m_G c) : 0 ≤ m_S c 34 60 := m_S_nn (fun _ a b => h.hand0 a (by omega))
theorem m_G.tot {c : Int → Int} (h : m_G c) : m_S c 34 60 + m_L c (c 9).toNat ≤ 80 := h.2.2.2.1
theorem m_G.L80 {c : Int → Int} (h : m_G c) {k : Int} (h0 : 0 ≤ k) (h1 : k ≤ c 9) : 0 ≤ m_L c k.toNat ∧ m_L c k.toNat ≤ 80 := by
  have a := h.Lall h0 h1
  have b := h.tot
  have d := h.S0
  omega
/-- a hand, or its beginning -/
theorem m_G.Shand {c : Int → Int} (h : m_G c) {p : Int} (h0 : 0 ≤ p) (h1 : p < 6) {n : Nat} (hn : n ≤ 10) : 0 ≤ m_S c (34 + 10 * p) n ∧ m_S c (34 + 10 * p) n ≤ m_S c 34 60 := by
  refine ⟨m_S_nn (fun j a b => h.hand0 (by omega) (by omega)), ?_⟩
  have w := m_S_add c 34 ((10 * p).toNat + n) (60 - ((10 * p).toNat + n))
  have e : (10 * p).toNat + n + (60 - ((10 * p).toNat + n)) = 60 := by omega
  rw [e] at w
  have w2 := m_S_add c 34 (10 * p).toNat n
  have e2 : (34 : Int) + ((10 * p).toNat : Int) = 34 + 10 * p := by omega
  rw [e2] at w2
  have z1 : 0 ≤ m_S c 34 (10 * p).toNat := m_S_nn (fun j a b => h.hand0 (by omega) (by omega))
  have z2 : 0 ≤ m_S c (34 + (((10 * p).toNat + n : Nat) : Int)) (60 - ((10 * p).toNat + n)) := m_S_nn (fun j a b => h.hand0 (by omega) (by omega))
  omega
theorem m_G.S80 {c : Int → Int} (h : m_G c) {p k : Int} (h0 : 0 ≤ p) (h1 : p < 6) (k0 : 0 ≤ k) (k1 : k ≤ 10) : 0 ≤ m_S c (34 + 10 * p) k.toNat ∧ m_S c (34 + 10 * p) k.toNat ≤ 80 := by
  have a := h.Shand h0 h1 (n := k.toNat) (by omega)
  have b := h.tot
  have d := h.L80 (k := c 9) h.hd.2.2.2.2.2.2.1.1 (Int.le_refl _)
  omega
theorem m_G.h80 {c : Int → Int} (h : m_G c) {p k : Int} (h0 : 0 ≤ p) (h1 : p < 6) (k0 : 0 ≤ k) (k1 : k < 10) : 0 ≤ c (34 + 10 * p + k) ∧ c (34 + 10 * p + k) ≤ 80 := by
  have a := h.S80 h0 h1 k0 (by omega : k ≤ 10)
  have b := h.S80 h0 h1 (by omega : 0 ≤ k + 1) (by omega : k + 1 ≤ 10)
  rw [m_S_succ _ _ _ k0] at b
  have d := (h.2.1 p k h0 h1 k0 k1).1
  omega
/-- all hands' cards of a kind -/
def m_P (c : Int → Int) (k : Int) : Nat → Int
  | 0 => 0
  | n + 1 => m_P c k n + c (34 + 10 * (n : Int) + k)
theorem m_P_succ (c : Int → Int) (k p : Int) (h : 0 ≤ p) : m_P c k (p + 1).toNat = m_P c k p.toNat + c (34 + 10 * p + k) := by
  have e : (p + 1).toNat = p.toNat + 1 := by omega
  have e2 : (p.toNat : Int) = p := by omega
  rw [e]
  show m_P c k p.toNat + c (34 + 10 * (p.toNat : Int) + k) = _
  rw [e2]
theorem m_S_ge {c : Int → Int} {b A : Int} {n : Nat} (h : ∀ j : Int, b ≤ j → j < b + (n : Int) → 0 ≤ c j) (h0 : b ≤ A) (h1 : A < b + (n : Int)) : c A ≤ m_S c b n := by
  induction n with
  | zero => omega
  | succ n ih =>
    show c A ≤ m_S c b n + c (b + (n : Int))
    have z := m_S_nn (fun j a1 a2 => h j a1 (by omega) : ∀ j : Int, b ≤ j → j < b + (n : Int) → 0 ≤ c j)
    by_cases q : A = b + (n : Int)
    · rw [q]; omega
    · have w := ih (fun j a1 a2 => h j a1 (by omega)) (by omega)
      have z2 := h (b + (n : Int)) (by omega) (by omega)
      omega
theorem m_G.Pbd {c : Int → Int} (h : m_G c) {k : Int} (k0 : 0 ≤ k) (k1 : k < 10) (n : Nat) (hn : n ≤ 6) : 0 ≤ m_P c k n ∧ m_P c k n ≤ m_S c 34 (10 * n) := by
  induction n with
  | zero => exact ⟨Int.le_refl _, Int.le_refl _⟩
  | succ n ih =>
    have a := ih (by omega)
    have e : 10 * (n + 1) = 10 * n + 10 := by omega
    have w := m_S_add c 34 (10 * n) 10
    have e2 : (34 : Int) + ((10 * n : Nat) : Int) = 34 + 10 * (n : Int) := by omega
    rw [← e, e2] at w
    have z := m_S_ge (c := c) (b := 34 + 10 * (n : Int)) (A := 34 + 10 * (n : Int) + k) (n := 10) (fun j a b => h.hand0 (by omega) (by omega)) (by omega) (by omega)
    have d := h.hand0 (j := 34 + 10 * (n : Int) + k) (by omega) (by omega)
    show 0 ≤ m_P c k n + c (34 + 10 * (n : Int) + k) ∧ m_P c k n + c (34 + 10 * (n : Int) + k) ≤ m_S c 34 (10 * (n + 1))
    omega
theorem m_G.Sall {c : Int → Int} (h : m_G c) (n : Nat) (hn : n ≤ 60) : m_S c 34 n ≤ m_S c 34 60 := by
  have w := m_S_add c 34 n (60 - n)
  have e : n + (60 - n) = 60 := by omega
  rw [e] at w
  have z : 0 ≤ m_S c (34 + (n : Int)) (60 - n) := m_S_nn (fun j a b => h.hand0 (by omega) (by omega))
  omega
theorem m_G.Pge {c : Int → Int} (h : m_G c) {k : Int} (k0 : 0 ≤ k) (k1 : k < 10) {p : Int} (p0 : 0 ≤ p) (n : Nat) (hn : n ≤ 6) (p1 : p < (n : Int)) : c (34 + 10 * p + k) ≤ m_P c k n := by
  induction n with
  | zero => omega
  | succ n ih =>
    have z := (h.Pbd k0 k1 n (by omega)).1
    have d := h.hand0 (j := 34 + 10 * (n : Int) + k) (by omega) (by omega)
    show c (34 + 10 * p + k) ≤ m_P c k n + c (34 + 10 * (n : Int) + k)
    by_cases q : p = (n : Int)
    · rw [q]; omega
    · have := ih (by omega) (by omega)
      omega
/-- how many of the first n cards of the laying at w are of a kind (below 0: all) -/
def m_K (c : Int → Int) (w k : Int) : Nat → Int
  | 0 => 0
  | n + 1 => m_K c w k n + (if k < 0 ∨ c (w + 3 + (n : Int)) = k then 1 else 0)
theorem m_K_succ (c : Int → Int) (w k t : Int) (h : 0 ≤ t) : m_K c w k (t + 1).toNat = m_K c w k t.toNat + (if k < 0 ∨ c (w + 3 + t) = k then 1 else 0) := by
  have e : (t + 1).toNat = t.toNat + 1 := by omega
  have e2 : (t.toNat : Int) = t := by omega
  rw [e]
  show m_K c w k t.toNat + (if k < 0 ∨ c (w + 3 + (t.toNat : Int)) = k then 1 else 0) = _
  rw [e2]
theorem m_K_bd (c : Int → Int) (w k : Int) (n : Nat) : 0 ≤ m_K c w k n ∧ m_K c w k n ≤ (n : Int) := by
  induction n with
  | zero => exact ⟨Int.le_refl _, Int.le_refl _⟩
  | succ n ih =>
    show 0 ≤ m_K c w k n + (if k < 0 ∨ c (w + 3 + (n : Int)) = k then 1 else 0) ∧ m_K c w k n + (if k < 0 ∨ c (w + 3 + (n : Int)) = k then 1 else 0) ≤ ((n + 1 : Nat) : Int)
    split <;> omega
/-- how many cards of a kind (below 0: of all) a player (below 0: all) laid in the first n layings -/
def m_A (c : Int → Int) (p k : Int) : Nat → Int
  | 0 => 0
  | n + 1 => m_A c p k n + (if 0 ≤ p ∧ c (94 + 7 * (n : Int)) ≠ p then 0 else m_K c (94 + 7 * (n : Int)) k (c (94 + 7 * (n : Int) + 2)).toNat)
theorem m_A_succ (c : Int → Int) (p k t : Int) (h : 0 ≤ t) : m_A c p k (t + 1).toNat = m_A c p k t.toNat + (if 0 ≤ p ∧ c (94 + 7 * t) ≠ p then 0 else m_K c (94 + 7 * t) k (c (94 + 7 * t + 2)).toNat) := by
  have e : (t + 1).toNat = t.toNat + 1 := by omega
  have e2 : (t.toNat : Int) = t := by omega
  rw [e]
  show m_A c p k t.toNat + (if 0 ≤ p ∧ c (94 + 7 * (t.toNat : Int)) ≠ p then 0 else m_K c (94 + 7 * (t.toNat : Int)) k (c (94 + 7 * (t.toNat : Int) + 2)).toNat) = _
  rw [e2]
theorem m_G.A_bd {c : Int → Int} (h : m_G c) (p k : Int) (n : Nat) (hn : (n : Int) ≤ c 9) : 0 ≤ m_A c p k n ∧ m_A c p k n ≤ m_L c n := by
  induction n with
  | zero => exact ⟨Int.le_refl _, Int.le_refl _⟩
  | succ n ih =>
    have a := ih (by omega)
    have h2 := (h.2.2.1 (n : Int) (by omega) (by omega)).1
    have b := m_K_bd c (94 + 7 * (n : Int)) k (c (94 + 7 * (n : Int) + 2)).toNat
    show 0 ≤ m_A c p k n + (if 0 ≤ p ∧ c (94 + 7 * (n : Int)) ≠ p then 0 else m_K c (94 + 7 * (n : Int)) k (c (94 + 7 * (n : Int) + 2)).toNat) ∧ m_A c p k n + (if 0 ≤ p ∧ c (94 + 7 * (n : Int)) ≠ p then 0 else m_K c (94 + 7 * (n : Int)) k (c (94 + 7 * (n : Int) + 2)).toNat) ≤ m_L c n + c (94 + 7 * (n : Int) + 2)
    split <;> omega
/-- those of one player are among those of all -/
theorem m_A_le (c : Int → Int) (p k : Int) (n : Nat) : m_A c p k n ≤ m_A c (-1) k n := by
  induction n with
  | zero => exact Int.le_refl _
  | succ n ih =>
    have b := m_K_bd c (94 + 7 * (n : Int)) k (c (94 + 7 * (n : Int) + 2)).toNat
    show m_A c p k n + (if 0 ≤ p ∧ c (94 + 7 * (n : Int)) ≠ p then 0 else m_K c (94 + 7 * (n : Int)) k (c (94 + 7 * (n : Int) + 2)).toNat) ≤ m_A c (-1) k n + (if 0 ≤ (-1 : Int) ∧ c (94 + 7 * (n : Int)) ≠ -1 then 0 else m_K c (94 + 7 * (n : Int)) k (c (94 + 7 * (n : Int) + 2)).toNat)
    rw [if_neg (by omega : ¬ (0 ≤ (-1 : Int) ∧ c (94 + 7 * (n : Int)) ≠ -1))]
    split <;> omega
/-- and the last laying is another's -/
theorem m_A_last (c : Int → Int) (p k : Int) (n : Nat) (hp : 0 ≤ p) (h : c (94 + 7 * (n : Int)) ≠ p) : m_A c p k (n + 1) + m_K c (94 + 7 * (n : Int)) k (c (94 + 7 * (n : Int) + 2)).toNat ≤ m_A c (-1) k (n + 1) := by
  have a := m_A_le c p k n
  show m_A c p k n + (if 0 ≤ p ∧ c (94 + 7 * (n : Int)) ≠ p then 0 else m_K c (94 + 7 * (n : Int)) k (c (94 + 7 * (n : Int) + 2)).toNat) + m_K c (94 + 7 * (n : Int)) k (c (94 + 7 * (n : Int) + 2)).toNat ≤ m_A c (-1) k n + (if 0 ≤ (-1 : Int) ∧ c (94 + 7 * (n : Int)) ≠ -1 then 0 else m_K c (94 + 7 * (n : Int)) k (c (94 + 7 * (n : Int) + 2)).toNat)
  rw [if_pos ⟨hp, h⟩, if_neg (by omega : ¬ (0 ≤ (-1 : Int) ∧ c (94 + 7 * (n : Int)) ≠ -1))]
  omega
/-- how many of a kind are in the game; are unknown to a player -/
def m_I (c : Int → Int) (k : Int) : Int := m_A c (-1) k (c 9).toNat + m_P c k (c 2).toNat
def m_U (c : Int → Int) (p k : Int) : Int := m_I c k - (c (34 + 10 * p + k) + m_A c p k (c 9).toNat)
theorem m_G.I_bd {c : Int → Int} (h : m_G c) {k : Int} (k0 : 0 ≤ k) (k1 : k < 10) : 0 ≤ m_I c k ∧ m_I c k ≤ 80 := by
  have b := h.hd
  have a := h.A_bd (-1) k (c 9).toNat (by omega)
  have d := h.Pbd k0 k1 (c 2).toNat (by omega)
  have e := h.Sall (10 * (c 2).toNat) (by omega)
  have f := h.tot
  unfold m_I
  omega
theorem m_G.U_bd {c : Int → Int} (h : m_G c) {p k : Int} (p0 : 0 ≤ p) (p1 : p < c 2) (k0 : 0 ≤ k) (k1 : k < 10) : 0 ≤ m_U c p k ∧ m_U c p k ≤ 80 := by
  have b := h.hd
  have a := h.I_bd k0 k1
  have d := h.Pge k0 k1 p0 (c 2).toNat (by omega) (by omega)
  have e := m_A_le c p k (c 9).toNat
  have f := h.A_bd p k (c 9).toNat (by omega)
  have g := h.hand0 (j := 34 + 10 * p + k) (by omega) (by omega)
  unfold m_U
  unfold m_I at a ⊢
  omega
/-- unknown ones of the first n kinds -/
def m_V (c : Int → Int) (p : Int) : Nat → Int
  | 0 => 0
  | n + 1 => m_V c p n + m_U c p (n : Int)
theorem m_V_succ (c : Int → Int) (p k : Int) (h : 0 ≤ k) : m_V c p (k + 1).toNat = m_V c p k.toNat + m_U c p k := by
  have e : (k + 1).toNat = k.toNat + 1 := by omega
  have e2 : (k.toNat : Int) = k := by omega
  rw [e]
  show m_V c p k.toNat + m_U c p (k.toNat : Int) = _
  rw [e2]
theorem m_G.V_bd {c : Int → Int} (h : m_G c) {p : Int} (p0 : 0 ≤ p) (p1 : p < c 2) (n : Nat) (hn : n ≤ 10) : 0 ≤ m_V c p n ∧ m_V c p n ≤ 80 * (n : Int) := by
  induction n with
  | zero => exact ⟨Int.le_refl _, Int.le_refl _⟩
  | succ n ih =>
    have a := ih (by omega)
    have b := h.U_bd p0 p1 (k := (n : Int)) (by omega) (by omega)
    show 0 ≤ m_V c p n + m_U c p (n : Int) ∧ m_V c p n + m_U c p (n : Int) ≤ 80 * ((n + 1 : Nat) : Int)
    omega
/-- the last laying's cards, kind by kind -/
def m_J (c : Int → Int) (w : Int) (m : Nat) : Nat → Int
  | 0 => 0
  | n + 1 => m_J c w m n + m_K c w (n : Int) m
theorem m_J_succ (c : Int → Int) (w : Int) (m n : Nat) : m_J c w (m + 1) n = m_J c w m n + (if 0 ≤ c (w + 3 + (m : Int)) ∧ c (w + 3 + (m : Int)) < (n : Int) then 1 else 0) := by
  induction n with
  | zero =>
    show (0 : Int) = 0 + (if 0 ≤ c (w + 3 + (m : Int)) ∧ c (w + 3 + (m : Int)) < ((0 : Nat) : Int) then 1 else 0)
    rw [if_neg (by omega)]
    rfl
  | succ n ih =>
    show m_J c w (m + 1) n + (m_K c w (n : Int) m + (if (n : Int) < 0 ∨ c (w + 3 + (m : Int)) = (n : Int) then 1 else 0)) = m_J c w m n + m_K c w (n : Int) m + (if 0 ≤ c (w + 3 + (m : Int)) ∧ c (w + 3 + (m : Int)) < ((n + 1 : Nat) : Int) then 1 else 0)
    rw [ih]
    repeat' split
    all_goals omega
theorem m_J_all {c : Int → Int} {w : Int} {m n : Nat} (h : ∀ t : Int, 0 ≤ t → t < (m : Int) → 0 ≤ c (w + 3 + t) ∧ c (w + 3 + t) < (n : Int)) : m_J c w m n = (m : Int) := by
  induction m with
  | zero =>
    have z : ∀ n : Nat, m_J c w 0 n = 0 := by
      intro n
      induction n with
      | zero => rfl
      | succ n ih => show m_J c w 0 n + 0 = 0; omega
    exact z n
  | succ m ih =>
    rw [m_J_succ, ih (fun t a b => h t a (by omega)), if_pos (h (m : Int) (by omega) (by omega))]
    rfl
/-- all unknown ones are no fewer than an open laying's cards, for another player -/
theorem m_G.V_open {c : Int → Int} (h : m_G c) {p : Int} (p0 : 0 ≤ p) (p1 : p < c 2) (h7 : c 7 = 1) (hp : p ≠ c 6) : 1 ≤ c (94 + 7 * (c 9 - 1) + 2) ∧ c (94 + 7 * (c 9 - 1) + 2) ≤ 4 ∧ c (94 + 7 * (c 9 - 1) + 2) ≤ m_V c p (c 0).toNat := by
  have b := h.hd
  have y := h.2.2.1 (c 9 - 1) (by omega) (by omega)
  have o : c (94 + 7 * (c 9 - 1)) = c 6 := h.2.2.2.2.1 h7
  have e : (((c 9).toNat - 1 : Nat) : Int) = c 9 - 1 := by omega
  have e9 : (c 9).toNat = (c 9).toNat - 1 + 1 := by omega
  have st : ∀ n : Nat, n ≤ 10 → m_J c (94 + 7 * (c 9 - 1)) (c (94 + 7 * (c 9 - 1) + 2)).toNat n ≤ m_V c p n := by
    intro n hn
    induction n with
    | zero => exact Int.le_refl _
    | succ n ih =>
      have a := ih (by omega)
      have z := m_A_last c p (n : Int) ((c 9).toNat - 1) p0 (by rw [e, o]; exact Ne.symm hp)
      rw [← e9, e] at z
      have d := h.Pge (k := (n : Int)) (by omega) (by omega) p0 (c 2).toNat (by omega) (by omega)
      show m_J c (94 + 7 * (c 9 - 1)) (c (94 + 7 * (c 9 - 1) + 2)).toNat n + m_K c (94 + 7 * (c 9 - 1)) (n : Int) (c (94 + 7 * (c 9 - 1) + 2)).toNat ≤ m_V c p n + m_U c p (n : Int)
      have u : m_U c p (n : Int) = m_A c (-1) (n : Int) (c 9).toNat + m_P c (n : Int) (c 2).toNat - (c (34 + 10 * p + (n : Int)) + m_A c p (n : Int) (c 9).toNat) := rfl
      omega
  have w := st (c 0).toNat (by omega)
  rw [m_J_all (fun t a b' => by
    have := y.2 t a (by omega)
    omega)] at w
  omega
end
/-! FROM 24.new.lean.txt -/
section
/-! what the model's new table (its fifth block) is while a text is read -/
def m_sum (c : Int → Int) (b k : Int) : Int := c (b + 34 + k) + c (b + 44 + k) + c (b + 54 + k) + c (b + 64 + k) + c (b + 74 + k) + c (b + 84 + k)
def m_N (c : Int → Int) : Prop :=
  (0 ≤ c 3720 ∧ c 3720 ≤ 10) ∧ (0 ≤ c 3721 ∧ c 3721 ≤ 8) ∧ (0 ≤ c 3722 ∧ c 3722 ≤ 6) ∧ (0 ≤ c 3723 ∧ c 3723 ≤ 2) ∧ (0 ≤ c 3724 ∧ c 3724 ≤ 4) ∧
  (∀ j, 3725 ≤ j → j < 3730 → c j = 0) ∧ (∀ j, 3742 ≤ j → j < 3754 → c j = 0) ∧ (∀ j, 3754 ≤ j → j < 3814 → 0 ≤ c j) ∧ (∀ k, 0 ≤ k → k < 10 → m_sum c 3720 k ≤ 8) ∧ (∀ j, 3814 ≤ j → j < 4650 → c j = 0) ∧ (∀ p k, 0 ≤ p → p < 6 → 0 ≤ k → k < 10 → c 3720 ≤ k → c (3754 + 10 * p + k) = 0)
theorem m_N.ext {c c' : Int → Int} (e : ∀ j, c' j = c j) (h : m_N c) : m_N c' := by
  have : c' = c := funext e
  rw [this]; exact h
/-- a cell written that the new table's hands don't reach -/
theorem m_N.wr {c c' : Int → Int} {A v : Int} (h : m_N c) (e : ∀ j : Int, 0 ≤ j → c' j = if j = A then v else c j) (hA : A = 3721 ∧ 0 ≤ v ∧ v ≤ 8 ∨ A = 3722 ∧ 0 ≤ v ∧ v ≤ 6 ∨ A = 3723 ∧ 0 ≤ v ∧ v ≤ 2 ∨ A = 3724 ∧ 0 ≤ v ∧ v ≤ 4 ∨ 3730 ≤ A ∧ A < 3742) : m_N c' := by
  obtain ⟨h0, h1, h2, h3, h4, h5, h6, h7, h8, h9, h10⟩ := h
  have q : ∀ j : Int, 0 ≤ j → j ≠ A → c' j = c j := fun j hj hn => by rw [e j hj, if_neg hn]
  have s : ∀ j : Int, 0 ≤ j → j = A → c' j = v := fun j hj hn => by rw [e j hj, if_pos hn]
  have r : ∀ (j lo hi : Int), 0 ≤ j → (lo ≤ c j ∧ c j ≤ hi) → (j = A → lo ≤ v ∧ v ≤ hi) → lo ≤ c' j ∧ c' j ≤ hi := by
    intro j lo hi hj hc hv
    by_cases w : j = A
    · rw [s j hj w]; exact hv w
    · rw [q j hj w]; exact hc
  refine ⟨r _ _ _ (by decide) h0 (by omega), r _ _ _ (by decide) h1 (by omega), r _ _ _ (by decide) h2 (by omega), r _ _ _ (by decide) h3 (by omega), r _ _ _ (by decide) h4 (by omega), ?_, ?_, ?_, ?_, ?_, ?_⟩
  · intro j a b; rw [q j (by omega) (by omega)]; exact h5 j a b
  · intro j a b; rw [q j (by omega) (by omega)]; exact h6 j a b
  · intro j a b; rw [q j (by omega) (by omega)]; exact h7 j a b
  · intro k a b
    have w := h8 k a b
    unfold m_sum at w ⊢
    rw [q _ (by omega) (by omega), q _ (by omega) (by omega), q _ (by omega) (by omega), q _ (by omega) (by omega), q _ (by omega) (by omega), q _ (by omega) (by omega)]
    exact w
  · intro j a b; rw [q j (by omega) (by omega)]; exact h9 j a b
  · intro p k a0 a1 a2 a3 a4; rw [q 3720 (by decide) (by omega)] at a4; rw [q _ (by omega) (by omega)]; exact h10 p k a0 a1 a2 a3 a4
/-- the number of kinds told, while no hand is -/
theorem m_N.w0 {c c' : Int → Int} {v : Int} (h : m_N c) (z : ∀ j, 3754 ≤ j → j < 3814 → c j = 0) (e : ∀ j : Int, 0 ≤ j → c' j = if j = 3720 then v else c j) (hv : 0 ≤ v ∧ v ≤ 10) : m_N c' := by
  obtain ⟨h0, h1, h2, h3, h4, h5, h6, h7, h8, h9, h10⟩ := h
  have q : ∀ j : Int, 0 ≤ j → j ≠ 3720 → c' j = c j := fun j hj hn => by rw [e j hj, if_neg hn]
  refine ⟨?_, ?_, ?_, ?_, ?_, ?_, ?_, ?_, ?_, ?_, ?_⟩
  · rw [e 3720 (by decide), if_pos rfl]; exact hv
  · rw [q _ (by decide) (by decide)]; exact h1
  · rw [q _ (by decide) (by decide)]; exact h2
  · rw [q _ (by decide) (by decide)]; exact h3
  · rw [q _ (by decide) (by decide)]; exact h4
  · intro j a b; rw [q j (by omega) (by omega)]; exact h5 j a b
  · intro j a b; rw [q j (by omega) (by omega)]; exact h6 j a b
  · intro j a b; rw [q j (by omega) (by omega)]; exact h7 j a b
  · intro k a b
    have w := h8 k a b
    unfold m_sum at w ⊢
    rw [q _ (by omega) (by omega), q _ (by omega) (by omega), q _ (by omega) (by omega), q _ (by omega) (by omega), q _ (by omega) (by omega), q _ (by omega) (by omega)]
    exact w
  · intro j a b; rw [q j (by omega) (by omega)]; exact h9 j a b
  · intro p k a0 a1 a2 a3 a4; rw [q _ (by omega) (by omega)]; exact z _ (by omega) (by omega)
/-- a new table's cells, all 0 but for the most -/
theorem m_N.new {c c' : Int → Int} {v : Int} (z : ∀ j, 3720 ≤ j → j < 4650 → c j = 0) (e : ∀ j : Int, 0 ≤ j → c' j = if j = 3724 then v else c j) (hv : v = 4) : m_N c' := by
  have q : ∀ j : Int, 3720 ≤ j → j < 4650 → j ≠ 3724 → c' j = 0 := fun j hj h2 hn => by rw [e j (by omega), if_neg hn]; exact z j hj h2
  refine ⟨?_, ?_, ?_, ?_, ?_, ?_, ?_, ?_, ?_, ?_, ?_⟩
  · rw [q _ (by decide) (by decide) (by decide)]; decide
  · rw [q _ (by decide) (by decide) (by decide)]; decide
  · rw [q _ (by decide) (by decide) (by decide)]; decide
  · rw [q _ (by decide) (by decide) (by decide)]; decide
  · rw [e 3724 (by decide), if_pos rfl, hv]; decide
  · intro j a b; exact q j (by omega) (by omega) (by omega)
  · intro j a b; exact q j (by omega) (by omega) (by omega)
  · intro j a b; rw [q j (by omega) (by omega) (by omega)]; decide
  · intro k a b
    unfold m_sum
    rw [q _ (by omega) (by omega) (by omega), q _ (by omega) (by omega) (by omega), q _ (by omega) (by omega) (by omega), q _ (by omega) (by omega) (by omega), q _ (by omega) (by omega) (by omega), q _ (by omega) (by omega) (by omega)]
    decide
  · intro j a b; exact q j (by omega) (by omega) (by omega)
  · intro p k a0 a1 a2 a3 a4; exact q _ (by omega) (by omega) (by omega)
/-- a hand told -/
theorem m_N.hand {c c' : Int → Int} {p k v : Int} (h : m_N c) (hp : 0 ≤ p ∧ p < 6) (hk : 0 ≤ k ∧ k < 10) (hkc : k < c 3720) (e : ∀ j : Int, 0 ≤ j → c' j = if j = 3754 + (10 * p + k) then v else c j) (hv : 0 ≤ v) (hs : m_sum c 3720 k + v ≤ 8) : m_N c' := by
  obtain ⟨h0, h1, h2, h3, h4, h5, h6, h7, h8, h9, h10⟩ := h
  have q : ∀ j : Int, 0 ≤ j → j ≠ 3754 + (10 * p + k) → c' j = c j := fun j hj hn => by rw [e j hj, if_neg hn]
  refine ⟨?_, ?_, ?_, ?_, ?_, ?_, ?_, ?_, ?_, ?_, ?_⟩
  · rw [q _ (by omega) (by omega)]; exact h0
  · rw [q _ (by omega) (by omega)]; exact h1
  · rw [q _ (by omega) (by omega)]; exact h2
  · rw [q _ (by omega) (by omega)]; exact h3
  · rw [q _ (by omega) (by omega)]; exact h4
  · intro j a b; rw [q j (by omega) (by omega)]; exact h5 j a b
  · intro j a b; rw [q j (by omega) (by omega)]; exact h6 j a b
  · intro j a b
    rw [e j (by omega)]
    split
    · exact hv
    · exact h7 j a b
  · intro i a b
    by_cases w : i = k
    · subst w
      have z := fun j (a : 3754 ≤ j) (b : j < 3814) => h7 j a b
      have z0 := h7 (3720 + 34 + i) (by omega) (by omega)
      have z1 := h7 (3720 + 44 + i) (by omega) (by omega)
      have z2 := h7 (3720 + 54 + i) (by omega) (by omega)
      have z3 := h7 (3720 + 64 + i) (by omega) (by omega)
      have z4 := h7 (3720 + 74 + i) (by omega) (by omega)
      have z5 := h7 (3720 + 84 + i) (by omega) (by omega)
      unfold m_sum at hs ⊢
      rw [e _ (by omega), e _ (by omega), e _ (by omega), e _ (by omega), e _ (by omega), e _ (by omega)]
      repeat' split
      all_goals omega
    · have u := h8 i a b
      unfold m_sum at u ⊢
      rw [q _ (by omega) (by omega), q _ (by omega) (by omega), q _ (by omega) (by omega), q _ (by omega) (by omega), q _ (by omega) (by omega), q _ (by omega) (by omega)]
      exact u
  · intro j a b; rw [q j (by omega) (by omega)]; exact h9 j a b
  · intro p' k' a0 a1 a2 a3 a4; rw [q 3720 (by decide) (by omega)] at a4; rw [q _ (by omega) (by omega)]; exact h10 p' k' a0 a1 a2 a3 a4
def m_ps (c : Int → Int) (k : Int) : Nat → Int
  | 0 => 0
  | n + 1 => m_ps c k n + c (3754 + (10 * (n : Int)) + k)
theorem m_ps_succ (c : Int → Int) (k p : Int) (h : 0 ≤ p) : m_ps c k (p + 1).toNat = m_ps c k p.toNat + c (3754 + 10 * p + k) := by
  have e : (p + 1).toNat = p.toNat + 1 := by omega
  have e2 : (p.toNat : Int) = p := by omega
  rw [e]
  show m_ps c k p.toNat + c (3754 + 10 * (p.toNat : Int) + k) = _
  rw [e2]
theorem m_ps_6 (c : Int → Int) (k : Int) : m_ps c k 6 = m_sum c 3720 k := by
  unfold m_sum
  show ((((((0 + c (3754 + 10 * 0 + k)) + c (3754 + 10 * 1 + k)) + c (3754 + 10 * 2 + k)) + c (3754 + 10 * 3 + k)) + c (3754 + 10 * 4 + k)) + c (3754 + 10 * 5 + k)) = _
  have f : ∀ i j : Int, i = j → c i = c j := fun i j h => by rw [h]
  rw [f (3754 + 10 * 0 + k) (3720 + 34 + k) (by omega), f (3754 + 10 * 1 + k) (3720 + 44 + k) (by omega), f (3754 + 10 * 2 + k) (3720 + 54 + k) (by omega), f (3754 + 10 * 3 + k) (3720 + 64 + k) (by omega), f (3754 + 10 * 4 + k) (3720 + 74 + k) (by omega), f (3754 + 10 * 5 + k) (3720 + 84 + k) (by omega)]
  omega
theorem m_ps_bd {c : Int → Int} (h : m_N c) {k : Int} (hk : 0 ≤ k ∧ k < 10) (n : Nat) (hn : n ≤ 6) : 0 ≤ m_ps c k n ∧ m_ps c k n ≤ 8 := by
  have h7 := h.2.2.2.2.2.2.2.1
  have h8 := h.2.2.2.2.2.2.2.2.1 k hk.1 hk.2
  have st : ∀ i : Nat, i < 6 → m_ps c k i ≤ m_ps c k (i + 1) := by
    intro i hi
    have := h7 (3754 + (10 * (i : Int)) + k) (by omega) (by omega)
    show m_ps c k i ≤ m_ps c k i + _
    omega
  have a0 : m_ps c k 0 ≤ m_ps c k 1 := st 0 (by decide)
  have a1 : m_ps c k 1 ≤ m_ps c k 2 := st 1 (by decide)
  have a2 : m_ps c k 2 ≤ m_ps c k 3 := st 2 (by decide)
  have a3 : m_ps c k 3 ≤ m_ps c k 4 := st 3 (by decide)
  have a4 : m_ps c k 4 ≤ m_ps c k 5 := st 4 (by decide)
  have a5 : m_ps c k 5 ≤ m_ps c k 6 := st 5 (by decide)
  have z : m_ps c k 0 = 0 := rfl
  have e := m_ps_6 c k
  have hn' : n = 0 ∨ n = 1 ∨ n = 2 ∨ n = 3 ∨ n = 4 ∨ n = 5 ∨ n = 6 := by omega
  rcases hn' with rfl | rfl | rfl | rfl | rfl | rfl | rfl <;> omega
end
/-! FROM 25.tab.lean.txt -/
section
/-! the new table, told to its end, becomes the game -/
def m_new (c : Int → Int) : Prop := ∃ c1 : Int → Int, m_N c1 ∧ 2 ≤ c1 3720 ∧ 1 ≤ c1 3724 ∧ ∀ j : Int, 0 ≤ j → c j = if j = 3726 then (if c1 3722 = 0 then -1 else 0) else if j = 3728 then -1 else c1 j
theorem m_new.mk {c c1 c2 : Int → Int} {w v : Int} (hN : m_N c1) (h0 : 2 ≤ c1 3720) (h4 : 1 ≤ c1 3724) (e1 : ∀ j : Int, 0 ≤ j → c2 j = if j = 3728 then w else c1 j) (hw : w = -1) (e : ∀ j : Int, 0 ≤ j → c j = if j = 3726 then v else c2 j) (hv : c1 3722 = 0 ∧ v = -1 ∨ c1 3722 ≠ 0 ∧ v = 0) : m_new c := by
  refine ⟨c1, hN, h0, h4, fun j hj => ?_⟩
  rw [e j hj, e1 j hj, hw]
  by_cases q : j = 3726
  · rw [if_pos q, if_pos q]
    rcases hv with ⟨a, b⟩ | ⟨a, b⟩
    · rw [if_pos a]; exact b
    · rw [if_neg a]; exact b
  · rw [if_neg q, if_neg q]
theorem m_S_10 (c : Int → Int) (b : Int) : m_S c b 10 = c b + c (b + 1) + c (b + 2) + c (b + 3) + c (b + 4) + c (b + 5) + c (b + 6) + c (b + 7) + c (b + 8) + c (b + 9) := by
  show ((((((((((0 + c (b + 0)) + c (b + 1)) + c (b + 2)) + c (b + 3)) + c (b + 4)) + c (b + 5)) + c (b + 6)) + c (b + 7)) + c (b + 8)) + c (b + 9)) = _
  have e : c (b + 0) = c b := by rw [Int.add_zero]
  omega
theorem m_G.new {c c' : Int → Int} (h : m_new c) (e : ∀ j : Int, 0 ≤ j → j < 930 → c' j = c (3720 + j)) : m_G c' ∧ m_W c' 0 := by
  obtain ⟨c1, hN, k0, k4, ec⟩ := h
  obtain ⟨h0, h1, h2, h3, h4, h5, h6, h7, h8, h9, h10⟩ := hN
  have q : ∀ j : Int, 0 ≤ j → j < 930 → j ≠ 6 → j ≠ 8 → c' j = c1 (3720 + j) := fun j a b n6 n8 => by
    rw [e j a b, ec _ (by omega), if_neg (by omega), if_neg (by omega)]
  have e0 : c' 0 = c1 3720 := q 0 (by decide) (by decide) (by decide) (by decide)
  have e2 : c' 2 = c1 3722 := q 2 (by decide) (by decide) (by decide) (by decide)
  have e4 : c' 4 = c1 3724 := q 4 (by decide) (by decide) (by decide) (by decide)
  have e5 : c' 5 = 0 := (q 5 (by decide) (by decide) (by decide) (by decide)).trans (h5 3725 (by decide) (by decide))
  have e7 : c' 7 = 0 := (q 7 (by decide) (by decide) (by decide) (by decide)).trans (h5 3727 (by decide) (by decide))
  have e9 : c' 9 = 0 := (q 9 (by decide) (by decide) (by decide) (by decide)).trans (h5 3729 (by decide) (by decide))
  have e6 : c' 6 = if c1 3722 = 0 then -1 else 0 := by
    rw [e 6 (by decide) (by decide)]
    exact (ec 3726 (by decide)).trans (if_pos rfl)
  have eQ : c' 655 = 0 := (q 655 (by decide) (by decide) (by decide) (by decide)).trans (h9 4375 (by decide) (by decide))
  refine ⟨⟨?_, ?_, ?_, ?_, ?_, ?_⟩, ?_⟩
  · unfold m_H
    rw [e0, e2, e4, e5, e7, e9, e6]
    split <;> omega
  · intro p k a0 a1 a2 a3
    rw [q _ (by omega) (by omega) (by omega) (by omega), e0]
    have ee : (3720 : Int) + (34 + 10 * p + k) = 3754 + 10 * p + k := by omega
    rw [ee]
    exact ⟨h7 _ (by omega) (by omega), h10 p k a0 a1 a2 a3⟩
  · intro i a0 a1
    rw [e9] at a1
    omega
  · unfold m_T
    rw [e9]
    have hs : ∀ k : Int, 0 ≤ k → k < 10 → c' (34 + k) + c' (44 + k) + c' (54 + k) + c' (64 + k) + c' (74 + k) + c' (84 + k) ≤ 8 := by
      intro k a0 a1
      have w := h8 k a0 a1
      unfold m_sum at w
      rw [q (34 + k) (by omega) (by omega) (by omega) (by omega), q (44 + k) (by omega) (by omega) (by omega) (by omega), q (54 + k) (by omega) (by omega) (by omega) (by omega), q (64 + k) (by omega) (by omega) (by omega) (by omega), q (74 + k) (by omega) (by omega) (by omega) (by omega), q (84 + k) (by omega) (by omega) (by omega) (by omega)]
      have f : ∀ i j : Int, i = j → c1 i = c1 j := fun i j h => by rw [h]
      rw [f (3720 + (34 + k)) (3720 + 34 + k) (by omega), f (3720 + (44 + k)) (3720 + 44 + k) (by omega), f (3720 + (54 + k)) (3720 + 54 + k) (by omega), f (3720 + (64 + k)) (3720 + 64 + k) (by omega), f (3720 + (74 + k)) (3720 + 74 + k) (by omega), f (3720 + (84 + k)) (3720 + 84 + k) (by omega)]
      exact w
    have s0 := hs 0 (by decide) (by decide)
    have s1 := hs 1 (by decide) (by decide)
    have s2 := hs 2 (by decide) (by decide)
    have s3 := hs 3 (by decide) (by decide)
    have s4 := hs 4 (by decide) (by decide)
    have s5 := hs 5 (by decide) (by decide)
    have s6 := hs 6 (by decide) (by decide)
    have s7 := hs 7 (by decide) (by decide)
    have s8 := hs 8 (by decide) (by decide)
    have s9 := hs 9 (by decide) (by decide)
    simp only [Int.reduceAdd, Int.add_zero] at s0 s1 s2 s3 s4 s5 s6 s7 s8 s9
    rw [m_S_6, m_S_10, m_S_10, m_S_10, m_S_10, m_S_10, m_S_10]
    simp only [Int.reduceAdd]
    show _ + m_L c' 0 ≤ 80
    have z : m_L c' 0 = 0 := rfl
    rw [z]
    omega
  · intro w
    rw [e7] at w
    exact absurd w (by decide)
  · refine ⟨by rw [eQ]; decide, fun s a0 a1 => ?_⟩
    rw [eQ] at a1
    omega
  · intro p a0 a1
    rw [q (28 + p) (by omega) (by omega) (by omega) (by omega), q (22 + p) (by omega) (by omega) (by omega) (by omega), h6 _ (by omega) (by omega), h6 _ (by omega) (by omega)]
    decide
/-- cells copied from B on to D on, the first k of n -/
theorem m_cpy {c c0 c1 : Int → Int} {B D k n v : Int} (h : ∀ j : Int, 0 ≤ j → c1 j = if D ≤ j ∧ j < D + k then c0 (B + (j - D)) else c0 j) (e : ∀ j : Int, 0 ≤ j → c j = if j = D + k then v else c1 j) (hv : v = c1 (B + k)) (hk : 0 ≤ k ∧ k < n) (hB : 0 ≤ B) (hd : B + n ≤ D ∨ D + n ≤ B) : ∀ j : Int, 0 ≤ j → c j = if D ≤ j ∧ j < D + (k + 1) then c0 (B + (j - D)) else c0 j := by
  intro j hj
  rw [e j hj]
  by_cases q : j = D + k
  · rw [if_pos q, if_pos (by omega), hv, h _ (by omega), if_neg (by omega)]
    have : B + (j - D) = B + k := by omega
    rw [this]
  · rw [if_neg q, h j hj]
    by_cases w : D ≤ j ∧ j < D + k
    · rw [if_pos w, if_pos (by omega)]
    · rw [if_neg w, if_neg (by omega)]
end
/-! FROM 26.look.lean.txt -/
section
theorem m_look_lt {X : XW} {σ : ST} {a : Nat} {p : Int} (h : m_look X σ a p ≠ 0) : p < (σ.1 a 9).toInt := by
  unfold m_look at h
  split at h
  · assumption
  · exact absurd rfl h
/-! the reader's standing facts carried over a call -/
theorem sm_tr {p15 p16 p9 p14 p12 n15 n16 n9 n14 n12 b9 b15 b12 : Int} (h : 0 ≤ p15 ∧ p15 ≤ p16 ∧ p16 ≤ p9 ∧ p9 ≤ 900 ∧ 0 ≤ p14 ∧ p14 ≤ 4 ∧ p14 ≤ 4 * (p16 - p15) ∧ p14 ≤ 4 * (p9 - p15) ∧ 0 ≤ p12 ∧ p9 = b9 ∧ b15 ≤ p15 ∧ b12 ≤ p12) (c : 0 ≤ n15 ∧ n15 ≤ n16 ∧ n16 ≤ n9 ∧ n9 ≤ 900 ∧ 0 ≤ n14 ∧ n14 ≤ 4 ∧ n14 ≤ 4 * (n16 - n15) ∧ n14 ≤ 4 * (n9 - n15) ∧ 0 ≤ n12 ∧ n9 = p9 ∧ p15 ≤ n15 ∧ p12 ≤ n12) : 0 ≤ n15 ∧ n15 ≤ n16 ∧ n16 ≤ n9 ∧ n9 ≤ 900 ∧ 0 ≤ n14 ∧ n14 ≤ 4 ∧ n14 ≤ 4 * (n16 - n15) ∧ n14 ≤ 4 * (n9 - n15) ∧ 0 ≤ n12 ∧ n9 = b9 ∧ b15 ≤ n15 ∧ b12 ≤ n12 :=
  ⟨c.1, c.2.1, c.2.2.1, c.2.2.2.1, c.2.2.2.2.1, c.2.2.2.2.2.1, c.2.2.2.2.2.2.1, c.2.2.2.2.2.2.2.1, c.2.2.2.2.2.2.2.2.1, c.2.2.2.2.2.2.2.2.2.1.trans h.2.2.2.2.2.2.2.2.2.1, Int.le_trans h.2.2.2.2.2.2.2.2.2.2.1 c.2.2.2.2.2.2.2.2.2.2.1, Int.le_trans h.2.2.2.2.2.2.2.2.2.2.2 c.2.2.2.2.2.2.2.2.2.2.2⟩
theorem sm_9 {p15 p16 p9 p14 p12 b9 b15 b12 : Int} (h : 0 ≤ p15 ∧ p15 ≤ p16 ∧ p16 ≤ p9 ∧ p9 ≤ 900 ∧ 0 ≤ p14 ∧ p14 ≤ 4 ∧ p14 ≤ 4 * (p16 - p15) ∧ p14 ≤ 4 * (p9 - p15) ∧ 0 ≤ p12 ∧ p9 = b9 ∧ b15 ≤ p15 ∧ b12 ≤ p12) : 0 ≤ p15 ∧ p15 ≤ p16 ∧ p16 ≤ p9 ∧ p9 ≤ 900 ∧ 0 ≤ p14 ∧ p14 ≤ 4 ∧ p14 ≤ 4 * (p16 - p15) ∧ p14 ≤ 4 * (p9 - p15) ∧ 0 ≤ p12 := ⟨h.1, h.2.1, h.2.2.1, h.2.2.2.1, h.2.2.2.2.1, h.2.2.2.2.2.1, h.2.2.2.2.2.2.1, h.2.2.2.2.2.2.2.1, h.2.2.2.2.2.2.2.2.1⟩
theorem sm_nx {p15 p16 p9 p14 p12 n15 n16 n9 n14 n12 b9 b15 b12 : Int} (h : 0 ≤ p15 ∧ p15 ≤ p16 ∧ p16 ≤ p9 ∧ p9 ≤ 900 ∧ 0 ≤ p14 ∧ p14 ≤ 4 ∧ p14 ≤ 4 * (p16 - p15) ∧ p14 ≤ 4 * (p9 - p15) ∧ 0 ≤ p12 ∧ p9 = b9 ∧ b15 ≤ p15 ∧ b12 ≤ p12) (c : 0 ≤ n15 ∧ n15 ≤ n16 ∧ n16 ≤ n9 ∧ n9 ≤ 900 ∧ 0 ≤ n14 ∧ n14 ≤ 4 ∧ n14 ≤ 4 * (n16 - n15) ∧ n14 ≤ 4 * (n9 - n15)) (d : n9 = p9 ∧ n12 = p12 ∧ p16 ≤ n15) : 0 ≤ n15 ∧ n15 ≤ n16 ∧ n16 ≤ n9 ∧ n9 ≤ 900 ∧ 0 ≤ n14 ∧ n14 ≤ 4 ∧ n14 ≤ 4 * (n16 - n15) ∧ n14 ≤ 4 * (n9 - n15) ∧ 0 ≤ n12 ∧ n9 = b9 ∧ b15 ≤ n15 ∧ b12 ≤ n12 := by
  obtain ⟨d1, d2, d3⟩ := d
  exact ⟨c.1, c.2.1, c.2.2.1, c.2.2.2.1, c.2.2.2.2.1, c.2.2.2.2.2.1, c.2.2.2.2.2.2.1, c.2.2.2.2.2.2.2, by omega, by omega, by omega, by omega⟩
theorem sm_fl {p15 p16 p9 p14 p12 n15 n16 n9 n14 n12 b9 b15 b12 : Int} (h : 0 ≤ p15 ∧ p15 ≤ p16 ∧ p16 ≤ p9 ∧ p9 ≤ 900 ∧ 0 ≤ p14 ∧ p14 ≤ 4 ∧ p14 ≤ 4 * (p16 - p15) ∧ p14 ≤ 4 * (p9 - p15) ∧ 0 ≤ p12 ∧ p9 = b9 ∧ b15 ≤ p15 ∧ b12 ≤ p12) (c : n9 = p9 ∧ n14 = p14 ∧ n15 = p15 ∧ n16 = p16) (d : p12 ≤ n12 ∧ 1 ≤ n12) : 0 ≤ n15 ∧ n15 ≤ n16 ∧ n16 ≤ n9 ∧ n9 ≤ 900 ∧ 0 ≤ n14 ∧ n14 ≤ 4 ∧ n14 ≤ 4 * (n16 - n15) ∧ n14 ≤ 4 * (n9 - n15) ∧ 0 ≤ n12 ∧ n9 = b9 ∧ b15 ≤ n15 ∧ b12 ≤ n12 := by
  obtain ⟨c1, c2, c3, c4⟩ := c
  subst c1 c2 c3 c4
  exact ⟨h.1, h.2.1, h.2.2.1, h.2.2.2.1, h.2.2.2.2.1, h.2.2.2.2.2.1, h.2.2.2.2.2.2.1, h.2.2.2.2.2.2.2.1, by omega, h.2.2.2.2.2.2.2.2.2.1, h.2.2.2.2.2.2.2.2.2.2.1, by omega⟩
end
