section
set_option maxRecDepth 100000 in
set_option maxHeartbeats 4000000 in
theorem c_X7_choose (l : Launch) (X : XW) (σ : ST) (a : Nat) (r1 : Nat) (ha : q_kd X a = 7) (hr1 : q_kd X r1 = 1) : Met l yX7_choose (q_ws yX7_choose cX7_choose 5 none) (q_rm 3 67) (q_P X σ [.ref a, .ref r1]) (q_Qv X 8 σ (fun (σ' : ST) => σ' = F_X7_choose X σ a r1 ∧ q_ow [(1, 9), (7, 6), (20, 99)] [] X σ σ')) 0 0 (q_reg X) := by
  refine q_met 8 (by first | exact rfl | decide +kernel) rfl (Nat.le_of_ble_eq_true rfl) (fun p e s m below meth c E hml hr hlk hI ls hl => ?_)
  have hx := E.1
  have hb := E.2.1
  have hl : lv_has ls 5 [(0, .ref a), (1, .ref r1)] := hl
  have fr_σ : q_ow [(1, 9), (7, 6), (20, 99)] [] X σ σ := q_ow.rf
  obtain ⟨out, hout⟩ : ∃ o, o = F_X7_choose X σ a r1 := ⟨_, rfl⟩
  have hF := hout.symm
  unfold F_X7_choose at hF
  refine lv_aload_n hx hb dX7_choose_0 rfl (lv_at hl 1 rfl) ?_
  refine gs_X7_77_1 E hI hr1 dX7_choose_1 ?_
  refine lv_aload_n hx hb dX7_choose_4 rfl (lv_at hl 1 rfl) ?_
  refine gs_X7_138_1 E hI hr1 dX7_choose_5 ?_
  refine lv_topi (fun f_1 ef_1 => ?_)
  replace hF := q_letX hF ef_1
  refine lv_aload_n hx hb dX7_choose_8 rfl (lv_at hl 1 rfl) ?_
  refine gs_X7_158_1 E hI hr1 dX7_choose_9 ?_
  refine lv_topi (fun f_2 ef_2 => ?_)
  replace hF := q_letX hF ef_2
  refine q_ci (q_runV (As := [.int f_1, .int f_2]) (rest := []) E (hml.trans hl.1.symm) hI (c_X1_heldBy l X σ (q_rf X r1 1) f_1 f_2 (q_tk (k' := 2) hI hr1 rfl (by decide))) kv_X7_161 (q_tk (k' := 2) hI hr1 rfl (by decide)) ⟨rfl, by decide⟩ (show vwCl[1]? = some (RX1, TX1, 7) from rfl) rfl ⟨Nat.le_of_ble_eq_true rfl, Nat.le_of_ble_eq_true rfl⟩ ⟨Nat.le_refl _, Nat.le_refl _⟩ rfl (Nat.le_of_ble_eq_true rfl) dX7_choose_12) hI (by decide) (fun r_3 σ_4 H locs hpσ_4 hkσ_4 hI => ?_)
  obtain ⟨ahpσ_4, bhpσ_4⟩ := hpσ_4
  rw [ahpσ_4] at hI
  replace hF := q_letX hF bhpσ_4
  refine lv_istore_n (lv' := [(2, .int r_3), (0, .ref a), (1, .ref r1)]) hx hb dX7_choose_15 rfl hl (by decide) rfl (fun ls hl => ?_)
  refine lv_iload_n hx hb dX7_choose_16 rfl (lv_at hl 0 rfl) ?_
  refine lv_aload_n hx hb dX7_choose_17 rfl (lv_at hl 2 rfl) ?_
  refine gs_X7_129_1 E hI hr1 dX7_choose_18 ?_
  refine gs_X7_165_6 E hI (q_tk (k' := 6) hI hr1 rfl (by decide)) dX7_choose_21 ?_
  refine lv_topi (fun f_5 ef_5 => ?_)
  replace hF := q_letX hF ef_5
  have bf_5 : -2147483648 ≤ f_5.toInt ∧ f_5.toInt ≤ 4 := by rw [ef_5]; exact q_bd hI (q_tk (k' := 6) hI hr1 rfl (by decide)) rfl
  refine q_ci (q_runS (As := [.int r_3, .int f_5]) (rest := []) E (hml.trans hl.1.symm) hI (c_J9_min_7cf53 l X σ r_3 f_5) ks_X7_168 rfl ⟨Nat.le_of_ble_eq_true rfl, Nat.le_of_ble_eq_true rfl⟩ ⟨Nat.le_refl _, Nat.le_refl _⟩ rfl (Nat.le_of_ble_eq_true rfl) dX7_choose_24) hI (by decide) (fun r_6 σ_7 H locs hpσ_7 hkσ_7 hI => ?_)
  obtain ⟨ahpσ_7, bhpσ_7, chpσ_7⟩ := hpσ_7
  rw [ahpσ_7] at hI
  replace hF := q_letX hF chpσ_7
  refine lv_istore_n (lv' := [(3, .int r_6), (2, .int r_3), (0, .ref a), (1, .ref r1)]) hx hb dX7_choose_27 rfl hl (by decide) rfl (fun ls hl => ?_)
  refine lv_aload_n hx hb dX7_choose_28 rfl (lv_at hl 3 rfl) ?_
  refine q_cv (q_runV (As := []) (rest := []) E (hml.trans hl.1.symm) hI (c_X0_clearWanted l X σ r1 hr1) kv_X7_173 hr1 ⟨rfl, by decide⟩ (show vwCl[0]? = some (RX0, TX0, 15) from rfl) rfl ⟨Nat.le_of_ble_eq_true rfl, Nat.le_of_ble_eq_true rfl⟩ ⟨Nat.le_refl _, Nat.le_refl _⟩ rfl (Nat.le_of_ble_eq_true rfl) dX7_choose_29) hI (by decide) (fun σ_9 H locs hpσ_9 hkσ_9 hI => ?_)
  obtain ⟨ahpσ_9, bhpσ_9⟩ := hpσ_9
  have fr_σ_9 := fr_σ.call bhpσ_9 rfl rfl
  replace hF := q_letX hF ahpσ_9
  refine lv_aload_n hx hb dX7_choose_32 rfl (lv_at hl 3 rfl) ?_
  refine lv_aload_n hx hb dX7_choose_33 rfl (lv_at hl 3 rfl) ?_
  refine gs_X7_158_1 E hI hr1 dX7_choose_34 ?_
  refine lv_topi (fun f_10 ef_10 => ?_)
  replace hF := q_letX hF ef_10
  refine lv_iload_n hx hb dX7_choose_37 rfl (lv_at hl 0 rfl) ?_
  refine q_cv (q_runV (As := [.int f_10, .int r_6]) (rest := []) E (hml.trans hl.1.symm) hI (c_X0_want l X σ_9 r1 f_10 r_6 hr1) kv_X7_176 hr1 ⟨rfl, by decide⟩ (show vwCl[0]? = some (RX0, TX0, 15) from rfl) rfl ⟨Nat.le_of_ble_eq_true rfl, Nat.le_of_ble_eq_true rfl⟩ ⟨Nat.le_refl _, Nat.le_refl _⟩ rfl (Nat.le_of_ble_eq_true rfl) dX7_choose_38) hI (by decide) (fun σ_12 H locs hpσ_12 hkσ_12 hI => ?_)
  obtain ⟨ahpσ_12, bhpσ_12⟩ := hpσ_12
  have fr_σ_12 := fr_σ_9.call bhpσ_12 rfl rfl
  replace hF := q_letX hF ahpσ_12
  refine lv_iload_n hx hb dX7_choose_41 rfl (lv_at hl 0 rfl) ?_
  refine lv_aload_n hx hb dX7_choose_42 rfl (lv_at hl 3 rfl) ?_
  refine gs_X7_129_1 E hI hr1 dX7_choose_43 ?_
  refine gs_X7_165_6 E hI (q_tk (k' := 6) hI hr1 rfl (by decide)) dX7_choose_46 ?_
  refine lv_topi (fun f_13 ef_13 => ?_)
  replace hF := q_letX hF ef_13
  have bf_13 : -2147483648 ≤ f_13.toInt ∧ f_13.toInt ≤ 4 := by rw [ef_13]; exact q_bd hI (q_tk (k' := 6) hI hr1 rfl (by decide)) rfl
  refine q_icmp_ge (A := r_6.toInt) (B := f_13.toInt) E rfl rfl (tgt := 74) dX7_choose_49 (by decide) (fun c_14 => ?_) (fun c_14 => ?_)
  · skip
    replace hF := q_ifn hF (Int.not_lt.mpr c_14)
    refine lv_iconst (v := 0) hx hb dX7_choose_74 (by decide) ?_
    refine lv_istore (lv' := [(4, .int 0), (3, .int r_6), (2, .int r_3), (0, .ref a), (1, .ref r1)]) hx hb dX7_choose_75 hl (by decide) rfl (fun ls hl => ?_)
    refine lv_iload hx hb dX7_choose_77 (lv_at hl 0 rfl) ?_
    refine q_if_eq (A := 0) E (by decide) (tgt := 116) dX7_choose_79 (by decide) (fun c_15 => ?_) (fun c_15 => ?_)
    · skip
      replace hF := q_ifp hF c_15
      exact q_retv E hr hlk hI ⟨(hF.trans hout), fr_σ_12⟩ dX7_choose_116
    · skip
      replace hF := q_ifn hF c_15
      refine lv_iload_n hx hb dX7_choose_82 rfl (lv_at hl 2 rfl) ?_
      refine q_if_eq (A := r_3.toInt) E rfl (tgt := 107) dX7_choose_83 (by decide) (fun c_16 => ?_) (fun c_16 => ?_)
      · skip
        replace hF := q_ifp hF c_16
        refine lv_aload_n hx hb dX7_choose_107 rfl (lv_at hl 4 rfl) ?_
        refine lv_aload_n hx hb dX7_choose_108 rfl (lv_at hl 4 rfl) ?_
        refine q_ci (q_runS (As := [.ref r1]) (rest := [.ref r1]) E (hml.trans hl.1.symm) hI (c_X7_fullestOther l X σ_12 r1 hr1) ks_X7_182 rfl ⟨Nat.le_of_ble_eq_true rfl, Nat.le_of_ble_eq_true rfl⟩ ⟨Nat.le_refl _, Nat.le_refl _⟩ rfl (Nat.le_of_ble_eq_true rfl) dX7_choose_109) hI (by decide) (fun r_17 σ_18 H locs hpσ_18 hkσ_18 hI => ?_)
        obtain ⟨ahpσ_18, bhpσ_18⟩ := hpσ_18
        rw [ahpσ_18] at hI
        replace hF := q_letX hF bhpσ_18
        refine lv_iconst (v := 1) hx hb dX7_choose_112 (by decide) ?_
        have kc_19 : (1 : Int32).toInt = 1 := rfl
        refine q_cv (q_runV (As := [.int r_17, .int 1]) (rest := []) E (hml.trans hl.1.symm) hI (c_X0_want l X σ_12 r1 r_17 (1 : Int32) hr1) kv_X7_176 hr1 ⟨rfl, by decide⟩ (show vwCl[0]? = some (RX0, TX0, 15) from rfl) rfl ⟨Nat.le_of_ble_eq_true rfl, Nat.le_of_ble_eq_true rfl⟩ ⟨Nat.le_refl _, Nat.le_refl _⟩ rfl (Nat.le_of_ble_eq_true rfl) dX7_choose_113) hI (by decide) (fun σ_21 H locs hpσ_21 hkσ_21 hI => ?_)
        obtain ⟨ahpσ_21, bhpσ_21⟩ := hpσ_21
        have fr_σ_21 := fr_σ_12.call bhpσ_21 rfl rfl
        replace hF := q_letX hF ahpσ_21
        exact q_retv E hr hlk hI ⟨(hF.trans hout), fr_σ_21⟩ dX7_choose_116
      · skip
        replace hF := q_ifn hF c_16
        refine lv_aload_n hx hb dX7_choose_86 rfl (lv_at hl 3 rfl) ?_
        refine q_ci (q_runV (As := []) (rest := []) E (hml.trans hl.1.symm) hI (c_X7_draw l X σ_12 a ha) kv_X7_179 ha ⟨rfl, by decide⟩ (show vwCl[6]? = some (RX7, TX7, 8) from rfl) rfl ⟨Nat.le_of_ble_eq_true rfl, Nat.le_of_ble_eq_true rfl⟩ ⟨Nat.le_refl _, Nat.le_refl _⟩ rfl (Nat.le_of_ble_eq_true rfl) dX7_choose_87) hI (by decide) (fun r_22 σ_23 H locs hpσ_23 hkσ_23 hI => ?_)
        obtain ⟨ahpσ_23, bhpσ_23⟩ := hpσ_23
        have fr_σ_23 := fr_σ_12.call bhpσ_23 rfl rfl
        replace hF := q_biX hF ahpσ_23
        refine lv_aload_n hx hb dX7_choose_90 rfl (lv_at hl 4 rfl) ?_
        refine gs_X7_77_1 E hI hr1 dX7_choose_91 ?_
        refine gs_X7_91_2 E hI (q_tk (k' := 2) hI hr1 rfl (by decide)) dX7_choose_94 ?_
        refine lv_aload_n hx hb dX7_choose_97 rfl (lv_at hl 4 rfl) ?_
        refine gs_X7_138_1 E hI hr1 dX7_choose_98 ?_
        refine lv_topi (fun f_24 ef_24 => ?_)
        replace hF := q_letX hF ef_24
        refine q_ci (q_runV (As := [.int f_24]) (rest := [.int r_22]) E (hml.trans hl.1.symm) hI (c_X5_get l X σ_23 (q_rf X (q_rf X r1 1) 3) f_24 (q_tk (k' := 5) hI (q_tk (k' := 2) hI hr1 rfl (by decide)) rfl (by decide))) kv_X7_58 (q_tk (k' := 5) hI (q_tk (k' := 2) hI hr1 rfl (by decide)) rfl (by decide)) ⟨rfl, by decide⟩ (show vwCl[4]? = some (RX5, TX5, 1) from rfl) rfl ⟨Nat.le_of_ble_eq_true rfl, Nat.le_of_ble_eq_true rfl⟩ ⟨Nat.le_refl _, Nat.le_refl _⟩ rfl (Nat.le_of_ble_eq_true rfl) dX7_choose_101) hI (by decide) (fun r_25 σ_26 H locs hpσ_26 hkσ_26 hI => ?_)
        obtain ⟨ahpσ_26, bhpσ_26⟩ := hpσ_26
        rw [ahpσ_26] at hI
        replace hF := q_letX hF bhpσ_26
        refine q_icmp_ge (A := r_22.toInt) (B := r_25.toInt) E rfl rfl (tgt := 116) dX7_choose_104 (by decide) (fun c_27 => ?_) (fun c_27 => ?_)
        · skip
          replace hF := q_ifn hF (Int.not_lt.mpr c_27)
          exact q_retv E hr hlk hI ⟨(hF.trans hout), fr_σ_23⟩ dX7_choose_116
        · skip
          replace hF := q_ifp hF c_27
          refine lv_aload_n hx hb dX7_choose_107 rfl (lv_at hl 4 rfl) ?_
          refine lv_aload_n hx hb dX7_choose_108 rfl (lv_at hl 4 rfl) ?_
          refine q_ci (q_runS (As := [.ref r1]) (rest := [.ref r1]) E (hml.trans hl.1.symm) hI (c_X7_fullestOther l X σ_23 r1 hr1) ks_X7_182 rfl ⟨Nat.le_of_ble_eq_true rfl, Nat.le_of_ble_eq_true rfl⟩ ⟨Nat.le_refl _, Nat.le_refl _⟩ rfl (Nat.le_of_ble_eq_true rfl) dX7_choose_109) hI (by decide) (fun r_28 σ_29 H locs hpσ_29 hkσ_29 hI => ?_)
          obtain ⟨ahpσ_29, bhpσ_29⟩ := hpσ_29
          rw [ahpσ_29] at hI
          replace hF := q_letX hF bhpσ_29
          refine lv_iconst (v := 1) hx hb dX7_choose_112 (by decide) ?_
          have kc_30 : (1 : Int32).toInt = 1 := rfl
          refine q_cv (q_runV (As := [.int r_28, .int 1]) (rest := []) E (hml.trans hl.1.symm) hI (c_X0_want l X σ_23 r1 r_28 (1 : Int32) hr1) kv_X7_176 hr1 ⟨rfl, by decide⟩ (show vwCl[0]? = some (RX0, TX0, 15) from rfl) rfl ⟨Nat.le_of_ble_eq_true rfl, Nat.le_of_ble_eq_true rfl⟩ ⟨Nat.le_refl _, Nat.le_refl _⟩ rfl (Nat.le_of_ble_eq_true rfl) dX7_choose_113) hI (by decide) (fun σ_32 H locs hpσ_32 hkσ_32 hI => ?_)
          obtain ⟨ahpσ_32, bhpσ_32⟩ := hpσ_32
          have fr_σ_32 := fr_σ_23.call bhpσ_32 rfl rfl
          replace hF := q_letX hF ahpσ_32
          exact q_retv E hr hlk hI ⟨(hF.trans hout), fr_σ_32⟩ dX7_choose_116
  · skip
    replace hF := q_ifp hF c_14
    refine lv_aload_n hx hb dX7_choose_52 rfl (lv_at hl 3 rfl) ?_
    refine gs_X7_77_1 E hI hr1 dX7_choose_53 ?_
    refine gs_X7_102_2 E hI (q_tk (k' := 2) hI hr1 rfl (by decide)) dX7_choose_56 ?_
    refine lv_aload_n hx hb dX7_choose_59 rfl (lv_at hl 3 rfl) ?_
    refine gs_X7_138_1 E hI hr1 dX7_choose_60 ?_
    refine lv_topi (fun f_33 ef_33 => ?_)
    replace hF := q_letX hF ef_33
    refine q_ci (q_runV (As := [.int f_33]) (rest := []) E (hml.trans hl.1.symm) hI (c_X5_get l X σ_12 (q_rf X (q_rf X r1 1) 2) f_33 (q_tk (k' := 5) hI (q_tk (k' := 2) hI hr1 rfl (by decide)) rfl (by decide))) kv_X7_58 (q_tk (k' := 5) hI (q_tk (k' := 2) hI hr1 rfl (by decide)) rfl (by decide)) ⟨rfl, by decide⟩ (show vwCl[4]? = some (RX5, TX5, 1) from rfl) rfl ⟨Nat.le_of_ble_eq_true rfl, Nat.le_of_ble_eq_true rfl⟩ ⟨Nat.le_refl _, Nat.le_refl _⟩ rfl (Nat.le_of_ble_eq_true rfl) dX7_choose_63) hI (by decide) (fun r_34 σ_35 H locs hpσ_35 hkσ_35 hI => ?_)
    obtain ⟨ahpσ_35, bhpσ_35⟩ := hpσ_35
    rw [ahpσ_35] at hI
    replace hF := q_letX hF bhpσ_35
    refine lv_iload_n hx hb dX7_choose_66 rfl (lv_at hl 1 rfl) ?_
    refine q_icmp_le (A := r_34.toInt) (B := r_3.toInt) E rfl rfl (tgt := 74) dX7_choose_67 (by decide) (fun c_36 => ?_) (fun c_36 => ?_)
    · skip
      replace hF := q_ifn hF (Int.not_lt.mpr c_36)
      refine lv_iconst (v := 0) hx hb dX7_choose_74 (by decide) ?_
      refine lv_istore (lv' := [(4, .int 0), (3, .int r_6), (2, .int r_3), (0, .ref a), (1, .ref r1)]) hx hb dX7_choose_75 hl (by decide) rfl (fun ls hl => ?_)
      refine lv_iload hx hb dX7_choose_77 (lv_at hl 0 rfl) ?_
      refine q_if_eq (A := 0) E (by decide) (tgt := 116) dX7_choose_79 (by decide) (fun c_37 => ?_) (fun c_37 => ?_)
      · skip
        replace hF := q_ifp hF c_37
        exact q_retv E hr hlk hI ⟨(hF.trans hout), fr_σ_12⟩ dX7_choose_116
      · skip
        replace hF := q_ifn hF c_37
        refine lv_iload_n hx hb dX7_choose_82 rfl (lv_at hl 2 rfl) ?_
        refine q_if_eq (A := r_3.toInt) E rfl (tgt := 107) dX7_choose_83 (by decide) (fun c_38 => ?_) (fun c_38 => ?_)
        · skip
          replace hF := q_ifp hF c_38
          refine lv_aload_n hx hb dX7_choose_107 rfl (lv_at hl 4 rfl) ?_
          refine lv_aload_n hx hb dX7_choose_108 rfl (lv_at hl 4 rfl) ?_
          refine q_ci (q_runS (As := [.ref r1]) (rest := [.ref r1]) E (hml.trans hl.1.symm) hI (c_X7_fullestOther l X σ_12 r1 hr1) ks_X7_182 rfl ⟨Nat.le_of_ble_eq_true rfl, Nat.le_of_ble_eq_true rfl⟩ ⟨Nat.le_refl _, Nat.le_refl _⟩ rfl (Nat.le_of_ble_eq_true rfl) dX7_choose_109) hI (by decide) (fun r_39 σ_40 H locs hpσ_40 hkσ_40 hI => ?_)
          obtain ⟨ahpσ_40, bhpσ_40⟩ := hpσ_40
          rw [ahpσ_40] at hI
          replace hF := q_letX hF bhpσ_40
          refine lv_iconst (v := 1) hx hb dX7_choose_112 (by decide) ?_
          have kc_41 : (1 : Int32).toInt = 1 := rfl
          refine q_cv (q_runV (As := [.int r_39, .int 1]) (rest := []) E (hml.trans hl.1.symm) hI (c_X0_want l X σ_12 r1 r_39 (1 : Int32) hr1) kv_X7_176 hr1 ⟨rfl, by decide⟩ (show vwCl[0]? = some (RX0, TX0, 15) from rfl) rfl ⟨Nat.le_of_ble_eq_true rfl, Nat.le_of_ble_eq_true rfl⟩ ⟨Nat.le_refl _, Nat.le_refl _⟩ rfl (Nat.le_of_ble_eq_true rfl) dX7_choose_113) hI (by decide) (fun σ_43 H locs hpσ_43 hkσ_43 hI => ?_)
          obtain ⟨ahpσ_43, bhpσ_43⟩ := hpσ_43
          have fr_σ_43 := fr_σ_12.call bhpσ_43 rfl rfl
          replace hF := q_letX hF ahpσ_43
          exact q_retv E hr hlk hI ⟨(hF.trans hout), fr_σ_43⟩ dX7_choose_116
        · skip
          replace hF := q_ifn hF c_38
          refine lv_aload_n hx hb dX7_choose_86 rfl (lv_at hl 3 rfl) ?_
          refine q_ci (q_runV (As := []) (rest := []) E (hml.trans hl.1.symm) hI (c_X7_draw l X σ_12 a ha) kv_X7_179 ha ⟨rfl, by decide⟩ (show vwCl[6]? = some (RX7, TX7, 8) from rfl) rfl ⟨Nat.le_of_ble_eq_true rfl, Nat.le_of_ble_eq_true rfl⟩ ⟨Nat.le_refl _, Nat.le_refl _⟩ rfl (Nat.le_of_ble_eq_true rfl) dX7_choose_87) hI (by decide) (fun r_44 σ_45 H locs hpσ_45 hkσ_45 hI => ?_)
          obtain ⟨ahpσ_45, bhpσ_45⟩ := hpσ_45
          have fr_σ_45 := fr_σ_12.call bhpσ_45 rfl rfl
          replace hF := q_biX hF ahpσ_45
          refine lv_aload_n hx hb dX7_choose_90 rfl (lv_at hl 4 rfl) ?_
          refine gs_X7_77_1 E hI hr1 dX7_choose_91 ?_
          refine gs_X7_91_2 E hI (q_tk (k' := 2) hI hr1 rfl (by decide)) dX7_choose_94 ?_
          refine lv_aload_n hx hb dX7_choose_97 rfl (lv_at hl 4 rfl) ?_
          refine gs_X7_138_1 E hI hr1 dX7_choose_98 ?_
          refine lv_topi (fun f_46 ef_46 => ?_)
          replace hF := q_letX hF ef_46
          refine q_ci (q_runV (As := [.int f_46]) (rest := [.int r_44]) E (hml.trans hl.1.symm) hI (c_X5_get l X σ_45 (q_rf X (q_rf X r1 1) 3) f_46 (q_tk (k' := 5) hI (q_tk (k' := 2) hI hr1 rfl (by decide)) rfl (by decide))) kv_X7_58 (q_tk (k' := 5) hI (q_tk (k' := 2) hI hr1 rfl (by decide)) rfl (by decide)) ⟨rfl, by decide⟩ (show vwCl[4]? = some (RX5, TX5, 1) from rfl) rfl ⟨Nat.le_of_ble_eq_true rfl, Nat.le_of_ble_eq_true rfl⟩ ⟨Nat.le_refl _, Nat.le_refl _⟩ rfl (Nat.le_of_ble_eq_true rfl) dX7_choose_101) hI (by decide) (fun r_47 σ_48 H locs hpσ_48 hkσ_48 hI => ?_)
          obtain ⟨ahpσ_48, bhpσ_48⟩ := hpσ_48
          rw [ahpσ_48] at hI
          replace hF := q_letX hF bhpσ_48
          refine q_icmp_ge (A := r_44.toInt) (B := r_47.toInt) E rfl rfl (tgt := 116) dX7_choose_104 (by decide) (fun c_49 => ?_) (fun c_49 => ?_)
          · skip
            replace hF := q_ifn hF (Int.not_lt.mpr c_49)
            exact q_retv E hr hlk hI ⟨(hF.trans hout), fr_σ_45⟩ dX7_choose_116
          · skip
            replace hF := q_ifp hF c_49
            refine lv_aload_n hx hb dX7_choose_107 rfl (lv_at hl 4 rfl) ?_
            refine lv_aload_n hx hb dX7_choose_108 rfl (lv_at hl 4 rfl) ?_
            refine q_ci (q_runS (As := [.ref r1]) (rest := [.ref r1]) E (hml.trans hl.1.symm) hI (c_X7_fullestOther l X σ_45 r1 hr1) ks_X7_182 rfl ⟨Nat.le_of_ble_eq_true rfl, Nat.le_of_ble_eq_true rfl⟩ ⟨Nat.le_refl _, Nat.le_refl _⟩ rfl (Nat.le_of_ble_eq_true rfl) dX7_choose_109) hI (by decide) (fun r_50 σ_51 H locs hpσ_51 hkσ_51 hI => ?_)
            obtain ⟨ahpσ_51, bhpσ_51⟩ := hpσ_51
            rw [ahpσ_51] at hI
            replace hF := q_letX hF bhpσ_51
            refine lv_iconst (v := 1) hx hb dX7_choose_112 (by decide) ?_
            have kc_52 : (1 : Int32).toInt = 1 := rfl
            refine q_cv (q_runV (As := [.int r_50, .int 1]) (rest := []) E (hml.trans hl.1.symm) hI (c_X0_want l X σ_45 r1 r_50 (1 : Int32) hr1) kv_X7_176 hr1 ⟨rfl, by decide⟩ (show vwCl[0]? = some (RX0, TX0, 15) from rfl) rfl ⟨Nat.le_of_ble_eq_true rfl, Nat.le_of_ble_eq_true rfl⟩ ⟨Nat.le_refl _, Nat.le_refl _⟩ rfl (Nat.le_of_ble_eq_true rfl) dX7_choose_113) hI (by decide) (fun σ_54 H locs hpσ_54 hkσ_54 hI => ?_)
            obtain ⟨ahpσ_54, bhpσ_54⟩ := hpσ_54
            have fr_σ_54 := fr_σ_45.call bhpσ_54 rfl rfl
            replace hF := q_letX hF ahpσ_54
            exact q_retv E hr hlk hI ⟨(hF.trans hout), fr_σ_54⟩ dX7_choose_116
    · skip
      replace hF := q_ifp hF c_36
      refine lv_iconst (v := 1) hx hb dX7_choose_70 (by decide) ?_
      refine lv_goto (tgt := 75) hx hb dX7_choose_71 (by decide) ?_
      refine lv_istore (lv' := [(4, .int 1), (3, .int r_6), (2, .int r_3), (0, .ref a), (1, .ref r1)]) hx hb dX7_choose_75 hl (by decide) rfl (fun ls hl => ?_)
      refine lv_iload hx hb dX7_choose_77 (lv_at hl 0 rfl) ?_
      refine q_if_eq (A := 1) E (by decide) (tgt := 116) dX7_choose_79 (by decide) (fun c_55 => ?_) (fun c_55 => ?_)
      · skip
        replace hF := q_ifp hF c_55
        exact q_retv E hr hlk hI ⟨(hF.trans hout), fr_σ_12⟩ dX7_choose_116
      · skip
        replace hF := q_ifn hF c_55
        refine lv_iload_n hx hb dX7_choose_82 rfl (lv_at hl 2 rfl) ?_
        refine q_if_eq (A := r_3.toInt) E rfl (tgt := 107) dX7_choose_83 (by decide) (fun c_56 => ?_) (fun c_56 => ?_)
        · skip
          replace hF := q_ifp hF c_56
          refine lv_aload_n hx hb dX7_choose_107 rfl (lv_at hl 4 rfl) ?_
          refine lv_aload_n hx hb dX7_choose_108 rfl (lv_at hl 4 rfl) ?_
          refine q_ci (q_runS (As := [.ref r1]) (rest := [.ref r1]) E (hml.trans hl.1.symm) hI (c_X7_fullestOther l X σ_12 r1 hr1) ks_X7_182 rfl ⟨Nat.le_of_ble_eq_true rfl, Nat.le_of_ble_eq_true rfl⟩ ⟨Nat.le_refl _, Nat.le_refl _⟩ rfl (Nat.le_of_ble_eq_true rfl) dX7_choose_109) hI (by decide) (fun r_57 σ_58 H locs hpσ_58 hkσ_58 hI => ?_)
          obtain ⟨ahpσ_58, bhpσ_58⟩ := hpσ_58
          rw [ahpσ_58] at hI
          replace hF := q_letX hF bhpσ_58
          refine lv_iconst (v := 1) hx hb dX7_choose_112 (by decide) ?_
          have kc_59 : (1 : Int32).toInt = 1 := rfl
          refine q_cv (q_runV (As := [.int r_57, .int 1]) (rest := []) E (hml.trans hl.1.symm) hI (c_X0_want l X σ_12 r1 r_57 (1 : Int32) hr1) kv_X7_176 hr1 ⟨rfl, by decide⟩ (show vwCl[0]? = some (RX0, TX0, 15) from rfl) rfl ⟨Nat.le_of_ble_eq_true rfl, Nat.le_of_ble_eq_true rfl⟩ ⟨Nat.le_refl _, Nat.le_refl _⟩ rfl (Nat.le_of_ble_eq_true rfl) dX7_choose_113) hI (by decide) (fun σ_61 H locs hpσ_61 hkσ_61 hI => ?_)
          obtain ⟨ahpσ_61, bhpσ_61⟩ := hpσ_61
          have fr_σ_61 := fr_σ_12.call bhpσ_61 rfl rfl
          replace hF := q_letX hF ahpσ_61
          exact q_retv E hr hlk hI ⟨(hF.trans hout), fr_σ_61⟩ dX7_choose_116
        · skip
          replace hF := q_ifn hF c_56
          refine lv_aload_n hx hb dX7_choose_86 rfl (lv_at hl 3 rfl) ?_
          refine q_ci (q_runV (As := []) (rest := []) E (hml.trans hl.1.symm) hI (c_X7_draw l X σ_12 a ha) kv_X7_179 ha ⟨rfl, by decide⟩ (show vwCl[6]? = some (RX7, TX7, 8) from rfl) rfl ⟨Nat.le_of_ble_eq_true rfl, Nat.le_of_ble_eq_true rfl⟩ ⟨Nat.le_refl _, Nat.le_refl _⟩ rfl (Nat.le_of_ble_eq_true rfl) dX7_choose_87) hI (by decide) (fun r_62 σ_63 H locs hpσ_63 hkσ_63 hI => ?_)
          obtain ⟨ahpσ_63, bhpσ_63⟩ := hpσ_63
          have fr_σ_63 := fr_σ_12.call bhpσ_63 rfl rfl
          replace hF := q_biX hF ahpσ_63
          refine lv_aload_n hx hb dX7_choose_90 rfl (lv_at hl 4 rfl) ?_
          refine gs_X7_77_1 E hI hr1 dX7_choose_91 ?_
          refine gs_X7_91_2 E hI (q_tk (k' := 2) hI hr1 rfl (by decide)) dX7_choose_94 ?_
          refine lv_aload_n hx hb dX7_choose_97 rfl (lv_at hl 4 rfl) ?_
          refine gs_X7_138_1 E hI hr1 dX7_choose_98 ?_
          refine lv_topi (fun f_64 ef_64 => ?_)
          replace hF := q_letX hF ef_64
          refine q_ci (q_runV (As := [.int f_64]) (rest := [.int r_62]) E (hml.trans hl.1.symm) hI (c_X5_get l X σ_63 (q_rf X (q_rf X r1 1) 3) f_64 (q_tk (k' := 5) hI (q_tk (k' := 2) hI hr1 rfl (by decide)) rfl (by decide))) kv_X7_58 (q_tk (k' := 5) hI (q_tk (k' := 2) hI hr1 rfl (by decide)) rfl (by decide)) ⟨rfl, by decide⟩ (show vwCl[4]? = some (RX5, TX5, 1) from rfl) rfl ⟨Nat.le_of_ble_eq_true rfl, Nat.le_of_ble_eq_true rfl⟩ ⟨Nat.le_refl _, Nat.le_refl _⟩ rfl (Nat.le_of_ble_eq_true rfl) dX7_choose_101) hI (by decide) (fun r_65 σ_66 H locs hpσ_66 hkσ_66 hI => ?_)
          obtain ⟨ahpσ_66, bhpσ_66⟩ := hpσ_66
          rw [ahpσ_66] at hI
          replace hF := q_letX hF bhpσ_66
          refine q_icmp_ge (A := r_62.toInt) (B := r_65.toInt) E rfl rfl (tgt := 116) dX7_choose_104 (by decide) (fun c_67 => ?_) (fun c_67 => ?_)
          · skip
            replace hF := q_ifn hF (Int.not_lt.mpr c_67)
            exact q_retv E hr hlk hI ⟨(hF.trans hout), fr_σ_63⟩ dX7_choose_116
          · skip
            replace hF := q_ifp hF c_67
            refine lv_aload_n hx hb dX7_choose_107 rfl (lv_at hl 4 rfl) ?_
            refine lv_aload_n hx hb dX7_choose_108 rfl (lv_at hl 4 rfl) ?_
            refine q_ci (q_runS (As := [.ref r1]) (rest := [.ref r1]) E (hml.trans hl.1.symm) hI (c_X7_fullestOther l X σ_63 r1 hr1) ks_X7_182 rfl ⟨Nat.le_of_ble_eq_true rfl, Nat.le_of_ble_eq_true rfl⟩ ⟨Nat.le_refl _, Nat.le_refl _⟩ rfl (Nat.le_of_ble_eq_true rfl) dX7_choose_109) hI (by decide) (fun r_68 σ_69 H locs hpσ_69 hkσ_69 hI => ?_)
            obtain ⟨ahpσ_69, bhpσ_69⟩ := hpσ_69
            rw [ahpσ_69] at hI
            replace hF := q_letX hF bhpσ_69
            refine lv_iconst (v := 1) hx hb dX7_choose_112 (by decide) ?_
            have kc_70 : (1 : Int32).toInt = 1 := rfl
            refine q_cv (q_runV (As := [.int r_68, .int 1]) (rest := []) E (hml.trans hl.1.symm) hI (c_X0_want l X σ_63 r1 r_68 (1 : Int32) hr1) kv_X7_176 hr1 ⟨rfl, by decide⟩ (show vwCl[0]? = some (RX0, TX0, 15) from rfl) rfl ⟨Nat.le_of_ble_eq_true rfl, Nat.le_of_ble_eq_true rfl⟩ ⟨Nat.le_refl _, Nat.le_refl _⟩ rfl (Nat.le_of_ble_eq_true rfl) dX7_choose_113) hI (by decide) (fun σ_72 H locs hpσ_72 hkσ_72 hI => ?_)
            obtain ⟨ahpσ_72, bhpσ_72⟩ := hpσ_72
            have fr_σ_72 := fr_σ_63.call bhpσ_72 rfl rfl
            replace hF := q_letX hF ahpσ_72
            exact q_retv E hr hlk hI ⟨(hF.trans hout), fr_σ_72⟩ dX7_choose_116
end
