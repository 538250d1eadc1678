section
set_option maxRecDepth 100000 in
set_option maxHeartbeats 4000000 in
theorem c_X7_takeTurn (l : Launch) (X : XW) (σ : ST) (a : Nat) (r1 : Nat) (ha : q_kd X a = 7) (hr1 : q_kd X r1 = 1) : Met l yX7_takeTurn (q_ws yX7_takeTurn cX7_takeTurn 3 none) (q_rm 4 92) (q_P X σ [.ref a, .ref r1]) (q_Qv X 8 σ (fun (σ' : ST) => σ' = F_X7_takeTurn X σ a r1 ∧ q_ow [(1, 4), (1, 5), (1, 6), (1, 7), (1, 9), (3, 0), (3, 1), (7, 1), (7, 2), (7, 3), (7, 4), (7, 6), (20, 99)] [] X σ σ')) 0 0 (q_reg X) := by
  refine q_met 8 (by first | exact rfl | decide +kernel) rfl (Nat.le_of_ble_eq_true rfl) (fun p e s m below meth c E hml hr hlk hI ls hl => ?_)
  have hx := E.1
  have hb := E.2.1
  have hl : lv_has ls 3 [(0, .ref a), (1, .ref r1)] := hl
  have fr_σ : q_ow [(1, 4), (1, 5), (1, 6), (1, 7), (1, 9), (3, 0), (3, 1), (7, 1), (7, 2), (7, 3), (7, 4), (7, 6), (20, 99)] [] X σ σ := q_ow.rf
  obtain ⟨out, hout⟩ : ∃ o, o = F_X7_takeTurn X σ a r1 := ⟨_, rfl⟩
  have hF := hout.symm
  unfold F_X7_takeTurn at hF
  refine lv_aload_n hx hb dX7_takeTurn_0 rfl (lv_at hl 1 rfl) ?_
  refine gs_X7_123_1 E hI hr1 dX7_takeTurn_1 ?_
  refine lv_topi (fun f_1 ef_1 => ?_)
  replace hF := q_letX hF ef_1
  have bf_1 : 0 ≤ f_1.toInt ∧ f_1.toInt ≤ 1 := by rw [ef_1]; exact q_bd hI hr1 rfl
  have J_11_2 : ∀  (σ_2 : ST) (H : Heap) (locs : List Loc) (ls : Array Slot), (q_ow [(1, 4), (1, 5), (1, 6), (1, 7), (1, 9), (3, 0), (3, 1), (7, 1), (7, 2), (7, 3), (7, 4), (7, 6), (20, 99)] [] X σ σ_2) → (F_X7_takeTurn_J11_1 X r1 a σ_2 = out) → q_I X 8 σ s.heap locs σ_2 H → lv_has ls 3 [(0, .ref a), (1, .ref r1)] → W p l e (q_rm 4 92) s m ([.ref a, .ref r1] : List Value).toArray below meth c H locs 0 0 (MQ below (q_Qv X 8 σ (fun (σ' : ST) => σ' = F_X7_takeTurn X σ a r1 ∧ q_ow [(1, 4), (1, 5), (1, 6), (1, 7), (1, 9), (3, 0), (3, 1), (7, 1), (7, 2), (7, 3), (7, 4), (7, 6), (20, 99)] [] X σ σ')) ([.ref a, .ref r1] : List Value).toArray s 0 0 (q_reg X)) (F0 m 11 ls []) := by
    clear hF
    intro σ_2 H locs ls fr_σ_2 hF hI hl
    unfold F_X7_takeTurn_J11_1 at hF
    refine lv_aload_n hx hb dX7_takeTurn_11 rfl (lv_at hl 1 rfl) ?_
    refine gs_X7_120_1 E hI hr1 dX7_takeTurn_12 ?_
    refine lv_topi (fun f_3 ef_3 => ?_)
    replace hF := q_letX hF ef_3
    refine lv_iconst (v := (-1)) hx hb dX7_takeTurn_15 (by decide) ?_
    refine q_icmp_ne (A := f_3.toInt) (B := (-1)) E rfl (by decide) (tgt := 47) dX7_takeTurn_16 (by decide) (fun c_4 => ?_) (fun c_4 => ?_)
    · skip
      replace hF := q_ifn hF c_4
      refine lv_aload_n hx hb dX7_takeTurn_47 rfl (lv_at hl 0 rfl) ?_
      refine lv_dup hx hb dX7_takeTurn_48 rfl ?_
      refine gs_X7_15_7 E hI ha dX7_takeTurn_49 ?_
      refine lv_topi (fun f_5 ef_5 => ?_)
      replace hF := q_letX hF ef_5
      refine lv_iconst (v := 1) hx hb dX7_takeTurn_52 (by decide) ?_
      refine lv_iadd hx hb dX7_takeTurn_53 ?_
      refine lv_topi (fun z_6 ez_6 => ?_)
      replace hF := q_letX hF ez_6
      refine ps_X7_15_7 E hI ha (by decide) dX7_takeTurn_54 (fun H locs σ_7 hσ_7 hI => ?_)
      replace hF := q_letX hF hσ_7
      have fr_σ_7 := fr_σ_2.si hσ_7 ha rfl
      exact q_retv E hr hlk hI ⟨(hF.trans hout), fr_σ_7⟩ dX7_takeTurn_57
    · skip
      replace hF := q_ifp hF c_4
      refine lv_aload_n hx hb dX7_takeTurn_19 rfl (lv_at hl 1 rfl) ?_
      refine gs_X7_129_1 E hI hr1 dX7_takeTurn_20 ?_
      refine gs_X7_133_6 E hI (q_tk (k' := 6) hI hr1 rfl (by decide)) dX7_takeTurn_23 ?_
      refine lv_topi (fun f_8 ef_8 => ?_)
      replace hF := q_letX hF ef_8
      refine lv_iconst (v := 2) hx hb dX7_takeTurn_26 (by decide) ?_
      refine q_icmp_lt (A := f_8.toInt) (B := 2) E rfl (by decide) (tgt := 47) dX7_takeTurn_27 (by decide) (fun c_9 => ?_) (fun c_9 => ?_)
      · skip
        replace hF := q_ifp hF c_9
        refine lv_aload_n hx hb dX7_takeTurn_47 rfl (lv_at hl 0 rfl) ?_
        refine lv_dup hx hb dX7_takeTurn_48 rfl ?_
        refine gs_X7_15_7 E hI ha dX7_takeTurn_49 ?_
        refine lv_topi (fun f_10 ef_10 => ?_)
        replace hF := q_letX hF ef_10
        refine lv_iconst (v := 1) hx hb dX7_takeTurn_52 (by decide) ?_
        refine lv_iadd hx hb dX7_takeTurn_53 ?_
        refine lv_topi (fun z_11 ez_11 => ?_)
        replace hF := q_letX hF ez_11
        refine ps_X7_15_7 E hI ha (by decide) dX7_takeTurn_54 (fun H locs σ_12 hσ_12 hI => ?_)
        replace hF := q_letX hF hσ_12
        have fr_σ_12 := fr_σ_2.si hσ_12 ha rfl
        exact q_retv E hr hlk hI ⟨(hF.trans hout), fr_σ_12⟩ dX7_takeTurn_57
      · skip
        replace hF := q_ifn hF (Int.not_lt.mpr c_9)
        refine lv_aload_n hx hb dX7_takeTurn_30 rfl (lv_at hl 1 rfl) ?_
        refine gs_X7_77_1 E hI hr1 dX7_takeTurn_31 ?_
        refine gs_X7_102_2 E hI (q_tk (k' := 2) hI hr1 rfl (by decide)) dX7_takeTurn_34 ?_
        refine lv_aload_n hx hb dX7_takeTurn_37 rfl (lv_at hl 1 rfl) ?_
        refine gs_X7_138_1 E hI hr1 dX7_takeTurn_38 ?_
        refine lv_topi (fun f_13 ef_13 => ?_)
        replace hF := q_letX hF ef_13
        refine q_ci (q_runV (As := [.int f_13]) (rest := []) E (hml.trans hl.1.symm) hI (c_X5_get l X σ_2 (q_rf X (q_rf X r1 1) 2) f_13 (q_tk (k' := 5) hI (q_tk (k' := 2) hI hr1 rfl (by decide)) rfl (by decide))) kv_X7_58 (q_tk (k' := 5) hI (q_tk (k' := 2) hI hr1 rfl (by decide)) rfl (by decide)) ⟨rfl, by decide⟩ (show vwCl[4]? = some (RX5, TX5, 1) from rfl) rfl ⟨Nat.le_of_ble_eq_true rfl, Nat.le_of_ble_eq_true rfl⟩ ⟨Nat.le_refl _, Nat.le_refl _⟩ rfl (Nat.le_of_ble_eq_true rfl) dX7_takeTurn_41) hI (by decide) (fun r_14 σ_15 H locs hpσ_15 hkσ_15 hI => ?_)
        obtain ⟨ahpσ_15, bhpσ_15⟩ := hpσ_15
        rw [ahpσ_15] at hI
        replace hF := q_letX hF bhpσ_15
        refine q_if_ne (A := r_14.toInt) E rfl (tgt := 58) dX7_takeTurn_44 (by decide) (fun c_16 => ?_) (fun c_16 => ?_)
        · skip
          replace hF := q_ifn hF c_16
          refine lv_aload_n hx hb dX7_takeTurn_58 rfl (lv_at hl 0 rfl) ?_
          refine lv_aload_n hx hb dX7_takeTurn_59 rfl (lv_at hl 1 rfl) ?_
          refine q_cv (q_runV (As := [.ref r1]) (rest := []) E (hml.trans hl.1.symm) hI (c_X7_choose l X σ_2 a r1 ha hr1) kv_X7_141 ha ⟨rfl, by decide⟩ (show vwCl[6]? = some (RX7, TX7, 8) from rfl) rfl ⟨Nat.le_of_ble_eq_true rfl, Nat.le_of_ble_eq_true rfl⟩ ⟨Nat.le_refl _, Nat.le_refl _⟩ rfl (Nat.le_of_ble_eq_true rfl) dX7_takeTurn_60) hI (by decide) (fun σ_18 H locs hpσ_18 hkσ_18 hI => ?_)
          obtain ⟨ahpσ_18, bhpσ_18⟩ := hpσ_18
          have fr_σ_18 := fr_σ_2.call bhpσ_18 rfl rfl
          replace hF := q_letX hF ahpσ_18
          refine lv_aload_n hx hb dX7_takeTurn_63 rfl (lv_at hl 1 rfl) ?_
          refine q_cv (q_runV (As := []) (rest := []) E (hml.trans hl.1.symm) hI (c_X0_layWanted l X σ_18 r1 hr1) kv_X7_144 hr1 ⟨rfl, by decide⟩ (show vwCl[0]? = some (RX0, TX0, 15) from rfl) rfl ⟨Nat.le_of_ble_eq_true rfl, Nat.le_of_ble_eq_true rfl⟩ ⟨Nat.le_refl _, Nat.le_refl _⟩ rfl (Nat.le_of_ble_eq_true rfl) dX7_takeTurn_64) hI (by decide) (fun σ_20 H locs hpσ_20 hkσ_20 hI => ?_)
          obtain ⟨ahpσ_20, bhpσ_20⟩ := hpσ_20
          have fr_σ_20 := fr_σ_18.call bhpσ_20 rfl rfl
          replace hF := q_letX hF ahpσ_20
          refine lv_aload_n hx hb dX7_takeTurn_67 rfl (lv_at hl 0 rfl) ?_
          refine lv_dup hx hb dX7_takeTurn_68 rfl ?_
          refine gs_X7_18_7 E hI ha dX7_takeTurn_69 ?_
          refine lv_topi (fun f_21 ef_21 => ?_)
          replace hF := q_letX hF ef_21
          refine lv_iconst (v := 1) hx hb dX7_takeTurn_72 (by decide) ?_
          refine lv_iadd hx hb dX7_takeTurn_73 ?_
          refine lv_topi (fun z_22 ez_22 => ?_)
          replace hF := q_letX hF ez_22
          refine ps_X7_18_7 E hI ha (by decide) dX7_takeTurn_74 (fun H locs σ_23 hσ_23 hI => ?_)
          replace hF := q_letX hF hσ_23
          have fr_σ_23 := fr_σ_20.si hσ_23 ha rfl
          refine lv_aload_n hx hb dX7_takeTurn_77 rfl (lv_at hl 0 rfl) ?_
          refine lv_aload_n hx hb dX7_takeTurn_78 rfl (lv_at hl 1 rfl) ?_
          refine q_ci (q_runV (As := [.ref r1]) (rest := []) E (hml.trans hl.1.symm) hI (c_X7_firstDoubter l X σ_23 a r1 ha hr1) kv_X7_147 ha ⟨rfl, by decide⟩ (show vwCl[6]? = some (RX7, TX7, 8) from rfl) rfl ⟨Nat.le_of_ble_eq_true rfl, Nat.le_of_ble_eq_true rfl⟩ ⟨Nat.le_refl _, Nat.le_refl _⟩ rfl (Nat.le_of_ble_eq_true rfl) dX7_takeTurn_79) hI (by decide) (fun r_24 σ_25 H locs hpσ_25 hkσ_25 hI => ?_)
          obtain ⟨ahpσ_25, bhpσ_25⟩ := hpσ_25
          have fr_σ_25 := fr_σ_23.call bhpσ_25 rfl rfl
          replace hF := q_biX hF ahpσ_25
          refine lv_istore_n (lv' := [(2, .int r_24), (0, .ref a), (1, .ref r1)]) hx hb dX7_takeTurn_82 rfl hl (by decide) rfl (fun ls hl => ?_)
          refine lv_iload_n hx hb dX7_takeTurn_83 rfl (lv_at hl 0 rfl) ?_
          refine lv_iconst (v := (-1)) hx hb dX7_takeTurn_84 (by decide) ?_
          refine q_icmp_ne (A := r_24.toInt) (B := (-1)) E rfl (by decide) (tgt := 93) dX7_takeTurn_85 (by decide) (fun c_26 => ?_) (fun c_26 => ?_)
          · skip
            replace hF := q_ifn hF c_26
            refine lv_aload_n hx hb dX7_takeTurn_93 rfl (lv_at hl 1 rfl) ?_
            refine lv_dup hx hb dX7_takeTurn_94 rfl ?_
            refine gs_X7_21_7 E hI ha dX7_takeTurn_95 ?_
            refine lv_topi (fun f_27 ef_27 => ?_)
            replace hF := q_letX hF ef_27
            refine lv_iconst (v := 1) hx hb dX7_takeTurn_98 (by decide) ?_
            refine lv_iadd hx hb dX7_takeTurn_99 ?_
            refine lv_topi (fun z_28 ez_28 => ?_)
            replace hF := q_letX hF ez_28
            refine ps_X7_21_7 E hI ha (by decide) dX7_takeTurn_100 (fun H locs σ_29 hσ_29 hI => ?_)
            replace hF := q_letX hF hσ_29
            have fr_σ_29 := fr_σ_25.si hσ_29 ha rfl
            refine lv_aload_n hx hb dX7_takeTurn_103 rfl (lv_at hl 2 rfl) ?_
            refine gs_X7_109_1 E hI hr1 dX7_takeTurn_104 ?_
            refine q_ci (q_runV (As := []) (rest := []) E (hml.trans hl.1.symm) hI (c_X2_topTruth l X σ_29 (q_rf X r1 2) (q_tk (k' := 3) hI hr1 rfl (by decide))) kv_X7_151 (q_tk (k' := 3) hI hr1 rfl (by decide)) ⟨rfl, by decide⟩ (show vwCl[2]? = some (RX2, TX2, 6) from rfl) rfl ⟨Nat.le_of_ble_eq_true rfl, Nat.le_of_ble_eq_true rfl⟩ ⟨Nat.le_refl _, Nat.le_refl _⟩ rfl (Nat.le_of_ble_eq_true rfl) dX7_takeTurn_107) hI (by decide) (fun r_30 σ_31 H locs hpσ_31 hkσ_31 hI => ?_)
            obtain ⟨ahpσ_31, bhpσ_31⟩ := hpσ_31
            rw [ahpσ_31] at hI
            replace hF := q_letX hF bhpσ_31
            refine q_if_eq (A := r_30.toInt) E rfl (tgt := 123) dX7_takeTurn_110 (by decide) (fun c_32 => ?_) (fun c_32 => ?_)
            · skip
              replace hF := q_ifp hF c_32
              refine lv_aload_n hx hb dX7_takeTurn_123 rfl (lv_at hl 2 rfl) ?_
              refine lv_iload_n hx hb dX7_takeTurn_124 rfl (lv_at hl 0 rfl) ?_
              refine q_ci (q_runV (As := [.int r_24]) (rest := []) E (hml.trans hl.1.symm) hI (c_X0_challenge l X σ_29 r1 r_24 hr1) kv_X7_155 hr1 ⟨rfl, by decide⟩ (show vwCl[0]? = some (RX0, TX0, 15) from rfl) rfl ⟨Nat.le_of_ble_eq_true rfl, Nat.le_of_ble_eq_true rfl⟩ ⟨Nat.le_refl _, Nat.le_refl _⟩ rfl (Nat.le_of_ble_eq_true rfl) dX7_takeTurn_125) hI (by decide) (fun r_33 σ_34 H locs hpσ_34 hkσ_34 hI => ?_)
              obtain ⟨ahpσ_34, bhpσ_34⟩ := hpσ_34
              have fr_σ_34 := fr_σ_29.call bhpσ_34 rfl rfl
              replace hF := q_biX hF ahpσ_34
              refine lv_pop hx hb dX7_takeTurn_128 rfl ?_
              exact q_retv E hr hlk hI ⟨(hF.trans hout), fr_σ_34⟩ dX7_takeTurn_129
            · skip
              replace hF := q_ifn hF c_32
              refine lv_aload_n hx hb dX7_takeTurn_113 rfl (lv_at hl 1 rfl) ?_
              refine lv_dup hx hb dX7_takeTurn_114 rfl ?_
              refine gs_X7_24_7 E hI ha dX7_takeTurn_115 ?_
              refine lv_topi (fun f_35 ef_35 => ?_)
              replace hF := q_letX hF ef_35
              refine lv_iconst (v := 1) hx hb dX7_takeTurn_118 (by decide) ?_
              refine lv_iadd hx hb dX7_takeTurn_119 ?_
              refine lv_topi (fun z_36 ez_36 => ?_)
              replace hF := q_letX hF ez_36
              refine ps_X7_24_7 E hI ha (by decide) dX7_takeTurn_120 (fun H locs σ_37 hσ_37 hI => ?_)
              replace hF := q_letX hF hσ_37
              have fr_σ_37 := fr_σ_29.si hσ_37 ha rfl
              refine lv_aload_n hx hb dX7_takeTurn_123 rfl (lv_at hl 2 rfl) ?_
              refine lv_iload_n hx hb dX7_takeTurn_124 rfl (lv_at hl 0 rfl) ?_
              refine q_ci (q_runV (As := [.int r_24]) (rest := []) E (hml.trans hl.1.symm) hI (c_X0_challenge l X σ_37 r1 r_24 hr1) kv_X7_155 hr1 ⟨rfl, by decide⟩ (show vwCl[0]? = some (RX0, TX0, 15) from rfl) rfl ⟨Nat.le_of_ble_eq_true rfl, Nat.le_of_ble_eq_true rfl⟩ ⟨Nat.le_refl _, Nat.le_refl _⟩ rfl (Nat.le_of_ble_eq_true rfl) dX7_takeTurn_125) hI (by decide) (fun r_38 σ_39 H locs hpσ_39 hkσ_39 hI => ?_)
              obtain ⟨ahpσ_39, bhpσ_39⟩ := hpσ_39
              have fr_σ_39 := fr_σ_37.call bhpσ_39 rfl rfl
              replace hF := q_biX hF ahpσ_39
              refine lv_pop hx hb dX7_takeTurn_128 rfl ?_
              exact q_retv E hr hlk hI ⟨(hF.trans hout), fr_σ_39⟩ dX7_takeTurn_129
          · skip
            replace hF := q_ifp hF c_26
            refine lv_aload_n hx hb dX7_takeTurn_88 rfl (lv_at hl 2 rfl) ?_
            refine q_cv (q_runV (As := []) (rest := []) E (hml.trans hl.1.symm) hI (c_X0_letLie l X σ_25 r1 hr1) kv_X7_126 hr1 ⟨rfl, by decide⟩ (show vwCl[0]? = some (RX0, TX0, 15) from rfl) rfl ⟨Nat.le_of_ble_eq_true rfl, Nat.le_of_ble_eq_true rfl⟩ ⟨Nat.le_refl _, Nat.le_refl _⟩ rfl (Nat.le_of_ble_eq_true rfl) dX7_takeTurn_89) hI (by decide) (fun σ_41 H locs hpσ_41 hkσ_41 hI => ?_)
            obtain ⟨ahpσ_41, bhpσ_41⟩ := hpσ_41
            have fr_σ_41 := fr_σ_25.call bhpσ_41 rfl rfl
            replace hF := q_letX hF ahpσ_41
            exact q_retv E hr hlk hI ⟨(hF.trans hout), fr_σ_41⟩ dX7_takeTurn_92
        · skip
          replace hF := q_ifp hF c_16
          refine lv_aload_n hx hb dX7_takeTurn_47 rfl (lv_at hl 0 rfl) ?_
          refine lv_dup hx hb dX7_takeTurn_48 rfl ?_
          refine gs_X7_15_7 E hI ha dX7_takeTurn_49 ?_
          refine lv_topi (fun f_42 ef_42 => ?_)
          replace hF := q_letX hF ef_42
          refine lv_iconst (v := 1) hx hb dX7_takeTurn_52 (by decide) ?_
          refine lv_iadd hx hb dX7_takeTurn_53 ?_
          refine lv_topi (fun z_43 ez_43 => ?_)
          replace hF := q_letX hF ez_43
          refine ps_X7_15_7 E hI ha (by decide) dX7_takeTurn_54 (fun H locs σ_44 hσ_44 hI => ?_)
          replace hF := q_letX hF hσ_44
          have fr_σ_44 := fr_σ_2.si hσ_44 ha rfl
          exact q_retv E hr hlk hI ⟨(hF.trans hout), fr_σ_44⟩ dX7_takeTurn_57
  refine q_if_eq (A := f_1.toInt) E rfl (tgt := 11) dX7_takeTurn_4 (by decide) (fun c_45 => ?_) (fun c_45 => ?_)
  · skip
    replace hF := q_ifp hF c_45
    exact J_11_2 σ _ _ ls fr_σ hF hI (lv_sub hl [0, 1] rfl)
  · skip
    replace hF := q_ifn hF c_45
    refine lv_aload_n hx hb dX7_takeTurn_7 rfl (lv_at hl 1 rfl) ?_
    refine q_cv (q_runV (As := []) (rest := []) E (hml.trans hl.1.symm) hI (c_X0_letLie l X σ r1 hr1) kv_X7_126 hr1 ⟨rfl, by decide⟩ (show vwCl[0]? = some (RX0, TX0, 15) from rfl) rfl ⟨Nat.le_of_ble_eq_true rfl, Nat.le_of_ble_eq_true rfl⟩ ⟨Nat.le_refl _, Nat.le_refl _⟩ rfl (Nat.le_of_ble_eq_true rfl) dX7_takeTurn_8) hI (by decide) (fun σ_47 H locs hpσ_47 hkσ_47 hI => ?_)
    obtain ⟨ahpσ_47, bhpσ_47⟩ := hpσ_47
    have fr_σ_47 := fr_σ.call bhpσ_47 rfl rfl
    replace hF := q_letX hF ahpσ_47
    exact J_11_2 σ_47 _ _ ls fr_σ_47 hF hI (lv_sub hl [0, 1] rfl)
end
