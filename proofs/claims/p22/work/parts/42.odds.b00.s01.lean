section
set_option maxRecDepth 100000 in
set_option maxHeartbeats 4000000 in
theorem c_X12_many (l : Launch) (X : XW) (σ : ST) (a : Nat) (v1 : Int32) (ha : q_kd X a = 12) (hG : m_G (m_c X σ a)) : Met l yX12_many (q_ws yX12_many cX12_many 2 (some .int)) (q_rm 2 42) (q_P X σ [.ref a, .int v1]) (q_Qi X 8 σ (fun (r : Int32) (σ' : ST) => (r, σ') = F_X12_many X σ a v1 ∧ q_ow [(12, 0), (12, 1)] [] X σ σ')) 0 0 (q_reg X) := by
  refine q_met 8 (by first | exact rfl | decide +kernel) rfl (Nat.le_of_ble_eq_true rfl) (fun p e s m below meth c E hml hr hlk hI ls hl => ?_)
  have hx := E.1
  have hb := E.2.1
  have hl : lv_has ls 2 [(0, .ref a), (1, .int v1)] := hl
  have feσ : m_c X σ a = m_c X σ a := rfl
  have fr_σ : q_ow [(12, 0), (12, 1)] [] X σ σ := q_ow.rf
  have hh := hG.hd
  obtain ⟨out, hout⟩ : ∃ o, o = F_X12_many X σ a v1 := ⟨_, rfl⟩
  have hF := hout.symm
  unfold F_X12_many at hF
  refine lv_aload_n hx hb dX12_many_0 rfl (lv_at hl 0 rfl) ?_
  refine lv_iconst (v := 0) hx hb dX12_many_1 zki_0 ?_
  refine ps_X12_59_12 E hI ha (by decide) dX12_many_2 (fun H locs σ_1 hσ_1 hI => ?_)
  replace hF := q_letX hF hσ_1
  have fr_σ_1 := fr_σ.si hσ_1 ha rfl
  have mcσ_1 := m_wo hσ_1 (m_ne ha (q_tk (f := 20) (k' := 34) hI ha rfl (by decide)) (by decide))
  have feσ_1 : m_c X σ_1 a = m_c X σ a := (funext mcσ_1).trans feσ
  refine lv_aload_n hx hb dX12_many_5 rfl (lv_at hl 0 rfl) ?_
  refine lv_iconst (v := 0) hx hb dX12_many_6 zki_0 ?_
  refine ps_X12_62_12 E hI ha (by decide) dX12_many_7 (fun H locs σ_2 hσ_2 hI => ?_)
  replace hF := q_letX hF hσ_2
  have fr_σ_2 := fr_σ_1.si hσ_2 ha rfl
  have mcσ_2 := m_wo hσ_2 (m_ne ha (q_tk (f := 20) (k' := 34) hI ha rfl (by decide)) (by decide))
  have feσ_2 : m_c X σ_2 a = m_c X σ a := (funext mcσ_2).trans feσ_1
  refine lv_iload_n hx hb dX12_many_10 rfl (lv_at hl 1 rfl) ?_
  refine lv_i2l hx hb dX12_many_11 rfl ?_
  refine lv_topl (fun y_3 ey_3 => ?_)
  replace hF := q_letX hF ey_3
  have ggy_3 := q_rng v1
  have iy_3 : y_3.toInt = v1.toInt := by rw [ey_3]; exact (q_i2l _).trans rfl
  refine lv_lconst (v := 0) hx hb dX12_many_12 (by decide) ?_
  refine lv_ldc2 (v := 10) hx hb E.2.2.1 (E.2.2.2.1 _ (q_in_t8 (i := 115) (by first | rfl | decide +kernel) rfl)) dX12_many_13 ?_
  have kc_4 : (0 : Int64).toInt = 0 := rfl
  have kc_5 : (10 : Int64).toInt = 10 := rfl
  refine q_ci (q_runS (As := [.long y_3, .long 0, .long 10]) (rest := []) E (hml.trans hl.1.symm) hI (c_X12_isIn l X σ_2 y_3 (0 : Int64) (10 : Int64)) ks_X12_94 rfl ⟨Nat.le_of_ble_eq_true rfl, Nat.le_of_ble_eq_true rfl⟩ ⟨Nat.le_refl _, Nat.le_refl _⟩ rfl (Nat.le_of_ble_eq_true rfl) dX12_many_16) hI (Nat.le_of_ble_eq_true rfl) (fun r_6 σ_7 H locs hpσ_7 hkσ_7 hI => ?_)
  have ahpσ_7 := hpσ_7.1
  have bhpσ_7 := hpσ_7.2.1
  have chpσ_7 := hpσ_7.2.2.1
  have dhpσ_7 := hpσ_7.2.2.2
  clear hpσ_7
  replace hI := q_Irw ahpσ_7 hI
  replace hF := q_letX hF dhpσ_7
  refine q_if_ne (A := r_6.toInt) E rfl (tgt := 28) dX12_many_19 (by decide) (fun c_8 => ?_) (fun c_8 => ?_)
  · skip
    replace hF := q_ifn hF c_8
    replace c_8 := q_ifOne bhpσ_7 c_8
    replace chpσ_7 := q_ifYes chpσ_7 c_8
    refine lv_iload_n hx hb dX12_many_28 rfl (lv_at hl 1 rfl) ?_
    by_cases c_9 : v1.toInt = 6
    · refine lv_tableIn (off := 35) (tgt := 64) hx hb dX12_many_29 (by first | (clear hh ggy_3 kc_4 kc_5 ahpσ_7 bhpσ_7 dhpσ_7 c_8 chpσ_7; omega) | omega) (by first | (clear hh ggy_3 kc_4 kc_5 ahpσ_7 bhpσ_7 dhpσ_7 c_8 chpσ_7; omega) | omega) (by rw [c_9]; rfl) (by decide) ?_
      replace hF := q_ifp hF c_9
      refine lv_aload_n hx hb dX12_many_64 rfl (lv_at hl 0 rfl) ?_
      refine gs_X12_35_12 E hI ha dX12_many_65 ?_
      refine lv_bipush (v := 6) hx hb dX12_many_68 zkb_6 ?_
      refine q_iald E hI (q_tk (k' := 34) hI ha rfl (Nat.succ_ne_zero _)) ⟨by decide, rfl⟩ (by decide) (by rw [q_lnk (v := 4650) hI (q_tk (k' := 34) hI ha rfl (Nat.succ_ne_zero _)) rfl (by decide)]; decide) dX12_many_70 ?_
      refine lv_topi (fun f_10 ef_10 => ?_)
      replace hF := q_letX hF ef_10
      have if_10 : f_10.toInt = m_c X σ a 6 := (m_rd ef_10 (by decide)).trans (congrFun feσ_2 _)
      refine q_if_ge (A := f_10.toInt) E rfl (tgt := 83) dX12_many_71 (by decide) (fun c_11 => ?_) (fun c_11 => ?_)
      · skip
        replace hF := q_ifn hF (Int.not_lt.mpr c_11)
        refine lv_aload_n hx hb dX12_many_83 rfl (lv_at hl 0 rfl) ?_
        refine gs_X12_35_12 E hI ha dX12_many_84 ?_
        refine lv_bipush (v := 6) hx hb dX12_many_87 zkb_6 ?_
        refine q_iald E hI (q_tk (k' := 34) hI ha rfl (Nat.succ_ne_zero _)) ⟨by decide, rfl⟩ (by decide) (by rw [q_lnk (v := 4650) hI (q_tk (k' := 34) hI ha rfl (Nat.succ_ne_zero _)) rfl (by decide)]; decide) dX12_many_89 ?_
        refine lv_topi (fun f_12 ef_12 => ?_)
        replace hF := q_letX hF ef_12
        have if_12 : f_12.toInt = m_c X σ a 6 := (m_rd ef_12 (by decide)).trans (congrFun feσ_2 _)
        exact q_reti E hr hlk hI ⟨(hF.trans hout), fr_σ_2⟩ dX12_many_90
      · skip
        replace hF := q_ifp hF c_11
        refine lv_aload_n hx hb dX12_many_74 rfl (lv_at hl 0 rfl) ?_
        refine lv_bipush (v := 8) hx hb dX12_many_75 zkb_8 ?_
        have kc_13 : (8 : Int32).toInt = 8 := zt_8
        refine q_ci (q_rV11_1 (rest := []) E (hml.trans hl.1.symm) hI (c_X12_refuse l X σ_2 a (8 : Int32) ha) kv_X12_284 ha ⟨Nat.le_of_ble_eq_true rfl, Nat.le_of_ble_eq_true rfl⟩ (Nat.le_of_ble_eq_true rfl) dX12_many_77) hI (Nat.le_of_ble_eq_true rfl) (fun r_14 σ_15 H locs hpσ_15 hkσ_15 hI => ?_)
        have ahpσ_15 := hpσ_15.1
        have bhpσ_15 := hpσ_15.2.1
        have chpσ_15 := hpσ_15.2.2
        clear hpσ_15
        have fr_σ_15 := fr_σ_2.call chpσ_15 rfl rfl
        replace hF := q_biX hF bhpσ_15
        have mcσ_15 := m_cK hkσ_15 hI.1 ha (by decide)
        have feσ_15 : m_c X σ_15 a = m_c X σ a := (funext mcσ_15).trans feσ_2
        refine lv_goto (tgt := 90) hx hb dX12_many_80 (by decide) ?_
        exact q_reti E hr hlk hI ⟨(hF.trans hout), fr_σ_15⟩ dX12_many_90
    replace hF := q_ifn hF c_9
    by_cases c_16 : v1.toInt = 7
    · refine lv_tableIn (off := 62) (tgt := 91) hx hb dX12_many_29 (by first | (clear hh ggy_3 kc_4 kc_5 ahpσ_7 bhpσ_7 dhpσ_7 c_8 chpσ_7; omega) | omega) (by first | (clear hh ggy_3 kc_4 kc_5 ahpσ_7 bhpσ_7 dhpσ_7 c_8 chpσ_7; omega) | omega) (by rw [c_16]; rfl) (by decide) ?_
      replace hF := q_ifp hF c_16
      refine lv_aload_n hx hb dX12_many_91 rfl (lv_at hl 0 rfl) ?_
      refine q_ci (q_rV11_0 (rest := []) E (hml.trans hl.1.symm) hI (c_X12_heapMany l X σ_2 a ha (by rw [feσ_2]; exact hG)) kv_X12_287 ha ⟨Nat.le_of_ble_eq_true rfl, Nat.le_of_ble_eq_true rfl⟩ (Nat.le_of_ble_eq_true rfl) dX12_many_92) hI (Nat.le_of_ble_eq_true rfl) (fun r_17 σ_18 H locs hpσ_18 hkσ_18 hI => ?_)
      have ahpσ_18 := hpσ_18.1
      have bhpσ_18 := hpσ_18.2.1
      have chpσ_18 := hpσ_18.2.2.1
      have dhpσ_18 := hpσ_18.2.2.2
      clear hpσ_18
      replace hI := q_Irw ahpσ_18 hI
      rw [feσ_2] at bhpσ_18
      replace hF := q_letX hF dhpσ_18
      exact q_reti E hr hlk hI ⟨(hF.trans hout), fr_σ_2⟩ dX12_many_95
    replace hF := q_ifn hF c_16
    by_cases c_19 : v1.toInt = 8
    · refine lv_tableIn (off := 67) (tgt := 96) hx hb dX12_many_29 (by first | (clear hh ggy_3 kc_4 kc_5 ahpσ_7 bhpσ_7 dhpσ_7 c_8 chpσ_7; omega) | omega) (by first | (clear hh ggy_3 kc_4 kc_5 ahpσ_7 bhpσ_7 dhpσ_7 c_8 chpσ_7; omega) | omega) (by rw [c_19]; rfl) (by decide) ?_
      replace hF := q_ifp hF c_19
      refine lv_aload_n hx hb dX12_many_96 rfl (lv_at hl 0 rfl) ?_
      refine gs_X12_35_12 E hI ha dX12_many_97 ?_
      refine lv_bipush (v := 7) hx hb dX12_many_100 zkb_7 ?_
      refine q_iald E hI (q_tk (k' := 34) hI ha rfl (Nat.succ_ne_zero _)) ⟨by decide, rfl⟩ (by decide) (by rw [q_lnk (v := 4650) hI (q_tk (k' := 34) hI ha rfl (Nat.succ_ne_zero _)) rfl (by decide)]; decide) dX12_many_102 ?_
      refine lv_topi (fun f_20 ef_20 => ?_)
      replace hF := q_letX hF ef_20
      have if_20 : f_20.toInt = m_c X σ a 7 := (m_rd ef_20 (by decide)).trans (congrFun feσ_2 _)
      exact q_reti E hr hlk hI ⟨(hF.trans hout), fr_σ_2⟩ dX12_many_103
    replace hF := q_ifn hF c_19
    by_cases c_21 : v1.toInt = 9
    · refine lv_tableIn (off := 75) (tgt := 104) hx hb dX12_many_29 (by first | (clear hh ggy_3 kc_4 kc_5 ahpσ_7 bhpσ_7 dhpσ_7 c_8 chpσ_7; omega) | omega) (by first | (clear hh ggy_3 kc_4 kc_5 ahpσ_7 bhpσ_7 dhpσ_7 c_8 chpσ_7; omega) | omega) (by rw [c_21]; rfl) (by decide) ?_
      replace hF := q_ifp hF c_21
      refine lv_aload_n hx hb dX12_many_104 rfl (lv_at hl 0 rfl) ?_
      refine gs_X12_35_12 E hI ha dX12_many_105 ?_
      refine lv_bipush (v := 8) hx hb dX12_many_108 zkb_8 ?_
      refine q_iald E hI (q_tk (k' := 34) hI ha rfl (Nat.succ_ne_zero _)) ⟨by decide, rfl⟩ (by decide) (by rw [q_lnk (v := 4650) hI (q_tk (k' := 34) hI ha rfl (Nat.succ_ne_zero _)) rfl (by decide)]; decide) dX12_many_110 ?_
      refine lv_topi (fun f_22 ef_22 => ?_)
      replace hF := q_letX hF ef_22
      have if_22 : f_22.toInt = m_c X σ a 8 := (m_rd ef_22 (by decide)).trans (congrFun feσ_2 _)
      refine q_if_ge (A := f_22.toInt) E rfl (tgt := 123) dX12_many_111 (by decide) (fun c_23 => ?_) (fun c_23 => ?_)
      · skip
        replace hF := q_ifn hF (Int.not_lt.mpr c_23)
        refine lv_aload_n hx hb dX12_many_123 rfl (lv_at hl 0 rfl) ?_
        refine gs_X12_35_12 E hI ha dX12_many_124 ?_
        refine lv_bipush (v := 8) hx hb dX12_many_127 zkb_8 ?_
        refine q_iald E hI (q_tk (k' := 34) hI ha rfl (Nat.succ_ne_zero _)) ⟨by decide, rfl⟩ (by decide) (by rw [q_lnk (v := 4650) hI (q_tk (k' := 34) hI ha rfl (Nat.succ_ne_zero _)) rfl (by decide)]; decide) dX12_many_129 ?_
        refine lv_topi (fun f_24 ef_24 => ?_)
        replace hF := q_letX hF ef_24
        have if_24 : f_24.toInt = m_c X σ a 8 := (m_rd ef_24 (by decide)).trans (congrFun feσ_2 _)
        exact q_reti E hr hlk hI ⟨(hF.trans hout), fr_σ_2⟩ dX12_many_130
      · skip
        replace hF := q_ifp hF c_23
        refine lv_aload_n hx hb dX12_many_114 rfl (lv_at hl 0 rfl) ?_
        refine lv_bipush (v := 8) hx hb dX12_many_115 zkb_8 ?_
        have kc_25 : (8 : Int32).toInt = 8 := zt_8
        refine q_ci (q_rV11_1 (rest := []) E (hml.trans hl.1.symm) hI (c_X12_refuse l X σ_2 a (8 : Int32) ha) kv_X12_284 ha ⟨Nat.le_of_ble_eq_true rfl, Nat.le_of_ble_eq_true rfl⟩ (Nat.le_of_ble_eq_true rfl) dX12_many_117) hI (Nat.le_of_ble_eq_true rfl) (fun r_26 σ_27 H locs hpσ_27 hkσ_27 hI => ?_)
        have ahpσ_27 := hpσ_27.1
        have bhpσ_27 := hpσ_27.2.1
        have chpσ_27 := hpσ_27.2.2
        clear hpσ_27
        have fr_σ_27 := fr_σ_2.call chpσ_27 rfl rfl
        replace hF := q_biX hF bhpσ_27
        have mcσ_27 := m_cK hkσ_27 hI.1 ha (by decide)
        have feσ_27 : m_c X σ_27 a = m_c X σ a := (funext mcσ_27).trans feσ_2
        refine lv_goto (tgt := 130) hx hb dX12_many_120 (by decide) ?_
        exact q_reti E hr hlk hI ⟨(hF.trans hout), fr_σ_27⟩ dX12_many_130
    replace hF := q_ifn hF c_21
    by_cases c_28 : v1.toInt = 10
    · refine lv_tableIn (off := 102) (tgt := 131) hx hb dX12_many_29 (by first | (clear hh ggy_3 kc_4 kc_5 ahpσ_7 bhpσ_7 dhpσ_7 c_8 chpσ_7; omega) | omega) (by first | (clear hh ggy_3 kc_4 kc_5 ahpσ_7 bhpσ_7 dhpσ_7 c_8 chpσ_7; omega) | omega) (by rw [c_28]; rfl) (by decide) ?_
      replace hF := q_ifp hF c_28
      refine lv_aload_n hx hb dX12_many_131 rfl (lv_at hl 0 rfl) ?_
      refine gs_X12_35_12 E hI ha dX12_many_132 ?_
      refine lv_bipush (v := 9) hx hb dX12_many_135 zkb_9 ?_
      refine q_iald E hI (q_tk (k' := 34) hI ha rfl (Nat.succ_ne_zero _)) ⟨by decide, rfl⟩ (by decide) (by rw [q_lnk (v := 4650) hI (q_tk (k' := 34) hI ha rfl (Nat.succ_ne_zero _)) rfl (by decide)]; decide) dX12_many_137 ?_
      refine lv_topi (fun f_29 ef_29 => ?_)
      replace hF := q_letX hF ef_29
      have if_29 : f_29.toInt = m_c X σ a 9 := (m_rd ef_29 (by decide)).trans (congrFun feσ_2 _)
      exact q_reti E hr hlk hI ⟨(hF.trans hout), fr_σ_2⟩ dX12_many_138
    replace hF := q_ifn hF c_28
    refine lv_tableOut (tgt := 139) hx hb dX12_many_29 (by first | (clear hh kc_4 kc_5 ahpσ_7 bhpσ_7 dhpσ_7 c_8 chpσ_7; omega) | omega) (by decide) ?_
    refine lv_aload_n hx hb dX12_many_139 rfl (lv_at hl 0 rfl) ?_
    refine gs_X12_35_12 E hI ha dX12_many_140 ?_
    refine lv_iload_n hx hb dX12_many_143 rfl (lv_at hl 1 rfl) ?_
    refine q_iald E hI (q_tk (k' := 34) hI ha rfl (Nat.succ_ne_zero _)) ⟨by decide, rfl⟩ (by first | (clear hh kc_5 ahpσ_7 bhpσ_7 dhpσ_7 c_8; omega) | omega) (by rw [q_lnk (v := 4650) hI (q_tk (k' := 34) hI ha rfl (Nat.succ_ne_zero _)) rfl (by decide)]; omega) dX12_many_144 ?_
    refine lv_topi (fun f_30 ef_30 => ?_)
    replace hF := q_letX hF ef_30
    have if_30 : f_30.toInt = m_c X σ a v1.toInt := (m_rd ef_30 rfl).trans (congrFun feσ_2 _)
    exact q_reti E hr hlk hI ⟨(hF.trans hout), fr_σ_2⟩ dX12_many_145
  · skip
    replace hF := q_ifp hF c_8
    replace chpσ_7 := q_ifNo chpσ_7 c_8
    refine lv_aload_n hx hb dX12_many_22 rfl (lv_at hl 0 rfl) ?_
    refine lv_iconst (v := 5) hx hb dX12_many_23 zki_5 ?_
    have kc_31 : (5 : Int32).toInt = 5 := zt_5
    refine q_ci (q_rV11_1 (rest := []) E (hml.trans hl.1.symm) hI (c_X12_refuse l X σ_2 a (5 : Int32) ha) kv_X12_284 ha ⟨Nat.le_of_ble_eq_true rfl, Nat.le_of_ble_eq_true rfl⟩ (Nat.le_of_ble_eq_true rfl) dX12_many_24) hI (Nat.le_of_ble_eq_true rfl) (fun r_32 σ_33 H locs hpσ_33 hkσ_33 hI => ?_)
    have ahpσ_33 := hpσ_33.1
    have bhpσ_33 := hpσ_33.2.1
    have chpσ_33 := hpσ_33.2.2
    clear hpσ_33
    have fr_σ_33 := fr_σ_2.call chpσ_33 rfl rfl
    replace hF := q_biX hF bhpσ_33
    have mcσ_33 := m_cK hkσ_33 hI.1 ha (by decide)
    have feσ_33 : m_c X σ_33 a = m_c X σ a := (funext mcσ_33).trans feσ_2
    exact q_reti E hr hlk hI ⟨(hF.trans hout), fr_σ_33⟩ dX12_many_27
end
