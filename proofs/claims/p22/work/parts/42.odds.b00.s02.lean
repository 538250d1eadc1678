section
set_option maxRecDepth 100000 in
set_option maxHeartbeats 4000000 in
theorem c_X12_player (l : Launch) (X : XW) (σ : ST) (a : Nat) (v1 : Int32) (v2 : Int32) (ha : q_kd X a = 12) (hG : m_G (m_c X σ a)) : Met l yX12_player (q_ws yX12_player cX12_player 3 (some .int)) (q_rm 2 46) (q_P X σ [.ref a, .int v1, .int v2]) (q_Qi X 8 σ (fun (r : Int32) (σ' : ST) => (r, σ') = F_X12_player X σ a v1 v2 ∧ q_ow [(12, 0), (12, 1)] [] X σ σ')) 0 0 (q_reg X) := by
  refine q_met 8 (by first | exact rfl | decide +kernel) rfl (Nat.le_of_ble_eq_true rfl) (fun p e s m below meth c E hml hr hlk hI ls hl => ?_)
  have hx := E.1
  have hb := E.2.1
  have hl : lv_has ls 3 [(0, .ref a), (1, .int v1), (2, .int v2)] := hl
  have feσ : m_c X σ a = m_c X σ a := rfl
  have fr_σ : q_ow [(12, 0), (12, 1)] [] X σ σ := q_ow.rf
  have hh := hG.hd
  obtain ⟨out, hout⟩ : ∃ o, o = F_X12_player X σ a v1 v2 := ⟨_, rfl⟩
  have hF := hout.symm
  unfold F_X12_player at hF
  refine lv_aload_n hx hb dX12_player_0 rfl (lv_at hl 0 rfl) ?_
  refine lv_iconst (v := 0) hx hb dX12_player_1 zki_0 ?_
  refine ps_X12_59_12 E hI ha (by decide) dX12_player_2 (fun H locs σ_1 hσ_1 hI => ?_)
  replace hF := q_letX hF hσ_1
  have fr_σ_1 := fr_σ.si hσ_1 ha rfl
  have mcσ_1 := m_wo hσ_1 (m_ne ha (q_tk (f := 20) (k' := 34) hI ha rfl (by decide)) (by decide))
  have feσ_1 : m_c X σ_1 a = m_c X σ a := (funext mcσ_1).trans feσ
  refine lv_aload_n hx hb dX12_player_5 rfl (lv_at hl 0 rfl) ?_
  refine lv_iconst (v := 0) hx hb dX12_player_6 zki_0 ?_
  refine ps_X12_62_12 E hI ha (by decide) dX12_player_7 (fun H locs σ_2 hσ_2 hI => ?_)
  replace hF := q_letX hF hσ_2
  have fr_σ_2 := fr_σ_1.si hσ_2 ha rfl
  have mcσ_2 := m_wo hσ_2 (m_ne ha (q_tk (f := 20) (k' := 34) hI ha rfl (by decide)) (by decide))
  have feσ_2 : m_c X σ_2 a = m_c X σ a := (funext mcσ_2).trans feσ_1
  refine lv_aload_n hx hb dX12_player_10 rfl (lv_at hl 0 rfl) ?_
  refine lv_iload_n hx hb dX12_player_11 rfl (lv_at hl 1 rfl) ?_
  refine q_ci (q_rV11_1 (rest := []) E (hml.trans hl.1.symm) hI (c_X12_isPlayerAt l X σ_2 a v1 ha (by rw [feσ_2]; exact hG)) kv_X12_290 ha ⟨Nat.le_of_ble_eq_true rfl, Nat.le_of_ble_eq_true rfl⟩ (Nat.le_of_ble_eq_true rfl) dX12_player_12) hI (Nat.le_of_ble_eq_true rfl) (fun r_3 σ_4 H locs hpσ_4 hkσ_4 hI => ?_)
  have ahpσ_4 := hpσ_4.1
  have bhpσ_4 := hpσ_4.2.1
  have chpσ_4 := hpσ_4.2.2.1
  have dhpσ_4 := hpσ_4.2.2.2
  clear hpσ_4
  replace hI := q_Irw ahpσ_4 hI
  rw [feσ_2] at chpσ_4
  replace hF := q_letX hF dhpσ_4
  refine q_if_ne (A := r_3.toInt) E rfl (tgt := 24) dX12_player_15 (by decide) (fun c_5 => ?_) (fun c_5 => ?_)
  · skip
    replace hF := q_ifn hF c_5
    replace c_5 := q_ifOne bhpσ_4 c_5
    replace chpσ_4 := q_ifYes chpσ_4 c_5
    refine lv_iload_n hx hb dX12_player_24 rfl (lv_at hl 2 rfl) ?_
    by_cases c_6 : v2.toInt = 0
    · refine lv_tableIn (off := 39) (tgt := 64) hx hb dX12_player_25 (by first | (clear hh ahpσ_4 bhpσ_4 dhpσ_4 c_5 chpσ_4; omega) | omega) (by first | (clear hh ahpσ_4 bhpσ_4 dhpσ_4 c_5 chpσ_4; omega) | omega) (by rw [c_6]; rfl) (by decide) ?_
      replace hF := q_ifp hF c_6
      refine lv_aload_n hx hb dX12_player_64 rfl (lv_at hl 0 rfl) ?_
      refine gs_X12_35_12 E hI ha dX12_player_65 ?_
      refine lv_bipush (v := 10) hx hb dX12_player_68 zkb_10 ?_
      refine lv_iload_n hx hb dX12_player_70 rfl (lv_at hl 1 rfl) ?_
      refine lv_iadd hx hb dX12_player_71 ?_
      refine lv_topi (fun z_7 ez_7 => ?_)
      replace hF := q_letX hF ez_7
      have iz_7 := q_addI (A := 10) (B := v1.toInt) ez_7 (by decide) rfl (by first | (clear hh ahpσ_4 bhpσ_4 dhpσ_4 c_5; omega) | omega) (by first | (clear ahpσ_4 bhpσ_4 dhpσ_4 c_5; omega) | omega)
      refine q_iald E hI (q_tk (k' := 34) hI ha rfl (Nat.succ_ne_zero _)) ⟨by decide, rfl⟩ (by first | (clear hh ahpσ_4 bhpσ_4 dhpσ_4 c_5; omega) | omega) (by rw [q_lnk (v := 4650) hI (q_tk (k' := 34) hI ha rfl (Nat.succ_ne_zero _)) rfl (by decide)]; omega) dX12_player_72 ?_
      refine lv_topi (fun f_8 ef_8 => ?_)
      replace hF := q_letX hF ef_8
      have if_8 : f_8.toInt = m_c X σ a (10 + v1.toInt) := (m_rd ef_8 iz_7).trans (congrFun feσ_2 _)
      exact q_reti E hr hlk hI ⟨(hF.trans hout), fr_σ_2⟩ dX12_player_73
    replace hF := q_ifn hF c_6
    by_cases c_9 : v2.toInt = 1
    · refine lv_tableIn (off := 49) (tgt := 74) hx hb dX12_player_25 (by first | (clear hh ahpσ_4 bhpσ_4 dhpσ_4 c_5 chpσ_4; omega) | omega) (by first | (clear hh ahpσ_4 bhpσ_4 dhpσ_4 c_5 chpσ_4; omega) | omega) (by rw [c_9]; rfl) (by decide) ?_
      replace hF := q_ifp hF c_9
      refine lv_aload_n hx hb dX12_player_74 rfl (lv_at hl 0 rfl) ?_
      refine gs_X12_35_12 E hI ha dX12_player_75 ?_
      refine lv_bipush (v := 16) hx hb dX12_player_78 zkb_16 ?_
      refine lv_iload_n hx hb dX12_player_80 rfl (lv_at hl 1 rfl) ?_
      refine lv_iadd hx hb dX12_player_81 ?_
      refine lv_topi (fun z_10 ez_10 => ?_)
      replace hF := q_letX hF ez_10
      have iz_10 := q_addI (A := 16) (B := v1.toInt) ez_10 (by decide) rfl (by first | (clear hh ahpσ_4 bhpσ_4 dhpσ_4 c_5; omega) | omega) (by first | (clear ahpσ_4 bhpσ_4 dhpσ_4 c_5; omega) | omega)
      refine q_iald E hI (q_tk (k' := 34) hI ha rfl (Nat.succ_ne_zero _)) ⟨by decide, rfl⟩ (by first | (clear hh ahpσ_4 bhpσ_4 dhpσ_4 c_5; omega) | omega) (by rw [q_lnk (v := 4650) hI (q_tk (k' := 34) hI ha rfl (Nat.succ_ne_zero _)) rfl (by decide)]; omega) dX12_player_82 ?_
      refine lv_topi (fun f_11 ef_11 => ?_)
      replace hF := q_letX hF ef_11
      have if_11 : f_11.toInt = m_c X σ a (16 + v1.toInt) := (m_rd ef_11 iz_10).trans (congrFun feσ_2 _)
      exact q_reti E hr hlk hI ⟨(hF.trans hout), fr_σ_2⟩ dX12_player_83
    replace hF := q_ifn hF c_9
    by_cases c_12 : v2.toInt = 2
    · refine lv_tableIn (off := 59) (tgt := 84) hx hb dX12_player_25 (by first | (clear hh ahpσ_4 bhpσ_4 dhpσ_4 c_5 chpσ_4; omega) | omega) (by first | (clear hh ahpσ_4 bhpσ_4 dhpσ_4 c_5 chpσ_4; omega) | omega) (by rw [c_12]; rfl) (by decide) ?_
      replace hF := q_ifp hF c_12
      refine lv_aload_n hx hb dX12_player_84 rfl (lv_at hl 0 rfl) ?_
      refine lv_iload_n hx hb dX12_player_85 rfl (lv_at hl 1 rfl) ?_
      refine q_ci (q_rV11_1 (rest := []) E (hml.trans hl.1.symm) hI (c_X12_cardsOf l X σ_2 a v1 ha (by rw [feσ_2]; exact hG) (by first | (clear ahpσ_4 bhpσ_4 dhpσ_4 c_5; omega) | omega)) kv_X12_293 ha ⟨Nat.le_of_ble_eq_true rfl, Nat.le_of_ble_eq_true rfl⟩ (Nat.le_of_ble_eq_true rfl) dX12_player_86) hI (Nat.le_of_ble_eq_true rfl) (fun r_13 σ_14 H locs hpσ_14 hkσ_14 hI => ?_)
      have ahpσ_14 := hpσ_14.1
      have bhpσ_14 := hpσ_14.2.1
      have chpσ_14 := hpσ_14.2.2.1
      have dhpσ_14 := hpσ_14.2.2.2
      clear hpσ_14
      replace hI := q_Irw ahpσ_14 hI
      rw [feσ_2] at bhpσ_14
      replace hF := q_letX hF dhpσ_14
      exact q_reti E hr hlk hI ⟨(hF.trans hout), fr_σ_2⟩ dX12_player_89
    replace hF := q_ifn hF c_12
    by_cases c_15 : v2.toInt = 3
    · refine lv_tableIn (off := 65) (tgt := 90) hx hb dX12_player_25 (by first | (clear hh ahpσ_4 bhpσ_4 dhpσ_4 c_5 chpσ_4; omega) | omega) (by first | (clear hh ahpσ_4 bhpσ_4 dhpσ_4 c_5 chpσ_4; omega) | omega) (by rw [c_15]; rfl) (by decide) ?_
      replace hF := q_ifp hF c_15
      refine lv_aload_n hx hb dX12_player_90 rfl (lv_at hl 0 rfl) ?_
      refine gs_X12_35_12 E hI ha dX12_player_91 ?_
      refine lv_bipush (v := 22) hx hb dX12_player_94 zkb_22 ?_
      refine lv_iload_n hx hb dX12_player_96 rfl (lv_at hl 1 rfl) ?_
      refine lv_iadd hx hb dX12_player_97 ?_
      refine lv_topi (fun z_16 ez_16 => ?_)
      replace hF := q_letX hF ez_16
      have iz_16 := q_addI (A := 22) (B := v1.toInt) ez_16 (by decide) rfl (by first | (clear hh ahpσ_4 bhpσ_4 dhpσ_4 c_5; omega) | omega) (by first | (clear ahpσ_4 bhpσ_4 dhpσ_4 c_5; omega) | omega)
      refine q_iald E hI (q_tk (k' := 34) hI ha rfl (Nat.succ_ne_zero _)) ⟨by decide, rfl⟩ (by first | (clear hh ahpσ_4 bhpσ_4 dhpσ_4 c_5; omega) | omega) (by rw [q_lnk (v := 4650) hI (q_tk (k' := 34) hI ha rfl (Nat.succ_ne_zero _)) rfl (by decide)]; omega) dX12_player_98 ?_
      refine lv_topi (fun f_17 ef_17 => ?_)
      replace hF := q_letX hF ef_17
      have if_17 : f_17.toInt = m_c X σ a (22 + v1.toInt) := (m_rd ef_17 iz_16).trans (congrFun feσ_2 _)
      exact q_reti E hr hlk hI ⟨(hF.trans hout), fr_σ_2⟩ dX12_player_99
    replace hF := q_ifn hF c_15
    by_cases c_18 : v2.toInt = 4
    · refine lv_tableIn (off := 75) (tgt := 100) hx hb dX12_player_25 (by first | (clear hh ahpσ_4 bhpσ_4 dhpσ_4 c_5 chpσ_4; omega) | omega) (by first | (clear hh ahpσ_4 bhpσ_4 dhpσ_4 c_5 chpσ_4; omega) | omega) (by rw [c_18]; rfl) (by decide) ?_
      replace hF := q_ifp hF c_18
      refine lv_aload_n hx hb dX12_player_100 rfl (lv_at hl 0 rfl) ?_
      refine gs_X12_35_12 E hI ha dX12_player_101 ?_
      refine lv_bipush (v := 28) hx hb dX12_player_104 zkb_28 ?_
      refine lv_iload_n hx hb dX12_player_106 rfl (lv_at hl 1 rfl) ?_
      refine lv_iadd hx hb dX12_player_107 ?_
      refine lv_topi (fun z_19 ez_19 => ?_)
      replace hF := q_letX hF ez_19
      have iz_19 := q_addI (A := 28) (B := v1.toInt) ez_19 (by decide) rfl (by first | (clear hh ahpσ_4 bhpσ_4 dhpσ_4 c_5; omega) | omega) (by first | (clear ahpσ_4 bhpσ_4 dhpσ_4 c_5; omega) | omega)
      refine q_iald E hI (q_tk (k' := 34) hI ha rfl (Nat.succ_ne_zero _)) ⟨by decide, rfl⟩ (by first | (clear hh ahpσ_4 bhpσ_4 dhpσ_4 c_5; omega) | omega) (by rw [q_lnk (v := 4650) hI (q_tk (k' := 34) hI ha rfl (Nat.succ_ne_zero _)) rfl (by decide)]; omega) dX12_player_108 ?_
      refine lv_topi (fun f_20 ef_20 => ?_)
      replace hF := q_letX hF ef_20
      have if_20 : f_20.toInt = m_c X σ a (28 + v1.toInt) := (m_rd ef_20 iz_19).trans (congrFun feσ_2 _)
      exact q_reti E hr hlk hI ⟨(hF.trans hout), fr_σ_2⟩ dX12_player_109
    replace hF := q_ifn hF c_18
    by_cases c_21 : v2.toInt = 5
    · refine lv_tableIn (off := 85) (tgt := 110) hx hb dX12_player_25 (by first | (clear hh ahpσ_4 bhpσ_4 dhpσ_4 c_5 chpσ_4; omega) | omega) (by first | (clear hh ahpσ_4 bhpσ_4 dhpσ_4 c_5 chpσ_4; omega) | omega) (by rw [c_21]; rfl) (by decide) ?_
      replace hF := q_ifp hF c_21
      refine lv_aload_n hx hb dX12_player_110 rfl (lv_at hl 0 rfl) ?_
      refine lv_iload_n hx hb dX12_player_111 rfl (lv_at hl 1 rfl) ?_
      refine lv_iconst (v := (-1)) hx hb dX12_player_112 zki_m1 ?_
      have kc_22 : ((-1) : Int32).toInt = (-1) := zt_m1
      refine q_ci (q_rV11_2 (rest := []) E (hml.trans hl.1.symm) hI (c_X12_laidOf l X σ_2 a v1 ((-1) : Int32) ha (by rw [feσ_2]; exact hG)) kv_X12_296 ha ⟨Nat.le_of_ble_eq_true rfl, Nat.le_of_ble_eq_true rfl⟩ (Nat.le_of_ble_eq_true rfl) dX12_player_113) hI (Nat.le_of_ble_eq_true rfl) (fun r_23 σ_24 H locs hpσ_24 hkσ_24 hI => ?_)
      have ahpσ_24 := hpσ_24.1
      have bhpσ_24 := hpσ_24.2.1
      have chpσ_24 := hpσ_24.2.2.1
      have dhpσ_24 := hpσ_24.2.2.2
      clear hpσ_24
      replace hI := q_Irw ahpσ_24 hI
      rw [feσ_2] at bhpσ_24
      replace hF := q_letX hF dhpσ_24
      have ir_23 : r_23.toInt = (m_A (m_c X σ a) v1.toInt (-1) (m_c X σ a 9).toNat) := (by first | exact bhpσ_24 | (rw [bhpσ_24]) | (simp only [bhpσ_24]))
      exact q_reti E hr hlk hI ⟨(hF.trans hout), fr_σ_2⟩ dX12_player_116
    replace hF := q_ifn hF c_21
    refine lv_tableOut (tgt := 117) hx hb dX12_player_25 (by first | (clear hh ahpσ_4 bhpσ_4 dhpσ_4 c_5 chpσ_4; omega) | omega) (by decide) ?_
    refine lv_aload_n hx hb dX12_player_117 rfl (lv_at hl 0 rfl) ?_
    refine lv_iconst (v := 5) hx hb dX12_player_118 zki_5 ?_
    have kc_25 : (5 : Int32).toInt = 5 := zt_5
    refine q_ci (q_rV11_1 (rest := []) E (hml.trans hl.1.symm) hI (c_X12_refuse l X σ_2 a (5 : Int32) ha) kv_X12_284 ha ⟨Nat.le_of_ble_eq_true rfl, Nat.le_of_ble_eq_true rfl⟩ (Nat.le_of_ble_eq_true rfl) dX12_player_119) hI (Nat.le_of_ble_eq_true rfl) (fun r_26 σ_27 H locs hpσ_27 hkσ_27 hI => ?_)
    have ahpσ_27 := hpσ_27.1
    have bhpσ_27 := hpσ_27.2.1
    have chpσ_27 := hpσ_27.2.2
    clear hpσ_27
    have fr_σ_27 := fr_σ_2.call chpσ_27 rfl rfl
    replace hF := q_biX hF bhpσ_27
    have mcσ_27 := m_cK hkσ_27 hI.1 ha (by decide)
    have feσ_27 : m_c X σ_27 a = m_c X σ a := (funext mcσ_27).trans feσ_2
    exact q_reti E hr hlk hI ⟨(hF.trans hout), fr_σ_27⟩ dX12_player_122
  · skip
    replace hF := q_ifp hF c_5
    replace chpσ_4 := q_ifNo chpσ_4 c_5
    refine lv_aload_n hx hb dX12_player_18 rfl (lv_at hl 0 rfl) ?_
    refine lv_iconst (v := 2) hx hb dX12_player_19 zki_2 ?_
    have kc_28 : (2 : Int32).toInt = 2 := zt_2
    refine q_ci (q_rV11_1 (rest := []) E (hml.trans hl.1.symm) hI (c_X12_refuse l X σ_2 a (2 : Int32) ha) kv_X12_284 ha ⟨Nat.le_of_ble_eq_true rfl, Nat.le_of_ble_eq_true rfl⟩ (Nat.le_of_ble_eq_true rfl) dX12_player_20) hI (Nat.le_of_ble_eq_true rfl) (fun r_29 σ_30 H locs hpσ_30 hkσ_30 hI => ?_)
    have ahpσ_30 := hpσ_30.1
    have bhpσ_30 := hpσ_30.2.1
    have chpσ_30 := hpσ_30.2.2
    clear hpσ_30
    have fr_σ_30 := fr_σ_2.call chpσ_30 rfl rfl
    replace hF := q_biX hF bhpσ_30
    have mcσ_30 := m_cK hkσ_30 hI.1 ha (by decide)
    have feσ_30 : m_c X σ_30 a = m_c X σ a := (funext mcσ_30).trans feσ_2
    exact q_reti E hr hlk hI ⟨(hF.trans hout), fr_σ_30⟩ dX12_player_23
end
