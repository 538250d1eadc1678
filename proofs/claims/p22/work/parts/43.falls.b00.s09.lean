section
set_option maxRecDepth 100000 in
set_option maxHeartbeats 4000000 in
theorem c_X12_best (l : Launch) (X : XW) (σ : ST) (a : Nat) (v1 : Int32) (v2 : Int32) (ha : q_kd X a = 12) (hG : m_G (m_c X σ a)) : Met l yX12_best (q_ws yX12_best cX12_best 13 (some .int)) (q_rm 2 51) (q_P X σ [.ref a, .int v1, .int v2]) (q_Qi X 8 σ (fun (r : Int32) (σ' : ST) => (r, σ') = F_X12_best X σ a v1 v2 ∧ q_ow [(12, 0), (12, 1)] [(12, 2), (12, 3)] X σ σ')) 0 0 (q_reg X) := by
  refine q_met 8 (by first | exact rfl | decide +kernel) rfl (Nat.le_of_ble_eq_true rfl) (fun p e s m below meth c E hml hr hlk hI ls hl => ?_)
  have hx := E.1
  have hb := E.2.1
  have hl : lv_has ls 13 [(0, .ref a), (1, .int v1), (2, .int v2)] := hl
  have feσ : m_c X σ a = m_c X σ a := rfl
  have fr_σ : q_ow [(12, 0), (12, 1)] [(12, 2), (12, 3)] X σ σ := q_ow.rf
  have hh := hG.hd
  obtain ⟨out, hout⟩ : ∃ o, o = F_X12_best X σ a v1 v2 := ⟨_, rfl⟩
  have hF := hout.symm
  unfold F_X12_best at hF
  refine lv_aload_n hx hb dX12_best_0 rfl (lv_at hl 0 rfl) ?_
  refine lv_iconst (v := 0) hx hb dX12_best_1 zki_0 ?_
  refine ps_X12_59_12 E hI ha (by decide) dX12_best_2 (fun H locs σ_1 hσ_1 hI => ?_)
  replace hF := q_letX hF hσ_1
  have fr_σ_1 := fr_σ.si hσ_1 ha rfl
  have mcσ_1 := m_wo hσ_1 (m_ne ha (q_tk (f := 20) (k' := 34) hI ha rfl (by decide)) (by decide))
  have feσ_1 : m_c X σ_1 a = m_c X σ a := (funext mcσ_1).trans feσ
  refine lv_aload_n hx hb dX12_best_5 rfl (lv_at hl 0 rfl) ?_
  refine lv_iconst (v := 0) hx hb dX12_best_6 zki_0 ?_
  refine ps_X12_62_12 E hI ha (by decide) dX12_best_7 (fun H locs σ_2 hσ_2 hI => ?_)
  replace hF := q_letX hF hσ_2
  have fr_σ_2 := fr_σ_1.si hσ_2 ha rfl
  have mcσ_2 := m_wo hσ_2 (m_ne ha (q_tk (f := 20) (k' := 34) hI ha rfl (by decide)) (by decide))
  have feσ_2 : m_c X σ_2 a = m_c X σ a := (funext mcσ_2).trans feσ_1
  refine lv_iload_n hx hb dX12_best_10 rfl (lv_at hl 1 rfl) ?_
  refine lv_i2l hx hb dX12_best_11 rfl ?_
  refine lv_topl (fun y_3 ey_3 => ?_)
  replace hF := q_letX hF ey_3
  have ggy_3 := q_rng v1
  have iy_3 : y_3.toInt = v1.toInt := by rw [ey_3]; exact (q_i2l _).trans rfl
  refine lv_lconst (v := 0) hx hb dX12_best_12 (by decide) ?_
  refine lv_ldc2 (v := 16) hx hb E.2.2.1 (E.2.2.2.1 _ (q_in_t8 (i := 224) (by first | rfl | decide +kernel) rfl)) dX12_best_13 ?_
  have kc_4 : (0 : Int64).toInt = 0 := rfl
  have kc_5 : (16 : Int64).toInt = 16 := rfl
  refine q_ci (q_runS (As := [.long y_3, .long 0, .long 16]) (rest := []) E (hml.trans hl.1.symm) hI (c_X12_isIn l X σ_2 y_3 (0 : Int64) (16 : Int64)) ks_X12_94 rfl ⟨Nat.le_of_ble_eq_true rfl, Nat.le_of_ble_eq_true rfl⟩ ⟨Nat.le_refl _, Nat.le_refl _⟩ rfl (Nat.le_of_ble_eq_true rfl) dX12_best_16) hI (Nat.le_of_ble_eq_true rfl) (fun r_6 σ_7 H locs hpσ_7 hkσ_7 hI => ?_)
  have ahpσ_7 := hpσ_7.1
  have bhpσ_7 := hpσ_7.2.1
  have chpσ_7 := hpσ_7.2.2.1
  have dhpσ_7 := hpσ_7.2.2.2
  clear hpσ_7
  replace hI := q_Irw ahpσ_7 hI
  replace hF := q_letX hF dhpσ_7
  refine q_if_eq (A := r_6.toInt) E rfl (tgt := 32) dX12_best_19 (by decide) (fun c_8 => ?_) (fun c_8 => ?_)
  · skip
    replace hF := q_ifp hF c_8
    replace chpσ_7 := q_ifNo chpσ_7 c_8
    refine lv_aload_n hx hb dX12_best_32 rfl (lv_at hl 0 rfl) ?_
    refine lv_iconst (v := 5) hx hb dX12_best_33 zki_5 ?_
    have kc_9 : (5 : Int32).toInt = 5 := zt_5
    refine q_ci (q_rV11_1 (rest := []) E (hml.trans hl.1.symm) hI (c_X12_refuse l X σ_2 a (5 : Int32) ha) kv_X12_284 ha ⟨Nat.le_of_ble_eq_true rfl, Nat.le_of_ble_eq_true rfl⟩ (Nat.le_of_ble_eq_true rfl) dX12_best_34) hI (Nat.le_of_ble_eq_true rfl) (fun r_10 σ_11 H locs hpσ_11 hkσ_11 hI => ?_)
    have ahpσ_11 := hpσ_11.1
    have bhpσ_11 := hpσ_11.2.1
    have chpσ_11 := hpσ_11.2.2
    clear hpσ_11
    have fr_σ_11 := fr_σ_2.call chpσ_11 rfl rfl
    replace hF := q_biX hF bhpσ_11
    have mcσ_11 := m_cK hkσ_11 hI.1 ha (by decide)
    have feσ_11 : m_c X σ_11 a = m_c X σ a := (funext mcσ_11).trans feσ_2
    exact q_reti E hr hlk hI ⟨(hF.trans hout), fr_σ_11⟩ dX12_best_37
  · skip
    replace hF := q_ifn hF c_8
    replace c_8 := q_ifOne bhpσ_7 c_8
    replace chpσ_7 := q_ifYes chpσ_7 c_8
    refine lv_iload_n hx hb dX12_best_22 rfl (lv_at hl 2 rfl) ?_
    refine lv_i2l hx hb dX12_best_23 rfl ?_
    refine lv_topl (fun y_12 ey_12 => ?_)
    replace hF := q_letX hF ey_12
    have ggy_12 := q_rng v2
    have iy_12 : y_12.toInt = v2.toInt := by rw [ey_12]; exact (q_i2l _).trans rfl
    refine lv_lconst (v := 0) hx hb dX12_best_24 (by decide) ?_
    refine lv_lconst (v := 1) hx hb dX12_best_25 (by decide) ?_
    have kc_13 : (0 : Int64).toInt = 0 := rfl
    have kc_14 : (1 : Int64).toInt = 1 := rfl
    refine q_ci (q_runS (As := [.long y_12, .long 0, .long 1]) (rest := []) E (hml.trans hl.1.symm) hI (c_X12_isIn l X σ_2 y_12 (0 : Int64) (1 : Int64)) ks_X12_94 rfl ⟨Nat.le_of_ble_eq_true rfl, Nat.le_of_ble_eq_true rfl⟩ ⟨Nat.le_refl _, Nat.le_refl _⟩ rfl (Nat.le_of_ble_eq_true rfl) dX12_best_26) hI (Nat.le_of_ble_eq_true rfl) (fun r_15 σ_16 H locs hpσ_16 hkσ_16 hI => ?_)
    have ahpσ_16 := hpσ_16.1
    have bhpσ_16 := hpσ_16.2.1
    have chpσ_16 := hpσ_16.2.2.1
    have dhpσ_16 := hpσ_16.2.2.2
    clear hpσ_16
    replace hI := q_Irw ahpσ_16 hI
    replace hF := q_letX hF dhpσ_16
    refine q_if_ne (A := r_15.toInt) E rfl (tgt := 38) dX12_best_29 (by decide) (fun c_17 => ?_) (fun c_17 => ?_)
    · skip
      replace hF := q_ifn hF c_17
      replace c_17 := q_ifOne bhpσ_16 c_17
      replace chpσ_16 := q_ifYes chpσ_16 c_17
      refine lv_aload_n hx hb dX12_best_38 rfl (lv_at hl 0 rfl) ?_
      refine gs_X12_35_12 E hI ha dX12_best_39 ?_
      refine lv_bipush (v := 6) hx hb dX12_best_42 zkb_6 ?_
      refine q_iald E hI (q_tk (k' := 34) hI ha rfl (Nat.succ_ne_zero _)) ⟨by decide, rfl⟩ (by decide) (by rw [q_lnk (v := 4650) hI (q_tk (k' := 34) hI ha rfl (Nat.succ_ne_zero _)) rfl (by decide)]; decide) dX12_best_44 ?_
      refine lv_topi (fun f_18 ef_18 => ?_)
      replace hF := q_letX hF ef_18
      have if_18 : f_18.toInt = m_c X σ a 6 := (m_rd ef_18 (by decide)).trans (congrFun feσ_2 _)
      refine q_if_ge (A := f_18.toInt) E rfl (tgt := 55) dX12_best_45 (by decide) (fun c_19 => ?_) (fun c_19 => ?_)
      · skip
        replace hF := q_ifn hF (Int.not_lt.mpr c_19)
        refine lv_aload_n hx hb dX12_best_55 rfl (lv_at hl 0 rfl) ?_
        refine gs_X12_35_12 E hI ha dX12_best_56 ?_
        refine lv_bipush (v := 6) hx hb dX12_best_59 zkb_6 ?_
        refine q_iald E hI (q_tk (k' := 34) hI ha rfl (Nat.succ_ne_zero _)) ⟨by decide, rfl⟩ (by decide) (by rw [q_lnk (v := 4650) hI (q_tk (k' := 34) hI ha rfl (Nat.succ_ne_zero _)) rfl (by decide)]; decide) dX12_best_61 ?_
        refine lv_topi (fun f_20 ef_20 => ?_)
        replace hF := q_letX hF ef_20
        have if_20 : f_20.toInt = m_c X σ a 6 := (m_rd ef_20 (by decide)).trans (congrFun feσ_2 _)
        refine lv_istore_n (lv' := [(3, .int f_20), (0, .ref a), (1, .int v1), (2, .int v2)]) hx hb dX12_best_62 rfl hl (by decide) rfl (fun ls hl => ?_)
        refine lv_aload_n hx hb dX12_best_63 rfl (lv_at hl 1 rfl) ?_
        refine lv_iload_n hx hb dX12_best_64 rfl (lv_at hl 0 rfl) ?_
        refine q_ci (q_rV11_1 (rest := []) E (hml.trans hl.1.symm) hI (c_X12_cardsOf l X σ_2 a f_20 ha (by rw [feσ_2]; exact hG) (by first | (clear ggy_3 iy_3 kc_4 kc_5 ahpσ_7 bhpσ_7 dhpσ_7 c_8 chpσ_7 ggy_12 iy_12 kc_13 kc_14 ahpσ_16 bhpσ_16 dhpσ_16 c_17 chpσ_16; omega) | omega)) kv_X12_293 ha ⟨Nat.le_of_ble_eq_true rfl, Nat.le_of_ble_eq_true rfl⟩ (Nat.le_of_ble_eq_true rfl) dX12_best_65) hI (Nat.le_of_ble_eq_true rfl) (fun r_21 σ_22 H locs hpσ_22 hkσ_22 hI => ?_)
        have ahpσ_22 := hpσ_22.1
        have bhpσ_22 := hpσ_22.2.1
        have chpσ_22 := hpσ_22.2.2.1
        have dhpσ_22 := hpσ_22.2.2.2
        clear hpσ_22
        replace hI := q_Irw ahpσ_22 hI
        rw [feσ_2] at bhpσ_22
        replace hF := q_letX hF dhpσ_22
        refine lv_istore (lv' := [(4, .int r_21), (3, .int f_20), (0, .ref a), (1, .int v1), (2, .int v2)]) hx hb dX12_best_68 hl (by decide) rfl (fun ls hl => ?_)
        refine lv_aload_n hx hb dX12_best_70 rfl (lv_at hl 2 rfl) ?_
        refine gs_X12_35_12 E hI ha dX12_best_71 ?_
        refine lv_bipush (v := 7) hx hb dX12_best_74 zkb_7 ?_
        refine q_iald E hI (q_tk (k' := 34) hI ha rfl (Nat.succ_ne_zero _)) ⟨by decide, rfl⟩ (by decide) (by rw [q_lnk (v := 4650) hI (q_tk (k' := 34) hI ha rfl (Nat.succ_ne_zero _)) rfl (by decide)]; decide) dX12_best_76 ?_
        refine lv_topi (fun f_23 ef_23 => ?_)
        replace hF := q_letX hF ef_23
        have if_23 : f_23.toInt = m_c X σ a 7 := (m_rd ef_23 (by decide)).trans (congrFun feσ_2 _)
        refine lv_iconst (v := 1) hx hb dX12_best_77 zki_1 ?_
        have gc_24_f_23 := q_rng f_23
        refine q_icmp_eq (A := f_23.toInt) (B := 1) E rfl (by decide) (tgt := 96) dX12_best_78 (by decide) (fun c_24 => ?_) (fun c_24 => ?_)
        · skip
          replace hF := q_ifp hF c_24
          refine lv_aload_n hx hb dX12_best_96 rfl (lv_at hl 2 rfl) ?_
          refine lv_bipush (v := 9) hx hb dX12_best_97 zkb_9 ?_
          have kc_25 : (9 : Int32).toInt = 9 := zt_9
          refine q_ci (q_rV11_1 (rest := []) E (hml.trans hl.1.symm) hI (c_X12_refuse l X σ_2 a (9 : Int32) ha) kv_X12_284 ha ⟨Nat.le_of_ble_eq_true rfl, Nat.le_of_ble_eq_true rfl⟩ (Nat.le_of_ble_eq_true rfl) dX12_best_99) hI (Nat.le_of_ble_eq_true rfl) (fun r_26 σ_27 H locs hpσ_27 hkσ_27 hI => ?_)
          have ahpσ_27 := hpσ_27.1
          have bhpσ_27 := hpσ_27.2.1
          have chpσ_27 := hpσ_27.2.2
          clear hpσ_27
          have fr_σ_27 := fr_σ_2.call chpσ_27 rfl rfl
          replace hF := q_biX hF bhpσ_27
          have mcσ_27 := m_cK hkσ_27 hI.1 ha (by decide)
          have feσ_27 : m_c X σ_27 a = m_c X σ a := (funext mcσ_27).trans feσ_2
          exact q_reti E hr hlk hI ⟨(hF.trans hout), fr_σ_27⟩ dX12_best_102
        · skip
          replace hF := q_ifn hF c_24
          refine lv_aload_n hx hb dX12_best_81 rfl (lv_at hl 2 rfl) ?_
          refine gs_X12_35_12 E hI ha dX12_best_82 ?_
          refine lv_bipush (v := 8) hx hb dX12_best_85 zkb_8 ?_
          refine q_iald E hI (q_tk (k' := 34) hI ha rfl (Nat.succ_ne_zero _)) ⟨by decide, rfl⟩ (by decide) (by rw [q_lnk (v := 4650) hI (q_tk (k' := 34) hI ha rfl (Nat.succ_ne_zero _)) rfl (by decide)]; decide) dX12_best_87 ?_
          refine lv_topi (fun f_28 ef_28 => ?_)
          replace hF := q_letX hF ef_28
          have if_28 : f_28.toInt = m_c X σ a 8 := (m_rd ef_28 (by decide)).trans (congrFun feσ_2 _)
          refine q_if_ge (A := f_28.toInt) E rfl (tgt := 96) dX12_best_88 (by decide) (fun c_29 => ?_) (fun c_29 => ?_)
          · skip
            replace hF := q_ifn hF (Int.not_lt.mpr c_29)
            refine lv_aload_n hx hb dX12_best_96 rfl (lv_at hl 2 rfl) ?_
            refine lv_bipush (v := 9) hx hb dX12_best_97 zkb_9 ?_
            have kc_30 : (9 : Int32).toInt = 9 := zt_9
            refine q_ci (q_rV11_1 (rest := []) E (hml.trans hl.1.symm) hI (c_X12_refuse l X σ_2 a (9 : Int32) ha) kv_X12_284 ha ⟨Nat.le_of_ble_eq_true rfl, Nat.le_of_ble_eq_true rfl⟩ (Nat.le_of_ble_eq_true rfl) dX12_best_99) hI (Nat.le_of_ble_eq_true rfl) (fun r_31 σ_32 H locs hpσ_32 hkσ_32 hI => ?_)
            have ahpσ_32 := hpσ_32.1
            have bhpσ_32 := hpσ_32.2.1
            have chpσ_32 := hpσ_32.2.2
            clear hpσ_32
            have fr_σ_32 := fr_σ_2.call chpσ_32 rfl rfl
            replace hF := q_biX hF bhpσ_32
            have mcσ_32 := m_cK hkσ_32 hI.1 ha (by decide)
            have feσ_32 : m_c X σ_32 a = m_c X σ a := (funext mcσ_32).trans feσ_2
            exact q_reti E hr hlk hI ⟨(hF.trans hout), fr_σ_32⟩ dX12_best_102
          · skip
            replace hF := q_ifp hF c_29
            refine lv_iload hx hb dX12_best_91 (lv_at hl 0 rfl) ?_
            refine q_if_ne (A := r_21.toInt) E rfl (tgt := 103) dX12_best_93 (by decide) (fun c_33 => ?_) (fun c_33 => ?_)
            · skip
              replace hF := q_ifn hF c_33
              refine lv_aload_n hx hb dX12_best_103 rfl (lv_at hl 2 rfl) ?_
              refine lv_iload_n hx hb dX12_best_104 rfl (lv_at hl 1 rfl) ?_
              refine lv_aload_n hx hb dX12_best_105 rfl (lv_at hl 2 rfl) ?_
              refine gs_X12_35_12 E hI ha dX12_best_106 ?_
              refine lv_iconst (v := 5) hx hb dX12_best_109 zki_5 ?_
              refine q_iald E hI (q_tk (k' := 34) hI ha rfl (Nat.succ_ne_zero _)) ⟨by decide, rfl⟩ (by decide) (by rw [q_lnk (v := 4650) hI (q_tk (k' := 34) hI ha rfl (Nat.succ_ne_zero _)) rfl (by decide)]; decide) dX12_best_110 ?_
              refine lv_topi (fun f_34 ef_34 => ?_)
              replace hF := q_letX hF ef_34
              have if_34 : f_34.toInt = m_c X σ a 5 := (m_rd ef_34 (by decide)).trans (congrFun feσ_2 _)
              refine q_ci (q_rV11_2 (rest := []) E (hml.trans hl.1.symm) hI (c_X12_handOf l X σ_2 a f_20 f_34 ha (by first | (clear ggy_3 iy_3 kc_4 kc_5 ahpσ_7 bhpσ_7 dhpσ_7 c_8 chpσ_7 ggy_12 iy_12 kc_13 kc_14 ahpσ_16 bhpσ_16 dhpσ_16 c_17 chpσ_16 ahpσ_22 bhpσ_22 chpσ_22 dhpσ_22 if_23 gc_24_f_23 c_24 if_28 c_29 c_33 if_34; omega) | omega) (by first | (clear ggy_3 iy_3 kc_4 kc_5 ahpσ_7 bhpσ_7 dhpσ_7 c_8 chpσ_7 ggy_12 iy_12 kc_13 kc_14 ahpσ_16 bhpσ_16 dhpσ_16 c_17 chpσ_16 if_18 c_19 if_20 ahpσ_22 bhpσ_22 chpσ_22 dhpσ_22 if_23 gc_24_f_23 c_24 if_28 c_29 c_33; omega) | omega)) kv_X12_276 ha ⟨Nat.le_of_ble_eq_true rfl, Nat.le_of_ble_eq_true rfl⟩ (Nat.le_of_ble_eq_true rfl) dX12_best_111) hI (Nat.le_of_ble_eq_true rfl) (fun r_35 σ_36 H locs hpσ_36 hkσ_36 hI => ?_)
              have ahpσ_36 := hpσ_36.1
              have bhpσ_36 := hpσ_36.2.1
              have chpσ_36 := hpσ_36.2.2
              clear hpσ_36
              replace hI := q_Irw ahpσ_36 hI
              rw [feσ_2] at bhpσ_36
              replace hF := q_letX hF chpσ_36
              have ir_35 : r_35.toInt = (m_c X σ a (34 + 10 * f_20.toInt + f_34.toInt)) := (by first | exact bhpσ_36 | (rw [bhpσ_36]) | (simp only [bhpσ_36]))
              refine lv_istore (lv' := [(5, .int r_35), (4, .int r_21), (3, .int f_20), (0, .ref a), (1, .int v1), (2, .int v2)]) hx hb dX12_best_114 hl (by decide) rfl (fun ls hl => ?_)
              refine lv_aload_n hx hb dX12_best_116 rfl (lv_at hl 3 rfl) ?_
              refine q_ci (q_rV11_0 (rest := []) E (hml.trans hl.1.symm) hI (c_X12_heapMany l X σ_2 a ha (by rw [feσ_2]; exact hG)) kv_X12_287 ha ⟨Nat.le_of_ble_eq_true rfl, Nat.le_of_ble_eq_true rfl⟩ (Nat.le_of_ble_eq_true rfl) dX12_best_117) hI (Nat.le_of_ble_eq_true rfl) (fun r_37 σ_38 H locs hpσ_38 hkσ_38 hI => ?_)
              have ahpσ_38 := hpσ_38.1
              have bhpσ_38 := hpσ_38.2.1
              have chpσ_38 := hpσ_38.2.2.1
              have dhpσ_38 := hpσ_38.2.2.2
              clear hpσ_38
              replace hI := q_Irw ahpσ_38 hI
              rw [feσ_2] at bhpσ_38
              replace hF := q_letX hF dhpσ_38
              refine lv_istore (lv' := [(6, .int r_37), (5, .int r_35), (4, .int r_21), (3, .int f_20), (0, .ref a), (1, .int v1), (2, .int v2)]) hx hb dX12_best_120 hl (by decide) rfl (fun ls hl => ?_)
              refine lv_iconst (v := (-1)) hx hb dX12_best_122 zki_m1 ?_
              refine lv_istore (lv' := [(7, .int (-1)), (6, .int r_37), (5, .int r_35), (4, .int r_21), (3, .int f_20), (0, .ref a), (1, .int v1), (2, .int v2)]) hx hb dX12_best_123 hl (by decide) rfl (fun ls hl => ?_)
              refine lv_iconst (v := 0) hx hb dX12_best_125 zki_0 ?_
              refine lv_istore (lv' := [(8, .int 0), (7, .int (-1)), (6, .int r_37), (5, .int r_35), (4, .int r_21), (3, .int f_20), (0, .ref a), (1, .int v1), (2, .int v2)]) hx hb dX12_best_126 hl (by decide) rfl (fun ls hl => ?_)
              refine lv_iconst (v := 0) hx hb dX12_best_128 zki_0 ?_
              refine lv_istore (lv' := [(9, .int 0), (8, .int 0), (7, .int (-1)), (6, .int r_37), (5, .int r_35), (4, .int r_21), (3, .int f_20), (0, .ref a), (1, .int v1), (2, .int v2)]) hx hb dX12_best_129 hl (by decide) rfl (fun ls hl => ?_)
              refine lv_iconst (v := 0) hx hb dX12_best_131 zki_0 ?_
              refine lv_istore (lv' := [(10, .int 0), (9, .int 0), (8, .int 0), (7, .int (-1)), (6, .int r_37), (5, .int r_35), (4, .int r_21), (3, .int f_20), (0, .ref a), (1, .int v1), (2, .int v2)]) hx hb dX12_best_132 hl (by decide) rfl (fun ls hl => ?_)
              have L_134_43 : ∀ (k_43 : Nat) (x_39 : Int32) (x_40 : Int32) (x_41 : Int32) (x_42 : Int32) (H : Heap) (locs : List Loc) (ls : Array Slot), (2147483647 - x_42.toInt).toNat < k_43 → (0 ≤ x_42.toInt) → (F_X12_best_L134_1 X σ_2 a r_21 r_35 v2 r_37 v1 k_43 x_39 x_40 x_41 x_42 = out) → q_I X 8 σ s.heap locs σ_2 H → lv_has ls 13 [(0, .ref a), (1, .int v1), (2, .int v2), (3, .int f_20), (4, .int r_21), (5, .int r_35), (6, .int r_37), (7, .int x_39), (8, .int x_40), (9, .int x_41), (10, .int x_42)] → W p l e (q_rm 2 51) s m ([.ref a, .int v1, .int v2] : List Value).toArray below meth c H locs 0 0 (MQ below (q_Qi X 8 σ (fun (r : Int32) (σ' : ST) => (r, σ') = F_X12_best X σ a v1 v2 ∧ q_ow [(12, 0), (12, 1)] [(12, 2), (12, 3)] X σ σ')) ([.ref a, .int v1, .int v2] : List Value).toArray s 0 0 (q_reg X)) (F0 m 134 ls []) := by
                clear hF
                intro k_43
                induction k_43 with
                | zero =>
                  intro x_39 x_40 x_41 x_42 H locs ls hms
                  exact absurd hms (Nat.not_lt_zero _)
                | succ k_43 ih134 =>
                  intro x_39 x_40 x_41 x_42 H locs ls hm134 hge134 hF hI hl
                  replace hF := (F_X12_best_L134_1_s).symm.trans hF
                  unfold F_X12_best_B134_1 at hF
                  refine lv_iload hx hb dX12_best_134 (lv_at hl 10 rfl) ?_
                  refine lv_aload_n hx hb dX12_best_136 rfl (lv_at hl 0 rfl) ?_
                  refine gs_X12_35_12 E hI ha dX12_best_137 ?_
                  refine lv_iconst (v := 4) hx hb dX12_best_140 zki_4 ?_
                  refine q_iald E hI (q_tk (k' := 34) hI ha rfl (Nat.succ_ne_zero _)) ⟨by decide, rfl⟩ (by decide) (by rw [q_lnk (v := 4650) hI (q_tk (k' := 34) hI ha rfl (Nat.succ_ne_zero _)) rfl (by decide)]; decide) dX12_best_141 ?_
                  refine lv_topi (fun f_44 ef_44 => ?_)
                  replace hF := q_letX hF ef_44
                  have if_44 : f_44.toInt = m_c X σ a 4 := (m_rd ef_44 (by decide)).trans (congrFun feσ_2 _)
                  refine lv_iload hx hb dX12_best_142 (lv_at hl 4 rfl) ?_
                  refine lv_iload hx hb dX12_best_144 (lv_at hl 5 rfl) ?_
                  refine lv_isub hx hb dX12_best_146 ?_
                  refine lv_topi (fun z_45 ez_45 => ?_)
                  replace hF := q_letX hF ez_45
                  refine q_ci (q_runS (As := [.int f_44, .int z_45]) (rest := [.int x_42]) E (hml.trans hl.1.symm) hI (c_J9_min_7cf53 l X σ_2 f_44 z_45) ks_X12_384 rfl ⟨Nat.le_of_ble_eq_true rfl, Nat.le_of_ble_eq_true rfl⟩ ⟨Nat.le_refl _, Nat.le_refl _⟩ rfl (Nat.le_of_ble_eq_true rfl) dX12_best_147) hI (Nat.le_of_ble_eq_true rfl) (fun r_46 σ_47 H locs hpσ_47 hkσ_47 hI => ?_)
                  have ahpσ_47 := hpσ_47.1
                  have bhpσ_47 := hpσ_47.2.1
                  have chpσ_47 := hpσ_47.2.2
                  clear hpσ_47
                  replace hI := q_Irw ahpσ_47 hI
                  replace hF := q_letX hF chpσ_47
                  have gc_48_x_42 := q_rng x_42
                  have gc_48_r_46 := q_rng r_46
                  refine q_icmp_gt (A := x_42.toInt) (B := r_46.toInt) E rfl rfl (tgt := 263) dX12_best_150 (by decide) (fun c_48 => ?_) (fun c_48 => ?_)
                  · skip
                    replace hF := q_ifp hF c_48
                    unfold F_X12_best_E263_2 at hF
                    refine lv_aload_n hx hb dX12_best_263 rfl (lv_at hl 0 rfl) ?_
                    refine lv_iload hx hb dX12_best_264 (lv_at hl 9 rfl) ?_
                    refine lv_i2l hx hb dX12_best_266 rfl ?_
                    refine lv_topl (fun y_49 ey_49 => ?_)
                    replace hF := q_letX hF ey_49
                    have ggy_49 := q_rng x_41
                    have iy_49 : y_49.toInt = x_41.toInt := by rw [ey_49]; exact (q_i2l _).trans rfl
                    refine lv_ldc2 (v := 16) hx hb E.2.2.1 (E.2.2.2.1 _ (q_in_t8 (i := 224) (by first | rfl | decide +kernel) rfl)) dX12_best_267 ?_
                    have kc_50 : (16 : Int64).toInt = 16 := rfl
                    refine q_ci (q_rV11_2 (rest := []) E (hml.trans hl.1.symm) hI (c_X12_fraction l X σ_2 a y_49 (16 : Int64) ha (Or.inr (by decide))) kv_X12_361 ha ⟨Nat.le_of_ble_eq_true rfl, Nat.le_of_ble_eq_true rfl⟩ (Nat.le_of_ble_eq_true rfl) dX12_best_270) hI (Nat.le_of_ble_eq_true rfl) (fun r_51 σ_52 H locs hpσ_52 hkσ_52 hI => ?_)
                    have ahpσ_52 := hpσ_52.1
                    have bhpσ_52 := hpσ_52.2.1
                    have chpσ_52 := hpσ_52.2.2
                    clear hpσ_52
                    have fr_σ_52 := fr_σ_2.call chpσ_52 rfl rfl
                    replace hF := q_biX hF bhpσ_52
                    have mcσ_52 := m_cK hkσ_52 hI.1 ha (by decide)
                    have feσ_52 : m_c X σ_52 a = m_c X σ a := (funext mcσ_52).trans feσ_2
                    refine lv_pop hx hb dX12_best_273 rfl ?_
                    refine lv_iload_n hx hb dX12_best_274 rfl (lv_at hl 2 rfl) ?_
                    refine q_if_ne (A := v2.toInt) E rfl (tgt := 283) dX12_best_275 (by decide) (fun c_53 => ?_) (fun c_53 => ?_)
                    · skip
                      replace hF := q_ifn hF c_53
                      refine lv_iload hx hb dX12_best_283 (lv_at hl 8 rfl) ?_
                      exact q_reti E hr hlk hI ⟨(hF.trans hout), fr_σ_52⟩ dX12_best_285
                    · skip
                      replace hF := q_ifp hF c_53
                      refine lv_iload hx hb dX12_best_278 (lv_at hl 7 rfl) ?_
                      refine lv_goto (tgt := 285) hx hb dX12_best_280 (by decide) ?_
                      exact q_reti E hr hlk hI ⟨(hF.trans hout), fr_σ_52⟩ dX12_best_285
                  · skip
                    replace hF := q_ifn hF (Int.not_lt.mpr c_48)
                    refine lv_aload_n hx hb dX12_best_153 rfl (lv_at hl 0 rfl) ?_
                    refine gs_X12_35_12 E hI ha dX12_best_154 ?_
                    refine lv_iconst (v := 4) hx hb dX12_best_157 zki_4 ?_
                    refine q_iald E hI (q_tk (k' := 34) hI ha rfl (Nat.succ_ne_zero _)) ⟨by decide, rfl⟩ (by decide) (by rw [q_lnk (v := 4650) hI (q_tk (k' := 34) hI ha rfl (Nat.succ_ne_zero _)) rfl (by decide)]; decide) dX12_best_158 ?_
                    refine lv_topi (fun f_54 ef_54 => ?_)
                    replace hF := q_letX hF ef_54
                    have if_54 : f_54.toInt = m_c X σ a 4 := (m_rd ef_54 (by decide)).trans (congrFun feσ_2 _)
                    refine lv_iload hx hb dX12_best_159 (lv_at hl 10 rfl) ?_
                    refine lv_isub hx hb dX12_best_161 ?_
                    refine lv_topi (fun z_55 ez_55 => ?_)
                    replace hF := q_letX hF ez_55
                    refine lv_iload hx hb dX12_best_162 (lv_at hl 5 rfl) ?_
                    refine q_ci (q_runS (As := [.int z_55, .int r_35]) (rest := []) E (hml.trans hl.1.symm) hI (c_J9_min_7cf53 l X σ_2 z_55 r_35) ks_X12_384 rfl ⟨Nat.le_of_ble_eq_true rfl, Nat.le_of_ble_eq_true rfl⟩ ⟨Nat.le_refl _, Nat.le_refl _⟩ rfl (Nat.le_of_ble_eq_true rfl) dX12_best_164) hI (Nat.le_of_ble_eq_true rfl) (fun r_56 σ_57 H locs hpσ_57 hkσ_57 hI => ?_)
                    have ahpσ_57 := hpσ_57.1
                    have bhpσ_57 := hpσ_57.2.1
                    have chpσ_57 := hpσ_57.2.2
                    clear hpσ_57
                    replace hI := q_Irw ahpσ_57 hI
                    replace hF := q_letX hF chpσ_57
                    refine lv_istore (lv' := [(11, .int r_56), (0, .ref a), (1, .int v1), (2, .int v2), (3, .int f_20), (4, .int r_21), (5, .int r_35), (6, .int r_37), (7, .int x_39), (8, .int x_40), (9, .int x_41), (10, .int x_42)]) hx hb dX12_best_167 hl (by decide) rfl (fun ls hl => ?_)
                    have L_169_62 : ∀ (k_62 : Nat) (x_58 : Int32) (x_59 : Int32) (x_60 : Int32) (x_61 : Int32) (H : Heap) (locs : List Loc) (ls : Array Slot), (x_61.toInt + 2147483649).toNat < k_62 → (F_X12_best_L169_3 X x_42 (F_X12_best_L134_1 X σ_2 a r_21 r_35 v2 r_37 v1 k_43) r_21 r_37 v1 σ_2 k_62 x_58 x_59 x_60 x_61 = out) → q_I X 8 σ s.heap locs σ_2 H → lv_has ls 13 [(0, .ref a), (1, .int v1), (2, .int v2), (3, .int f_20), (4, .int r_21), (5, .int r_35), (6, .int r_37), (7, .int x_58), (8, .int x_59), (9, .int x_60), (10, .int x_42), (11, .int x_61)] → W p l e (q_rm 2 51) s m ([.ref a, .int v1, .int v2] : List Value).toArray below meth c H locs 0 0 (MQ below (q_Qi X 8 σ (fun (r : Int32) (σ' : ST) => (r, σ') = F_X12_best X σ a v1 v2 ∧ q_ow [(12, 0), (12, 1)] [(12, 2), (12, 3)] X σ σ')) ([.ref a, .int v1, .int v2] : List Value).toArray s 0 0 (q_reg X)) (F0 m 169 ls []) := by
                      clear hF
                      intro k_62
                      induction k_62 with
                      | zero =>
                        intro x_58 x_59 x_60 x_61 H locs ls hms
                        exact absurd hms (Nat.not_lt_zero _)
                      | succ k_62 ih169 =>
                        intro x_58 x_59 x_60 x_61 H locs ls hm169  hF hI hl
                        replace hF := (F_X12_best_L169_3_s).symm.trans hF
                        unfold F_X12_best_B169_3 at hF
                        refine lv_iload hx hb dX12_best_169 (lv_at hl 11 rfl) ?_
                        refine q_if_lt (A := x_61.toInt) E rfl (tgt := 257) dX12_best_171 (by decide) (fun c_63 => ?_) (fun c_63 => ?_)
                        · skip
                          replace hF := q_ifp hF c_63
                          unfold F_X12_best_E257_4 at hF
                          obtain ⟨z_64, ez_64⟩ : ∃ y : Int32, y = x_42 + 1 := ⟨_, rfl⟩
                          replace hF := q_letX hF ez_64
                          refine lv_iinc (v := z_64) (lv' := [(10, .int z_64), (0, .ref a), (1, .int v1), (2, .int v2), (3, .int f_20), (4, .int r_21), (5, .int r_35), (6, .int r_37), (7, .int x_58), (8, .int x_59), (9, .int x_60), (11, .int x_61)]) hx hb dX12_best_257 hl (k := 10) rfl (by rw [ez_64]; rfl) (by decide) rfl (fun ls hl => ?_)
                          have iz_64 : z_64.toInt = x_42.toInt + 1 := q_inc ez_64 (by first | (clear ggy_3 iy_3 kc_4 kc_5 ahpσ_7 bhpσ_7 dhpσ_7 c_8 chpσ_7 ggy_12 iy_12 kc_13 kc_14 ahpσ_16 bhpσ_16 dhpσ_16 c_17 chpσ_16 if_18 c_19 if_20 ahpσ_22 bhpσ_22 chpσ_22 dhpσ_22 if_23 gc_24_f_23 c_24 if_28 c_29 c_33 if_34 ahpσ_36 bhpσ_36 chpσ_36 ir_35 ahpσ_38 bhpσ_38 chpσ_38 dhpσ_38 hm134 ahpσ_47 chpσ_47 ahpσ_57 bhpσ_57 chpσ_57 hm169 c_63; omega) | omega)
                          refine lv_goto (tgt := 134) hx hb dX12_best_260 (by decide) ?_
                          exact ih134 x_58 x_59 x_60 z_64 _ _ ls (by first | (clear ggy_3 iy_3 kc_4 kc_5 ahpσ_7 bhpσ_7 dhpσ_7 c_8 chpσ_7 ggy_12 iy_12 kc_13 kc_14 ahpσ_16 bhpσ_16 dhpσ_16 c_17 chpσ_16 if_18 c_19 if_20 ahpσ_22 bhpσ_22 chpσ_22 dhpσ_22 if_23 gc_24_f_23 c_24 if_28 c_29 c_33 if_34 ahpσ_36 bhpσ_36 chpσ_36 ir_35 ahpσ_38 bhpσ_38 chpσ_38 dhpσ_38 ahpσ_47 chpσ_47 ahpσ_57 bhpσ_57 chpσ_57 hm169 c_63; omega) | omega) (by first | (clear hh ggy_3 iy_3 kc_4 kc_5 ahpσ_7 bhpσ_7 dhpσ_7 c_8 chpσ_7 ggy_12 iy_12 kc_13 kc_14 ahpσ_16 bhpσ_16 dhpσ_16 c_17 chpσ_16 if_18 c_19 if_20 ahpσ_22 bhpσ_22 chpσ_22 dhpσ_22 if_23 gc_24_f_23 c_24 if_28 c_29 c_33 if_34 ahpσ_36 bhpσ_36 chpσ_36 ir_35 ahpσ_38 bhpσ_38 chpσ_38 dhpσ_38 hm134 if_44 ahpσ_47 bhpσ_47 chpσ_47 gc_48_r_46 c_48 if_54 ahpσ_57 bhpσ_57 chpσ_57 hm169 c_63; omega) | omega) hF hI (lv_sub hl [1, 2, 3, 4, 5, 6, 7, 8, 9, 10, 0] rfl)
                        · skip
                          replace hF := q_ifn hF (Int.not_lt.mpr c_63)
                          refine lv_iload hx hb dX12_best_174 (lv_at hl 11 rfl) ?_
                          refine lv_iload hx hb dX12_best_176 (lv_at hl 10 rfl) ?_
                          refine lv_iadd hx hb dX12_best_178 ?_
                          refine lv_topi (fun z_65 ez_65 => ?_)
                          replace hF := q_letX hF ez_65
                          refine q_if_ne (A := z_65.toInt) E rfl (tgt := 185) dX12_best_179 (by decide) (fun c_66 => ?_) (fun c_66 => ?_)
                          · skip
                            replace hF := q_ifn hF c_66
                            refine lv_iload hx hb dX12_best_185 (lv_at hl 10 rfl) ?_
                            refine q_if_ne (A := x_42.toInt) E rfl (tgt := 201) dX12_best_187 (by decide) (fun c_67 => ?_) (fun c_67 => ?_)
                            · skip
                              replace hF := q_ifn hF c_67
                              refine lv_iload_n hx hb dX12_best_201 rfl (lv_at hl 1 rfl) ?_
                              refine lv_iload hx hb dX12_best_202 (lv_at hl 4 rfl) ?_
                              refine lv_iload hx hb dX12_best_204 (lv_at hl 6 rfl) ?_
                              refine lv_iadd hx hb dX12_best_206 ?_
                              refine lv_topi (fun z_68 ez_68 => ?_)
                              replace hF := q_letX hF ez_68
                              refine lv_imul hx hb dX12_best_207 ?_
                              refine lv_topi (fun z_69 ez_69 => ?_)
                              replace hF := q_letX hF ez_69
                              refine lv_bipush (v := 16) hx hb dX12_best_208 zkb_16 ?_
                              refine lv_iload_n hx hb dX12_best_210 rfl (lv_at hl 1 rfl) ?_
                              refine lv_isub hx hb dX12_best_211 ?_
                              refine lv_topi (fun z_70 ez_70 => ?_)
                              replace hF := q_letX hF ez_70
                              refine lv_iload hx hb dX12_best_212 (lv_at hl 4 rfl) ?_
                              refine lv_iload hx hb dX12_best_214 (lv_at hl 11 rfl) ?_
                              refine lv_isub hx hb dX12_best_216 ?_
                              refine lv_topi (fun z_71 ez_71 => ?_)
                              replace hF := q_letX hF ez_71
                              refine lv_iload hx hb dX12_best_217 (lv_at hl 10 rfl) ?_
                              refine lv_isub hx hb dX12_best_219 ?_
                              refine lv_topi (fun z_72 ez_72 => ?_)
                              replace hF := q_letX hF ez_72
                              refine lv_imul hx hb dX12_best_220 ?_
                              refine lv_topi (fun z_73 ez_73 => ?_)
                              replace hF := q_letX hF ez_73
                              refine lv_iadd hx hb dX12_best_221 ?_
                              refine lv_topi (fun z_74 ez_74 => ?_)
                              replace hF := q_letX hF ez_74
                              refine lv_istore (lv' := [(12, .int z_74), (0, .ref a), (1, .int v1), (2, .int v2), (3, .int f_20), (4, .int r_21), (5, .int r_35), (6, .int r_37), (7, .int x_58), (8, .int x_59), (9, .int x_60), (10, .int x_42), (11, .int x_61)]) hx hb dX12_best_222 hl (by decide) rfl (fun ls hl => ?_)
                              refine lv_iload hx hb dX12_best_224 (lv_at hl 8 rfl) ?_
                              refine q_if_lt (A := x_58.toInt) E rfl (tgt := 239) dX12_best_226 (by decide) (fun c_75 => ?_) (fun c_75 => ?_)
                              · skip
                                replace hF := q_ifp hF c_75
                                refine lv_iload hx hb dX12_best_239 (lv_at hl 12 rfl) ?_
                                refine lv_istore (lv' := [(7, .int x_61), (12, .int z_74), (0, .ref a), (1, .int v1), (2, .int v2), (3, .int f_20), (4, .int r_21), (5, .int r_35), (6, .int r_37), (8, .int x_59), (9, .int x_60), (10, .int x_42), (11, .int x_61)]) hx hb dX12_best_241 hl (by decide) rfl (fun ls hl => ?_)
                                refine lv_iload hx hb dX12_best_243 (lv_at hl 11 rfl) ?_
                                refine lv_istore (lv' := [(8, .int x_42), (7, .int x_61), (12, .int z_74), (0, .ref a), (1, .int v1), (2, .int v2), (3, .int f_20), (4, .int r_21), (5, .int r_35), (6, .int r_37), (9, .int x_60), (10, .int x_42), (11, .int x_61)]) hx hb dX12_best_245 hl (by decide) rfl (fun ls hl => ?_)
                                refine lv_iload hx hb dX12_best_247 (lv_at hl 2 rfl) ?_
                                refine lv_istore (lv' := [(9, .int z_74), (8, .int x_42), (7, .int x_61), (12, .int z_74), (0, .ref a), (1, .int v1), (2, .int v2), (3, .int f_20), (4, .int r_21), (5, .int r_35), (6, .int r_37), (10, .int x_42), (11, .int x_61)]) hx hb dX12_best_249 hl (by decide) rfl (fun ls hl => ?_)
                                obtain ⟨z_76, ez_76⟩ : ∃ y : Int32, y = x_61 + (-1) := ⟨_, rfl⟩
                                replace hF := q_letX hF ez_76
                                refine lv_iinc (v := z_76) (lv' := [(11, .int z_76), (9, .int z_74), (8, .int x_42), (7, .int x_61), (12, .int z_74), (0, .ref a), (1, .int v1), (2, .int v2), (3, .int f_20), (4, .int r_21), (5, .int r_35), (6, .int r_37), (10, .int x_42)]) hx hb dX12_best_251 hl (k := 12) rfl (by rw [ez_76]; rfl) (by decide) rfl (fun ls hl => ?_)
                                have iz_76 : z_76.toInt = x_61.toInt - 1 := q_dec ez_76 (by first | (clear hh ggy_3 iy_3 kc_4 kc_5 ahpσ_7 bhpσ_7 dhpσ_7 c_8 chpσ_7 ggy_12 iy_12 kc_13 kc_14 ahpσ_16 bhpσ_16 dhpσ_16 c_17 chpσ_16 if_18 c_19 if_20 ahpσ_22 bhpσ_22 chpσ_22 dhpσ_22 if_23 gc_24_f_23 c_24 if_28 c_29 c_33 if_34 ahpσ_36 bhpσ_36 chpσ_36 ir_35 ahpσ_38 bhpσ_38 chpσ_38 dhpσ_38 hm134 hge134 if_44 ahpσ_47 bhpσ_47 chpσ_47 gc_48_x_42 gc_48_r_46 c_48 if_54 ahpσ_57 bhpσ_57 chpσ_57 hm169 c_66 c_67 c_75; omega) | omega)
                                refine lv_goto (tgt := 169) hx hb dX12_best_254 (by decide) ?_
                                exact ih169 x_61 x_42 z_74 z_76 _ _ ls (by first | (clear hh ggy_3 iy_3 kc_4 kc_5 ahpσ_7 bhpσ_7 dhpσ_7 c_8 chpσ_7 ggy_12 iy_12 kc_13 kc_14 ahpσ_16 bhpσ_16 dhpσ_16 c_17 chpσ_16 if_18 c_19 if_20 ahpσ_22 bhpσ_22 chpσ_22 dhpσ_22 if_23 gc_24_f_23 c_24 if_28 c_29 c_33 if_34 ahpσ_36 bhpσ_36 chpσ_36 ir_35 ahpσ_38 bhpσ_38 chpσ_38 dhpσ_38 hm134 if_44 ahpσ_47 bhpσ_47 chpσ_47 gc_48_r_46 c_48 if_54 ahpσ_57 bhpσ_57 chpσ_57 c_75; omega) | omega) hF hI (lv_sub hl [5, 6, 7, 8, 9, 10, 11, 3, 2, 1, 12, 0] rfl)
                              · skip
                                replace hF := q_ifn hF (Int.not_lt.mpr c_75)
                                refine lv_iload hx hb dX12_best_229 (lv_at hl 0 rfl) ?_
                                refine lv_iload hx hb dX12_best_231 (lv_at hl 10 rfl) ?_
                                have gc_77_z_74 := q_rng z_74
                                have gc_77_x_60 := q_rng x_60
                                refine q_icmp_lt (A := z_74.toInt) (B := x_60.toInt) E rfl rfl (tgt := 239) dX12_best_233 (by decide) (fun c_77 => ?_) (fun c_77 => ?_)
                                · skip
                                  replace hF := q_ifp hF c_77
                                  refine lv_iload hx hb dX12_best_239 (lv_at hl 12 rfl) ?_
                                  refine lv_istore (lv' := [(7, .int x_61), (12, .int z_74), (0, .ref a), (1, .int v1), (2, .int v2), (3, .int f_20), (4, .int r_21), (5, .int r_35), (6, .int r_37), (8, .int x_59), (9, .int x_60), (10, .int x_42), (11, .int x_61)]) hx hb dX12_best_241 hl (by decide) rfl (fun ls hl => ?_)
                                  refine lv_iload hx hb dX12_best_243 (lv_at hl 11 rfl) ?_
                                  refine lv_istore (lv' := [(8, .int x_42), (7, .int x_61), (12, .int z_74), (0, .ref a), (1, .int v1), (2, .int v2), (3, .int f_20), (4, .int r_21), (5, .int r_35), (6, .int r_37), (9, .int x_60), (10, .int x_42), (11, .int x_61)]) hx hb dX12_best_245 hl (by decide) rfl (fun ls hl => ?_)
                                  refine lv_iload hx hb dX12_best_247 (lv_at hl 2 rfl) ?_
                                  refine lv_istore (lv' := [(9, .int z_74), (8, .int x_42), (7, .int x_61), (12, .int z_74), (0, .ref a), (1, .int v1), (2, .int v2), (3, .int f_20), (4, .int r_21), (5, .int r_35), (6, .int r_37), (10, .int x_42), (11, .int x_61)]) hx hb dX12_best_249 hl (by decide) rfl (fun ls hl => ?_)
                                  obtain ⟨z_78, ez_78⟩ : ∃ y : Int32, y = x_61 + (-1) := ⟨_, rfl⟩
                                  replace hF := q_letX hF ez_78
                                  refine lv_iinc (v := z_78) (lv' := [(11, .int z_78), (9, .int z_74), (8, .int x_42), (7, .int x_61), (12, .int z_74), (0, .ref a), (1, .int v1), (2, .int v2), (3, .int f_20), (4, .int r_21), (5, .int r_35), (6, .int r_37), (10, .int x_42)]) hx hb dX12_best_251 hl (k := 12) rfl (by rw [ez_78]; rfl) (by decide) rfl (fun ls hl => ?_)
                                  have iz_78 : z_78.toInt = x_61.toInt - 1 := q_dec ez_78 (by first | (clear hh ggy_3 iy_3 kc_4 kc_5 ahpσ_7 bhpσ_7 dhpσ_7 c_8 chpσ_7 ggy_12 iy_12 kc_13 kc_14 ahpσ_16 bhpσ_16 dhpσ_16 c_17 chpσ_16 if_18 c_19 if_20 ahpσ_22 bhpσ_22 chpσ_22 dhpσ_22 if_23 gc_24_f_23 c_24 if_28 c_29 c_33 if_34 ahpσ_36 bhpσ_36 chpσ_36 ir_35 ahpσ_38 bhpσ_38 chpσ_38 dhpσ_38 hm134 hge134 if_44 ahpσ_47 bhpσ_47 chpσ_47 gc_48_x_42 gc_48_r_46 c_48 if_54 ahpσ_57 bhpσ_57 chpσ_57 hm169 c_66 c_67 c_75 gc_77_z_74 gc_77_x_60 c_77; omega) | omega)
                                  refine lv_goto (tgt := 169) hx hb dX12_best_254 (by decide) ?_
                                  exact ih169 x_61 x_42 z_74 z_78 _ _ ls (by first | (clear hh ggy_3 iy_3 kc_4 kc_5 ahpσ_7 bhpσ_7 dhpσ_7 c_8 chpσ_7 ggy_12 iy_12 kc_13 kc_14 ahpσ_16 bhpσ_16 dhpσ_16 c_17 chpσ_16 if_18 c_19 if_20 ahpσ_22 bhpσ_22 chpσ_22 dhpσ_22 if_23 gc_24_f_23 c_24 if_28 c_29 c_33 if_34 ahpσ_36 bhpσ_36 chpσ_36 ir_35 ahpσ_38 bhpσ_38 chpσ_38 dhpσ_38 hm134 if_44 ahpσ_47 bhpσ_47 chpσ_47 gc_48_r_46 c_48 if_54 ahpσ_57 bhpσ_57 chpσ_57 c_75 gc_77_z_74 gc_77_x_60 c_77; omega) | omega) hF hI (lv_sub hl [5, 6, 7, 8, 9, 10, 11, 3, 2, 1, 12, 0] rfl)
                                · skip
                                  replace hF := q_ifn hF (Int.not_lt.mpr c_77)
                                  refine lv_goto (tgt := 251) hx hb dX12_best_236 (by decide) ?_
                                  obtain ⟨z_79, ez_79⟩ : ∃ y : Int32, y = x_61 + (-1) := ⟨_, rfl⟩
                                  replace hF := q_letX hF ez_79
                                  refine lv_iinc (v := z_79) (lv' := [(11, .int z_79), (12, .int z_74), (0, .ref a), (1, .int v1), (2, .int v2), (3, .int f_20), (4, .int r_21), (5, .int r_35), (6, .int r_37), (7, .int x_58), (8, .int x_59), (9, .int x_60), (10, .int x_42)]) hx hb dX12_best_251 hl (k := 12) rfl (by rw [ez_79]; rfl) (by decide) rfl (fun ls hl => ?_)
                                  have iz_79 : z_79.toInt = x_61.toInt - 1 := q_dec ez_79 (by first | (clear hh ggy_3 iy_3 kc_4 kc_5 ahpσ_7 bhpσ_7 dhpσ_7 c_8 chpσ_7 ggy_12 iy_12 kc_13 kc_14 ahpσ_16 bhpσ_16 dhpσ_16 c_17 chpσ_16 if_18 c_19 if_20 ahpσ_22 bhpσ_22 chpσ_22 dhpσ_22 if_23 gc_24_f_23 c_24 if_28 c_29 c_33 if_34 ahpσ_36 bhpσ_36 chpσ_36 ir_35 ahpσ_38 bhpσ_38 chpσ_38 dhpσ_38 hm134 hge134 if_44 ahpσ_47 bhpσ_47 chpσ_47 gc_48_x_42 gc_48_r_46 c_48 if_54 ahpσ_57 bhpσ_57 chpσ_57 hm169 c_66 c_67 c_75 gc_77_z_74 gc_77_x_60 c_77; omega) | omega)
                                  refine lv_goto (tgt := 169) hx hb dX12_best_254 (by decide) ?_
                                  exact ih169 x_58 x_59 x_60 z_79 _ _ ls (by first | (clear hh ggy_3 iy_3 kc_4 kc_5 ahpσ_7 bhpσ_7 dhpσ_7 c_8 chpσ_7 ggy_12 iy_12 kc_13 kc_14 ahpσ_16 bhpσ_16 dhpσ_16 c_17 chpσ_16 if_18 c_19 if_20 ahpσ_22 bhpσ_22 chpσ_22 dhpσ_22 if_23 gc_24_f_23 c_24 if_28 c_29 c_33 if_34 ahpσ_36 bhpσ_36 chpσ_36 ir_35 ahpσ_38 bhpσ_38 chpσ_38 dhpσ_38 hm134 if_44 ahpσ_47 bhpσ_47 chpσ_47 gc_48_r_46 c_48 if_54 ahpσ_57 bhpσ_57 chpσ_57 c_75 gc_77_z_74 gc_77_x_60 c_77; omega) | omega) hF hI (lv_sub hl [2, 3, 4, 5, 6, 7, 8, 9, 10, 11, 12, 0] rfl)
                            · skip
                              replace hF := q_ifp hF c_67
                              refine lv_bipush (v := 16) hx hb dX12_best_190 zkb_16 ?_
                              refine lv_iload hx hb dX12_best_192 (lv_at hl 4 rfl) ?_
                              refine lv_iload hx hb dX12_best_194 (lv_at hl 11 rfl) ?_
                              refine lv_isub hx hb dX12_best_196 ?_
                              refine lv_topi (fun z_80 ez_80 => ?_)
                              replace hF := q_letX hF ez_80
                              refine lv_imul hx hb dX12_best_197 ?_
                              refine lv_topi (fun z_81 ez_81 => ?_)
                              replace hF := q_letX hF ez_81
                              refine lv_goto (tgt := 222) hx hb dX12_best_198 (by decide) ?_
                              refine lv_istore (lv' := [(12, .int z_81), (0, .ref a), (1, .int v1), (2, .int v2), (3, .int f_20), (4, .int r_21), (5, .int r_35), (6, .int r_37), (7, .int x_58), (8, .int x_59), (9, .int x_60), (10, .int x_42), (11, .int x_61)]) hx hb dX12_best_222 hl (by decide) rfl (fun ls hl => ?_)
                              refine lv_iload hx hb dX12_best_224 (lv_at hl 8 rfl) ?_
                              refine q_if_lt (A := x_58.toInt) E rfl (tgt := 239) dX12_best_226 (by decide) (fun c_82 => ?_) (fun c_82 => ?_)
                              · skip
                                replace hF := q_ifp hF c_82
                                refine lv_iload hx hb dX12_best_239 (lv_at hl 12 rfl) ?_
                                refine lv_istore (lv' := [(7, .int x_61), (12, .int z_81), (0, .ref a), (1, .int v1), (2, .int v2), (3, .int f_20), (4, .int r_21), (5, .int r_35), (6, .int r_37), (8, .int x_59), (9, .int x_60), (10, .int x_42), (11, .int x_61)]) hx hb dX12_best_241 hl (by decide) rfl (fun ls hl => ?_)
                                refine lv_iload hx hb dX12_best_243 (lv_at hl 11 rfl) ?_
                                refine lv_istore (lv' := [(8, .int x_42), (7, .int x_61), (12, .int z_81), (0, .ref a), (1, .int v1), (2, .int v2), (3, .int f_20), (4, .int r_21), (5, .int r_35), (6, .int r_37), (9, .int x_60), (10, .int x_42), (11, .int x_61)]) hx hb dX12_best_245 hl (by decide) rfl (fun ls hl => ?_)
                                refine lv_iload hx hb dX12_best_247 (lv_at hl 2 rfl) ?_
                                refine lv_istore (lv' := [(9, .int z_81), (8, .int x_42), (7, .int x_61), (12, .int z_81), (0, .ref a), (1, .int v1), (2, .int v2), (3, .int f_20), (4, .int r_21), (5, .int r_35), (6, .int r_37), (10, .int x_42), (11, .int x_61)]) hx hb dX12_best_249 hl (by decide) rfl (fun ls hl => ?_)
                                obtain ⟨z_83, ez_83⟩ : ∃ y : Int32, y = x_61 + (-1) := ⟨_, rfl⟩
                                replace hF := q_letX hF ez_83
                                refine lv_iinc (v := z_83) (lv' := [(11, .int z_83), (9, .int z_81), (8, .int x_42), (7, .int x_61), (12, .int z_81), (0, .ref a), (1, .int v1), (2, .int v2), (3, .int f_20), (4, .int r_21), (5, .int r_35), (6, .int r_37), (10, .int x_42)]) hx hb dX12_best_251 hl (k := 12) rfl (by rw [ez_83]; rfl) (by decide) rfl (fun ls hl => ?_)
                                have iz_83 : z_83.toInt = x_61.toInt - 1 := q_dec ez_83 (by first | (clear hh ggy_3 iy_3 kc_4 kc_5 ahpσ_7 bhpσ_7 dhpσ_7 c_8 chpσ_7 ggy_12 iy_12 kc_13 kc_14 ahpσ_16 bhpσ_16 dhpσ_16 c_17 chpσ_16 if_18 c_19 if_20 ahpσ_22 bhpσ_22 chpσ_22 dhpσ_22 if_23 gc_24_f_23 c_24 if_28 c_29 c_33 if_34 ahpσ_36 bhpσ_36 chpσ_36 ir_35 ahpσ_38 bhpσ_38 chpσ_38 dhpσ_38 hm134 hge134 if_44 ahpσ_47 bhpσ_47 chpσ_47 gc_48_x_42 gc_48_r_46 c_48 if_54 ahpσ_57 bhpσ_57 chpσ_57 hm169 c_66 c_67 c_82; omega) | omega)
                                refine lv_goto (tgt := 169) hx hb dX12_best_254 (by decide) ?_
                                exact ih169 x_61 x_42 z_81 z_83 _ _ ls (by first | (clear hh ggy_3 iy_3 kc_4 kc_5 ahpσ_7 bhpσ_7 dhpσ_7 c_8 chpσ_7 ggy_12 iy_12 kc_13 kc_14 ahpσ_16 bhpσ_16 dhpσ_16 c_17 chpσ_16 if_18 c_19 if_20 ahpσ_22 bhpσ_22 chpσ_22 dhpσ_22 if_23 gc_24_f_23 c_24 if_28 c_29 c_33 if_34 ahpσ_36 bhpσ_36 chpσ_36 ir_35 ahpσ_38 bhpσ_38 chpσ_38 dhpσ_38 hm134 hge134 if_44 ahpσ_47 bhpσ_47 chpσ_47 gc_48_x_42 gc_48_r_46 c_48 if_54 ahpσ_57 bhpσ_57 chpσ_57 c_67 c_82; omega) | omega) hF hI (lv_sub hl [5, 6, 7, 8, 9, 10, 11, 3, 2, 1, 12, 0] rfl)
                              · skip
                                replace hF := q_ifn hF (Int.not_lt.mpr c_82)
                                refine lv_iload hx hb dX12_best_229 (lv_at hl 0 rfl) ?_
                                refine lv_iload hx hb dX12_best_231 (lv_at hl 10 rfl) ?_
                                have gc_84_z_81 := q_rng z_81
                                have gc_84_x_60 := q_rng x_60
                                refine q_icmp_lt (A := z_81.toInt) (B := x_60.toInt) E rfl rfl (tgt := 239) dX12_best_233 (by decide) (fun c_84 => ?_) (fun c_84 => ?_)
                                · skip
                                  replace hF := q_ifp hF c_84
                                  refine lv_iload hx hb dX12_best_239 (lv_at hl 12 rfl) ?_
                                  refine lv_istore (lv' := [(7, .int x_61), (12, .int z_81), (0, .ref a), (1, .int v1), (2, .int v2), (3, .int f_20), (4, .int r_21), (5, .int r_35), (6, .int r_37), (8, .int x_59), (9, .int x_60), (10, .int x_42), (11, .int x_61)]) hx hb dX12_best_241 hl (by decide) rfl (fun ls hl => ?_)
                                  refine lv_iload hx hb dX12_best_243 (lv_at hl 11 rfl) ?_
                                  refine lv_istore (lv' := [(8, .int x_42), (7, .int x_61), (12, .int z_81), (0, .ref a), (1, .int v1), (2, .int v2), (3, .int f_20), (4, .int r_21), (5, .int r_35), (6, .int r_37), (9, .int x_60), (10, .int x_42), (11, .int x_61)]) hx hb dX12_best_245 hl (by decide) rfl (fun ls hl => ?_)
                                  refine lv_iload hx hb dX12_best_247 (lv_at hl 2 rfl) ?_
                                  refine lv_istore (lv' := [(9, .int z_81), (8, .int x_42), (7, .int x_61), (12, .int z_81), (0, .ref a), (1, .int v1), (2, .int v2), (3, .int f_20), (4, .int r_21), (5, .int r_35), (6, .int r_37), (10, .int x_42), (11, .int x_61)]) hx hb dX12_best_249 hl (by decide) rfl (fun ls hl => ?_)
                                  obtain ⟨z_85, ez_85⟩ : ∃ y : Int32, y = x_61 + (-1) := ⟨_, rfl⟩
                                  replace hF := q_letX hF ez_85
                                  refine lv_iinc (v := z_85) (lv' := [(11, .int z_85), (9, .int z_81), (8, .int x_42), (7, .int x_61), (12, .int z_81), (0, .ref a), (1, .int v1), (2, .int v2), (3, .int f_20), (4, .int r_21), (5, .int r_35), (6, .int r_37), (10, .int x_42)]) hx hb dX12_best_251 hl (k := 12) rfl (by rw [ez_85]; rfl) (by decide) rfl (fun ls hl => ?_)
                                  have iz_85 : z_85.toInt = x_61.toInt - 1 := q_dec ez_85 (by first | (clear hh ggy_3 iy_3 kc_4 kc_5 ahpσ_7 bhpσ_7 dhpσ_7 c_8 chpσ_7 ggy_12 iy_12 kc_13 kc_14 ahpσ_16 bhpσ_16 dhpσ_16 c_17 chpσ_16 if_18 c_19 if_20 ahpσ_22 bhpσ_22 chpσ_22 dhpσ_22 if_23 gc_24_f_23 c_24 if_28 c_29 c_33 if_34 ahpσ_36 bhpσ_36 chpσ_36 ir_35 ahpσ_38 bhpσ_38 chpσ_38 dhpσ_38 hm134 hge134 if_44 ahpσ_47 bhpσ_47 chpσ_47 gc_48_x_42 gc_48_r_46 c_48 if_54 ahpσ_57 bhpσ_57 chpσ_57 hm169 c_66 c_67 c_82 gc_84_z_81 gc_84_x_60 c_84; omega) | omega)
                                  refine lv_goto (tgt := 169) hx hb dX12_best_254 (by decide) ?_
                                  exact ih169 x_61 x_42 z_81 z_85 _ _ ls (by first | (clear hh ggy_3 iy_3 kc_4 kc_5 ahpσ_7 bhpσ_7 dhpσ_7 c_8 chpσ_7 ggy_12 iy_12 kc_13 kc_14 ahpσ_16 bhpσ_16 dhpσ_16 c_17 chpσ_16 if_18 c_19 if_20 ahpσ_22 bhpσ_22 chpσ_22 dhpσ_22 if_23 gc_24_f_23 c_24 if_28 c_29 c_33 if_34 ahpσ_36 bhpσ_36 chpσ_36 ir_35 ahpσ_38 bhpσ_38 chpσ_38 dhpσ_38 hm134 hge134 if_44 ahpσ_47 bhpσ_47 chpσ_47 gc_48_x_42 gc_48_r_46 c_48 if_54 ahpσ_57 bhpσ_57 chpσ_57 c_67 c_82 gc_84_z_81 gc_84_x_60 c_84; omega) | omega) hF hI (lv_sub hl [5, 6, 7, 8, 9, 10, 11, 3, 2, 1, 12, 0] rfl)
                                · skip
                                  replace hF := q_ifn hF (Int.not_lt.mpr c_84)
                                  refine lv_goto (tgt := 251) hx hb dX12_best_236 (by decide) ?_
                                  obtain ⟨z_86, ez_86⟩ : ∃ y : Int32, y = x_61 + (-1) := ⟨_, rfl⟩
                                  replace hF := q_letX hF ez_86
                                  refine lv_iinc (v := z_86) (lv' := [(11, .int z_86), (12, .int z_81), (0, .ref a), (1, .int v1), (2, .int v2), (3, .int f_20), (4, .int r_21), (5, .int r_35), (6, .int r_37), (7, .int x_58), (8, .int x_59), (9, .int x_60), (10, .int x_42)]) hx hb dX12_best_251 hl (k := 12) rfl (by rw [ez_86]; rfl) (by decide) rfl (fun ls hl => ?_)
                                  have iz_86 : z_86.toInt = x_61.toInt - 1 := q_dec ez_86 (by first | (clear hh ggy_3 iy_3 kc_4 kc_5 ahpσ_7 bhpσ_7 dhpσ_7 c_8 chpσ_7 ggy_12 iy_12 kc_13 kc_14 ahpσ_16 bhpσ_16 dhpσ_16 c_17 chpσ_16 if_18 c_19 if_20 ahpσ_22 bhpσ_22 chpσ_22 dhpσ_22 if_23 gc_24_f_23 c_24 if_28 c_29 c_33 if_34 ahpσ_36 bhpσ_36 chpσ_36 ir_35 ahpσ_38 bhpσ_38 chpσ_38 dhpσ_38 hm134 hge134 if_44 ahpσ_47 bhpσ_47 chpσ_47 gc_48_x_42 gc_48_r_46 c_48 if_54 ahpσ_57 bhpσ_57 chpσ_57 hm169 c_66 c_67 c_82 gc_84_z_81 gc_84_x_60 c_84; omega) | omega)
                                  refine lv_goto (tgt := 169) hx hb dX12_best_254 (by decide) ?_
                                  exact ih169 x_58 x_59 x_60 z_86 _ _ ls (by first | (clear hh ggy_3 iy_3 kc_4 kc_5 ahpσ_7 bhpσ_7 dhpσ_7 c_8 chpσ_7 ggy_12 iy_12 kc_13 kc_14 ahpσ_16 bhpσ_16 dhpσ_16 c_17 chpσ_16 if_18 c_19 if_20 ahpσ_22 bhpσ_22 chpσ_22 dhpσ_22 if_23 gc_24_f_23 c_24 if_28 c_29 c_33 if_34 ahpσ_36 bhpσ_36 chpσ_36 ir_35 ahpσ_38 bhpσ_38 chpσ_38 dhpσ_38 hm134 hge134 if_44 ahpσ_47 bhpσ_47 chpσ_47 gc_48_x_42 gc_48_r_46 c_48 if_54 ahpσ_57 bhpσ_57 chpσ_57 c_67 c_82 gc_84_z_81 gc_84_x_60 c_84; omega) | omega) hF hI (lv_sub hl [2, 3, 4, 5, 6, 7, 8, 9, 10, 11, 12, 0] rfl)
                          · skip
                            replace hF := q_ifp hF c_66
                            refine lv_goto (tgt := 251) hx hb dX12_best_182 (by decide) ?_
                            obtain ⟨z_87, ez_87⟩ : ∃ y : Int32, y = x_61 + (-1) := ⟨_, rfl⟩
                            replace hF := q_letX hF ez_87
                            refine lv_iinc (v := z_87) (lv' := [(11, .int z_87), (0, .ref a), (1, .int v1), (2, .int v2), (3, .int f_20), (4, .int r_21), (5, .int r_35), (6, .int r_37), (7, .int x_58), (8, .int x_59), (9, .int x_60), (10, .int x_42)]) hx hb dX12_best_251 hl (k := 11) rfl (by rw [ez_87]; rfl) (by decide) rfl (fun ls hl => ?_)
                            have iz_87 : z_87.toInt = x_61.toInt - 1 := q_dec ez_87 (by first | (clear hh ggy_3 iy_3 kc_4 kc_5 ahpσ_7 bhpσ_7 dhpσ_7 c_8 chpσ_7 ggy_12 iy_12 kc_13 kc_14 ahpσ_16 bhpσ_16 dhpσ_16 c_17 chpσ_16 if_18 c_19 if_20 ahpσ_22 bhpσ_22 chpσ_22 dhpσ_22 if_23 gc_24_f_23 c_24 if_28 c_29 c_33 if_34 ahpσ_36 bhpσ_36 chpσ_36 ir_35 ahpσ_38 bhpσ_38 chpσ_38 dhpσ_38 hm134 hge134 if_44 ahpσ_47 bhpσ_47 chpσ_47 gc_48_x_42 gc_48_r_46 c_48 if_54 ahpσ_57 bhpσ_57 chpσ_57 hm169 c_66; omega) | omega)
                            refine lv_goto (tgt := 169) hx hb dX12_best_254 (by decide) ?_
                            exact ih169 x_58 x_59 x_60 z_87 _ _ ls (by first | (clear hh ggy_3 iy_3 kc_4 kc_5 ahpσ_7 bhpσ_7 dhpσ_7 c_8 chpσ_7 ggy_12 iy_12 kc_13 kc_14 ahpσ_16 bhpσ_16 dhpσ_16 c_17 chpσ_16 if_18 c_19 if_20 ahpσ_22 bhpσ_22 chpσ_22 dhpσ_22 if_23 gc_24_f_23 c_24 if_28 c_29 c_33 if_34 ahpσ_36 bhpσ_36 chpσ_36 ir_35 ahpσ_38 bhpσ_38 chpσ_38 dhpσ_38 hm134 hge134 if_44 ahpσ_47 bhpσ_47 chpσ_47 gc_48_x_42 gc_48_r_46 c_48 if_54 ahpσ_57 bhpσ_57 chpσ_57 c_66; omega) | omega) hF hI (lv_sub hl [1, 2, 3, 4, 5, 6, 7, 8, 9, 10, 11, 0] rfl)
                    exact L_169_62 ((r_56.toInt + 2147483649).toNat + 1) x_39 x_40 x_41 r_56 _ _ ls (Nat.lt_succ_self _) hF hI (lv_sub hl [1, 2, 3, 4, 5, 6, 7, 8, 9, 10, 11, 0] rfl)
              have kc_88 : ((-1) : Int32).toInt = (-1) := zt_m1
              have kc_89 : (0 : Int32).toInt = 0 := zt_0
              exact L_134_43 ((2147483647 - (0 : Int32).toInt).toNat + 1) (-1) 0 0 0 _ _ ls (Nat.lt_succ_self _) (by decide) hF hI (lv_sub hl [8, 9, 10, 7, 6, 5, 4, 3, 2, 1, 0] rfl)
            · skip
              replace hF := q_ifp hF c_33
              refine lv_aload_n hx hb dX12_best_96 rfl (lv_at hl 2 rfl) ?_
              refine lv_bipush (v := 9) hx hb dX12_best_97 zkb_9 ?_
              have kc_90 : (9 : Int32).toInt = 9 := zt_9
              refine q_ci (q_rV11_1 (rest := []) E (hml.trans hl.1.symm) hI (c_X12_refuse l X σ_2 a (9 : Int32) ha) kv_X12_284 ha ⟨Nat.le_of_ble_eq_true rfl, Nat.le_of_ble_eq_true rfl⟩ (Nat.le_of_ble_eq_true rfl) dX12_best_99) hI (Nat.le_of_ble_eq_true rfl) (fun r_91 σ_92 H locs hpσ_92 hkσ_92 hI => ?_)
              have ahpσ_92 := hpσ_92.1
              have bhpσ_92 := hpσ_92.2.1
              have chpσ_92 := hpσ_92.2.2
              clear hpσ_92
              have fr_σ_92 := fr_σ_2.call chpσ_92 rfl rfl
              replace hF := q_biX hF bhpσ_92
              have mcσ_92 := m_cK hkσ_92 hI.1 ha (by decide)
              have feσ_92 : m_c X σ_92 a = m_c X σ a := (funext mcσ_92).trans feσ_2
              exact q_reti E hr hlk hI ⟨(hF.trans hout), fr_σ_92⟩ dX12_best_102
      · skip
        replace hF := q_ifp hF c_19
        refine lv_aload_n hx hb dX12_best_48 rfl (lv_at hl 0 rfl) ?_
        refine lv_bipush (v := 8) hx hb dX12_best_49 zkb_8 ?_
        have kc_93 : (8 : Int32).toInt = 8 := zt_8
        refine q_ci (q_rV11_1 (rest := []) E (hml.trans hl.1.symm) hI (c_X12_refuse l X σ_2 a (8 : Int32) ha) kv_X12_284 ha ⟨Nat.le_of_ble_eq_true rfl, Nat.le_of_ble_eq_true rfl⟩ (Nat.le_of_ble_eq_true rfl) dX12_best_51) hI (Nat.le_of_ble_eq_true rfl) (fun r_94 σ_95 H locs hpσ_95 hkσ_95 hI => ?_)
        have ahpσ_95 := hpσ_95.1
        have bhpσ_95 := hpσ_95.2.1
        have chpσ_95 := hpσ_95.2.2
        clear hpσ_95
        have fr_σ_95 := fr_σ_2.call chpσ_95 rfl rfl
        replace hF := q_biX hF bhpσ_95
        have mcσ_95 := m_cK hkσ_95 hI.1 ha (by decide)
        have feσ_95 : m_c X σ_95 a = m_c X σ a := (funext mcσ_95).trans feσ_2
        exact q_reti E hr hlk hI ⟨(hF.trans hout), fr_σ_95⟩ dX12_best_54
    · skip
      replace hF := q_ifp hF c_17
      replace chpσ_16 := q_ifNo chpσ_16 c_17
      refine lv_aload_n hx hb dX12_best_32 rfl (lv_at hl 0 rfl) ?_
      refine lv_iconst (v := 5) hx hb dX12_best_33 zki_5 ?_
      have kc_96 : (5 : Int32).toInt = 5 := zt_5
      refine q_ci (q_rV11_1 (rest := []) E (hml.trans hl.1.symm) hI (c_X12_refuse l X σ_2 a (5 : Int32) ha) kv_X12_284 ha ⟨Nat.le_of_ble_eq_true rfl, Nat.le_of_ble_eq_true rfl⟩ (Nat.le_of_ble_eq_true rfl) dX12_best_34) hI (Nat.le_of_ble_eq_true rfl) (fun r_97 σ_98 H locs hpσ_98 hkσ_98 hI => ?_)
      have ahpσ_98 := hpσ_98.1
      have bhpσ_98 := hpσ_98.2.1
      have chpσ_98 := hpσ_98.2.2
      clear hpσ_98
      have fr_σ_98 := fr_σ_2.call chpσ_98 rfl rfl
      replace hF := q_biX hF bhpσ_98
      have mcσ_98 := m_cK hkσ_98 hI.1 ha (by decide)
      have feσ_98 : m_c X σ_98 a = m_c X σ a := (funext mcσ_98).trans feσ_2
      exact q_reti E hr hlk hI ⟨(hF.trans hout), fr_σ_98⟩ dX12_best_37
end
