section
set_option maxRecDepth 100000 in
set_option maxHeartbeats 4000000 in
theorem c_X12_cardOf (l : Launch) (X : XW) (σ : ST) (a : Nat) (v1 : Int32) (v2 : Int32) (ha : q_kd X a = 12) (hG : m_G (m_c X σ a)) : Met l yX12_cardOf (q_ws yX12_cardOf cX12_cardOf 3 (some .int)) (q_rm 1 25) (q_P X σ [.ref a, .int v1, .int v2]) (q_Qi X 8 σ (fun (r : Int32) (σ' : ST) => (r, σ') = F_X12_cardOf X σ a v1 v2 ∧ q_ow [(12, 0), (12, 1)] [] X σ σ')) 0 0 (q_reg X) := by
  refine q_met 8 (by first | exact rfl | decide +kernel) rfl (Nat.le_of_ble_eq_true rfl) (fun p e s m below meth c E hml hr hlk hI ls hl => ?_)
  have hx := E.1
  have hb := E.2.1
  have hl : lv_has ls 3 [(0, .ref a), (1, .int v1), (2, .int v2)] := hl
  have feσ : m_c X σ a = m_c X σ a := rfl
  have fr_σ : q_ow [(12, 0), (12, 1)] [] X σ σ := q_ow.rf
  have hh := hG.hd
  obtain ⟨out, hout⟩ : ∃ o, o = F_X12_cardOf X σ a v1 v2 := ⟨_, rfl⟩
  have hF := hout.symm
  unfold F_X12_cardOf at hF
  refine lv_aload_n hx hb dX12_cardOf_0 rfl (lv_at hl 0 rfl) ?_
  refine lv_iconst (v := 0) hx hb dX12_cardOf_1 zki_0 ?_
  refine ps_X12_59_12 E hI ha (by decide) dX12_cardOf_2 (fun H locs σ_1 hσ_1 hI => ?_)
  replace hF := q_letX hF hσ_1
  have fr_σ_1 := fr_σ.si hσ_1 ha rfl
  have mcσ_1 := m_wo hσ_1 (m_ne ha (q_tk (f := 20) (k' := 34) hI ha rfl (by decide)) (by decide))
  have feσ_1 : m_c X σ_1 a = m_c X σ a := (funext mcσ_1).trans feσ
  refine lv_aload_n hx hb dX12_cardOf_5 rfl (lv_at hl 0 rfl) ?_
  refine lv_iconst (v := 0) hx hb dX12_cardOf_6 zki_0 ?_
  refine ps_X12_62_12 E hI ha (by decide) dX12_cardOf_7 (fun H locs σ_2 hσ_2 hI => ?_)
  replace hF := q_letX hF hσ_2
  have fr_σ_2 := fr_σ_1.si hσ_2 ha rfl
  have mcσ_2 := m_wo hσ_2 (m_ne ha (q_tk (f := 20) (k' := 34) hI ha rfl (by decide)) (by decide))
  have feσ_2 : m_c X σ_2 a = m_c X σ a := (funext mcσ_2).trans feσ_1
  refine lv_iload_n hx hb dX12_cardOf_10 rfl (lv_at hl 1 rfl) ?_
  refine lv_i2l hx hb dX12_cardOf_11 rfl ?_
  refine lv_topl (fun y_3 ey_3 => ?_)
  replace hF := q_letX hF ey_3
  have ggy_3 := q_rng v1
  have iy_3 : y_3.toInt = v1.toInt := by rw [ey_3]; exact (q_i2l _).trans rfl
  refine lv_lconst (v := 0) hx hb dX12_cardOf_12 (by decide) ?_
  refine lv_aload_n hx hb dX12_cardOf_13 rfl (lv_at hl 0 rfl) ?_
  refine gs_X12_35_12 E hI ha dX12_cardOf_14 ?_
  refine lv_bipush (v := 9) hx hb dX12_cardOf_17 zkb_9 ?_
  refine q_iald E hI (q_tk (k' := 34) hI ha rfl (Nat.succ_ne_zero _)) ⟨by decide, rfl⟩ (by decide) (by rw [q_lnk (v := 4650) hI (q_tk (k' := 34) hI ha rfl (Nat.succ_ne_zero _)) rfl (by decide)]; decide) dX12_cardOf_19 ?_
  refine lv_topi (fun f_4 ef_4 => ?_)
  replace hF := q_letX hF ef_4
  have if_4 : f_4.toInt = m_c X σ a 9 := (m_rd ef_4 (by decide)).trans (congrFun feσ_2 _)
  refine lv_iconst (v := 1) hx hb dX12_cardOf_20 zki_1 ?_
  refine lv_isub hx hb dX12_cardOf_21 ?_
  refine lv_topi (fun z_5 ez_5 => ?_)
  replace hF := q_letX hF ez_5
  have iz_5 := q_subI (A := (m_c X σ a 9)) (B := 1) ez_5 if_4 (by decide) (by first | (clear ggy_3 iy_3; omega) | omega) (by first | (clear ggy_3 iy_3; omega) | omega)
  refine lv_i2l hx hb dX12_cardOf_22 rfl ?_
  refine lv_topl (fun y_6 ey_6 => ?_)
  replace hF := q_letX hF ey_6
  have ggy_6 := q_rng z_5
  have iy_6 : y_6.toInt = z_5.toInt := by rw [ey_6]; exact (q_i2l _).trans rfl
  have kc_7 : (0 : Int64).toInt = 0 := rfl
  refine q_ci (q_runS (As := [.long y_3, .long 0, .long y_6]) (rest := []) E (hml.trans hl.1.symm) hI (c_X12_isIn l X σ_2 y_3 (0 : Int64) y_6) ks_X12_94 rfl ⟨Nat.le_of_ble_eq_true rfl, Nat.le_of_ble_eq_true rfl⟩ ⟨Nat.le_refl _, Nat.le_refl _⟩ rfl (Nat.le_of_ble_eq_true rfl) dX12_cardOf_23) hI (Nat.le_of_ble_eq_true rfl) (fun r_8 σ_9 H locs hpσ_9 hkσ_9 hI => ?_)
  have ahpσ_9 := hpσ_9.1
  have bhpσ_9 := hpσ_9.2.1
  have chpσ_9 := hpσ_9.2.2.1
  have dhpσ_9 := hpσ_9.2.2.2
  clear hpσ_9
  replace hI := q_Irw ahpσ_9 hI
  replace hF := q_letX hF dhpσ_9
  refine q_if_eq (A := r_8.toInt) E rfl (tgt := 52) dX12_cardOf_26 (by decide) (fun c_10 => ?_) (fun c_10 => ?_)
  · skip
    replace hF := q_ifp hF c_10
    replace chpσ_9 := q_ifNo chpσ_9 c_10
    refine lv_aload_n hx hb dX12_cardOf_52 rfl (lv_at hl 0 rfl) ?_
    refine lv_bipush (v := 8) hx hb dX12_cardOf_53 zkb_8 ?_
    have kc_11 : (8 : Int32).toInt = 8 := zt_8
    refine q_ci (q_rV11_1 (rest := []) E (hml.trans hl.1.symm) hI (c_X12_refuse l X σ_2 a (8 : Int32) ha) kv_X12_284 ha ⟨Nat.le_of_ble_eq_true rfl, Nat.le_of_ble_eq_true rfl⟩ (Nat.le_of_ble_eq_true rfl) dX12_cardOf_55) hI (Nat.le_of_ble_eq_true rfl) (fun r_12 σ_13 H locs hpσ_13 hkσ_13 hI => ?_)
    have ahpσ_13 := hpσ_13.1
    have bhpσ_13 := hpσ_13.2.1
    have chpσ_13 := hpσ_13.2.2
    clear hpσ_13
    have fr_σ_13 := fr_σ_2.call chpσ_13 rfl rfl
    replace hF := q_biX hF bhpσ_13
    have mcσ_13 := m_cK hkσ_13 hI.1 ha (by decide)
    have feσ_13 : m_c X σ_13 a = m_c X σ a := (funext mcσ_13).trans feσ_2
    exact q_reti E hr hlk hI ⟨(hF.trans hout), fr_σ_13⟩ dX12_cardOf_58
  · skip
    replace hF := q_ifn hF c_10
    replace c_10 := q_ifOne bhpσ_9 c_10
    replace chpσ_9 := q_ifYes chpσ_9 c_10
    have hy := (hG.2.2.1 v1.toInt (by first | (clear hh if_4 iz_5 ggy_6 iy_6 ahpσ_9 bhpσ_9 dhpσ_9 c_10; omega) | omega) (by first | (clear hh ggy_3 ggy_6 kc_7 ahpσ_9 bhpσ_9 dhpσ_9 c_10; omega) | omega)).1
    refine lv_iload_n hx hb dX12_cardOf_29 rfl (lv_at hl 2 rfl) ?_
    refine lv_i2l hx hb dX12_cardOf_30 rfl ?_
    refine lv_topl (fun y_14 ey_14 => ?_)
    replace hF := q_letX hF ey_14
    have ggy_14 := q_rng v2
    have iy_14 : y_14.toInt = v2.toInt := by rw [ey_14]; exact (q_i2l _).trans rfl
    refine lv_lconst (v := 0) hx hb dX12_cardOf_31 (by decide) ?_
    refine lv_aload_n hx hb dX12_cardOf_32 rfl (lv_at hl 0 rfl) ?_
    refine gs_X12_35_12 E hI ha dX12_cardOf_33 ?_
    refine lv_iload_n hx hb dX12_cardOf_36 rfl (lv_at hl 1 rfl) ?_
    refine q_ci (q_runS (As := [.int v1]) (rest := [.ref (q_rf X a 20), .long 0, .long y_14]) E (hml.trans hl.1.symm) hI (c_X12_laid l X σ_2 v1 (by first | (clear ggy_6 ahpσ_9 bhpσ_9 dhpσ_9 c_10 hy ggy_14 iy_14; omega) | omega)) ks_X12_279 rfl ⟨Nat.le_of_ble_eq_true rfl, Nat.le_of_ble_eq_true rfl⟩ ⟨Nat.le_refl _, Nat.le_refl _⟩ rfl (Nat.le_of_ble_eq_true rfl) dX12_cardOf_37) hI (Nat.le_of_ble_eq_true rfl) (fun r_15 σ_16 H locs hpσ_16 hkσ_16 hI => ?_)
    have ahpσ_16 := hpσ_16.1
    have bhpσ_16 := hpσ_16.2.1
    have chpσ_16 := hpσ_16.2.2
    clear hpσ_16
    replace hI := q_Irw ahpσ_16 hI
    replace hF := q_letX hF chpσ_16
    have ir_15 : r_15.toInt = (94 + 7 * v1.toInt) := (by omega)
    refine lv_iconst (v := 2) hx hb dX12_cardOf_40 zki_2 ?_
    refine lv_iadd hx hb dX12_cardOf_41 ?_
    refine lv_topi (fun z_17 ez_17 => ?_)
    replace hF := q_letX hF ez_17
    have iz_17 := q_addI (A := (94 + 7 * v1.toInt)) (B := 2) ez_17 ir_15 (by decide) (by first | (clear hh if_4 iz_5 ggy_6 iy_6 ahpσ_9 bhpσ_9 dhpσ_9 c_10 hy ggy_14 iy_14 ahpσ_16 bhpσ_16 chpσ_16 ir_15; omega) | omega) (by first | (clear ggy_6 kc_7 ahpσ_9 bhpσ_9 dhpσ_9 c_10 hy ggy_14 iy_14 ahpσ_16 bhpσ_16 chpσ_16 ir_15; omega) | omega)
    refine q_iald E hI (q_tk (k' := 34) hI ha rfl (Nat.succ_ne_zero _)) ⟨by decide, rfl⟩ (by first | (clear hh ggy_3 if_4 iz_5 ggy_6 iy_6 ahpσ_9 bhpσ_9 dhpσ_9 c_10 hy ggy_14 iy_14 ahpσ_16 bhpσ_16 chpσ_16 ir_15; omega) | omega) (by rw [q_lnk (v := 4650) hI (q_tk (k' := 34) hI ha rfl (Nat.succ_ne_zero _)) rfl (by decide)]; omega) dX12_cardOf_42 ?_
    refine lv_topi (fun f_18 ef_18 => ?_)
    replace hF := q_letX hF ef_18
    have if_18 : f_18.toInt = m_c X σ a ((94 + 7 * v1.toInt) + 2) := (m_rd ef_18 iz_17).trans (congrFun feσ_2 _)
    refine lv_iconst (v := 1) hx hb dX12_cardOf_43 zki_1 ?_
    refine lv_isub hx hb dX12_cardOf_44 ?_
    refine lv_topi (fun z_19 ez_19 => ?_)
    replace hF := q_letX hF ez_19
    have iz_19 := q_subI (A := (m_c X σ a ((94 + 7 * v1.toInt) + 2))) (B := 1) ez_19 if_18 (by decide) (by first | (clear hh ggy_3 iy_3 if_4 iz_5 ggy_6 iy_6 kc_7 ahpσ_9 bhpσ_9 dhpσ_9 c_10 chpσ_9 ggy_14 iy_14 ahpσ_16 bhpσ_16 chpσ_16 ir_15 iz_17; omega) | omega) (by first | (clear hh ggy_3 iy_3 if_4 iz_5 ggy_6 iy_6 kc_7 ahpσ_9 bhpσ_9 dhpσ_9 c_10 chpσ_9 ggy_14 iy_14 ahpσ_16 bhpσ_16 chpσ_16 ir_15 iz_17; omega) | omega)
    refine lv_i2l hx hb dX12_cardOf_45 rfl ?_
    refine lv_topl (fun y_20 ey_20 => ?_)
    replace hF := q_letX hF ey_20
    have ggy_20 := q_rng z_19
    have iy_20 : y_20.toInt = z_19.toInt := by rw [ey_20]; exact (q_i2l _).trans rfl
    have kc_21 : (0 : Int64).toInt = 0 := rfl
    refine q_ci (q_runS (As := [.long y_14, .long 0, .long y_20]) (rest := []) E (hml.trans hl.1.symm) hI (c_X12_isIn l X σ_2 y_14 (0 : Int64) y_20) ks_X12_94 rfl ⟨Nat.le_of_ble_eq_true rfl, Nat.le_of_ble_eq_true rfl⟩ ⟨Nat.le_refl _, Nat.le_refl _⟩ rfl (Nat.le_of_ble_eq_true rfl) dX12_cardOf_46) hI (Nat.le_of_ble_eq_true rfl) (fun r_22 σ_23 H locs hpσ_23 hkσ_23 hI => ?_)
    have ahpσ_23 := hpσ_23.1
    have bhpσ_23 := hpσ_23.2.1
    have chpσ_23 := hpσ_23.2.2.1
    have dhpσ_23 := hpσ_23.2.2.2
    clear hpσ_23
    replace hI := q_Irw ahpσ_23 hI
    replace hF := q_letX hF dhpσ_23
    refine q_if_ne (A := r_22.toInt) E rfl (tgt := 59) dX12_cardOf_49 (by decide) (fun c_24 => ?_) (fun c_24 => ?_)
    · skip
      replace hF := q_ifn hF c_24
      replace c_24 := q_ifOne bhpσ_23 c_24
      replace chpσ_23 := q_ifYes chpσ_23 c_24
      refine lv_aload_n hx hb dX12_cardOf_59 rfl (lv_at hl 0 rfl) ?_
      refine gs_X12_35_12 E hI ha dX12_cardOf_60 ?_
      refine lv_iload_n hx hb dX12_cardOf_63 rfl (lv_at hl 1 rfl) ?_
      refine q_ci (q_runS (As := [.int v1]) (rest := [.ref (q_rf X a 20)]) E (hml.trans hl.1.symm) hI (c_X12_laid l X σ_2 v1 (by first | (clear ggy_6 ahpσ_9 bhpσ_9 dhpσ_9 c_10 hy ggy_14 iy_14 ahpσ_16 bhpσ_16 chpσ_16 ir_15 iz_17 if_18 iz_19 ggy_20 iy_20 kc_21 ahpσ_23 bhpσ_23 dhpσ_23 c_24 chpσ_23; omega) | omega)) ks_X12_279 rfl ⟨Nat.le_of_ble_eq_true rfl, Nat.le_of_ble_eq_true rfl⟩ ⟨Nat.le_refl _, Nat.le_refl _⟩ rfl (Nat.le_of_ble_eq_true rfl) dX12_cardOf_64) hI (Nat.le_of_ble_eq_true rfl) (fun r_25 σ_26 H locs hpσ_26 hkσ_26 hI => ?_)
      have ahpσ_26 := hpσ_26.1
      have bhpσ_26 := hpσ_26.2.1
      have chpσ_26 := hpσ_26.2.2
      clear hpσ_26
      replace hI := q_Irw ahpσ_26 hI
      replace hF := q_letX hF chpσ_26
      have ir_25 : r_25.toInt = (94 + 7 * v1.toInt) := (by omega)
      refine lv_iconst (v := 3) hx hb dX12_cardOf_67 zki_3 ?_
      refine lv_iadd hx hb dX12_cardOf_68 ?_
      refine lv_topi (fun z_27 ez_27 => ?_)
      replace hF := q_letX hF ez_27
      have iz_27 := q_addI (A := (94 + 7 * v1.toInt)) (B := 3) ez_27 ir_25 (by decide) (by first | (clear hh if_4 iz_5 ggy_6 iy_6 ahpσ_9 bhpσ_9 dhpσ_9 c_10 hy ggy_14 iy_14 ahpσ_16 bhpσ_16 chpσ_16 ir_15 iz_17 if_18 iz_19 ggy_20 iy_20 kc_21 ahpσ_23 bhpσ_23 dhpσ_23 c_24 chpσ_23 ahpσ_26 bhpσ_26 chpσ_26 ir_25; omega) | omega) (by first | (clear ggy_6 kc_7 ahpσ_9 bhpσ_9 dhpσ_9 c_10 hy ggy_14 iy_14 ahpσ_16 bhpσ_16 chpσ_16 ir_15 iz_17 if_18 iz_19 ggy_20 iy_20 kc_21 ahpσ_23 bhpσ_23 dhpσ_23 c_24 chpσ_23 ahpσ_26 bhpσ_26 chpσ_26 ir_25; omega) | omega)
      refine lv_iload_n hx hb dX12_cardOf_69 rfl (lv_at hl 2 rfl) ?_
      refine lv_iadd hx hb dX12_cardOf_70 ?_
      refine lv_topi (fun z_28 ez_28 => ?_)
      replace hF := q_letX hF ez_28
      have iz_28 := q_addI (A := ((94 + 7 * v1.toInt) + 3)) (B := v2.toInt) ez_28 iz_27 rfl (by first | (clear hh ggy_3 if_4 iz_5 ggy_6 iy_6 ahpσ_9 bhpσ_9 dhpσ_9 c_10 hy ahpσ_16 bhpσ_16 chpσ_16 ir_15 iz_17 if_18 iz_19 ggy_20 iy_20 kc_21 ahpσ_23 bhpσ_23 dhpσ_23 c_24 ahpσ_26 bhpσ_26 chpσ_26 ir_25 iz_27; omega) | omega) (by first | (clear ggy_3 ggy_6 kc_7 ahpσ_9 bhpσ_9 dhpσ_9 c_10 ggy_14 ahpσ_16 bhpσ_16 chpσ_16 ir_15 iz_17 ggy_20 kc_21 ahpσ_23 bhpσ_23 dhpσ_23 c_24 ahpσ_26 bhpσ_26 chpσ_26 ir_25 iz_27; omega) | omega)
      refine q_iald E hI (q_tk (k' := 34) hI ha rfl (Nat.succ_ne_zero _)) ⟨by decide, rfl⟩ (by first | (clear hh ggy_3 if_4 iz_5 ggy_6 iy_6 ahpσ_9 bhpσ_9 dhpσ_9 c_10 ahpσ_16 bhpσ_16 chpσ_16 ir_15 iz_17 ggy_20 kc_21 ahpσ_23 bhpσ_23 dhpσ_23 c_24 ahpσ_26 bhpσ_26 chpσ_26 ir_25 iz_27; omega) | omega) (by rw [q_lnk (v := 4650) hI (q_tk (k' := 34) hI ha rfl (Nat.succ_ne_zero _)) rfl (by decide)]; omega) dX12_cardOf_71 ?_
      refine lv_topi (fun f_29 ef_29 => ?_)
      replace hF := q_letX hF ef_29
      have if_29 : f_29.toInt = m_c X σ a (((94 + 7 * v1.toInt) + 3) + v2.toInt) := (m_rd ef_29 iz_28).trans (congrFun feσ_2 _)
      exact q_reti E hr hlk hI ⟨(hF.trans hout), fr_σ_2⟩ dX12_cardOf_72
    · skip
      replace hF := q_ifp hF c_24
      replace chpσ_23 := q_ifNo chpσ_23 c_24
      refine lv_aload_n hx hb dX12_cardOf_52 rfl (lv_at hl 0 rfl) ?_
      refine lv_bipush (v := 8) hx hb dX12_cardOf_53 zkb_8 ?_
      have kc_30 : (8 : Int32).toInt = 8 := zt_8
      refine q_ci (q_rV11_1 (rest := []) E (hml.trans hl.1.symm) hI (c_X12_refuse l X σ_2 a (8 : Int32) ha) kv_X12_284 ha ⟨Nat.le_of_ble_eq_true rfl, Nat.le_of_ble_eq_true rfl⟩ (Nat.le_of_ble_eq_true rfl) dX12_cardOf_55) hI (Nat.le_of_ble_eq_true rfl) (fun r_31 σ_32 H locs hpσ_32 hkσ_32 hI => ?_)
      have ahpσ_32 := hpσ_32.1
      have bhpσ_32 := hpσ_32.2.1
      have chpσ_32 := hpσ_32.2.2
      clear hpσ_32
      have fr_σ_32 := fr_σ_2.call chpσ_32 rfl rfl
      replace hF := q_biX hF bhpσ_32
      have mcσ_32 := m_cK hkσ_32 hI.1 ha (by decide)
      have feσ_32 : m_c X σ_32 a = m_c X σ a := (funext mcσ_32).trans feσ_2
      exact q_reti E hr hlk hI ⟨(hF.trans hout), fr_σ_32⟩ dX12_cardOf_58
end
