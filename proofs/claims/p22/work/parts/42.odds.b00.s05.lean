section
set_option maxRecDepth 100000 in
set_option maxHeartbeats 4000000 in
theorem c_X12_laying (l : Launch) (X : XW) (σ : ST) (a : Nat) (v1 : Int32) (v2 : Int32) (ha : q_kd X a = 12) (hG : m_G (m_c X σ a)) : Met l yX12_laying (q_ws yX12_laying cX12_laying 3 (some .int)) (q_rm 2 44) (q_P X σ [.ref a, .int v1, .int v2]) (q_Qi X 8 σ (fun (r : Int32) (σ' : ST) => (r, σ') = F_X12_laying X σ a v1 v2 ∧ q_ow [(12, 0), (12, 1)] [] X σ σ')) 0 0 (q_reg X) := by
  refine q_met 8 (by first | exact rfl | decide +kernel) rfl (Nat.le_of_ble_eq_true rfl) (fun p e s m below meth c E hml hr hlk hI ls hl => ?_)
  have hx := E.1
  have hb := E.2.1
  have hl : lv_has ls 3 [(0, .ref a), (1, .int v1), (2, .int v2)] := hl
  have feσ : m_c X σ a = m_c X σ a := rfl
  have fr_σ : q_ow [(12, 0), (12, 1)] [] X σ σ := q_ow.rf
  have hh := hG.hd
  obtain ⟨out, hout⟩ : ∃ o, o = F_X12_laying X σ a v1 v2 := ⟨_, rfl⟩
  have hF := hout.symm
  unfold F_X12_laying at hF
  refine lv_aload_n hx hb dX12_laying_0 rfl (lv_at hl 0 rfl) ?_
  refine lv_iconst (v := 0) hx hb dX12_laying_1 zki_0 ?_
  refine ps_X12_59_12 E hI ha (by decide) dX12_laying_2 (fun H locs σ_1 hσ_1 hI => ?_)
  replace hF := q_letX hF hσ_1
  have fr_σ_1 := fr_σ.si hσ_1 ha rfl
  have mcσ_1 := m_wo hσ_1 (m_ne ha (q_tk (f := 20) (k' := 34) hI ha rfl (by decide)) (by decide))
  have feσ_1 : m_c X σ_1 a = m_c X σ a := (funext mcσ_1).trans feσ
  refine lv_aload_n hx hb dX12_laying_5 rfl (lv_at hl 0 rfl) ?_
  refine lv_iconst (v := 0) hx hb dX12_laying_6 zki_0 ?_
  refine ps_X12_62_12 E hI ha (by decide) dX12_laying_7 (fun H locs σ_2 hσ_2 hI => ?_)
  replace hF := q_letX hF hσ_2
  have fr_σ_2 := fr_σ_1.si hσ_2 ha rfl
  have mcσ_2 := m_wo hσ_2 (m_ne ha (q_tk (f := 20) (k' := 34) hI ha rfl (by decide)) (by decide))
  have feσ_2 : m_c X σ_2 a = m_c X σ a := (funext mcσ_2).trans feσ_1
  refine lv_iload_n hx hb dX12_laying_10 rfl (lv_at hl 2 rfl) ?_
  refine lv_i2l hx hb dX12_laying_11 rfl ?_
  refine lv_topl (fun y_3 ey_3 => ?_)
  replace hF := q_letX hF ey_3
  have ggy_3 := q_rng v2
  have iy_3 : y_3.toInt = v2.toInt := by rw [ey_3]; exact (q_i2l _).trans rfl
  refine lv_lconst (v := 0) hx hb dX12_laying_12 (by decide) ?_
  refine lv_ldc2 (v := 3) hx hb E.2.2.1 (E.2.2.2.1 _ (q_in_t8 (i := 167) (by first | rfl | decide +kernel) rfl)) dX12_laying_13 ?_
  have kc_4 : (0 : Int64).toInt = 0 := rfl
  have kc_5 : (3 : Int64).toInt = 3 := rfl
  refine q_ci (q_runS (As := [.long y_3, .long 0, .long 3]) (rest := []) E (hml.trans hl.1.symm) hI (c_X12_isIn l X σ_2 y_3 (0 : Int64) (3 : Int64)) ks_X12_94 rfl ⟨Nat.le_of_ble_eq_true rfl, Nat.le_of_ble_eq_true rfl⟩ ⟨Nat.le_refl _, Nat.le_refl _⟩ rfl (Nat.le_of_ble_eq_true rfl) dX12_laying_16) hI (Nat.le_of_ble_eq_true rfl) (fun r_6 σ_7 H locs hpσ_7 hkσ_7 hI => ?_)
  have ahpσ_7 := hpσ_7.1
  have bhpσ_7 := hpσ_7.2.1
  have chpσ_7 := hpσ_7.2.2.1
  have dhpσ_7 := hpσ_7.2.2.2
  clear hpσ_7
  replace hI := q_Irw ahpσ_7 hI
  replace hF := q_letX hF dhpσ_7
  refine q_if_ne (A := r_6.toInt) E rfl (tgt := 28) dX12_laying_19 (by decide) (fun c_8 => ?_) (fun c_8 => ?_)
  · skip
    replace hF := q_ifn hF c_8
    replace c_8 := q_ifOne bhpσ_7 c_8
    replace chpσ_7 := q_ifYes chpσ_7 c_8
    refine lv_iload_n hx hb dX12_laying_28 rfl (lv_at hl 1 rfl) ?_
    refine lv_i2l hx hb dX12_laying_29 rfl ?_
    refine lv_topl (fun y_9 ey_9 => ?_)
    replace hF := q_letX hF ey_9
    have ggy_9 := q_rng v1
    have iy_9 : y_9.toInt = v1.toInt := by rw [ey_9]; exact (q_i2l _).trans rfl
    refine lv_lconst (v := 0) hx hb dX12_laying_30 (by decide) ?_
    refine lv_aload_n hx hb dX12_laying_31 rfl (lv_at hl 0 rfl) ?_
    refine gs_X12_35_12 E hI ha dX12_laying_32 ?_
    refine lv_bipush (v := 9) hx hb dX12_laying_35 zkb_9 ?_
    refine q_iald E hI (q_tk (k' := 34) hI ha rfl (Nat.succ_ne_zero _)) ⟨by decide, rfl⟩ (by decide) (by rw [q_lnk (v := 4650) hI (q_tk (k' := 34) hI ha rfl (Nat.succ_ne_zero _)) rfl (by decide)]; decide) dX12_laying_37 ?_
    refine lv_topi (fun f_10 ef_10 => ?_)
    replace hF := q_letX hF ef_10
    have if_10 : f_10.toInt = m_c X σ a 9 := (m_rd ef_10 (by decide)).trans (congrFun feσ_2 _)
    refine lv_iconst (v := 1) hx hb dX12_laying_38 zki_1 ?_
    refine lv_isub hx hb dX12_laying_39 ?_
    refine lv_topi (fun z_11 ez_11 => ?_)
    replace hF := q_letX hF ez_11
    have iz_11 := q_subI (A := (m_c X σ a 9)) (B := 1) ez_11 if_10 (by decide) (by first | (clear ggy_3 iy_3 kc_4 kc_5 ahpσ_7 bhpσ_7 dhpσ_7 c_8 chpσ_7 ggy_9 iy_9; omega) | omega) (by first | (clear ggy_3 iy_3 kc_4 kc_5 ahpσ_7 bhpσ_7 dhpσ_7 c_8 chpσ_7 ggy_9 iy_9; omega) | omega)
    refine lv_i2l hx hb dX12_laying_40 rfl ?_
    refine lv_topl (fun y_12 ey_12 => ?_)
    replace hF := q_letX hF ey_12
    have ggy_12 := q_rng z_11
    have iy_12 : y_12.toInt = z_11.toInt := by rw [ey_12]; exact (q_i2l _).trans rfl
    have kc_13 : (0 : Int64).toInt = 0 := rfl
    refine q_ci (q_runS (As := [.long y_9, .long 0, .long y_12]) (rest := []) E (hml.trans hl.1.symm) hI (c_X12_isIn l X σ_2 y_9 (0 : Int64) y_12) ks_X12_94 rfl ⟨Nat.le_of_ble_eq_true rfl, Nat.le_of_ble_eq_true rfl⟩ ⟨Nat.le_refl _, Nat.le_refl _⟩ rfl (Nat.le_of_ble_eq_true rfl) dX12_laying_41) hI (Nat.le_of_ble_eq_true rfl) (fun r_14 σ_15 H locs hpσ_15 hkσ_15 hI => ?_)
    have ahpσ_15 := hpσ_15.1
    have bhpσ_15 := hpσ_15.2.1
    have chpσ_15 := hpσ_15.2.2.1
    have dhpσ_15 := hpσ_15.2.2.2
    clear hpσ_15
    replace hI := q_Irw ahpσ_15 hI
    replace hF := q_letX hF dhpσ_15
    refine q_if_ne (A := r_14.toInt) E rfl (tgt := 54) dX12_laying_44 (by decide) (fun c_16 => ?_) (fun c_16 => ?_)
    · skip
      replace hF := q_ifn hF c_16
      replace c_16 := q_ifOne bhpσ_15 c_16
      replace chpσ_15 := q_ifYes chpσ_15 c_16
      refine lv_iload_n hx hb dX12_laying_54 rfl (lv_at hl 2 rfl) ?_
      refine lv_iconst (v := 3) hx hb dX12_laying_55 zki_3 ?_
      refine q_icmp_ne (A := v2.toInt) (B := 3) E rfl (by decide) (tgt := 67) dX12_laying_56 (by decide) (fun c_17 => ?_) (fun c_17 => ?_)
      · skip
        replace hF := q_ifn hF c_17
        refine lv_aload_n hx hb dX12_laying_67 rfl (lv_at hl 0 rfl) ?_
        refine gs_X12_35_12 E hI ha dX12_laying_68 ?_
        refine lv_iload_n hx hb dX12_laying_71 rfl (lv_at hl 1 rfl) ?_
        refine q_ci (q_runS (As := [.int v1]) (rest := [.ref (q_rf X a 20)]) E (hml.trans hl.1.symm) hI (c_X12_laid l X σ_2 v1 (by first | (clear ggy_3 iy_3 kc_5 ahpσ_7 bhpσ_7 dhpσ_7 c_8 chpσ_7 ggy_12 kc_13 ahpσ_15 bhpσ_15 dhpσ_15 c_16 c_17; omega) | omega)) ks_X12_279 rfl ⟨Nat.le_of_ble_eq_true rfl, Nat.le_of_ble_eq_true rfl⟩ ⟨Nat.le_refl _, Nat.le_refl _⟩ rfl (Nat.le_of_ble_eq_true rfl) dX12_laying_72) hI (Nat.le_of_ble_eq_true rfl) (fun r_18 σ_19 H locs hpσ_19 hkσ_19 hI => ?_)
        have ahpσ_19 := hpσ_19.1
        have bhpσ_19 := hpσ_19.2.1
        have chpσ_19 := hpσ_19.2.2
        clear hpσ_19
        replace hI := q_Irw ahpσ_19 hI
        replace hF := q_letX hF chpσ_19
        have ir_18 : r_18.toInt = (94 + 7 * v1.toInt) := (by omega)
        refine lv_iload_n hx hb dX12_laying_75 rfl (lv_at hl 2 rfl) ?_
        refine lv_iadd hx hb dX12_laying_76 ?_
        refine lv_topi (fun z_20 ez_20 => ?_)
        replace hF := q_letX hF ez_20
        have iz_20 := q_addI (A := (94 + 7 * v1.toInt)) (B := v2.toInt) ez_20 ir_18 rfl (by first | (clear hh ggy_3 kc_5 ahpσ_7 bhpσ_7 dhpσ_7 c_8 if_10 iz_11 ggy_12 iy_12 kc_13 ahpσ_15 bhpσ_15 dhpσ_15 c_16 c_17 ahpσ_19 bhpσ_19 chpσ_19 ir_18; omega) | omega) (by first | (clear ggy_3 kc_4 ahpσ_7 bhpσ_7 dhpσ_7 c_8 ggy_9 ggy_12 kc_13 ahpσ_15 bhpσ_15 dhpσ_15 c_16 c_17 ahpσ_19 bhpσ_19 chpσ_19 ir_18; omega) | omega)
        refine q_iald E hI (q_tk (k' := 34) hI ha rfl (Nat.succ_ne_zero _)) ⟨by decide, rfl⟩ (by first | (clear hh ahpσ_7 bhpσ_7 dhpσ_7 c_8 if_10 iz_11 ggy_12 iy_12 kc_13 ahpσ_15 bhpσ_15 dhpσ_15 c_16 c_17 ahpσ_19 bhpσ_19 chpσ_19 ir_18; omega) | omega) (by rw [q_lnk (v := 4650) hI (q_tk (k' := 34) hI ha rfl (Nat.succ_ne_zero _)) rfl (by decide)]; omega) dX12_laying_77 ?_
        refine lv_topi (fun f_21 ef_21 => ?_)
        replace hF := q_letX hF ef_21
        have if_21 : f_21.toInt = m_c X σ a ((94 + 7 * v1.toInt) + v2.toInt) := (m_rd ef_21 iz_20).trans (congrFun feσ_2 _)
        exact q_reti E hr hlk hI ⟨(hF.trans hout), fr_σ_2⟩ dX12_laying_78
      · skip
        replace hF := q_ifp hF c_17
        refine lv_aload_n hx hb dX12_laying_59 rfl (lv_at hl 0 rfl) ?_
        refine lv_iload_n hx hb dX12_laying_60 rfl (lv_at hl 1 rfl) ?_
        refine q_ci (q_rV11_1 (rest := []) E (hml.trans hl.1.symm) hI (c_X12_sortOf l X σ_2 a v1 ha (by rw [feσ_2]; exact hG) (by rw [feσ_2]; exact (by first | (clear hh ggy_3 iy_3 kc_5 ahpσ_7 bhpσ_7 dhpσ_7 c_8 chpσ_7 ggy_12 kc_13 ahpσ_15 bhpσ_15 dhpσ_15 c_16 c_17; omega) | omega))) kv_X12_305 ha ⟨Nat.le_of_ble_eq_true rfl, Nat.le_of_ble_eq_true rfl⟩ (Nat.le_of_ble_eq_true rfl) dX12_laying_61) hI (Nat.le_of_ble_eq_true rfl) (fun r_22 σ_23 H locs hpσ_23 hkσ_23 hI => ?_)
        have ahpσ_23 := hpσ_23.1
        have bhpσ_23 := hpσ_23.2.1
        have chpσ_23 := hpσ_23.2.2
        clear hpσ_23
        replace hI := q_Irw ahpσ_23 hI
        replace hF := q_letX hF chpσ_23
        refine lv_goto (tgt := 78) hx hb dX12_laying_64 (by decide) ?_
        exact q_reti E hr hlk hI ⟨(hF.trans hout), fr_σ_2⟩ dX12_laying_78
    · skip
      replace hF := q_ifp hF c_16
      replace chpσ_15 := q_ifNo chpσ_15 c_16
      refine lv_aload_n hx hb dX12_laying_47 rfl (lv_at hl 0 rfl) ?_
      refine lv_bipush (v := 8) hx hb dX12_laying_48 zkb_8 ?_
      have kc_24 : (8 : Int32).toInt = 8 := zt_8
      refine q_ci (q_rV11_1 (rest := []) E (hml.trans hl.1.symm) hI (c_X12_refuse l X σ_2 a (8 : Int32) ha) kv_X12_284 ha ⟨Nat.le_of_ble_eq_true rfl, Nat.le_of_ble_eq_true rfl⟩ (Nat.le_of_ble_eq_true rfl) dX12_laying_50) hI (Nat.le_of_ble_eq_true rfl) (fun r_25 σ_26 H locs hpσ_26 hkσ_26 hI => ?_)
      have ahpσ_26 := hpσ_26.1
      have bhpσ_26 := hpσ_26.2.1
      have chpσ_26 := hpσ_26.2.2
      clear hpσ_26
      have fr_σ_26 := fr_σ_2.call chpσ_26 rfl rfl
      replace hF := q_biX hF bhpσ_26
      have mcσ_26 := m_cK hkσ_26 hI.1 ha (by decide)
      have feσ_26 : m_c X σ_26 a = m_c X σ a := (funext mcσ_26).trans feσ_2
      exact q_reti E hr hlk hI ⟨(hF.trans hout), fr_σ_26⟩ dX12_laying_53
  · skip
    replace hF := q_ifp hF c_8
    replace chpσ_7 := q_ifNo chpσ_7 c_8
    refine lv_aload_n hx hb dX12_laying_22 rfl (lv_at hl 0 rfl) ?_
    refine lv_iconst (v := 5) hx hb dX12_laying_23 zki_5 ?_
    have kc_27 : (5 : Int32).toInt = 5 := zt_5
    refine q_ci (q_rV11_1 (rest := []) E (hml.trans hl.1.symm) hI (c_X12_refuse l X σ_2 a (5 : Int32) ha) kv_X12_284 ha ⟨Nat.le_of_ble_eq_true rfl, Nat.le_of_ble_eq_true rfl⟩ (Nat.le_of_ble_eq_true rfl) dX12_laying_24) hI (Nat.le_of_ble_eq_true rfl) (fun r_28 σ_29 H locs hpσ_29 hkσ_29 hI => ?_)
    have ahpσ_29 := hpσ_29.1
    have bhpσ_29 := hpσ_29.2.1
    have chpσ_29 := hpσ_29.2.2
    clear hpσ_29
    have fr_σ_29 := fr_σ_2.call chpσ_29 rfl rfl
    replace hF := q_biX hF bhpσ_29
    have mcσ_29 := m_cK hkσ_29 hI.1 ha (by decide)
    have feσ_29 : m_c X σ_29 a = m_c X σ a := (funext mcσ_29).trans feσ_2
    exact q_reti E hr hlk hI ⟨(hF.trans hout), fr_σ_29⟩ dX12_laying_27
end
