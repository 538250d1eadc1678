set_option maxRecDepth 100000 in
set_option maxHeartbeats 4000000 in
theorem c_X12_blinds (l : Launch) (X : XW) (σ : ST) (a : Nat) (v1 : Int32) (ha : q_kd X a = 12) (hG : m_G (m_c X σ a)) (h0 : 0 ≤ v1.toInt ∧ v1.toInt < m_c X σ a 2) (ho : m_c X σ a 7 = 1) (hp : v1.toInt ≠ m_c X σ a 6) : Met l yX12_blinds (q_ws yX12_blinds cX12_blinds 3 none) (q_rm 5 114) (q_P X σ [.ref a, .int v1]) (q_Qv X 8 σ (fun (σ' : ST) => (0 ≤ (σ'.2.1 a 30).toInt ∧ (σ'.2.1 a 30).toInt ≤ 409600000000 ∧ 1 ≤ (σ'.2.1 a 31).toInt ∧ (σ'.2.1 a 31).toInt ≤ 409600000000) ∧ σ' = F_X12_blinds X σ a v1 ∧ q_ow [] [(12, 30), (12, 31)] X σ σ')) 0 0 (q_reg X) := by
  refine q_met 8 (by first | exact rfl | decide +kernel) rfl (Nat.le_of_ble_eq_true rfl) (fun p e s m below meth c E hml hr hlk hI ls hl => ?_)
  have hx := E.1
  have hb := E.2.1
  have hl : lv_has ls 3 [(0, .ref a), (1, .int v1)] := hl
  have feσ : m_c X σ a = m_c X σ a := rfl
  have fr_σ : q_ow [] [(12, 30), (12, 31)] X σ σ := q_ow.rf
  have hh := hG.hd
  have vo := hG.V_open (p := v1.toInt) (by first | (clear h0 ho hp hh; omega) | omega) (by first | (clear h0 ho hp hh; omega) | omega) ho hp
  obtain ⟨out, hout⟩ : ∃ o, o = F_X12_blinds X σ a v1 := ⟨_, rfl⟩
  have hF := hout.symm
  unfold F_X12_blinds at hF
  refine lv_aload_n hx hb dX12_blinds_0 rfl (lv_at hl 0 rfl) ?_
  refine gs_X12_35_12 E hI ha dX12_blinds_1 ?_
  refine lv_aload_n hx hb dX12_blinds_4 rfl (lv_at hl 0 rfl) ?_
  refine gs_X12_35_12 E hI ha dX12_blinds_5 ?_
  refine lv_bipush (v := 9) hx hb dX12_blinds_8 (by decide) ?_
  refine q_iald E hI (q_tk (k' := 34) hI ha rfl (by decide)) ⟨by decide, rfl⟩ (by decide) (by rw [q_lnk (v := 4650) hI (q_tk (k' := 34) hI ha rfl (by decide)) rfl (by decide)]; decide) dX12_blinds_10 ?_
  refine lv_topi (fun f_1 ef_1 => ?_)
  replace hF := q_letX hF ef_1
  have if_1 : f_1.toInt = m_c X σ a 9 := m_rd ef_1 (by decide)
  refine lv_iconst (v := 1) hx hb dX12_blinds_11 (by decide) ?_
  refine lv_isub hx hb dX12_blinds_12 ?_
  refine lv_topi (fun z_2 ez_2 => ?_)
  replace hF := q_letX hF ez_2
  have iz_2 := q_subI (A := (m_c X σ a 9)) (B := 1) ez_2 if_1 (by decide) (by first | (clear h0 hp vo; omega) | omega) (by first | (clear h0 hp vo; omega) | omega)
  refine q_ci (q_runS (As := [.int z_2]) (rest := [.ref (q_rf X a 20)]) E (hml.trans hl.1.symm) hI (c_X12_laid l X σ z_2 (by first | (clear h0 hp vo; omega) | omega)) ks_X12_279 rfl ⟨Nat.le_of_ble_eq_true rfl, Nat.le_of_ble_eq_true rfl⟩ ⟨Nat.le_refl _, Nat.le_refl _⟩ rfl (Nat.le_of_ble_eq_true rfl) dX12_blinds_13) hI (by decide) (fun r_3 σ_4 H locs hpσ_4 hkσ_4 hI => ?_)
  obtain ⟨ahpσ_4, bhpσ_4, chpσ_4⟩ := hpσ_4
  rw [ahpσ_4] at hI
  replace hF := q_letX hF chpσ_4
  have ir_3 : r_3.toInt = (94 + 7 * ((m_c X σ a 9) - 1)) := (by first | (clear h0 ho hp hh vo ahpσ_4 chpσ_4; omega) | omega)
  refine lv_iconst (v := 2) hx hb dX12_blinds_16 (by decide) ?_
  refine lv_iadd hx hb dX12_blinds_17 ?_
  refine lv_topi (fun z_5 ez_5 => ?_)
  replace hF := q_letX hF ez_5
  have iz_5 := q_addI (A := (94 + 7 * ((m_c X σ a 9) - 1))) (B := 2) ez_5 ir_3 (by decide) (by first | (clear h0 hp vo ahpσ_4 bhpσ_4 chpσ_4 ir_3; omega) | omega) (by first | (clear h0 hp vo ahpσ_4 bhpσ_4 chpσ_4 ir_3; omega) | omega)
  refine q_iald E hI (q_tk (k' := 34) hI ha rfl (by decide)) ⟨by decide, rfl⟩ (by first | (clear h0 hp vo ahpσ_4 bhpσ_4 chpσ_4 ir_3; omega) | omega) (by rw [q_lnk (v := 4650) hI (q_tk (k' := 34) hI ha rfl (by decide)) rfl (by decide)]; omega) dX12_blinds_18 ?_
  refine lv_topi (fun f_6 ef_6 => ?_)
  replace hF := q_letX hF ef_6
  have if_6 : f_6.toInt = m_c X σ a ((94 + 7 * ((m_c X σ a 9) - 1)) + 2) := m_rd ef_6 iz_5
  refine lv_istore_n (lv' := [(2, .int f_6), (0, .ref a), (1, .int v1)]) hx hb dX12_blinds_19 rfl hl (by decide) rfl (fun ls hl => ?_)
  refine lv_aload_n hx hb dX12_blinds_20 rfl (lv_at hl 1 rfl) ?_
  refine lv_aload_n hx hb dX12_blinds_21 rfl (lv_at hl 1 rfl) ?_
  refine lv_iload_n hx hb dX12_blinds_22 rfl (lv_at hl 2 rfl) ?_
  refine lv_aload_n hx hb dX12_blinds_23 rfl (lv_at hl 1 rfl) ?_
  refine gs_X12_35_12 E hI ha dX12_blinds_24 ?_
  refine lv_iconst (v := 5) hx hb dX12_blinds_27 (by decide) ?_
  refine q_iald E hI (q_tk (k' := 34) hI ha rfl (by decide)) ⟨by decide, rfl⟩ (by decide) (by rw [q_lnk (v := 4650) hI (q_tk (k' := 34) hI ha rfl (by decide)) rfl (by decide)]; decide) dX12_blinds_28 ?_
  refine lv_topi (fun f_7 ef_7 => ?_)
  replace hF := q_letX hF ef_7
  have if_7 : f_7.toInt = m_c X σ a 5 := m_rd ef_7 (by decide)
  refine q_ci (q_runV (As := [.int v1, .int f_7]) (rest := [.ref a]) E (hml.trans hl.1.symm) hI (c_X12_unknownOf l X σ a v1 f_7 ha hG (by omega) (by first | (clear h0 ho hp vo if_1 iz_2 ahpσ_4 bhpσ_4 chpσ_4 ir_3 iz_5 if_6; omega) | omega)) kv_X12_336 ha ⟨rfl, by decide⟩ (show vwCl[11]? = some (RX12, TX12, 46) from rfl) rfl ⟨Nat.le_of_ble_eq_true rfl, Nat.le_of_ble_eq_true rfl⟩ ⟨Nat.le_refl _, Nat.le_refl _⟩ rfl (Nat.le_of_ble_eq_true rfl) dX12_blinds_29) hI (by decide) (fun r_8 σ_9 H locs hpσ_9 hkσ_9 hI => ?_)
  obtain ⟨ahpσ_9, bhpσ_9, chpσ_9, dhpσ_9⟩ := hpσ_9
  rw [ahpσ_9] at hI
  replace hF := q_letX hF dhpσ_9
  have ir_8 : r_8.toInt = (m_U (m_c X σ a) v1.toInt (m_c X σ a 5)) := (by first | exact bhpσ_9 | (rw [bhpσ_9, if_7]) | (simp only [bhpσ_9, if_7]))
  refine lv_iload_n hx hb dX12_blinds_32 rfl (lv_at hl 0 rfl) ?_
  refine q_cl_ (q_runS (As := [.int r_8, .int f_6]) (rest := [.ref a]) E (hml.trans hl.1.symm) hI (c_X12_choose l X σ r_8 f_6 (by first | (clear h0 ho hp hh vo if_1 iz_2 ahpσ_4 bhpσ_4 chpσ_4 ir_3 iz_5 if_6 if_7 ahpσ_9 dhpσ_9; omega) | omega) (by first | (clear h0 ho hp hh if_1 iz_2 ahpσ_4 bhpσ_4 chpσ_4 ir_3 iz_5 if_7 ahpσ_9 bhpσ_9 chpσ_9 dhpσ_9 ir_8; omega) | omega)) ks_X12_342 rfl ⟨Nat.le_of_ble_eq_true rfl, Nat.le_of_ble_eq_true rfl⟩ ⟨Nat.le_refl _, Nat.le_refl _⟩ rfl (Nat.le_of_ble_eq_true rfl) dX12_blinds_33) hI (by decide) (fun r_10 σ_11 H locs hpσ_11 hkσ_11 hI => ?_)
  obtain ⟨ahpσ_11, bhpσ_11, chpσ_11, dhpσ_11⟩ := hpσ_11
  rw [ahpσ_11] at hI
  replace hF := q_letX hF dhpσ_11
  refine ps_X12_346_12 E hI ha  dX12_blinds_36 (fun H locs σ_12 hσ_12 hI => ?_)
  replace hF := q_letX hF hσ_12
  have fr_σ_12 := fr_σ.sl hσ_12 ha rfl
  have mcσ_12 := m_wl (X := X) hσ_12 a
  have feσ_12 : m_c X σ_12 a = m_c X σ a := (funext mcσ_12).trans feσ
  have btσ_12 : 0 ≤ (σ_12.2.1 a 30).toInt ∧ (σ_12.2.1 a 30).toInt ≤ 409600000000 := (by rw [m_ll hσ_12]; omega)
  refine lv_aload_n hx hb dX12_blinds_39 rfl (lv_at hl 1 rfl) ?_
  refine lv_aload_n hx hb dX12_blinds_40 rfl (lv_at hl 1 rfl) ?_
  refine lv_iload_n hx hb dX12_blinds_41 rfl (lv_at hl 2 rfl) ?_
  refine q_ci (q_runV (As := [.int v1]) (rest := [.ref a]) E (hml.trans hl.1.symm) hI (c_X12_unknownAll l X σ_12 a v1 ha (by rw [feσ_12]; exact hG) (by rw [feσ_12]; exact (by omega))) kv_X12_339 ha ⟨rfl, by decide⟩ (show vwCl[11]? = some (RX12, TX12, 46) from rfl) rfl ⟨Nat.le_of_ble_eq_true rfl, Nat.le_of_ble_eq_true rfl⟩ ⟨Nat.le_refl _, Nat.le_refl _⟩ rfl (Nat.le_of_ble_eq_true rfl) dX12_blinds_42) hI (by decide) (fun r_13 σ_14 H locs hpσ_14 hkσ_14 hI => ?_)
  obtain ⟨ahpσ_14, bhpσ_14, chpσ_14, dhpσ_14⟩ := hpσ_14
  rw [ahpσ_14] at hI
  rw [feσ_12] at bhpσ_14
  replace hF := q_letX hF dhpσ_14
  have ir_13 : r_13.toInt = (m_V (m_c X σ a) v1.toInt (m_c X σ a 0).toNat) := (by first | exact bhpσ_14 | (rw [bhpσ_14]) | (simp only [bhpσ_14]))
  refine lv_iload_n hx hb dX12_blinds_45 rfl (lv_at hl 0 rfl) ?_
  refine q_cl_ (q_runS (As := [.int r_13, .int f_6]) (rest := [.ref a]) E (hml.trans hl.1.symm) hI (c_X12_choose l X σ_12 r_13 f_6 (by omega) (by first | (clear h0 ho hp hh if_1 iz_2 ahpσ_4 bhpσ_4 chpσ_4 ir_3 iz_5 if_7 ahpσ_9 bhpσ_9 chpσ_9 dhpσ_9 ir_8 ahpσ_11 bhpσ_11 chpσ_11 dhpσ_11 ahpσ_14 bhpσ_14 chpσ_14 dhpσ_14 ir_13; omega) | omega)) ks_X12_342 rfl ⟨Nat.le_of_ble_eq_true rfl, Nat.le_of_ble_eq_true rfl⟩ ⟨Nat.le_refl _, Nat.le_refl _⟩ rfl (Nat.le_of_ble_eq_true rfl) dX12_blinds_46) hI (by decide) (fun r_15 σ_16 H locs hpσ_16 hkσ_16 hI => ?_)
  obtain ⟨ahpσ_16, bhpσ_16, chpσ_16, dhpσ_16⟩ := hpσ_16
  rw [ahpσ_16] at hI
  replace hF := q_letX hF dhpσ_16
  refine ps_X12_349_12 E hI ha  dX12_blinds_49 (fun H locs σ_17 hσ_17 hI => ?_)
  replace hF := q_letX hF hσ_17
  have fr_σ_17 := fr_σ_12.sl hσ_17 ha rfl
  have mcσ_17 := m_wl (X := X) hσ_17 a
  have feσ_17 : m_c X σ_17 a = m_c X σ a := (funext mcσ_17).trans feσ_12
  have btσ_17 : 0 ≤ (σ_17.2.1 a 30).toInt ∧ (σ_17.2.1 a 30).toInt ≤ 409600000000 := (by rw [m_lln hσ_17 (Or.inr (by decide))]; exact btσ_12)
  have bbσ_17 : 1 ≤ (σ_17.2.1 a 31).toInt ∧ (σ_17.2.1 a 31).toInt ≤ 409600000000 := (by rw [m_ll hσ_17]; omega)
  exact q_retv E hr hlk hI ⟨⟨btσ_17.1, btσ_17.2, bbσ_17.1, bbσ_17.2⟩, (hF.trans hout), fr_σ_17⟩ dX12_blinds_52

set_option maxRecDepth 100000 in
set_option maxHeartbeats 4000000 in
theorem c_X12_many (l : Launch) (X : XW) (σ : ST) (a : Nat) (v1 : Int32) (ha : q_kd X a = 12) (hG : m_G (m_c X σ a)) : Met l yX12_many (q_ws yX12_many cX12_many 2 (some .int)) (q_rm 2 42) (q_P X σ [.ref a, .int v1]) (q_Qi X 8 σ (fun (r : Int32) (σ' : ST) => (r, σ') = F_X12_many X σ a v1 ∧ q_ow [(12, 0), (12, 1)] [] X σ σ')) 0 0 (q_reg X) := by
  refine q_met 8 (by first | exact rfl | decide +kernel) rfl (Nat.le_of_ble_eq_true rfl) (fun p e s m below meth c E hml hr hlk hI ls hl => ?_)
  have hx := E.1
  have hb := E.2.1
  have hl : lv_has ls 2 [(0, .ref a), (1, .int v1)] := hl
  have feσ : m_c X σ a = m_c X σ a := rfl
  have fr_σ : q_ow [(12, 0), (12, 1)] [] X σ σ := q_ow.rf
  have hh := hG.hd
  obtain ⟨out, hout⟩ : ∃ o, o = F_X12_many X σ a v1 := ⟨_, rfl⟩
  have hF := hout.symm
  unfold F_X12_many at hF
  refine lv_aload_n hx hb dX12_many_0 rfl (lv_at hl 0 rfl) ?_
  refine lv_iconst (v := 0) hx hb dX12_many_1 (by decide) ?_
  refine ps_X12_59_12 E hI ha (by decide) dX12_many_2 (fun H locs σ_1 hσ_1 hI => ?_)
  replace hF := q_letX hF hσ_1
  have fr_σ_1 := fr_σ.si hσ_1 ha rfl
  have mcσ_1 := m_wo hσ_1 (m_ne ha (q_tk (f := 20) (k' := 34) hI ha rfl (by decide)) (by decide))
  have feσ_1 : m_c X σ_1 a = m_c X σ a := (funext mcσ_1).trans feσ
  refine lv_aload_n hx hb dX12_many_5 rfl (lv_at hl 0 rfl) ?_
  refine lv_iconst (v := 0) hx hb dX12_many_6 (by decide) ?_
  refine ps_X12_62_12 E hI ha (by decide) dX12_many_7 (fun H locs σ_2 hσ_2 hI => ?_)
  replace hF := q_letX hF hσ_2
  have fr_σ_2 := fr_σ_1.si hσ_2 ha rfl
  have mcσ_2 := m_wo hσ_2 (m_ne ha (q_tk (f := 20) (k' := 34) hI ha rfl (by decide)) (by decide))
  have feσ_2 : m_c X σ_2 a = m_c X σ a := (funext mcσ_2).trans feσ_1
  refine lv_iload_n hx hb dX12_many_10 rfl (lv_at hl 1 rfl) ?_
  refine lv_i2l hx hb dX12_many_11 rfl ?_
  refine lv_topl (fun y_3 ey_3 => ?_)
  replace hF := q_letX hF ey_3
  have ggy_3 := q_rng v1
  have iy_3 : y_3.toInt = v1.toInt := by rw [ey_3]; exact (q_i2l _).trans rfl
  refine lv_lconst (v := 0) hx hb dX12_many_12 (by decide) ?_
  refine lv_ldc2 (v := 10) hx hb E.2.2.1 (E.2.2.2.1 _ (q_in_t8 (i := 115) (by first | rfl | decide +kernel) rfl)) dX12_many_13 ?_
  have kc_4 : (0 : Int64).toInt = 0 := rfl
  have kc_5 : (10 : Int64).toInt = 10 := rfl
  refine q_ci (q_runS (As := [.long y_3, .long 0, .long 10]) (rest := []) E (hml.trans hl.1.symm) hI (c_X12_isIn l X σ_2 y_3 (0 : Int64) (10 : Int64)) ks_X12_94 rfl ⟨Nat.le_of_ble_eq_true rfl, Nat.le_of_ble_eq_true rfl⟩ ⟨Nat.le_refl _, Nat.le_refl _⟩ rfl (Nat.le_of_ble_eq_true rfl) dX12_many_16) hI (by decide) (fun r_6 σ_7 H locs hpσ_7 hkσ_7 hI => ?_)
  obtain ⟨ahpσ_7, bhpσ_7, chpσ_7, dhpσ_7⟩ := hpσ_7
  rw [ahpσ_7] at hI
  replace hF := q_letX hF dhpσ_7
  refine q_if_ne (A := r_6.toInt) E rfl (tgt := 28) dX12_many_19 (by decide) (fun c_8 => ?_) (fun c_8 => ?_)
  · skip
    replace hF := q_ifn hF c_8
    replace c_8 := q_ifOne bhpσ_7 c_8
    replace chpσ_7 := q_ifYes chpσ_7 c_8
    refine lv_iload_n hx hb dX12_many_28 rfl (lv_at hl 1 rfl) ?_
    by_cases c_9 : v1.toInt = 6
    · refine lv_tableIn (off := 35) (tgt := 64) hx hb dX12_many_29 (by first | (clear hh ggy_3 kc_4 kc_5 ahpσ_7 bhpσ_7 dhpσ_7 c_8 chpσ_7; omega) | omega) (by first | (clear hh ggy_3 kc_4 kc_5 ahpσ_7 bhpσ_7 dhpσ_7 c_8 chpσ_7; omega) | omega) (by rw [c_9]; rfl) (by decide) ?_
      replace hF := q_ifp hF c_9
      refine lv_aload_n hx hb dX12_many_64 rfl (lv_at hl 0 rfl) ?_
      refine gs_X12_35_12 E hI ha dX12_many_65 ?_
      refine lv_bipush (v := 6) hx hb dX12_many_68 (by decide) ?_
      refine q_iald E hI (q_tk (k' := 34) hI ha rfl (by decide)) ⟨by decide, rfl⟩ (by decide) (by rw [q_lnk (v := 4650) hI (q_tk (k' := 34) hI ha rfl (by decide)) rfl (by decide)]; decide) dX12_many_70 ?_
      refine lv_topi (fun f_10 ef_10 => ?_)
      replace hF := q_letX hF ef_10
      have if_10 : f_10.toInt = m_c X σ a 6 := (m_rd ef_10 (by decide)).trans (congrFun feσ_2 _)
      refine q_if_ge (A := f_10.toInt) E rfl (tgt := 83) dX12_many_71 (by decide) (fun c_11 => ?_) (fun c_11 => ?_)
      · skip
        replace hF := q_ifn hF (Int.not_lt.mpr c_11)
        refine lv_aload_n hx hb dX12_many_83 rfl (lv_at hl 0 rfl) ?_
        refine gs_X12_35_12 E hI ha dX12_many_84 ?_
        refine lv_bipush (v := 6) hx hb dX12_many_87 (by decide) ?_
        refine q_iald E hI (q_tk (k' := 34) hI ha rfl (by decide)) ⟨by decide, rfl⟩ (by decide) (by rw [q_lnk (v := 4650) hI (q_tk (k' := 34) hI ha rfl (by decide)) rfl (by decide)]; decide) dX12_many_89 ?_
        refine lv_topi (fun f_12 ef_12 => ?_)
        replace hF := q_letX hF ef_12
        have if_12 : f_12.toInt = m_c X σ a 6 := (m_rd ef_12 (by decide)).trans (congrFun feσ_2 _)
        exact q_reti E hr hlk hI ⟨(hF.trans hout), fr_σ_2⟩ dX12_many_90
      · skip
        replace hF := q_ifp hF c_11
        refine lv_aload_n hx hb dX12_many_74 rfl (lv_at hl 0 rfl) ?_
        refine lv_bipush (v := 8) hx hb dX12_many_75 (by decide) ?_
        have kc_13 : (8 : Int32).toInt = 8 := rfl
        refine q_ci (q_runV (As := [.int 8]) (rest := []) E (hml.trans hl.1.symm) hI (c_X12_refuse l X σ_2 a (8 : Int32) ha) kv_X12_284 ha ⟨rfl, by decide⟩ (show vwCl[11]? = some (RX12, TX12, 46) from rfl) rfl ⟨Nat.le_of_ble_eq_true rfl, Nat.le_of_ble_eq_true rfl⟩ ⟨Nat.le_refl _, Nat.le_refl _⟩ rfl (Nat.le_of_ble_eq_true rfl) dX12_many_77) hI (by decide) (fun r_14 σ_15 H locs hpσ_15 hkσ_15 hI => ?_)
        obtain ⟨ahpσ_15, bhpσ_15, chpσ_15⟩ := hpσ_15
        have fr_σ_15 := fr_σ_2.call chpσ_15 rfl rfl
        replace hF := q_biX hF bhpσ_15
        have mcσ_15 := m_cK hkσ_15 hI.1 ha (by decide)
        have feσ_15 : m_c X σ_15 a = m_c X σ a := (funext mcσ_15).trans feσ_2
        refine lv_goto (tgt := 90) hx hb dX12_many_80 (by decide) ?_
        exact q_reti E hr hlk hI ⟨(hF.trans hout), fr_σ_15⟩ dX12_many_90
    replace hF := q_ifn hF c_9
    by_cases c_16 : v1.toInt = 7
    · refine lv_tableIn (off := 62) (tgt := 91) hx hb dX12_many_29 (by first | (clear hh ggy_3 kc_4 kc_5 ahpσ_7 bhpσ_7 dhpσ_7 c_8 chpσ_7; omega) | omega) (by first | (clear hh ggy_3 kc_4 kc_5 ahpσ_7 bhpσ_7 dhpσ_7 c_8 chpσ_7; omega) | omega) (by rw [c_16]; rfl) (by decide) ?_
      replace hF := q_ifp hF c_16
      refine lv_aload_n hx hb dX12_many_91 rfl (lv_at hl 0 rfl) ?_
      refine q_ci (q_runV (As := []) (rest := []) E (hml.trans hl.1.symm) hI (c_X12_heapMany l X σ_2 a ha (by rw [feσ_2]; exact hG)) kv_X12_287 ha ⟨rfl, by decide⟩ (show vwCl[11]? = some (RX12, TX12, 46) from rfl) rfl ⟨Nat.le_of_ble_eq_true rfl, Nat.le_of_ble_eq_true rfl⟩ ⟨Nat.le_refl _, Nat.le_refl _⟩ rfl (Nat.le_of_ble_eq_true rfl) dX12_many_92) hI (by decide) (fun r_17 σ_18 H locs hpσ_18 hkσ_18 hI => ?_)
      obtain ⟨ahpσ_18, bhpσ_18, chpσ_18, dhpσ_18⟩ := hpσ_18
      rw [ahpσ_18] at hI
      rw [feσ_2] at bhpσ_18
      replace hF := q_letX hF dhpσ_18
      exact q_reti E hr hlk hI ⟨(hF.trans hout), fr_σ_2⟩ dX12_many_95
    replace hF := q_ifn hF c_16
    by_cases c_19 : v1.toInt = 8
    · refine lv_tableIn (off := 67) (tgt := 96) hx hb dX12_many_29 (by first | (clear hh ggy_3 kc_4 kc_5 ahpσ_7 bhpσ_7 dhpσ_7 c_8 chpσ_7; omega) | omega) (by first | (clear hh ggy_3 kc_4 kc_5 ahpσ_7 bhpσ_7 dhpσ_7 c_8 chpσ_7; omega) | omega) (by rw [c_19]; rfl) (by decide) ?_
      replace hF := q_ifp hF c_19
      refine lv_aload_n hx hb dX12_many_96 rfl (lv_at hl 0 rfl) ?_
      refine gs_X12_35_12 E hI ha dX12_many_97 ?_
      refine lv_bipush (v := 7) hx hb dX12_many_100 (by decide) ?_
      refine q_iald E hI (q_tk (k' := 34) hI ha rfl (by decide)) ⟨by decide, rfl⟩ (by decide) (by rw [q_lnk (v := 4650) hI (q_tk (k' := 34) hI ha rfl (by decide)) rfl (by decide)]; decide) dX12_many_102 ?_
      refine lv_topi (fun f_20 ef_20 => ?_)
      replace hF := q_letX hF ef_20
      have if_20 : f_20.toInt = m_c X σ a 7 := (m_rd ef_20 (by decide)).trans (congrFun feσ_2 _)
      exact q_reti E hr hlk hI ⟨(hF.trans hout), fr_σ_2⟩ dX12_many_103
    replace hF := q_ifn hF c_19
    by_cases c_21 : v1.toInt = 9
    · refine lv_tableIn (off := 75) (tgt := 104) hx hb dX12_many_29 (by first | (clear hh ggy_3 kc_4 kc_5 ahpσ_7 bhpσ_7 dhpσ_7 c_8 chpσ_7; omega) | omega) (by first | (clear hh ggy_3 kc_4 kc_5 ahpσ_7 bhpσ_7 dhpσ_7 c_8 chpσ_7; omega) | omega) (by rw [c_21]; rfl) (by decide) ?_
      replace hF := q_ifp hF c_21
      refine lv_aload_n hx hb dX12_many_104 rfl (lv_at hl 0 rfl) ?_
      refine gs_X12_35_12 E hI ha dX12_many_105 ?_
      refine lv_bipush (v := 8) hx hb dX12_many_108 (by decide) ?_
      refine q_iald E hI (q_tk (k' := 34) hI ha rfl (by decide)) ⟨by decide, rfl⟩ (by decide) (by rw [q_lnk (v := 4650) hI (q_tk (k' := 34) hI ha rfl (by decide)) rfl (by decide)]; decide) dX12_many_110 ?_
      refine lv_topi (fun f_22 ef_22 => ?_)
      replace hF := q_letX hF ef_22
      have if_22 : f_22.toInt = m_c X σ a 8 := (m_rd ef_22 (by decide)).trans (congrFun feσ_2 _)
      refine q_if_ge (A := f_22.toInt) E rfl (tgt := 123) dX12_many_111 (by decide) (fun c_23 => ?_) (fun c_23 => ?_)
      · skip
        replace hF := q_ifn hF (Int.not_lt.mpr c_23)
        refine lv_aload_n hx hb dX12_many_123 rfl (lv_at hl 0 rfl) ?_
        refine gs_X12_35_12 E hI ha dX12_many_124 ?_
        refine lv_bipush (v := 8) hx hb dX12_many_127 (by decide) ?_
        refine q_iald E hI (q_tk (k' := 34) hI ha rfl (by decide)) ⟨by decide, rfl⟩ (by decide) (by rw [q_lnk (v := 4650) hI (q_tk (k' := 34) hI ha rfl (by decide)) rfl (by decide)]; decide) dX12_many_129 ?_
        refine lv_topi (fun f_24 ef_24 => ?_)
        replace hF := q_letX hF ef_24
        have if_24 : f_24.toInt = m_c X σ a 8 := (m_rd ef_24 (by decide)).trans (congrFun feσ_2 _)
        exact q_reti E hr hlk hI ⟨(hF.trans hout), fr_σ_2⟩ dX12_many_130
      · skip
        replace hF := q_ifp hF c_23
        refine lv_aload_n hx hb dX12_many_114 rfl (lv_at hl 0 rfl) ?_
        refine lv_bipush (v := 8) hx hb dX12_many_115 (by decide) ?_
        have kc_25 : (8 : Int32).toInt = 8 := rfl
        refine q_ci (q_runV (As := [.int 8]) (rest := []) E (hml.trans hl.1.symm) hI (c_X12_refuse l X σ_2 a (8 : Int32) ha) kv_X12_284 ha ⟨rfl, by decide⟩ (show vwCl[11]? = some (RX12, TX12, 46) from rfl) rfl ⟨Nat.le_of_ble_eq_true rfl, Nat.le_of_ble_eq_true rfl⟩ ⟨Nat.le_refl _, Nat.le_refl _⟩ rfl (Nat.le_of_ble_eq_true rfl) dX12_many_117) hI (by decide) (fun r_26 σ_27 H locs hpσ_27 hkσ_27 hI => ?_)
        obtain ⟨ahpσ_27, bhpσ_27, chpσ_27⟩ := hpσ_27
        have fr_σ_27 := fr_σ_2.call chpσ_27 rfl rfl
        replace hF := q_biX hF bhpσ_27
        have mcσ_27 := m_cK hkσ_27 hI.1 ha (by decide)
        have feσ_27 : m_c X σ_27 a = m_c X σ a := (funext mcσ_27).trans feσ_2
        refine lv_goto (tgt := 130) hx hb dX12_many_120 (by decide) ?_
        exact q_reti E hr hlk hI ⟨(hF.trans hout), fr_σ_27⟩ dX12_many_130
    replace hF := q_ifn hF c_21
    by_cases c_28 : v1.toInt = 10
    · refine lv_tableIn (off := 102) (tgt := 131) hx hb dX12_many_29 (by first | (clear hh ggy_3 kc_4 kc_5 ahpσ_7 bhpσ_7 dhpσ_7 c_8 chpσ_7; omega) | omega) (by first | (clear hh ggy_3 kc_4 kc_5 ahpσ_7 bhpσ_7 dhpσ_7 c_8 chpσ_7; omega) | omega) (by rw [c_28]; rfl) (by decide) ?_
      replace hF := q_ifp hF c_28
      refine lv_aload_n hx hb dX12_many_131 rfl (lv_at hl 0 rfl) ?_
      refine gs_X12_35_12 E hI ha dX12_many_132 ?_
      refine lv_bipush (v := 9) hx hb dX12_many_135 (by decide) ?_
      refine q_iald E hI (q_tk (k' := 34) hI ha rfl (by decide)) ⟨by decide, rfl⟩ (by decide) (by rw [q_lnk (v := 4650) hI (q_tk (k' := 34) hI ha rfl (by decide)) rfl (by decide)]; decide) dX12_many_137 ?_
      refine lv_topi (fun f_29 ef_29 => ?_)
      replace hF := q_letX hF ef_29
      have if_29 : f_29.toInt = m_c X σ a 9 := (m_rd ef_29 (by decide)).trans (congrFun feσ_2 _)
      exact q_reti E hr hlk hI ⟨(hF.trans hout), fr_σ_2⟩ dX12_many_138
    replace hF := q_ifn hF c_28
    refine lv_tableOut (tgt := 139) hx hb dX12_many_29 (by first | (clear hh kc_4 kc_5 ahpσ_7 bhpσ_7 dhpσ_7 c_8 chpσ_7; omega) | omega) (by decide) ?_
    refine lv_aload_n hx hb dX12_many_139 rfl (lv_at hl 0 rfl) ?_
    refine gs_X12_35_12 E hI ha dX12_many_140 ?_
    refine lv_iload_n hx hb dX12_many_143 rfl (lv_at hl 1 rfl) ?_
    refine q_iald E hI (q_tk (k' := 34) hI ha rfl (by decide)) ⟨by decide, rfl⟩ (by first | (clear hh kc_5 ahpσ_7 bhpσ_7 dhpσ_7 c_8; omega) | omega) (by rw [q_lnk (v := 4650) hI (q_tk (k' := 34) hI ha rfl (by decide)) rfl (by decide)]; omega) dX12_many_144 ?_
    refine lv_topi (fun f_30 ef_30 => ?_)
    replace hF := q_letX hF ef_30
    have if_30 : f_30.toInt = m_c X σ a v1.toInt := (m_rd ef_30 rfl).trans (congrFun feσ_2 _)
    exact q_reti E hr hlk hI ⟨(hF.trans hout), fr_σ_2⟩ dX12_many_145
  · skip
    replace hF := q_ifp hF c_8
    replace chpσ_7 := q_ifNo chpσ_7 c_8
    refine lv_aload_n hx hb dX12_many_22 rfl (lv_at hl 0 rfl) ?_
    refine lv_iconst (v := 5) hx hb dX12_many_23 (by decide) ?_
    have kc_31 : (5 : Int32).toInt = 5 := rfl
    refine q_ci (q_runV (As := [.int 5]) (rest := []) E (hml.trans hl.1.symm) hI (c_X12_refuse l X σ_2 a (5 : Int32) ha) kv_X12_284 ha ⟨rfl, by decide⟩ (show vwCl[11]? = some (RX12, TX12, 46) from rfl) rfl ⟨Nat.le_of_ble_eq_true rfl, Nat.le_of_ble_eq_true rfl⟩ ⟨Nat.le_refl _, Nat.le_refl _⟩ rfl (Nat.le_of_ble_eq_true rfl) dX12_many_24) hI (by decide) (fun r_32 σ_33 H locs hpσ_33 hkσ_33 hI => ?_)
    obtain ⟨ahpσ_33, bhpσ_33, chpσ_33⟩ := hpσ_33
    have fr_σ_33 := fr_σ_2.call chpσ_33 rfl rfl
    replace hF := q_biX hF bhpσ_33
    have mcσ_33 := m_cK hkσ_33 hI.1 ha (by decide)
    have feσ_33 : m_c X σ_33 a = m_c X σ a := (funext mcσ_33).trans feσ_2
    exact q_reti E hr hlk hI ⟨(hF.trans hout), fr_σ_33⟩ dX12_many_27

set_option maxRecDepth 100000 in
set_option maxHeartbeats 4000000 in
theorem c_X12_player (l : Launch) (X : XW) (σ : ST) (a : Nat) (v1 : Int32) (v2 : Int32) (ha : q_kd X a = 12) (hG : m_G (m_c X σ a)) : Met l yX12_player (q_ws yX12_player cX12_player 3 (some .int)) (q_rm 2 46) (q_P X σ [.ref a, .int v1, .int v2]) (q_Qi X 8 σ (fun (r : Int32) (σ' : ST) => (r, σ') = F_X12_player X σ a v1 v2 ∧ q_ow [(12, 0), (12, 1)] [] X σ σ')) 0 0 (q_reg X) := by
  refine q_met 8 (by first | exact rfl | decide +kernel) rfl (Nat.le_of_ble_eq_true rfl) (fun p e s m below meth c E hml hr hlk hI ls hl => ?_)
  have hx := E.1
  have hb := E.2.1
  have hl : lv_has ls 3 [(0, .ref a), (1, .int v1), (2, .int v2)] := hl
  have feσ : m_c X σ a = m_c X σ a := rfl
  have fr_σ : q_ow [(12, 0), (12, 1)] [] X σ σ := q_ow.rf
  have hh := hG.hd
  obtain ⟨out, hout⟩ : ∃ o, o = F_X12_player X σ a v1 v2 := ⟨_, rfl⟩
  have hF := hout.symm
  unfold F_X12_player at hF
  refine lv_aload_n hx hb dX12_player_0 rfl (lv_at hl 0 rfl) ?_
  refine lv_iconst (v := 0) hx hb dX12_player_1 (by decide) ?_
  refine ps_X12_59_12 E hI ha (by decide) dX12_player_2 (fun H locs σ_1 hσ_1 hI => ?_)
  replace hF := q_letX hF hσ_1
  have fr_σ_1 := fr_σ.si hσ_1 ha rfl
  have mcσ_1 := m_wo hσ_1 (m_ne ha (q_tk (f := 20) (k' := 34) hI ha rfl (by decide)) (by decide))
  have feσ_1 : m_c X σ_1 a = m_c X σ a := (funext mcσ_1).trans feσ
  refine lv_aload_n hx hb dX12_player_5 rfl (lv_at hl 0 rfl) ?_
  refine lv_iconst (v := 0) hx hb dX12_player_6 (by decide) ?_
  refine ps_X12_62_12 E hI ha (by decide) dX12_player_7 (fun H locs σ_2 hσ_2 hI => ?_)
  replace hF := q_letX hF hσ_2
  have fr_σ_2 := fr_σ_1.si hσ_2 ha rfl
  have mcσ_2 := m_wo hσ_2 (m_ne ha (q_tk (f := 20) (k' := 34) hI ha rfl (by decide)) (by decide))
  have feσ_2 : m_c X σ_2 a = m_c X σ a := (funext mcσ_2).trans feσ_1
  refine lv_aload_n hx hb dX12_player_10 rfl (lv_at hl 0 rfl) ?_
  refine lv_iload_n hx hb dX12_player_11 rfl (lv_at hl 1 rfl) ?_
  refine q_ci (q_runV (As := [.int v1]) (rest := []) E (hml.trans hl.1.symm) hI (c_X12_isPlayerAt l X σ_2 a v1 ha (by rw [feσ_2]; exact hG)) kv_X12_290 ha ⟨rfl, by decide⟩ (show vwCl[11]? = some (RX12, TX12, 46) from rfl) rfl ⟨Nat.le_of_ble_eq_true rfl, Nat.le_of_ble_eq_true rfl⟩ ⟨Nat.le_refl _, Nat.le_refl _⟩ rfl (Nat.le_of_ble_eq_true rfl) dX12_player_12) hI (by decide) (fun r_3 σ_4 H locs hpσ_4 hkσ_4 hI => ?_)
  obtain ⟨ahpσ_4, bhpσ_4, chpσ_4, dhpσ_4⟩ := hpσ_4
  rw [ahpσ_4] at hI
  rw [feσ_2] at chpσ_4
  replace hF := q_letX hF dhpσ_4
  refine q_if_ne (A := r_3.toInt) E rfl (tgt := 24) dX12_player_15 (by decide) (fun c_5 => ?_) (fun c_5 => ?_)
  · skip
    replace hF := q_ifn hF c_5
    replace c_5 := q_ifOne bhpσ_4 c_5
    replace chpσ_4 := q_ifYes chpσ_4 c_5
    refine lv_iload_n hx hb dX12_player_24 rfl (lv_at hl 2 rfl) ?_
    by_cases c_6 : v2.toInt = 0
    · refine lv_tableIn (off := 39) (tgt := 64) hx hb dX12_player_25 (by first | (clear hh ahpσ_4 bhpσ_4 dhpσ_4 c_5 chpσ_4; omega) | omega) (by first | (clear hh ahpσ_4 bhpσ_4 dhpσ_4 c_5 chpσ_4; omega) | omega) (by rw [c_6]; rfl) (by decide) ?_
      replace hF := q_ifp hF c_6
      refine lv_aload_n hx hb dX12_player_64 rfl (lv_at hl 0 rfl) ?_
      refine gs_X12_35_12 E hI ha dX12_player_65 ?_
      refine lv_bipush (v := 10) hx hb dX12_player_68 (by decide) ?_
      refine lv_iload_n hx hb dX12_player_70 rfl (lv_at hl 1 rfl) ?_
      refine lv_iadd hx hb dX12_player_71 ?_
      refine lv_topi (fun z_7 ez_7 => ?_)
      replace hF := q_letX hF ez_7
      have iz_7 := q_addI (A := 10) (B := v1.toInt) ez_7 (by decide) rfl (by first | (clear hh ahpσ_4 bhpσ_4 dhpσ_4 c_5; omega) | omega) (by first | (clear ahpσ_4 bhpσ_4 dhpσ_4 c_5; omega) | omega)
      refine q_iald E hI (q_tk (k' := 34) hI ha rfl (by decide)) ⟨by decide, rfl⟩ (by first | (clear hh ahpσ_4 bhpσ_4 dhpσ_4 c_5; omega) | omega) (by rw [q_lnk (v := 4650) hI (q_tk (k' := 34) hI ha rfl (by decide)) rfl (by decide)]; omega) dX12_player_72 ?_
      refine lv_topi (fun f_8 ef_8 => ?_)
      replace hF := q_letX hF ef_8
      have if_8 : f_8.toInt = m_c X σ a (10 + v1.toInt) := (m_rd ef_8 iz_7).trans (congrFun feσ_2 _)
      exact q_reti E hr hlk hI ⟨(hF.trans hout), fr_σ_2⟩ dX12_player_73
    replace hF := q_ifn hF c_6
    by_cases c_9 : v2.toInt = 1
    · refine lv_tableIn (off := 49) (tgt := 74) hx hb dX12_player_25 (by first | (clear hh ahpσ_4 bhpσ_4 dhpσ_4 c_5 chpσ_4; omega) | omega) (by first | (clear hh ahpσ_4 bhpσ_4 dhpσ_4 c_5 chpσ_4; omega) | omega) (by rw [c_9]; rfl) (by decide) ?_
      replace hF := q_ifp hF c_9
      refine lv_aload_n hx hb dX12_player_74 rfl (lv_at hl 0 rfl) ?_
      refine gs_X12_35_12 E hI ha dX12_player_75 ?_
      refine lv_bipush (v := 16) hx hb dX12_player_78 (by decide) ?_
      refine lv_iload_n hx hb dX12_player_80 rfl (lv_at hl 1 rfl) ?_
      refine lv_iadd hx hb dX12_player_81 ?_
      refine lv_topi (fun z_10 ez_10 => ?_)
      replace hF := q_letX hF ez_10
      have iz_10 := q_addI (A := 16) (B := v1.toInt) ez_10 (by decide) rfl (by first | (clear hh ahpσ_4 bhpσ_4 dhpσ_4 c_5; omega) | omega) (by first | (clear ahpσ_4 bhpσ_4 dhpσ_4 c_5; omega) | omega)
      refine q_iald E hI (q_tk (k' := 34) hI ha rfl (by decide)) ⟨by decide, rfl⟩ (by first | (clear hh ahpσ_4 bhpσ_4 dhpσ_4 c_5; omega) | omega) (by rw [q_lnk (v := 4650) hI (q_tk (k' := 34) hI ha rfl (by decide)) rfl (by decide)]; omega) dX12_player_82 ?_
      refine lv_topi (fun f_11 ef_11 => ?_)
      replace hF := q_letX hF ef_11
      have if_11 : f_11.toInt = m_c X σ a (16 + v1.toInt) := (m_rd ef_11 iz_10).trans (congrFun feσ_2 _)
      exact q_reti E hr hlk hI ⟨(hF.trans hout), fr_σ_2⟩ dX12_player_83
    replace hF := q_ifn hF c_9
    by_cases c_12 : v2.toInt = 2
    · refine lv_tableIn (off := 59) (tgt := 84) hx hb dX12_player_25 (by first | (clear hh ahpσ_4 bhpσ_4 dhpσ_4 c_5 chpσ_4; omega) | omega) (by first | (clear hh ahpσ_4 bhpσ_4 dhpσ_4 c_5 chpσ_4; omega) | omega) (by rw [c_12]; rfl) (by decide) ?_
      replace hF := q_ifp hF c_12
      refine lv_aload_n hx hb dX12_player_84 rfl (lv_at hl 0 rfl) ?_
      refine lv_iload_n hx hb dX12_player_85 rfl (lv_at hl 1 rfl) ?_
      refine q_ci (q_runV (As := [.int v1]) (rest := []) E (hml.trans hl.1.symm) hI (c_X12_cardsOf l X σ_2 a v1 ha (by rw [feσ_2]; exact hG) (by first | (clear ahpσ_4 bhpσ_4 dhpσ_4 c_5; omega) | omega)) kv_X12_293 ha ⟨rfl, by decide⟩ (show vwCl[11]? = some (RX12, TX12, 46) from rfl) rfl ⟨Nat.le_of_ble_eq_true rfl, Nat.le_of_ble_eq_true rfl⟩ ⟨Nat.le_refl _, Nat.le_refl _⟩ rfl (Nat.le_of_ble_eq_true rfl) dX12_player_86) hI (by decide) (fun r_13 σ_14 H locs hpσ_14 hkσ_14 hI => ?_)
      obtain ⟨ahpσ_14, bhpσ_14, chpσ_14, dhpσ_14⟩ := hpσ_14
      rw [ahpσ_14] at hI
      rw [feσ_2] at bhpσ_14
      replace hF := q_letX hF dhpσ_14
      exact q_reti E hr hlk hI ⟨(hF.trans hout), fr_σ_2⟩ dX12_player_89
    replace hF := q_ifn hF c_12
    by_cases c_15 : v2.toInt = 3
    · refine lv_tableIn (off := 65) (tgt := 90) hx hb dX12_player_25 (by first | (clear hh ahpσ_4 bhpσ_4 dhpσ_4 c_5 chpσ_4; omega) | omega) (by first | (clear hh ahpσ_4 bhpσ_4 dhpσ_4 c_5 chpσ_4; omega) | omega) (by rw [c_15]; rfl) (by decide) ?_
      replace hF := q_ifp hF c_15
      refine lv_aload_n hx hb dX12_player_90 rfl (lv_at hl 0 rfl) ?_
      refine gs_X12_35_12 E hI ha dX12_player_91 ?_
      refine lv_bipush (v := 22) hx hb dX12_player_94 (by decide) ?_
      refine lv_iload_n hx hb dX12_player_96 rfl (lv_at hl 1 rfl) ?_
      refine lv_iadd hx hb dX12_player_97 ?_
      refine lv_topi (fun z_16 ez_16 => ?_)
      replace hF := q_letX hF ez_16
      have iz_16 := q_addI (A := 22) (B := v1.toInt) ez_16 (by decide) rfl (by first | (clear hh ahpσ_4 bhpσ_4 dhpσ_4 c_5; omega) | omega) (by first | (clear ahpσ_4 bhpσ_4 dhpσ_4 c_5; omega) | omega)
      refine q_iald E hI (q_tk (k' := 34) hI ha rfl (by decide)) ⟨by decide, rfl⟩ (by first | (clear hh ahpσ_4 bhpσ_4 dhpσ_4 c_5; omega) | omega) (by rw [q_lnk (v := 4650) hI (q_tk (k' := 34) hI ha rfl (by decide)) rfl (by decide)]; omega) dX12_player_98 ?_
      refine lv_topi (fun f_17 ef_17 => ?_)
      replace hF := q_letX hF ef_17
      have if_17 : f_17.toInt = m_c X σ a (22 + v1.toInt) := (m_rd ef_17 iz_16).trans (congrFun feσ_2 _)
      exact q_reti E hr hlk hI ⟨(hF.trans hout), fr_σ_2⟩ dX12_player_99
    replace hF := q_ifn hF c_15
    by_cases c_18 : v2.toInt = 4
    · refine lv_tableIn (off := 75) (tgt := 100) hx hb dX12_player_25 (by first | (clear hh ahpσ_4 bhpσ_4 dhpσ_4 c_5 chpσ_4; omega) | omega) (by first | (clear hh ahpσ_4 bhpσ_4 dhpσ_4 c_5 chpσ_4; omega) | omega) (by rw [c_18]; rfl) (by decide) ?_
      replace hF := q_ifp hF c_18
      refine lv_aload_n hx hb dX12_player_100 rfl (lv_at hl 0 rfl) ?_
      refine gs_X12_35_12 E hI ha dX12_player_101 ?_
      refine lv_bipush (v := 28) hx hb dX12_player_104 (by decide) ?_
      refine lv_iload_n hx hb dX12_player_106 rfl (lv_at hl 1 rfl) ?_
      refine lv_iadd hx hb dX12_player_107 ?_
      refine lv_topi (fun z_19 ez_19 => ?_)
      replace hF := q_letX hF ez_19
      have iz_19 := q_addI (A := 28) (B := v1.toInt) ez_19 (by decide) rfl (by first | (clear hh ahpσ_4 bhpσ_4 dhpσ_4 c_5; omega) | omega) (by first | (clear ahpσ_4 bhpσ_4 dhpσ_4 c_5; omega) | omega)
      refine q_iald E hI (q_tk (k' := 34) hI ha rfl (by decide)) ⟨by decide, rfl⟩ (by first | (clear hh ahpσ_4 bhpσ_4 dhpσ_4 c_5; omega) | omega) (by rw [q_lnk (v := 4650) hI (q_tk (k' := 34) hI ha rfl (by decide)) rfl (by decide)]; omega) dX12_player_108 ?_
      refine lv_topi (fun f_20 ef_20 => ?_)
      replace hF := q_letX hF ef_20
      have if_20 : f_20.toInt = m_c X σ a (28 + v1.toInt) := (m_rd ef_20 iz_19).trans (congrFun feσ_2 _)
      exact q_reti E hr hlk hI ⟨(hF.trans hout), fr_σ_2⟩ dX12_player_109
    replace hF := q_ifn hF c_18
    by_cases c_21 : v2.toInt = 5
    · refine lv_tableIn (off := 85) (tgt := 110) hx hb dX12_player_25 (by first | (clear hh ahpσ_4 bhpσ_4 dhpσ_4 c_5 chpσ_4; omega) | omega) (by first | (clear hh ahpσ_4 bhpσ_4 dhpσ_4 c_5 chpσ_4; omega) | omega) (by rw [c_21]; rfl) (by decide) ?_
      replace hF := q_ifp hF c_21
      refine lv_aload_n hx hb dX12_player_110 rfl (lv_at hl 0 rfl) ?_
      refine lv_iload_n hx hb dX12_player_111 rfl (lv_at hl 1 rfl) ?_
      refine lv_iconst (v := (-1)) hx hb dX12_player_112 (by decide) ?_
      have kc_22 : ((-1) : Int32).toInt = (-1) := rfl
      refine q_ci (q_runV (As := [.int v1, .int (-1)]) (rest := []) E (hml.trans hl.1.symm) hI (c_X12_laidOf l X σ_2 a v1 ((-1) : Int32) ha (by rw [feσ_2]; exact hG)) kv_X12_296 ha ⟨rfl, by decide⟩ (show vwCl[11]? = some (RX12, TX12, 46) from rfl) rfl ⟨Nat.le_of_ble_eq_true rfl, Nat.le_of_ble_eq_true rfl⟩ ⟨Nat.le_refl _, Nat.le_refl _⟩ rfl (Nat.le_of_ble_eq_true rfl) dX12_player_113) hI (by decide) (fun r_23 σ_24 H locs hpσ_24 hkσ_24 hI => ?_)
      obtain ⟨ahpσ_24, bhpσ_24, chpσ_24, dhpσ_24⟩ := hpσ_24
      rw [ahpσ_24] at hI
      rw [feσ_2] at bhpσ_24
      replace hF := q_letX hF dhpσ_24
      have ir_23 : r_23.toInt = (m_A (m_c X σ a) v1.toInt (-1) (m_c X σ a 9).toNat) := (by first | exact bhpσ_24 | (rw [bhpσ_24]) | (simp only [bhpσ_24]))
      exact q_reti E hr hlk hI ⟨(hF.trans hout), fr_σ_2⟩ dX12_player_116
    replace hF := q_ifn hF c_21
    refine lv_tableOut (tgt := 117) hx hb dX12_player_25 (by first | (clear hh ahpσ_4 bhpσ_4 dhpσ_4 c_5 chpσ_4; omega) | omega) (by decide) ?_
    refine lv_aload_n hx hb dX12_player_117 rfl (lv_at hl 0 rfl) ?_
    refine lv_iconst (v := 5) hx hb dX12_player_118 (by decide) ?_
    have kc_25 : (5 : Int32).toInt = 5 := rfl
    refine q_ci (q_runV (As := [.int 5]) (rest := []) E (hml.trans hl.1.symm) hI (c_X12_refuse l X σ_2 a (5 : Int32) ha) kv_X12_284 ha ⟨rfl, by decide⟩ (show vwCl[11]? = some (RX12, TX12, 46) from rfl) rfl ⟨Nat.le_of_ble_eq_true rfl, Nat.le_of_ble_eq_true rfl⟩ ⟨Nat.le_refl _, Nat.le_refl _⟩ rfl (Nat.le_of_ble_eq_true rfl) dX12_player_119) hI (by decide) (fun r_26 σ_27 H locs hpσ_27 hkσ_27 hI => ?_)
    obtain ⟨ahpσ_27, bhpσ_27, chpσ_27⟩ := hpσ_27
    have fr_σ_27 := fr_σ_2.call chpσ_27 rfl rfl
    replace hF := q_biX hF bhpσ_27
    have mcσ_27 := m_cK hkσ_27 hI.1 ha (by decide)
    have feσ_27 : m_c X σ_27 a = m_c X σ a := (funext mcσ_27).trans feσ_2
    exact q_reti E hr hlk hI ⟨(hF.trans hout), fr_σ_27⟩ dX12_player_122
  · skip
    replace hF := q_ifp hF c_5
    replace chpσ_4 := q_ifNo chpσ_4 c_5
    refine lv_aload_n hx hb dX12_player_18 rfl (lv_at hl 0 rfl) ?_
    refine lv_iconst (v := 2) hx hb dX12_player_19 (by decide) ?_
    have kc_28 : (2 : Int32).toInt = 2 := rfl
    refine q_ci (q_runV (As := [.int 2]) (rest := []) E (hml.trans hl.1.symm) hI (c_X12_refuse l X σ_2 a (2 : Int32) ha) kv_X12_284 ha ⟨rfl, by decide⟩ (show vwCl[11]? = some (RX12, TX12, 46) from rfl) rfl ⟨Nat.le_of_ble_eq_true rfl, Nat.le_of_ble_eq_true rfl⟩ ⟨Nat.le_refl _, Nat.le_refl _⟩ rfl (Nat.le_of_ble_eq_true rfl) dX12_player_20) hI (by decide) (fun r_29 σ_30 H locs hpσ_30 hkσ_30 hI => ?_)
    obtain ⟨ahpσ_30, bhpσ_30, chpσ_30⟩ := hpσ_30
    have fr_σ_30 := fr_σ_2.call chpσ_30 rfl rfl
    replace hF := q_biX hF bhpσ_30
    have mcσ_30 := m_cK hkσ_30 hI.1 ha (by decide)
    have feσ_30 : m_c X σ_30 a = m_c X σ a := (funext mcσ_30).trans feσ_2
    exact q_reti E hr hlk hI ⟨(hF.trans hout), fr_σ_30⟩ dX12_player_23

set_option maxRecDepth 100000 in
set_option maxHeartbeats 4000000 in
theorem c_X12_hand (l : Launch) (X : XW) (σ : ST) (a : Nat) (v1 : Int32) (v2 : Int32) (ha : q_kd X a = 12) (hG : m_G (m_c X σ a)) : Met l yX12_hand (q_ws yX12_hand cX12_hand 3 (some .int)) (q_rm 2 46) (q_P X σ [.ref a, .int v1, .int v2]) (q_Qi X 8 σ (fun (r : Int32) (σ' : ST) => (r, σ') = F_X12_hand X σ a v1 v2 ∧ q_ow [(12, 0), (12, 1)] [] X σ σ')) 0 0 (q_reg X) := by
  refine q_met 8 (by first | exact rfl | decide +kernel) rfl (Nat.le_of_ble_eq_true rfl) (fun p e s m below meth c E hml hr hlk hI ls hl => ?_)
  have hx := E.1
  have hb := E.2.1
  have hl : lv_has ls 3 [(0, .ref a), (1, .int v1), (2, .int v2)] := hl
  have feσ : m_c X σ a = m_c X σ a := rfl
  have fr_σ : q_ow [(12, 0), (12, 1)] [] X σ σ := q_ow.rf
  have hh := hG.hd
  obtain ⟨out, hout⟩ : ∃ o, o = F_X12_hand X σ a v1 v2 := ⟨_, rfl⟩
  have hF := hout.symm
  unfold F_X12_hand at hF
  refine lv_aload_n hx hb dX12_hand_0 rfl (lv_at hl 0 rfl) ?_
  refine lv_iconst (v := 0) hx hb dX12_hand_1 (by decide) ?_
  refine ps_X12_59_12 E hI ha (by decide) dX12_hand_2 (fun H locs σ_1 hσ_1 hI => ?_)
  replace hF := q_letX hF hσ_1
  have fr_σ_1 := fr_σ.si hσ_1 ha rfl
  have mcσ_1 := m_wo hσ_1 (m_ne ha (q_tk (f := 20) (k' := 34) hI ha rfl (by decide)) (by decide))
  have feσ_1 : m_c X σ_1 a = m_c X σ a := (funext mcσ_1).trans feσ
  refine lv_aload_n hx hb dX12_hand_5 rfl (lv_at hl 0 rfl) ?_
  refine lv_iconst (v := 0) hx hb dX12_hand_6 (by decide) ?_
  refine ps_X12_62_12 E hI ha (by decide) dX12_hand_7 (fun H locs σ_2 hσ_2 hI => ?_)
  replace hF := q_letX hF hσ_2
  have fr_σ_2 := fr_σ_1.si hσ_2 ha rfl
  have mcσ_2 := m_wo hσ_2 (m_ne ha (q_tk (f := 20) (k' := 34) hI ha rfl (by decide)) (by decide))
  have feσ_2 : m_c X σ_2 a = m_c X σ a := (funext mcσ_2).trans feσ_1
  refine lv_aload_n hx hb dX12_hand_10 rfl (lv_at hl 0 rfl) ?_
  refine lv_iload_n hx hb dX12_hand_11 rfl (lv_at hl 1 rfl) ?_
  refine q_ci (q_runV (As := [.int v1]) (rest := []) E (hml.trans hl.1.symm) hI (c_X12_isPlayerAt l X σ_2 a v1 ha (by rw [feσ_2]; exact hG)) kv_X12_290 ha ⟨rfl, by decide⟩ (show vwCl[11]? = some (RX12, TX12, 46) from rfl) rfl ⟨Nat.le_of_ble_eq_true rfl, Nat.le_of_ble_eq_true rfl⟩ ⟨Nat.le_refl _, Nat.le_refl _⟩ rfl (Nat.le_of_ble_eq_true rfl) dX12_hand_12) hI (by decide) (fun r_3 σ_4 H locs hpσ_4 hkσ_4 hI => ?_)
  obtain ⟨ahpσ_4, bhpσ_4, chpσ_4, dhpσ_4⟩ := hpσ_4
  rw [ahpσ_4] at hI
  rw [feσ_2] at chpσ_4
  replace hF := q_letX hF dhpσ_4
  refine q_if_eq (A := r_3.toInt) E rfl (tgt := 35) dX12_hand_15 (by decide) (fun c_5 => ?_) (fun c_5 => ?_)
  · skip
    replace hF := q_ifp hF c_5
    replace chpσ_4 := q_ifNo chpσ_4 c_5
    refine lv_aload_n hx hb dX12_hand_35 rfl (lv_at hl 0 rfl) ?_
    refine lv_iconst (v := 2) hx hb dX12_hand_36 (by decide) ?_
    have kc_6 : (2 : Int32).toInt = 2 := rfl
    refine q_ci (q_runV (As := [.int 2]) (rest := []) E (hml.trans hl.1.symm) hI (c_X12_refuse l X σ_2 a (2 : Int32) ha) kv_X12_284 ha ⟨rfl, by decide⟩ (show vwCl[11]? = some (RX12, TX12, 46) from rfl) rfl ⟨Nat.le_of_ble_eq_true rfl, Nat.le_of_ble_eq_true rfl⟩ ⟨Nat.le_refl _, Nat.le_refl _⟩ rfl (Nat.le_of_ble_eq_true rfl) dX12_hand_37) hI (by decide) (fun r_7 σ_8 H locs hpσ_8 hkσ_8 hI => ?_)
    obtain ⟨ahpσ_8, bhpσ_8, chpσ_8⟩ := hpσ_8
    have fr_σ_8 := fr_σ_2.call chpσ_8 rfl rfl
    replace hF := q_biX hF bhpσ_8
    have mcσ_8 := m_cK hkσ_8 hI.1 ha (by decide)
    have feσ_8 : m_c X σ_8 a = m_c X σ a := (funext mcσ_8).trans feσ_2
    exact q_reti E hr hlk hI ⟨(hF.trans hout), fr_σ_8⟩ dX12_hand_40
  · skip
    replace hF := q_ifn hF c_5
    replace c_5 := q_ifOne bhpσ_4 c_5
    replace chpσ_4 := q_ifYes chpσ_4 c_5
    refine lv_aload_n hx hb dX12_hand_18 rfl (lv_at hl 0 rfl) ?_
    refine lv_iload_n hx hb dX12_hand_19 rfl (lv_at hl 2 rfl) ?_
    refine q_ci (q_runV (As := [.int v2]) (rest := []) E (hml.trans hl.1.symm) hI (c_X12_isKindAt l X σ_2 a v2 ha (by rw [feσ_2]; exact hG)) kv_X12_299 ha ⟨rfl, by decide⟩ (show vwCl[11]? = some (RX12, TX12, 46) from rfl) rfl ⟨Nat.le_of_ble_eq_true rfl, Nat.le_of_ble_eq_true rfl⟩ ⟨Nat.le_refl _, Nat.le_refl _⟩ rfl (Nat.le_of_ble_eq_true rfl) dX12_hand_20) hI (by decide) (fun r_9 σ_10 H locs hpσ_10 hkσ_10 hI => ?_)
    obtain ⟨ahpσ_10, bhpσ_10, chpσ_10, dhpσ_10⟩ := hpσ_10
    rw [ahpσ_10] at hI
    rw [feσ_2] at chpσ_10
    replace hF := q_letX hF dhpσ_10
    refine q_if_eq (A := r_9.toInt) E rfl (tgt := 35) dX12_hand_23 (by decide) (fun c_11 => ?_) (fun c_11 => ?_)
    · skip
      replace hF := q_ifp hF c_11
      replace chpσ_10 := q_ifNo chpσ_10 c_11
      refine lv_aload_n hx hb dX12_hand_35 rfl (lv_at hl 0 rfl) ?_
      refine lv_iconst (v := 2) hx hb dX12_hand_36 (by decide) ?_
      have kc_12 : (2 : Int32).toInt = 2 := rfl
      refine q_ci (q_runV (As := [.int 2]) (rest := []) E (hml.trans hl.1.symm) hI (c_X12_refuse l X σ_2 a (2 : Int32) ha) kv_X12_284 ha ⟨rfl, by decide⟩ (show vwCl[11]? = some (RX12, TX12, 46) from rfl) rfl ⟨Nat.le_of_ble_eq_true rfl, Nat.le_of_ble_eq_true rfl⟩ ⟨Nat.le_refl _, Nat.le_refl _⟩ rfl (Nat.le_of_ble_eq_true rfl) dX12_hand_37) hI (by decide) (fun r_13 σ_14 H locs hpσ_14 hkσ_14 hI => ?_)
      obtain ⟨ahpσ_14, bhpσ_14, chpσ_14⟩ := hpσ_14
      have fr_σ_14 := fr_σ_2.call chpσ_14 rfl rfl
      replace hF := q_biX hF bhpσ_14
      have mcσ_14 := m_cK hkσ_14 hI.1 ha (by decide)
      have feσ_14 : m_c X σ_14 a = m_c X σ a := (funext mcσ_14).trans feσ_2
      exact q_reti E hr hlk hI ⟨(hF.trans hout), fr_σ_14⟩ dX12_hand_40
    · skip
      replace hF := q_ifn hF c_11
      replace c_11 := q_ifOne bhpσ_10 c_11
      replace chpσ_10 := q_ifYes chpσ_10 c_11
      refine lv_aload_n hx hb dX12_hand_26 rfl (lv_at hl 0 rfl) ?_
      refine lv_iload_n hx hb dX12_hand_27 rfl (lv_at hl 1 rfl) ?_
      refine lv_iload_n hx hb dX12_hand_28 rfl (lv_at hl 2 rfl) ?_
      refine q_ci (q_runV (As := [.int v1, .int v2]) (rest := []) E (hml.trans hl.1.symm) hI (c_X12_handOf l X σ_2 a v1 v2 ha (by first | (clear ahpσ_4 bhpσ_4 dhpσ_4 c_5 ahpσ_10 bhpσ_10 dhpσ_10 c_11 chpσ_10; omega) | omega) (by first | (clear ahpσ_4 bhpσ_4 dhpσ_4 c_5 chpσ_4 ahpσ_10 bhpσ_10 dhpσ_10 c_11; omega) | omega)) kv_X12_276 ha ⟨rfl, by decide⟩ (show vwCl[11]? = some (RX12, TX12, 46) from rfl) rfl ⟨Nat.le_of_ble_eq_true rfl, Nat.le_of_ble_eq_true rfl⟩ ⟨Nat.le_refl _, Nat.le_refl _⟩ rfl (Nat.le_of_ble_eq_true rfl) dX12_hand_29) hI (by decide) (fun r_15 σ_16 H locs hpσ_16 hkσ_16 hI => ?_)
      obtain ⟨ahpσ_16, bhpσ_16, chpσ_16⟩ := hpσ_16
      rw [ahpσ_16] at hI
      rw [feσ_2] at bhpσ_16
      replace hF := q_letX hF chpσ_16
      have ir_15 : r_15.toInt = (m_c X σ a (34 + 10 * v1.toInt + v2.toInt)) := (by first | exact bhpσ_16 | (rw [bhpσ_16]) | (simp only [bhpσ_16]))
      refine lv_goto (tgt := 40) hx hb dX12_hand_32 (by decide) ?_
      exact q_reti E hr hlk hI ⟨(hF.trans hout), fr_σ_2⟩ dX12_hand_40

set_option maxRecDepth 100000 in
set_option maxHeartbeats 4000000 in
theorem c_X12_inGame (l : Launch) (X : XW) (σ : ST) (a : Nat) (v1 : Int32) (ha : q_kd X a = 12) (hG : m_G (m_c X σ a)) : Met l yX12_inGame (q_ws yX12_inGame cX12_inGame 2 (some .int)) (q_rm 3 69) (q_P X σ [.ref a, .int v1]) (q_Qi X 8 σ (fun (r : Int32) (σ' : ST) => (r, σ') = F_X12_inGame X σ a v1 ∧ q_ow [(12, 0), (12, 1)] [] X σ σ')) 0 0 (q_reg X) := by
  refine q_met 8 (by first | exact rfl | decide +kernel) rfl (Nat.le_of_ble_eq_true rfl) (fun p e s m below meth c E hml hr hlk hI ls hl => ?_)
  have hx := E.1
  have hb := E.2.1
  have hl : lv_has ls 2 [(0, .ref a), (1, .int v1)] := hl
  have feσ : m_c X σ a = m_c X σ a := rfl
  have fr_σ : q_ow [(12, 0), (12, 1)] [] X σ σ := q_ow.rf
  have hh := hG.hd
  obtain ⟨out, hout⟩ : ∃ o, o = F_X12_inGame X σ a v1 := ⟨_, rfl⟩
  have hF := hout.symm
  unfold F_X12_inGame at hF
  refine lv_aload_n hx hb dX12_inGame_0 rfl (lv_at hl 0 rfl) ?_
  refine lv_iconst (v := 0) hx hb dX12_inGame_1 (by decide) ?_
  refine ps_X12_59_12 E hI ha (by decide) dX12_inGame_2 (fun H locs σ_1 hσ_1 hI => ?_)
  replace hF := q_letX hF hσ_1
  have fr_σ_1 := fr_σ.si hσ_1 ha rfl
  have mcσ_1 := m_wo hσ_1 (m_ne ha (q_tk (f := 20) (k' := 34) hI ha rfl (by decide)) (by decide))
  have feσ_1 : m_c X σ_1 a = m_c X σ a := (funext mcσ_1).trans feσ
  refine lv_aload_n hx hb dX12_inGame_5 rfl (lv_at hl 0 rfl) ?_
  refine lv_iconst (v := 0) hx hb dX12_inGame_6 (by decide) ?_
  refine ps_X12_62_12 E hI ha (by decide) dX12_inGame_7 (fun H locs σ_2 hσ_2 hI => ?_)
  replace hF := q_letX hF hσ_2
  have fr_σ_2 := fr_σ_1.si hσ_2 ha rfl
  have mcσ_2 := m_wo hσ_2 (m_ne ha (q_tk (f := 20) (k' := 34) hI ha rfl (by decide)) (by decide))
  have feσ_2 : m_c X σ_2 a = m_c X σ a := (funext mcσ_2).trans feσ_1
  refine lv_aload_n hx hb dX12_inGame_10 rfl (lv_at hl 0 rfl) ?_
  refine lv_iload_n hx hb dX12_inGame_11 rfl (lv_at hl 1 rfl) ?_
  refine q_ci (q_runV (As := [.int v1]) (rest := []) E (hml.trans hl.1.symm) hI (c_X12_isKindAt l X σ_2 a v1 ha (by rw [feσ_2]; exact hG)) kv_X12_299 ha ⟨rfl, by decide⟩ (show vwCl[11]? = some (RX12, TX12, 46) from rfl) rfl ⟨Nat.le_of_ble_eq_true rfl, Nat.le_of_ble_eq_true rfl⟩ ⟨Nat.le_refl _, Nat.le_refl _⟩ rfl (Nat.le_of_ble_eq_true rfl) dX12_inGame_12) hI (by decide) (fun r_3 σ_4 H locs hpσ_4 hkσ_4 hI => ?_)
  obtain ⟨ahpσ_4, bhpσ_4, chpσ_4, dhpσ_4⟩ := hpσ_4
  rw [ahpσ_4] at hI
  rw [feσ_2] at chpσ_4
  replace hF := q_letX hF dhpσ_4
  refine q_if_eq (A := r_3.toInt) E rfl (tgt := 26) dX12_inGame_15 (by decide) (fun c_5 => ?_) (fun c_5 => ?_)
  · skip
    replace hF := q_ifp hF c_5
    replace chpσ_4 := q_ifNo chpσ_4 c_5
    refine lv_aload_n hx hb dX12_inGame_26 rfl (lv_at hl 0 rfl) ?_
    refine lv_iconst (v := 2) hx hb dX12_inGame_27 (by decide) ?_
    have kc_6 : (2 : Int32).toInt = 2 := rfl
    refine q_ci (q_runV (As := [.int 2]) (rest := []) E (hml.trans hl.1.symm) hI (c_X12_refuse l X σ_2 a (2 : Int32) ha) kv_X12_284 ha ⟨rfl, by decide⟩ (show vwCl[11]? = some (RX12, TX12, 46) from rfl) rfl ⟨Nat.le_of_ble_eq_true rfl, Nat.le_of_ble_eq_true rfl⟩ ⟨Nat.le_refl _, Nat.le_refl _⟩ rfl (Nat.le_of_ble_eq_true rfl) dX12_inGame_28) hI (by decide) (fun r_7 σ_8 H locs hpσ_8 hkσ_8 hI => ?_)
    obtain ⟨ahpσ_8, bhpσ_8, chpσ_8⟩ := hpσ_8
    have fr_σ_8 := fr_σ_2.call chpσ_8 rfl rfl
    replace hF := q_biX hF bhpσ_8
    have mcσ_8 := m_cK hkσ_8 hI.1 ha (by decide)
    have feσ_8 : m_c X σ_8 a = m_c X σ a := (funext mcσ_8).trans feσ_2
    exact q_reti E hr hlk hI ⟨(hF.trans hout), fr_σ_8⟩ dX12_inGame_31
  · skip
    replace hF := q_ifn hF c_5
    replace c_5 := q_ifOne bhpσ_4 c_5
    replace chpσ_4 := q_ifYes chpσ_4 c_5
    refine lv_aload_n hx hb dX12_inGame_18 rfl (lv_at hl 0 rfl) ?_
    refine lv_iload_n hx hb dX12_inGame_19 rfl (lv_at hl 1 rfl) ?_
    refine q_ci (q_runV (As := [.int v1]) (rest := []) E (hml.trans hl.1.symm) hI (c_X12_inGameOf l X σ_2 a v1 ha (by rw [feσ_2]; exact hG) (by first | (clear ahpσ_4 bhpσ_4 dhpσ_4 c_5; omega) | omega)) kv_X12_302 ha ⟨rfl, by decide⟩ (show vwCl[11]? = some (RX12, TX12, 46) from rfl) rfl ⟨Nat.le_of_ble_eq_true rfl, Nat.le_of_ble_eq_true rfl⟩ ⟨Nat.le_refl _, Nat.le_refl _⟩ rfl (Nat.le_of_ble_eq_true rfl) dX12_inGame_20) hI (by decide) (fun r_9 σ_10 H locs hpσ_10 hkσ_10 hI => ?_)
    obtain ⟨ahpσ_10, bhpσ_10, chpσ_10, dhpσ_10⟩ := hpσ_10
    rw [ahpσ_10] at hI
    rw [feσ_2] at bhpσ_10
    replace hF := q_letX hF dhpσ_10
    have ir_9 : r_9.toInt = (m_I (m_c X σ a) v1.toInt) := (by first | exact bhpσ_10 | (rw [bhpσ_10]) | (simp only [bhpσ_10]))
    refine lv_goto (tgt := 31) hx hb dX12_inGame_23 (by decide) ?_
    exact q_reti E hr hlk hI ⟨(hF.trans hout), fr_σ_2⟩ dX12_inGame_31

set_option maxRecDepth 100000 in
set_option maxHeartbeats 4000000 in
theorem c_X12_laying (l : Launch) (X : XW) (σ : ST) (a : Nat) (v1 : Int32) (v2 : Int32) (ha : q_kd X a = 12) (hG : m_G (m_c X σ a)) : Met l yX12_laying (q_ws yX12_laying cX12_laying 3 (some .int)) (q_rm 2 44) (q_P X σ [.ref a, .int v1, .int v2]) (q_Qi X 8 σ (fun (r : Int32) (σ' : ST) => (r, σ') = F_X12_laying X σ a v1 v2 ∧ q_ow [(12, 0), (12, 1)] [] X σ σ')) 0 0 (q_reg X) := by
  refine q_met 8 (by first | exact rfl | decide +kernel) rfl (Nat.le_of_ble_eq_true rfl) (fun p e s m below meth c E hml hr hlk hI ls hl => ?_)
  have hx := E.1
  have hb := E.2.1
  have hl : lv_has ls 3 [(0, .ref a), (1, .int v1), (2, .int v2)] := hl
  have feσ : m_c X σ a = m_c X σ a := rfl
  have fr_σ : q_ow [(12, 0), (12, 1)] [] X σ σ := q_ow.rf
  have hh := hG.hd
  obtain ⟨out, hout⟩ : ∃ o, o = F_X12_laying X σ a v1 v2 := ⟨_, rfl⟩
  have hF := hout.symm
  unfold F_X12_laying at hF
  refine lv_aload_n hx hb dX12_laying_0 rfl (lv_at hl 0 rfl) ?_
  refine lv_iconst (v := 0) hx hb dX12_laying_1 (by decide) ?_
  refine ps_X12_59_12 E hI ha (by decide) dX12_laying_2 (fun H locs σ_1 hσ_1 hI => ?_)
  replace hF := q_letX hF hσ_1
  have fr_σ_1 := fr_σ.si hσ_1 ha rfl
  have mcσ_1 := m_wo hσ_1 (m_ne ha (q_tk (f := 20) (k' := 34) hI ha rfl (by decide)) (by decide))
  have feσ_1 : m_c X σ_1 a = m_c X σ a := (funext mcσ_1).trans feσ
  refine lv_aload_n hx hb dX12_laying_5 rfl (lv_at hl 0 rfl) ?_
  refine lv_iconst (v := 0) hx hb dX12_laying_6 (by decide) ?_
  refine ps_X12_62_12 E hI ha (by decide) dX12_laying_7 (fun H locs σ_2 hσ_2 hI => ?_)
  replace hF := q_letX hF hσ_2
  have fr_σ_2 := fr_σ_1.si hσ_2 ha rfl
  have mcσ_2 := m_wo hσ_2 (m_ne ha (q_tk (f := 20) (k' := 34) hI ha rfl (by decide)) (by decide))
  have feσ_2 : m_c X σ_2 a = m_c X σ a := (funext mcσ_2).trans feσ_1
  refine lv_iload_n hx hb dX12_laying_10 rfl (lv_at hl 2 rfl) ?_
  refine lv_i2l hx hb dX12_laying_11 rfl ?_
  refine lv_topl (fun y_3 ey_3 => ?_)
  replace hF := q_letX hF ey_3
  have ggy_3 := q_rng v2
  have iy_3 : y_3.toInt = v2.toInt := by rw [ey_3]; exact (q_i2l _).trans rfl
  refine lv_lconst (v := 0) hx hb dX12_laying_12 (by decide) ?_
  refine lv_ldc2 (v := 3) hx hb E.2.2.1 (E.2.2.2.1 _ (q_in_t8 (i := 167) (by first | rfl | decide +kernel) rfl)) dX12_laying_13 ?_
  have kc_4 : (0 : Int64).toInt = 0 := rfl
  have kc_5 : (3 : Int64).toInt = 3 := rfl
  refine q_ci (q_runS (As := [.long y_3, .long 0, .long 3]) (rest := []) E (hml.trans hl.1.symm) hI (c_X12_isIn l X σ_2 y_3 (0 : Int64) (3 : Int64)) ks_X12_94 rfl ⟨Nat.le_of_ble_eq_true rfl, Nat.le_of_ble_eq_true rfl⟩ ⟨Nat.le_refl _, Nat.le_refl _⟩ rfl (Nat.le_of_ble_eq_true rfl) dX12_laying_16) hI (by decide) (fun r_6 σ_7 H locs hpσ_7 hkσ_7 hI => ?_)
  obtain ⟨ahpσ_7, bhpσ_7, chpσ_7, dhpσ_7⟩ := hpσ_7
  rw [ahpσ_7] at hI
  replace hF := q_letX hF dhpσ_7
  refine q_if_ne (A := r_6.toInt) E rfl (tgt := 28) dX12_laying_19 (by decide) (fun c_8 => ?_) (fun c_8 => ?_)
  · skip
    replace hF := q_ifn hF c_8
    replace c_8 := q_ifOne bhpσ_7 c_8
    replace chpσ_7 := q_ifYes chpσ_7 c_8
    refine lv_iload_n hx hb dX12_laying_28 rfl (lv_at hl 1 rfl) ?_
    refine lv_i2l hx hb dX12_laying_29 rfl ?_
    refine lv_topl (fun y_9 ey_9 => ?_)
    replace hF := q_letX hF ey_9
    have ggy_9 := q_rng v1
    have iy_9 : y_9.toInt = v1.toInt := by rw [ey_9]; exact (q_i2l _).trans rfl
    refine lv_lconst (v := 0) hx hb dX12_laying_30 (by decide) ?_
    refine lv_aload_n hx hb dX12_laying_31 rfl (lv_at hl 0 rfl) ?_
    refine gs_X12_35_12 E hI ha dX12_laying_32 ?_
    refine lv_bipush (v := 9) hx hb dX12_laying_35 (by decide) ?_
    refine q_iald E hI (q_tk (k' := 34) hI ha rfl (by decide)) ⟨by decide, rfl⟩ (by decide) (by rw [q_lnk (v := 4650) hI (q_tk (k' := 34) hI ha rfl (by decide)) rfl (by decide)]; decide) dX12_laying_37 ?_
    refine lv_topi (fun f_10 ef_10 => ?_)
    replace hF := q_letX hF ef_10
    have if_10 : f_10.toInt = m_c X σ a 9 := (m_rd ef_10 (by decide)).trans (congrFun feσ_2 _)
    refine lv_iconst (v := 1) hx hb dX12_laying_38 (by decide) ?_
    refine lv_isub hx hb dX12_laying_39 ?_
    refine lv_topi (fun z_11 ez_11 => ?_)
    replace hF := q_letX hF ez_11
    have iz_11 := q_subI (A := (m_c X σ a 9)) (B := 1) ez_11 if_10 (by decide) (by first | (clear ggy_3 iy_3 kc_4 kc_5 ahpσ_7 bhpσ_7 dhpσ_7 c_8 chpσ_7 ggy_9 iy_9; omega) | omega) (by first | (clear ggy_3 iy_3 kc_4 kc_5 ahpσ_7 bhpσ_7 dhpσ_7 c_8 chpσ_7 ggy_9 iy_9; omega) | omega)
    refine lv_i2l hx hb dX12_laying_40 rfl ?_
    refine lv_topl (fun y_12 ey_12 => ?_)
    replace hF := q_letX hF ey_12
    have ggy_12 := q_rng z_11
    have iy_12 : y_12.toInt = z_11.toInt := by rw [ey_12]; exact (q_i2l _).trans rfl
    have kc_13 : (0 : Int64).toInt = 0 := rfl
    refine q_ci (q_runS (As := [.long y_9, .long 0, .long y_12]) (rest := []) E (hml.trans hl.1.symm) hI (c_X12_isIn l X σ_2 y_9 (0 : Int64) y_12) ks_X12_94 rfl ⟨Nat.le_of_ble_eq_true rfl, Nat.le_of_ble_eq_true rfl⟩ ⟨Nat.le_refl _, Nat.le_refl _⟩ rfl (Nat.le_of_ble_eq_true rfl) dX12_laying_41) hI (by decide) (fun r_14 σ_15 H locs hpσ_15 hkσ_15 hI => ?_)
    obtain ⟨ahpσ_15, bhpσ_15, chpσ_15, dhpσ_15⟩ := hpσ_15
    rw [ahpσ_15] at hI
    replace hF := q_letX hF dhpσ_15
    refine q_if_ne (A := r_14.toInt) E rfl (tgt := 54) dX12_laying_44 (by decide) (fun c_16 => ?_) (fun c_16 => ?_)
    · skip
      replace hF := q_ifn hF c_16
      replace c_16 := q_ifOne bhpσ_15 c_16
      replace chpσ_15 := q_ifYes chpσ_15 c_16
      refine lv_iload_n hx hb dX12_laying_54 rfl (lv_at hl 2 rfl) ?_
      refine lv_iconst (v := 3) hx hb dX12_laying_55 (by decide) ?_
      refine q_icmp_ne (A := v2.toInt) (B := 3) E rfl (by decide) (tgt := 67) dX12_laying_56 (by decide) (fun c_17 => ?_) (fun c_17 => ?_)
      · skip
        replace hF := q_ifn hF c_17
        refine lv_aload_n hx hb dX12_laying_67 rfl (lv_at hl 0 rfl) ?_
        refine gs_X12_35_12 E hI ha dX12_laying_68 ?_
        refine lv_iload_n hx hb dX12_laying_71 rfl (lv_at hl 1 rfl) ?_
        refine q_ci (q_runS (As := [.int v1]) (rest := [.ref (q_rf X a 20)]) E (hml.trans hl.1.symm) hI (c_X12_laid l X σ_2 v1 (by first | (clear ggy_3 iy_3 kc_5 ahpσ_7 bhpσ_7 dhpσ_7 c_8 chpσ_7 ggy_12 kc_13 ahpσ_15 bhpσ_15 dhpσ_15 c_16 c_17; omega) | omega)) ks_X12_279 rfl ⟨Nat.le_of_ble_eq_true rfl, Nat.le_of_ble_eq_true rfl⟩ ⟨Nat.le_refl _, Nat.le_refl _⟩ rfl (Nat.le_of_ble_eq_true rfl) dX12_laying_72) hI (by decide) (fun r_18 σ_19 H locs hpσ_19 hkσ_19 hI => ?_)
        obtain ⟨ahpσ_19, bhpσ_19, chpσ_19⟩ := hpσ_19
        rw [ahpσ_19] at hI
        replace hF := q_letX hF chpσ_19
        have ir_18 : r_18.toInt = (94 + 7 * v1.toInt) := (by omega)
        refine lv_iload_n hx hb dX12_laying_75 rfl (lv_at hl 2 rfl) ?_
        refine lv_iadd hx hb dX12_laying_76 ?_
        refine lv_topi (fun z_20 ez_20 => ?_)
        replace hF := q_letX hF ez_20
        have iz_20 := q_addI (A := (94 + 7 * v1.toInt)) (B := v2.toInt) ez_20 ir_18 rfl (by first | (clear hh ggy_3 kc_5 ahpσ_7 bhpσ_7 dhpσ_7 c_8 if_10 iz_11 ggy_12 iy_12 kc_13 ahpσ_15 bhpσ_15 dhpσ_15 c_16 c_17 ahpσ_19 bhpσ_19 chpσ_19 ir_18; omega) | omega) (by first | (clear ggy_3 kc_4 ahpσ_7 bhpσ_7 dhpσ_7 c_8 ggy_9 ggy_12 kc_13 ahpσ_15 bhpσ_15 dhpσ_15 c_16 c_17 ahpσ_19 bhpσ_19 chpσ_19 ir_18; omega) | omega)
        refine q_iald E hI (q_tk (k' := 34) hI ha rfl (by decide)) ⟨by decide, rfl⟩ (by first | (clear hh ahpσ_7 bhpσ_7 dhpσ_7 c_8 if_10 iz_11 ggy_12 iy_12 kc_13 ahpσ_15 bhpσ_15 dhpσ_15 c_16 c_17 ahpσ_19 bhpσ_19 chpσ_19 ir_18; omega) | omega) (by rw [q_lnk (v := 4650) hI (q_tk (k' := 34) hI ha rfl (by decide)) rfl (by decide)]; omega) dX12_laying_77 ?_
        refine lv_topi (fun f_21 ef_21 => ?_)
        replace hF := q_letX hF ef_21
        have if_21 : f_21.toInt = m_c X σ a ((94 + 7 * v1.toInt) + v2.toInt) := (m_rd ef_21 iz_20).trans (congrFun feσ_2 _)
        exact q_reti E hr hlk hI ⟨(hF.trans hout), fr_σ_2⟩ dX12_laying_78
      · skip
        replace hF := q_ifp hF c_17
        refine lv_aload_n hx hb dX12_laying_59 rfl (lv_at hl 0 rfl) ?_
        refine lv_iload_n hx hb dX12_laying_60 rfl (lv_at hl 1 rfl) ?_
        refine q_ci (q_runV (As := [.int v1]) (rest := []) E (hml.trans hl.1.symm) hI (c_X12_sortOf l X σ_2 a v1 ha (by rw [feσ_2]; exact hG) (by rw [feσ_2]; exact (by first | (clear hh ggy_3 iy_3 kc_5 ahpσ_7 bhpσ_7 dhpσ_7 c_8 chpσ_7 ggy_12 kc_13 ahpσ_15 bhpσ_15 dhpσ_15 c_16 c_17; omega) | omega))) kv_X12_305 ha ⟨rfl, by decide⟩ (show vwCl[11]? = some (RX12, TX12, 46) from rfl) rfl ⟨Nat.le_of_ble_eq_true rfl, Nat.le_of_ble_eq_true rfl⟩ ⟨Nat.le_refl _, Nat.le_refl _⟩ rfl (Nat.le_of_ble_eq_true rfl) dX12_laying_61) hI (by decide) (fun r_22 σ_23 H locs hpσ_23 hkσ_23 hI => ?_)
        obtain ⟨ahpσ_23, bhpσ_23, chpσ_23⟩ := hpσ_23
        rw [ahpσ_23] at hI
        replace hF := q_letX hF chpσ_23
        refine lv_goto (tgt := 78) hx hb dX12_laying_64 (by decide) ?_
        exact q_reti E hr hlk hI ⟨(hF.trans hout), fr_σ_2⟩ dX12_laying_78
    · skip
      replace hF := q_ifp hF c_16
      replace chpσ_15 := q_ifNo chpσ_15 c_16
      refine lv_aload_n hx hb dX12_laying_47 rfl (lv_at hl 0 rfl) ?_
      refine lv_bipush (v := 8) hx hb dX12_laying_48 (by decide) ?_
      have kc_24 : (8 : Int32).toInt = 8 := rfl
      refine q_ci (q_runV (As := [.int 8]) (rest := []) E (hml.trans hl.1.symm) hI (c_X12_refuse l X σ_2 a (8 : Int32) ha) kv_X12_284 ha ⟨rfl, by decide⟩ (show vwCl[11]? = some (RX12, TX12, 46) from rfl) rfl ⟨Nat.le_of_ble_eq_true rfl, Nat.le_of_ble_eq_true rfl⟩ ⟨Nat.le_refl _, Nat.le_refl _⟩ rfl (Nat.le_of_ble_eq_true rfl) dX12_laying_50) hI (by decide) (fun r_25 σ_26 H locs hpσ_26 hkσ_26 hI => ?_)
      obtain ⟨ahpσ_26, bhpσ_26, chpσ_26⟩ := hpσ_26
      have fr_σ_26 := fr_σ_2.call chpσ_26 rfl rfl
      replace hF := q_biX hF bhpσ_26
      have mcσ_26 := m_cK hkσ_26 hI.1 ha (by decide)
      have feσ_26 : m_c X σ_26 a = m_c X σ a := (funext mcσ_26).trans feσ_2
      exact q_reti E hr hlk hI ⟨(hF.trans hout), fr_σ_26⟩ dX12_laying_53
  · skip
    replace hF := q_ifp hF c_8
    replace chpσ_7 := q_ifNo chpσ_7 c_8
    refine lv_aload_n hx hb dX12_laying_22 rfl (lv_at hl 0 rfl) ?_
    refine lv_iconst (v := 5) hx hb dX12_laying_23 (by decide) ?_
    have kc_27 : (5 : Int32).toInt = 5 := rfl
    refine q_ci (q_runV (As := [.int 5]) (rest := []) E (hml.trans hl.1.symm) hI (c_X12_refuse l X σ_2 a (5 : Int32) ha) kv_X12_284 ha ⟨rfl, by decide⟩ (show vwCl[11]? = some (RX12, TX12, 46) from rfl) rfl ⟨Nat.le_of_ble_eq_true rfl, Nat.le_of_ble_eq_true rfl⟩ ⟨Nat.le_refl _, Nat.le_refl _⟩ rfl (Nat.le_of_ble_eq_true rfl) dX12_laying_24) hI (by decide) (fun r_28 σ_29 H locs hpσ_29 hkσ_29 hI => ?_)
    obtain ⟨ahpσ_29, bhpσ_29, chpσ_29⟩ := hpσ_29
    have fr_σ_29 := fr_σ_2.call chpσ_29 rfl rfl
    replace hF := q_biX hF bhpσ_29
    have mcσ_29 := m_cK hkσ_29 hI.1 ha (by decide)
    have feσ_29 : m_c X σ_29 a = m_c X σ a := (funext mcσ_29).trans feσ_2
    exact q_reti E hr hlk hI ⟨(hF.trans hout), fr_σ_29⟩ dX12_laying_27

set_option maxRecDepth 100000 in
set_option maxHeartbeats 4000000 in
theorem c_X12_cardOf (l : Launch) (X : XW) (σ : ST) (a : Nat) (v1 : Int32) (v2 : Int32) (ha : q_kd X a = 12) (hG : m_G (m_c X σ a)) : Met l yX12_cardOf (q_ws yX12_cardOf cX12_cardOf 3 (some .int)) (q_rm 1 25) (q_P X σ [.ref a, .int v1, .int v2]) (q_Qi X 8 σ (fun (r : Int32) (σ' : ST) => (r, σ') = F_X12_cardOf X σ a v1 v2 ∧ q_ow [(12, 0), (12, 1)] [] X σ σ')) 0 0 (q_reg X) := by
  refine q_met 8 (by first | exact rfl | decide +kernel) rfl (Nat.le_of_ble_eq_true rfl) (fun p e s m below meth c E hml hr hlk hI ls hl => ?_)
  have hx := E.1
  have hb := E.2.1
  have hl : lv_has ls 3 [(0, .ref a), (1, .int v1), (2, .int v2)] := hl
  have feσ : m_c X σ a = m_c X σ a := rfl
  have fr_σ : q_ow [(12, 0), (12, 1)] [] X σ σ := q_ow.rf
  have hh := hG.hd
  obtain ⟨out, hout⟩ : ∃ o, o = F_X12_cardOf X σ a v1 v2 := ⟨_, rfl⟩
  have hF := hout.symm
  unfold F_X12_cardOf at hF
  refine lv_aload_n hx hb dX12_cardOf_0 rfl (lv_at hl 0 rfl) ?_
  refine lv_iconst (v := 0) hx hb dX12_cardOf_1 (by decide) ?_
  refine ps_X12_59_12 E hI ha (by decide) dX12_cardOf_2 (fun H locs σ_1 hσ_1 hI => ?_)
  replace hF := q_letX hF hσ_1
  have fr_σ_1 := fr_σ.si hσ_1 ha rfl
  have mcσ_1 := m_wo hσ_1 (m_ne ha (q_tk (f := 20) (k' := 34) hI ha rfl (by decide)) (by decide))
  have feσ_1 : m_c X σ_1 a = m_c X σ a := (funext mcσ_1).trans feσ
  refine lv_aload_n hx hb dX12_cardOf_5 rfl (lv_at hl 0 rfl) ?_
  refine lv_iconst (v := 0) hx hb dX12_cardOf_6 (by decide) ?_
  refine ps_X12_62_12 E hI ha (by decide) dX12_cardOf_7 (fun H locs σ_2 hσ_2 hI => ?_)
  replace hF := q_letX hF hσ_2
  have fr_σ_2 := fr_σ_1.si hσ_2 ha rfl
  have mcσ_2 := m_wo hσ_2 (m_ne ha (q_tk (f := 20) (k' := 34) hI ha rfl (by decide)) (by decide))
  have feσ_2 : m_c X σ_2 a = m_c X σ a := (funext mcσ_2).trans feσ_1
  refine lv_iload_n hx hb dX12_cardOf_10 rfl (lv_at hl 1 rfl) ?_
  refine lv_i2l hx hb dX12_cardOf_11 rfl ?_
  refine lv_topl (fun y_3 ey_3 => ?_)
  replace hF := q_letX hF ey_3
  have ggy_3 := q_rng v1
  have iy_3 : y_3.toInt = v1.toInt := by rw [ey_3]; exact (q_i2l _).trans rfl
  refine lv_lconst (v := 0) hx hb dX12_cardOf_12 (by decide) ?_
  refine lv_aload_n hx hb dX12_cardOf_13 rfl (lv_at hl 0 rfl) ?_
  refine gs_X12_35_12 E hI ha dX12_cardOf_14 ?_
  refine lv_bipush (v := 9) hx hb dX12_cardOf_17 (by decide) ?_
  refine q_iald E hI (q_tk (k' := 34) hI ha rfl (by decide)) ⟨by decide, rfl⟩ (by decide) (by rw [q_lnk (v := 4650) hI (q_tk (k' := 34) hI ha rfl (by decide)) rfl (by decide)]; decide) dX12_cardOf_19 ?_
  refine lv_topi (fun f_4 ef_4 => ?_)
  replace hF := q_letX hF ef_4
  have if_4 : f_4.toInt = m_c X σ a 9 := (m_rd ef_4 (by decide)).trans (congrFun feσ_2 _)
  refine lv_iconst (v := 1) hx hb dX12_cardOf_20 (by decide) ?_
  refine lv_isub hx hb dX12_cardOf_21 ?_
  refine lv_topi (fun z_5 ez_5 => ?_)
  replace hF := q_letX hF ez_5
  have iz_5 := q_subI (A := (m_c X σ a 9)) (B := 1) ez_5 if_4 (by decide) (by first | (clear ggy_3 iy_3; omega) | omega) (by first | (clear ggy_3 iy_3; omega) | omega)
  refine lv_i2l hx hb dX12_cardOf_22 rfl ?_
  refine lv_topl (fun y_6 ey_6 => ?_)
  replace hF := q_letX hF ey_6
  have ggy_6 := q_rng z_5
  have iy_6 : y_6.toInt = z_5.toInt := by rw [ey_6]; exact (q_i2l _).trans rfl
  have kc_7 : (0 : Int64).toInt = 0 := rfl
  refine q_ci (q_runS (As := [.long y_3, .long 0, .long y_6]) (rest := []) E (hml.trans hl.1.symm) hI (c_X12_isIn l X σ_2 y_3 (0 : Int64) y_6) ks_X12_94 rfl ⟨Nat.le_of_ble_eq_true rfl, Nat.le_of_ble_eq_true rfl⟩ ⟨Nat.le_refl _, Nat.le_refl _⟩ rfl (Nat.le_of_ble_eq_true rfl) dX12_cardOf_23) hI (by decide) (fun r_8 σ_9 H locs hpσ_9 hkσ_9 hI => ?_)
  obtain ⟨ahpσ_9, bhpσ_9, chpσ_9, dhpσ_9⟩ := hpσ_9
  rw [ahpσ_9] at hI
  replace hF := q_letX hF dhpσ_9
  refine q_if_eq (A := r_8.toInt) E rfl (tgt := 52) dX12_cardOf_26 (by decide) (fun c_10 => ?_) (fun c_10 => ?_)
  · skip
    replace hF := q_ifp hF c_10
    replace chpσ_9 := q_ifNo chpσ_9 c_10
    refine lv_aload_n hx hb dX12_cardOf_52 rfl (lv_at hl 0 rfl) ?_
    refine lv_bipush (v := 8) hx hb dX12_cardOf_53 (by decide) ?_
    have kc_11 : (8 : Int32).toInt = 8 := rfl
    refine q_ci (q_runV (As := [.int 8]) (rest := []) E (hml.trans hl.1.symm) hI (c_X12_refuse l X σ_2 a (8 : Int32) ha) kv_X12_284 ha ⟨rfl, by decide⟩ (show vwCl[11]? = some (RX12, TX12, 46) from rfl) rfl ⟨Nat.le_of_ble_eq_true rfl, Nat.le_of_ble_eq_true rfl⟩ ⟨Nat.le_refl _, Nat.le_refl _⟩ rfl (Nat.le_of_ble_eq_true rfl) dX12_cardOf_55) hI (by decide) (fun r_12 σ_13 H locs hpσ_13 hkσ_13 hI => ?_)
    obtain ⟨ahpσ_13, bhpσ_13, chpσ_13⟩ := hpσ_13
    have fr_σ_13 := fr_σ_2.call chpσ_13 rfl rfl
    replace hF := q_biX hF bhpσ_13
    have mcσ_13 := m_cK hkσ_13 hI.1 ha (by decide)
    have feσ_13 : m_c X σ_13 a = m_c X σ a := (funext mcσ_13).trans feσ_2
    exact q_reti E hr hlk hI ⟨(hF.trans hout), fr_σ_13⟩ dX12_cardOf_58
  · skip
    replace hF := q_ifn hF c_10
    replace c_10 := q_ifOne bhpσ_9 c_10
    replace chpσ_9 := q_ifYes chpσ_9 c_10
    have hy := (hG.2.2.1 v1.toInt (by first | (clear hh if_4 iz_5 ggy_6 iy_6 ahpσ_9 bhpσ_9 dhpσ_9 c_10; omega) | omega) (by first | (clear hh ggy_3 ggy_6 kc_7 ahpσ_9 bhpσ_9 dhpσ_9 c_10; omega) | omega)).1
    refine lv_iload_n hx hb dX12_cardOf_29 rfl (lv_at hl 2 rfl) ?_
    refine lv_i2l hx hb dX12_cardOf_30 rfl ?_
    refine lv_topl (fun y_14 ey_14 => ?_)
    replace hF := q_letX hF ey_14
    have ggy_14 := q_rng v2
    have iy_14 : y_14.toInt = v2.toInt := by rw [ey_14]; exact (q_i2l _).trans rfl
    refine lv_lconst (v := 0) hx hb dX12_cardOf_31 (by decide) ?_
    refine lv_aload_n hx hb dX12_cardOf_32 rfl (lv_at hl 0 rfl) ?_
    refine gs_X12_35_12 E hI ha dX12_cardOf_33 ?_
    refine lv_iload_n hx hb dX12_cardOf_36 rfl (lv_at hl 1 rfl) ?_
    refine q_ci (q_runS (As := [.int v1]) (rest := [.ref (q_rf X a 20), .long 0, .long y_14]) E (hml.trans hl.1.symm) hI (c_X12_laid l X σ_2 v1 (by first | (clear ggy_6 ahpσ_9 bhpσ_9 dhpσ_9 c_10 hy ggy_14 iy_14; omega) | omega)) ks_X12_279 rfl ⟨Nat.le_of_ble_eq_true rfl, Nat.le_of_ble_eq_true rfl⟩ ⟨Nat.le_refl _, Nat.le_refl _⟩ rfl (Nat.le_of_ble_eq_true rfl) dX12_cardOf_37) hI (by decide) (fun r_15 σ_16 H locs hpσ_16 hkσ_16 hI => ?_)
    obtain ⟨ahpσ_16, bhpσ_16, chpσ_16⟩ := hpσ_16
    rw [ahpσ_16] at hI
    replace hF := q_letX hF chpσ_16
    have ir_15 : r_15.toInt = (94 + 7 * v1.toInt) := (by omega)
    refine lv_iconst (v := 2) hx hb dX12_cardOf_40 (by decide) ?_
    refine lv_iadd hx hb dX12_cardOf_41 ?_
    refine lv_topi (fun z_17 ez_17 => ?_)
    replace hF := q_letX hF ez_17
    have iz_17 := q_addI (A := (94 + 7 * v1.toInt)) (B := 2) ez_17 ir_15 (by decide) (by first | (clear hh if_4 iz_5 ggy_6 iy_6 ahpσ_9 bhpσ_9 dhpσ_9 c_10 hy ggy_14 iy_14 ahpσ_16 bhpσ_16 chpσ_16 ir_15; omega) | omega) (by first | (clear ggy_6 kc_7 ahpσ_9 bhpσ_9 dhpσ_9 c_10 hy ggy_14 iy_14 ahpσ_16 bhpσ_16 chpσ_16 ir_15; omega) | omega)
    refine q_iald E hI (q_tk (k' := 34) hI ha rfl (by decide)) ⟨by decide, rfl⟩ (by first | (clear hh ggy_3 if_4 iz_5 ggy_6 iy_6 ahpσ_9 bhpσ_9 dhpσ_9 c_10 hy ggy_14 iy_14 ahpσ_16 bhpσ_16 chpσ_16 ir_15; omega) | omega) (by rw [q_lnk (v := 4650) hI (q_tk (k' := 34) hI ha rfl (by decide)) rfl (by decide)]; omega) dX12_cardOf_42 ?_
    refine lv_topi (fun f_18 ef_18 => ?_)
    replace hF := q_letX hF ef_18
    have if_18 : f_18.toInt = m_c X σ a ((94 + 7 * v1.toInt) + 2) := (m_rd ef_18 iz_17).trans (congrFun feσ_2 _)
    refine lv_iconst (v := 1) hx hb dX12_cardOf_43 (by decide) ?_
    refine lv_isub hx hb dX12_cardOf_44 ?_
    refine lv_topi (fun z_19 ez_19 => ?_)
    replace hF := q_letX hF ez_19
    have iz_19 := q_subI (A := (m_c X σ a ((94 + 7 * v1.toInt) + 2))) (B := 1) ez_19 if_18 (by decide) (by first | (clear hh ggy_3 iy_3 if_4 iz_5 ggy_6 iy_6 kc_7 ahpσ_9 bhpσ_9 dhpσ_9 c_10 chpσ_9 ggy_14 iy_14 ahpσ_16 bhpσ_16 chpσ_16 ir_15 iz_17; omega) | omega) (by first | (clear hh ggy_3 iy_3 if_4 iz_5 ggy_6 iy_6 kc_7 ahpσ_9 bhpσ_9 dhpσ_9 c_10 chpσ_9 ggy_14 iy_14 ahpσ_16 bhpσ_16 chpσ_16 ir_15 iz_17; omega) | omega)
    refine lv_i2l hx hb dX12_cardOf_45 rfl ?_
    refine lv_topl (fun y_20 ey_20 => ?_)
    replace hF := q_letX hF ey_20
    have ggy_20 := q_rng z_19
    have iy_20 : y_20.toInt = z_19.toInt := by rw [ey_20]; exact (q_i2l _).trans rfl
    have kc_21 : (0 : Int64).toInt = 0 := rfl
    refine q_ci (q_runS (As := [.long y_14, .long 0, .long y_20]) (rest := []) E (hml.trans hl.1.symm) hI (c_X12_isIn l X σ_2 y_14 (0 : Int64) y_20) ks_X12_94 rfl ⟨Nat.le_of_ble_eq_true rfl, Nat.le_of_ble_eq_true rfl⟩ ⟨Nat.le_refl _, Nat.le_refl _⟩ rfl (Nat.le_of_ble_eq_true rfl) dX12_cardOf_46) hI (by decide) (fun r_22 σ_23 H locs hpσ_23 hkσ_23 hI => ?_)
    obtain ⟨ahpσ_23, bhpσ_23, chpσ_23, dhpσ_23⟩ := hpσ_23
    rw [ahpσ_23] at hI
    replace hF := q_letX hF dhpσ_23
    refine q_if_ne (A := r_22.toInt) E rfl (tgt := 59) dX12_cardOf_49 (by decide) (fun c_24 => ?_) (fun c_24 => ?_)
    · skip
      replace hF := q_ifn hF c_24
      replace c_24 := q_ifOne bhpσ_23 c_24
      replace chpσ_23 := q_ifYes chpσ_23 c_24
      refine lv_aload_n hx hb dX12_cardOf_59 rfl (lv_at hl 0 rfl) ?_
      refine gs_X12_35_12 E hI ha dX12_cardOf_60 ?_
      refine lv_iload_n hx hb dX12_cardOf_63 rfl (lv_at hl 1 rfl) ?_
      refine q_ci (q_runS (As := [.int v1]) (rest := [.ref (q_rf X a 20)]) E (hml.trans hl.1.symm) hI (c_X12_laid l X σ_2 v1 (by first | (clear ggy_6 ahpσ_9 bhpσ_9 dhpσ_9 c_10 hy ggy_14 iy_14 ahpσ_16 bhpσ_16 chpσ_16 ir_15 iz_17 if_18 iz_19 ggy_20 iy_20 kc_21 ahpσ_23 bhpσ_23 dhpσ_23 c_24 chpσ_23; omega) | omega)) ks_X12_279 rfl ⟨Nat.le_of_ble_eq_true rfl, Nat.le_of_ble_eq_true rfl⟩ ⟨Nat.le_refl _, Nat.le_refl _⟩ rfl (Nat.le_of_ble_eq_true rfl) dX12_cardOf_64) hI (by decide) (fun r_25 σ_26 H locs hpσ_26 hkσ_26 hI => ?_)
      obtain ⟨ahpσ_26, bhpσ_26, chpσ_26⟩ := hpσ_26
      rw [ahpσ_26] at hI
      replace hF := q_letX hF chpσ_26
      have ir_25 : r_25.toInt = (94 + 7 * v1.toInt) := (by omega)
      refine lv_iconst (v := 3) hx hb dX12_cardOf_67 (by decide) ?_
      refine lv_iadd hx hb dX12_cardOf_68 ?_
      refine lv_topi (fun z_27 ez_27 => ?_)
      replace hF := q_letX hF ez_27
      have iz_27 := q_addI (A := (94 + 7 * v1.toInt)) (B := 3) ez_27 ir_25 (by decide) (by first | (clear hh if_4 iz_5 ggy_6 iy_6 ahpσ_9 bhpσ_9 dhpσ_9 c_10 hy ggy_14 iy_14 ahpσ_16 bhpσ_16 chpσ_16 ir_15 iz_17 if_18 iz_19 ggy_20 iy_20 kc_21 ahpσ_23 bhpσ_23 dhpσ_23 c_24 chpσ_23 ahpσ_26 bhpσ_26 chpσ_26 ir_25; omega) | omega) (by first | (clear ggy_6 kc_7 ahpσ_9 bhpσ_9 dhpσ_9 c_10 hy ggy_14 iy_14 ahpσ_16 bhpσ_16 chpσ_16 ir_15 iz_17 if_18 iz_19 ggy_20 iy_20 kc_21 ahpσ_23 bhpσ_23 dhpσ_23 c_24 chpσ_23 ahpσ_26 bhpσ_26 chpσ_26 ir_25; omega) | omega)
      refine lv_iload_n hx hb dX12_cardOf_69 rfl (lv_at hl 2 rfl) ?_
      refine lv_iadd hx hb dX12_cardOf_70 ?_
      refine lv_topi (fun z_28 ez_28 => ?_)
      replace hF := q_letX hF ez_28
      have iz_28 := q_addI (A := ((94 + 7 * v1.toInt) + 3)) (B := v2.toInt) ez_28 iz_27 rfl (by first | (clear hh ggy_3 if_4 iz_5 ggy_6 iy_6 ahpσ_9 bhpσ_9 dhpσ_9 c_10 hy ahpσ_16 bhpσ_16 chpσ_16 ir_15 iz_17 if_18 iz_19 ggy_20 iy_20 kc_21 ahpσ_23 bhpσ_23 dhpσ_23 c_24 ahpσ_26 bhpσ_26 chpσ_26 ir_25 iz_27; omega) | omega) (by first | (clear ggy_3 ggy_6 kc_7 ahpσ_9 bhpσ_9 dhpσ_9 c_10 ggy_14 ahpσ_16 bhpσ_16 chpσ_16 ir_15 iz_17 ggy_20 kc_21 ahpσ_23 bhpσ_23 dhpσ_23 c_24 ahpσ_26 bhpσ_26 chpσ_26 ir_25 iz_27; omega) | omega)
      refine q_iald E hI (q_tk (k' := 34) hI ha rfl (by decide)) ⟨by decide, rfl⟩ (by first | (clear hh ggy_3 if_4 iz_5 ggy_6 iy_6 ahpσ_9 bhpσ_9 dhpσ_9 c_10 ahpσ_16 bhpσ_16 chpσ_16 ir_15 iz_17 ggy_20 kc_21 ahpσ_23 bhpσ_23 dhpσ_23 c_24 ahpσ_26 bhpσ_26 chpσ_26 ir_25 iz_27; omega) | omega) (by rw [q_lnk (v := 4650) hI (q_tk (k' := 34) hI ha rfl (by decide)) rfl (by decide)]; omega) dX12_cardOf_71 ?_
      refine lv_topi (fun f_29 ef_29 => ?_)
      replace hF := q_letX hF ef_29
      have if_29 : f_29.toInt = m_c X σ a (((94 + 7 * v1.toInt) + 3) + v2.toInt) := (m_rd ef_29 iz_28).trans (congrFun feσ_2 _)
      exact q_reti E hr hlk hI ⟨(hF.trans hout), fr_σ_2⟩ dX12_cardOf_72
    · skip
      replace hF := q_ifp hF c_24
      replace chpσ_23 := q_ifNo chpσ_23 c_24
      refine lv_aload_n hx hb dX12_cardOf_52 rfl (lv_at hl 0 rfl) ?_
      refine lv_bipush (v := 8) hx hb dX12_cardOf_53 (by decide) ?_
      have kc_30 : (8 : Int32).toInt = 8 := rfl
      refine q_ci (q_runV (As := [.int 8]) (rest := []) E (hml.trans hl.1.symm) hI (c_X12_refuse l X σ_2 a (8 : Int32) ha) kv_X12_284 ha ⟨rfl, by decide⟩ (show vwCl[11]? = some (RX12, TX12, 46) from rfl) rfl ⟨Nat.le_of_ble_eq_true rfl, Nat.le_of_ble_eq_true rfl⟩ ⟨Nat.le_refl _, Nat.le_refl _⟩ rfl (Nat.le_of_ble_eq_true rfl) dX12_cardOf_55) hI (by decide) (fun r_31 σ_32 H locs hpσ_32 hkσ_32 hI => ?_)
      obtain ⟨ahpσ_32, bhpσ_32, chpσ_32⟩ := hpσ_32
      have fr_σ_32 := fr_σ_2.call chpσ_32 rfl rfl
      replace hF := q_biX hF bhpσ_32
      have mcσ_32 := m_cK hkσ_32 hI.1 ha (by decide)
      have feσ_32 : m_c X σ_32 a = m_c X σ a := (funext mcσ_32).trans feσ_2
      exact q_reti E hr hlk hI ⟨(hF.trans hout), fr_σ_32⟩ dX12_cardOf_58

set_option maxRecDepth 100000 in
set_option maxHeartbeats 4000000 in
theorem c_X12_copyHand (l : Launch) (X : XW) (σ : ST) (a : Nat) (v1 : Int32) (v2 : Int32) (ha : q_kd X a = 12) (hG : m_G (m_c X σ a)) : Met l yX12_copyHand (q_ws yX12_copyHand cX12_copyHand 4 (some .int)) (q_rm 2 46) (q_P X σ [.ref a, .int v1, .int v2]) (q_Qi X 8 σ (fun (r : Int32) (σ' : ST) => (r, σ') = F_X12_copyHand X σ a v1 v2 ∧ q_ow [(12, 0), (12, 1)] [(32, 99)] X σ σ')) 0 0 (q_reg X) := by
  refine q_met 8 (by first | exact rfl | decide +kernel) rfl (Nat.le_of_ble_eq_true rfl) (fun p e s m below meth c E hml hr hlk hI ls hl => ?_)
  have hx := E.1
  have hb := E.2.1
  have hl : lv_has ls 4 [(0, .ref a), (1, .int v1), (2, .int v2)] := hl
  have feσ : m_c X σ a = m_c X σ a := rfl
  have fr_σ : q_ow [(12, 0), (12, 1)] [(32, 99)] X σ σ := q_ow.rf
  have hh := hG.hd
  obtain ⟨out, hout⟩ : ∃ o, o = F_X12_copyHand X σ a v1 v2 := ⟨_, rfl⟩
  have hF := hout.symm
  unfold F_X12_copyHand at hF
  refine lv_aload_n hx hb dX12_copyHand_0 rfl (lv_at hl 0 rfl) ?_
  refine lv_iconst (v := 0) hx hb dX12_copyHand_1 (by decide) ?_
  refine ps_X12_59_12 E hI ha (by decide) dX12_copyHand_2 (fun H locs σ_1 hσ_1 hI => ?_)
  replace hF := q_letX hF hσ_1
  have fr_σ_1 := fr_σ.si hσ_1 ha rfl
  have mcσ_1 := m_wo hσ_1 (m_ne ha (q_tk (f := 20) (k' := 34) hI ha rfl (by decide)) (by decide))
  have feσ_1 : m_c X σ_1 a = m_c X σ a := (funext mcσ_1).trans feσ
  refine lv_aload_n hx hb dX12_copyHand_5 rfl (lv_at hl 0 rfl) ?_
  refine lv_iconst (v := 0) hx hb dX12_copyHand_6 (by decide) ?_
  refine ps_X12_62_12 E hI ha (by decide) dX12_copyHand_7 (fun H locs σ_2 hσ_2 hI => ?_)
  replace hF := q_letX hF hσ_2
  have fr_σ_2 := fr_σ_1.si hσ_2 ha rfl
  have mcσ_2 := m_wo hσ_2 (m_ne ha (q_tk (f := 20) (k' := 34) hI ha rfl (by decide)) (by decide))
  have feσ_2 : m_c X σ_2 a = m_c X σ a := (funext mcσ_2).trans feσ_1
  refine lv_aload_n hx hb dX12_copyHand_10 rfl (lv_at hl 0 rfl) ?_
  refine lv_iload_n hx hb dX12_copyHand_11 rfl (lv_at hl 2 rfl) ?_
  refine q_ci (q_runV (As := [.int v2]) (rest := []) E (hml.trans hl.1.symm) hI (c_X12_isTray l X σ_2 a v2 ha) kv_X12_308 ha ⟨rfl, by decide⟩ (show vwCl[11]? = some (RX12, TX12, 46) from rfl) rfl ⟨Nat.le_of_ble_eq_true rfl, Nat.le_of_ble_eq_true rfl⟩ ⟨Nat.le_refl _, Nat.le_refl _⟩ rfl (Nat.le_of_ble_eq_true rfl) dX12_copyHand_12) hI (by decide) (fun r_3 σ_4 H locs hpσ_4 hkσ_4 hI => ?_)
  obtain ⟨ahpσ_4, bhpσ_4, chpσ_4, dhpσ_4⟩ := hpσ_4
  rw [ahpσ_4] at hI
  replace hF := q_letX hF dhpσ_4
  refine q_if_ne (A := r_3.toInt) E rfl (tgt := 24) dX12_copyHand_15 (by decide) (fun c_5 => ?_) (fun c_5 => ?_)
  · skip
    replace hF := q_ifn hF c_5
    replace c_5 := q_ifOne bhpσ_4 c_5
    replace chpσ_4 := q_ifYes chpσ_4 c_5
    refine lv_aload_n hx hb dX12_copyHand_24 rfl (lv_at hl 0 rfl) ?_
    refine gs_X12_17_12 E hI ha dX12_copyHand_25 ?_
    refine lv_iload_n hx hb dX12_copyHand_28 rfl (lv_at hl 2 rfl) ?_
    refine q_iald E hI (q_tk (k' := 31) hI ha rfl (by decide)) ⟨by decide, rfl⟩ (by first | (clear hh ahpσ_4 bhpσ_4 dhpσ_4 c_5; omega) | omega) (by rw [q_lnk (v := 4) hI (q_tk (k' := 31) hI ha rfl (by decide)) rfl (by decide)]; omega) dX12_copyHand_29 ?_
    refine lv_topi (fun f_6 ef_6 => ?_)
    replace hF := q_letX hF ef_6
    have bf_6 : -1 ≤ f_6.toInt ∧ f_6.toInt ≤ 60 := by rw [ef_6]; exact q_bd hI (q_tk (k' := 31) hI ha rfl (by decide)) rfl
    have if_6 : f_6.toInt = (σ_2.1 (q_rf X a 5) (v2 : Int32).toNatClampNeg).toInt := congrArg Int32.toInt ef_6
    refine q_if_ge (A := f_6.toInt) E rfl (tgt := 39) dX12_copyHand_30 (by decide) (fun c_7 => ?_) (fun c_7 => ?_)
    · skip
      replace hF := q_ifn hF (Int.not_lt.mpr c_7)
      refine lv_aload_n hx hb dX12_copyHand_39 rfl (lv_at hl 0 rfl) ?_
      refine lv_iload_n hx hb dX12_copyHand_40 rfl (lv_at hl 1 rfl) ?_
      refine q_ci (q_runV (As := [.int v1]) (rest := []) E (hml.trans hl.1.symm) hI (c_X12_isPlayerAt l X σ_2 a v1 ha (by rw [feσ_2]; exact hG)) kv_X12_290 ha ⟨rfl, by decide⟩ (show vwCl[11]? = some (RX12, TX12, 46) from rfl) rfl ⟨Nat.le_of_ble_eq_true rfl, Nat.le_of_ble_eq_true rfl⟩ ⟨Nat.le_refl _, Nat.le_refl _⟩ rfl (Nat.le_of_ble_eq_true rfl) dX12_copyHand_41) hI (by decide) (fun r_8 σ_9 H locs hpσ_9 hkσ_9 hI => ?_)
      obtain ⟨ahpσ_9, bhpσ_9, chpσ_9, dhpσ_9⟩ := hpσ_9
      rw [ahpσ_9] at hI
      rw [feσ_2] at chpσ_9
      replace hF := q_letX hF dhpσ_9
      refine q_if_ne (A := r_8.toInt) E rfl (tgt := 53) dX12_copyHand_44 (by decide) (fun c_10 => ?_) (fun c_10 => ?_)
      · skip
        replace hF := q_ifn hF c_10
        replace c_10 := q_ifOne bhpσ_9 c_10
        replace chpσ_9 := q_ifYes chpσ_9 c_10
        refine lv_aload_n hx hb dX12_copyHand_53 rfl (lv_at hl 0 rfl) ?_
        refine gs_X12_17_12 E hI ha dX12_copyHand_54 ?_
        refine lv_iload_n hx hb dX12_copyHand_57 rfl (lv_at hl 2 rfl) ?_
        refine q_iald E hI (q_tk (k' := 31) hI ha rfl (by decide)) ⟨by decide, rfl⟩ (by first | (clear hh ahpσ_4 bhpσ_4 dhpσ_4 c_5 bf_6 if_6 c_7 ahpσ_9 bhpσ_9 dhpσ_9 c_10 chpσ_9; omega) | omega) (by rw [q_lnk (v := 4) hI (q_tk (k' := 31) hI ha rfl (by decide)) rfl (by decide)]; omega) dX12_copyHand_58 ?_
        refine lv_topi (fun f_11 ef_11 => ?_)
        replace hF := q_letX hF ef_11
        have bf_11 : -1 ≤ f_11.toInt ∧ f_11.toInt ≤ 60 := by rw [ef_11]; exact q_bd hI (q_tk (k' := 31) hI ha rfl (by decide)) rfl
        have if_11 : f_11.toInt = (σ_2.1 (q_rf X a 5) (v2 : Int32).toNatClampNeg).toInt := congrArg Int32.toInt ef_11
        refine lv_aload_n hx hb dX12_copyHand_59 rfl (lv_at hl 0 rfl) ?_
        refine gs_X12_35_12 E hI ha dX12_copyHand_60 ?_
        refine lv_iconst (v := 0) hx hb dX12_copyHand_63 (by decide) ?_
        refine q_iald E hI (q_tk (k' := 34) hI ha rfl (by decide)) ⟨by decide, rfl⟩ (by decide) (by rw [q_lnk (v := 4650) hI (q_tk (k' := 34) hI ha rfl (by decide)) rfl (by decide)]; decide) dX12_copyHand_64 ?_
        refine lv_topi (fun f_12 ef_12 => ?_)
        replace hF := q_letX hF ef_12
        have if_12 : f_12.toInt = m_c X σ a 0 := (m_rd ef_12 (by decide)).trans (congrFun feσ_2 _)
        have gc_13_f_11 := q_rng f_11
        have gc_13_f_12 := q_rng f_12
        refine q_icmp_ge (A := f_11.toInt) (B := f_12.toInt) E rfl rfl (tgt := 74) dX12_copyHand_65 (by decide) (fun c_13 => ?_) (fun c_13 => ?_)
        · skip
          replace hF := q_ifn hF (Int.not_lt.mpr c_13)
          refine lv_iconst (v := 0) hx hb dX12_copyHand_74 (by decide) ?_
          refine lv_istore_n (lv' := [(3, .int 0), (0, .ref a), (1, .int v1), (2, .int v2)]) hx hb dX12_copyHand_75 rfl hl (by decide) rfl (fun ls hl => ?_)
          have L_76_16 : ∀ (k_16 : Nat) (x_14 : Int32) (σ_15 : ST) (H : Heap) (locs : List Loc) (ls : Array Slot), (2147483647 - x_14.toInt).toNat < k_16 → (0 ≤ x_14.toInt) → (q_ow [(12, 0), (12, 1)] [(32, 99)] X σ σ_15) → (m_c X σ_15 a = m_c X σ a) → (F_X12_copyHand_L76_1 X a v2 v1 k_16 x_14 σ_15 = out) → q_I X 8 σ s.heap locs σ_15 H → lv_has ls 4 [(0, .ref a), (1, .int v1), (2, .int v2), (3, .int x_14)] → W p l e (q_rm 2 46) s m ([.ref a, .int v1, .int v2] : List Value).toArray below meth c H locs 0 0 (MQ below (q_Qi X 8 σ (fun (r : Int32) (σ' : ST) => (r, σ') = F_X12_copyHand X σ a v1 v2 ∧ q_ow [(12, 0), (12, 1)] [(32, 99)] X σ σ')) ([.ref a, .int v1, .int v2] : List Value).toArray s 0 0 (q_reg X)) (F0 m 76 ls []) := by
            clear hF
            intro k_16
            induction k_16 with
            | zero =>
              intro x_14 σ_15 H locs ls hms
              exact absurd hms (Nat.not_lt_zero _)
            | succ k_16 ih76 =>
              intro x_14 σ_15 H locs ls hm76 hge76 fr_σ_15 feσ_15 hF hI hl
              replace hF := (F_X12_copyHand_L76_1_s).symm.trans hF
              unfold F_X12_copyHand_B76_1 at hF
              refine lv_iload_n hx hb dX12_copyHand_76 rfl (lv_at hl 3 rfl) ?_
              refine lv_aload_n hx hb dX12_copyHand_77 rfl (lv_at hl 0 rfl) ?_
              refine gs_X12_35_12 E hI ha dX12_copyHand_78 ?_
              refine lv_iconst (v := 0) hx hb dX12_copyHand_81 (by decide) ?_
              refine q_iald E hI (q_tk (k' := 34) hI ha rfl (by decide)) ⟨by decide, rfl⟩ (by decide) (by rw [q_lnk (v := 4650) hI (q_tk (k' := 34) hI ha rfl (by decide)) rfl (by decide)]; decide) dX12_copyHand_82 ?_
              refine lv_topi (fun f_17 ef_17 => ?_)
              replace hF := q_letX hF ef_17
              have if_17 : f_17.toInt = m_c X σ a 0 := (m_rd ef_17 (by decide)).trans (congrFun feσ_15 _)
              have gc_18_x_14 := q_rng x_14
              have gc_18_f_17 := q_rng f_17
              refine q_icmp_ge (A := x_14.toInt) (B := f_17.toInt) E rfl rfl (tgt := 110) dX12_copyHand_83 (by decide) (fun c_18 => ?_) (fun c_18 => ?_)
              · skip
                replace hF := q_ifn hF (Int.not_lt.mpr c_18)
                unfold F_X12_copyHand_E110_2 at hF
                refine lv_aload_n hx hb dX12_copyHand_110 rfl (lv_at hl 0 rfl) ?_
                refine gs_X12_35_12 E hI ha dX12_copyHand_111 ?_
                refine lv_iconst (v := 0) hx hb dX12_copyHand_114 (by decide) ?_
                refine q_iald E hI (q_tk (k' := 34) hI ha rfl (by decide)) ⟨by decide, rfl⟩ (by decide) (by rw [q_lnk (v := 4650) hI (q_tk (k' := 34) hI ha rfl (by decide)) rfl (by decide)]; decide) dX12_copyHand_115 ?_
                refine lv_topi (fun f_19 ef_19 => ?_)
                replace hF := q_letX hF ef_19
                have if_19 : f_19.toInt = m_c X σ a 0 := (m_rd ef_19 (by decide)).trans (congrFun feσ_15 _)
                exact q_reti E hr hlk hI ⟨(hF.trans hout), fr_σ_15⟩ dX12_copyHand_116
              · skip
                replace hF := q_ifp hF c_18
                refine lv_aload_n hx hb dX12_copyHand_86 rfl (lv_at hl 0 rfl) ?_
                refine gs_X12_20_12 E hI ha dX12_copyHand_87 ?_
                refine lv_bipush (v := 60) hx hb dX12_copyHand_90 (by decide) ?_
                refine lv_iload_n hx hb dX12_copyHand_92 rfl (lv_at hl 2 rfl) ?_
                refine lv_imul hx hb dX12_copyHand_93 ?_
                refine lv_topi (fun z_20 ez_20 => ?_)
                replace hF := q_letX hF ez_20
                have iz_20 := q_mulI (A := 60) (B := v2.toInt) ez_20 (by decide) rfl (by first | (clear hh ahpσ_4 bhpσ_4 dhpσ_4 c_5 bf_6 if_6 c_7 ahpσ_9 bhpσ_9 dhpσ_9 c_10 chpσ_9 bf_11 if_11 if_12 gc_13_f_11 gc_13_f_12 c_13 hm76 hge76 if_17 gc_18_x_14 gc_18_f_17 c_18; omega) | omega) (by first | (clear hh ahpσ_4 bhpσ_4 dhpσ_4 c_5 bf_6 if_6 c_7 ahpσ_9 bhpσ_9 dhpσ_9 c_10 chpσ_9 bf_11 if_11 if_12 gc_13_f_11 gc_13_f_12 c_13 hm76 hge76 if_17 gc_18_x_14 gc_18_f_17 c_18; omega) | omega)
                refine lv_iload_n hx hb dX12_copyHand_94 rfl (lv_at hl 3 rfl) ?_
                refine lv_iadd hx hb dX12_copyHand_95 ?_
                refine lv_topi (fun z_21 ez_21 => ?_)
                replace hF := q_letX hF ez_21
                have iz_21 := q_addI (A := (60 * v2.toInt)) (B := x_14.toInt) ez_21 iz_20 rfl (by first | (clear hh ahpσ_4 bhpσ_4 dhpσ_4 c_5 bf_6 if_6 c_7 ahpσ_9 bhpσ_9 dhpσ_9 c_10 chpσ_9 bf_11 if_11 if_12 gc_13_f_11 gc_13_f_12 c_13 hm76 if_17 gc_18_f_17 c_18 iz_20; omega) | omega) (by first | (clear ahpσ_4 bhpσ_4 dhpσ_4 c_5 bf_6 if_6 c_7 ahpσ_9 bhpσ_9 dhpσ_9 c_10 chpσ_9 bf_11 if_11 gc_13_f_11 gc_13_f_12 c_13 hm76 gc_18_f_17 iz_20; omega) | omega)
                refine lv_aload_n hx hb dX12_copyHand_96 rfl (lv_at hl 0 rfl) ?_
                refine lv_iload_n hx hb dX12_copyHand_97 rfl (lv_at hl 1 rfl) ?_
                refine lv_iload_n hx hb dX12_copyHand_98 rfl (lv_at hl 3 rfl) ?_
                refine q_ci (q_runV (As := [.int v1, .int x_14]) (rest := [.int z_21, .ref (q_rf X a 6)]) E (hml.trans hl.1.symm) hI (c_X12_handOf l X σ_15 a v1 x_14 ha (by first | (clear ahpσ_4 bhpσ_4 dhpσ_4 c_5 chpσ_4 bf_6 if_6 c_7 ahpσ_9 bhpσ_9 dhpσ_9 c_10 bf_11 if_11 if_12 gc_13_f_11 gc_13_f_12 c_13 hm76 hge76 if_17 gc_18_x_14 gc_18_f_17 c_18 iz_20 iz_21; omega) | omega) (by first | (clear ahpσ_4 bhpσ_4 dhpσ_4 c_5 chpσ_4 bf_6 if_6 c_7 ahpσ_9 bhpσ_9 dhpσ_9 c_10 chpσ_9 bf_11 if_11 gc_13_f_11 gc_13_f_12 c_13 hm76 gc_18_f_17 iz_20; omega) | omega)) kv_X12_276 ha ⟨rfl, by decide⟩ (show vwCl[11]? = some (RX12, TX12, 46) from rfl) rfl ⟨Nat.le_of_ble_eq_true rfl, Nat.le_of_ble_eq_true rfl⟩ ⟨Nat.le_refl _, Nat.le_refl _⟩ rfl (Nat.le_of_ble_eq_true rfl) dX12_copyHand_99) hI (by decide) (fun r_22 σ_23 H locs hpσ_23 hkσ_23 hI => ?_)
                obtain ⟨ahpσ_23, bhpσ_23, chpσ_23⟩ := hpσ_23
                rw [ahpσ_23] at hI
                rw [feσ_15] at bhpσ_23
                replace hF := q_letX hF chpσ_23
                have ir_22 : r_22.toInt = (m_c X σ a (34 + 10 * v1.toInt + x_14.toInt)) := (by first | exact bhpσ_23 | (rw [bhpσ_23]) | (simp only [bhpσ_23]))
                refine lv_i2l hx hb dX12_copyHand_102 rfl ?_
                refine lv_topl (fun y_24 ey_24 => ?_)
                replace hF := q_letX hF ey_24
                have ggy_24 := q_rng r_22
                have iy_24 : y_24.toInt = r_22.toInt := by rw [ey_24]; exact (q_i2l _).trans rfl
                refine q_lastN E hI (q_tk (k' := 32) hI ha rfl (by decide)) ⟨by decide, rfl⟩ (by first | (clear ahpσ_4 bhpσ_4 dhpσ_4 c_5 bf_6 if_6 c_7 ahpσ_9 bhpσ_9 dhpσ_9 c_10 chpσ_9 bf_11 if_11 gc_13_f_11 gc_13_f_12 c_13 hm76 gc_18_f_17 iz_20 ahpσ_23 bhpσ_23 chpσ_23 ir_22 ggy_24 iy_24; omega) | omega) (by rw [q_lnk (v := 240) hI (q_tk (k' := 32) hI ha rfl (by decide)) rfl (by decide)]; omega) dX12_copyHand_103 (fun H locs σ_25 hσ_25 hI => ?_)
                replace hF := q_letX hF hσ_25
                have fr_σ_25 := fr_σ_15.sl hσ_25 (q_tk (k' := 32) hI ha rfl (by decide)) rfl
                have mcσ_25 := m_wl (X := X) hσ_25 a
                have feσ_25 : m_c X σ_25 a = m_c X σ a := (funext mcσ_25).trans feσ_15
                obtain ⟨z_26, ez_26⟩ : ∃ y : Int32, y = x_14 + 1 := ⟨_, rfl⟩
                replace hF := q_letX hF ez_26
                refine lv_iinc (v := z_26) (lv' := [(3, .int z_26), (0, .ref a), (1, .int v1), (2, .int v2)]) hx hb dX12_copyHand_104 hl (k := 3) rfl (by rw [ez_26]; rfl) (by decide) rfl (fun ls hl => ?_)
                have iz_26 : z_26.toInt = x_14.toInt + 1 := q_inc ez_26 (by first | (clear ahpσ_4 bhpσ_4 dhpσ_4 c_5 chpσ_4 bf_6 if_6 c_7 ahpσ_9 bhpσ_9 dhpσ_9 c_10 chpσ_9 bf_11 if_11 gc_13_f_11 gc_13_f_12 c_13 hm76 gc_18_f_17 iz_20 ahpσ_23 bhpσ_23 chpσ_23 ir_22 ggy_24 iy_24; omega) | omega)
                refine lv_goto (tgt := 76) hx hb dX12_copyHand_107 (by decide) ?_
                exact ih76 z_26 σ_25 _ _ ls (by first | (clear ahpσ_4 bhpσ_4 dhpσ_4 c_5 chpσ_4 bf_6 if_6 c_7 ahpσ_9 bhpσ_9 dhpσ_9 c_10 chpσ_9 bf_11 if_11 gc_13_f_11 gc_13_f_12 c_13 gc_18_f_17 iz_20 ahpσ_23 bhpσ_23 chpσ_23 ir_22 ggy_24 iy_24; omega) | omega) (by first | (clear hh ahpσ_4 bhpσ_4 dhpσ_4 c_5 chpσ_4 bf_6 if_6 c_7 ahpσ_9 bhpσ_9 dhpσ_9 c_10 chpσ_9 bf_11 if_11 if_12 gc_13_f_11 gc_13_f_12 c_13 hm76 if_17 gc_18_f_17 c_18 iz_20 ahpσ_23 bhpσ_23 chpσ_23 ir_22 ggy_24 iy_24; omega) | omega) fr_σ_25 feσ_25 hF hI (lv_sub hl [1, 2, 3, 0] rfl)
          have kc_27 : (0 : Int32).toInt = 0 := rfl
          exact L_76_16 ((2147483647 - (0 : Int32).toInt).toNat + 1) 0 σ_2 _ _ ls (Nat.lt_succ_self _) (by decide) fr_σ_2 feσ_2 hF hI (lv_sub hl [1, 2, 3, 0] rfl)
        · skip
          replace hF := q_ifp hF c_13
          refine lv_aload_n hx hb dX12_copyHand_68 rfl (lv_at hl 0 rfl) ?_
          refine lv_iconst (v := 4) hx hb dX12_copyHand_69 (by decide) ?_
          have kc_28 : (4 : Int32).toInt = 4 := rfl
          refine q_ci (q_runV (As := [.int 4]) (rest := []) E (hml.trans hl.1.symm) hI (c_X12_refuse l X σ_2 a (4 : Int32) ha) kv_X12_284 ha ⟨rfl, by decide⟩ (show vwCl[11]? = some (RX12, TX12, 46) from rfl) rfl ⟨Nat.le_of_ble_eq_true rfl, Nat.le_of_ble_eq_true rfl⟩ ⟨Nat.le_refl _, Nat.le_refl _⟩ rfl (Nat.le_of_ble_eq_true rfl) dX12_copyHand_70) hI (by decide) (fun r_29 σ_30 H locs hpσ_30 hkσ_30 hI => ?_)
          obtain ⟨ahpσ_30, bhpσ_30, chpσ_30⟩ := hpσ_30
          have fr_σ_30 := fr_σ_2.call chpσ_30 rfl rfl
          replace hF := q_biX hF bhpσ_30
          have mcσ_30 := m_cK hkσ_30 hI.1 ha (by decide)
          have feσ_30 : m_c X σ_30 a = m_c X σ a := (funext mcσ_30).trans feσ_2
          exact q_reti E hr hlk hI ⟨(hF.trans hout), fr_σ_30⟩ dX12_copyHand_73
      · skip
        replace hF := q_ifp hF c_10
        replace chpσ_9 := q_ifNo chpσ_9 c_10
        refine lv_aload_n hx hb dX12_copyHand_47 rfl (lv_at hl 0 rfl) ?_
        refine lv_iconst (v := 2) hx hb dX12_copyHand_48 (by decide) ?_
        have kc_31 : (2 : Int32).toInt = 2 := rfl
        refine q_ci (q_runV (As := [.int 2]) (rest := []) E (hml.trans hl.1.symm) hI (c_X12_refuse l X σ_2 a (2 : Int32) ha) kv_X12_284 ha ⟨rfl, by decide⟩ (show vwCl[11]? = some (RX12, TX12, 46) from rfl) rfl ⟨Nat.le_of_ble_eq_true rfl, Nat.le_of_ble_eq_true rfl⟩ ⟨Nat.le_refl _, Nat.le_refl _⟩ rfl (Nat.le_of_ble_eq_true rfl) dX12_copyHand_49) hI (by decide) (fun r_32 σ_33 H locs hpσ_33 hkσ_33 hI => ?_)
        obtain ⟨ahpσ_33, bhpσ_33, chpσ_33⟩ := hpσ_33
        have fr_σ_33 := fr_σ_2.call chpσ_33 rfl rfl
        replace hF := q_biX hF bhpσ_33
        have mcσ_33 := m_cK hkσ_33 hI.1 ha (by decide)
        have feσ_33 : m_c X σ_33 a = m_c X σ a := (funext mcσ_33).trans feσ_2
        exact q_reti E hr hlk hI ⟨(hF.trans hout), fr_σ_33⟩ dX12_copyHand_52
    · skip
      replace hF := q_ifp hF c_7
      refine lv_aload_n hx hb dX12_copyHand_33 rfl (lv_at hl 0 rfl) ?_
      refine lv_iconst (v := 3) hx hb dX12_copyHand_34 (by decide) ?_
      have kc_34 : (3 : Int32).toInt = 3 := rfl
      refine q_ci (q_runV (As := [.int 3]) (rest := []) E (hml.trans hl.1.symm) hI (c_X12_refuse l X σ_2 a (3 : Int32) ha) kv_X12_284 ha ⟨rfl, by decide⟩ (show vwCl[11]? = some (RX12, TX12, 46) from rfl) rfl ⟨Nat.le_of_ble_eq_true rfl, Nat.le_of_ble_eq_true rfl⟩ ⟨Nat.le_refl _, Nat.le_refl _⟩ rfl (Nat.le_of_ble_eq_true rfl) dX12_copyHand_35) hI (by decide) (fun r_35 σ_36 H locs hpσ_36 hkσ_36 hI => ?_)
      obtain ⟨ahpσ_36, bhpσ_36, chpσ_36⟩ := hpσ_36
      have fr_σ_36 := fr_σ_2.call chpσ_36 rfl rfl
      replace hF := q_biX hF bhpσ_36
      have mcσ_36 := m_cK hkσ_36 hI.1 ha (by decide)
      have feσ_36 : m_c X σ_36 a = m_c X σ a := (funext mcσ_36).trans feσ_2
      exact q_reti E hr hlk hI ⟨(hF.trans hout), fr_σ_36⟩ dX12_copyHand_38
  · skip
    replace hF := q_ifp hF c_5
    replace chpσ_4 := q_ifNo chpσ_4 c_5
    refine lv_aload_n hx hb dX12_copyHand_18 rfl (lv_at hl 0 rfl) ?_
    refine lv_iconst (v := 1) hx hb dX12_copyHand_19 (by decide) ?_
    have kc_37 : (1 : Int32).toInt = 1 := rfl
    refine q_ci (q_runV (As := [.int 1]) (rest := []) E (hml.trans hl.1.symm) hI (c_X12_refuse l X σ_2 a (1 : Int32) ha) kv_X12_284 ha ⟨rfl, by decide⟩ (show vwCl[11]? = some (RX12, TX12, 46) from rfl) rfl ⟨Nat.le_of_ble_eq_true rfl, Nat.le_of_ble_eq_true rfl⟩ ⟨Nat.le_refl _, Nat.le_refl _⟩ rfl (Nat.le_of_ble_eq_true rfl) dX12_copyHand_20) hI (by decide) (fun r_38 σ_39 H locs hpσ_39 hkσ_39 hI => ?_)
    obtain ⟨ahpσ_39, bhpσ_39, chpσ_39⟩ := hpσ_39
    have fr_σ_39 := fr_σ_2.call chpσ_39 rfl rfl
    replace hF := q_biX hF bhpσ_39
    have mcσ_39 := m_cK hkσ_39 hI.1 ha (by decide)
    have feσ_39 : m_c X σ_39 a = m_c X σ a := (funext mcσ_39).trans feσ_2
    exact q_reti E hr hlk hI ⟨(hF.trans hout), fr_σ_39⟩ dX12_copyHand_23

set_option maxRecDepth 100000 in
set_option maxHeartbeats 4000000 in
theorem c_X12_known (l : Launch) (X : XW) (σ : ST) (a : Nat) (v1 : Int32) (v2 : Int32) (ha : q_kd X a = 12) (hG : m_G (m_c X σ a)) : Met l yX12_known (q_ws yX12_known cX12_known 3 (some .int)) (q_rm 3 68) (q_P X σ [.ref a, .int v1, .int v2]) (q_Qi X 8 σ (fun (r : Int32) (σ' : ST) => (r, σ') = F_X12_known X σ a v1 v2 ∧ q_ow [(12, 0), (12, 1)] [] X σ σ')) 0 0 (q_reg X) := by
  refine q_met 8 (by first | exact rfl | decide +kernel) rfl (Nat.le_of_ble_eq_true rfl) (fun p e s m below meth c E hml hr hlk hI ls hl => ?_)
  have hx := E.1
  have hb := E.2.1
  have hl : lv_has ls 3 [(0, .ref a), (1, .int v1), (2, .int v2)] := hl
  have feσ : m_c X σ a = m_c X σ a := rfl
  have fr_σ : q_ow [(12, 0), (12, 1)] [] X σ σ := q_ow.rf
  have hh := hG.hd
  obtain ⟨out, hout⟩ : ∃ o, o = F_X12_known X σ a v1 v2 := ⟨_, rfl⟩
  have hF := hout.symm
  unfold F_X12_known at hF
  refine lv_aload_n hx hb dX12_known_0 rfl (lv_at hl 0 rfl) ?_
  refine lv_iconst (v := 0) hx hb dX12_known_1 (by decide) ?_
  refine ps_X12_59_12 E hI ha (by decide) dX12_known_2 (fun H locs σ_1 hσ_1 hI => ?_)
  replace hF := q_letX hF hσ_1
  have fr_σ_1 := fr_σ.si hσ_1 ha rfl
  have mcσ_1 := m_wo hσ_1 (m_ne ha (q_tk (f := 20) (k' := 34) hI ha rfl (by decide)) (by decide))
  have feσ_1 : m_c X σ_1 a = m_c X σ a := (funext mcσ_1).trans feσ
  refine lv_aload_n hx hb dX12_known_5 rfl (lv_at hl 0 rfl) ?_
  refine lv_iconst (v := 0) hx hb dX12_known_6 (by decide) ?_
  refine ps_X12_62_12 E hI ha (by decide) dX12_known_7 (fun H locs σ_2 hσ_2 hI => ?_)
  replace hF := q_letX hF hσ_2
  have fr_σ_2 := fr_σ_1.si hσ_2 ha rfl
  have mcσ_2 := m_wo hσ_2 (m_ne ha (q_tk (f := 20) (k' := 34) hI ha rfl (by decide)) (by decide))
  have feσ_2 : m_c X σ_2 a = m_c X σ a := (funext mcσ_2).trans feσ_1
  refine lv_aload_n hx hb dX12_known_10 rfl (lv_at hl 0 rfl) ?_
  refine lv_iload_n hx hb dX12_known_11 rfl (lv_at hl 1 rfl) ?_
  refine q_ci (q_runV (As := [.int v1]) (rest := []) E (hml.trans hl.1.symm) hI (c_X12_isPlayerAt l X σ_2 a v1 ha (by rw [feσ_2]; exact hG)) kv_X12_290 ha ⟨rfl, by decide⟩ (show vwCl[11]? = some (RX12, TX12, 46) from rfl) rfl ⟨Nat.le_of_ble_eq_true rfl, Nat.le_of_ble_eq_true rfl⟩ ⟨Nat.le_refl _, Nat.le_refl _⟩ rfl (Nat.le_of_ble_eq_true rfl) dX12_known_12) hI (by decide) (fun r_3 σ_4 H locs hpσ_4 hkσ_4 hI => ?_)
  obtain ⟨ahpσ_4, bhpσ_4, chpσ_4, dhpσ_4⟩ := hpσ_4
  rw [ahpσ_4] at hI
  rw [feσ_2] at chpσ_4
  replace hF := q_letX hF dhpσ_4
  refine q_if_eq (A := r_3.toInt) E rfl (tgt := 35) dX12_known_15 (by decide) (fun c_5 => ?_) (fun c_5 => ?_)
  · skip
    replace hF := q_ifp hF c_5
    replace chpσ_4 := q_ifNo chpσ_4 c_5
    refine lv_aload_n hx hb dX12_known_35 rfl (lv_at hl 0 rfl) ?_
    refine lv_iconst (v := 2) hx hb dX12_known_36 (by decide) ?_
    have kc_6 : (2 : Int32).toInt = 2 := rfl
    refine q_ci (q_runV (As := [.int 2]) (rest := []) E (hml.trans hl.1.symm) hI (c_X12_refuse l X σ_2 a (2 : Int32) ha) kv_X12_284 ha ⟨rfl, by decide⟩ (show vwCl[11]? = some (RX12, TX12, 46) from rfl) rfl ⟨Nat.le_of_ble_eq_true rfl, Nat.le_of_ble_eq_true rfl⟩ ⟨Nat.le_refl _, Nat.le_refl _⟩ rfl (Nat.le_of_ble_eq_true rfl) dX12_known_37) hI (by decide) (fun r_7 σ_8 H locs hpσ_8 hkσ_8 hI => ?_)
    obtain ⟨ahpσ_8, bhpσ_8, chpσ_8⟩ := hpσ_8
    have fr_σ_8 := fr_σ_2.call chpσ_8 rfl rfl
    replace hF := q_biX hF bhpσ_8
    have mcσ_8 := m_cK hkσ_8 hI.1 ha (by decide)
    have feσ_8 : m_c X σ_8 a = m_c X σ a := (funext mcσ_8).trans feσ_2
    exact q_reti E hr hlk hI ⟨(hF.trans hout), fr_σ_8⟩ dX12_known_40
  · skip
    replace hF := q_ifn hF c_5
    replace c_5 := q_ifOne bhpσ_4 c_5
    replace chpσ_4 := q_ifYes chpσ_4 c_5
    refine lv_aload_n hx hb dX12_known_18 rfl (lv_at hl 0 rfl) ?_
    refine lv_iload_n hx hb dX12_known_19 rfl (lv_at hl 2 rfl) ?_
    refine q_ci (q_runV (As := [.int v2]) (rest := []) E (hml.trans hl.1.symm) hI (c_X12_isKindAt l X σ_2 a v2 ha (by rw [feσ_2]; exact hG)) kv_X12_299 ha ⟨rfl, by decide⟩ (show vwCl[11]? = some (RX12, TX12, 46) from rfl) rfl ⟨Nat.le_of_ble_eq_true rfl, Nat.le_of_ble_eq_true rfl⟩ ⟨Nat.le_refl _, Nat.le_refl _⟩ rfl (Nat.le_of_ble_eq_true rfl) dX12_known_20) hI (by decide) (fun r_9 σ_10 H locs hpσ_10 hkσ_10 hI => ?_)
    obtain ⟨ahpσ_10, bhpσ_10, chpσ_10, dhpσ_10⟩ := hpσ_10
    rw [ahpσ_10] at hI
    rw [feσ_2] at chpσ_10
    replace hF := q_letX hF dhpσ_10
    refine q_if_eq (A := r_9.toInt) E rfl (tgt := 35) dX12_known_23 (by decide) (fun c_11 => ?_) (fun c_11 => ?_)
    · skip
      replace hF := q_ifp hF c_11
      replace chpσ_10 := q_ifNo chpσ_10 c_11
      refine lv_aload_n hx hb dX12_known_35 rfl (lv_at hl 0 rfl) ?_
      refine lv_iconst (v := 2) hx hb dX12_known_36 (by decide) ?_
      have kc_12 : (2 : Int32).toInt = 2 := rfl
      refine q_ci (q_runV (As := [.int 2]) (rest := []) E (hml.trans hl.1.symm) hI (c_X12_refuse l X σ_2 a (2 : Int32) ha) kv_X12_284 ha ⟨rfl, by decide⟩ (show vwCl[11]? = some (RX12, TX12, 46) from rfl) rfl ⟨Nat.le_of_ble_eq_true rfl, Nat.le_of_ble_eq_true rfl⟩ ⟨Nat.le_refl _, Nat.le_refl _⟩ rfl (Nat.le_of_ble_eq_true rfl) dX12_known_37) hI (by decide) (fun r_13 σ_14 H locs hpσ_14 hkσ_14 hI => ?_)
      obtain ⟨ahpσ_14, bhpσ_14, chpσ_14⟩ := hpσ_14
      have fr_σ_14 := fr_σ_2.call chpσ_14 rfl rfl
      replace hF := q_biX hF bhpσ_14
      have mcσ_14 := m_cK hkσ_14 hI.1 ha (by decide)
      have feσ_14 : m_c X σ_14 a = m_c X σ a := (funext mcσ_14).trans feσ_2
      exact q_reti E hr hlk hI ⟨(hF.trans hout), fr_σ_14⟩ dX12_known_40
    · skip
      replace hF := q_ifn hF c_11
      replace c_11 := q_ifOne bhpσ_10 c_11
      replace chpσ_10 := q_ifYes chpσ_10 c_11
      refine lv_aload_n hx hb dX12_known_26 rfl (lv_at hl 0 rfl) ?_
      refine lv_iload_n hx hb dX12_known_27 rfl (lv_at hl 1 rfl) ?_
      refine lv_iload_n hx hb dX12_known_28 rfl (lv_at hl 2 rfl) ?_
      refine q_ci (q_runV (As := [.int v1, .int v2]) (rest := []) E (hml.trans hl.1.symm) hI (c_X12_knownOf l X σ_2 a v1 v2 ha (by rw [feσ_2]; exact hG) (by omega) (by omega)) kv_X12_333 ha ⟨rfl, by decide⟩ (show vwCl[11]? = some (RX12, TX12, 46) from rfl) rfl ⟨Nat.le_of_ble_eq_true rfl, Nat.le_of_ble_eq_true rfl⟩ ⟨Nat.le_refl _, Nat.le_refl _⟩ rfl (Nat.le_of_ble_eq_true rfl) dX12_known_29) hI (by decide) (fun r_15 σ_16 H locs hpσ_16 hkσ_16 hI => ?_)
      obtain ⟨ahpσ_16, bhpσ_16, chpσ_16⟩ := hpσ_16
      rw [ahpσ_16] at hI
      rw [feσ_2] at bhpσ_16
      replace hF := q_letX hF chpσ_16
      have ir_15 : r_15.toInt = (m_c X σ a (34 + 10 * v1.toInt + v2.toInt) + m_A (m_c X σ a) v1.toInt v2.toInt (m_c X σ a 9).toNat) := (by first | exact bhpσ_16 | (rw [bhpσ_16]) | (simp only [bhpσ_16]))
      refine lv_goto (tgt := 40) hx hb dX12_known_32 (by decide) ?_
      exact q_reti E hr hlk hI ⟨(hF.trans hout), fr_σ_2⟩ dX12_known_40

set_option maxRecDepth 100000 in
set_option maxHeartbeats 4000000 in
theorem c_X12_unknown (l : Launch) (X : XW) (σ : ST) (a : Nat) (v1 : Int32) (v2 : Int32) (ha : q_kd X a = 12) (hG : m_G (m_c X σ a)) : Met l yX12_unknown (q_ws yX12_unknown cX12_unknown 3 (some .int)) (q_rm 5 114) (q_P X σ [.ref a, .int v1, .int v2]) (q_Qi X 8 σ (fun (r : Int32) (σ' : ST) => (r, σ') = F_X12_unknown X σ a v1 v2 ∧ q_ow [(12, 0), (12, 1)] [] X σ σ')) 0 0 (q_reg X) := by
  refine q_met 8 (by first | exact rfl | decide +kernel) rfl (Nat.le_of_ble_eq_true rfl) (fun p e s m below meth c E hml hr hlk hI ls hl => ?_)
  have hx := E.1
  have hb := E.2.1
  have hl : lv_has ls 3 [(0, .ref a), (1, .int v1), (2, .int v2)] := hl
  have feσ : m_c X σ a = m_c X σ a := rfl
  have fr_σ : q_ow [(12, 0), (12, 1)] [] X σ σ := q_ow.rf
  have hh := hG.hd
  obtain ⟨out, hout⟩ : ∃ o, o = F_X12_unknown X σ a v1 v2 := ⟨_, rfl⟩
  have hF := hout.symm
  unfold F_X12_unknown at hF
  refine lv_aload_n hx hb dX12_unknown_0 rfl (lv_at hl 0 rfl) ?_
  refine lv_iconst (v := 0) hx hb dX12_unknown_1 (by decide) ?_
  refine ps_X12_59_12 E hI ha (by decide) dX12_unknown_2 (fun H locs σ_1 hσ_1 hI => ?_)
  replace hF := q_letX hF hσ_1
  have fr_σ_1 := fr_σ.si hσ_1 ha rfl
  have mcσ_1 := m_wo hσ_1 (m_ne ha (q_tk (f := 20) (k' := 34) hI ha rfl (by decide)) (by decide))
  have feσ_1 : m_c X σ_1 a = m_c X σ a := (funext mcσ_1).trans feσ
  refine lv_aload_n hx hb dX12_unknown_5 rfl (lv_at hl 0 rfl) ?_
  refine lv_iconst (v := 0) hx hb dX12_unknown_6 (by decide) ?_
  refine ps_X12_62_12 E hI ha (by decide) dX12_unknown_7 (fun H locs σ_2 hσ_2 hI => ?_)
  replace hF := q_letX hF hσ_2
  have fr_σ_2 := fr_σ_1.si hσ_2 ha rfl
  have mcσ_2 := m_wo hσ_2 (m_ne ha (q_tk (f := 20) (k' := 34) hI ha rfl (by decide)) (by decide))
  have feσ_2 : m_c X σ_2 a = m_c X σ a := (funext mcσ_2).trans feσ_1
  refine lv_aload_n hx hb dX12_unknown_10 rfl (lv_at hl 0 rfl) ?_
  refine lv_iload_n hx hb dX12_unknown_11 rfl (lv_at hl 1 rfl) ?_
  refine q_ci (q_runV (As := [.int v1]) (rest := []) E (hml.trans hl.1.symm) hI (c_X12_isPlayerAt l X σ_2 a v1 ha (by rw [feσ_2]; exact hG)) kv_X12_290 ha ⟨rfl, by decide⟩ (show vwCl[11]? = some (RX12, TX12, 46) from rfl) rfl ⟨Nat.le_of_ble_eq_true rfl, Nat.le_of_ble_eq_true rfl⟩ ⟨Nat.le_refl _, Nat.le_refl _⟩ rfl (Nat.le_of_ble_eq_true rfl) dX12_unknown_12) hI (by decide) (fun r_3 σ_4 H locs hpσ_4 hkσ_4 hI => ?_)
  obtain ⟨ahpσ_4, bhpσ_4, chpσ_4, dhpσ_4⟩ := hpσ_4
  rw [ahpσ_4] at hI
  rw [feσ_2] at chpσ_4
  replace hF := q_letX hF dhpσ_4
  refine q_if_eq (A := r_3.toInt) E rfl (tgt := 31) dX12_unknown_15 (by decide) (fun c_5 => ?_) (fun c_5 => ?_)
  · skip
    replace hF := q_ifp hF c_5
    replace chpσ_4 := q_ifNo chpσ_4 c_5
    refine lv_aload_n hx hb dX12_unknown_31 rfl (lv_at hl 0 rfl) ?_
    refine lv_iconst (v := 2) hx hb dX12_unknown_32 (by decide) ?_
    have kc_6 : (2 : Int32).toInt = 2 := rfl
    refine q_ci (q_runV (As := [.int 2]) (rest := []) E (hml.trans hl.1.symm) hI (c_X12_refuse l X σ_2 a (2 : Int32) ha) kv_X12_284 ha ⟨rfl, by decide⟩ (show vwCl[11]? = some (RX12, TX12, 46) from rfl) rfl ⟨Nat.le_of_ble_eq_true rfl, Nat.le_of_ble_eq_true rfl⟩ ⟨Nat.le_refl _, Nat.le_refl _⟩ rfl (Nat.le_of_ble_eq_true rfl) dX12_unknown_33) hI (by decide) (fun r_7 σ_8 H locs hpσ_8 hkσ_8 hI => ?_)
    obtain ⟨ahpσ_8, bhpσ_8, chpσ_8⟩ := hpσ_8
    have fr_σ_8 := fr_σ_2.call chpσ_8 rfl rfl
    replace hF := q_biX hF bhpσ_8
    have mcσ_8 := m_cK hkσ_8 hI.1 ha (by decide)
    have feσ_8 : m_c X σ_8 a = m_c X σ a := (funext mcσ_8).trans feσ_2
    exact q_reti E hr hlk hI ⟨(hF.trans hout), fr_σ_8⟩ dX12_unknown_36
  · skip
    replace hF := q_ifn hF c_5
    replace c_5 := q_ifOne bhpσ_4 c_5
    replace chpσ_4 := q_ifYes chpσ_4 c_5
    refine lv_iload_n hx hb dX12_unknown_18 rfl (lv_at hl 2 rfl) ?_
    refine lv_iconst (v := (-1)) hx hb dX12_unknown_19 (by decide) ?_
    refine q_icmp_eq (A := v2.toInt) (B := (-1)) E rfl (by decide) (tgt := 37) dX12_unknown_20 (by decide) (fun c_9 => ?_) (fun c_9 => ?_)
    · skip
      replace hF := q_ifp hF c_9
      refine lv_iload_n hx hb dX12_unknown_37 rfl (lv_at hl 2 rfl) ?_
      refine lv_iconst (v := (-1)) hx hb dX12_unknown_38 (by decide) ?_
      refine q_icmp_ne (A := v2.toInt) (B := (-1)) E rfl (by decide) (tgt := 50) dX12_unknown_39 (by decide) (fun c_10 => ?_) (fun c_10 => ?_)
      · skip
        replace hF := q_ifn hF c_10
        refine lv_aload_n hx hb dX12_unknown_50 rfl (lv_at hl 0 rfl) ?_
        refine lv_iload_n hx hb dX12_unknown_51 rfl (lv_at hl 1 rfl) ?_
        refine lv_iload_n hx hb dX12_unknown_52 rfl (lv_at hl 2 rfl) ?_
        refine q_ci (q_runV (As := [.int v1, .int v2]) (rest := []) E (hml.trans hl.1.symm) hI (c_X12_unknownOf l X σ_2 a v1 v2 ha (by rw [feσ_2]; exact hG) (by rw [feσ_2]; exact (by omega)) (by first | (clear hh ahpσ_4 bhpσ_4 dhpσ_4 c_5 chpσ_4; omega) | omega)) kv_X12_336 ha ⟨rfl, by decide⟩ (show vwCl[11]? = some (RX12, TX12, 46) from rfl) rfl ⟨Nat.le_of_ble_eq_true rfl, Nat.le_of_ble_eq_true rfl⟩ ⟨Nat.le_refl _, Nat.le_refl _⟩ rfl (Nat.le_of_ble_eq_true rfl) dX12_unknown_53) hI (by decide) (fun r_11 σ_12 H locs hpσ_12 hkσ_12 hI => ?_)
        obtain ⟨ahpσ_12, bhpσ_12, chpσ_12, dhpσ_12⟩ := hpσ_12
        rw [ahpσ_12] at hI
        rw [feσ_2] at bhpσ_12
        replace hF := q_letX hF dhpσ_12
        have ir_11 : r_11.toInt = (m_U (m_c X σ a) v1.toInt v2.toInt) := (by first | exact bhpσ_12 | (rw [bhpσ_12]) | (simp only [bhpσ_12]))
        exact q_reti E hr hlk hI ⟨(hF.trans hout), fr_σ_2⟩ dX12_unknown_56
      · skip
        replace hF := q_ifp hF c_10
        refine lv_aload_n hx hb dX12_unknown_42 rfl (lv_at hl 0 rfl) ?_
        refine lv_iload_n hx hb dX12_unknown_43 rfl (lv_at hl 1 rfl) ?_
        refine q_ci (q_runV (As := [.int v1]) (rest := []) E (hml.trans hl.1.symm) hI (c_X12_unknownAll l X σ_2 a v1 ha (by rw [feσ_2]; exact hG) (by rw [feσ_2]; exact (by omega))) kv_X12_339 ha ⟨rfl, by decide⟩ (show vwCl[11]? = some (RX12, TX12, 46) from rfl) rfl ⟨Nat.le_of_ble_eq_true rfl, Nat.le_of_ble_eq_true rfl⟩ ⟨Nat.le_refl _, Nat.le_refl _⟩ rfl (Nat.le_of_ble_eq_true rfl) dX12_unknown_44) hI (by decide) (fun r_13 σ_14 H locs hpσ_14 hkσ_14 hI => ?_)
        obtain ⟨ahpσ_14, bhpσ_14, chpσ_14, dhpσ_14⟩ := hpσ_14
        rw [ahpσ_14] at hI
        rw [feσ_2] at bhpσ_14
        replace hF := q_letX hF dhpσ_14
        have ir_13 : r_13.toInt = (m_V (m_c X σ a) v1.toInt (m_c X σ a 0).toNat) := (by first | exact bhpσ_14 | (rw [bhpσ_14]) | (simp only [bhpσ_14]))
        refine lv_goto (tgt := 56) hx hb dX12_unknown_47 (by decide) ?_
        exact q_reti E hr hlk hI ⟨(hF.trans hout), fr_σ_2⟩ dX12_unknown_56
    · skip
      replace hF := q_ifn hF c_9
      refine lv_aload_n hx hb dX12_unknown_23 rfl (lv_at hl 0 rfl) ?_
      refine lv_iload_n hx hb dX12_unknown_24 rfl (lv_at hl 2 rfl) ?_
      refine q_ci (q_runV (As := [.int v2]) (rest := []) E (hml.trans hl.1.symm) hI (c_X12_isKindAt l X σ_2 a v2 ha (by rw [feσ_2]; exact hG)) kv_X12_299 ha ⟨rfl, by decide⟩ (show vwCl[11]? = some (RX12, TX12, 46) from rfl) rfl ⟨Nat.le_of_ble_eq_true rfl, Nat.le_of_ble_eq_true rfl⟩ ⟨Nat.le_refl _, Nat.le_refl _⟩ rfl (Nat.le_of_ble_eq_true rfl) dX12_unknown_25) hI (by decide) (fun r_15 σ_16 H locs hpσ_16 hkσ_16 hI => ?_)
      obtain ⟨ahpσ_16, bhpσ_16, chpσ_16, dhpσ_16⟩ := hpσ_16
      rw [ahpσ_16] at hI
      rw [feσ_2] at chpσ_16
      replace hF := q_letX hF dhpσ_16
      refine q_if_ne (A := r_15.toInt) E rfl (tgt := 37) dX12_unknown_28 (by decide) (fun c_17 => ?_) (fun c_17 => ?_)
      · skip
        replace hF := q_ifn hF c_17
        replace c_17 := q_ifOne bhpσ_16 c_17
        replace chpσ_16 := q_ifYes chpσ_16 c_17
        refine lv_iload_n hx hb dX12_unknown_37 rfl (lv_at hl 2 rfl) ?_
        refine lv_iconst (v := (-1)) hx hb dX12_unknown_38 (by decide) ?_
        refine q_icmp_ne (A := v2.toInt) (B := (-1)) E rfl (by decide) (tgt := 50) dX12_unknown_39 (by decide) (fun c_18 => ?_) (fun c_18 => ?_)
        · skip
          replace hF := q_ifn hF c_18
          refine lv_aload_n hx hb dX12_unknown_50 rfl (lv_at hl 0 rfl) ?_
          refine lv_iload_n hx hb dX12_unknown_51 rfl (lv_at hl 1 rfl) ?_
          refine lv_iload_n hx hb dX12_unknown_52 rfl (lv_at hl 2 rfl) ?_
          refine q_ci (q_runV (As := [.int v1, .int v2]) (rest := []) E (hml.trans hl.1.symm) hI (c_X12_unknownOf l X σ_2 a v1 v2 ha (by rw [feσ_2]; exact hG) (by rw [feσ_2]; exact (by omega)) (by omega)) kv_X12_336 ha ⟨rfl, by decide⟩ (show vwCl[11]? = some (RX12, TX12, 46) from rfl) rfl ⟨Nat.le_of_ble_eq_true rfl, Nat.le_of_ble_eq_true rfl⟩ ⟨Nat.le_refl _, Nat.le_refl _⟩ rfl (Nat.le_of_ble_eq_true rfl) dX12_unknown_53) hI (by decide) (fun r_19 σ_20 H locs hpσ_20 hkσ_20 hI => ?_)
          obtain ⟨ahpσ_20, bhpσ_20, chpσ_20, dhpσ_20⟩ := hpσ_20
          rw [ahpσ_20] at hI
          rw [feσ_2] at bhpσ_20
          replace hF := q_letX hF dhpσ_20
          have ir_19 : r_19.toInt = (m_U (m_c X σ a) v1.toInt v2.toInt) := (by first | exact bhpσ_20 | (rw [bhpσ_20]) | (simp only [bhpσ_20]))
          exact q_reti E hr hlk hI ⟨(hF.trans hout), fr_σ_2⟩ dX12_unknown_56
        · skip
          replace hF := q_ifp hF c_18
          refine lv_aload_n hx hb dX12_unknown_42 rfl (lv_at hl 0 rfl) ?_
          refine lv_iload_n hx hb dX12_unknown_43 rfl (lv_at hl 1 rfl) ?_
          refine q_ci (q_runV (As := [.int v1]) (rest := []) E (hml.trans hl.1.symm) hI (c_X12_unknownAll l X σ_2 a v1 ha (by rw [feσ_2]; exact hG) (by rw [feσ_2]; exact (by omega))) kv_X12_339 ha ⟨rfl, by decide⟩ (show vwCl[11]? = some (RX12, TX12, 46) from rfl) rfl ⟨Nat.le_of_ble_eq_true rfl, Nat.le_of_ble_eq_true rfl⟩ ⟨Nat.le_refl _, Nat.le_refl _⟩ rfl (Nat.le_of_ble_eq_true rfl) dX12_unknown_44) hI (by decide) (fun r_21 σ_22 H locs hpσ_22 hkσ_22 hI => ?_)
          obtain ⟨ahpσ_22, bhpσ_22, chpσ_22, dhpσ_22⟩ := hpσ_22
          rw [ahpσ_22] at hI
          rw [feσ_2] at bhpσ_22
          replace hF := q_letX hF dhpσ_22
          have ir_21 : r_21.toInt = (m_V (m_c X σ a) v1.toInt (m_c X σ a 0).toNat) := (by first | exact bhpσ_22 | (rw [bhpσ_22]) | (simp only [bhpσ_22]))
          refine lv_goto (tgt := 56) hx hb dX12_unknown_47 (by decide) ?_
          exact q_reti E hr hlk hI ⟨(hF.trans hout), fr_σ_2⟩ dX12_unknown_56
      · skip
        replace hF := q_ifp hF c_17
        replace chpσ_16 := q_ifNo chpσ_16 c_17
        refine lv_aload_n hx hb dX12_unknown_31 rfl (lv_at hl 0 rfl) ?_
        refine lv_iconst (v := 2) hx hb dX12_unknown_32 (by decide) ?_
        have kc_23 : (2 : Int32).toInt = 2 := rfl
        refine q_ci (q_runV (As := [.int 2]) (rest := []) E (hml.trans hl.1.symm) hI (c_X12_refuse l X σ_2 a (2 : Int32) ha) kv_X12_284 ha ⟨rfl, by decide⟩ (show vwCl[11]? = some (RX12, TX12, 46) from rfl) rfl ⟨Nat.le_of_ble_eq_true rfl, Nat.le_of_ble_eq_true rfl⟩ ⟨Nat.le_refl _, Nat.le_refl _⟩ rfl (Nat.le_of_ble_eq_true rfl) dX12_unknown_33) hI (by decide) (fun r_24 σ_25 H locs hpσ_25 hkσ_25 hI => ?_)
        obtain ⟨ahpσ_25, bhpσ_25, chpσ_25⟩ := hpσ_25
        have fr_σ_25 := fr_σ_2.call chpσ_25 rfl rfl
        replace hF := q_biX hF bhpσ_25
        have mcσ_25 := m_cK hkσ_25 hI.1 ha (by decide)
        have feσ_25 : m_c X σ_25 a = m_c X σ a := (funext mcσ_25).trans feσ_2
        exact q_reti E hr hlk hI ⟨(hF.trans hout), fr_σ_25⟩ dX12_unknown_36

set_option maxRecDepth 100000 in
set_option maxHeartbeats 4000000 in
theorem c_X12_impossible (l : Launch) (X : XW) (σ : ST) (a : Nat) (v1 : Int32) (ha : q_kd X a = 12) (hG : m_G (m_c X σ a)) : Met l yX12_impossible (q_ws yX12_impossible cX12_impossible 2 (some .int)) (q_rm 5 112) (q_P X σ [.ref a, .int v1]) (q_Qi X 8 σ (fun (r : Int32) (σ' : ST) => (r, σ') = F_X12_impossible X σ a v1 ∧ q_ow [(12, 0), (12, 1)] [] X σ σ')) 0 0 (q_reg X) := by
  refine q_met 8 (by first | exact rfl | decide +kernel) rfl (Nat.le_of_ble_eq_true rfl) (fun p e s m below meth c E hml hr hlk hI ls hl => ?_)
  have hx := E.1
  have hb := E.2.1
  have hl : lv_has ls 2 [(0, .ref a), (1, .int v1)] := hl
  have feσ : m_c X σ a = m_c X σ a := rfl
  have fr_σ : q_ow [(12, 0), (12, 1)] [] X σ σ := q_ow.rf
  have hh := hG.hd
  obtain ⟨out, hout⟩ : ∃ o, o = F_X12_impossible X σ a v1 := ⟨_, rfl⟩
  have hF := hout.symm
  unfold F_X12_impossible at hF
  refine lv_aload_n hx hb dX12_impossible_0 rfl (lv_at hl 0 rfl) ?_
  refine lv_iconst (v := 0) hx hb dX12_impossible_1 (by decide) ?_
  refine ps_X12_59_12 E hI ha (by decide) dX12_impossible_2 (fun H locs σ_1 hσ_1 hI => ?_)
  replace hF := q_letX hF hσ_1
  have fr_σ_1 := fr_σ.si hσ_1 ha rfl
  have mv0_σ_1 : (σ_1.1 a 0).toInt = (σ.1 a 0).toInt := congrArg Int32.toInt (q_rdn hσ_1 (Or.inr (by decide)))
  have mcσ_1 := m_wo hσ_1 (m_ne ha (q_tk (f := 20) (k' := 34) hI ha rfl (by decide)) (by decide))
  have feσ_1 : m_c X σ_1 a = m_c X σ a := (funext mcσ_1).trans feσ
  refine lv_aload_n hx hb dX12_impossible_5 rfl (lv_at hl 0 rfl) ?_
  refine lv_aload_n hx hb dX12_impossible_6 rfl (lv_at hl 0 rfl) ?_
  refine lv_iload_n hx hb dX12_impossible_7 rfl (lv_at hl 1 rfl) ?_
  refine q_ci (q_runV (As := [.int v1]) (rest := [.ref a]) E (hml.trans hl.1.symm) hI (c_X12_whyNot l X σ_1 a v1 ha (by rw [feσ_1]; exact hG)) kv_X12_352 ha ⟨rfl, by decide⟩ (show vwCl[11]? = some (RX12, TX12, 46) from rfl) rfl ⟨Nat.le_of_ble_eq_true rfl, Nat.le_of_ble_eq_true rfl⟩ ⟨Nat.le_refl _, Nat.le_refl _⟩ rfl (Nat.le_of_ble_eq_true rfl) dX12_impossible_8) hI (by decide) (fun r_2 σ_3 H locs hpσ_3 hkσ_3 hI => ?_)
  obtain ⟨ahpσ_3, bhpσ_3, chpσ_3, dhpσ_3⟩ := hpσ_3
  rw [ahpσ_3] at hI
  rw [feσ_1] at chpσ_3
  replace hF := q_letX hF dhpσ_3
  refine ps_X12_62_12 E hI ha (by decide) dX12_impossible_11 (fun H locs σ_4 hσ_4 hI => ?_)
  replace hF := q_letX hF hσ_4
  have fr_σ_4 := fr_σ_1.si hσ_4 ha rfl
  have mv0_σ_4 : (σ_4.1 a 0).toInt = r_2.toInt := congrArg Int32.toInt (q_rd hσ_4)
  have mcσ_4 := m_wo hσ_4 (m_ne ha (q_tk (f := 20) (k' := 34) hI ha rfl (by decide)) (by decide))
  have feσ_4 : m_c X σ_4 a = m_c X σ a := (funext mcσ_4).trans feσ_1
  refine lv_aload_n hx hb dX12_impossible_14 rfl (lv_at hl 0 rfl) ?_
  refine gs_X12_62_12 E hI ha dX12_impossible_15 ?_
  refine lv_topi (fun f_5 ef_5 => ?_)
  replace hF := q_letX hF ef_5
  have if_5 : f_5.toInt = (σ_4.1 a 0).toInt := congrArg Int32.toInt ef_5
  refine q_if_le (A := f_5.toInt) E rfl (tgt := 23) dX12_impossible_18 (by decide) (fun c_6 => ?_) (fun c_6 => ?_)
  · skip
    replace hF := q_ifn hF (Int.not_lt.mpr c_6)
    refine lv_aload_n hx hb dX12_impossible_23 rfl (lv_at hl 0 rfl) ?_
    refine lv_iload_n hx hb dX12_impossible_24 rfl (lv_at hl 1 rfl) ?_
    refine q_ci (q_runV (As := [.int v1]) (rest := []) E (hml.trans hl.1.symm) hI (c_X12_isImpossible l X σ_4 a v1 ha (by rw [feσ_4]; exact hG) (by rw [feσ_4]; exact (by first | (clear hh mv0_σ_1 ahpσ_3 dhpσ_3; omega) | omega)) (by rw [feσ_4]; exact (by first | (clear mv0_σ_1 ahpσ_3 dhpσ_3; omega) | omega))) kv_X12_355 ha ⟨rfl, by decide⟩ (show vwCl[11]? = some (RX12, TX12, 46) from rfl) rfl ⟨Nat.le_of_ble_eq_true rfl, Nat.le_of_ble_eq_true rfl⟩ ⟨Nat.le_refl _, Nat.le_refl _⟩ rfl (Nat.le_of_ble_eq_true rfl) dX12_impossible_25) hI (by decide) (fun r_7 σ_8 H locs hpσ_8 hkσ_8 hI => ?_)
    obtain ⟨ahpσ_8, bhpσ_8, chpσ_8⟩ := hpσ_8
    rw [ahpσ_8] at hI
    replace hF := q_letX hF chpσ_8
    refine q_if_eq (A := r_7.toInt) E rfl (tgt := 35) dX12_impossible_28 (by decide) (fun c_9 => ?_) (fun c_9 => ?_)
    · skip
      replace hF := q_ifp hF c_9
      refine lv_iconst (v := 0) hx hb dX12_impossible_35 (by decide) ?_
      exact q_reti E hr hlk hI ⟨(hF.trans hout), fr_σ_4⟩ dX12_impossible_36
    · skip
      replace hF := q_ifn hF c_9
      replace c_9 := q_ifOne bhpσ_8 c_9
      refine lv_iconst (v := 1) hx hb dX12_impossible_31 (by decide) ?_
      refine lv_goto (tgt := 36) hx hb dX12_impossible_32 (by decide) ?_
      exact q_reti E hr hlk hI ⟨(hF.trans hout), fr_σ_4⟩ dX12_impossible_36
  · skip
    replace hF := q_ifp hF c_6
    refine lv_iconst (v := (-1)) hx hb dX12_impossible_21 (by decide) ?_
    exact q_reti E hr hlk hI ⟨(hF.trans hout), fr_σ_4⟩ dX12_impossible_22

set_option maxRecDepth 100000 in
set_option maxHeartbeats 4000000 in
theorem c_X12_blind (l : Launch) (X : XW) (σ : ST) (a : Nat) (v1 : Int32) (ha : q_kd X a = 12) (hG : m_G (m_c X σ a)) : Met l yX12_blind (q_ws yX12_blind cX12_blind 2 (some .boolean)) (q_rm 6 136) (q_P X σ [.ref a, .int v1]) (q_Qi X 8 σ (fun (r : Int32) (σ' : ST) => (0 ≤ r.toInt ∧ r.toInt ≤ 1) ∧ (r, σ') = F_X12_blind X σ a v1 ∧ q_ow [(12, 0), (12, 1)] [(12, 2), (12, 3), (12, 30), (12, 31)] X σ σ')) 0 0 (q_reg X) := by
  refine q_met 8 (by first | exact rfl | decide +kernel) rfl (Nat.le_of_ble_eq_true rfl) (fun p e s m below meth c E hml hr hlk hI ls hl => ?_)
  have hx := E.1
  have hb := E.2.1
  have hl : lv_has ls 2 [(0, .ref a), (1, .int v1)] := hl
  have feσ : m_c X σ a = m_c X σ a := rfl
  have fr_σ : q_ow [(12, 0), (12, 1)] [(12, 2), (12, 3), (12, 30), (12, 31)] X σ σ := q_ow.rf
  have hh := hG.hd
  obtain ⟨out, hout⟩ : ∃ o, o = F_X12_blind X σ a v1 := ⟨_, rfl⟩
  have hF := hout.symm
  unfold F_X12_blind at hF
  refine lv_aload_n hx hb dX12_blind_0 rfl (lv_at hl 0 rfl) ?_
  refine lv_iconst (v := 0) hx hb dX12_blind_1 (by decide) ?_
  refine ps_X12_59_12 E hI ha (by decide) dX12_blind_2 (fun H locs σ_1 hσ_1 hI => ?_)
  replace hF := q_letX hF hσ_1
  have fr_σ_1 := fr_σ.si hσ_1 ha rfl
  have mv0_σ_1 : (σ_1.1 a 0).toInt = (σ.1 a 0).toInt := congrArg Int32.toInt (q_rdn hσ_1 (Or.inr (by decide)))
  have mcσ_1 := m_wo hσ_1 (m_ne ha (q_tk (f := 20) (k' := 34) hI ha rfl (by decide)) (by decide))
  have feσ_1 : m_c X σ_1 a = m_c X σ a := (funext mcσ_1).trans feσ
  refine lv_aload_n hx hb dX12_blind_5 rfl (lv_at hl 0 rfl) ?_
  refine lv_aload_n hx hb dX12_blind_6 rfl (lv_at hl 0 rfl) ?_
  refine lv_iload_n hx hb dX12_blind_7 rfl (lv_at hl 1 rfl) ?_
  refine q_ci (q_runV (As := [.int v1]) (rest := [.ref a]) E (hml.trans hl.1.symm) hI (c_X12_whyNot l X σ_1 a v1 ha (by rw [feσ_1]; exact hG)) kv_X12_352 ha ⟨rfl, by decide⟩ (show vwCl[11]? = some (RX12, TX12, 46) from rfl) rfl ⟨Nat.le_of_ble_eq_true rfl, Nat.le_of_ble_eq_true rfl⟩ ⟨Nat.le_refl _, Nat.le_refl _⟩ rfl (Nat.le_of_ble_eq_true rfl) dX12_blind_8) hI (by decide) (fun r_2 σ_3 H locs hpσ_3 hkσ_3 hI => ?_)
  obtain ⟨ahpσ_3, bhpσ_3, chpσ_3, dhpσ_3⟩ := hpσ_3
  rw [ahpσ_3] at hI
  rw [feσ_1] at chpσ_3
  replace hF := q_letX hF dhpσ_3
  refine ps_X12_62_12 E hI ha (by decide) dX12_blind_11 (fun H locs σ_4 hσ_4 hI => ?_)
  replace hF := q_letX hF hσ_4
  have fr_σ_4 := fr_σ_1.si hσ_4 ha rfl
  have mv0_σ_4 : (σ_4.1 a 0).toInt = r_2.toInt := congrArg Int32.toInt (q_rd hσ_4)
  have mcσ_4 := m_wo hσ_4 (m_ne ha (q_tk (f := 20) (k' := 34) hI ha rfl (by decide)) (by decide))
  have feσ_4 : m_c X σ_4 a = m_c X σ a := (funext mcσ_4).trans feσ_1
  refine lv_aload_n hx hb dX12_blind_14 rfl (lv_at hl 0 rfl) ?_
  refine gs_X12_62_12 E hI ha dX12_blind_15 ?_
  refine lv_topi (fun f_5 ef_5 => ?_)
  replace hF := q_letX hF ef_5
  have if_5 : f_5.toInt = (σ_4.1 a 0).toInt := congrArg Int32.toInt ef_5
  refine q_if_le (A := f_5.toInt) E rfl (tgt := 23) dX12_blind_18 (by decide) (fun c_6 => ?_) (fun c_6 => ?_)
  · skip
    replace hF := q_ifn hF (Int.not_lt.mpr c_6)
    refine lv_aload_n hx hb dX12_blind_23 rfl (lv_at hl 0 rfl) ?_
    refine lv_iload_n hx hb dX12_blind_24 rfl (lv_at hl 1 rfl) ?_
    refine q_cv (q_runV (As := [.int v1]) (rest := []) E (hml.trans hl.1.symm) hI (c_X12_blinds l X σ_4 a v1 ha (by rw [feσ_4]; exact hG) (by rw [feσ_4]; exact (by omega)) (by rw [feσ_4]; exact (by first | (clear mv0_σ_1 ahpσ_3 dhpσ_3; omega) | omega)) (by rw [feσ_4]; exact (by first | (clear hh mv0_σ_1 ahpσ_3 dhpσ_3; omega) | omega))) kv_X12_358 ha ⟨rfl, by decide⟩ (show vwCl[11]? = some (RX12, TX12, 46) from rfl) rfl ⟨Nat.le_of_ble_eq_true rfl, Nat.le_of_ble_eq_true rfl⟩ ⟨Nat.le_refl _, Nat.le_refl _⟩ rfl (Nat.le_of_ble_eq_true rfl) dX12_blind_25) hI (by decide) (fun σ_8 H locs hpσ_8 hkσ_8 hI => ?_)
    obtain ⟨ahpσ_8, bhpσ_8, chpσ_8⟩ := hpσ_8
    have fr_σ_8 := fr_σ_4.call chpσ_8 rfl rfl
    replace hF := q_letX hF bhpσ_8
    have mcσ_8 := m_cK hkσ_8 hI.1 ha (by decide)
    have feσ_8 : m_c X σ_8 a = m_c X σ a := (funext mcσ_8).trans feσ_4
    refine lv_aload_n hx hb dX12_blind_28 rfl (lv_at hl 0 rfl) ?_
    refine lv_aload_n hx hb dX12_blind_29 rfl (lv_at hl 0 rfl) ?_
    refine gs_X12_346_12 E hI ha dX12_blind_30 ?_
    refine lv_topl (fun g_9 eg_9 => ?_)
    replace hF := q_letX hF eg_9
    have ig_9 : g_9.toInt = (σ_8.2.1 a 30).toInt := congrArg Int64.toInt eg_9
    refine lv_aload_n hx hb dX12_blind_33 rfl (lv_at hl 0 rfl) ?_
    refine gs_X12_349_12 E hI ha dX12_blind_34 ?_
    refine lv_topl (fun g_10 eg_10 => ?_)
    replace hF := q_letX hF eg_10
    have ig_10 : g_10.toInt = (σ_8.2.1 a 31).toInt := congrArg Int64.toInt eg_10
    refine q_ci (q_runV (As := [.long g_9, .long g_10]) (rest := []) E (hml.trans hl.1.symm) hI (c_X12_fraction l X σ_8 a g_9 g_10 ha (by first | (clear hh mv0_σ_1 ahpσ_3 bhpσ_3 chpσ_3 dhpσ_3 mv0_σ_4 if_5 c_6 bhpσ_8 chpσ_8 ig_9; omega) | omega)) kv_X12_361 ha ⟨rfl, by decide⟩ (show vwCl[11]? = some (RX12, TX12, 46) from rfl) rfl ⟨Nat.le_of_ble_eq_true rfl, Nat.le_of_ble_eq_true rfl⟩ ⟨Nat.le_refl _, Nat.le_refl _⟩ rfl (Nat.le_of_ble_eq_true rfl) dX12_blind_37) hI (by decide) (fun r_11 σ_12 H locs hpσ_12 hkσ_12 hI => ?_)
    obtain ⟨ahpσ_12, bhpσ_12, chpσ_12⟩ := hpσ_12
    have fr_σ_12 := fr_σ_8.call chpσ_12 rfl rfl
    replace hF := q_biX hF bhpσ_12
    have mcσ_12 := m_cK hkσ_12 hI.1 ha (by decide)
    have feσ_12 : m_c X σ_12 a = m_c X σ a := (funext mcσ_12).trans feσ_8
    exact q_retz E hr hlk hI ⟨by omega, by omega⟩ ⟨⟨by omega, by omega⟩, (hF.trans hout), fr_σ_12⟩ dX12_blind_40
  · skip
    replace hF := q_ifp hF c_6
    refine lv_iconst (v := 0) hx hb dX12_blind_21 (by decide) ?_
    have hrv : (0 : Int32).toInt = 0 := rfl
    exact q_retz E hr hlk hI ⟨by decide, by decide⟩ ⟨⟨by decide, by decide⟩, (hF.trans hout), fr_σ_4⟩ dX12_blind_22

set_option maxRecDepth 100000 in
set_option maxHeartbeats 4000000 in
theorem c_X12_honest (l : Launch) (X : XW) (σ : ST) (a : Nat) (v1 : Int32) (n : Int) (ha : q_kd X a = 12) (hG : m_G (m_c X σ a)) (hW : m_W (m_c X σ a) n) (hn : n ≤ 200000) : Met l yX12_honest (q_ws yX12_honest cX12_honest 2 (some .boolean)) (q_rm 2 51) (q_P X σ [.ref a, .int v1]) (q_Qi X 8 σ (fun (r : Int32) (σ' : ST) => (0 ≤ r.toInt ∧ r.toInt ≤ 1) ∧ (r, σ') = F_X12_honest X σ a v1 ∧ q_ow [(12, 0), (12, 1)] [(12, 2), (12, 3)] X σ σ')) 0 0 (q_reg X) := by
  refine q_met 8 (by first | exact rfl | decide +kernel) rfl (Nat.le_of_ble_eq_true rfl) (fun p e s m below meth c E hml hr hlk hI ls hl => ?_)
  have hx := E.1
  have hb := E.2.1
  have hl : lv_has ls 2 [(0, .ref a), (1, .int v1)] := hl
  have feσ : m_c X σ a = m_c X σ a := rfl
  have fr_σ : q_ow [(12, 0), (12, 1)] [(12, 2), (12, 3)] X σ σ := q_ow.rf
  have hh := hG.hd
  obtain ⟨out, hout⟩ : ∃ o, o = F_X12_honest X σ a v1 := ⟨_, rfl⟩
  have hF := hout.symm
  unfold F_X12_honest at hF
  refine lv_aload_n hx hb dX12_honest_0 rfl (lv_at hl 0 rfl) ?_
  refine lv_iconst (v := 0) hx hb dX12_honest_1 (by decide) ?_
  refine ps_X12_59_12 E hI ha (by decide) dX12_honest_2 (fun H locs σ_1 hσ_1 hI => ?_)
  replace hF := q_letX hF hσ_1
  have fr_σ_1 := fr_σ.si hσ_1 ha rfl
  have mcσ_1 := m_wo hσ_1 (m_ne ha (q_tk (f := 20) (k' := 34) hI ha rfl (by decide)) (by decide))
  have feσ_1 : m_c X σ_1 a = m_c X σ a := (funext mcσ_1).trans feσ
  refine lv_aload_n hx hb dX12_honest_5 rfl (lv_at hl 0 rfl) ?_
  refine lv_iconst (v := 0) hx hb dX12_honest_6 (by decide) ?_
  refine ps_X12_62_12 E hI ha (by decide) dX12_honest_7 (fun H locs σ_2 hσ_2 hI => ?_)
  replace hF := q_letX hF hσ_2
  have fr_σ_2 := fr_σ_1.si hσ_2 ha rfl
  have mcσ_2 := m_wo hσ_2 (m_ne ha (q_tk (f := 20) (k' := 34) hI ha rfl (by decide)) (by decide))
  have feσ_2 : m_c X σ_2 a = m_c X σ a := (funext mcσ_2).trans feσ_1
  refine lv_aload_n hx hb dX12_honest_10 rfl (lv_at hl 0 rfl) ?_
  refine lv_iload_n hx hb dX12_honest_11 rfl (lv_at hl 1 rfl) ?_
  refine q_ci (q_runV (As := [.int v1]) (rest := []) E (hml.trans hl.1.symm) hI (c_X12_isPlayerAt l X σ_2 a v1 ha (by rw [feσ_2]; exact hG)) kv_X12_290 ha ⟨rfl, by decide⟩ (show vwCl[11]? = some (RX12, TX12, 46) from rfl) rfl ⟨Nat.le_of_ble_eq_true rfl, Nat.le_of_ble_eq_true rfl⟩ ⟨Nat.le_refl _, Nat.le_refl _⟩ rfl (Nat.le_of_ble_eq_true rfl) dX12_honest_12) hI (by decide) (fun r_3 σ_4 H locs hpσ_4 hkσ_4 hI => ?_)
  obtain ⟨ahpσ_4, bhpσ_4, chpσ_4, dhpσ_4⟩ := hpσ_4
  rw [ahpσ_4] at hI
  rw [feσ_2] at chpσ_4
  replace hF := q_letX hF dhpσ_4
  refine q_if_ne (A := r_3.toInt) E rfl (tgt := 24) dX12_honest_15 (by decide) (fun c_5 => ?_) (fun c_5 => ?_)
  · skip
    replace hF := q_ifn hF c_5
    replace c_5 := q_ifOne bhpσ_4 c_5
    replace chpσ_4 := q_ifYes chpσ_4 c_5
    have hw := hW v1.toInt (by first | (clear hn hh ahpσ_4 bhpσ_4 dhpσ_4 c_5; omega) | omega) (by first | (clear hn ahpσ_4 bhpσ_4 dhpσ_4 c_5; omega) | omega)
    refine lv_aload_n hx hb dX12_honest_24 rfl (lv_at hl 0 rfl) ?_
    refine lv_aload_n hx hb dX12_honest_25 rfl (lv_at hl 0 rfl) ?_
    refine gs_X12_35_12 E hI ha dX12_honest_26 ?_
    refine lv_bipush (v := 22) hx hb dX12_honest_29 (by decide) ?_
    refine lv_iload_n hx hb dX12_honest_31 rfl (lv_at hl 1 rfl) ?_
    refine lv_iadd hx hb dX12_honest_32 ?_
    refine lv_topi (fun z_6 ez_6 => ?_)
    replace hF := q_letX hF ez_6
    have iz_6 := q_addI (A := 22) (B := v1.toInt) ez_6 (by decide) rfl (by first | (clear hn hh ahpσ_4 bhpσ_4 dhpσ_4 c_5 hw; omega) | omega) (by first | (clear hn ahpσ_4 bhpσ_4 dhpσ_4 c_5 hw; omega) | omega)
    refine q_iald E hI (q_tk (k' := 34) hI ha rfl (by decide)) ⟨by decide, rfl⟩ (by first | (clear hn hh ahpσ_4 bhpσ_4 dhpσ_4 c_5 hw; omega) | omega) (by rw [q_lnk (v := 4650) hI (q_tk (k' := 34) hI ha rfl (by decide)) rfl (by decide)]; omega) dX12_honest_33 ?_
    refine lv_topi (fun f_7 ef_7 => ?_)
    replace hF := q_letX hF ef_7
    have if_7 : f_7.toInt = m_c X σ a (22 + v1.toInt) := (m_rd ef_7 iz_6).trans (congrFun feσ_2 _)
    refine lv_aload_n hx hb dX12_honest_34 rfl (lv_at hl 0 rfl) ?_
    refine gs_X12_35_12 E hI ha dX12_honest_35 ?_
    refine lv_bipush (v := 28) hx hb dX12_honest_38 (by decide) ?_
    refine lv_iload_n hx hb dX12_honest_40 rfl (lv_at hl 1 rfl) ?_
    refine lv_iadd hx hb dX12_honest_41 ?_
    refine lv_topi (fun z_8 ez_8 => ?_)
    replace hF := q_letX hF ez_8
    have iz_8 := q_addI (A := 28) (B := v1.toInt) ez_8 (by decide) rfl (by first | (clear hn hh ahpσ_4 bhpσ_4 dhpσ_4 c_5 hw if_7; omega) | omega) (by first | (clear hn ahpσ_4 bhpσ_4 dhpσ_4 c_5 hw if_7; omega) | omega)
    refine q_iald E hI (q_tk (k' := 34) hI ha rfl (by decide)) ⟨by decide, rfl⟩ (by first | (clear hn hh ahpσ_4 bhpσ_4 dhpσ_4 c_5 hw if_7; omega) | omega) (by rw [q_lnk (v := 4650) hI (q_tk (k' := 34) hI ha rfl (by decide)) rfl (by decide)]; omega) dX12_honest_42 ?_
    refine lv_topi (fun f_9 ef_9 => ?_)
    replace hF := q_letX hF ef_9
    have if_9 : f_9.toInt = m_c X σ a (28 + v1.toInt) := (m_rd ef_9 iz_8).trans (congrFun feσ_2 _)
    refine lv_isub hx hb dX12_honest_43 ?_
    refine lv_topi (fun z_10 ez_10 => ?_)
    replace hF := q_letX hF ez_10
    have iz_10 := q_subI (A := (m_c X σ a (22 + v1.toInt))) (B := (m_c X σ a (28 + v1.toInt))) ez_10 if_7 if_9 (by first | (clear hn hh ahpσ_4 bhpσ_4 dhpσ_4 c_5 chpσ_4 iz_6 iz_8; omega) | omega) (by first | (clear hh ahpσ_4 bhpσ_4 dhpσ_4 c_5 chpσ_4 iz_6 iz_8; omega) | omega)
    refine lv_iconst (v := 1) hx hb dX12_honest_44 (by decide) ?_
    refine lv_iadd hx hb dX12_honest_45 ?_
    refine lv_topi (fun z_11 ez_11 => ?_)
    replace hF := q_letX hF ez_11
    have iz_11 := q_addI (A := ((m_c X σ a (22 + v1.toInt)) - (m_c X σ a (28 + v1.toInt)))) (B := 1) ez_11 iz_10 (by decide) (by first | (clear hn hh ahpσ_4 bhpσ_4 dhpσ_4 c_5 chpσ_4 iz_6 iz_8; omega) | omega) (by first | (clear hh ahpσ_4 bhpσ_4 dhpσ_4 c_5 chpσ_4 iz_6 iz_8; omega) | omega)
    refine lv_i2l hx hb dX12_honest_46 rfl ?_
    refine lv_topl (fun y_12 ey_12 => ?_)
    replace hF := q_letX hF ey_12
    have ggy_12 := q_rng z_11
    have iy_12 : y_12.toInt = z_11.toInt := by rw [ey_12]; exact (q_i2l _).trans rfl
    refine lv_aload_n hx hb dX12_honest_47 rfl (lv_at hl 0 rfl) ?_
    refine gs_X12_35_12 E hI ha dX12_honest_48 ?_
    refine lv_bipush (v := 22) hx hb dX12_honest_51 (by decide) ?_
    refine lv_iload_n hx hb dX12_honest_53 rfl (lv_at hl 1 rfl) ?_
    refine lv_iadd hx hb dX12_honest_54 ?_
    refine lv_topi (fun z_13 ez_13 => ?_)
    replace hF := q_letX hF ez_13
    have iz_13 := q_addI (A := 22) (B := v1.toInt) ez_13 (by decide) rfl (by first | (clear hn hh ahpσ_4 bhpσ_4 dhpσ_4 c_5 hw if_7 if_9 iz_10 iz_11 ggy_12 iy_12; omega) | omega) (by first | (clear hn ahpσ_4 bhpσ_4 dhpσ_4 c_5 hw if_7 if_9 iz_10 iz_11 ggy_12 iy_12; omega) | omega)
    refine q_iald E hI (q_tk (k' := 34) hI ha rfl (by decide)) ⟨by decide, rfl⟩ (by first | (clear hn hh ahpσ_4 bhpσ_4 dhpσ_4 c_5 hw if_7 if_9 iz_10 iz_11 ggy_12 iy_12; omega) | omega) (by rw [q_lnk (v := 4650) hI (q_tk (k' := 34) hI ha rfl (by decide)) rfl (by decide)]; omega) dX12_honest_55 ?_
    refine lv_topi (fun f_14 ef_14 => ?_)
    replace hF := q_letX hF ef_14
    have if_14 : f_14.toInt = m_c X σ a (22 + v1.toInt) := (m_rd ef_14 iz_13).trans (congrFun feσ_2 _)
    refine lv_iconst (v := 2) hx hb dX12_honest_56 (by decide) ?_
    refine lv_iadd hx hb dX12_honest_57 ?_
    refine lv_topi (fun z_15 ez_15 => ?_)
    replace hF := q_letX hF ez_15
    have iz_15 := q_addI (A := (m_c X σ a (22 + v1.toInt))) (B := 2) ez_15 if_14 (by decide) (by first | (clear hn hh ahpσ_4 bhpσ_4 dhpσ_4 c_5 chpσ_4 iz_6 iz_8 iz_13; omega) | omega) (by first | (clear hh ahpσ_4 bhpσ_4 dhpσ_4 c_5 chpσ_4 iz_6 iz_8 ggy_12 iz_13; omega) | omega)
    refine lv_i2l hx hb dX12_honest_58 rfl ?_
    refine lv_topl (fun y_16 ey_16 => ?_)
    replace hF := q_letX hF ey_16
    have ggy_16 := q_rng z_15
    have iy_16 : y_16.toInt = z_15.toInt := by rw [ey_16]; exact (q_i2l _).trans rfl
    refine q_ci (q_runV (As := [.long y_12, .long y_16]) (rest := []) E (hml.trans hl.1.symm) hI (c_X12_fraction l X σ_2 a y_12 y_16 ha (by first | (clear hn hh ahpσ_4 bhpσ_4 dhpσ_4 c_5 chpσ_4 iz_6 iz_8 iz_13 if_14 iz_15 ggy_16 iy_16; omega) | omega)) kv_X12_361 ha ⟨rfl, by decide⟩ (show vwCl[11]? = some (RX12, TX12, 46) from rfl) rfl ⟨Nat.le_of_ble_eq_true rfl, Nat.le_of_ble_eq_true rfl⟩ ⟨Nat.le_refl _, Nat.le_refl _⟩ rfl (Nat.le_of_ble_eq_true rfl) dX12_honest_59) hI (by decide) (fun r_17 σ_18 H locs hpσ_18 hkσ_18 hI => ?_)
    obtain ⟨ahpσ_18, bhpσ_18, chpσ_18⟩ := hpσ_18
    have fr_σ_18 := fr_σ_2.call chpσ_18 rfl rfl
    replace hF := q_biX hF bhpσ_18
    have mcσ_18 := m_cK hkσ_18 hI.1 ha (by decide)
    have feσ_18 : m_c X σ_18 a = m_c X σ a := (funext mcσ_18).trans feσ_2
    exact q_retz E hr hlk hI ⟨by omega, by omega⟩ ⟨⟨by omega, by omega⟩, (hF.trans hout), fr_σ_18⟩ dX12_honest_62
  · skip
    replace hF := q_ifp hF c_5
    replace chpσ_4 := q_ifNo chpσ_4 c_5
    refine lv_aload_n hx hb dX12_honest_18 rfl (lv_at hl 0 rfl) ?_
    refine lv_iconst (v := 2) hx hb dX12_honest_19 (by decide) ?_
    have kc_19 : (2 : Int32).toInt = 2 := rfl
    refine q_ci (q_runV (As := [.int 2]) (rest := []) E (hml.trans hl.1.symm) hI (c_X12_no l X σ_2 a (2 : Int32) ha) kv_X12_74 ha ⟨rfl, by decide⟩ (show vwCl[11]? = some (RX12, TX12, 46) from rfl) rfl ⟨Nat.le_of_ble_eq_true rfl, Nat.le_of_ble_eq_true rfl⟩ ⟨Nat.le_refl _, Nat.le_refl _⟩ rfl (Nat.le_of_ble_eq_true rfl) dX12_honest_20) hI (by decide) (fun r_20 σ_21 H locs hpσ_21 hkσ_21 hI => ?_)
    obtain ⟨ahpσ_21, bhpσ_21, chpσ_21, dhpσ_21⟩ := hpσ_21
    have fr_σ_21 := fr_σ_2.call dhpσ_21 rfl rfl
    replace hF := q_biX hF chpσ_21
    have mcσ_21 := m_cK hkσ_21 hI.1 ha (by decide)
    have feσ_21 : m_c X σ_21 a = m_c X σ a := (funext mcσ_21).trans feσ_2
    exact q_retz E hr hlk hI ⟨by omega, by omega⟩ ⟨⟨by omega, by omega⟩, (hF.trans hout), fr_σ_21⟩ dX12_honest_23

set_option maxRecDepth 100000 in
set_option maxHeartbeats 4000000 in
theorem c_X12_belief (l : Launch) (X : XW) (σ : ST) (a : Nat) (v1 : Int32) (n : Int) (ha : q_kd X a = 12) (hG : m_G (m_c X σ a)) (hW : m_W (m_c X σ a) n) (hn : n ≤ 200000) : Met l yX12_belief (q_ws yX12_belief cX12_belief 7 (some .boolean)) (q_rm 6 136) (q_P X σ [.ref a, .int v1]) (q_Qi X 8 σ (fun (r : Int32) (σ' : ST) => (0 ≤ r.toInt ∧ r.toInt ≤ 1) ∧ (r, σ') = F_X12_belief X σ a v1 ∧ q_ow [(12, 0), (12, 1)] [(12, 2), (12, 3), (12, 30), (12, 31)] X σ σ')) 0 0 (q_reg X) := by
  refine q_met 8 (by first | exact rfl | decide +kernel) rfl (Nat.le_of_ble_eq_true rfl) (fun p e s m below meth c E hml hr hlk hI ls hl => ?_)
  have hx := E.1
  have hb := E.2.1
  have hl : lv_has ls 7 [(0, .ref a), (1, .int v1)] := hl
  have feσ : m_c X σ a = m_c X σ a := rfl
  have fr_σ : q_ow [(12, 0), (12, 1)] [(12, 2), (12, 3), (12, 30), (12, 31)] X σ σ := q_ow.rf
  have hh := hG.hd
  obtain ⟨out, hout⟩ : ∃ o, o = F_X12_belief X σ a v1 := ⟨_, rfl⟩
  have hF := hout.symm
  unfold F_X12_belief at hF
  refine lv_aload_n hx hb dX12_belief_0 rfl (lv_at hl 0 rfl) ?_
  refine lv_iconst (v := 0) hx hb dX12_belief_1 (by decide) ?_
  refine ps_X12_59_12 E hI ha (by decide) dX12_belief_2 (fun H locs σ_1 hσ_1 hI => ?_)
  replace hF := q_letX hF hσ_1
  have fr_σ_1 := fr_σ.si hσ_1 ha rfl
  have mv0_σ_1 : (σ_1.1 a 0).toInt = (σ.1 a 0).toInt := congrArg Int32.toInt (q_rdn hσ_1 (Or.inr (by decide)))
  have mcσ_1 := m_wo hσ_1 (m_ne ha (q_tk (f := 20) (k' := 34) hI ha rfl (by decide)) (by decide))
  have feσ_1 : m_c X σ_1 a = m_c X σ a := (funext mcσ_1).trans feσ
  refine lv_aload_n hx hb dX12_belief_5 rfl (lv_at hl 0 rfl) ?_
  refine lv_aload_n hx hb dX12_belief_6 rfl (lv_at hl 0 rfl) ?_
  refine lv_iload_n hx hb dX12_belief_7 rfl (lv_at hl 1 rfl) ?_
  refine q_ci (q_runV (As := [.int v1]) (rest := [.ref a]) E (hml.trans hl.1.symm) hI (c_X12_whyNot l X σ_1 a v1 ha (by rw [feσ_1]; exact hG)) kv_X12_352 ha ⟨rfl, by decide⟩ (show vwCl[11]? = some (RX12, TX12, 46) from rfl) rfl ⟨Nat.le_of_ble_eq_true rfl, Nat.le_of_ble_eq_true rfl⟩ ⟨Nat.le_refl _, Nat.le_refl _⟩ rfl (Nat.le_of_ble_eq_true rfl) dX12_belief_8) hI (by decide) (fun r_2 σ_3 H locs hpσ_3 hkσ_3 hI => ?_)
  obtain ⟨ahpσ_3, bhpσ_3, chpσ_3, dhpσ_3⟩ := hpσ_3
  rw [ahpσ_3] at hI
  rw [feσ_1] at chpσ_3
  replace hF := q_letX hF dhpσ_3
  refine ps_X12_62_12 E hI ha (by decide) dX12_belief_11 (fun H locs σ_4 hσ_4 hI => ?_)
  replace hF := q_letX hF hσ_4
  have fr_σ_4 := fr_σ_1.si hσ_4 ha rfl
  have mv0_σ_4 : (σ_4.1 a 0).toInt = r_2.toInt := congrArg Int32.toInt (q_rd hσ_4)
  have mcσ_4 := m_wo hσ_4 (m_ne ha (q_tk (f := 20) (k' := 34) hI ha rfl (by decide)) (by decide))
  have feσ_4 : m_c X σ_4 a = m_c X σ a := (funext mcσ_4).trans feσ_1
  refine lv_aload_n hx hb dX12_belief_14 rfl (lv_at hl 0 rfl) ?_
  refine gs_X12_62_12 E hI ha dX12_belief_15 ?_
  refine lv_topi (fun f_5 ef_5 => ?_)
  replace hF := q_letX hF ef_5
  have if_5 : f_5.toInt = (σ_4.1 a 0).toInt := congrArg Int32.toInt ef_5
  refine q_if_le (A := f_5.toInt) E rfl (tgt := 23) dX12_belief_18 (by decide) (fun c_6 => ?_) (fun c_6 => ?_)
  · skip
    replace hF := q_ifn hF (Int.not_lt.mpr c_6)
    refine lv_aload_n hx hb dX12_belief_23 rfl (lv_at hl 0 rfl) ?_
    refine lv_iload_n hx hb dX12_belief_24 rfl (lv_at hl 1 rfl) ?_
    refine q_cv (q_runV (As := [.int v1]) (rest := []) E (hml.trans hl.1.symm) hI (c_X12_blinds l X σ_4 a v1 ha (by rw [feσ_4]; exact hG) (by rw [feσ_4]; exact (by first | (clear hn hh mv0_σ_1 ahpσ_3 dhpσ_3; omega) | omega)) (by rw [feσ_4]; exact (by first | (clear hn mv0_σ_1 ahpσ_3 dhpσ_3; omega) | omega)) (by rw [feσ_4]; exact (by first | (clear hn hh mv0_σ_1 ahpσ_3 dhpσ_3; omega) | omega))) kv_X12_358 ha ⟨rfl, by decide⟩ (show vwCl[11]? = some (RX12, TX12, 46) from rfl) rfl ⟨Nat.le_of_ble_eq_true rfl, Nat.le_of_ble_eq_true rfl⟩ ⟨Nat.le_refl _, Nat.le_refl _⟩ rfl (Nat.le_of_ble_eq_true rfl) dX12_belief_25) hI (by decide) (fun σ_8 H locs hpσ_8 hkσ_8 hI => ?_)
    obtain ⟨ahpσ_8, bhpσ_8, chpσ_8⟩ := hpσ_8
    have fr_σ_8 := fr_σ_4.call chpσ_8 rfl rfl
    replace hF := q_letX hF bhpσ_8
    have mcσ_8 := m_cK hkσ_8 hI.1 ha (by decide)
    have feσ_8 : m_c X σ_8 a = m_c X σ a := (funext mcσ_8).trans feσ_4
    have hw := hW (m_c X σ a 6) (by first | (clear hn mv0_σ_1 ahpσ_3 dhpσ_3 ahpσ_8 bhpσ_8 chpσ_8; omega) | omega) (by first | (clear hn mv0_σ_1 ahpσ_3 bhpσ_3 chpσ_3 dhpσ_3 mv0_σ_4 if_5 c_6 ahpσ_8 bhpσ_8 chpσ_8; omega) | omega)
    refine lv_aload_n hx hb dX12_belief_28 rfl (lv_at hl 0 rfl) ?_
    refine gs_X12_35_12 E hI ha dX12_belief_29 ?_
    refine lv_bipush (v := 6) hx hb dX12_belief_32 (by decide) ?_
    refine q_iald E hI (q_tk (k' := 34) hI ha rfl (by decide)) ⟨by decide, rfl⟩ (by decide) (by rw [q_lnk (v := 4650) hI (q_tk (k' := 34) hI ha rfl (by decide)) rfl (by decide)]; decide) dX12_belief_34 ?_
    refine lv_topi (fun f_9 ef_9 => ?_)
    replace hF := q_letX hF ef_9
    have if_9 : f_9.toInt = m_c X σ a 6 := (m_rd ef_9 (by decide)).trans (congrFun feσ_8 _)
    refine lv_istore_n (lv' := [(2, .int f_9), (0, .ref a), (1, .int v1)]) hx hb dX12_belief_35 rfl hl (by decide) rfl (fun ls hl => ?_)
    refine lv_aload_n hx hb dX12_belief_36 rfl (lv_at hl 1 rfl) ?_
    refine gs_X12_346_12 E hI ha dX12_belief_37 ?_
    refine lv_topl (fun g_10 eg_10 => ?_)
    replace hF := q_letX hF eg_10
    have ig_10 : g_10.toInt = (σ_8.2.1 a 30).toInt := congrArg Int64.toInt eg_10
    refine lv_aload_n hx hb dX12_belief_40 rfl (lv_at hl 1 rfl) ?_
    refine gs_X12_35_12 E hI ha dX12_belief_41 ?_
    refine lv_bipush (v := 22) hx hb dX12_belief_44 (by decide) ?_
    refine lv_iload_n hx hb dX12_belief_46 rfl (lv_at hl 0 rfl) ?_
    refine lv_iadd hx hb dX12_belief_47 ?_
    refine lv_topi (fun z_11 ez_11 => ?_)
    replace hF := q_letX hF ez_11
    have iz_11 := q_addI (A := 22) (B := (m_c X σ a 6)) ez_11 (by decide) if_9 (by first | (clear hn mv0_σ_1 ahpσ_3 bhpσ_3 chpσ_3 dhpσ_3 mv0_σ_4 if_5 c_6 ahpσ_8 bhpσ_8 chpσ_8 hw ig_10; omega) | omega) (by first | (clear hn mv0_σ_1 ahpσ_3 bhpσ_3 chpσ_3 dhpσ_3 mv0_σ_4 if_5 c_6 ahpσ_8 bhpσ_8 chpσ_8 hw ig_10; omega) | omega)
    refine q_iald E hI (q_tk (k' := 34) hI ha rfl (by decide)) ⟨by decide, rfl⟩ (by first | (clear hn mv0_σ_1 ahpσ_3 bhpσ_3 chpσ_3 dhpσ_3 mv0_σ_4 if_5 c_6 ahpσ_8 bhpσ_8 chpσ_8 hw ig_10; omega) | omega) (by rw [q_lnk (v := 4650) hI (q_tk (k' := 34) hI ha rfl (by decide)) rfl (by decide)]; omega) dX12_belief_48 ?_
    refine lv_topi (fun f_12 ef_12 => ?_)
    replace hF := q_letX hF ef_12
    have if_12 : f_12.toInt = m_c X σ a (22 + (m_c X σ a 6)) := (m_rd ef_12 iz_11).trans (congrFun feσ_8 _)
    refine lv_aload_n hx hb dX12_belief_49 rfl (lv_at hl 1 rfl) ?_
    refine gs_X12_35_12 E hI ha dX12_belief_50 ?_
    refine lv_bipush (v := 28) hx hb dX12_belief_53 (by decide) ?_
    refine lv_iload_n hx hb dX12_belief_55 rfl (lv_at hl 0 rfl) ?_
    refine lv_iadd hx hb dX12_belief_56 ?_
    refine lv_topi (fun z_13 ez_13 => ?_)
    replace hF := q_letX hF ez_13
    have iz_13 := q_addI (A := 28) (B := (m_c X σ a 6)) ez_13 (by decide) if_9 (by first | (clear hn mv0_σ_1 ahpσ_3 bhpσ_3 chpσ_3 dhpσ_3 mv0_σ_4 if_5 c_6 ahpσ_8 bhpσ_8 chpσ_8 hw ig_10 if_12; omega) | omega) (by first | (clear hn mv0_σ_1 ahpσ_3 bhpσ_3 chpσ_3 dhpσ_3 mv0_σ_4 if_5 c_6 ahpσ_8 bhpσ_8 chpσ_8 hw ig_10 if_12; omega) | omega)
    refine q_iald E hI (q_tk (k' := 34) hI ha rfl (by decide)) ⟨by decide, rfl⟩ (by first | (clear hn mv0_σ_1 ahpσ_3 bhpσ_3 chpσ_3 dhpσ_3 mv0_σ_4 if_5 c_6 ahpσ_8 bhpσ_8 chpσ_8 hw ig_10 if_12; omega) | omega) (by rw [q_lnk (v := 4650) hI (q_tk (k' := 34) hI ha rfl (by decide)) rfl (by decide)]; omega) dX12_belief_57 ?_
    refine lv_topi (fun f_14 ef_14 => ?_)
    replace hF := q_letX hF ef_14
    have if_14 : f_14.toInt = m_c X σ a (28 + (m_c X σ a 6)) := (m_rd ef_14 iz_13).trans (congrFun feσ_8 _)
    refine lv_isub hx hb dX12_belief_58 ?_
    refine lv_topi (fun z_15 ez_15 => ?_)
    replace hF := q_letX hF ez_15
    have iz_15 := q_subI (A := (m_c X σ a (22 + (m_c X σ a 6)))) (B := (m_c X σ a (28 + (m_c X σ a 6)))) ez_15 if_12 if_14 (by first | (clear hn hh mv0_σ_1 ahpσ_3 bhpσ_3 chpσ_3 dhpσ_3 mv0_σ_4 if_5 c_6 ahpσ_8 bhpσ_8 chpσ_8 if_9 ig_10 iz_11 iz_13; omega) | omega) (by first | (clear hh mv0_σ_1 ahpσ_3 bhpσ_3 chpσ_3 dhpσ_3 mv0_σ_4 if_5 c_6 ahpσ_8 bhpσ_8 chpσ_8 if_9 ig_10 iz_11 iz_13; omega) | omega)
    refine lv_iconst (v := 1) hx hb dX12_belief_59 (by decide) ?_
    refine lv_iadd hx hb dX12_belief_60 ?_
    refine lv_topi (fun z_16 ez_16 => ?_)
    replace hF := q_letX hF ez_16
    have iz_16 := q_addI (A := ((m_c X σ a (22 + (m_c X σ a 6))) - (m_c X σ a (28 + (m_c X σ a 6))))) (B := 1) ez_16 iz_15 (by decide) (by first | (clear hn hh mv0_σ_1 ahpσ_3 bhpσ_3 chpσ_3 dhpσ_3 mv0_σ_4 if_5 c_6 ahpσ_8 bhpσ_8 chpσ_8 if_9 ig_10 iz_11 iz_13; omega) | omega) (by first | (clear hh mv0_σ_1 ahpσ_3 bhpσ_3 chpσ_3 dhpσ_3 mv0_σ_4 if_5 c_6 ahpσ_8 bhpσ_8 chpσ_8 if_9 ig_10 iz_11 iz_13; omega) | omega)
    refine lv_i2l hx hb dX12_belief_61 rfl ?_
    refine lv_topl (fun y_17 ey_17 => ?_)
    replace hF := q_letX hF ey_17
    have ggy_17 := q_rng z_16
    have iy_17 : y_17.toInt = z_16.toInt := by rw [ey_17]; exact (q_i2l _).trans rfl
    have mb := m_mulS (a := g_10.toInt) (A := 409600000000) (b := y_17.toInt) (B := 200001) (by first | (clear hn hh mv0_σ_1 ahpσ_3 bhpσ_3 chpσ_3 dhpσ_3 mv0_σ_4 if_5 c_6 bhpσ_8 chpσ_8 hw if_9 iz_11 if_12 iz_13 if_14 iz_15 iz_16 ggy_17 iy_17; omega) | omega) (by first | (clear hn hh mv0_σ_1 ahpσ_3 bhpσ_3 chpσ_3 dhpσ_3 mv0_σ_4 if_5 c_6 bhpσ_8 chpσ_8 hw if_9 iz_11 if_12 iz_13 if_14 iz_15 iz_16 ggy_17 iy_17; omega) | omega) (by first | (clear hn hh mv0_σ_1 ahpσ_3 bhpσ_3 chpσ_3 dhpσ_3 mv0_σ_4 if_5 c_6 ahpσ_8 bhpσ_8 chpσ_8 if_9 ig_10 iz_11 iz_13; omega) | omega) (by first | (clear hh mv0_σ_1 ahpσ_3 bhpσ_3 chpσ_3 dhpσ_3 mv0_σ_4 if_5 c_6 ahpσ_8 bhpσ_8 chpσ_8 if_9 ig_10 iz_11 iz_13; omega) | omega)
    refine lv_lmul hx hb dX12_belief_62 ?_
    refine lv_topl (fun y_18 ey_18 => ?_)
    replace hF := q_letX hF ey_18
    have iy_18 := q_mulJ (A := g_10.toInt) (B := y_17.toInt) ey_18 rfl rfl (by first | (clear hn hh mv0_σ_1 ahpσ_3 bhpσ_3 chpσ_3 dhpσ_3 mv0_σ_4 if_5 c_6 ahpσ_8 bhpσ_8 chpσ_8 hw if_9 ig_10 iz_11 if_12 iz_13 if_14 iz_15 iz_16 ggy_17 iy_17; omega) | omega) (by first | (clear hn hh mv0_σ_1 ahpσ_3 bhpσ_3 chpσ_3 dhpσ_3 mv0_σ_4 if_5 c_6 ahpσ_8 bhpσ_8 chpσ_8 hw if_9 ig_10 iz_11 if_12 iz_13 if_14 iz_15 iz_16 ggy_17 iy_17; omega) | omega)
    refine lv_lstore_n (lv' := [(3, .long y_18), (2, .int f_9), (0, .ref a), (1, .int v1)]) hx hb dX12_belief_63 rfl hl (by decide) rfl (fun ls hl => ?_)
    refine lv_aload_n hx hb dX12_belief_64 rfl (lv_at hl 2 rfl) ?_
    refine gs_X12_349_12 E hI ha dX12_belief_65 ?_
    refine lv_topl (fun g_19 eg_19 => ?_)
    replace hF := q_letX hF eg_19
    have ig_19 : g_19.toInt = (σ_8.2.1 a 31).toInt := congrArg Int64.toInt eg_19
    refine lv_aload_n hx hb dX12_belief_68 rfl (lv_at hl 2 rfl) ?_
    refine gs_X12_346_12 E hI ha dX12_belief_69 ?_
    refine lv_topl (fun g_20 eg_20 => ?_)
    replace hF := q_letX hF eg_20
    have ig_20 : g_20.toInt = (σ_8.2.1 a 30).toInt := congrArg Int64.toInt eg_20
    refine lv_lsub hx hb dX12_belief_72 ?_
    refine lv_topl (fun y_21 ey_21 => ?_)
    replace hF := q_letX hF ey_21
    have iy_21 := q_subJ (A := g_19.toInt) (B := g_20.toInt) ey_21 rfl rfl (by first | (clear hn hh mv0_σ_1 ahpσ_3 bhpσ_3 chpσ_3 dhpσ_3 mv0_σ_4 if_5 c_6 bhpσ_8 chpσ_8 hw if_9 iz_11 if_12 iz_13 if_14 iz_15 iz_16 ggy_17 iy_17 mb iy_18; omega) | omega) (by first | (clear hn hh mv0_σ_1 ahpσ_3 bhpσ_3 chpσ_3 dhpσ_3 mv0_σ_4 if_5 c_6 bhpσ_8 chpσ_8 hw if_9 iz_11 if_12 iz_13 if_14 iz_15 iz_16 ggy_17 iy_17 mb iy_18; omega) | omega)
    refine lv_aload_n hx hb dX12_belief_73 rfl (lv_at hl 2 rfl) ?_
    refine gs_X12_35_12 E hI ha dX12_belief_74 ?_
    refine lv_bipush (v := 28) hx hb dX12_belief_77 (by decide) ?_
    refine lv_iload_n hx hb dX12_belief_79 rfl (lv_at hl 1 rfl) ?_
    refine lv_iadd hx hb dX12_belief_80 ?_
    refine lv_topi (fun z_22 ez_22 => ?_)
    replace hF := q_letX hF ez_22
    have iz_22 := q_addI (A := 28) (B := (m_c X σ a 6)) ez_22 (by decide) if_9 (by first | (clear hn mv0_σ_1 ahpσ_3 bhpσ_3 chpσ_3 dhpσ_3 mv0_σ_4 if_5 c_6 ahpσ_8 bhpσ_8 chpσ_8 hw ig_10 if_12 if_14 iz_15 iz_16 ggy_17 iy_17 mb iy_18 ig_19 ig_20 iy_21; omega) | omega) (by first | (clear hn mv0_σ_1 ahpσ_3 bhpσ_3 chpσ_3 dhpσ_3 mv0_σ_4 if_5 c_6 ahpσ_8 bhpσ_8 chpσ_8 hw ig_10 if_12 if_14 iz_15 iz_16 ggy_17 iy_17 mb iy_18 ig_19 ig_20 iy_21; omega) | omega)
    refine q_iald E hI (q_tk (k' := 34) hI ha rfl (by decide)) ⟨by decide, rfl⟩ (by first | (clear hn mv0_σ_1 ahpσ_3 bhpσ_3 chpσ_3 dhpσ_3 mv0_σ_4 if_5 c_6 ahpσ_8 bhpσ_8 chpσ_8 hw ig_10 if_12 if_14 iz_15 iz_16 ggy_17 iy_17 mb iy_18 ig_19 ig_20 iy_21; omega) | omega) (by rw [q_lnk (v := 4650) hI (q_tk (k' := 34) hI ha rfl (by decide)) rfl (by decide)]; omega) dX12_belief_81 ?_
    refine lv_topi (fun f_23 ef_23 => ?_)
    replace hF := q_letX hF ef_23
    have if_23 : f_23.toInt = m_c X σ a (28 + (m_c X σ a 6)) := (m_rd ef_23 iz_22).trans (congrFun feσ_8 _)
    refine lv_iconst (v := 1) hx hb dX12_belief_82 (by decide) ?_
    refine lv_iadd hx hb dX12_belief_83 ?_
    refine lv_topi (fun z_24 ez_24 => ?_)
    replace hF := q_letX hF ez_24
    have iz_24 := q_addI (A := (m_c X σ a (28 + (m_c X σ a 6)))) (B := 1) ez_24 if_23 (by decide) (by first | (clear hn hh mv0_σ_1 ahpσ_3 bhpσ_3 chpσ_3 dhpσ_3 mv0_σ_4 if_5 c_6 ahpσ_8 bhpσ_8 chpσ_8 if_9 ig_10 iz_11 if_12 iz_13 iz_15 iz_16 ggy_17 iy_17 mb iy_18 ig_19 ig_20 iy_21 iz_22; omega) | omega) (by first | (clear hh mv0_σ_1 ahpσ_3 bhpσ_3 chpσ_3 dhpσ_3 mv0_σ_4 if_5 c_6 ahpσ_8 bhpσ_8 chpσ_8 if_9 ig_10 iz_11 iz_13 mb iy_18 ig_19 ig_20 iy_21 iz_22; omega) | omega)
    refine lv_i2l hx hb dX12_belief_84 rfl ?_
    refine lv_topl (fun y_25 ey_25 => ?_)
    replace hF := q_letX hF ey_25
    have ggy_25 := q_rng z_24
    have iy_25 : y_25.toInt = z_24.toInt := by rw [ey_25]; exact (q_i2l _).trans rfl
    have mb2 := m_mulS (a := y_21.toInt) (A := 409600000000) (b := y_25.toInt) (B := 200001) (by first | (clear hn hh mv0_σ_1 ahpσ_3 bhpσ_3 chpσ_3 dhpσ_3 mv0_σ_4 if_5 c_6 bhpσ_8 chpσ_8 hw if_9 iz_11 if_12 iz_13 if_14 iz_15 iz_16 ggy_17 iy_17 mb iy_18 iz_22 if_23 iz_24 ggy_25 iy_25; omega) | omega) (by first | (clear hn hh mv0_σ_1 ahpσ_3 bhpσ_3 chpσ_3 dhpσ_3 mv0_σ_4 if_5 c_6 bhpσ_8 chpσ_8 hw if_9 iz_11 if_12 iz_13 if_14 iz_15 iz_16 ggy_17 iy_17 mb iy_18 iz_22 if_23 iz_24 ggy_25 iy_25; omega) | omega) (by first | (clear hn hh mv0_σ_1 ahpσ_3 bhpσ_3 chpσ_3 dhpσ_3 mv0_σ_4 if_5 c_6 ahpσ_8 bhpσ_8 chpσ_8 if_9 ig_10 iz_11 if_12 iz_13 iz_15 iz_16 ggy_17 iy_17 mb iy_18 ig_19 ig_20 iy_21 iz_22; omega) | omega) (by first | (clear hh mv0_σ_1 ahpσ_3 bhpσ_3 chpσ_3 dhpσ_3 mv0_σ_4 if_5 c_6 ahpσ_8 bhpσ_8 chpσ_8 if_9 ig_10 iz_11 iz_13 mb iy_18 ig_19 ig_20 iy_21 iz_22; omega) | omega)
    refine lv_lmul hx hb dX12_belief_85 ?_
    refine lv_topl (fun y_26 ey_26 => ?_)
    replace hF := q_letX hF ey_26
    have iy_26 := q_mulJ (A := y_21.toInt) (B := y_25.toInt) ey_26 rfl rfl (by first | (clear hn hh mv0_σ_1 ahpσ_3 bhpσ_3 chpσ_3 dhpσ_3 mv0_σ_4 if_5 c_6 ahpσ_8 bhpσ_8 chpσ_8 hw if_9 ig_10 iz_11 if_12 iz_13 if_14 iz_15 iz_16 ggy_17 iy_17 mb iy_18 ig_19 ig_20 iy_21 iz_22 if_23 iz_24 ggy_25 iy_25; omega) | omega) (by first | (clear hn hh mv0_σ_1 ahpσ_3 bhpσ_3 chpσ_3 dhpσ_3 mv0_σ_4 if_5 c_6 ahpσ_8 bhpσ_8 chpσ_8 hw if_9 ig_10 iz_11 if_12 iz_13 if_14 iz_15 iz_16 ggy_17 iy_17 mb iy_18 ig_19 ig_20 iy_21 iz_22 if_23 iz_24 ggy_25 iy_25; omega) | omega)
    refine lv_lstore (lv' := [(5, .long y_26), (3, .long y_18), (2, .int f_9), (0, .ref a), (1, .int v1)]) hx hb dX12_belief_86 hl (by decide) rfl (fun ls hl => ?_)
    refine lv_aload_n hx hb dX12_belief_88 rfl (lv_at hl 3 rfl) ?_
    refine lv_lload_n hx hb dX12_belief_89 rfl (lv_at hl 1 rfl) ?_
    refine lv_lload_n hx hb dX12_belief_90 rfl (lv_at hl 1 rfl) ?_
    refine lv_lload hx hb dX12_belief_91 (lv_at hl 0 rfl) ?_
    refine lv_ladd hx hb dX12_belief_93 ?_
    refine lv_topl (fun y_27 ey_27 => ?_)
    replace hF := q_letX hF ey_27
    have iy_27 := q_addJ (A := y_18.toInt) (B := y_26.toInt) ey_27 rfl rfl (by first | (clear hn hh mv0_σ_1 ahpσ_3 bhpσ_3 chpσ_3 dhpσ_3 mv0_σ_4 if_5 c_6 ahpσ_8 bhpσ_8 chpσ_8 hw if_9 ig_10 iz_11 if_12 iz_13 if_14 iz_15 iz_16 ggy_17 iy_17 ig_19 ig_20 iy_21 iz_22 if_23 iz_24 ggy_25 iy_25; omega) | omega) (by first | (clear hn hh mv0_σ_1 ahpσ_3 bhpσ_3 chpσ_3 dhpσ_3 mv0_σ_4 if_5 c_6 ahpσ_8 bhpσ_8 chpσ_8 hw if_9 ig_10 iz_11 if_12 iz_13 if_14 iz_15 iz_16 ggy_17 iy_17 ig_19 ig_20 iy_21 iz_22 if_23 iz_24 ggy_25 iy_25; omega) | omega)
    refine q_ci (q_runV (As := [.long y_18, .long y_27]) (rest := []) E (hml.trans hl.1.symm) hI (c_X12_fraction l X σ_8 a y_18 y_27 ha (by first | (clear hn hh mv0_σ_1 ahpσ_3 bhpσ_3 chpσ_3 dhpσ_3 mv0_σ_4 if_5 c_6 bhpσ_8 chpσ_8 if_9 iz_11 iz_13 iz_22; omega) | omega)) kv_X12_361 ha ⟨rfl, by decide⟩ (show vwCl[11]? = some (RX12, TX12, 46) from rfl) rfl ⟨Nat.le_of_ble_eq_true rfl, Nat.le_of_ble_eq_true rfl⟩ ⟨Nat.le_refl _, Nat.le_refl _⟩ rfl (Nat.le_of_ble_eq_true rfl) dX12_belief_94) hI (by decide) (fun r_28 σ_29 H locs hpσ_29 hkσ_29 hI => ?_)
    obtain ⟨ahpσ_29, bhpσ_29, chpσ_29⟩ := hpσ_29
    have fr_σ_29 := fr_σ_8.call chpσ_29 rfl rfl
    replace hF := q_biX hF bhpσ_29
    have mcσ_29 := m_cK hkσ_29 hI.1 ha (by decide)
    have feσ_29 : m_c X σ_29 a = m_c X σ a := (funext mcσ_29).trans feσ_8
    exact q_retz E hr hlk hI ⟨by omega, by omega⟩ ⟨⟨by omega, by omega⟩, (hF.trans hout), fr_σ_29⟩ dX12_belief_97
  · skip
    replace hF := q_ifp hF c_6
    refine lv_iconst (v := 0) hx hb dX12_belief_21 (by decide) ?_
    have hrv : (0 : Int32).toInt = 0 := rfl
    exact q_retz E hr hlk hI ⟨by decide, by decide⟩ ⟨⟨by decide, by decide⟩, (hF.trans hout), fr_σ_4⟩ dX12_belief_22

set_option maxRecDepth 100000 in
set_option maxHeartbeats 4000000 in
theorem c_X12_worth (l : Launch) (X : XW) (σ : ST) (a : Nat) (v1 : Int32) (ha : q_kd X a = 12) (hG : m_G (m_c X σ a)) : Met l yX12_worth (q_ws yX12_worth cX12_worth 2 (some .boolean)) (q_rm 6 136) (q_P X σ [.ref a, .int v1]) (q_Qi X 8 σ (fun (r : Int32) (σ' : ST) => (0 ≤ r.toInt ∧ r.toInt ≤ 1) ∧ (r, σ') = F_X12_worth X σ a v1 ∧ q_ow [(12, 0), (12, 1)] [(12, 2), (12, 3), (12, 30), (12, 31)] X σ σ')) 0 0 (q_reg X) := by
  refine q_met 8 (by first | exact rfl | decide +kernel) rfl (Nat.le_of_ble_eq_true rfl) (fun p e s m below meth c E hml hr hlk hI ls hl => ?_)
  have hx := E.1
  have hb := E.2.1
  have hl : lv_has ls 2 [(0, .ref a), (1, .int v1)] := hl
  have feσ : m_c X σ a = m_c X σ a := rfl
  have fr_σ : q_ow [(12, 0), (12, 1)] [(12, 2), (12, 3), (12, 30), (12, 31)] X σ σ := q_ow.rf
  have hh := hG.hd
  obtain ⟨out, hout⟩ : ∃ o, o = F_X12_worth X σ a v1 := ⟨_, rfl⟩
  have hF := hout.symm
  unfold F_X12_worth at hF
  refine lv_aload_n hx hb dX12_worth_0 rfl (lv_at hl 0 rfl) ?_
  refine lv_iconst (v := 0) hx hb dX12_worth_1 (by decide) ?_
  refine ps_X12_59_12 E hI ha (by decide) dX12_worth_2 (fun H locs σ_1 hσ_1 hI => ?_)
  replace hF := q_letX hF hσ_1
  have fr_σ_1 := fr_σ.si hσ_1 ha rfl
  have mv0_σ_1 : (σ_1.1 a 0).toInt = (σ.1 a 0).toInt := congrArg Int32.toInt (q_rdn hσ_1 (Or.inr (by decide)))
  have mcσ_1 := m_wo hσ_1 (m_ne ha (q_tk (f := 20) (k' := 34) hI ha rfl (by decide)) (by decide))
  have feσ_1 : m_c X σ_1 a = m_c X σ a := (funext mcσ_1).trans feσ
  refine lv_aload_n hx hb dX12_worth_5 rfl (lv_at hl 0 rfl) ?_
  refine lv_aload_n hx hb dX12_worth_6 rfl (lv_at hl 0 rfl) ?_
  refine lv_iload_n hx hb dX12_worth_7 rfl (lv_at hl 1 rfl) ?_
  refine q_ci (q_runV (As := [.int v1]) (rest := [.ref a]) E (hml.trans hl.1.symm) hI (c_X12_whyNot l X σ_1 a v1 ha (by rw [feσ_1]; exact hG)) kv_X12_352 ha ⟨rfl, by decide⟩ (show vwCl[11]? = some (RX12, TX12, 46) from rfl) rfl ⟨Nat.le_of_ble_eq_true rfl, Nat.le_of_ble_eq_true rfl⟩ ⟨Nat.le_refl _, Nat.le_refl _⟩ rfl (Nat.le_of_ble_eq_true rfl) dX12_worth_8) hI (by decide) (fun r_2 σ_3 H locs hpσ_3 hkσ_3 hI => ?_)
  obtain ⟨ahpσ_3, bhpσ_3, chpσ_3, dhpσ_3⟩ := hpσ_3
  rw [ahpσ_3] at hI
  rw [feσ_1] at chpσ_3
  replace hF := q_letX hF dhpσ_3
  refine ps_X12_62_12 E hI ha (by decide) dX12_worth_11 (fun H locs σ_4 hσ_4 hI => ?_)
  replace hF := q_letX hF hσ_4
  have fr_σ_4 := fr_σ_1.si hσ_4 ha rfl
  have mv0_σ_4 : (σ_4.1 a 0).toInt = r_2.toInt := congrArg Int32.toInt (q_rd hσ_4)
  have mcσ_4 := m_wo hσ_4 (m_ne ha (q_tk (f := 20) (k' := 34) hI ha rfl (by decide)) (by decide))
  have feσ_4 : m_c X σ_4 a = m_c X σ a := (funext mcσ_4).trans feσ_1
  refine lv_aload_n hx hb dX12_worth_14 rfl (lv_at hl 0 rfl) ?_
  refine gs_X12_62_12 E hI ha dX12_worth_15 ?_
  refine lv_topi (fun f_5 ef_5 => ?_)
  replace hF := q_letX hF ef_5
  have if_5 : f_5.toInt = (σ_4.1 a 0).toInt := congrArg Int32.toInt ef_5
  refine q_if_le (A := f_5.toInt) E rfl (tgt := 23) dX12_worth_18 (by decide) (fun c_6 => ?_) (fun c_6 => ?_)
  · skip
    replace hF := q_ifn hF (Int.not_lt.mpr c_6)
    refine lv_aload_n hx hb dX12_worth_23 rfl (lv_at hl 0 rfl) ?_
    refine lv_iload_n hx hb dX12_worth_24 rfl (lv_at hl 1 rfl) ?_
    refine q_cv (q_runV (As := [.int v1]) (rest := []) E (hml.trans hl.1.symm) hI (c_X12_blinds l X σ_4 a v1 ha (by rw [feσ_4]; exact hG) (by rw [feσ_4]; exact (by omega)) (by rw [feσ_4]; exact (by omega)) (by rw [feσ_4]; exact (by omega))) kv_X12_358 ha ⟨rfl, by decide⟩ (show vwCl[11]? = some (RX12, TX12, 46) from rfl) rfl ⟨Nat.le_of_ble_eq_true rfl, Nat.le_of_ble_eq_true rfl⟩ ⟨Nat.le_refl _, Nat.le_refl _⟩ rfl (Nat.le_of_ble_eq_true rfl) dX12_worth_25) hI (by decide) (fun σ_8 H locs hpσ_8 hkσ_8 hI => ?_)
    obtain ⟨ahpσ_8, bhpσ_8, chpσ_8⟩ := hpσ_8
    have fr_σ_8 := fr_σ_4.call chpσ_8 rfl rfl
    replace hF := q_letX hF bhpσ_8
    have mcσ_8 := m_cK hkσ_8 hI.1 ha (by decide)
    have feσ_8 : m_c X σ_8 a = m_c X σ a := (funext mcσ_8).trans feσ_4
    refine lv_aload_n hx hb dX12_worth_28 rfl (lv_at hl 0 rfl) ?_
    refine lv_aload_n hx hb dX12_worth_29 rfl (lv_at hl 0 rfl) ?_
    refine q_ci (q_runV (As := []) (rest := [.ref a]) E (hml.trans hl.1.symm) hI (c_X12_heapMany l X σ_8 a ha (by rw [feσ_8]; exact hG)) kv_X12_287 ha ⟨rfl, by decide⟩ (show vwCl[11]? = some (RX12, TX12, 46) from rfl) rfl ⟨Nat.le_of_ble_eq_true rfl, Nat.le_of_ble_eq_true rfl⟩ ⟨Nat.le_refl _, Nat.le_refl _⟩ rfl (Nat.le_of_ble_eq_true rfl) dX12_worth_30) hI (by decide) (fun r_9 σ_10 H locs hpσ_10 hkσ_10 hI => ?_)
    obtain ⟨ahpσ_10, bhpσ_10, chpσ_10, dhpσ_10⟩ := hpσ_10
    rw [ahpσ_10] at hI
    rw [feσ_8] at bhpσ_10
    replace hF := q_letX hF dhpσ_10
    refine lv_i2l hx hb dX12_worth_33 rfl ?_
    refine lv_topl (fun y_11 ey_11 => ?_)
    replace hF := q_letX hF ey_11
    have ggy_11 := q_rng r_9
    have iy_11 : y_11.toInt = r_9.toInt := by rw [ey_11]; exact (q_i2l _).trans rfl
    refine lv_aload_n hx hb dX12_worth_34 rfl (lv_at hl 0 rfl) ?_
    refine gs_X12_349_12 E hI ha dX12_worth_35 ?_
    refine lv_topl (fun g_12 eg_12 => ?_)
    replace hF := q_letX hF eg_12
    have ig_12 : g_12.toInt = (σ_8.2.1 a 31).toInt := congrArg Int64.toInt eg_12
    refine lv_ldc2 (v := 2) hx hb E.2.2.1 (E.2.2.2.1 _ (q_in_t9 (i := 45) (by first | rfl | decide +kernel) rfl)) dX12_worth_38 ?_
    refine lv_aload_n hx hb dX12_worth_41 rfl (lv_at hl 0 rfl) ?_
    refine gs_X12_346_12 E hI ha dX12_worth_42 ?_
    refine lv_topl (fun g_13 eg_13 => ?_)
    replace hF := q_letX hF eg_13
    have ig_13 : g_13.toInt = (σ_8.2.1 a 30).toInt := congrArg Int64.toInt eg_13
    refine lv_lmul hx hb dX12_worth_45 ?_
    refine lv_topl (fun y_14 ey_14 => ?_)
    replace hF := q_letX hF ey_14
    refine lv_lsub hx hb dX12_worth_46 ?_
    refine lv_topl (fun y_15 ey_15 => ?_)
    replace hF := q_letX hF ey_15
    refine lv_lmul hx hb dX12_worth_47 ?_
    refine lv_topl (fun y_16 ey_16 => ?_)
    replace hF := q_letX hF ey_16
    refine lv_aload_n hx hb dX12_worth_48 rfl (lv_at hl 0 rfl) ?_
    refine gs_X12_349_12 E hI ha dX12_worth_49 ?_
    refine lv_topl (fun g_17 eg_17 => ?_)
    replace hF := q_letX hF eg_17
    have ig_17 : g_17.toInt = (σ_8.2.1 a 31).toInt := congrArg Int64.toInt eg_17
    refine q_ci (q_runV (As := [.long y_16, .long g_17]) (rest := []) E (hml.trans hl.1.symm) hI (c_X12_fraction l X σ_8 a y_16 g_17 ha (by first | (clear hh mv0_σ_1 ahpσ_3 bhpσ_3 chpσ_3 dhpσ_3 mv0_σ_4 if_5 c_6 bhpσ_8 chpσ_8 ahpσ_10 bhpσ_10 chpσ_10 dhpσ_10 ggy_11 iy_11 ig_13; omega) | omega)) kv_X12_361 ha ⟨rfl, by decide⟩ (show vwCl[11]? = some (RX12, TX12, 46) from rfl) rfl ⟨Nat.le_of_ble_eq_true rfl, Nat.le_of_ble_eq_true rfl⟩ ⟨Nat.le_refl _, Nat.le_refl _⟩ rfl (Nat.le_of_ble_eq_true rfl) dX12_worth_52) hI (by decide) (fun r_18 σ_19 H locs hpσ_19 hkσ_19 hI => ?_)
    obtain ⟨ahpσ_19, bhpσ_19, chpσ_19⟩ := hpσ_19
    have fr_σ_19 := fr_σ_8.call chpσ_19 rfl rfl
    replace hF := q_biX hF bhpσ_19
    have mcσ_19 := m_cK hkσ_19 hI.1 ha (by decide)
    have feσ_19 : m_c X σ_19 a = m_c X σ a := (funext mcσ_19).trans feσ_8
    exact q_retz E hr hlk hI ⟨by omega, by omega⟩ ⟨⟨by omega, by omega⟩, (hF.trans hout), fr_σ_19⟩ dX12_worth_55
  · skip
    replace hF := q_ifp hF c_6
    refine lv_iconst (v := 0) hx hb dX12_worth_21 (by decide) ?_
    have hrv : (0 : Int32).toInt = 0 := rfl
    exact q_retz E hr hlk hI ⟨by decide, by decide⟩ ⟨⟨by decide, by decide⟩, (hF.trans hout), fr_σ_4⟩ dX12_worth_22

set_option maxRecDepth 100000 in
set_option maxHeartbeats 4000000 in
theorem c_X12_ready (l : Launch) (X : XW) (σ : ST) (a : Nat) (ha : q_kd X a = 12) (hG : m_G (m_c X σ a)) : Met l yX12_ready (q_ws yX12_ready cX12_ready 9 (some .int)) (q_rm 6 136) (q_P X σ [.ref a]) (q_Qi X 8 σ (fun (r : Int32) (σ' : ST) => (r, σ') = F_X12_ready X σ a ∧ q_ow [(12, 0), (12, 1)] [(12, 30), (12, 31)] X σ σ')) 0 0 (q_reg X) := by
  refine q_met 8 (by first | exact rfl | decide +kernel) rfl (Nat.le_of_ble_eq_true rfl) (fun p e s m below meth c E hml hr hlk hI ls hl => ?_)
  have hx := E.1
  have hb := E.2.1
  have hl : lv_has ls 9 [(0, .ref a)] := hl
  have feσ : m_c X σ a = m_c X σ a := rfl
  have fr_σ : q_ow [(12, 0), (12, 1)] [(12, 30), (12, 31)] X σ σ := q_ow.rf
  have hh := hG.hd
  obtain ⟨out, hout⟩ : ∃ o, o = F_X12_ready X σ a := ⟨_, rfl⟩
  have hF := hout.symm
  unfold F_X12_ready at hF
  refine lv_aload_n hx hb dX12_ready_0 rfl (lv_at hl 0 rfl) ?_
  refine lv_iconst (v := 0) hx hb dX12_ready_1 (by decide) ?_
  refine ps_X12_59_12 E hI ha (by decide) dX12_ready_2 (fun H locs σ_1 hσ_1 hI => ?_)
  replace hF := q_letX hF hσ_1
  have fr_σ_1 := fr_σ.si hσ_1 ha rfl
  have mcσ_1 := m_wo hσ_1 (m_ne ha (q_tk (f := 20) (k' := 34) hI ha rfl (by decide)) (by decide))
  have feσ_1 : m_c X σ_1 a = m_c X σ a := (funext mcσ_1).trans feσ
  refine lv_aload_n hx hb dX12_ready_5 rfl (lv_at hl 0 rfl) ?_
  refine lv_iconst (v := 0) hx hb dX12_ready_6 (by decide) ?_
  refine ps_X12_62_12 E hI ha (by decide) dX12_ready_7 (fun H locs σ_2 hσ_2 hI => ?_)
  replace hF := q_letX hF hσ_2
  have fr_σ_2 := fr_σ_1.si hσ_2 ha rfl
  have mcσ_2 := m_wo hσ_2 (m_ne ha (q_tk (f := 20) (k' := 34) hI ha rfl (by decide)) (by decide))
  have feσ_2 : m_c X σ_2 a = m_c X σ a := (funext mcσ_2).trans feσ_1
  refine lv_aload_n hx hb dX12_ready_10 rfl (lv_at hl 0 rfl) ?_
  refine gs_X12_35_12 E hI ha dX12_ready_11 ?_
  refine lv_bipush (v := 7) hx hb dX12_ready_14 (by decide) ?_
  refine q_iald E hI (q_tk (k' := 34) hI ha rfl (by decide)) ⟨by decide, rfl⟩ (by decide) (by rw [q_lnk (v := 4650) hI (q_tk (k' := 34) hI ha rfl (by decide)) rfl (by decide)]; decide) dX12_ready_16 ?_
  refine lv_topi (fun f_3 ef_3 => ?_)
  replace hF := q_letX hF ef_3
  have if_3 : f_3.toInt = m_c X σ a 7 := (m_rd ef_3 (by decide)).trans (congrFun feσ_2 _)
  refine q_if_eq (A := f_3.toInt) E rfl (tgt := 30) dX12_ready_17 (by decide) (fun c_4 => ?_) (fun c_4 => ?_)
  · skip
    replace hF := q_ifp hF c_4
    refine lv_aload_n hx hb dX12_ready_30 rfl (lv_at hl 0 rfl) ?_
    refine lv_bipush (v := 8) hx hb dX12_ready_31 (by decide) ?_
    have kc_5 : (8 : Int32).toInt = 8 := rfl
    refine q_ci (q_runV (As := [.int 8]) (rest := []) E (hml.trans hl.1.symm) hI (c_X12_refuse l X σ_2 a (8 : Int32) ha) kv_X12_284 ha ⟨rfl, by decide⟩ (show vwCl[11]? = some (RX12, TX12, 46) from rfl) rfl ⟨Nat.le_of_ble_eq_true rfl, Nat.le_of_ble_eq_true rfl⟩ ⟨Nat.le_refl _, Nat.le_refl _⟩ rfl (Nat.le_of_ble_eq_true rfl) dX12_ready_33) hI (by decide) (fun r_6 σ_7 H locs hpσ_7 hkσ_7 hI => ?_)
    obtain ⟨ahpσ_7, bhpσ_7, chpσ_7⟩ := hpσ_7
    have fr_σ_7 := fr_σ_2.call chpσ_7 rfl rfl
    replace hF := q_biX hF bhpσ_7
    have mcσ_7 := m_cK hkσ_7 hI.1 ha (by decide)
    have feσ_7 : m_c X σ_7 a = m_c X σ a := (funext mcσ_7).trans feσ_2
    exact q_reti E hr hlk hI ⟨(hF.trans hout), fr_σ_7⟩ dX12_ready_36
  · skip
    replace hF := q_ifn hF c_4
    refine lv_aload_n hx hb dX12_ready_20 rfl (lv_at hl 0 rfl) ?_
    refine gs_X12_35_12 E hI ha dX12_ready_21 ?_
    refine lv_iconst (v := 2) hx hb dX12_ready_24 (by decide) ?_
    refine q_iald E hI (q_tk (k' := 34) hI ha rfl (by decide)) ⟨by decide, rfl⟩ (by decide) (by rw [q_lnk (v := 4650) hI (q_tk (k' := 34) hI ha rfl (by decide)) rfl (by decide)]; decide) dX12_ready_25 ?_
    refine lv_topi (fun f_8 ef_8 => ?_)
    replace hF := q_letX hF ef_8
    have if_8 : f_8.toInt = m_c X σ a 2 := (m_rd ef_8 (by decide)).trans (congrFun feσ_2 _)
    refine lv_iconst (v := 2) hx hb dX12_ready_26 (by decide) ?_
    have gc_9_f_8 := q_rng f_8
    refine q_icmp_ge (A := f_8.toInt) (B := 2) E rfl (by decide) (tgt := 37) dX12_ready_27 (by decide) (fun c_9 => ?_) (fun c_9 => ?_)
    · skip
      replace hF := q_ifn hF (Int.not_lt.mpr c_9)
      refine lv_iconst (v := (-1)) hx hb dX12_ready_37 (by decide) ?_
      refine lv_istore_n (lv' := [(1, .int (-1)), (0, .ref a)]) hx hb dX12_ready_38 rfl hl (by decide) rfl (fun ls hl => ?_)
      refine lv_lconst (v := 0) hx hb dX12_ready_39 (by decide) ?_
      refine lv_lstore_n (lv' := [(2, .long 0), (1, .int (-1)), (0, .ref a)]) hx hb dX12_ready_40 rfl hl (by decide) rfl (fun ls hl => ?_)
      refine lv_lconst (v := 1) hx hb dX12_ready_41 (by decide) ?_
      refine lv_lstore (lv' := [(4, .long 1), (2, .long 0), (1, .int (-1)), (0, .ref a)]) hx hb dX12_ready_42 hl (by decide) rfl (fun ls hl => ?_)
      refine lv_aload_n hx hb dX12_ready_44 rfl (lv_at hl 3 rfl) ?_
      refine lv_aload_n hx hb dX12_ready_45 rfl (lv_at hl 3 rfl) ?_
      refine gs_X12_35_12 E hI ha dX12_ready_46 ?_
      refine lv_bipush (v := 6) hx hb dX12_ready_49 (by decide) ?_
      refine q_iald E hI (q_tk (k' := 34) hI ha rfl (by decide)) ⟨by decide, rfl⟩ (by decide) (by rw [q_lnk (v := 4650) hI (q_tk (k' := 34) hI ha rfl (by decide)) rfl (by decide)]; decide) dX12_ready_51 ?_
      refine lv_topi (fun f_10 ef_10 => ?_)
      replace hF := q_letX hF ef_10
      have if_10 : f_10.toInt = m_c X σ a 6 := (m_rd ef_10 (by decide)).trans (congrFun feσ_2 _)
      refine q_ci (q_runV (As := [.int f_10]) (rest := []) E (hml.trans hl.1.symm) hI (c_X12_behindOf l X σ_2 a f_10 ha (by rw [feσ_2]; exact hG) (by rw [feσ_2]; exact (by first | (clear if_3 c_4 gc_9_f_8; omega) | omega))) kv_X12_319 ha ⟨rfl, by decide⟩ (show vwCl[11]? = some (RX12, TX12, 46) from rfl) rfl ⟨Nat.le_of_ble_eq_true rfl, Nat.le_of_ble_eq_true rfl⟩ ⟨Nat.le_refl _, Nat.le_refl _⟩ rfl (Nat.le_of_ble_eq_true rfl) dX12_ready_52) hI (by decide) (fun r_11 σ_12 H locs hpσ_12 hkσ_12 hI => ?_)
      obtain ⟨ahpσ_12, bhpσ_12, chpσ_12, dhpσ_12⟩ := hpσ_12
      rw [ahpσ_12] at hI
      rw [feσ_2] at bhpσ_12
      rw [feσ_2] at chpσ_12
      replace hF := q_letX hF dhpσ_12
      refine lv_istore (lv' := [(6, .int r_11), (4, .long 1), (2, .long 0), (1, .int (-1)), (0, .ref a)]) hx hb dX12_ready_55 hl (by decide) rfl (fun ls hl => ?_)
      have L_57_18 : ∀ (k_18 : Nat) (x_13 : Int32) (w_14 : Int64) (w_15 : Int64) (x_16 : Int32) (σ_17 : ST) (H : Heap) (locs : List Loc) (ls : Array Slot), (m_c X σ a 6 - x_16.toInt + 20 * min 1 (max 0 (x_16.toInt - m_c X σ a 6))).toNat < k_18 → (0 ≤ x_16.toInt ∧ x_16.toInt < m_c X σ a 2) → (q_ow [(12, 0), (12, 1)] [(12, 30), (12, 31)] X σ σ_17) → (m_c X σ_17 a = m_c X σ a) → (F_X12_ready_L57_1 X a k_18 x_13 w_14 w_15 x_16 σ_17 = out) → q_I X 8 σ s.heap locs σ_17 H → lv_has ls 9 [(0, .ref a), (1, .int x_13), (2, .long w_14), (4, .long w_15), (6, .int x_16)] → W p l e (q_rm 6 136) s m ([.ref a] : List Value).toArray below meth c H locs 0 0 (MQ below (q_Qi X 8 σ (fun (r : Int32) (σ' : ST) => (r, σ') = F_X12_ready X σ a ∧ q_ow [(12, 0), (12, 1)] [(12, 30), (12, 31)] X σ σ')) ([.ref a] : List Value).toArray s 0 0 (q_reg X)) (F0 m 57 ls []) := by
        clear hF
        intro k_18
        induction k_18 with
        | zero =>
          intro x_13 w_14 w_15 x_16 σ_17 H locs ls hms
          try clear ahpσ_12
          exact absurd hms (Nat.not_lt_zero _)
        | succ k_18 ih57 =>
          intro x_13 w_14 w_15 x_16 σ_17 H locs ls hm57 hge57 fr_σ_17 feσ_17 hF hI hl
          replace hF := (F_X12_ready_L57_1_s).symm.trans hF
          unfold F_X12_ready_B57_1 at hF
          refine lv_iload hx hb dX12_ready_57 (lv_at hl 4 rfl) ?_
          refine lv_aload_n hx hb dX12_ready_59 rfl (lv_at hl 0 rfl) ?_
          refine gs_X12_35_12 E hI ha dX12_ready_60 ?_
          refine lv_bipush (v := 6) hx hb dX12_ready_63 (by decide) ?_
          refine q_iald E hI (q_tk (k' := 34) hI ha rfl (by decide)) ⟨by decide, rfl⟩ (by decide) (by rw [q_lnk (v := 4650) hI (q_tk (k' := 34) hI ha rfl (by decide)) rfl (by decide)]; decide) dX12_ready_65 ?_
          refine lv_topi (fun f_19 ef_19 => ?_)
          replace hF := q_letX hF ef_19
          have if_19 : f_19.toInt = m_c X σ a 6 := (m_rd ef_19 (by decide)).trans (congrFun feσ_17 _)
          have gc_20_x_16 := q_rng x_16
          have gc_20_f_19 := q_rng f_19
          refine q_icmp_eq (A := x_16.toInt) (B := f_19.toInt) E rfl rfl (tgt := 135) dX12_ready_66 (by decide) (fun c_20 => ?_) (fun c_20 => ?_)
          · skip
            replace hF := q_ifp hF c_20
            skip
            refine lv_iload_n hx hb dX12_ready_135 rfl (lv_at hl 1 rfl) ?_
            exact q_reti E hr hlk hI ⟨(hF.trans hout), fr_σ_17⟩ dX12_ready_136
          · skip
            replace hF := q_ifn hF c_20
            refine lv_aload_n hx hb dX12_ready_69 rfl (lv_at hl 0 rfl) ?_
            refine lv_iload hx hb dX12_ready_70 (lv_at hl 4 rfl) ?_
            refine q_cv (q_runV (As := [.int x_16]) (rest := []) E (hml.trans hl.1.symm) hI (c_X12_blinds l X σ_17 a x_16 ha (by rw [feσ_17]; exact hG) (by rw [feσ_17]; exact (by omega)) (by rw [feσ_17]; exact (by first | (clear gc_9_f_8 bhpσ_12 dhpσ_12 w_14 w_15 hm57; omega) | omega)) (by rw [feσ_17]; exact (by first | (clear hh if_3 c_4 if_8 gc_9_f_8 c_9 bhpσ_12 chpσ_12 dhpσ_12 w_14 w_15 hm57 hge57 gc_20_x_16 gc_20_f_19; omega) | omega))) kv_X12_358 ha ⟨rfl, by decide⟩ (show vwCl[11]? = some (RX12, TX12, 46) from rfl) rfl ⟨Nat.le_of_ble_eq_true rfl, Nat.le_of_ble_eq_true rfl⟩ ⟨Nat.le_refl _, Nat.le_refl _⟩ rfl (Nat.le_of_ble_eq_true rfl) dX12_ready_72) hI (by decide) (fun σ_22 H locs hpσ_22 hkσ_22 hI => ?_)
            obtain ⟨ahpσ_22, bhpσ_22, chpσ_22⟩ := hpσ_22
            have fr_σ_22 := fr_σ_17.call chpσ_22 rfl rfl
            replace hF := q_letX hF bhpσ_22
            have mcσ_22 := m_cK hkσ_22 hI.1 ha (by decide)
            have feσ_22 : m_c X σ_22 a = m_c X σ a := (funext mcσ_22).trans feσ_17
            refine lv_aload_n hx hb dX12_ready_75 rfl (lv_at hl 0 rfl) ?_
            refine gs_X12_349_12 E hI ha dX12_ready_76 ?_
            refine lv_topl (fun g_23 eg_23 => ?_)
            replace hF := q_letX hF eg_23
            have ig_23 : g_23.toInt = (σ_22.2.1 a 31).toInt := congrArg Int64.toInt eg_23
            refine lv_ldc2 (v := 2) hx hb E.2.2.1 (E.2.2.2.1 _ (q_in_t9 (i := 45) (by first | rfl | decide +kernel) rfl)) dX12_ready_79 ?_
            refine lv_aload_n hx hb dX12_ready_82 rfl (lv_at hl 0 rfl) ?_
            refine gs_X12_346_12 E hI ha dX12_ready_83 ?_
            refine lv_topl (fun g_24 eg_24 => ?_)
            replace hF := q_letX hF eg_24
            have ig_24 : g_24.toInt = (σ_22.2.1 a 30).toInt := congrArg Int64.toInt eg_24
            refine lv_lmul hx hb dX12_ready_86 ?_
            refine lv_topl (fun y_25 ey_25 => ?_)
            replace hF := q_letX hF ey_25
            refine lv_lsub hx hb dX12_ready_87 ?_
            refine lv_topl (fun y_26 ey_26 => ?_)
            replace hF := q_letX hF ey_26
            refine lv_lstore (lv' := [(7, .long y_26), (0, .ref a), (1, .int x_13), (2, .long w_14), (4, .long w_15), (6, .int x_16)]) hx hb dX12_ready_88 hl (by decide) rfl (fun ls hl => ?_)
            refine lv_iload_n hx hb dX12_ready_90 rfl (lv_at hl 2 rfl) ?_
            refine q_if_lt (A := x_13.toInt) E rfl (tgt := 112) dX12_ready_91 (by decide) (fun c_27 => ?_) (fun c_27 => ?_)
            · skip
              replace hF := q_ifp hF c_27
              refine lv_iload hx hb dX12_ready_112 (lv_at hl 5 rfl) ?_
              refine lv_istore_n (lv' := [(1, .int x_16), (7, .long y_26), (0, .ref a), (2, .long w_14), (4, .long w_15), (6, .int x_16)]) hx hb dX12_ready_114 rfl hl (by decide) rfl (fun ls hl => ?_)
              refine lv_lload hx hb dX12_ready_115 (lv_at hl 1 rfl) ?_
              refine lv_lstore_n (lv' := [(2, .long y_26), (1, .int x_16), (7, .long y_26), (0, .ref a), (4, .long w_15), (6, .int x_16)]) hx hb dX12_ready_117 rfl hl (by decide) rfl (fun ls hl => ?_)
              refine lv_aload_n hx hb dX12_ready_118 rfl (lv_at hl 3 rfl) ?_
              refine gs_X12_349_12 E hI ha dX12_ready_119 ?_
              refine lv_topl (fun g_28 eg_28 => ?_)
              replace hF := q_letX hF eg_28
              have ig_28 : g_28.toInt = (σ_22.2.1 a 31).toInt := congrArg Int64.toInt eg_28
              refine lv_lstore (lv' := [(4, .long g_28), (2, .long y_26), (1, .int x_16), (7, .long y_26), (0, .ref a), (6, .int x_16)]) hx hb dX12_ready_122 hl (by decide) rfl (fun ls hl => ?_)
              refine lv_aload_n hx hb dX12_ready_124 rfl (lv_at hl 4 rfl) ?_
              refine lv_iload hx hb dX12_ready_125 (lv_at hl 5 rfl) ?_
              refine q_ci (q_runV (As := [.int x_16]) (rest := []) E (hml.trans hl.1.symm) hI (c_X12_behindOf l X σ_22 a x_16 ha (by rw [feσ_22]; exact hG) (by rw [feσ_22]; exact (by omega))) kv_X12_319 ha ⟨rfl, by decide⟩ (show vwCl[11]? = some (RX12, TX12, 46) from rfl) rfl ⟨Nat.le_of_ble_eq_true rfl, Nat.le_of_ble_eq_true rfl⟩ ⟨Nat.le_refl _, Nat.le_refl _⟩ rfl (Nat.le_of_ble_eq_true rfl) dX12_ready_127) hI (by decide) (fun r_29 σ_30 H locs hpσ_30 hkσ_30 hI => ?_)
              obtain ⟨ahpσ_30, bhpσ_30, chpσ_30, dhpσ_30⟩ := hpσ_30
              rw [ahpσ_30] at hI
              rw [feσ_22] at bhpσ_30
              rw [feσ_22] at chpσ_30
              replace hF := q_letX hF dhpσ_30
              refine lv_istore (lv' := [(6, .int r_29), (4, .long g_28), (2, .long y_26), (1, .int x_16), (7, .long y_26), (0, .ref a)]) hx hb dX12_ready_130 hl (by decide) rfl (fun ls hl => ?_)
              refine lv_goto (tgt := 57) hx hb dX12_ready_132 (by decide) ?_
              exact ih57 x_16 y_26 g_28 r_29 σ_22 _ _ ls (by first | (clear if_3 c_4 gc_9_f_8 chpσ_12 dhpσ_12 w_14 w_15 ahpσ_22 bhpσ_22 chpσ_22 ig_23 ig_24 c_27 ig_28 ahpσ_30 dhpσ_30; omega) | omega) (by omega) fr_σ_22 feσ_22 hF hI (lv_sub hl [5, 3, 2, 1, 0] rfl)
            · skip
              replace hF := q_ifn hF (Int.not_lt.mpr c_27)
              refine lv_lload hx hb dX12_ready_94 (lv_at hl 0 rfl) ?_
              refine lv_lload hx hb dX12_ready_96 (lv_at hl 4 rfl) ?_
              refine lv_lmul hx hb dX12_ready_98 ?_
              refine lv_topl (fun y_31 ey_31 => ?_)
              replace hF := q_letX hF ey_31
              refine lv_lload_n hx hb dX12_ready_99 rfl (lv_at hl 3 rfl) ?_
              refine lv_aload_n hx hb dX12_ready_100 rfl (lv_at hl 1 rfl) ?_
              refine gs_X12_349_12 E hI ha dX12_ready_101 ?_
              refine lv_topl (fun g_32 eg_32 => ?_)
              replace hF := q_letX hF eg_32
              have ig_32 : g_32.toInt = (σ_22.2.1 a 31).toInt := congrArg Int64.toInt eg_32
              refine lv_lmul hx hb dX12_ready_104 ?_
              refine lv_topl (fun y_33 ey_33 => ?_)
              replace hF := q_letX hF ey_33
              refine q_lcmpX E dX12_ready_105 (fun z_34 ez_34 hz_34 => ?_)
              replace hF := q_letX hF ez_34
              refine q_if_gt (A := z_34.toInt) E rfl (tgt := 112) dX12_ready_106 (by decide) (fun c_35 => ?_) (fun c_35 => ?_)
              · skip
                replace hF := q_ifp hF c_35
                refine lv_iload hx hb dX12_ready_112 (lv_at hl 5 rfl) ?_
                refine lv_istore_n (lv' := [(1, .int x_16), (7, .long y_26), (0, .ref a), (2, .long w_14), (4, .long w_15), (6, .int x_16)]) hx hb dX12_ready_114 rfl hl (by decide) rfl (fun ls hl => ?_)
                refine lv_lload hx hb dX12_ready_115 (lv_at hl 1 rfl) ?_
                refine lv_lstore_n (lv' := [(2, .long y_26), (1, .int x_16), (7, .long y_26), (0, .ref a), (4, .long w_15), (6, .int x_16)]) hx hb dX12_ready_117 rfl hl (by decide) rfl (fun ls hl => ?_)
                refine lv_aload_n hx hb dX12_ready_118 rfl (lv_at hl 3 rfl) ?_
                refine gs_X12_349_12 E hI ha dX12_ready_119 ?_
                refine lv_topl (fun g_36 eg_36 => ?_)
                replace hF := q_letX hF eg_36
                have ig_36 : g_36.toInt = (σ_22.2.1 a 31).toInt := congrArg Int64.toInt eg_36
                refine lv_lstore (lv' := [(4, .long g_36), (2, .long y_26), (1, .int x_16), (7, .long y_26), (0, .ref a), (6, .int x_16)]) hx hb dX12_ready_122 hl (by decide) rfl (fun ls hl => ?_)
                refine lv_aload_n hx hb dX12_ready_124 rfl (lv_at hl 4 rfl) ?_
                refine lv_iload hx hb dX12_ready_125 (lv_at hl 5 rfl) ?_
                refine q_ci (q_runV (As := [.int x_16]) (rest := []) E (hml.trans hl.1.symm) hI (c_X12_behindOf l X σ_22 a x_16 ha (by rw [feσ_22]; exact hG) (by rw [feσ_22]; exact (by omega))) kv_X12_319 ha ⟨rfl, by decide⟩ (show vwCl[11]? = some (RX12, TX12, 46) from rfl) rfl ⟨Nat.le_of_ble_eq_true rfl, Nat.le_of_ble_eq_true rfl⟩ ⟨Nat.le_refl _, Nat.le_refl _⟩ rfl (Nat.le_of_ble_eq_true rfl) dX12_ready_127) hI (by decide) (fun r_37 σ_38 H locs hpσ_38 hkσ_38 hI => ?_)
                obtain ⟨ahpσ_38, bhpσ_38, chpσ_38, dhpσ_38⟩ := hpσ_38
                rw [ahpσ_38] at hI
                rw [feσ_22] at bhpσ_38
                rw [feσ_22] at chpσ_38
                replace hF := q_letX hF dhpσ_38
                refine lv_istore (lv' := [(6, .int r_37), (4, .long g_36), (2, .long y_26), (1, .int x_16), (7, .long y_26), (0, .ref a)]) hx hb dX12_ready_130 hl (by decide) rfl (fun ls hl => ?_)
                refine lv_goto (tgt := 57) hx hb dX12_ready_132 (by decide) ?_
                exact ih57 x_16 y_26 g_36 r_37 σ_22 _ _ ls (by first | (clear if_3 c_4 gc_9_f_8 chpσ_12 dhpσ_12 w_14 w_15 ahpσ_22 bhpσ_22 chpσ_22 ig_23 ig_24 c_27 ig_32 ig_36 ahpσ_38 dhpσ_38; omega) | omega) (by omega) fr_σ_22 feσ_22 hF hI (lv_sub hl [5, 3, 2, 1, 0] rfl)
              · skip
                replace hF := q_ifn hF (Int.not_lt.mpr c_35)
                refine lv_goto (tgt := 124) hx hb dX12_ready_109 (by decide) ?_
                refine lv_aload_n hx hb dX12_ready_124 rfl (lv_at hl 1 rfl) ?_
                refine lv_iload hx hb dX12_ready_125 (lv_at hl 5 rfl) ?_
                refine q_ci (q_runV (As := [.int x_16]) (rest := []) E (hml.trans hl.1.symm) hI (c_X12_behindOf l X σ_22 a x_16 ha (by rw [feσ_22]; exact hG) (by rw [feσ_22]; exact (by omega))) kv_X12_319 ha ⟨rfl, by decide⟩ (show vwCl[11]? = some (RX12, TX12, 46) from rfl) rfl ⟨Nat.le_of_ble_eq_true rfl, Nat.le_of_ble_eq_true rfl⟩ ⟨Nat.le_refl _, Nat.le_refl _⟩ rfl (Nat.le_of_ble_eq_true rfl) dX12_ready_127) hI (by decide) (fun r_39 σ_40 H locs hpσ_40 hkσ_40 hI => ?_)
                obtain ⟨ahpσ_40, bhpσ_40, chpσ_40, dhpσ_40⟩ := hpσ_40
                rw [ahpσ_40] at hI
                rw [feσ_22] at bhpσ_40
                rw [feσ_22] at chpσ_40
                replace hF := q_letX hF dhpσ_40
                refine lv_istore (lv' := [(6, .int r_39), (7, .long y_26), (0, .ref a), (1, .int x_13), (2, .long w_14), (4, .long w_15)]) hx hb dX12_ready_130 hl (by decide) rfl (fun ls hl => ?_)
                refine lv_goto (tgt := 57) hx hb dX12_ready_132 (by decide) ?_
                exact ih57 x_13 w_14 w_15 r_39 σ_22 _ _ ls (by first | (clear if_3 c_4 gc_9_f_8 chpσ_12 dhpσ_12 w_14 w_15 ahpσ_22 bhpσ_22 chpσ_22 ig_23 ig_24 c_27 ig_32 ahpσ_40 dhpσ_40; omega) | omega) (by omega) fr_σ_22 feσ_22 hF hI (lv_sub hl [2, 3, 4, 5, 0] rfl)
      have kc_41 : ((-1) : Int32).toInt = (-1) := rfl
      exact L_57_18 ((m_c X σ a 6 - r_11.toInt + 20 * min 1 (max 0 (r_11.toInt - m_c X σ a 6))).toNat + 1) (-1) 0 1 r_11 σ_2 _ _ ls (Nat.lt_succ_self _) (by omega) fr_σ_2 feσ_2 hF hI (lv_sub hl [4, 3, 2, 1, 0] rfl)
    · skip
      replace hF := q_ifp hF c_9
      refine lv_aload_n hx hb dX12_ready_30 rfl (lv_at hl 0 rfl) ?_
      refine lv_bipush (v := 8) hx hb dX12_ready_31 (by decide) ?_
      have kc_42 : (8 : Int32).toInt = 8 := rfl
      refine q_ci (q_runV (As := [.int 8]) (rest := []) E (hml.trans hl.1.symm) hI (c_X12_refuse l X σ_2 a (8 : Int32) ha) kv_X12_284 ha ⟨rfl, by decide⟩ (show vwCl[11]? = some (RX12, TX12, 46) from rfl) rfl ⟨Nat.le_of_ble_eq_true rfl, Nat.le_of_ble_eq_true rfl⟩ ⟨Nat.le_refl _, Nat.le_refl _⟩ rfl (Nat.le_of_ble_eq_true rfl) dX12_ready_33) hI (by decide) (fun r_43 σ_44 H locs hpσ_44 hkσ_44 hI => ?_)
      obtain ⟨ahpσ_44, bhpσ_44, chpσ_44⟩ := hpσ_44
      have fr_σ_44 := fr_σ_2.call chpσ_44 rfl rfl
      replace hF := q_biX hF bhpσ_44
      have mcσ_44 := m_cK hkσ_44 hI.1 ha (by decide)
      have feσ_44 : m_c X σ_44 a = m_c X σ a := (funext mcσ_44).trans feσ_2
      exact q_reti E hr hlk hI ⟨(hF.trans hout), fr_σ_44⟩ dX12_ready_36

set_option maxRecDepth 100000 in
set_option maxHeartbeats 4000000 in
theorem c_X12_heap (l : Launch) (X : XW) (σ : ST) (a : Nat) (v1 : Int32) (v2 : Int32) (ha : q_kd X a = 12) (hG : m_G (m_c X σ a)) : Met l yX12_heap (q_ws yX12_heap cX12_heap 9 (some .boolean)) (q_rm 5 114) (q_P X σ [.ref a, .int v1, .int v2]) (q_Qi X 8 σ (fun (r : Int32) (σ' : ST) => (0 ≤ r.toInt ∧ r.toInt ≤ 1) ∧ (r, σ') = F_X12_heap X σ a v1 v2 ∧ q_ow [(12, 0), (12, 1)] [(12, 2), (12, 3)] X σ σ')) 0 0 (q_reg X) := by
  refine q_met 8 (by first | exact rfl | decide +kernel) rfl (Nat.le_of_ble_eq_true rfl) (fun p e s m below meth c E hml hr hlk hI ls hl => ?_)
  have hx := E.1
  have hb := E.2.1
  have hl : lv_has ls 9 [(0, .ref a), (1, .int v1), (2, .int v2)] := hl
  have feσ : m_c X σ a = m_c X σ a := rfl
  have fr_σ : q_ow [(12, 0), (12, 1)] [(12, 2), (12, 3)] X σ σ := q_ow.rf
  have hh := hG.hd
  obtain ⟨out, hout⟩ : ∃ o, o = F_X12_heap X σ a v1 v2 := ⟨_, rfl⟩
  have hF := hout.symm
  unfold F_X12_heap at hF
  refine lv_aload_n hx hb dX12_heap_0 rfl (lv_at hl 0 rfl) ?_
  refine lv_iconst (v := 0) hx hb dX12_heap_1 (by decide) ?_
  refine ps_X12_59_12 E hI ha (by decide) dX12_heap_2 (fun H locs σ_1 hσ_1 hI => ?_)
  replace hF := q_letX hF hσ_1
  have fr_σ_1 := fr_σ.si hσ_1 ha rfl
  have mcσ_1 := m_wo hσ_1 (m_ne ha (q_tk (f := 20) (k' := 34) hI ha rfl (by decide)) (by decide))
  have feσ_1 : m_c X σ_1 a = m_c X σ a := (funext mcσ_1).trans feσ
  refine lv_aload_n hx hb dX12_heap_5 rfl (lv_at hl 0 rfl) ?_
  refine lv_iconst (v := 0) hx hb dX12_heap_6 (by decide) ?_
  refine ps_X12_62_12 E hI ha (by decide) dX12_heap_7 (fun H locs σ_2 hσ_2 hI => ?_)
  replace hF := q_letX hF hσ_2
  have fr_σ_2 := fr_σ_1.si hσ_2 ha rfl
  have mcσ_2 := m_wo hσ_2 (m_ne ha (q_tk (f := 20) (k' := 34) hI ha rfl (by decide)) (by decide))
  have feσ_2 : m_c X σ_2 a = m_c X σ a := (funext mcσ_2).trans feσ_1
  refine lv_aload_n hx hb dX12_heap_10 rfl (lv_at hl 0 rfl) ?_
  refine lv_iload_n hx hb dX12_heap_11 rfl (lv_at hl 1 rfl) ?_
  refine q_ci (q_runV (As := [.int v1]) (rest := []) E (hml.trans hl.1.symm) hI (c_X12_isPlayerAt l X σ_2 a v1 ha (by rw [feσ_2]; exact hG)) kv_X12_290 ha ⟨rfl, by decide⟩ (show vwCl[11]? = some (RX12, TX12, 46) from rfl) rfl ⟨Nat.le_of_ble_eq_true rfl, Nat.le_of_ble_eq_true rfl⟩ ⟨Nat.le_refl _, Nat.le_refl _⟩ rfl (Nat.le_of_ble_eq_true rfl) dX12_heap_12) hI (by decide) (fun r_3 σ_4 H locs hpσ_4 hkσ_4 hI => ?_)
  obtain ⟨ahpσ_4, bhpσ_4, chpσ_4, dhpσ_4⟩ := hpσ_4
  rw [ahpσ_4] at hI
  rw [feσ_2] at chpσ_4
  replace hF := q_letX hF dhpσ_4
  refine q_if_eq (A := r_3.toInt) E rfl (tgt := 26) dX12_heap_15 (by decide) (fun c_5 => ?_) (fun c_5 => ?_)
  · skip
    replace hF := q_ifp hF c_5
    replace chpσ_4 := q_ifNo chpσ_4 c_5
    refine lv_aload_n hx hb dX12_heap_26 rfl (lv_at hl 0 rfl) ?_
    refine lv_iconst (v := 2) hx hb dX12_heap_27 (by decide) ?_
    have kc_6 : (2 : Int32).toInt = 2 := rfl
    refine q_ci (q_runV (As := [.int 2]) (rest := []) E (hml.trans hl.1.symm) hI (c_X12_no l X σ_2 a (2 : Int32) ha) kv_X12_74 ha ⟨rfl, by decide⟩ (show vwCl[11]? = some (RX12, TX12, 46) from rfl) rfl ⟨Nat.le_of_ble_eq_true rfl, Nat.le_of_ble_eq_true rfl⟩ ⟨Nat.le_refl _, Nat.le_refl _⟩ rfl (Nat.le_of_ble_eq_true rfl) dX12_heap_28) hI (by decide) (fun r_7 σ_8 H locs hpσ_8 hkσ_8 hI => ?_)
    obtain ⟨ahpσ_8, bhpσ_8, chpσ_8, dhpσ_8⟩ := hpσ_8
    have fr_σ_8 := fr_σ_2.call dhpσ_8 rfl rfl
    replace hF := q_biX hF chpσ_8
    have mcσ_8 := m_cK hkσ_8 hI.1 ha (by decide)
    have feσ_8 : m_c X σ_8 a = m_c X σ a := (funext mcσ_8).trans feσ_2
    exact q_retz E hr hlk hI ⟨by omega, by omega⟩ ⟨⟨by omega, by omega⟩, (hF.trans hout), fr_σ_8⟩ dX12_heap_31
  · skip
    replace hF := q_ifn hF c_5
    replace c_5 := q_ifOne bhpσ_4 c_5
    replace chpσ_4 := q_ifYes chpσ_4 c_5
    refine lv_aload_n hx hb dX12_heap_18 rfl (lv_at hl 0 rfl) ?_
    refine lv_iload_n hx hb dX12_heap_19 rfl (lv_at hl 2 rfl) ?_
    refine q_ci (q_runV (As := [.int v2]) (rest := []) E (hml.trans hl.1.symm) hI (c_X12_isKindAt l X σ_2 a v2 ha (by rw [feσ_2]; exact hG)) kv_X12_299 ha ⟨rfl, by decide⟩ (show vwCl[11]? = some (RX12, TX12, 46) from rfl) rfl ⟨Nat.le_of_ble_eq_true rfl, Nat.le_of_ble_eq_true rfl⟩ ⟨Nat.le_refl _, Nat.le_refl _⟩ rfl (Nat.le_of_ble_eq_true rfl) dX12_heap_20) hI (by decide) (fun r_9 σ_10 H locs hpσ_10 hkσ_10 hI => ?_)
    obtain ⟨ahpσ_10, bhpσ_10, chpσ_10, dhpσ_10⟩ := hpσ_10
    rw [ahpσ_10] at hI
    rw [feσ_2] at chpσ_10
    replace hF := q_letX hF dhpσ_10
    refine q_if_ne (A := r_9.toInt) E rfl (tgt := 32) dX12_heap_23 (by decide) (fun c_11 => ?_) (fun c_11 => ?_)
    · skip
      replace hF := q_ifn hF c_11
      replace c_11 := q_ifOne bhpσ_10 c_11
      replace chpσ_10 := q_ifYes chpσ_10 c_11
      refine lv_aload_n hx hb dX12_heap_32 rfl (lv_at hl 0 rfl) ?_
      refine lv_iload_n hx hb dX12_heap_33 rfl (lv_at hl 1 rfl) ?_
      refine lv_iload_n hx hb dX12_heap_34 rfl (lv_at hl 2 rfl) ?_
      refine q_ci (q_runV (As := [.int v1, .int v2]) (rest := []) E (hml.trans hl.1.symm) hI (c_X12_laidOf l X σ_2 a v1 v2 ha (by rw [feσ_2]; exact hG)) kv_X12_296 ha ⟨rfl, by decide⟩ (show vwCl[11]? = some (RX12, TX12, 46) from rfl) rfl ⟨Nat.le_of_ble_eq_true rfl, Nat.le_of_ble_eq_true rfl⟩ ⟨Nat.le_refl _, Nat.le_refl _⟩ rfl (Nat.le_of_ble_eq_true rfl) dX12_heap_35) hI (by decide) (fun r_12 σ_13 H locs hpσ_13 hkσ_13 hI => ?_)
      obtain ⟨ahpσ_13, bhpσ_13, chpσ_13, dhpσ_13⟩ := hpσ_13
      rw [ahpσ_13] at hI
      rw [feσ_2] at bhpσ_13
      replace hF := q_letX hF dhpσ_13
      have ir_12 : r_12.toInt = (m_A (m_c X σ a) v1.toInt v2.toInt (m_c X σ a 9).toNat) := (by first | exact bhpσ_13 | (rw [bhpσ_13]) | (simp only [bhpσ_13]))
      refine lv_i2l hx hb dX12_heap_38 rfl ?_
      refine lv_topl (fun y_14 ey_14 => ?_)
      replace hF := q_letX hF ey_14
      have ggy_14 := q_rng r_12
      have iy_14 : y_14.toInt = r_12.toInt := by rw [ey_14]; exact (q_i2l _).trans rfl
      refine lv_lstore_n (lv' := [(3, .long y_14), (0, .ref a), (1, .int v1), (2, .int v2)]) hx hb dX12_heap_39 rfl hl (by decide) rfl (fun ls hl => ?_)
      refine lv_aload_n hx hb dX12_heap_40 rfl (lv_at hl 1 rfl) ?_
      refine q_ci (q_runV (As := []) (rest := []) E (hml.trans hl.1.symm) hI (c_X12_heapMany l X σ_2 a ha (by rw [feσ_2]; exact hG)) kv_X12_287 ha ⟨rfl, by decide⟩ (show vwCl[11]? = some (RX12, TX12, 46) from rfl) rfl ⟨Nat.le_of_ble_eq_true rfl, Nat.le_of_ble_eq_true rfl⟩ ⟨Nat.le_refl _, Nat.le_refl _⟩ rfl (Nat.le_of_ble_eq_true rfl) dX12_heap_41) hI (by decide) (fun r_15 σ_16 H locs hpσ_16 hkσ_16 hI => ?_)
      obtain ⟨ahpσ_16, bhpσ_16, chpσ_16, dhpσ_16⟩ := hpσ_16
      rw [ahpσ_16] at hI
      rw [feσ_2] at bhpσ_16
      replace hF := q_letX hF dhpσ_16
      refine lv_aload_n hx hb dX12_heap_44 rfl (lv_at hl 1 rfl) ?_
      refine lv_iload_n hx hb dX12_heap_45 rfl (lv_at hl 2 rfl) ?_
      refine lv_iconst (v := (-1)) hx hb dX12_heap_46 (by decide) ?_
      have kc_17 : ((-1) : Int32).toInt = (-1) := rfl
      refine q_ci (q_runV (As := [.int v1, .int (-1)]) (rest := [.int r_15]) E (hml.trans hl.1.symm) hI (c_X12_laidOf l X σ_2 a v1 ((-1) : Int32) ha (by rw [feσ_2]; exact hG)) kv_X12_296 ha ⟨rfl, by decide⟩ (show vwCl[11]? = some (RX12, TX12, 46) from rfl) rfl ⟨Nat.le_of_ble_eq_true rfl, Nat.le_of_ble_eq_true rfl⟩ ⟨Nat.le_refl _, Nat.le_refl _⟩ rfl (Nat.le_of_ble_eq_true rfl) dX12_heap_47) hI (by decide) (fun r_18 σ_19 H locs hpσ_19 hkσ_19 hI => ?_)
      obtain ⟨ahpσ_19, bhpσ_19, chpσ_19, dhpσ_19⟩ := hpσ_19
      rw [ahpσ_19] at hI
      rw [feσ_2] at bhpσ_19
      replace hF := q_letX hF dhpσ_19
      have ir_18 : r_18.toInt = (m_A (m_c X σ a) v1.toInt (-1) (m_c X σ a 9).toNat) := (by first | exact bhpσ_19 | (rw [bhpσ_19]) | (simp only [bhpσ_19]))
      refine lv_isub hx hb dX12_heap_50 ?_
      refine lv_topi (fun z_20 ez_20 => ?_)
      replace hF := q_letX hF ez_20
      have iz_20 := q_subI (A := r_15.toInt) (B := (m_A (m_c X σ a) v1.toInt (-1) (m_c X σ a 9).toNat)) ez_20 rfl ir_18 (by first | (clear hh ahpσ_4 bhpσ_4 dhpσ_4 c_5 chpσ_4 ahpσ_10 bhpσ_10 dhpσ_10 c_11 chpσ_10 ahpσ_13 bhpσ_13 chpσ_13 dhpσ_13 ir_12 ggy_14 iy_14 ahpσ_16 dhpσ_16 kc_17 ahpσ_19 dhpσ_19; omega) | omega) (by first | (clear hh ahpσ_4 bhpσ_4 dhpσ_4 c_5 chpσ_4 ahpσ_10 bhpσ_10 dhpσ_10 c_11 chpσ_10 ahpσ_13 bhpσ_13 chpσ_13 dhpσ_13 ir_12 ggy_14 iy_14 ahpσ_16 dhpσ_16 kc_17 ahpσ_19 dhpσ_19; omega) | omega)
      refine lv_i2l hx hb dX12_heap_51 rfl ?_
      refine lv_topl (fun y_21 ey_21 => ?_)
      replace hF := q_letX hF ey_21
      have ggy_21 := q_rng z_20
      have iy_21 : y_21.toInt = z_20.toInt := by rw [ey_21]; exact (q_i2l _).trans rfl
      refine lv_lstore (lv' := [(5, .long y_21), (3, .long y_14), (0, .ref a), (1, .int v1), (2, .int v2)]) hx hb dX12_heap_52 hl (by decide) rfl (fun ls hl => ?_)
      refine lv_aload_n hx hb dX12_heap_54 rfl (lv_at hl 2 rfl) ?_
      refine lv_iload_n hx hb dX12_heap_55 rfl (lv_at hl 3 rfl) ?_
      refine q_ci (q_runV (As := [.int v1]) (rest := []) E (hml.trans hl.1.symm) hI (c_X12_unknownAll l X σ_2 a v1 ha (by rw [feσ_2]; exact hG) (by rw [feσ_2]; exact (by omega))) kv_X12_339 ha ⟨rfl, by decide⟩ (show vwCl[11]? = some (RX12, TX12, 46) from rfl) rfl ⟨Nat.le_of_ble_eq_true rfl, Nat.le_of_ble_eq_true rfl⟩ ⟨Nat.le_refl _, Nat.le_refl _⟩ rfl (Nat.le_of_ble_eq_true rfl) dX12_heap_56) hI (by decide) (fun r_22 σ_23 H locs hpσ_23 hkσ_23 hI => ?_)
      obtain ⟨ahpσ_23, bhpσ_23, chpσ_23, dhpσ_23⟩ := hpσ_23
      rw [ahpσ_23] at hI
      rw [feσ_2] at bhpσ_23
      replace hF := q_letX hF dhpσ_23
      have ir_22 : r_22.toInt = (m_V (m_c X σ a) v1.toInt (m_c X σ a 0).toNat) := (by first | exact bhpσ_23 | (rw [bhpσ_23]) | (simp only [bhpσ_23]))
      refine lv_i2l hx hb dX12_heap_59 rfl ?_
      refine lv_topl (fun y_24 ey_24 => ?_)
      replace hF := q_letX hF ey_24
      have ggy_24 := q_rng r_22
      have iy_24 : y_24.toInt = r_22.toInt := by rw [ey_24]; exact (q_i2l _).trans rfl
      refine lv_lstore (lv' := [(7, .long y_24), (5, .long y_21), (3, .long y_14), (0, .ref a), (1, .int v1), (2, .int v2)]) hx hb dX12_heap_60 hl (by decide) rfl (fun ls hl => ?_)
      refine lv_lload hx hb dX12_heap_62 (lv_at hl 0 rfl) ?_
      refine lv_lconst (v := 0) hx hb dX12_heap_64 (by decide) ?_
      have kc_26 : (0 : Int64).toInt = 0 := rfl
      refine q_lcmpX E dX12_heap_65 (fun z_25 ez_25 hz_25 => ?_)
      replace hF := q_letX hF ez_25
      refine q_if_ne (A := z_25.toInt) E rfl (tgt := 76) dX12_heap_66 (by decide) (fun c_27 => ?_) (fun c_27 => ?_)
      · skip
        replace hF := q_ifn hF c_27
        refine lv_aload_n hx hb dX12_heap_76 rfl (lv_at hl 3 rfl) ?_
        refine lv_lload_n hx hb dX12_heap_77 rfl (lv_at hl 2 rfl) ?_
        refine lv_lload hx hb dX12_heap_78 (lv_at hl 0 rfl) ?_
        refine lv_lmul hx hb dX12_heap_80 ?_
        refine lv_topl (fun y_28 ey_28 => ?_)
        replace hF := q_letX hF ey_28
        refine lv_lload hx hb dX12_heap_81 (lv_at hl 1 rfl) ?_
        refine lv_aload_n hx hb dX12_heap_83 rfl (lv_at hl 3 rfl) ?_
        refine lv_iload_n hx hb dX12_heap_84 rfl (lv_at hl 4 rfl) ?_
        refine lv_iload_n hx hb dX12_heap_85 rfl (lv_at hl 5 rfl) ?_
        refine q_ci (q_runV (As := [.int v1, .int v2]) (rest := [.long y_21, .long y_28, .ref a]) E (hml.trans hl.1.symm) hI (c_X12_unknownOf l X σ_2 a v1 v2 ha (by rw [feσ_2]; exact hG) (by rw [feσ_2]; exact (by omega)) (by first | (clear ahpσ_4 bhpσ_4 dhpσ_4 c_5 chpσ_4 ahpσ_10 bhpσ_10 dhpσ_10 c_11 ahpσ_13 bhpσ_13 chpσ_13 dhpσ_13 ir_12 ggy_14 iy_14 ahpσ_16 bhpσ_16 chpσ_16 dhpσ_16 kc_17 ahpσ_19 bhpσ_19 chpσ_19 dhpσ_19 ir_18 iz_20 ggy_21 iy_21 ahpσ_23 bhpσ_23 chpσ_23 dhpσ_23 ir_22 ggy_24 iy_24 kc_26 hz_25 c_27; omega) | omega)) kv_X12_336 ha ⟨rfl, by decide⟩ (show vwCl[11]? = some (RX12, TX12, 46) from rfl) rfl ⟨Nat.le_of_ble_eq_true rfl, Nat.le_of_ble_eq_true rfl⟩ ⟨Nat.le_refl _, Nat.le_refl _⟩ rfl (Nat.le_of_ble_eq_true rfl) dX12_heap_86) hI (by decide) (fun r_29 σ_30 H locs hpσ_30 hkσ_30 hI => ?_)
        obtain ⟨ahpσ_30, bhpσ_30, chpσ_30, dhpσ_30⟩ := hpσ_30
        rw [ahpσ_30] at hI
        rw [feσ_2] at bhpσ_30
        replace hF := q_letX hF dhpσ_30
        have ir_29 : r_29.toInt = (m_U (m_c X σ a) v1.toInt v2.toInt) := (by first | exact bhpσ_30 | (rw [bhpσ_30]) | (simp only [bhpσ_30]))
        refine lv_i2l hx hb dX12_heap_89 rfl ?_
        refine lv_topl (fun y_31 ey_31 => ?_)
        replace hF := q_letX hF ey_31
        have ggy_31 := q_rng r_29
        have iy_31 : y_31.toInt = r_29.toInt := by rw [ey_31]; exact (q_i2l _).trans rfl
        refine lv_lmul hx hb dX12_heap_90 ?_
        refine lv_topl (fun y_32 ey_32 => ?_)
        replace hF := q_letX hF ey_32
        refine lv_ladd hx hb dX12_heap_91 ?_
        refine lv_topl (fun y_33 ey_33 => ?_)
        replace hF := q_letX hF ey_33
        refine lv_lload hx hb dX12_heap_92 (lv_at hl 0 rfl) ?_
        refine q_ci (q_runV (As := [.long y_33, .long y_24]) (rest := []) E (hml.trans hl.1.symm) hI (c_X12_fraction l X σ_2 a y_33 y_24 ha (by first | (clear hh ahpσ_4 bhpσ_4 dhpσ_4 c_5 chpσ_4 ahpσ_10 bhpσ_10 dhpσ_10 c_11 chpσ_10 ahpσ_13 bhpσ_13 chpσ_13 dhpσ_13 ir_12 ggy_14 iy_14 ahpσ_16 bhpσ_16 chpσ_16 dhpσ_16 kc_17 ahpσ_19 bhpσ_19 chpσ_19 dhpσ_19 ir_18 iz_20 ggy_21 iy_21 ahpσ_23 bhpσ_23 chpσ_23 dhpσ_23 ir_22 ggy_24 iy_24 ahpσ_30 bhpσ_30 chpσ_30 dhpσ_30 ir_29 ggy_31 iy_31; omega) | omega)) kv_X12_361 ha ⟨rfl, by decide⟩ (show vwCl[11]? = some (RX12, TX12, 46) from rfl) rfl ⟨Nat.le_of_ble_eq_true rfl, Nat.le_of_ble_eq_true rfl⟩ ⟨Nat.le_refl _, Nat.le_refl _⟩ rfl (Nat.le_of_ble_eq_true rfl) dX12_heap_94) hI (by decide) (fun r_34 σ_35 H locs hpσ_35 hkσ_35 hI => ?_)
        obtain ⟨ahpσ_35, bhpσ_35, chpσ_35⟩ := hpσ_35
        have fr_σ_35 := fr_σ_2.call chpσ_35 rfl rfl
        replace hF := q_biX hF bhpσ_35
        have mcσ_35 := m_cK hkσ_35 hI.1 ha (by decide)
        have feσ_35 : m_c X σ_35 a = m_c X σ a := (funext mcσ_35).trans feσ_2
        exact q_retz E hr hlk hI ⟨by omega, by omega⟩ ⟨⟨by omega, by omega⟩, (hF.trans hout), fr_σ_35⟩ dX12_heap_97
      · skip
        replace hF := q_ifp hF c_27
        refine lv_aload_n hx hb dX12_heap_69 rfl (lv_at hl 3 rfl) ?_
        refine lv_lload_n hx hb dX12_heap_70 rfl (lv_at hl 2 rfl) ?_
        refine lv_lconst (v := 1) hx hb dX12_heap_71 (by decide) ?_
        have kc_36 : (1 : Int64).toInt = 1 := rfl
        refine q_ci (q_runV (As := [.long y_14, .long 1]) (rest := []) E (hml.trans hl.1.symm) hI (c_X12_fraction l X σ_2 a y_14 (1 : Int64) ha (Or.inr (by decide))) kv_X12_361 ha ⟨rfl, by decide⟩ (show vwCl[11]? = some (RX12, TX12, 46) from rfl) rfl ⟨Nat.le_of_ble_eq_true rfl, Nat.le_of_ble_eq_true rfl⟩ ⟨Nat.le_refl _, Nat.le_refl _⟩ rfl (Nat.le_of_ble_eq_true rfl) dX12_heap_72) hI (by decide) (fun r_37 σ_38 H locs hpσ_38 hkσ_38 hI => ?_)
        obtain ⟨ahpσ_38, bhpσ_38, chpσ_38⟩ := hpσ_38
        have fr_σ_38 := fr_σ_2.call chpσ_38 rfl rfl
        replace hF := q_biX hF bhpσ_38
        have mcσ_38 := m_cK hkσ_38 hI.1 ha (by decide)
        have feσ_38 : m_c X σ_38 a = m_c X σ a := (funext mcσ_38).trans feσ_2
        exact q_retz E hr hlk hI ⟨by omega, by omega⟩ ⟨⟨by omega, by omega⟩, (hF.trans hout), fr_σ_38⟩ dX12_heap_75
    · skip
      replace hF := q_ifp hF c_11
      replace chpσ_10 := q_ifNo chpσ_10 c_11
      refine lv_aload_n hx hb dX12_heap_26 rfl (lv_at hl 0 rfl) ?_
      refine lv_iconst (v := 2) hx hb dX12_heap_27 (by decide) ?_
      have kc_39 : (2 : Int32).toInt = 2 := rfl
      refine q_ci (q_runV (As := [.int 2]) (rest := []) E (hml.trans hl.1.symm) hI (c_X12_no l X σ_2 a (2 : Int32) ha) kv_X12_74 ha ⟨rfl, by decide⟩ (show vwCl[11]? = some (RX12, TX12, 46) from rfl) rfl ⟨Nat.le_of_ble_eq_true rfl, Nat.le_of_ble_eq_true rfl⟩ ⟨Nat.le_refl _, Nat.le_refl _⟩ rfl (Nat.le_of_ble_eq_true rfl) dX12_heap_28) hI (by decide) (fun r_40 σ_41 H locs hpσ_41 hkσ_41 hI => ?_)
      obtain ⟨ahpσ_41, bhpσ_41, chpσ_41, dhpσ_41⟩ := hpσ_41
      have fr_σ_41 := fr_σ_2.call dhpσ_41 rfl rfl
      replace hF := q_biX hF chpσ_41
      have mcσ_41 := m_cK hkσ_41 hI.1 ha (by decide)
      have feσ_41 : m_c X σ_41 a = m_c X σ a := (funext mcσ_41).trans feσ_2
      exact q_retz E hr hlk hI ⟨by omega, by omega⟩ ⟨⟨by omega, by omega⟩, (hF.trans hout), fr_σ_41⟩ dX12_heap_31

set_option maxRecDepth 100000 in
set_option maxHeartbeats 4000000 in
theorem c_X12_said (l : Launch) (X : XW) (σ : ST) (a : Nat) (v1 : Int32) (v2 : Int32) (ha : q_kd X a = 12) (hG : m_G (m_c X σ a)) : Met l yX12_said (q_ws yX12_said cX12_said 5 (some .int)) (q_rm 2 46) (q_P X σ [.ref a, .int v1, .int v2]) (q_Qi X 8 σ (fun (r : Int32) (σ' : ST) => (r, σ') = F_X12_said X σ a v1 v2 ∧ q_ow [(12, 0), (12, 1)] [] X σ σ')) 0 0 (q_reg X) := by
  refine q_met 8 (by first | exact rfl | decide +kernel) rfl (Nat.le_of_ble_eq_true rfl) (fun p e s m below meth c E hml hr hlk hI ls hl => ?_)
  have hx := E.1
  have hb := E.2.1
  have hl : lv_has ls 5 [(0, .ref a), (1, .int v1), (2, .int v2)] := hl
  have feσ : m_c X σ a = m_c X σ a := rfl
  have fr_σ : q_ow [(12, 0), (12, 1)] [] X σ σ := q_ow.rf
  have hh := hG.hd
  obtain ⟨out, hout⟩ : ∃ o, o = F_X12_said X σ a v1 v2 := ⟨_, rfl⟩
  have hF := hout.symm
  unfold F_X12_said at hF
  refine lv_aload_n hx hb dX12_said_0 rfl (lv_at hl 0 rfl) ?_
  refine lv_iconst (v := 0) hx hb dX12_said_1 (by decide) ?_
  refine ps_X12_59_12 E hI ha (by decide) dX12_said_2 (fun H locs σ_1 hσ_1 hI => ?_)
  replace hF := q_letX hF hσ_1
  have fr_σ_1 := fr_σ.si hσ_1 ha rfl
  have mcσ_1 := m_wo hσ_1 (m_ne ha (q_tk (f := 20) (k' := 34) hI ha rfl (by decide)) (by decide))
  have feσ_1 : m_c X σ_1 a = m_c X σ a := (funext mcσ_1).trans feσ
  refine lv_aload_n hx hb dX12_said_5 rfl (lv_at hl 0 rfl) ?_
  refine lv_iconst (v := 0) hx hb dX12_said_6 (by decide) ?_
  refine ps_X12_62_12 E hI ha (by decide) dX12_said_7 (fun H locs σ_2 hσ_2 hI => ?_)
  replace hF := q_letX hF hσ_2
  have fr_σ_2 := fr_σ_1.si hσ_2 ha rfl
  have mcσ_2 := m_wo hσ_2 (m_ne ha (q_tk (f := 20) (k' := 34) hI ha rfl (by decide)) (by decide))
  have feσ_2 : m_c X σ_2 a = m_c X σ a := (funext mcσ_2).trans feσ_1
  refine lv_aload_n hx hb dX12_said_10 rfl (lv_at hl 0 rfl) ?_
  refine lv_iload_n hx hb dX12_said_11 rfl (lv_at hl 1 rfl) ?_
  refine q_ci (q_runV (As := [.int v1]) (rest := []) E (hml.trans hl.1.symm) hI (c_X12_isPlayerAt l X σ_2 a v1 ha (by rw [feσ_2]; exact hG)) kv_X12_290 ha ⟨rfl, by decide⟩ (show vwCl[11]? = some (RX12, TX12, 46) from rfl) rfl ⟨Nat.le_of_ble_eq_true rfl, Nat.le_of_ble_eq_true rfl⟩ ⟨Nat.le_refl _, Nat.le_refl _⟩ rfl (Nat.le_of_ble_eq_true rfl) dX12_said_12) hI (by decide) (fun r_3 σ_4 H locs hpσ_4 hkσ_4 hI => ?_)
  obtain ⟨ahpσ_4, bhpσ_4, chpσ_4, dhpσ_4⟩ := hpσ_4
  rw [ahpσ_4] at hI
  rw [feσ_2] at chpσ_4
  replace hF := q_letX hF dhpσ_4
  refine q_if_eq (A := r_3.toInt) E rfl (tgt := 26) dX12_said_15 (by decide) (fun c_5 => ?_) (fun c_5 => ?_)
  · skip
    replace hF := q_ifp hF c_5
    replace chpσ_4 := q_ifNo chpσ_4 c_5
    refine lv_aload_n hx hb dX12_said_26 rfl (lv_at hl 0 rfl) ?_
    refine lv_iconst (v := 2) hx hb dX12_said_27 (by decide) ?_
    have kc_6 : (2 : Int32).toInt = 2 := rfl
    refine q_ci (q_runV (As := [.int 2]) (rest := []) E (hml.trans hl.1.symm) hI (c_X12_refuse l X σ_2 a (2 : Int32) ha) kv_X12_284 ha ⟨rfl, by decide⟩ (show vwCl[11]? = some (RX12, TX12, 46) from rfl) rfl ⟨Nat.le_of_ble_eq_true rfl, Nat.le_of_ble_eq_true rfl⟩ ⟨Nat.le_refl _, Nat.le_refl _⟩ rfl (Nat.le_of_ble_eq_true rfl) dX12_said_28) hI (by decide) (fun r_7 σ_8 H locs hpσ_8 hkσ_8 hI => ?_)
    obtain ⟨ahpσ_8, bhpσ_8, chpσ_8⟩ := hpσ_8
    have fr_σ_8 := fr_σ_2.call chpσ_8 rfl rfl
    replace hF := q_biX hF bhpσ_8
    have mcσ_8 := m_cK hkσ_8 hI.1 ha (by decide)
    have feσ_8 : m_c X σ_8 a = m_c X σ a := (funext mcσ_8).trans feσ_2
    exact q_reti E hr hlk hI ⟨(hF.trans hout), fr_σ_8⟩ dX12_said_31
  · skip
    replace hF := q_ifn hF c_5
    replace c_5 := q_ifOne bhpσ_4 c_5
    replace chpσ_4 := q_ifYes chpσ_4 c_5
    refine lv_aload_n hx hb dX12_said_18 rfl (lv_at hl 0 rfl) ?_
    refine lv_iload_n hx hb dX12_said_19 rfl (lv_at hl 2 rfl) ?_
    refine q_ci (q_runV (As := [.int v2]) (rest := []) E (hml.trans hl.1.symm) hI (c_X12_isKindAt l X σ_2 a v2 ha (by rw [feσ_2]; exact hG)) kv_X12_299 ha ⟨rfl, by decide⟩ (show vwCl[11]? = some (RX12, TX12, 46) from rfl) rfl ⟨Nat.le_of_ble_eq_true rfl, Nat.le_of_ble_eq_true rfl⟩ ⟨Nat.le_refl _, Nat.le_refl _⟩ rfl (Nat.le_of_ble_eq_true rfl) dX12_said_20) hI (by decide) (fun r_9 σ_10 H locs hpσ_10 hkσ_10 hI => ?_)
    obtain ⟨ahpσ_10, bhpσ_10, chpσ_10, dhpσ_10⟩ := hpσ_10
    rw [ahpσ_10] at hI
    rw [feσ_2] at chpσ_10
    replace hF := q_letX hF dhpσ_10
    refine q_if_ne (A := r_9.toInt) E rfl (tgt := 32) dX12_said_23 (by decide) (fun c_11 => ?_) (fun c_11 => ?_)
    · skip
      replace hF := q_ifn hF c_11
      replace c_11 := q_ifOne bhpσ_10 c_11
      replace chpσ_10 := q_ifYes chpσ_10 c_11
      refine lv_iconst (v := 0) hx hb dX12_said_32 (by decide) ?_
      refine lv_istore_n (lv' := [(3, .int 0), (0, .ref a), (1, .int v1), (2, .int v2)]) hx hb dX12_said_33 rfl hl (by decide) rfl (fun ls hl => ?_)
      refine lv_iconst (v := 0) hx hb dX12_said_34 (by decide) ?_
      refine lv_istore (lv' := [(4, .int 0), (3, .int 0), (0, .ref a), (1, .int v1), (2, .int v2)]) hx hb dX12_said_35 hl (by decide) rfl (fun ls hl => ?_)
      have L_37_14 : ∀ (k_14 : Nat) (x_12 : Int32) (x_13 : Int32) (H : Heap) (locs : List Loc) (ls : Array Slot), (2147483647 - x_13.toInt).toNat < k_14 → (0 ≤ x_13.toInt ∧ 0 ≤ x_12.toInt ∧ x_12.toInt ≤ x_13.toInt) → (F_X12_said_L37_1 X σ_2 a v1 v2 k_14 x_12 x_13 = out) → q_I X 8 σ s.heap locs σ_2 H → lv_has ls 5 [(0, .ref a), (1, .int v1), (2, .int v2), (3, .int x_12), (4, .int x_13)] → W p l e (q_rm 2 46) s m ([.ref a, .int v1, .int v2] : List Value).toArray below meth c H locs 0 0 (MQ below (q_Qi X 8 σ (fun (r : Int32) (σ' : ST) => (r, σ') = F_X12_said X σ a v1 v2 ∧ q_ow [(12, 0), (12, 1)] [] X σ σ')) ([.ref a, .int v1, .int v2] : List Value).toArray s 0 0 (q_reg X)) (F0 m 37 ls []) := by
        clear hF
        intro k_14
        induction k_14 with
        | zero =>
          intro x_12 x_13 H locs ls hms
          exact absurd hms (Nat.not_lt_zero _)
        | succ k_14 ih37 =>
          intro x_12 x_13 H locs ls hm37 hge37 hF hI hl
          replace hF := (F_X12_said_L37_1_s).symm.trans hF
          unfold F_X12_said_B37_1 at hF
          refine lv_iload hx hb dX12_said_37 (lv_at hl 4 rfl) ?_
          refine lv_aload_n hx hb dX12_said_39 rfl (lv_at hl 0 rfl) ?_
          refine gs_X12_35_12 E hI ha dX12_said_40 ?_
          refine lv_bipush (v := 9) hx hb dX12_said_43 (by decide) ?_
          refine q_iald E hI (q_tk (k' := 34) hI ha rfl (by decide)) ⟨by decide, rfl⟩ (by decide) (by rw [q_lnk (v := 4650) hI (q_tk (k' := 34) hI ha rfl (by decide)) rfl (by decide)]; decide) dX12_said_45 ?_
          refine lv_topi (fun f_15 ef_15 => ?_)
          replace hF := q_letX hF ef_15
          have if_15 : f_15.toInt = m_c X σ a 9 := (m_rd ef_15 (by decide)).trans (congrFun feσ_2 _)
          have gc_16_x_13 := q_rng x_13
          have gc_16_f_15 := q_rng f_15
          refine q_icmp_ge (A := x_13.toInt) (B := f_15.toInt) E rfl rfl (tgt := 93) dX12_said_46 (by decide) (fun c_16 => ?_) (fun c_16 => ?_)
          · skip
            replace hF := q_ifn hF (Int.not_lt.mpr c_16)
            skip
            refine lv_iload_n hx hb dX12_said_93 rfl (lv_at hl 3 rfl) ?_
            exact q_reti E hr hlk hI ⟨(hF.trans hout), fr_σ_2⟩ dX12_said_94
          · skip
            replace hF := q_ifp hF c_16
            refine lv_iload_n hx hb dX12_said_49 rfl (lv_at hl 3 rfl) ?_
            refine lv_aload_n hx hb dX12_said_50 rfl (lv_at hl 0 rfl) ?_
            refine gs_X12_35_12 E hI ha dX12_said_51 ?_
            refine lv_iload hx hb dX12_said_54 (lv_at hl 4 rfl) ?_
            refine q_ci (q_runS (As := [.int x_13]) (rest := [.ref (q_rf X a 20), .int x_12]) E (hml.trans hl.1.symm) hI (c_X12_laid l X σ_2 x_13 (by first | (clear ahpσ_4 bhpσ_4 dhpσ_4 c_5 chpσ_4 ahpσ_10 bhpσ_10 dhpσ_10 c_11 chpσ_10 hm37 gc_16_f_15; omega) | omega)) ks_X12_279 rfl ⟨Nat.le_of_ble_eq_true rfl, Nat.le_of_ble_eq_true rfl⟩ ⟨Nat.le_refl _, Nat.le_refl _⟩ rfl (Nat.le_of_ble_eq_true rfl) dX12_said_56) hI (by decide) (fun r_17 σ_18 H locs hpσ_18 hkσ_18 hI => ?_)
            obtain ⟨ahpσ_18, bhpσ_18, chpσ_18⟩ := hpσ_18
            rw [ahpσ_18] at hI
            replace hF := q_letX hF chpσ_18
            have ir_17 : r_17.toInt = (94 + 7 * x_13.toInt) := (by omega)
            refine q_iald E hI (q_tk (k' := 34) hI ha rfl (by decide)) ⟨by decide, rfl⟩ (by first | (clear hh ahpσ_4 bhpσ_4 dhpσ_4 c_5 chpσ_4 ahpσ_10 bhpσ_10 dhpσ_10 c_11 chpσ_10 hm37 if_15 gc_16_x_13 gc_16_f_15 c_16 ahpσ_18 chpσ_18 ir_17; omega) | omega) (by rw [q_lnk (v := 4650) hI (q_tk (k' := 34) hI ha rfl (by decide)) rfl (by decide)]; omega) dX12_said_59 ?_
            refine lv_topi (fun f_19 ef_19 => ?_)
            replace hF := q_letX hF ef_19
            have if_19 : f_19.toInt = m_c X σ a (94 + 7 * x_13.toInt) := (m_rd ef_19 ir_17).trans (congrFun feσ_2 _)
            refine lv_iload_n hx hb dX12_said_60 rfl (lv_at hl 1 rfl) ?_
            have gc_20_f_19 := q_rng f_19
            have gc_20_v1 := q_rng v1
            refine q_icmp_ne (A := f_19.toInt) (B := v1.toInt) E rfl rfl (tgt := 84) dX12_said_61 (by decide) (fun c_20 => ?_) (fun c_20 => ?_)
            · skip
              replace hF := q_ifn hF c_20
              refine lv_iconst (v := 0) hx hb dX12_said_84 (by decide) ?_
              refine lv_iadd hx hb dX12_said_85 ?_
              refine lv_topi (fun z_21 ez_21 => ?_)
              replace hF := q_letX hF ez_21
              have iz_21 := q_addI (A := x_12.toInt) (B := 0) ez_21 rfl (by decide) (by first | (clear hh ahpσ_4 bhpσ_4 dhpσ_4 c_5 chpσ_4 ahpσ_10 bhpσ_10 dhpσ_10 c_11 chpσ_10 hm37 if_15 gc_16_x_13 gc_16_f_15 c_16 ahpσ_18 bhpσ_18 chpσ_18 ir_17 if_19 gc_20_f_19 gc_20_v1 c_20; omega) | omega) (by first | (clear hh ahpσ_4 bhpσ_4 dhpσ_4 c_5 chpσ_4 ahpσ_10 bhpσ_10 dhpσ_10 c_11 chpσ_10 hm37 if_15 gc_16_f_15 c_16 ahpσ_18 bhpσ_18 chpσ_18 ir_17 if_19 gc_20_f_19 gc_20_v1 c_20; omega) | omega)
              refine lv_istore_n (lv' := [(3, .int z_21), (0, .ref a), (1, .int v1), (2, .int v2), (4, .int x_13)]) hx hb dX12_said_86 rfl hl (by decide) rfl (fun ls hl => ?_)
              obtain ⟨z_22, ez_22⟩ : ∃ y : Int32, y = x_13 + 1 := ⟨_, rfl⟩
              replace hF := q_letX hF ez_22
              refine lv_iinc (v := z_22) (lv' := [(4, .int z_22), (3, .int z_21), (0, .ref a), (1, .int v1), (2, .int v2)]) hx hb dX12_said_87 hl (k := 4) rfl (by rw [ez_22]; rfl) (by decide) rfl (fun ls hl => ?_)
              have iz_22 : z_22.toInt = x_13.toInt + 1 := q_inc ez_22 (by first | (clear ahpσ_4 bhpσ_4 dhpσ_4 c_5 chpσ_4 ahpσ_10 bhpσ_10 dhpσ_10 c_11 chpσ_10 hm37 gc_16_f_15 ahpσ_18 bhpσ_18 chpσ_18 ir_17 if_19 gc_20_f_19 gc_20_v1 c_20 iz_21; omega) | omega)
              refine lv_goto (tgt := 37) hx hb dX12_said_90 (by decide) ?_
              exact ih37 z_21 z_22 _ _ ls (by first | (clear ahpσ_4 bhpσ_4 dhpσ_4 c_5 chpσ_4 ahpσ_10 bhpσ_10 dhpσ_10 c_11 chpσ_10 gc_16_f_15 ahpσ_18 bhpσ_18 chpσ_18 ir_17 if_19 gc_20_f_19 gc_20_v1 iz_21; omega) | omega) (by first | (clear hh ahpσ_4 bhpσ_4 dhpσ_4 c_5 chpσ_4 ahpσ_10 bhpσ_10 dhpσ_10 c_11 chpσ_10 hm37 if_15 gc_16_f_15 c_16 ahpσ_18 bhpσ_18 chpσ_18 ir_17 if_19 gc_20_f_19 gc_20_v1 c_20; omega) | omega) hF hI (lv_sub hl [2, 3, 4, 1, 0] rfl)
            · skip
              replace hF := q_ifp hF c_20
              refine lv_aload_n hx hb dX12_said_64 rfl (lv_at hl 0 rfl) ?_
              refine gs_X12_35_12 E hI ha dX12_said_65 ?_
              refine lv_iload hx hb dX12_said_68 (lv_at hl 4 rfl) ?_
              refine q_ci (q_runS (As := [.int x_13]) (rest := [.ref (q_rf X a 20), .int x_12]) E (hml.trans hl.1.symm) hI (c_X12_laid l X σ_2 x_13 (by first | (clear ahpσ_4 bhpσ_4 dhpσ_4 c_5 chpσ_4 ahpσ_10 bhpσ_10 dhpσ_10 c_11 chpσ_10 hm37 gc_16_f_15 ahpσ_18 bhpσ_18 chpσ_18 ir_17 if_19 gc_20_f_19 gc_20_v1 c_20; omega) | omega)) ks_X12_279 rfl ⟨Nat.le_of_ble_eq_true rfl, Nat.le_of_ble_eq_true rfl⟩ ⟨Nat.le_refl _, Nat.le_refl _⟩ rfl (Nat.le_of_ble_eq_true rfl) dX12_said_70) hI (by decide) (fun r_23 σ_24 H locs hpσ_24 hkσ_24 hI => ?_)
              obtain ⟨ahpσ_24, bhpσ_24, chpσ_24⟩ := hpσ_24
              rw [ahpσ_24] at hI
              replace hF := q_letX hF chpσ_24
              have ir_23 : r_23.toInt = (94 + 7 * x_13.toInt) := (by omega)
              refine lv_iconst (v := 1) hx hb dX12_said_73 (by decide) ?_
              refine lv_iadd hx hb dX12_said_74 ?_
              refine lv_topi (fun z_25 ez_25 => ?_)
              replace hF := q_letX hF ez_25
              have iz_25 := q_addI (A := (94 + 7 * x_13.toInt)) (B := 1) ez_25 ir_23 (by decide) (by first | (clear hh ahpσ_4 bhpσ_4 dhpσ_4 c_5 chpσ_4 ahpσ_10 bhpσ_10 dhpσ_10 c_11 chpσ_10 hm37 if_15 gc_16_f_15 c_16 ahpσ_18 bhpσ_18 chpσ_18 ir_17 if_19 gc_20_f_19 gc_20_v1 c_20 ahpσ_24 bhpσ_24 chpσ_24 ir_23; omega) | omega) (by first | (clear ahpσ_4 bhpσ_4 dhpσ_4 c_5 chpσ_4 ahpσ_10 bhpσ_10 dhpσ_10 c_11 chpσ_10 hm37 gc_16_f_15 ahpσ_18 bhpσ_18 chpσ_18 ir_17 if_19 gc_20_f_19 gc_20_v1 c_20 ahpσ_24 bhpσ_24 chpσ_24 ir_23; omega) | omega)
              refine q_iald E hI (q_tk (k' := 34) hI ha rfl (by decide)) ⟨by decide, rfl⟩ (by first | (clear hh ahpσ_4 bhpσ_4 dhpσ_4 c_5 chpσ_4 ahpσ_10 bhpσ_10 dhpσ_10 c_11 chpσ_10 hm37 if_15 gc_16_x_13 gc_16_f_15 c_16 ahpσ_18 bhpσ_18 chpσ_18 ir_17 if_19 gc_20_f_19 gc_20_v1 c_20 ahpσ_24 bhpσ_24 chpσ_24 ir_23; omega) | omega) (by rw [q_lnk (v := 4650) hI (q_tk (k' := 34) hI ha rfl (by decide)) rfl (by decide)]; omega) dX12_said_75 ?_
              refine lv_topi (fun f_26 ef_26 => ?_)
              replace hF := q_letX hF ef_26
              have if_26 : f_26.toInt = m_c X σ a ((94 + 7 * x_13.toInt) + 1) := (m_rd ef_26 iz_25).trans (congrFun feσ_2 _)
              refine lv_iload_n hx hb dX12_said_76 rfl (lv_at hl 2 rfl) ?_
              have gc_27_f_26 := q_rng f_26
              have gc_27_v2 := q_rng v2
              refine q_icmp_ne (A := f_26.toInt) (B := v2.toInt) E rfl rfl (tgt := 84) dX12_said_77 (by decide) (fun c_27 => ?_) (fun c_27 => ?_)
              · skip
                replace hF := q_ifn hF c_27
                refine lv_iconst (v := 0) hx hb dX12_said_84 (by decide) ?_
                refine lv_iadd hx hb dX12_said_85 ?_
                refine lv_topi (fun z_28 ez_28 => ?_)
                replace hF := q_letX hF ez_28
                have iz_28 := q_addI (A := x_12.toInt) (B := 0) ez_28 rfl (by decide) (by first | (clear hh ahpσ_4 bhpσ_4 dhpσ_4 c_5 chpσ_4 ahpσ_10 bhpσ_10 dhpσ_10 c_11 chpσ_10 hm37 if_15 gc_16_x_13 gc_16_f_15 c_16 ahpσ_18 bhpσ_18 chpσ_18 ir_17 if_19 gc_20_f_19 gc_20_v1 c_20 ahpσ_24 bhpσ_24 chpσ_24 ir_23 iz_25 if_26 gc_27_f_26 gc_27_v2 c_27; omega) | omega) (by first | (clear hh ahpσ_4 bhpσ_4 dhpσ_4 c_5 chpσ_4 ahpσ_10 bhpσ_10 dhpσ_10 c_11 chpσ_10 hm37 if_15 gc_16_f_15 c_16 ahpσ_18 bhpσ_18 chpσ_18 ir_17 if_19 gc_20_f_19 gc_20_v1 c_20 ahpσ_24 bhpσ_24 chpσ_24 ir_23 iz_25 if_26 gc_27_f_26 gc_27_v2 c_27; omega) | omega)
                refine lv_istore_n (lv' := [(3, .int z_28), (0, .ref a), (1, .int v1), (2, .int v2), (4, .int x_13)]) hx hb dX12_said_86 rfl hl (by decide) rfl (fun ls hl => ?_)
                obtain ⟨z_29, ez_29⟩ : ∃ y : Int32, y = x_13 + 1 := ⟨_, rfl⟩
                replace hF := q_letX hF ez_29
                refine lv_iinc (v := z_29) (lv' := [(4, .int z_29), (3, .int z_28), (0, .ref a), (1, .int v1), (2, .int v2)]) hx hb dX12_said_87 hl (k := 4) rfl (by rw [ez_29]; rfl) (by decide) rfl (fun ls hl => ?_)
                have iz_29 : z_29.toInt = x_13.toInt + 1 := q_inc ez_29 (by first | (clear ahpσ_4 bhpσ_4 dhpσ_4 c_5 chpσ_4 ahpσ_10 bhpσ_10 dhpσ_10 c_11 chpσ_10 hm37 gc_16_f_15 ahpσ_18 bhpσ_18 chpσ_18 ir_17 if_19 gc_20_f_19 gc_20_v1 c_20 ahpσ_24 bhpσ_24 chpσ_24 ir_23 iz_25 if_26 gc_27_f_26 gc_27_v2 c_27 iz_28; omega) | omega)
                refine lv_goto (tgt := 37) hx hb dX12_said_90 (by decide) ?_
                exact ih37 z_28 z_29 _ _ ls (by first | (clear ahpσ_4 bhpσ_4 dhpσ_4 c_5 chpσ_4 ahpσ_10 bhpσ_10 dhpσ_10 c_11 chpσ_10 gc_16_f_15 ahpσ_18 bhpσ_18 chpσ_18 ir_17 if_19 gc_20_f_19 gc_20_v1 c_20 ahpσ_24 bhpσ_24 chpσ_24 ir_23 iz_25 if_26 gc_27_f_26 gc_27_v2 iz_28; omega) | omega) (by first | (clear hh ahpσ_4 bhpσ_4 dhpσ_4 c_5 chpσ_4 ahpσ_10 bhpσ_10 dhpσ_10 c_11 chpσ_10 hm37 if_15 gc_16_f_15 c_16 ahpσ_18 bhpσ_18 chpσ_18 ir_17 if_19 gc_20_f_19 gc_20_v1 c_20 ahpσ_24 bhpσ_24 chpσ_24 ir_23 iz_25 if_26 gc_27_f_26 gc_27_v2 c_27; omega) | omega) hF hI (lv_sub hl [2, 3, 4, 1, 0] rfl)
              · skip
                replace hF := q_ifp hF c_27
                refine lv_iconst (v := 1) hx hb dX12_said_80 (by decide) ?_
                refine lv_goto (tgt := 85) hx hb dX12_said_81 (by decide) ?_
                refine lv_iadd hx hb dX12_said_85 ?_
                refine lv_topi (fun z_30 ez_30 => ?_)
                replace hF := q_letX hF ez_30
                have iz_30 := q_addI (A := x_12.toInt) (B := 1) ez_30 rfl (by decide) (by first | (clear hh ahpσ_4 bhpσ_4 dhpσ_4 c_5 chpσ_4 ahpσ_10 bhpσ_10 dhpσ_10 c_11 chpσ_10 hm37 if_15 gc_16_x_13 gc_16_f_15 c_16 ahpσ_18 bhpσ_18 chpσ_18 ir_17 if_19 gc_20_f_19 gc_20_v1 c_20 ahpσ_24 bhpσ_24 chpσ_24 ir_23 iz_25 if_26 gc_27_f_26 gc_27_v2 c_27; omega) | omega) (by first | (clear ahpσ_4 bhpσ_4 dhpσ_4 c_5 chpσ_4 ahpσ_10 bhpσ_10 dhpσ_10 c_11 chpσ_10 hm37 gc_16_x_13 gc_16_f_15 ahpσ_18 bhpσ_18 chpσ_18 ir_17 if_19 gc_20_f_19 gc_20_v1 c_20 ahpσ_24 bhpσ_24 chpσ_24 ir_23 iz_25 if_26 gc_27_f_26 gc_27_v2 c_27; omega) | omega)
                refine lv_istore_n (lv' := [(3, .int z_30), (0, .ref a), (1, .int v1), (2, .int v2), (4, .int x_13)]) hx hb dX12_said_86 rfl hl (by decide) rfl (fun ls hl => ?_)
                obtain ⟨z_31, ez_31⟩ : ∃ y : Int32, y = x_13 + 1 := ⟨_, rfl⟩
                replace hF := q_letX hF ez_31
                refine lv_iinc (v := z_31) (lv' := [(4, .int z_31), (3, .int z_30), (0, .ref a), (1, .int v1), (2, .int v2)]) hx hb dX12_said_87 hl (k := 4) rfl (by rw [ez_31]; rfl) (by decide) rfl (fun ls hl => ?_)
                have iz_31 : z_31.toInt = x_13.toInt + 1 := q_inc ez_31 (by first | (clear ahpσ_4 bhpσ_4 dhpσ_4 c_5 chpσ_4 ahpσ_10 bhpσ_10 dhpσ_10 c_11 chpσ_10 hm37 gc_16_f_15 ahpσ_18 bhpσ_18 chpσ_18 ir_17 if_19 gc_20_f_19 gc_20_v1 c_20 ahpσ_24 bhpσ_24 chpσ_24 ir_23 iz_25 if_26 gc_27_f_26 gc_27_v2 c_27 iz_30; omega) | omega)
                refine lv_goto (tgt := 37) hx hb dX12_said_90 (by decide) ?_
                exact ih37 z_30 z_31 _ _ ls (by first | (clear ahpσ_4 bhpσ_4 dhpσ_4 c_5 chpσ_4 ahpσ_10 bhpσ_10 dhpσ_10 c_11 chpσ_10 gc_16_f_15 ahpσ_18 bhpσ_18 chpσ_18 ir_17 if_19 gc_20_f_19 gc_20_v1 c_20 ahpσ_24 bhpσ_24 chpσ_24 ir_23 iz_25 if_26 gc_27_f_26 gc_27_v2 c_27 iz_30; omega) | omega) (by first | (clear hh ahpσ_4 bhpσ_4 dhpσ_4 c_5 chpσ_4 ahpσ_10 bhpσ_10 dhpσ_10 c_11 chpσ_10 hm37 if_15 gc_16_f_15 c_16 ahpσ_18 bhpσ_18 chpσ_18 ir_17 if_19 gc_20_f_19 gc_20_v1 c_20 ahpσ_24 bhpσ_24 chpσ_24 ir_23 iz_25 if_26 gc_27_f_26 gc_27_v2 c_27; omega) | omega) hF hI (lv_sub hl [2, 3, 4, 1, 0] rfl)
      have kc_32 : (0 : Int32).toInt = 0 := rfl
      exact L_37_14 ((2147483647 - (0 : Int32).toInt).toNat + 1) 0 0 _ _ ls (Nat.lt_succ_self _) (by decide) hF hI (lv_sub hl [2, 3, 4, 1, 0] rfl)
    · skip
      replace hF := q_ifp hF c_11
      replace chpσ_10 := q_ifNo chpσ_10 c_11
      refine lv_aload_n hx hb dX12_said_26 rfl (lv_at hl 0 rfl) ?_
      refine lv_iconst (v := 2) hx hb dX12_said_27 (by decide) ?_
      have kc_33 : (2 : Int32).toInt = 2 := rfl
      refine q_ci (q_runV (As := [.int 2]) (rest := []) E (hml.trans hl.1.symm) hI (c_X12_refuse l X σ_2 a (2 : Int32) ha) kv_X12_284 ha ⟨rfl, by decide⟩ (show vwCl[11]? = some (RX12, TX12, 46) from rfl) rfl ⟨Nat.le_of_ble_eq_true rfl, Nat.le_of_ble_eq_true rfl⟩ ⟨Nat.le_refl _, Nat.le_refl _⟩ rfl (Nat.le_of_ble_eq_true rfl) dX12_said_28) hI (by decide) (fun r_34 σ_35 H locs hpσ_35 hkσ_35 hI => ?_)
      obtain ⟨ahpσ_35, bhpσ_35, chpσ_35⟩ := hpσ_35
      have fr_σ_35 := fr_σ_2.call chpσ_35 rfl rfl
      replace hF := q_biX hF bhpσ_35
      have mcσ_35 := m_cK hkσ_35 hI.1 ha (by decide)
      have feσ_35 : m_c X σ_35 a = m_c X σ a := (funext mcσ_35).trans feσ_2
      exact q_reti E hr hlk hI ⟨(hF.trans hout), fr_σ_35⟩ dX12_said_31
