section
set_option maxRecDepth 100000 in
set_option maxHeartbeats 4000000 in
theorem c_X12_honest (l : Launch) (X : XW) (σ : ST) (a : Nat) (v1 : Int32) (n : Int) (ha : q_kd X a = 12) (hG : m_G (m_c X σ a)) (hW : m_W (m_c X σ a) n) (hn : n ≤ 200000) : Met l yX12_honest (q_ws yX12_honest cX12_honest 2 (some .boolean)) (q_rm 2 51) (q_P X σ [.ref a, .int v1]) (q_Qi X 8 σ (fun (r : Int32) (σ' : ST) => (0 ≤ r.toInt ∧ r.toInt ≤ 1) ∧ (r, σ') = F_X12_honest X σ a v1 ∧ q_ow [(12, 0), (12, 1)] [(12, 2), (12, 3)] X σ σ')) 0 0 (q_reg X) := by
  refine q_met 8 (by first | exact rfl | decide +kernel) rfl (Nat.le_of_ble_eq_true rfl) (fun p e s m below meth c E hml hr hlk hI ls hl => ?_)
  have hx := E.1
  have hb := E.2.1
  have hl : lv_has ls 2 [(0, .ref a), (1, .int v1)] := hl
  have feσ : m_c X σ a = m_c X σ a := rfl
  have fr_σ : q_ow [(12, 0), (12, 1)] [(12, 2), (12, 3)] X σ σ := q_ow.rf
  have hh := hG.hd
  obtain ⟨out, hout⟩ : ∃ o, o = F_X12_honest X σ a v1 := ⟨_, rfl⟩
  have hF := hout.symm
  unfold F_X12_honest at hF
  refine lv_aload_n hx hb dX12_honest_0 rfl (lv_at hl 0 rfl) ?_
  refine lv_iconst (v := 0) hx hb dX12_honest_1 zki_0 ?_
  refine ps_X12_59_12 E hI ha (by decide) dX12_honest_2 (fun H locs σ_1 hσ_1 hI => ?_)
  replace hF := q_letX hF hσ_1
  have fr_σ_1 := fr_σ.si hσ_1 ha rfl
  have mcσ_1 := m_wo hσ_1 (m_ne ha (q_tk (f := 20) (k' := 34) hI ha rfl (by decide)) (by decide))
  have feσ_1 : m_c X σ_1 a = m_c X σ a := (funext mcσ_1).trans feσ
  refine lv_aload_n hx hb dX12_honest_5 rfl (lv_at hl 0 rfl) ?_
  refine lv_iconst (v := 0) hx hb dX12_honest_6 zki_0 ?_
  refine ps_X12_62_12 E hI ha (by decide) dX12_honest_7 (fun H locs σ_2 hσ_2 hI => ?_)
  replace hF := q_letX hF hσ_2
  have fr_σ_2 := fr_σ_1.si hσ_2 ha rfl
  have mcσ_2 := m_wo hσ_2 (m_ne ha (q_tk (f := 20) (k' := 34) hI ha rfl (by decide)) (by decide))
  have feσ_2 : m_c X σ_2 a = m_c X σ a := (funext mcσ_2).trans feσ_1
  refine lv_aload_n hx hb dX12_honest_10 rfl (lv_at hl 0 rfl) ?_
  refine lv_iload_n hx hb dX12_honest_11 rfl (lv_at hl 1 rfl) ?_
  refine q_ci (q_rV11_1 (rest := []) E (hml.trans hl.1.symm) hI (c_X12_isPlayerAt l X σ_2 a v1 ha (by rw [feσ_2]; exact hG)) kv_X12_290 ha ⟨Nat.le_of_ble_eq_true rfl, Nat.le_of_ble_eq_true rfl⟩ (Nat.le_of_ble_eq_true rfl) dX12_honest_12) hI (Nat.le_of_ble_eq_true rfl) (fun r_3 σ_4 H locs hpσ_4 hkσ_4 hI => ?_)
  have ahpσ_4 := hpσ_4.1
  have bhpσ_4 := hpσ_4.2.1
  have chpσ_4 := hpσ_4.2.2.1
  have dhpσ_4 := hpσ_4.2.2.2
  clear hpσ_4
  replace hI := q_Irw ahpσ_4 hI
  rw [feσ_2] at chpσ_4
  replace hF := q_letX hF dhpσ_4
  refine q_if_ne (A := r_3.toInt) E rfl (tgt := 24) dX12_honest_15 (by decide) (fun c_5 => ?_) (fun c_5 => ?_)
  · skip
    replace hF := q_ifn hF c_5
    replace c_5 := q_ifOne bhpσ_4 c_5
    replace chpσ_4 := q_ifYes chpσ_4 c_5
    have hw := hW v1.toInt (by first | (clear hn hh ahpσ_4 bhpσ_4 dhpσ_4 c_5; omega) | omega) (by first | (clear hn ahpσ_4 bhpσ_4 dhpσ_4 c_5; omega) | omega)
    refine lv_aload_n hx hb dX12_honest_24 rfl (lv_at hl 0 rfl) ?_
    refine lv_aload_n hx hb dX12_honest_25 rfl (lv_at hl 0 rfl) ?_
    refine gs_X12_35_12 E hI ha dX12_honest_26 ?_
    refine lv_bipush (v := 22) hx hb dX12_honest_29 zkb_22 ?_
    refine lv_iload_n hx hb dX12_honest_31 rfl (lv_at hl 1 rfl) ?_
    refine lv_iadd hx hb dX12_honest_32 ?_
    refine lv_topi (fun z_6 ez_6 => ?_)
    replace hF := q_letX hF ez_6
    have iz_6 := q_addI (A := 22) (B := v1.toInt) ez_6 (by decide) rfl (by first | (clear hn hh ahpσ_4 bhpσ_4 dhpσ_4 c_5 hw; omega) | omega) (by first | (clear hn ahpσ_4 bhpσ_4 dhpσ_4 c_5 hw; omega) | omega)
    refine q_iald E hI (q_tk (k' := 34) hI ha rfl (Nat.succ_ne_zero _)) ⟨by decide, rfl⟩ (by first | (clear hn hh ahpσ_4 bhpσ_4 dhpσ_4 c_5 hw; omega) | omega) (by rw [q_lnk (v := 4650) hI (q_tk (k' := 34) hI ha rfl (Nat.succ_ne_zero _)) rfl (by decide)]; omega) dX12_honest_33 ?_
    refine lv_topi (fun f_7 ef_7 => ?_)
    replace hF := q_letX hF ef_7
    have if_7 : f_7.toInt = m_c X σ a (22 + v1.toInt) := (m_rd ef_7 iz_6).trans (congrFun feσ_2 _)
    refine lv_aload_n hx hb dX12_honest_34 rfl (lv_at hl 0 rfl) ?_
    refine gs_X12_35_12 E hI ha dX12_honest_35 ?_
    refine lv_bipush (v := 28) hx hb dX12_honest_38 zkb_28 ?_
    refine lv_iload_n hx hb dX12_honest_40 rfl (lv_at hl 1 rfl) ?_
    refine lv_iadd hx hb dX12_honest_41 ?_
    refine lv_topi (fun z_8 ez_8 => ?_)
    replace hF := q_letX hF ez_8
    have iz_8 := q_addI (A := 28) (B := v1.toInt) ez_8 (by decide) rfl (by first | (clear hn hh ahpσ_4 bhpσ_4 dhpσ_4 c_5 hw if_7; omega) | omega) (by first | (clear hn ahpσ_4 bhpσ_4 dhpσ_4 c_5 hw if_7; omega) | omega)
    refine q_iald E hI (q_tk (k' := 34) hI ha rfl (Nat.succ_ne_zero _)) ⟨by decide, rfl⟩ (by first | (clear hn hh ahpσ_4 bhpσ_4 dhpσ_4 c_5 hw if_7; omega) | omega) (by rw [q_lnk (v := 4650) hI (q_tk (k' := 34) hI ha rfl (Nat.succ_ne_zero _)) rfl (by decide)]; omega) dX12_honest_42 ?_
    refine lv_topi (fun f_9 ef_9 => ?_)
    replace hF := q_letX hF ef_9
    have if_9 : f_9.toInt = m_c X σ a (28 + v1.toInt) := (m_rd ef_9 iz_8).trans (congrFun feσ_2 _)
    refine lv_isub hx hb dX12_honest_43 ?_
    refine lv_topi (fun z_10 ez_10 => ?_)
    replace hF := q_letX hF ez_10
    have iz_10 := q_subI (A := (m_c X σ a (22 + v1.toInt))) (B := (m_c X σ a (28 + v1.toInt))) ez_10 if_7 if_9 (by first | (clear hn hh ahpσ_4 bhpσ_4 dhpσ_4 c_5 chpσ_4 iz_6 iz_8; omega) | omega) (by first | (clear hh ahpσ_4 bhpσ_4 dhpσ_4 c_5 chpσ_4 iz_6 iz_8; omega) | omega)
    refine lv_iconst (v := 1) hx hb dX12_honest_44 zki_1 ?_
    refine lv_iadd hx hb dX12_honest_45 ?_
    refine lv_topi (fun z_11 ez_11 => ?_)
    replace hF := q_letX hF ez_11
    have iz_11 := q_addI (A := ((m_c X σ a (22 + v1.toInt)) - (m_c X σ a (28 + v1.toInt)))) (B := 1) ez_11 iz_10 (by decide) (by first | (clear hn hh ahpσ_4 bhpσ_4 dhpσ_4 c_5 chpσ_4 iz_6 iz_8; omega) | omega) (by first | (clear hh ahpσ_4 bhpσ_4 dhpσ_4 c_5 chpσ_4 iz_6 iz_8; omega) | omega)
    refine lv_i2l hx hb dX12_honest_46 rfl ?_
    refine lv_topl (fun y_12 ey_12 => ?_)
    replace hF := q_letX hF ey_12
    have ggy_12 := q_rng z_11
    have iy_12 : y_12.toInt = z_11.toInt := by rw [ey_12]; exact (q_i2l _).trans rfl
    refine lv_aload_n hx hb dX12_honest_47 rfl (lv_at hl 0 rfl) ?_
    refine gs_X12_35_12 E hI ha dX12_honest_48 ?_
    refine lv_bipush (v := 22) hx hb dX12_honest_51 zkb_22 ?_
    refine lv_iload_n hx hb dX12_honest_53 rfl (lv_at hl 1 rfl) ?_
    refine lv_iadd hx hb dX12_honest_54 ?_
    refine lv_topi (fun z_13 ez_13 => ?_)
    replace hF := q_letX hF ez_13
    have iz_13 := q_addI (A := 22) (B := v1.toInt) ez_13 (by decide) rfl (by first | (clear hn hh ahpσ_4 bhpσ_4 dhpσ_4 c_5 hw if_7 if_9 iz_10 iz_11 ggy_12 iy_12; omega) | omega) (by first | (clear hn ahpσ_4 bhpσ_4 dhpσ_4 c_5 hw if_7 if_9 iz_10 iz_11 ggy_12 iy_12; omega) | omega)
    refine q_iald E hI (q_tk (k' := 34) hI ha rfl (Nat.succ_ne_zero _)) ⟨by decide, rfl⟩ (by first | (clear hn hh ahpσ_4 bhpσ_4 dhpσ_4 c_5 hw if_7 if_9 iz_10 iz_11 ggy_12 iy_12; omega) | omega) (by rw [q_lnk (v := 4650) hI (q_tk (k' := 34) hI ha rfl (Nat.succ_ne_zero _)) rfl (by decide)]; omega) dX12_honest_55 ?_
    refine lv_topi (fun f_14 ef_14 => ?_)
    replace hF := q_letX hF ef_14
    have if_14 : f_14.toInt = m_c X σ a (22 + v1.toInt) := (m_rd ef_14 iz_13).trans (congrFun feσ_2 _)
    refine lv_iconst (v := 2) hx hb dX12_honest_56 zki_2 ?_
    refine lv_iadd hx hb dX12_honest_57 ?_
    refine lv_topi (fun z_15 ez_15 => ?_)
    replace hF := q_letX hF ez_15
    have iz_15 := q_addI (A := (m_c X σ a (22 + v1.toInt))) (B := 2) ez_15 if_14 (by decide) (by first | (clear hn hh ahpσ_4 bhpσ_4 dhpσ_4 c_5 chpσ_4 iz_6 iz_8 iz_13; omega) | omega) (by first | (clear hh ahpσ_4 bhpσ_4 dhpσ_4 c_5 chpσ_4 iz_6 iz_8 ggy_12 iz_13; omega) | omega)
    refine lv_i2l hx hb dX12_honest_58 rfl ?_
    refine lv_topl (fun y_16 ey_16 => ?_)
    replace hF := q_letX hF ey_16
    have ggy_16 := q_rng z_15
    have iy_16 : y_16.toInt = z_15.toInt := by rw [ey_16]; exact (q_i2l _).trans rfl
    refine q_ci (q_rV11_2 (rest := []) E (hml.trans hl.1.symm) hI (c_X12_fraction l X σ_2 a y_12 y_16 ha (by first | (clear hn hh ahpσ_4 bhpσ_4 dhpσ_4 c_5 chpσ_4 iz_6 iz_8 iz_13 if_14 iz_15 ggy_16 iy_16; omega) | omega)) kv_X12_361 ha ⟨Nat.le_of_ble_eq_true rfl, Nat.le_of_ble_eq_true rfl⟩ (Nat.le_of_ble_eq_true rfl) dX12_honest_59) hI (Nat.le_of_ble_eq_true rfl) (fun r_17 σ_18 H locs hpσ_18 hkσ_18 hI => ?_)
    have ahpσ_18 := hpσ_18.1
    have bhpσ_18 := hpσ_18.2.1
    have chpσ_18 := hpσ_18.2.2
    clear hpσ_18
    have fr_σ_18 := fr_σ_2.call chpσ_18 rfl rfl
    replace hF := q_biX hF bhpσ_18
    have mcσ_18 := m_cK hkσ_18 hI.1 ha (by decide)
    have feσ_18 : m_c X σ_18 a = m_c X σ a := (funext mcσ_18).trans feσ_2
    exact q_retz E hr hlk hI ⟨by omega, by omega⟩ ⟨⟨by omega, by omega⟩, (hF.trans hout), fr_σ_18⟩ dX12_honest_62
  · skip
    replace hF := q_ifp hF c_5
    replace chpσ_4 := q_ifNo chpσ_4 c_5
    refine lv_aload_n hx hb dX12_honest_18 rfl (lv_at hl 0 rfl) ?_
    refine lv_iconst (v := 2) hx hb dX12_honest_19 zki_2 ?_
    have kc_19 : (2 : Int32).toInt = 2 := zt_2
    refine q_ci (q_rV11_1 (rest := []) E (hml.trans hl.1.symm) hI (c_X12_no l X σ_2 a (2 : Int32) ha) kv_X12_74 ha ⟨Nat.le_of_ble_eq_true rfl, Nat.le_of_ble_eq_true rfl⟩ (Nat.le_of_ble_eq_true rfl) dX12_honest_20) hI (Nat.le_of_ble_eq_true rfl) (fun r_20 σ_21 H locs hpσ_21 hkσ_21 hI => ?_)
    have ahpσ_21 := hpσ_21.1
    have bhpσ_21 := hpσ_21.2.1
    have chpσ_21 := hpσ_21.2.2.1
    have dhpσ_21 := hpσ_21.2.2.2
    clear hpσ_21
    have fr_σ_21 := fr_σ_2.call dhpσ_21 rfl rfl
    replace hF := q_biX hF chpσ_21
    have mcσ_21 := m_cK hkσ_21 hI.1 ha (by decide)
    have feσ_21 : m_c X σ_21 a = m_c X σ a := (funext mcσ_21).trans feσ_2
    exact q_retz E hr hlk hI ⟨by omega, by omega⟩ ⟨⟨by omega, by omega⟩, (hF.trans hout), fr_σ_21⟩ dX12_honest_23
end
