section
set_option maxRecDepth 100000 in
set_option maxHeartbeats 4000000 in
theorem c_X12_played (l : Launch) (X : XW) (σ : ST) (a : Nat) (v1 : Int32) (ha : q_kd X a = 12) (hG : m_G (m_c X σ a)) : Met l yX12_played (q_ws yX12_played cX12_played 2 (some .int)) (q_rm 1 25) (q_P X σ [.ref a, .int v1]) (q_Qi X 8 σ (fun (r : Int32) (σ' : ST) => (r, σ') = F_X12_played X σ a v1 ∧ q_ow [(12, 0), (12, 1)] [] X σ σ')) 0 0 (q_reg X) := by
  refine q_met 8 (by first | exact rfl | decide +kernel) rfl (Nat.le_of_ble_eq_true rfl) (fun p e s m below meth c E hml hr hlk hI ls hl => ?_)
  have hx := E.1
  have hb := E.2.1
  have hl : lv_has ls 2 [(0, .ref a), (1, .int v1)] := hl
  have feσ : m_c X σ a = m_c X σ a := rfl
  have fr_σ : q_ow [(12, 0), (12, 1)] [] X σ σ := q_ow.rf
  have hh := hG.hd
  obtain ⟨out, hout⟩ : ∃ o, o = F_X12_played X σ a v1 := ⟨_, rfl⟩
  have hF := hout.symm
  unfold F_X12_played at hF
  refine lv_aload_n hx hb dX12_played_0 rfl (lv_at hl 0 rfl) ?_
  refine lv_iconst (v := 0) hx hb dX12_played_1 zki_0 ?_
  refine ps_X12_59_12 E hI ha (by decide) dX12_played_2 (fun H locs σ_1 hσ_1 hI => ?_)
  replace hF := q_letX hF hσ_1
  have fr_σ_1 := fr_σ.si hσ_1 ha rfl
  have mcσ_1 := m_wo hσ_1 (m_ne ha (q_tk (f := 20) (k' := 34) hI ha rfl (by decide)) (by decide))
  have feσ_1 : m_c X σ_1 a = m_c X σ a := (funext mcσ_1).trans feσ
  refine lv_aload_n hx hb dX12_played_5 rfl (lv_at hl 0 rfl) ?_
  refine lv_iconst (v := 0) hx hb dX12_played_6 zki_0 ?_
  refine ps_X12_62_12 E hI ha (by decide) dX12_played_7 (fun H locs σ_2 hσ_2 hI => ?_)
  replace hF := q_letX hF hσ_2
  have fr_σ_2 := fr_σ_1.si hσ_2 ha rfl
  have mcσ_2 := m_wo hσ_2 (m_ne ha (q_tk (f := 20) (k' := 34) hI ha rfl (by decide)) (by decide))
  have feσ_2 : m_c X σ_2 a = m_c X σ a := (funext mcσ_2).trans feσ_1
  refine lv_iload_n hx hb dX12_played_10 rfl (lv_at hl 1 rfl) ?_
  refine lv_i2l hx hb dX12_played_11 rfl ?_
  refine lv_topl (fun y_3 ey_3 => ?_)
  replace hF := q_letX hF ey_3
  have ggy_3 := q_rng v1
  have iy_3 : y_3.toInt = v1.toInt := by rw [ey_3]; exact (q_i2l _).trans rfl
  refine lv_lconst (v := 0) hx hb dX12_played_12 (by decide) ?_
  refine lv_ldc2 (v := 4) hx hb E.2.2.1 (E.2.2.2.1 _ (q_in_t9 (i := 124) (by first | rfl | decide +kernel) rfl)) dX12_played_13 ?_
  have kc_4 : (0 : Int64).toInt = 0 := rfl
  have kc_5 : (4 : Int64).toInt = 4 := rfl
  refine q_ci (q_runS (As := [.long y_3, .long 0, .long 4]) (rest := []) E (hml.trans hl.1.symm) hI (c_X12_isIn l X σ_2 y_3 (0 : Int64) (4 : Int64)) ks_X12_94 rfl ⟨Nat.le_of_ble_eq_true rfl, Nat.le_of_ble_eq_true rfl⟩ ⟨Nat.le_refl _, Nat.le_refl _⟩ rfl (Nat.le_of_ble_eq_true rfl) dX12_played_16) hI (Nat.le_of_ble_eq_true rfl) (fun r_6 σ_7 H locs hpσ_7 hkσ_7 hI => ?_)
  have ahpσ_7 := hpσ_7.1
  have bhpσ_7 := hpσ_7.2.1
  have chpσ_7 := hpσ_7.2.2.1
  have dhpσ_7 := hpσ_7.2.2.2
  clear hpσ_7
  replace hI := q_Irw ahpσ_7 hI
  replace hF := q_letX hF dhpσ_7
  refine q_if_ne (A := r_6.toInt) E rfl (tgt := 28) dX12_played_19 (by decide) (fun c_8 => ?_) (fun c_8 => ?_)
  · skip
    replace hF := q_ifn hF c_8
    replace c_8 := q_ifOne bhpσ_7 c_8
    replace chpσ_7 := q_ifYes chpσ_7 c_8
    refine lv_aload_n hx hb dX12_played_28 rfl (lv_at hl 0 rfl) ?_
    refine gs_X12_446_12 E hI ha dX12_played_29 ?_
    refine lv_topi (fun f_9 ef_9 => ?_)
    replace hF := q_letX hF ef_9
    have if_9 : f_9.toInt = (σ_2.1 a 37).toInt := congrArg Int32.toInt ef_9
    have bf_9 : 0 ≤ f_9.toInt ∧ f_9.toInt ≤ 1 := by rw [ef_9]; exact q_bd hI ha rfl
    refine q_if_eq (A := f_9.toInt) E rfl (tgt := 44) dX12_played_32 (by decide) (fun c_10 => ?_) (fun c_10 => ?_)
    · skip
      replace hF := q_ifp hF c_10
      refine lv_aload_n hx hb dX12_played_44 rfl (lv_at hl 0 rfl) ?_
      refine lv_bipush (v := 8) hx hb dX12_played_45 zkb_8 ?_
      have kc_11 : (8 : Int32).toInt = 8 := zt_8
      refine q_ci (q_rV11_1 (rest := []) E (hml.trans hl.1.symm) hI (c_X12_refuse l X σ_2 a (8 : Int32) ha) kv_X12_284 ha ⟨Nat.le_of_ble_eq_true rfl, Nat.le_of_ble_eq_true rfl⟩ (Nat.le_of_ble_eq_true rfl) dX12_played_47) hI (Nat.le_of_ble_eq_true rfl) (fun r_12 σ_13 H locs hpσ_13 hkσ_13 hI => ?_)
      have ahpσ_13 := hpσ_13.1
      have bhpσ_13 := hpσ_13.2.1
      have chpσ_13 := hpσ_13.2.2
      clear hpσ_13
      have fr_σ_13 := fr_σ_2.call chpσ_13 rfl rfl
      replace hF := q_biX hF bhpσ_13
      have mcσ_13 := m_cK hkσ_13 hI.1 ha (by decide)
      have feσ_13 : m_c X σ_13 a = m_c X σ a := (funext mcσ_13).trans feσ_2
      exact q_reti E hr hlk hI ⟨(hF.trans hout), fr_σ_13⟩ dX12_played_50
    · skip
      replace hF := q_ifn hF c_10
      refine lv_aload_n hx hb dX12_played_35 rfl (lv_at hl 0 rfl) ?_
      refine gs_X12_56_12 E hI ha dX12_played_36 ?_
      refine lv_iload_n hx hb dX12_played_39 rfl (lv_at hl 1 rfl) ?_
      refine q_iald E hI (q_tk (k' := 41) hI ha rfl (Nat.succ_ne_zero _)) ⟨by decide, rfl⟩ (by first | (clear hh kc_5 ahpσ_7 bhpσ_7 dhpσ_7 c_8 if_9 bf_9 c_10; omega) | omega) (by rw [q_lnk (v := 5) hI (q_tk (k' := 41) hI ha rfl (Nat.succ_ne_zero _)) rfl (by decide)]; omega) dX12_played_40 ?_
      refine lv_topi (fun f_14 ef_14 => ?_)
      replace hF := q_letX hF ef_14
      refine lv_goto (tgt := 50) hx hb dX12_played_41 (by decide) ?_
      exact q_reti E hr hlk hI ⟨(hF.trans hout), fr_σ_2⟩ dX12_played_50
  · skip
    replace hF := q_ifp hF c_8
    replace chpσ_7 := q_ifNo chpσ_7 c_8
    refine lv_aload_n hx hb dX12_played_22 rfl (lv_at hl 0 rfl) ?_
    refine lv_iconst (v := 5) hx hb dX12_played_23 zki_5 ?_
    have kc_15 : (5 : Int32).toInt = 5 := zt_5
    refine q_ci (q_rV11_1 (rest := []) E (hml.trans hl.1.symm) hI (c_X12_refuse l X σ_2 a (5 : Int32) ha) kv_X12_284 ha ⟨Nat.le_of_ble_eq_true rfl, Nat.le_of_ble_eq_true rfl⟩ (Nat.le_of_ble_eq_true rfl) dX12_played_24) hI (Nat.le_of_ble_eq_true rfl) (fun r_16 σ_17 H locs hpσ_17 hkσ_17 hI => ?_)
    have ahpσ_17 := hpσ_17.1
    have bhpσ_17 := hpσ_17.2.1
    have chpσ_17 := hpσ_17.2.2
    clear hpσ_17
    have fr_σ_17 := fr_σ_2.call chpσ_17 rfl rfl
    replace hF := q_biX hF bhpσ_17
    have mcσ_17 := m_cK hkσ_17 hI.1 ha (by decide)
    have feσ_17 : m_c X σ_17 a = m_c X σ a := (funext mcσ_17).trans feσ_2
    exact q_reti E hr hlk hI ⟨(hF.trans hout), fr_σ_17⟩ dX12_played_27
end
