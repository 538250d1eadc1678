section
set_option maxRecDepth 100000 in
set_option maxHeartbeats 4000000 in
theorem c_X12_mustLie (l : Launch) (X : XW) (σ : ST) (a : Nat) (v1 : Int32) (ha : q_kd X a = 12) (hG : m_G (m_c X σ a)) : Met l yX12_mustLie (q_ws yX12_mustLie cX12_mustLie 2 (some .int)) (q_rm 4 93) (q_P X σ [.ref a, .int v1]) (q_Qi X 8 σ (fun (r : Int32) (σ' : ST) => (r, σ') = F_X12_mustLie X σ a v1 ∧ q_ow [(12, 0), (12, 1), (12, 33), (12, 34), (12, 35), (38, 99)] [] X σ σ')) 0 0 (q_reg X) := by
  refine q_met 8 (by first | exact rfl | decide +kernel) rfl (Nat.le_of_ble_eq_true rfl) (fun p e s m below meth c E hml hr hlk hI ls hl => ?_)
  have hx := E.1
  have hb := E.2.1
  have hl : lv_has ls 2 [(0, .ref a), (1, .int v1)] := hl
  have feσ : m_c X σ a = m_c X σ a := rfl
  have fr_σ : q_ow [(12, 0), (12, 1), (12, 33), (12, 34), (12, 35), (38, 99)] [] X σ σ := q_ow.rf
  have hh := hG.hd
  obtain ⟨out, hout⟩ : ∃ o, o = F_X12_mustLie X σ a v1 := ⟨_, rfl⟩
  have hF := hout.symm
  unfold F_X12_mustLie at hF
  refine lv_aload_n hx hb dX12_mustLie_0 rfl (lv_at hl 0 rfl) ?_
  refine lv_iconst (v := 0) hx hb dX12_mustLie_1 zki_0 ?_
  refine ps_X12_59_12 E hI ha (by decide) dX12_mustLie_2 (fun H locs σ_1 hσ_1 hI => ?_)
  replace hF := q_letX hF hσ_1
  have fr_σ_1 := fr_σ.si hσ_1 ha rfl
  have mcσ_1 := m_wo hσ_1 (m_ne ha (q_tk (f := 20) (k' := 34) hI ha rfl (by decide)) (by decide))
  have feσ_1 : m_c X σ_1 a = m_c X σ a := (funext mcσ_1).trans feσ
  refine lv_aload_n hx hb dX12_mustLie_5 rfl (lv_at hl 0 rfl) ?_
  refine lv_iconst (v := 0) hx hb dX12_mustLie_6 zki_0 ?_
  refine ps_X12_62_12 E hI ha (by decide) dX12_mustLie_7 (fun H locs σ_2 hσ_2 hI => ?_)
  replace hF := q_letX hF hσ_2
  have fr_σ_2 := fr_σ_1.si hσ_2 ha rfl
  have mcσ_2 := m_wo hσ_2 (m_ne ha (q_tk (f := 20) (k' := 34) hI ha rfl (by decide)) (by decide))
  have feσ_2 : m_c X σ_2 a = m_c X σ a := (funext mcσ_2).trans feσ_1
  refine lv_aload_n hx hb dX12_mustLie_10 rfl (lv_at hl 0 rfl) ?_
  refine lv_iload_n hx hb dX12_mustLie_11 rfl (lv_at hl 1 rfl) ?_
  refine q_ci (q_rV11_1 (rest := []) E (hml.trans hl.1.symm) hI (c_X12_isPlayerAt l X σ_2 a v1 ha (by rw [feσ_2]; exact hG)) kv_X12_290 ha ⟨Nat.le_of_ble_eq_true rfl, Nat.le_of_ble_eq_true rfl⟩ (Nat.le_of_ble_eq_true rfl) dX12_mustLie_12) hI (Nat.le_of_ble_eq_true rfl) (fun r_3 σ_4 H locs hpσ_4 hkσ_4 hI => ?_)
  have ahpσ_4 := hpσ_4.1
  have bhpσ_4 := hpσ_4.2.1
  have chpσ_4 := hpσ_4.2.2.1
  have dhpσ_4 := hpσ_4.2.2.2
  clear hpσ_4
  replace hI := q_Irw ahpσ_4 hI
  rw [feσ_2] at chpσ_4
  replace hF := q_letX hF dhpσ_4
  refine q_if_ne (A := r_3.toInt) E rfl (tgt := 24) dX12_mustLie_15 (by decide) (fun c_5 => ?_) (fun c_5 => ?_)
  · skip
    replace hF := q_ifn hF c_5
    replace c_5 := q_ifOne bhpσ_4 c_5
    replace chpσ_4 := q_ifYes chpσ_4 c_5
    refine lv_aload_n hx hb dX12_mustLie_24 rfl (lv_at hl 0 rfl) ?_
    refine lv_iload_n hx hb dX12_mustLie_25 rfl (lv_at hl 1 rfl) ?_
    refine lv_bipush (v := 60) hx hb dX12_mustLie_26 zkb_60 ?_
    have kc_6 : (60 : Int32).toInt = 60 := zt_60
    refine q_ci (q_rV11_2 (rest := []) E (hml.trans hl.1.symm) hI (c_X12_honestFor l X σ_2 a v1 (60 : Int32) ha (by rw [feσ_2]; exact hG) (by rw [feσ_2]; exact (by omega)) (by first | (clear hh ahpσ_4 bhpσ_4 dhpσ_4 c_5 chpσ_4; omega) | omega)) kv_X12_387 ha ⟨Nat.le_of_ble_eq_true rfl, Nat.le_of_ble_eq_true rfl⟩ (Nat.le_of_ble_eq_true rfl) dX12_mustLie_28) hI (Nat.le_of_ble_eq_true rfl) (fun r_7 σ_8 H locs hpσ_8 hkσ_8 hI => ?_)
    have ahpσ_8 := hpσ_8.1
    have bhpσ_8 := hpσ_8.2
    clear hpσ_8
    have fr_σ_8 := fr_σ_2.call bhpσ_8 rfl rfl
    replace hF := q_biX hF ahpσ_8
    have mcσ_8 := m_cK hkσ_8 hI.1 ha (by decide)
    have feσ_8 : m_c X σ_8 a = m_c X σ a := (funext mcσ_8).trans feσ_2
    refine lv_pop hx hb dX12_mustLie_31 rfl ?_
    refine lv_aload_n hx hb dX12_mustLie_32 rfl (lv_at hl 0 rfl) ?_
    refine gs_X12_381_12 E hI ha dX12_mustLie_33 ?_
    refine lv_topi (fun f_9 ef_9 => ?_)
    replace hF := q_letX hF ef_9
    have if_9 : f_9.toInt = (σ_8.1 a 35).toInt := congrArg Int32.toInt ef_9
    refine q_if_ge (A := f_9.toInt) E rfl (tgt := 48) dX12_mustLie_36 (by decide) (fun c_10 => ?_) (fun c_10 => ?_)
    · skip
      replace hF := q_ifn hF (Int.not_lt.mpr c_10)
      refine lv_aload_n hx hb dX12_mustLie_48 rfl (lv_at hl 0 rfl) ?_
      refine gs_X12_381_12 E hI ha dX12_mustLie_49 ?_
      refine lv_topi (fun f_11 ef_11 => ?_)
      replace hF := q_letX hF ef_11
      have if_11 : f_11.toInt = (σ_8.1 a 35).toInt := congrArg Int32.toInt ef_11
      exact q_reti E hr hlk hI ⟨(hF.trans hout), fr_σ_8⟩ dX12_mustLie_52
    · skip
      replace hF := q_ifp hF c_10
      refine lv_aload_n hx hb dX12_mustLie_39 rfl (lv_at hl 0 rfl) ?_
      refine lv_bipush (v := 8) hx hb dX12_mustLie_40 zkb_8 ?_
      have kc_12 : (8 : Int32).toInt = 8 := zt_8
      refine q_ci (q_rV11_1 (rest := []) E (hml.trans hl.1.symm) hI (c_X12_refuse l X σ_8 a (8 : Int32) ha) kv_X12_284 ha ⟨Nat.le_of_ble_eq_true rfl, Nat.le_of_ble_eq_true rfl⟩ (Nat.le_of_ble_eq_true rfl) dX12_mustLie_42) hI (Nat.le_of_ble_eq_true rfl) (fun r_13 σ_14 H locs hpσ_14 hkσ_14 hI => ?_)
      have ahpσ_14 := hpσ_14.1
      have bhpσ_14 := hpσ_14.2.1
      have chpσ_14 := hpσ_14.2.2
      clear hpσ_14
      have fr_σ_14 := fr_σ_8.call chpσ_14 rfl rfl
      replace hF := q_biX hF bhpσ_14
      have mcσ_14 := m_cK hkσ_14 hI.1 ha (by decide)
      have feσ_14 : m_c X σ_14 a = m_c X σ a := (funext mcσ_14).trans feσ_8
      refine lv_goto (tgt := 52) hx hb dX12_mustLie_45 (by decide) ?_
      exact q_reti E hr hlk hI ⟨(hF.trans hout), fr_σ_14⟩ dX12_mustLie_52
  · skip
    replace hF := q_ifp hF c_5
    replace chpσ_4 := q_ifNo chpσ_4 c_5
    refine lv_aload_n hx hb dX12_mustLie_18 rfl (lv_at hl 0 rfl) ?_
    refine lv_iconst (v := 2) hx hb dX12_mustLie_19 zki_2 ?_
    have kc_15 : (2 : Int32).toInt = 2 := zt_2
    refine q_ci (q_rV11_1 (rest := []) E (hml.trans hl.1.symm) hI (c_X12_refuse l X σ_2 a (2 : Int32) ha) kv_X12_284 ha ⟨Nat.le_of_ble_eq_true rfl, Nat.le_of_ble_eq_true rfl⟩ (Nat.le_of_ble_eq_true rfl) dX12_mustLie_20) hI (Nat.le_of_ble_eq_true rfl) (fun r_16 σ_17 H locs hpσ_17 hkσ_17 hI => ?_)
    have ahpσ_17 := hpσ_17.1
    have bhpσ_17 := hpσ_17.2.1
    have chpσ_17 := hpσ_17.2.2
    clear hpσ_17
    have fr_σ_17 := fr_σ_2.call chpσ_17 rfl rfl
    replace hF := q_biX hF bhpσ_17
    have mcσ_17 := m_cK hkσ_17 hI.1 ha (by decide)
    have feσ_17 : m_c X σ_17 a = m_c X σ a := (funext mcσ_17).trans feσ_2
    exact q_reti E hr hlk hI ⟨(hF.trans hout), fr_σ_17⟩ dX12_mustLie_23
end
