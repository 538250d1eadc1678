section
set_option maxRecDepth 100000 in
set_option maxHeartbeats 4000000 in
theorem c_X12_unknown (l : Launch) (X : XW) (σ : ST) (a : Nat) (v1 : Int32) (v2 : Int32) (ha : q_kd X a = 12) (hG : m_G (m_c X σ a)) : Met l yX12_unknown (q_ws yX12_unknown cX12_unknown 3 (some .int)) (q_rm 5 114) (q_P X σ [.ref a, .int v1, .int v2]) (q_Qi X 8 σ (fun (r : Int32) (σ' : ST) => (r, σ') = F_X12_unknown X σ a v1 v2 ∧ q_ow [(12, 0), (12, 1)] [] X σ σ')) 0 0 (q_reg X) := by
  refine q_met 8 (by first | exact rfl | decide +kernel) rfl (Nat.le_of_ble_eq_true rfl) (fun p e s m below meth c E hml hr hlk hI ls hl => ?_)
  have hx := E.1
  have hb := E.2.1
  have hl : lv_has ls 3 [(0, .ref a), (1, .int v1), (2, .int v2)] := hl
  have feσ : m_c X σ a = m_c X σ a := rfl
  have fr_σ : q_ow [(12, 0), (12, 1)] [] X σ σ := q_ow.rf
  have hh := hG.hd
  obtain ⟨out, hout⟩ : ∃ o, o = F_X12_unknown X σ a v1 v2 := ⟨_, rfl⟩
  have hF := hout.symm
  unfold F_X12_unknown at hF
  refine lv_aload_n hx hb dX12_unknown_0 rfl (lv_at hl 0 rfl) ?_
  refine lv_iconst (v := 0) hx hb dX12_unknown_1 zki_0 ?_
  refine ps_X12_59_12 E hI ha (by decide) dX12_unknown_2 (fun H locs σ_1 hσ_1 hI => ?_)
  replace hF := q_letX hF hσ_1
  have fr_σ_1 := fr_σ.si hσ_1 ha rfl
  have mcσ_1 := m_wo hσ_1 (m_ne ha (q_tk (f := 20) (k' := 34) hI ha rfl (by decide)) (by decide))
  have feσ_1 : m_c X σ_1 a = m_c X σ a := (funext mcσ_1).trans feσ
  refine lv_aload_n hx hb dX12_unknown_5 rfl (lv_at hl 0 rfl) ?_
  refine lv_iconst (v := 0) hx hb dX12_unknown_6 zki_0 ?_
  refine ps_X12_62_12 E hI ha (by decide) dX12_unknown_7 (fun H locs σ_2 hσ_2 hI => ?_)
  replace hF := q_letX hF hσ_2
  have fr_σ_2 := fr_σ_1.si hσ_2 ha rfl
  have mcσ_2 := m_wo hσ_2 (m_ne ha (q_tk (f := 20) (k' := 34) hI ha rfl (by decide)) (by decide))
  have feσ_2 : m_c X σ_2 a = m_c X σ a := (funext mcσ_2).trans feσ_1
  refine lv_aload_n hx hb dX12_unknown_10 rfl (lv_at hl 0 rfl) ?_
  refine lv_iload_n hx hb dX12_unknown_11 rfl (lv_at hl 1 rfl) ?_
  refine q_ci (q_rV11_1 (rest := []) E (hml.trans hl.1.symm) hI (c_X12_isPlayerAt l X σ_2 a v1 ha (by rw [feσ_2]; exact hG)) kv_X12_290 ha ⟨Nat.le_of_ble_eq_true rfl, Nat.le_of_ble_eq_true rfl⟩ (Nat.le_of_ble_eq_true rfl) dX12_unknown_12) hI (Nat.le_of_ble_eq_true rfl) (fun r_3 σ_4 H locs hpσ_4 hkσ_4 hI => ?_)
  have ahpσ_4 := hpσ_4.1
  have bhpσ_4 := hpσ_4.2.1
  have chpσ_4 := hpσ_4.2.2.1
  have dhpσ_4 := hpσ_4.2.2.2
  clear hpσ_4
  replace hI := q_Irw ahpσ_4 hI
  rw [feσ_2] at chpσ_4
  replace hF := q_letX hF dhpσ_4
  refine q_if_eq (A := r_3.toInt) E rfl (tgt := 31) dX12_unknown_15 (by decide) (fun c_5 => ?_) (fun c_5 => ?_)
  · skip
    replace hF := q_ifp hF c_5
    replace chpσ_4 := q_ifNo chpσ_4 c_5
    refine lv_aload_n hx hb dX12_unknown_31 rfl (lv_at hl 0 rfl) ?_
    refine lv_iconst (v := 2) hx hb dX12_unknown_32 zki_2 ?_
    have kc_6 : (2 : Int32).toInt = 2 := zt_2
    refine q_ci (q_rV11_1 (rest := []) E (hml.trans hl.1.symm) hI (c_X12_refuse l X σ_2 a (2 : Int32) ha) kv_X12_284 ha ⟨Nat.le_of_ble_eq_true rfl, Nat.le_of_ble_eq_true rfl⟩ (Nat.le_of_ble_eq_true rfl) dX12_unknown_33) hI (Nat.le_of_ble_eq_true rfl) (fun r_7 σ_8 H locs hpσ_8 hkσ_8 hI => ?_)
    have ahpσ_8 := hpσ_8.1
    have bhpσ_8 := hpσ_8.2.1
    have chpσ_8 := hpσ_8.2.2
    clear hpσ_8
    have fr_σ_8 := fr_σ_2.call chpσ_8 rfl rfl
    replace hF := q_biX hF bhpσ_8
    have mcσ_8 := m_cK hkσ_8 hI.1 ha (by decide)
    have feσ_8 : m_c X σ_8 a = m_c X σ a := (funext mcσ_8).trans feσ_2
    exact q_reti E hr hlk hI ⟨(hF.trans hout), fr_σ_8⟩ dX12_unknown_36
  · skip
    replace hF := q_ifn hF c_5
    replace c_5 := q_ifOne bhpσ_4 c_5
    replace chpσ_4 := q_ifYes chpσ_4 c_5
    refine lv_iload_n hx hb dX12_unknown_18 rfl (lv_at hl 2 rfl) ?_
    refine lv_iconst (v := (-1)) hx hb dX12_unknown_19 zki_m1 ?_
    refine q_icmp_eq (A := v2.toInt) (B := (-1)) E rfl (by decide) (tgt := 37) dX12_unknown_20 (by decide) (fun c_9 => ?_) (fun c_9 => ?_)
    · skip
      replace hF := q_ifp hF c_9
      refine lv_iload_n hx hb dX12_unknown_37 rfl (lv_at hl 2 rfl) ?_
      refine lv_iconst (v := (-1)) hx hb dX12_unknown_38 zki_m1 ?_
      refine q_icmp_ne (A := v2.toInt) (B := (-1)) E rfl (by decide) (tgt := 50) dX12_unknown_39 (by decide) (fun c_10 => ?_) (fun c_10 => ?_)
      · skip
        replace hF := q_ifn hF c_10
        refine lv_aload_n hx hb dX12_unknown_50 rfl (lv_at hl 0 rfl) ?_
        refine lv_iload_n hx hb dX12_unknown_51 rfl (lv_at hl 1 rfl) ?_
        refine lv_iload_n hx hb dX12_unknown_52 rfl (lv_at hl 2 rfl) ?_
        refine q_ci (q_rV11_2 (rest := []) E (hml.trans hl.1.symm) hI (c_X12_unknownOf l X σ_2 a v1 v2 ha (by rw [feσ_2]; exact hG) (by rw [feσ_2]; exact (by omega)) (by first | (clear hh ahpσ_4 bhpσ_4 dhpσ_4 c_5 chpσ_4; omega) | omega)) kv_X12_336 ha ⟨Nat.le_of_ble_eq_true rfl, Nat.le_of_ble_eq_true rfl⟩ (Nat.le_of_ble_eq_true rfl) dX12_unknown_53) hI (Nat.le_of_ble_eq_true rfl) (fun r_11 σ_12 H locs hpσ_12 hkσ_12 hI => ?_)
        have ahpσ_12 := hpσ_12.1
        have bhpσ_12 := hpσ_12.2.1
        have chpσ_12 := hpσ_12.2.2.1
        have dhpσ_12 := hpσ_12.2.2.2
        clear hpσ_12
        replace hI := q_Irw ahpσ_12 hI
        rw [feσ_2] at bhpσ_12
        replace hF := q_letX hF dhpσ_12
        have ir_11 : r_11.toInt = (m_U (m_c X σ a) v1.toInt v2.toInt) := (by first | exact bhpσ_12 | (rw [bhpσ_12]) | (simp only [bhpσ_12]))
        exact q_reti E hr hlk hI ⟨(hF.trans hout), fr_σ_2⟩ dX12_unknown_56
      · skip
        replace hF := q_ifp hF c_10
        refine lv_aload_n hx hb dX12_unknown_42 rfl (lv_at hl 0 rfl) ?_
        refine lv_iload_n hx hb dX12_unknown_43 rfl (lv_at hl 1 rfl) ?_
        refine q_ci (q_rV11_1 (rest := []) E (hml.trans hl.1.symm) hI (c_X12_unknownAll l X σ_2 a v1 ha (by rw [feσ_2]; exact hG) (by rw [feσ_2]; exact (by omega))) kv_X12_339 ha ⟨Nat.le_of_ble_eq_true rfl, Nat.le_of_ble_eq_true rfl⟩ (Nat.le_of_ble_eq_true rfl) dX12_unknown_44) hI (Nat.le_of_ble_eq_true rfl) (fun r_13 σ_14 H locs hpσ_14 hkσ_14 hI => ?_)
        have ahpσ_14 := hpσ_14.1
        have bhpσ_14 := hpσ_14.2.1
        have chpσ_14 := hpσ_14.2.2.1
        have dhpσ_14 := hpσ_14.2.2.2
        clear hpσ_14
        replace hI := q_Irw ahpσ_14 hI
        rw [feσ_2] at bhpσ_14
        replace hF := q_letX hF dhpσ_14
        have ir_13 : r_13.toInt = (m_V (m_c X σ a) v1.toInt (m_c X σ a 0).toNat) := (by first | exact bhpσ_14 | (rw [bhpσ_14]) | (simp only [bhpσ_14]))
        refine lv_goto (tgt := 56) hx hb dX12_unknown_47 (by decide) ?_
        exact q_reti E hr hlk hI ⟨(hF.trans hout), fr_σ_2⟩ dX12_unknown_56
    · skip
      replace hF := q_ifn hF c_9
      refine lv_aload_n hx hb dX12_unknown_23 rfl (lv_at hl 0 rfl) ?_
      refine lv_iload_n hx hb dX12_unknown_24 rfl (lv_at hl 2 rfl) ?_
      refine q_ci (q_rV11_1 (rest := []) E (hml.trans hl.1.symm) hI (c_X12_isKindAt l X σ_2 a v2 ha (by rw [feσ_2]; exact hG)) kv_X12_299 ha ⟨Nat.le_of_ble_eq_true rfl, Nat.le_of_ble_eq_true rfl⟩ (Nat.le_of_ble_eq_true rfl) dX12_unknown_25) hI (Nat.le_of_ble_eq_true rfl) (fun r_15 σ_16 H locs hpσ_16 hkσ_16 hI => ?_)
      have ahpσ_16 := hpσ_16.1
      have bhpσ_16 := hpσ_16.2.1
      have chpσ_16 := hpσ_16.2.2.1
      have dhpσ_16 := hpσ_16.2.2.2
      clear hpσ_16
      replace hI := q_Irw ahpσ_16 hI
      rw [feσ_2] at chpσ_16
      replace hF := q_letX hF dhpσ_16
      refine q_if_ne (A := r_15.toInt) E rfl (tgt := 37) dX12_unknown_28 (by decide) (fun c_17 => ?_) (fun c_17 => ?_)
      · skip
        replace hF := q_ifn hF c_17
        replace c_17 := q_ifOne bhpσ_16 c_17
        replace chpσ_16 := q_ifYes chpσ_16 c_17
        refine lv_iload_n hx hb dX12_unknown_37 rfl (lv_at hl 2 rfl) ?_
        refine lv_iconst (v := (-1)) hx hb dX12_unknown_38 zki_m1 ?_
        refine q_icmp_ne (A := v2.toInt) (B := (-1)) E rfl (by decide) (tgt := 50) dX12_unknown_39 (by decide) (fun c_18 => ?_) (fun c_18 => ?_)
        · skip
          replace hF := q_ifn hF c_18
          refine lv_aload_n hx hb dX12_unknown_50 rfl (lv_at hl 0 rfl) ?_
          refine lv_iload_n hx hb dX12_unknown_51 rfl (lv_at hl 1 rfl) ?_
          refine lv_iload_n hx hb dX12_unknown_52 rfl (lv_at hl 2 rfl) ?_
          refine q_ci (q_rV11_2 (rest := []) E (hml.trans hl.1.symm) hI (c_X12_unknownOf l X σ_2 a v1 v2 ha (by rw [feσ_2]; exact hG) (by rw [feσ_2]; exact (by omega)) (by omega)) kv_X12_336 ha ⟨Nat.le_of_ble_eq_true rfl, Nat.le_of_ble_eq_true rfl⟩ (Nat.le_of_ble_eq_true rfl) dX12_unknown_53) hI (Nat.le_of_ble_eq_true rfl) (fun r_19 σ_20 H locs hpσ_20 hkσ_20 hI => ?_)
          have ahpσ_20 := hpσ_20.1
          have bhpσ_20 := hpσ_20.2.1
          have chpσ_20 := hpσ_20.2.2.1
          have dhpσ_20 := hpσ_20.2.2.2
          clear hpσ_20
          replace hI := q_Irw ahpσ_20 hI
          rw [feσ_2] at bhpσ_20
          replace hF := q_letX hF dhpσ_20
          have ir_19 : r_19.toInt = (m_U (m_c X σ a) v1.toInt v2.toInt) := (by first | exact bhpσ_20 | (rw [bhpσ_20]) | (simp only [bhpσ_20]))
          exact q_reti E hr hlk hI ⟨(hF.trans hout), fr_σ_2⟩ dX12_unknown_56
        · skip
          replace hF := q_ifp hF c_18
          refine lv_aload_n hx hb dX12_unknown_42 rfl (lv_at hl 0 rfl) ?_
          refine lv_iload_n hx hb dX12_unknown_43 rfl (lv_at hl 1 rfl) ?_
          refine q_ci (q_rV11_1 (rest := []) E (hml.trans hl.1.symm) hI (c_X12_unknownAll l X σ_2 a v1 ha (by rw [feσ_2]; exact hG) (by rw [feσ_2]; exact (by omega))) kv_X12_339 ha ⟨Nat.le_of_ble_eq_true rfl, Nat.le_of_ble_eq_true rfl⟩ (Nat.le_of_ble_eq_true rfl) dX12_unknown_44) hI (Nat.le_of_ble_eq_true rfl) (fun r_21 σ_22 H locs hpσ_22 hkσ_22 hI => ?_)
          have ahpσ_22 := hpσ_22.1
          have bhpσ_22 := hpσ_22.2.1
          have chpσ_22 := hpσ_22.2.2.1
          have dhpσ_22 := hpσ_22.2.2.2
          clear hpσ_22
          replace hI := q_Irw ahpσ_22 hI
          rw [feσ_2] at bhpσ_22
          replace hF := q_letX hF dhpσ_22
          have ir_21 : r_21.toInt = (m_V (m_c X σ a) v1.toInt (m_c X σ a 0).toNat) := (by first | exact bhpσ_22 | (rw [bhpσ_22]) | (simp only [bhpσ_22]))
          refine lv_goto (tgt := 56) hx hb dX12_unknown_47 (by decide) ?_
          exact q_reti E hr hlk hI ⟨(hF.trans hout), fr_σ_2⟩ dX12_unknown_56
      · skip
        replace hF := q_ifp hF c_17
        replace chpσ_16 := q_ifNo chpσ_16 c_17
        refine lv_aload_n hx hb dX12_unknown_31 rfl (lv_at hl 0 rfl) ?_
        refine lv_iconst (v := 2) hx hb dX12_unknown_32 zki_2 ?_
        have kc_23 : (2 : Int32).toInt = 2 := zt_2
        refine q_ci (q_rV11_1 (rest := []) E (hml.trans hl.1.symm) hI (c_X12_refuse l X σ_2 a (2 : Int32) ha) kv_X12_284 ha ⟨Nat.le_of_ble_eq_true rfl, Nat.le_of_ble_eq_true rfl⟩ (Nat.le_of_ble_eq_true rfl) dX12_unknown_33) hI (Nat.le_of_ble_eq_true rfl) (fun r_24 σ_25 H locs hpσ_25 hkσ_25 hI => ?_)
        have ahpσ_25 := hpσ_25.1
        have bhpσ_25 := hpσ_25.2.1
        have chpσ_25 := hpσ_25.2.2
        clear hpσ_25
        have fr_σ_25 := fr_σ_2.call chpσ_25 rfl rfl
        replace hF := q_biX hF bhpσ_25
        have mcσ_25 := m_cK hkσ_25 hI.1 ha (by decide)
        have feσ_25 : m_c X σ_25 a = m_c X σ a := (funext mcσ_25).trans feσ_2
        exact q_reti E hr hlk hI ⟨(hF.trans hout), fr_σ_25⟩ dX12_unknown_36
end
