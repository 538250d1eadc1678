section
set_option maxRecDepth 100000 in
set_option maxHeartbeats 4000000 in
theorem c_X12_heap (l : Launch) (X : XW) (σ : ST) (a : Nat) (v1 : Int32) (v2 : Int32) (ha : q_kd X a = 12) (hG : m_G (m_c X σ a)) : Met l yX12_heap (q_ws yX12_heap cX12_heap 9 (some .boolean)) (q_rm 5 114) (q_P X σ [.ref a, .int v1, .int v2]) (q_Qi X 8 σ (fun (r : Int32) (σ' : ST) => (0 ≤ r.toInt ∧ r.toInt ≤ 1) ∧ (r, σ') = F_X12_heap X σ a v1 v2 ∧ q_ow [(12, 0), (12, 1)] [(12, 2), (12, 3)] X σ σ')) 0 0 (q_reg X) := by
  refine q_met 8 (by first | exact rfl | decide +kernel) rfl (Nat.le_of_ble_eq_true rfl) (fun p e s m below meth c E hml hr hlk hI ls hl => ?_)
  have hx := E.1
  have hb := E.2.1
  have hl : lv_has ls 9 [(0, .ref a), (1, .int v1), (2, .int v2)] := hl
  have feσ : m_c X σ a = m_c X σ a := rfl
  have fr_σ : q_ow [(12, 0), (12, 1)] [(12, 2), (12, 3)] X σ σ := q_ow.rf
  have hh := hG.hd
  obtain ⟨out, hout⟩ : ∃ o, o = F_X12_heap X σ a v1 v2 := ⟨_, rfl⟩
  have hF := hout.symm
  unfold F_X12_heap at hF
  refine lv_aload_n hx hb dX12_heap_0 rfl (lv_at hl 0 rfl) ?_
  refine lv_iconst (v := 0) hx hb dX12_heap_1 zki_0 ?_
  refine ps_X12_59_12 E hI ha (by decide) dX12_heap_2 (fun H locs σ_1 hσ_1 hI => ?_)
  replace hF := q_letX hF hσ_1
  have fr_σ_1 := fr_σ.si hσ_1 ha rfl
  have mcσ_1 := m_wo hσ_1 (m_ne ha (q_tk (f := 20) (k' := 34) hI ha rfl (by decide)) (by decide))
  have feσ_1 : m_c X σ_1 a = m_c X σ a := (funext mcσ_1).trans feσ
  refine lv_aload_n hx hb dX12_heap_5 rfl (lv_at hl 0 rfl) ?_
  refine lv_iconst (v := 0) hx hb dX12_heap_6 zki_0 ?_
  refine ps_X12_62_12 E hI ha (by decide) dX12_heap_7 (fun H locs σ_2 hσ_2 hI => ?_)
  replace hF := q_letX hF hσ_2
  have fr_σ_2 := fr_σ_1.si hσ_2 ha rfl
  have mcσ_2 := m_wo hσ_2 (m_ne ha (q_tk (f := 20) (k' := 34) hI ha rfl (by decide)) (by decide))
  have feσ_2 : m_c X σ_2 a = m_c X σ a := (funext mcσ_2).trans feσ_1
  refine lv_aload_n hx hb dX12_heap_10 rfl (lv_at hl 0 rfl) ?_
  refine lv_iload_n hx hb dX12_heap_11 rfl (lv_at hl 1 rfl) ?_
  refine q_ci (q_rV11_1 (rest := []) E (hml.trans hl.1.symm) hI (c_X12_isPlayerAt l X σ_2 a v1 ha (by rw [feσ_2]; exact hG)) kv_X12_290 ha ⟨Nat.le_of_ble_eq_true rfl, Nat.le_of_ble_eq_true rfl⟩ (Nat.le_of_ble_eq_true rfl) dX12_heap_12) hI (Nat.le_of_ble_eq_true rfl) (fun r_3 σ_4 H locs hpσ_4 hkσ_4 hI => ?_)
  have ahpσ_4 := hpσ_4.1
  have bhpσ_4 := hpσ_4.2.1
  have chpσ_4 := hpσ_4.2.2.1
  have dhpσ_4 := hpσ_4.2.2.2
  clear hpσ_4
  replace hI := q_Irw ahpσ_4 hI
  rw [feσ_2] at chpσ_4
  replace hF := q_letX hF dhpσ_4
  refine q_if_eq (A := r_3.toInt) E rfl (tgt := 26) dX12_heap_15 (by decide) (fun c_5 => ?_) (fun c_5 => ?_)
  · skip
    replace hF := q_ifp hF c_5
    replace chpσ_4 := q_ifNo chpσ_4 c_5
    refine lv_aload_n hx hb dX12_heap_26 rfl (lv_at hl 0 rfl) ?_
    refine lv_iconst (v := 2) hx hb dX12_heap_27 zki_2 ?_
    have kc_6 : (2 : Int32).toInt = 2 := zt_2
    refine q_ci (q_rV11_1 (rest := []) E (hml.trans hl.1.symm) hI (c_X12_no l X σ_2 a (2 : Int32) ha) kv_X12_74 ha ⟨Nat.le_of_ble_eq_true rfl, Nat.le_of_ble_eq_true rfl⟩ (Nat.le_of_ble_eq_true rfl) dX12_heap_28) hI (Nat.le_of_ble_eq_true rfl) (fun r_7 σ_8 H locs hpσ_8 hkσ_8 hI => ?_)
    have ahpσ_8 := hpσ_8.1
    have bhpσ_8 := hpσ_8.2.1
    have chpσ_8 := hpσ_8.2.2.1
    have dhpσ_8 := hpσ_8.2.2.2
    clear hpσ_8
    have fr_σ_8 := fr_σ_2.call dhpσ_8 rfl rfl
    replace hF := q_biX hF chpσ_8
    have mcσ_8 := m_cK hkσ_8 hI.1 ha (by decide)
    have feσ_8 : m_c X σ_8 a = m_c X σ a := (funext mcσ_8).trans feσ_2
    exact q_retz E hr hlk hI ⟨by omega, by omega⟩ ⟨⟨by omega, by omega⟩, (hF.trans hout), fr_σ_8⟩ dX12_heap_31
  · skip
    replace hF := q_ifn hF c_5
    replace c_5 := q_ifOne bhpσ_4 c_5
    replace chpσ_4 := q_ifYes chpσ_4 c_5
    refine lv_aload_n hx hb dX12_heap_18 rfl (lv_at hl 0 rfl) ?_
    refine lv_iload_n hx hb dX12_heap_19 rfl (lv_at hl 2 rfl) ?_
    refine q_ci (q_rV11_1 (rest := []) E (hml.trans hl.1.symm) hI (c_X12_isKindAt l X σ_2 a v2 ha (by rw [feσ_2]; exact hG)) kv_X12_299 ha ⟨Nat.le_of_ble_eq_true rfl, Nat.le_of_ble_eq_true rfl⟩ (Nat.le_of_ble_eq_true rfl) dX12_heap_20) hI (Nat.le_of_ble_eq_true rfl) (fun r_9 σ_10 H locs hpσ_10 hkσ_10 hI => ?_)
    have ahpσ_10 := hpσ_10.1
    have bhpσ_10 := hpσ_10.2.1
    have chpσ_10 := hpσ_10.2.2.1
    have dhpσ_10 := hpσ_10.2.2.2
    clear hpσ_10
    replace hI := q_Irw ahpσ_10 hI
    rw [feσ_2] at chpσ_10
    replace hF := q_letX hF dhpσ_10
    refine q_if_ne (A := r_9.toInt) E rfl (tgt := 32) dX12_heap_23 (by decide) (fun c_11 => ?_) (fun c_11 => ?_)
    · skip
      replace hF := q_ifn hF c_11
      replace c_11 := q_ifOne bhpσ_10 c_11
      replace chpσ_10 := q_ifYes chpσ_10 c_11
      refine lv_aload_n hx hb dX12_heap_32 rfl (lv_at hl 0 rfl) ?_
      refine lv_iload_n hx hb dX12_heap_33 rfl (lv_at hl 1 rfl) ?_
      refine lv_iload_n hx hb dX12_heap_34 rfl (lv_at hl 2 rfl) ?_
      refine q_ci (q_rV11_2 (rest := []) E (hml.trans hl.1.symm) hI (c_X12_laidOf l X σ_2 a v1 v2 ha (by rw [feσ_2]; exact hG)) kv_X12_296 ha ⟨Nat.le_of_ble_eq_true rfl, Nat.le_of_ble_eq_true rfl⟩ (Nat.le_of_ble_eq_true rfl) dX12_heap_35) hI (Nat.le_of_ble_eq_true rfl) (fun r_12 σ_13 H locs hpσ_13 hkσ_13 hI => ?_)
      have ahpσ_13 := hpσ_13.1
      have bhpσ_13 := hpσ_13.2.1
      have chpσ_13 := hpσ_13.2.2.1
      have dhpσ_13 := hpσ_13.2.2.2
      clear hpσ_13
      replace hI := q_Irw ahpσ_13 hI
      rw [feσ_2] at bhpσ_13
      replace hF := q_letX hF dhpσ_13
      have ir_12 : r_12.toInt = (m_A (m_c X σ a) v1.toInt v2.toInt (m_c X σ a 9).toNat) := (by first | exact bhpσ_13 | (rw [bhpσ_13]) | (simp only [bhpσ_13]))
      refine lv_i2l hx hb dX12_heap_38 rfl ?_
      refine lv_topl (fun y_14 ey_14 => ?_)
      replace hF := q_letX hF ey_14
      have ggy_14 := q_rng r_12
      have iy_14 : y_14.toInt = r_12.toInt := by rw [ey_14]; exact (q_i2l _).trans rfl
      refine lv_lstore_n (lv' := [(3, .long y_14), (0, .ref a), (1, .int v1), (2, .int v2)]) hx hb dX12_heap_39 rfl hl (by decide) rfl (fun ls hl => ?_)
      refine lv_aload_n hx hb dX12_heap_40 rfl (lv_at hl 1 rfl) ?_
      refine q_ci (q_rV11_0 (rest := []) E (hml.trans hl.1.symm) hI (c_X12_heapMany l X σ_2 a ha (by rw [feσ_2]; exact hG)) kv_X12_287 ha ⟨Nat.le_of_ble_eq_true rfl, Nat.le_of_ble_eq_true rfl⟩ (Nat.le_of_ble_eq_true rfl) dX12_heap_41) hI (Nat.le_of_ble_eq_true rfl) (fun r_15 σ_16 H locs hpσ_16 hkσ_16 hI => ?_)
      have ahpσ_16 := hpσ_16.1
      have bhpσ_16 := hpσ_16.2.1
      have chpσ_16 := hpσ_16.2.2.1
      have dhpσ_16 := hpσ_16.2.2.2
      clear hpσ_16
      replace hI := q_Irw ahpσ_16 hI
      rw [feσ_2] at bhpσ_16
      replace hF := q_letX hF dhpσ_16
      refine lv_aload_n hx hb dX12_heap_44 rfl (lv_at hl 1 rfl) ?_
      refine lv_iload_n hx hb dX12_heap_45 rfl (lv_at hl 2 rfl) ?_
      refine lv_iconst (v := (-1)) hx hb dX12_heap_46 zki_m1 ?_
      have kc_17 : ((-1) : Int32).toInt = (-1) := zt_m1
      refine q_ci (q_rV11_2 (rest := [.int r_15]) E (hml.trans hl.1.symm) hI (c_X12_laidOf l X σ_2 a v1 ((-1) : Int32) ha (by rw [feσ_2]; exact hG)) kv_X12_296 ha ⟨Nat.le_of_ble_eq_true rfl, Nat.le_of_ble_eq_true rfl⟩ (Nat.le_of_ble_eq_true rfl) dX12_heap_47) hI (Nat.le_of_ble_eq_true rfl) (fun r_18 σ_19 H locs hpσ_19 hkσ_19 hI => ?_)
      have ahpσ_19 := hpσ_19.1
      have bhpσ_19 := hpσ_19.2.1
      have chpσ_19 := hpσ_19.2.2.1
      have dhpσ_19 := hpσ_19.2.2.2
      clear hpσ_19
      replace hI := q_Irw ahpσ_19 hI
      rw [feσ_2] at bhpσ_19
      replace hF := q_letX hF dhpσ_19
      have ir_18 : r_18.toInt = (m_A (m_c X σ a) v1.toInt (-1) (m_c X σ a 9).toNat) := (by first | exact bhpσ_19 | (rw [bhpσ_19]) | (simp only [bhpσ_19]))
      refine lv_isub hx hb dX12_heap_50 ?_
      refine lv_topi (fun z_20 ez_20 => ?_)
      replace hF := q_letX hF ez_20
      have iz_20 := q_subI (A := r_15.toInt) (B := (m_A (m_c X σ a) v1.toInt (-1) (m_c X σ a 9).toNat)) ez_20 rfl ir_18 (by first | (clear hh ahpσ_4 bhpσ_4 dhpσ_4 c_5 chpσ_4 ahpσ_10 bhpσ_10 dhpσ_10 c_11 chpσ_10 ahpσ_13 bhpσ_13 chpσ_13 dhpσ_13 ir_12 ggy_14 iy_14 ahpσ_16 dhpσ_16 kc_17 ahpσ_19 dhpσ_19; omega) | omega) (by first | (clear hh ahpσ_4 bhpσ_4 dhpσ_4 c_5 chpσ_4 ahpσ_10 bhpσ_10 dhpσ_10 c_11 chpσ_10 ahpσ_13 bhpσ_13 chpσ_13 dhpσ_13 ir_12 ggy_14 iy_14 ahpσ_16 dhpσ_16 kc_17 ahpσ_19 dhpσ_19; omega) | omega)
      refine lv_i2l hx hb dX12_heap_51 rfl ?_
      refine lv_topl (fun y_21 ey_21 => ?_)
      replace hF := q_letX hF ey_21
      have ggy_21 := q_rng z_20
      have iy_21 : y_21.toInt = z_20.toInt := by rw [ey_21]; exact (q_i2l _).trans rfl
      refine lv_lstore (lv' := [(5, .long y_21), (3, .long y_14), (0, .ref a), (1, .int v1), (2, .int v2)]) hx hb dX12_heap_52 hl (by decide) rfl (fun ls hl => ?_)
      refine lv_aload_n hx hb dX12_heap_54 rfl (lv_at hl 2 rfl) ?_
      refine lv_iload_n hx hb dX12_heap_55 rfl (lv_at hl 3 rfl) ?_
      refine q_ci (q_rV11_1 (rest := []) E (hml.trans hl.1.symm) hI (c_X12_unknownAll l X σ_2 a v1 ha (by rw [feσ_2]; exact hG) (by rw [feσ_2]; exact (by omega))) kv_X12_339 ha ⟨Nat.le_of_ble_eq_true rfl, Nat.le_of_ble_eq_true rfl⟩ (Nat.le_of_ble_eq_true rfl) dX12_heap_56) hI (Nat.le_of_ble_eq_true rfl) (fun r_22 σ_23 H locs hpσ_23 hkσ_23 hI => ?_)
      have ahpσ_23 := hpσ_23.1
      have bhpσ_23 := hpσ_23.2.1
      have chpσ_23 := hpσ_23.2.2.1
      have dhpσ_23 := hpσ_23.2.2.2
      clear hpσ_23
      replace hI := q_Irw ahpσ_23 hI
      rw [feσ_2] at bhpσ_23
      replace hF := q_letX hF dhpσ_23
      have ir_22 : r_22.toInt = (m_V (m_c X σ a) v1.toInt (m_c X σ a 0).toNat) := (by first | exact bhpσ_23 | (rw [bhpσ_23]) | (simp only [bhpσ_23]))
      refine lv_i2l hx hb dX12_heap_59 rfl ?_
      refine lv_topl (fun y_24 ey_24 => ?_)
      replace hF := q_letX hF ey_24
      have ggy_24 := q_rng r_22
      have iy_24 : y_24.toInt = r_22.toInt := by rw [ey_24]; exact (q_i2l _).trans rfl
      refine lv_lstore (lv' := [(7, .long y_24), (5, .long y_21), (3, .long y_14), (0, .ref a), (1, .int v1), (2, .int v2)]) hx hb dX12_heap_60 hl (by decide) rfl (fun ls hl => ?_)
      refine lv_lload hx hb dX12_heap_62 (lv_at hl 0 rfl) ?_
      refine lv_lconst (v := 0) hx hb dX12_heap_64 (by decide) ?_
      have kc_26 : (0 : Int64).toInt = 0 := rfl
      refine q_lcmpX E dX12_heap_65 (fun z_25 ez_25 hz_25 => ?_)
      replace hF := q_letX hF ez_25
      refine q_if_ne (A := z_25.toInt) E rfl (tgt := 76) dX12_heap_66 (by decide) (fun c_27 => ?_) (fun c_27 => ?_)
      · skip
        replace hF := q_ifn hF c_27
        refine lv_aload_n hx hb dX12_heap_76 rfl (lv_at hl 3 rfl) ?_
        refine lv_lload_n hx hb dX12_heap_77 rfl (lv_at hl 2 rfl) ?_
        refine lv_lload hx hb dX12_heap_78 (lv_at hl 0 rfl) ?_
        refine lv_lmul hx hb dX12_heap_80 ?_
        refine lv_topl (fun y_28 ey_28 => ?_)
        replace hF := q_letX hF ey_28
        refine lv_lload hx hb dX12_heap_81 (lv_at hl 1 rfl) ?_
        refine lv_aload_n hx hb dX12_heap_83 rfl (lv_at hl 3 rfl) ?_
        refine lv_iload_n hx hb dX12_heap_84 rfl (lv_at hl 4 rfl) ?_
        refine lv_iload_n hx hb dX12_heap_85 rfl (lv_at hl 5 rfl) ?_
        refine q_ci (q_rV11_2 (rest := [.long y_21, .long y_28, .ref a]) E (hml.trans hl.1.symm) hI (c_X12_unknownOf l X σ_2 a v1 v2 ha (by rw [feσ_2]; exact hG) (by rw [feσ_2]; exact (by omega)) (by first | (clear ahpσ_4 bhpσ_4 dhpσ_4 c_5 chpσ_4 ahpσ_10 bhpσ_10 dhpσ_10 c_11 ahpσ_13 bhpσ_13 chpσ_13 dhpσ_13 ir_12 ggy_14 iy_14 ahpσ_16 bhpσ_16 chpσ_16 dhpσ_16 kc_17 ahpσ_19 bhpσ_19 chpσ_19 dhpσ_19 ir_18 iz_20 ggy_21 iy_21 ahpσ_23 bhpσ_23 chpσ_23 dhpσ_23 ir_22 ggy_24 iy_24 kc_26 hz_25 c_27; omega) | omega)) kv_X12_336 ha ⟨Nat.le_of_ble_eq_true rfl, Nat.le_of_ble_eq_true rfl⟩ (Nat.le_of_ble_eq_true rfl) dX12_heap_86) hI (Nat.le_of_ble_eq_true rfl) (fun r_29 σ_30 H locs hpσ_30 hkσ_30 hI => ?_)
        have ahpσ_30 := hpσ_30.1
        have bhpσ_30 := hpσ_30.2.1
        have chpσ_30 := hpσ_30.2.2.1
        have dhpσ_30 := hpσ_30.2.2.2
        clear hpσ_30
        replace hI := q_Irw ahpσ_30 hI
        rw [feσ_2] at bhpσ_30
        replace hF := q_letX hF dhpσ_30
        have ir_29 : r_29.toInt = (m_U (m_c X σ a) v1.toInt v2.toInt) := (by first | exact bhpσ_30 | (rw [bhpσ_30]) | (simp only [bhpσ_30]))
        refine lv_i2l hx hb dX12_heap_89 rfl ?_
        refine lv_topl (fun y_31 ey_31 => ?_)
        replace hF := q_letX hF ey_31
        have ggy_31 := q_rng r_29
        have iy_31 : y_31.toInt = r_29.toInt := by rw [ey_31]; exact (q_i2l _).trans rfl
        refine lv_lmul hx hb dX12_heap_90 ?_
        refine lv_topl (fun y_32 ey_32 => ?_)
        replace hF := q_letX hF ey_32
        refine lv_ladd hx hb dX12_heap_91 ?_
        refine lv_topl (fun y_33 ey_33 => ?_)
        replace hF := q_letX hF ey_33
        refine lv_lload hx hb dX12_heap_92 (lv_at hl 0 rfl) ?_
        refine q_ci (q_rV11_2 (rest := []) E (hml.trans hl.1.symm) hI (c_X12_fraction l X σ_2 a y_33 y_24 ha (by first | (clear hh ahpσ_4 bhpσ_4 dhpσ_4 c_5 chpσ_4 ahpσ_10 bhpσ_10 dhpσ_10 c_11 chpσ_10 ahpσ_13 bhpσ_13 chpσ_13 dhpσ_13 ir_12 ggy_14 iy_14 ahpσ_16 bhpσ_16 chpσ_16 dhpσ_16 kc_17 ahpσ_19 bhpσ_19 chpσ_19 dhpσ_19 ir_18 iz_20 ggy_21 iy_21 ahpσ_23 bhpσ_23 chpσ_23 dhpσ_23 ir_22 ggy_24 iy_24 ahpσ_30 bhpσ_30 chpσ_30 dhpσ_30 ir_29 ggy_31 iy_31; omega) | omega)) kv_X12_361 ha ⟨Nat.le_of_ble_eq_true rfl, Nat.le_of_ble_eq_true rfl⟩ (Nat.le_of_ble_eq_true rfl) dX12_heap_94) hI (Nat.le_of_ble_eq_true rfl) (fun r_34 σ_35 H locs hpσ_35 hkσ_35 hI => ?_)
        have ahpσ_35 := hpσ_35.1
        have bhpσ_35 := hpσ_35.2.1
        have chpσ_35 := hpσ_35.2.2
        clear hpσ_35
        have fr_σ_35 := fr_σ_2.call chpσ_35 rfl rfl
        replace hF := q_biX hF bhpσ_35
        have mcσ_35 := m_cK hkσ_35 hI.1 ha (by decide)
        have feσ_35 : m_c X σ_35 a = m_c X σ a := (funext mcσ_35).trans feσ_2
        exact q_retz E hr hlk hI ⟨by omega, by omega⟩ ⟨⟨by omega, by omega⟩, (hF.trans hout), fr_σ_35⟩ dX12_heap_97
      · skip
        replace hF := q_ifp hF c_27
        refine lv_aload_n hx hb dX12_heap_69 rfl (lv_at hl 3 rfl) ?_
        refine lv_lload_n hx hb dX12_heap_70 rfl (lv_at hl 2 rfl) ?_
        refine lv_lconst (v := 1) hx hb dX12_heap_71 (by decide) ?_
        have kc_36 : (1 : Int64).toInt = 1 := rfl
        refine q_ci (q_rV11_2 (rest := []) E (hml.trans hl.1.symm) hI (c_X12_fraction l X σ_2 a y_14 (1 : Int64) ha (Or.inr (by decide))) kv_X12_361 ha ⟨Nat.le_of_ble_eq_true rfl, Nat.le_of_ble_eq_true rfl⟩ (Nat.le_of_ble_eq_true rfl) dX12_heap_72) hI (Nat.le_of_ble_eq_true rfl) (fun r_37 σ_38 H locs hpσ_38 hkσ_38 hI => ?_)
        have ahpσ_38 := hpσ_38.1
        have bhpσ_38 := hpσ_38.2.1
        have chpσ_38 := hpσ_38.2.2
        clear hpσ_38
        have fr_σ_38 := fr_σ_2.call chpσ_38 rfl rfl
        replace hF := q_biX hF bhpσ_38
        have mcσ_38 := m_cK hkσ_38 hI.1 ha (by decide)
        have feσ_38 : m_c X σ_38 a = m_c X σ a := (funext mcσ_38).trans feσ_2
        exact q_retz E hr hlk hI ⟨by omega, by omega⟩ ⟨⟨by omega, by omega⟩, (hF.trans hout), fr_σ_38⟩ dX12_heap_75
    · skip
      replace hF := q_ifp hF c_11
      replace chpσ_10 := q_ifNo chpσ_10 c_11
      refine lv_aload_n hx hb dX12_heap_26 rfl (lv_at hl 0 rfl) ?_
      refine lv_iconst (v := 2) hx hb dX12_heap_27 zki_2 ?_
      have kc_39 : (2 : Int32).toInt = 2 := zt_2
      refine q_ci (q_rV11_1 (rest := []) E (hml.trans hl.1.symm) hI (c_X12_no l X σ_2 a (2 : Int32) ha) kv_X12_74 ha ⟨Nat.le_of_ble_eq_true rfl, Nat.le_of_ble_eq_true rfl⟩ (Nat.le_of_ble_eq_true rfl) dX12_heap_28) hI (Nat.le_of_ble_eq_true rfl) (fun r_40 σ_41 H locs hpσ_41 hkσ_41 hI => ?_)
      have ahpσ_41 := hpσ_41.1
      have bhpσ_41 := hpσ_41.2.1
      have chpσ_41 := hpσ_41.2.2.1
      have dhpσ_41 := hpσ_41.2.2.2
      clear hpσ_41
      have fr_σ_41 := fr_σ_2.call dhpσ_41 rfl rfl
      replace hF := q_biX hF chpσ_41
      have mcσ_41 := m_cK hkσ_41 hI.1 ha (by decide)
      have feσ_41 : m_c X σ_41 a = m_c X σ a := (funext mcσ_41).trans feσ_2
      exact q_retz E hr hlk hI ⟨by omega, by omega⟩ ⟨⟨by omega, by omega⟩, (hF.trans hout), fr_σ_41⟩ dX12_heap_31
end
