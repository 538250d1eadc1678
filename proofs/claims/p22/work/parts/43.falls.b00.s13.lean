section
set_option maxRecDepth 100000 in
set_option maxHeartbeats 4000000 in
theorem c_X12_guess (l : Launch) (X : XW) (σ : ST) (a : Nat) (v1 : Int32) (v2 : Int32) (v3 : Int32) (ha : q_kd X a = 12) (hG : m_G (m_c X σ a)) : Met l yX12_guess (q_ws yX12_guess cX12_guess 4 (some .boolean)) (q_rm 5 114) (q_P X σ [.ref a, .int v1, .int v2, .int v3]) (q_Qi X 8 σ (fun (r : Int32) (σ' : ST) => (0 ≤ r.toInt ∧ r.toInt ≤ 1) ∧ (r, σ') = F_X12_guess X σ a v1 v2 v3 ∧ q_ow [(12, 0), (12, 1)] [(12, 2), (12, 3)] X σ σ')) 0 0 (q_reg X) := by
  refine q_met 8 (by first | exact rfl | decide +kernel) rfl (Nat.le_of_ble_eq_true rfl) (fun p e s m below meth c E hml hr hlk hI ls hl => ?_)
  have hx := E.1
  have hb := E.2.1
  have hl : lv_has ls 4 [(0, .ref a), (1, .int v1), (2, .int v2), (3, .int v3)] := hl
  have feσ : m_c X σ a = m_c X σ a := rfl
  have fr_σ : q_ow [(12, 0), (12, 1)] [(12, 2), (12, 3)] X σ σ := q_ow.rf
  have hh := hG.hd
  obtain ⟨out, hout⟩ : ∃ o, o = F_X12_guess X σ a v1 v2 v3 := ⟨_, rfl⟩
  have hF := hout.symm
  unfold F_X12_guess at hF
  refine lv_aload_n hx hb dX12_guess_0 rfl (lv_at hl 0 rfl) ?_
  refine lv_iconst (v := 0) hx hb dX12_guess_1 zki_0 ?_
  refine ps_X12_59_12 E hI ha (by decide) dX12_guess_2 (fun H locs σ_1 hσ_1 hI => ?_)
  replace hF := q_letX hF hσ_1
  have fr_σ_1 := fr_σ.si hσ_1 ha rfl
  have mcσ_1 := m_wo hσ_1 (m_ne ha (q_tk (f := 20) (k' := 34) hI ha rfl (by decide)) (by decide))
  have feσ_1 : m_c X σ_1 a = m_c X σ a := (funext mcσ_1).trans feσ
  refine lv_aload_n hx hb dX12_guess_5 rfl (lv_at hl 0 rfl) ?_
  refine lv_iconst (v := 0) hx hb dX12_guess_6 zki_0 ?_
  refine ps_X12_62_12 E hI ha (by decide) dX12_guess_7 (fun H locs σ_2 hσ_2 hI => ?_)
  replace hF := q_letX hF hσ_2
  have fr_σ_2 := fr_σ_1.si hσ_2 ha rfl
  have mcσ_2 := m_wo hσ_2 (m_ne ha (q_tk (f := 20) (k' := 34) hI ha rfl (by decide)) (by decide))
  have feσ_2 : m_c X σ_2 a = m_c X σ a := (funext mcσ_2).trans feσ_1
  refine lv_aload_n hx hb dX12_guess_10 rfl (lv_at hl 0 rfl) ?_
  refine lv_iload_n hx hb dX12_guess_11 rfl (lv_at hl 1 rfl) ?_
  refine q_ci (q_rV11_1 (rest := []) E (hml.trans hl.1.symm) hI (c_X12_isPlayerAt l X σ_2 a v1 ha (by rw [feσ_2]; exact hG)) kv_X12_290 ha ⟨Nat.le_of_ble_eq_true rfl, Nat.le_of_ble_eq_true rfl⟩ (Nat.le_of_ble_eq_true rfl) dX12_guess_12) hI (Nat.le_of_ble_eq_true rfl) (fun r_3 σ_4 H locs hpσ_4 hkσ_4 hI => ?_)
  have ahpσ_4 := hpσ_4.1
  have bhpσ_4 := hpσ_4.2.1
  have chpσ_4 := hpσ_4.2.2.1
  have dhpσ_4 := hpσ_4.2.2.2
  clear hpσ_4
  replace hI := q_Irw ahpσ_4 hI
  rw [feσ_2] at chpσ_4
  replace hF := q_letX hF dhpσ_4
  refine q_if_eq (A := r_3.toInt) E rfl (tgt := 26) dX12_guess_15 (by decide) (fun c_5 => ?_) (fun c_5 => ?_)
  · skip
    replace hF := q_ifp hF c_5
    replace chpσ_4 := q_ifNo chpσ_4 c_5
    refine lv_aload_n hx hb dX12_guess_26 rfl (lv_at hl 0 rfl) ?_
    refine lv_iconst (v := 2) hx hb dX12_guess_27 zki_2 ?_
    have kc_6 : (2 : Int32).toInt = 2 := zt_2
    refine q_ci (q_rV11_1 (rest := []) E (hml.trans hl.1.symm) hI (c_X12_no l X σ_2 a (2 : Int32) ha) kv_X12_74 ha ⟨Nat.le_of_ble_eq_true rfl, Nat.le_of_ble_eq_true rfl⟩ (Nat.le_of_ble_eq_true rfl) dX12_guess_28) hI (Nat.le_of_ble_eq_true rfl) (fun r_7 σ_8 H locs hpσ_8 hkσ_8 hI => ?_)
    have ahpσ_8 := hpσ_8.1
    have bhpσ_8 := hpσ_8.2.1
    have chpσ_8 := hpσ_8.2.2.1
    have dhpσ_8 := hpσ_8.2.2.2
    clear hpσ_8
    have fr_σ_8 := fr_σ_2.call dhpσ_8 rfl rfl
    replace hF := q_biX hF chpσ_8
    have mcσ_8 := m_cK hkσ_8 hI.1 ha (by decide)
    have feσ_8 : m_c X σ_8 a = m_c X σ a := (funext mcσ_8).trans feσ_2
    exact q_retz E hr hlk hI ⟨by omega, by omega⟩ ⟨⟨by omega, by omega⟩, (hF.trans hout), fr_σ_8⟩ dX12_guess_31
  · skip
    replace hF := q_ifn hF c_5
    replace c_5 := q_ifOne bhpσ_4 c_5
    replace chpσ_4 := q_ifYes chpσ_4 c_5
    refine lv_aload_n hx hb dX12_guess_18 rfl (lv_at hl 0 rfl) ?_
    refine lv_iload_n hx hb dX12_guess_19 rfl (lv_at hl 2 rfl) ?_
    refine q_ci (q_rV11_1 (rest := []) E (hml.trans hl.1.symm) hI (c_X12_isKindAt l X σ_2 a v2 ha (by rw [feσ_2]; exact hG)) kv_X12_299 ha ⟨Nat.le_of_ble_eq_true rfl, Nat.le_of_ble_eq_true rfl⟩ (Nat.le_of_ble_eq_true rfl) dX12_guess_20) hI (Nat.le_of_ble_eq_true rfl) (fun r_9 σ_10 H locs hpσ_10 hkσ_10 hI => ?_)
    have ahpσ_10 := hpσ_10.1
    have bhpσ_10 := hpσ_10.2.1
    have chpσ_10 := hpσ_10.2.2.1
    have dhpσ_10 := hpσ_10.2.2.2
    clear hpσ_10
    replace hI := q_Irw ahpσ_10 hI
    rw [feσ_2] at chpσ_10
    replace hF := q_letX hF dhpσ_10
    refine q_if_ne (A := r_9.toInt) E rfl (tgt := 32) dX12_guess_23 (by decide) (fun c_11 => ?_) (fun c_11 => ?_)
    · skip
      replace hF := q_ifn hF c_11
      replace c_11 := q_ifOne bhpσ_10 c_11
      replace chpσ_10 := q_ifYes chpσ_10 c_11
      refine lv_iload_n hx hb dX12_guess_32 rfl (lv_at hl 3 rfl) ?_
      refine lv_i2l hx hb dX12_guess_33 rfl ?_
      refine lv_topl (fun y_12 ey_12 => ?_)
      replace hF := q_letX hF ey_12
      have ggy_12 := q_rng v3
      have iy_12 : y_12.toInt = v3.toInt := by rw [ey_12]; exact (q_i2l _).trans rfl
      refine lv_lconst (v := 0) hx hb dX12_guess_34 (by decide) ?_
      refine lv_ldc2 (v := 4) hx hb E.2.2.1 (E.2.2.2.1 _ (q_in_t9 (i := 124) (by first | rfl | decide +kernel) rfl)) dX12_guess_35 ?_
      have kc_13 : (0 : Int64).toInt = 0 := rfl
      have kc_14 : (4 : Int64).toInt = 4 := rfl
      refine q_ci (q_runS (As := [.long y_12, .long 0, .long 4]) (rest := []) E (hml.trans hl.1.symm) hI (c_X12_isIn l X σ_2 y_12 (0 : Int64) (4 : Int64)) ks_X12_94 rfl ⟨Nat.le_of_ble_eq_true rfl, Nat.le_of_ble_eq_true rfl⟩ ⟨Nat.le_refl _, Nat.le_refl _⟩ rfl (Nat.le_of_ble_eq_true rfl) dX12_guess_38) hI (Nat.le_of_ble_eq_true rfl) (fun r_15 σ_16 H locs hpσ_16 hkσ_16 hI => ?_)
      have ahpσ_16 := hpσ_16.1
      have bhpσ_16 := hpσ_16.2.1
      have chpσ_16 := hpσ_16.2.2.1
      have dhpσ_16 := hpσ_16.2.2.2
      clear hpσ_16
      replace hI := q_Irw ahpσ_16 hI
      replace hF := q_letX hF dhpσ_16
      refine q_if_ne (A := r_15.toInt) E rfl (tgt := 50) dX12_guess_41 (by decide) (fun c_17 => ?_) (fun c_17 => ?_)
      · skip
        replace hF := q_ifn hF c_17
        replace c_17 := q_ifOne bhpσ_16 c_17
        replace chpσ_16 := q_ifYes chpσ_16 c_17
        refine lv_aload_n hx hb dX12_guess_50 rfl (lv_at hl 0 rfl) ?_
        refine lv_iload_n hx hb dX12_guess_51 rfl (lv_at hl 1 rfl) ?_
        refine q_ci (q_rV11_1 (rest := []) E (hml.trans hl.1.symm) hI (c_X12_unknownAll l X σ_2 a v1 ha (by rw [feσ_2]; exact hG) (by rw [feσ_2]; exact (by omega))) kv_X12_339 ha ⟨Nat.le_of_ble_eq_true rfl, Nat.le_of_ble_eq_true rfl⟩ (Nat.le_of_ble_eq_true rfl) dX12_guess_52) hI (Nat.le_of_ble_eq_true rfl) (fun r_18 σ_19 H locs hpσ_19 hkσ_19 hI => ?_)
        have ahpσ_19 := hpσ_19.1
        have bhpσ_19 := hpσ_19.2.1
        have chpσ_19 := hpσ_19.2.2.1
        have dhpσ_19 := hpσ_19.2.2.2
        clear hpσ_19
        replace hI := q_Irw ahpσ_19 hI
        rw [feσ_2] at bhpσ_19
        replace hF := q_letX hF dhpσ_19
        have ir_18 : r_18.toInt = (m_V (m_c X σ a) v1.toInt (m_c X σ a 0).toNat) := (by first | exact bhpσ_19 | (rw [bhpσ_19]) | (simp only [bhpσ_19]))
        refine lv_iload_n hx hb dX12_guess_55 rfl (lv_at hl 3 rfl) ?_
        refine q_icmp_ge (A := r_18.toInt) (B := v3.toInt) E rfl rfl (tgt := 66) dX12_guess_56 (by decide) (fun c_20 => ?_) (fun c_20 => ?_)
        · skip
          replace hF := q_ifn hF (Int.not_lt.mpr c_20)
          refine lv_aload_n hx hb dX12_guess_66 rfl (lv_at hl 0 rfl) ?_
          refine lv_aload_n hx hb dX12_guess_67 rfl (lv_at hl 0 rfl) ?_
          refine lv_iload_n hx hb dX12_guess_68 rfl (lv_at hl 1 rfl) ?_
          refine lv_iload_n hx hb dX12_guess_69 rfl (lv_at hl 2 rfl) ?_
          refine q_ci (q_rV11_2 (rest := [.ref a]) E (hml.trans hl.1.symm) hI (c_X12_unknownOf l X σ_2 a v1 v2 ha (by rw [feσ_2]; exact hG) (by rw [feσ_2]; exact (by omega)) (by first | (clear ahpσ_4 bhpσ_4 dhpσ_4 c_5 chpσ_4 ahpσ_10 bhpσ_10 dhpσ_10 c_11 ggy_12 iy_12 kc_13 kc_14 ahpσ_16 bhpσ_16 dhpσ_16 c_17 chpσ_16 ahpσ_19 bhpσ_19 chpσ_19 dhpσ_19 ir_18 c_20; omega) | omega)) kv_X12_336 ha ⟨Nat.le_of_ble_eq_true rfl, Nat.le_of_ble_eq_true rfl⟩ (Nat.le_of_ble_eq_true rfl) dX12_guess_70) hI (Nat.le_of_ble_eq_true rfl) (fun r_21 σ_22 H locs hpσ_22 hkσ_22 hI => ?_)
          have ahpσ_22 := hpσ_22.1
          have bhpσ_22 := hpσ_22.2.1
          have chpσ_22 := hpσ_22.2.2.1
          have dhpσ_22 := hpσ_22.2.2.2
          clear hpσ_22
          replace hI := q_Irw ahpσ_22 hI
          rw [feσ_2] at bhpσ_22
          replace hF := q_letX hF dhpσ_22
          have ir_21 : r_21.toInt = (m_U (m_c X σ a) v1.toInt v2.toInt) := (by first | exact bhpσ_22 | (rw [bhpσ_22]) | (simp only [bhpσ_22]))
          refine lv_iload_n hx hb dX12_guess_73 rfl (lv_at hl 3 rfl) ?_
          refine q_cl_ (q_runS (As := [.int r_21, .int v3]) (rest := [.ref a]) E (hml.trans hl.1.symm) hI (c_X12_choose l X σ_2 r_21 v3 (by first | (clear hh ahpσ_4 bhpσ_4 dhpσ_4 c_5 chpσ_4 ahpσ_10 bhpσ_10 dhpσ_10 c_11 chpσ_10 ggy_12 iy_12 kc_13 kc_14 ahpσ_16 bhpσ_16 dhpσ_16 c_17 chpσ_16 ahpσ_19 bhpσ_19 chpσ_19 dhpσ_19 ir_18 c_20 ahpσ_22 dhpσ_22 ir_21; omega) | omega) (by first | (clear hh ahpσ_4 bhpσ_4 dhpσ_4 c_5 chpσ_4 ahpσ_10 bhpσ_10 dhpσ_10 c_11 chpσ_10 ahpσ_16 bhpσ_16 dhpσ_16 c_17 ahpσ_19 bhpσ_19 chpσ_19 dhpσ_19 ir_18 c_20 ahpσ_22 bhpσ_22 chpσ_22 dhpσ_22 ir_21; omega) | omega)) ks_X12_342 rfl ⟨Nat.le_of_ble_eq_true rfl, Nat.le_of_ble_eq_true rfl⟩ ⟨Nat.le_refl _, Nat.le_refl _⟩ rfl (Nat.le_of_ble_eq_true rfl) dX12_guess_74) hI (Nat.le_of_ble_eq_true rfl) (fun r_23 σ_24 H locs hpσ_24 hkσ_24 hI => ?_)
          have ahpσ_24 := hpσ_24.1
          have bhpσ_24 := hpσ_24.2.1
          have chpσ_24 := hpσ_24.2.2.1
          have dhpσ_24 := hpσ_24.2.2.2
          clear hpσ_24
          replace hI := q_Irw ahpσ_24 hI
          replace hF := q_letX hF dhpσ_24
          refine lv_aload_n hx hb dX12_guess_77 rfl (lv_at hl 0 rfl) ?_
          refine lv_iload_n hx hb dX12_guess_78 rfl (lv_at hl 1 rfl) ?_
          refine q_ci (q_rV11_1 (rest := [.long r_23, .ref a]) E (hml.trans hl.1.symm) hI (c_X12_unknownAll l X σ_2 a v1 ha (by rw [feσ_2]; exact hG) (by rw [feσ_2]; exact (by omega))) kv_X12_339 ha ⟨Nat.le_of_ble_eq_true rfl, Nat.le_of_ble_eq_true rfl⟩ (Nat.le_of_ble_eq_true rfl) dX12_guess_79) hI (Nat.le_of_ble_eq_true rfl) (fun r_25 σ_26 H locs hpσ_26 hkσ_26 hI => ?_)
          have ahpσ_26 := hpσ_26.1
          have bhpσ_26 := hpσ_26.2.1
          have chpσ_26 := hpσ_26.2.2.1
          have dhpσ_26 := hpσ_26.2.2.2
          clear hpσ_26
          replace hI := q_Irw ahpσ_26 hI
          rw [feσ_2] at bhpσ_26
          replace hF := q_letX hF dhpσ_26
          have ir_25 : r_25.toInt = (m_V (m_c X σ a) v1.toInt (m_c X σ a 0).toNat) := (by first | exact bhpσ_26 | (rw [bhpσ_26]) | (simp only [bhpσ_26]))
          refine lv_iload_n hx hb dX12_guess_82 rfl (lv_at hl 3 rfl) ?_
          refine q_cl_ (q_runS (As := [.int r_25, .int v3]) (rest := [.long r_23, .ref a]) E (hml.trans hl.1.symm) hI (c_X12_choose l X σ_2 r_25 v3 (by omega) (by first | (clear hh ahpσ_4 bhpσ_4 dhpσ_4 c_5 chpσ_4 ahpσ_10 bhpσ_10 dhpσ_10 c_11 chpσ_10 ahpσ_16 bhpσ_16 dhpσ_16 c_17 ahpσ_19 bhpσ_19 chpσ_19 dhpσ_19 ir_18 c_20 ahpσ_22 bhpσ_22 chpσ_22 dhpσ_22 ir_21 ahpσ_24 bhpσ_24 chpσ_24 dhpσ_24 ahpσ_26 bhpσ_26 chpσ_26 dhpσ_26 ir_25; omega) | omega)) ks_X12_342 rfl ⟨Nat.le_of_ble_eq_true rfl, Nat.le_of_ble_eq_true rfl⟩ ⟨Nat.le_refl _, Nat.le_refl _⟩ rfl (Nat.le_of_ble_eq_true rfl) dX12_guess_83) hI (Nat.le_of_ble_eq_true rfl) (fun r_27 σ_28 H locs hpσ_28 hkσ_28 hI => ?_)
          have ahpσ_28 := hpσ_28.1
          have bhpσ_28 := hpσ_28.2.1
          have chpσ_28 := hpσ_28.2.2.1
          have dhpσ_28 := hpσ_28.2.2.2
          clear hpσ_28
          replace hI := q_Irw ahpσ_28 hI
          replace hF := q_letX hF dhpσ_28
          refine q_ci (q_rV11_2 (rest := []) E (hml.trans hl.1.symm) hI (c_X12_fraction l X σ_2 a r_23 r_27 ha (by first | (clear hh ahpσ_4 bhpσ_4 dhpσ_4 c_5 chpσ_4 ahpσ_10 bhpσ_10 dhpσ_10 c_11 chpσ_10 ggy_12 kc_13 kc_14 ahpσ_16 bhpσ_16 dhpσ_16 c_17 chpσ_16 ahpσ_19 chpσ_19 dhpσ_19 ir_18 ahpσ_22 bhpσ_22 chpσ_22 dhpσ_22 ir_21 ahpσ_24 bhpσ_24 chpσ_24 dhpσ_24 ahpσ_26 chpσ_26 dhpσ_26 ir_25 ahpσ_28 bhpσ_28 dhpσ_28; omega) | omega)) kv_X12_361 ha ⟨Nat.le_of_ble_eq_true rfl, Nat.le_of_ble_eq_true rfl⟩ (Nat.le_of_ble_eq_true rfl) dX12_guess_86) hI (Nat.le_of_ble_eq_true rfl) (fun r_29 σ_30 H locs hpσ_30 hkσ_30 hI => ?_)
          have ahpσ_30 := hpσ_30.1
          have bhpσ_30 := hpσ_30.2.1
          have chpσ_30 := hpσ_30.2.2
          clear hpσ_30
          have fr_σ_30 := fr_σ_2.call chpσ_30 rfl rfl
          replace hF := q_biX hF bhpσ_30
          have mcσ_30 := m_cK hkσ_30 hI.1 ha (by decide)
          have feσ_30 : m_c X σ_30 a = m_c X σ a := (funext mcσ_30).trans feσ_2
          exact q_retz E hr hlk hI ⟨by omega, by omega⟩ ⟨⟨by omega, by omega⟩, (hF.trans hout), fr_σ_30⟩ dX12_guess_89
        · skip
          replace hF := q_ifp hF c_20
          refine lv_aload_n hx hb dX12_guess_59 rfl (lv_at hl 0 rfl) ?_
          refine lv_bipush (v := 9) hx hb dX12_guess_60 zkb_9 ?_
          have kc_31 : (9 : Int32).toInt = 9 := zt_9
          refine q_ci (q_rV11_1 (rest := []) E (hml.trans hl.1.symm) hI (c_X12_no l X σ_2 a (9 : Int32) ha) kv_X12_74 ha ⟨Nat.le_of_ble_eq_true rfl, Nat.le_of_ble_eq_true rfl⟩ (Nat.le_of_ble_eq_true rfl) dX12_guess_62) hI (Nat.le_of_ble_eq_true rfl) (fun r_32 σ_33 H locs hpσ_33 hkσ_33 hI => ?_)
          have ahpσ_33 := hpσ_33.1
          have bhpσ_33 := hpσ_33.2.1
          have chpσ_33 := hpσ_33.2.2.1
          have dhpσ_33 := hpσ_33.2.2.2
          clear hpσ_33
          have fr_σ_33 := fr_σ_2.call dhpσ_33 rfl rfl
          replace hF := q_biX hF chpσ_33
          have mcσ_33 := m_cK hkσ_33 hI.1 ha (by decide)
          have feσ_33 : m_c X σ_33 a = m_c X σ a := (funext mcσ_33).trans feσ_2
          exact q_retz E hr hlk hI ⟨by omega, by omega⟩ ⟨⟨by omega, by omega⟩, (hF.trans hout), fr_σ_33⟩ dX12_guess_65
      · skip
        replace hF := q_ifp hF c_17
        replace chpσ_16 := q_ifNo chpσ_16 c_17
        refine lv_aload_n hx hb dX12_guess_44 rfl (lv_at hl 0 rfl) ?_
        refine lv_iconst (v := 5) hx hb dX12_guess_45 zki_5 ?_
        have kc_34 : (5 : Int32).toInt = 5 := zt_5
        refine q_ci (q_rV11_1 (rest := []) E (hml.trans hl.1.symm) hI (c_X12_no l X σ_2 a (5 : Int32) ha) kv_X12_74 ha ⟨Nat.le_of_ble_eq_true rfl, Nat.le_of_ble_eq_true rfl⟩ (Nat.le_of_ble_eq_true rfl) dX12_guess_46) hI (Nat.le_of_ble_eq_true rfl) (fun r_35 σ_36 H locs hpσ_36 hkσ_36 hI => ?_)
        have ahpσ_36 := hpσ_36.1
        have bhpσ_36 := hpσ_36.2.1
        have chpσ_36 := hpσ_36.2.2.1
        have dhpσ_36 := hpσ_36.2.2.2
        clear hpσ_36
        have fr_σ_36 := fr_σ_2.call dhpσ_36 rfl rfl
        replace hF := q_biX hF chpσ_36
        have mcσ_36 := m_cK hkσ_36 hI.1 ha (by decide)
        have feσ_36 : m_c X σ_36 a = m_c X σ a := (funext mcσ_36).trans feσ_2
        exact q_retz E hr hlk hI ⟨by omega, by omega⟩ ⟨⟨by omega, by omega⟩, (hF.trans hout), fr_σ_36⟩ dX12_guess_49
    · skip
      replace hF := q_ifp hF c_11
      replace chpσ_10 := q_ifNo chpσ_10 c_11
      refine lv_aload_n hx hb dX12_guess_26 rfl (lv_at hl 0 rfl) ?_
      refine lv_iconst (v := 2) hx hb dX12_guess_27 zki_2 ?_
      have kc_37 : (2 : Int32).toInt = 2 := zt_2
      refine q_ci (q_rV11_1 (rest := []) E (hml.trans hl.1.symm) hI (c_X12_no l X σ_2 a (2 : Int32) ha) kv_X12_74 ha ⟨Nat.le_of_ble_eq_true rfl, Nat.le_of_ble_eq_true rfl⟩ (Nat.le_of_ble_eq_true rfl) dX12_guess_28) hI (Nat.le_of_ble_eq_true rfl) (fun r_38 σ_39 H locs hpσ_39 hkσ_39 hI => ?_)
      have ahpσ_39 := hpσ_39.1
      have bhpσ_39 := hpσ_39.2.1
      have chpσ_39 := hpσ_39.2.2.1
      have dhpσ_39 := hpσ_39.2.2.2
      clear hpσ_39
      have fr_σ_39 := fr_σ_2.call dhpσ_39 rfl rfl
      replace hF := q_biX hF chpσ_39
      have mcσ_39 := m_cK hkσ_39 hI.1 ha (by decide)
      have feσ_39 : m_c X σ_39 a = m_c X σ a := (funext mcσ_39).trans feσ_2
      exact q_retz E hr hlk hI ⟨by omega, by omega⟩ ⟨⟨by omega, by omega⟩, (hF.trans hout), fr_σ_39⟩ dX12_guess_31
end
