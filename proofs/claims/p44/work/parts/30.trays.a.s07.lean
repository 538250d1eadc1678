section
set_option maxRecDepth 100000 in
set_option maxHeartbeats 4000000 in
theorem c_X12_pour (l : Launch) (X : XW) (σ : ST) (a : Nat) (v1 : Int32) (v2 : Int32) (v3 : Int32) (v4 : Int32) (v5 : Int32) (ha : q_kd X a = 12) : Met l yX12_pour (q_ws yX12_pour cX12_pour 9 (some .boolean)) (q_rm 1 21) (q_P X σ [.ref a, .int v1, .int v2, .int v3, .int v4, .int v5]) (q_Qi X 8 σ (fun (r : Int32) (σ' : ST) => (0 ≤ r.toInt ∧ r.toInt ≤ 1) ∧ (r.toInt = 1 ↔ ((0 ≤ v1.toInt ∧ v1.toInt < 4) ∧ (0 ≤ v3.toInt ∧ v3.toInt < 4) ∧ 0 ≤ (σ.1 (q_rf X a 5) v1.toNatClampNeg).toInt ∧ 0 ≤ (σ.1 (q_rf X a 5) v3.toNatClampNeg).toInt ∧ (σ.1 (q_rf X a 4) v1.toNatClampNeg).toInt = (σ.1 (q_rf X a 4) v3.toNatClampNeg).toInt ∧ 0 ≤ v5.toInt ∧ 0 ≤ v2.toInt ∧ v2.toInt + v5.toInt ≤ (σ.1 (q_rf X a 5) v1.toNatClampNeg).toInt ∧ 0 ≤ v4.toInt ∧ v4.toInt + v5.toInt ≤ (σ.1 (q_rf X a 5) v3.toNatClampNeg).toInt)) ∧ (r, σ') = F_X12_pour X σ a v1 v2 v3 v4 v5 ∧ q_ow [(12, 0), (12, 1)] [(32, 99)] X σ σ')) 0 0 (q_reg X) := by
  refine q_met 8 (by first | exact rfl | decide +kernel) rfl (Nat.le_of_ble_eq_true rfl) (fun p e s m below meth c E hml hr hlk hI ls hl => ?_)
  have hx := E.1
  have hb := E.2.1
  have hl : lv_has ls 9 [(0, .ref a), (1, .int v1), (2, .int v2), (3, .int v3), (4, .int v4), (5, .int v5)] := hl
  have fr_σ : q_ow [(12, 0), (12, 1)] [(32, 99)] X σ σ := q_ow.rf
  obtain ⟨out, hout⟩ : ∃ o, o = F_X12_pour X σ a v1 v2 v3 v4 v5 := ⟨_, rfl⟩
  have hF := hout.symm
  unfold F_X12_pour at hF
  refine lv_aload_n hx hb dX12_pour_0 rfl (lv_at hl 0 rfl) ?_
  refine lv_iconst (v := 0) hx hb dX12_pour_1 (by decide) ?_
  refine ps_X12_59_12 E hI ha (by decide) dX12_pour_2 (fun H locs σ_1 hσ_1 hI => ?_)
  replace hF := q_letX hF hσ_1
  have fr_σ_1 := fr_σ.si hσ_1 ha rfl
  refine lv_aload_n hx hb dX12_pour_5 rfl (lv_at hl 0 rfl) ?_
  refine lv_iconst (v := 0) hx hb dX12_pour_6 (by decide) ?_
  refine ps_X12_62_12 E hI ha (by decide) dX12_pour_7 (fun H locs σ_2 hσ_2 hI => ?_)
  replace hF := q_letX hF hσ_2
  have fr_σ_2 := fr_σ_1.si hσ_2 ha rfl
  have tfσ_2 := m_k31 hI.2.2.2.2.2 hI.1 ha (by decide) v1.toNatClampNeg
  have tgσ_2 := m_k31 hI.2.2.2.2.2 hI.1 ha (by decide) v3.toNatClampNeg
  have sfσ_2 := m_k30 hI.2.2.2.2.2 hI.1 ha (by decide) v1.toNatClampNeg
  have sgσ_2 := m_k30 hI.2.2.2.2.2 hI.1 ha (by decide) v3.toNatClampNeg
  refine lv_iload_n hx hb dX12_pour_10 rfl (lv_at hl 1 rfl) ?_
  refine q_if_lt (A := v1.toInt) E rfl (tgt := 28) dX12_pour_11 (by decide) (fun c_3 => ?_) (fun c_3 => ?_)
  · skip
    replace hF := q_ifp hF c_3
    refine lv_aload_n hx hb dX12_pour_28 rfl (lv_at hl 0 rfl) ?_
    refine lv_iconst (v := 1) hx hb dX12_pour_29 (by decide) ?_
    have kc_4 : (1 : Int32).toInt = 1 := rfl
    refine q_ci (q_runV (As := [.int 1]) (rest := []) E (hml.trans hl.1.symm) hI (c_X12_no l X σ_2 a (1 : Int32) ha) kv_X12_74 ha ⟨rfl, by decide⟩ (show vwCl[11]? = some (RX12, TX12, 46) from rfl) rfl ⟨Nat.le_of_ble_eq_true rfl, Nat.le_of_ble_eq_true rfl⟩ ⟨Nat.le_refl _, Nat.le_refl _⟩ rfl (Nat.le_of_ble_eq_true rfl) dX12_pour_30) hI (by decide) (fun r_5 σ_6 H locs hpσ_6 hkσ_6 hI => ?_)
    obtain ⟨ahpσ_6, bhpσ_6, chpσ_6, dhpσ_6⟩ := hpσ_6
    have fr_σ_6 := fr_σ_2.call dhpσ_6 rfl rfl
    replace hF := q_biX hF chpσ_6
    exact q_retz E hr hlk hI ⟨by omega, by omega⟩ ⟨⟨by omega, by omega⟩, (by constructor <;> intro h9 <;> omega), (hF.trans hout), fr_σ_6⟩ dX12_pour_33
  · skip
    replace hF := q_ifn hF (Int.not_lt.mpr c_3)
    refine lv_iload_n hx hb dX12_pour_14 rfl (lv_at hl 1 rfl) ?_
    refine lv_iconst (v := 4) hx hb dX12_pour_15 (by decide) ?_
    have gc_7_v1 := q_rng v1
    refine q_icmp_ge (A := v1.toInt) (B := 4) E rfl (by decide) (tgt := 28) dX12_pour_16 (by decide) (fun c_7 => ?_) (fun c_7 => ?_)
    · skip
      replace hF := q_ifn hF (Int.not_lt.mpr c_7)
      refine lv_aload_n hx hb dX12_pour_28 rfl (lv_at hl 0 rfl) ?_
      refine lv_iconst (v := 1) hx hb dX12_pour_29 (by decide) ?_
      have kc_8 : (1 : Int32).toInt = 1 := rfl
      refine q_ci (q_runV (As := [.int 1]) (rest := []) E (hml.trans hl.1.symm) hI (c_X12_no l X σ_2 a (1 : Int32) ha) kv_X12_74 ha ⟨rfl, by decide⟩ (show vwCl[11]? = some (RX12, TX12, 46) from rfl) rfl ⟨Nat.le_of_ble_eq_true rfl, Nat.le_of_ble_eq_true rfl⟩ ⟨Nat.le_refl _, Nat.le_refl _⟩ rfl (Nat.le_of_ble_eq_true rfl) dX12_pour_30) hI (by decide) (fun r_9 σ_10 H locs hpσ_10 hkσ_10 hI => ?_)
      obtain ⟨ahpσ_10, bhpσ_10, chpσ_10, dhpσ_10⟩ := hpσ_10
      have fr_σ_10 := fr_σ_2.call dhpσ_10 rfl rfl
      replace hF := q_biX hF chpσ_10
      exact q_retz E hr hlk hI ⟨by omega, by omega⟩ ⟨⟨by omega, by omega⟩, (by constructor <;> intro h9 <;> omega), (hF.trans hout), fr_σ_10⟩ dX12_pour_33
    · skip
      replace hF := q_ifp hF c_7
      refine lv_iload_n hx hb dX12_pour_19 rfl (lv_at hl 3 rfl) ?_
      refine q_if_lt (A := v3.toInt) E rfl (tgt := 28) dX12_pour_20 (by decide) (fun c_11 => ?_) (fun c_11 => ?_)
      · skip
        replace hF := q_ifp hF c_11
        refine lv_aload_n hx hb dX12_pour_28 rfl (lv_at hl 0 rfl) ?_
        refine lv_iconst (v := 1) hx hb dX12_pour_29 (by decide) ?_
        have kc_12 : (1 : Int32).toInt = 1 := rfl
        refine q_ci (q_runV (As := [.int 1]) (rest := []) E (hml.trans hl.1.symm) hI (c_X12_no l X σ_2 a (1 : Int32) ha) kv_X12_74 ha ⟨rfl, by decide⟩ (show vwCl[11]? = some (RX12, TX12, 46) from rfl) rfl ⟨Nat.le_of_ble_eq_true rfl, Nat.le_of_ble_eq_true rfl⟩ ⟨Nat.le_refl _, Nat.le_refl _⟩ rfl (Nat.le_of_ble_eq_true rfl) dX12_pour_30) hI (by decide) (fun r_13 σ_14 H locs hpσ_14 hkσ_14 hI => ?_)
        obtain ⟨ahpσ_14, bhpσ_14, chpσ_14, dhpσ_14⟩ := hpσ_14
        have fr_σ_14 := fr_σ_2.call dhpσ_14 rfl rfl
        replace hF := q_biX hF chpσ_14
        exact q_retz E hr hlk hI ⟨by omega, by omega⟩ ⟨⟨by omega, by omega⟩, (by constructor <;> intro h9 <;> omega), (hF.trans hout), fr_σ_14⟩ dX12_pour_33
      · skip
        replace hF := q_ifn hF (Int.not_lt.mpr c_11)
        refine lv_iload_n hx hb dX12_pour_23 rfl (lv_at hl 3 rfl) ?_
        refine lv_iconst (v := 4) hx hb dX12_pour_24 (by decide) ?_
        have gc_15_v3 := q_rng v3
        refine q_icmp_lt (A := v3.toInt) (B := 4) E rfl (by decide) (tgt := 34) dX12_pour_25 (by decide) (fun c_15 => ?_) (fun c_15 => ?_)
        · skip
          replace hF := q_ifp hF c_15
          refine lv_aload_n hx hb dX12_pour_34 rfl (lv_at hl 0 rfl) ?_
          refine gs_X12_17_12 E hI ha dX12_pour_35 ?_
          refine lv_iload_n hx hb dX12_pour_38 rfl (lv_at hl 1 rfl) ?_
          refine q_iald E hI (q_tk (k' := 31) hI ha rfl (by decide)) ⟨by decide, rfl⟩ (by omega) (by rw [q_lnk (v := 4) hI (q_tk (k' := 31) hI ha rfl (by decide)) rfl (by decide)]; omega) dX12_pour_39 ?_
          refine lv_topi (fun f_16 ef_16 => ?_)
          replace hF := q_letX hF ef_16
          have bf_16 : -1 ≤ f_16.toInt ∧ f_16.toInt ≤ 60 := by rw [ef_16]; exact q_bd hI (q_tk (k' := 31) hI ha rfl (by decide)) rfl
          have if_16 : f_16.toInt = (σ_2.1 (q_rf X a 5) (v1 : Int32).toNatClampNeg).toInt := congrArg Int32.toInt ef_16
          refine q_if_lt (A := f_16.toInt) E rfl (tgt := 52) dX12_pour_40 (by decide) (fun c_17 => ?_) (fun c_17 => ?_)
          · skip
            replace hF := q_ifp hF c_17
            refine lv_aload_n hx hb dX12_pour_52 rfl (lv_at hl 0 rfl) ?_
            refine lv_iconst (v := 3) hx hb dX12_pour_53 (by decide) ?_
            have kc_18 : (3 : Int32).toInt = 3 := rfl
            refine q_ci (q_runV (As := [.int 3]) (rest := []) E (hml.trans hl.1.symm) hI (c_X12_no l X σ_2 a (3 : Int32) ha) kv_X12_74 ha ⟨rfl, by decide⟩ (show vwCl[11]? = some (RX12, TX12, 46) from rfl) rfl ⟨Nat.le_of_ble_eq_true rfl, Nat.le_of_ble_eq_true rfl⟩ ⟨Nat.le_refl _, Nat.le_refl _⟩ rfl (Nat.le_of_ble_eq_true rfl) dX12_pour_54) hI (by decide) (fun r_19 σ_20 H locs hpσ_20 hkσ_20 hI => ?_)
            obtain ⟨ahpσ_20, bhpσ_20, chpσ_20, dhpσ_20⟩ := hpσ_20
            have fr_σ_20 := fr_σ_2.call dhpσ_20 rfl rfl
            replace hF := q_biX hF chpσ_20
            exact q_retz E hr hlk hI ⟨by omega, by omega⟩ ⟨⟨by omega, by omega⟩, (by constructor <;> intro h9 <;> omega), (hF.trans hout), fr_σ_20⟩ dX12_pour_57
          · skip
            replace hF := q_ifn hF (Int.not_lt.mpr c_17)
            refine lv_aload_n hx hb dX12_pour_43 rfl (lv_at hl 0 rfl) ?_
            refine gs_X12_17_12 E hI ha dX12_pour_44 ?_
            refine lv_iload_n hx hb dX12_pour_47 rfl (lv_at hl 3 rfl) ?_
            refine q_iald E hI (q_tk (k' := 31) hI ha rfl (by decide)) ⟨by decide, rfl⟩ (by omega) (by rw [q_lnk (v := 4) hI (q_tk (k' := 31) hI ha rfl (by decide)) rfl (by decide)]; omega) dX12_pour_48 ?_
            refine lv_topi (fun f_21 ef_21 => ?_)
            replace hF := q_letX hF ef_21
            have bf_21 : -1 ≤ f_21.toInt ∧ f_21.toInt ≤ 60 := by rw [ef_21]; exact q_bd hI (q_tk (k' := 31) hI ha rfl (by decide)) rfl
            have if_21 : f_21.toInt = (σ_2.1 (q_rf X a 5) (v3 : Int32).toNatClampNeg).toInt := congrArg Int32.toInt ef_21
            refine q_if_ge (A := f_21.toInt) E rfl (tgt := 58) dX12_pour_49 (by decide) (fun c_22 => ?_) (fun c_22 => ?_)
            · skip
              replace hF := q_ifn hF (Int.not_lt.mpr c_22)
              refine lv_aload_n hx hb dX12_pour_58 rfl (lv_at hl 0 rfl) ?_
              refine gs_X12_13_12 E hI ha dX12_pour_59 ?_
              refine lv_iload_n hx hb dX12_pour_62 rfl (lv_at hl 1 rfl) ?_
              refine q_iald E hI (q_tk (k' := 30) hI ha rfl (by decide)) ⟨by decide, rfl⟩ (by omega) (by rw [q_lnk (v := 4) hI (q_tk (k' := 30) hI ha rfl (by decide)) rfl (by decide)]; omega) dX12_pour_63 ?_
              refine lv_topi (fun f_23 ef_23 => ?_)
              replace hF := q_letX hF ef_23
              have bf_23 : 0 ≤ f_23.toInt ∧ f_23.toInt ≤ 3 := by rw [ef_23]; exact q_bd hI (q_tk (k' := 30) hI ha rfl (by decide)) rfl
              have if_23 : f_23.toInt = (σ_2.1 (q_rf X a 4) (v1 : Int32).toNatClampNeg).toInt := congrArg Int32.toInt ef_23
              refine lv_aload_n hx hb dX12_pour_64 rfl (lv_at hl 0 rfl) ?_
              refine gs_X12_13_12 E hI ha dX12_pour_65 ?_
              refine lv_iload_n hx hb dX12_pour_68 rfl (lv_at hl 3 rfl) ?_
              refine q_iald E hI (q_tk (k' := 30) hI ha rfl (by decide)) ⟨by decide, rfl⟩ (by omega) (by rw [q_lnk (v := 4) hI (q_tk (k' := 30) hI ha rfl (by decide)) rfl (by decide)]; omega) dX12_pour_69 ?_
              refine lv_topi (fun f_24 ef_24 => ?_)
              replace hF := q_letX hF ef_24
              have bf_24 : 0 ≤ f_24.toInt ∧ f_24.toInt ≤ 3 := by rw [ef_24]; exact q_bd hI (q_tk (k' := 30) hI ha rfl (by decide)) rfl
              have if_24 : f_24.toInt = (σ_2.1 (q_rf X a 4) (v3 : Int32).toNatClampNeg).toInt := congrArg Int32.toInt ef_24
              have gc_25_f_23 := q_rng f_23
              have gc_25_f_24 := q_rng f_24
              refine q_icmp_eq (A := f_23.toInt) (B := f_24.toInt) E rfl rfl (tgt := 80) dX12_pour_70 (by decide) (fun c_25 => ?_) (fun c_25 => ?_)
              · skip
                replace hF := q_ifp hF c_25
                refine lv_iload hx hb dX12_pour_80 (lv_at hl 5 rfl) ?_
                refine q_if_ge (A := v5.toInt) E rfl (tgt := 92) dX12_pour_82 (by decide) (fun c_26 => ?_) (fun c_26 => ?_)
                · skip
                  replace hF := q_ifn hF (Int.not_lt.mpr c_26)
                  refine lv_iload_n hx hb dX12_pour_92 rfl (lv_at hl 2 rfl) ?_
                  refine q_if_lt (A := v2.toInt) E rfl (tgt := 136) dX12_pour_93 (by decide) (fun c_27 => ?_) (fun c_27 => ?_)
                  · skip
                    replace hF := q_ifp hF c_27
                    refine lv_aload_n hx hb dX12_pour_136 rfl (lv_at hl 0 rfl) ?_
                    refine lv_iconst (v := 4) hx hb dX12_pour_137 (by decide) ?_
                    have kc_28 : (4 : Int32).toInt = 4 := rfl
                    refine q_ci (q_runV (As := [.int 4]) (rest := []) E (hml.trans hl.1.symm) hI (c_X12_no l X σ_2 a (4 : Int32) ha) kv_X12_74 ha ⟨rfl, by decide⟩ (show vwCl[11]? = some (RX12, TX12, 46) from rfl) rfl ⟨Nat.le_of_ble_eq_true rfl, Nat.le_of_ble_eq_true rfl⟩ ⟨Nat.le_refl _, Nat.le_refl _⟩ rfl (Nat.le_of_ble_eq_true rfl) dX12_pour_138) hI (by decide) (fun r_29 σ_30 H locs hpσ_30 hkσ_30 hI => ?_)
                    obtain ⟨ahpσ_30, bhpσ_30, chpσ_30, dhpσ_30⟩ := hpσ_30
                    have fr_σ_30 := fr_σ_2.call dhpσ_30 rfl rfl
                    replace hF := q_biX hF chpσ_30
                    exact q_retz E hr hlk hI ⟨by omega, by omega⟩ ⟨⟨by omega, by omega⟩, (by constructor <;> intro h9 <;> omega), (hF.trans hout), fr_σ_30⟩ dX12_pour_141
                  · skip
                    replace hF := q_ifn hF (Int.not_lt.mpr c_27)
                    refine lv_iload hx hb dX12_pour_96 (lv_at hl 4 rfl) ?_
                    refine q_if_lt (A := v4.toInt) E rfl (tgt := 136) dX12_pour_98 (by decide) (fun c_31 => ?_) (fun c_31 => ?_)
                    · skip
                      replace hF := q_ifp hF c_31
                      refine lv_aload_n hx hb dX12_pour_136 rfl (lv_at hl 0 rfl) ?_
                      refine lv_iconst (v := 4) hx hb dX12_pour_137 (by decide) ?_
                      have kc_32 : (4 : Int32).toInt = 4 := rfl
                      refine q_ci (q_runV (As := [.int 4]) (rest := []) E (hml.trans hl.1.symm) hI (c_X12_no l X σ_2 a (4 : Int32) ha) kv_X12_74 ha ⟨rfl, by decide⟩ (show vwCl[11]? = some (RX12, TX12, 46) from rfl) rfl ⟨Nat.le_of_ble_eq_true rfl, Nat.le_of_ble_eq_true rfl⟩ ⟨Nat.le_refl _, Nat.le_refl _⟩ rfl (Nat.le_of_ble_eq_true rfl) dX12_pour_138) hI (by decide) (fun r_33 σ_34 H locs hpσ_34 hkσ_34 hI => ?_)
                      obtain ⟨ahpσ_34, bhpσ_34, chpσ_34, dhpσ_34⟩ := hpσ_34
                      have fr_σ_34 := fr_σ_2.call dhpσ_34 rfl rfl
                      replace hF := q_biX hF chpσ_34
                      exact q_retz E hr hlk hI ⟨by omega, by omega⟩ ⟨⟨by omega, by omega⟩, (by constructor <;> intro h9 <;> omega), (hF.trans hout), fr_σ_34⟩ dX12_pour_141
                    · skip
                      replace hF := q_ifn hF (Int.not_lt.mpr c_31)
                      refine lv_iload_n hx hb dX12_pour_101 rfl (lv_at hl 2 rfl) ?_
                      refine lv_i2l hx hb dX12_pour_102 rfl ?_
                      refine lv_topl (fun y_35 ey_35 => ?_)
                      replace hF := q_letX hF ey_35
                      have ggy_35 := q_rng v2
                      have iy_35 : y_35.toInt = v2.toInt := by rw [ey_35]; exact (q_i2l _).trans rfl
                      refine lv_iload hx hb dX12_pour_103 (lv_at hl 5 rfl) ?_
                      refine lv_i2l hx hb dX12_pour_105 rfl ?_
                      refine lv_topl (fun y_36 ey_36 => ?_)
                      replace hF := q_letX hF ey_36
                      have ggy_36 := q_rng v5
                      have iy_36 : y_36.toInt = v5.toInt := by rw [ey_36]; exact (q_i2l _).trans rfl
                      refine lv_ladd hx hb dX12_pour_106 ?_
                      refine lv_topl (fun y_37 ey_37 => ?_)
                      replace hF := q_letX hF ey_37
                      have iy_37 := q_addJ (A := y_35.toInt) (B := y_36.toInt) ey_37 rfl rfl (by omega) (by omega)
                      refine lv_aload_n hx hb dX12_pour_107 rfl (lv_at hl 0 rfl) ?_
                      refine gs_X12_17_12 E hI ha dX12_pour_108 ?_
                      refine lv_iload_n hx hb dX12_pour_111 rfl (lv_at hl 1 rfl) ?_
                      refine q_iald E hI (q_tk (k' := 31) hI ha rfl (by decide)) ⟨by decide, rfl⟩ (by omega) (by rw [q_lnk (v := 4) hI (q_tk (k' := 31) hI ha rfl (by decide)) rfl (by decide)]; omega) dX12_pour_112 ?_
                      refine lv_topi (fun f_38 ef_38 => ?_)
                      replace hF := q_letX hF ef_38
                      have bf_38 : -1 ≤ f_38.toInt ∧ f_38.toInt ≤ 60 := by rw [ef_38]; exact q_bd hI (q_tk (k' := 31) hI ha rfl (by decide)) rfl
                      have if_38 : f_38.toInt = (σ_2.1 (q_rf X a 5) (v1 : Int32).toNatClampNeg).toInt := congrArg Int32.toInt ef_38
                      refine lv_i2l hx hb dX12_pour_113 rfl ?_
                      refine lv_topl (fun y_39 ey_39 => ?_)
                      replace hF := q_letX hF ey_39
                      have ggy_39 := q_rng f_38
                      have iy_39 : y_39.toInt = f_38.toInt := by rw [ey_39]; exact (q_i2l _).trans rfl
                      refine q_lcmpX E dX12_pour_114 (fun z_40 ez_40 hz_40 => ?_)
                      replace hF := q_letX hF ez_40
                      refine q_if_gt (A := z_40.toInt) E rfl (tgt := 136) dX12_pour_115 (by decide) (fun c_41 => ?_) (fun c_41 => ?_)
                      · skip
                        replace hF := q_ifp hF c_41
                        refine lv_aload_n hx hb dX12_pour_136 rfl (lv_at hl 0 rfl) ?_
                        refine lv_iconst (v := 4) hx hb dX12_pour_137 (by decide) ?_
                        have kc_42 : (4 : Int32).toInt = 4 := rfl
                        refine q_ci (q_runV (As := [.int 4]) (rest := []) E (hml.trans hl.1.symm) hI (c_X12_no l X σ_2 a (4 : Int32) ha) kv_X12_74 ha ⟨rfl, by decide⟩ (show vwCl[11]? = some (RX12, TX12, 46) from rfl) rfl ⟨Nat.le_of_ble_eq_true rfl, Nat.le_of_ble_eq_true rfl⟩ ⟨Nat.le_refl _, Nat.le_refl _⟩ rfl (Nat.le_of_ble_eq_true rfl) dX12_pour_138) hI (by decide) (fun r_43 σ_44 H locs hpσ_44 hkσ_44 hI => ?_)
                        obtain ⟨ahpσ_44, bhpσ_44, chpσ_44, dhpσ_44⟩ := hpσ_44
                        have fr_σ_44 := fr_σ_2.call dhpσ_44 rfl rfl
                        replace hF := q_biX hF chpσ_44
                        exact q_retz E hr hlk hI ⟨by omega, by omega⟩ ⟨⟨by omega, by omega⟩, (by constructor <;> intro h9 <;> omega), (hF.trans hout), fr_σ_44⟩ dX12_pour_141
                      · skip
                        replace hF := q_ifn hF (Int.not_lt.mpr c_41)
                        refine lv_iload hx hb dX12_pour_118 (lv_at hl 4 rfl) ?_
                        refine lv_i2l hx hb dX12_pour_120 rfl ?_
                        refine lv_topl (fun y_45 ey_45 => ?_)
                        replace hF := q_letX hF ey_45
                        have ggy_45 := q_rng v4
                        have iy_45 : y_45.toInt = v4.toInt := by rw [ey_45]; exact (q_i2l _).trans rfl
                        refine lv_iload hx hb dX12_pour_121 (lv_at hl 5 rfl) ?_
                        refine lv_i2l hx hb dX12_pour_123 rfl ?_
                        refine lv_topl (fun y_46 ey_46 => ?_)
                        replace hF := q_letX hF ey_46
                        have ggy_46 := q_rng v5
                        have iy_46 : y_46.toInt = v5.toInt := by rw [ey_46]; exact (q_i2l _).trans rfl
                        refine lv_ladd hx hb dX12_pour_124 ?_
                        refine lv_topl (fun y_47 ey_47 => ?_)
                        replace hF := q_letX hF ey_47
                        have iy_47 := q_addJ (A := y_45.toInt) (B := y_46.toInt) ey_47 rfl rfl (by omega) (by omega)
                        refine lv_aload_n hx hb dX12_pour_125 rfl (lv_at hl 0 rfl) ?_
                        refine gs_X12_17_12 E hI ha dX12_pour_126 ?_
                        refine lv_iload_n hx hb dX12_pour_129 rfl (lv_at hl 3 rfl) ?_
                        refine q_iald E hI (q_tk (k' := 31) hI ha rfl (by decide)) ⟨by decide, rfl⟩ (by omega) (by rw [q_lnk (v := 4) hI (q_tk (k' := 31) hI ha rfl (by decide)) rfl (by decide)]; omega) dX12_pour_130 ?_
                        refine lv_topi (fun f_48 ef_48 => ?_)
                        replace hF := q_letX hF ef_48
                        have bf_48 : -1 ≤ f_48.toInt ∧ f_48.toInt ≤ 60 := by rw [ef_48]; exact q_bd hI (q_tk (k' := 31) hI ha rfl (by decide)) rfl
                        have if_48 : f_48.toInt = (σ_2.1 (q_rf X a 5) (v3 : Int32).toNatClampNeg).toInt := congrArg Int32.toInt ef_48
                        refine lv_i2l hx hb dX12_pour_131 rfl ?_
                        refine lv_topl (fun y_49 ey_49 => ?_)
                        replace hF := q_letX hF ey_49
                        have ggy_49 := q_rng f_48
                        have iy_49 : y_49.toInt = f_48.toInt := by rw [ey_49]; exact (q_i2l _).trans rfl
                        refine q_lcmpX E dX12_pour_132 (fun z_50 ez_50 hz_50 => ?_)
                        replace hF := q_letX hF ez_50
                        refine q_if_le (A := z_50.toInt) E rfl (tgt := 142) dX12_pour_133 (by decide) (fun c_51 => ?_) (fun c_51 => ?_)
                        · skip
                          replace hF := q_ifn hF (Int.not_lt.mpr c_51)
                          refine lv_iload_n hx hb dX12_pour_142 rfl (lv_at hl 2 rfl) ?_
                          refine lv_iload hx hb dX12_pour_143 (lv_at hl 4 rfl) ?_
                          have gc_52_v2 := q_rng v2
                          have gc_52_v4 := q_rng v4
                          refine q_icmp_ge (A := v2.toInt) (B := v4.toInt) E rfl rfl (tgt := 152) dX12_pour_145 (by decide) (fun c_52 => ?_) (fun c_52 => ?_)
                          · skip
                            replace hF := q_ifn hF (Int.not_lt.mpr c_52)
                            refine lv_iconst (v := 0) hx hb dX12_pour_152 (by decide) ?_
                            refine lv_istore (lv' := [(6, .int 0), (0, .ref a), (1, .int v1), (2, .int v2), (3, .int v3), (4, .int v4), (5, .int v5)]) hx hb dX12_pour_153 hl (by decide) rfl (fun ls hl => ?_)
                            refine lv_iconst (v := 0) hx hb dX12_pour_155 (by decide) ?_
                            refine lv_istore (lv' := [(7, .int 0), (6, .int 0), (0, .ref a), (1, .int v1), (2, .int v2), (3, .int v3), (4, .int v4), (5, .int v5)]) hx hb dX12_pour_156 hl (by decide) rfl (fun ls hl => ?_)
                            have L_158_55 : ∀ (k_55 : Nat) (x_53 : Int32) (σ_54 : ST) (H : Heap) (locs : List Loc) (ls : Array Slot), (2147483647 - x_53.toInt).toNat < k_55 → (0 ≤ x_53.toInt) → (q_ow [(12, 0), (12, 1)] [(32, 99)] X σ σ_54) → (F_X12_pour_L158_1 X v5 v3 v4 v1 v2 a k_55 x_53 σ_54 = out) → q_I X 8 σ s.heap locs σ_54 H → lv_has ls 9 [(0, .ref a), (1, .int v1), (2, .int v2), (3, .int v3), (4, .int v4), (5, .int v5), (6, .int 0), (7, .int x_53)] → W p l e (q_rm 1 21) s m ([.ref a, .int v1, .int v2, .int v3, .int v4, .int v5] : List Value).toArray below meth c H locs 0 0 (MQ below (q_Qi X 8 σ (fun (r : Int32) (σ' : ST) => (0 ≤ r.toInt ∧ r.toInt ≤ 1) ∧ (r.toInt = 1 ↔ ((0 ≤ v1.toInt ∧ v1.toInt < 4) ∧ (0 ≤ v3.toInt ∧ v3.toInt < 4) ∧ 0 ≤ (σ.1 (q_rf X a 5) v1.toNatClampNeg).toInt ∧ 0 ≤ (σ.1 (q_rf X a 5) v3.toNatClampNeg).toInt ∧ (σ.1 (q_rf X a 4) v1.toNatClampNeg).toInt = (σ.1 (q_rf X a 4) v3.toNatClampNeg).toInt ∧ 0 ≤ v5.toInt ∧ 0 ≤ v2.toInt ∧ v2.toInt + v5.toInt ≤ (σ.1 (q_rf X a 5) v1.toNatClampNeg).toInt ∧ 0 ≤ v4.toInt ∧ v4.toInt + v5.toInt ≤ (σ.1 (q_rf X a 5) v3.toNatClampNeg).toInt)) ∧ (r, σ') = F_X12_pour X σ a v1 v2 v3 v4 v5 ∧ q_ow [(12, 0), (12, 1)] [(32, 99)] X σ σ')) ([.ref a, .int v1, .int v2, .int v3, .int v4, .int v5] : List Value).toArray s 0 0 (q_reg X)) (F0 m 158 ls []) := by
                              clear hF
                              intro k_55
                              induction k_55 with
                              | zero =>
                                intro x_53 σ_54 H locs ls hms
                                exact absurd hms (Nat.not_lt_zero _)
                              | succ k_55 ih158 =>
                                intro x_53 σ_54 H locs ls hm158 hge158 fr_σ_54 hF hI hl
                                replace hF := (F_X12_pour_L158_1_s).symm.trans hF
                                unfold F_X12_pour_B158_1 at hF
                                refine lv_iload hx hb dX12_pour_158 (lv_at hl 7 rfl) ?_
                                refine lv_iload hx hb dX12_pour_160 (lv_at hl 5 rfl) ?_
                                have gc_56_x_53 := q_rng x_53
                                have gc_56_v5 := q_rng v5
                                refine q_icmp_ge (A := x_53.toInt) (B := v5.toInt) E rfl rfl (tgt := 219) dX12_pour_162 (by decide) (fun c_56 => ?_) (fun c_56 => ?_)
                                · skip
                                  replace hF := q_ifn hF (Int.not_lt.mpr c_56)
                                  skip
                                  refine lv_iconst (v := 1) hx hb dX12_pour_219 (by decide) ?_
                                  have hrv : (1 : Int32).toInt = 1 := rfl
                                  exact q_retz E hr hlk hI ⟨by decide, by decide⟩ ⟨⟨by decide, by decide⟩, (by constructor <;> intro h9 <;> omega), (hF.trans hout), fr_σ_54⟩ dX12_pour_220
                                · skip
                                  replace hF := q_ifp hF c_56
                                  refine lv_iload hx hb dX12_pour_165 (lv_at hl 6 rfl) ?_
                                  refine q_if_eq (A := 0) E (by decide) (tgt := 180) dX12_pour_167 (by decide) (fun c_57 => ?_) (fun c_57 => ?_)
                                  · skip
                                    replace hF := q_ifp hF c_57
                                    refine lv_iload hx hb dX12_pour_180 (lv_at hl 7 rfl) ?_
                                    refine lv_istore (lv' := [(8, .int x_53), (0, .ref a), (1, .int v1), (2, .int v2), (3, .int v3), (4, .int v4), (5, .int v5), (6, .int 0), (7, .int x_53)]) hx hb dX12_pour_182 hl (by decide) rfl (fun ls hl => ?_)
                                    refine lv_aload_n hx hb dX12_pour_184 rfl (lv_at hl 1 rfl) ?_
                                    refine gs_X12_20_12 E hI ha dX12_pour_185 ?_
                                    refine lv_bipush (v := 60) hx hb dX12_pour_188 (by decide) ?_
                                    refine lv_iload_n hx hb dX12_pour_190 rfl (lv_at hl 4 rfl) ?_
                                    refine lv_imul hx hb dX12_pour_191 ?_
                                    refine lv_topi (fun z_58 ez_58 => ?_)
                                    replace hF := q_letX hF ez_58
                                    have iz_58 := q_mulI (A := 60) (B := v3.toInt) ez_58 (by decide) rfl (by omega) (by omega)
                                    refine lv_iload hx hb dX12_pour_192 (lv_at hl 5 rfl) ?_
                                    refine lv_iadd hx hb dX12_pour_194 ?_
                                    refine lv_topi (fun z_59 ez_59 => ?_)
                                    replace hF := q_letX hF ez_59
                                    have iz_59 := q_addI (A := (60 * v3.toInt)) (B := v4.toInt) ez_59 iz_58 rfl (by omega) (by omega)
                                    refine lv_iload hx hb dX12_pour_195 (lv_at hl 0 rfl) ?_
                                    refine lv_iadd hx hb dX12_pour_197 ?_
                                    refine lv_topi (fun z_60 ez_60 => ?_)
                                    replace hF := q_letX hF ez_60
                                    have iz_60 := q_addI (A := ((60 * v3.toInt) + v4.toInt)) (B := x_53.toInt) ez_60 iz_59 rfl (by omega) (by omega)
                                    refine lv_aload_n hx hb dX12_pour_198 rfl (lv_at hl 1 rfl) ?_
                                    refine gs_X12_20_12 E hI ha dX12_pour_199 ?_
                                    refine lv_bipush (v := 60) hx hb dX12_pour_202 (by decide) ?_
                                    refine lv_iload_n hx hb dX12_pour_204 rfl (lv_at hl 2 rfl) ?_
                                    refine lv_imul hx hb dX12_pour_205 ?_
                                    refine lv_topi (fun z_61 ez_61 => ?_)
                                    replace hF := q_letX hF ez_61
                                    have iz_61 := q_mulI (A := 60) (B := v1.toInt) ez_61 (by decide) rfl (by omega) (by omega)
                                    refine lv_iload_n hx hb dX12_pour_206 rfl (lv_at hl 3 rfl) ?_
                                    refine lv_iadd hx hb dX12_pour_207 ?_
                                    refine lv_topi (fun z_62 ez_62 => ?_)
                                    replace hF := q_letX hF ez_62
                                    have iz_62 := q_addI (A := (60 * v1.toInt)) (B := v2.toInt) ez_62 iz_61 rfl (by omega) (by omega)
                                    refine lv_iload hx hb dX12_pour_208 (lv_at hl 0 rfl) ?_
                                    refine lv_iadd hx hb dX12_pour_210 ?_
                                    refine lv_topi (fun z_63 ez_63 => ?_)
                                    replace hF := q_letX hF ez_63
                                    have iz_63 := q_addI (A := ((60 * v1.toInt) + v2.toInt)) (B := x_53.toInt) ez_63 iz_62 rfl (by omega) (by omega)
                                    refine q_lald E hI (q_tk (k' := 32) hI ha rfl (by decide)) ⟨by decide, rfl⟩ (by omega) (by rw [q_lnk (v := 240) hI (q_tk (k' := 32) hI ha rfl (by decide)) rfl (by decide)]; omega) dX12_pour_211 ?_
                                    refine lv_topl (fun g_64 eg_64 => ?_)
                                    replace hF := q_letX hF eg_64
                                    refine q_lastN E hI (q_tk (k' := 32) hI ha rfl (by decide)) ⟨by decide, rfl⟩ (by omega) (by rw [q_lnk (v := 240) hI (q_tk (k' := 32) hI ha rfl (by decide)) rfl (by decide)]; omega) dX12_pour_212 (fun H locs σ_65 hσ_65 hI => ?_)
                                    replace hF := q_letX hF hσ_65
                                    have fr_σ_65 := fr_σ_54.sl hσ_65 (q_tk (k' := 32) hI ha rfl (by decide)) rfl
                                    obtain ⟨z_66, ez_66⟩ : ∃ y : Int32, y = x_53 + 1 := ⟨_, rfl⟩
                                    replace hF := q_letX hF ez_66
                                    refine lv_iinc (v := z_66) (lv' := [(7, .int z_66), (8, .int x_53), (0, .ref a), (1, .int v1), (2, .int v2), (3, .int v3), (4, .int v4), (5, .int v5), (6, .int 0)]) hx hb dX12_pour_213 hl (k := 8) rfl (by rw [ez_66]; rfl) (by decide) rfl (fun ls hl => ?_)
                                    have iz_66 : z_66.toInt = x_53.toInt + 1 := q_inc ez_66 (by omega)
                                    refine lv_goto (tgt := 158) hx hb dX12_pour_216 (by decide) ?_
                                    exact ih158 z_66 σ_65 _ _ ls (by omega) (by omega) fr_σ_65 hF hI (lv_sub hl [2, 3, 4, 5, 6, 7, 8, 0] rfl)
                                  · skip
                                    replace hF := q_ifn hF c_57
                                    refine lv_iload hx hb dX12_pour_170 (lv_at hl 5 rfl) ?_
                                    refine lv_iconst (v := 1) hx hb dX12_pour_172 (by decide) ?_
                                    refine lv_isub hx hb dX12_pour_173 ?_
                                    refine lv_topi (fun z_67 ez_67 => ?_)
                                    replace hF := q_letX hF ez_67
                                    have iz_67 := q_subI (A := v5.toInt) (B := 1) ez_67 rfl (by decide) (by omega) (by omega)
                                    refine lv_iload hx hb dX12_pour_174 (lv_at hl 7 rfl) ?_
                                    refine lv_isub hx hb dX12_pour_176 ?_
                                    refine lv_topi (fun z_68 ez_68 => ?_)
                                    replace hF := q_letX hF ez_68
                                    have iz_68 := q_subI (A := (v5.toInt - 1)) (B := x_53.toInt) ez_68 iz_67 rfl (by omega) (by omega)
                                    refine lv_goto (tgt := 182) hx hb dX12_pour_177 (by decide) ?_
                                    refine lv_istore (lv' := [(8, .int z_68), (0, .ref a), (1, .int v1), (2, .int v2), (3, .int v3), (4, .int v4), (5, .int v5), (6, .int 0), (7, .int x_53)]) hx hb dX12_pour_182 hl (by decide) rfl (fun ls hl => ?_)
                                    refine lv_aload_n hx hb dX12_pour_184 rfl (lv_at hl 1 rfl) ?_
                                    refine gs_X12_20_12 E hI ha dX12_pour_185 ?_
                                    refine lv_bipush (v := 60) hx hb dX12_pour_188 (by decide) ?_
                                    refine lv_iload_n hx hb dX12_pour_190 rfl (lv_at hl 4 rfl) ?_
                                    refine lv_imul hx hb dX12_pour_191 ?_
                                    refine lv_topi (fun z_69 ez_69 => ?_)
                                    replace hF := q_letX hF ez_69
                                    have iz_69 := q_mulI (A := 60) (B := v3.toInt) ez_69 (by decide) rfl (by omega) (by omega)
                                    refine lv_iload hx hb dX12_pour_192 (lv_at hl 5 rfl) ?_
                                    refine lv_iadd hx hb dX12_pour_194 ?_
                                    refine lv_topi (fun z_70 ez_70 => ?_)
                                    replace hF := q_letX hF ez_70
                                    have iz_70 := q_addI (A := (60 * v3.toInt)) (B := v4.toInt) ez_70 iz_69 rfl (by omega) (by omega)
                                    refine lv_iload hx hb dX12_pour_195 (lv_at hl 0 rfl) ?_
                                    refine lv_iadd hx hb dX12_pour_197 ?_
                                    refine lv_topi (fun z_71 ez_71 => ?_)
                                    replace hF := q_letX hF ez_71
                                    have iz_71 := q_addI (A := ((60 * v3.toInt) + v4.toInt)) (B := ((v5.toInt - 1) - x_53.toInt)) ez_71 iz_70 iz_68 (by omega) (by omega)
                                    refine lv_aload_n hx hb dX12_pour_198 rfl (lv_at hl 1 rfl) ?_
                                    refine gs_X12_20_12 E hI ha dX12_pour_199 ?_
                                    refine lv_bipush (v := 60) hx hb dX12_pour_202 (by decide) ?_
                                    refine lv_iload_n hx hb dX12_pour_204 rfl (lv_at hl 2 rfl) ?_
                                    refine lv_imul hx hb dX12_pour_205 ?_
                                    refine lv_topi (fun z_72 ez_72 => ?_)
                                    replace hF := q_letX hF ez_72
                                    have iz_72 := q_mulI (A := 60) (B := v1.toInt) ez_72 (by decide) rfl (by omega) (by omega)
                                    refine lv_iload_n hx hb dX12_pour_206 rfl (lv_at hl 3 rfl) ?_
                                    refine lv_iadd hx hb dX12_pour_207 ?_
                                    refine lv_topi (fun z_73 ez_73 => ?_)
                                    replace hF := q_letX hF ez_73
                                    have iz_73 := q_addI (A := (60 * v1.toInt)) (B := v2.toInt) ez_73 iz_72 rfl (by omega) (by omega)
                                    refine lv_iload hx hb dX12_pour_208 (lv_at hl 0 rfl) ?_
                                    refine lv_iadd hx hb dX12_pour_210 ?_
                                    refine lv_topi (fun z_74 ez_74 => ?_)
                                    replace hF := q_letX hF ez_74
                                    have iz_74 := q_addI (A := ((60 * v1.toInt) + v2.toInt)) (B := ((v5.toInt - 1) - x_53.toInt)) ez_74 iz_73 iz_68 (by omega) (by omega)
                                    refine q_lald E hI (q_tk (k' := 32) hI ha rfl (by decide)) ⟨by decide, rfl⟩ (by omega) (by rw [q_lnk (v := 240) hI (q_tk (k' := 32) hI ha rfl (by decide)) rfl (by decide)]; omega) dX12_pour_211 ?_
                                    refine lv_topl (fun g_75 eg_75 => ?_)
                                    replace hF := q_letX hF eg_75
                                    refine q_lastN E hI (q_tk (k' := 32) hI ha rfl (by decide)) ⟨by decide, rfl⟩ (by omega) (by rw [q_lnk (v := 240) hI (q_tk (k' := 32) hI ha rfl (by decide)) rfl (by decide)]; omega) dX12_pour_212 (fun H locs σ_76 hσ_76 hI => ?_)
                                    replace hF := q_letX hF hσ_76
                                    have fr_σ_76 := fr_σ_54.sl hσ_76 (q_tk (k' := 32) hI ha rfl (by decide)) rfl
                                    obtain ⟨z_77, ez_77⟩ : ∃ y : Int32, y = x_53 + 1 := ⟨_, rfl⟩
                                    replace hF := q_letX hF ez_77
                                    refine lv_iinc (v := z_77) (lv' := [(7, .int z_77), (8, .int z_68), (0, .ref a), (1, .int v1), (2, .int v2), (3, .int v3), (4, .int v4), (5, .int v5), (6, .int 0)]) hx hb dX12_pour_213 hl (k := 8) rfl (by rw [ez_77]; rfl) (by decide) rfl (fun ls hl => ?_)
                                    have iz_77 : z_77.toInt = x_53.toInt + 1 := q_inc ez_77 (by omega)
                                    refine lv_goto (tgt := 158) hx hb dX12_pour_216 (by decide) ?_
                                    exact ih158 z_77 σ_76 _ _ ls (by omega) (by omega) fr_σ_76 hF hI (lv_sub hl [2, 3, 4, 5, 6, 7, 8, 0] rfl)
                            exact L_158_55 ((2147483647 - (0 : Int32).toInt).toNat + 1) 0 σ_2 _ _ ls (Nat.lt_succ_self _) (by decide) fr_σ_2 hF hI (lv_sub hl [2, 3, 4, 5, 6, 7, 1, 0] rfl)
                          · skip
                            replace hF := q_ifp hF c_52
                            refine lv_iconst (v := 1) hx hb dX12_pour_148 (by decide) ?_
                            refine lv_goto (tgt := 153) hx hb dX12_pour_149 (by decide) ?_
                            refine lv_istore (lv' := [(6, .int 1), (0, .ref a), (1, .int v1), (2, .int v2), (3, .int v3), (4, .int v4), (5, .int v5)]) hx hb dX12_pour_153 hl (by decide) rfl (fun ls hl => ?_)
                            refine lv_iconst (v := 0) hx hb dX12_pour_155 (by decide) ?_
                            refine lv_istore (lv' := [(7, .int 0), (6, .int 1), (0, .ref a), (1, .int v1), (2, .int v2), (3, .int v3), (4, .int v4), (5, .int v5)]) hx hb dX12_pour_156 hl (by decide) rfl (fun ls hl => ?_)
                            have L_158_80 : ∀ (k_80 : Nat) (x_78 : Int32) (σ_79 : ST) (H : Heap) (locs : List Loc) (ls : Array Slot), (2147483647 - x_78.toInt).toNat < k_80 → (0 ≤ x_78.toInt) → (q_ow [(12, 0), (12, 1)] [(32, 99)] X σ σ_79) → (F_X12_pour_L158_3 X v5 v3 v4 v1 v2 a k_80 x_78 σ_79 = out) → q_I X 8 σ s.heap locs σ_79 H → lv_has ls 9 [(0, .ref a), (1, .int v1), (2, .int v2), (3, .int v3), (4, .int v4), (5, .int v5), (6, .int 1), (7, .int x_78)] → W p l e (q_rm 1 21) s m ([.ref a, .int v1, .int v2, .int v3, .int v4, .int v5] : List Value).toArray below meth c H locs 0 0 (MQ below (q_Qi X 8 σ (fun (r : Int32) (σ' : ST) => (0 ≤ r.toInt ∧ r.toInt ≤ 1) ∧ (r.toInt = 1 ↔ ((0 ≤ v1.toInt ∧ v1.toInt < 4) ∧ (0 ≤ v3.toInt ∧ v3.toInt < 4) ∧ 0 ≤ (σ.1 (q_rf X a 5) v1.toNatClampNeg).toInt ∧ 0 ≤ (σ.1 (q_rf X a 5) v3.toNatClampNeg).toInt ∧ (σ.1 (q_rf X a 4) v1.toNatClampNeg).toInt = (σ.1 (q_rf X a 4) v3.toNatClampNeg).toInt ∧ 0 ≤ v5.toInt ∧ 0 ≤ v2.toInt ∧ v2.toInt + v5.toInt ≤ (σ.1 (q_rf X a 5) v1.toNatClampNeg).toInt ∧ 0 ≤ v4.toInt ∧ v4.toInt + v5.toInt ≤ (σ.1 (q_rf X a 5) v3.toNatClampNeg).toInt)) ∧ (r, σ') = F_X12_pour X σ a v1 v2 v3 v4 v5 ∧ q_ow [(12, 0), (12, 1)] [(32, 99)] X σ σ')) ([.ref a, .int v1, .int v2, .int v3, .int v4, .int v5] : List Value).toArray s 0 0 (q_reg X)) (F0 m 158 ls []) := by
                              clear hF
                              intro k_80
                              induction k_80 with
                              | zero =>
                                intro x_78 σ_79 H locs ls hms
                                exact absurd hms (Nat.not_lt_zero _)
                              | succ k_80 ih158 =>
                                intro x_78 σ_79 H locs ls hm158 hge158 fr_σ_79 hF hI hl
                                replace hF := (F_X12_pour_L158_3_s).symm.trans hF
                                unfold F_X12_pour_B158_3 at hF
                                refine lv_iload hx hb dX12_pour_158 (lv_at hl 7 rfl) ?_
                                refine lv_iload hx hb dX12_pour_160 (lv_at hl 5 rfl) ?_
                                have gc_81_x_78 := q_rng x_78
                                have gc_81_v5 := q_rng v5
                                refine q_icmp_ge (A := x_78.toInt) (B := v5.toInt) E rfl rfl (tgt := 219) dX12_pour_162 (by decide) (fun c_81 => ?_) (fun c_81 => ?_)
                                · skip
                                  replace hF := q_ifn hF (Int.not_lt.mpr c_81)
                                  skip
                                  refine lv_iconst (v := 1) hx hb dX12_pour_219 (by decide) ?_
                                  have hrv : (1 : Int32).toInt = 1 := rfl
                                  exact q_retz E hr hlk hI ⟨by decide, by decide⟩ ⟨⟨by decide, by decide⟩, (by constructor <;> intro h9 <;> omega), (hF.trans hout), fr_σ_79⟩ dX12_pour_220
                                · skip
                                  replace hF := q_ifp hF c_81
                                  refine lv_iload hx hb dX12_pour_165 (lv_at hl 6 rfl) ?_
                                  refine q_if_eq (A := 1) E (by decide) (tgt := 180) dX12_pour_167 (by decide) (fun c_82 => ?_) (fun c_82 => ?_)
                                  · skip
                                    replace hF := q_ifp hF c_82
                                    refine lv_iload hx hb dX12_pour_180 (lv_at hl 7 rfl) ?_
                                    refine lv_istore (lv' := [(8, .int x_78), (0, .ref a), (1, .int v1), (2, .int v2), (3, .int v3), (4, .int v4), (5, .int v5), (6, .int 1), (7, .int x_78)]) hx hb dX12_pour_182 hl (by decide) rfl (fun ls hl => ?_)
                                    refine lv_aload_n hx hb dX12_pour_184 rfl (lv_at hl 1 rfl) ?_
                                    refine gs_X12_20_12 E hI ha dX12_pour_185 ?_
                                    refine lv_bipush (v := 60) hx hb dX12_pour_188 (by decide) ?_
                                    refine lv_iload_n hx hb dX12_pour_190 rfl (lv_at hl 4 rfl) ?_
                                    refine lv_imul hx hb dX12_pour_191 ?_
                                    refine lv_topi (fun z_83 ez_83 => ?_)
                                    replace hF := q_letX hF ez_83
                                    have iz_83 := q_mulI (A := 60) (B := v3.toInt) ez_83 (by decide) rfl (by omega) (by omega)
                                    refine lv_iload hx hb dX12_pour_192 (lv_at hl 5 rfl) ?_
                                    refine lv_iadd hx hb dX12_pour_194 ?_
                                    refine lv_topi (fun z_84 ez_84 => ?_)
                                    replace hF := q_letX hF ez_84
                                    have iz_84 := q_addI (A := (60 * v3.toInt)) (B := v4.toInt) ez_84 iz_83 rfl (by omega) (by omega)
                                    refine lv_iload hx hb dX12_pour_195 (lv_at hl 0 rfl) ?_
                                    refine lv_iadd hx hb dX12_pour_197 ?_
                                    refine lv_topi (fun z_85 ez_85 => ?_)
                                    replace hF := q_letX hF ez_85
                                    have iz_85 := q_addI (A := ((60 * v3.toInt) + v4.toInt)) (B := x_78.toInt) ez_85 iz_84 rfl (by omega) (by omega)
                                    refine lv_aload_n hx hb dX12_pour_198 rfl (lv_at hl 1 rfl) ?_
                                    refine gs_X12_20_12 E hI ha dX12_pour_199 ?_
                                    refine lv_bipush (v := 60) hx hb dX12_pour_202 (by decide) ?_
                                    refine lv_iload_n hx hb dX12_pour_204 rfl (lv_at hl 2 rfl) ?_
                                    refine lv_imul hx hb dX12_pour_205 ?_
                                    refine lv_topi (fun z_86 ez_86 => ?_)
                                    replace hF := q_letX hF ez_86
                                    have iz_86 := q_mulI (A := 60) (B := v1.toInt) ez_86 (by decide) rfl (by omega) (by omega)
                                    refine lv_iload_n hx hb dX12_pour_206 rfl (lv_at hl 3 rfl) ?_
                                    refine lv_iadd hx hb dX12_pour_207 ?_
                                    refine lv_topi (fun z_87 ez_87 => ?_)
                                    replace hF := q_letX hF ez_87
                                    have iz_87 := q_addI (A := (60 * v1.toInt)) (B := v2.toInt) ez_87 iz_86 rfl (by omega) (by omega)
                                    refine lv_iload hx hb dX12_pour_208 (lv_at hl 0 rfl) ?_
                                    refine lv_iadd hx hb dX12_pour_210 ?_
                                    refine lv_topi (fun z_88 ez_88 => ?_)
                                    replace hF := q_letX hF ez_88
                                    have iz_88 := q_addI (A := ((60 * v1.toInt) + v2.toInt)) (B := x_78.toInt) ez_88 iz_87 rfl (by omega) (by omega)
                                    refine q_lald E hI (q_tk (k' := 32) hI ha rfl (by decide)) ⟨by decide, rfl⟩ (by omega) (by rw [q_lnk (v := 240) hI (q_tk (k' := 32) hI ha rfl (by decide)) rfl (by decide)]; omega) dX12_pour_211 ?_
                                    refine lv_topl (fun g_89 eg_89 => ?_)
                                    replace hF := q_letX hF eg_89
                                    refine q_lastN E hI (q_tk (k' := 32) hI ha rfl (by decide)) ⟨by decide, rfl⟩ (by omega) (by rw [q_lnk (v := 240) hI (q_tk (k' := 32) hI ha rfl (by decide)) rfl (by decide)]; omega) dX12_pour_212 (fun H locs σ_90 hσ_90 hI => ?_)
                                    replace hF := q_letX hF hσ_90
                                    have fr_σ_90 := fr_σ_79.sl hσ_90 (q_tk (k' := 32) hI ha rfl (by decide)) rfl
                                    obtain ⟨z_91, ez_91⟩ : ∃ y : Int32, y = x_78 + 1 := ⟨_, rfl⟩
                                    replace hF := q_letX hF ez_91
                                    refine lv_iinc (v := z_91) (lv' := [(7, .int z_91), (8, .int x_78), (0, .ref a), (1, .int v1), (2, .int v2), (3, .int v3), (4, .int v4), (5, .int v5), (6, .int 1)]) hx hb dX12_pour_213 hl (k := 8) rfl (by rw [ez_91]; rfl) (by decide) rfl (fun ls hl => ?_)
                                    have iz_91 : z_91.toInt = x_78.toInt + 1 := q_inc ez_91 (by omega)
                                    refine lv_goto (tgt := 158) hx hb dX12_pour_216 (by decide) ?_
                                    exact ih158 z_91 σ_90 _ _ ls (by omega) (by omega) fr_σ_90 hF hI (lv_sub hl [2, 3, 4, 5, 6, 7, 8, 0] rfl)
                                  · skip
                                    replace hF := q_ifn hF c_82
                                    refine lv_iload hx hb dX12_pour_170 (lv_at hl 5 rfl) ?_
                                    refine lv_iconst (v := 1) hx hb dX12_pour_172 (by decide) ?_
                                    refine lv_isub hx hb dX12_pour_173 ?_
                                    refine lv_topi (fun z_92 ez_92 => ?_)
                                    replace hF := q_letX hF ez_92
                                    have iz_92 := q_subI (A := v5.toInt) (B := 1) ez_92 rfl (by decide) (by omega) (by omega)
                                    refine lv_iload hx hb dX12_pour_174 (lv_at hl 7 rfl) ?_
                                    refine lv_isub hx hb dX12_pour_176 ?_
                                    refine lv_topi (fun z_93 ez_93 => ?_)
                                    replace hF := q_letX hF ez_93
                                    have iz_93 := q_subI (A := (v5.toInt - 1)) (B := x_78.toInt) ez_93 iz_92 rfl (by omega) (by omega)
                                    refine lv_goto (tgt := 182) hx hb dX12_pour_177 (by decide) ?_
                                    refine lv_istore (lv' := [(8, .int z_93), (0, .ref a), (1, .int v1), (2, .int v2), (3, .int v3), (4, .int v4), (5, .int v5), (6, .int 1), (7, .int x_78)]) hx hb dX12_pour_182 hl (by decide) rfl (fun ls hl => ?_)
                                    refine lv_aload_n hx hb dX12_pour_184 rfl (lv_at hl 1 rfl) ?_
                                    refine gs_X12_20_12 E hI ha dX12_pour_185 ?_
                                    refine lv_bipush (v := 60) hx hb dX12_pour_188 (by decide) ?_
                                    refine lv_iload_n hx hb dX12_pour_190 rfl (lv_at hl 4 rfl) ?_
                                    refine lv_imul hx hb dX12_pour_191 ?_
                                    refine lv_topi (fun z_94 ez_94 => ?_)
                                    replace hF := q_letX hF ez_94
                                    have iz_94 := q_mulI (A := 60) (B := v3.toInt) ez_94 (by decide) rfl (by omega) (by omega)
                                    refine lv_iload hx hb dX12_pour_192 (lv_at hl 5 rfl) ?_
                                    refine lv_iadd hx hb dX12_pour_194 ?_
                                    refine lv_topi (fun z_95 ez_95 => ?_)
                                    replace hF := q_letX hF ez_95
                                    have iz_95 := q_addI (A := (60 * v3.toInt)) (B := v4.toInt) ez_95 iz_94 rfl (by omega) (by omega)
                                    refine lv_iload hx hb dX12_pour_195 (lv_at hl 0 rfl) ?_
                                    refine lv_iadd hx hb dX12_pour_197 ?_
                                    refine lv_topi (fun z_96 ez_96 => ?_)
                                    replace hF := q_letX hF ez_96
                                    have iz_96 := q_addI (A := ((60 * v3.toInt) + v4.toInt)) (B := ((v5.toInt - 1) - x_78.toInt)) ez_96 iz_95 iz_93 (by omega) (by omega)
                                    refine lv_aload_n hx hb dX12_pour_198 rfl (lv_at hl 1 rfl) ?_
                                    refine gs_X12_20_12 E hI ha dX12_pour_199 ?_
                                    refine lv_bipush (v := 60) hx hb dX12_pour_202 (by decide) ?_
                                    refine lv_iload_n hx hb dX12_pour_204 rfl (lv_at hl 2 rfl) ?_
                                    refine lv_imul hx hb dX12_pour_205 ?_
                                    refine lv_topi (fun z_97 ez_97 => ?_)
                                    replace hF := q_letX hF ez_97
                                    have iz_97 := q_mulI (A := 60) (B := v1.toInt) ez_97 (by decide) rfl (by omega) (by omega)
                                    refine lv_iload_n hx hb dX12_pour_206 rfl (lv_at hl 3 rfl) ?_
                                    refine lv_iadd hx hb dX12_pour_207 ?_
                                    refine lv_topi (fun z_98 ez_98 => ?_)
                                    replace hF := q_letX hF ez_98
                                    have iz_98 := q_addI (A := (60 * v1.toInt)) (B := v2.toInt) ez_98 iz_97 rfl (by omega) (by omega)
                                    refine lv_iload hx hb dX12_pour_208 (lv_at hl 0 rfl) ?_
                                    refine lv_iadd hx hb dX12_pour_210 ?_
                                    refine lv_topi (fun z_99 ez_99 => ?_)
                                    replace hF := q_letX hF ez_99
                                    have iz_99 := q_addI (A := ((60 * v1.toInt) + v2.toInt)) (B := ((v5.toInt - 1) - x_78.toInt)) ez_99 iz_98 iz_93 (by omega) (by omega)
                                    refine q_lald E hI (q_tk (k' := 32) hI ha rfl (by decide)) ⟨by decide, rfl⟩ (by omega) (by rw [q_lnk (v := 240) hI (q_tk (k' := 32) hI ha rfl (by decide)) rfl (by decide)]; omega) dX12_pour_211 ?_
                                    refine lv_topl (fun g_100 eg_100 => ?_)
                                    replace hF := q_letX hF eg_100
                                    refine q_lastN E hI (q_tk (k' := 32) hI ha rfl (by decide)) ⟨by decide, rfl⟩ (by omega) (by rw [q_lnk (v := 240) hI (q_tk (k' := 32) hI ha rfl (by decide)) rfl (by decide)]; omega) dX12_pour_212 (fun H locs σ_101 hσ_101 hI => ?_)
                                    replace hF := q_letX hF hσ_101
                                    have fr_σ_101 := fr_σ_79.sl hσ_101 (q_tk (k' := 32) hI ha rfl (by decide)) rfl
                                    obtain ⟨z_102, ez_102⟩ : ∃ y : Int32, y = x_78 + 1 := ⟨_, rfl⟩
                                    replace hF := q_letX hF ez_102
                                    refine lv_iinc (v := z_102) (lv' := [(7, .int z_102), (8, .int z_93), (0, .ref a), (1, .int v1), (2, .int v2), (3, .int v3), (4, .int v4), (5, .int v5), (6, .int 1)]) hx hb dX12_pour_213 hl (k := 8) rfl (by rw [ez_102]; rfl) (by decide) rfl (fun ls hl => ?_)
                                    have iz_102 : z_102.toInt = x_78.toInt + 1 := q_inc ez_102 (by omega)
                                    refine lv_goto (tgt := 158) hx hb dX12_pour_216 (by decide) ?_
                                    exact ih158 z_102 σ_101 _ _ ls (by omega) (by omega) fr_σ_101 hF hI (lv_sub hl [2, 3, 4, 5, 6, 7, 8, 0] rfl)
                            exact L_158_80 ((2147483647 - (0 : Int32).toInt).toNat + 1) 0 σ_2 _ _ ls (Nat.lt_succ_self _) (by decide) fr_σ_2 hF hI (lv_sub hl [2, 3, 4, 5, 6, 7, 1, 0] rfl)
                        · skip
                          replace hF := q_ifp hF c_51
                          refine lv_aload_n hx hb dX12_pour_136 rfl (lv_at hl 0 rfl) ?_
                          refine lv_iconst (v := 4) hx hb dX12_pour_137 (by decide) ?_
                          have kc_103 : (4 : Int32).toInt = 4 := rfl
                          refine q_ci (q_runV (As := [.int 4]) (rest := []) E (hml.trans hl.1.symm) hI (c_X12_no l X σ_2 a (4 : Int32) ha) kv_X12_74 ha ⟨rfl, by decide⟩ (show vwCl[11]? = some (RX12, TX12, 46) from rfl) rfl ⟨Nat.le_of_ble_eq_true rfl, Nat.le_of_ble_eq_true rfl⟩ ⟨Nat.le_refl _, Nat.le_refl _⟩ rfl (Nat.le_of_ble_eq_true rfl) dX12_pour_138) hI (by decide) (fun r_104 σ_105 H locs hpσ_105 hkσ_105 hI => ?_)
                          obtain ⟨ahpσ_105, bhpσ_105, chpσ_105, dhpσ_105⟩ := hpσ_105
                          have fr_σ_105 := fr_σ_2.call dhpσ_105 rfl rfl
                          replace hF := q_biX hF chpσ_105
                          exact q_retz E hr hlk hI ⟨by omega, by omega⟩ ⟨⟨by omega, by omega⟩, (by constructor <;> intro h9 <;> omega), (hF.trans hout), fr_σ_105⟩ dX12_pour_141
                · skip
                  replace hF := q_ifp hF c_26
                  refine lv_aload_n hx hb dX12_pour_85 rfl (lv_at hl 0 rfl) ?_
                  refine lv_bipush (v := 6) hx hb dX12_pour_86 (by decide) ?_
                  have kc_106 : (6 : Int32).toInt = 6 := rfl
                  refine q_ci (q_runV (As := [.int 6]) (rest := []) E (hml.trans hl.1.symm) hI (c_X12_no l X σ_2 a (6 : Int32) ha) kv_X12_74 ha ⟨rfl, by decide⟩ (show vwCl[11]? = some (RX12, TX12, 46) from rfl) rfl ⟨Nat.le_of_ble_eq_true rfl, Nat.le_of_ble_eq_true rfl⟩ ⟨Nat.le_refl _, Nat.le_refl _⟩ rfl (Nat.le_of_ble_eq_true rfl) dX12_pour_88) hI (by decide) (fun r_107 σ_108 H locs hpσ_108 hkσ_108 hI => ?_)
                  obtain ⟨ahpσ_108, bhpσ_108, chpσ_108, dhpσ_108⟩ := hpσ_108
                  have fr_σ_108 := fr_σ_2.call dhpσ_108 rfl rfl
                  replace hF := q_biX hF chpσ_108
                  exact q_retz E hr hlk hI ⟨by omega, by omega⟩ ⟨⟨by omega, by omega⟩, (by constructor <;> intro h9 <;> omega), (hF.trans hout), fr_σ_108⟩ dX12_pour_91
              · skip
                replace hF := q_ifn hF c_25
                refine lv_aload_n hx hb dX12_pour_73 rfl (lv_at hl 0 rfl) ?_
                refine lv_bipush (v := 11) hx hb dX12_pour_74 (by decide) ?_
                have kc_109 : (11 : Int32).toInt = 11 := rfl
                refine q_ci (q_runV (As := [.int 11]) (rest := []) E (hml.trans hl.1.symm) hI (c_X12_no l X σ_2 a (11 : Int32) ha) kv_X12_74 ha ⟨rfl, by decide⟩ (show vwCl[11]? = some (RX12, TX12, 46) from rfl) rfl ⟨Nat.le_of_ble_eq_true rfl, Nat.le_of_ble_eq_true rfl⟩ ⟨Nat.le_refl _, Nat.le_refl _⟩ rfl (Nat.le_of_ble_eq_true rfl) dX12_pour_76) hI (by decide) (fun r_110 σ_111 H locs hpσ_111 hkσ_111 hI => ?_)
                obtain ⟨ahpσ_111, bhpσ_111, chpσ_111, dhpσ_111⟩ := hpσ_111
                have fr_σ_111 := fr_σ_2.call dhpσ_111 rfl rfl
                replace hF := q_biX hF chpσ_111
                exact q_retz E hr hlk hI ⟨by omega, by omega⟩ ⟨⟨by omega, by omega⟩, (by constructor <;> intro h9 <;> omega), (hF.trans hout), fr_σ_111⟩ dX12_pour_79
            · skip
              replace hF := q_ifp hF c_22
              refine lv_aload_n hx hb dX12_pour_52 rfl (lv_at hl 0 rfl) ?_
              refine lv_iconst (v := 3) hx hb dX12_pour_53 (by decide) ?_
              have kc_112 : (3 : Int32).toInt = 3 := rfl
              refine q_ci (q_runV (As := [.int 3]) (rest := []) E (hml.trans hl.1.symm) hI (c_X12_no l X σ_2 a (3 : Int32) ha) kv_X12_74 ha ⟨rfl, by decide⟩ (show vwCl[11]? = some (RX12, TX12, 46) from rfl) rfl ⟨Nat.le_of_ble_eq_true rfl, Nat.le_of_ble_eq_true rfl⟩ ⟨Nat.le_refl _, Nat.le_refl _⟩ rfl (Nat.le_of_ble_eq_true rfl) dX12_pour_54) hI (by decide) (fun r_113 σ_114 H locs hpσ_114 hkσ_114 hI => ?_)
              obtain ⟨ahpσ_114, bhpσ_114, chpσ_114, dhpσ_114⟩ := hpσ_114
              have fr_σ_114 := fr_σ_2.call dhpσ_114 rfl rfl
              replace hF := q_biX hF chpσ_114
              exact q_retz E hr hlk hI ⟨by omega, by omega⟩ ⟨⟨by omega, by omega⟩, (by constructor <;> intro h9 <;> omega), (hF.trans hout), fr_σ_114⟩ dX12_pour_57
        · skip
          replace hF := q_ifn hF (Int.not_lt.mpr c_15)
          refine lv_aload_n hx hb dX12_pour_28 rfl (lv_at hl 0 rfl) ?_
          refine lv_iconst (v := 1) hx hb dX12_pour_29 (by decide) ?_
          have kc_115 : (1 : Int32).toInt = 1 := rfl
          refine q_ci (q_runV (As := [.int 1]) (rest := []) E (hml.trans hl.1.symm) hI (c_X12_no l X σ_2 a (1 : Int32) ha) kv_X12_74 ha ⟨rfl, by decide⟩ (show vwCl[11]? = some (RX12, TX12, 46) from rfl) rfl ⟨Nat.le_of_ble_eq_true rfl, Nat.le_of_ble_eq_true rfl⟩ ⟨Nat.le_refl _, Nat.le_refl _⟩ rfl (Nat.le_of_ble_eq_true rfl) dX12_pour_30) hI (by decide) (fun r_116 σ_117 H locs hpσ_117 hkσ_117 hI => ?_)
          obtain ⟨ahpσ_117, bhpσ_117, chpσ_117, dhpσ_117⟩ := hpσ_117
          have fr_σ_117 := fr_σ_2.call dhpσ_117 rfl rfl
          replace hF := q_biX hF chpσ_117
          exact q_retz E hr hlk hI ⟨by omega, by omega⟩ ⟨⟨by omega, by omega⟩, (by constructor <;> intro h9 <;> omega), (hF.trans hout), fr_σ_117⟩ dX12_pour_33
end
