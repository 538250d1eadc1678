/-! FROM 16.class.b01.lean.txt -/
section
set_option maxRecDepth 100000 in
set_option maxHeartbeats 4000000 in
theorem c_X11_pour (l : Launch) (X : XW) (σ : ST) (a : Nat) (v1 : Int32) (v2 : Int32) (v3 : Int32) (v4 : Int32) (v5 : Int32) (ha : q_kd X a = 11) : Met l yX11_pour (q_ws yX11_pour cX11_pour 8 (some .boolean)) (q_rm 2 84) (q_P X σ [.ref a, .int v1, .int v2, .int v3, .int v4, .int v5]) (q_Qi X 8 σ (fun (r : Int32) (σ' : ST) => (0 ≤ r.toInt ∧ r.toInt ≤ 1) ∧ (r.toInt = 1 ↔ ((0 ≤ v1.toInt ∧ v1.toInt < 4) ∧ (0 ≤ v3.toInt ∧ v3.toInt < 4) ∧ 0 ≤ (σ.1 (q_rf X (q_rf X a 3) v1.toNatClampNeg) 1).toInt ∧ 0 ≤ (σ.1 (q_rf X (q_rf X a 3) v3.toNatClampNeg) 1).toInt ∧ (σ.1 (q_rf X (q_rf X a 3) v1.toNatClampNeg) 0).toInt = (σ.1 (q_rf X (q_rf X a 3) v3.toNatClampNeg) 0).toInt ∧ 0 ≤ v5.toInt ∧ 0 ≤ v2.toInt ∧ v2.toInt + v5.toInt ≤ (σ.1 (q_rf X (q_rf X a 3) v1.toNatClampNeg) 1).toInt ∧ 0 ≤ v4.toInt ∧ v4.toInt + v5.toInt ≤ (σ.1 (q_rf X (q_rf X a 3) v3.toNatClampNeg) 1).toInt)) ∧ (r, σ') = F_X11_pour X σ a v1 v2 v3 v4 v5 ∧ q_ow [(11, 0)] [(21, 99)] X σ σ')) 0 0 (q_reg X) := by
  refine q_met 8 (by first | exact rfl | decide +kernel) rfl (Nat.le_of_ble_eq_true rfl) (fun p e s m below meth c E hml hr hlk hI ls hl => ?_)
  have hx := E.1
  have hb := E.2.1
  have hl : lv_has ls 8 [(0, .ref a), (1, .int v1), (2, .int v2), (3, .int v3), (4, .int v4), (5, .int v5)] := hl
  have fr_σ : q_ow [(11, 0)] [(21, 99)] X σ σ := q_ow.rf
  obtain ⟨out, hout⟩ : ∃ o, o = F_X11_pour X σ a v1 v2 v3 v4 v5 := ⟨_, rfl⟩
  have hF := hout.symm
  unfold F_X11_pour at hF
  refine lv_aload_n hx hb dX11_pour_0 rfl (lv_at hl 0 rfl) ?_
  refine lv_iload_n hx hb dX11_pour_1 rfl (lv_at hl 1 rfl) ?_
  refine q_cq (q_rV10_1 (rest := []) E (hml.trans hl.1.symm) hI (c_X11_trayAt l X σ a v1 ha) kv_X11_85 ha ⟨Nat.le_of_ble_eq_true rfl, Nat.le_of_ble_eq_true rfl⟩ (Nat.le_of_ble_eq_true rfl) dX11_pour_2) hI (Nat.le_of_ble_eq_true rfl) (fun r_1 σ_2 H locs hpσ_2 hkσ_2 hI => ?_)
  have ahpσ_2 := hpσ_2.1
  have bhpσ_2 := hpσ_2.2.1
  have chpσ_2 := hpσ_2.2.2
  clear hpσ_2
  replace hI := q_Irw ahpσ_2 hI
  replace hF := q_letX hF chpσ_2
  rcases r_1 with _ | r_1
  · show W _ _ _ _ _ _ _ _ _ _ _ _ _ _ _ (F0 m (2 + 3) ls [.null])
    replace hF := q_onN hF
    have nq_v1 := bhpσ_2.2 rfl
    refine lv_astoreN (lv' := [(6, .null), (0, .ref a), (1, .int v1), (2, .int v2), (3, .int v3), (4, .int v4), (5, .int v5)]) hx hb dX11_pour_5 hl (by decide) rfl (fun ls hl => ?_)
    refine lv_aload_n hx hb dX11_pour_7 rfl (lv_at hl 1 rfl) ?_
    refine lv_iload_n hx hb dX11_pour_8 rfl (lv_at hl 4 rfl) ?_
    refine q_cq (q_rV10_1 (rest := []) E (hml.trans hl.1.symm) hI (c_X11_trayAt l X σ a v3 ha) kv_X11_85 ha ⟨Nat.le_of_ble_eq_true rfl, Nat.le_of_ble_eq_true rfl⟩ (Nat.le_of_ble_eq_true rfl) dX11_pour_9) hI (Nat.le_of_ble_eq_true rfl) (fun r_3 σ_4 H locs hpσ_4 hkσ_4 hI => ?_)
    have ahpσ_4 := hpσ_4.1
    have bhpσ_4 := hpσ_4.2.1
    have chpσ_4 := hpσ_4.2.2
    clear hpσ_4
    replace hI := q_Irw ahpσ_4 hI
    replace hF := q_letX hF chpσ_4
    rcases r_3 with _ | r_3
    · show W _ _ _ _ _ _ _ _ _ _ _ _ _ _ _ (F0 m (9 + 3) ls [.null])
      replace hF := q_onN hF
      have nq_v3 := bhpσ_4.2 rfl
      refine lv_astoreN (lv' := [(7, .null), (6, .null), (0, .ref a), (1, .int v1), (2, .int v2), (3, .int v3), (4, .int v4), (5, .int v5)]) hx hb dX11_pour_12 hl (by decide) rfl (fun ls hl => ?_)
      refine lv_aloadN hx hb dX11_pour_14 (lv_at hl 1 rfl) ?_
      refine lv_ifnullN (tgt := 24) hx hb dX11_pour_16 (by decide) ?_
      refine lv_aload_n hx hb dX11_pour_24 rfl (lv_at hl 2 rfl) ?_
      refine lv_iconst (v := 1) hx hb dX11_pour_25 zki_1 ?_
      have kc_5 : (1 : Int32).toInt = 1 := zt_1
      refine q_ci (q_rV10_1 (rest := []) E (hml.trans hl.1.symm) hI (c_X11_no l X σ a (1 : Int32) ha) kv_X11_89 ha ⟨Nat.le_of_ble_eq_true rfl, Nat.le_of_ble_eq_true rfl⟩ (Nat.le_of_ble_eq_true rfl) dX11_pour_26) hI (Nat.le_of_ble_eq_true rfl) (fun r_6 σ_7 H locs hpσ_7 hkσ_7 hI => ?_)
      have ahpσ_7 := hpσ_7.1
      have bhpσ_7 := hpσ_7.2.1
      have chpσ_7 := hpσ_7.2.2.1
      have dhpσ_7 := hpσ_7.2.2.2
      clear hpσ_7
      have fr_σ_7 := fr_σ.call dhpσ_7 rfl rfl
      replace hF := q_biX hF chpσ_7
      exact q_retz E hr hlk hI ⟨by omega, by omega⟩ ⟨⟨by omega, by omega⟩, (by constructor <;> intro h9 <;> omega), (hF.trans hout), fr_σ_7⟩ dX11_pour_29
    · show W _ _ _ _ _ _ _ _ _ _ _ _ _ _ _ (F0 m (9 + 3) ls [.ref r_3])
      replace hF := q_onS hF
      obtain ⟨kq_r_3, eq_r_3, lo_r_3, hi_r_3⟩ := bhpσ_4.1 _ rfl
      have f0_r_3 : (σ.1 (q_rf X (q_rf X a 3) v3.toNatClampNeg) 0).toInt = (σ.1 r_3 0).toInt := by rw [← eq_r_3]
      have f1_r_3 : (σ.1 (q_rf X (q_rf X a 3) v3.toNatClampNeg) 1).toInt = (σ.1 r_3 1).toInt := by rw [← eq_r_3]
      have g1_r_3 : -1 ≤ (σ.1 r_3 1).toInt ∧ (σ.1 r_3 1).toInt ≤ 60 := q_bd hI kq_r_3 rfl
      refine lv_astore (lv' := [(7, .ref r_3), (6, .null), (0, .ref a), (1, .int v1), (2, .int v2), (3, .int v3), (4, .int v4), (5, .int v5)]) hx hb dX11_pour_12 hl (by decide) rfl (fun ls hl => ?_)
      refine lv_aloadN hx hb dX11_pour_14 (lv_at hl 1 rfl) ?_
      refine lv_ifnullN (tgt := 24) hx hb dX11_pour_16 (by decide) ?_
      refine lv_aload_n hx hb dX11_pour_24 rfl (lv_at hl 2 rfl) ?_
      refine lv_iconst (v := 1) hx hb dX11_pour_25 zki_1 ?_
      have kc_8 : (1 : Int32).toInt = 1 := zt_1
      refine q_ci (q_rV10_1 (rest := []) E (hml.trans hl.1.symm) hI (c_X11_no l X σ a (1 : Int32) ha) kv_X11_89 ha ⟨Nat.le_of_ble_eq_true rfl, Nat.le_of_ble_eq_true rfl⟩ (Nat.le_of_ble_eq_true rfl) dX11_pour_26) hI (Nat.le_of_ble_eq_true rfl) (fun r_9 σ_10 H locs hpσ_10 hkσ_10 hI => ?_)
      have ahpσ_10 := hpσ_10.1
      have bhpσ_10 := hpσ_10.2.1
      have chpσ_10 := hpσ_10.2.2.1
      have dhpσ_10 := hpσ_10.2.2.2
      clear hpσ_10
      have fr_σ_10 := fr_σ.call dhpσ_10 rfl rfl
      replace hF := q_biX hF chpσ_10
      exact q_retz E hr hlk hI ⟨by omega, by omega⟩ ⟨⟨by omega, by omega⟩, (by constructor <;> intro h9 <;> omega), (hF.trans hout), fr_σ_10⟩ dX11_pour_29
  · show W _ _ _ _ _ _ _ _ _ _ _ _ _ _ _ (F0 m (2 + 3) ls [.ref r_1])
    replace hF := q_onS hF
    obtain ⟨kq_r_1, eq_r_1, lo_r_1, hi_r_1⟩ := bhpσ_2.1 _ rfl
    have f0_r_1 : (σ.1 (q_rf X (q_rf X a 3) v1.toNatClampNeg) 0).toInt = (σ.1 r_1 0).toInt := by rw [← eq_r_1]
    have f1_r_1 : (σ.1 (q_rf X (q_rf X a 3) v1.toNatClampNeg) 1).toInt = (σ.1 r_1 1).toInt := by rw [← eq_r_1]
    have g1_r_1 : -1 ≤ (σ.1 r_1 1).toInt ∧ (σ.1 r_1 1).toInt ≤ 60 := q_bd hI kq_r_1 rfl
    refine lv_astore (lv' := [(6, .ref r_1), (0, .ref a), (1, .int v1), (2, .int v2), (3, .int v3), (4, .int v4), (5, .int v5)]) hx hb dX11_pour_5 hl (by decide) rfl (fun ls hl => ?_)
    refine lv_aload_n hx hb dX11_pour_7 rfl (lv_at hl 1 rfl) ?_
    refine lv_iload_n hx hb dX11_pour_8 rfl (lv_at hl 4 rfl) ?_
    refine q_cq (q_rV10_1 (rest := []) E (hml.trans hl.1.symm) hI (c_X11_trayAt l X σ a v3 ha) kv_X11_85 ha ⟨Nat.le_of_ble_eq_true rfl, Nat.le_of_ble_eq_true rfl⟩ (Nat.le_of_ble_eq_true rfl) dX11_pour_9) hI (Nat.le_of_ble_eq_true rfl) (fun r_11 σ_12 H locs hpσ_12 hkσ_12 hI => ?_)
    have ahpσ_12 := hpσ_12.1
    have bhpσ_12 := hpσ_12.2.1
    have chpσ_12 := hpσ_12.2.2
    clear hpσ_12
    replace hI := q_Irw ahpσ_12 hI
    replace hF := q_letX hF chpσ_12
    rcases r_11 with _ | r_11
    · show W _ _ _ _ _ _ _ _ _ _ _ _ _ _ _ (F0 m (9 + 3) ls [.null])
      replace hF := q_onN hF
      have nq_v3 := bhpσ_12.2 rfl
      refine lv_astoreN (lv' := [(7, .null), (6, .ref r_1), (0, .ref a), (1, .int v1), (2, .int v2), (3, .int v3), (4, .int v4), (5, .int v5)]) hx hb dX11_pour_12 hl (by decide) rfl (fun ls hl => ?_)
      refine lv_aload hx hb dX11_pour_14 (lv_at hl 1 rfl) ?_
      refine lv_ifnull hx hb dX11_pour_16 ?_
      refine lv_aloadN hx hb dX11_pour_19 (lv_at hl 0 rfl) ?_
      refine lv_ifnonnullN hx hb dX11_pour_21 ?_
      refine lv_aload_n hx hb dX11_pour_24 rfl (lv_at hl 2 rfl) ?_
      refine lv_iconst (v := 1) hx hb dX11_pour_25 zki_1 ?_
      have kc_13 : (1 : Int32).toInt = 1 := zt_1
      refine q_ci (q_rV10_1 (rest := []) E (hml.trans hl.1.symm) hI (c_X11_no l X σ a (1 : Int32) ha) kv_X11_89 ha ⟨Nat.le_of_ble_eq_true rfl, Nat.le_of_ble_eq_true rfl⟩ (Nat.le_of_ble_eq_true rfl) dX11_pour_26) hI (Nat.le_of_ble_eq_true rfl) (fun r_14 σ_15 H locs hpσ_15 hkσ_15 hI => ?_)
      have ahpσ_15 := hpσ_15.1
      have bhpσ_15 := hpσ_15.2.1
      have chpσ_15 := hpσ_15.2.2.1
      have dhpσ_15 := hpσ_15.2.2.2
      clear hpσ_15
      have fr_σ_15 := fr_σ.call dhpσ_15 rfl rfl
      replace hF := q_biX hF chpσ_15
      exact q_retz E hr hlk hI ⟨by omega, by omega⟩ ⟨⟨by omega, by omega⟩, (by constructor <;> intro h9 <;> omega), (hF.trans hout), fr_σ_15⟩ dX11_pour_29
    · show W _ _ _ _ _ _ _ _ _ _ _ _ _ _ _ (F0 m (9 + 3) ls [.ref r_11])
      replace hF := q_onS hF
      obtain ⟨kq_r_11, eq_r_11, lo_r_11, hi_r_11⟩ := bhpσ_12.1 _ rfl
      have f0_r_11 : (σ.1 (q_rf X (q_rf X a 3) v3.toNatClampNeg) 0).toInt = (σ.1 r_11 0).toInt := by rw [← eq_r_11]
      have f1_r_11 : (σ.1 (q_rf X (q_rf X a 3) v3.toNatClampNeg) 1).toInt = (σ.1 r_11 1).toInt := by rw [← eq_r_11]
      have g1_r_11 : -1 ≤ (σ.1 r_11 1).toInt ∧ (σ.1 r_11 1).toInt ≤ 60 := q_bd hI kq_r_11 rfl
      refine lv_astore (lv' := [(7, .ref r_11), (6, .ref r_1), (0, .ref a), (1, .int v1), (2, .int v2), (3, .int v3), (4, .int v4), (5, .int v5)]) hx hb dX11_pour_12 hl (by decide) rfl (fun ls hl => ?_)
      refine lv_aload hx hb dX11_pour_14 (lv_at hl 1 rfl) ?_
      refine lv_ifnull hx hb dX11_pour_16 ?_
      refine lv_aload hx hb dX11_pour_19 (lv_at hl 0 rfl) ?_
      refine lv_ifnonnull (tgt := 30) hx hb dX11_pour_21 (by decide) ?_
      refine lv_aload hx hb dX11_pour_30 (lv_at hl 1 rfl) ?_
      refine q_ci (q_rV9_0 (rest := []) E (hml.trans hl.1.symm) hI (c_X10_isMissing l X σ r_1 kq_r_1) kv_X11_117 kq_r_1 ⟨Nat.le_of_ble_eq_true rfl, Nat.le_of_ble_eq_true rfl⟩ (Nat.le_of_ble_eq_true rfl) dX11_pour_32) hI (Nat.le_of_ble_eq_true rfl) (fun r_16 σ_17 H locs hpσ_17 hkσ_17 hI => ?_)
      have ahpσ_17 := hpσ_17.1
      have bhpσ_17 := hpσ_17.2.1
      have chpσ_17 := hpσ_17.2.2.1
      have dhpσ_17 := hpσ_17.2.2.2
      clear hpσ_17
      replace hI := q_Irw ahpσ_17 hI
      replace hF := q_letX hF dhpσ_17
      refine q_if_ne (A := r_16.toInt) E rfl (tgt := 46) dX11_pour_35 (by decide) (fun c_18 => ?_) (fun c_18 => ?_)
      · skip
        replace hF := q_ifn hF c_18
        replace c_18 := q_ifOne bhpσ_17 c_18
        replace chpσ_17 := q_ifYes chpσ_17 c_18
        refine lv_aload_n hx hb dX11_pour_46 rfl (lv_at hl 2 rfl) ?_
        refine lv_iconst (v := 3) hx hb dX11_pour_47 zki_3 ?_
        have kc_19 : (3 : Int32).toInt = 3 := zt_3
        refine q_ci (q_rV10_1 (rest := []) E (hml.trans hl.1.symm) hI (c_X11_no l X σ a (3 : Int32) ha) kv_X11_89 ha ⟨Nat.le_of_ble_eq_true rfl, Nat.le_of_ble_eq_true rfl⟩ (Nat.le_of_ble_eq_true rfl) dX11_pour_48) hI (Nat.le_of_ble_eq_true rfl) (fun r_20 σ_21 H locs hpσ_21 hkσ_21 hI => ?_)
        have ahpσ_21 := hpσ_21.1
        have bhpσ_21 := hpσ_21.2.1
        have chpσ_21 := hpσ_21.2.2.1
        have dhpσ_21 := hpσ_21.2.2.2
        clear hpσ_21
        have fr_σ_21 := fr_σ.call dhpσ_21 rfl rfl
        replace hF := q_biX hF chpσ_21
        exact q_retz E hr hlk hI ⟨by omega, by omega⟩ ⟨⟨by omega, by omega⟩, (by constructor <;> intro h9 <;> omega), (hF.trans hout), fr_σ_21⟩ dX11_pour_51
      · skip
        replace hF := q_ifp hF c_18
        replace chpσ_17 := q_ifNo chpσ_17 c_18
        refine lv_aload hx hb dX11_pour_38 (lv_at hl 0 rfl) ?_
        refine q_ci (q_rV9_0 (rest := []) E (hml.trans hl.1.symm) hI (c_X10_isMissing l X σ r_11 kq_r_11) kv_X11_117 kq_r_11 ⟨Nat.le_of_ble_eq_true rfl, Nat.le_of_ble_eq_true rfl⟩ (Nat.le_of_ble_eq_true rfl) dX11_pour_40) hI (Nat.le_of_ble_eq_true rfl) (fun r_22 σ_23 H locs hpσ_23 hkσ_23 hI => ?_)
        have ahpσ_23 := hpσ_23.1
        have bhpσ_23 := hpσ_23.2.1
        have chpσ_23 := hpσ_23.2.2.1
        have dhpσ_23 := hpσ_23.2.2.2
        clear hpσ_23
        replace hI := q_Irw ahpσ_23 hI
        replace hF := q_letX hF dhpσ_23
        refine q_if_eq (A := r_22.toInt) E rfl (tgt := 52) dX11_pour_43 (by decide) (fun c_24 => ?_) (fun c_24 => ?_)
        · skip
          replace hF := q_ifp hF c_24
          replace chpσ_23 := q_ifNo chpσ_23 c_24
          refine lv_aload hx hb dX11_pour_52 (lv_at hl 1 rfl) ?_
          refine gs_X11_120_10 E hI kq_r_1 dX11_pour_54 ?_
          refine lv_topi (fun f_25 ef_25 => ?_)
          replace hF := q_letX hF ef_25
          have if_25 : f_25.toInt = (σ.1 r_1 0).toInt := congrArg Int32.toInt ef_25
          have bf_25 : 0 ≤ f_25.toInt ∧ f_25.toInt ≤ 3 := by rw [ef_25]; exact q_bd hI kq_r_1 rfl
          refine lv_aload hx hb dX11_pour_57 (lv_at hl 0 rfl) ?_
          refine gs_X11_120_10 E hI kq_r_11 dX11_pour_59 ?_
          refine lv_topi (fun f_26 ef_26 => ?_)
          replace hF := q_letX hF ef_26
          have if_26 : f_26.toInt = (σ.1 r_11 0).toInt := congrArg Int32.toInt ef_26
          have bf_26 : 0 ≤ f_26.toInt ∧ f_26.toInt ≤ 3 := by rw [ef_26]; exact q_bd hI kq_r_11 rfl
          refine q_icmp_eq (A := f_25.toInt) (B := f_26.toInt) E rfl rfl (tgt := 72) dX11_pour_62 (by decide) (fun c_27 => ?_) (fun c_27 => ?_)
          · skip
            replace hF := q_ifp hF c_27
            refine lv_iload hx hb dX11_pour_72 (lv_at hl 7 rfl) ?_
            refine q_if_ge (A := v5.toInt) E rfl (tgt := 84) dX11_pour_74 (by decide) (fun c_28 => ?_) (fun c_28 => ?_)
            · skip
              replace hF := q_ifn hF (Int.not_lt.mpr c_28)
              refine lv_aload hx hb dX11_pour_84 (lv_at hl 1 rfl) ?_
              refine lv_iload_n hx hb dX11_pour_86 rfl (lv_at hl 4 rfl) ?_
              refine lv_iload hx hb dX11_pour_87 (lv_at hl 7 rfl) ?_
              refine q_ci (q_rV9_2 (rest := []) E (hml.trans hl.1.symm) hI (c_X10_hasPlaces l X σ r_1 v2 v5 kq_r_1) kv_X11_123 kq_r_1 ⟨Nat.le_of_ble_eq_true rfl, Nat.le_of_ble_eq_true rfl⟩ (Nat.le_of_ble_eq_true rfl) dX11_pour_89) hI (Nat.le_of_ble_eq_true rfl) (fun r_29 σ_30 H locs hpσ_30 hkσ_30 hI => ?_)
              have ahpσ_30 := hpσ_30.1
              have bhpσ_30 := hpσ_30.2.1
              have chpσ_30 := hpσ_30.2.2.1
              have dhpσ_30 := hpσ_30.2.2.2
              clear hpσ_30
              replace hI := q_Irw ahpσ_30 hI
              replace hF := q_letX hF dhpσ_30
              refine q_if_eq (A := r_29.toInt) E rfl (tgt := 107) dX11_pour_92 (by decide) (fun c_31 => ?_) (fun c_31 => ?_)
              · skip
                replace hF := q_ifp hF c_31
                replace chpσ_30 := q_ifNo chpσ_30 c_31
                refine lv_aload_n hx hb dX11_pour_107 rfl (lv_at hl 2 rfl) ?_
                refine lv_iconst (v := 4) hx hb dX11_pour_108 zki_4 ?_
                have kc_32 : (4 : Int32).toInt = 4 := zt_4
                refine q_ci (q_rV10_1 (rest := []) E (hml.trans hl.1.symm) hI (c_X11_no l X σ a (4 : Int32) ha) kv_X11_89 ha ⟨Nat.le_of_ble_eq_true rfl, Nat.le_of_ble_eq_true rfl⟩ (Nat.le_of_ble_eq_true rfl) dX11_pour_109) hI (Nat.le_of_ble_eq_true rfl) (fun r_33 σ_34 H locs hpσ_34 hkσ_34 hI => ?_)
                have ahpσ_34 := hpσ_34.1
                have bhpσ_34 := hpσ_34.2.1
                have chpσ_34 := hpσ_34.2.2.1
                have dhpσ_34 := hpσ_34.2.2.2
                clear hpσ_34
                have fr_σ_34 := fr_σ.call dhpσ_34 rfl rfl
                replace hF := q_biX hF chpσ_34
                exact q_retz E hr hlk hI ⟨by omega, by omega⟩ ⟨⟨by omega, by omega⟩, (by constructor <;> intro h9 <;> omega), (hF.trans hout), fr_σ_34⟩ dX11_pour_112
              · skip
                replace hF := q_ifn hF c_31
                replace c_31 := q_ifOne bhpσ_30 c_31
                replace chpσ_30 := q_ifYes chpσ_30 c_31
                refine lv_aload hx hb dX11_pour_95 (lv_at hl 0 rfl) ?_
                refine lv_iload hx hb dX11_pour_97 (lv_at hl 6 rfl) ?_
                refine lv_iload hx hb dX11_pour_99 (lv_at hl 7 rfl) ?_
                refine q_ci (q_rV9_2 (rest := []) E (hml.trans hl.1.symm) hI (c_X10_hasPlaces l X σ r_11 v4 v5 kq_r_11) kv_X11_123 kq_r_11 ⟨Nat.le_of_ble_eq_true rfl, Nat.le_of_ble_eq_true rfl⟩ (Nat.le_of_ble_eq_true rfl) dX11_pour_101) hI (Nat.le_of_ble_eq_true rfl) (fun r_35 σ_36 H locs hpσ_36 hkσ_36 hI => ?_)
                have ahpσ_36 := hpσ_36.1
                have bhpσ_36 := hpσ_36.2.1
                have chpσ_36 := hpσ_36.2.2.1
                have dhpσ_36 := hpσ_36.2.2.2
                clear hpσ_36
                replace hI := q_Irw ahpσ_36 hI
                replace hF := q_letX hF dhpσ_36
                refine q_if_ne (A := r_35.toInt) E rfl (tgt := 113) dX11_pour_104 (by decide) (fun c_37 => ?_) (fun c_37 => ?_)
                · skip
                  replace hF := q_ifn hF c_37
                  replace c_37 := q_ifOne bhpσ_36 c_37
                  replace chpσ_36 := q_ifYes chpσ_36 c_37
                  refine lv_aload hx hb dX11_pour_113 (lv_at hl 0 rfl) ?_
                  refine lv_aload hx hb dX11_pour_115 (lv_at hl 1 rfl) ?_
                  refine lv_iload_n hx hb dX11_pour_117 rfl (lv_at hl 4 rfl) ?_
                  refine lv_iload hx hb dX11_pour_118 (lv_at hl 6 rfl) ?_
                  refine lv_iload hx hb dX11_pour_120 (lv_at hl 7 rfl) ?_
                  refine q_cv (q_rV9_4 (rest := []) E (hml.trans hl.1.symm) hI (c_X10_copyFrom l X σ r_11 r_1 v2 v4 v5 kq_r_11 kq_r_1) kv_X11_127 kq_r_11 ⟨Nat.le_of_ble_eq_true rfl, Nat.le_of_ble_eq_true rfl⟩ (Nat.le_of_ble_eq_true rfl) dX11_pour_122) hI (Nat.le_of_ble_eq_true rfl) (fun σ_39 H locs hpσ_39 hkσ_39 hI => ?_)
                  have ahpσ_39 := hpσ_39.1
                  have bhpσ_39 := hpσ_39.2
                  clear hpσ_39
                  have fr_σ_39 := fr_σ.call bhpσ_39 rfl rfl
                  replace hF := q_letX hF ahpσ_39
                  refine lv_aload_n hx hb dX11_pour_125 rfl (lv_at hl 2 rfl) ?_
                  refine q_ci (q_rV10_0 (rest := []) E (hml.trans hl.1.symm) hI (c_X11_yes l X σ_39 a ha) kv_X11_97 ha ⟨Nat.le_of_ble_eq_true rfl, Nat.le_of_ble_eq_true rfl⟩ (Nat.le_of_ble_eq_true rfl) dX11_pour_126) hI (Nat.le_of_ble_eq_true rfl) (fun r_40 σ_41 H locs hpσ_41 hkσ_41 hI => ?_)
                  have ahpσ_41 := hpσ_41.1
                  have bhpσ_41 := hpσ_41.2.1
                  have chpσ_41 := hpσ_41.2.2.1
                  have dhpσ_41 := hpσ_41.2.2.2
                  clear hpσ_41
                  have fr_σ_41 := fr_σ_39.call dhpσ_41 rfl rfl
                  replace hF := q_biX hF chpσ_41
                  exact q_retz E hr hlk hI ⟨by omega, by omega⟩ ⟨⟨by omega, by omega⟩, (by constructor <;> intro h9 <;> omega), (hF.trans hout), fr_σ_41⟩ dX11_pour_129
                · skip
                  replace hF := q_ifp hF c_37
                  replace chpσ_36 := q_ifNo chpσ_36 c_37
                  refine lv_aload_n hx hb dX11_pour_107 rfl (lv_at hl 2 rfl) ?_
                  refine lv_iconst (v := 4) hx hb dX11_pour_108 zki_4 ?_
                  have kc_42 : (4 : Int32).toInt = 4 := zt_4
                  refine q_ci (q_rV10_1 (rest := []) E (hml.trans hl.1.symm) hI (c_X11_no l X σ a (4 : Int32) ha) kv_X11_89 ha ⟨Nat.le_of_ble_eq_true rfl, Nat.le_of_ble_eq_true rfl⟩ (Nat.le_of_ble_eq_true rfl) dX11_pour_109) hI (Nat.le_of_ble_eq_true rfl) (fun r_43 σ_44 H locs hpσ_44 hkσ_44 hI => ?_)
                  have ahpσ_44 := hpσ_44.1
                  have bhpσ_44 := hpσ_44.2.1
                  have chpσ_44 := hpσ_44.2.2.1
                  have dhpσ_44 := hpσ_44.2.2.2
                  clear hpσ_44
                  have fr_σ_44 := fr_σ.call dhpσ_44 rfl rfl
                  replace hF := q_biX hF chpσ_44
                  exact q_retz E hr hlk hI ⟨by omega, by omega⟩ ⟨⟨by omega, by omega⟩, (by constructor <;> intro h9 <;> omega), (hF.trans hout), fr_σ_44⟩ dX11_pour_112
            · skip
              replace hF := q_ifp hF c_28
              refine lv_aload_n hx hb dX11_pour_77 rfl (lv_at hl 2 rfl) ?_
              refine lv_bipush (v := 6) hx hb dX11_pour_78 zkb_6 ?_
              have kc_45 : (6 : Int32).toInt = 6 := zt_6
              refine q_ci (q_rV10_1 (rest := []) E (hml.trans hl.1.symm) hI (c_X11_no l X σ a (6 : Int32) ha) kv_X11_89 ha ⟨Nat.le_of_ble_eq_true rfl, Nat.le_of_ble_eq_true rfl⟩ (Nat.le_of_ble_eq_true rfl) dX11_pour_80) hI (Nat.le_of_ble_eq_true rfl) (fun r_46 σ_47 H locs hpσ_47 hkσ_47 hI => ?_)
              have ahpσ_47 := hpσ_47.1
              have bhpσ_47 := hpσ_47.2.1
              have chpσ_47 := hpσ_47.2.2.1
              have dhpσ_47 := hpσ_47.2.2.2
              clear hpσ_47
              have fr_σ_47 := fr_σ.call dhpσ_47 rfl rfl
              replace hF := q_biX hF chpσ_47
              exact q_retz E hr hlk hI ⟨by omega, by omega⟩ ⟨⟨by omega, by omega⟩, (by constructor <;> intro h9 <;> omega), (hF.trans hout), fr_σ_47⟩ dX11_pour_83
          · skip
            replace hF := q_ifn hF c_27
            refine lv_aload_n hx hb dX11_pour_65 rfl (lv_at hl 2 rfl) ?_
            refine lv_bipush (v := 11) hx hb dX11_pour_66 zkb_11 ?_
            have kc_48 : (11 : Int32).toInt = 11 := zt_11
            refine q_ci (q_rV10_1 (rest := []) E (hml.trans hl.1.symm) hI (c_X11_no l X σ a (11 : Int32) ha) kv_X11_89 ha ⟨Nat.le_of_ble_eq_true rfl, Nat.le_of_ble_eq_true rfl⟩ (Nat.le_of_ble_eq_true rfl) dX11_pour_68) hI (Nat.le_of_ble_eq_true rfl) (fun r_49 σ_50 H locs hpσ_50 hkσ_50 hI => ?_)
            have ahpσ_50 := hpσ_50.1
            have bhpσ_50 := hpσ_50.2.1
            have chpσ_50 := hpσ_50.2.2.1
            have dhpσ_50 := hpσ_50.2.2.2
            clear hpσ_50
            have fr_σ_50 := fr_σ.call dhpσ_50 rfl rfl
            replace hF := q_biX hF chpσ_50
            exact q_retz E hr hlk hI ⟨by omega, by omega⟩ ⟨⟨by omega, by omega⟩, (by constructor <;> intro h9 <;> omega), (hF.trans hout), fr_σ_50⟩ dX11_pour_71
        · skip
          replace hF := q_ifn hF c_24
          replace c_24 := q_ifOne bhpσ_23 c_24
          replace chpσ_23 := q_ifYes chpσ_23 c_24
          refine lv_aload_n hx hb dX11_pour_46 rfl (lv_at hl 2 rfl) ?_
          refine lv_iconst (v := 3) hx hb dX11_pour_47 zki_3 ?_
          have kc_51 : (3 : Int32).toInt = 3 := zt_3
          refine q_ci (q_rV10_1 (rest := []) E (hml.trans hl.1.symm) hI (c_X11_no l X σ a (3 : Int32) ha) kv_X11_89 ha ⟨Nat.le_of_ble_eq_true rfl, Nat.le_of_ble_eq_true rfl⟩ (Nat.le_of_ble_eq_true rfl) dX11_pour_48) hI (Nat.le_of_ble_eq_true rfl) (fun r_52 σ_53 H locs hpσ_53 hkσ_53 hI => ?_)
          have ahpσ_53 := hpσ_53.1
          have bhpσ_53 := hpσ_53.2.1
          have chpσ_53 := hpσ_53.2.2.1
          have dhpσ_53 := hpσ_53.2.2.2
          clear hpσ_53
          have fr_σ_53 := fr_σ.call dhpσ_53 rfl rfl
          replace hF := q_biX hF chpσ_53
          exact q_retz E hr hlk hI ⟨by omega, by omega⟩ ⟨⟨by omega, by omega⟩, (by constructor <;> intro h9 <;> omega), (hF.trans hout), fr_σ_53⟩ dX11_pour_51

set_option maxRecDepth 100000 in
set_option maxHeartbeats 4000000 in
theorem c_X11_tapeInt (l : Launch) (X : XW) (σ : ST) (a : Nat) (v1 : Int32) (ha : q_kd X a = 11) (h0 : (σ.1 a 5).toInt ≤ 896) : Met l yX11_tapeInt (q_ws yX11_tapeInt cX11_tapeInt 3 none) (q_rm 0 0) (q_P X σ [.ref a, .int v1]) (q_Qv X 0 σ (fun (σ' : ST) => (q_KS (fun b g => b = a ∧ g = 5) 8 X σ σ') ∧ ((σ'.1 a 5).toInt = (σ.1 a 5).toInt + 4) ∧ σ' = F_X11_tapeInt X σ a v1 ∧ q_ow [(11, 5), (22, 99)] [] X σ σ')) 0 0 (q_reg X) := by
  refine q_met 0 (by first | exact rfl | decide +kernel) rfl (Nat.le_of_ble_eq_true rfl) (fun p e s m below meth c E hml hr hlk hI ls hl => ?_)
  have hx := E.1
  have hb := E.2.1
  have hl : lv_has ls 3 [(0, .ref a), (1, .int v1)] := hl
  have ks_σ : q_KS (fun b g => b = a ∧ g = 5) 8 X σ σ := q_KS.rf
  have fr_σ : q_ow [(11, 5), (22, 99)] [] X σ σ := q_ow.rf
  obtain ⟨out, hout⟩ : ∃ o, o = F_X11_tapeInt X σ a v1 := ⟨_, rfl⟩
  have hF := hout.symm
  unfold F_X11_tapeInt at hF
  refine lv_bipush (v := 24) hx hb dX11_tapeInt_0 zkb_24 ?_
  refine lv_istore_n (lv' := [(2, .int 24), (0, .ref a), (1, .int v1)]) hx hb dX11_tapeInt_2 rfl hl (by decide) rfl (fun ls hl => ?_)
  have L_3_3 : ∀ (k_3 : Nat) (x_1 : Int32) (σ_2 : ST) (H : Heap) (locs : List Loc) (ls : Array Slot), (x_1.toInt + 2147483656).toNat < k_3 → (8 * ((σ_2.1 a 5).toInt - (σ.1 a 5).toInt) = 24 - x_1.toInt) → (-8 ≤ x_1.toInt) → (q_KS (fun b g => b = a ∧ g = 5) 8 X σ σ_2) → (q_ow [(11, 5), (22, 99)] [] X σ σ_2) → (F_X11_tapeInt_L3_1 X a v1 k_3 x_1 σ_2 = out) → q_I X 0 σ s.heap locs σ_2 H → lv_has ls 3 [(0, .ref a), (1, .int v1), (2, .int x_1)] → W p l e (q_rm 0 0) s m ([.ref a, .int v1] : List Value).toArray below meth c H locs 0 0 (MQ below (q_Qv X 0 σ (fun (σ' : ST) => (q_KS (fun b g => b = a ∧ g = 5) 8 X σ σ') ∧ ((σ'.1 a 5).toInt = (σ.1 a 5).toInt + 4) ∧ σ' = F_X11_tapeInt X σ a v1 ∧ q_ow [(11, 5), (22, 99)] [] X σ σ')) ([.ref a, .int v1] : List Value).toArray s 0 0 (q_reg X)) (F0 m 3 ls []) := by
    clear hF
    intro k_3
    induction k_3 with
    | zero =>
      intro x_1 σ_2 H locs ls hms
      exact absurd hms (Nat.not_lt_zero _)
    | succ k_3 ih3 =>
      intro x_1 σ_2 H locs ls hm3 hsh hs8 ks_σ_2 fr_σ_2 hF hI hl
      replace hF := (F_X11_tapeInt_L3_1_s).symm.trans hF
      unfold F_X11_tapeInt_B3_1 at hF
      refine lv_iload_n hx hb dX11_tapeInt_3 rfl (lv_at hl 2 rfl) ?_
      refine q_if_lt (A := x_1.toInt) E rfl (tgt := 53) dX11_tapeInt_4 (by decide) (fun c_4 => ?_) (fun c_4 => ?_)
      · skip
        replace hF := q_ifp hF c_4
        skip
        exact q_retv E hr hlk hI ⟨ks_σ_2, (by first | (clear h0 hm3; omega) | omega), (hF.trans hout), fr_σ_2⟩ dX11_tapeInt_53
      · skip
        replace hF := q_ifn hF (Int.not_lt.mpr c_4)
        refine lv_aload_n hx hb dX11_tapeInt_7 rfl (lv_at hl 0 rfl) ?_
        refine gs_X11_30_11 E hI ha dX11_tapeInt_8 ?_
        refine lv_topi (fun f_5 ef_5 => ?_)
        replace hF := q_letX hF ef_5
        have if_5 : f_5.toInt = (σ_2.1 a 5).toInt := congrArg Int32.toInt ef_5
        have bf_5 : 0 ≤ f_5.toInt ∧ f_5.toInt ≤ 900 := by rw [ef_5]; exact q_bd hI ha rfl
        refine q_if_lt (A := f_5.toInt) E rfl (tgt := 53) dX11_tapeInt_11 (by decide) (fun c_6 => ?_) (fun c_6 => ?_)
        · skip
          replace hF := q_ifp hF c_6
          exact absurd c_6 (by first | (clear h0 hm3 hsh hs8 c_4 if_5; omega) | omega)
        · skip
          replace hF := q_ifn hF (Int.not_lt.mpr c_6)
          refine lv_aload_n hx hb dX11_tapeInt_14 rfl (lv_at hl 0 rfl) ?_
          refine gs_X11_30_11 E hI ha dX11_tapeInt_15 ?_
          refine lv_topi (fun f_7 ef_7 => ?_)
          replace hF := q_letX hF ef_7
          have if_7 : f_7.toInt = (σ_2.1 a 5).toInt := congrArg Int32.toInt ef_7
          have bf_7 : 0 ≤ f_7.toInt ∧ f_7.toInt ≤ 900 := by rw [ef_7]; exact q_bd hI ha rfl
          refine lv_sipush (v := 900) hx hb dX11_tapeInt_18 zks_900 ?_
          have gc_8_f_7 := q_rng f_7
          refine q_icmp_ge (A := f_7.toInt) (B := 900) E rfl (by decide) (tgt := 53) dX11_tapeInt_21 (by decide) (fun c_8 => ?_) (fun c_8 => ?_)
          · skip
            replace hF := q_ifn hF (Int.not_lt.mpr c_8)
            exact absurd c_8 (by first | (clear h0 hm3 hs8 c_6 bf_7 gc_8_f_7; omega) | omega)
          · skip
            replace hF := q_ifp hF c_8
            refine lv_aload_n hx hb dX11_tapeInt_24 rfl (lv_at hl 0 rfl) ?_
            refine gs_X11_26_11 E hI ha dX11_tapeInt_25 ?_
            refine lv_aload_n hx hb dX11_tapeInt_28 rfl (lv_at hl 0 rfl) ?_
            refine gs_X11_30_11 E hI ha dX11_tapeInt_29 ?_
            refine lv_topi (fun f_9 ef_9 => ?_)
            replace hF := q_letX hF ef_9
            have if_9 : f_9.toInt = (σ_2.1 a 5).toInt := congrArg Int32.toInt ef_9
            have bf_9 : 0 ≤ f_9.toInt ∧ f_9.toInt ≤ 900 := by rw [ef_9]; exact q_bd hI ha rfl
            refine lv_iload_n hx hb dX11_tapeInt_32 rfl (lv_at hl 1 rfl) ?_
            refine lv_iload_n hx hb dX11_tapeInt_33 rfl (lv_at hl 2 rfl) ?_
            refine lv_ishr hx hb dX11_tapeInt_34 ?_
            refine lv_topi (fun z_10 ez_10 => ?_)
            replace hF := q_letX hF ez_10
            refine lv_i2b hx hb dX11_tapeInt_35 rfl ?_
            refine lv_topi (fun z_11 ez_11 => ?_)
            replace hF := q_letX hF ez_11
            refine q_bastN E hI (q_tk (k' := 22) hI ha rfl (Nat.succ_ne_zero _)) ⟨by decide, rfl⟩ (by first | (clear h0 hm3 hsh hs8 c_4 c_6 bf_7 gc_8_f_7 bf_9; omega) | omega) (by rw [q_ln11 hI ha]; omega) (show 0 < 9 by decide) rfl dX11_tapeInt_36 (fun H locs σ_12 hσ_12 hI => ?_)
            replace hF := q_letX hF hσ_12
            have fr_σ_12 := fr_σ_2.si hσ_12 (q_tk (k' := 22) hI ha rfl (Nat.succ_ne_zero _)) rfl
            have mv5_σ_12 : (σ_12.1 a 5).toInt = (σ_2.1 a 5).toInt := congrArg Int32.toInt ((hσ_12 ▸ (q_K.si (q_tk (k' := 22) hI ha rfl (Nat.succ_ne_zero _)) (show 8 < 9 by decide) : q_K 8 X σ_2 (q_si σ_2 (q_rf X a 4) (f_9 : Int32).toNatClampNeg _))) a 5 (by rw [ha]; decide))
            have ks_σ_12 : q_KS (fun b g => b = a ∧ g = 5) 8 X σ σ_12 := ks_σ_2.si hσ_12 (q_tk (k' := 22) hI ha rfl (Nat.succ_ne_zero _)) (show 8 < 9 by decide)
            refine lv_aload_n hx hb dX11_tapeInt_37 rfl (lv_at hl 0 rfl) ?_
            refine lv_dup hx hb dX11_tapeInt_38 rfl ?_
            refine gs_X11_30_11 E hI ha dX11_tapeInt_39 ?_
            refine lv_topi (fun f_13 ef_13 => ?_)
            replace hF := q_letX hF ef_13
            have if_13 : f_13.toInt = (σ_12.1 a 5).toInt := congrArg Int32.toInt ef_13
            have bf_13 : 0 ≤ f_13.toInt ∧ f_13.toInt ≤ 900 := by rw [ef_13]; exact q_bd hI ha rfl
            refine lv_iconst (v := 1) hx hb dX11_tapeInt_42 zki_1 ?_
            refine lv_iadd hx hb dX11_tapeInt_43 ?_
            refine lv_topi (fun z_14 ez_14 => ?_)
            replace hF := q_letX hF ez_14
            have iz_14 : z_14.toInt = f_13.toInt + 1 := q_inc ez_14 (by first | (clear h0 hm3 hsh hs8 c_4 c_6 bf_7 gc_8_f_7 bf_9 bf_13; omega) | omega)
            refine ps_X11_30_11 E hI ha (by decide) (by first | (clear h0 hm3 hsh hs8 c_4 c_6 bf_7 gc_8_f_7 bf_9 bf_13; omega) | omega) (by first | (clear h0 hm3 hsh hs8 c_4 c_6 bf_7 gc_8_f_7 bf_9 bf_13; omega) | omega) dX11_tapeInt_44 (fun H locs σ_15 hσ_15 hI => ?_)
            replace hF := q_letX hF hσ_15
            have fr_σ_15 := fr_σ_12.si hσ_15 ha rfl
            have ks_σ_15 : q_KS (fun b g => b = a ∧ g = 5) 8 X σ σ_15 := ks_σ_12.siS hσ_15 ⟨rfl, rfl⟩
            have mv5_σ_15 : (σ_15.1 a 5).toInt = z_14.toInt := congrArg Int32.toInt (q_rd hσ_15)
            obtain ⟨z_16, ez_16⟩ : ∃ y : Int32, y = x_1 + (-8) := ⟨_, rfl⟩
            replace hF := q_letX hF ez_16
            refine lv_iinc (v := z_16) (lv' := [(2, .int z_16), (0, .ref a), (1, .int v1)]) hx hb dX11_tapeInt_47 hl (k := 2) rfl (by rw [ez_16]; rfl) (by decide) rfl (fun ls hl => ?_)
            have iz_16 : z_16.toInt = x_1.toInt - 8 := by have h8 : ((-8) : Int32).toInt = -8 := rfl; have h9 := q_add ez_16 (by rw [h8]; omega) (by rw [h8]; omega); rw [h9, h8]; omega
            refine lv_goto (tgt := 3) hx hb dX11_tapeInt_50 (by decide) ?_
            exact ih3 z_16 σ_15 _ _ ls (by first | (clear h0 hs8 bf_5 c_6 bf_7 gc_8_f_7 c_8 bf_9 bf_13; omega) | omega) (by first | (clear h0 hm3 hs8 c_4 bf_5 c_6 bf_7 gc_8_f_7 c_8 bf_9 bf_13; omega) | omega) (by first | (clear h0 hm3 hs8 bf_5 c_6 bf_7 gc_8_f_7 c_8 bf_9 bf_13; omega) | omega) ks_σ_15 fr_σ_15 hF hI (lv_sub hl [1, 2, 0] rfl)
  exact L_3_3 (((24 : Int32).toInt + 2147483656).toNat + 1) 24 σ _ _ ls (Nat.lt_succ_self _) (by have h24 : (24 : Int32).toInt = 24 := rfl; omega) (by decide) ks_σ fr_σ hF hI (lv_sub hl [1, 2, 0] rfl)

set_option maxRecDepth 100000 in
set_option maxHeartbeats 4000000 in
theorem c_X11_feed (l : Launch) (X : XW) (σ : ST) (a : Nat) (v1 : Int32) (v2 : Int32) (v3 : Int32) (v4 : Int32) (v5 : Int32) (ha : q_kd X a = 11) : Met l yX11_feed (q_ws yX11_feed cX11_feed 6 (some .int)) (q_rm 1 22) (q_P X σ [.ref a, .int v1, .int v2, .int v3, .int v4, .int v5]) (q_Qi X 0 σ (fun (r : Int32) (σ' : ST) => (q_KS (fun b g => b = a ∧ g = 5) 8 X σ σ') ∧ ((σ.1 a 5).toInt + 20 > 900 → r.toInt = -1 ∧ (σ'.1 a 5).toInt = (σ.1 a 5).toInt) ∧ ((σ.1 a 5).toInt + 20 ≤ 900 → r.toInt = (σ.1 a 5).toInt + 20 ∧ (σ'.1 a 5).toInt = (σ.1 a 5).toInt + 20) ∧ (r, σ') = F_X11_feed X σ a v1 v2 v3 v4 v5 ∧ q_ow [(11, 5), (22, 99)] [] X σ σ')) 0 0 (q_reg X) := by
  refine q_met 0 (by first | exact rfl | decide +kernel) rfl (Nat.le_of_ble_eq_true rfl) (fun p e s m below meth c E hml hr hlk hI ls hl => ?_)
  have hx := E.1
  have hb := E.2.1
  have hl : lv_has ls 6 [(0, .ref a), (1, .int v1), (2, .int v2), (3, .int v3), (4, .int v4), (5, .int v5)] := hl
  have ks_σ : q_KS (fun b g => b = a ∧ g = 5) 8 X σ σ := q_KS.rf
  have fr_σ : q_ow [(11, 5), (22, 99)] [] X σ σ := q_ow.rf
  obtain ⟨out, hout⟩ : ∃ o, o = F_X11_feed X σ a v1 v2 v3 v4 v5 := ⟨_, rfl⟩
  have hF := hout.symm
  unfold F_X11_feed at hF
  refine lv_aload_n hx hb dX11_feed_0 rfl (lv_at hl 0 rfl) ?_
  refine gs_X11_30_11 E hI ha dX11_feed_1 ?_
  refine lv_topi (fun f_1 ef_1 => ?_)
  replace hF := q_letX hF ef_1
  have if_1 : f_1.toInt = (σ.1 a 5).toInt := congrArg Int32.toInt ef_1
  have bf_1 : 0 ≤ f_1.toInt ∧ f_1.toInt ≤ 900 := by rw [ef_1]; exact q_bd hI ha rfl
  refine lv_bipush (v := 20) hx hb dX11_feed_4 zkb_20 ?_
  refine lv_iadd hx hb dX11_feed_6 ?_
  refine lv_topi (fun z_2 ez_2 => ?_)
  replace hF := q_letX hF ez_2
  have kc_3 : (20 : Int32).toInt = 20 := zt_20
  have iz_2 := q_add ez_2 (by omega) (by omega)
  refine lv_sipush (v := 900) hx hb dX11_feed_7 zks_900 ?_
  refine q_icmp_le (A := z_2.toInt) (B := 900) E rfl (by decide) (tgt := 15) dX11_feed_10 (by decide) (fun c_4 => ?_) (fun c_4 => ?_)
  · skip
    replace hF := q_ifn hF (Int.not_lt.mpr c_4)
    refine lv_aload_n hx hb dX11_feed_15 rfl (lv_at hl 0 rfl) ?_
    refine lv_iload_n hx hb dX11_feed_16 rfl (lv_at hl 1 rfl) ?_
    refine q_cv (q_rV10_1 (rest := []) E (hml.trans hl.1.symm) hI (c_X11_tapeInt l X σ a v1 ha (by omega)) kv_X11_131 ha ⟨Nat.le_of_ble_eq_true rfl, Nat.le_of_ble_eq_true rfl⟩ (Nat.le_of_ble_eq_true rfl) dX11_feed_17) hI (Nat.le_of_ble_eq_true rfl) (fun σ_6 H locs hpσ_6 hkσ_6 hI => ?_)
    have ahpσ_6 := hpσ_6.1
    have bhpσ_6 := hpσ_6.2.1
    have chpσ_6 := hpσ_6.2.2.1
    have dhpσ_6 := hpσ_6.2.2.2
    clear hpσ_6
    have fr_σ_6 := fr_σ.call dhpσ_6 rfl rfl
    replace hF := q_letX hF chpσ_6
    have ks_σ_6 : q_KS (fun b g => b = a ∧ g = 5) 8 X σ σ_6 := ks_σ.KS ahpσ_6 (by decide) (fun _ _ h => h)
    refine lv_aload_n hx hb dX11_feed_20 rfl (lv_at hl 0 rfl) ?_
    refine lv_iload_n hx hb dX11_feed_21 rfl (lv_at hl 2 rfl) ?_
    refine q_cv (q_rV10_1 (rest := []) E (hml.trans hl.1.symm) hI (c_X11_tapeInt l X σ_6 a v2 ha (by first | (clear ahpσ_6 chpσ_6 dhpσ_6; omega) | omega)) kv_X11_131 ha ⟨Nat.le_of_ble_eq_true rfl, Nat.le_of_ble_eq_true rfl⟩ (Nat.le_of_ble_eq_true rfl) dX11_feed_22) hI (Nat.le_of_ble_eq_true rfl) (fun σ_8 H locs hpσ_8 hkσ_8 hI => ?_)
    have ahpσ_8 := hpσ_8.1
    have bhpσ_8 := hpσ_8.2.1
    have chpσ_8 := hpσ_8.2.2.1
    have dhpσ_8 := hpσ_8.2.2.2
    clear hpσ_8
    have fr_σ_8 := fr_σ_6.call dhpσ_8 rfl rfl
    replace hF := q_letX hF chpσ_8
    have ks_σ_8 : q_KS (fun b g => b = a ∧ g = 5) 8 X σ σ_8 := ks_σ_6.KS ahpσ_8 (by decide) (fun _ _ h => h)
    refine lv_aload_n hx hb dX11_feed_25 rfl (lv_at hl 0 rfl) ?_
    refine lv_iload_n hx hb dX11_feed_26 rfl (lv_at hl 3 rfl) ?_
    refine q_cv (q_rV10_1 (rest := []) E (hml.trans hl.1.symm) hI (c_X11_tapeInt l X σ_8 a v3 ha (by first | (clear ahpσ_6 chpσ_6 dhpσ_6 ahpσ_8 chpσ_8 dhpσ_8; omega) | omega)) kv_X11_131 ha ⟨Nat.le_of_ble_eq_true rfl, Nat.le_of_ble_eq_true rfl⟩ (Nat.le_of_ble_eq_true rfl) dX11_feed_27) hI (Nat.le_of_ble_eq_true rfl) (fun σ_10 H locs hpσ_10 hkσ_10 hI => ?_)
    have ahpσ_10 := hpσ_10.1
    have bhpσ_10 := hpσ_10.2.1
    have chpσ_10 := hpσ_10.2.2.1
    have dhpσ_10 := hpσ_10.2.2.2
    clear hpσ_10
    have fr_σ_10 := fr_σ_8.call dhpσ_10 rfl rfl
    replace hF := q_letX hF chpσ_10
    have ks_σ_10 : q_KS (fun b g => b = a ∧ g = 5) 8 X σ σ_10 := ks_σ_8.KS ahpσ_10 (by decide) (fun _ _ h => h)
    refine lv_aload_n hx hb dX11_feed_30 rfl (lv_at hl 0 rfl) ?_
    refine lv_iload hx hb dX11_feed_31 (lv_at hl 4 rfl) ?_
    refine q_cv (q_rV10_1 (rest := []) E (hml.trans hl.1.symm) hI (c_X11_tapeInt l X σ_10 a v4 ha (by first | (clear ahpσ_6 chpσ_6 dhpσ_6 ahpσ_8 chpσ_8 dhpσ_8 ahpσ_10 chpσ_10 dhpσ_10; omega) | omega)) kv_X11_131 ha ⟨Nat.le_of_ble_eq_true rfl, Nat.le_of_ble_eq_true rfl⟩ (Nat.le_of_ble_eq_true rfl) dX11_feed_33) hI (Nat.le_of_ble_eq_true rfl) (fun σ_12 H locs hpσ_12 hkσ_12 hI => ?_)
    have ahpσ_12 := hpσ_12.1
    have bhpσ_12 := hpσ_12.2.1
    have chpσ_12 := hpσ_12.2.2.1
    have dhpσ_12 := hpσ_12.2.2.2
    clear hpσ_12
    have fr_σ_12 := fr_σ_10.call dhpσ_12 rfl rfl
    replace hF := q_letX hF chpσ_12
    have ks_σ_12 : q_KS (fun b g => b = a ∧ g = 5) 8 X σ σ_12 := ks_σ_10.KS ahpσ_12 (by decide) (fun _ _ h => h)
    refine lv_aload_n hx hb dX11_feed_36 rfl (lv_at hl 0 rfl) ?_
    refine lv_iload hx hb dX11_feed_37 (lv_at hl 5 rfl) ?_
    refine q_cv (q_rV10_1 (rest := []) E (hml.trans hl.1.symm) hI (c_X11_tapeInt l X σ_12 a v5 ha (by first | (clear ahpσ_6 chpσ_6 dhpσ_6 ahpσ_8 chpσ_8 dhpσ_8 ahpσ_10 chpσ_10 dhpσ_10 ahpσ_12 chpσ_12 dhpσ_12; omega) | omega)) kv_X11_131 ha ⟨Nat.le_of_ble_eq_true rfl, Nat.le_of_ble_eq_true rfl⟩ (Nat.le_of_ble_eq_true rfl) dX11_feed_39) hI (Nat.le_of_ble_eq_true rfl) (fun σ_14 H locs hpσ_14 hkσ_14 hI => ?_)
    have ahpσ_14 := hpσ_14.1
    have bhpσ_14 := hpσ_14.2.1
    have chpσ_14 := hpσ_14.2.2.1
    have dhpσ_14 := hpσ_14.2.2.2
    clear hpσ_14
    have fr_σ_14 := fr_σ_12.call dhpσ_14 rfl rfl
    replace hF := q_letX hF chpσ_14
    have ks_σ_14 : q_KS (fun b g => b = a ∧ g = 5) 8 X σ σ_14 := ks_σ_12.KS ahpσ_14 (by decide) (fun _ _ h => h)
    refine lv_aload_n hx hb dX11_feed_42 rfl (lv_at hl 0 rfl) ?_
    refine gs_X11_30_11 E hI ha dX11_feed_43 ?_
    refine lv_topi (fun f_15 ef_15 => ?_)
    replace hF := q_letX hF ef_15
    have if_15 : f_15.toInt = (σ_14.1 a 5).toInt := congrArg Int32.toInt ef_15
    have bf_15 : 0 ≤ f_15.toInt ∧ f_15.toInt ≤ 900 := by rw [ef_15]; exact q_bd hI ha rfl
    exact q_reti E hr hlk hI ⟨ks_σ_14, (by first | (clear ahpσ_6 chpσ_6 dhpσ_6 ahpσ_8 chpσ_8 dhpσ_8 ahpσ_10 chpσ_10 dhpσ_10 ahpσ_12 chpσ_12 dhpσ_12 ahpσ_14 chpσ_14 dhpσ_14 bf_15; omega) | omega), (by first | (clear bf_1 c_4 ahpσ_6 chpσ_6 dhpσ_6 ahpσ_8 chpσ_8 dhpσ_8 ahpσ_10 chpσ_10 dhpσ_10 ahpσ_12 chpσ_12 dhpσ_12 ahpσ_14 chpσ_14 dhpσ_14 bf_15; omega) | omega), (hF.trans hout), fr_σ_14⟩ dX11_feed_46
  · skip
    replace hF := q_ifp hF c_4
    refine lv_iconst (v := (-1)) hx hb dX11_feed_13 zki_m1 ?_
    have hrv : ((-1) : Int32).toInt = (-1) := zt_m1
    exact q_reti E hr hlk hI ⟨ks_σ, (by first | (clear if_1 bf_1 kc_3 iz_2 c_4; omega) | omega), (by first | (clear hrv; omega) | omega), (hF.trans hout), fr_σ⟩ dX11_feed_14

set_option maxRecDepth 100000 in
set_option maxHeartbeats 4000000 in
theorem c_X11_endReading (l : Launch) (X : XW) (σ : ST) (a : Nat) (r1 : Nat) (ha : q_kd X a = 11) (hr1 : q_kd X r1 = 4 ∨ q_kd X r1 = 9) : Met l yX11_endReading (q_ws yX11_endReading cX11_endReading 2 none) (q_rm 0 0) (q_P X σ [.ref a, .ref r1]) (q_Qv X 0 σ (fun (σ' : ST) => (q_KS (fun b g => b = a ∧ g = 5) 8 X σ σ') ∧ ((σ'.1 a 5).toInt = 0) ∧ σ' = F_X11_endReading X σ a r1 ∧ q_ow [(11, 5), (11, 6), (11, 7)] [] X σ σ')) 0 0 (q_reg X) := by
  refine q_met 0 (by first | exact rfl | decide +kernel) rfl (Nat.le_of_ble_eq_true rfl) (fun p e s m below meth c E hml hr hlk hI ls hl => ?_)
  have hx := E.1
  have hb := E.2.1
  have hl : lv_has ls 2 [(0, .ref a), (1, .ref r1)] := hl
  have ks_σ : q_KS (fun b g => b = a ∧ g = 5) 8 X σ σ := q_KS.rf
  have fr_σ : q_ow [(11, 5), (11, 6), (11, 7)] [] X σ σ := q_ow.rf
  obtain ⟨out, hout⟩ : ∃ o, o = F_X11_endReading X σ a r1 := ⟨_, rfl⟩
  have hF := hout.symm
  unfold F_X11_endReading at hF
  refine lv_aload_n hx hb dX11_endReading_0 rfl (lv_at hl 0 rfl) ?_
  refine lv_iconst (v := 0) hx hb dX11_endReading_1 zki_0 ?_
  refine ps_X11_30_11 E hI ha (by decide) (by decide) (by decide) dX11_endReading_2 (fun H locs σ_1 hσ_1 hI => ?_)
  replace hF := q_letX hF hσ_1
  have fr_σ_1 := fr_σ.si hσ_1 ha rfl
  have ks_σ_1 : q_KS (fun b g => b = a ∧ g = 5) 8 X σ σ_1 := ks_σ.siS hσ_1 ⟨rfl, rfl⟩
  have mv5_σ_1 : (σ_1.1 a 5).toInt = (0 : Int32).toInt := congrArg Int32.toInt (q_rd hσ_1)
  refine lv_aload_n hx hb dX11_endReading_5 rfl (lv_at hl 0 rfl) ?_
  refine lv_aload_n hx hb dX11_endReading_6 rfl (lv_at hl 1 rfl) ?_
  refine gsr_X11_175 E hI hr1 dX11_endReading_7 ?_
  refine lv_topi (fun f_2 ef_2 => ?_)
  replace hF := q_letX hF ef_2
  refine ps_X11_33_11 E hI ha (by decide) dX11_endReading_10 (fun H locs σ_3 hσ_3 hI => ?_)
  replace hF := q_letX hF hσ_3
  have fr_σ_3 := fr_σ_1.si hσ_3 ha rfl
  have ks_σ_3 : q_KS (fun b g => b = a ∧ g = 5) 8 X σ σ_3 := ks_σ_1.si hσ_3 ha (show 8 < 9 by decide)
  have mv5_σ_3 : (σ_3.1 a 5).toInt = (σ_1.1 a 5).toInt := congrArg Int32.toInt (q_rdn hσ_3 (Or.inr (by decide)))
  refine lv_aload_n hx hb dX11_endReading_13 rfl (lv_at hl 0 rfl) ?_
  refine lv_aload_n hx hb dX11_endReading_14 rfl (lv_at hl 1 rfl) ?_
  refine gsr_X11_180 E hI hr1 dX11_endReading_15 ?_
  refine lv_topi (fun f_4 ef_4 => ?_)
  replace hF := q_letX hF ef_4
  refine ps_X11_36_11 E hI ha (by decide) dX11_endReading_18 (fun H locs σ_5 hσ_5 hI => ?_)
  replace hF := q_letX hF hσ_5
  have fr_σ_5 := fr_σ_3.si hσ_5 ha rfl
  have ks_σ_5 : q_KS (fun b g => b = a ∧ g = 5) 8 X σ σ_5 := ks_σ_3.si hσ_5 ha (show 8 < 9 by decide)
  have mv5_σ_5 : (σ_5.1 a 5).toInt = (σ_3.1 a 5).toInt := congrArg Int32.toInt (q_rdn hσ_5 (Or.inr (by decide)))
  exact q_retv E hr hlk hI ⟨ks_σ_5, (by have h0 : (0 : Int32).toInt = 0 := rfl; omega), (hF.trans hout), fr_σ_5⟩ dX11_endReading_21

set_option maxRecDepth 100000 in
set_option maxHeartbeats 4000000 in
theorem c_X11_good (l : Launch) (X : XW) (σ : ST) (a : Nat) (v1 : Int32) (ha : q_kd X a = 11) : Met l yX11_good (q_ws yX11_good cX11_good 2 (some .int)) (q_rm 0 0) (q_P X σ [.ref a, .int v1]) (q_Qi X 8 σ (fun (r : Int32) (σ' : ST) => (r.toInt = v1.toInt) ∧ (r, σ') = F_X11_good X σ a v1 ∧ q_ow [(11, 0)] [] X σ σ')) 0 0 (q_reg X) := by
  refine q_met 8 (by first | exact rfl | decide +kernel) rfl (Nat.le_of_ble_eq_true rfl) (fun p e s m below meth c E hml hr hlk hI ls hl => ?_)
  have hx := E.1
  have hb := E.2.1
  have hl : lv_has ls 2 [(0, .ref a), (1, .int v1)] := hl
  have fr_σ : q_ow [(11, 0)] [] X σ σ := q_ow.rf
  obtain ⟨out, hout⟩ : ∃ o, o = F_X11_good X σ a v1 := ⟨_, rfl⟩
  have hF := hout.symm
  unfold F_X11_good at hF
  refine lv_aload_n hx hb dX11_good_0 rfl (lv_at hl 0 rfl) ?_
  refine lv_iconst (v := 0) hx hb dX11_good_1 zki_0 ?_
  refine ps_X11_9_11 E hI ha (by decide) dX11_good_2 (fun H locs σ_1 hσ_1 hI => ?_)
  replace hF := q_letX hF hσ_1
  have fr_σ_1 := fr_σ.si hσ_1 ha rfl
  refine lv_iload_n hx hb dX11_good_5 rfl (lv_at hl 1 rfl) ?_
  exact q_reti E hr hlk hI ⟨rfl, (hF.trans hout), fr_σ_1⟩ dX11_good_6

set_option maxRecDepth 100000 in
set_option maxHeartbeats 4000000 in
theorem c_X11_table (l : Launch) (X : XW) (σ : ST) (a : Nat) (v1 : Int32) (ha : q_kd X a = 11) : Met l yX11_table (q_ws yX11_table cX11_table 3 (some .int)) (q_rm 10 217) (q_P X σ [.ref a, .int v1]) (q_Qi X 0 σ (fun (r : Int32) (σ' : ST) => (q_KS (fun b g => b = a ∧ g = 5) 8 X σ σ') ∧ ((v1.toInt < 0 ∨ (σ.1 a 5).toInt < v1.toInt) → (σ'.1 a 5).toInt = (σ.1 a 5).toInt) ∧ ((0 ≤ v1.toInt ∧ v1.toInt ≤ (σ.1 a 5).toInt) → (σ'.1 a 5).toInt = 0) ∧ (r, σ') = F_X11_table X σ a v1 ∧ q_ow [(1, 4), (1, 5), (1, 6), (1, 7), (3, 0), (3, 1), (4, 1), (4, 2), (4, 3), (4, 4), (4, 5), (4, 6), (4, 7), (6, 0), (6, 1), (6, 2), (6, 3), (6, 4), (8, 0), (8, 1), (8, 2), (9, 1), (9, 2), (9, 3), (9, 4), (9, 5), (9, 6), (9, 7), (9, 9), (9, 10), (11, 0), (11, 5), (11, 6), (11, 7), (20, 99)] [] X σ σ')) 0 0 (q_reg X) := by
  refine q_met 0 (by first | exact rfl | decide +kernel) rfl (Nat.le_of_ble_eq_true rfl) (fun p e s m below meth c E hml hr hlk hI ls hl => ?_)
  have hx := E.1
  have hb := E.2.1
  have hl : lv_has ls 3 [(0, .ref a), (1, .int v1)] := hl
  have ks_σ : q_KS (fun b g => b = a ∧ g = 5) 8 X σ σ := q_KS.rf
  have fr_σ : q_ow [(1, 4), (1, 5), (1, 6), (1, 7), (3, 0), (3, 1), (4, 1), (4, 2), (4, 3), (4, 4), (4, 5), (4, 6), (4, 7), (6, 0), (6, 1), (6, 2), (6, 3), (6, 4), (8, 0), (8, 1), (8, 2), (9, 1), (9, 2), (9, 3), (9, 4), (9, 5), (9, 6), (9, 7), (9, 9), (9, 10), (11, 0), (11, 5), (11, 6), (11, 7), (20, 99)] [] X σ σ := q_ow.rf
  obtain ⟨out, hout⟩ : ∃ o, o = F_X11_table X σ a v1 := ⟨_, rfl⟩
  have hF := hout.symm
  unfold F_X11_table at hF
  refine lv_iload_n hx hb dX11_table_0 rfl (lv_at hl 1 rfl) ?_
  refine q_if_lt (A := v1.toInt) E rfl (tgt := 12) dX11_table_1 (by decide) (fun c_1 => ?_) (fun c_1 => ?_)
  · skip
    replace hF := q_ifp hF c_1
    refine lv_aload_n hx hb dX11_table_12 rfl (lv_at hl 0 rfl) ?_
    refine lv_iconst (v := 5) hx hb dX11_table_13 zki_5 ?_
    have kc_2 : (5 : Int32).toInt = 5 := zt_5
    refine q_ci (q_rV10_1 (rest := []) E (hml.trans hl.1.symm) hI (c_X11_none l X σ a (5 : Int32) ha) kv_X11_109 ha ⟨Nat.le_of_ble_eq_true rfl, Nat.le_of_ble_eq_true rfl⟩ (Nat.le_of_ble_eq_true rfl) dX11_table_14) hI (Nat.le_of_ble_eq_true rfl) (fun r_3 σ_4 H locs hpσ_4 hkσ_4 hI => ?_)
    have ahpσ_4 := hpσ_4.1
    have bhpσ_4 := hpσ_4.2.1
    have chpσ_4 := hpσ_4.2.2
    clear hpσ_4
    have fr_σ_4 := fr_σ.call chpσ_4 rfl rfl
    replace hF := q_biX hF bhpσ_4
    have mv5_σ_4 : (σ_4.1 a 5).toInt = (σ.1 a 5).toInt := congrArg Int32.toInt ((q_K.le hkσ_4 (by decide) : q_K 8 X σ σ_4) a 5 (by rw [ha]; decide))
    have ks_σ_4 : q_KS (fun b g => b = a ∧ g = 5) 8 X σ σ_4 := ks_σ.K hkσ_4 (by decide)
    exact q_reti E hr hlk hI ⟨ks_σ_4, (by first | (clear c_1 kc_2 ahpσ_4 bhpσ_4 chpσ_4; omega) | omega), (by first | (clear kc_2 ahpσ_4 bhpσ_4 chpσ_4 mv5_σ_4; omega) | omega), (hF.trans hout), fr_σ_4⟩ dX11_table_17
  · skip
    replace hF := q_ifn hF (Int.not_lt.mpr c_1)
    refine lv_iload_n hx hb dX11_table_4 rfl (lv_at hl 1 rfl) ?_
    refine lv_aload_n hx hb dX11_table_5 rfl (lv_at hl 0 rfl) ?_
    refine gs_X11_30_11 E hI ha dX11_table_6 ?_
    refine lv_topi (fun f_5 ef_5 => ?_)
    replace hF := q_letX hF ef_5
    have if_5 : f_5.toInt = (σ.1 a 5).toInt := congrArg Int32.toInt ef_5
    have bf_5 : 0 ≤ f_5.toInt ∧ f_5.toInt ≤ 900 := by rw [ef_5]; exact q_bd hI ha rfl
    refine q_icmp_le (A := v1.toInt) (B := f_5.toInt) E rfl rfl (tgt := 18) dX11_table_9 (by decide) (fun c_6 => ?_) (fun c_6 => ?_)
    · skip
      replace hF := q_ifn hF (Int.not_lt.mpr c_6)
      refine lv_aload_n hx hb dX11_table_18 rfl (lv_at hl 0 rfl) ?_
      refine gs_X11_59_11 E hI ha dX11_table_19 ?_
      refine lv_aload_n hx hb dX11_table_22 rfl (lv_at hl 0 rfl) ?_
      refine gs_X11_26_11 E hI ha dX11_table_23 ?_
      refine lv_iload_n hx hb dX11_table_26 rfl (lv_at hl 1 rfl) ?_
      refine q_ci (q_rV8_2 (rest := []) E (hml.trans hl.1.symm) hI (c_X9_takes l X σ (q_rf X a 12) (q_rf X a 4) v1 (q_tk (k' := 9) hI ha rfl (Nat.succ_ne_zero _)) (q_tk (k' := 22) hI ha rfl (Nat.succ_ne_zero _))) kv_X11_135 (q_tk (k' := 9) hI ha rfl (Nat.succ_ne_zero _)) ⟨Nat.le_of_ble_eq_true rfl, Nat.le_of_ble_eq_true rfl⟩ (Nat.le_of_ble_eq_true rfl) dX11_table_27) hI (Nat.le_of_ble_eq_true rfl) (fun r_7 σ_8 H locs hpσ_8 hkσ_8 hI => ?_)
      have ahpσ_8 := hpσ_8.1
      have bhpσ_8 := hpσ_8.2.1
      have chpσ_8 := hpσ_8.2.2
      clear hpσ_8
      have fr_σ_8 := fr_σ.call chpσ_8 rfl rfl
      replace hF := q_biX hF bhpσ_8
      have mv5_σ_8 : (σ_8.1 a 5).toInt = (σ.1 a 5).toInt := congrArg Int32.toInt ((q_K.le hkσ_8 (by decide) : q_K 8 X σ σ_8) a 5 (by rw [ha]; decide))
      have ks_σ_8 : q_KS (fun b g => b = a ∧ g = 5) 8 X σ σ_8 := ks_σ.K hkσ_8 (by decide)
      refine lv_istore_n (lv' := [(2, .int r_7), (0, .ref a), (1, .int v1)]) hx hb dX11_table_30 rfl hl (by decide) rfl (fun ls hl => ?_)
      refine lv_aload_n hx hb dX11_table_31 rfl (lv_at hl 1 rfl) ?_
      refine lv_aload_n hx hb dX11_table_32 rfl (lv_at hl 1 rfl) ?_
      refine gs_X11_59_11 E hI ha dX11_table_33 ?_
      refine q_cv (q_rV10_1 (rest := []) E (hml.trans hl.1.symm) hI (c_X11_endReading l X σ_8 a (q_rf X a 12) ha (Or.inr (q_tk (k' := 9) hI ha rfl (Nat.succ_ne_zero _)))) kv_X11_139 ha ⟨Nat.le_of_ble_eq_true rfl, Nat.le_of_ble_eq_true rfl⟩ (Nat.le_of_ble_eq_true rfl) dX11_table_36) hI (Nat.le_of_ble_eq_true rfl) (fun σ_10 H locs hpσ_10 hkσ_10 hI => ?_)
      have ahpσ_10 := hpσ_10.1
      have bhpσ_10 := hpσ_10.2.1
      have chpσ_10 := hpσ_10.2.2.1
      have dhpσ_10 := hpσ_10.2.2.2
      clear hpσ_10
      have fr_σ_10 := fr_σ_8.call dhpσ_10 rfl rfl
      replace hF := q_letX hF chpσ_10
      have ks_σ_10 : q_KS (fun b g => b = a ∧ g = 5) 8 X σ σ_10 := ks_σ_8.KS ahpσ_10 (by decide) (fun _ _ h => h)
      refine lv_iload_n hx hb dX11_table_39 rfl (lv_at hl 0 rfl) ?_
      refine q_if_ne (A := r_7.toInt) E rfl (tgt := 50) dX11_table_40 (by decide) (fun c_11 => ?_) (fun c_11 => ?_)
      · skip
        replace hF := q_ifn hF c_11
        replace c_11 := q_ifOne ahpσ_8 c_11
        refine lv_aload_n hx hb dX11_table_50 rfl (lv_at hl 1 rfl) ?_
        refine gs_X11_42_11 E hI ha dX11_table_51 ?_
        refine lv_aload_n hx hb dX11_table_54 rfl (lv_at hl 1 rfl) ?_
        refine gs_X11_59_11 E hI ha dX11_table_55 ?_
        refine gs_X11_143_9 E hI (q_tk (k' := 9) hI ha rfl (Nat.succ_ne_zero _)) dX11_table_58 ?_
        refine q_cv (q_rV0_1 (rest := []) E (hml.trans hl.1.symm) hI (c_X0_copyFrom l X σ_10 (q_rf X a 8) (q_rf X (q_rf X a 12) 8) (q_tk (k' := 1) hI ha rfl (Nat.succ_ne_zero _)) (q_tk (k' := 1) hI (q_tk (k' := 9) hI ha rfl (Nat.succ_ne_zero _)) rfl (Nat.succ_ne_zero _))) kv_X11_144 (q_tk (k' := 1) hI ha rfl (Nat.succ_ne_zero _)) ⟨Nat.le_of_ble_eq_true rfl, Nat.le_of_ble_eq_true rfl⟩ (Nat.le_of_ble_eq_true rfl) dX11_table_61) hI (Nat.le_of_ble_eq_true rfl) (fun σ_13 H locs hpσ_13 hkσ_13 hI => ?_)
        have ahpσ_13 := hpσ_13.1
        have bhpσ_13 := hpσ_13.2
        clear hpσ_13
        have fr_σ_13 := fr_σ_10.call bhpσ_13 rfl rfl
        replace hF := q_letX hF ahpσ_13
        have mv5_σ_13 : (σ_13.1 a 5).toInt = (σ_10.1 a 5).toInt := congrArg Int32.toInt ((q_K.le hkσ_13 (by decide) : q_K 8 X σ_10 σ_13) a 5 (by rw [ha]; decide))
        have ks_σ_13 : q_KS (fun b g => b = a ∧ g = 5) 8 X σ σ_13 := ks_σ_10.K hkσ_13 (by decide)
        refine lv_aload_n hx hb dX11_table_64 rfl (lv_at hl 1 rfl) ?_
        refine lv_aload_n hx hb dX11_table_65 rfl (lv_at hl 1 rfl) ?_
        refine gs_X11_42_11 E hI ha dX11_table_66 ?_
        refine gs_X11_147_1 E hI (q_tk (k' := 1) hI ha rfl (Nat.succ_ne_zero _)) dX11_table_69 ?_
        refine gs_X11_151_6 E hI (q_tk (k' := 6) hI (q_tk (k' := 1) hI ha rfl (Nat.succ_ne_zero _)) rfl (Nat.succ_ne_zero _)) dX11_table_72 ?_
        refine lv_topi (fun f_14 ef_14 => ?_)
        replace hF := q_letX hF ef_14
        have if_14 : f_14.toInt = (σ_13.1 (q_rf X (q_rf X a 8) 0) 4).toInt := congrArg Int32.toInt ef_14
        refine q_ci (q_rV10_1 (rest := []) E (hml.trans hl.1.symm) hI (c_X11_good l X σ_13 a f_14 ha) kv_X11_156 ha ⟨Nat.le_of_ble_eq_true rfl, Nat.le_of_ble_eq_true rfl⟩ (Nat.le_of_ble_eq_true rfl) dX11_table_75) hI (Nat.le_of_ble_eq_true rfl) (fun r_15 σ_16 H locs hpσ_16 hkσ_16 hI => ?_)
        have ahpσ_16 := hpσ_16.1
        have bhpσ_16 := hpσ_16.2.1
        have chpσ_16 := hpσ_16.2.2
        clear hpσ_16
        have fr_σ_16 := fr_σ_13.call chpσ_16 rfl rfl
        replace hF := q_biX hF bhpσ_16
        have mv5_σ_16 : (σ_16.1 a 5).toInt = (σ_13.1 a 5).toInt := congrArg Int32.toInt ((q_K.le hkσ_16 (by decide) : q_K 8 X σ_13 σ_16) a 5 (by rw [ha]; decide))
        have ks_σ_16 : q_KS (fun b g => b = a ∧ g = 5) 8 X σ σ_16 := ks_σ_13.K hkσ_16 (by decide)
        exact q_reti E hr hlk hI ⟨ks_σ_16, (by first | (clear ahpσ_8 bhpσ_8 chpσ_8 ahpσ_10 chpσ_10 dhpσ_10 c_11 ahpσ_13 bhpσ_13 if_14 ahpσ_16 bhpσ_16 chpσ_16; omega) | omega), (by first | (clear c_1 if_5 bf_5 c_6 ahpσ_8 bhpσ_8 chpσ_8 mv5_σ_8 ahpσ_10 chpσ_10 dhpσ_10 c_11 ahpσ_13 bhpσ_13 if_14 ahpσ_16 bhpσ_16 chpσ_16; omega) | omega), (hF.trans hout), fr_σ_16⟩ dX11_table_78
      · skip
        replace hF := q_ifp hF c_11
        refine lv_aload_n hx hb dX11_table_43 rfl (lv_at hl 1 rfl) ?_
        refine lv_bipush (v := 10) hx hb dX11_table_44 zkb_10 ?_
        have kc_17 : (10 : Int32).toInt = 10 := zt_10
        refine q_ci (q_rV10_1 (rest := []) E (hml.trans hl.1.symm) hI (c_X11_none l X σ_10 a (10 : Int32) ha) kv_X11_109 ha ⟨Nat.le_of_ble_eq_true rfl, Nat.le_of_ble_eq_true rfl⟩ (Nat.le_of_ble_eq_true rfl) dX11_table_46) hI (Nat.le_of_ble_eq_true rfl) (fun r_18 σ_19 H locs hpσ_19 hkσ_19 hI => ?_)
        have ahpσ_19 := hpσ_19.1
        have bhpσ_19 := hpσ_19.2.1
        have chpσ_19 := hpσ_19.2.2
        clear hpσ_19
        have fr_σ_19 := fr_σ_10.call chpσ_19 rfl rfl
        replace hF := q_biX hF bhpσ_19
        have mv5_σ_19 : (σ_19.1 a 5).toInt = (σ_10.1 a 5).toInt := congrArg Int32.toInt ((q_K.le hkσ_19 (by decide) : q_K 8 X σ_10 σ_19) a 5 (by rw [ha]; decide))
        have ks_σ_19 : q_KS (fun b g => b = a ∧ g = 5) 8 X σ σ_19 := ks_σ_10.K hkσ_19 (by decide)
        exact q_reti E hr hlk hI ⟨ks_σ_19, (by first | (clear ahpσ_8 bhpσ_8 chpσ_8 ahpσ_10 chpσ_10 dhpσ_10 c_11 kc_17 ahpσ_19 bhpσ_19 chpσ_19; omega) | omega), (by first | (clear c_1 if_5 bf_5 c_6 ahpσ_8 bhpσ_8 chpσ_8 mv5_σ_8 ahpσ_10 chpσ_10 dhpσ_10 c_11 kc_17 ahpσ_19 bhpσ_19 chpσ_19; omega) | omega), (hF.trans hout), fr_σ_19⟩ dX11_table_49
    · skip
      replace hF := q_ifp hF c_6
      refine lv_aload_n hx hb dX11_table_12 rfl (lv_at hl 0 rfl) ?_
      refine lv_iconst (v := 5) hx hb dX11_table_13 zki_5 ?_
      have kc_20 : (5 : Int32).toInt = 5 := zt_5
      refine q_ci (q_rV10_1 (rest := []) E (hml.trans hl.1.symm) hI (c_X11_none l X σ a (5 : Int32) ha) kv_X11_109 ha ⟨Nat.le_of_ble_eq_true rfl, Nat.le_of_ble_eq_true rfl⟩ (Nat.le_of_ble_eq_true rfl) dX11_table_14) hI (Nat.le_of_ble_eq_true rfl) (fun r_21 σ_22 H locs hpσ_22 hkσ_22 hI => ?_)
      have ahpσ_22 := hpσ_22.1
      have bhpσ_22 := hpσ_22.2.1
      have chpσ_22 := hpσ_22.2.2
      clear hpσ_22
      have fr_σ_22 := fr_σ.call chpσ_22 rfl rfl
      replace hF := q_biX hF bhpσ_22
      have mv5_σ_22 : (σ_22.1 a 5).toInt = (σ.1 a 5).toInt := congrArg Int32.toInt ((q_K.le hkσ_22 (by decide) : q_K 8 X σ σ_22) a 5 (by rw [ha]; decide))
      have ks_σ_22 : q_KS (fun b g => b = a ∧ g = 5) 8 X σ σ_22 := ks_σ.K hkσ_22 (by decide)
      exact q_reti E hr hlk hI ⟨ks_σ_22, (by first | (clear c_1 if_5 bf_5 c_6 kc_20 ahpσ_22 bhpσ_22 chpσ_22; omega) | omega), (by first | (clear c_1 bf_5 kc_20 ahpσ_22 bhpσ_22 chpσ_22; omega) | omega), (hF.trans hout), fr_σ_22⟩ dX11_table_17

set_option maxRecDepth 100000 in
set_option maxHeartbeats 4000000 in
theorem c_X11_round (l : Launch) (X : XW) (σ : ST) (a : Nat) (v1 : Int32) (ha : q_kd X a = 11) : Met l yX11_round (q_ws yX11_round cX11_round 3 (some .int)) (q_rm 10 224) (q_P X σ [.ref a, .int v1]) (q_Qi X 0 σ (fun (r : Int32) (σ' : ST) => (q_KS (fun b g => b = a ∧ g = 5) 8 X σ σ') ∧ ((v1.toInt < 0 ∨ (σ.1 a 5).toInt < v1.toInt ∨ 300 < v1.toInt) → (σ'.1 a 5).toInt = (σ.1 a 5).toInt) ∧ ((0 ≤ v1.toInt ∧ v1.toInt ≤ (σ.1 a 5).toInt ∧ v1.toInt ≤ 300) → (σ'.1 a 5).toInt = 0) ∧ (r, σ') = F_X11_round X σ a v1 ∧ q_ow [(4, 1), (4, 2), (4, 3), (4, 4), (4, 5), (4, 6), (4, 7), (4, 10), (8, 0), (8, 1), (8, 2), (9, 1), (9, 2), (9, 3), (9, 4), (9, 5), (9, 6), (9, 7), (11, 0), (11, 5), (11, 6), (11, 7), (20, 99)] [] X σ σ')) 0 0 (q_reg X) := by
  refine q_met 0 (by first | exact rfl | decide +kernel) rfl (Nat.le_of_ble_eq_true rfl) (fun p e s m below meth c E hml hr hlk hI ls hl => ?_)
  have hx := E.1
  have hb := E.2.1
  have hl : lv_has ls 3 [(0, .ref a), (1, .int v1)] := hl
  have ks_σ : q_KS (fun b g => b = a ∧ g = 5) 8 X σ σ := q_KS.rf
  have fr_σ : q_ow [(4, 1), (4, 2), (4, 3), (4, 4), (4, 5), (4, 6), (4, 7), (4, 10), (8, 0), (8, 1), (8, 2), (9, 1), (9, 2), (9, 3), (9, 4), (9, 5), (9, 6), (9, 7), (11, 0), (11, 5), (11, 6), (11, 7), (20, 99)] [] X σ σ := q_ow.rf
  obtain ⟨out, hout⟩ : ∃ o, o = F_X11_round X σ a v1 := ⟨_, rfl⟩
  have hF := hout.symm
  unfold F_X11_round at hF
  refine lv_iload_n hx hb dX11_round_0 rfl (lv_at hl 1 rfl) ?_
  refine q_if_lt (A := v1.toInt) E rfl (tgt := 19) dX11_round_1 (by decide) (fun c_1 => ?_) (fun c_1 => ?_)
  · skip
    replace hF := q_ifp hF c_1
    refine lv_aload_n hx hb dX11_round_19 rfl (lv_at hl 0 rfl) ?_
    refine lv_iconst (v := 5) hx hb dX11_round_20 zki_5 ?_
    have kc_2 : (5 : Int32).toInt = 5 := zt_5
    refine q_ci (q_rV10_1 (rest := []) E (hml.trans hl.1.symm) hI (c_X11_none l X σ a (5 : Int32) ha) kv_X11_109 ha ⟨Nat.le_of_ble_eq_true rfl, Nat.le_of_ble_eq_true rfl⟩ (Nat.le_of_ble_eq_true rfl) dX11_round_21) hI (Nat.le_of_ble_eq_true rfl) (fun r_3 σ_4 H locs hpσ_4 hkσ_4 hI => ?_)
    have ahpσ_4 := hpσ_4.1
    have bhpσ_4 := hpσ_4.2.1
    have chpσ_4 := hpσ_4.2.2
    clear hpσ_4
    have fr_σ_4 := fr_σ.call chpσ_4 rfl rfl
    replace hF := q_biX hF bhpσ_4
    have mv5_σ_4 : (σ_4.1 a 5).toInt = (σ.1 a 5).toInt := congrArg Int32.toInt ((q_K.le hkσ_4 (by decide) : q_K 8 X σ σ_4) a 5 (by rw [ha]; decide))
    have ks_σ_4 : q_KS (fun b g => b = a ∧ g = 5) 8 X σ σ_4 := ks_σ.K hkσ_4 (by decide)
    exact q_reti E hr hlk hI ⟨ks_σ_4, (by omega), (by first | (clear kc_2 ahpσ_4 bhpσ_4 chpσ_4 mv5_σ_4; omega) | omega), (hF.trans hout), fr_σ_4⟩ dX11_round_24
  · skip
    replace hF := q_ifn hF (Int.not_lt.mpr c_1)
    refine lv_iload_n hx hb dX11_round_4 rfl (lv_at hl 1 rfl) ?_
    refine lv_aload_n hx hb dX11_round_5 rfl (lv_at hl 0 rfl) ?_
    refine gs_X11_30_11 E hI ha dX11_round_6 ?_
    refine lv_topi (fun f_5 ef_5 => ?_)
    replace hF := q_letX hF ef_5
    have if_5 : f_5.toInt = (σ.1 a 5).toInt := congrArg Int32.toInt ef_5
    have bf_5 : 0 ≤ f_5.toInt ∧ f_5.toInt ≤ 900 := by rw [ef_5]; exact q_bd hI ha rfl
    refine q_icmp_gt (A := v1.toInt) (B := f_5.toInt) E rfl rfl (tgt := 19) dX11_round_9 (by decide) (fun c_6 => ?_) (fun c_6 => ?_)
    · skip
      replace hF := q_ifp hF c_6
      refine lv_aload_n hx hb dX11_round_19 rfl (lv_at hl 0 rfl) ?_
      refine lv_iconst (v := 5) hx hb dX11_round_20 zki_5 ?_
      have kc_7 : (5 : Int32).toInt = 5 := zt_5
      refine q_ci (q_rV10_1 (rest := []) E (hml.trans hl.1.symm) hI (c_X11_none l X σ a (5 : Int32) ha) kv_X11_109 ha ⟨Nat.le_of_ble_eq_true rfl, Nat.le_of_ble_eq_true rfl⟩ (Nat.le_of_ble_eq_true rfl) dX11_round_21) hI (Nat.le_of_ble_eq_true rfl) (fun r_8 σ_9 H locs hpσ_9 hkσ_9 hI => ?_)
      have ahpσ_9 := hpσ_9.1
      have bhpσ_9 := hpσ_9.2.1
      have chpσ_9 := hpσ_9.2.2
      clear hpσ_9
      have fr_σ_9 := fr_σ.call chpσ_9 rfl rfl
      replace hF := q_biX hF bhpσ_9
      have mv5_σ_9 : (σ_9.1 a 5).toInt = (σ.1 a 5).toInt := congrArg Int32.toInt ((q_K.le hkσ_9 (by decide) : q_K 8 X σ σ_9) a 5 (by rw [ha]; decide))
      have ks_σ_9 : q_KS (fun b g => b = a ∧ g = 5) 8 X σ σ_9 := ks_σ.K hkσ_9 (by decide)
      exact q_reti E hr hlk hI ⟨ks_σ_9, (by omega), (by first | (clear c_1 bf_5 kc_7 ahpσ_9 bhpσ_9 chpσ_9; omega) | omega), (hF.trans hout), fr_σ_9⟩ dX11_round_24
    · skip
      replace hF := q_ifn hF (Int.not_lt.mpr c_6)
      refine lv_iload_n hx hb dX11_round_12 rfl (lv_at hl 1 rfl) ?_
      refine lv_sipush (v := 300) hx hb dX11_round_13 zks_300 ?_
      refine q_icmp_le (A := v1.toInt) (B := 300) E rfl (by decide) (tgt := 25) dX11_round_16 (by decide) (fun c_10 => ?_) (fun c_10 => ?_)
      · skip
        replace hF := q_ifn hF (Int.not_lt.mpr c_10)
        refine lv_aload_n hx hb dX11_round_25 rfl (lv_at hl 0 rfl) ?_
        refine gs_X11_66_11 E hI ha dX11_round_26 ?_
        refine lv_aload_n hx hb dX11_round_29 rfl (lv_at hl 0 rfl) ?_
        refine gs_X11_26_11 E hI ha dX11_round_30 ?_
        refine lv_iload_n hx hb dX11_round_33 rfl (lv_at hl 1 rfl) ?_
        refine lv_aload_n hx hb dX11_round_34 rfl (lv_at hl 0 rfl) ?_
        refine gs_X11_42_11 E hI ha dX11_round_35 ?_
        refine gs_X11_147_1 E hI (q_tk (k' := 1) hI ha rfl (Nat.succ_ne_zero _)) dX11_round_38 ?_
        refine q_ci (q_rV3_3 (rest := []) E (hml.trans hl.1.symm) hI (c_X4_takes l X σ (q_rf X a 13) (q_rf X a 4) v1 (q_rf X (q_rf X a 8) 0) (q_tk (k' := 4) hI ha rfl (Nat.succ_ne_zero _)) (q_tk (k' := 22) hI ha rfl (Nat.succ_ne_zero _)) (q_tk (k' := 6) hI (q_tk (k' := 1) hI ha rfl (Nat.succ_ne_zero _)) rfl (Nat.succ_ne_zero _))) kv_X11_159 (q_tk (k' := 4) hI ha rfl (Nat.succ_ne_zero _)) ⟨Nat.le_of_ble_eq_true rfl, Nat.le_of_ble_eq_true rfl⟩ (Nat.le_of_ble_eq_true rfl) dX11_round_41) hI (Nat.le_of_ble_eq_true rfl) (fun r_11 σ_12 H locs hpσ_12 hkσ_12 hI => ?_)
        have ahpσ_12 := hpσ_12.1
        have bhpσ_12 := hpσ_12.2.1
        have chpσ_12 := hpσ_12.2.2
        clear hpσ_12
        have fr_σ_12 := fr_σ.call chpσ_12 rfl rfl
        replace hF := q_biX hF bhpσ_12
        have mv5_σ_12 : (σ_12.1 a 5).toInt = (σ.1 a 5).toInt := congrArg Int32.toInt ((q_K.le hkσ_12 (by decide) : q_K 8 X σ σ_12) a 5 (by rw [ha]; decide))
        have ks_σ_12 : q_KS (fun b g => b = a ∧ g = 5) 8 X σ σ_12 := ks_σ.K hkσ_12 (by decide)
        refine lv_istore_n (lv' := [(2, .int r_11), (0, .ref a), (1, .int v1)]) hx hb dX11_round_44 rfl hl (by decide) rfl (fun ls hl => ?_)
        refine lv_aload_n hx hb dX11_round_45 rfl (lv_at hl 1 rfl) ?_
        refine lv_aload_n hx hb dX11_round_46 rfl (lv_at hl 1 rfl) ?_
        refine gs_X11_66_11 E hI ha dX11_round_47 ?_
        refine q_cv (q_rV10_1 (rest := []) E (hml.trans hl.1.symm) hI (c_X11_endReading l X σ_12 a (q_rf X a 13) ha (Or.inl (q_tk (k' := 4) hI ha rfl (Nat.succ_ne_zero _)))) kv_X11_139 ha ⟨Nat.le_of_ble_eq_true rfl, Nat.le_of_ble_eq_true rfl⟩ (Nat.le_of_ble_eq_true rfl) dX11_round_50) hI (Nat.le_of_ble_eq_true rfl) (fun σ_14 H locs hpσ_14 hkσ_14 hI => ?_)
        have ahpσ_14 := hpσ_14.1
        have bhpσ_14 := hpσ_14.2.1
        have chpσ_14 := hpσ_14.2.2.1
        have dhpσ_14 := hpσ_14.2.2.2
        clear hpσ_14
        have fr_σ_14 := fr_σ_12.call dhpσ_14 rfl rfl
        replace hF := q_letX hF chpσ_14
        have ks_σ_14 : q_KS (fun b g => b = a ∧ g = 5) 8 X σ σ_14 := ks_σ_12.KS ahpσ_14 (by decide) (fun _ _ h => h)
        refine lv_iload_n hx hb dX11_round_53 rfl (lv_at hl 0 rfl) ?_
        refine q_if_ne (A := r_11.toInt) E rfl (tgt := 64) dX11_round_54 (by decide) (fun c_15 => ?_) (fun c_15 => ?_)
        · skip
          replace hF := q_ifn hF c_15
          replace c_15 := q_ifOne ahpσ_12 c_15
          refine lv_aload_n hx hb dX11_round_64 rfl (lv_at hl 1 rfl) ?_
          refine gs_X11_42_11 E hI ha dX11_round_65 ?_
          refine gs_X11_162_1 E hI (q_tk (k' := 1) hI ha rfl (Nat.succ_ne_zero _)) dX11_round_68 ?_
          refine lv_aload_n hx hb dX11_round_71 rfl (lv_at hl 1 rfl) ?_
          refine gs_X11_66_11 E hI ha dX11_round_72 ?_
          refine gs_X11_166_4 E hI (q_tk (k' := 4) hI ha rfl (Nat.succ_ne_zero _)) dX11_round_75 ?_
          refine q_cv (q_rV7_1 (rest := []) E (hml.trans hl.1.symm) hI (c_X8_copyFrom l X σ_14 (q_rf X (q_rf X a 8) 3) (q_rf X (q_rf X a 13) 8) (q_tk (k' := 8) hI (q_tk (k' := 1) hI ha rfl (Nat.succ_ne_zero _)) rfl (Nat.succ_ne_zero _)) (q_tk (k' := 8) hI (q_tk (k' := 4) hI ha rfl (Nat.succ_ne_zero _)) rfl (Nat.succ_ne_zero _))) kv_X11_167 (q_tk (k' := 8) hI (q_tk (k' := 1) hI ha rfl (Nat.succ_ne_zero _)) rfl (Nat.succ_ne_zero _)) ⟨Nat.le_of_ble_eq_true rfl, Nat.le_of_ble_eq_true rfl⟩ (Nat.le_of_ble_eq_true rfl) dX11_round_78) hI (Nat.le_of_ble_eq_true rfl) (fun σ_17 H locs hpσ_17 hkσ_17 hI => ?_)
          have ahpσ_17 := hpσ_17.1
          have bhpσ_17 := hpσ_17.2
          clear hpσ_17
          have fr_σ_17 := fr_σ_14.call bhpσ_17 rfl rfl
          replace hF := q_letX hF ahpσ_17
          have mv5_σ_17 : (σ_17.1 a 5).toInt = (σ_14.1 a 5).toInt := congrArg Int32.toInt ((q_K.le hkσ_17 (by decide) : q_K 8 X σ_14 σ_17) a 5 (by rw [ha]; decide))
          have ks_σ_17 : q_KS (fun b g => b = a ∧ g = 5) 8 X σ σ_17 := ks_σ_14.K hkσ_17 (by decide)
          refine lv_aload_n hx hb dX11_round_81 rfl (lv_at hl 1 rfl) ?_
          refine lv_aload_n hx hb dX11_round_82 rfl (lv_at hl 1 rfl) ?_
          refine gs_X11_42_11 E hI ha dX11_round_83 ?_
          refine gs_X11_162_1 E hI (q_tk (k' := 1) hI ha rfl (Nat.succ_ne_zero _)) dX11_round_86 ?_
          refine gs_X11_172_8 E hI (q_tk (k' := 8) hI (q_tk (k' := 1) hI ha rfl (Nat.succ_ne_zero _)) rfl (Nat.succ_ne_zero _)) dX11_round_89 ?_
          refine lv_topi (fun f_18 ef_18 => ?_)
          replace hF := q_letX hF ef_18
          have if_18 : f_18.toInt = (σ_17.1 (q_rf X (q_rf X a 8) 3) 1).toInt := congrArg Int32.toInt ef_18
          refine q_ci (q_rV10_1 (rest := []) E (hml.trans hl.1.symm) hI (c_X11_good l X σ_17 a f_18 ha) kv_X11_156 ha ⟨Nat.le_of_ble_eq_true rfl, Nat.le_of_ble_eq_true rfl⟩ (Nat.le_of_ble_eq_true rfl) dX11_round_92) hI (Nat.le_of_ble_eq_true rfl) (fun r_19 σ_20 H locs hpσ_20 hkσ_20 hI => ?_)
          have ahpσ_20 := hpσ_20.1
          have bhpσ_20 := hpσ_20.2.1
          have chpσ_20 := hpσ_20.2.2
          clear hpσ_20
          have fr_σ_20 := fr_σ_17.call chpσ_20 rfl rfl
          replace hF := q_biX hF bhpσ_20
          have mv5_σ_20 : (σ_20.1 a 5).toInt = (σ_17.1 a 5).toInt := congrArg Int32.toInt ((q_K.le hkσ_20 (by decide) : q_K 8 X σ_17 σ_20) a 5 (by rw [ha]; decide))
          have ks_σ_20 : q_KS (fun b g => b = a ∧ g = 5) 8 X σ σ_20 := ks_σ_17.K hkσ_20 (by decide)
          exact q_reti E hr hlk hI ⟨ks_σ_20, (by first | (clear ahpσ_12 bhpσ_12 chpσ_12 ahpσ_14 chpσ_14 dhpσ_14 c_15 ahpσ_17 bhpσ_17 if_18 ahpσ_20 bhpσ_20 chpσ_20; omega) | omega), (by omega), (hF.trans hout), fr_σ_20⟩ dX11_round_95
        · skip
          replace hF := q_ifp hF c_15
          refine lv_aload_n hx hb dX11_round_57 rfl (lv_at hl 1 rfl) ?_
          refine lv_bipush (v := 10) hx hb dX11_round_58 zkb_10 ?_
          have kc_21 : (10 : Int32).toInt = 10 := zt_10
          refine q_ci (q_rV10_1 (rest := []) E (hml.trans hl.1.symm) hI (c_X11_none l X σ_14 a (10 : Int32) ha) kv_X11_109 ha ⟨Nat.le_of_ble_eq_true rfl, Nat.le_of_ble_eq_true rfl⟩ (Nat.le_of_ble_eq_true rfl) dX11_round_60) hI (Nat.le_of_ble_eq_true rfl) (fun r_22 σ_23 H locs hpσ_23 hkσ_23 hI => ?_)
          have ahpσ_23 := hpσ_23.1
          have bhpσ_23 := hpσ_23.2.1
          have chpσ_23 := hpσ_23.2.2
          clear hpσ_23
          have fr_σ_23 := fr_σ_14.call chpσ_23 rfl rfl
          replace hF := q_biX hF bhpσ_23
          have mv5_σ_23 : (σ_23.1 a 5).toInt = (σ_14.1 a 5).toInt := congrArg Int32.toInt ((q_K.le hkσ_23 (by decide) : q_K 8 X σ_14 σ_23) a 5 (by rw [ha]; decide))
          have ks_σ_23 : q_KS (fun b g => b = a ∧ g = 5) 8 X σ σ_23 := ks_σ_14.K hkσ_23 (by decide)
          exact q_reti E hr hlk hI ⟨ks_σ_23, (by first | (clear ahpσ_12 bhpσ_12 chpσ_12 ahpσ_14 chpσ_14 dhpσ_14 c_15 kc_21 ahpσ_23 bhpσ_23 chpσ_23; omega) | omega), (by omega), (hF.trans hout), fr_σ_23⟩ dX11_round_63
      · skip
        replace hF := q_ifp hF c_10
        refine lv_aload_n hx hb dX11_round_19 rfl (lv_at hl 0 rfl) ?_
        refine lv_iconst (v := 5) hx hb dX11_round_20 zki_5 ?_
        have kc_24 : (5 : Int32).toInt = 5 := zt_5
        refine q_ci (q_rV10_1 (rest := []) E (hml.trans hl.1.symm) hI (c_X11_none l X σ a (5 : Int32) ha) kv_X11_109 ha ⟨Nat.le_of_ble_eq_true rfl, Nat.le_of_ble_eq_true rfl⟩ (Nat.le_of_ble_eq_true rfl) dX11_round_21) hI (Nat.le_of_ble_eq_true rfl) (fun r_25 σ_26 H locs hpσ_26 hkσ_26 hI => ?_)
        have ahpσ_26 := hpσ_26.1
        have bhpσ_26 := hpσ_26.2.1
        have chpσ_26 := hpσ_26.2.2
        clear hpσ_26
        have fr_σ_26 := fr_σ.call chpσ_26 rfl rfl
        replace hF := q_biX hF bhpσ_26
        have mv5_σ_26 : (σ_26.1 a 5).toInt = (σ.1 a 5).toInt := congrArg Int32.toInt ((q_K.le hkσ_26 (by decide) : q_K 8 X σ σ_26) a 5 (by rw [ha]; decide))
        have ks_σ_26 : q_KS (fun b g => b = a ∧ g = 5) 8 X σ σ_26 := ks_σ.K hkσ_26 (by decide)
        exact q_reti E hr hlk hI ⟨ks_σ_26, (by omega), (by first | (clear c_1 if_5 bf_5 c_6 kc_24 ahpσ_26 bhpσ_26 chpσ_26 mv5_σ_26; omega) | omega), (hF.trans hout), fr_σ_26⟩ dX11_round_24

set_option maxRecDepth 100000 in
set_option maxHeartbeats 4000000 in
theorem c_X11_fault (l : Launch) (X : XW) (σ : ST) (a : Nat) (v1 : Int32) (ha : q_kd X a = 11) : Met l yX11_fault (q_ws yX11_fault cX11_fault 2 (some .int)) (q_rm 0 0) (q_P X σ [.ref a, .int v1]) (q_Qi X 9 σ (fun (r : Int32) (σ' : ST) => σ' = σ ∧ r = F_X11_fault X σ a v1)) 0 0 (q_reg X) := by
  refine q_met 9 (by first | exact rfl | decide +kernel) rfl (Nat.le_of_ble_eq_true rfl) (fun p e s m below meth c E hml hr hlk hI ls hl => ?_)
  have hx := E.1
  have hb := E.2.1
  have hl : lv_has ls 2 [(0, .ref a), (1, .int v1)] := hl
  obtain ⟨out, hout⟩ : ∃ o, o = F_X11_fault X σ a v1 := ⟨_, rfl⟩
  have hF := hout.symm
  unfold F_X11_fault at hF
  refine lv_iload_n hx hb dX11_fault_0 rfl (lv_at hl 1 rfl) ?_
  refine q_if_ne (A := v1.toInt) E rfl (tgt := 9) dX11_fault_1 (by decide) (fun c_1 => ?_) (fun c_1 => ?_)
  · skip
    replace hF := q_ifn hF c_1
    refine lv_iload_n hx hb dX11_fault_9 rfl (lv_at hl 1 rfl) ?_
    refine lv_iconst (v := 1) hx hb dX11_fault_10 zki_1 ?_
    refine q_icmp_ne (A := v1.toInt) (B := 1) E rfl (by decide) (tgt := 21) dX11_fault_11 (by decide) (fun c_2 => ?_) (fun c_2 => ?_)
    · skip
      replace hF := q_ifn hF c_2
      refine lv_iconst (v := (-1)) hx hb dX11_fault_21 zki_m1 ?_
      exact q_reti E hr hlk hI ⟨rfl, (hF.trans hout)⟩ dX11_fault_22
    · skip
      replace hF := q_ifp hF c_2
      refine lv_aload_n hx hb dX11_fault_14 rfl (lv_at hl 0 rfl) ?_
      refine gs_X11_36_11 E hI ha dX11_fault_15 ?_
      refine lv_topi (fun f_3 ef_3 => ?_)
      replace hF := q_letX hF ef_3
      refine lv_goto (tgt := 22) hx hb dX11_fault_18 (by decide) ?_
      exact q_reti E hr hlk hI ⟨rfl, (hF.trans hout)⟩ dX11_fault_22
  · skip
    replace hF := q_ifp hF c_1
    refine lv_aload_n hx hb dX11_fault_4 rfl (lv_at hl 0 rfl) ?_
    refine gs_X11_33_11 E hI ha dX11_fault_5 ?_
    refine lv_topi (fun f_4 ef_4 => ?_)
    replace hF := q_letX hF ef_4
    exact q_reti E hr hlk hI ⟨rfl, (hF.trans hout)⟩ dX11_fault_8

set_option maxRecDepth 100000 in
set_option maxHeartbeats 4000000 in
theorem c_X11_many (l : Launch) (X : XW) (σ : ST) (a : Nat) (v1 : Int32) (ha : q_kd X a = 11) : Met l yX11_many (q_ws yX11_many cX11_many 3 (some .int)) (q_rm 1 21) (q_P X σ [.ref a, .int v1]) (q_Qi X 8 σ (fun (r : Int32) (σ' : ST) => (r, σ') = F_X11_many X σ a v1 ∧ q_ow [(11, 0)] [] X σ σ')) 0 0 (q_reg X) := by
  refine q_met 8 (by first | exact rfl | decide +kernel) rfl (Nat.le_of_ble_eq_true rfl) (fun p e s m below meth c E hml hr hlk hI ls hl => ?_)
  have hx := E.1
  have hb := E.2.1
  have hl : lv_has ls 3 [(0, .ref a), (1, .int v1)] := hl
  have fr_σ : q_ow [(11, 0)] [] X σ σ := q_ow.rf
  obtain ⟨out, hout⟩ : ∃ o, o = F_X11_many X σ a v1 := ⟨_, rfl⟩
  have hF := hout.symm
  unfold F_X11_many at hF
  refine lv_aload_n hx hb dX11_many_0 rfl (lv_at hl 0 rfl) ?_
  refine gs_X11_42_11 E hI ha dX11_many_1 ?_
  refine gs_X11_147_1 E hI (q_tk (k' := 1) hI ha rfl (Nat.succ_ne_zero _)) dX11_many_4 ?_
  refine lv_astore_n (lv' := [(2, .ref (q_rf X (q_rf X a 8) 0)), (0, .ref a), (1, .int v1)]) hx hb dX11_many_7 rfl hl (by decide) rfl (fun ls hl => ?_)
  refine lv_iload_n hx hb dX11_many_8 rfl (lv_at hl 2 rfl) ?_
  by_cases c_1 : v1.toInt = 0
  · refine lv_tableIn (off := 59) (tgt := 68) hx hb dX11_many_9 (by omega) (by omega) (by rw [c_1]; rfl) (by decide) ?_
    replace hF := q_ifp hF c_1
    refine lv_aload_n hx hb dX11_many_68 rfl (lv_at hl 1 rfl) ?_
    refine lv_aload_n hx hb dX11_many_69 rfl (lv_at hl 0 rfl) ?_
    refine gs_X11_183_6 E hI (q_tk (k' := 6) hI (q_tk (k' := 1) hI ha rfl (Nat.succ_ne_zero _)) rfl (Nat.succ_ne_zero _)) dX11_many_70 ?_
    refine lv_topi (fun f_2 ef_2 => ?_)
    replace hF := q_letX hF ef_2
    have bf_2 : -2147483648 ≤ f_2.toInt ∧ f_2.toInt ≤ 10 := by rw [ef_2]; exact q_bd hI (q_tk (k' := 6) hI (q_tk (k' := 1) hI ha rfl (Nat.succ_ne_zero _)) rfl (Nat.succ_ne_zero _)) rfl
    refine q_ci (q_rV10_1 (rest := []) E (hml.trans hl.1.symm) hI (c_X11_good l X σ a f_2 ha) kv_X11_156 ha ⟨Nat.le_of_ble_eq_true rfl, Nat.le_of_ble_eq_true rfl⟩ (Nat.le_of_ble_eq_true rfl) dX11_many_73) hI (Nat.le_of_ble_eq_true rfl) (fun r_3 σ_4 H locs hpσ_4 hkσ_4 hI => ?_)
    have ahpσ_4 := hpσ_4.1
    have bhpσ_4 := hpσ_4.2.1
    have chpσ_4 := hpσ_4.2.2
    clear hpσ_4
    have fr_σ_4 := fr_σ.call chpσ_4 rfl rfl
    replace hF := q_biX hF bhpσ_4
    exact q_reti E hr hlk hI ⟨(hF.trans hout), fr_σ_4⟩ dX11_many_76
  replace hF := q_ifn hF c_1
  by_cases c_5 : v1.toInt = 1
  · refine lv_tableIn (off := 68) (tgt := 77) hx hb dX11_many_9 (by omega) (by omega) (by rw [c_5]; rfl) (by decide) ?_
    replace hF := q_ifp hF c_5
    refine lv_aload_n hx hb dX11_many_77 rfl (lv_at hl 1 rfl) ?_
    refine lv_aload_n hx hb dX11_many_78 rfl (lv_at hl 0 rfl) ?_
    refine gs_X11_186_6 E hI (q_tk (k' := 6) hI (q_tk (k' := 1) hI ha rfl (Nat.succ_ne_zero _)) rfl (Nat.succ_ne_zero _)) dX11_many_79 ?_
    refine lv_topi (fun f_6 ef_6 => ?_)
    replace hF := q_letX hF ef_6
    refine q_ci (q_rV10_1 (rest := []) E (hml.trans hl.1.symm) hI (c_X11_good l X σ a f_6 ha) kv_X11_156 ha ⟨Nat.le_of_ble_eq_true rfl, Nat.le_of_ble_eq_true rfl⟩ (Nat.le_of_ble_eq_true rfl) dX11_many_82) hI (Nat.le_of_ble_eq_true rfl) (fun r_7 σ_8 H locs hpσ_8 hkσ_8 hI => ?_)
    have ahpσ_8 := hpσ_8.1
    have bhpσ_8 := hpσ_8.2.1
    have chpσ_8 := hpσ_8.2.2
    clear hpσ_8
    have fr_σ_8 := fr_σ.call chpσ_8 rfl rfl
    replace hF := q_biX hF bhpσ_8
    exact q_reti E hr hlk hI ⟨(hF.trans hout), fr_σ_8⟩ dX11_many_85
  replace hF := q_ifn hF c_5
  by_cases c_9 : v1.toInt = 2
  · refine lv_tableIn (off := 77) (tgt := 86) hx hb dX11_many_9 (by omega) (by omega) (by rw [c_9]; rfl) (by decide) ?_
    replace hF := q_ifp hF c_9
    refine lv_aload_n hx hb dX11_many_86 rfl (lv_at hl 1 rfl) ?_
    refine lv_aload_n hx hb dX11_many_87 rfl (lv_at hl 0 rfl) ?_
    refine gs_X11_151_6 E hI (q_tk (k' := 6) hI (q_tk (k' := 1) hI ha rfl (Nat.succ_ne_zero _)) rfl (Nat.succ_ne_zero _)) dX11_many_88 ?_
    refine lv_topi (fun f_10 ef_10 => ?_)
    replace hF := q_letX hF ef_10
    refine q_ci (q_rV10_1 (rest := []) E (hml.trans hl.1.symm) hI (c_X11_good l X σ a f_10 ha) kv_X11_156 ha ⟨Nat.le_of_ble_eq_true rfl, Nat.le_of_ble_eq_true rfl⟩ (Nat.le_of_ble_eq_true rfl) dX11_many_91) hI (Nat.le_of_ble_eq_true rfl) (fun r_11 σ_12 H locs hpσ_12 hkσ_12 hI => ?_)
    have ahpσ_12 := hpσ_12.1
    have bhpσ_12 := hpσ_12.2.1
    have chpσ_12 := hpσ_12.2.2
    clear hpσ_12
    have fr_σ_12 := fr_σ.call chpσ_12 rfl rfl
    replace hF := q_biX hF bhpσ_12
    exact q_reti E hr hlk hI ⟨(hF.trans hout), fr_σ_12⟩ dX11_many_94
  replace hF := q_ifn hF c_9
  by_cases c_13 : v1.toInt = 3
  · refine lv_tableIn (off := 86) (tgt := 95) hx hb dX11_many_9 (by omega) (by omega) (by rw [c_13]; rfl) (by decide) ?_
    replace hF := q_ifp hF c_13
    refine lv_aload_n hx hb dX11_many_95 rfl (lv_at hl 1 rfl) ?_
    refine lv_aload_n hx hb dX11_many_96 rfl (lv_at hl 0 rfl) ?_
    refine gs_X11_189_6 E hI (q_tk (k' := 6) hI (q_tk (k' := 1) hI ha rfl (Nat.succ_ne_zero _)) rfl (Nat.succ_ne_zero _)) dX11_many_97 ?_
    refine lv_topi (fun f_14 ef_14 => ?_)
    replace hF := q_letX hF ef_14
    refine q_ci (q_rV10_1 (rest := []) E (hml.trans hl.1.symm) hI (c_X11_good l X σ a f_14 ha) kv_X11_156 ha ⟨Nat.le_of_ble_eq_true rfl, Nat.le_of_ble_eq_true rfl⟩ (Nat.le_of_ble_eq_true rfl) dX11_many_100) hI (Nat.le_of_ble_eq_true rfl) (fun r_15 σ_16 H locs hpσ_16 hkσ_16 hI => ?_)
    have ahpσ_16 := hpσ_16.1
    have bhpσ_16 := hpσ_16.2.1
    have chpσ_16 := hpσ_16.2.2
    clear hpσ_16
    have fr_σ_16 := fr_σ.call chpσ_16 rfl rfl
    replace hF := q_biX hF bhpσ_16
    exact q_reti E hr hlk hI ⟨(hF.trans hout), fr_σ_16⟩ dX11_many_103
  replace hF := q_ifn hF c_13
  by_cases c_17 : v1.toInt = 4
  · refine lv_tableIn (off := 95) (tgt := 104) hx hb dX11_many_9 (by omega) (by omega) (by rw [c_17]; rfl) (by decide) ?_
    replace hF := q_ifp hF c_17
    refine lv_aload_n hx hb dX11_many_104 rfl (lv_at hl 1 rfl) ?_
    refine lv_aload_n hx hb dX11_many_105 rfl (lv_at hl 0 rfl) ?_
    refine gs_X11_192_6 E hI (q_tk (k' := 6) hI (q_tk (k' := 1) hI ha rfl (Nat.succ_ne_zero _)) rfl (Nat.succ_ne_zero _)) dX11_many_106 ?_
    refine lv_topi (fun f_18 ef_18 => ?_)
    replace hF := q_letX hF ef_18
    have bf_18 : -2147483648 ≤ f_18.toInt ∧ f_18.toInt ≤ 4 := by rw [ef_18]; exact q_bd hI (q_tk (k' := 6) hI (q_tk (k' := 1) hI ha rfl (Nat.succ_ne_zero _)) rfl (Nat.succ_ne_zero _)) rfl
    refine q_ci (q_rV10_1 (rest := []) E (hml.trans hl.1.symm) hI (c_X11_good l X σ a f_18 ha) kv_X11_156 ha ⟨Nat.le_of_ble_eq_true rfl, Nat.le_of_ble_eq_true rfl⟩ (Nat.le_of_ble_eq_true rfl) dX11_many_109) hI (Nat.le_of_ble_eq_true rfl) (fun r_19 σ_20 H locs hpσ_20 hkσ_20 hI => ?_)
    have ahpσ_20 := hpσ_20.1
    have bhpσ_20 := hpσ_20.2.1
    have chpσ_20 := hpσ_20.2.2
    clear hpσ_20
    have fr_σ_20 := fr_σ.call chpσ_20 rfl rfl
    replace hF := q_biX hF bhpσ_20
    exact q_reti E hr hlk hI ⟨(hF.trans hout), fr_σ_20⟩ dX11_many_112
  replace hF := q_ifn hF c_17
  by_cases c_21 : v1.toInt = 5
  · refine lv_tableIn (off := 104) (tgt := 113) hx hb dX11_many_9 (by omega) (by omega) (by rw [c_21]; rfl) (by decide) ?_
    replace hF := q_ifp hF c_21
    refine lv_aload_n hx hb dX11_many_113 rfl (lv_at hl 1 rfl) ?_
    refine lv_aload_n hx hb dX11_many_114 rfl (lv_at hl 1 rfl) ?_
    refine gs_X11_42_11 E hI ha dX11_many_115 ?_
    refine gs_X11_195_1 E hI (q_tk (k' := 1) hI ha rfl (Nat.succ_ne_zero _)) dX11_many_118 ?_
    refine lv_topi (fun f_22 ef_22 => ?_)
    replace hF := q_letX hF ef_22
    refine q_ci (q_rV10_1 (rest := []) E (hml.trans hl.1.symm) hI (c_X11_good l X σ a f_22 ha) kv_X11_156 ha ⟨Nat.le_of_ble_eq_true rfl, Nat.le_of_ble_eq_true rfl⟩ (Nat.le_of_ble_eq_true rfl) dX11_many_121) hI (Nat.le_of_ble_eq_true rfl) (fun r_23 σ_24 H locs hpσ_24 hkσ_24 hI => ?_)
    have ahpσ_24 := hpσ_24.1
    have bhpσ_24 := hpσ_24.2.1
    have chpσ_24 := hpσ_24.2.2
    clear hpσ_24
    have fr_σ_24 := fr_σ.call chpσ_24 rfl rfl
    replace hF := q_biX hF bhpσ_24
    exact q_reti E hr hlk hI ⟨(hF.trans hout), fr_σ_24⟩ dX11_many_124
  replace hF := q_ifn hF c_21
  by_cases c_25 : v1.toInt = 6
  · refine lv_tableIn (off := 116) (tgt := 125) hx hb dX11_many_9 (by omega) (by omega) (by rw [c_25]; rfl) (by decide) ?_
    replace hF := q_ifp hF c_25
    refine lv_aload_n hx hb dX11_many_125 rfl (lv_at hl 0 rfl) ?_
    refine gs_X11_151_6 E hI (q_tk (k' := 6) hI (q_tk (k' := 1) hI ha rfl (Nat.succ_ne_zero _)) rfl (Nat.succ_ne_zero _)) dX11_many_126 ?_
    refine lv_topi (fun f_26 ef_26 => ?_)
    replace hF := q_letX hF ef_26
    refine q_if_ne (A := f_26.toInt) E rfl (tgt := 141) dX11_many_129 (by decide) (fun c_27 => ?_) (fun c_27 => ?_)
    · skip
      replace hF := q_ifn hF c_27
      refine lv_aload_n hx hb dX11_many_141 rfl (lv_at hl 1 rfl) ?_
      refine lv_aload_n hx hb dX11_many_142 rfl (lv_at hl 1 rfl) ?_
      refine gs_X11_42_11 E hI ha dX11_many_143 ?_
      refine gs_X11_198_1 E hI (q_tk (k' := 1) hI ha rfl (Nat.succ_ne_zero _)) dX11_many_146 ?_
      refine lv_topi (fun f_28 ef_28 => ?_)
      replace hF := q_letX hF ef_28
      refine q_ci (q_rV10_1 (rest := []) E (hml.trans hl.1.symm) hI (c_X11_good l X σ a f_28 ha) kv_X11_156 ha ⟨Nat.le_of_ble_eq_true rfl, Nat.le_of_ble_eq_true rfl⟩ (Nat.le_of_ble_eq_true rfl) dX11_many_149) hI (Nat.le_of_ble_eq_true rfl) (fun r_29 σ_30 H locs hpσ_30 hkσ_30 hI => ?_)
      have ahpσ_30 := hpσ_30.1
      have bhpσ_30 := hpσ_30.2.1
      have chpσ_30 := hpσ_30.2.2
      clear hpσ_30
      have fr_σ_30 := fr_σ.call chpσ_30 rfl rfl
      replace hF := q_biX hF bhpσ_30
      exact q_reti E hr hlk hI ⟨(hF.trans hout), fr_σ_30⟩ dX11_many_152
    · skip
      replace hF := q_ifp hF c_27
      refine lv_aload_n hx hb dX11_many_132 rfl (lv_at hl 1 rfl) ?_
      refine lv_bipush (v := 8) hx hb dX11_many_133 zkb_8 ?_
      have kc_31 : (8 : Int32).toInt = 8 := zt_8
      refine q_ci (q_rV10_1 (rest := []) E (hml.trans hl.1.symm) hI (c_X11_none l X σ a (8 : Int32) ha) kv_X11_109 ha ⟨Nat.le_of_ble_eq_true rfl, Nat.le_of_ble_eq_true rfl⟩ (Nat.le_of_ble_eq_true rfl) dX11_many_135) hI (Nat.le_of_ble_eq_true rfl) (fun r_32 σ_33 H locs hpσ_33 hkσ_33 hI => ?_)
      have ahpσ_33 := hpσ_33.1
      have bhpσ_33 := hpσ_33.2.1
      have chpσ_33 := hpσ_33.2.2
      clear hpσ_33
      have fr_σ_33 := fr_σ.call chpσ_33 rfl rfl
      replace hF := q_biX hF bhpσ_33
      refine lv_goto (tgt := 152) hx hb dX11_many_138 (by decide) ?_
      exact q_reti E hr hlk hI ⟨(hF.trans hout), fr_σ_33⟩ dX11_many_152
  replace hF := q_ifn hF c_25
  by_cases c_34 : v1.toInt = 7
  · refine lv_tableIn (off := 144) (tgt := 153) hx hb dX11_many_9 (by omega) (by omega) (by rw [c_34]; rfl) (by decide) ?_
    replace hF := q_ifp hF c_34
    refine lv_aload_n hx hb dX11_many_153 rfl (lv_at hl 1 rfl) ?_
    refine lv_aload_n hx hb dX11_many_154 rfl (lv_at hl 1 rfl) ?_
    refine gs_X11_42_11 E hI ha dX11_many_155 ?_
    refine gs_X11_201_1 E hI (q_tk (k' := 1) hI ha rfl (Nat.succ_ne_zero _)) dX11_many_158 ?_
    refine gs_X11_205_3 E hI (q_tk (k' := 3) hI (q_tk (k' := 1) hI ha rfl (Nat.succ_ne_zero _)) rfl (Nat.succ_ne_zero _)) dX11_many_161 ?_
    refine lv_topi (fun f_35 ef_35 => ?_)
    replace hF := q_letX hF ef_35
    refine q_ci (q_rV10_1 (rest := []) E (hml.trans hl.1.symm) hI (c_X11_good l X σ a f_35 ha) kv_X11_156 ha ⟨Nat.le_of_ble_eq_true rfl, Nat.le_of_ble_eq_true rfl⟩ (Nat.le_of_ble_eq_true rfl) dX11_many_164) hI (Nat.le_of_ble_eq_true rfl) (fun r_36 σ_37 H locs hpσ_37 hkσ_37 hI => ?_)
    have ahpσ_37 := hpσ_37.1
    have bhpσ_37 := hpσ_37.2.1
    have chpσ_37 := hpσ_37.2.2
    clear hpσ_37
    have fr_σ_37 := fr_σ.call chpσ_37 rfl rfl
    replace hF := q_biX hF bhpσ_37
    exact q_reti E hr hlk hI ⟨(hF.trans hout), fr_σ_37⟩ dX11_many_167
  replace hF := q_ifn hF c_34
  by_cases c_38 : v1.toInt = 8
  · refine lv_tableIn (off := 159) (tgt := 168) hx hb dX11_many_9 (by omega) (by omega) (by rw [c_38]; rfl) (by decide) ?_
    replace hF := q_ifp hF c_38
    refine lv_aload_n hx hb dX11_many_168 rfl (lv_at hl 1 rfl) ?_
    refine lv_aload_n hx hb dX11_many_169 rfl (lv_at hl 1 rfl) ?_
    refine gs_X11_42_11 E hI ha dX11_many_170 ?_
    refine gs_X11_210_1 E hI (q_tk (k' := 1) hI ha rfl (Nat.succ_ne_zero _)) dX11_many_173 ?_
    refine lv_topi (fun f_39 ef_39 => ?_)
    replace hF := q_letX hF ef_39
    have bf_39 : 0 ≤ f_39.toInt ∧ f_39.toInt ≤ 1 := by rw [ef_39]; exact q_bd hI (q_tk (k' := 1) hI ha rfl (Nat.succ_ne_zero _)) rfl
    refine q_if_eq (A := f_39.toInt) E rfl (tgt := 183) dX11_many_176 (by decide) (fun c_40 => ?_) (fun c_40 => ?_)
    · skip
      replace hF := q_ifp hF c_40
      refine lv_iconst (v := 0) hx hb dX11_many_183 zki_0 ?_
      have kc_41 : (0 : Int32).toInt = 0 := zt_0
      refine q_ci (q_rV10_1 (rest := []) E (hml.trans hl.1.symm) hI (c_X11_good l X σ a (0 : Int32) ha) kv_X11_156 ha ⟨Nat.le_of_ble_eq_true rfl, Nat.le_of_ble_eq_true rfl⟩ (Nat.le_of_ble_eq_true rfl) dX11_many_184) hI (Nat.le_of_ble_eq_true rfl) (fun r_42 σ_43 H locs hpσ_43 hkσ_43 hI => ?_)
      have ahpσ_43 := hpσ_43.1
      have bhpσ_43 := hpσ_43.2.1
      have chpσ_43 := hpσ_43.2.2
      clear hpσ_43
      have fr_σ_43 := fr_σ.call chpσ_43 rfl rfl
      replace hF := q_biX hF bhpσ_43
      exact q_reti E hr hlk hI ⟨(hF.trans hout), fr_σ_43⟩ dX11_many_187
    · skip
      replace hF := q_ifn hF c_40
      refine lv_iconst (v := 1) hx hb dX11_many_179 zki_1 ?_
      refine lv_goto (tgt := 184) hx hb dX11_many_180 (by decide) ?_
      have kc_44 : (1 : Int32).toInt = 1 := zt_1
      refine q_ci (q_rV10_1 (rest := []) E (hml.trans hl.1.symm) hI (c_X11_good l X σ a (1 : Int32) ha) kv_X11_156 ha ⟨Nat.le_of_ble_eq_true rfl, Nat.le_of_ble_eq_true rfl⟩ (Nat.le_of_ble_eq_true rfl) dX11_many_184) hI (Nat.le_of_ble_eq_true rfl) (fun r_45 σ_46 H locs hpσ_46 hkσ_46 hI => ?_)
      have ahpσ_46 := hpσ_46.1
      have bhpσ_46 := hpσ_46.2.1
      have chpσ_46 := hpσ_46.2.2
      clear hpσ_46
      have fr_σ_46 := fr_σ.call chpσ_46 rfl rfl
      replace hF := q_biX hF bhpσ_46
      exact q_reti E hr hlk hI ⟨(hF.trans hout), fr_σ_46⟩ dX11_many_187
  replace hF := q_ifn hF c_38
  by_cases c_47 : v1.toInt = 9
  · refine lv_tableIn (off := 179) (tgt := 188) hx hb dX11_many_9 (by omega) (by omega) (by rw [c_47]; rfl) (by decide) ?_
    replace hF := q_ifp hF c_47
    refine lv_aload_n hx hb dX11_many_188 rfl (lv_at hl 1 rfl) ?_
    refine gs_X11_42_11 E hI ha dX11_many_189 ?_
    refine gs_X11_213_1 E hI (q_tk (k' := 1) hI ha rfl (Nat.succ_ne_zero _)) dX11_many_192 ?_
    refine lv_topi (fun f_48 ef_48 => ?_)
    replace hF := q_letX hF ef_48
    refine lv_iconst (v := (-1)) hx hb dX11_many_195 zki_m1 ?_
    refine q_icmp_ne (A := f_48.toInt) (B := (-1)) E rfl (by decide) (tgt := 208) dX11_many_196 (by decide) (fun c_49 => ?_) (fun c_49 => ?_)
    · skip
      replace hF := q_ifn hF c_49
      refine lv_aload_n hx hb dX11_many_208 rfl (lv_at hl 1 rfl) ?_
      refine lv_aload_n hx hb dX11_many_209 rfl (lv_at hl 1 rfl) ?_
      refine gs_X11_42_11 E hI ha dX11_many_210 ?_
      refine gs_X11_213_1 E hI (q_tk (k' := 1) hI ha rfl (Nat.succ_ne_zero _)) dX11_many_213 ?_
      refine lv_topi (fun f_50 ef_50 => ?_)
      replace hF := q_letX hF ef_50
      refine q_ci (q_rV10_1 (rest := []) E (hml.trans hl.1.symm) hI (c_X11_good l X σ a f_50 ha) kv_X11_156 ha ⟨Nat.le_of_ble_eq_true rfl, Nat.le_of_ble_eq_true rfl⟩ (Nat.le_of_ble_eq_true rfl) dX11_many_216) hI (Nat.le_of_ble_eq_true rfl) (fun r_51 σ_52 H locs hpσ_52 hkσ_52 hI => ?_)
      have ahpσ_52 := hpσ_52.1
      have bhpσ_52 := hpσ_52.2.1
      have chpσ_52 := hpσ_52.2.2
      clear hpσ_52
      have fr_σ_52 := fr_σ.call chpσ_52 rfl rfl
      replace hF := q_biX hF bhpσ_52
      exact q_reti E hr hlk hI ⟨(hF.trans hout), fr_σ_52⟩ dX11_many_219
    · skip
      replace hF := q_ifp hF c_49
      refine lv_aload_n hx hb dX11_many_199 rfl (lv_at hl 1 rfl) ?_
      refine lv_bipush (v := 8) hx hb dX11_many_200 zkb_8 ?_
      have kc_53 : (8 : Int32).toInt = 8 := zt_8
      refine q_ci (q_rV10_1 (rest := []) E (hml.trans hl.1.symm) hI (c_X11_none l X σ a (8 : Int32) ha) kv_X11_109 ha ⟨Nat.le_of_ble_eq_true rfl, Nat.le_of_ble_eq_true rfl⟩ (Nat.le_of_ble_eq_true rfl) dX11_many_202) hI (Nat.le_of_ble_eq_true rfl) (fun r_54 σ_55 H locs hpσ_55 hkσ_55 hI => ?_)
      have ahpσ_55 := hpσ_55.1
      have bhpσ_55 := hpσ_55.2.1
      have chpσ_55 := hpσ_55.2.2
      clear hpσ_55
      have fr_σ_55 := fr_σ.call chpσ_55 rfl rfl
      replace hF := q_biX hF bhpσ_55
      refine lv_goto (tgt := 219) hx hb dX11_many_205 (by decide) ?_
      exact q_reti E hr hlk hI ⟨(hF.trans hout), fr_σ_55⟩ dX11_many_219
  replace hF := q_ifn hF c_47
  by_cases c_56 : v1.toInt = 10
  · refine lv_tableIn (off := 211) (tgt := 220) hx hb dX11_many_9 (by omega) (by omega) (by rw [c_56]; rfl) (by decide) ?_
    replace hF := q_ifp hF c_56
    refine lv_aload_n hx hb dX11_many_220 rfl (lv_at hl 1 rfl) ?_
    refine lv_aload_n hx hb dX11_many_221 rfl (lv_at hl 1 rfl) ?_
    refine gs_X11_42_11 E hI ha dX11_many_222 ?_
    refine gs_X11_201_1 E hI (q_tk (k' := 1) hI ha rfl (Nat.succ_ne_zero _)) dX11_many_225 ?_
    refine gs_X11_216_3 E hI (q_tk (k' := 3) hI (q_tk (k' := 1) hI ha rfl (Nat.succ_ne_zero _)) rfl (Nat.succ_ne_zero _)) dX11_many_228 ?_
    refine lv_topi (fun f_57 ef_57 => ?_)
    replace hF := q_letX hF ef_57
    refine q_ci (q_rV10_1 (rest := []) E (hml.trans hl.1.symm) hI (c_X11_good l X σ a f_57 ha) kv_X11_156 ha ⟨Nat.le_of_ble_eq_true rfl, Nat.le_of_ble_eq_true rfl⟩ (Nat.le_of_ble_eq_true rfl) dX11_many_231) hI (Nat.le_of_ble_eq_true rfl) (fun r_58 σ_59 H locs hpσ_59 hkσ_59 hI => ?_)
    have ahpσ_59 := hpσ_59.1
    have bhpσ_59 := hpσ_59.2.1
    have chpσ_59 := hpσ_59.2.2
    clear hpσ_59
    have fr_σ_59 := fr_σ.call chpσ_59 rfl rfl
    replace hF := q_biX hF bhpσ_59
    exact q_reti E hr hlk hI ⟨(hF.trans hout), fr_σ_59⟩ dX11_many_234
  replace hF := q_ifn hF c_56
  refine lv_tableOut (tgt := 235) hx hb dX11_many_9 (by omega) (by decide) ?_
  refine lv_aload_n hx hb dX11_many_235 rfl (lv_at hl 1 rfl) ?_
  refine lv_iconst (v := 5) hx hb dX11_many_236 zki_5 ?_
  have kc_60 : (5 : Int32).toInt = 5 := zt_5
  refine q_ci (q_rV10_1 (rest := []) E (hml.trans hl.1.symm) hI (c_X11_none l X σ a (5 : Int32) ha) kv_X11_109 ha ⟨Nat.le_of_ble_eq_true rfl, Nat.le_of_ble_eq_true rfl⟩ (Nat.le_of_ble_eq_true rfl) dX11_many_237) hI (Nat.le_of_ble_eq_true rfl) (fun r_61 σ_62 H locs hpσ_62 hkσ_62 hI => ?_)
  have ahpσ_62 := hpσ_62.1
  have bhpσ_62 := hpσ_62.2.1
  have chpσ_62 := hpσ_62.2.2
  clear hpσ_62
  have fr_σ_62 := fr_σ.call chpσ_62 rfl rfl
  replace hF := q_biX hF bhpσ_62
  exact q_reti E hr hlk hI ⟨(hF.trans hout), fr_σ_62⟩ dX11_many_240

set_option maxRecDepth 100000 in
set_option maxHeartbeats 4000000 in
theorem c_X11_isPlayer (l : Launch) (X : XW) (σ : ST) (a : Nat) (v1 : Int32) (ha : q_kd X a = 11) : Met l yX11_isPlayer (q_ws yX11_isPlayer cX11_isPlayer 2 (some .boolean)) (q_rm 0 0) (q_P X σ [.ref a, .int v1]) (q_Qi X 9 σ (fun (r : Int32) (σ' : ST) => σ' = σ ∧ (0 ≤ r.toInt ∧ r.toInt ≤ 1) ∧ r = F_X11_isPlayer X σ a v1)) 0 0 (q_reg X) := by
  refine q_met 9 (by first | exact rfl | decide +kernel) rfl (Nat.le_of_ble_eq_true rfl) (fun p e s m below meth c E hml hr hlk hI ls hl => ?_)
  have hx := E.1
  have hb := E.2.1
  have hl : lv_has ls 2 [(0, .ref a), (1, .int v1)] := hl
  obtain ⟨out, hout⟩ : ∃ o, o = F_X11_isPlayer X σ a v1 := ⟨_, rfl⟩
  have hF := hout.symm
  unfold F_X11_isPlayer at hF
  refine lv_iload_n hx hb dX11_isPlayer_0 rfl (lv_at hl 1 rfl) ?_
  refine q_if_lt (A := v1.toInt) E rfl (tgt := 22) dX11_isPlayer_1 (by decide) (fun c_1 => ?_) (fun c_1 => ?_)
  · skip
    replace hF := q_ifp hF c_1
    refine lv_iconst (v := 0) hx hb dX11_isPlayer_22 zki_0 ?_
    have hrv : (0 : Int32).toInt = 0 := zt_0
    exact q_retz E hr hlk hI ⟨by decide, by decide⟩ ⟨rfl, ⟨by decide, by decide⟩, (hF.trans hout)⟩ dX11_isPlayer_23
  · skip
    replace hF := q_ifn hF (Int.not_lt.mpr c_1)
    refine lv_iload_n hx hb dX11_isPlayer_4 rfl (lv_at hl 1 rfl) ?_
    refine lv_aload_n hx hb dX11_isPlayer_5 rfl (lv_at hl 0 rfl) ?_
    refine gs_X11_42_11 E hI ha dX11_isPlayer_6 ?_
    refine gs_X11_147_1 E hI (q_tk (k' := 1) hI ha rfl (Nat.succ_ne_zero _)) dX11_isPlayer_9 ?_
    refine gs_X11_151_6 E hI (q_tk (k' := 6) hI (q_tk (k' := 1) hI ha rfl (Nat.succ_ne_zero _)) rfl (Nat.succ_ne_zero _)) dX11_isPlayer_12 ?_
    refine lv_topi (fun f_2 ef_2 => ?_)
    replace hF := q_letX hF ef_2
    refine q_icmp_ge (A := v1.toInt) (B := f_2.toInt) E rfl rfl (tgt := 22) dX11_isPlayer_15 (by decide) (fun c_3 => ?_) (fun c_3 => ?_)
    · skip
      replace hF := q_ifn hF (Int.not_lt.mpr c_3)
      refine lv_iconst (v := 0) hx hb dX11_isPlayer_22 zki_0 ?_
      have hrv : (0 : Int32).toInt = 0 := zt_0
      exact q_retz E hr hlk hI ⟨by decide, by decide⟩ ⟨rfl, ⟨by decide, by decide⟩, (hF.trans hout)⟩ dX11_isPlayer_23
    · skip
      replace hF := q_ifp hF c_3
      refine lv_iconst (v := 1) hx hb dX11_isPlayer_18 zki_1 ?_
      refine lv_goto (tgt := 23) hx hb dX11_isPlayer_19 (by decide) ?_
      have hrv : (1 : Int32).toInt = 1 := zt_1
      exact q_retz E hr hlk hI ⟨by decide, by decide⟩ ⟨rfl, ⟨by decide, by decide⟩, (hF.trans hout)⟩ dX11_isPlayer_23

set_option maxRecDepth 100000 in
set_option maxHeartbeats 4000000 in
theorem c_X11_player (l : Launch) (X : XW) (σ : ST) (a : Nat) (v1 : Int32) (v2 : Int32) (ha : q_kd X a = 11) : Met l yX11_player (q_ws yX11_player cX11_player 4 (some .int)) (q_rm 3 66) (q_P X σ [.ref a, .int v1, .int v2]) (q_Qi X 8 σ (fun (r : Int32) (σ' : ST) => (r, σ') = F_X11_player X σ a v1 v2 ∧ q_ow [(11, 0)] [] X σ σ')) 0 0 (q_reg X) := by
  refine q_met 8 (by first | exact rfl | decide +kernel) rfl (Nat.le_of_ble_eq_true rfl) (fun p e s m below meth c E hml hr hlk hI ls hl => ?_)
  have hx := E.1
  have hb := E.2.1
  have hl : lv_has ls 4 [(0, .ref a), (1, .int v1), (2, .int v2)] := hl
  have fr_σ : q_ow [(11, 0)] [] X σ σ := q_ow.rf
  obtain ⟨out, hout⟩ : ∃ o, o = F_X11_player X σ a v1 v2 := ⟨_, rfl⟩
  have hF := hout.symm
  unfold F_X11_player at hF
  refine lv_aload_n hx hb dX11_player_0 rfl (lv_at hl 0 rfl) ?_
  refine lv_iload_n hx hb dX11_player_1 rfl (lv_at hl 1 rfl) ?_
  refine q_ci (q_rV10_1 (rest := []) E (hml.trans hl.1.symm) hI (c_X11_isPlayer l X σ a v1 ha) kv_X11_219 ha ⟨Nat.le_of_ble_eq_true rfl, Nat.le_of_ble_eq_true rfl⟩ (Nat.le_of_ble_eq_true rfl) dX11_player_2) hI (Nat.le_of_ble_eq_true rfl) (fun r_1 σ_2 H locs hpσ_2 hkσ_2 hI => ?_)
  have ahpσ_2 := hpσ_2.1
  have bhpσ_2 := hpσ_2.2.1
  have chpσ_2 := hpσ_2.2.2
  clear hpσ_2
  replace hI := q_Irw ahpσ_2 hI
  replace hF := q_letX hF chpσ_2
  refine q_if_ne (A := r_1.toInt) E rfl (tgt := 14) dX11_player_5 (by decide) (fun c_3 => ?_) (fun c_3 => ?_)
  · skip
    replace hF := q_ifn hF c_3
    replace c_3 := q_ifOne bhpσ_2 c_3
    refine lv_aload_n hx hb dX11_player_14 rfl (lv_at hl 0 rfl) ?_
    refine gs_X11_42_11 E hI ha dX11_player_15 ?_
    refine gs_X11_222_1 E hI (q_tk (k' := 1) hI ha rfl (Nat.succ_ne_zero _)) dX11_player_18 ?_
    refine lv_astore_n (lv' := [(3, .ref (q_rf X (q_rf X a 8) 1)), (0, .ref a), (1, .int v1), (2, .int v2)]) hx hb dX11_player_21 rfl hl (by decide) rfl (fun ls hl => ?_)
    refine lv_iload_n hx hb dX11_player_22 rfl (lv_at hl 3 rfl) ?_
    by_cases c_4 : v2.toInt = 0
    · refine lv_tableIn (off := 37) (tgt := 60) hx hb dX11_player_23 (by first | (clear ahpσ_2 bhpσ_2 chpσ_2 c_3; omega) | omega) (by first | (clear ahpσ_2 bhpσ_2 chpσ_2 c_3; omega) | omega) (by rw [c_4]; rfl) (by decide) ?_
      replace hF := q_ifp hF c_4
      refine lv_aload_n hx hb dX11_player_60 rfl (lv_at hl 1 rfl) ?_
      refine lv_aload_n hx hb dX11_player_61 rfl (lv_at hl 0 rfl) ?_
      refine gs_X11_226_2 E hI (q_tk (k' := 2) hI (q_tk (k' := 1) hI ha rfl (Nat.succ_ne_zero _)) rfl (Nat.succ_ne_zero _)) dX11_player_62 ?_
      refine lv_iload_n hx hb dX11_player_65 rfl (lv_at hl 2 rfl) ?_
      refine q_ci (q_rV4_1 (rest := [.ref a]) E (hml.trans hl.1.symm) hI (c_X5_get l X σ (q_rf X (q_rf X (q_rf X a 8) 1) 3) v1 (q_tk (k' := 5) hI (q_tk (k' := 2) hI (q_tk (k' := 1) hI ha rfl (Nat.succ_ne_zero _)) rfl (Nat.succ_ne_zero _)) rfl (Nat.succ_ne_zero _))) kv_X11_232 (q_tk (k' := 5) hI (q_tk (k' := 2) hI (q_tk (k' := 1) hI ha rfl (Nat.succ_ne_zero _)) rfl (Nat.succ_ne_zero _)) rfl (Nat.succ_ne_zero _)) ⟨Nat.le_of_ble_eq_true rfl, Nat.le_of_ble_eq_true rfl⟩ (Nat.le_of_ble_eq_true rfl) dX11_player_66) hI (Nat.le_of_ble_eq_true rfl) (fun r_5 σ_6 H locs hpσ_6 hkσ_6 hI => ?_)
      have ahpσ_6 := hpσ_6.1
      have bhpσ_6 := hpσ_6.2
      clear hpσ_6
      replace hI := q_Irw ahpσ_6 hI
      replace hF := q_letX hF bhpσ_6
      refine q_ci (q_rV10_1 (rest := []) E (hml.trans hl.1.symm) hI (c_X11_good l X σ a r_5 ha) kv_X11_156 ha ⟨Nat.le_of_ble_eq_true rfl, Nat.le_of_ble_eq_true rfl⟩ (Nat.le_of_ble_eq_true rfl) dX11_player_69) hI (Nat.le_of_ble_eq_true rfl) (fun r_7 σ_8 H locs hpσ_8 hkσ_8 hI => ?_)
      have ahpσ_8 := hpσ_8.1
      have bhpσ_8 := hpσ_8.2.1
      have chpσ_8 := hpσ_8.2.2
      clear hpσ_8
      have fr_σ_8 := fr_σ.call chpσ_8 rfl rfl
      replace hF := q_biX hF bhpσ_8
      exact q_reti E hr hlk hI ⟨(hF.trans hout), fr_σ_8⟩ dX11_player_72
    replace hF := q_ifn hF c_4
    by_cases c_9 : v2.toInt = 1
    · refine lv_tableIn (off := 50) (tgt := 73) hx hb dX11_player_23 (by first | (clear ahpσ_2 bhpσ_2 chpσ_2 c_3; omega) | omega) (by first | (clear ahpσ_2 bhpσ_2 chpσ_2 c_3; omega) | omega) (by rw [c_9]; rfl) (by decide) ?_
      replace hF := q_ifp hF c_9
      refine lv_aload_n hx hb dX11_player_73 rfl (lv_at hl 1 rfl) ?_
      refine lv_aload_n hx hb dX11_player_74 rfl (lv_at hl 0 rfl) ?_
      refine gs_X11_236_2 E hI (q_tk (k' := 2) hI (q_tk (k' := 1) hI ha rfl (Nat.succ_ne_zero _)) rfl (Nat.succ_ne_zero _)) dX11_player_75 ?_
      refine lv_iload_n hx hb dX11_player_78 rfl (lv_at hl 2 rfl) ?_
      refine q_ci (q_rV4_1 (rest := [.ref a]) E (hml.trans hl.1.symm) hI (c_X5_get l X σ (q_rf X (q_rf X (q_rf X a 8) 1) 4) v1 (q_tk (k' := 5) hI (q_tk (k' := 2) hI (q_tk (k' := 1) hI ha rfl (Nat.succ_ne_zero _)) rfl (Nat.succ_ne_zero _)) rfl (Nat.succ_ne_zero _))) kv_X11_232 (q_tk (k' := 5) hI (q_tk (k' := 2) hI (q_tk (k' := 1) hI ha rfl (Nat.succ_ne_zero _)) rfl (Nat.succ_ne_zero _)) rfl (Nat.succ_ne_zero _)) ⟨Nat.le_of_ble_eq_true rfl, Nat.le_of_ble_eq_true rfl⟩ (Nat.le_of_ble_eq_true rfl) dX11_player_79) hI (Nat.le_of_ble_eq_true rfl) (fun r_10 σ_11 H locs hpσ_11 hkσ_11 hI => ?_)
      have ahpσ_11 := hpσ_11.1
      have bhpσ_11 := hpσ_11.2
      clear hpσ_11
      replace hI := q_Irw ahpσ_11 hI
      replace hF := q_letX hF bhpσ_11
      refine q_ci (q_rV10_1 (rest := []) E (hml.trans hl.1.symm) hI (c_X11_good l X σ a r_10 ha) kv_X11_156 ha ⟨Nat.le_of_ble_eq_true rfl, Nat.le_of_ble_eq_true rfl⟩ (Nat.le_of_ble_eq_true rfl) dX11_player_82) hI (Nat.le_of_ble_eq_true rfl) (fun r_12 σ_13 H locs hpσ_13 hkσ_13 hI => ?_)
      have ahpσ_13 := hpσ_13.1
      have bhpσ_13 := hpσ_13.2.1
      have chpσ_13 := hpσ_13.2.2
      clear hpσ_13
      have fr_σ_13 := fr_σ.call chpσ_13 rfl rfl
      replace hF := q_biX hF bhpσ_13
      exact q_reti E hr hlk hI ⟨(hF.trans hout), fr_σ_13⟩ dX11_player_85
    replace hF := q_ifn hF c_9
    by_cases c_14 : v2.toInt = 2
    · refine lv_tableIn (off := 63) (tgt := 86) hx hb dX11_player_23 (by first | (clear ahpσ_2 bhpσ_2 chpσ_2 c_3; omega) | omega) (by first | (clear ahpσ_2 bhpσ_2 chpσ_2 c_3; omega) | omega) (by rw [c_14]; rfl) (by decide) ?_
      replace hF := q_ifp hF c_14
      refine lv_aload_n hx hb dX11_player_86 rfl (lv_at hl 1 rfl) ?_
      refine lv_aload_n hx hb dX11_player_87 rfl (lv_at hl 0 rfl) ?_
      refine gs_X11_239_2 E hI (q_tk (k' := 2) hI (q_tk (k' := 1) hI ha rfl (Nat.succ_ne_zero _)) rfl (Nat.succ_ne_zero _)) dX11_player_88 ?_
      refine lv_iload_n hx hb dX11_player_91 rfl (lv_at hl 2 rfl) ?_
      refine q_ci (q_rV4_1 (rest := [.ref a]) E (hml.trans hl.1.symm) hI (c_X5_get l X σ (q_rf X (q_rf X (q_rf X a 8) 1) 2) v1 (q_tk (k' := 5) hI (q_tk (k' := 2) hI (q_tk (k' := 1) hI ha rfl (Nat.succ_ne_zero _)) rfl (Nat.succ_ne_zero _)) rfl (Nat.succ_ne_zero _))) kv_X11_232 (q_tk (k' := 5) hI (q_tk (k' := 2) hI (q_tk (k' := 1) hI ha rfl (Nat.succ_ne_zero _)) rfl (Nat.succ_ne_zero _)) rfl (Nat.succ_ne_zero _)) ⟨Nat.le_of_ble_eq_true rfl, Nat.le_of_ble_eq_true rfl⟩ (Nat.le_of_ble_eq_true rfl) dX11_player_92) hI (Nat.le_of_ble_eq_true rfl) (fun r_15 σ_16 H locs hpσ_16 hkσ_16 hI => ?_)
      have ahpσ_16 := hpσ_16.1
      have bhpσ_16 := hpσ_16.2
      clear hpσ_16
      replace hI := q_Irw ahpσ_16 hI
      replace hF := q_letX hF bhpσ_16
      refine q_ci (q_rV10_1 (rest := []) E (hml.trans hl.1.symm) hI (c_X11_good l X σ a r_15 ha) kv_X11_156 ha ⟨Nat.le_of_ble_eq_true rfl, Nat.le_of_ble_eq_true rfl⟩ (Nat.le_of_ble_eq_true rfl) dX11_player_95) hI (Nat.le_of_ble_eq_true rfl) (fun r_17 σ_18 H locs hpσ_18 hkσ_18 hI => ?_)
      have ahpσ_18 := hpσ_18.1
      have bhpσ_18 := hpσ_18.2.1
      have chpσ_18 := hpσ_18.2.2
      clear hpσ_18
      have fr_σ_18 := fr_σ.call chpσ_18 rfl rfl
      replace hF := q_biX hF bhpσ_18
      exact q_reti E hr hlk hI ⟨(hF.trans hout), fr_σ_18⟩ dX11_player_98
    replace hF := q_ifn hF c_14
    by_cases c_19 : v2.toInt = 3
    · refine lv_tableIn (off := 76) (tgt := 99) hx hb dX11_player_23 (by first | (clear ahpσ_2 bhpσ_2 chpσ_2 c_3; omega) | omega) (by first | (clear ahpσ_2 bhpσ_2 chpσ_2 c_3; omega) | omega) (by rw [c_19]; rfl) (by decide) ?_
      replace hF := q_ifp hF c_19
      refine lv_aload_n hx hb dX11_player_99 rfl (lv_at hl 1 rfl) ?_
      refine lv_aload_n hx hb dX11_player_100 rfl (lv_at hl 0 rfl) ?_
      refine gs_X11_241_2 E hI (q_tk (k' := 2) hI (q_tk (k' := 1) hI ha rfl (Nat.succ_ne_zero _)) rfl (Nat.succ_ne_zero _)) dX11_player_101 ?_
      refine lv_iload_n hx hb dX11_player_104 rfl (lv_at hl 2 rfl) ?_
      refine q_ci (q_rV4_1 (rest := [.ref a]) E (hml.trans hl.1.symm) hI (c_X5_get l X σ (q_rf X (q_rf X (q_rf X a 8) 1) 5) v1 (q_tk (k' := 5) hI (q_tk (k' := 2) hI (q_tk (k' := 1) hI ha rfl (Nat.succ_ne_zero _)) rfl (Nat.succ_ne_zero _)) rfl (Nat.succ_ne_zero _))) kv_X11_232 (q_tk (k' := 5) hI (q_tk (k' := 2) hI (q_tk (k' := 1) hI ha rfl (Nat.succ_ne_zero _)) rfl (Nat.succ_ne_zero _)) rfl (Nat.succ_ne_zero _)) ⟨Nat.le_of_ble_eq_true rfl, Nat.le_of_ble_eq_true rfl⟩ (Nat.le_of_ble_eq_true rfl) dX11_player_105) hI (Nat.le_of_ble_eq_true rfl) (fun r_20 σ_21 H locs hpσ_21 hkσ_21 hI => ?_)
      have ahpσ_21 := hpσ_21.1
      have bhpσ_21 := hpσ_21.2
      clear hpσ_21
      replace hI := q_Irw ahpσ_21 hI
      replace hF := q_letX hF bhpσ_21
      refine q_ci (q_rV10_1 (rest := []) E (hml.trans hl.1.symm) hI (c_X11_good l X σ a r_20 ha) kv_X11_156 ha ⟨Nat.le_of_ble_eq_true rfl, Nat.le_of_ble_eq_true rfl⟩ (Nat.le_of_ble_eq_true rfl) dX11_player_108) hI (Nat.le_of_ble_eq_true rfl) (fun r_22 σ_23 H locs hpσ_23 hkσ_23 hI => ?_)
      have ahpσ_23 := hpσ_23.1
      have bhpσ_23 := hpσ_23.2.1
      have chpσ_23 := hpσ_23.2.2
      clear hpσ_23
      have fr_σ_23 := fr_σ.call chpσ_23 rfl rfl
      replace hF := q_biX hF bhpσ_23
      exact q_reti E hr hlk hI ⟨(hF.trans hout), fr_σ_23⟩ dX11_player_111
    replace hF := q_ifn hF c_19
    by_cases c_24 : v2.toInt = 4
    · refine lv_tableIn (off := 89) (tgt := 112) hx hb dX11_player_23 (by first | (clear ahpσ_2 bhpσ_2 chpσ_2 c_3; omega) | omega) (by first | (clear ahpσ_2 bhpσ_2 chpσ_2 c_3; omega) | omega) (by rw [c_24]; rfl) (by decide) ?_
      replace hF := q_ifp hF c_24
      refine lv_aload_n hx hb dX11_player_112 rfl (lv_at hl 1 rfl) ?_
      refine lv_aload_n hx hb dX11_player_113 rfl (lv_at hl 0 rfl) ?_
      refine gs_X11_244_2 E hI (q_tk (k' := 2) hI (q_tk (k' := 1) hI ha rfl (Nat.succ_ne_zero _)) rfl (Nat.succ_ne_zero _)) dX11_player_114 ?_
      refine lv_iload_n hx hb dX11_player_117 rfl (lv_at hl 2 rfl) ?_
      refine q_ci (q_rV4_1 (rest := [.ref a]) E (hml.trans hl.1.symm) hI (c_X5_get l X σ (q_rf X (q_rf X (q_rf X a 8) 1) 6) v1 (q_tk (k' := 5) hI (q_tk (k' := 2) hI (q_tk (k' := 1) hI ha rfl (Nat.succ_ne_zero _)) rfl (Nat.succ_ne_zero _)) rfl (Nat.succ_ne_zero _))) kv_X11_232 (q_tk (k' := 5) hI (q_tk (k' := 2) hI (q_tk (k' := 1) hI ha rfl (Nat.succ_ne_zero _)) rfl (Nat.succ_ne_zero _)) rfl (Nat.succ_ne_zero _)) ⟨Nat.le_of_ble_eq_true rfl, Nat.le_of_ble_eq_true rfl⟩ (Nat.le_of_ble_eq_true rfl) dX11_player_118) hI (Nat.le_of_ble_eq_true rfl) (fun r_25 σ_26 H locs hpσ_26 hkσ_26 hI => ?_)
      have ahpσ_26 := hpσ_26.1
      have bhpσ_26 := hpσ_26.2
      clear hpσ_26
      replace hI := q_Irw ahpσ_26 hI
      replace hF := q_letX hF bhpσ_26
      refine q_ci (q_rV10_1 (rest := []) E (hml.trans hl.1.symm) hI (c_X11_good l X σ a r_25 ha) kv_X11_156 ha ⟨Nat.le_of_ble_eq_true rfl, Nat.le_of_ble_eq_true rfl⟩ (Nat.le_of_ble_eq_true rfl) dX11_player_121) hI (Nat.le_of_ble_eq_true rfl) (fun r_27 σ_28 H locs hpσ_28 hkσ_28 hI => ?_)
      have ahpσ_28 := hpσ_28.1
      have bhpσ_28 := hpσ_28.2.1
      have chpσ_28 := hpσ_28.2.2
      clear hpσ_28
      have fr_σ_28 := fr_σ.call chpσ_28 rfl rfl
      replace hF := q_biX hF bhpσ_28
      exact q_reti E hr hlk hI ⟨(hF.trans hout), fr_σ_28⟩ dX11_player_124
    replace hF := q_ifn hF c_24
    by_cases c_29 : v2.toInt = 5
    · refine lv_tableIn (off := 102) (tgt := 125) hx hb dX11_player_23 (by first | (clear ahpσ_2 bhpσ_2 chpσ_2 c_3; omega) | omega) (by first | (clear ahpσ_2 bhpσ_2 chpσ_2 c_3; omega) | omega) (by rw [c_29]; rfl) (by decide) ?_
      replace hF := q_ifp hF c_29
      refine lv_aload_n hx hb dX11_player_125 rfl (lv_at hl 1 rfl) ?_
      refine lv_aload_n hx hb dX11_player_126 rfl (lv_at hl 0 rfl) ?_
      refine lv_iload_n hx hb dX11_player_127 rfl (lv_at hl 2 rfl) ?_
      refine q_ci (q_rV1_1 (rest := [.ref a]) E (hml.trans hl.1.symm) hI (c_X1_allLaidBy l X σ (q_rf X (q_rf X a 8) 1) v1 (q_tk (k' := 2) hI (q_tk (k' := 1) hI ha rfl (Nat.succ_ne_zero _)) rfl (Nat.succ_ne_zero _))) kv_X11_247 (q_tk (k' := 2) hI (q_tk (k' := 1) hI ha rfl (Nat.succ_ne_zero _)) rfl (Nat.succ_ne_zero _)) ⟨Nat.le_of_ble_eq_true rfl, Nat.le_of_ble_eq_true rfl⟩ (Nat.le_of_ble_eq_true rfl) dX11_player_128) hI (Nat.le_of_ble_eq_true rfl) (fun r_30 σ_31 H locs hpσ_31 hkσ_31 hI => ?_)
      have ahpσ_31 := hpσ_31.1
      have bhpσ_31 := hpσ_31.2
      clear hpσ_31
      replace hI := q_Irw ahpσ_31 hI
      replace hF := q_letX hF bhpσ_31
      refine q_ci (q_rV10_1 (rest := []) E (hml.trans hl.1.symm) hI (c_X11_good l X σ a r_30 ha) kv_X11_156 ha ⟨Nat.le_of_ble_eq_true rfl, Nat.le_of_ble_eq_true rfl⟩ (Nat.le_of_ble_eq_true rfl) dX11_player_131) hI (Nat.le_of_ble_eq_true rfl) (fun r_32 σ_33 H locs hpσ_33 hkσ_33 hI => ?_)
      have ahpσ_33 := hpσ_33.1
      have bhpσ_33 := hpσ_33.2.1
      have chpσ_33 := hpσ_33.2.2
      clear hpσ_33
      have fr_σ_33 := fr_σ.call chpσ_33 rfl rfl
      replace hF := q_biX hF bhpσ_33
      exact q_reti E hr hlk hI ⟨(hF.trans hout), fr_σ_33⟩ dX11_player_134
    replace hF := q_ifn hF c_29
    refine lv_tableOut (tgt := 135) hx hb dX11_player_23 (by first | (clear ahpσ_2 bhpσ_2 chpσ_2 c_3; omega) | omega) (by decide) ?_
    refine lv_aload_n hx hb dX11_player_135 rfl (lv_at hl 1 rfl) ?_
    refine lv_iconst (v := 5) hx hb dX11_player_136 zki_5 ?_
    have kc_34 : (5 : Int32).toInt = 5 := zt_5
    refine q_ci (q_rV10_1 (rest := []) E (hml.trans hl.1.symm) hI (c_X11_none l X σ a (5 : Int32) ha) kv_X11_109 ha ⟨Nat.le_of_ble_eq_true rfl, Nat.le_of_ble_eq_true rfl⟩ (Nat.le_of_ble_eq_true rfl) dX11_player_137) hI (Nat.le_of_ble_eq_true rfl) (fun r_35 σ_36 H locs hpσ_36 hkσ_36 hI => ?_)
    have ahpσ_36 := hpσ_36.1
    have bhpσ_36 := hpσ_36.2.1
    have chpσ_36 := hpσ_36.2.2
    clear hpσ_36
    have fr_σ_36 := fr_σ.call chpσ_36 rfl rfl
    replace hF := q_biX hF bhpσ_36
    exact q_reti E hr hlk hI ⟨(hF.trans hout), fr_σ_36⟩ dX11_player_140
  · skip
    replace hF := q_ifp hF c_3
    refine lv_aload_n hx hb dX11_player_8 rfl (lv_at hl 0 rfl) ?_
    refine lv_iconst (v := 2) hx hb dX11_player_9 zki_2 ?_
    have kc_37 : (2 : Int32).toInt = 2 := zt_2
    refine q_ci (q_rV10_1 (rest := []) E (hml.trans hl.1.symm) hI (c_X11_none l X σ a (2 : Int32) ha) kv_X11_109 ha ⟨Nat.le_of_ble_eq_true rfl, Nat.le_of_ble_eq_true rfl⟩ (Nat.le_of_ble_eq_true rfl) dX11_player_10) hI (Nat.le_of_ble_eq_true rfl) (fun r_38 σ_39 H locs hpσ_39 hkσ_39 hI => ?_)
    have ahpσ_39 := hpσ_39.1
    have bhpσ_39 := hpσ_39.2.1
    have chpσ_39 := hpσ_39.2.2
    clear hpσ_39
    have fr_σ_39 := fr_σ.call chpσ_39 rfl rfl
    replace hF := q_biX hF bhpσ_39
    exact q_reti E hr hlk hI ⟨(hF.trans hout), fr_σ_39⟩ dX11_player_13

set_option maxRecDepth 100000 in
set_option maxHeartbeats 4000000 in
theorem c_X11_isKind (l : Launch) (X : XW) (σ : ST) (a : Nat) (v1 : Int32) (ha : q_kd X a = 11) : Met l yX11_isKind (q_ws yX11_isKind cX11_isKind 2 (some .boolean)) (q_rm 0 0) (q_P X σ [.ref a, .int v1]) (q_Qi X 9 σ (fun (r : Int32) (σ' : ST) => σ' = σ ∧ (0 ≤ r.toInt ∧ r.toInt ≤ 1) ∧ r = F_X11_isKind X σ a v1)) 0 0 (q_reg X) := by
  refine q_met 9 (by first | exact rfl | decide +kernel) rfl (Nat.le_of_ble_eq_true rfl) (fun p e s m below meth c E hml hr hlk hI ls hl => ?_)
  have hx := E.1
  have hb := E.2.1
  have hl : lv_has ls 2 [(0, .ref a), (1, .int v1)] := hl
  obtain ⟨out, hout⟩ : ∃ o, o = F_X11_isKind X σ a v1 := ⟨_, rfl⟩
  have hF := hout.symm
  unfold F_X11_isKind at hF
  refine lv_iload_n hx hb dX11_isKind_0 rfl (lv_at hl 1 rfl) ?_
  refine q_if_lt (A := v1.toInt) E rfl (tgt := 22) dX11_isKind_1 (by decide) (fun c_1 => ?_) (fun c_1 => ?_)
  · skip
    replace hF := q_ifp hF c_1
    refine lv_iconst (v := 0) hx hb dX11_isKind_22 zki_0 ?_
    have hrv : (0 : Int32).toInt = 0 := zt_0
    exact q_retz E hr hlk hI ⟨by decide, by decide⟩ ⟨rfl, ⟨by decide, by decide⟩, (hF.trans hout)⟩ dX11_isKind_23
  · skip
    replace hF := q_ifn hF (Int.not_lt.mpr c_1)
    refine lv_iload_n hx hb dX11_isKind_4 rfl (lv_at hl 1 rfl) ?_
    refine lv_aload_n hx hb dX11_isKind_5 rfl (lv_at hl 0 rfl) ?_
    refine gs_X11_42_11 E hI ha dX11_isKind_6 ?_
    refine gs_X11_147_1 E hI (q_tk (k' := 1) hI ha rfl (Nat.succ_ne_zero _)) dX11_isKind_9 ?_
    refine gs_X11_183_6 E hI (q_tk (k' := 6) hI (q_tk (k' := 1) hI ha rfl (Nat.succ_ne_zero _)) rfl (Nat.succ_ne_zero _)) dX11_isKind_12 ?_
    refine lv_topi (fun f_2 ef_2 => ?_)
    replace hF := q_letX hF ef_2
    have bf_2 : -2147483648 ≤ f_2.toInt ∧ f_2.toInt ≤ 10 := by rw [ef_2]; exact q_bd hI (q_tk (k' := 6) hI (q_tk (k' := 1) hI ha rfl (Nat.succ_ne_zero _)) rfl (Nat.succ_ne_zero _)) rfl
    refine q_icmp_ge (A := v1.toInt) (B := f_2.toInt) E rfl rfl (tgt := 22) dX11_isKind_15 (by decide) (fun c_3 => ?_) (fun c_3 => ?_)
    · skip
      replace hF := q_ifn hF (Int.not_lt.mpr c_3)
      refine lv_iconst (v := 0) hx hb dX11_isKind_22 zki_0 ?_
      have hrv : (0 : Int32).toInt = 0 := zt_0
      exact q_retz E hr hlk hI ⟨by decide, by decide⟩ ⟨rfl, ⟨by decide, by decide⟩, (hF.trans hout)⟩ dX11_isKind_23
    · skip
      replace hF := q_ifp hF c_3
      refine lv_iconst (v := 1) hx hb dX11_isKind_18 zki_1 ?_
      refine lv_goto (tgt := 23) hx hb dX11_isKind_19 (by decide) ?_
      have hrv : (1 : Int32).toInt = 1 := zt_1
      exact q_retz E hr hlk hI ⟨by decide, by decide⟩ ⟨rfl, ⟨by decide, by decide⟩, (hF.trans hout)⟩ dX11_isKind_23
end
/-! FROM 16.class.b02.lean.txt -/
section
set_option maxRecDepth 100000 in
set_option maxHeartbeats 4000000 in
theorem c_X11_hand (l : Launch) (X : XW) (σ : ST) (a : Nat) (v1 : Int32) (v2 : Int32) (ha : q_kd X a = 11) : Met l yX11_hand (q_ws yX11_hand cX11_hand 3 (some .int)) (q_rm 2 43) (q_P X σ [.ref a, .int v1, .int v2]) (q_Qi X 8 σ (fun (r : Int32) (σ' : ST) => (r, σ') = F_X11_hand X σ a v1 v2 ∧ q_ow [(11, 0)] [] X σ σ')) 0 0 (q_reg X) := by
  refine q_met 8 (by first | exact rfl | decide +kernel) rfl (Nat.le_of_ble_eq_true rfl) (fun p e s m below meth c E hml hr hlk hI ls hl => ?_)
  have hx := E.1
  have hb := E.2.1
  have hl : lv_has ls 3 [(0, .ref a), (1, .int v1), (2, .int v2)] := hl
  have fr_σ : q_ow [(11, 0)] [] X σ σ := q_ow.rf
  obtain ⟨out, hout⟩ : ∃ o, o = F_X11_hand X σ a v1 v2 := ⟨_, rfl⟩
  have hF := hout.symm
  unfold F_X11_hand at hF
  refine lv_aload_n hx hb dX11_hand_0 rfl (lv_at hl 0 rfl) ?_
  refine lv_iload_n hx hb dX11_hand_1 rfl (lv_at hl 1 rfl) ?_
  refine q_ci (q_rV10_1 (rest := []) E (hml.trans hl.1.symm) hI (c_X11_isPlayer l X σ a v1 ha) kv_X11_219 ha ⟨Nat.le_of_ble_eq_true rfl, Nat.le_of_ble_eq_true rfl⟩ (Nat.le_of_ble_eq_true rfl) dX11_hand_2) hI (Nat.le_of_ble_eq_true rfl) (fun r_1 σ_2 H locs hpσ_2 hkσ_2 hI => ?_)
  have ahpσ_2 := hpσ_2.1
  have bhpσ_2 := hpσ_2.2.1
  have chpσ_2 := hpσ_2.2.2
  clear hpσ_2
  replace hI := q_Irw ahpσ_2 hI
  replace hF := q_letX hF chpσ_2
  refine q_if_eq (A := r_1.toInt) E rfl (tgt := 16) dX11_hand_5 (by decide) (fun c_3 => ?_) (fun c_3 => ?_)
  · skip
    replace hF := q_ifp hF c_3
    refine lv_aload_n hx hb dX11_hand_16 rfl (lv_at hl 0 rfl) ?_
    refine lv_iconst (v := 2) hx hb dX11_hand_17 zki_2 ?_
    have kc_4 : (2 : Int32).toInt = 2 := zt_2
    refine q_ci (q_rV10_1 (rest := []) E (hml.trans hl.1.symm) hI (c_X11_none l X σ a (2 : Int32) ha) kv_X11_109 ha ⟨Nat.le_of_ble_eq_true rfl, Nat.le_of_ble_eq_true rfl⟩ (Nat.le_of_ble_eq_true rfl) dX11_hand_18) hI (Nat.le_of_ble_eq_true rfl) (fun r_5 σ_6 H locs hpσ_6 hkσ_6 hI => ?_)
    have ahpσ_6 := hpσ_6.1
    have bhpσ_6 := hpσ_6.2.1
    have chpσ_6 := hpσ_6.2.2
    clear hpσ_6
    have fr_σ_6 := fr_σ.call chpσ_6 rfl rfl
    replace hF := q_biX hF bhpσ_6
    exact q_reti E hr hlk hI ⟨(hF.trans hout), fr_σ_6⟩ dX11_hand_21
  · skip
    replace hF := q_ifn hF c_3
    replace c_3 := q_ifOne bhpσ_2 c_3
    refine lv_aload_n hx hb dX11_hand_8 rfl (lv_at hl 0 rfl) ?_
    refine lv_iload_n hx hb dX11_hand_9 rfl (lv_at hl 2 rfl) ?_
    refine q_ci (q_rV10_1 (rest := []) E (hml.trans hl.1.symm) hI (c_X11_isKind l X σ a v2 ha) kv_X11_250 ha ⟨Nat.le_of_ble_eq_true rfl, Nat.le_of_ble_eq_true rfl⟩ (Nat.le_of_ble_eq_true rfl) dX11_hand_10) hI (Nat.le_of_ble_eq_true rfl) (fun r_7 σ_8 H locs hpσ_8 hkσ_8 hI => ?_)
    have ahpσ_8 := hpσ_8.1
    have bhpσ_8 := hpσ_8.2.1
    have chpσ_8 := hpσ_8.2.2
    clear hpσ_8
    replace hI := q_Irw ahpσ_8 hI
    replace hF := q_letX hF chpσ_8
    refine q_if_ne (A := r_7.toInt) E rfl (tgt := 22) dX11_hand_13 (by decide) (fun c_9 => ?_) (fun c_9 => ?_)
    · skip
      replace hF := q_ifn hF c_9
      replace c_9 := q_ifOne bhpσ_8 c_9
      refine lv_aload_n hx hb dX11_hand_22 rfl (lv_at hl 0 rfl) ?_
      refine lv_aload_n hx hb dX11_hand_23 rfl (lv_at hl 0 rfl) ?_
      refine gs_X11_42_11 E hI ha dX11_hand_24 ?_
      refine gs_X11_222_1 E hI (q_tk (k' := 1) hI ha rfl (Nat.succ_ne_zero _)) dX11_hand_27 ?_
      refine lv_iload_n hx hb dX11_hand_30 rfl (lv_at hl 1 rfl) ?_
      refine lv_iload_n hx hb dX11_hand_31 rfl (lv_at hl 2 rfl) ?_
      refine q_ci (q_rV1_2 (rest := [.ref a]) E (hml.trans hl.1.symm) hI (c_X1_heldBy l X σ (q_rf X (q_rf X a 8) 1) v1 v2 (q_tk (k' := 2) hI (q_tk (k' := 1) hI ha rfl (Nat.succ_ne_zero _)) rfl (Nat.succ_ne_zero _))) kv_X11_253 (q_tk (k' := 2) hI (q_tk (k' := 1) hI ha rfl (Nat.succ_ne_zero _)) rfl (Nat.succ_ne_zero _)) ⟨Nat.le_of_ble_eq_true rfl, Nat.le_of_ble_eq_true rfl⟩ (Nat.le_of_ble_eq_true rfl) dX11_hand_32) hI (Nat.le_of_ble_eq_true rfl) (fun r_10 σ_11 H locs hpσ_11 hkσ_11 hI => ?_)
      have ahpσ_11 := hpσ_11.1
      have bhpσ_11 := hpσ_11.2
      clear hpσ_11
      replace hI := q_Irw ahpσ_11 hI
      replace hF := q_letX hF bhpσ_11
      refine q_ci (q_rV10_1 (rest := []) E (hml.trans hl.1.symm) hI (c_X11_good l X σ a r_10 ha) kv_X11_156 ha ⟨Nat.le_of_ble_eq_true rfl, Nat.le_of_ble_eq_true rfl⟩ (Nat.le_of_ble_eq_true rfl) dX11_hand_35) hI (Nat.le_of_ble_eq_true rfl) (fun r_12 σ_13 H locs hpσ_13 hkσ_13 hI => ?_)
      have ahpσ_13 := hpσ_13.1
      have bhpσ_13 := hpσ_13.2.1
      have chpσ_13 := hpσ_13.2.2
      clear hpσ_13
      have fr_σ_13 := fr_σ.call chpσ_13 rfl rfl
      replace hF := q_biX hF bhpσ_13
      exact q_reti E hr hlk hI ⟨(hF.trans hout), fr_σ_13⟩ dX11_hand_38
    · skip
      replace hF := q_ifp hF c_9
      refine lv_aload_n hx hb dX11_hand_16 rfl (lv_at hl 0 rfl) ?_
      refine lv_iconst (v := 2) hx hb dX11_hand_17 zki_2 ?_
      have kc_14 : (2 : Int32).toInt = 2 := zt_2
      refine q_ci (q_rV10_1 (rest := []) E (hml.trans hl.1.symm) hI (c_X11_none l X σ a (2 : Int32) ha) kv_X11_109 ha ⟨Nat.le_of_ble_eq_true rfl, Nat.le_of_ble_eq_true rfl⟩ (Nat.le_of_ble_eq_true rfl) dX11_hand_18) hI (Nat.le_of_ble_eq_true rfl) (fun r_15 σ_16 H locs hpσ_16 hkσ_16 hI => ?_)
      have ahpσ_16 := hpσ_16.1
      have bhpσ_16 := hpσ_16.2.1
      have chpσ_16 := hpσ_16.2.2
      clear hpσ_16
      have fr_σ_16 := fr_σ.call chpσ_16 rfl rfl
      replace hF := q_biX hF bhpσ_16
      exact q_reti E hr hlk hI ⟨(hF.trans hout), fr_σ_16⟩ dX11_hand_21

set_option maxRecDepth 100000 in
set_option maxHeartbeats 4000000 in
theorem c_X11_inGame (l : Launch) (X : XW) (σ : ST) (a : Nat) (v1 : Int32) (ha : q_kd X a = 11) : Met l yX11_inGame (q_ws yX11_inGame cX11_inGame 2 (some .int)) (q_rm 1 21) (q_P X σ [.ref a, .int v1]) (q_Qi X 8 σ (fun (r : Int32) (σ' : ST) => (r, σ') = F_X11_inGame X σ a v1 ∧ q_ow [(11, 0)] [] X σ σ')) 0 0 (q_reg X) := by
  refine q_met 8 (by first | exact rfl | decide +kernel) rfl (Nat.le_of_ble_eq_true rfl) (fun p e s m below meth c E hml hr hlk hI ls hl => ?_)
  have hx := E.1
  have hb := E.2.1
  have hl : lv_has ls 2 [(0, .ref a), (1, .int v1)] := hl
  have fr_σ : q_ow [(11, 0)] [] X σ σ := q_ow.rf
  obtain ⟨out, hout⟩ : ∃ o, o = F_X11_inGame X σ a v1 := ⟨_, rfl⟩
  have hF := hout.symm
  unfold F_X11_inGame at hF
  refine lv_aload_n hx hb dX11_inGame_0 rfl (lv_at hl 0 rfl) ?_
  refine lv_iload_n hx hb dX11_inGame_1 rfl (lv_at hl 1 rfl) ?_
  refine q_ci (q_rV10_1 (rest := []) E (hml.trans hl.1.symm) hI (c_X11_isKind l X σ a v1 ha) kv_X11_250 ha ⟨Nat.le_of_ble_eq_true rfl, Nat.le_of_ble_eq_true rfl⟩ (Nat.le_of_ble_eq_true rfl) dX11_inGame_2) hI (Nat.le_of_ble_eq_true rfl) (fun r_1 σ_2 H locs hpσ_2 hkσ_2 hI => ?_)
  have ahpσ_2 := hpσ_2.1
  have bhpσ_2 := hpσ_2.2.1
  have chpσ_2 := hpσ_2.2.2
  clear hpσ_2
  replace hI := q_Irw ahpσ_2 hI
  replace hF := q_letX hF chpσ_2
  refine q_if_eq (A := r_1.toInt) E rfl (tgt := 29) dX11_inGame_5 (by decide) (fun c_3 => ?_) (fun c_3 => ?_)
  · skip
    replace hF := q_ifp hF c_3
    refine lv_aload_n hx hb dX11_inGame_29 rfl (lv_at hl 0 rfl) ?_
    refine lv_iconst (v := 2) hx hb dX11_inGame_30 zki_2 ?_
    have kc_4 : (2 : Int32).toInt = 2 := zt_2
    refine q_ci (q_rV10_1 (rest := []) E (hml.trans hl.1.symm) hI (c_X11_none l X σ a (2 : Int32) ha) kv_X11_109 ha ⟨Nat.le_of_ble_eq_true rfl, Nat.le_of_ble_eq_true rfl⟩ (Nat.le_of_ble_eq_true rfl) dX11_inGame_31) hI (Nat.le_of_ble_eq_true rfl) (fun r_5 σ_6 H locs hpσ_6 hkσ_6 hI => ?_)
    have ahpσ_6 := hpσ_6.1
    have bhpσ_6 := hpσ_6.2.1
    have chpσ_6 := hpσ_6.2.2
    clear hpσ_6
    have fr_σ_6 := fr_σ.call chpσ_6 rfl rfl
    replace hF := q_biX hF bhpσ_6
    exact q_reti E hr hlk hI ⟨(hF.trans hout), fr_σ_6⟩ dX11_inGame_34
  · skip
    replace hF := q_ifn hF c_3
    replace c_3 := q_ifOne bhpσ_2 c_3
    refine lv_aload_n hx hb dX11_inGame_8 rfl (lv_at hl 0 rfl) ?_
    refine lv_aload_n hx hb dX11_inGame_9 rfl (lv_at hl 0 rfl) ?_
    refine gs_X11_42_11 E hI ha dX11_inGame_10 ?_
    refine gs_X11_147_1 E hI (q_tk (k' := 1) hI ha rfl (Nat.succ_ne_zero _)) dX11_inGame_13 ?_
    refine gs_X11_257_6 E hI (q_tk (k' := 6) hI (q_tk (k' := 1) hI ha rfl (Nat.succ_ne_zero _)) rfl (Nat.succ_ne_zero _)) dX11_inGame_16 ?_
    refine lv_iload_n hx hb dX11_inGame_19 rfl (lv_at hl 1 rfl) ?_
    refine q_ci (q_rV4_1 (rest := [.ref a]) E (hml.trans hl.1.symm) hI (c_X5_get l X σ (q_rf X (q_rf X (q_rf X a 8) 0) 5) v1 (q_tk (k' := 5) hI (q_tk (k' := 6) hI (q_tk (k' := 1) hI ha rfl (Nat.succ_ne_zero _)) rfl (Nat.succ_ne_zero _)) rfl (Nat.succ_ne_zero _))) kv_X11_232 (q_tk (k' := 5) hI (q_tk (k' := 6) hI (q_tk (k' := 1) hI ha rfl (Nat.succ_ne_zero _)) rfl (Nat.succ_ne_zero _)) rfl (Nat.succ_ne_zero _)) ⟨Nat.le_of_ble_eq_true rfl, Nat.le_of_ble_eq_true rfl⟩ (Nat.le_of_ble_eq_true rfl) dX11_inGame_20) hI (Nat.le_of_ble_eq_true rfl) (fun r_7 σ_8 H locs hpσ_8 hkσ_8 hI => ?_)
    have ahpσ_8 := hpσ_8.1
    have bhpσ_8 := hpσ_8.2
    clear hpσ_8
    replace hI := q_Irw ahpσ_8 hI
    replace hF := q_letX hF bhpσ_8
    refine q_ci (q_rV10_1 (rest := []) E (hml.trans hl.1.symm) hI (c_X11_good l X σ a r_7 ha) kv_X11_156 ha ⟨Nat.le_of_ble_eq_true rfl, Nat.le_of_ble_eq_true rfl⟩ (Nat.le_of_ble_eq_true rfl) dX11_inGame_23) hI (Nat.le_of_ble_eq_true rfl) (fun r_9 σ_10 H locs hpσ_10 hkσ_10 hI => ?_)
    have ahpσ_10 := hpσ_10.1
    have bhpσ_10 := hpσ_10.2.1
    have chpσ_10 := hpσ_10.2.2
    clear hpσ_10
    have fr_σ_10 := fr_σ.call chpσ_10 rfl rfl
    replace hF := q_biX hF bhpσ_10
    refine lv_goto (tgt := 34) hx hb dX11_inGame_26 (by decide) ?_
    exact q_reti E hr hlk hI ⟨(hF.trans hout), fr_σ_10⟩ dX11_inGame_34

set_option maxRecDepth 100000 in
set_option maxHeartbeats 4000000 in
theorem c_X11_laying (l : Launch) (X : XW) (σ : ST) (a : Nat) (v1 : Int32) (v2 : Int32) (ha : q_kd X a = 11) : Met l yX11_laying (q_ws yX11_laying cX11_laying 4 (some .int)) (q_rm 2 44) (q_P X σ [.ref a, .int v1, .int v2]) (q_Qi X 8 σ (fun (r : Int32) (σ' : ST) => (r, σ') = F_X11_laying X σ a v1 v2 ∧ q_ow [(11, 0)] [] X σ σ')) 0 0 (q_reg X) := by
  refine q_met 8 (by first | exact rfl | decide +kernel) rfl (Nat.le_of_ble_eq_true rfl) (fun p e s m below meth c E hml hr hlk hI ls hl => ?_)
  have hx := E.1
  have hb := E.2.1
  have hl : lv_has ls 4 [(0, .ref a), (1, .int v1), (2, .int v2)] := hl
  have fr_σ : q_ow [(11, 0)] [] X σ σ := q_ow.rf
  obtain ⟨out, hout⟩ : ∃ o, o = F_X11_laying X σ a v1 v2 := ⟨_, rfl⟩
  have hF := hout.symm
  unfold F_X11_laying at hF
  refine lv_iload_n hx hb dX11_laying_0 rfl (lv_at hl 2 rfl) ?_
  refine q_if_lt (A := v2.toInt) E rfl (tgt := 9) dX11_laying_1 (by decide) (fun c_1 => ?_) (fun c_1 => ?_)
  · skip
    replace hF := q_ifp hF c_1
    refine lv_aload_n hx hb dX11_laying_9 rfl (lv_at hl 0 rfl) ?_
    refine lv_iconst (v := 5) hx hb dX11_laying_10 zki_5 ?_
    have kc_2 : (5 : Int32).toInt = 5 := zt_5
    refine q_ci (q_rV10_1 (rest := []) E (hml.trans hl.1.symm) hI (c_X11_none l X σ a (5 : Int32) ha) kv_X11_109 ha ⟨Nat.le_of_ble_eq_true rfl, Nat.le_of_ble_eq_true rfl⟩ (Nat.le_of_ble_eq_true rfl) dX11_laying_11) hI (Nat.le_of_ble_eq_true rfl) (fun r_3 σ_4 H locs hpσ_4 hkσ_4 hI => ?_)
    have ahpσ_4 := hpσ_4.1
    have bhpσ_4 := hpσ_4.2.1
    have chpσ_4 := hpσ_4.2.2
    clear hpσ_4
    have fr_σ_4 := fr_σ.call chpσ_4 rfl rfl
    replace hF := q_biX hF bhpσ_4
    exact q_reti E hr hlk hI ⟨(hF.trans hout), fr_σ_4⟩ dX11_laying_14
  · skip
    replace hF := q_ifn hF (Int.not_lt.mpr c_1)
    refine lv_iload_n hx hb dX11_laying_4 rfl (lv_at hl 2 rfl) ?_
    refine lv_iconst (v := 3) hx hb dX11_laying_5 zki_3 ?_
    refine q_icmp_le (A := v2.toInt) (B := 3) E rfl (by decide) (tgt := 15) dX11_laying_6 (by decide) (fun c_5 => ?_) (fun c_5 => ?_)
    · skip
      replace hF := q_ifn hF (Int.not_lt.mpr c_5)
      refine lv_aload_n hx hb dX11_laying_15 rfl (lv_at hl 0 rfl) ?_
      refine gs_X11_42_11 E hI ha dX11_laying_16 ?_
      refine gs_X11_201_1 E hI (q_tk (k' := 1) hI ha rfl (Nat.succ_ne_zero _)) dX11_laying_19 ?_
      refine lv_astore_n (lv' := [(3, .ref (q_rf X (q_rf X a 8) 2)), (0, .ref a), (1, .int v1), (2, .int v2)]) hx hb dX11_laying_22 rfl hl (by decide) rfl (fun ls hl => ?_)
      refine lv_iload_n hx hb dX11_laying_23 rfl (lv_at hl 2 rfl) ?_
      refine q_if_lt (A := v1.toInt) E rfl (tgt := 35) dX11_laying_24 (by decide) (fun c_6 => ?_) (fun c_6 => ?_)
      · skip
        replace hF := q_ifp hF c_6
        refine lv_aload_n hx hb dX11_laying_35 rfl (lv_at hl 1 rfl) ?_
        refine lv_bipush (v := 8) hx hb dX11_laying_36 zkb_8 ?_
        have kc_7 : (8 : Int32).toInt = 8 := zt_8
        refine q_ci (q_rV10_1 (rest := []) E (hml.trans hl.1.symm) hI (c_X11_none l X σ a (8 : Int32) ha) kv_X11_109 ha ⟨Nat.le_of_ble_eq_true rfl, Nat.le_of_ble_eq_true rfl⟩ (Nat.le_of_ble_eq_true rfl) dX11_laying_38) hI (Nat.le_of_ble_eq_true rfl) (fun r_8 σ_9 H locs hpσ_9 hkσ_9 hI => ?_)
        have ahpσ_9 := hpσ_9.1
        have bhpσ_9 := hpσ_9.2.1
        have chpσ_9 := hpσ_9.2.2
        clear hpσ_9
        have fr_σ_9 := fr_σ.call chpσ_9 rfl rfl
        replace hF := q_biX hF bhpσ_9
        exact q_reti E hr hlk hI ⟨(hF.trans hout), fr_σ_9⟩ dX11_laying_41
      · skip
        replace hF := q_ifn hF (Int.not_lt.mpr c_6)
        refine lv_iload_n hx hb dX11_laying_27 rfl (lv_at hl 2 rfl) ?_
        refine lv_aload_n hx hb dX11_laying_28 rfl (lv_at hl 0 rfl) ?_
        refine gs_X11_216_3 E hI (q_tk (k' := 3) hI (q_tk (k' := 1) hI ha rfl (Nat.succ_ne_zero _)) rfl (Nat.succ_ne_zero _)) dX11_laying_29 ?_
        refine lv_topi (fun f_10 ef_10 => ?_)
        replace hF := q_letX hF ef_10
        refine q_icmp_lt (A := v1.toInt) (B := f_10.toInt) E rfl rfl (tgt := 42) dX11_laying_32 (by decide) (fun c_11 => ?_) (fun c_11 => ?_)
        · skip
          replace hF := q_ifp hF c_11
          refine lv_iload_n hx hb dX11_laying_42 rfl (lv_at hl 3 rfl) ?_
          by_cases c_12 : v2.toInt = 0
          · refine lv_tableIn (off := 25) (tgt := 68) hx hb dX11_laying_43 (by first | (clear c_1 c_5 c_6 c_11; omega) | omega) (by first | (clear c_1 c_5 c_6 c_11; omega) | omega) (by rw [c_12]; rfl) (by decide) ?_
            replace hF := q_ifp hF c_12
            refine lv_aload_n hx hb dX11_laying_68 rfl (lv_at hl 1 rfl) ?_
            refine lv_aload_n hx hb dX11_laying_69 rfl (lv_at hl 0 rfl) ?_
            refine gs_X11_260_3 E hI (q_tk (k' := 3) hI (q_tk (k' := 1) hI ha rfl (Nat.succ_ne_zero _)) rfl (Nat.succ_ne_zero _)) dX11_laying_70 ?_
            refine lv_iload_n hx hb dX11_laying_73 rfl (lv_at hl 2 rfl) ?_
            refine q_ci (q_rV4_1 (rest := [.ref a]) E (hml.trans hl.1.symm) hI (c_X5_get l X σ (q_rf X (q_rf X (q_rf X a 8) 2) 2) v1 (q_tk (k' := 5) hI (q_tk (k' := 3) hI (q_tk (k' := 1) hI ha rfl (Nat.succ_ne_zero _)) rfl (Nat.succ_ne_zero _)) rfl (Nat.succ_ne_zero _))) kv_X11_232 (q_tk (k' := 5) hI (q_tk (k' := 3) hI (q_tk (k' := 1) hI ha rfl (Nat.succ_ne_zero _)) rfl (Nat.succ_ne_zero _)) rfl (Nat.succ_ne_zero _)) ⟨Nat.le_of_ble_eq_true rfl, Nat.le_of_ble_eq_true rfl⟩ (Nat.le_of_ble_eq_true rfl) dX11_laying_74) hI (Nat.le_of_ble_eq_true rfl) (fun r_13 σ_14 H locs hpσ_14 hkσ_14 hI => ?_)
            have ahpσ_14 := hpσ_14.1
            have bhpσ_14 := hpσ_14.2
            clear hpσ_14
            replace hI := q_Irw ahpσ_14 hI
            replace hF := q_letX hF bhpσ_14
            refine q_ci (q_rV10_1 (rest := []) E (hml.trans hl.1.symm) hI (c_X11_good l X σ a r_13 ha) kv_X11_156 ha ⟨Nat.le_of_ble_eq_true rfl, Nat.le_of_ble_eq_true rfl⟩ (Nat.le_of_ble_eq_true rfl) dX11_laying_77) hI (Nat.le_of_ble_eq_true rfl) (fun r_15 σ_16 H locs hpσ_16 hkσ_16 hI => ?_)
            have ahpσ_16 := hpσ_16.1
            have bhpσ_16 := hpσ_16.2.1
            have chpσ_16 := hpσ_16.2.2
            clear hpσ_16
            have fr_σ_16 := fr_σ.call chpσ_16 rfl rfl
            replace hF := q_biX hF bhpσ_16
            exact q_reti E hr hlk hI ⟨(hF.trans hout), fr_σ_16⟩ dX11_laying_80
          replace hF := q_ifn hF c_12
          by_cases c_17 : v2.toInt = 1
          · refine lv_tableIn (off := 38) (tgt := 81) hx hb dX11_laying_43 (by first | (clear c_1 c_5 c_6 c_11; omega) | omega) (by first | (clear c_1 c_5 c_6 c_11; omega) | omega) (by rw [c_17]; rfl) (by decide) ?_
            replace hF := q_ifp hF c_17
            refine lv_aload_n hx hb dX11_laying_81 rfl (lv_at hl 1 rfl) ?_
            refine lv_aload_n hx hb dX11_laying_82 rfl (lv_at hl 0 rfl) ?_
            refine gs_X11_263_3 E hI (q_tk (k' := 3) hI (q_tk (k' := 1) hI ha rfl (Nat.succ_ne_zero _)) rfl (Nat.succ_ne_zero _)) dX11_laying_83 ?_
            refine lv_iload_n hx hb dX11_laying_86 rfl (lv_at hl 2 rfl) ?_
            refine q_ci (q_rV4_1 (rest := [.ref a]) E (hml.trans hl.1.symm) hI (c_X5_get l X σ (q_rf X (q_rf X (q_rf X a 8) 2) 3) v1 (q_tk (k' := 5) hI (q_tk (k' := 3) hI (q_tk (k' := 1) hI ha rfl (Nat.succ_ne_zero _)) rfl (Nat.succ_ne_zero _)) rfl (Nat.succ_ne_zero _))) kv_X11_232 (q_tk (k' := 5) hI (q_tk (k' := 3) hI (q_tk (k' := 1) hI ha rfl (Nat.succ_ne_zero _)) rfl (Nat.succ_ne_zero _)) rfl (Nat.succ_ne_zero _)) ⟨Nat.le_of_ble_eq_true rfl, Nat.le_of_ble_eq_true rfl⟩ (Nat.le_of_ble_eq_true rfl) dX11_laying_87) hI (Nat.le_of_ble_eq_true rfl) (fun r_18 σ_19 H locs hpσ_19 hkσ_19 hI => ?_)
            have ahpσ_19 := hpσ_19.1
            have bhpσ_19 := hpσ_19.2
            clear hpσ_19
            replace hI := q_Irw ahpσ_19 hI
            replace hF := q_letX hF bhpσ_19
            refine q_ci (q_rV10_1 (rest := []) E (hml.trans hl.1.symm) hI (c_X11_good l X σ a r_18 ha) kv_X11_156 ha ⟨Nat.le_of_ble_eq_true rfl, Nat.le_of_ble_eq_true rfl⟩ (Nat.le_of_ble_eq_true rfl) dX11_laying_90) hI (Nat.le_of_ble_eq_true rfl) (fun r_20 σ_21 H locs hpσ_21 hkσ_21 hI => ?_)
            have ahpσ_21 := hpσ_21.1
            have bhpσ_21 := hpσ_21.2.1
            have chpσ_21 := hpσ_21.2.2
            clear hpσ_21
            have fr_σ_21 := fr_σ.call chpσ_21 rfl rfl
            replace hF := q_biX hF bhpσ_21
            exact q_reti E hr hlk hI ⟨(hF.trans hout), fr_σ_21⟩ dX11_laying_93
          replace hF := q_ifn hF c_17
          by_cases c_22 : v2.toInt = 2
          · refine lv_tableIn (off := 51) (tgt := 94) hx hb dX11_laying_43 (by first | (clear c_1 c_5 c_6 c_11; omega) | omega) (by first | (clear c_1 c_5 c_6 c_11; omega) | omega) (by rw [c_22]; rfl) (by decide) ?_
            replace hF := q_ifp hF c_22
            refine lv_aload_n hx hb dX11_laying_94 rfl (lv_at hl 1 rfl) ?_
            refine lv_aload_n hx hb dX11_laying_95 rfl (lv_at hl 0 rfl) ?_
            refine gs_X11_266_3 E hI (q_tk (k' := 3) hI (q_tk (k' := 1) hI ha rfl (Nat.succ_ne_zero _)) rfl (Nat.succ_ne_zero _)) dX11_laying_96 ?_
            refine lv_iload_n hx hb dX11_laying_99 rfl (lv_at hl 2 rfl) ?_
            refine q_ci (q_rV4_1 (rest := [.ref a]) E (hml.trans hl.1.symm) hI (c_X5_get l X σ (q_rf X (q_rf X (q_rf X a 8) 2) 4) v1 (q_tk (k' := 5) hI (q_tk (k' := 3) hI (q_tk (k' := 1) hI ha rfl (Nat.succ_ne_zero _)) rfl (Nat.succ_ne_zero _)) rfl (Nat.succ_ne_zero _))) kv_X11_232 (q_tk (k' := 5) hI (q_tk (k' := 3) hI (q_tk (k' := 1) hI ha rfl (Nat.succ_ne_zero _)) rfl (Nat.succ_ne_zero _)) rfl (Nat.succ_ne_zero _)) ⟨Nat.le_of_ble_eq_true rfl, Nat.le_of_ble_eq_true rfl⟩ (Nat.le_of_ble_eq_true rfl) dX11_laying_100) hI (Nat.le_of_ble_eq_true rfl) (fun r_23 σ_24 H locs hpσ_24 hkσ_24 hI => ?_)
            have ahpσ_24 := hpσ_24.1
            have bhpσ_24 := hpσ_24.2
            clear hpσ_24
            replace hI := q_Irw ahpσ_24 hI
            replace hF := q_letX hF bhpσ_24
            refine q_ci (q_rV10_1 (rest := []) E (hml.trans hl.1.symm) hI (c_X11_good l X σ a r_23 ha) kv_X11_156 ha ⟨Nat.le_of_ble_eq_true rfl, Nat.le_of_ble_eq_true rfl⟩ (Nat.le_of_ble_eq_true rfl) dX11_laying_103) hI (Nat.le_of_ble_eq_true rfl) (fun r_25 σ_26 H locs hpσ_26 hkσ_26 hI => ?_)
            have ahpσ_26 := hpσ_26.1
            have bhpσ_26 := hpσ_26.2.1
            have chpσ_26 := hpσ_26.2.2
            clear hpσ_26
            have fr_σ_26 := fr_σ.call chpσ_26 rfl rfl
            replace hF := q_biX hF bhpσ_26
            exact q_reti E hr hlk hI ⟨(hF.trans hout), fr_σ_26⟩ dX11_laying_106
          replace hF := q_ifn hF c_22
          refine lv_tableOut (tgt := 107) hx hb dX11_laying_43 (by first | (clear c_6 c_11; omega) | omega) (by decide) ?_
          refine lv_aload_n hx hb dX11_laying_107 rfl (lv_at hl 1 rfl) ?_
          refine lv_aload_n hx hb dX11_laying_108 rfl (lv_at hl 0 rfl) ?_
          refine lv_iload_n hx hb dX11_laying_109 rfl (lv_at hl 2 rfl) ?_
          refine q_ci (q_rV2_1 (rest := [.ref a]) E (hml.trans hl.1.symm) hI (c_X2_truth l X σ (q_rf X (q_rf X a 8) 2) v1 (q_tk (k' := 3) hI (q_tk (k' := 1) hI ha rfl (Nat.succ_ne_zero _)) rfl (Nat.succ_ne_zero _))) kv_X11_269 (q_tk (k' := 3) hI (q_tk (k' := 1) hI ha rfl (Nat.succ_ne_zero _)) rfl (Nat.succ_ne_zero _)) ⟨Nat.le_of_ble_eq_true rfl, Nat.le_of_ble_eq_true rfl⟩ (Nat.le_of_ble_eq_true rfl) dX11_laying_110) hI (Nat.le_of_ble_eq_true rfl) (fun r_27 σ_28 H locs hpσ_28 hkσ_28 hI => ?_)
          have ahpσ_28 := hpσ_28.1
          have bhpσ_28 := hpσ_28.2
          clear hpσ_28
          replace hI := q_Irw ahpσ_28 hI
          replace hF := q_letX hF bhpσ_28
          refine q_ci (q_rV10_1 (rest := []) E (hml.trans hl.1.symm) hI (c_X11_good l X σ a r_27 ha) kv_X11_156 ha ⟨Nat.le_of_ble_eq_true rfl, Nat.le_of_ble_eq_true rfl⟩ (Nat.le_of_ble_eq_true rfl) dX11_laying_113) hI (Nat.le_of_ble_eq_true rfl) (fun r_29 σ_30 H locs hpσ_30 hkσ_30 hI => ?_)
          have ahpσ_30 := hpσ_30.1
          have bhpσ_30 := hpσ_30.2.1
          have chpσ_30 := hpσ_30.2.2
          clear hpσ_30
          have fr_σ_30 := fr_σ.call chpσ_30 rfl rfl
          replace hF := q_biX hF bhpσ_30
          exact q_reti E hr hlk hI ⟨(hF.trans hout), fr_σ_30⟩ dX11_laying_116
        · skip
          replace hF := q_ifn hF (Int.not_lt.mpr c_11)
          refine lv_aload_n hx hb dX11_laying_35 rfl (lv_at hl 1 rfl) ?_
          refine lv_bipush (v := 8) hx hb dX11_laying_36 zkb_8 ?_
          have kc_31 : (8 : Int32).toInt = 8 := zt_8
          refine q_ci (q_rV10_1 (rest := []) E (hml.trans hl.1.symm) hI (c_X11_none l X σ a (8 : Int32) ha) kv_X11_109 ha ⟨Nat.le_of_ble_eq_true rfl, Nat.le_of_ble_eq_true rfl⟩ (Nat.le_of_ble_eq_true rfl) dX11_laying_38) hI (Nat.le_of_ble_eq_true rfl) (fun r_32 σ_33 H locs hpσ_33 hkσ_33 hI => ?_)
          have ahpσ_33 := hpσ_33.1
          have bhpσ_33 := hpσ_33.2.1
          have chpσ_33 := hpσ_33.2.2
          clear hpσ_33
          have fr_σ_33 := fr_σ.call chpσ_33 rfl rfl
          replace hF := q_biX hF bhpσ_33
          exact q_reti E hr hlk hI ⟨(hF.trans hout), fr_σ_33⟩ dX11_laying_41
    · skip
      replace hF := q_ifp hF c_5
      refine lv_aload_n hx hb dX11_laying_9 rfl (lv_at hl 0 rfl) ?_
      refine lv_iconst (v := 5) hx hb dX11_laying_10 zki_5 ?_
      have kc_34 : (5 : Int32).toInt = 5 := zt_5
      refine q_ci (q_rV10_1 (rest := []) E (hml.trans hl.1.symm) hI (c_X11_none l X σ a (5 : Int32) ha) kv_X11_109 ha ⟨Nat.le_of_ble_eq_true rfl, Nat.le_of_ble_eq_true rfl⟩ (Nat.le_of_ble_eq_true rfl) dX11_laying_11) hI (Nat.le_of_ble_eq_true rfl) (fun r_35 σ_36 H locs hpσ_36 hkσ_36 hI => ?_)
      have ahpσ_36 := hpσ_36.1
      have bhpσ_36 := hpσ_36.2.1
      have chpσ_36 := hpσ_36.2.2
      clear hpσ_36
      have fr_σ_36 := fr_σ.call chpσ_36 rfl rfl
      replace hF := q_biX hF bhpσ_36
      exact q_reti E hr hlk hI ⟨(hF.trans hout), fr_σ_36⟩ dX11_laying_14

set_option maxRecDepth 100000 in
set_option maxHeartbeats 4000000 in
theorem c_X11_cardOf (l : Launch) (X : XW) (σ : ST) (a : Nat) (v1 : Int32) (v2 : Int32) (ha : q_kd X a = 11) : Met l yX11_cardOf (q_ws yX11_cardOf cX11_cardOf 4 (some .int)) (q_rm 2 43) (q_P X σ [.ref a, .int v1, .int v2]) (q_Qi X 8 σ (fun (r : Int32) (σ' : ST) => (r, σ') = F_X11_cardOf X σ a v1 v2 ∧ q_ow [(11, 0)] [] X σ σ')) 0 0 (q_reg X) := by
  refine q_met 8 (by first | exact rfl | decide +kernel) rfl (Nat.le_of_ble_eq_true rfl) (fun p e s m below meth c E hml hr hlk hI ls hl => ?_)
  have hx := E.1
  have hb := E.2.1
  have hl : lv_has ls 4 [(0, .ref a), (1, .int v1), (2, .int v2)] := hl
  have fr_σ : q_ow [(11, 0)] [] X σ σ := q_ow.rf
  obtain ⟨out, hout⟩ : ∃ o, o = F_X11_cardOf X σ a v1 v2 := ⟨_, rfl⟩
  have hF := hout.symm
  unfold F_X11_cardOf at hF
  refine lv_aload_n hx hb dX11_cardOf_0 rfl (lv_at hl 0 rfl) ?_
  refine gs_X11_42_11 E hI ha dX11_cardOf_1 ?_
  refine gs_X11_201_1 E hI (q_tk (k' := 1) hI ha rfl (Nat.succ_ne_zero _)) dX11_cardOf_4 ?_
  refine lv_astore_n (lv' := [(3, .ref (q_rf X (q_rf X a 8) 2)), (0, .ref a), (1, .int v1), (2, .int v2)]) hx hb dX11_cardOf_7 rfl hl (by decide) rfl (fun ls hl => ?_)
  refine lv_iload_n hx hb dX11_cardOf_8 rfl (lv_at hl 2 rfl) ?_
  refine q_if_lt (A := v1.toInt) E rfl (tgt := 36) dX11_cardOf_9 (by decide) (fun c_1 => ?_) (fun c_1 => ?_)
  · skip
    replace hF := q_ifp hF c_1
    refine lv_aload_n hx hb dX11_cardOf_36 rfl (lv_at hl 1 rfl) ?_
    refine lv_bipush (v := 8) hx hb dX11_cardOf_37 zkb_8 ?_
    have kc_2 : (8 : Int32).toInt = 8 := zt_8
    refine q_ci (q_rV10_1 (rest := []) E (hml.trans hl.1.symm) hI (c_X11_none l X σ a (8 : Int32) ha) kv_X11_109 ha ⟨Nat.le_of_ble_eq_true rfl, Nat.le_of_ble_eq_true rfl⟩ (Nat.le_of_ble_eq_true rfl) dX11_cardOf_39) hI (Nat.le_of_ble_eq_true rfl) (fun r_3 σ_4 H locs hpσ_4 hkσ_4 hI => ?_)
    have ahpσ_4 := hpσ_4.1
    have bhpσ_4 := hpσ_4.2.1
    have chpσ_4 := hpσ_4.2.2
    clear hpσ_4
    have fr_σ_4 := fr_σ.call chpσ_4 rfl rfl
    replace hF := q_biX hF bhpσ_4
    exact q_reti E hr hlk hI ⟨(hF.trans hout), fr_σ_4⟩ dX11_cardOf_42
  · skip
    replace hF := q_ifn hF (Int.not_lt.mpr c_1)
    refine lv_iload_n hx hb dX11_cardOf_12 rfl (lv_at hl 2 rfl) ?_
    refine lv_aload_n hx hb dX11_cardOf_13 rfl (lv_at hl 0 rfl) ?_
    refine gs_X11_216_3 E hI (q_tk (k' := 3) hI (q_tk (k' := 1) hI ha rfl (Nat.succ_ne_zero _)) rfl (Nat.succ_ne_zero _)) dX11_cardOf_14 ?_
    refine lv_topi (fun f_5 ef_5 => ?_)
    replace hF := q_letX hF ef_5
    refine q_icmp_ge (A := v1.toInt) (B := f_5.toInt) E rfl rfl (tgt := 36) dX11_cardOf_17 (by decide) (fun c_6 => ?_) (fun c_6 => ?_)
    · skip
      replace hF := q_ifn hF (Int.not_lt.mpr c_6)
      refine lv_aload_n hx hb dX11_cardOf_36 rfl (lv_at hl 1 rfl) ?_
      refine lv_bipush (v := 8) hx hb dX11_cardOf_37 zkb_8 ?_
      have kc_7 : (8 : Int32).toInt = 8 := zt_8
      refine q_ci (q_rV10_1 (rest := []) E (hml.trans hl.1.symm) hI (c_X11_none l X σ a (8 : Int32) ha) kv_X11_109 ha ⟨Nat.le_of_ble_eq_true rfl, Nat.le_of_ble_eq_true rfl⟩ (Nat.le_of_ble_eq_true rfl) dX11_cardOf_39) hI (Nat.le_of_ble_eq_true rfl) (fun r_8 σ_9 H locs hpσ_9 hkσ_9 hI => ?_)
      have ahpσ_9 := hpσ_9.1
      have bhpσ_9 := hpσ_9.2.1
      have chpσ_9 := hpσ_9.2.2
      clear hpσ_9
      have fr_σ_9 := fr_σ.call chpσ_9 rfl rfl
      replace hF := q_biX hF bhpσ_9
      exact q_reti E hr hlk hI ⟨(hF.trans hout), fr_σ_9⟩ dX11_cardOf_42
    · skip
      replace hF := q_ifp hF c_6
      refine lv_iload_n hx hb dX11_cardOf_20 rfl (lv_at hl 3 rfl) ?_
      refine q_if_lt (A := v2.toInt) E rfl (tgt := 36) dX11_cardOf_21 (by decide) (fun c_10 => ?_) (fun c_10 => ?_)
      · skip
        replace hF := q_ifp hF c_10
        refine lv_aload_n hx hb dX11_cardOf_36 rfl (lv_at hl 1 rfl) ?_
        refine lv_bipush (v := 8) hx hb dX11_cardOf_37 zkb_8 ?_
        have kc_11 : (8 : Int32).toInt = 8 := zt_8
        refine q_ci (q_rV10_1 (rest := []) E (hml.trans hl.1.symm) hI (c_X11_none l X σ a (8 : Int32) ha) kv_X11_109 ha ⟨Nat.le_of_ble_eq_true rfl, Nat.le_of_ble_eq_true rfl⟩ (Nat.le_of_ble_eq_true rfl) dX11_cardOf_39) hI (Nat.le_of_ble_eq_true rfl) (fun r_12 σ_13 H locs hpσ_13 hkσ_13 hI => ?_)
        have ahpσ_13 := hpσ_13.1
        have bhpσ_13 := hpσ_13.2.1
        have chpσ_13 := hpσ_13.2.2
        clear hpσ_13
        have fr_σ_13 := fr_σ.call chpσ_13 rfl rfl
        replace hF := q_biX hF bhpσ_13
        exact q_reti E hr hlk hI ⟨(hF.trans hout), fr_σ_13⟩ dX11_cardOf_42
      · skip
        replace hF := q_ifn hF (Int.not_lt.mpr c_10)
        refine lv_iload_n hx hb dX11_cardOf_24 rfl (lv_at hl 3 rfl) ?_
        refine lv_aload_n hx hb dX11_cardOf_25 rfl (lv_at hl 0 rfl) ?_
        refine gs_X11_266_3 E hI (q_tk (k' := 3) hI (q_tk (k' := 1) hI ha rfl (Nat.succ_ne_zero _)) rfl (Nat.succ_ne_zero _)) dX11_cardOf_26 ?_
        refine lv_iload_n hx hb dX11_cardOf_29 rfl (lv_at hl 2 rfl) ?_
        refine q_ci (q_rV4_1 (rest := [.int v2]) E (hml.trans hl.1.symm) hI (c_X5_get l X σ (q_rf X (q_rf X (q_rf X a 8) 2) 4) v1 (q_tk (k' := 5) hI (q_tk (k' := 3) hI (q_tk (k' := 1) hI ha rfl (Nat.succ_ne_zero _)) rfl (Nat.succ_ne_zero _)) rfl (Nat.succ_ne_zero _))) kv_X11_232 (q_tk (k' := 5) hI (q_tk (k' := 3) hI (q_tk (k' := 1) hI ha rfl (Nat.succ_ne_zero _)) rfl (Nat.succ_ne_zero _)) rfl (Nat.succ_ne_zero _)) ⟨Nat.le_of_ble_eq_true rfl, Nat.le_of_ble_eq_true rfl⟩ (Nat.le_of_ble_eq_true rfl) dX11_cardOf_30) hI (Nat.le_of_ble_eq_true rfl) (fun r_14 σ_15 H locs hpσ_15 hkσ_15 hI => ?_)
        have ahpσ_15 := hpσ_15.1
        have bhpσ_15 := hpσ_15.2
        clear hpσ_15
        replace hI := q_Irw ahpσ_15 hI
        replace hF := q_letX hF bhpσ_15
        refine q_icmp_lt (A := v2.toInt) (B := r_14.toInt) E rfl rfl (tgt := 43) dX11_cardOf_33 (by decide) (fun c_16 => ?_) (fun c_16 => ?_)
        · skip
          replace hF := q_ifp hF c_16
          refine lv_aload_n hx hb dX11_cardOf_43 rfl (lv_at hl 1 rfl) ?_
          refine lv_aload_n hx hb dX11_cardOf_44 rfl (lv_at hl 0 rfl) ?_
          refine lv_iload_n hx hb dX11_cardOf_45 rfl (lv_at hl 2 rfl) ?_
          refine lv_iload_n hx hb dX11_cardOf_46 rfl (lv_at hl 3 rfl) ?_
          refine q_ci (q_rV2_2 (rest := [.ref a]) E (hml.trans hl.1.symm) hI (c_X2_kindOf l X σ (q_rf X (q_rf X a 8) 2) v1 v2 (q_tk (k' := 3) hI (q_tk (k' := 1) hI ha rfl (Nat.succ_ne_zero _)) rfl (Nat.succ_ne_zero _))) kv_X11_272 (q_tk (k' := 3) hI (q_tk (k' := 1) hI ha rfl (Nat.succ_ne_zero _)) rfl (Nat.succ_ne_zero _)) ⟨Nat.le_of_ble_eq_true rfl, Nat.le_of_ble_eq_true rfl⟩ (Nat.le_of_ble_eq_true rfl) dX11_cardOf_47) hI (Nat.le_of_ble_eq_true rfl) (fun r_17 σ_18 H locs hpσ_18 hkσ_18 hI => ?_)
          have ahpσ_18 := hpσ_18.1
          have bhpσ_18 := hpσ_18.2
          clear hpσ_18
          replace hI := q_Irw ahpσ_18 hI
          replace hF := q_letX hF bhpσ_18
          refine q_ci (q_rV10_1 (rest := []) E (hml.trans hl.1.symm) hI (c_X11_good l X σ a r_17 ha) kv_X11_156 ha ⟨Nat.le_of_ble_eq_true rfl, Nat.le_of_ble_eq_true rfl⟩ (Nat.le_of_ble_eq_true rfl) dX11_cardOf_50) hI (Nat.le_of_ble_eq_true rfl) (fun r_19 σ_20 H locs hpσ_20 hkσ_20 hI => ?_)
          have ahpσ_20 := hpσ_20.1
          have bhpσ_20 := hpσ_20.2.1
          have chpσ_20 := hpσ_20.2.2
          clear hpσ_20
          have fr_σ_20 := fr_σ.call chpσ_20 rfl rfl
          replace hF := q_biX hF bhpσ_20
          exact q_reti E hr hlk hI ⟨(hF.trans hout), fr_σ_20⟩ dX11_cardOf_53
        · skip
          replace hF := q_ifn hF (Int.not_lt.mpr c_16)
          refine lv_aload_n hx hb dX11_cardOf_36 rfl (lv_at hl 1 rfl) ?_
          refine lv_bipush (v := 8) hx hb dX11_cardOf_37 zkb_8 ?_
          have kc_21 : (8 : Int32).toInt = 8 := zt_8
          refine q_ci (q_rV10_1 (rest := []) E (hml.trans hl.1.symm) hI (c_X11_none l X σ a (8 : Int32) ha) kv_X11_109 ha ⟨Nat.le_of_ble_eq_true rfl, Nat.le_of_ble_eq_true rfl⟩ (Nat.le_of_ble_eq_true rfl) dX11_cardOf_39) hI (Nat.le_of_ble_eq_true rfl) (fun r_22 σ_23 H locs hpσ_23 hkσ_23 hI => ?_)
          have ahpσ_23 := hpσ_23.1
          have bhpσ_23 := hpσ_23.2.1
          have chpσ_23 := hpσ_23.2.2
          clear hpσ_23
          have fr_σ_23 := fr_σ.call chpσ_23 rfl rfl
          replace hF := q_biX hF bhpσ_23
          exact q_reti E hr hlk hI ⟨(hF.trans hout), fr_σ_23⟩ dX11_cardOf_42

set_option maxRecDepth 100000 in
set_option maxHeartbeats 4000000 in
theorem c_X11_copyHand (l : Launch) (X : XW) (σ : ST) (a : Nat) (v1 : Int32) (v2 : Int32) (ha : q_kd X a = 11) : Met l yX11_copyHand (q_ws yX11_copyHand cX11_copyHand 6 (some .int)) (q_rm 2 45) (q_P X σ [.ref a, .int v1, .int v2]) (q_Qi X 8 σ (fun (r : Int32) (σ' : ST) => (r, σ') = F_X11_copyHand X σ a v1 v2 ∧ q_ow [(11, 0)] [(21, 99)] X σ σ')) 0 0 (q_reg X) := by
  refine q_met 8 (by first | exact rfl | decide +kernel) rfl (Nat.le_of_ble_eq_true rfl) (fun p e s m below meth c E hml hr hlk hI ls hl => ?_)
  have hx := E.1
  have hb := E.2.1
  have hl : lv_has ls 6 [(0, .ref a), (1, .int v1), (2, .int v2)] := hl
  have fr_σ : q_ow [(11, 0)] [(21, 99)] X σ σ := q_ow.rf
  obtain ⟨out, hout⟩ : ∃ o, o = F_X11_copyHand X σ a v1 v2 := ⟨_, rfl⟩
  have hF := hout.symm
  unfold F_X11_copyHand at hF
  refine lv_aload_n hx hb dX11_copyHand_0 rfl (lv_at hl 0 rfl) ?_
  refine lv_iload_n hx hb dX11_copyHand_1 rfl (lv_at hl 2 rfl) ?_
  refine q_cq (q_rV10_1 (rest := []) E (hml.trans hl.1.symm) hI (c_X11_trayAt l X σ a v2 ha) kv_X11_85 ha ⟨Nat.le_of_ble_eq_true rfl, Nat.le_of_ble_eq_true rfl⟩ (Nat.le_of_ble_eq_true rfl) dX11_copyHand_2) hI (Nat.le_of_ble_eq_true rfl) (fun r_1 σ_2 H locs hpσ_2 hkσ_2 hI => ?_)
  have ahpσ_2 := hpσ_2.1
  have bhpσ_2 := hpσ_2.2.1
  have chpσ_2 := hpσ_2.2.2
  clear hpσ_2
  replace hI := q_Irw ahpσ_2 hI
  replace hF := q_letX hF chpσ_2
  rcases r_1 with _ | r_1
  · show W _ _ _ _ _ _ _ _ _ _ _ _ _ _ _ (F0 m (2 + 3) ls [.null])
    replace hF := q_onN hF
    have nq_v2 := bhpσ_2.2 rfl
    refine lv_astore_nN (lv' := [(3, .null), (0, .ref a), (1, .int v1), (2, .int v2)]) hx hb dX11_copyHand_5 rfl hl (by decide) rfl (fun ls hl => ?_)
    refine lv_aload_nN hx hb dX11_copyHand_6 rfl (lv_at hl 0 rfl) ?_
    refine lv_ifnonnullN hx hb dX11_copyHand_7 ?_
    refine lv_aload_n hx hb dX11_copyHand_10 rfl (lv_at hl 1 rfl) ?_
    refine lv_iconst (v := 1) hx hb dX11_copyHand_11 zki_1 ?_
    have kc_3 : (1 : Int32).toInt = 1 := zt_1
    refine q_ci (q_rV10_1 (rest := []) E (hml.trans hl.1.symm) hI (c_X11_none l X σ a (1 : Int32) ha) kv_X11_109 ha ⟨Nat.le_of_ble_eq_true rfl, Nat.le_of_ble_eq_true rfl⟩ (Nat.le_of_ble_eq_true rfl) dX11_copyHand_12) hI (Nat.le_of_ble_eq_true rfl) (fun r_4 σ_5 H locs hpσ_5 hkσ_5 hI => ?_)
    have ahpσ_5 := hpσ_5.1
    have bhpσ_5 := hpσ_5.2.1
    have chpσ_5 := hpσ_5.2.2
    clear hpσ_5
    have fr_σ_5 := fr_σ.call chpσ_5 rfl rfl
    replace hF := q_biX hF bhpσ_5
    exact q_reti E hr hlk hI ⟨(hF.trans hout), fr_σ_5⟩ dX11_copyHand_15
  · show W _ _ _ _ _ _ _ _ _ _ _ _ _ _ _ (F0 m (2 + 3) ls [.ref r_1])
    replace hF := q_onS hF
    obtain ⟨kq_r_1, eq_r_1, lo_r_1, hi_r_1⟩ := bhpσ_2.1 _ rfl
    have f0_r_1 : (σ.1 (q_rf X (q_rf X a 3) v2.toNatClampNeg) 0).toInt = (σ.1 r_1 0).toInt := by rw [← eq_r_1]
    have f1_r_1 : (σ.1 (q_rf X (q_rf X a 3) v2.toNatClampNeg) 1).toInt = (σ.1 r_1 1).toInt := by rw [← eq_r_1]
    have g1_r_1 : -1 ≤ (σ.1 r_1 1).toInt ∧ (σ.1 r_1 1).toInt ≤ 60 := q_bd hI kq_r_1 rfl
    refine lv_astore_n (lv' := [(3, .ref r_1), (0, .ref a), (1, .int v1), (2, .int v2)]) hx hb dX11_copyHand_5 rfl hl (by decide) rfl (fun ls hl => ?_)
    refine lv_aload_n hx hb dX11_copyHand_6 rfl (lv_at hl 0 rfl) ?_
    refine lv_ifnonnull (tgt := 16) hx hb dX11_copyHand_7 (by decide) ?_
    refine lv_aload_n hx hb dX11_copyHand_16 rfl (lv_at hl 0 rfl) ?_
    refine q_ci (q_rV9_0 (rest := []) E (hml.trans hl.1.symm) hI (c_X10_isMissing l X σ r_1 kq_r_1) kv_X11_117 kq_r_1 ⟨Nat.le_of_ble_eq_true rfl, Nat.le_of_ble_eq_true rfl⟩ (Nat.le_of_ble_eq_true rfl) dX11_copyHand_17) hI (Nat.le_of_ble_eq_true rfl) (fun r_6 σ_7 H locs hpσ_7 hkσ_7 hI => ?_)
    have ahpσ_7 := hpσ_7.1
    have bhpσ_7 := hpσ_7.2.1
    have chpσ_7 := hpσ_7.2.2.1
    have dhpσ_7 := hpσ_7.2.2.2
    clear hpσ_7
    replace hI := q_Irw ahpσ_7 hI
    replace hF := q_letX hF dhpσ_7
    refine q_if_eq (A := r_6.toInt) E rfl (tgt := 29) dX11_copyHand_20 (by decide) (fun c_8 => ?_) (fun c_8 => ?_)
    · skip
      replace hF := q_ifp hF c_8
      replace chpσ_7 := q_ifNo chpσ_7 c_8
      refine lv_aload_n hx hb dX11_copyHand_29 rfl (lv_at hl 1 rfl) ?_
      refine lv_iload_n hx hb dX11_copyHand_30 rfl (lv_at hl 2 rfl) ?_
      refine q_ci (q_rV10_1 (rest := []) E (hml.trans hl.1.symm) hI (c_X11_isPlayer l X σ a v1 ha) kv_X11_219 ha ⟨Nat.le_of_ble_eq_true rfl, Nat.le_of_ble_eq_true rfl⟩ (Nat.le_of_ble_eq_true rfl) dX11_copyHand_31) hI (Nat.le_of_ble_eq_true rfl) (fun r_9 σ_10 H locs hpσ_10 hkσ_10 hI => ?_)
      have ahpσ_10 := hpσ_10.1
      have bhpσ_10 := hpσ_10.2.1
      have chpσ_10 := hpσ_10.2.2
      clear hpσ_10
      replace hI := q_Irw ahpσ_10 hI
      replace hF := q_letX hF chpσ_10
      refine q_if_ne (A := r_9.toInt) E rfl (tgt := 43) dX11_copyHand_34 (by decide) (fun c_11 => ?_) (fun c_11 => ?_)
      · skip
        replace hF := q_ifn hF c_11
        replace c_11 := q_ifOne bhpσ_10 c_11
        refine lv_aload_n hx hb dX11_copyHand_43 rfl (lv_at hl 1 rfl) ?_
        refine gs_X11_42_11 E hI ha dX11_copyHand_44 ?_
        refine gs_X11_147_1 E hI (q_tk (k' := 1) hI ha rfl (Nat.succ_ne_zero _)) dX11_copyHand_47 ?_
        refine gs_X11_183_6 E hI (q_tk (k' := 6) hI (q_tk (k' := 1) hI ha rfl (Nat.succ_ne_zero _)) rfl (Nat.succ_ne_zero _)) dX11_copyHand_50 ?_
        refine lv_topi (fun f_12 ef_12 => ?_)
        replace hF := q_letX hF ef_12
        have bf_12 : -2147483648 ≤ f_12.toInt ∧ f_12.toInt ≤ 10 := by rw [ef_12]; exact q_bd hI (q_tk (k' := 6) hI (q_tk (k' := 1) hI ha rfl (Nat.succ_ne_zero _)) rfl (Nat.succ_ne_zero _)) rfl
        refine lv_istore (lv' := [(4, .int f_12), (3, .ref r_1), (0, .ref a), (1, .int v1), (2, .int v2)]) hx hb dX11_copyHand_53 hl (by decide) rfl (fun ls hl => ?_)
        refine lv_aload_n hx hb dX11_copyHand_55 rfl (lv_at hl 1 rfl) ?_
        refine lv_iconst (v := 0) hx hb dX11_copyHand_56 zki_0 ?_
        refine lv_iload hx hb dX11_copyHand_57 (lv_at hl 0 rfl) ?_
        have kc_13 : (0 : Int32).toInt = 0 := zt_0
        refine q_ci (q_rV9_2 (rest := []) E (hml.trans hl.1.symm) hI (c_X10_hasPlaces l X σ r_1 (0 : Int32) f_12 kq_r_1) kv_X11_123 kq_r_1 ⟨Nat.le_of_ble_eq_true rfl, Nat.le_of_ble_eq_true rfl⟩ (Nat.le_of_ble_eq_true rfl) dX11_copyHand_59) hI (Nat.le_of_ble_eq_true rfl) (fun r_14 σ_15 H locs hpσ_15 hkσ_15 hI => ?_)
        have ahpσ_15 := hpσ_15.1
        have bhpσ_15 := hpσ_15.2.1
        have chpσ_15 := hpσ_15.2.2.1
        have dhpσ_15 := hpσ_15.2.2.2
        clear hpσ_15
        replace hI := q_Irw ahpσ_15 hI
        replace hF := q_letX hF dhpσ_15
        refine q_if_ne (A := r_14.toInt) E rfl (tgt := 71) dX11_copyHand_62 (by decide) (fun c_16 => ?_) (fun c_16 => ?_)
        · skip
          replace hF := q_ifn hF c_16
          replace c_16 := q_ifOne bhpσ_15 c_16
          replace chpσ_15 := q_ifYes chpσ_15 c_16
          refine lv_iconst (v := 0) hx hb dX11_copyHand_71 zki_0 ?_
          refine lv_istore (lv' := [(5, .int 0), (4, .int f_12), (3, .ref r_1), (0, .ref a), (1, .int v1), (2, .int v2)]) hx hb dX11_copyHand_72 hl (by decide) rfl (fun ls hl => ?_)
          have L_74_19 : ∀ (k_19 : Nat) (x_17 : Int32) (σ_18 : ST) (H : Heap) (locs : List Loc) (ls : Array Slot), (2147483647 - x_17.toInt).toNat < k_19 → (0 ≤ x_17.toInt) → (q_ow [(11, 0)] [(21, 99)] X σ σ_18) → (F_X11_copyHand_L74_1 X f_12 a v1 r_1 k_19 x_17 σ_18 = out) → q_I X 8 σ s.heap locs σ_18 H → lv_has ls 6 [(0, .ref a), (1, .int v1), (2, .int v2), (3, .ref r_1), (4, .int f_12), (5, .int x_17)] → W p l e (q_rm 2 45) s m ([.ref a, .int v1, .int v2] : List Value).toArray below meth c H locs 0 0 (MQ below (q_Qi X 8 σ (fun (r : Int32) (σ' : ST) => (r, σ') = F_X11_copyHand X σ a v1 v2 ∧ q_ow [(11, 0)] [(21, 99)] X σ σ')) ([.ref a, .int v1, .int v2] : List Value).toArray s 0 0 (q_reg X)) (F0 m 74 ls []) := by
            clear hF
            intro k_19
            induction k_19 with
            | zero =>
              intro x_17 σ_18 H locs ls hms
              exact absurd hms (Nat.not_lt_zero _)
            | succ k_19 ih74 =>
              intro x_17 σ_18 H locs ls hm74 hge74 fr_σ_18 hF hI hl
              replace hF := (F_X11_copyHand_L74_1_s).symm.trans hF
              unfold F_X11_copyHand_B74_1 at hF
              refine lv_iload hx hb dX11_copyHand_74 (lv_at hl 5 rfl) ?_
              refine lv_iload hx hb dX11_copyHand_76 (lv_at hl 4 rfl) ?_
              have gc_20_x_17 := q_rng x_17
              have gc_20_f_12 := q_rng f_12
              refine q_icmp_ge (A := x_17.toInt) (B := f_12.toInt) E rfl rfl (tgt := 107) dX11_copyHand_78 (by decide) (fun c_20 => ?_) (fun c_20 => ?_)
              · skip
                replace hF := q_ifn hF (Int.not_lt.mpr c_20)
                unfold F_X11_copyHand_E107_2 at hF
                refine lv_aload_n hx hb dX11_copyHand_107 rfl (lv_at hl 0 rfl) ?_
                refine lv_iload hx hb dX11_copyHand_108 (lv_at hl 4 rfl) ?_
                refine q_ci (q_rV10_1 (rest := []) E (hml.trans hl.1.symm) hI (c_X11_good l X σ_18 a f_12 ha) kv_X11_156 ha ⟨Nat.le_of_ble_eq_true rfl, Nat.le_of_ble_eq_true rfl⟩ (Nat.le_of_ble_eq_true rfl) dX11_copyHand_110) hI (Nat.le_of_ble_eq_true rfl) (fun r_21 σ_22 H locs hpσ_22 hkσ_22 hI => ?_)
                have ahpσ_22 := hpσ_22.1
                have bhpσ_22 := hpσ_22.2.1
                have chpσ_22 := hpσ_22.2.2
                clear hpσ_22
                have fr_σ_22 := fr_σ_18.call chpσ_22 rfl rfl
                replace hF := q_biX hF bhpσ_22
                exact q_reti E hr hlk hI ⟨(hF.trans hout), fr_σ_22⟩ dX11_copyHand_113
              · skip
                replace hF := q_ifp hF c_20
                refine lv_aload_n hx hb dX11_copyHand_81 rfl (lv_at hl 3 rfl) ?_
                refine lv_iload hx hb dX11_copyHand_82 (lv_at hl 5 rfl) ?_
                refine lv_aload_n hx hb dX11_copyHand_84 rfl (lv_at hl 0 rfl) ?_
                refine gs_X11_42_11 E hI ha dX11_copyHand_85 ?_
                refine gs_X11_222_1 E hI (q_tk (k' := 1) hI ha rfl (Nat.succ_ne_zero _)) dX11_copyHand_88 ?_
                refine lv_iload_n hx hb dX11_copyHand_91 rfl (lv_at hl 1 rfl) ?_
                refine lv_iload hx hb dX11_copyHand_92 (lv_at hl 5 rfl) ?_
                refine q_ci (q_rV1_2 (rest := [.int x_17, .ref r_1]) E (hml.trans hl.1.symm) hI (c_X1_heldBy l X σ_18 (q_rf X (q_rf X a 8) 1) v1 x_17 (q_tk (k' := 2) hI (q_tk (k' := 1) hI ha rfl (Nat.succ_ne_zero _)) rfl (Nat.succ_ne_zero _))) kv_X11_253 (q_tk (k' := 2) hI (q_tk (k' := 1) hI ha rfl (Nat.succ_ne_zero _)) rfl (Nat.succ_ne_zero _)) ⟨Nat.le_of_ble_eq_true rfl, Nat.le_of_ble_eq_true rfl⟩ (Nat.le_of_ble_eq_true rfl) dX11_copyHand_94) hI (Nat.le_of_ble_eq_true rfl) (fun r_23 σ_24 H locs hpσ_24 hkσ_24 hI => ?_)
                have ahpσ_24 := hpσ_24.1
                have bhpσ_24 := hpσ_24.2
                clear hpσ_24
                replace hI := q_Irw ahpσ_24 hI
                replace hF := q_letX hF bhpσ_24
                refine lv_i2l hx hb dX11_copyHand_97 rfl ?_
                refine lv_topl (fun y_25 ey_25 => ?_)
                replace hF := q_letX hF ey_25
                refine q_cv (q_rV9_2 (rest := []) E (hml.trans hl.1.symm) hI (c_X10_put l X σ_18 r_1 x_17 y_25 kq_r_1) kv_X11_105 kq_r_1 ⟨Nat.le_of_ble_eq_true rfl, Nat.le_of_ble_eq_true rfl⟩ (Nat.le_of_ble_eq_true rfl) dX11_copyHand_98) hI (Nat.le_of_ble_eq_true rfl) (fun σ_27 H locs hpσ_27 hkσ_27 hI => ?_)
                have ahpσ_27 := hpσ_27.1
                have bhpσ_27 := hpσ_27.2
                clear hpσ_27
                have fr_σ_27 := fr_σ_18.call bhpσ_27 rfl rfl
                replace hF := q_letX hF ahpσ_27
                obtain ⟨z_28, ez_28⟩ : ∃ y : Int32, y = x_17 + 1 := ⟨_, rfl⟩
                replace hF := q_letX hF ez_28
                refine lv_iinc (v := z_28) (lv' := [(5, .int z_28), (0, .ref a), (1, .int v1), (2, .int v2), (3, .ref r_1), (4, .int f_12)]) hx hb dX11_copyHand_101 hl (k := 5) rfl (by rw [ez_28]; rfl) (by decide) rfl (fun ls hl => ?_)
                have iz_28 : z_28.toInt = x_17.toInt + 1 := q_inc ez_28 (by first | (clear ahpσ_2 bhpσ_2 chpσ_2 lo_r_1 hi_r_1 f0_r_1 f1_r_1 g1_r_1 ahpσ_7 bhpσ_7 dhpσ_7 c_8 chpσ_7 ahpσ_10 bhpσ_10 chpσ_10 c_11 kc_13 ahpσ_15 bhpσ_15 dhpσ_15 c_16 hm74 gc_20_f_12 ahpσ_24 bhpσ_24 ahpσ_27 bhpσ_27; omega) | omega)
                refine lv_goto (tgt := 74) hx hb dX11_copyHand_104 (by decide) ?_
                exact ih74 z_28 σ_27 _ _ ls (by first | (clear ahpσ_2 bhpσ_2 chpσ_2 lo_r_1 hi_r_1 f0_r_1 f1_r_1 g1_r_1 ahpσ_7 bhpσ_7 dhpσ_7 c_8 chpσ_7 ahpσ_10 bhpσ_10 chpσ_10 c_11 kc_13 ahpσ_15 bhpσ_15 dhpσ_15 c_16 gc_20_f_12 ahpσ_24 bhpσ_24 ahpσ_27 bhpσ_27; omega) | omega) (by first | (clear ahpσ_2 bhpσ_2 chpσ_2 lo_r_1 hi_r_1 f0_r_1 f1_r_1 g1_r_1 ahpσ_7 bhpσ_7 dhpσ_7 c_8 chpσ_7 ahpσ_10 bhpσ_10 chpσ_10 c_11 bf_12 kc_13 ahpσ_15 bhpσ_15 dhpσ_15 c_16 chpσ_15 hm74 gc_20_f_12 c_20 ahpσ_24 bhpσ_24 ahpσ_27 bhpσ_27; omega) | omega) fr_σ_27 hF hI (lv_sub hl [1, 2, 3, 4, 5, 0] rfl)
          exact L_74_19 ((2147483647 - (0 : Int32).toInt).toNat + 1) 0 σ _ _ ls (Nat.lt_succ_self _) (by decide) fr_σ hF hI (lv_sub hl [3, 4, 5, 2, 1, 0] rfl)
        · skip
          replace hF := q_ifp hF c_16
          replace chpσ_15 := q_ifNo chpσ_15 c_16
          refine lv_aload_n hx hb dX11_copyHand_65 rfl (lv_at hl 2 rfl) ?_
          refine lv_iconst (v := 4) hx hb dX11_copyHand_66 zki_4 ?_
          have kc_29 : (4 : Int32).toInt = 4 := zt_4
          refine q_ci (q_rV10_1 (rest := []) E (hml.trans hl.1.symm) hI (c_X11_none l X σ a (4 : Int32) ha) kv_X11_109 ha ⟨Nat.le_of_ble_eq_true rfl, Nat.le_of_ble_eq_true rfl⟩ (Nat.le_of_ble_eq_true rfl) dX11_copyHand_67) hI (Nat.le_of_ble_eq_true rfl) (fun r_30 σ_31 H locs hpσ_31 hkσ_31 hI => ?_)
          have ahpσ_31 := hpσ_31.1
          have bhpσ_31 := hpσ_31.2.1
          have chpσ_31 := hpσ_31.2.2
          clear hpσ_31
          have fr_σ_31 := fr_σ.call chpσ_31 rfl rfl
          replace hF := q_biX hF bhpσ_31
          exact q_reti E hr hlk hI ⟨(hF.trans hout), fr_σ_31⟩ dX11_copyHand_70
      · skip
        replace hF := q_ifp hF c_11
        refine lv_aload_n hx hb dX11_copyHand_37 rfl (lv_at hl 1 rfl) ?_
        refine lv_iconst (v := 2) hx hb dX11_copyHand_38 zki_2 ?_
        have kc_32 : (2 : Int32).toInt = 2 := zt_2
        refine q_ci (q_rV10_1 (rest := []) E (hml.trans hl.1.symm) hI (c_X11_none l X σ a (2 : Int32) ha) kv_X11_109 ha ⟨Nat.le_of_ble_eq_true rfl, Nat.le_of_ble_eq_true rfl⟩ (Nat.le_of_ble_eq_true rfl) dX11_copyHand_39) hI (Nat.le_of_ble_eq_true rfl) (fun r_33 σ_34 H locs hpσ_34 hkσ_34 hI => ?_)
        have ahpσ_34 := hpσ_34.1
        have bhpσ_34 := hpσ_34.2.1
        have chpσ_34 := hpσ_34.2.2
        clear hpσ_34
        have fr_σ_34 := fr_σ.call chpσ_34 rfl rfl
        replace hF := q_biX hF bhpσ_34
        exact q_reti E hr hlk hI ⟨(hF.trans hout), fr_σ_34⟩ dX11_copyHand_42
    · skip
      replace hF := q_ifn hF c_8
      replace c_8 := q_ifOne bhpσ_7 c_8
      replace chpσ_7 := q_ifYes chpσ_7 c_8
      refine lv_aload_n hx hb dX11_copyHand_23 rfl (lv_at hl 1 rfl) ?_
      refine lv_iconst (v := 3) hx hb dX11_copyHand_24 zki_3 ?_
      have kc_35 : (3 : Int32).toInt = 3 := zt_3
      refine q_ci (q_rV10_1 (rest := []) E (hml.trans hl.1.symm) hI (c_X11_none l X σ a (3 : Int32) ha) kv_X11_109 ha ⟨Nat.le_of_ble_eq_true rfl, Nat.le_of_ble_eq_true rfl⟩ (Nat.le_of_ble_eq_true rfl) dX11_copyHand_25) hI (Nat.le_of_ble_eq_true rfl) (fun r_36 σ_37 H locs hpσ_37 hkσ_37 hI => ?_)
      have ahpσ_37 := hpσ_37.1
      have bhpσ_37 := hpσ_37.2.1
      have chpσ_37 := hpσ_37.2.2
      clear hpσ_37
      have fr_σ_37 := fr_σ.call chpσ_37 rfl rfl
      replace hF := q_biX hF bhpσ_37
      exact q_reti E hr hlk hI ⟨(hF.trans hout), fr_σ_37⟩ dX11_copyHand_28

set_option maxRecDepth 100000 in
set_option maxHeartbeats 4000000 in
theorem c_X11_isKindOrNone (l : Launch) (X : XW) (σ : ST) (a : Nat) (v1 : Int32) (ha : q_kd X a = 11) : Met l yX11_isKindOrNone (q_ws yX11_isKindOrNone cX11_isKindOrNone 2 (some .boolean)) (q_rm 1 21) (q_P X σ [.ref a, .int v1]) (q_Qi X 9 σ (fun (r : Int32) (σ' : ST) => σ' = σ ∧ (0 ≤ r.toInt ∧ r.toInt ≤ 1) ∧ r = F_X11_isKindOrNone X σ a v1)) 0 0 (q_reg X) := by
  refine q_met 9 (by first | exact rfl | decide +kernel) rfl (Nat.le_of_ble_eq_true rfl) (fun p e s m below meth c E hml hr hlk hI ls hl => ?_)
  have hx := E.1
  have hb := E.2.1
  have hl : lv_has ls 2 [(0, .ref a), (1, .int v1)] := hl
  obtain ⟨out, hout⟩ : ∃ o, o = F_X11_isKindOrNone X σ a v1 := ⟨_, rfl⟩
  have hF := hout.symm
  unfold F_X11_isKindOrNone at hF
  refine lv_iload_n hx hb dX11_isKindOrNone_0 rfl (lv_at hl 1 rfl) ?_
  refine lv_iconst (v := (-1)) hx hb dX11_isKindOrNone_1 zki_m1 ?_
  refine q_icmp_eq (A := v1.toInt) (B := (-1)) E rfl (by decide) (tgt := 13) dX11_isKindOrNone_2 (by decide) (fun c_1 => ?_) (fun c_1 => ?_)
  · skip
    replace hF := q_ifp hF c_1
    refine lv_iconst (v := 1) hx hb dX11_isKindOrNone_13 zki_1 ?_
    refine lv_goto (tgt := 18) hx hb dX11_isKindOrNone_14 (by decide) ?_
    have hrv : (1 : Int32).toInt = 1 := zt_1
    exact q_retz E hr hlk hI ⟨by decide, by decide⟩ ⟨rfl, ⟨by decide, by decide⟩, (hF.trans hout)⟩ dX11_isKindOrNone_18
  · skip
    replace hF := q_ifn hF c_1
    refine lv_aload_n hx hb dX11_isKindOrNone_5 rfl (lv_at hl 0 rfl) ?_
    refine lv_iload_n hx hb dX11_isKindOrNone_6 rfl (lv_at hl 1 rfl) ?_
    refine q_ci (q_rV10_1 (rest := []) E (hml.trans hl.1.symm) hI (c_X11_isKind l X σ a v1 ha) kv_X11_250 ha ⟨Nat.le_of_ble_eq_true rfl, Nat.le_of_ble_eq_true rfl⟩ (Nat.le_of_ble_eq_true rfl) dX11_isKindOrNone_7) hI (Nat.le_of_ble_eq_true rfl) (fun r_2 σ_3 H locs hpσ_3 hkσ_3 hI => ?_)
    have ahpσ_3 := hpσ_3.1
    have bhpσ_3 := hpσ_3.2.1
    have chpσ_3 := hpσ_3.2.2
    clear hpσ_3
    replace hI := q_Irw ahpσ_3 hI
    replace hF := q_letX hF chpσ_3
    refine q_if_eq (A := r_2.toInt) E rfl (tgt := 17) dX11_isKindOrNone_10 (by decide) (fun c_4 => ?_) (fun c_4 => ?_)
    · skip
      replace hF := q_ifp hF c_4
      refine lv_iconst (v := 0) hx hb dX11_isKindOrNone_17 zki_0 ?_
      have hrv : (0 : Int32).toInt = 0 := zt_0
      exact q_retz E hr hlk hI ⟨by decide, by decide⟩ ⟨rfl, ⟨by decide, by decide⟩, (hF.trans hout)⟩ dX11_isKindOrNone_18
    · skip
      replace hF := q_ifn hF c_4
      replace c_4 := q_ifOne bhpσ_3 c_4
      refine lv_iconst (v := 1) hx hb dX11_isKindOrNone_13 zki_1 ?_
      refine lv_goto (tgt := 18) hx hb dX11_isKindOrNone_14 (by decide) ?_
      have hrv : (1 : Int32).toInt = 1 := zt_1
      exact q_retz E hr hlk hI ⟨by decide, by decide⟩ ⟨rfl, ⟨by decide, by decide⟩, (hF.trans hout)⟩ dX11_isKindOrNone_18

set_option maxRecDepth 100000 in
set_option maxHeartbeats 4000000 in
theorem c_X11_lay (l : Launch) (X : XW) (σ : ST) (a : Nat) (v1 : Int32) (v2 : Int32) (v3 : Int32) (v4 : Int32) (ha : q_kd X a = 11) : Met l yX11_lay (q_ws yX11_lay cX11_lay 5 (some .int)) (q_rm 4 89) (q_P X σ [.ref a, .int v1, .int v2, .int v3, .int v4]) (q_Qi X 8 σ (fun (r : Int32) (σ' : ST) => (r, σ') = F_X11_lay X σ a v1 v2 v3 v4 ∧ q_ow [(1, 7), (1, 9), (3, 0), (3, 1), (11, 0), (20, 99)] [] X σ σ')) 0 0 (q_reg X) := by
  refine q_met 8 (by first | exact rfl | decide +kernel) rfl (Nat.le_of_ble_eq_true rfl) (fun p e s m below meth c E hml hr hlk hI ls hl => ?_)
  have hx := E.1
  have hb := E.2.1
  have hl : lv_has ls 5 [(0, .ref a), (1, .int v1), (2, .int v2), (3, .int v3), (4, .int v4)] := hl
  have fr_σ : q_ow [(1, 7), (1, 9), (3, 0), (3, 1), (11, 0), (20, 99)] [] X σ σ := q_ow.rf
  obtain ⟨out, hout⟩ : ∃ o, o = F_X11_lay X σ a v1 v2 v3 v4 := ⟨_, rfl⟩
  have hF := hout.symm
  unfold F_X11_lay at hF
  refine lv_aload_n hx hb dX11_lay_0 rfl (lv_at hl 0 rfl) ?_
  refine lv_iload_n hx hb dX11_lay_1 rfl (lv_at hl 1 rfl) ?_
  refine q_ci (q_rV10_1 (rest := []) E (hml.trans hl.1.symm) hI (c_X11_isKindOrNone l X σ a v1 ha) kv_X11_275 ha ⟨Nat.le_of_ble_eq_true rfl, Nat.le_of_ble_eq_true rfl⟩ (Nat.le_of_ble_eq_true rfl) dX11_lay_2) hI (Nat.le_of_ble_eq_true rfl) (fun r_1 σ_2 H locs hpσ_2 hkσ_2 hI => ?_)
  have ahpσ_2 := hpσ_2.1
  have bhpσ_2 := hpσ_2.2.1
  have chpσ_2 := hpσ_2.2.2
  clear hpσ_2
  replace hI := q_Irw ahpσ_2 hI
  replace hF := q_letX hF chpσ_2
  refine q_if_eq (A := r_1.toInt) E rfl (tgt := 33) dX11_lay_5 (by decide) (fun c_3 => ?_) (fun c_3 => ?_)
  · skip
    replace hF := q_ifp hF c_3
    refine lv_aload_n hx hb dX11_lay_33 rfl (lv_at hl 0 rfl) ?_
    refine lv_iconst (v := 2) hx hb dX11_lay_34 zki_2 ?_
    have kc_4 : (2 : Int32).toInt = 2 := zt_2
    refine q_ci (q_rV10_1 (rest := []) E (hml.trans hl.1.symm) hI (c_X11_none l X σ a (2 : Int32) ha) kv_X11_109 ha ⟨Nat.le_of_ble_eq_true rfl, Nat.le_of_ble_eq_true rfl⟩ (Nat.le_of_ble_eq_true rfl) dX11_lay_35) hI (Nat.le_of_ble_eq_true rfl) (fun r_5 σ_6 H locs hpσ_6 hkσ_6 hI => ?_)
    have ahpσ_6 := hpσ_6.1
    have bhpσ_6 := hpσ_6.2.1
    have chpσ_6 := hpσ_6.2.2
    clear hpσ_6
    have fr_σ_6 := fr_σ.call chpσ_6 rfl rfl
    replace hF := q_biX hF bhpσ_6
    exact q_reti E hr hlk hI ⟨(hF.trans hout), fr_σ_6⟩ dX11_lay_38
  · skip
    replace hF := q_ifn hF c_3
    replace c_3 := q_ifOne bhpσ_2 c_3
    refine lv_aload_n hx hb dX11_lay_8 rfl (lv_at hl 0 rfl) ?_
    refine lv_iload_n hx hb dX11_lay_9 rfl (lv_at hl 2 rfl) ?_
    refine q_ci (q_rV10_1 (rest := []) E (hml.trans hl.1.symm) hI (c_X11_isKindOrNone l X σ a v2 ha) kv_X11_275 ha ⟨Nat.le_of_ble_eq_true rfl, Nat.le_of_ble_eq_true rfl⟩ (Nat.le_of_ble_eq_true rfl) dX11_lay_10) hI (Nat.le_of_ble_eq_true rfl) (fun r_7 σ_8 H locs hpσ_8 hkσ_8 hI => ?_)
    have ahpσ_8 := hpσ_8.1
    have bhpσ_8 := hpσ_8.2.1
    have chpσ_8 := hpσ_8.2.2
    clear hpσ_8
    replace hI := q_Irw ahpσ_8 hI
    replace hF := q_letX hF chpσ_8
    refine q_if_eq (A := r_7.toInt) E rfl (tgt := 33) dX11_lay_13 (by decide) (fun c_9 => ?_) (fun c_9 => ?_)
    · skip
      replace hF := q_ifp hF c_9
      refine lv_aload_n hx hb dX11_lay_33 rfl (lv_at hl 0 rfl) ?_
      refine lv_iconst (v := 2) hx hb dX11_lay_34 zki_2 ?_
      have kc_10 : (2 : Int32).toInt = 2 := zt_2
      refine q_ci (q_rV10_1 (rest := []) E (hml.trans hl.1.symm) hI (c_X11_none l X σ a (2 : Int32) ha) kv_X11_109 ha ⟨Nat.le_of_ble_eq_true rfl, Nat.le_of_ble_eq_true rfl⟩ (Nat.le_of_ble_eq_true rfl) dX11_lay_35) hI (Nat.le_of_ble_eq_true rfl) (fun r_11 σ_12 H locs hpσ_12 hkσ_12 hI => ?_)
      have ahpσ_12 := hpσ_12.1
      have bhpσ_12 := hpσ_12.2.1
      have chpσ_12 := hpσ_12.2.2
      clear hpσ_12
      have fr_σ_12 := fr_σ.call chpσ_12 rfl rfl
      replace hF := q_biX hF bhpσ_12
      exact q_reti E hr hlk hI ⟨(hF.trans hout), fr_σ_12⟩ dX11_lay_38
    · skip
      replace hF := q_ifn hF c_9
      replace c_9 := q_ifOne bhpσ_8 c_9
      refine lv_aload_n hx hb dX11_lay_16 rfl (lv_at hl 0 rfl) ?_
      refine lv_iload_n hx hb dX11_lay_17 rfl (lv_at hl 3 rfl) ?_
      refine q_ci (q_rV10_1 (rest := []) E (hml.trans hl.1.symm) hI (c_X11_isKindOrNone l X σ a v3 ha) kv_X11_275 ha ⟨Nat.le_of_ble_eq_true rfl, Nat.le_of_ble_eq_true rfl⟩ (Nat.le_of_ble_eq_true rfl) dX11_lay_18) hI (Nat.le_of_ble_eq_true rfl) (fun r_13 σ_14 H locs hpσ_14 hkσ_14 hI => ?_)
      have ahpσ_14 := hpσ_14.1
      have bhpσ_14 := hpσ_14.2.1
      have chpσ_14 := hpσ_14.2.2
      clear hpσ_14
      replace hI := q_Irw ahpσ_14 hI
      replace hF := q_letX hF chpσ_14
      refine q_if_eq (A := r_13.toInt) E rfl (tgt := 33) dX11_lay_21 (by decide) (fun c_15 => ?_) (fun c_15 => ?_)
      · skip
        replace hF := q_ifp hF c_15
        refine lv_aload_n hx hb dX11_lay_33 rfl (lv_at hl 0 rfl) ?_
        refine lv_iconst (v := 2) hx hb dX11_lay_34 zki_2 ?_
        have kc_16 : (2 : Int32).toInt = 2 := zt_2
        refine q_ci (q_rV10_1 (rest := []) E (hml.trans hl.1.symm) hI (c_X11_none l X σ a (2 : Int32) ha) kv_X11_109 ha ⟨Nat.le_of_ble_eq_true rfl, Nat.le_of_ble_eq_true rfl⟩ (Nat.le_of_ble_eq_true rfl) dX11_lay_35) hI (Nat.le_of_ble_eq_true rfl) (fun r_17 σ_18 H locs hpσ_18 hkσ_18 hI => ?_)
        have ahpσ_18 := hpσ_18.1
        have bhpσ_18 := hpσ_18.2.1
        have chpσ_18 := hpσ_18.2.2
        clear hpσ_18
        have fr_σ_18 := fr_σ.call chpσ_18 rfl rfl
        replace hF := q_biX hF bhpσ_18
        exact q_reti E hr hlk hI ⟨(hF.trans hout), fr_σ_18⟩ dX11_lay_38
      · skip
        replace hF := q_ifn hF c_15
        replace c_15 := q_ifOne bhpσ_14 c_15
        refine lv_aload_n hx hb dX11_lay_24 rfl (lv_at hl 0 rfl) ?_
        refine lv_iload hx hb dX11_lay_25 (lv_at hl 4 rfl) ?_
        refine q_ci (q_rV10_1 (rest := []) E (hml.trans hl.1.symm) hI (c_X11_isKindOrNone l X σ a v4 ha) kv_X11_275 ha ⟨Nat.le_of_ble_eq_true rfl, Nat.le_of_ble_eq_true rfl⟩ (Nat.le_of_ble_eq_true rfl) dX11_lay_27) hI (Nat.le_of_ble_eq_true rfl) (fun r_19 σ_20 H locs hpσ_20 hkσ_20 hI => ?_)
        have ahpσ_20 := hpσ_20.1
        have bhpσ_20 := hpσ_20.2.1
        have chpσ_20 := hpσ_20.2.2
        clear hpσ_20
        replace hI := q_Irw ahpσ_20 hI
        replace hF := q_letX hF chpσ_20
        refine q_if_ne (A := r_19.toInt) E rfl (tgt := 39) dX11_lay_30 (by decide) (fun c_21 => ?_) (fun c_21 => ?_)
        · skip
          replace hF := q_ifn hF c_21
          replace c_21 := q_ifOne bhpσ_20 c_21
          refine lv_iload_n hx hb dX11_lay_39 rfl (lv_at hl 1 rfl) ?_
          refine lv_iconst (v := (-1)) hx hb dX11_lay_40 zki_m1 ?_
          refine q_icmp_eq (A := v1.toInt) (B := (-1)) E rfl (by decide) (tgt := 65) dX11_lay_41 (by decide) (fun c_22 => ?_) (fun c_22 => ?_)
          · skip
            replace hF := q_ifp hF c_22
            refine lv_aload_n hx hb dX11_lay_65 rfl (lv_at hl 0 rfl) ?_
            refine lv_iconst (v := 5) hx hb dX11_lay_66 zki_5 ?_
            have kc_23 : (5 : Int32).toInt = 5 := zt_5
            refine q_ci (q_rV10_1 (rest := []) E (hml.trans hl.1.symm) hI (c_X11_none l X σ a (5 : Int32) ha) kv_X11_109 ha ⟨Nat.le_of_ble_eq_true rfl, Nat.le_of_ble_eq_true rfl⟩ (Nat.le_of_ble_eq_true rfl) dX11_lay_67) hI (Nat.le_of_ble_eq_true rfl) (fun r_24 σ_25 H locs hpσ_25 hkσ_25 hI => ?_)
            have ahpσ_25 := hpσ_25.1
            have bhpσ_25 := hpσ_25.2.1
            have chpσ_25 := hpσ_25.2.2
            clear hpσ_25
            have fr_σ_25 := fr_σ.call chpσ_25 rfl rfl
            replace hF := q_biX hF bhpσ_25
            exact q_reti E hr hlk hI ⟨(hF.trans hout), fr_σ_25⟩ dX11_lay_70
          · skip
            replace hF := q_ifn hF c_22
            refine lv_iload_n hx hb dX11_lay_44 rfl (lv_at hl 2 rfl) ?_
            refine lv_iconst (v := (-1)) hx hb dX11_lay_45 zki_m1 ?_
            have J_54_25 : ∀  (H : Heap) (locs : List Loc) (ls : Array Slot), (F_X11_lay_J54_1 X v3 v4 σ a v1 v2 = out) → q_I X 8 σ s.heap locs σ H → lv_has ls 5 [(0, .ref a), (1, .int v1), (2, .int v2), (3, .int v3), (4, .int v4)] → W p l e (q_rm 4 89) s m ([.ref a, .int v1, .int v2, .int v3, .int v4] : List Value).toArray below meth c H locs 0 0 (MQ below (q_Qi X 8 σ (fun (r : Int32) (σ' : ST) => (r, σ') = F_X11_lay X σ a v1 v2 v3 v4 ∧ q_ow [(1, 7), (1, 9), (3, 0), (3, 1), (11, 0), (20, 99)] [] X σ σ')) ([.ref a, .int v1, .int v2, .int v3, .int v4] : List Value).toArray s 0 0 (q_reg X)) (F0 m 54 ls []) := by
              clear hF
              intro  H locs ls  hF hI hl
              unfold F_X11_lay_J54_1 at hF
              refine lv_iload_n hx hb dX11_lay_54 rfl (lv_at hl 3 rfl) ?_
              refine lv_iconst (v := (-1)) hx hb dX11_lay_55 zki_m1 ?_
              have J_71_25 : ∀  (H : Heap) (locs : List Loc) (ls : Array Slot), (F_X11_lay_J71_2 X σ a v1 v2 v3 v4 = out) → q_I X 8 σ s.heap locs σ H → lv_has ls 5 [(0, .ref a), (1, .int v1), (2, .int v2), (3, .int v3), (4, .int v4)] → W p l e (q_rm 4 89) s m ([.ref a, .int v1, .int v2, .int v3, .int v4] : List Value).toArray below meth c H locs 0 0 (MQ below (q_Qi X 8 σ (fun (r : Int32) (σ' : ST) => (r, σ') = F_X11_lay X σ a v1 v2 v3 v4 ∧ q_ow [(1, 7), (1, 9), (3, 0), (3, 1), (11, 0), (20, 99)] [] X σ σ')) ([.ref a, .int v1, .int v2, .int v3, .int v4] : List Value).toArray s 0 0 (q_reg X)) (F0 m 71 ls []) := by
                clear hF
                intro  H locs ls  hF hI hl
                unfold F_X11_lay_J71_2 at hF
                refine lv_aload_n hx hb dX11_lay_71 rfl (lv_at hl 0 rfl) ?_
                refine gs_X11_42_11 E hI ha dX11_lay_72 ?_
                refine q_cv (q_rV0_0 (rest := []) E (hml.trans hl.1.symm) hI (c_X0_clearWanted l X σ (q_rf X a 8) (q_tk (k' := 1) hI ha rfl (Nat.succ_ne_zero _))) kv_X11_278 (q_tk (k' := 1) hI ha rfl (Nat.succ_ne_zero _)) ⟨Nat.le_of_ble_eq_true rfl, Nat.le_of_ble_eq_true rfl⟩ (Nat.le_of_ble_eq_true rfl) dX11_lay_75) hI (Nat.le_of_ble_eq_true rfl) (fun σ_27 H locs hpσ_27 hkσ_27 hI => ?_)
                have ahpσ_27 := hpσ_27.1
                have bhpσ_27 := hpσ_27.2
                clear hpσ_27
                have fr_σ_27 := fr_σ.call bhpσ_27 rfl rfl
                replace hF := q_letX hF ahpσ_27
                refine lv_aload_n hx hb dX11_lay_78 rfl (lv_at hl 0 rfl) ?_
                refine gs_X11_42_11 E hI ha dX11_lay_79 ?_
                refine lv_iload_n hx hb dX11_lay_82 rfl (lv_at hl 1 rfl) ?_
                refine lv_iconst (v := 1) hx hb dX11_lay_83 zki_1 ?_
                have kc_28 : (1 : Int32).toInt = 1 := zt_1
                refine q_cv (q_rV0_2 (rest := []) E (hml.trans hl.1.symm) hI (c_X0_want l X σ_27 (q_rf X a 8) v1 (1 : Int32) (q_tk (k' := 1) hI ha rfl (Nat.succ_ne_zero _))) kv_X11_281 (q_tk (k' := 1) hI ha rfl (Nat.succ_ne_zero _)) ⟨Nat.le_of_ble_eq_true rfl, Nat.le_of_ble_eq_true rfl⟩ (Nat.le_of_ble_eq_true rfl) dX11_lay_84) hI (Nat.le_of_ble_eq_true rfl) (fun σ_30 H locs hpσ_30 hkσ_30 hI => ?_)
                have ahpσ_30 := hpσ_30.1
                have bhpσ_30 := hpσ_30.2
                clear hpσ_30
                have fr_σ_30 := fr_σ_27.call bhpσ_30 rfl rfl
                replace hF := q_letX hF ahpσ_30
                refine lv_aload_n hx hb dX11_lay_87 rfl (lv_at hl 0 rfl) ?_
                refine gs_X11_42_11 E hI ha dX11_lay_88 ?_
                refine lv_iload_n hx hb dX11_lay_91 rfl (lv_at hl 2 rfl) ?_
                refine lv_iconst (v := 1) hx hb dX11_lay_92 zki_1 ?_
                have kc_31 : (1 : Int32).toInt = 1 := zt_1
                refine q_cv (q_rV0_2 (rest := []) E (hml.trans hl.1.symm) hI (c_X0_want l X σ_30 (q_rf X a 8) v2 (1 : Int32) (q_tk (k' := 1) hI ha rfl (Nat.succ_ne_zero _))) kv_X11_281 (q_tk (k' := 1) hI ha rfl (Nat.succ_ne_zero _)) ⟨Nat.le_of_ble_eq_true rfl, Nat.le_of_ble_eq_true rfl⟩ (Nat.le_of_ble_eq_true rfl) dX11_lay_93) hI (Nat.le_of_ble_eq_true rfl) (fun σ_33 H locs hpσ_33 hkσ_33 hI => ?_)
                have ahpσ_33 := hpσ_33.1
                have bhpσ_33 := hpσ_33.2
                clear hpσ_33
                have fr_σ_33 := fr_σ_30.call bhpσ_33 rfl rfl
                replace hF := q_letX hF ahpσ_33
                refine lv_aload_n hx hb dX11_lay_96 rfl (lv_at hl 0 rfl) ?_
                refine gs_X11_42_11 E hI ha dX11_lay_97 ?_
                refine lv_iload_n hx hb dX11_lay_100 rfl (lv_at hl 3 rfl) ?_
                refine lv_iconst (v := 1) hx hb dX11_lay_101 zki_1 ?_
                have kc_34 : (1 : Int32).toInt = 1 := zt_1
                refine q_cv (q_rV0_2 (rest := []) E (hml.trans hl.1.symm) hI (c_X0_want l X σ_33 (q_rf X a 8) v3 (1 : Int32) (q_tk (k' := 1) hI ha rfl (Nat.succ_ne_zero _))) kv_X11_281 (q_tk (k' := 1) hI ha rfl (Nat.succ_ne_zero _)) ⟨Nat.le_of_ble_eq_true rfl, Nat.le_of_ble_eq_true rfl⟩ (Nat.le_of_ble_eq_true rfl) dX11_lay_102) hI (Nat.le_of_ble_eq_true rfl) (fun σ_36 H locs hpσ_36 hkσ_36 hI => ?_)
                have ahpσ_36 := hpσ_36.1
                have bhpσ_36 := hpσ_36.2
                clear hpσ_36
                have fr_σ_36 := fr_σ_33.call bhpσ_36 rfl rfl
                replace hF := q_letX hF ahpσ_36
                refine lv_aload_n hx hb dX11_lay_105 rfl (lv_at hl 0 rfl) ?_
                refine gs_X11_42_11 E hI ha dX11_lay_106 ?_
                refine lv_iload hx hb dX11_lay_109 (lv_at hl 4 rfl) ?_
                refine lv_iconst (v := 1) hx hb dX11_lay_111 zki_1 ?_
                have kc_37 : (1 : Int32).toInt = 1 := zt_1
                refine q_cv (q_rV0_2 (rest := []) E (hml.trans hl.1.symm) hI (c_X0_want l X σ_36 (q_rf X a 8) v4 (1 : Int32) (q_tk (k' := 1) hI ha rfl (Nat.succ_ne_zero _))) kv_X11_281 (q_tk (k' := 1) hI ha rfl (Nat.succ_ne_zero _)) ⟨Nat.le_of_ble_eq_true rfl, Nat.le_of_ble_eq_true rfl⟩ (Nat.le_of_ble_eq_true rfl) dX11_lay_112) hI (Nat.le_of_ble_eq_true rfl) (fun σ_39 H locs hpσ_39 hkσ_39 hI => ?_)
                have ahpσ_39 := hpσ_39.1
                have bhpσ_39 := hpσ_39.2
                clear hpσ_39
                have fr_σ_39 := fr_σ_36.call bhpσ_39 rfl rfl
                replace hF := q_letX hF ahpσ_39
                refine lv_aload_n hx hb dX11_lay_115 rfl (lv_at hl 0 rfl) ?_
                refine gs_X11_42_11 E hI ha dX11_lay_116 ?_
                refine gs_X11_284_1 E hI (q_tk (k' := 1) hI ha rfl (Nat.succ_ne_zero _)) dX11_lay_119 ?_
                refine lv_topi (fun f_40 ef_40 => ?_)
                replace hF := q_letX hF ef_40
                refine lv_aload_n hx hb dX11_lay_122 rfl (lv_at hl 0 rfl) ?_
                refine gs_X11_42_11 E hI ha dX11_lay_123 ?_
                refine gs_X11_147_1 E hI (q_tk (k' := 1) hI ha rfl (Nat.succ_ne_zero _)) dX11_lay_126 ?_
                refine gs_X11_192_6 E hI (q_tk (k' := 6) hI (q_tk (k' := 1) hI ha rfl (Nat.succ_ne_zero _)) rfl (Nat.succ_ne_zero _)) dX11_lay_129 ?_
                refine lv_topi (fun f_41 ef_41 => ?_)
                replace hF := q_letX hF ef_41
                have bf_41 : -2147483648 ≤ f_41.toInt ∧ f_41.toInt ≤ 4 := by rw [ef_41]; exact q_bd hI (q_tk (k' := 6) hI (q_tk (k' := 1) hI ha rfl (Nat.succ_ne_zero _)) rfl (Nat.succ_ne_zero _)) rfl
                refine q_icmp_le (A := f_40.toInt) (B := f_41.toInt) E rfl rfl (tgt := 142) dX11_lay_132 (by decide) (fun c_42 => ?_) (fun c_42 => ?_)
                · skip
                  replace hF := q_ifn hF (Int.not_lt.mpr c_42)
                  refine lv_aload_n hx hb dX11_lay_142 rfl (lv_at hl 0 rfl) ?_
                  refine gs_X11_42_11 E hI ha dX11_lay_143 ?_
                  refine gs_X11_210_1 E hI (q_tk (k' := 1) hI ha rfl (Nat.succ_ne_zero _)) dX11_lay_146 ?_
                  refine lv_topi (fun f_43 ef_43 => ?_)
                  replace hF := q_letX hF ef_43
                  have bf_43 : 0 ≤ f_43.toInt ∧ f_43.toInt ≤ 1 := by rw [ef_43]; exact q_bd hI (q_tk (k' := 1) hI ha rfl (Nat.succ_ne_zero _)) rfl
                  refine q_if_ne (A := f_43.toInt) E rfl (tgt := 186) dX11_lay_149 (by decide) (fun c_44 => ?_) (fun c_44 => ?_)
                  · skip
                    replace hF := q_ifn hF c_44
                    refine lv_aload_n hx hb dX11_lay_186 rfl (lv_at hl 0 rfl) ?_
                    refine lv_bipush (v := 9) hx hb dX11_lay_187 zkb_9 ?_
                    have kc_45 : (9 : Int32).toInt = 9 := zt_9
                    refine q_ci (q_rV10_1 (rest := []) E (hml.trans hl.1.symm) hI (c_X11_none l X σ_39 a (9 : Int32) ha) kv_X11_109 ha ⟨Nat.le_of_ble_eq_true rfl, Nat.le_of_ble_eq_true rfl⟩ (Nat.le_of_ble_eq_true rfl) dX11_lay_189) hI (Nat.le_of_ble_eq_true rfl) (fun r_46 σ_47 H locs hpσ_47 hkσ_47 hI => ?_)
                    have ahpσ_47 := hpσ_47.1
                    have bhpσ_47 := hpσ_47.2.1
                    have chpσ_47 := hpσ_47.2.2
                    clear hpσ_47
                    have fr_σ_47 := fr_σ_39.call chpσ_47 rfl rfl
                    replace hF := q_biX hF bhpσ_47
                    exact q_reti E hr hlk hI ⟨(hF.trans hout), fr_σ_47⟩ dX11_lay_192
                  · skip
                    replace hF := q_ifp hF c_44
                    refine lv_aload_n hx hb dX11_lay_152 rfl (lv_at hl 0 rfl) ?_
                    refine gs_X11_42_11 E hI ha dX11_lay_153 ?_
                    refine gs_X11_213_1 E hI (q_tk (k' := 1) hI ha rfl (Nat.succ_ne_zero _)) dX11_lay_156 ?_
                    refine lv_topi (fun f_48 ef_48 => ?_)
                    replace hF := q_letX hF ef_48
                    refine lv_iconst (v := (-1)) hx hb dX11_lay_159 zki_m1 ?_
                    refine q_icmp_ne (A := f_48.toInt) (B := (-1)) E rfl (by decide) (tgt := 186) dX11_lay_160 (by decide) (fun c_49 => ?_) (fun c_49 => ?_)
                    · skip
                      replace hF := q_ifn hF c_49
                      refine lv_aload_n hx hb dX11_lay_186 rfl (lv_at hl 0 rfl) ?_
                      refine lv_bipush (v := 9) hx hb dX11_lay_187 zkb_9 ?_
                      have kc_50 : (9 : Int32).toInt = 9 := zt_9
                      refine q_ci (q_rV10_1 (rest := []) E (hml.trans hl.1.symm) hI (c_X11_none l X σ_39 a (9 : Int32) ha) kv_X11_109 ha ⟨Nat.le_of_ble_eq_true rfl, Nat.le_of_ble_eq_true rfl⟩ (Nat.le_of_ble_eq_true rfl) dX11_lay_189) hI (Nat.le_of_ble_eq_true rfl) (fun r_51 σ_52 H locs hpσ_52 hkσ_52 hI => ?_)
                      have ahpσ_52 := hpσ_52.1
                      have bhpσ_52 := hpσ_52.2.1
                      have chpσ_52 := hpσ_52.2.2
                      clear hpσ_52
                      have fr_σ_52 := fr_σ_39.call chpσ_52 rfl rfl
                      replace hF := q_biX hF bhpσ_52
                      exact q_reti E hr hlk hI ⟨(hF.trans hout), fr_σ_52⟩ dX11_lay_192
                    · skip
                      replace hF := q_ifp hF c_49
                      refine lv_aload_n hx hb dX11_lay_163 rfl (lv_at hl 0 rfl) ?_
                      refine gs_X11_42_11 E hI ha dX11_lay_164 ?_
                      refine gs_X11_147_1 E hI (q_tk (k' := 1) hI ha rfl (Nat.succ_ne_zero _)) dX11_lay_167 ?_
                      refine gs_X11_151_6 E hI (q_tk (k' := 6) hI (q_tk (k' := 1) hI ha rfl (Nat.succ_ne_zero _)) rfl (Nat.succ_ne_zero _)) dX11_lay_170 ?_
                      refine lv_topi (fun f_53 ef_53 => ?_)
                      replace hF := q_letX hF ef_53
                      refine q_if_eq (A := f_53.toInt) E rfl (tgt := 186) dX11_lay_173 (by decide) (fun c_54 => ?_) (fun c_54 => ?_)
                      · skip
                        replace hF := q_ifp hF c_54
                        refine lv_aload_n hx hb dX11_lay_186 rfl (lv_at hl 0 rfl) ?_
                        refine lv_bipush (v := 9) hx hb dX11_lay_187 zkb_9 ?_
                        have kc_55 : (9 : Int32).toInt = 9 := zt_9
                        refine q_ci (q_rV10_1 (rest := []) E (hml.trans hl.1.symm) hI (c_X11_none l X σ_39 a (9 : Int32) ha) kv_X11_109 ha ⟨Nat.le_of_ble_eq_true rfl, Nat.le_of_ble_eq_true rfl⟩ (Nat.le_of_ble_eq_true rfl) dX11_lay_189) hI (Nat.le_of_ble_eq_true rfl) (fun r_56 σ_57 H locs hpσ_57 hkσ_57 hI => ?_)
                        have ahpσ_57 := hpσ_57.1
                        have bhpσ_57 := hpσ_57.2.1
                        have chpσ_57 := hpσ_57.2.2
                        clear hpσ_57
                        have fr_σ_57 := fr_σ_39.call chpσ_57 rfl rfl
                        replace hF := q_biX hF bhpσ_57
                        exact q_reti E hr hlk hI ⟨(hF.trans hout), fr_σ_57⟩ dX11_lay_192
                      · skip
                        replace hF := q_ifn hF c_54
                        refine lv_aload_n hx hb dX11_lay_176 rfl (lv_at hl 0 rfl) ?_
                        refine gs_X11_42_11 E hI ha dX11_lay_177 ?_
                        refine q_ci (q_rV0_0 (rest := []) E (hml.trans hl.1.symm) hI (c_X0_holdsWanted l X σ_39 (q_rf X a 8) (q_tk (k' := 1) hI ha rfl (Nat.succ_ne_zero _))) kv_X11_287 (q_tk (k' := 1) hI ha rfl (Nat.succ_ne_zero _)) ⟨Nat.le_of_ble_eq_true rfl, Nat.le_of_ble_eq_true rfl⟩ (Nat.le_of_ble_eq_true rfl) dX11_lay_180) hI (Nat.le_of_ble_eq_true rfl) (fun r_58 σ_59 H locs hpσ_59 hkσ_59 hI => ?_)
                        have ahpσ_59 := hpσ_59.1
                        have bhpσ_59 := hpσ_59.2.1
                        have chpσ_59 := hpσ_59.2.2
                        clear hpσ_59
                        replace hI := q_Irw ahpσ_59 hI
                        replace hF := q_letX hF chpσ_59
                        refine q_if_ne (A := r_58.toInt) E rfl (tgt := 193) dX11_lay_183 (by decide) (fun c_60 => ?_) (fun c_60 => ?_)
                        · skip
                          replace hF := q_ifn hF c_60
                          replace c_60 := q_ifOne bhpσ_59 c_60
                          refine lv_aload_n hx hb dX11_lay_193 rfl (lv_at hl 0 rfl) ?_
                          refine gs_X11_42_11 E hI ha dX11_lay_194 ?_
                          refine q_cv (q_rV0_0 (rest := []) E (hml.trans hl.1.symm) hI (c_X0_layWanted l X σ_39 (q_rf X a 8) (q_tk (k' := 1) hI ha rfl (Nat.succ_ne_zero _))) kv_X11_290 (q_tk (k' := 1) hI ha rfl (Nat.succ_ne_zero _)) ⟨Nat.le_of_ble_eq_true rfl, Nat.le_of_ble_eq_true rfl⟩ (Nat.le_of_ble_eq_true rfl) dX11_lay_197) hI (Nat.le_of_ble_eq_true rfl) (fun σ_62 H locs hpσ_62 hkσ_62 hI => ?_)
                          have ahpσ_62 := hpσ_62.1
                          have bhpσ_62 := hpσ_62.2
                          clear hpσ_62
                          have fr_σ_62 := fr_σ_39.call bhpσ_62 rfl rfl
                          replace hF := q_letX hF ahpσ_62
                          refine lv_aload_n hx hb dX11_lay_200 rfl (lv_at hl 0 rfl) ?_
                          refine lv_aload_n hx hb dX11_lay_201 rfl (lv_at hl 0 rfl) ?_
                          refine gs_X11_42_11 E hI ha dX11_lay_202 ?_
                          refine gs_X11_201_1 E hI (q_tk (k' := 1) hI ha rfl (Nat.succ_ne_zero _)) dX11_lay_205 ?_
                          refine gs_X11_205_3 E hI (q_tk (k' := 3) hI (q_tk (k' := 1) hI ha rfl (Nat.succ_ne_zero _)) rfl (Nat.succ_ne_zero _)) dX11_lay_208 ?_
                          refine lv_topi (fun f_63 ef_63 => ?_)
                          replace hF := q_letX hF ef_63
                          refine q_ci (q_rV10_1 (rest := []) E (hml.trans hl.1.symm) hI (c_X11_good l X σ_62 a f_63 ha) kv_X11_156 ha ⟨Nat.le_of_ble_eq_true rfl, Nat.le_of_ble_eq_true rfl⟩ (Nat.le_of_ble_eq_true rfl) dX11_lay_211) hI (Nat.le_of_ble_eq_true rfl) (fun r_64 σ_65 H locs hpσ_65 hkσ_65 hI => ?_)
                          have ahpσ_65 := hpσ_65.1
                          have bhpσ_65 := hpσ_65.2.1
                          have chpσ_65 := hpσ_65.2.2
                          clear hpσ_65
                          have fr_σ_65 := fr_σ_62.call chpσ_65 rfl rfl
                          replace hF := q_biX hF bhpσ_65
                          exact q_reti E hr hlk hI ⟨(hF.trans hout), fr_σ_65⟩ dX11_lay_214
                        · skip
                          replace hF := q_ifp hF c_60
                          refine lv_aload_n hx hb dX11_lay_186 rfl (lv_at hl 0 rfl) ?_
                          refine lv_bipush (v := 9) hx hb dX11_lay_187 zkb_9 ?_
                          have kc_66 : (9 : Int32).toInt = 9 := zt_9
                          refine q_ci (q_rV10_1 (rest := []) E (hml.trans hl.1.symm) hI (c_X11_none l X σ_39 a (9 : Int32) ha) kv_X11_109 ha ⟨Nat.le_of_ble_eq_true rfl, Nat.le_of_ble_eq_true rfl⟩ (Nat.le_of_ble_eq_true rfl) dX11_lay_189) hI (Nat.le_of_ble_eq_true rfl) (fun r_67 σ_68 H locs hpσ_68 hkσ_68 hI => ?_)
                          have ahpσ_68 := hpσ_68.1
                          have bhpσ_68 := hpσ_68.2.1
                          have chpσ_68 := hpσ_68.2.2
                          clear hpσ_68
                          have fr_σ_68 := fr_σ_39.call chpσ_68 rfl rfl
                          replace hF := q_biX hF bhpσ_68
                          exact q_reti E hr hlk hI ⟨(hF.trans hout), fr_σ_68⟩ dX11_lay_192
                · skip
                  replace hF := q_ifp hF c_42
                  refine lv_aload_n hx hb dX11_lay_135 rfl (lv_at hl 0 rfl) ?_
                  refine lv_bipush (v := 7) hx hb dX11_lay_136 zkb_7 ?_
                  have kc_69 : (7 : Int32).toInt = 7 := zt_7
                  refine q_ci (q_rV10_1 (rest := []) E (hml.trans hl.1.symm) hI (c_X11_none l X σ_39 a (7 : Int32) ha) kv_X11_109 ha ⟨Nat.le_of_ble_eq_true rfl, Nat.le_of_ble_eq_true rfl⟩ (Nat.le_of_ble_eq_true rfl) dX11_lay_138) hI (Nat.le_of_ble_eq_true rfl) (fun r_70 σ_71 H locs hpσ_71 hkσ_71 hI => ?_)
                  have ahpσ_71 := hpσ_71.1
                  have bhpσ_71 := hpσ_71.2.1
                  have chpσ_71 := hpσ_71.2.2
                  clear hpσ_71
                  have fr_σ_71 := fr_σ_39.call chpσ_71 rfl rfl
                  replace hF := q_biX hF bhpσ_71
                  exact q_reti E hr hlk hI ⟨(hF.trans hout), fr_σ_71⟩ dX11_lay_141
              refine q_icmp_ne (A := v3.toInt) (B := (-1)) E rfl (by decide) (tgt := 71) dX11_lay_56 (by decide) (fun c_72 => ?_) (fun c_72 => ?_)
              · skip
                replace hF := q_ifn hF c_72
                exact J_71_25 _ _ ls hF hI (lv_sub hl [0, 1, 2, 3, 4] rfl)
              · skip
                replace hF := q_ifp hF c_72
                refine lv_iload hx hb dX11_lay_59 (lv_at hl 4 rfl) ?_
                refine lv_iconst (v := (-1)) hx hb dX11_lay_61 zki_m1 ?_
                refine q_icmp_eq (A := v4.toInt) (B := (-1)) E rfl (by decide) (tgt := 71) dX11_lay_62 (by decide) (fun c_73 => ?_) (fun c_73 => ?_)
                · skip
                  replace hF := q_ifp hF c_73
                  exact J_71_25 _ _ ls hF hI (lv_sub hl [0, 1, 2, 3, 4] rfl)
                · skip
                  replace hF := q_ifn hF c_73
                  refine lv_aload_n hx hb dX11_lay_65 rfl (lv_at hl 0 rfl) ?_
                  refine lv_iconst (v := 5) hx hb dX11_lay_66 zki_5 ?_
                  have kc_74 : (5 : Int32).toInt = 5 := zt_5
                  refine q_ci (q_rV10_1 (rest := []) E (hml.trans hl.1.symm) hI (c_X11_none l X σ a (5 : Int32) ha) kv_X11_109 ha ⟨Nat.le_of_ble_eq_true rfl, Nat.le_of_ble_eq_true rfl⟩ (Nat.le_of_ble_eq_true rfl) dX11_lay_67) hI (Nat.le_of_ble_eq_true rfl) (fun r_75 σ_76 H locs hpσ_76 hkσ_76 hI => ?_)
                  have ahpσ_76 := hpσ_76.1
                  have bhpσ_76 := hpσ_76.2.1
                  have chpσ_76 := hpσ_76.2.2
                  clear hpσ_76
                  have fr_σ_76 := fr_σ.call chpσ_76 rfl rfl
                  replace hF := q_biX hF bhpσ_76
                  exact q_reti E hr hlk hI ⟨(hF.trans hout), fr_σ_76⟩ dX11_lay_70
            refine q_icmp_ne (A := v2.toInt) (B := (-1)) E rfl (by decide) (tgt := 54) dX11_lay_46 (by decide) (fun c_77 => ?_) (fun c_77 => ?_)
            · skip
              replace hF := q_ifn hF c_77
              exact J_54_25 _ _ ls hF hI (lv_sub hl [0, 1, 2, 3, 4] rfl)
            · skip
              replace hF := q_ifp hF c_77
              refine lv_iload_n hx hb dX11_lay_49 rfl (lv_at hl 3 rfl) ?_
              refine lv_iconst (v := (-1)) hx hb dX11_lay_50 zki_m1 ?_
              refine q_icmp_ne (A := v3.toInt) (B := (-1)) E rfl (by decide) (tgt := 65) dX11_lay_51 (by decide) (fun c_78 => ?_) (fun c_78 => ?_)
              · skip
                replace hF := q_ifn hF c_78
                refine lv_aload_n hx hb dX11_lay_65 rfl (lv_at hl 0 rfl) ?_
                refine lv_iconst (v := 5) hx hb dX11_lay_66 zki_5 ?_
                have kc_79 : (5 : Int32).toInt = 5 := zt_5
                refine q_ci (q_rV10_1 (rest := []) E (hml.trans hl.1.symm) hI (c_X11_none l X σ a (5 : Int32) ha) kv_X11_109 ha ⟨Nat.le_of_ble_eq_true rfl, Nat.le_of_ble_eq_true rfl⟩ (Nat.le_of_ble_eq_true rfl) dX11_lay_67) hI (Nat.le_of_ble_eq_true rfl) (fun r_80 σ_81 H locs hpσ_81 hkσ_81 hI => ?_)
                have ahpσ_81 := hpσ_81.1
                have bhpσ_81 := hpσ_81.2.1
                have chpσ_81 := hpσ_81.2.2
                clear hpσ_81
                have fr_σ_81 := fr_σ.call chpσ_81 rfl rfl
                replace hF := q_biX hF bhpσ_81
                exact q_reti E hr hlk hI ⟨(hF.trans hout), fr_σ_81⟩ dX11_lay_70
              · skip
                replace hF := q_ifp hF c_78
                exact J_54_25 _ _ ls hF hI (lv_sub hl [0, 1, 2, 3, 4] rfl)
        · skip
          replace hF := q_ifp hF c_21
          refine lv_aload_n hx hb dX11_lay_33 rfl (lv_at hl 0 rfl) ?_
          refine lv_iconst (v := 2) hx hb dX11_lay_34 zki_2 ?_
          have kc_82 : (2 : Int32).toInt = 2 := zt_2
          refine q_ci (q_rV10_1 (rest := []) E (hml.trans hl.1.symm) hI (c_X11_none l X σ a (2 : Int32) ha) kv_X11_109 ha ⟨Nat.le_of_ble_eq_true rfl, Nat.le_of_ble_eq_true rfl⟩ (Nat.le_of_ble_eq_true rfl) dX11_lay_35) hI (Nat.le_of_ble_eq_true rfl) (fun r_83 σ_84 H locs hpσ_84 hkσ_84 hI => ?_)
          have ahpσ_84 := hpσ_84.1
          have bhpσ_84 := hpσ_84.2.1
          have chpσ_84 := hpσ_84.2.2
          clear hpσ_84
          have fr_σ_84 := fr_σ.call chpσ_84 rfl rfl
          replace hF := q_biX hF bhpσ_84
          exact q_reti E hr hlk hI ⟨(hF.trans hout), fr_σ_84⟩ dX11_lay_38

set_option maxRecDepth 100000 in
set_option maxHeartbeats 4000000 in
theorem c_X11_leave (l : Launch) (X : XW) (σ : ST) (a : Nat) (ha : q_kd X a = 11) : Met l yX11_leave (q_ws yX11_leave cX11_leave 1 (some .int)) (q_rm 3 64) (q_P X σ [.ref a]) (q_Qi X 8 σ (fun (r : Int32) (σ' : ST) => (r, σ') = F_X11_leave X σ a ∧ q_ow [(1, 4), (1, 5), (1, 6), (1, 7), (11, 0)] [] X σ σ')) 0 0 (q_reg X) := by
  refine q_met 8 (by first | exact rfl | decide +kernel) rfl (Nat.le_of_ble_eq_true rfl) (fun p e s m below meth c E hml hr hlk hI ls hl => ?_)
  have hx := E.1
  have hb := E.2.1
  have hl : lv_has ls 1 [(0, .ref a)] := hl
  have fr_σ : q_ow [(1, 4), (1, 5), (1, 6), (1, 7), (11, 0)] [] X σ σ := q_ow.rf
  obtain ⟨out, hout⟩ : ∃ o, o = F_X11_leave X σ a := ⟨_, rfl⟩
  have hF := hout.symm
  unfold F_X11_leave at hF
  refine lv_aload_n hx hb dX11_leave_0 rfl (lv_at hl 0 rfl) ?_
  refine gs_X11_42_11 E hI ha dX11_leave_1 ?_
  refine gs_X11_210_1 E hI (q_tk (k' := 1) hI ha rfl (Nat.succ_ne_zero _)) dX11_leave_4 ?_
  refine lv_topi (fun f_1 ef_1 => ?_)
  replace hF := q_letX hF ef_1
  have bf_1 : 0 ≤ f_1.toInt ∧ f_1.toInt ≤ 1 := by rw [ef_1]; exact q_bd hI (q_tk (k' := 1) hI ha rfl (Nat.succ_ne_zero _)) rfl
  refine q_if_ne (A := f_1.toInt) E rfl (tgt := 17) dX11_leave_7 (by decide) (fun c_2 => ?_) (fun c_2 => ?_)
  · skip
    replace hF := q_ifn hF c_2
    refine lv_aload_n hx hb dX11_leave_17 rfl (lv_at hl 0 rfl) ?_
    refine gs_X11_42_11 E hI ha dX11_leave_18 ?_
    refine q_cv (q_rV0_0 (rest := []) E (hml.trans hl.1.symm) hI (c_X0_letLie l X σ (q_rf X a 8) (q_tk (k' := 1) hI ha rfl (Nat.succ_ne_zero _))) kv_X11_293 (q_tk (k' := 1) hI ha rfl (Nat.succ_ne_zero _)) ⟨Nat.le_of_ble_eq_true rfl, Nat.le_of_ble_eq_true rfl⟩ (Nat.le_of_ble_eq_true rfl) dX11_leave_21) hI (Nat.le_of_ble_eq_true rfl) (fun σ_4 H locs hpσ_4 hkσ_4 hI => ?_)
    have ahpσ_4 := hpσ_4.1
    have bhpσ_4 := hpσ_4.2
    clear hpσ_4
    have fr_σ_4 := fr_σ.call bhpσ_4 rfl rfl
    replace hF := q_letX hF ahpσ_4
    refine lv_aload_n hx hb dX11_leave_24 rfl (lv_at hl 0 rfl) ?_
    refine lv_aload_n hx hb dX11_leave_25 rfl (lv_at hl 0 rfl) ?_
    refine gs_X11_42_11 E hI ha dX11_leave_26 ?_
    refine gs_X11_198_1 E hI (q_tk (k' := 1) hI ha rfl (Nat.succ_ne_zero _)) dX11_leave_29 ?_
    refine lv_topi (fun f_5 ef_5 => ?_)
    replace hF := q_letX hF ef_5
    refine q_ci (q_rV10_1 (rest := []) E (hml.trans hl.1.symm) hI (c_X11_good l X σ_4 a f_5 ha) kv_X11_156 ha ⟨Nat.le_of_ble_eq_true rfl, Nat.le_of_ble_eq_true rfl⟩ (Nat.le_of_ble_eq_true rfl) dX11_leave_32) hI (Nat.le_of_ble_eq_true rfl) (fun r_6 σ_7 H locs hpσ_7 hkσ_7 hI => ?_)
    have ahpσ_7 := hpσ_7.1
    have bhpσ_7 := hpσ_7.2.1
    have chpσ_7 := hpσ_7.2.2
    clear hpσ_7
    have fr_σ_7 := fr_σ_4.call chpσ_7 rfl rfl
    replace hF := q_biX hF bhpσ_7
    exact q_reti E hr hlk hI ⟨(hF.trans hout), fr_σ_7⟩ dX11_leave_35
  · skip
    replace hF := q_ifp hF c_2
    refine lv_aload_n hx hb dX11_leave_10 rfl (lv_at hl 0 rfl) ?_
    refine lv_bipush (v := 8) hx hb dX11_leave_11 zkb_8 ?_
    have kc_8 : (8 : Int32).toInt = 8 := zt_8
    refine q_ci (q_rV10_1 (rest := []) E (hml.trans hl.1.symm) hI (c_X11_none l X σ a (8 : Int32) ha) kv_X11_109 ha ⟨Nat.le_of_ble_eq_true rfl, Nat.le_of_ble_eq_true rfl⟩ (Nat.le_of_ble_eq_true rfl) dX11_leave_13) hI (Nat.le_of_ble_eq_true rfl) (fun r_9 σ_10 H locs hpσ_10 hkσ_10 hI => ?_)
    have ahpσ_10 := hpσ_10.1
    have bhpσ_10 := hpσ_10.2.1
    have chpσ_10 := hpσ_10.2.2
    clear hpσ_10
    have fr_σ_10 := fr_σ.call chpσ_10 rfl rfl
    replace hF := q_biX hF bhpσ_10
    exact q_reti E hr hlk hI ⟨(hF.trans hout), fr_σ_10⟩ dX11_leave_16

set_option maxRecDepth 100000 in
set_option maxHeartbeats 4000000 in
theorem c_X11_doubterStatus (l : Launch) (X : XW) (σ : ST) (a : Nat) (v1 : Int32) (ha : q_kd X a = 11) : Met l yX11_doubterStatus (q_ws yX11_doubterStatus cX11_doubterStatus 2 (some .int)) (q_rm 1 21) (q_P X σ [.ref a, .int v1]) (q_Qi X 9 σ (fun (r : Int32) (σ' : ST) => σ' = σ ∧ r = F_X11_doubterStatus X σ a v1)) 0 0 (q_reg X) := by
  refine q_met 9 (by first | exact rfl | decide +kernel) rfl (Nat.le_of_ble_eq_true rfl) (fun p e s m below meth c E hml hr hlk hI ls hl => ?_)
  have hx := E.1
  have hb := E.2.1
  have hl : lv_has ls 2 [(0, .ref a), (1, .int v1)] := hl
  obtain ⟨out, hout⟩ : ∃ o, o = F_X11_doubterStatus X σ a v1 := ⟨_, rfl⟩
  have hF := hout.symm
  unfold F_X11_doubterStatus at hF
  refine lv_aload_n hx hb dX11_doubterStatus_0 rfl (lv_at hl 0 rfl) ?_
  refine lv_iload_n hx hb dX11_doubterStatus_1 rfl (lv_at hl 1 rfl) ?_
  refine q_ci (q_rV10_1 (rest := []) E (hml.trans hl.1.symm) hI (c_X11_isPlayer l X σ a v1 ha) kv_X11_219 ha ⟨Nat.le_of_ble_eq_true rfl, Nat.le_of_ble_eq_true rfl⟩ (Nat.le_of_ble_eq_true rfl) dX11_doubterStatus_2) hI (Nat.le_of_ble_eq_true rfl) (fun r_1 σ_2 H locs hpσ_2 hkσ_2 hI => ?_)
  have ahpσ_2 := hpσ_2.1
  have bhpσ_2 := hpσ_2.2.1
  have chpσ_2 := hpσ_2.2.2
  clear hpσ_2
  replace hI := q_Irw ahpσ_2 hI
  replace hF := q_letX hF chpσ_2
  refine q_if_ne (A := r_1.toInt) E rfl (tgt := 10) dX11_doubterStatus_5 (by decide) (fun c_3 => ?_) (fun c_3 => ?_)
  · skip
    replace hF := q_ifn hF c_3
    replace c_3 := q_ifOne bhpσ_2 c_3
    refine lv_aload_n hx hb dX11_doubterStatus_10 rfl (lv_at hl 0 rfl) ?_
    refine gs_X11_42_11 E hI ha dX11_doubterStatus_11 ?_
    refine gs_X11_210_1 E hI (q_tk (k' := 1) hI ha rfl (Nat.succ_ne_zero _)) dX11_doubterStatus_14 ?_
    refine lv_topi (fun f_4 ef_4 => ?_)
    replace hF := q_letX hF ef_4
    have bf_4 : 0 ≤ f_4.toInt ∧ f_4.toInt ≤ 1 := by rw [ef_4]; exact q_bd hI (q_tk (k' := 1) hI ha rfl (Nat.succ_ne_zero _)) rfl
    refine q_if_ne (A := f_4.toInt) E rfl (tgt := 23) dX11_doubterStatus_17 (by decide) (fun c_5 => ?_) (fun c_5 => ?_)
    · skip
      replace hF := q_ifn hF c_5
      refine lv_iload_n hx hb dX11_doubterStatus_23 rfl (lv_at hl 1 rfl) ?_
      refine lv_aload_n hx hb dX11_doubterStatus_24 rfl (lv_at hl 0 rfl) ?_
      refine gs_X11_42_11 E hI ha dX11_doubterStatus_25 ?_
      refine gs_X11_198_1 E hI (q_tk (k' := 1) hI ha rfl (Nat.succ_ne_zero _)) dX11_doubterStatus_28 ?_
      refine lv_topi (fun f_6 ef_6 => ?_)
      replace hF := q_letX hF ef_6
      refine q_icmp_ne (A := v1.toInt) (B := f_6.toInt) E rfl rfl (tgt := 38) dX11_doubterStatus_31 (by decide) (fun c_7 => ?_) (fun c_7 => ?_)
      · skip
        replace hF := q_ifn hF c_7
        refine lv_iconst (v := 0) hx hb dX11_doubterStatus_38 zki_0 ?_
        exact q_reti E hr hlk hI ⟨rfl, (hF.trans hout)⟩ dX11_doubterStatus_39
      · skip
        replace hF := q_ifp hF c_7
        refine lv_iconst (v := 5) hx hb dX11_doubterStatus_34 zki_5 ?_
        refine lv_goto (tgt := 39) hx hb dX11_doubterStatus_35 (by decide) ?_
        exact q_reti E hr hlk hI ⟨rfl, (hF.trans hout)⟩ dX11_doubterStatus_39
    · skip
      replace hF := q_ifp hF c_5
      refine lv_bipush (v := 8) hx hb dX11_doubterStatus_20 zkb_8 ?_
      exact q_reti E hr hlk hI ⟨rfl, (hF.trans hout)⟩ dX11_doubterStatus_22
  · skip
    replace hF := q_ifp hF c_3
    refine lv_iconst (v := 2) hx hb dX11_doubterStatus_8 zki_2 ?_
    exact q_reti E hr hlk hI ⟨rfl, (hF.trans hout)⟩ dX11_doubterStatus_9

set_option maxRecDepth 100000 in
set_option maxHeartbeats 4000000 in
theorem c_X11_doubt (l : Launch) (X : XW) (σ : ST) (a : Nat) (v1 : Int32) (ha : q_kd X a = 11) : Met l yX11_doubt (q_ws yX11_doubt cX11_doubt 3 (some .int)) (q_rm 4 92) (q_P X σ [.ref a, .int v1]) (q_Qi X 8 σ (fun (r : Int32) (σ' : ST) => (r, σ') = F_X11_doubt X σ a v1 ∧ q_ow [(1, 4), (1, 5), (1, 6), (1, 7), (3, 0), (3, 1), (11, 0), (20, 99)] [] X σ σ')) 0 0 (q_reg X) := by
  refine q_met 8 (by first | exact rfl | decide +kernel) rfl (Nat.le_of_ble_eq_true rfl) (fun p e s m below meth c E hml hr hlk hI ls hl => ?_)
  have hx := E.1
  have hb := E.2.1
  have hl : lv_has ls 3 [(0, .ref a), (1, .int v1)] := hl
  have fr_σ : q_ow [(1, 4), (1, 5), (1, 6), (1, 7), (3, 0), (3, 1), (11, 0), (20, 99)] [] X σ σ := q_ow.rf
  obtain ⟨out, hout⟩ : ∃ o, o = F_X11_doubt X σ a v1 := ⟨_, rfl⟩
  have hF := hout.symm
  unfold F_X11_doubt at hF
  refine lv_aload_n hx hb dX11_doubt_0 rfl (lv_at hl 0 rfl) ?_
  refine lv_iload_n hx hb dX11_doubt_1 rfl (lv_at hl 1 rfl) ?_
  refine q_ci (q_rV10_1 (rest := []) E (hml.trans hl.1.symm) hI (c_X11_doubterStatus l X σ a v1 ha) kv_X11_296 ha ⟨Nat.le_of_ble_eq_true rfl, Nat.le_of_ble_eq_true rfl⟩ (Nat.le_of_ble_eq_true rfl) dX11_doubt_2) hI (Nat.le_of_ble_eq_true rfl) (fun r_1 σ_2 H locs hpσ_2 hkσ_2 hI => ?_)
  have ahpσ_2 := hpσ_2.1
  have bhpσ_2 := hpσ_2.2
  clear hpσ_2
  replace hI := q_Irw ahpσ_2 hI
  replace hF := q_letX hF bhpσ_2
  refine lv_istore_n (lv' := [(2, .int r_1), (0, .ref a), (1, .int v1)]) hx hb dX11_doubt_5 rfl hl (by decide) rfl (fun ls hl => ?_)
  refine lv_iload_n hx hb dX11_doubt_6 rfl (lv_at hl 0 rfl) ?_
  refine q_if_ne (A := r_1.toInt) E rfl (tgt := 25) dX11_doubt_7 (by decide) (fun c_3 => ?_) (fun c_3 => ?_)
  · skip
    replace hF := q_ifn hF c_3
    refine lv_aload_n hx hb dX11_doubt_25 rfl (lv_at hl 1 rfl) ?_
    refine lv_iload_n hx hb dX11_doubt_26 rfl (lv_at hl 0 rfl) ?_
    refine q_ci (q_rV10_1 (rest := []) E (hml.trans hl.1.symm) hI (c_X11_none l X σ a r_1 ha) kv_X11_109 ha ⟨Nat.le_of_ble_eq_true rfl, Nat.le_of_ble_eq_true rfl⟩ (Nat.le_of_ble_eq_true rfl) dX11_doubt_27) hI (Nat.le_of_ble_eq_true rfl) (fun r_4 σ_5 H locs hpσ_5 hkσ_5 hI => ?_)
    have ahpσ_5 := hpσ_5.1
    have bhpσ_5 := hpσ_5.2.1
    have chpσ_5 := hpσ_5.2.2
    clear hpσ_5
    have fr_σ_5 := fr_σ.call chpσ_5 rfl rfl
    replace hF := q_biX hF bhpσ_5
    exact q_reti E hr hlk hI ⟨(hF.trans hout), fr_σ_5⟩ dX11_doubt_30
  · skip
    replace hF := q_ifp hF c_3
    refine lv_aload_n hx hb dX11_doubt_10 rfl (lv_at hl 1 rfl) ?_
    refine lv_aload_n hx hb dX11_doubt_11 rfl (lv_at hl 1 rfl) ?_
    refine gs_X11_42_11 E hI ha dX11_doubt_12 ?_
    refine lv_iload_n hx hb dX11_doubt_15 rfl (lv_at hl 2 rfl) ?_
    refine q_ci (q_rV0_1 (rest := [.ref a]) E (hml.trans hl.1.symm) hI (c_X0_challenge l X σ (q_rf X a 8) v1 (q_tk (k' := 1) hI ha rfl (Nat.succ_ne_zero _))) kv_X11_299 (q_tk (k' := 1) hI ha rfl (Nat.succ_ne_zero _)) ⟨Nat.le_of_ble_eq_true rfl, Nat.le_of_ble_eq_true rfl⟩ (Nat.le_of_ble_eq_true rfl) dX11_doubt_16) hI (Nat.le_of_ble_eq_true rfl) (fun r_6 σ_7 H locs hpσ_7 hkσ_7 hI => ?_)
    have ahpσ_7 := hpσ_7.1
    have bhpσ_7 := hpσ_7.2
    clear hpσ_7
    have fr_σ_7 := fr_σ.call bhpσ_7 rfl rfl
    replace hF := q_biX hF ahpσ_7
    refine q_ci (q_rV10_1 (rest := []) E (hml.trans hl.1.symm) hI (c_X11_good l X σ_7 a r_6 ha) kv_X11_156 ha ⟨Nat.le_of_ble_eq_true rfl, Nat.le_of_ble_eq_true rfl⟩ (Nat.le_of_ble_eq_true rfl) dX11_doubt_19) hI (Nat.le_of_ble_eq_true rfl) (fun r_8 σ_9 H locs hpσ_9 hkσ_9 hI => ?_)
    have ahpσ_9 := hpσ_9.1
    have bhpσ_9 := hpσ_9.2.1
    have chpσ_9 := hpσ_9.2.2
    clear hpσ_9
    have fr_σ_9 := fr_σ_7.call chpσ_9 rfl rfl
    replace hF := q_biX hF bhpσ_9
    refine lv_goto (tgt := 30) hx hb dX11_doubt_22 (by decide) ?_
    exact q_reti E hr hlk hI ⟨(hF.trans hout), fr_σ_9⟩ dX11_doubt_30

set_option maxRecDepth 100000 in
set_option maxHeartbeats 4000000 in
theorem c_X11_isSixteenths (l : Launch) (X : XW) (σ : ST) (v0 : Int32) : Met l yX11_isSixteenths (q_ws yX11_isSixteenths cX11_isSixteenths 1 (some .boolean)) (q_rm 0 0) (q_P X σ [.int v0]) (q_Qi X 9 σ (fun (r : Int32) (σ' : ST) => σ' = σ ∧ (0 ≤ r.toInt ∧ r.toInt ≤ 1) ∧ r = F_X11_isSixteenths X σ v0)) 0 0 (q_reg X) := by
  refine q_met 9 (by first | exact rfl | decide +kernel) rfl (Nat.le_of_ble_eq_true rfl) (fun p e s m below meth c E hml hr hlk hI ls hl => ?_)
  have hx := E.1
  have hb := E.2.1
  have hl : lv_has ls 1 [(0, .int v0)] := hl
  obtain ⟨out, hout⟩ : ∃ o, o = F_X11_isSixteenths X σ v0 := ⟨_, rfl⟩
  have hF := hout.symm
  unfold F_X11_isSixteenths at hF
  refine lv_iload_n hx hb dX11_isSixteenths_0 rfl (lv_at hl 0 rfl) ?_
  refine q_if_lt (A := v0.toInt) E rfl (tgt := 14) dX11_isSixteenths_1 (by decide) (fun c_1 => ?_) (fun c_1 => ?_)
  · skip
    replace hF := q_ifp hF c_1
    refine lv_iconst (v := 0) hx hb dX11_isSixteenths_14 zki_0 ?_
    have hrv : (0 : Int32).toInt = 0 := zt_0
    exact q_retz E hr hlk hI ⟨by decide, by decide⟩ ⟨rfl, ⟨by decide, by decide⟩, (hF.trans hout)⟩ dX11_isSixteenths_15
  · skip
    replace hF := q_ifn hF (Int.not_lt.mpr c_1)
    refine lv_iload_n hx hb dX11_isSixteenths_4 rfl (lv_at hl 0 rfl) ?_
    refine lv_bipush (v := 16) hx hb dX11_isSixteenths_5 zkb_16 ?_
    refine q_icmp_gt (A := v0.toInt) (B := 16) E rfl (by decide) (tgt := 14) dX11_isSixteenths_7 (by decide) (fun c_2 => ?_) (fun c_2 => ?_)
    · skip
      replace hF := q_ifp hF c_2
      refine lv_iconst (v := 0) hx hb dX11_isSixteenths_14 zki_0 ?_
      have hrv : (0 : Int32).toInt = 0 := zt_0
      exact q_retz E hr hlk hI ⟨by decide, by decide⟩ ⟨rfl, ⟨by decide, by decide⟩, (hF.trans hout)⟩ dX11_isSixteenths_15
    · skip
      replace hF := q_ifn hF (Int.not_lt.mpr c_2)
      refine lv_iconst (v := 1) hx hb dX11_isSixteenths_10 zki_1 ?_
      refine lv_goto (tgt := 15) hx hb dX11_isSixteenths_11 (by decide) ?_
      have hrv : (1 : Int32).toInt = 1 := zt_1
      exact q_retz E hr hlk hI ⟨by decide, by decide⟩ ⟨rfl, ⟨by decide, by decide⟩, (hF.trans hout)⟩ dX11_isSixteenths_15

set_option maxRecDepth 100000 in
set_option maxHeartbeats 4000000 in
theorem c_X11_bend (l : Launch) (X : XW) (σ : ST) (a : Nat) (v1 : Int32) (v2 : Int32) (v3 : Int32) (ha : q_kd X a = 11) : Met l yX11_bend (q_ws yX11_bend cX11_bend 4 (some .boolean)) (q_rm 1 22) (q_P X σ [.ref a, .int v1, .int v2, .int v3]) (q_Qi X 8 σ (fun (r : Int32) (σ' : ST) => (0 ≤ r.toInt ∧ r.toInt ≤ 1) ∧ (r, σ') = F_X11_bend X σ a v1 v2 v3 ∧ q_ow [(11, 0), (20, 99)] [] X σ σ')) 0 0 (q_reg X) := by
  refine q_met 8 (by first | exact rfl | decide +kernel) rfl (Nat.le_of_ble_eq_true rfl) (fun p e s m below meth c E hml hr hlk hI ls hl => ?_)
  have hx := E.1
  have hb := E.2.1
  have hl : lv_has ls 4 [(0, .ref a), (1, .int v1), (2, .int v2), (3, .int v3)] := hl
  have fr_σ : q_ow [(11, 0), (20, 99)] [] X σ σ := q_ow.rf
  obtain ⟨out, hout⟩ : ∃ o, o = F_X11_bend X σ a v1 v2 v3 := ⟨_, rfl⟩
  have hF := hout.symm
  unfold F_X11_bend at hF
  refine lv_aload_n hx hb dX11_bend_0 rfl (lv_at hl 0 rfl) ?_
  refine lv_iload_n hx hb dX11_bend_1 rfl (lv_at hl 1 rfl) ?_
  refine q_ci (q_rV10_1 (rest := []) E (hml.trans hl.1.symm) hI (c_X11_isPlayer l X σ a v1 ha) kv_X11_219 ha ⟨Nat.le_of_ble_eq_true rfl, Nat.le_of_ble_eq_true rfl⟩ (Nat.le_of_ble_eq_true rfl) dX11_bend_2) hI (Nat.le_of_ble_eq_true rfl) (fun r_1 σ_2 H locs hpσ_2 hkσ_2 hI => ?_)
  have ahpσ_2 := hpσ_2.1
  have bhpσ_2 := hpσ_2.2.1
  have chpσ_2 := hpσ_2.2.2
  clear hpσ_2
  replace hI := q_Irw ahpσ_2 hI
  replace hF := q_letX hF chpσ_2
  refine q_if_ne (A := r_1.toInt) E rfl (tgt := 14) dX11_bend_5 (by decide) (fun c_3 => ?_) (fun c_3 => ?_)
  · skip
    replace hF := q_ifn hF c_3
    replace c_3 := q_ifOne bhpσ_2 c_3
    refine lv_iload_n hx hb dX11_bend_14 rfl (lv_at hl 2 rfl) ?_
    refine q_ci (q_runS (As := [.int v2]) (rest := []) E (hml.trans hl.1.symm) hI (c_X11_isSixteenths l X σ v2) ks_X11_302 rfl ⟨Nat.le_of_ble_eq_true rfl, Nat.le_of_ble_eq_true rfl⟩ ⟨Nat.le_refl _, Nat.le_refl _⟩ rfl (Nat.le_of_ble_eq_true rfl) dX11_bend_15) hI (Nat.le_of_ble_eq_true rfl) (fun r_4 σ_5 H locs hpσ_5 hkσ_5 hI => ?_)
    have ahpσ_5 := hpσ_5.1
    have bhpσ_5 := hpσ_5.2.1
    have chpσ_5 := hpσ_5.2.2
    clear hpσ_5
    replace hI := q_Irw ahpσ_5 hI
    replace hF := q_letX hF chpσ_5
    refine q_if_eq (A := r_4.toInt) E rfl (tgt := 28) dX11_bend_18 (by decide) (fun c_6 => ?_) (fun c_6 => ?_)
    · skip
      replace hF := q_ifp hF c_6
      refine lv_aload_n hx hb dX11_bend_28 rfl (lv_at hl 0 rfl) ?_
      refine lv_iconst (v := 5) hx hb dX11_bend_29 zki_5 ?_
      have kc_7 : (5 : Int32).toInt = 5 := zt_5
      refine q_ci (q_rV10_1 (rest := []) E (hml.trans hl.1.symm) hI (c_X11_no l X σ a (5 : Int32) ha) kv_X11_89 ha ⟨Nat.le_of_ble_eq_true rfl, Nat.le_of_ble_eq_true rfl⟩ (Nat.le_of_ble_eq_true rfl) dX11_bend_30) hI (Nat.le_of_ble_eq_true rfl) (fun r_8 σ_9 H locs hpσ_9 hkσ_9 hI => ?_)
      have ahpσ_9 := hpσ_9.1
      have bhpσ_9 := hpσ_9.2.1
      have chpσ_9 := hpσ_9.2.2.1
      have dhpσ_9 := hpσ_9.2.2.2
      clear hpσ_9
      have fr_σ_9 := fr_σ.call dhpσ_9 rfl rfl
      replace hF := q_biX hF chpσ_9
      exact q_retz E hr hlk hI ⟨by omega, by omega⟩ ⟨⟨by omega, by omega⟩, (hF.trans hout), fr_σ_9⟩ dX11_bend_33
    · skip
      replace hF := q_ifn hF c_6
      replace c_6 := q_ifOne bhpσ_5 c_6
      refine lv_iload_n hx hb dX11_bend_21 rfl (lv_at hl 3 rfl) ?_
      refine q_ci (q_runS (As := [.int v3]) (rest := []) E (hml.trans hl.1.symm) hI (c_X11_isSixteenths l X σ v3) ks_X11_302 rfl ⟨Nat.le_of_ble_eq_true rfl, Nat.le_of_ble_eq_true rfl⟩ ⟨Nat.le_refl _, Nat.le_refl _⟩ rfl (Nat.le_of_ble_eq_true rfl) dX11_bend_22) hI (Nat.le_of_ble_eq_true rfl) (fun r_10 σ_11 H locs hpσ_11 hkσ_11 hI => ?_)
      have ahpσ_11 := hpσ_11.1
      have bhpσ_11 := hpσ_11.2.1
      have chpσ_11 := hpσ_11.2.2
      clear hpσ_11
      replace hI := q_Irw ahpσ_11 hI
      replace hF := q_letX hF chpσ_11
      refine q_if_ne (A := r_10.toInt) E rfl (tgt := 34) dX11_bend_25 (by decide) (fun c_12 => ?_) (fun c_12 => ?_)
      · skip
        replace hF := q_ifn hF c_12
        replace c_12 := q_ifOne bhpσ_11 c_12
        refine lv_aload_n hx hb dX11_bend_34 rfl (lv_at hl 0 rfl) ?_
        refine gs_X11_42_11 E hI ha dX11_bend_35 ?_
        refine gs_X11_222_1 E hI (q_tk (k' := 1) hI ha rfl (Nat.succ_ne_zero _)) dX11_bend_38 ?_
        refine gs_X11_226_2 E hI (q_tk (k' := 2) hI (q_tk (k' := 1) hI ha rfl (Nat.succ_ne_zero _)) rfl (Nat.succ_ne_zero _)) dX11_bend_41 ?_
        refine lv_iload_n hx hb dX11_bend_44 rfl (lv_at hl 1 rfl) ?_
        refine lv_iload_n hx hb dX11_bend_45 rfl (lv_at hl 2 rfl) ?_
        refine q_cv (q_rV4_2 (rest := []) E (hml.trans hl.1.symm) hI (c_X5_set l X σ (q_rf X (q_rf X (q_rf X a 8) 1) 3) v1 v2 (q_tk (k' := 5) hI (q_tk (k' := 2) hI (q_tk (k' := 1) hI ha rfl (Nat.succ_ne_zero _)) rfl (Nat.succ_ne_zero _)) rfl (Nat.succ_ne_zero _))) kv_X11_305 (q_tk (k' := 5) hI (q_tk (k' := 2) hI (q_tk (k' := 1) hI ha rfl (Nat.succ_ne_zero _)) rfl (Nat.succ_ne_zero _)) rfl (Nat.succ_ne_zero _)) ⟨Nat.le_of_ble_eq_true rfl, Nat.le_of_ble_eq_true rfl⟩ (Nat.le_of_ble_eq_true rfl) dX11_bend_46) hI (Nat.le_of_ble_eq_true rfl) (fun σ_14 H locs hpσ_14 hkσ_14 hI => ?_)
        have ahpσ_14 := hpσ_14.1
        have bhpσ_14 := hpσ_14.2
        clear hpσ_14
        have fr_σ_14 := fr_σ.call bhpσ_14 rfl rfl
        replace hF := q_letX hF ahpσ_14
        refine lv_aload_n hx hb dX11_bend_49 rfl (lv_at hl 0 rfl) ?_
        refine gs_X11_42_11 E hI ha dX11_bend_50 ?_
        refine gs_X11_222_1 E hI (q_tk (k' := 1) hI ha rfl (Nat.succ_ne_zero _)) dX11_bend_53 ?_
        refine gs_X11_236_2 E hI (q_tk (k' := 2) hI (q_tk (k' := 1) hI ha rfl (Nat.succ_ne_zero _)) rfl (Nat.succ_ne_zero _)) dX11_bend_56 ?_
        refine lv_iload_n hx hb dX11_bend_59 rfl (lv_at hl 1 rfl) ?_
        refine lv_iload_n hx hb dX11_bend_60 rfl (lv_at hl 3 rfl) ?_
        refine q_cv (q_rV4_2 (rest := []) E (hml.trans hl.1.symm) hI (c_X5_set l X σ_14 (q_rf X (q_rf X (q_rf X a 8) 1) 4) v1 v3 (q_tk (k' := 5) hI (q_tk (k' := 2) hI (q_tk (k' := 1) hI ha rfl (Nat.succ_ne_zero _)) rfl (Nat.succ_ne_zero _)) rfl (Nat.succ_ne_zero _))) kv_X11_305 (q_tk (k' := 5) hI (q_tk (k' := 2) hI (q_tk (k' := 1) hI ha rfl (Nat.succ_ne_zero _)) rfl (Nat.succ_ne_zero _)) rfl (Nat.succ_ne_zero _)) ⟨Nat.le_of_ble_eq_true rfl, Nat.le_of_ble_eq_true rfl⟩ (Nat.le_of_ble_eq_true rfl) dX11_bend_61) hI (Nat.le_of_ble_eq_true rfl) (fun σ_16 H locs hpσ_16 hkσ_16 hI => ?_)
        have ahpσ_16 := hpσ_16.1
        have bhpσ_16 := hpσ_16.2
        clear hpσ_16
        have fr_σ_16 := fr_σ_14.call bhpσ_16 rfl rfl
        replace hF := q_letX hF ahpσ_16
        refine lv_aload_n hx hb dX11_bend_64 rfl (lv_at hl 0 rfl) ?_
        refine q_ci (q_rV10_0 (rest := []) E (hml.trans hl.1.symm) hI (c_X11_yes l X σ_16 a ha) kv_X11_97 ha ⟨Nat.le_of_ble_eq_true rfl, Nat.le_of_ble_eq_true rfl⟩ (Nat.le_of_ble_eq_true rfl) dX11_bend_65) hI (Nat.le_of_ble_eq_true rfl) (fun r_17 σ_18 H locs hpσ_18 hkσ_18 hI => ?_)
        have ahpσ_18 := hpσ_18.1
        have bhpσ_18 := hpσ_18.2.1
        have chpσ_18 := hpσ_18.2.2.1
        have dhpσ_18 := hpσ_18.2.2.2
        clear hpσ_18
        have fr_σ_18 := fr_σ_16.call dhpσ_18 rfl rfl
        replace hF := q_biX hF chpσ_18
        exact q_retz E hr hlk hI ⟨by omega, by omega⟩ ⟨⟨by omega, by omega⟩, (hF.trans hout), fr_σ_18⟩ dX11_bend_68
      · skip
        replace hF := q_ifp hF c_12
        refine lv_aload_n hx hb dX11_bend_28 rfl (lv_at hl 0 rfl) ?_
        refine lv_iconst (v := 5) hx hb dX11_bend_29 zki_5 ?_
        have kc_19 : (5 : Int32).toInt = 5 := zt_5
        refine q_ci (q_rV10_1 (rest := []) E (hml.trans hl.1.symm) hI (c_X11_no l X σ a (5 : Int32) ha) kv_X11_89 ha ⟨Nat.le_of_ble_eq_true rfl, Nat.le_of_ble_eq_true rfl⟩ (Nat.le_of_ble_eq_true rfl) dX11_bend_30) hI (Nat.le_of_ble_eq_true rfl) (fun r_20 σ_21 H locs hpσ_21 hkσ_21 hI => ?_)
        have ahpσ_21 := hpσ_21.1
        have bhpσ_21 := hpσ_21.2.1
        have chpσ_21 := hpσ_21.2.2.1
        have dhpσ_21 := hpσ_21.2.2.2
        clear hpσ_21
        have fr_σ_21 := fr_σ.call dhpσ_21 rfl rfl
        replace hF := q_biX hF chpσ_21
        exact q_retz E hr hlk hI ⟨by omega, by omega⟩ ⟨⟨by omega, by omega⟩, (hF.trans hout), fr_σ_21⟩ dX11_bend_33
  · skip
    replace hF := q_ifp hF c_3
    refine lv_aload_n hx hb dX11_bend_8 rfl (lv_at hl 0 rfl) ?_
    refine lv_iconst (v := 2) hx hb dX11_bend_9 zki_2 ?_
    have kc_22 : (2 : Int32).toInt = 2 := zt_2
    refine q_ci (q_rV10_1 (rest := []) E (hml.trans hl.1.symm) hI (c_X11_no l X σ a (2 : Int32) ha) kv_X11_89 ha ⟨Nat.le_of_ble_eq_true rfl, Nat.le_of_ble_eq_true rfl⟩ (Nat.le_of_ble_eq_true rfl) dX11_bend_10) hI (Nat.le_of_ble_eq_true rfl) (fun r_23 σ_24 H locs hpσ_24 hkσ_24 hI => ?_)
    have ahpσ_24 := hpσ_24.1
    have bhpσ_24 := hpσ_24.2.1
    have chpσ_24 := hpσ_24.2.2.1
    have dhpσ_24 := hpσ_24.2.2.2
    clear hpσ_24
    have fr_σ_24 := fr_σ.call dhpσ_24 rfl rfl
    replace hF := q_biX hF chpσ_24
    exact q_retz E hr hlk hI ⟨by omega, by omega⟩ ⟨⟨by omega, by omega⟩, (hF.trans hout), fr_σ_24⟩ dX11_bend_13
end
/-! FROM 16.class.b03.lean.txt -/
section
set_option maxRecDepth 100000 in
set_option maxHeartbeats 4000000 in
theorem c_X11_known (l : Launch) (X : XW) (σ : ST) (a : Nat) (v1 : Int32) (v2 : Int32) (ha : q_kd X a = 11) : Met l yX11_known (q_ws yX11_known cX11_known 3 (some .int)) (q_rm 2 44) (q_P X σ [.ref a, .int v1, .int v2]) (q_Qi X 8 σ (fun (r : Int32) (σ' : ST) => (r, σ') = F_X11_known X σ a v1 v2 ∧ q_ow [(11, 0)] [] X σ σ')) 0 0 (q_reg X) := by
  refine q_met 8 (by first | exact rfl | decide +kernel) rfl (Nat.le_of_ble_eq_true rfl) (fun p e s m below meth c E hml hr hlk hI ls hl => ?_)
  have hx := E.1
  have hb := E.2.1
  have hl : lv_has ls 3 [(0, .ref a), (1, .int v1), (2, .int v2)] := hl
  have fr_σ : q_ow [(11, 0)] [] X σ σ := q_ow.rf
  obtain ⟨out, hout⟩ : ∃ o, o = F_X11_known X σ a v1 v2 := ⟨_, rfl⟩
  have hF := hout.symm
  unfold F_X11_known at hF
  refine lv_aload_n hx hb dX11_known_0 rfl (lv_at hl 0 rfl) ?_
  refine lv_iload_n hx hb dX11_known_1 rfl (lv_at hl 1 rfl) ?_
  refine q_ci (q_rV10_1 (rest := []) E (hml.trans hl.1.symm) hI (c_X11_isPlayer l X σ a v1 ha) kv_X11_219 ha ⟨Nat.le_of_ble_eq_true rfl, Nat.le_of_ble_eq_true rfl⟩ (Nat.le_of_ble_eq_true rfl) dX11_known_2) hI (Nat.le_of_ble_eq_true rfl) (fun r_1 σ_2 H locs hpσ_2 hkσ_2 hI => ?_)
  have ahpσ_2 := hpσ_2.1
  have bhpσ_2 := hpσ_2.2.1
  have chpσ_2 := hpσ_2.2.2
  clear hpσ_2
  replace hI := q_Irw ahpσ_2 hI
  replace hF := q_letX hF chpσ_2
  refine q_if_eq (A := r_1.toInt) E rfl (tgt := 16) dX11_known_5 (by decide) (fun c_3 => ?_) (fun c_3 => ?_)
  · skip
    replace hF := q_ifp hF c_3
    refine lv_aload_n hx hb dX11_known_16 rfl (lv_at hl 0 rfl) ?_
    refine lv_iconst (v := 2) hx hb dX11_known_17 zki_2 ?_
    have kc_4 : (2 : Int32).toInt = 2 := zt_2
    refine q_ci (q_rV10_1 (rest := []) E (hml.trans hl.1.symm) hI (c_X11_none l X σ a (2 : Int32) ha) kv_X11_109 ha ⟨Nat.le_of_ble_eq_true rfl, Nat.le_of_ble_eq_true rfl⟩ (Nat.le_of_ble_eq_true rfl) dX11_known_18) hI (Nat.le_of_ble_eq_true rfl) (fun r_5 σ_6 H locs hpσ_6 hkσ_6 hI => ?_)
    have ahpσ_6 := hpσ_6.1
    have bhpσ_6 := hpσ_6.2.1
    have chpσ_6 := hpσ_6.2.2
    clear hpσ_6
    have fr_σ_6 := fr_σ.call chpσ_6 rfl rfl
    replace hF := q_biX hF bhpσ_6
    exact q_reti E hr hlk hI ⟨(hF.trans hout), fr_σ_6⟩ dX11_known_21
  · skip
    replace hF := q_ifn hF c_3
    replace c_3 := q_ifOne bhpσ_2 c_3
    refine lv_aload_n hx hb dX11_known_8 rfl (lv_at hl 0 rfl) ?_
    refine lv_iload_n hx hb dX11_known_9 rfl (lv_at hl 2 rfl) ?_
    refine q_ci (q_rV10_1 (rest := []) E (hml.trans hl.1.symm) hI (c_X11_isKind l X σ a v2 ha) kv_X11_250 ha ⟨Nat.le_of_ble_eq_true rfl, Nat.le_of_ble_eq_true rfl⟩ (Nat.le_of_ble_eq_true rfl) dX11_known_10) hI (Nat.le_of_ble_eq_true rfl) (fun r_7 σ_8 H locs hpσ_8 hkσ_8 hI => ?_)
    have ahpσ_8 := hpσ_8.1
    have bhpσ_8 := hpσ_8.2.1
    have chpσ_8 := hpσ_8.2.2
    clear hpσ_8
    replace hI := q_Irw ahpσ_8 hI
    replace hF := q_letX hF chpσ_8
    refine q_if_ne (A := r_7.toInt) E rfl (tgt := 22) dX11_known_13 (by decide) (fun c_9 => ?_) (fun c_9 => ?_)
    · skip
      replace hF := q_ifn hF c_9
      replace c_9 := q_ifOne bhpσ_8 c_9
      refine lv_aload_n hx hb dX11_known_22 rfl (lv_at hl 0 rfl) ?_
      refine lv_aload_n hx hb dX11_known_23 rfl (lv_at hl 0 rfl) ?_
      refine gs_X11_42_11 E hI ha dX11_known_24 ?_
      refine gs_X11_222_1 E hI (q_tk (k' := 1) hI ha rfl (Nat.succ_ne_zero _)) dX11_known_27 ?_
      refine lv_iload_n hx hb dX11_known_30 rfl (lv_at hl 1 rfl) ?_
      refine lv_iload_n hx hb dX11_known_31 rfl (lv_at hl 2 rfl) ?_
      refine q_ci (q_rV1_2 (rest := [.ref a]) E (hml.trans hl.1.symm) hI (c_X1_knownTo l X σ (q_rf X (q_rf X a 8) 1) v1 v2 (q_tk (k' := 2) hI (q_tk (k' := 1) hI ha rfl (Nat.succ_ne_zero _)) rfl (Nat.succ_ne_zero _))) kv_X11_308 (q_tk (k' := 2) hI (q_tk (k' := 1) hI ha rfl (Nat.succ_ne_zero _)) rfl (Nat.succ_ne_zero _)) ⟨Nat.le_of_ble_eq_true rfl, Nat.le_of_ble_eq_true rfl⟩ (Nat.le_of_ble_eq_true rfl) dX11_known_32) hI (Nat.le_of_ble_eq_true rfl) (fun r_10 σ_11 H locs hpσ_11 hkσ_11 hI => ?_)
      have ahpσ_11 := hpσ_11.1
      have bhpσ_11 := hpσ_11.2
      clear hpσ_11
      replace hI := q_Irw ahpσ_11 hI
      replace hF := q_letX hF bhpσ_11
      refine q_ci (q_rV10_1 (rest := []) E (hml.trans hl.1.symm) hI (c_X11_good l X σ a r_10 ha) kv_X11_156 ha ⟨Nat.le_of_ble_eq_true rfl, Nat.le_of_ble_eq_true rfl⟩ (Nat.le_of_ble_eq_true rfl) dX11_known_35) hI (Nat.le_of_ble_eq_true rfl) (fun r_12 σ_13 H locs hpσ_13 hkσ_13 hI => ?_)
      have ahpσ_13 := hpσ_13.1
      have bhpσ_13 := hpσ_13.2.1
      have chpσ_13 := hpσ_13.2.2
      clear hpσ_13
      have fr_σ_13 := fr_σ.call chpσ_13 rfl rfl
      replace hF := q_biX hF bhpσ_13
      exact q_reti E hr hlk hI ⟨(hF.trans hout), fr_σ_13⟩ dX11_known_38
    · skip
      replace hF := q_ifp hF c_9
      refine lv_aload_n hx hb dX11_known_16 rfl (lv_at hl 0 rfl) ?_
      refine lv_iconst (v := 2) hx hb dX11_known_17 zki_2 ?_
      have kc_14 : (2 : Int32).toInt = 2 := zt_2
      refine q_ci (q_rV10_1 (rest := []) E (hml.trans hl.1.symm) hI (c_X11_none l X σ a (2 : Int32) ha) kv_X11_109 ha ⟨Nat.le_of_ble_eq_true rfl, Nat.le_of_ble_eq_true rfl⟩ (Nat.le_of_ble_eq_true rfl) dX11_known_18) hI (Nat.le_of_ble_eq_true rfl) (fun r_15 σ_16 H locs hpσ_16 hkσ_16 hI => ?_)
      have ahpσ_16 := hpσ_16.1
      have bhpσ_16 := hpσ_16.2.1
      have chpσ_16 := hpσ_16.2.2
      clear hpσ_16
      have fr_σ_16 := fr_σ.call chpσ_16 rfl rfl
      replace hF := q_biX hF bhpσ_16
      exact q_reti E hr hlk hI ⟨(hF.trans hout), fr_σ_16⟩ dX11_known_21

set_option maxRecDepth 100000 in
set_option maxHeartbeats 4000000 in
theorem c_X11_unknown (l : Launch) (X : XW) (σ : ST) (a : Nat) (v1 : Int32) (v2 : Int32) (ha : q_kd X a = 11) : Met l yX11_unknown (q_ws yX11_unknown cX11_unknown 3 (some .int)) (q_rm 4 89) (q_P X σ [.ref a, .int v1, .int v2]) (q_Qi X 8 σ (fun (r : Int32) (σ' : ST) => (r, σ') = F_X11_unknown X σ a v1 v2 ∧ q_ow [(11, 0)] [] X σ σ')) 0 0 (q_reg X) := by
  refine q_met 8 (by first | exact rfl | decide +kernel) rfl (Nat.le_of_ble_eq_true rfl) (fun p e s m below meth c E hml hr hlk hI ls hl => ?_)
  have hx := E.1
  have hb := E.2.1
  have hl : lv_has ls 3 [(0, .ref a), (1, .int v1), (2, .int v2)] := hl
  have fr_σ : q_ow [(11, 0)] [] X σ σ := q_ow.rf
  obtain ⟨out, hout⟩ : ∃ o, o = F_X11_unknown X σ a v1 v2 := ⟨_, rfl⟩
  have hF := hout.symm
  unfold F_X11_unknown at hF
  refine lv_aload_n hx hb dX11_unknown_0 rfl (lv_at hl 0 rfl) ?_
  refine lv_iload_n hx hb dX11_unknown_1 rfl (lv_at hl 1 rfl) ?_
  refine q_ci (q_rV10_1 (rest := []) E (hml.trans hl.1.symm) hI (c_X11_isPlayer l X σ a v1 ha) kv_X11_219 ha ⟨Nat.le_of_ble_eq_true rfl, Nat.le_of_ble_eq_true rfl⟩ (Nat.le_of_ble_eq_true rfl) dX11_unknown_2) hI (Nat.le_of_ble_eq_true rfl) (fun r_1 σ_2 H locs hpσ_2 hkσ_2 hI => ?_)
  have ahpσ_2 := hpσ_2.1
  have bhpσ_2 := hpσ_2.2.1
  have chpσ_2 := hpσ_2.2.2
  clear hpσ_2
  replace hI := q_Irw ahpσ_2 hI
  replace hF := q_letX hF chpσ_2
  refine q_if_eq (A := r_1.toInt) E rfl (tgt := 16) dX11_unknown_5 (by decide) (fun c_3 => ?_) (fun c_3 => ?_)
  · skip
    replace hF := q_ifp hF c_3
    refine lv_aload_n hx hb dX11_unknown_16 rfl (lv_at hl 0 rfl) ?_
    refine lv_iconst (v := 2) hx hb dX11_unknown_17 zki_2 ?_
    have kc_4 : (2 : Int32).toInt = 2 := zt_2
    refine q_ci (q_rV10_1 (rest := []) E (hml.trans hl.1.symm) hI (c_X11_none l X σ a (2 : Int32) ha) kv_X11_109 ha ⟨Nat.le_of_ble_eq_true rfl, Nat.le_of_ble_eq_true rfl⟩ (Nat.le_of_ble_eq_true rfl) dX11_unknown_18) hI (Nat.le_of_ble_eq_true rfl) (fun r_5 σ_6 H locs hpσ_6 hkσ_6 hI => ?_)
    have ahpσ_6 := hpσ_6.1
    have bhpσ_6 := hpσ_6.2.1
    have chpσ_6 := hpσ_6.2.2
    clear hpσ_6
    have fr_σ_6 := fr_σ.call chpσ_6 rfl rfl
    replace hF := q_biX hF bhpσ_6
    exact q_reti E hr hlk hI ⟨(hF.trans hout), fr_σ_6⟩ dX11_unknown_21
  · skip
    replace hF := q_ifn hF c_3
    replace c_3 := q_ifOne bhpσ_2 c_3
    refine lv_aload_n hx hb dX11_unknown_8 rfl (lv_at hl 0 rfl) ?_
    refine lv_iload_n hx hb dX11_unknown_9 rfl (lv_at hl 2 rfl) ?_
    refine q_ci (q_rV10_1 (rest := []) E (hml.trans hl.1.symm) hI (c_X11_isKindOrNone l X σ a v2 ha) kv_X11_275 ha ⟨Nat.le_of_ble_eq_true rfl, Nat.le_of_ble_eq_true rfl⟩ (Nat.le_of_ble_eq_true rfl) dX11_unknown_10) hI (Nat.le_of_ble_eq_true rfl) (fun r_7 σ_8 H locs hpσ_8 hkσ_8 hI => ?_)
    have ahpσ_8 := hpσ_8.1
    have bhpσ_8 := hpσ_8.2.1
    have chpσ_8 := hpσ_8.2.2
    clear hpσ_8
    replace hI := q_Irw ahpσ_8 hI
    replace hF := q_letX hF chpσ_8
    refine q_if_ne (A := r_7.toInt) E rfl (tgt := 22) dX11_unknown_13 (by decide) (fun c_9 => ?_) (fun c_9 => ?_)
    · skip
      replace hF := q_ifn hF c_9
      replace c_9 := q_ifOne bhpσ_8 c_9
      refine lv_aload_n hx hb dX11_unknown_22 rfl (lv_at hl 0 rfl) ?_
      refine lv_iload_n hx hb dX11_unknown_23 rfl (lv_at hl 2 rfl) ?_
      refine lv_iconst (v := (-1)) hx hb dX11_unknown_24 zki_m1 ?_
      refine q_icmp_ne (A := v2.toInt) (B := (-1)) E rfl (by decide) (tgt := 39) dX11_unknown_25 (by decide) (fun c_10 => ?_) (fun c_10 => ?_)
      · skip
        replace hF := q_ifn hF c_10
        refine lv_aload_n hx hb dX11_unknown_39 rfl (lv_at hl 0 rfl) ?_
        refine gs_X11_42_11 E hI ha dX11_unknown_40 ?_
        refine lv_iload_n hx hb dX11_unknown_43 rfl (lv_at hl 1 rfl) ?_
        refine lv_iload_n hx hb dX11_unknown_44 rfl (lv_at hl 2 rfl) ?_
        refine q_ci (q_rV0_2 (rest := [.ref a]) E (hml.trans hl.1.symm) hI (c_X0_unknownTo l X σ (q_rf X a 8) v1 v2 (q_tk (k' := 1) hI ha rfl (Nat.succ_ne_zero _))) kv_X11_314 (q_tk (k' := 1) hI ha rfl (Nat.succ_ne_zero _)) ⟨Nat.le_of_ble_eq_true rfl, Nat.le_of_ble_eq_true rfl⟩ (Nat.le_of_ble_eq_true rfl) dX11_unknown_45) hI (Nat.le_of_ble_eq_true rfl) (fun r_11 σ_12 H locs hpσ_12 hkσ_12 hI => ?_)
        have ahpσ_12 := hpσ_12.1
        have bhpσ_12 := hpσ_12.2
        clear hpσ_12
        replace hI := q_Irw ahpσ_12 hI
        replace hF := q_letX hF bhpσ_12
        refine q_ci (q_rV10_1 (rest := []) E (hml.trans hl.1.symm) hI (c_X11_good l X σ a r_11 ha) kv_X11_156 ha ⟨Nat.le_of_ble_eq_true rfl, Nat.le_of_ble_eq_true rfl⟩ (Nat.le_of_ble_eq_true rfl) dX11_unknown_48) hI (Nat.le_of_ble_eq_true rfl) (fun r_13 σ_14 H locs hpσ_14 hkσ_14 hI => ?_)
        have ahpσ_14 := hpσ_14.1
        have bhpσ_14 := hpσ_14.2.1
        have chpσ_14 := hpσ_14.2.2
        clear hpσ_14
        have fr_σ_14 := fr_σ.call chpσ_14 rfl rfl
        replace hF := q_biX hF bhpσ_14
        exact q_reti E hr hlk hI ⟨(hF.trans hout), fr_σ_14⟩ dX11_unknown_51
      · skip
        replace hF := q_ifp hF c_10
        refine lv_aload_n hx hb dX11_unknown_28 rfl (lv_at hl 0 rfl) ?_
        refine gs_X11_42_11 E hI ha dX11_unknown_29 ?_
        refine lv_iload_n hx hb dX11_unknown_32 rfl (lv_at hl 1 rfl) ?_
        refine q_ci (q_rV0_1 (rest := [.ref a]) E (hml.trans hl.1.symm) hI (c_X0_allUnknownTo l X σ (q_rf X a 8) v1 (q_tk (k' := 1) hI ha rfl (Nat.succ_ne_zero _))) kv_X11_311 (q_tk (k' := 1) hI ha rfl (Nat.succ_ne_zero _)) ⟨Nat.le_of_ble_eq_true rfl, Nat.le_of_ble_eq_true rfl⟩ (Nat.le_of_ble_eq_true rfl) dX11_unknown_33) hI (Nat.le_of_ble_eq_true rfl) (fun r_15 σ_16 H locs hpσ_16 hkσ_16 hI => ?_)
        have ahpσ_16 := hpσ_16.1
        have bhpσ_16 := hpσ_16.2
        clear hpσ_16
        replace hI := q_Irw ahpσ_16 hI
        replace hF := q_letX hF bhpσ_16
        refine lv_goto (tgt := 48) hx hb dX11_unknown_36 (by decide) ?_
        refine q_ci (q_rV10_1 (rest := []) E (hml.trans hl.1.symm) hI (c_X11_good l X σ a r_15 ha) kv_X11_156 ha ⟨Nat.le_of_ble_eq_true rfl, Nat.le_of_ble_eq_true rfl⟩ (Nat.le_of_ble_eq_true rfl) dX11_unknown_48) hI (Nat.le_of_ble_eq_true rfl) (fun r_17 σ_18 H locs hpσ_18 hkσ_18 hI => ?_)
        have ahpσ_18 := hpσ_18.1
        have bhpσ_18 := hpσ_18.2.1
        have chpσ_18 := hpσ_18.2.2
        clear hpσ_18
        have fr_σ_18 := fr_σ.call chpσ_18 rfl rfl
        replace hF := q_biX hF bhpσ_18
        exact q_reti E hr hlk hI ⟨(hF.trans hout), fr_σ_18⟩ dX11_unknown_51
    · skip
      replace hF := q_ifp hF c_9
      refine lv_aload_n hx hb dX11_unknown_16 rfl (lv_at hl 0 rfl) ?_
      refine lv_iconst (v := 2) hx hb dX11_unknown_17 zki_2 ?_
      have kc_19 : (2 : Int32).toInt = 2 := zt_2
      refine q_ci (q_rV10_1 (rest := []) E (hml.trans hl.1.symm) hI (c_X11_none l X σ a (2 : Int32) ha) kv_X11_109 ha ⟨Nat.le_of_ble_eq_true rfl, Nat.le_of_ble_eq_true rfl⟩ (Nat.le_of_ble_eq_true rfl) dX11_unknown_18) hI (Nat.le_of_ble_eq_true rfl) (fun r_20 σ_21 H locs hpσ_21 hkσ_21 hI => ?_)
      have ahpσ_21 := hpσ_21.1
      have bhpσ_21 := hpσ_21.2.1
      have chpσ_21 := hpσ_21.2.2
      clear hpσ_21
      have fr_σ_21 := fr_σ.call chpσ_21 rfl rfl
      replace hF := q_biX hF bhpσ_21
      exact q_reti E hr hlk hI ⟨(hF.trans hout), fr_σ_21⟩ dX11_unknown_21

set_option maxRecDepth 100000 in
set_option maxHeartbeats 4000000 in
theorem c_X11_impossible (l : Launch) (X : XW) (σ : ST) (a : Nat) (v1 : Int32) (ha : q_kd X a = 11) : Met l yX11_impossible (q_ws yX11_impossible cX11_impossible 3 (some .int)) (q_rm 3 65) (q_P X σ [.ref a, .int v1]) (q_Qi X 8 σ (fun (r : Int32) (σ' : ST) => (r, σ') = F_X11_impossible X σ a v1 ∧ q_ow [(11, 0)] [] X σ σ')) 0 0 (q_reg X) := by
  refine q_met 8 (by first | exact rfl | decide +kernel) rfl (Nat.le_of_ble_eq_true rfl) (fun p e s m below meth c E hml hr hlk hI ls hl => ?_)
  have hx := E.1
  have hb := E.2.1
  have hl : lv_has ls 3 [(0, .ref a), (1, .int v1)] := hl
  have fr_σ : q_ow [(11, 0)] [] X σ σ := q_ow.rf
  obtain ⟨out, hout⟩ : ∃ o, o = F_X11_impossible X σ a v1 := ⟨_, rfl⟩
  have hF := hout.symm
  unfold F_X11_impossible at hF
  refine lv_aload_n hx hb dX11_impossible_0 rfl (lv_at hl 0 rfl) ?_
  refine lv_iload_n hx hb dX11_impossible_1 rfl (lv_at hl 1 rfl) ?_
  refine q_ci (q_rV10_1 (rest := []) E (hml.trans hl.1.symm) hI (c_X11_doubterStatus l X σ a v1 ha) kv_X11_296 ha ⟨Nat.le_of_ble_eq_true rfl, Nat.le_of_ble_eq_true rfl⟩ (Nat.le_of_ble_eq_true rfl) dX11_impossible_2) hI (Nat.le_of_ble_eq_true rfl) (fun r_1 σ_2 H locs hpσ_2 hkσ_2 hI => ?_)
  have ahpσ_2 := hpσ_2.1
  have bhpσ_2 := hpσ_2.2
  clear hpσ_2
  replace hI := q_Irw ahpσ_2 hI
  replace hF := q_letX hF bhpσ_2
  refine lv_istore_n (lv' := [(2, .int r_1), (0, .ref a), (1, .int v1)]) hx hb dX11_impossible_5 rfl hl (by decide) rfl (fun ls hl => ?_)
  refine lv_iload_n hx hb dX11_impossible_6 rfl (lv_at hl 0 rfl) ?_
  refine q_if_eq (A := r_1.toInt) E rfl (tgt := 16) dX11_impossible_7 (by decide) (fun c_3 => ?_) (fun c_3 => ?_)
  · skip
    replace hF := q_ifp hF c_3
    refine lv_aload_n hx hb dX11_impossible_16 rfl (lv_at hl 1 rfl) ?_
    refine lv_aload_n hx hb dX11_impossible_17 rfl (lv_at hl 1 rfl) ?_
    refine gs_X11_42_11 E hI ha dX11_impossible_18 ?_
    refine lv_iload_n hx hb dX11_impossible_21 rfl (lv_at hl 2 rfl) ?_
    refine q_ci (q_rV0_1 (rest := [.ref a]) E (hml.trans hl.1.symm) hI (c_X0_isImpossibleFor l X σ (q_rf X a 8) v1 (q_tk (k' := 1) hI ha rfl (Nat.succ_ne_zero _))) kv_X11_317 (q_tk (k' := 1) hI ha rfl (Nat.succ_ne_zero _)) ⟨Nat.le_of_ble_eq_true rfl, Nat.le_of_ble_eq_true rfl⟩ (Nat.le_of_ble_eq_true rfl) dX11_impossible_22) hI (Nat.le_of_ble_eq_true rfl) (fun r_4 σ_5 H locs hpσ_5 hkσ_5 hI => ?_)
    have ahpσ_5 := hpσ_5.1
    have bhpσ_5 := hpσ_5.2.1
    have chpσ_5 := hpσ_5.2.2
    clear hpσ_5
    replace hI := q_Irw ahpσ_5 hI
    replace hF := q_letX hF chpσ_5
    refine q_if_eq (A := r_4.toInt) E rfl (tgt := 32) dX11_impossible_25 (by decide) (fun c_6 => ?_) (fun c_6 => ?_)
    · skip
      replace hF := q_ifp hF c_6
      refine lv_iconst (v := 0) hx hb dX11_impossible_32 zki_0 ?_
      have kc_7 : (0 : Int32).toInt = 0 := zt_0
      refine q_ci (q_rV10_1 (rest := []) E (hml.trans hl.1.symm) hI (c_X11_good l X σ a (0 : Int32) ha) kv_X11_156 ha ⟨Nat.le_of_ble_eq_true rfl, Nat.le_of_ble_eq_true rfl⟩ (Nat.le_of_ble_eq_true rfl) dX11_impossible_33) hI (Nat.le_of_ble_eq_true rfl) (fun r_8 σ_9 H locs hpσ_9 hkσ_9 hI => ?_)
      have ahpσ_9 := hpσ_9.1
      have bhpσ_9 := hpσ_9.2.1
      have chpσ_9 := hpσ_9.2.2
      clear hpσ_9
      have fr_σ_9 := fr_σ.call chpσ_9 rfl rfl
      replace hF := q_biX hF bhpσ_9
      exact q_reti E hr hlk hI ⟨(hF.trans hout), fr_σ_9⟩ dX11_impossible_36
    · skip
      replace hF := q_ifn hF c_6
      replace c_6 := q_ifOne bhpσ_5 c_6
      refine lv_iconst (v := 1) hx hb dX11_impossible_28 zki_1 ?_
      refine lv_goto (tgt := 33) hx hb dX11_impossible_29 (by decide) ?_
      have kc_10 : (1 : Int32).toInt = 1 := zt_1
      refine q_ci (q_rV10_1 (rest := []) E (hml.trans hl.1.symm) hI (c_X11_good l X σ a (1 : Int32) ha) kv_X11_156 ha ⟨Nat.le_of_ble_eq_true rfl, Nat.le_of_ble_eq_true rfl⟩ (Nat.le_of_ble_eq_true rfl) dX11_impossible_33) hI (Nat.le_of_ble_eq_true rfl) (fun r_11 σ_12 H locs hpσ_12 hkσ_12 hI => ?_)
      have ahpσ_12 := hpσ_12.1
      have bhpσ_12 := hpσ_12.2.1
      have chpσ_12 := hpσ_12.2.2
      clear hpσ_12
      have fr_σ_12 := fr_σ.call chpσ_12 rfl rfl
      replace hF := q_biX hF bhpσ_12
      exact q_reti E hr hlk hI ⟨(hF.trans hout), fr_σ_12⟩ dX11_impossible_36
  · skip
    replace hF := q_ifn hF c_3
    refine lv_aload_n hx hb dX11_impossible_10 rfl (lv_at hl 1 rfl) ?_
    refine lv_iload_n hx hb dX11_impossible_11 rfl (lv_at hl 0 rfl) ?_
    refine q_ci (q_rV10_1 (rest := []) E (hml.trans hl.1.symm) hI (c_X11_none l X σ a r_1 ha) kv_X11_109 ha ⟨Nat.le_of_ble_eq_true rfl, Nat.le_of_ble_eq_true rfl⟩ (Nat.le_of_ble_eq_true rfl) dX11_impossible_12) hI (Nat.le_of_ble_eq_true rfl) (fun r_13 σ_14 H locs hpσ_14 hkσ_14 hI => ?_)
    have ahpσ_14 := hpσ_14.1
    have bhpσ_14 := hpσ_14.2.1
    have chpσ_14 := hpσ_14.2.2
    clear hpσ_14
    have fr_σ_14 := fr_σ.call chpσ_14 rfl rfl
    replace hF := q_biX hF bhpσ_14
    exact q_reti E hr hlk hI ⟨(hF.trans hout), fr_σ_14⟩ dX11_impossible_15

set_option maxRecDepth 100000 in
set_option maxHeartbeats 4000000 in
theorem c_X11_commonDivisor (l : Launch) (X : XW) (σ : ST) (v0 : Int64) (v1 : Int64) : Met l yX11_commonDivisor (q_ws yX11_commonDivisor cX11_commonDivisor 7 (some .long)) (q_rm 0 0) (q_P X σ [.long v0, .long v1]) (q_Ql X 9 σ (fun (r : Int64) (σ' : ST) => σ' = σ ∧ r = F_X11_commonDivisor X σ v0 v1)) 0 0 (q_reg X) := by
  refine q_met 9 (by first | exact rfl | decide +kernel) rfl (Nat.le_of_ble_eq_true rfl) (fun p e s m below meth c E hml hr hlk hI ls hl => ?_)
  have hx := E.1
  have hb := E.2.1
  have hl : lv_has ls 7 [(0, .long v0), (2, .long v1)] := hl
  obtain ⟨out, hout⟩ : ∃ o, o = F_X11_commonDivisor X σ v0 v1 := ⟨_, rfl⟩
  have hF := hout.symm
  unfold F_X11_commonDivisor at hF
  refine lv_iconst (v := 0) hx hb dX11_commonDivisor_0 zki_0 ?_
  refine lv_istore (lv' := [(4, .int 0), (0, .long v0), (2, .long v1)]) hx hb dX11_commonDivisor_1 hl (by decide) rfl (fun ls hl => ?_)
  have L_3_4 : ∀ (k_4 : Nat) (w_1 : Int64) (w_2 : Int64) (x_3 : Int32) (H : Heap) (locs : List Loc) (ls : Array Slot), (2147483647 - x_3.toInt).toNat < k_4 → (0 ≤ x_3.toInt) → (F_X11_commonDivisor_L3_1 X k_4 w_1 w_2 x_3 = out) → q_I X 9 σ s.heap locs σ H → lv_has ls 7 [(0, .long w_1), (2, .long w_2), (4, .int x_3)] → W p l e (q_rm 0 0) s m ([.long v0, .long v1] : List Value).toArray below meth c H locs 0 0 (MQ below (q_Ql X 9 σ (fun (r : Int64) (σ' : ST) => σ' = σ ∧ r = F_X11_commonDivisor X σ v0 v1)) ([.long v0, .long v1] : List Value).toArray s 0 0 (q_reg X)) (F0 m 3 ls []) := by
    clear hF
    intro k_4
    induction k_4 with
    | zero =>
      intro w_1 w_2 x_3 H locs ls hms
      exact absurd hms (Nat.not_lt_zero _)
    | succ k_4 ih3 =>
      intro w_1 w_2 x_3 H locs ls hm3 hge3 hF hI hl
      replace hF := (F_X11_commonDivisor_L3_1_s).symm.trans hF
      unfold F_X11_commonDivisor_B3_1 at hF
      refine lv_iload hx hb dX11_commonDivisor_3 (lv_at hl 2 rfl) ?_
      refine lv_sipush (v := 200) hx hb dX11_commonDivisor_5 zks_200 ?_
      have gc_5_x_3 := q_rng x_3
      refine q_icmp_ge (A := x_3.toInt) (B := 200) E rfl (by decide) (tgt := 33) dX11_commonDivisor_8 (by decide) (fun c_5 => ?_) (fun c_5 => ?_)
      · skip
        replace hF := q_ifn hF (Int.not_lt.mpr c_5)
        skip
        refine lv_lload_n hx hb dX11_commonDivisor_33 rfl (lv_at hl 0 rfl) ?_
        exact q_retl E hr hlk hI ⟨rfl, (hF.trans hout)⟩ dX11_commonDivisor_34
      · skip
        replace hF := q_ifp hF c_5
        refine lv_lload_n hx hb dX11_commonDivisor_11 rfl (lv_at hl 1 rfl) ?_
        refine lv_lconst (v := 0) hx hb dX11_commonDivisor_12 (by decide) ?_
        have kc_7 : (0 : Int64).toInt = 0 := rfl
        refine q_lcmpX E dX11_commonDivisor_13 (fun z_6 ez_6 hz_6 => ?_)
        replace hF := q_letX hF ez_6
        refine q_if_eq (A := z_6.toInt) E rfl (tgt := 33) dX11_commonDivisor_14 (by decide) (fun c_8 => ?_) (fun c_8 => ?_)
        · skip
          replace hF := q_ifp hF c_8
          skip
          refine lv_lload_n hx hb dX11_commonDivisor_33 rfl (lv_at hl 0 rfl) ?_
          exact q_retl E hr hlk hI ⟨rfl, (hF.trans hout)⟩ dX11_commonDivisor_34
        · skip
          replace hF := q_ifn hF c_8
          refine lv_lload_n hx hb dX11_commonDivisor_17 rfl (lv_at hl 0 rfl) ?_
          refine lv_lload_n hx hb dX11_commonDivisor_18 rfl (lv_at hl 1 rfl) ?_
          refine lv_lrem hx hb dX11_commonDivisor_19 (q_ne0l (by first | (clear w_1 hm3 hge3 gc_5_x_3 c_5; omega) | omega)) ?_
          refine lv_topl (fun y_9 ey_9 => ?_)
          replace hF := q_letX hF (ey_9.trans (q_remJ _ _))
          refine lv_lstore (lv' := [(5, .long y_9), (0, .long w_1), (2, .long w_2), (4, .int x_3)]) hx hb dX11_commonDivisor_20 hl (by decide) rfl (fun ls hl => ?_)
          refine lv_lload_n hx hb dX11_commonDivisor_22 rfl (lv_at hl 2 rfl) ?_
          refine lv_lstore_n (lv' := [(0, .long w_2), (5, .long y_9), (2, .long w_2), (4, .int x_3)]) hx hb dX11_commonDivisor_23 rfl hl (by decide) rfl (fun ls hl => ?_)
          refine lv_lload hx hb dX11_commonDivisor_24 (lv_at hl 1 rfl) ?_
          refine lv_lstore_n (lv' := [(2, .long y_9), (0, .long w_2), (5, .long y_9), (4, .int x_3)]) hx hb dX11_commonDivisor_26 rfl hl (by decide) rfl (fun ls hl => ?_)
          obtain ⟨z_10, ez_10⟩ : ∃ y : Int32, y = x_3 + 1 := ⟨_, rfl⟩
          replace hF := q_letX hF ez_10
          refine lv_iinc (v := z_10) (lv' := [(4, .int z_10), (2, .long y_9), (0, .long w_2), (5, .long y_9)]) hx hb dX11_commonDivisor_27 hl (k := 3) rfl (by rw [ez_10]; rfl) (by decide) rfl (fun ls hl => ?_)
          have iz_10 : z_10.toInt = x_3.toInt + 1 := q_inc ez_10 (by first | (clear w_1 w_2 hm3 kc_7 hz_6 c_8; omega) | omega)
          refine lv_goto (tgt := 3) hx hb dX11_commonDivisor_30 (by decide) ?_
          exact ih3 w_2 y_9 z_10 _ _ ls (by first | (clear w_1 kc_7; omega) | omega) (by first | (clear w_1 w_2 hm3 kc_7 hz_6 c_8; omega) | omega) hF hI (lv_sub hl [2, 1, 0] rfl)
  exact L_3_4 ((2147483647 - (0 : Int32).toInt).toNat + 1) v0 v1 0 _ _ ls (Nat.lt_succ_self _) (by decide) hF hI (lv_sub hl [1, 2, 0] rfl)

set_option maxRecDepth 100000 in
set_option maxHeartbeats 4000000 in
theorem c_X11_tell (l : Launch) (X : XW) (σ : ST) (a : Nat) (v1 : Int64) (v2 : Int64) (ha : q_kd X a = 11) : Met l yX11_tell (q_ws yX11_tell cX11_tell 7 (some .boolean)) (q_rm 1 26) (q_P X σ [.ref a, .long v1, .long v2]) (q_Qi X 8 σ (fun (r : Int32) (σ' : ST) => (0 ≤ r.toInt ∧ r.toInt ≤ 1) ∧ (r, σ') = F_X11_tell X σ a v1 v2 ∧ q_ow [(11, 0)] [(11, 1), (11, 2)] X σ σ')) 0 0 (q_reg X) := by
  refine q_met 8 (by first | exact rfl | decide +kernel) rfl (Nat.le_of_ble_eq_true rfl) (fun p e s m below meth c E hml hr hlk hI ls hl => ?_)
  have hx := E.1
  have hb := E.2.1
  have hl : lv_has ls 7 [(0, .ref a), (1, .long v1), (3, .long v2)] := hl
  have fr_σ : q_ow [(11, 0)] [(11, 1), (11, 2)] X σ σ := q_ow.rf
  obtain ⟨out, hout⟩ : ∃ o, o = F_X11_tell X σ a v1 v2 := ⟨_, rfl⟩
  have hF := hout.symm
  unfold F_X11_tell at hF
  refine lv_lload_n hx hb dX11_tell_0 rfl (lv_at hl 1 rfl) ?_
  refine q_cl_ (q_runS (As := [.long v1]) (rest := []) E (hml.trans hl.1.symm) hI (c_J9_abs_067f4 l X σ v1) ks_X11_424 rfl ⟨Nat.le_of_ble_eq_true rfl, Nat.le_of_ble_eq_true rfl⟩ ⟨Nat.le_refl _, Nat.le_refl _⟩ rfl (Nat.le_of_ble_eq_true rfl) dX11_tell_1) hI (Nat.le_of_ble_eq_true rfl) (fun r_1 σ_2 H locs hpσ_2 hkσ_2 hI => ?_)
  have ahpσ_2 := hpσ_2.1
  have bhpσ_2 := hpσ_2.2
  clear hpσ_2
  replace hI := q_Irw ahpσ_2 hI
  replace hF := q_letX hF bhpσ_2
  refine lv_lload_n hx hb dX11_tell_4 rfl (lv_at hl 2 rfl) ?_
  refine q_cl_ (q_runS (As := [.long r_1, .long v2]) (rest := []) E (hml.trans hl.1.symm) hI (c_X11_commonDivisor l X σ r_1 v2) ks_X11_428 rfl ⟨Nat.le_of_ble_eq_true rfl, Nat.le_of_ble_eq_true rfl⟩ ⟨Nat.le_refl _, Nat.le_refl _⟩ rfl (Nat.le_of_ble_eq_true rfl) dX11_tell_5) hI (Nat.le_of_ble_eq_true rfl) (fun r_3 σ_4 H locs hpσ_4 hkσ_4 hI => ?_)
  have ahpσ_4 := hpσ_4.1
  have bhpσ_4 := hpσ_4.2
  clear hpσ_4
  replace hI := q_Irw ahpσ_4 hI
  replace hF := q_letX hF bhpσ_4
  refine lv_lstore (lv' := [(5, .long r_3), (0, .ref a), (1, .long v1), (3, .long v2)]) hx hb dX11_tell_8 hl (by decide) rfl (fun ls hl => ?_)
  refine lv_lload_n hx hb dX11_tell_10 rfl (lv_at hl 2 rfl) ?_
  refine lv_lconst (v := 0) hx hb dX11_tell_11 (by decide) ?_
  have kc_6 : (0 : Int64).toInt = 0 := rfl
  refine q_lcmpX E dX11_tell_12 (fun z_5 ez_5 hz_5 => ?_)
  replace hF := q_letX hF ez_5
  refine q_if_eq (A := z_5.toInt) E rfl (tgt := 29) dX11_tell_13 (by decide) (fun c_7 => ?_) (fun c_7 => ?_)
  · skip
    replace hF := q_ifp hF c_7
    refine lv_aload_n hx hb dX11_tell_29 rfl (lv_at hl 1 rfl) ?_
    refine lv_lconst (v := 0) hx hb dX11_tell_30 (by decide) ?_
    refine ps_X11_13_11 E hI ha  dX11_tell_31 (fun H locs σ_8 hσ_8 hI => ?_)
    replace hF := q_letX hF hσ_8
    have fr_σ_8 := fr_σ.sl hσ_8 ha rfl
    refine lv_aload_n hx hb dX11_tell_34 rfl (lv_at hl 1 rfl) ?_
    refine lv_lconst (v := 1) hx hb dX11_tell_35 (by decide) ?_
    refine ps_X11_17_11 E hI ha  dX11_tell_36 (fun H locs σ_9 hσ_9 hI => ?_)
    replace hF := q_letX hF hσ_9
    have fr_σ_9 := fr_σ_8.sl hσ_9 ha rfl
    refine lv_goto (tgt := 58) hx hb dX11_tell_39 (by decide) ?_
    refine lv_aload_n hx hb dX11_tell_58 rfl (lv_at hl 1 rfl) ?_
    refine q_ci (q_rV10_0 (rest := []) E (hml.trans hl.1.symm) hI (c_X11_yes l X σ_9 a ha) kv_X11_97 ha ⟨Nat.le_of_ble_eq_true rfl, Nat.le_of_ble_eq_true rfl⟩ (Nat.le_of_ble_eq_true rfl) dX11_tell_59) hI (Nat.le_of_ble_eq_true rfl) (fun r_10 σ_11 H locs hpσ_11 hkσ_11 hI => ?_)
    have ahpσ_11 := hpσ_11.1
    have bhpσ_11 := hpσ_11.2.1
    have chpσ_11 := hpσ_11.2.2.1
    have dhpσ_11 := hpσ_11.2.2.2
    clear hpσ_11
    have fr_σ_11 := fr_σ_9.call dhpσ_11 rfl rfl
    replace hF := q_biX hF chpσ_11
    exact q_retz E hr hlk hI ⟨by omega, by omega⟩ ⟨⟨by omega, by omega⟩, (hF.trans hout), fr_σ_11⟩ dX11_tell_62
  · skip
    replace hF := q_ifn hF c_7
    refine lv_lload_n hx hb dX11_tell_16 rfl (lv_at hl 3 rfl) ?_
    refine lv_lconst (v := 0) hx hb dX11_tell_17 (by decide) ?_
    have kc_13 : (0 : Int64).toInt = 0 := rfl
    refine q_lcmpX E dX11_tell_18 (fun z_12 ez_12 hz_12 => ?_)
    replace hF := q_letX hF ez_12
    refine q_if_le (A := z_12.toInt) E rfl (tgt := 29) dX11_tell_19 (by decide) (fun c_14 => ?_) (fun c_14 => ?_)
    · skip
      replace hF := q_ifn hF (Int.not_lt.mpr c_14)
      refine lv_aload_n hx hb dX11_tell_29 rfl (lv_at hl 1 rfl) ?_
      refine lv_lconst (v := 0) hx hb dX11_tell_30 (by decide) ?_
      refine ps_X11_13_11 E hI ha  dX11_tell_31 (fun H locs σ_15 hσ_15 hI => ?_)
      replace hF := q_letX hF hσ_15
      have fr_σ_15 := fr_σ.sl hσ_15 ha rfl
      refine lv_aload_n hx hb dX11_tell_34 rfl (lv_at hl 1 rfl) ?_
      refine lv_lconst (v := 1) hx hb dX11_tell_35 (by decide) ?_
      refine ps_X11_17_11 E hI ha  dX11_tell_36 (fun H locs σ_16 hσ_16 hI => ?_)
      replace hF := q_letX hF hσ_16
      have fr_σ_16 := fr_σ_15.sl hσ_16 ha rfl
      refine lv_goto (tgt := 58) hx hb dX11_tell_39 (by decide) ?_
      refine lv_aload_n hx hb dX11_tell_58 rfl (lv_at hl 1 rfl) ?_
      refine q_ci (q_rV10_0 (rest := []) E (hml.trans hl.1.symm) hI (c_X11_yes l X σ_16 a ha) kv_X11_97 ha ⟨Nat.le_of_ble_eq_true rfl, Nat.le_of_ble_eq_true rfl⟩ (Nat.le_of_ble_eq_true rfl) dX11_tell_59) hI (Nat.le_of_ble_eq_true rfl) (fun r_17 σ_18 H locs hpσ_18 hkσ_18 hI => ?_)
      have ahpσ_18 := hpσ_18.1
      have bhpσ_18 := hpσ_18.2.1
      have chpσ_18 := hpσ_18.2.2.1
      have dhpσ_18 := hpσ_18.2.2.2
      clear hpσ_18
      have fr_σ_18 := fr_σ_16.call dhpσ_18 rfl rfl
      replace hF := q_biX hF chpσ_18
      exact q_retz E hr hlk hI ⟨by omega, by omega⟩ ⟨⟨by omega, by omega⟩, (hF.trans hout), fr_σ_18⟩ dX11_tell_62
    · skip
      replace hF := q_ifp hF c_14
      refine lv_lload hx hb dX11_tell_22 (lv_at hl 0 rfl) ?_
      refine lv_lconst (v := 0) hx hb dX11_tell_24 (by decide) ?_
      have kc_20 : (0 : Int64).toInt = 0 := rfl
      refine q_lcmpX E dX11_tell_25 (fun z_19 ez_19 hz_19 => ?_)
      replace hF := q_letX hF ez_19
      refine q_if_gt (A := z_19.toInt) E rfl (tgt := 42) dX11_tell_26 (by decide) (fun c_21 => ?_) (fun c_21 => ?_)
      · skip
        replace hF := q_ifp hF c_21
        refine lv_aload_n hx hb dX11_tell_42 rfl (lv_at hl 1 rfl) ?_
        refine lv_lload_n hx hb dX11_tell_43 rfl (lv_at hl 2 rfl) ?_
        refine lv_lload hx hb dX11_tell_44 (lv_at hl 0 rfl) ?_
        refine lv_ldiv hx hb dX11_tell_46 (q_ne0l (by first | (clear ahpσ_2 bhpσ_2 ahpσ_4 bhpσ_4 hz_5 c_7 kc_13 hz_12 c_14 kc_20; omega) | omega)) ?_
        refine lv_topl (fun y_22 ey_22 => ?_)
        replace hF := q_letX hF ey_22
        refine ps_X11_13_11 E hI ha  dX11_tell_47 (fun H locs σ_23 hσ_23 hI => ?_)
        replace hF := q_letX hF hσ_23
        have fr_σ_23 := fr_σ.sl hσ_23 ha rfl
        refine lv_aload_n hx hb dX11_tell_50 rfl (lv_at hl 1 rfl) ?_
        refine lv_lload_n hx hb dX11_tell_51 rfl (lv_at hl 3 rfl) ?_
        refine lv_lload hx hb dX11_tell_52 (lv_at hl 0 rfl) ?_
        refine lv_ldiv hx hb dX11_tell_54 (q_ne0l (by first | (clear ahpσ_2 bhpσ_2 ahpσ_4 bhpσ_4 hz_5 c_7 kc_13 hz_12 c_14 kc_20; omega) | omega)) ?_
        refine lv_topl (fun y_24 ey_24 => ?_)
        replace hF := q_letX hF ey_24
        refine ps_X11_17_11 E hI ha  dX11_tell_55 (fun H locs σ_25 hσ_25 hI => ?_)
        replace hF := q_letX hF hσ_25
        have fr_σ_25 := fr_σ_23.sl hσ_25 ha rfl
        refine lv_aload_n hx hb dX11_tell_58 rfl (lv_at hl 1 rfl) ?_
        refine q_ci (q_rV10_0 (rest := []) E (hml.trans hl.1.symm) hI (c_X11_yes l X σ_25 a ha) kv_X11_97 ha ⟨Nat.le_of_ble_eq_true rfl, Nat.le_of_ble_eq_true rfl⟩ (Nat.le_of_ble_eq_true rfl) dX11_tell_59) hI (Nat.le_of_ble_eq_true rfl) (fun r_26 σ_27 H locs hpσ_27 hkσ_27 hI => ?_)
        have ahpσ_27 := hpσ_27.1
        have bhpσ_27 := hpσ_27.2.1
        have chpσ_27 := hpσ_27.2.2.1
        have dhpσ_27 := hpσ_27.2.2.2
        clear hpσ_27
        have fr_σ_27 := fr_σ_25.call dhpσ_27 rfl rfl
        replace hF := q_biX hF chpσ_27
        exact q_retz E hr hlk hI ⟨by omega, by omega⟩ ⟨⟨by omega, by omega⟩, (hF.trans hout), fr_σ_27⟩ dX11_tell_62
      · skip
        replace hF := q_ifn hF (Int.not_lt.mpr c_21)
        refine lv_aload_n hx hb dX11_tell_29 rfl (lv_at hl 1 rfl) ?_
        refine lv_lconst (v := 0) hx hb dX11_tell_30 (by decide) ?_
        refine ps_X11_13_11 E hI ha  dX11_tell_31 (fun H locs σ_28 hσ_28 hI => ?_)
        replace hF := q_letX hF hσ_28
        have fr_σ_28 := fr_σ.sl hσ_28 ha rfl
        refine lv_aload_n hx hb dX11_tell_34 rfl (lv_at hl 1 rfl) ?_
        refine lv_lconst (v := 1) hx hb dX11_tell_35 (by decide) ?_
        refine ps_X11_17_11 E hI ha  dX11_tell_36 (fun H locs σ_29 hσ_29 hI => ?_)
        replace hF := q_letX hF hσ_29
        have fr_σ_29 := fr_σ_28.sl hσ_29 ha rfl
        refine lv_goto (tgt := 58) hx hb dX11_tell_39 (by decide) ?_
        refine lv_aload_n hx hb dX11_tell_58 rfl (lv_at hl 1 rfl) ?_
        refine q_ci (q_rV10_0 (rest := []) E (hml.trans hl.1.symm) hI (c_X11_yes l X σ_29 a ha) kv_X11_97 ha ⟨Nat.le_of_ble_eq_true rfl, Nat.le_of_ble_eq_true rfl⟩ (Nat.le_of_ble_eq_true rfl) dX11_tell_59) hI (Nat.le_of_ble_eq_true rfl) (fun r_30 σ_31 H locs hpσ_31 hkσ_31 hI => ?_)
        have ahpσ_31 := hpσ_31.1
        have bhpσ_31 := hpσ_31.2.1
        have chpσ_31 := hpσ_31.2.2.1
        have dhpσ_31 := hpσ_31.2.2.2
        clear hpσ_31
        have fr_σ_31 := fr_σ_29.call dhpσ_31 rfl rfl
        replace hF := q_biX hF chpσ_31
        exact q_retz E hr hlk hI ⟨by omega, by omega⟩ ⟨⟨by omega, by omega⟩, (hF.trans hout), fr_σ_31⟩ dX11_tell_62

set_option maxRecDepth 100000 in
set_option maxHeartbeats 4000000 in
theorem c_X11_blind (l : Launch) (X : XW) (σ : ST) (a : Nat) (v1 : Int32) (ha : q_kd X a = 11) : Met l yX11_blind (q_ws yX11_blind cX11_blind 3 (some .boolean)) (q_rm 5 110) (q_P X σ [.ref a, .int v1]) (q_Qi X 8 σ (fun (r : Int32) (σ' : ST) => (0 ≤ r.toInt ∧ r.toInt ≤ 1) ∧ (r, σ') = F_X11_blind X σ a v1 ∧ q_ow [(11, 0)] [(11, 1), (11, 2)] X σ σ')) 0 0 (q_reg X) := by
  refine q_met 8 (by first | exact rfl | decide +kernel) rfl (Nat.le_of_ble_eq_true rfl) (fun p e s m below meth c E hml hr hlk hI ls hl => ?_)
  have hx := E.1
  have hb := E.2.1
  have hl : lv_has ls 3 [(0, .ref a), (1, .int v1)] := hl
  have fr_σ : q_ow [(11, 0)] [(11, 1), (11, 2)] X σ σ := q_ow.rf
  obtain ⟨out, hout⟩ : ∃ o, o = F_X11_blind X σ a v1 := ⟨_, rfl⟩
  have hF := hout.symm
  unfold F_X11_blind at hF
  refine lv_aload_n hx hb dX11_blind_0 rfl (lv_at hl 0 rfl) ?_
  refine lv_iload_n hx hb dX11_blind_1 rfl (lv_at hl 1 rfl) ?_
  refine q_ci (q_rV10_1 (rest := []) E (hml.trans hl.1.symm) hI (c_X11_doubterStatus l X σ a v1 ha) kv_X11_296 ha ⟨Nat.le_of_ble_eq_true rfl, Nat.le_of_ble_eq_true rfl⟩ (Nat.le_of_ble_eq_true rfl) dX11_blind_2) hI (Nat.le_of_ble_eq_true rfl) (fun r_1 σ_2 H locs hpσ_2 hkσ_2 hI => ?_)
  have ahpσ_2 := hpσ_2.1
  have bhpσ_2 := hpσ_2.2
  clear hpσ_2
  replace hI := q_Irw ahpσ_2 hI
  replace hF := q_letX hF bhpσ_2
  refine lv_istore_n (lv' := [(2, .int r_1), (0, .ref a), (1, .int v1)]) hx hb dX11_blind_5 rfl hl (by decide) rfl (fun ls hl => ?_)
  refine lv_iload_n hx hb dX11_blind_6 rfl (lv_at hl 0 rfl) ?_
  refine q_if_eq (A := r_1.toInt) E rfl (tgt := 16) dX11_blind_7 (by decide) (fun c_3 => ?_) (fun c_3 => ?_)
  · skip
    replace hF := q_ifp hF c_3
    refine lv_aload_n hx hb dX11_blind_16 rfl (lv_at hl 1 rfl) ?_
    refine lv_aload_n hx hb dX11_blind_17 rfl (lv_at hl 1 rfl) ?_
    refine gs_X11_42_11 E hI ha dX11_blind_18 ?_
    refine lv_iload_n hx hb dX11_blind_21 rfl (lv_at hl 2 rfl) ?_
    refine q_cl_ (q_rV0_1 (rest := [.ref a]) E (hml.trans hl.1.symm) hI (c_X0_trueWays l X σ (q_rf X a 8) v1 (q_tk (k' := 1) hI ha rfl (Nat.succ_ne_zero _))) kv_X11_320 (q_tk (k' := 1) hI ha rfl (Nat.succ_ne_zero _)) ⟨Nat.le_of_ble_eq_true rfl, Nat.le_of_ble_eq_true rfl⟩ (Nat.le_of_ble_eq_true rfl) dX11_blind_22) hI (Nat.le_of_ble_eq_true rfl) (fun r_4 σ_5 H locs hpσ_5 hkσ_5 hI => ?_)
    have ahpσ_5 := hpσ_5.1
    have bhpσ_5 := hpσ_5.2
    clear hpσ_5
    replace hI := q_Irw ahpσ_5 hI
    replace hF := q_letX hF bhpσ_5
    refine lv_aload_n hx hb dX11_blind_25 rfl (lv_at hl 1 rfl) ?_
    refine gs_X11_42_11 E hI ha dX11_blind_26 ?_
    refine lv_iload_n hx hb dX11_blind_29 rfl (lv_at hl 2 rfl) ?_
    refine q_cl_ (q_rV0_1 (rest := [.long r_4, .ref a]) E (hml.trans hl.1.symm) hI (c_X0_allWays l X σ (q_rf X a 8) v1 (q_tk (k' := 1) hI ha rfl (Nat.succ_ne_zero _))) kv_X11_323 (q_tk (k' := 1) hI ha rfl (Nat.succ_ne_zero _)) ⟨Nat.le_of_ble_eq_true rfl, Nat.le_of_ble_eq_true rfl⟩ (Nat.le_of_ble_eq_true rfl) dX11_blind_30) hI (Nat.le_of_ble_eq_true rfl) (fun r_6 σ_7 H locs hpσ_7 hkσ_7 hI => ?_)
    have ahpσ_7 := hpσ_7.1
    have bhpσ_7 := hpσ_7.2
    clear hpσ_7
    replace hI := q_Irw ahpσ_7 hI
    replace hF := q_letX hF bhpσ_7
    refine q_ci (q_rV10_2 (rest := []) E (hml.trans hl.1.symm) hI (c_X11_tell l X σ a r_4 r_6 ha) kv_X11_326 ha ⟨Nat.le_of_ble_eq_true rfl, Nat.le_of_ble_eq_true rfl⟩ (Nat.le_of_ble_eq_true rfl) dX11_blind_33) hI (Nat.le_of_ble_eq_true rfl) (fun r_8 σ_9 H locs hpσ_9 hkσ_9 hI => ?_)
    have ahpσ_9 := hpσ_9.1
    have bhpσ_9 := hpσ_9.2.1
    have chpσ_9 := hpσ_9.2.2
    clear hpσ_9
    have fr_σ_9 := fr_σ.call chpσ_9 rfl rfl
    replace hF := q_biX hF bhpσ_9
    exact q_retz E hr hlk hI ⟨by omega, by omega⟩ ⟨⟨by omega, by omega⟩, (hF.trans hout), fr_σ_9⟩ dX11_blind_36
  · skip
    replace hF := q_ifn hF c_3
    refine lv_aload_n hx hb dX11_blind_10 rfl (lv_at hl 1 rfl) ?_
    refine lv_iload_n hx hb dX11_blind_11 rfl (lv_at hl 0 rfl) ?_
    refine q_ci (q_rV10_1 (rest := []) E (hml.trans hl.1.symm) hI (c_X11_no l X σ a r_1 ha) kv_X11_89 ha ⟨Nat.le_of_ble_eq_true rfl, Nat.le_of_ble_eq_true rfl⟩ (Nat.le_of_ble_eq_true rfl) dX11_blind_12) hI (Nat.le_of_ble_eq_true rfl) (fun r_10 σ_11 H locs hpσ_11 hkσ_11 hI => ?_)
    have ahpσ_11 := hpσ_11.1
    have bhpσ_11 := hpσ_11.2.1
    have chpσ_11 := hpσ_11.2.2.1
    have dhpσ_11 := hpσ_11.2.2.2
    clear hpσ_11
    have fr_σ_11 := fr_σ.call dhpσ_11 rfl rfl
    replace hF := q_biX hF chpσ_11
    exact q_retz E hr hlk hI ⟨by omega, by omega⟩ ⟨⟨by omega, by omega⟩, (hF.trans hout), fr_σ_11⟩ dX11_blind_15

set_option maxRecDepth 100000 in
set_option maxHeartbeats 4000000 in
theorem c_X11_honest (l : Launch) (X : XW) (σ : ST) (a : Nat) (v1 : Int32) (ha : q_kd X a = 11) : Met l yX11_honest (q_ws yX11_honest cX11_honest 2 (some .boolean)) (q_rm 2 52) (q_P X σ [.ref a, .int v1]) (q_Qi X 8 σ (fun (r : Int32) (σ' : ST) => (0 ≤ r.toInt ∧ r.toInt ≤ 1) ∧ (r, σ') = F_X11_honest X σ a v1 ∧ q_ow [(11, 0)] [(11, 1), (11, 2)] X σ σ')) 0 0 (q_reg X) := by
  refine q_met 8 (by first | exact rfl | decide +kernel) rfl (Nat.le_of_ble_eq_true rfl) (fun p e s m below meth c E hml hr hlk hI ls hl => ?_)
  have hx := E.1
  have hb := E.2.1
  have hl : lv_has ls 2 [(0, .ref a), (1, .int v1)] := hl
  have fr_σ : q_ow [(11, 0)] [(11, 1), (11, 2)] X σ σ := q_ow.rf
  obtain ⟨out, hout⟩ : ∃ o, o = F_X11_honest X σ a v1 := ⟨_, rfl⟩
  have hF := hout.symm
  unfold F_X11_honest at hF
  refine lv_aload_n hx hb dX11_honest_0 rfl (lv_at hl 0 rfl) ?_
  refine lv_iload_n hx hb dX11_honest_1 rfl (lv_at hl 1 rfl) ?_
  refine q_ci (q_rV10_1 (rest := []) E (hml.trans hl.1.symm) hI (c_X11_isPlayer l X σ a v1 ha) kv_X11_219 ha ⟨Nat.le_of_ble_eq_true rfl, Nat.le_of_ble_eq_true rfl⟩ (Nat.le_of_ble_eq_true rfl) dX11_honest_2) hI (Nat.le_of_ble_eq_true rfl) (fun r_1 σ_2 H locs hpσ_2 hkσ_2 hI => ?_)
  have ahpσ_2 := hpσ_2.1
  have bhpσ_2 := hpσ_2.2.1
  have chpσ_2 := hpσ_2.2.2
  clear hpσ_2
  replace hI := q_Irw ahpσ_2 hI
  replace hF := q_letX hF chpσ_2
  refine q_if_ne (A := r_1.toInt) E rfl (tgt := 14) dX11_honest_5 (by decide) (fun c_3 => ?_) (fun c_3 => ?_)
  · skip
    replace hF := q_ifn hF c_3
    replace c_3 := q_ifOne bhpσ_2 c_3
    refine lv_aload_n hx hb dX11_honest_14 rfl (lv_at hl 0 rfl) ?_
    refine lv_aload_n hx hb dX11_honest_15 rfl (lv_at hl 0 rfl) ?_
    refine gs_X11_42_11 E hI ha dX11_honest_16 ?_
    refine gs_X11_222_1 E hI (q_tk (k' := 1) hI ha rfl (Nat.succ_ne_zero _)) dX11_honest_19 ?_
    refine lv_iload_n hx hb dX11_honest_22 rfl (lv_at hl 1 rfl) ?_
    refine q_cl_ (q_rV1_1 (rest := [.ref a]) E (hml.trans hl.1.symm) hI (c_X1_honestTop l X σ (q_rf X (q_rf X a 8) 1) v1 (q_tk (k' := 2) hI (q_tk (k' := 1) hI ha rfl (Nat.succ_ne_zero _)) rfl (Nat.succ_ne_zero _))) kv_X11_330 (q_tk (k' := 2) hI (q_tk (k' := 1) hI ha rfl (Nat.succ_ne_zero _)) rfl (Nat.succ_ne_zero _)) ⟨Nat.le_of_ble_eq_true rfl, Nat.le_of_ble_eq_true rfl⟩ (Nat.le_of_ble_eq_true rfl) dX11_honest_23) hI (Nat.le_of_ble_eq_true rfl) (fun r_4 σ_5 H locs hpσ_5 hkσ_5 hI => ?_)
    have ahpσ_5 := hpσ_5.1
    have bhpσ_5 := hpσ_5.2
    clear hpσ_5
    replace hI := q_Irw ahpσ_5 hI
    replace hF := q_letX hF bhpσ_5
    refine lv_aload_n hx hb dX11_honest_26 rfl (lv_at hl 0 rfl) ?_
    refine gs_X11_42_11 E hI ha dX11_honest_27 ?_
    refine gs_X11_222_1 E hI (q_tk (k' := 1) hI ha rfl (Nat.succ_ne_zero _)) dX11_honest_30 ?_
    refine lv_iload_n hx hb dX11_honest_33 rfl (lv_at hl 1 rfl) ?_
    refine q_cl_ (q_rV1_1 (rest := [.long r_4, .ref a]) E (hml.trans hl.1.symm) hI (c_X1_honestBottom l X σ (q_rf X (q_rf X a 8) 1) v1 (q_tk (k' := 2) hI (q_tk (k' := 1) hI ha rfl (Nat.succ_ne_zero _)) rfl (Nat.succ_ne_zero _))) kv_X11_333 (q_tk (k' := 2) hI (q_tk (k' := 1) hI ha rfl (Nat.succ_ne_zero _)) rfl (Nat.succ_ne_zero _)) ⟨Nat.le_of_ble_eq_true rfl, Nat.le_of_ble_eq_true rfl⟩ (Nat.le_of_ble_eq_true rfl) dX11_honest_34) hI (Nat.le_of_ble_eq_true rfl) (fun r_6 σ_7 H locs hpσ_7 hkσ_7 hI => ?_)
    have ahpσ_7 := hpσ_7.1
    have bhpσ_7 := hpσ_7.2
    clear hpσ_7
    replace hI := q_Irw ahpσ_7 hI
    replace hF := q_letX hF bhpσ_7
    refine q_ci (q_rV10_2 (rest := []) E (hml.trans hl.1.symm) hI (c_X11_tell l X σ a r_4 r_6 ha) kv_X11_326 ha ⟨Nat.le_of_ble_eq_true rfl, Nat.le_of_ble_eq_true rfl⟩ (Nat.le_of_ble_eq_true rfl) dX11_honest_37) hI (Nat.le_of_ble_eq_true rfl) (fun r_8 σ_9 H locs hpσ_9 hkσ_9 hI => ?_)
    have ahpσ_9 := hpσ_9.1
    have bhpσ_9 := hpσ_9.2.1
    have chpσ_9 := hpσ_9.2.2
    clear hpσ_9
    have fr_σ_9 := fr_σ.call chpσ_9 rfl rfl
    replace hF := q_biX hF bhpσ_9
    exact q_retz E hr hlk hI ⟨by omega, by omega⟩ ⟨⟨by omega, by omega⟩, (hF.trans hout), fr_σ_9⟩ dX11_honest_40
  · skip
    replace hF := q_ifp hF c_3
    refine lv_aload_n hx hb dX11_honest_8 rfl (lv_at hl 0 rfl) ?_
    refine lv_iconst (v := 2) hx hb dX11_honest_9 zki_2 ?_
    have kc_10 : (2 : Int32).toInt = 2 := zt_2
    refine q_ci (q_rV10_1 (rest := []) E (hml.trans hl.1.symm) hI (c_X11_no l X σ a (2 : Int32) ha) kv_X11_89 ha ⟨Nat.le_of_ble_eq_true rfl, Nat.le_of_ble_eq_true rfl⟩ (Nat.le_of_ble_eq_true rfl) dX11_honest_10) hI (Nat.le_of_ble_eq_true rfl) (fun r_11 σ_12 H locs hpσ_12 hkσ_12 hI => ?_)
    have ahpσ_12 := hpσ_12.1
    have bhpσ_12 := hpσ_12.2.1
    have chpσ_12 := hpσ_12.2.2.1
    have dhpσ_12 := hpσ_12.2.2.2
    clear hpσ_12
    have fr_σ_12 := fr_σ.call dhpσ_12 rfl rfl
    replace hF := q_biX hF chpσ_12
    exact q_retz E hr hlk hI ⟨by omega, by omega⟩ ⟨⟨by omega, by omega⟩, (hF.trans hout), fr_σ_12⟩ dX11_honest_13

set_option maxRecDepth 100000 in
set_option maxHeartbeats 4000000 in
theorem c_X11_belief (l : Launch) (X : XW) (σ : ST) (a : Nat) (v1 : Int32) (ha : q_kd X a = 11) : Met l yX11_belief (q_ws yX11_belief cX11_belief 11 (some .boolean)) (q_rm 5 110) (q_P X σ [.ref a, .int v1]) (q_Qi X 8 σ (fun (r : Int32) (σ' : ST) => (0 ≤ r.toInt ∧ r.toInt ≤ 1) ∧ (r, σ') = F_X11_belief X σ a v1 ∧ q_ow [(11, 0)] [(11, 1), (11, 2)] X σ σ')) 0 0 (q_reg X) := by
  refine q_met 8 (by first | exact rfl | decide +kernel) rfl (Nat.le_of_ble_eq_true rfl) (fun p e s m below meth c E hml hr hlk hI ls hl => ?_)
  have hx := E.1
  have hb := E.2.1
  have hl : lv_has ls 11 [(0, .ref a), (1, .int v1)] := hl
  have fr_σ : q_ow [(11, 0)] [(11, 1), (11, 2)] X σ σ := q_ow.rf
  obtain ⟨out, hout⟩ : ∃ o, o = F_X11_belief X σ a v1 := ⟨_, rfl⟩
  have hF := hout.symm
  unfold F_X11_belief at hF
  refine lv_aload_n hx hb dX11_belief_0 rfl (lv_at hl 0 rfl) ?_
  refine lv_iload_n hx hb dX11_belief_1 rfl (lv_at hl 1 rfl) ?_
  refine q_ci (q_rV10_1 (rest := []) E (hml.trans hl.1.symm) hI (c_X11_doubterStatus l X σ a v1 ha) kv_X11_296 ha ⟨Nat.le_of_ble_eq_true rfl, Nat.le_of_ble_eq_true rfl⟩ (Nat.le_of_ble_eq_true rfl) dX11_belief_2) hI (Nat.le_of_ble_eq_true rfl) (fun r_1 σ_2 H locs hpσ_2 hkσ_2 hI => ?_)
  have ahpσ_2 := hpσ_2.1
  have bhpσ_2 := hpσ_2.2
  clear hpσ_2
  replace hI := q_Irw ahpσ_2 hI
  replace hF := q_letX hF bhpσ_2
  refine lv_istore_n (lv' := [(2, .int r_1), (0, .ref a), (1, .int v1)]) hx hb dX11_belief_5 rfl hl (by decide) rfl (fun ls hl => ?_)
  refine lv_iload_n hx hb dX11_belief_6 rfl (lv_at hl 0 rfl) ?_
  refine q_if_eq (A := r_1.toInt) E rfl (tgt := 16) dX11_belief_7 (by decide) (fun c_3 => ?_) (fun c_3 => ?_)
  · skip
    replace hF := q_ifp hF c_3
    refine lv_aload_n hx hb dX11_belief_16 rfl (lv_at hl 1 rfl) ?_
    refine gs_X11_42_11 E hI ha dX11_belief_17 ?_
    refine lv_iload_n hx hb dX11_belief_20 rfl (lv_at hl 2 rfl) ?_
    refine q_cl_ (q_rV0_1 (rest := []) E (hml.trans hl.1.symm) hI (c_X0_trueWays l X σ (q_rf X a 8) v1 (q_tk (k' := 1) hI ha rfl (Nat.succ_ne_zero _))) kv_X11_320 (q_tk (k' := 1) hI ha rfl (Nat.succ_ne_zero _)) ⟨Nat.le_of_ble_eq_true rfl, Nat.le_of_ble_eq_true rfl⟩ (Nat.le_of_ble_eq_true rfl) dX11_belief_21) hI (Nat.le_of_ble_eq_true rfl) (fun r_4 σ_5 H locs hpσ_5 hkσ_5 hI => ?_)
    have ahpσ_5 := hpσ_5.1
    have bhpσ_5 := hpσ_5.2
    clear hpσ_5
    replace hI := q_Irw ahpσ_5 hI
    replace hF := q_letX hF bhpσ_5
    refine lv_lstore_n (lv' := [(3, .long r_4), (2, .int r_1), (0, .ref a), (1, .int v1)]) hx hb dX11_belief_24 rfl hl (by decide) rfl (fun ls hl => ?_)
    refine lv_aload_n hx hb dX11_belief_25 rfl (lv_at hl 2 rfl) ?_
    refine gs_X11_42_11 E hI ha dX11_belief_26 ?_
    refine lv_iload_n hx hb dX11_belief_29 rfl (lv_at hl 3 rfl) ?_
    refine q_cl_ (q_rV0_1 (rest := []) E (hml.trans hl.1.symm) hI (c_X0_allWays l X σ (q_rf X a 8) v1 (q_tk (k' := 1) hI ha rfl (Nat.succ_ne_zero _))) kv_X11_323 (q_tk (k' := 1) hI ha rfl (Nat.succ_ne_zero _)) ⟨Nat.le_of_ble_eq_true rfl, Nat.le_of_ble_eq_true rfl⟩ (Nat.le_of_ble_eq_true rfl) dX11_belief_30) hI (Nat.le_of_ble_eq_true rfl) (fun r_6 σ_7 H locs hpσ_7 hkσ_7 hI => ?_)
    have ahpσ_7 := hpσ_7.1
    have bhpσ_7 := hpσ_7.2
    clear hpσ_7
    replace hI := q_Irw ahpσ_7 hI
    replace hF := q_letX hF bhpσ_7
    refine lv_lload_n hx hb dX11_belief_33 rfl (lv_at hl 0 rfl) ?_
    refine lv_lsub hx hb dX11_belief_34 ?_
    refine lv_topl (fun y_8 ey_8 => ?_)
    replace hF := q_letX hF ey_8
    refine lv_lstore (lv' := [(5, .long y_8), (3, .long r_4), (2, .int r_1), (0, .ref a), (1, .int v1)]) hx hb dX11_belief_35 hl (by decide) rfl (fun ls hl => ?_)
    refine lv_aload_n hx hb dX11_belief_37 rfl (lv_at hl 3 rfl) ?_
    refine gs_X11_42_11 E hI ha dX11_belief_38 ?_
    refine gs_X11_222_1 E hI (q_tk (k' := 1) hI ha rfl (Nat.succ_ne_zero _)) dX11_belief_41 ?_
    refine lv_aload_n hx hb dX11_belief_44 rfl (lv_at hl 3 rfl) ?_
    refine gs_X11_42_11 E hI ha dX11_belief_45 ?_
    refine gs_X11_198_1 E hI (q_tk (k' := 1) hI ha rfl (Nat.succ_ne_zero _)) dX11_belief_48 ?_
    refine lv_topi (fun f_9 ef_9 => ?_)
    replace hF := q_letX hF ef_9
    refine q_cl_ (q_rV1_1 (rest := []) E (hml.trans hl.1.symm) hI (c_X1_honestTop l X σ (q_rf X (q_rf X a 8) 1) f_9 (q_tk (k' := 2) hI (q_tk (k' := 1) hI ha rfl (Nat.succ_ne_zero _)) rfl (Nat.succ_ne_zero _))) kv_X11_330 (q_tk (k' := 2) hI (q_tk (k' := 1) hI ha rfl (Nat.succ_ne_zero _)) rfl (Nat.succ_ne_zero _)) ⟨Nat.le_of_ble_eq_true rfl, Nat.le_of_ble_eq_true rfl⟩ (Nat.le_of_ble_eq_true rfl) dX11_belief_51) hI (Nat.le_of_ble_eq_true rfl) (fun r_10 σ_11 H locs hpσ_11 hkσ_11 hI => ?_)
    have ahpσ_11 := hpσ_11.1
    have bhpσ_11 := hpσ_11.2
    clear hpσ_11
    replace hI := q_Irw ahpσ_11 hI
    replace hF := q_letX hF bhpσ_11
    refine lv_lstore (lv' := [(7, .long r_10), (5, .long y_8), (3, .long r_4), (2, .int r_1), (0, .ref a), (1, .int v1)]) hx hb dX11_belief_54 hl (by decide) rfl (fun ls hl => ?_)
    refine lv_aload_n hx hb dX11_belief_56 rfl (lv_at hl 4 rfl) ?_
    refine gs_X11_42_11 E hI ha dX11_belief_57 ?_
    refine gs_X11_222_1 E hI (q_tk (k' := 1) hI ha rfl (Nat.succ_ne_zero _)) dX11_belief_60 ?_
    refine lv_aload_n hx hb dX11_belief_63 rfl (lv_at hl 4 rfl) ?_
    refine gs_X11_42_11 E hI ha dX11_belief_64 ?_
    refine gs_X11_198_1 E hI (q_tk (k' := 1) hI ha rfl (Nat.succ_ne_zero _)) dX11_belief_67 ?_
    refine lv_topi (fun f_12 ef_12 => ?_)
    replace hF := q_letX hF ef_12
    refine q_cl_ (q_rV1_1 (rest := []) E (hml.trans hl.1.symm) hI (c_X1_honestBottom l X σ (q_rf X (q_rf X a 8) 1) f_12 (q_tk (k' := 2) hI (q_tk (k' := 1) hI ha rfl (Nat.succ_ne_zero _)) rfl (Nat.succ_ne_zero _))) kv_X11_333 (q_tk (k' := 2) hI (q_tk (k' := 1) hI ha rfl (Nat.succ_ne_zero _)) rfl (Nat.succ_ne_zero _)) ⟨Nat.le_of_ble_eq_true rfl, Nat.le_of_ble_eq_true rfl⟩ (Nat.le_of_ble_eq_true rfl) dX11_belief_70) hI (Nat.le_of_ble_eq_true rfl) (fun r_13 σ_14 H locs hpσ_14 hkσ_14 hI => ?_)
    have ahpσ_14 := hpσ_14.1
    have bhpσ_14 := hpσ_14.2
    clear hpσ_14
    replace hI := q_Irw ahpσ_14 hI
    replace hF := q_letX hF bhpσ_14
    refine lv_lload hx hb dX11_belief_73 (lv_at hl 0 rfl) ?_
    refine lv_lsub hx hb dX11_belief_75 ?_
    refine lv_topl (fun y_15 ey_15 => ?_)
    replace hF := q_letX hF ey_15
    refine lv_lstore (lv' := [(9, .long y_15), (7, .long r_10), (5, .long y_8), (3, .long r_4), (2, .int r_1), (0, .ref a), (1, .int v1)]) hx hb dX11_belief_76 hl (by decide) rfl (fun ls hl => ?_)
    refine lv_aload_n hx hb dX11_belief_78 rfl (lv_at hl 5 rfl) ?_
    refine lv_lload_n hx hb dX11_belief_79 rfl (lv_at hl 3 rfl) ?_
    refine lv_lload hx hb dX11_belief_80 (lv_at hl 1 rfl) ?_
    refine lv_lmul hx hb dX11_belief_82 ?_
    refine lv_topl (fun y_16 ey_16 => ?_)
    replace hF := q_letX hF ey_16
    refine lv_lload_n hx hb dX11_belief_83 rfl (lv_at hl 3 rfl) ?_
    refine lv_lload hx hb dX11_belief_84 (lv_at hl 1 rfl) ?_
    refine lv_lmul hx hb dX11_belief_86 ?_
    refine lv_topl (fun y_17 ey_17 => ?_)
    replace hF := q_letX hF ey_17
    refine lv_lload hx hb dX11_belief_87 (lv_at hl 2 rfl) ?_
    refine lv_lload hx hb dX11_belief_89 (lv_at hl 0 rfl) ?_
    refine lv_lmul hx hb dX11_belief_91 ?_
    refine lv_topl (fun y_18 ey_18 => ?_)
    replace hF := q_letX hF ey_18
    refine lv_ladd hx hb dX11_belief_92 ?_
    refine lv_topl (fun y_19 ey_19 => ?_)
    replace hF := q_letX hF ey_19
    refine q_ci (q_rV10_2 (rest := []) E (hml.trans hl.1.symm) hI (c_X11_tell l X σ a y_16 y_19 ha) kv_X11_326 ha ⟨Nat.le_of_ble_eq_true rfl, Nat.le_of_ble_eq_true rfl⟩ (Nat.le_of_ble_eq_true rfl) dX11_belief_93) hI (Nat.le_of_ble_eq_true rfl) (fun r_20 σ_21 H locs hpσ_21 hkσ_21 hI => ?_)
    have ahpσ_21 := hpσ_21.1
    have bhpσ_21 := hpσ_21.2.1
    have chpσ_21 := hpσ_21.2.2
    clear hpσ_21
    have fr_σ_21 := fr_σ.call chpσ_21 rfl rfl
    replace hF := q_biX hF bhpσ_21
    exact q_retz E hr hlk hI ⟨by omega, by omega⟩ ⟨⟨by omega, by omega⟩, (hF.trans hout), fr_σ_21⟩ dX11_belief_96
  · skip
    replace hF := q_ifn hF c_3
    refine lv_aload_n hx hb dX11_belief_10 rfl (lv_at hl 1 rfl) ?_
    refine lv_iload_n hx hb dX11_belief_11 rfl (lv_at hl 0 rfl) ?_
    refine q_ci (q_rV10_1 (rest := []) E (hml.trans hl.1.symm) hI (c_X11_no l X σ a r_1 ha) kv_X11_89 ha ⟨Nat.le_of_ble_eq_true rfl, Nat.le_of_ble_eq_true rfl⟩ (Nat.le_of_ble_eq_true rfl) dX11_belief_12) hI (Nat.le_of_ble_eq_true rfl) (fun r_22 σ_23 H locs hpσ_23 hkσ_23 hI => ?_)
    have ahpσ_23 := hpσ_23.1
    have bhpσ_23 := hpσ_23.2.1
    have chpσ_23 := hpσ_23.2.2.1
    have dhpσ_23 := hpσ_23.2.2.2
    clear hpσ_23
    have fr_σ_23 := fr_σ.call dhpσ_23 rfl rfl
    replace hF := q_biX hF chpσ_23
    exact q_retz E hr hlk hI ⟨by omega, by omega⟩ ⟨⟨by omega, by omega⟩, (hF.trans hout), fr_σ_23⟩ dX11_belief_15

set_option maxRecDepth 100000 in
set_option maxHeartbeats 4000000 in
theorem c_X11_worth (l : Launch) (X : XW) (σ : ST) (a : Nat) (v1 : Int32) (ha : q_kd X a = 11) : Met l yX11_worth (q_ws yX11_worth cX11_worth 3 (some .boolean)) (q_rm 6 131) (q_P X σ [.ref a, .int v1]) (q_Qi X 8 σ (fun (r : Int32) (σ' : ST) => (0 ≤ r.toInt ∧ r.toInt ≤ 1) ∧ (r, σ') = F_X11_worth X σ a v1 ∧ q_ow [(11, 0)] [(11, 1), (11, 2)] X σ σ')) 0 0 (q_reg X) := by
  refine q_met 8 (by first | exact rfl | decide +kernel) rfl (Nat.le_of_ble_eq_true rfl) (fun p e s m below meth c E hml hr hlk hI ls hl => ?_)
  have hx := E.1
  have hb := E.2.1
  have hl : lv_has ls 3 [(0, .ref a), (1, .int v1)] := hl
  have fr_σ : q_ow [(11, 0)] [(11, 1), (11, 2)] X σ σ := q_ow.rf
  obtain ⟨out, hout⟩ : ∃ o, o = F_X11_worth X σ a v1 := ⟨_, rfl⟩
  have hF := hout.symm
  unfold F_X11_worth at hF
  refine lv_aload_n hx hb dX11_worth_0 rfl (lv_at hl 0 rfl) ?_
  refine lv_iload_n hx hb dX11_worth_1 rfl (lv_at hl 1 rfl) ?_
  refine q_ci (q_rV10_1 (rest := []) E (hml.trans hl.1.symm) hI (c_X11_doubterStatus l X σ a v1 ha) kv_X11_296 ha ⟨Nat.le_of_ble_eq_true rfl, Nat.le_of_ble_eq_true rfl⟩ (Nat.le_of_ble_eq_true rfl) dX11_worth_2) hI (Nat.le_of_ble_eq_true rfl) (fun r_1 σ_2 H locs hpσ_2 hkσ_2 hI => ?_)
  have ahpσ_2 := hpσ_2.1
  have bhpσ_2 := hpσ_2.2
  clear hpσ_2
  replace hI := q_Irw ahpσ_2 hI
  replace hF := q_letX hF bhpσ_2
  refine lv_istore_n (lv' := [(2, .int r_1), (0, .ref a), (1, .int v1)]) hx hb dX11_worth_5 rfl hl (by decide) rfl (fun ls hl => ?_)
  refine lv_iload_n hx hb dX11_worth_6 rfl (lv_at hl 0 rfl) ?_
  refine q_if_eq (A := r_1.toInt) E rfl (tgt := 16) dX11_worth_7 (by decide) (fun c_3 => ?_) (fun c_3 => ?_)
  · skip
    replace hF := q_ifp hF c_3
    refine lv_aload_n hx hb dX11_worth_16 rfl (lv_at hl 1 rfl) ?_
    refine lv_aload_n hx hb dX11_worth_17 rfl (lv_at hl 1 rfl) ?_
    refine gs_X11_42_11 E hI ha dX11_worth_18 ?_
    refine lv_iload_n hx hb dX11_worth_21 rfl (lv_at hl 2 rfl) ?_
    refine q_cl_ (q_rV0_1 (rest := [.ref a]) E (hml.trans hl.1.symm) hI (c_X0_worthTop l X σ (q_rf X a 8) v1 (q_tk (k' := 1) hI ha rfl (Nat.succ_ne_zero _))) kv_X11_336 (q_tk (k' := 1) hI ha rfl (Nat.succ_ne_zero _)) ⟨Nat.le_of_ble_eq_true rfl, Nat.le_of_ble_eq_true rfl⟩ (Nat.le_of_ble_eq_true rfl) dX11_worth_22) hI (Nat.le_of_ble_eq_true rfl) (fun r_4 σ_5 H locs hpσ_5 hkσ_5 hI => ?_)
    have ahpσ_5 := hpσ_5.1
    have bhpσ_5 := hpσ_5.2
    clear hpσ_5
    replace hI := q_Irw ahpσ_5 hI
    replace hF := q_letX hF bhpσ_5
    refine lv_aload_n hx hb dX11_worth_25 rfl (lv_at hl 1 rfl) ?_
    refine gs_X11_42_11 E hI ha dX11_worth_26 ?_
    refine lv_iload_n hx hb dX11_worth_29 rfl (lv_at hl 2 rfl) ?_
    refine q_cl_ (q_rV0_1 (rest := [.long r_4, .ref a]) E (hml.trans hl.1.symm) hI (c_X0_allWays l X σ (q_rf X a 8) v1 (q_tk (k' := 1) hI ha rfl (Nat.succ_ne_zero _))) kv_X11_323 (q_tk (k' := 1) hI ha rfl (Nat.succ_ne_zero _)) ⟨Nat.le_of_ble_eq_true rfl, Nat.le_of_ble_eq_true rfl⟩ (Nat.le_of_ble_eq_true rfl) dX11_worth_30) hI (Nat.le_of_ble_eq_true rfl) (fun r_6 σ_7 H locs hpσ_7 hkσ_7 hI => ?_)
    have ahpσ_7 := hpσ_7.1
    have bhpσ_7 := hpσ_7.2
    clear hpσ_7
    replace hI := q_Irw ahpσ_7 hI
    replace hF := q_letX hF bhpσ_7
    refine q_ci (q_rV10_2 (rest := []) E (hml.trans hl.1.symm) hI (c_X11_tell l X σ a r_4 r_6 ha) kv_X11_326 ha ⟨Nat.le_of_ble_eq_true rfl, Nat.le_of_ble_eq_true rfl⟩ (Nat.le_of_ble_eq_true rfl) dX11_worth_33) hI (Nat.le_of_ble_eq_true rfl) (fun r_8 σ_9 H locs hpσ_9 hkσ_9 hI => ?_)
    have ahpσ_9 := hpσ_9.1
    have bhpσ_9 := hpσ_9.2.1
    have chpσ_9 := hpσ_9.2.2
    clear hpσ_9
    have fr_σ_9 := fr_σ.call chpσ_9 rfl rfl
    replace hF := q_biX hF bhpσ_9
    exact q_retz E hr hlk hI ⟨by omega, by omega⟩ ⟨⟨by omega, by omega⟩, (hF.trans hout), fr_σ_9⟩ dX11_worth_36
  · skip
    replace hF := q_ifn hF c_3
    refine lv_aload_n hx hb dX11_worth_10 rfl (lv_at hl 1 rfl) ?_
    refine lv_iload_n hx hb dX11_worth_11 rfl (lv_at hl 0 rfl) ?_
    refine q_ci (q_rV10_1 (rest := []) E (hml.trans hl.1.symm) hI (c_X11_no l X σ a r_1 ha) kv_X11_89 ha ⟨Nat.le_of_ble_eq_true rfl, Nat.le_of_ble_eq_true rfl⟩ (Nat.le_of_ble_eq_true rfl) dX11_worth_12) hI (Nat.le_of_ble_eq_true rfl) (fun r_10 σ_11 H locs hpσ_11 hkσ_11 hI => ?_)
    have ahpσ_11 := hpσ_11.1
    have bhpσ_11 := hpσ_11.2.1
    have chpσ_11 := hpσ_11.2.2.1
    have dhpσ_11 := hpσ_11.2.2.2
    clear hpσ_11
    have fr_σ_11 := fr_σ.call dhpσ_11 rfl rfl
    replace hF := q_biX hF chpσ_11
    exact q_retz E hr hlk hI ⟨by omega, by omega⟩ ⟨⟨by omega, by omega⟩, (hF.trans hout), fr_σ_11⟩ dX11_worth_15

set_option maxRecDepth 100000 in
set_option maxHeartbeats 4000000 in
theorem c_X11_ready (l : Launch) (X : XW) (σ : ST) (a : Nat) (ha : q_kd X a = 11) : Met l yX11_ready (q_ws yX11_ready cX11_ready 5 (some .int)) (q_rm 6 131) (q_P X σ [.ref a]) (q_Qi X 8 σ (fun (r : Int32) (σ' : ST) => (r, σ') = F_X11_ready X σ a ∧ q_ow [(11, 0)] [] X σ σ')) 0 0 (q_reg X) := by
  refine q_met 8 (by first | exact rfl | decide +kernel) rfl (Nat.le_of_ble_eq_true rfl) (fun p e s m below meth c E hml hr hlk hI ls hl => ?_)
  have hx := E.1
  have hb := E.2.1
  have hl : lv_has ls 5 [(0, .ref a)] := hl
  have fr_σ : q_ow [(11, 0)] [] X σ σ := q_ow.rf
  obtain ⟨out, hout⟩ : ∃ o, o = F_X11_ready X σ a := ⟨_, rfl⟩
  have hF := hout.symm
  unfold F_X11_ready at hF
  refine lv_aload_n hx hb dX11_ready_0 rfl (lv_at hl 0 rfl) ?_
  refine gs_X11_42_11 E hI ha dX11_ready_1 ?_
  refine gs_X11_147_1 E hI (q_tk (k' := 1) hI ha rfl (Nat.succ_ne_zero _)) dX11_ready_4 ?_
  refine gs_X11_151_6 E hI (q_tk (k' := 6) hI (q_tk (k' := 1) hI ha rfl (Nat.succ_ne_zero _)) rfl (Nat.succ_ne_zero _)) dX11_ready_7 ?_
  refine lv_topi (fun f_1 ef_1 => ?_)
  replace hF := q_letX hF ef_1
  refine lv_istore_n (lv' := [(1, .int f_1), (0, .ref a)]) hx hb dX11_ready_10 rfl hl (by decide) rfl (fun ls hl => ?_)
  refine lv_aload_n hx hb dX11_ready_11 rfl (lv_at hl 1 rfl) ?_
  refine gs_X11_42_11 E hI ha dX11_ready_12 ?_
  refine gs_X11_210_1 E hI (q_tk (k' := 1) hI ha rfl (Nat.succ_ne_zero _)) dX11_ready_15 ?_
  refine lv_topi (fun f_2 ef_2 => ?_)
  replace hF := q_letX hF ef_2
  have bf_2 : 0 ≤ f_2.toInt ∧ f_2.toInt ≤ 1 := by rw [ef_2]; exact q_bd hI (q_tk (k' := 1) hI ha rfl (Nat.succ_ne_zero _)) rfl
  refine q_if_eq (A := f_2.toInt) E rfl (tgt := 26) dX11_ready_18 (by decide) (fun c_3 => ?_) (fun c_3 => ?_)
  · skip
    replace hF := q_ifp hF c_3
    refine lv_aload_n hx hb dX11_ready_26 rfl (lv_at hl 1 rfl) ?_
    refine lv_bipush (v := 8) hx hb dX11_ready_27 zkb_8 ?_
    have kc_4 : (8 : Int32).toInt = 8 := zt_8
    refine q_ci (q_rV10_1 (rest := []) E (hml.trans hl.1.symm) hI (c_X11_none l X σ a (8 : Int32) ha) kv_X11_109 ha ⟨Nat.le_of_ble_eq_true rfl, Nat.le_of_ble_eq_true rfl⟩ (Nat.le_of_ble_eq_true rfl) dX11_ready_29) hI (Nat.le_of_ble_eq_true rfl) (fun r_5 σ_6 H locs hpσ_6 hkσ_6 hI => ?_)
    have ahpσ_6 := hpσ_6.1
    have bhpσ_6 := hpσ_6.2.1
    have chpσ_6 := hpσ_6.2.2
    clear hpσ_6
    have fr_σ_6 := fr_σ.call chpσ_6 rfl rfl
    replace hF := q_biX hF bhpσ_6
    exact q_reti E hr hlk hI ⟨(hF.trans hout), fr_σ_6⟩ dX11_ready_32
  · skip
    replace hF := q_ifn hF c_3
    refine lv_iload_n hx hb dX11_ready_21 rfl (lv_at hl 0 rfl) ?_
    refine lv_iconst (v := 2) hx hb dX11_ready_22 zki_2 ?_
    have gc_7_f_1 := q_rng f_1
    refine q_icmp_ge (A := f_1.toInt) (B := 2) E rfl (by decide) (tgt := 33) dX11_ready_23 (by decide) (fun c_7 => ?_) (fun c_7 => ?_)
    · skip
      replace hF := q_ifn hF (Int.not_lt.mpr c_7)
      refine lv_aload_n hx hb dX11_ready_33 rfl (lv_at hl 1 rfl) ?_
      refine gs_X11_42_11 E hI ha dX11_ready_34 ?_
      refine gs_X11_147_1 E hI (q_tk (k' := 1) hI ha rfl (Nat.succ_ne_zero _)) dX11_ready_37 ?_
      refine lv_aload_n hx hb dX11_ready_40 rfl (lv_at hl 1 rfl) ?_
      refine gs_X11_42_11 E hI ha dX11_ready_41 ?_
      refine gs_X11_198_1 E hI (q_tk (k' := 1) hI ha rfl (Nat.succ_ne_zero _)) dX11_ready_44 ?_
      refine lv_topi (fun f_8 ef_8 => ?_)
      replace hF := q_letX hF ef_8
      refine lv_iconst (v := 1) hx hb dX11_ready_47 zki_1 ?_
      have kc_9 : (1 : Int32).toInt = 1 := zt_1
      refine q_ci (q_rV5_2 (rest := []) E (hml.trans hl.1.symm) hI (c_X6_playerAfter l X σ (q_rf X (q_rf X a 8) 0) f_8 (1 : Int32) (q_tk (k' := 6) hI (q_tk (k' := 1) hI ha rfl (Nat.succ_ne_zero _)) rfl (Nat.succ_ne_zero _))) kv_X11_339 (q_tk (k' := 6) hI (q_tk (k' := 1) hI ha rfl (Nat.succ_ne_zero _)) rfl (Nat.succ_ne_zero _)) ⟨Nat.le_of_ble_eq_true rfl, Nat.le_of_ble_eq_true rfl⟩ (Nat.le_of_ble_eq_true rfl) dX11_ready_48) hI (Nat.le_of_ble_eq_true rfl) (fun r_10 σ_11 H locs hpσ_11 hkσ_11 hI => ?_)
      have ahpσ_11 := hpσ_11.1
      have bhpσ_11 := hpσ_11.2
      clear hpσ_11
      replace hI := q_Irw ahpσ_11 hI
      replace hF := q_letX hF bhpσ_11
      refine lv_istore_n (lv' := [(2, .int r_10), (1, .int f_1), (0, .ref a)]) hx hb dX11_ready_51 rfl hl (by decide) rfl (fun ls hl => ?_)
      refine lv_iconst (v := 2) hx hb dX11_ready_52 zki_2 ?_
      refine lv_istore_n (lv' := [(3, .int 2), (2, .int r_10), (1, .int f_1), (0, .ref a)]) hx hb dX11_ready_53 rfl hl (by decide) rfl (fun ls hl => ?_)
      have L_54_14 : ∀ (k_14 : Nat) (x_12 : Int32) (x_13 : Int32) (H : Heap) (locs : List Loc) (ls : Array Slot), (2147483647 - x_13.toInt).toNat < k_14 → (0 ≤ x_13.toInt) → (F_X11_ready_L54_1 X f_1 σ a k_14 x_12 x_13 = out) → q_I X 8 σ s.heap locs σ H → lv_has ls 5 [(0, .ref a), (1, .int f_1), (2, .int x_12), (3, .int x_13)] → W p l e (q_rm 6 131) s m ([.ref a] : List Value).toArray below meth c H locs 0 0 (MQ below (q_Qi X 8 σ (fun (r : Int32) (σ' : ST) => (r, σ') = F_X11_ready X σ a ∧ q_ow [(11, 0)] [] X σ σ')) ([.ref a] : List Value).toArray s 0 0 (q_reg X)) (F0 m 54 ls []) := by
        clear hF
        intro k_14
        induction k_14 with
        | zero =>
          intro x_12 x_13 H locs ls hms
          exact absurd hms (Nat.not_lt_zero _)
        | succ k_14 ih54 =>
          intro x_12 x_13 H locs ls hm54 hge54 hF hI hl
          replace hF := (F_X11_ready_L54_1_s).symm.trans hF
          unfold F_X11_ready_B54_1 at hF
          refine lv_iload_n hx hb dX11_ready_54 rfl (lv_at hl 3 rfl) ?_
          refine lv_iload_n hx hb dX11_ready_55 rfl (lv_at hl 1 rfl) ?_
          have gc_15_x_13 := q_rng x_13
          have gc_15_f_1 := q_rng f_1
          refine q_icmp_ge (A := x_13.toInt) (B := f_1.toInt) E rfl rfl (tgt := 128) dX11_ready_56 (by decide) (fun c_15 => ?_) (fun c_15 => ?_)
          · skip
            replace hF := q_ifn hF (Int.not_lt.mpr c_15)
            unfold F_X11_ready_E128_2 at hF
            refine lv_aload_n hx hb dX11_ready_128 rfl (lv_at hl 0 rfl) ?_
            refine lv_iload_n hx hb dX11_ready_129 rfl (lv_at hl 2 rfl) ?_
            refine q_ci (q_rV10_1 (rest := []) E (hml.trans hl.1.symm) hI (c_X11_good l X σ a x_12 ha) kv_X11_156 ha ⟨Nat.le_of_ble_eq_true rfl, Nat.le_of_ble_eq_true rfl⟩ (Nat.le_of_ble_eq_true rfl) dX11_ready_130) hI (Nat.le_of_ble_eq_true rfl) (fun r_16 σ_17 H locs hpσ_17 hkσ_17 hI => ?_)
            have ahpσ_17 := hpσ_17.1
            have bhpσ_17 := hpσ_17.2.1
            have chpσ_17 := hpσ_17.2.2
            clear hpσ_17
            have fr_σ_17 := fr_σ.call chpσ_17 rfl rfl
            replace hF := q_biX hF bhpσ_17
            exact q_reti E hr hlk hI ⟨(hF.trans hout), fr_σ_17⟩ dX11_ready_133
          · skip
            replace hF := q_ifp hF c_15
            refine lv_aload_n hx hb dX11_ready_59 rfl (lv_at hl 0 rfl) ?_
            refine gs_X11_42_11 E hI ha dX11_ready_60 ?_
            refine gs_X11_147_1 E hI (q_tk (k' := 1) hI ha rfl (Nat.succ_ne_zero _)) dX11_ready_63 ?_
            refine lv_aload_n hx hb dX11_ready_66 rfl (lv_at hl 0 rfl) ?_
            refine gs_X11_42_11 E hI ha dX11_ready_67 ?_
            refine gs_X11_198_1 E hI (q_tk (k' := 1) hI ha rfl (Nat.succ_ne_zero _)) dX11_ready_70 ?_
            refine lv_topi (fun f_18 ef_18 => ?_)
            replace hF := q_letX hF ef_18
            refine lv_iload_n hx hb dX11_ready_73 rfl (lv_at hl 3 rfl) ?_
            refine q_ci (q_rV5_2 (rest := []) E (hml.trans hl.1.symm) hI (c_X6_playerAfter l X σ (q_rf X (q_rf X a 8) 0) f_18 x_13 (q_tk (k' := 6) hI (q_tk (k' := 1) hI ha rfl (Nat.succ_ne_zero _)) rfl (Nat.succ_ne_zero _))) kv_X11_339 (q_tk (k' := 6) hI (q_tk (k' := 1) hI ha rfl (Nat.succ_ne_zero _)) rfl (Nat.succ_ne_zero _)) ⟨Nat.le_of_ble_eq_true rfl, Nat.le_of_ble_eq_true rfl⟩ (Nat.le_of_ble_eq_true rfl) dX11_ready_74) hI (Nat.le_of_ble_eq_true rfl) (fun r_19 σ_20 H locs hpσ_20 hkσ_20 hI => ?_)
            have ahpσ_20 := hpσ_20.1
            have bhpσ_20 := hpσ_20.2
            clear hpσ_20
            replace hI := q_Irw ahpσ_20 hI
            replace hF := q_letX hF bhpσ_20
            refine lv_istore (lv' := [(4, .int r_19), (0, .ref a), (1, .int f_1), (2, .int x_12), (3, .int x_13)]) hx hb dX11_ready_77 hl (by decide) rfl (fun ls hl => ?_)
            refine lv_aload_n hx hb dX11_ready_79 rfl (lv_at hl 1 rfl) ?_
            refine gs_X11_42_11 E hI ha dX11_ready_80 ?_
            refine lv_iload hx hb dX11_ready_83 (lv_at hl 0 rfl) ?_
            refine q_cl_ (q_rV0_1 (rest := []) E (hml.trans hl.1.symm) hI (c_X0_worthTop l X σ (q_rf X a 8) r_19 (q_tk (k' := 1) hI ha rfl (Nat.succ_ne_zero _))) kv_X11_336 (q_tk (k' := 1) hI ha rfl (Nat.succ_ne_zero _)) ⟨Nat.le_of_ble_eq_true rfl, Nat.le_of_ble_eq_true rfl⟩ (Nat.le_of_ble_eq_true rfl) dX11_ready_85) hI (Nat.le_of_ble_eq_true rfl) (fun r_21 σ_22 H locs hpσ_22 hkσ_22 hI => ?_)
            have ahpσ_22 := hpσ_22.1
            have bhpσ_22 := hpσ_22.2
            clear hpσ_22
            replace hI := q_Irw ahpσ_22 hI
            replace hF := q_letX hF bhpσ_22
            refine lv_aload_n hx hb dX11_ready_88 rfl (lv_at hl 1 rfl) ?_
            refine gs_X11_42_11 E hI ha dX11_ready_89 ?_
            refine lv_iload_n hx hb dX11_ready_92 rfl (lv_at hl 3 rfl) ?_
            refine q_cl_ (q_rV0_1 (rest := [.long r_21]) E (hml.trans hl.1.symm) hI (c_X0_allWays l X σ (q_rf X a 8) x_12 (q_tk (k' := 1) hI ha rfl (Nat.succ_ne_zero _))) kv_X11_323 (q_tk (k' := 1) hI ha rfl (Nat.succ_ne_zero _)) ⟨Nat.le_of_ble_eq_true rfl, Nat.le_of_ble_eq_true rfl⟩ (Nat.le_of_ble_eq_true rfl) dX11_ready_93) hI (Nat.le_of_ble_eq_true rfl) (fun r_23 σ_24 H locs hpσ_24 hkσ_24 hI => ?_)
            have ahpσ_24 := hpσ_24.1
            have bhpσ_24 := hpσ_24.2
            clear hpσ_24
            replace hI := q_Irw ahpσ_24 hI
            replace hF := q_letX hF bhpσ_24
            refine lv_lmul hx hb dX11_ready_96 ?_
            refine lv_topl (fun y_25 ey_25 => ?_)
            replace hF := q_letX hF ey_25
            refine lv_aload_n hx hb dX11_ready_97 rfl (lv_at hl 1 rfl) ?_
            refine gs_X11_42_11 E hI ha dX11_ready_98 ?_
            refine lv_iload_n hx hb dX11_ready_101 rfl (lv_at hl 3 rfl) ?_
            refine q_cl_ (q_rV0_1 (rest := [.long y_25]) E (hml.trans hl.1.symm) hI (c_X0_worthTop l X σ (q_rf X a 8) x_12 (q_tk (k' := 1) hI ha rfl (Nat.succ_ne_zero _))) kv_X11_336 (q_tk (k' := 1) hI ha rfl (Nat.succ_ne_zero _)) ⟨Nat.le_of_ble_eq_true rfl, Nat.le_of_ble_eq_true rfl⟩ (Nat.le_of_ble_eq_true rfl) dX11_ready_102) hI (Nat.le_of_ble_eq_true rfl) (fun r_26 σ_27 H locs hpσ_27 hkσ_27 hI => ?_)
            have ahpσ_27 := hpσ_27.1
            have bhpσ_27 := hpσ_27.2
            clear hpσ_27
            replace hI := q_Irw ahpσ_27 hI
            replace hF := q_letX hF bhpσ_27
            refine lv_aload_n hx hb dX11_ready_105 rfl (lv_at hl 1 rfl) ?_
            refine gs_X11_42_11 E hI ha dX11_ready_106 ?_
            refine lv_iload hx hb dX11_ready_109 (lv_at hl 0 rfl) ?_
            refine q_cl_ (q_rV0_1 (rest := [.long r_26, .long y_25]) E (hml.trans hl.1.symm) hI (c_X0_allWays l X σ (q_rf X a 8) r_19 (q_tk (k' := 1) hI ha rfl (Nat.succ_ne_zero _))) kv_X11_323 (q_tk (k' := 1) hI ha rfl (Nat.succ_ne_zero _)) ⟨Nat.le_of_ble_eq_true rfl, Nat.le_of_ble_eq_true rfl⟩ (Nat.le_of_ble_eq_true rfl) dX11_ready_111) hI (Nat.le_of_ble_eq_true rfl) (fun r_28 σ_29 H locs hpσ_29 hkσ_29 hI => ?_)
            have ahpσ_29 := hpσ_29.1
            have bhpσ_29 := hpσ_29.2
            clear hpσ_29
            replace hI := q_Irw ahpσ_29 hI
            replace hF := q_letX hF bhpσ_29
            refine lv_lmul hx hb dX11_ready_114 ?_
            refine lv_topl (fun y_30 ey_30 => ?_)
            replace hF := q_letX hF ey_30
            refine q_lcmpX E dX11_ready_115 (fun z_31 ez_31 hz_31 => ?_)
            replace hF := q_letX hF ez_31
            refine q_if_le (A := z_31.toInt) E rfl (tgt := 122) dX11_ready_116 (by decide) (fun c_32 => ?_) (fun c_32 => ?_)
            · skip
              replace hF := q_ifn hF (Int.not_lt.mpr c_32)
              obtain ⟨z_33, ez_33⟩ : ∃ y : Int32, y = x_13 + 1 := ⟨_, rfl⟩
              replace hF := q_letX hF ez_33
              refine lv_iinc (v := z_33) (lv' := [(3, .int z_33), (4, .int r_19), (0, .ref a), (1, .int f_1), (2, .int x_12)]) hx hb dX11_ready_122 hl (k := 4) rfl (by rw [ez_33]; rfl) (by decide) rfl (fun ls hl => ?_)
              have iz_33 : z_33.toInt = x_13.toInt + 1 := q_inc ez_33 (by first | (clear bf_2 c_3 kc_9 ahpσ_11 bhpσ_11 hm54 gc_15_f_1 ahpσ_20 bhpσ_20 ahpσ_22 bhpσ_22 ahpσ_24 bhpσ_24 ahpσ_27 bhpσ_27 ahpσ_29 bhpσ_29 hz_31 c_32; omega) | omega)
              refine lv_goto (tgt := 54) hx hb dX11_ready_125 (by decide) ?_
              exact ih54 x_12 z_33 _ _ ls (by first | (clear bf_2 c_3 kc_9 ahpσ_11 bhpσ_11 gc_15_f_1 ahpσ_20 bhpσ_20 ahpσ_22 bhpσ_22 ahpσ_24 bhpσ_24 ahpσ_27 bhpσ_27 ahpσ_29 bhpσ_29; omega) | omega) (by first | (clear bf_2 c_3 gc_7_f_1 c_7 kc_9 ahpσ_11 bhpσ_11 hm54 gc_15_f_1 c_15 ahpσ_20 bhpσ_20 ahpσ_22 bhpσ_22 ahpσ_24 bhpσ_24 ahpσ_27 bhpσ_27 ahpσ_29 bhpσ_29 hz_31 c_32; omega) | omega) hF hI (lv_sub hl [2, 3, 4, 0] rfl)
            · skip
              replace hF := q_ifp hF c_32
              refine lv_iload hx hb dX11_ready_119 (lv_at hl 0 rfl) ?_
              refine lv_istore_n (lv' := [(2, .int r_19), (4, .int r_19), (0, .ref a), (1, .int f_1), (3, .int x_13)]) hx hb dX11_ready_121 rfl hl (by decide) rfl (fun ls hl => ?_)
              obtain ⟨z_34, ez_34⟩ : ∃ y : Int32, y = x_13 + 1 := ⟨_, rfl⟩
              replace hF := q_letX hF ez_34
              refine lv_iinc (v := z_34) (lv' := [(3, .int z_34), (2, .int r_19), (4, .int r_19), (0, .ref a), (1, .int f_1)]) hx hb dX11_ready_122 hl (k := 4) rfl (by rw [ez_34]; rfl) (by decide) rfl (fun ls hl => ?_)
              have iz_34 : z_34.toInt = x_13.toInt + 1 := q_inc ez_34 (by first | (clear bf_2 c_3 kc_9 ahpσ_11 bhpσ_11 hm54 gc_15_f_1 ahpσ_20 bhpσ_20 ahpσ_22 bhpσ_22 ahpσ_24 bhpσ_24 ahpσ_27 bhpσ_27 ahpσ_29 bhpσ_29 hz_31 c_32; omega) | omega)
              refine lv_goto (tgt := 54) hx hb dX11_ready_125 (by decide) ?_
              exact ih54 r_19 z_34 _ _ ls (by first | (clear bf_2 c_3 kc_9 ahpσ_11 bhpσ_11 gc_15_f_1 ahpσ_20 bhpσ_20 ahpσ_22 bhpσ_22 ahpσ_24 bhpσ_24 ahpσ_27 bhpσ_27 ahpσ_29 bhpσ_29; omega) | omega) (by first | (clear bf_2 c_3 gc_7_f_1 c_7 kc_9 ahpσ_11 bhpσ_11 hm54 gc_15_f_1 c_15 ahpσ_20 bhpσ_20 ahpσ_22 bhpσ_22 ahpσ_24 bhpσ_24 ahpσ_27 bhpσ_27 ahpσ_29 bhpσ_29 hz_31 c_32; omega) | omega) hF hI (lv_sub hl [3, 4, 1, 0] rfl)
      exact L_54_14 ((2147483647 - (2 : Int32).toInt).toNat + 1) r_10 2 _ _ ls (Nat.lt_succ_self _) (by decide) hF hI (lv_sub hl [3, 2, 1, 0] rfl)
    · skip
      replace hF := q_ifp hF c_7
      refine lv_aload_n hx hb dX11_ready_26 rfl (lv_at hl 1 rfl) ?_
      refine lv_bipush (v := 8) hx hb dX11_ready_27 zkb_8 ?_
      have kc_35 : (8 : Int32).toInt = 8 := zt_8
      refine q_ci (q_rV10_1 (rest := []) E (hml.trans hl.1.symm) hI (c_X11_none l X σ a (8 : Int32) ha) kv_X11_109 ha ⟨Nat.le_of_ble_eq_true rfl, Nat.le_of_ble_eq_true rfl⟩ (Nat.le_of_ble_eq_true rfl) dX11_ready_29) hI (Nat.le_of_ble_eq_true rfl) (fun r_36 σ_37 H locs hpσ_37 hkσ_37 hI => ?_)
      have ahpσ_37 := hpσ_37.1
      have bhpσ_37 := hpσ_37.2.1
      have chpσ_37 := hpσ_37.2.2
      clear hpσ_37
      have fr_σ_37 := fr_σ.call chpσ_37 rfl rfl
      replace hF := q_biX hF bhpσ_37
      exact q_reti E hr hlk hI ⟨(hF.trans hout), fr_σ_37⟩ dX11_ready_32

set_option maxRecDepth 100000 in
set_option maxHeartbeats 4000000 in
theorem c_X11_heap (l : Launch) (X : XW) (σ : ST) (a : Nat) (v1 : Int32) (v2 : Int32) (ha : q_kd X a = 11) : Met l yX11_heap (q_ws yX11_heap cX11_heap 9 (some .boolean)) (q_rm 4 89) (q_P X σ [.ref a, .int v1, .int v2]) (q_Qi X 8 σ (fun (r : Int32) (σ' : ST) => (0 ≤ r.toInt ∧ r.toInt ≤ 1) ∧ (r, σ') = F_X11_heap X σ a v1 v2 ∧ q_ow [(11, 0)] [(11, 1), (11, 2)] X σ σ')) 0 0 (q_reg X) := by
  refine q_met 8 (by first | exact rfl | decide +kernel) rfl (Nat.le_of_ble_eq_true rfl) (fun p e s m below meth c E hml hr hlk hI ls hl => ?_)
  have hx := E.1
  have hb := E.2.1
  have hl : lv_has ls 9 [(0, .ref a), (1, .int v1), (2, .int v2)] := hl
  have fr_σ : q_ow [(11, 0)] [(11, 1), (11, 2)] X σ σ := q_ow.rf
  obtain ⟨out, hout⟩ : ∃ o, o = F_X11_heap X σ a v1 v2 := ⟨_, rfl⟩
  have hF := hout.symm
  unfold F_X11_heap at hF
  refine lv_aload_n hx hb dX11_heap_0 rfl (lv_at hl 0 rfl) ?_
  refine lv_iload_n hx hb dX11_heap_1 rfl (lv_at hl 1 rfl) ?_
  refine q_ci (q_rV10_1 (rest := []) E (hml.trans hl.1.symm) hI (c_X11_isPlayer l X σ a v1 ha) kv_X11_219 ha ⟨Nat.le_of_ble_eq_true rfl, Nat.le_of_ble_eq_true rfl⟩ (Nat.le_of_ble_eq_true rfl) dX11_heap_2) hI (Nat.le_of_ble_eq_true rfl) (fun r_1 σ_2 H locs hpσ_2 hkσ_2 hI => ?_)
  have ahpσ_2 := hpσ_2.1
  have bhpσ_2 := hpσ_2.2.1
  have chpσ_2 := hpσ_2.2.2
  clear hpσ_2
  replace hI := q_Irw ahpσ_2 hI
  replace hF := q_letX hF chpσ_2
  refine q_if_eq (A := r_1.toInt) E rfl (tgt := 16) dX11_heap_5 (by decide) (fun c_3 => ?_) (fun c_3 => ?_)
  · skip
    replace hF := q_ifp hF c_3
    refine lv_aload_n hx hb dX11_heap_16 rfl (lv_at hl 0 rfl) ?_
    refine lv_iconst (v := 2) hx hb dX11_heap_17 zki_2 ?_
    have kc_4 : (2 : Int32).toInt = 2 := zt_2
    refine q_ci (q_rV10_1 (rest := []) E (hml.trans hl.1.symm) hI (c_X11_no l X σ a (2 : Int32) ha) kv_X11_89 ha ⟨Nat.le_of_ble_eq_true rfl, Nat.le_of_ble_eq_true rfl⟩ (Nat.le_of_ble_eq_true rfl) dX11_heap_18) hI (Nat.le_of_ble_eq_true rfl) (fun r_5 σ_6 H locs hpσ_6 hkσ_6 hI => ?_)
    have ahpσ_6 := hpσ_6.1
    have bhpσ_6 := hpσ_6.2.1
    have chpσ_6 := hpσ_6.2.2.1
    have dhpσ_6 := hpσ_6.2.2.2
    clear hpσ_6
    have fr_σ_6 := fr_σ.call dhpσ_6 rfl rfl
    replace hF := q_biX hF chpσ_6
    exact q_retz E hr hlk hI ⟨by omega, by omega⟩ ⟨⟨by omega, by omega⟩, (hF.trans hout), fr_σ_6⟩ dX11_heap_21
  · skip
    replace hF := q_ifn hF c_3
    replace c_3 := q_ifOne bhpσ_2 c_3
    refine lv_aload_n hx hb dX11_heap_8 rfl (lv_at hl 0 rfl) ?_
    refine lv_iload_n hx hb dX11_heap_9 rfl (lv_at hl 2 rfl) ?_
    refine q_ci (q_rV10_1 (rest := []) E (hml.trans hl.1.symm) hI (c_X11_isKind l X σ a v2 ha) kv_X11_250 ha ⟨Nat.le_of_ble_eq_true rfl, Nat.le_of_ble_eq_true rfl⟩ (Nat.le_of_ble_eq_true rfl) dX11_heap_10) hI (Nat.le_of_ble_eq_true rfl) (fun r_7 σ_8 H locs hpσ_8 hkσ_8 hI => ?_)
    have ahpσ_8 := hpσ_8.1
    have bhpσ_8 := hpσ_8.2.1
    have chpσ_8 := hpσ_8.2.2
    clear hpσ_8
    replace hI := q_Irw ahpσ_8 hI
    replace hF := q_letX hF chpσ_8
    refine q_if_ne (A := r_7.toInt) E rfl (tgt := 22) dX11_heap_13 (by decide) (fun c_9 => ?_) (fun c_9 => ?_)
    · skip
      replace hF := q_ifn hF c_9
      replace c_9 := q_ifOne bhpσ_8 c_9
      refine lv_aload_n hx hb dX11_heap_22 rfl (lv_at hl 0 rfl) ?_
      refine gs_X11_42_11 E hI ha dX11_heap_23 ?_
      refine gs_X11_222_1 E hI (q_tk (k' := 1) hI ha rfl (Nat.succ_ne_zero _)) dX11_heap_26 ?_
      refine lv_iload_n hx hb dX11_heap_29 rfl (lv_at hl 1 rfl) ?_
      refine lv_iload_n hx hb dX11_heap_30 rfl (lv_at hl 2 rfl) ?_
      refine q_ci (q_rV1_2 (rest := []) E (hml.trans hl.1.symm) hI (c_X1_laidBy l X σ (q_rf X (q_rf X a 8) 1) v1 v2 (q_tk (k' := 2) hI (q_tk (k' := 1) hI ha rfl (Nat.succ_ne_zero _)) rfl (Nat.succ_ne_zero _))) kv_X11_342 (q_tk (k' := 2) hI (q_tk (k' := 1) hI ha rfl (Nat.succ_ne_zero _)) rfl (Nat.succ_ne_zero _)) ⟨Nat.le_of_ble_eq_true rfl, Nat.le_of_ble_eq_true rfl⟩ (Nat.le_of_ble_eq_true rfl) dX11_heap_31) hI (Nat.le_of_ble_eq_true rfl) (fun r_10 σ_11 H locs hpσ_11 hkσ_11 hI => ?_)
      have ahpσ_11 := hpσ_11.1
      have bhpσ_11 := hpσ_11.2
      clear hpσ_11
      replace hI := q_Irw ahpσ_11 hI
      replace hF := q_letX hF bhpσ_11
      refine lv_i2l hx hb dX11_heap_34 rfl ?_
      refine lv_topl (fun y_12 ey_12 => ?_)
      replace hF := q_letX hF ey_12
      refine lv_lstore_n (lv' := [(3, .long y_12), (0, .ref a), (1, .int v1), (2, .int v2)]) hx hb dX11_heap_35 rfl hl (by decide) rfl (fun ls hl => ?_)
      refine lv_aload_n hx hb dX11_heap_36 rfl (lv_at hl 1 rfl) ?_
      refine gs_X11_42_11 E hI ha dX11_heap_37 ?_
      refine gs_X11_201_1 E hI (q_tk (k' := 1) hI ha rfl (Nat.succ_ne_zero _)) dX11_heap_40 ?_
      refine gs_X11_205_3 E hI (q_tk (k' := 3) hI (q_tk (k' := 1) hI ha rfl (Nat.succ_ne_zero _)) rfl (Nat.succ_ne_zero _)) dX11_heap_43 ?_
      refine lv_topi (fun f_13 ef_13 => ?_)
      replace hF := q_letX hF ef_13
      refine lv_aload_n hx hb dX11_heap_46 rfl (lv_at hl 1 rfl) ?_
      refine gs_X11_42_11 E hI ha dX11_heap_47 ?_
      refine gs_X11_222_1 E hI (q_tk (k' := 1) hI ha rfl (Nat.succ_ne_zero _)) dX11_heap_50 ?_
      refine lv_iload_n hx hb dX11_heap_53 rfl (lv_at hl 2 rfl) ?_
      refine q_ci (q_rV1_1 (rest := [.int f_13]) E (hml.trans hl.1.symm) hI (c_X1_allLaidBy l X σ (q_rf X (q_rf X a 8) 1) v1 (q_tk (k' := 2) hI (q_tk (k' := 1) hI ha rfl (Nat.succ_ne_zero _)) rfl (Nat.succ_ne_zero _))) kv_X11_247 (q_tk (k' := 2) hI (q_tk (k' := 1) hI ha rfl (Nat.succ_ne_zero _)) rfl (Nat.succ_ne_zero _)) ⟨Nat.le_of_ble_eq_true rfl, Nat.le_of_ble_eq_true rfl⟩ (Nat.le_of_ble_eq_true rfl) dX11_heap_54) hI (Nat.le_of_ble_eq_true rfl) (fun r_14 σ_15 H locs hpσ_15 hkσ_15 hI => ?_)
      have ahpσ_15 := hpσ_15.1
      have bhpσ_15 := hpσ_15.2
      clear hpσ_15
      replace hI := q_Irw ahpσ_15 hI
      replace hF := q_letX hF bhpσ_15
      refine lv_isub hx hb dX11_heap_57 ?_
      refine lv_topi (fun z_16 ez_16 => ?_)
      replace hF := q_letX hF ez_16
      refine lv_i2l hx hb dX11_heap_58 rfl ?_
      refine lv_topl (fun y_17 ey_17 => ?_)
      replace hF := q_letX hF ey_17
      refine lv_lstore (lv' := [(5, .long y_17), (3, .long y_12), (0, .ref a), (1, .int v1), (2, .int v2)]) hx hb dX11_heap_59 hl (by decide) rfl (fun ls hl => ?_)
      refine lv_aload_n hx hb dX11_heap_61 rfl (lv_at hl 2 rfl) ?_
      refine gs_X11_42_11 E hI ha dX11_heap_62 ?_
      refine lv_iload_n hx hb dX11_heap_65 rfl (lv_at hl 3 rfl) ?_
      refine q_ci (q_rV0_1 (rest := []) E (hml.trans hl.1.symm) hI (c_X0_allUnknownTo l X σ (q_rf X a 8) v1 (q_tk (k' := 1) hI ha rfl (Nat.succ_ne_zero _))) kv_X11_311 (q_tk (k' := 1) hI ha rfl (Nat.succ_ne_zero _)) ⟨Nat.le_of_ble_eq_true rfl, Nat.le_of_ble_eq_true rfl⟩ (Nat.le_of_ble_eq_true rfl) dX11_heap_66) hI (Nat.le_of_ble_eq_true rfl) (fun r_18 σ_19 H locs hpσ_19 hkσ_19 hI => ?_)
      have ahpσ_19 := hpσ_19.1
      have bhpσ_19 := hpσ_19.2
      clear hpσ_19
      replace hI := q_Irw ahpσ_19 hI
      replace hF := q_letX hF bhpσ_19
      refine lv_i2l hx hb dX11_heap_69 rfl ?_
      refine lv_topl (fun y_20 ey_20 => ?_)
      replace hF := q_letX hF ey_20
      refine lv_lstore (lv' := [(7, .long y_20), (5, .long y_17), (3, .long y_12), (0, .ref a), (1, .int v1), (2, .int v2)]) hx hb dX11_heap_70 hl (by decide) rfl (fun ls hl => ?_)
      refine lv_lload hx hb dX11_heap_72 (lv_at hl 0 rfl) ?_
      refine lv_lconst (v := 0) hx hb dX11_heap_74 (by decide) ?_
      have kc_22 : (0 : Int64).toInt = 0 := rfl
      refine q_lcmpX E dX11_heap_75 (fun z_21 ez_21 hz_21 => ?_)
      replace hF := q_letX hF ez_21
      refine q_if_ne (A := z_21.toInt) E rfl (tgt := 86) dX11_heap_76 (by decide) (fun c_23 => ?_) (fun c_23 => ?_)
      · skip
        replace hF := q_ifn hF c_23
        refine lv_aload_n hx hb dX11_heap_86 rfl (lv_at hl 3 rfl) ?_
        refine lv_lload_n hx hb dX11_heap_87 rfl (lv_at hl 2 rfl) ?_
        refine lv_lload hx hb dX11_heap_88 (lv_at hl 0 rfl) ?_
        refine lv_lmul hx hb dX11_heap_90 ?_
        refine lv_topl (fun y_24 ey_24 => ?_)
        replace hF := q_letX hF ey_24
        refine lv_lload hx hb dX11_heap_91 (lv_at hl 1 rfl) ?_
        refine lv_aload_n hx hb dX11_heap_93 rfl (lv_at hl 3 rfl) ?_
        refine gs_X11_42_11 E hI ha dX11_heap_94 ?_
        refine lv_iload_n hx hb dX11_heap_97 rfl (lv_at hl 4 rfl) ?_
        refine lv_iload_n hx hb dX11_heap_98 rfl (lv_at hl 5 rfl) ?_
        refine q_ci (q_rV0_2 (rest := [.long y_17, .long y_24, .ref a]) E (hml.trans hl.1.symm) hI (c_X0_unknownTo l X σ (q_rf X a 8) v1 v2 (q_tk (k' := 1) hI ha rfl (Nat.succ_ne_zero _))) kv_X11_314 (q_tk (k' := 1) hI ha rfl (Nat.succ_ne_zero _)) ⟨Nat.le_of_ble_eq_true rfl, Nat.le_of_ble_eq_true rfl⟩ (Nat.le_of_ble_eq_true rfl) dX11_heap_99) hI (Nat.le_of_ble_eq_true rfl) (fun r_25 σ_26 H locs hpσ_26 hkσ_26 hI => ?_)
        have ahpσ_26 := hpσ_26.1
        have bhpσ_26 := hpσ_26.2
        clear hpσ_26
        replace hI := q_Irw ahpσ_26 hI
        replace hF := q_letX hF bhpσ_26
        refine lv_i2l hx hb dX11_heap_102 rfl ?_
        refine lv_topl (fun y_27 ey_27 => ?_)
        replace hF := q_letX hF ey_27
        refine lv_lmul hx hb dX11_heap_103 ?_
        refine lv_topl (fun y_28 ey_28 => ?_)
        replace hF := q_letX hF ey_28
        refine lv_ladd hx hb dX11_heap_104 ?_
        refine lv_topl (fun y_29 ey_29 => ?_)
        replace hF := q_letX hF ey_29
        refine lv_lload hx hb dX11_heap_105 (lv_at hl 0 rfl) ?_
        refine q_ci (q_rV10_2 (rest := []) E (hml.trans hl.1.symm) hI (c_X11_tell l X σ a y_29 y_20 ha) kv_X11_326 ha ⟨Nat.le_of_ble_eq_true rfl, Nat.le_of_ble_eq_true rfl⟩ (Nat.le_of_ble_eq_true rfl) dX11_heap_107) hI (Nat.le_of_ble_eq_true rfl) (fun r_30 σ_31 H locs hpσ_31 hkσ_31 hI => ?_)
        have ahpσ_31 := hpσ_31.1
        have bhpσ_31 := hpσ_31.2.1
        have chpσ_31 := hpσ_31.2.2
        clear hpσ_31
        have fr_σ_31 := fr_σ.call chpσ_31 rfl rfl
        replace hF := q_biX hF bhpσ_31
        exact q_retz E hr hlk hI ⟨by omega, by omega⟩ ⟨⟨by omega, by omega⟩, (hF.trans hout), fr_σ_31⟩ dX11_heap_110
      · skip
        replace hF := q_ifp hF c_23
        refine lv_aload_n hx hb dX11_heap_79 rfl (lv_at hl 3 rfl) ?_
        refine lv_lload_n hx hb dX11_heap_80 rfl (lv_at hl 2 rfl) ?_
        refine lv_lconst (v := 1) hx hb dX11_heap_81 (by decide) ?_
        refine q_ci (q_rV10_2 (rest := []) E (hml.trans hl.1.symm) hI (c_X11_tell l X σ a y_12 (1 : Int64) ha) kv_X11_326 ha ⟨Nat.le_of_ble_eq_true rfl, Nat.le_of_ble_eq_true rfl⟩ (Nat.le_of_ble_eq_true rfl) dX11_heap_82) hI (Nat.le_of_ble_eq_true rfl) (fun r_32 σ_33 H locs hpσ_33 hkσ_33 hI => ?_)
        have ahpσ_33 := hpσ_33.1
        have bhpσ_33 := hpσ_33.2.1
        have chpσ_33 := hpσ_33.2.2
        clear hpσ_33
        have fr_σ_33 := fr_σ.call chpσ_33 rfl rfl
        replace hF := q_biX hF bhpσ_33
        exact q_retz E hr hlk hI ⟨by omega, by omega⟩ ⟨⟨by omega, by omega⟩, (hF.trans hout), fr_σ_33⟩ dX11_heap_85
    · skip
      replace hF := q_ifp hF c_9
      refine lv_aload_n hx hb dX11_heap_16 rfl (lv_at hl 0 rfl) ?_
      refine lv_iconst (v := 2) hx hb dX11_heap_17 zki_2 ?_
      have kc_34 : (2 : Int32).toInt = 2 := zt_2
      refine q_ci (q_rV10_1 (rest := []) E (hml.trans hl.1.symm) hI (c_X11_no l X σ a (2 : Int32) ha) kv_X11_89 ha ⟨Nat.le_of_ble_eq_true rfl, Nat.le_of_ble_eq_true rfl⟩ (Nat.le_of_ble_eq_true rfl) dX11_heap_18) hI (Nat.le_of_ble_eq_true rfl) (fun r_35 σ_36 H locs hpσ_36 hkσ_36 hI => ?_)
      have ahpσ_36 := hpσ_36.1
      have bhpσ_36 := hpσ_36.2.1
      have chpσ_36 := hpσ_36.2.2.1
      have dhpσ_36 := hpσ_36.2.2.2
      clear hpσ_36
      have fr_σ_36 := fr_σ.call dhpσ_36 rfl rfl
      replace hF := q_biX hF chpσ_36
      exact q_retz E hr hlk hI ⟨by omega, by omega⟩ ⟨⟨by omega, by omega⟩, (hF.trans hout), fr_σ_36⟩ dX11_heap_21

set_option maxRecDepth 100000 in
set_option maxHeartbeats 4000000 in
theorem c_X11_said (l : Launch) (X : XW) (σ : ST) (a : Nat) (v1 : Int32) (v2 : Int32) (ha : q_kd X a = 11) : Met l yX11_said (q_ws yX11_said cX11_said 3 (some .int)) (q_rm 2 45) (q_P X σ [.ref a, .int v1, .int v2]) (q_Qi X 8 σ (fun (r : Int32) (σ' : ST) => (r, σ') = F_X11_said X σ a v1 v2 ∧ q_ow [(11, 0)] [] X σ σ')) 0 0 (q_reg X) := by
  refine q_met 8 (by first | exact rfl | decide +kernel) rfl (Nat.le_of_ble_eq_true rfl) (fun p e s m below meth c E hml hr hlk hI ls hl => ?_)
  have hx := E.1
  have hb := E.2.1
  have hl : lv_has ls 3 [(0, .ref a), (1, .int v1), (2, .int v2)] := hl
  have fr_σ : q_ow [(11, 0)] [] X σ σ := q_ow.rf
  obtain ⟨out, hout⟩ : ∃ o, o = F_X11_said X σ a v1 v2 := ⟨_, rfl⟩
  have hF := hout.symm
  unfold F_X11_said at hF
  refine lv_aload_n hx hb dX11_said_0 rfl (lv_at hl 0 rfl) ?_
  refine lv_iload_n hx hb dX11_said_1 rfl (lv_at hl 1 rfl) ?_
  refine q_ci (q_rV10_1 (rest := []) E (hml.trans hl.1.symm) hI (c_X11_isPlayer l X σ a v1 ha) kv_X11_219 ha ⟨Nat.le_of_ble_eq_true rfl, Nat.le_of_ble_eq_true rfl⟩ (Nat.le_of_ble_eq_true rfl) dX11_said_2) hI (Nat.le_of_ble_eq_true rfl) (fun r_1 σ_2 H locs hpσ_2 hkσ_2 hI => ?_)
  have ahpσ_2 := hpσ_2.1
  have bhpσ_2 := hpσ_2.2.1
  have chpσ_2 := hpσ_2.2.2
  clear hpσ_2
  replace hI := q_Irw ahpσ_2 hI
  replace hF := q_letX hF chpσ_2
  refine q_if_eq (A := r_1.toInt) E rfl (tgt := 16) dX11_said_5 (by decide) (fun c_3 => ?_) (fun c_3 => ?_)
  · skip
    replace hF := q_ifp hF c_3
    refine lv_aload_n hx hb dX11_said_16 rfl (lv_at hl 0 rfl) ?_
    refine lv_iconst (v := 2) hx hb dX11_said_17 zki_2 ?_
    have kc_4 : (2 : Int32).toInt = 2 := zt_2
    refine q_ci (q_rV10_1 (rest := []) E (hml.trans hl.1.symm) hI (c_X11_none l X σ a (2 : Int32) ha) kv_X11_109 ha ⟨Nat.le_of_ble_eq_true rfl, Nat.le_of_ble_eq_true rfl⟩ (Nat.le_of_ble_eq_true rfl) dX11_said_18) hI (Nat.le_of_ble_eq_true rfl) (fun r_5 σ_6 H locs hpσ_6 hkσ_6 hI => ?_)
    have ahpσ_6 := hpσ_6.1
    have bhpσ_6 := hpσ_6.2.1
    have chpσ_6 := hpσ_6.2.2
    clear hpσ_6
    have fr_σ_6 := fr_σ.call chpσ_6 rfl rfl
    replace hF := q_biX hF bhpσ_6
    exact q_reti E hr hlk hI ⟨(hF.trans hout), fr_σ_6⟩ dX11_said_21
  · skip
    replace hF := q_ifn hF c_3
    replace c_3 := q_ifOne bhpσ_2 c_3
    refine lv_aload_n hx hb dX11_said_8 rfl (lv_at hl 0 rfl) ?_
    refine lv_iload_n hx hb dX11_said_9 rfl (lv_at hl 2 rfl) ?_
    refine q_ci (q_rV10_1 (rest := []) E (hml.trans hl.1.symm) hI (c_X11_isKind l X σ a v2 ha) kv_X11_250 ha ⟨Nat.le_of_ble_eq_true rfl, Nat.le_of_ble_eq_true rfl⟩ (Nat.le_of_ble_eq_true rfl) dX11_said_10) hI (Nat.le_of_ble_eq_true rfl) (fun r_7 σ_8 H locs hpσ_8 hkσ_8 hI => ?_)
    have ahpσ_8 := hpσ_8.1
    have bhpσ_8 := hpσ_8.2.1
    have chpσ_8 := hpσ_8.2.2
    clear hpσ_8
    replace hI := q_Irw ahpσ_8 hI
    replace hF := q_letX hF chpσ_8
    refine q_if_ne (A := r_7.toInt) E rfl (tgt := 22) dX11_said_13 (by decide) (fun c_9 => ?_) (fun c_9 => ?_)
    · skip
      replace hF := q_ifn hF c_9
      replace c_9 := q_ifOne bhpσ_8 c_9
      refine lv_aload_n hx hb dX11_said_22 rfl (lv_at hl 0 rfl) ?_
      refine lv_aload_n hx hb dX11_said_23 rfl (lv_at hl 0 rfl) ?_
      refine gs_X11_42_11 E hI ha dX11_said_24 ?_
      refine gs_X11_201_1 E hI (q_tk (k' := 1) hI ha rfl (Nat.succ_ne_zero _)) dX11_said_27 ?_
      refine lv_iload_n hx hb dX11_said_30 rfl (lv_at hl 1 rfl) ?_
      refine lv_iload_n hx hb dX11_said_31 rfl (lv_at hl 2 rfl) ?_
      refine q_ci (q_rV2_2 (rest := [.ref a]) E (hml.trans hl.1.symm) hI (c_X2_timesSaid l X σ (q_rf X (q_rf X a 8) 2) v1 v2 (q_tk (k' := 3) hI (q_tk (k' := 1) hI ha rfl (Nat.succ_ne_zero _)) rfl (Nat.succ_ne_zero _))) kv_X11_345 (q_tk (k' := 3) hI (q_tk (k' := 1) hI ha rfl (Nat.succ_ne_zero _)) rfl (Nat.succ_ne_zero _)) ⟨Nat.le_of_ble_eq_true rfl, Nat.le_of_ble_eq_true rfl⟩ (Nat.le_of_ble_eq_true rfl) dX11_said_32) hI (Nat.le_of_ble_eq_true rfl) (fun r_10 σ_11 H locs hpσ_11 hkσ_11 hI => ?_)
      have ahpσ_11 := hpσ_11.1
      have bhpσ_11 := hpσ_11.2
      clear hpσ_11
      replace hI := q_Irw ahpσ_11 hI
      replace hF := q_letX hF bhpσ_11
      refine q_ci (q_rV10_1 (rest := []) E (hml.trans hl.1.symm) hI (c_X11_good l X σ a r_10 ha) kv_X11_156 ha ⟨Nat.le_of_ble_eq_true rfl, Nat.le_of_ble_eq_true rfl⟩ (Nat.le_of_ble_eq_true rfl) dX11_said_35) hI (Nat.le_of_ble_eq_true rfl) (fun r_12 σ_13 H locs hpσ_13 hkσ_13 hI => ?_)
      have ahpσ_13 := hpσ_13.1
      have bhpσ_13 := hpσ_13.2.1
      have chpσ_13 := hpσ_13.2.2
      clear hpσ_13
      have fr_σ_13 := fr_σ.call chpσ_13 rfl rfl
      replace hF := q_biX hF bhpσ_13
      exact q_reti E hr hlk hI ⟨(hF.trans hout), fr_σ_13⟩ dX11_said_38
    · skip
      replace hF := q_ifp hF c_9
      refine lv_aload_n hx hb dX11_said_16 rfl (lv_at hl 0 rfl) ?_
      refine lv_iconst (v := 2) hx hb dX11_said_17 zki_2 ?_
      have kc_14 : (2 : Int32).toInt = 2 := zt_2
      refine q_ci (q_rV10_1 (rest := []) E (hml.trans hl.1.symm) hI (c_X11_none l X σ a (2 : Int32) ha) kv_X11_109 ha ⟨Nat.le_of_ble_eq_true rfl, Nat.le_of_ble_eq_true rfl⟩ (Nat.le_of_ble_eq_true rfl) dX11_said_18) hI (Nat.le_of_ble_eq_true rfl) (fun r_15 σ_16 H locs hpσ_16 hkσ_16 hI => ?_)
      have ahpσ_16 := hpσ_16.1
      have bhpσ_16 := hpσ_16.2.1
      have chpσ_16 := hpσ_16.2.2
      clear hpσ_16
      have fr_σ_16 := fr_σ.call chpσ_16 rfl rfl
      replace hF := q_biX hF bhpσ_16
      exact q_reti E hr hlk hI ⟨(hF.trans hout), fr_σ_16⟩ dX11_said_21
end
/-! FROM 16.class.b04.lean.txt -/
section
set_option maxRecDepth 100000 in
set_option maxHeartbeats 4000000 in
theorem c_X11_waits (l : Launch) (X : XW) (σ : ST) (a : Nat) (v1 : Int32) (ha : q_kd X a = 11) : Met l yX11_waits (q_ws yX11_waits cX11_waits 2 (some .int)) (q_rm 3 66) (q_P X σ [.ref a, .int v1]) (q_Qi X 8 σ (fun (r : Int32) (σ' : ST) => (r, σ') = F_X11_waits X σ a v1 ∧ q_ow [(11, 0)] [] X σ σ')) 0 0 (q_reg X) := by
  refine q_met 8 (by first | exact rfl | decide +kernel) rfl (Nat.le_of_ble_eq_true rfl) (fun p e s m below meth c E hml hr hlk hI ls hl => ?_)
  have hx := E.1
  have hb := E.2.1
  have hl : lv_has ls 2 [(0, .ref a), (1, .int v1)] := hl
  have fr_σ : q_ow [(11, 0)] [] X σ σ := q_ow.rf
  obtain ⟨out, hout⟩ : ∃ o, o = F_X11_waits X σ a v1 := ⟨_, rfl⟩
  have hF := hout.symm
  unfold F_X11_waits at hF
  refine lv_aload_n hx hb dX11_waits_0 rfl (lv_at hl 0 rfl) ?_
  refine lv_iload_n hx hb dX11_waits_1 rfl (lv_at hl 1 rfl) ?_
  refine q_ci (q_rV10_1 (rest := []) E (hml.trans hl.1.symm) hI (c_X11_isPlayer l X σ a v1 ha) kv_X11_219 ha ⟨Nat.le_of_ble_eq_true rfl, Nat.le_of_ble_eq_true rfl⟩ (Nat.le_of_ble_eq_true rfl) dX11_waits_2) hI (Nat.le_of_ble_eq_true rfl) (fun r_1 σ_2 H locs hpσ_2 hkσ_2 hI => ?_)
  have ahpσ_2 := hpσ_2.1
  have bhpσ_2 := hpσ_2.2.1
  have chpσ_2 := hpσ_2.2.2
  clear hpσ_2
  replace hI := q_Irw ahpσ_2 hI
  replace hF := q_letX hF chpσ_2
  refine q_if_eq (A := r_1.toInt) E rfl (tgt := 23) dX11_waits_5 (by decide) (fun c_3 => ?_) (fun c_3 => ?_)
  · skip
    replace hF := q_ifp hF c_3
    refine lv_aload_n hx hb dX11_waits_23 rfl (lv_at hl 0 rfl) ?_
    refine lv_iconst (v := 2) hx hb dX11_waits_24 zki_2 ?_
    have kc_4 : (2 : Int32).toInt = 2 := zt_2
    refine q_ci (q_rV10_1 (rest := []) E (hml.trans hl.1.symm) hI (c_X11_none l X σ a (2 : Int32) ha) kv_X11_109 ha ⟨Nat.le_of_ble_eq_true rfl, Nat.le_of_ble_eq_true rfl⟩ (Nat.le_of_ble_eq_true rfl) dX11_waits_25) hI (Nat.le_of_ble_eq_true rfl) (fun r_5 σ_6 H locs hpσ_6 hkσ_6 hI => ?_)
    have ahpσ_6 := hpσ_6.1
    have bhpσ_6 := hpσ_6.2.1
    have chpσ_6 := hpσ_6.2.2
    clear hpσ_6
    have fr_σ_6 := fr_σ.call chpσ_6 rfl rfl
    replace hF := q_biX hF bhpσ_6
    exact q_reti E hr hlk hI ⟨(hF.trans hout), fr_σ_6⟩ dX11_waits_28
  · skip
    replace hF := q_ifn hF c_3
    replace c_3 := q_ifOne bhpσ_2 c_3
    refine lv_aload_n hx hb dX11_waits_8 rfl (lv_at hl 0 rfl) ?_
    refine lv_aload_n hx hb dX11_waits_9 rfl (lv_at hl 0 rfl) ?_
    refine gs_X11_42_11 E hI ha dX11_waits_10 ?_
    refine lv_iload_n hx hb dX11_waits_13 rfl (lv_at hl 1 rfl) ?_
    refine q_ci (q_rV0_1 (rest := [.ref a]) E (hml.trans hl.1.symm) hI (c_X0_turnsAhead l X σ (q_rf X a 8) v1 (q_tk (k' := 1) hI ha rfl (Nat.succ_ne_zero _))) kv_X11_348 (q_tk (k' := 1) hI ha rfl (Nat.succ_ne_zero _)) ⟨Nat.le_of_ble_eq_true rfl, Nat.le_of_ble_eq_true rfl⟩ (Nat.le_of_ble_eq_true rfl) dX11_waits_14) hI (Nat.le_of_ble_eq_true rfl) (fun r_7 σ_8 H locs hpσ_8 hkσ_8 hI => ?_)
    have ahpσ_8 := hpσ_8.1
    have bhpσ_8 := hpσ_8.2
    clear hpσ_8
    replace hI := q_Irw ahpσ_8 hI
    replace hF := q_letX hF bhpσ_8
    refine q_ci (q_rV10_1 (rest := []) E (hml.trans hl.1.symm) hI (c_X11_good l X σ a r_7 ha) kv_X11_156 ha ⟨Nat.le_of_ble_eq_true rfl, Nat.le_of_ble_eq_true rfl⟩ (Nat.le_of_ble_eq_true rfl) dX11_waits_17) hI (Nat.le_of_ble_eq_true rfl) (fun r_9 σ_10 H locs hpσ_10 hkσ_10 hI => ?_)
    have ahpσ_10 := hpσ_10.1
    have bhpσ_10 := hpσ_10.2.1
    have chpσ_10 := hpσ_10.2.2
    clear hpσ_10
    have fr_σ_10 := fr_σ.call chpσ_10 rfl rfl
    replace hF := q_biX hF bhpσ_10
    refine lv_goto (tgt := 28) hx hb dX11_waits_20 (by decide) ?_
    exact q_reti E hr hlk hI ⟨(hF.trans hout), fr_σ_10⟩ dX11_waits_28

set_option maxRecDepth 100000 in
set_option maxHeartbeats 4000000 in
theorem c_X11_forecastStatus (l : Launch) (X : XW) (σ : ST) (a : Nat) (v1 : Int32) (v2 : Int32) (ha : q_kd X a = 11) : Met l yX11_forecastStatus (q_ws yX11_forecastStatus cX11_forecastStatus 3 (some .int)) (q_rm 1 21) (q_P X σ [.ref a, .int v1, .int v2]) (q_Qi X 9 σ (fun (r : Int32) (σ' : ST) => σ' = σ ∧ r = F_X11_forecastStatus X σ a v1 v2)) 0 0 (q_reg X) := by
  refine q_met 9 (by first | exact rfl | decide +kernel) rfl (Nat.le_of_ble_eq_true rfl) (fun p e s m below meth c E hml hr hlk hI ls hl => ?_)
  have hx := E.1
  have hb := E.2.1
  have hl : lv_has ls 3 [(0, .ref a), (1, .int v1), (2, .int v2)] := hl
  obtain ⟨out, hout⟩ : ∃ o, o = F_X11_forecastStatus X σ a v1 v2 := ⟨_, rfl⟩
  have hF := hout.symm
  unfold F_X11_forecastStatus at hF
  refine lv_aload_n hx hb dX11_forecastStatus_0 rfl (lv_at hl 0 rfl) ?_
  refine lv_iload_n hx hb dX11_forecastStatus_1 rfl (lv_at hl 1 rfl) ?_
  refine q_ci (q_rV10_1 (rest := []) E (hml.trans hl.1.symm) hI (c_X11_isPlayer l X σ a v1 ha) kv_X11_219 ha ⟨Nat.le_of_ble_eq_true rfl, Nat.le_of_ble_eq_true rfl⟩ (Nat.le_of_ble_eq_true rfl) dX11_forecastStatus_2) hI (Nat.le_of_ble_eq_true rfl) (fun r_1 σ_2 H locs hpσ_2 hkσ_2 hI => ?_)
  have ahpσ_2 := hpσ_2.1
  have bhpσ_2 := hpσ_2.2.1
  have chpσ_2 := hpσ_2.2.2
  clear hpσ_2
  replace hI := q_Irw ahpσ_2 hI
  replace hF := q_letX hF chpσ_2
  refine q_if_ne (A := r_1.toInt) E rfl (tgt := 10) dX11_forecastStatus_5 (by decide) (fun c_3 => ?_) (fun c_3 => ?_)
  · skip
    replace hF := q_ifn hF c_3
    replace c_3 := q_ifOne bhpσ_2 c_3
    refine lv_iload_n hx hb dX11_forecastStatus_10 rfl (lv_at hl 2 rfl) ?_
    refine q_if_lt (A := v2.toInt) E rfl (tgt := 20) dX11_forecastStatus_11 (by decide) (fun c_4 => ?_) (fun c_4 => ?_)
    · skip
      replace hF := q_ifp hF c_4
      refine lv_iconst (v := 5) hx hb dX11_forecastStatus_20 zki_5 ?_
      refine lv_goto (tgt := 25) hx hb dX11_forecastStatus_21 (by decide) ?_
      exact q_reti E hr hlk hI ⟨rfl, (hF.trans hout)⟩ dX11_forecastStatus_25
    · skip
      replace hF := q_ifn hF (Int.not_lt.mpr c_4)
      refine lv_iload_n hx hb dX11_forecastStatus_14 rfl (lv_at hl 2 rfl) ?_
      refine lv_bipush (v := 60) hx hb dX11_forecastStatus_15 zkb_60 ?_
      refine q_icmp_le (A := v2.toInt) (B := 60) E rfl (by decide) (tgt := 24) dX11_forecastStatus_17 (by decide) (fun c_5 => ?_) (fun c_5 => ?_)
      · skip
        replace hF := q_ifn hF (Int.not_lt.mpr c_5)
        refine lv_iconst (v := 0) hx hb dX11_forecastStatus_24 zki_0 ?_
        exact q_reti E hr hlk hI ⟨rfl, (hF.trans hout)⟩ dX11_forecastStatus_25
      · skip
        replace hF := q_ifp hF c_5
        refine lv_iconst (v := 5) hx hb dX11_forecastStatus_20 zki_5 ?_
        refine lv_goto (tgt := 25) hx hb dX11_forecastStatus_21 (by decide) ?_
        exact q_reti E hr hlk hI ⟨rfl, (hF.trans hout)⟩ dX11_forecastStatus_25
  · skip
    replace hF := q_ifp hF c_3
    refine lv_iconst (v := 2) hx hb dX11_forecastStatus_8 zki_2 ?_
    exact q_reti E hr hlk hI ⟨rfl, (hF.trans hout)⟩ dX11_forecastStatus_9

set_option maxRecDepth 100000 in
set_option maxHeartbeats 4000000 in
theorem c_X11_falls (l : Launch) (X : XW) (σ : ST) (a : Nat) (v1 : Int32) (v2 : Int32) (ha : q_kd X a = 11) : Met l yX11_falls (q_ws yX11_falls cX11_falls 4 (some .int)) (q_rm 4 88) (q_P X σ [.ref a, .int v1, .int v2]) (q_Qi X 8 σ (fun (r : Int32) (σ' : ST) => (r, σ') = F_X11_falls X σ a v1 v2 ∧ q_ow [(11, 0)] [] X σ σ')) 0 0 (q_reg X) := by
  refine q_met 8 (by first | exact rfl | decide +kernel) rfl (Nat.le_of_ble_eq_true rfl) (fun p e s m below meth c E hml hr hlk hI ls hl => ?_)
  have hx := E.1
  have hb := E.2.1
  have hl : lv_has ls 4 [(0, .ref a), (1, .int v1), (2, .int v2)] := hl
  have fr_σ : q_ow [(11, 0)] [] X σ σ := q_ow.rf
  obtain ⟨out, hout⟩ : ∃ o, o = F_X11_falls X σ a v1 v2 := ⟨_, rfl⟩
  have hF := hout.symm
  unfold F_X11_falls at hF
  refine lv_aload_n hx hb dX11_falls_0 rfl (lv_at hl 0 rfl) ?_
  refine lv_iload_n hx hb dX11_falls_1 rfl (lv_at hl 1 rfl) ?_
  refine lv_iload_n hx hb dX11_falls_2 rfl (lv_at hl 2 rfl) ?_
  refine q_ci (q_rV10_2 (rest := []) E (hml.trans hl.1.symm) hI (c_X11_forecastStatus l X σ a v1 v2 ha) kv_X11_351 ha ⟨Nat.le_of_ble_eq_true rfl, Nat.le_of_ble_eq_true rfl⟩ (Nat.le_of_ble_eq_true rfl) dX11_falls_3) hI (Nat.le_of_ble_eq_true rfl) (fun r_1 σ_2 H locs hpσ_2 hkσ_2 hI => ?_)
  have ahpσ_2 := hpσ_2.1
  have bhpσ_2 := hpσ_2.2
  clear hpσ_2
  replace hI := q_Irw ahpσ_2 hI
  replace hF := q_letX hF bhpσ_2
  refine lv_istore_n (lv' := [(3, .int r_1), (0, .ref a), (1, .int v1), (2, .int v2)]) hx hb dX11_falls_6 rfl hl (by decide) rfl (fun ls hl => ?_)
  refine lv_iload_n hx hb dX11_falls_7 rfl (lv_at hl 0 rfl) ?_
  refine q_if_ne (A := r_1.toInt) E rfl (tgt := 27) dX11_falls_8 (by decide) (fun c_3 => ?_) (fun c_3 => ?_)
  · skip
    replace hF := q_ifn hF c_3
    refine lv_aload_n hx hb dX11_falls_27 rfl (lv_at hl 1 rfl) ?_
    refine lv_iload_n hx hb dX11_falls_28 rfl (lv_at hl 0 rfl) ?_
    refine q_ci (q_rV10_1 (rest := []) E (hml.trans hl.1.symm) hI (c_X11_none l X σ a r_1 ha) kv_X11_109 ha ⟨Nat.le_of_ble_eq_true rfl, Nat.le_of_ble_eq_true rfl⟩ (Nat.le_of_ble_eq_true rfl) dX11_falls_29) hI (Nat.le_of_ble_eq_true rfl) (fun r_4 σ_5 H locs hpσ_5 hkσ_5 hI => ?_)
    have ahpσ_5 := hpσ_5.1
    have bhpσ_5 := hpσ_5.2.1
    have chpσ_5 := hpσ_5.2.2
    clear hpσ_5
    have fr_σ_5 := fr_σ.call chpσ_5 rfl rfl
    replace hF := q_biX hF bhpσ_5
    exact q_reti E hr hlk hI ⟨(hF.trans hout), fr_σ_5⟩ dX11_falls_32
  · skip
    replace hF := q_ifp hF c_3
    refine lv_aload_n hx hb dX11_falls_11 rfl (lv_at hl 1 rfl) ?_
    refine lv_aload_n hx hb dX11_falls_12 rfl (lv_at hl 1 rfl) ?_
    refine gs_X11_42_11 E hI ha dX11_falls_13 ?_
    refine lv_iload_n hx hb dX11_falls_16 rfl (lv_at hl 2 rfl) ?_
    refine lv_iload_n hx hb dX11_falls_17 rfl (lv_at hl 3 rfl) ?_
    refine q_ci (q_rV0_2 (rest := [.ref a]) E (hml.trans hl.1.symm) hI (c_X0_fallingKind l X σ (q_rf X a 8) v1 v2 (q_tk (k' := 1) hI ha rfl (Nat.succ_ne_zero _))) kv_X11_354 (q_tk (k' := 1) hI ha rfl (Nat.succ_ne_zero _)) ⟨Nat.le_of_ble_eq_true rfl, Nat.le_of_ble_eq_true rfl⟩ (Nat.le_of_ble_eq_true rfl) dX11_falls_18) hI (Nat.le_of_ble_eq_true rfl) (fun r_6 σ_7 H locs hpσ_7 hkσ_7 hI => ?_)
    have ahpσ_7 := hpσ_7.1
    have bhpσ_7 := hpσ_7.2
    clear hpσ_7
    replace hI := q_Irw ahpσ_7 hI
    replace hF := q_letX hF bhpσ_7
    refine q_ci (q_rV10_1 (rest := []) E (hml.trans hl.1.symm) hI (c_X11_good l X σ a r_6 ha) kv_X11_156 ha ⟨Nat.le_of_ble_eq_true rfl, Nat.le_of_ble_eq_true rfl⟩ (Nat.le_of_ble_eq_true rfl) dX11_falls_21) hI (Nat.le_of_ble_eq_true rfl) (fun r_8 σ_9 H locs hpσ_9 hkσ_9 hI => ?_)
    have ahpσ_9 := hpσ_9.1
    have bhpσ_9 := hpσ_9.2.1
    have chpσ_9 := hpσ_9.2.2
    clear hpσ_9
    have fr_σ_9 := fr_σ.call chpσ_9 rfl rfl
    replace hF := q_biX hF bhpσ_9
    refine lv_goto (tgt := 32) hx hb dX11_falls_24 (by decide) ?_
    exact q_reti E hr hlk hI ⟨(hF.trans hout), fr_σ_9⟩ dX11_falls_32

set_option maxRecDepth 100000 in
set_option maxHeartbeats 4000000 in
theorem c_X11_honestly (l : Launch) (X : XW) (σ : ST) (a : Nat) (v1 : Int32) (v2 : Int32) (ha : q_kd X a = 11) : Met l yX11_honestly (q_ws yX11_honestly cX11_honestly 4 (some .int)) (q_rm 5 114) (q_P X σ [.ref a, .int v1, .int v2]) (q_Qi X 8 σ (fun (r : Int32) (σ' : ST) => (r, σ') = F_X11_honestly X σ a v1 v2 ∧ q_ow [(1, 11), (1, 12), (1, 13), (1, 14), (11, 0), (20, 99)] [] X σ σ')) 0 0 (q_reg X) := by
  refine q_met 8 (by first | exact rfl | decide +kernel) rfl (Nat.le_of_ble_eq_true rfl) (fun p e s m below meth c E hml hr hlk hI ls hl => ?_)
  have hx := E.1
  have hb := E.2.1
  have hl : lv_has ls 4 [(0, .ref a), (1, .int v1), (2, .int v2)] := hl
  have fr_σ : q_ow [(1, 11), (1, 12), (1, 13), (1, 14), (11, 0), (20, 99)] [] X σ σ := q_ow.rf
  obtain ⟨out, hout⟩ : ∃ o, o = F_X11_honestly X σ a v1 v2 := ⟨_, rfl⟩
  have hF := hout.symm
  unfold F_X11_honestly at hF
  refine lv_aload_n hx hb dX11_honestly_0 rfl (lv_at hl 0 rfl) ?_
  refine lv_iload_n hx hb dX11_honestly_1 rfl (lv_at hl 1 rfl) ?_
  refine lv_iload_n hx hb dX11_honestly_2 rfl (lv_at hl 2 rfl) ?_
  refine q_ci (q_rV10_2 (rest := []) E (hml.trans hl.1.symm) hI (c_X11_forecastStatus l X σ a v1 v2 ha) kv_X11_351 ha ⟨Nat.le_of_ble_eq_true rfl, Nat.le_of_ble_eq_true rfl⟩ (Nat.le_of_ble_eq_true rfl) dX11_honestly_3) hI (Nat.le_of_ble_eq_true rfl) (fun r_1 σ_2 H locs hpσ_2 hkσ_2 hI => ?_)
  have ahpσ_2 := hpσ_2.1
  have bhpσ_2 := hpσ_2.2
  clear hpσ_2
  replace hI := q_Irw ahpσ_2 hI
  replace hF := q_letX hF bhpσ_2
  refine lv_istore_n (lv' := [(3, .int r_1), (0, .ref a), (1, .int v1), (2, .int v2)]) hx hb dX11_honestly_6 rfl hl (by decide) rfl (fun ls hl => ?_)
  refine lv_iload_n hx hb dX11_honestly_7 rfl (lv_at hl 0 rfl) ?_
  refine q_if_eq (A := r_1.toInt) E rfl (tgt := 17) dX11_honestly_8 (by decide) (fun c_3 => ?_) (fun c_3 => ?_)
  · skip
    replace hF := q_ifp hF c_3
    refine lv_aload_n hx hb dX11_honestly_17 rfl (lv_at hl 1 rfl) ?_
    refine gs_X11_42_11 E hI ha dX11_honestly_18 ?_
    refine lv_iload_n hx hb dX11_honestly_21 rfl (lv_at hl 2 rfl) ?_
    refine lv_iload_n hx hb dX11_honestly_22 rfl (lv_at hl 3 rfl) ?_
    refine q_cv (q_rV0_2 (rest := []) E (hml.trans hl.1.symm) hI (c_X0_foresee l X σ (q_rf X a 8) v1 v2 (q_tk (k' := 1) hI ha rfl (Nat.succ_ne_zero _))) kv_X11_357 (q_tk (k' := 1) hI ha rfl (Nat.succ_ne_zero _)) ⟨Nat.le_of_ble_eq_true rfl, Nat.le_of_ble_eq_true rfl⟩ (Nat.le_of_ble_eq_true rfl) dX11_honestly_23) hI (Nat.le_of_ble_eq_true rfl) (fun σ_5 H locs hpσ_5 hkσ_5 hI => ?_)
    have ahpσ_5 := hpσ_5.1
    have bhpσ_5 := hpσ_5.2
    clear hpσ_5
    have fr_σ_5 := fr_σ.call bhpσ_5 rfl rfl
    replace hF := q_letX hF ahpσ_5
    refine lv_aload_n hx hb dX11_honestly_26 rfl (lv_at hl 1 rfl) ?_
    refine lv_aload_n hx hb dX11_honestly_27 rfl (lv_at hl 1 rfl) ?_
    refine gs_X11_42_11 E hI ha dX11_honestly_28 ?_
    refine gs_X11_360_1 E hI (q_tk (k' := 1) hI ha rfl (Nat.succ_ne_zero _)) dX11_honestly_31 ?_
    refine lv_topi (fun f_6 ef_6 => ?_)
    replace hF := q_letX hF ef_6
    refine q_ci (q_rV10_1 (rest := []) E (hml.trans hl.1.symm) hI (c_X11_good l X σ_5 a f_6 ha) kv_X11_156 ha ⟨Nat.le_of_ble_eq_true rfl, Nat.le_of_ble_eq_true rfl⟩ (Nat.le_of_ble_eq_true rfl) dX11_honestly_34) hI (Nat.le_of_ble_eq_true rfl) (fun r_7 σ_8 H locs hpσ_8 hkσ_8 hI => ?_)
    have ahpσ_8 := hpσ_8.1
    have bhpσ_8 := hpσ_8.2.1
    have chpσ_8 := hpσ_8.2.2
    clear hpσ_8
    have fr_σ_8 := fr_σ_5.call chpσ_8 rfl rfl
    replace hF := q_biX hF bhpσ_8
    exact q_reti E hr hlk hI ⟨(hF.trans hout), fr_σ_8⟩ dX11_honestly_37
  · skip
    replace hF := q_ifn hF c_3
    refine lv_aload_n hx hb dX11_honestly_11 rfl (lv_at hl 1 rfl) ?_
    refine lv_iload_n hx hb dX11_honestly_12 rfl (lv_at hl 0 rfl) ?_
    refine q_ci (q_rV10_1 (rest := []) E (hml.trans hl.1.symm) hI (c_X11_none l X σ a r_1 ha) kv_X11_109 ha ⟨Nat.le_of_ble_eq_true rfl, Nat.le_of_ble_eq_true rfl⟩ (Nat.le_of_ble_eq_true rfl) dX11_honestly_13) hI (Nat.le_of_ble_eq_true rfl) (fun r_9 σ_10 H locs hpσ_10 hkσ_10 hI => ?_)
    have ahpσ_10 := hpσ_10.1
    have bhpσ_10 := hpσ_10.2.1
    have chpσ_10 := hpσ_10.2.2
    clear hpσ_10
    have fr_σ_10 := fr_σ.call chpσ_10 rfl rfl
    replace hF := q_biX hF bhpσ_10
    exact q_reti E hr hlk hI ⟨(hF.trans hout), fr_σ_10⟩ dX11_honestly_16

set_option maxRecDepth 100000 in
set_option maxHeartbeats 4000000 in
theorem c_X11_goodOrNotThere (l : Launch) (X : XW) (σ : ST) (a : Nat) (v1 : Int32) (ha : q_kd X a = 11) : Met l yX11_goodOrNotThere (q_ws yX11_goodOrNotThere cX11_goodOrNotThere 2 (some .int)) (q_rm 1 21) (q_P X σ [.ref a, .int v1]) (q_Qi X 8 σ (fun (r : Int32) (σ' : ST) => (r, σ') = F_X11_goodOrNotThere X σ a v1 ∧ q_ow [(11, 0)] [] X σ σ')) 0 0 (q_reg X) := by
  refine q_met 8 (by first | exact rfl | decide +kernel) rfl (Nat.le_of_ble_eq_true rfl) (fun p e s m below meth c E hml hr hlk hI ls hl => ?_)
  have hx := E.1
  have hb := E.2.1
  have hl : lv_has ls 2 [(0, .ref a), (1, .int v1)] := hl
  have fr_σ : q_ow [(11, 0)] [] X σ σ := q_ow.rf
  obtain ⟨out, hout⟩ : ∃ o, o = F_X11_goodOrNotThere X σ a v1 := ⟨_, rfl⟩
  have hF := hout.symm
  unfold F_X11_goodOrNotThere at hF
  refine lv_iload_n hx hb dX11_goodOrNotThere_0 rfl (lv_at hl 1 rfl) ?_
  refine lv_iconst (v := (-1)) hx hb dX11_goodOrNotThere_1 zki_m1 ?_
  refine q_icmp_ne (A := v1.toInt) (B := (-1)) E rfl (by decide) (tgt := 14) dX11_goodOrNotThere_2 (by decide) (fun c_1 => ?_) (fun c_1 => ?_)
  · skip
    replace hF := q_ifn hF c_1
    refine lv_aload_n hx hb dX11_goodOrNotThere_14 rfl (lv_at hl 0 rfl) ?_
    refine lv_iload_n hx hb dX11_goodOrNotThere_15 rfl (lv_at hl 1 rfl) ?_
    refine q_ci (q_rV10_1 (rest := []) E (hml.trans hl.1.symm) hI (c_X11_good l X σ a v1 ha) kv_X11_156 ha ⟨Nat.le_of_ble_eq_true rfl, Nat.le_of_ble_eq_true rfl⟩ (Nat.le_of_ble_eq_true rfl) dX11_goodOrNotThere_16) hI (Nat.le_of_ble_eq_true rfl) (fun r_2 σ_3 H locs hpσ_3 hkσ_3 hI => ?_)
    have ahpσ_3 := hpσ_3.1
    have bhpσ_3 := hpσ_3.2.1
    have chpσ_3 := hpσ_3.2.2
    clear hpσ_3
    have fr_σ_3 := fr_σ.call chpσ_3 rfl rfl
    replace hF := q_biX hF bhpσ_3
    exact q_reti E hr hlk hI ⟨(hF.trans hout), fr_σ_3⟩ dX11_goodOrNotThere_19
  · skip
    replace hF := q_ifp hF c_1
    refine lv_aload_n hx hb dX11_goodOrNotThere_5 rfl (lv_at hl 0 rfl) ?_
    refine lv_bipush (v := 8) hx hb dX11_goodOrNotThere_6 zkb_8 ?_
    have kc_4 : (8 : Int32).toInt = 8 := zt_8
    refine q_ci (q_rV10_1 (rest := []) E (hml.trans hl.1.symm) hI (c_X11_none l X σ a (8 : Int32) ha) kv_X11_109 ha ⟨Nat.le_of_ble_eq_true rfl, Nat.le_of_ble_eq_true rfl⟩ (Nat.le_of_ble_eq_true rfl) dX11_goodOrNotThere_8) hI (Nat.le_of_ble_eq_true rfl) (fun r_5 σ_6 H locs hpσ_6 hkσ_6 hI => ?_)
    have ahpσ_6 := hpσ_6.1
    have bhpσ_6 := hpσ_6.2.1
    have chpσ_6 := hpσ_6.2.2
    clear hpσ_6
    have fr_σ_6 := fr_σ.call chpσ_6 rfl rfl
    replace hF := q_biX hF bhpσ_6
    refine lv_goto (tgt := 19) hx hb dX11_goodOrNotThere_11 (by decide) ?_
    exact q_reti E hr hlk hI ⟨(hF.trans hout), fr_σ_6⟩ dX11_goodOrNotThere_19

set_option maxRecDepth 100000 in
set_option maxHeartbeats 4000000 in
theorem c_X11_rid (l : Launch) (X : XW) (σ : ST) (a : Nat) (v1 : Int32) (ha : q_kd X a = 11) : Met l yX11_rid (q_ws yX11_rid cX11_rid 2 (some .int)) (q_rm 5 114) (q_P X σ [.ref a, .int v1]) (q_Qi X 8 σ (fun (r : Int32) (σ' : ST) => (r, σ') = F_X11_rid X σ a v1 ∧ q_ow [(1, 11), (1, 12), (1, 13), (1, 14), (11, 0), (20, 99)] [] X σ σ')) 0 0 (q_reg X) := by
  refine q_met 8 (by first | exact rfl | decide +kernel) rfl (Nat.le_of_ble_eq_true rfl) (fun p e s m below meth c E hml hr hlk hI ls hl => ?_)
  have hx := E.1
  have hb := E.2.1
  have hl : lv_has ls 2 [(0, .ref a), (1, .int v1)] := hl
  have fr_σ : q_ow [(1, 11), (1, 12), (1, 13), (1, 14), (11, 0), (20, 99)] [] X σ σ := q_ow.rf
  obtain ⟨out, hout⟩ : ∃ o, o = F_X11_rid X σ a v1 := ⟨_, rfl⟩
  have hF := hout.symm
  unfold F_X11_rid at hF
  refine lv_aload_n hx hb dX11_rid_0 rfl (lv_at hl 0 rfl) ?_
  refine lv_iload_n hx hb dX11_rid_1 rfl (lv_at hl 1 rfl) ?_
  refine q_ci (q_rV10_1 (rest := []) E (hml.trans hl.1.symm) hI (c_X11_isPlayer l X σ a v1 ha) kv_X11_219 ha ⟨Nat.le_of_ble_eq_true rfl, Nat.le_of_ble_eq_true rfl⟩ (Nat.le_of_ble_eq_true rfl) dX11_rid_2) hI (Nat.le_of_ble_eq_true rfl) (fun r_1 σ_2 H locs hpσ_2 hkσ_2 hI => ?_)
  have ahpσ_2 := hpσ_2.1
  have bhpσ_2 := hpσ_2.2.1
  have chpσ_2 := hpσ_2.2.2
  clear hpσ_2
  replace hI := q_Irw ahpσ_2 hI
  replace hF := q_letX hF chpσ_2
  refine q_if_ne (A := r_1.toInt) E rfl (tgt := 14) dX11_rid_5 (by decide) (fun c_3 => ?_) (fun c_3 => ?_)
  · skip
    replace hF := q_ifn hF c_3
    replace c_3 := q_ifOne bhpσ_2 c_3
    refine lv_aload_n hx hb dX11_rid_14 rfl (lv_at hl 0 rfl) ?_
    refine gs_X11_42_11 E hI ha dX11_rid_15 ?_
    refine lv_iload_n hx hb dX11_rid_18 rfl (lv_at hl 1 rfl) ?_
    refine lv_bipush (v := 60) hx hb dX11_rid_19 zkb_60 ?_
    have kc_4 : (60 : Int32).toInt = 60 := zt_60
    refine q_cv (q_rV0_2 (rest := []) E (hml.trans hl.1.symm) hI (c_X0_foresee l X σ (q_rf X a 8) v1 (60 : Int32) (q_tk (k' := 1) hI ha rfl (Nat.succ_ne_zero _))) kv_X11_357 (q_tk (k' := 1) hI ha rfl (Nat.succ_ne_zero _)) ⟨Nat.le_of_ble_eq_true rfl, Nat.le_of_ble_eq_true rfl⟩ (Nat.le_of_ble_eq_true rfl) dX11_rid_21) hI (Nat.le_of_ble_eq_true rfl) (fun σ_6 H locs hpσ_6 hkσ_6 hI => ?_)
    have ahpσ_6 := hpσ_6.1
    have bhpσ_6 := hpσ_6.2
    clear hpσ_6
    have fr_σ_6 := fr_σ.call bhpσ_6 rfl rfl
    replace hF := q_letX hF ahpσ_6
    refine lv_aload_n hx hb dX11_rid_24 rfl (lv_at hl 0 rfl) ?_
    refine lv_aload_n hx hb dX11_rid_25 rfl (lv_at hl 0 rfl) ?_
    refine gs_X11_42_11 E hI ha dX11_rid_26 ?_
    refine gs_X11_363_1 E hI (q_tk (k' := 1) hI ha rfl (Nat.succ_ne_zero _)) dX11_rid_29 ?_
    refine lv_topi (fun f_7 ef_7 => ?_)
    replace hF := q_letX hF ef_7
    refine q_ci (q_rV10_1 (rest := []) E (hml.trans hl.1.symm) hI (c_X11_goodOrNotThere l X σ_6 a f_7 ha) kv_X11_366 ha ⟨Nat.le_of_ble_eq_true rfl, Nat.le_of_ble_eq_true rfl⟩ (Nat.le_of_ble_eq_true rfl) dX11_rid_32) hI (Nat.le_of_ble_eq_true rfl) (fun r_8 σ_9 H locs hpσ_9 hkσ_9 hI => ?_)
    have ahpσ_9 := hpσ_9.1
    have bhpσ_9 := hpσ_9.2
    clear hpσ_9
    have fr_σ_9 := fr_σ_6.call bhpσ_9 rfl rfl
    replace hF := q_biX hF ahpσ_9
    exact q_reti E hr hlk hI ⟨(hF.trans hout), fr_σ_9⟩ dX11_rid_35
  · skip
    replace hF := q_ifp hF c_3
    refine lv_aload_n hx hb dX11_rid_8 rfl (lv_at hl 0 rfl) ?_
    refine lv_iconst (v := 2) hx hb dX11_rid_9 zki_2 ?_
    have kc_10 : (2 : Int32).toInt = 2 := zt_2
    refine q_ci (q_rV10_1 (rest := []) E (hml.trans hl.1.symm) hI (c_X11_none l X σ a (2 : Int32) ha) kv_X11_109 ha ⟨Nat.le_of_ble_eq_true rfl, Nat.le_of_ble_eq_true rfl⟩ (Nat.le_of_ble_eq_true rfl) dX11_rid_10) hI (Nat.le_of_ble_eq_true rfl) (fun r_11 σ_12 H locs hpσ_12 hkσ_12 hI => ?_)
    have ahpσ_12 := hpσ_12.1
    have bhpσ_12 := hpσ_12.2.1
    have chpσ_12 := hpσ_12.2.2
    clear hpσ_12
    have fr_σ_12 := fr_σ.call chpσ_12 rfl rfl
    replace hF := q_biX hF bhpσ_12
    exact q_reti E hr hlk hI ⟨(hF.trans hout), fr_σ_12⟩ dX11_rid_13

set_option maxRecDepth 100000 in
set_option maxHeartbeats 4000000 in
theorem c_X11_lastKind (l : Launch) (X : XW) (σ : ST) (a : Nat) (v1 : Int32) (ha : q_kd X a = 11) : Met l yX11_lastKind (q_ws yX11_lastKind cX11_lastKind 2 (some .int)) (q_rm 5 114) (q_P X σ [.ref a, .int v1]) (q_Qi X 8 σ (fun (r : Int32) (σ' : ST) => (r, σ') = F_X11_lastKind X σ a v1 ∧ q_ow [(1, 11), (1, 12), (1, 13), (1, 14), (11, 0), (20, 99)] [] X σ σ')) 0 0 (q_reg X) := by
  refine q_met 8 (by first | exact rfl | decide +kernel) rfl (Nat.le_of_ble_eq_true rfl) (fun p e s m below meth c E hml hr hlk hI ls hl => ?_)
  have hx := E.1
  have hb := E.2.1
  have hl : lv_has ls 2 [(0, .ref a), (1, .int v1)] := hl
  have fr_σ : q_ow [(1, 11), (1, 12), (1, 13), (1, 14), (11, 0), (20, 99)] [] X σ σ := q_ow.rf
  obtain ⟨out, hout⟩ : ∃ o, o = F_X11_lastKind X σ a v1 := ⟨_, rfl⟩
  have hF := hout.symm
  unfold F_X11_lastKind at hF
  refine lv_aload_n hx hb dX11_lastKind_0 rfl (lv_at hl 0 rfl) ?_
  refine lv_iload_n hx hb dX11_lastKind_1 rfl (lv_at hl 1 rfl) ?_
  refine q_ci (q_rV10_1 (rest := []) E (hml.trans hl.1.symm) hI (c_X11_isPlayer l X σ a v1 ha) kv_X11_219 ha ⟨Nat.le_of_ble_eq_true rfl, Nat.le_of_ble_eq_true rfl⟩ (Nat.le_of_ble_eq_true rfl) dX11_lastKind_2) hI (Nat.le_of_ble_eq_true rfl) (fun r_1 σ_2 H locs hpσ_2 hkσ_2 hI => ?_)
  have ahpσ_2 := hpσ_2.1
  have bhpσ_2 := hpσ_2.2.1
  have chpσ_2 := hpσ_2.2.2
  clear hpσ_2
  replace hI := q_Irw ahpσ_2 hI
  replace hF := q_letX hF chpσ_2
  refine q_if_ne (A := r_1.toInt) E rfl (tgt := 14) dX11_lastKind_5 (by decide) (fun c_3 => ?_) (fun c_3 => ?_)
  · skip
    replace hF := q_ifn hF c_3
    replace c_3 := q_ifOne bhpσ_2 c_3
    refine lv_aload_n hx hb dX11_lastKind_14 rfl (lv_at hl 0 rfl) ?_
    refine gs_X11_42_11 E hI ha dX11_lastKind_15 ?_
    refine lv_iload_n hx hb dX11_lastKind_18 rfl (lv_at hl 1 rfl) ?_
    refine lv_bipush (v := 60) hx hb dX11_lastKind_19 zkb_60 ?_
    have kc_4 : (60 : Int32).toInt = 60 := zt_60
    refine q_cv (q_rV0_2 (rest := []) E (hml.trans hl.1.symm) hI (c_X0_foresee l X σ (q_rf X a 8) v1 (60 : Int32) (q_tk (k' := 1) hI ha rfl (Nat.succ_ne_zero _))) kv_X11_357 (q_tk (k' := 1) hI ha rfl (Nat.succ_ne_zero _)) ⟨Nat.le_of_ble_eq_true rfl, Nat.le_of_ble_eq_true rfl⟩ (Nat.le_of_ble_eq_true rfl) dX11_lastKind_21) hI (Nat.le_of_ble_eq_true rfl) (fun σ_6 H locs hpσ_6 hkσ_6 hI => ?_)
    have ahpσ_6 := hpσ_6.1
    have bhpσ_6 := hpσ_6.2
    clear hpσ_6
    have fr_σ_6 := fr_σ.call bhpσ_6 rfl rfl
    replace hF := q_letX hF ahpσ_6
    refine lv_aload_n hx hb dX11_lastKind_24 rfl (lv_at hl 0 rfl) ?_
    refine lv_aload_n hx hb dX11_lastKind_25 rfl (lv_at hl 0 rfl) ?_
    refine gs_X11_42_11 E hI ha dX11_lastKind_26 ?_
    refine gs_X11_363_1 E hI (q_tk (k' := 1) hI ha rfl (Nat.succ_ne_zero _)) dX11_lastKind_29 ?_
    refine lv_topi (fun f_7 ef_7 => ?_)
    replace hF := q_letX hF ef_7
    refine lv_iconst (v := (-1)) hx hb dX11_lastKind_32 zki_m1 ?_
    refine q_icmp_ne (A := f_7.toInt) (B := (-1)) E rfl (by decide) (tgt := 40) dX11_lastKind_33 (by decide) (fun c_8 => ?_) (fun c_8 => ?_)
    · skip
      replace hF := q_ifn hF c_8
      refine lv_aload_n hx hb dX11_lastKind_40 rfl (lv_at hl 0 rfl) ?_
      refine gs_X11_42_11 E hI ha dX11_lastKind_41 ?_
      refine gs_X11_369_1 E hI (q_tk (k' := 1) hI ha rfl (Nat.succ_ne_zero _)) dX11_lastKind_44 ?_
      refine lv_topi (fun f_9 ef_9 => ?_)
      replace hF := q_letX hF ef_9
      refine q_ci (q_rV10_1 (rest := []) E (hml.trans hl.1.symm) hI (c_X11_goodOrNotThere l X σ_6 a f_9 ha) kv_X11_366 ha ⟨Nat.le_of_ble_eq_true rfl, Nat.le_of_ble_eq_true rfl⟩ (Nat.le_of_ble_eq_true rfl) dX11_lastKind_47) hI (Nat.le_of_ble_eq_true rfl) (fun r_10 σ_11 H locs hpσ_11 hkσ_11 hI => ?_)
      have ahpσ_11 := hpσ_11.1
      have bhpσ_11 := hpσ_11.2
      clear hpσ_11
      have fr_σ_11 := fr_σ_6.call bhpσ_11 rfl rfl
      replace hF := q_biX hF ahpσ_11
      exact q_reti E hr hlk hI ⟨(hF.trans hout), fr_σ_11⟩ dX11_lastKind_50
    · skip
      replace hF := q_ifp hF c_8
      refine lv_iconst (v := (-1)) hx hb dX11_lastKind_36 zki_m1 ?_
      refine lv_goto (tgt := 47) hx hb dX11_lastKind_37 (by decide) ?_
      have kc_12 : ((-1) : Int32).toInt = (-1) := zt_m1
      refine q_ci (q_rV10_1 (rest := []) E (hml.trans hl.1.symm) hI (c_X11_goodOrNotThere l X σ_6 a ((-1) : Int32) ha) kv_X11_366 ha ⟨Nat.le_of_ble_eq_true rfl, Nat.le_of_ble_eq_true rfl⟩ (Nat.le_of_ble_eq_true rfl) dX11_lastKind_47) hI (Nat.le_of_ble_eq_true rfl) (fun r_13 σ_14 H locs hpσ_14 hkσ_14 hI => ?_)
      have ahpσ_14 := hpσ_14.1
      have bhpσ_14 := hpσ_14.2
      clear hpσ_14
      have fr_σ_14 := fr_σ_6.call bhpσ_14 rfl rfl
      replace hF := q_biX hF ahpσ_14
      exact q_reti E hr hlk hI ⟨(hF.trans hout), fr_σ_14⟩ dX11_lastKind_50
  · skip
    replace hF := q_ifp hF c_3
    refine lv_aload_n hx hb dX11_lastKind_8 rfl (lv_at hl 0 rfl) ?_
    refine lv_iconst (v := 2) hx hb dX11_lastKind_9 zki_2 ?_
    have kc_15 : (2 : Int32).toInt = 2 := zt_2
    refine q_ci (q_rV10_1 (rest := []) E (hml.trans hl.1.symm) hI (c_X11_none l X σ a (2 : Int32) ha) kv_X11_109 ha ⟨Nat.le_of_ble_eq_true rfl, Nat.le_of_ble_eq_true rfl⟩ (Nat.le_of_ble_eq_true rfl) dX11_lastKind_10) hI (Nat.le_of_ble_eq_true rfl) (fun r_16 σ_17 H locs hpσ_17 hkσ_17 hI => ?_)
    have ahpσ_17 := hpσ_17.1
    have bhpσ_17 := hpσ_17.2.1
    have chpσ_17 := hpσ_17.2.2
    clear hpσ_17
    have fr_σ_17 := fr_σ.call chpσ_17 rfl rfl
    replace hF := q_biX hF bhpσ_17
    exact q_reti E hr hlk hI ⟨(hF.trans hout), fr_σ_17⟩ dX11_lastKind_13

set_option maxRecDepth 100000 in
set_option maxHeartbeats 4000000 in
theorem c_X11_mustLie (l : Launch) (X : XW) (σ : ST) (a : Nat) (v1 : Int32) (ha : q_kd X a = 11) : Met l yX11_mustLie (q_ws yX11_mustLie cX11_mustLie 2 (some .int)) (q_rm 5 114) (q_P X σ [.ref a, .int v1]) (q_Qi X 8 σ (fun (r : Int32) (σ' : ST) => (r, σ') = F_X11_mustLie X σ a v1 ∧ q_ow [(1, 11), (1, 12), (1, 13), (1, 14), (11, 0), (20, 99)] [] X σ σ')) 0 0 (q_reg X) := by
  refine q_met 8 (by first | exact rfl | decide +kernel) rfl (Nat.le_of_ble_eq_true rfl) (fun p e s m below meth c E hml hr hlk hI ls hl => ?_)
  have hx := E.1
  have hb := E.2.1
  have hl : lv_has ls 2 [(0, .ref a), (1, .int v1)] := hl
  have fr_σ : q_ow [(1, 11), (1, 12), (1, 13), (1, 14), (11, 0), (20, 99)] [] X σ σ := q_ow.rf
  obtain ⟨out, hout⟩ : ∃ o, o = F_X11_mustLie X σ a v1 := ⟨_, rfl⟩
  have hF := hout.symm
  unfold F_X11_mustLie at hF
  refine lv_aload_n hx hb dX11_mustLie_0 rfl (lv_at hl 0 rfl) ?_
  refine lv_iload_n hx hb dX11_mustLie_1 rfl (lv_at hl 1 rfl) ?_
  refine q_ci (q_rV10_1 (rest := []) E (hml.trans hl.1.symm) hI (c_X11_isPlayer l X σ a v1 ha) kv_X11_219 ha ⟨Nat.le_of_ble_eq_true rfl, Nat.le_of_ble_eq_true rfl⟩ (Nat.le_of_ble_eq_true rfl) dX11_mustLie_2) hI (Nat.le_of_ble_eq_true rfl) (fun r_1 σ_2 H locs hpσ_2 hkσ_2 hI => ?_)
  have ahpσ_2 := hpσ_2.1
  have bhpσ_2 := hpσ_2.2.1
  have chpσ_2 := hpσ_2.2.2
  clear hpσ_2
  replace hI := q_Irw ahpσ_2 hI
  replace hF := q_letX hF chpσ_2
  refine q_if_ne (A := r_1.toInt) E rfl (tgt := 14) dX11_mustLie_5 (by decide) (fun c_3 => ?_) (fun c_3 => ?_)
  · skip
    replace hF := q_ifn hF c_3
    replace c_3 := q_ifOne bhpσ_2 c_3
    refine lv_aload_n hx hb dX11_mustLie_14 rfl (lv_at hl 0 rfl) ?_
    refine gs_X11_42_11 E hI ha dX11_mustLie_15 ?_
    refine lv_iload_n hx hb dX11_mustLie_18 rfl (lv_at hl 1 rfl) ?_
    refine lv_bipush (v := 60) hx hb dX11_mustLie_19 zkb_60 ?_
    have kc_4 : (60 : Int32).toInt = 60 := zt_60
    refine q_cv (q_rV0_2 (rest := []) E (hml.trans hl.1.symm) hI (c_X0_foresee l X σ (q_rf X a 8) v1 (60 : Int32) (q_tk (k' := 1) hI ha rfl (Nat.succ_ne_zero _))) kv_X11_357 (q_tk (k' := 1) hI ha rfl (Nat.succ_ne_zero _)) ⟨Nat.le_of_ble_eq_true rfl, Nat.le_of_ble_eq_true rfl⟩ (Nat.le_of_ble_eq_true rfl) dX11_mustLie_21) hI (Nat.le_of_ble_eq_true rfl) (fun σ_6 H locs hpσ_6 hkσ_6 hI => ?_)
    have ahpσ_6 := hpσ_6.1
    have bhpσ_6 := hpσ_6.2
    clear hpσ_6
    have fr_σ_6 := fr_σ.call bhpσ_6 rfl rfl
    replace hF := q_letX hF ahpσ_6
    refine lv_aload_n hx hb dX11_mustLie_24 rfl (lv_at hl 0 rfl) ?_
    refine lv_aload_n hx hb dX11_mustLie_25 rfl (lv_at hl 0 rfl) ?_
    refine gs_X11_42_11 E hI ha dX11_mustLie_26 ?_
    refine gs_X11_372_1 E hI (q_tk (k' := 1) hI ha rfl (Nat.succ_ne_zero _)) dX11_mustLie_29 ?_
    refine lv_topi (fun f_7 ef_7 => ?_)
    replace hF := q_letX hF ef_7
    refine q_ci (q_rV10_1 (rest := []) E (hml.trans hl.1.symm) hI (c_X11_goodOrNotThere l X σ_6 a f_7 ha) kv_X11_366 ha ⟨Nat.le_of_ble_eq_true rfl, Nat.le_of_ble_eq_true rfl⟩ (Nat.le_of_ble_eq_true rfl) dX11_mustLie_32) hI (Nat.le_of_ble_eq_true rfl) (fun r_8 σ_9 H locs hpσ_9 hkσ_9 hI => ?_)
    have ahpσ_9 := hpσ_9.1
    have bhpσ_9 := hpσ_9.2
    clear hpσ_9
    have fr_σ_9 := fr_σ_6.call bhpσ_9 rfl rfl
    replace hF := q_biX hF ahpσ_9
    exact q_reti E hr hlk hI ⟨(hF.trans hout), fr_σ_9⟩ dX11_mustLie_35
  · skip
    replace hF := q_ifp hF c_3
    refine lv_aload_n hx hb dX11_mustLie_8 rfl (lv_at hl 0 rfl) ?_
    refine lv_iconst (v := 2) hx hb dX11_mustLie_9 zki_2 ?_
    have kc_10 : (2 : Int32).toInt = 2 := zt_2
    refine q_ci (q_rV10_1 (rest := []) E (hml.trans hl.1.symm) hI (c_X11_none l X σ a (2 : Int32) ha) kv_X11_109 ha ⟨Nat.le_of_ble_eq_true rfl, Nat.le_of_ble_eq_true rfl⟩ (Nat.le_of_ble_eq_true rfl) dX11_mustLie_10) hI (Nat.le_of_ble_eq_true rfl) (fun r_11 σ_12 H locs hpσ_12 hkσ_12 hI => ?_)
    have ahpσ_12 := hpσ_12.1
    have bhpσ_12 := hpσ_12.2.1
    have chpσ_12 := hpσ_12.2.2
    clear hpσ_12
    have fr_σ_12 := fr_σ.call chpσ_12 rfl rfl
    replace hF := q_biX hF bhpσ_12
    exact q_reti E hr hlk hI ⟨(hF.trans hout), fr_σ_12⟩ dX11_mustLie_13

set_option maxRecDepth 100000 in
set_option maxHeartbeats 4000000 in
theorem c_X11_soonest (l : Launch) (X : XW) (σ : ST) (a : Nat) (ha : q_kd X a = 11) : Met l yX11_soonest (q_ws yX11_soonest cX11_soonest 4 (some .int)) (q_rm 5 114) (q_P X σ [.ref a]) (q_Qi X 8 σ (fun (r : Int32) (σ' : ST) => (r, σ') = F_X11_soonest X σ a ∧ q_ow [(1, 11), (1, 12), (1, 13), (1, 14), (11, 0), (20, 99)] [] X σ σ')) 0 0 (q_reg X) := by
  refine q_met 8 (by first | exact rfl | decide +kernel) rfl (Nat.le_of_ble_eq_true rfl) (fun p e s m below meth c E hml hr hlk hI ls hl => ?_)
  have hx := E.1
  have hb := E.2.1
  have hl : lv_has ls 4 [(0, .ref a)] := hl
  have fr_σ : q_ow [(1, 11), (1, 12), (1, 13), (1, 14), (11, 0), (20, 99)] [] X σ σ := q_ow.rf
  obtain ⟨out, hout⟩ : ∃ o, o = F_X11_soonest X σ a := ⟨_, rfl⟩
  have hF := hout.symm
  unfold F_X11_soonest at hF
  refine lv_iconst (v := (-1)) hx hb dX11_soonest_0 zki_m1 ?_
  refine lv_istore_n (lv' := [(1, .int (-1)), (0, .ref a)]) hx hb dX11_soonest_1 rfl hl (by decide) rfl (fun ls hl => ?_)
  refine lv_bipush (v := 61) hx hb dX11_soonest_2 zkb_61 ?_
  refine lv_istore_n (lv' := [(2, .int 61), (1, .int (-1)), (0, .ref a)]) hx hb dX11_soonest_4 rfl hl (by decide) rfl (fun ls hl => ?_)
  refine lv_iconst (v := 0) hx hb dX11_soonest_5 zki_0 ?_
  refine lv_istore_n (lv' := [(3, .int 0), (2, .int 61), (1, .int (-1)), (0, .ref a)]) hx hb dX11_soonest_6 rfl hl (by decide) rfl (fun ls hl => ?_)
  have L_7_5 : ∀ (k_5 : Nat) (x_1 : Int32) (x_2 : Int32) (x_3 : Int32) (σ_4 : ST) (H : Heap) (locs : List Loc) (ls : Array Slot), (2147483647 - x_3.toInt).toNat < k_5 → (0 ≤ x_3.toInt) → (q_ow [(1, 11), (1, 12), (1, 13), (1, 14), (11, 0), (20, 99)] [] X σ σ_4) → (F_X11_soonest_L7_1 X a k_5 x_1 x_2 x_3 σ_4 = out) → q_I X 8 σ s.heap locs σ_4 H → lv_has ls 4 [(0, .ref a), (1, .int x_1), (2, .int x_2), (3, .int x_3)] → W p l e (q_rm 5 114) s m ([.ref a] : List Value).toArray below meth c H locs 0 0 (MQ below (q_Qi X 8 σ (fun (r : Int32) (σ' : ST) => (r, σ') = F_X11_soonest X σ a ∧ q_ow [(1, 11), (1, 12), (1, 13), (1, 14), (11, 0), (20, 99)] [] X σ σ')) ([.ref a] : List Value).toArray s 0 0 (q_reg X)) (F0 m 7 ls []) := by
    clear hF
    intro k_5
    induction k_5 with
    | zero =>
      intro x_1 x_2 x_3 σ_4 H locs ls hms
      exact absurd hms (Nat.not_lt_zero _)
    | succ k_5 ih7 =>
      intro x_1 x_2 x_3 σ_4 H locs ls hm7 hge7 fr_σ_4 hF hI hl
      replace hF := (F_X11_soonest_L7_1_s).symm.trans hF
      unfold F_X11_soonest_B7_1 at hF
      refine lv_iload_n hx hb dX11_soonest_7 rfl (lv_at hl 3 rfl) ?_
      refine lv_aload_n hx hb dX11_soonest_8 rfl (lv_at hl 0 rfl) ?_
      refine gs_X11_42_11 E hI ha dX11_soonest_9 ?_
      refine gs_X11_147_1 E hI (q_tk (k' := 1) hI ha rfl (Nat.succ_ne_zero _)) dX11_soonest_12 ?_
      refine gs_X11_151_6 E hI (q_tk (k' := 6) hI (q_tk (k' := 1) hI ha rfl (Nat.succ_ne_zero _)) rfl (Nat.succ_ne_zero _)) dX11_soonest_15 ?_
      refine lv_topi (fun f_6 ef_6 => ?_)
      replace hF := q_letX hF ef_6
      have gc_7_x_3 := q_rng x_3
      have gc_7_f_6 := q_rng f_6
      refine q_icmp_ge (A := x_3.toInt) (B := f_6.toInt) E rfl rfl (tgt := 69) dX11_soonest_18 (by decide) (fun c_7 => ?_) (fun c_7 => ?_)
      · skip
        replace hF := q_ifn hF (Int.not_lt.mpr c_7)
        unfold F_X11_soonest_E69_2 at hF
        refine lv_aload_n hx hb dX11_soonest_69 rfl (lv_at hl 0 rfl) ?_
        refine lv_iload_n hx hb dX11_soonest_70 rfl (lv_at hl 1 rfl) ?_
        refine q_ci (q_rV10_1 (rest := []) E (hml.trans hl.1.symm) hI (c_X11_goodOrNotThere l X σ_4 a x_1 ha) kv_X11_366 ha ⟨Nat.le_of_ble_eq_true rfl, Nat.le_of_ble_eq_true rfl⟩ (Nat.le_of_ble_eq_true rfl) dX11_soonest_71) hI (Nat.le_of_ble_eq_true rfl) (fun r_8 σ_9 H locs hpσ_9 hkσ_9 hI => ?_)
        have ahpσ_9 := hpσ_9.1
        have bhpσ_9 := hpσ_9.2
        clear hpσ_9
        have fr_σ_9 := fr_σ_4.call bhpσ_9 rfl rfl
        replace hF := q_biX hF ahpσ_9
        exact q_reti E hr hlk hI ⟨(hF.trans hout), fr_σ_9⟩ dX11_soonest_74
      · skip
        replace hF := q_ifp hF c_7
        refine lv_aload_n hx hb dX11_soonest_21 rfl (lv_at hl 0 rfl) ?_
        refine gs_X11_42_11 E hI ha dX11_soonest_22 ?_
        refine lv_iload_n hx hb dX11_soonest_25 rfl (lv_at hl 3 rfl) ?_
        refine lv_bipush (v := 60) hx hb dX11_soonest_26 zkb_60 ?_
        have kc_10 : (60 : Int32).toInt = 60 := zt_60
        refine q_cv (q_rV0_2 (rest := []) E (hml.trans hl.1.symm) hI (c_X0_foresee l X σ_4 (q_rf X a 8) x_3 (60 : Int32) (q_tk (k' := 1) hI ha rfl (Nat.succ_ne_zero _))) kv_X11_357 (q_tk (k' := 1) hI ha rfl (Nat.succ_ne_zero _)) ⟨Nat.le_of_ble_eq_true rfl, Nat.le_of_ble_eq_true rfl⟩ (Nat.le_of_ble_eq_true rfl) dX11_soonest_28) hI (Nat.le_of_ble_eq_true rfl) (fun σ_12 H locs hpσ_12 hkσ_12 hI => ?_)
        have ahpσ_12 := hpσ_12.1
        have bhpσ_12 := hpσ_12.2
        clear hpσ_12
        have fr_σ_12 := fr_σ_4.call bhpσ_12 rfl rfl
        replace hF := q_letX hF ahpσ_12
        refine lv_aload_n hx hb dX11_soonest_31 rfl (lv_at hl 0 rfl) ?_
        refine gs_X11_42_11 E hI ha dX11_soonest_32 ?_
        refine gs_X11_363_1 E hI (q_tk (k' := 1) hI ha rfl (Nat.succ_ne_zero _)) dX11_soonest_35 ?_
        refine lv_topi (fun f_13 ef_13 => ?_)
        replace hF := q_letX hF ef_13
        refine lv_iconst (v := (-1)) hx hb dX11_soonest_38 zki_m1 ?_
        have gc_14_f_13 := q_rng f_13
        refine q_icmp_eq (A := f_13.toInt) (B := (-1)) E rfl (by decide) (tgt := 63) dX11_soonest_39 (by decide) (fun c_14 => ?_) (fun c_14 => ?_)
        · skip
          replace hF := q_ifp hF c_14
          obtain ⟨z_15, ez_15⟩ : ∃ y : Int32, y = x_3 + 1 := ⟨_, rfl⟩
          replace hF := q_letX hF ez_15
          refine lv_iinc (v := z_15) (lv' := [(3, .int z_15), (0, .ref a), (1, .int x_1), (2, .int x_2)]) hx hb dX11_soonest_63 hl (k := 3) rfl (by rw [ez_15]; rfl) (by decide) rfl (fun ls hl => ?_)
          have iz_15 : z_15.toInt = x_3.toInt + 1 := q_inc ez_15 (by omega)
          refine lv_goto (tgt := 7) hx hb dX11_soonest_66 (by decide) ?_
          exact ih7 x_1 x_2 z_15 σ_12 _ _ ls (by omega) (by omega) fr_σ_12 hF hI (lv_sub hl [1, 2, 3, 0] rfl)
        · skip
          replace hF := q_ifn hF c_14
          refine lv_aload_n hx hb dX11_soonest_42 rfl (lv_at hl 0 rfl) ?_
          refine gs_X11_42_11 E hI ha dX11_soonest_43 ?_
          refine gs_X11_363_1 E hI (q_tk (k' := 1) hI ha rfl (Nat.succ_ne_zero _)) dX11_soonest_46 ?_
          refine lv_topi (fun f_16 ef_16 => ?_)
          replace hF := q_letX hF ef_16
          refine lv_iload_n hx hb dX11_soonest_49 rfl (lv_at hl 2 rfl) ?_
          have gc_17_f_16 := q_rng f_16
          have gc_17_x_2 := q_rng x_2
          refine q_icmp_ge (A := f_16.toInt) (B := x_2.toInt) E rfl rfl (tgt := 63) dX11_soonest_50 (by decide) (fun c_17 => ?_) (fun c_17 => ?_)
          · skip
            replace hF := q_ifn hF (Int.not_lt.mpr c_17)
            obtain ⟨z_18, ez_18⟩ : ∃ y : Int32, y = x_3 + 1 := ⟨_, rfl⟩
            replace hF := q_letX hF ez_18
            refine lv_iinc (v := z_18) (lv' := [(3, .int z_18), (0, .ref a), (1, .int x_1), (2, .int x_2)]) hx hb dX11_soonest_63 hl (k := 3) rfl (by rw [ez_18]; rfl) (by decide) rfl (fun ls hl => ?_)
            have iz_18 : z_18.toInt = x_3.toInt + 1 := q_inc ez_18 (by first | (clear hm7 kc_10 ahpσ_12 bhpσ_12 gc_14_f_13 c_14 gc_17_f_16 gc_17_x_2 c_17; omega) | omega)
            refine lv_goto (tgt := 7) hx hb dX11_soonest_66 (by decide) ?_
            exact ih7 x_1 x_2 z_18 σ_12 _ _ ls (by first | (clear kc_10 ahpσ_12 bhpσ_12 gc_14_f_13 gc_17_f_16 gc_17_x_2 c_17; omega) | omega) (by omega) fr_σ_12 hF hI (lv_sub hl [1, 2, 3, 0] rfl)
          · skip
            replace hF := q_ifp hF c_17
            refine lv_aload_n hx hb dX11_soonest_53 rfl (lv_at hl 0 rfl) ?_
            refine gs_X11_42_11 E hI ha dX11_soonest_54 ?_
            refine gs_X11_363_1 E hI (q_tk (k' := 1) hI ha rfl (Nat.succ_ne_zero _)) dX11_soonest_57 ?_
            refine lv_topi (fun f_19 ef_19 => ?_)
            replace hF := q_letX hF ef_19
            refine lv_istore_n (lv' := [(2, .int f_19), (0, .ref a), (1, .int x_1), (3, .int x_3)]) hx hb dX11_soonest_60 rfl hl (by decide) rfl (fun ls hl => ?_)
            refine lv_iload_n hx hb dX11_soonest_61 rfl (lv_at hl 3 rfl) ?_
            refine lv_istore_n (lv' := [(1, .int x_3), (2, .int f_19), (0, .ref a), (3, .int x_3)]) hx hb dX11_soonest_62 rfl hl (by decide) rfl (fun ls hl => ?_)
            obtain ⟨z_20, ez_20⟩ : ∃ y : Int32, y = x_3 + 1 := ⟨_, rfl⟩
            replace hF := q_letX hF ez_20
            refine lv_iinc (v := z_20) (lv' := [(3, .int z_20), (1, .int x_3), (2, .int f_19), (0, .ref a)]) hx hb dX11_soonest_63 hl (k := 3) rfl (by rw [ez_20]; rfl) (by decide) rfl (fun ls hl => ?_)
            have iz_20 : z_20.toInt = x_3.toInt + 1 := q_inc ez_20 (by first | (clear hm7 kc_10 ahpσ_12 bhpσ_12 gc_14_f_13 c_14 gc_17_f_16 gc_17_x_2 c_17; omega) | omega)
            refine lv_goto (tgt := 7) hx hb dX11_soonest_66 (by decide) ?_
            exact ih7 x_3 f_19 z_20 σ_12 _ _ ls (by first | (clear kc_10 ahpσ_12 bhpσ_12 gc_14_f_13 gc_17_f_16 gc_17_x_2 c_17; omega) | omega) (by omega) fr_σ_12 hF hI (lv_sub hl [3, 1, 2, 0] rfl)
  exact L_7_5 ((2147483647 - (0 : Int32).toInt).toNat + 1) (-1) 61 0 σ _ _ ls (Nat.lt_succ_self _) (by decide) fr_σ hF hI (lv_sub hl [3, 2, 1, 0] rfl)

set_option maxRecDepth 100000 in
set_option maxHeartbeats 4000000 in
theorem c_X11_best (l : Launch) (X : XW) (σ : ST) (a : Nat) (v1 : Int32) (v2 : Int32) (ha : q_kd X a = 11) : Met l yX11_best (q_ws yX11_best cX11_best 11 (some .int)) (q_rm 2 52) (q_P X σ [.ref a, .int v1, .int v2]) (q_Qi X 8 σ (fun (r : Int32) (σ' : ST) => (r, σ') = F_X11_best X σ a v1 v2 ∧ q_ow [(11, 0)] [(11, 1), (11, 2)] X σ σ')) 0 0 (q_reg X) := by
  refine q_met 8 (by first | exact rfl | decide +kernel) rfl (Nat.le_of_ble_eq_true rfl) (fun p e s m below meth c E hml hr hlk hI ls hl => ?_)
  have hx := E.1
  have hb := E.2.1
  have hl : lv_has ls 11 [(0, .ref a), (1, .int v1), (2, .int v2)] := hl
  have fr_σ : q_ow [(11, 0)] [(11, 1), (11, 2)] X σ σ := q_ow.rf
  obtain ⟨out, hout⟩ : ∃ o, o = F_X11_best X σ a v1 v2 := ⟨_, rfl⟩
  have hF := hout.symm
  unfold F_X11_best at hF
  refine lv_iload_n hx hb dX11_best_0 rfl (lv_at hl 1 rfl) ?_
  refine q_ci (q_runS (As := [.int v1]) (rest := []) E (hml.trans hl.1.symm) hI (c_X11_isSixteenths l X σ v1) ks_X11_302 rfl ⟨Nat.le_of_ble_eq_true rfl, Nat.le_of_ble_eq_true rfl⟩ ⟨Nat.le_refl _, Nat.le_refl _⟩ rfl (Nat.le_of_ble_eq_true rfl) dX11_best_1) hI (Nat.le_of_ble_eq_true rfl) (fun r_1 σ_2 H locs hpσ_2 hkσ_2 hI => ?_)
  have ahpσ_2 := hpσ_2.1
  have bhpσ_2 := hpσ_2.2.1
  have chpσ_2 := hpσ_2.2.2
  clear hpσ_2
  replace hI := q_Irw ahpσ_2 hI
  replace hF := q_letX hF chpσ_2
  refine q_if_eq (A := r_1.toInt) E rfl (tgt := 16) dX11_best_4 (by decide) (fun c_3 => ?_) (fun c_3 => ?_)
  · skip
    replace hF := q_ifp hF c_3
    refine lv_aload_n hx hb dX11_best_16 rfl (lv_at hl 0 rfl) ?_
    refine lv_iconst (v := 5) hx hb dX11_best_17 zki_5 ?_
    have kc_4 : (5 : Int32).toInt = 5 := zt_5
    refine q_ci (q_rV10_1 (rest := []) E (hml.trans hl.1.symm) hI (c_X11_none l X σ a (5 : Int32) ha) kv_X11_109 ha ⟨Nat.le_of_ble_eq_true rfl, Nat.le_of_ble_eq_true rfl⟩ (Nat.le_of_ble_eq_true rfl) dX11_best_18) hI (Nat.le_of_ble_eq_true rfl) (fun r_5 σ_6 H locs hpσ_6 hkσ_6 hI => ?_)
    have ahpσ_6 := hpσ_6.1
    have bhpσ_6 := hpσ_6.2.1
    have chpσ_6 := hpσ_6.2.2
    clear hpσ_6
    have fr_σ_6 := fr_σ.call chpσ_6 rfl rfl
    replace hF := q_biX hF bhpσ_6
    exact q_reti E hr hlk hI ⟨(hF.trans hout), fr_σ_6⟩ dX11_best_21
  · skip
    replace hF := q_ifn hF c_3
    replace c_3 := q_ifOne bhpσ_2 c_3
    refine lv_iload_n hx hb dX11_best_7 rfl (lv_at hl 2 rfl) ?_
    refine q_if_lt (A := v2.toInt) E rfl (tgt := 16) dX11_best_8 (by decide) (fun c_7 => ?_) (fun c_7 => ?_)
    · skip
      replace hF := q_ifp hF c_7
      refine lv_aload_n hx hb dX11_best_16 rfl (lv_at hl 0 rfl) ?_
      refine lv_iconst (v := 5) hx hb dX11_best_17 zki_5 ?_
      have kc_8 : (5 : Int32).toInt = 5 := zt_5
      refine q_ci (q_rV10_1 (rest := []) E (hml.trans hl.1.symm) hI (c_X11_none l X σ a (5 : Int32) ha) kv_X11_109 ha ⟨Nat.le_of_ble_eq_true rfl, Nat.le_of_ble_eq_true rfl⟩ (Nat.le_of_ble_eq_true rfl) dX11_best_18) hI (Nat.le_of_ble_eq_true rfl) (fun r_9 σ_10 H locs hpσ_10 hkσ_10 hI => ?_)
      have ahpσ_10 := hpσ_10.1
      have bhpσ_10 := hpσ_10.2.1
      have chpσ_10 := hpσ_10.2.2
      clear hpσ_10
      have fr_σ_10 := fr_σ.call chpσ_10 rfl rfl
      replace hF := q_biX hF bhpσ_10
      exact q_reti E hr hlk hI ⟨(hF.trans hout), fr_σ_10⟩ dX11_best_21
    · skip
      replace hF := q_ifn hF (Int.not_lt.mpr c_7)
      refine lv_iload_n hx hb dX11_best_11 rfl (lv_at hl 2 rfl) ?_
      refine lv_iconst (v := 1) hx hb dX11_best_12 zki_1 ?_
      have gc_11_v2 := q_rng v2
      refine q_icmp_le (A := v2.toInt) (B := 1) E rfl (by decide) (tgt := 22) dX11_best_13 (by decide) (fun c_11 => ?_) (fun c_11 => ?_)
      · skip
        replace hF := q_ifn hF (Int.not_lt.mpr c_11)
        refine lv_aload_n hx hb dX11_best_22 rfl (lv_at hl 0 rfl) ?_
        refine gs_X11_42_11 E hI ha dX11_best_23 ?_
        refine gs_X11_147_1 E hI (q_tk (k' := 1) hI ha rfl (Nat.succ_ne_zero _)) dX11_best_26 ?_
        refine gs_X11_151_6 E hI (q_tk (k' := 6) hI (q_tk (k' := 1) hI ha rfl (Nat.succ_ne_zero _)) rfl (Nat.succ_ne_zero _)) dX11_best_29 ?_
        refine lv_topi (fun f_12 ef_12 => ?_)
        replace hF := q_letX hF ef_12
        refine q_if_ne (A := f_12.toInt) E rfl (tgt := 42) dX11_best_32 (by decide) (fun c_13 => ?_) (fun c_13 => ?_)
        · skip
          replace hF := q_ifn hF c_13
          refine lv_aload_n hx hb dX11_best_42 rfl (lv_at hl 0 rfl) ?_
          refine gs_X11_42_11 E hI ha dX11_best_43 ?_
          refine gs_X11_222_1 E hI (q_tk (k' := 1) hI ha rfl (Nat.succ_ne_zero _)) dX11_best_46 ?_
          refine gs_X11_239_2 E hI (q_tk (k' := 2) hI (q_tk (k' := 1) hI ha rfl (Nat.succ_ne_zero _)) rfl (Nat.succ_ne_zero _)) dX11_best_49 ?_
          refine lv_aload_n hx hb dX11_best_52 rfl (lv_at hl 0 rfl) ?_
          refine gs_X11_42_11 E hI ha dX11_best_53 ?_
          refine gs_X11_198_1 E hI (q_tk (k' := 1) hI ha rfl (Nat.succ_ne_zero _)) dX11_best_56 ?_
          refine lv_topi (fun f_14 ef_14 => ?_)
          replace hF := q_letX hF ef_14
          refine q_ci (q_rV4_1 (rest := []) E (hml.trans hl.1.symm) hI (c_X5_get l X σ (q_rf X (q_rf X (q_rf X a 8) 1) 2) f_14 (q_tk (k' := 5) hI (q_tk (k' := 2) hI (q_tk (k' := 1) hI ha rfl (Nat.succ_ne_zero _)) rfl (Nat.succ_ne_zero _)) rfl (Nat.succ_ne_zero _))) kv_X11_232 (q_tk (k' := 5) hI (q_tk (k' := 2) hI (q_tk (k' := 1) hI ha rfl (Nat.succ_ne_zero _)) rfl (Nat.succ_ne_zero _)) rfl (Nat.succ_ne_zero _)) ⟨Nat.le_of_ble_eq_true rfl, Nat.le_of_ble_eq_true rfl⟩ (Nat.le_of_ble_eq_true rfl) dX11_best_59) hI (Nat.le_of_ble_eq_true rfl) (fun r_15 σ_16 H locs hpσ_16 hkσ_16 hI => ?_)
          have ahpσ_16 := hpσ_16.1
          have bhpσ_16 := hpσ_16.2
          clear hpσ_16
          replace hI := q_Irw ahpσ_16 hI
          replace hF := q_letX hF bhpσ_16
          refine lv_istore_n (lv' := [(3, .int r_15), (0, .ref a), (1, .int v1), (2, .int v2)]) hx hb dX11_best_62 rfl hl (by decide) rfl (fun ls hl => ?_)
          refine lv_aload_n hx hb dX11_best_63 rfl (lv_at hl 1 rfl) ?_
          refine gs_X11_42_11 E hI ha dX11_best_64 ?_
          refine gs_X11_210_1 E hI (q_tk (k' := 1) hI ha rfl (Nat.succ_ne_zero _)) dX11_best_67 ?_
          refine lv_topi (fun f_17 ef_17 => ?_)
          replace hF := q_letX hF ef_17
          have bf_17 : 0 ≤ f_17.toInt ∧ f_17.toInt ≤ 1 := by rw [ef_17]; exact q_bd hI (q_tk (k' := 1) hI ha rfl (Nat.succ_ne_zero _)) rfl
          refine q_if_ne (A := f_17.toInt) E rfl (tgt := 88) dX11_best_70 (by decide) (fun c_18 => ?_) (fun c_18 => ?_)
          · skip
            replace hF := q_ifn hF c_18
            refine lv_aload_n hx hb dX11_best_88 rfl (lv_at hl 1 rfl) ?_
            refine lv_bipush (v := 9) hx hb dX11_best_89 zkb_9 ?_
            have kc_19 : (9 : Int32).toInt = 9 := zt_9
            refine q_ci (q_rV10_1 (rest := []) E (hml.trans hl.1.symm) hI (c_X11_none l X σ a (9 : Int32) ha) kv_X11_109 ha ⟨Nat.le_of_ble_eq_true rfl, Nat.le_of_ble_eq_true rfl⟩ (Nat.le_of_ble_eq_true rfl) dX11_best_91) hI (Nat.le_of_ble_eq_true rfl) (fun r_20 σ_21 H locs hpσ_21 hkσ_21 hI => ?_)
            have ahpσ_21 := hpσ_21.1
            have bhpσ_21 := hpσ_21.2.1
            have chpσ_21 := hpσ_21.2.2
            clear hpσ_21
            have fr_σ_21 := fr_σ.call chpσ_21 rfl rfl
            replace hF := q_biX hF bhpσ_21
            exact q_reti E hr hlk hI ⟨(hF.trans hout), fr_σ_21⟩ dX11_best_94
          · skip
            replace hF := q_ifp hF c_18
            refine lv_aload_n hx hb dX11_best_73 rfl (lv_at hl 1 rfl) ?_
            refine gs_X11_42_11 E hI ha dX11_best_74 ?_
            refine gs_X11_213_1 E hI (q_tk (k' := 1) hI ha rfl (Nat.succ_ne_zero _)) dX11_best_77 ?_
            refine lv_topi (fun f_22 ef_22 => ?_)
            replace hF := q_letX hF ef_22
            refine lv_iconst (v := (-1)) hx hb dX11_best_80 zki_m1 ?_
            have gc_23_f_22 := q_rng f_22
            refine q_icmp_ne (A := f_22.toInt) (B := (-1)) E rfl (by decide) (tgt := 88) dX11_best_81 (by decide) (fun c_23 => ?_) (fun c_23 => ?_)
            · skip
              replace hF := q_ifn hF c_23
              refine lv_aload_n hx hb dX11_best_88 rfl (lv_at hl 1 rfl) ?_
              refine lv_bipush (v := 9) hx hb dX11_best_89 zkb_9 ?_
              have kc_24 : (9 : Int32).toInt = 9 := zt_9
              refine q_ci (q_rV10_1 (rest := []) E (hml.trans hl.1.symm) hI (c_X11_none l X σ a (9 : Int32) ha) kv_X11_109 ha ⟨Nat.le_of_ble_eq_true rfl, Nat.le_of_ble_eq_true rfl⟩ (Nat.le_of_ble_eq_true rfl) dX11_best_91) hI (Nat.le_of_ble_eq_true rfl) (fun r_25 σ_26 H locs hpσ_26 hkσ_26 hI => ?_)
              have ahpσ_26 := hpσ_26.1
              have bhpσ_26 := hpσ_26.2.1
              have chpσ_26 := hpσ_26.2.2
              clear hpσ_26
              have fr_σ_26 := fr_σ.call chpσ_26 rfl rfl
              replace hF := q_biX hF bhpσ_26
              exact q_reti E hr hlk hI ⟨(hF.trans hout), fr_σ_26⟩ dX11_best_94
            · skip
              replace hF := q_ifp hF c_23
              refine lv_iload_n hx hb dX11_best_84 rfl (lv_at hl 0 rfl) ?_
              refine q_if_ne (A := r_15.toInt) E rfl (tgt := 95) dX11_best_85 (by decide) (fun c_27 => ?_) (fun c_27 => ?_)
              · skip
                replace hF := q_ifn hF c_27
                refine lv_aload_n hx hb dX11_best_95 rfl (lv_at hl 1 rfl) ?_
                refine gs_X11_42_11 E hI ha dX11_best_96 ?_
                refine gs_X11_222_1 E hI (q_tk (k' := 1) hI ha rfl (Nat.succ_ne_zero _)) dX11_best_99 ?_
                refine lv_aload_n hx hb dX11_best_102 rfl (lv_at hl 1 rfl) ?_
                refine gs_X11_42_11 E hI ha dX11_best_103 ?_
                refine gs_X11_198_1 E hI (q_tk (k' := 1) hI ha rfl (Nat.succ_ne_zero _)) dX11_best_106 ?_
                refine lv_topi (fun f_28 ef_28 => ?_)
                replace hF := q_letX hF ef_28
                refine lv_aload_n hx hb dX11_best_109 rfl (lv_at hl 1 rfl) ?_
                refine gs_X11_42_11 E hI ha dX11_best_110 ?_
                refine gs_X11_195_1 E hI (q_tk (k' := 1) hI ha rfl (Nat.succ_ne_zero _)) dX11_best_113 ?_
                refine lv_topi (fun f_29 ef_29 => ?_)
                replace hF := q_letX hF ef_29
                refine q_ci (q_rV1_2 (rest := []) E (hml.trans hl.1.symm) hI (c_X1_heldBy l X σ (q_rf X (q_rf X a 8) 1) f_28 f_29 (q_tk (k' := 2) hI (q_tk (k' := 1) hI ha rfl (Nat.succ_ne_zero _)) rfl (Nat.succ_ne_zero _))) kv_X11_253 (q_tk (k' := 2) hI (q_tk (k' := 1) hI ha rfl (Nat.succ_ne_zero _)) rfl (Nat.succ_ne_zero _)) ⟨Nat.le_of_ble_eq_true rfl, Nat.le_of_ble_eq_true rfl⟩ (Nat.le_of_ble_eq_true rfl) dX11_best_116) hI (Nat.le_of_ble_eq_true rfl) (fun r_30 σ_31 H locs hpσ_31 hkσ_31 hI => ?_)
                have ahpσ_31 := hpσ_31.1
                have bhpσ_31 := hpσ_31.2
                clear hpσ_31
                replace hI := q_Irw ahpσ_31 hI
                replace hF := q_letX hF bhpσ_31
                refine lv_istore (lv' := [(4, .int r_30), (3, .int r_15), (0, .ref a), (1, .int v1), (2, .int v2)]) hx hb dX11_best_119 hl (by decide) rfl (fun ls hl => ?_)
                refine lv_iconst (v := (-1)) hx hb dX11_best_121 zki_m1 ?_
                refine lv_istore (lv' := [(5, .int (-1)), (4, .int r_30), (3, .int r_15), (0, .ref a), (1, .int v1), (2, .int v2)]) hx hb dX11_best_122 hl (by decide) rfl (fun ls hl => ?_)
                refine lv_iconst (v := (-1)) hx hb dX11_best_124 zki_m1 ?_
                refine lv_istore (lv' := [(6, .int (-1)), (5, .int (-1)), (4, .int r_30), (3, .int r_15), (0, .ref a), (1, .int v1), (2, .int v2)]) hx hb dX11_best_125 hl (by decide) rfl (fun ls hl => ?_)
                refine lv_iconst (v := (-1)) hx hb dX11_best_127 zki_m1 ?_
                refine lv_istore (lv' := [(7, .int (-1)), (6, .int (-1)), (5, .int (-1)), (4, .int r_30), (3, .int r_15), (0, .ref a), (1, .int v1), (2, .int v2)]) hx hb dX11_best_128 hl (by decide) rfl (fun ls hl => ?_)
                refine lv_iconst (v := 0) hx hb dX11_best_130 zki_0 ?_
                refine lv_istore (lv' := [(8, .int 0), (7, .int (-1)), (6, .int (-1)), (5, .int (-1)), (4, .int r_30), (3, .int r_15), (0, .ref a), (1, .int v1), (2, .int v2)]) hx hb dX11_best_131 hl (by decide) rfl (fun ls hl => ?_)
                have L_133_36 : ∀ (k_36 : Nat) (x_32 : Int32) (x_33 : Int32) (x_34 : Int32) (x_35 : Int32) (H : Heap) (locs : List Loc) (ls : Array Slot), (2147483647 - x_35.toInt).toNat < k_36 → (0 ≤ x_35.toInt) → (F_X11_best_L133_1 X σ a r_15 r_30 v2 v1 k_36 x_32 x_33 x_34 x_35 = out) → q_I X 8 σ s.heap locs σ H → lv_has ls 11 [(0, .ref a), (1, .int v1), (2, .int v2), (3, .int r_15), (4, .int r_30), (5, .int x_32), (6, .int x_33), (7, .int x_34), (8, .int x_35)] → W p l e (q_rm 2 52) s m ([.ref a, .int v1, .int v2] : List Value).toArray below meth c H locs 0 0 (MQ below (q_Qi X 8 σ (fun (r : Int32) (σ' : ST) => (r, σ') = F_X11_best X σ a v1 v2 ∧ q_ow [(11, 0)] [(11, 1), (11, 2)] X σ σ')) ([.ref a, .int v1, .int v2] : List Value).toArray s 0 0 (q_reg X)) (F0 m 133 ls []) := by
                  clear hF
                  intro k_36
                  induction k_36 with
                  | zero =>
                    intro x_32 x_33 x_34 x_35 H locs ls hms
                    exact absurd hms (Nat.not_lt_zero _)
                  | succ k_36 ih133 =>
                    intro x_32 x_33 x_34 x_35 H locs ls hm133 hge133 hF hI hl
                    replace hF := (F_X11_best_L133_1_s).symm.trans hF
                    unfold F_X11_best_B133_1 at hF
                    refine lv_iload hx hb dX11_best_133 (lv_at hl 8 rfl) ?_
                    refine lv_aload_n hx hb dX11_best_135 rfl (lv_at hl 0 rfl) ?_
                    refine gs_X11_42_11 E hI ha dX11_best_136 ?_
                    refine gs_X11_147_1 E hI (q_tk (k' := 1) hI ha rfl (Nat.succ_ne_zero _)) dX11_best_139 ?_
                    refine gs_X11_192_6 E hI (q_tk (k' := 6) hI (q_tk (k' := 1) hI ha rfl (Nat.succ_ne_zero _)) rfl (Nat.succ_ne_zero _)) dX11_best_142 ?_
                    refine lv_topi (fun f_37 ef_37 => ?_)
                    replace hF := q_letX hF ef_37
                    have bf_37 : -2147483648 ≤ f_37.toInt ∧ f_37.toInt ≤ 4 := by rw [ef_37]; exact q_bd hI (q_tk (k' := 6) hI (q_tk (k' := 1) hI ha rfl (Nat.succ_ne_zero _)) rfl (Nat.succ_ne_zero _)) rfl
                    refine lv_iload_n hx hb dX11_best_145 rfl (lv_at hl 3 rfl) ?_
                    refine lv_iload hx hb dX11_best_146 (lv_at hl 4 rfl) ?_
                    refine lv_isub hx hb dX11_best_148 ?_
                    refine lv_topi (fun z_38 ez_38 => ?_)
                    replace hF := q_letX hF ez_38
                    refine q_ci (q_runS (As := [.int f_37, .int z_38]) (rest := [.int x_35]) E (hml.trans hl.1.symm) hI (c_J9_min_7cf53 l X σ f_37 z_38) ks_X11_375 rfl ⟨Nat.le_of_ble_eq_true rfl, Nat.le_of_ble_eq_true rfl⟩ ⟨Nat.le_refl _, Nat.le_refl _⟩ rfl (Nat.le_of_ble_eq_true rfl) dX11_best_149) hI (Nat.le_of_ble_eq_true rfl) (fun r_39 σ_40 H locs hpσ_40 hkσ_40 hI => ?_)
                    have ahpσ_40 := hpσ_40.1
                    have bhpσ_40 := hpσ_40.2.1
                    have chpσ_40 := hpσ_40.2.2
                    clear hpσ_40
                    replace hI := q_Irw ahpσ_40 hI
                    replace hF := q_letX hF chpσ_40
                    have gc_41_x_35 := q_rng x_35
                    have gc_41_r_39 := q_rng r_39
                    refine q_icmp_gt (A := x_35.toInt) (B := r_39.toInt) E rfl rfl (tgt := 239) dX11_best_152 (by decide) (fun c_41 => ?_) (fun c_41 => ?_)
                    · skip
                      replace hF := q_ifp hF c_41
                      unfold F_X11_best_E239_2 at hF
                      refine lv_aload_n hx hb dX11_best_239 rfl (lv_at hl 0 rfl) ?_
                      refine lv_iload hx hb dX11_best_240 (lv_at hl 7 rfl) ?_
                      refine lv_i2l hx hb dX11_best_242 rfl ?_
                      refine lv_topl (fun y_42 ey_42 => ?_)
                      replace hF := q_letX hF ey_42
                      refine lv_ldc2 (v := 16) hx hb E.2.2.1 (E.2.2.2.1 _ (q_in_t6 (i := 96) (by first | rfl | decide +kernel) rfl)) dX11_best_243 ?_
                      refine q_ci (q_rV10_2 (rest := []) E (hml.trans hl.1.symm) hI (c_X11_tell l X σ a y_42 (16 : Int64) ha) kv_X11_326 ha ⟨Nat.le_of_ble_eq_true rfl, Nat.le_of_ble_eq_true rfl⟩ (Nat.le_of_ble_eq_true rfl) dX11_best_246) hI (Nat.le_of_ble_eq_true rfl) (fun r_43 σ_44 H locs hpσ_44 hkσ_44 hI => ?_)
                      have ahpσ_44 := hpσ_44.1
                      have bhpσ_44 := hpσ_44.2.1
                      have chpσ_44 := hpσ_44.2.2
                      clear hpσ_44
                      have fr_σ_44 := fr_σ.call chpσ_44 rfl rfl
                      replace hF := q_biX hF bhpσ_44
                      refine lv_pop hx hb dX11_best_249 rfl ?_
                      refine lv_iload_n hx hb dX11_best_250 rfl (lv_at hl 2 rfl) ?_
                      refine q_if_ne (A := v2.toInt) E rfl (tgt := 259) dX11_best_251 (by decide) (fun c_45 => ?_) (fun c_45 => ?_)
                      · skip
                        replace hF := q_ifn hF c_45
                        refine lv_iload hx hb dX11_best_259 (lv_at hl 6 rfl) ?_
                        exact q_reti E hr hlk hI ⟨(hF.trans hout), fr_σ_44⟩ dX11_best_261
                      · skip
                        replace hF := q_ifp hF c_45
                        refine lv_iload hx hb dX11_best_254 (lv_at hl 5 rfl) ?_
                        refine lv_goto (tgt := 261) hx hb dX11_best_256 (by decide) ?_
                        exact q_reti E hr hlk hI ⟨(hF.trans hout), fr_σ_44⟩ dX11_best_261
                    · skip
                      replace hF := q_ifn hF (Int.not_lt.mpr c_41)
                      refine lv_aload_n hx hb dX11_best_155 rfl (lv_at hl 0 rfl) ?_
                      refine gs_X11_42_11 E hI ha dX11_best_156 ?_
                      refine gs_X11_147_1 E hI (q_tk (k' := 1) hI ha rfl (Nat.succ_ne_zero _)) dX11_best_159 ?_
                      refine gs_X11_192_6 E hI (q_tk (k' := 6) hI (q_tk (k' := 1) hI ha rfl (Nat.succ_ne_zero _)) rfl (Nat.succ_ne_zero _)) dX11_best_162 ?_
                      refine lv_topi (fun f_46 ef_46 => ?_)
                      replace hF := q_letX hF ef_46
                      have bf_46 : -2147483648 ≤ f_46.toInt ∧ f_46.toInt ≤ 4 := by rw [ef_46]; exact q_bd hI (q_tk (k' := 6) hI (q_tk (k' := 1) hI ha rfl (Nat.succ_ne_zero _)) rfl (Nat.succ_ne_zero _)) rfl
                      refine lv_iload hx hb dX11_best_165 (lv_at hl 8 rfl) ?_
                      refine lv_isub hx hb dX11_best_167 ?_
                      refine lv_topi (fun z_47 ez_47 => ?_)
                      replace hF := q_letX hF ez_47
                      refine lv_iload hx hb dX11_best_168 (lv_at hl 4 rfl) ?_
                      refine q_ci (q_runS (As := [.int z_47, .int r_30]) (rest := []) E (hml.trans hl.1.symm) hI (c_J9_min_7cf53 l X σ z_47 r_30) ks_X11_375 rfl ⟨Nat.le_of_ble_eq_true rfl, Nat.le_of_ble_eq_true rfl⟩ ⟨Nat.le_refl _, Nat.le_refl _⟩ rfl (Nat.le_of_ble_eq_true rfl) dX11_best_170) hI (Nat.le_of_ble_eq_true rfl) (fun r_48 σ_49 H locs hpσ_49 hkσ_49 hI => ?_)
                      have ahpσ_49 := hpσ_49.1
                      have bhpσ_49 := hpσ_49.2.1
                      have chpσ_49 := hpσ_49.2.2
                      clear hpσ_49
                      replace hI := q_Irw ahpσ_49 hI
                      replace hF := q_letX hF chpσ_49
                      refine lv_istore (lv' := [(9, .int r_48), (0, .ref a), (1, .int v1), (2, .int v2), (3, .int r_15), (4, .int r_30), (5, .int x_32), (6, .int x_33), (7, .int x_34), (8, .int x_35)]) hx hb dX11_best_173 hl (by decide) rfl (fun ls hl => ?_)
                      have L_175_54 : ∀ (k_54 : Nat) (x_50 : Int32) (x_51 : Int32) (x_52 : Int32) (x_53 : Int32) (H : Heap) (locs : List Loc) (ls : Array Slot), (x_53.toInt + 2147483649).toNat < k_54 → (F_X11_best_L175_3 X x_35 (F_X11_best_L133_1 X σ a r_15 r_30 v2 v1 k_36) σ a v1 k_54 x_50 x_51 x_52 x_53 = out) → q_I X 8 σ s.heap locs σ H → lv_has ls 11 [(0, .ref a), (1, .int v1), (2, .int v2), (3, .int r_15), (4, .int r_30), (5, .int x_50), (6, .int x_51), (7, .int x_52), (8, .int x_35), (9, .int x_53)] → W p l e (q_rm 2 52) s m ([.ref a, .int v1, .int v2] : List Value).toArray below meth c H locs 0 0 (MQ below (q_Qi X 8 σ (fun (r : Int32) (σ' : ST) => (r, σ') = F_X11_best X σ a v1 v2 ∧ q_ow [(11, 0)] [(11, 1), (11, 2)] X σ σ')) ([.ref a, .int v1, .int v2] : List Value).toArray s 0 0 (q_reg X)) (F0 m 175 ls []) := by
                        clear hF
                        intro k_54
                        induction k_54 with
                        | zero =>
                          intro x_50 x_51 x_52 x_53 H locs ls hms
                          exact absurd hms (Nat.not_lt_zero _)
                        | succ k_54 ih175 =>
                          intro x_50 x_51 x_52 x_53 H locs ls hm175  hF hI hl
                          replace hF := (F_X11_best_L175_3_s).symm.trans hF
                          unfold F_X11_best_B175_3 at hF
                          refine lv_iload hx hb dX11_best_175 (lv_at hl 9 rfl) ?_
                          refine q_if_lt (A := x_53.toInt) E rfl (tgt := 233) dX11_best_177 (by decide) (fun c_55 => ?_) (fun c_55 => ?_)
                          · skip
                            replace hF := q_ifp hF c_55
                            unfold F_X11_best_E233_4 at hF
                            obtain ⟨z_56, ez_56⟩ : ∃ y : Int32, y = x_35 + 1 := ⟨_, rfl⟩
                            replace hF := q_letX hF ez_56
                            refine lv_iinc (v := z_56) (lv' := [(8, .int z_56), (0, .ref a), (1, .int v1), (2, .int v2), (3, .int r_15), (4, .int r_30), (5, .int x_50), (6, .int x_51), (7, .int x_52), (9, .int x_53)]) hx hb dX11_best_233 hl (k := 8) rfl (by rw [ez_56]; rfl) (by decide) rfl (fun ls hl => ?_)
                            have iz_56 : z_56.toInt = x_35.toInt + 1 := q_inc ez_56 (by first | (clear ahpσ_2 bhpσ_2 chpσ_2 c_3 c_7 gc_11_v2 c_11 c_13 ahpσ_16 bhpσ_16 bf_17 c_18 gc_23_f_22 c_23 c_27 ahpσ_31 bhpσ_31 hm133 ahpσ_40 chpσ_40 bf_46 ahpσ_49 bhpσ_49 chpσ_49 hm175 c_55; omega) | omega)
                            refine lv_goto (tgt := 133) hx hb dX11_best_236 (by decide) ?_
                            exact ih133 x_50 x_51 x_52 z_56 _ _ ls (by first | (clear ahpσ_2 bhpσ_2 chpσ_2 c_3 c_7 gc_11_v2 c_11 c_13 ahpσ_16 bhpσ_16 bf_17 c_18 gc_23_f_22 c_23 c_27 ahpσ_31 bhpσ_31 ahpσ_40 chpσ_40 bf_46 ahpσ_49 bhpσ_49 chpσ_49 hm175 c_55; omega) | omega) (by first | (clear ahpσ_2 bhpσ_2 chpσ_2 c_3 c_7 gc_11_v2 c_11 c_13 ahpσ_16 bhpσ_16 bf_17 c_18 gc_23_f_22 c_23 c_27 ahpσ_31 bhpσ_31 hm133 bf_37 ahpσ_40 bhpσ_40 chpσ_40 gc_41_r_39 c_41 bf_46 ahpσ_49 bhpσ_49 chpσ_49 hm175 c_55; omega) | omega) hF hI (lv_sub hl [1, 2, 3, 4, 5, 6, 7, 8, 0] rfl)
                          · skip
                            replace hF := q_ifn hF (Int.not_lt.mpr c_55)
                            refine lv_aload_n hx hb dX11_best_180 rfl (lv_at hl 0 rfl) ?_
                            refine gs_X11_42_11 E hI ha dX11_best_181 ?_
                            refine lv_iload hx hb dX11_best_184 (lv_at hl 9 rfl) ?_
                            refine lv_iload hx hb dX11_best_186 (lv_at hl 8 rfl) ?_
                            refine lv_iload_n hx hb dX11_best_188 rfl (lv_at hl 1 rfl) ?_
                            refine q_ci (q_rV0_3 (rest := []) E (hml.trans hl.1.symm) hI (c_X0_sixteenthsLeft l X σ (q_rf X a 8) x_53 x_35 v1 (q_tk (k' := 1) hI ha rfl (Nat.succ_ne_zero _))) kv_X11_380 (q_tk (k' := 1) hI ha rfl (Nat.succ_ne_zero _)) ⟨Nat.le_of_ble_eq_true rfl, Nat.le_of_ble_eq_true rfl⟩ (Nat.le_of_ble_eq_true rfl) dX11_best_189) hI (Nat.le_of_ble_eq_true rfl) (fun r_57 σ_58 H locs hpσ_58 hkσ_58 hI => ?_)
                            have ahpσ_58 := hpσ_58.1
                            have bhpσ_58 := hpσ_58.2
                            clear hpσ_58
                            replace hI := q_Irw ahpσ_58 hI
                            replace hF := q_letX hF bhpσ_58
                            refine lv_istore (lv' := [(10, .int r_57), (0, .ref a), (1, .int v1), (2, .int v2), (3, .int r_15), (4, .int r_30), (5, .int x_50), (6, .int x_51), (7, .int x_52), (8, .int x_35), (9, .int x_53)]) hx hb dX11_best_192 hl (by decide) rfl (fun ls hl => ?_)
                            refine lv_iload hx hb dX11_best_194 (lv_at hl 10 rfl) ?_
                            refine lv_iload hx hb dX11_best_196 (lv_at hl 9 rfl) ?_
                            refine lv_iadd hx hb dX11_best_198 ?_
                            refine lv_topi (fun z_59 ez_59 => ?_)
                            replace hF := q_letX hF ez_59
                            refine q_if_le (A := z_59.toInt) E rfl (tgt := 227) dX11_best_199 (by decide) (fun c_60 => ?_) (fun c_60 => ?_)
                            · skip
                              replace hF := q_ifn hF (Int.not_lt.mpr c_60)
                              obtain ⟨z_61, ez_61⟩ : ∃ y : Int32, y = x_53 + (-1) := ⟨_, rfl⟩
                              replace hF := q_letX hF ez_61
                              refine lv_iinc (v := z_61) (lv' := [(9, .int z_61), (10, .int r_57), (0, .ref a), (1, .int v1), (2, .int v2), (3, .int r_15), (4, .int r_30), (5, .int x_50), (6, .int x_51), (7, .int x_52), (8, .int x_35)]) hx hb dX11_best_227 hl (k := 10) rfl (by rw [ez_61]; rfl) (by decide) rfl (fun ls hl => ?_)
                              have iz_61 : z_61.toInt = x_53.toInt - 1 := q_dec ez_61 (by first | (clear ahpσ_2 bhpσ_2 chpσ_2 c_3 c_7 gc_11_v2 c_11 c_13 ahpσ_16 bhpσ_16 bf_17 c_18 gc_23_f_22 c_23 c_27 ahpσ_31 bhpσ_31 hm133 hge133 bf_37 ahpσ_40 bhpσ_40 chpσ_40 gc_41_x_35 gc_41_r_39 c_41 bf_46 ahpσ_49 bhpσ_49 chpσ_49 hm175 ahpσ_58 bhpσ_58 c_60; omega) | omega)
                              refine lv_goto (tgt := 175) hx hb dX11_best_230 (by decide) ?_
                              exact ih175 x_50 x_51 x_52 z_61 _ _ ls (by first | (clear ahpσ_2 bhpσ_2 chpσ_2 c_3 c_7 gc_11_v2 c_11 c_13 ahpσ_16 bhpσ_16 bf_17 c_18 gc_23_f_22 c_23 c_27 ahpσ_31 bhpσ_31 hm133 hge133 bf_37 ahpσ_40 bhpσ_40 chpσ_40 gc_41_x_35 gc_41_r_39 c_41 bf_46 ahpσ_49 bhpσ_49 chpσ_49 ahpσ_58 bhpσ_58 c_60; omega) | omega) hF hI (lv_sub hl [2, 3, 4, 5, 6, 7, 8, 9, 10, 0] rfl)
                            · skip
                              replace hF := q_ifp hF c_60
                              refine lv_iload hx hb dX11_best_202 (lv_at hl 8 rfl) ?_
                              refine lv_iconst (v := (-1)) hx hb dX11_best_204 zki_m1 ?_
                              have gc_62_x_52 := q_rng x_52
                              refine q_icmp_eq (A := x_52.toInt) (B := (-1)) E rfl (by decide) (tgt := 215) dX11_best_205 (by decide) (fun c_62 => ?_) (fun c_62 => ?_)
                              · skip
                                replace hF := q_ifp hF c_62
                                refine lv_iload hx hb dX11_best_215 (lv_at hl 0 rfl) ?_
                                refine lv_istore (lv' := [(7, .int r_57), (10, .int r_57), (0, .ref a), (1, .int v1), (2, .int v2), (3, .int r_15), (4, .int r_30), (5, .int x_50), (6, .int x_51), (8, .int x_35), (9, .int x_53)]) hx hb dX11_best_217 hl (by decide) rfl (fun ls hl => ?_)
                                refine lv_iload hx hb dX11_best_219 (lv_at hl 10 rfl) ?_
                                refine lv_istore (lv' := [(5, .int x_53), (7, .int r_57), (10, .int r_57), (0, .ref a), (1, .int v1), (2, .int v2), (3, .int r_15), (4, .int r_30), (6, .int x_51), (8, .int x_35), (9, .int x_53)]) hx hb dX11_best_221 hl (by decide) rfl (fun ls hl => ?_)
                                refine lv_iload hx hb dX11_best_223 (lv_at hl 9 rfl) ?_
                                refine lv_istore (lv' := [(6, .int x_35), (5, .int x_53), (7, .int r_57), (10, .int r_57), (0, .ref a), (1, .int v1), (2, .int v2), (3, .int r_15), (4, .int r_30), (8, .int x_35), (9, .int x_53)]) hx hb dX11_best_225 hl (by decide) rfl (fun ls hl => ?_)
                                obtain ⟨z_63, ez_63⟩ : ∃ y : Int32, y = x_53 + (-1) := ⟨_, rfl⟩
                                replace hF := q_letX hF ez_63
                                refine lv_iinc (v := z_63) (lv' := [(9, .int z_63), (6, .int x_35), (5, .int x_53), (7, .int r_57), (10, .int r_57), (0, .ref a), (1, .int v1), (2, .int v2), (3, .int r_15), (4, .int r_30), (8, .int x_35)]) hx hb dX11_best_227 hl (k := 10) rfl (by rw [ez_63]; rfl) (by decide) rfl (fun ls hl => ?_)
                                have iz_63 : z_63.toInt = x_53.toInt - 1 := q_dec ez_63 (by first | (clear ahpσ_2 bhpσ_2 chpσ_2 c_3 c_7 gc_11_v2 c_11 c_13 ahpσ_16 bhpσ_16 bf_17 c_18 gc_23_f_22 c_23 c_27 ahpσ_31 bhpσ_31 hm133 hge133 bf_37 ahpσ_40 bhpσ_40 chpσ_40 gc_41_x_35 gc_41_r_39 c_41 bf_46 ahpσ_49 bhpσ_49 chpσ_49 hm175 ahpσ_58 bhpσ_58 c_60 gc_62_x_52 c_62; omega) | omega)
                                refine lv_goto (tgt := 175) hx hb dX11_best_230 (by decide) ?_
                                exact ih175 x_53 x_35 r_57 z_63 _ _ ls (by first | (clear ahpσ_2 bhpσ_2 chpσ_2 c_3 c_7 gc_11_v2 c_11 c_13 ahpσ_16 bhpσ_16 bf_17 c_18 gc_23_f_22 c_23 c_27 ahpσ_31 bhpσ_31 hm133 hge133 bf_37 ahpσ_40 bhpσ_40 chpσ_40 gc_41_x_35 gc_41_r_39 c_41 bf_46 ahpσ_49 bhpσ_49 chpσ_49 ahpσ_58 bhpσ_58 c_60 gc_62_x_52 c_62; omega) | omega) hF hI (lv_sub hl [5, 6, 7, 8, 9, 2, 1, 3, 10, 0] rfl)
                              · skip
                                replace hF := q_ifn hF c_62
                                refine lv_iload hx hb dX11_best_208 (lv_at hl 0 rfl) ?_
                                refine lv_iload hx hb dX11_best_210 (lv_at hl 8 rfl) ?_
                                have gc_64_r_57 := q_rng r_57
                                have gc_64_x_52 := q_rng x_52
                                refine q_icmp_ge (A := r_57.toInt) (B := x_52.toInt) E rfl rfl (tgt := 227) dX11_best_212 (by decide) (fun c_64 => ?_) (fun c_64 => ?_)
                                · skip
                                  replace hF := q_ifn hF (Int.not_lt.mpr c_64)
                                  obtain ⟨z_65, ez_65⟩ : ∃ y : Int32, y = x_53 + (-1) := ⟨_, rfl⟩
                                  replace hF := q_letX hF ez_65
                                  refine lv_iinc (v := z_65) (lv' := [(9, .int z_65), (10, .int r_57), (0, .ref a), (1, .int v1), (2, .int v2), (3, .int r_15), (4, .int r_30), (5, .int x_50), (6, .int x_51), (7, .int x_52), (8, .int x_35)]) hx hb dX11_best_227 hl (k := 10) rfl (by rw [ez_65]; rfl) (by decide) rfl (fun ls hl => ?_)
                                  have iz_65 : z_65.toInt = x_53.toInt - 1 := q_dec ez_65 (by first | (clear ahpσ_2 bhpσ_2 chpσ_2 c_3 c_7 gc_11_v2 c_11 c_13 ahpσ_16 bhpσ_16 bf_17 c_18 gc_23_f_22 c_23 c_27 ahpσ_31 bhpσ_31 hm133 hge133 bf_37 ahpσ_40 bhpσ_40 chpσ_40 gc_41_x_35 gc_41_r_39 c_41 bf_46 ahpσ_49 bhpσ_49 chpσ_49 hm175 ahpσ_58 bhpσ_58 c_60 gc_62_x_52 c_62 gc_64_r_57 gc_64_x_52 c_64; omega) | omega)
                                  refine lv_goto (tgt := 175) hx hb dX11_best_230 (by decide) ?_
                                  exact ih175 x_50 x_51 x_52 z_65 _ _ ls (by first | (clear ahpσ_2 bhpσ_2 chpσ_2 c_3 c_7 gc_11_v2 c_11 c_13 ahpσ_16 bhpσ_16 bf_17 c_18 gc_23_f_22 c_23 c_27 ahpσ_31 bhpσ_31 hm133 hge133 bf_37 ahpσ_40 bhpσ_40 chpσ_40 gc_41_x_35 gc_41_r_39 c_41 bf_46 ahpσ_49 bhpσ_49 chpσ_49 ahpσ_58 bhpσ_58 c_60 gc_62_x_52 gc_64_r_57 gc_64_x_52 c_64; omega) | omega) hF hI (lv_sub hl [2, 3, 4, 5, 6, 7, 8, 9, 10, 0] rfl)
                                · skip
                                  replace hF := q_ifp hF c_64
                                  refine lv_iload hx hb dX11_best_215 (lv_at hl 0 rfl) ?_
                                  refine lv_istore (lv' := [(7, .int r_57), (10, .int r_57), (0, .ref a), (1, .int v1), (2, .int v2), (3, .int r_15), (4, .int r_30), (5, .int x_50), (6, .int x_51), (8, .int x_35), (9, .int x_53)]) hx hb dX11_best_217 hl (by decide) rfl (fun ls hl => ?_)
                                  refine lv_iload hx hb dX11_best_219 (lv_at hl 10 rfl) ?_
                                  refine lv_istore (lv' := [(5, .int x_53), (7, .int r_57), (10, .int r_57), (0, .ref a), (1, .int v1), (2, .int v2), (3, .int r_15), (4, .int r_30), (6, .int x_51), (8, .int x_35), (9, .int x_53)]) hx hb dX11_best_221 hl (by decide) rfl (fun ls hl => ?_)
                                  refine lv_iload hx hb dX11_best_223 (lv_at hl 9 rfl) ?_
                                  refine lv_istore (lv' := [(6, .int x_35), (5, .int x_53), (7, .int r_57), (10, .int r_57), (0, .ref a), (1, .int v1), (2, .int v2), (3, .int r_15), (4, .int r_30), (8, .int x_35), (9, .int x_53)]) hx hb dX11_best_225 hl (by decide) rfl (fun ls hl => ?_)
                                  obtain ⟨z_66, ez_66⟩ : ∃ y : Int32, y = x_53 + (-1) := ⟨_, rfl⟩
                                  replace hF := q_letX hF ez_66
                                  refine lv_iinc (v := z_66) (lv' := [(9, .int z_66), (6, .int x_35), (5, .int x_53), (7, .int r_57), (10, .int r_57), (0, .ref a), (1, .int v1), (2, .int v2), (3, .int r_15), (4, .int r_30), (8, .int x_35)]) hx hb dX11_best_227 hl (k := 10) rfl (by rw [ez_66]; rfl) (by decide) rfl (fun ls hl => ?_)
                                  have iz_66 : z_66.toInt = x_53.toInt - 1 := q_dec ez_66 (by first | (clear ahpσ_2 bhpσ_2 chpσ_2 c_3 c_7 gc_11_v2 c_11 c_13 ahpσ_16 bhpσ_16 bf_17 c_18 gc_23_f_22 c_23 c_27 ahpσ_31 bhpσ_31 hm133 hge133 bf_37 ahpσ_40 bhpσ_40 chpσ_40 gc_41_x_35 gc_41_r_39 c_41 bf_46 ahpσ_49 bhpσ_49 chpσ_49 hm175 ahpσ_58 bhpσ_58 c_60 gc_62_x_52 c_62 gc_64_r_57 gc_64_x_52 c_64; omega) | omega)
                                  refine lv_goto (tgt := 175) hx hb dX11_best_230 (by decide) ?_
                                  exact ih175 x_53 x_35 r_57 z_66 _ _ ls (by first | (clear ahpσ_2 bhpσ_2 chpσ_2 c_3 c_7 gc_11_v2 c_11 c_13 ahpσ_16 bhpσ_16 bf_17 c_18 gc_23_f_22 c_23 c_27 ahpσ_31 bhpσ_31 hm133 hge133 bf_37 ahpσ_40 bhpσ_40 chpσ_40 gc_41_x_35 gc_41_r_39 c_41 bf_46 ahpσ_49 bhpσ_49 chpσ_49 ahpσ_58 bhpσ_58 c_60 gc_62_x_52 gc_64_r_57 gc_64_x_52 c_64; omega) | omega) hF hI (lv_sub hl [5, 6, 7, 8, 9, 2, 1, 3, 10, 0] rfl)
                      exact L_175_54 ((r_48.toInt + 2147483649).toNat + 1) x_32 x_33 x_34 r_48 _ _ ls (Nat.lt_succ_self _) hF hI (lv_sub hl [1, 2, 3, 4, 5, 6, 7, 8, 9, 0] rfl)
                exact L_133_36 ((2147483647 - (0 : Int32).toInt).toNat + 1) (-1) (-1) (-1) 0 _ _ ls (Nat.lt_succ_self _) (by decide) hF hI (lv_sub hl [6, 7, 8, 5, 4, 3, 2, 1, 0] rfl)
              · skip
                replace hF := q_ifp hF c_27
                refine lv_aload_n hx hb dX11_best_88 rfl (lv_at hl 1 rfl) ?_
                refine lv_bipush (v := 9) hx hb dX11_best_89 zkb_9 ?_
                have kc_67 : (9 : Int32).toInt = 9 := zt_9
                refine q_ci (q_rV10_1 (rest := []) E (hml.trans hl.1.symm) hI (c_X11_none l X σ a (9 : Int32) ha) kv_X11_109 ha ⟨Nat.le_of_ble_eq_true rfl, Nat.le_of_ble_eq_true rfl⟩ (Nat.le_of_ble_eq_true rfl) dX11_best_91) hI (Nat.le_of_ble_eq_true rfl) (fun r_68 σ_69 H locs hpσ_69 hkσ_69 hI => ?_)
                have ahpσ_69 := hpσ_69.1
                have bhpσ_69 := hpσ_69.2.1
                have chpσ_69 := hpσ_69.2.2
                clear hpσ_69
                have fr_σ_69 := fr_σ.call chpσ_69 rfl rfl
                replace hF := q_biX hF bhpσ_69
                exact q_reti E hr hlk hI ⟨(hF.trans hout), fr_σ_69⟩ dX11_best_94
        · skip
          replace hF := q_ifp hF c_13
          refine lv_aload_n hx hb dX11_best_35 rfl (lv_at hl 0 rfl) ?_
          refine lv_bipush (v := 8) hx hb dX11_best_36 zkb_8 ?_
          have kc_70 : (8 : Int32).toInt = 8 := zt_8
          refine q_ci (q_rV10_1 (rest := []) E (hml.trans hl.1.symm) hI (c_X11_none l X σ a (8 : Int32) ha) kv_X11_109 ha ⟨Nat.le_of_ble_eq_true rfl, Nat.le_of_ble_eq_true rfl⟩ (Nat.le_of_ble_eq_true rfl) dX11_best_38) hI (Nat.le_of_ble_eq_true rfl) (fun r_71 σ_72 H locs hpσ_72 hkσ_72 hI => ?_)
          have ahpσ_72 := hpσ_72.1
          have bhpσ_72 := hpσ_72.2.1
          have chpσ_72 := hpσ_72.2.2
          clear hpσ_72
          have fr_σ_72 := fr_σ.call chpσ_72 rfl rfl
          replace hF := q_biX hF bhpσ_72
          exact q_reti E hr hlk hI ⟨(hF.trans hout), fr_σ_72⟩ dX11_best_41
      · skip
        replace hF := q_ifp hF c_11
        refine lv_aload_n hx hb dX11_best_16 rfl (lv_at hl 0 rfl) ?_
        refine lv_iconst (v := 5) hx hb dX11_best_17 zki_5 ?_
        have kc_73 : (5 : Int32).toInt = 5 := zt_5
        refine q_ci (q_rV10_1 (rest := []) E (hml.trans hl.1.symm) hI (c_X11_none l X σ a (5 : Int32) ha) kv_X11_109 ha ⟨Nat.le_of_ble_eq_true rfl, Nat.le_of_ble_eq_true rfl⟩ (Nat.le_of_ble_eq_true rfl) dX11_best_18) hI (Nat.le_of_ble_eq_true rfl) (fun r_74 σ_75 H locs hpσ_75 hkσ_75 hI => ?_)
        have ahpσ_75 := hpσ_75.1
        have bhpσ_75 := hpσ_75.2.1
        have chpσ_75 := hpσ_75.2.2
        clear hpσ_75
        have fr_σ_75 := fr_σ.call chpσ_75 rfl rfl
        replace hF := q_biX hF bhpσ_75
        exact q_reti E hr hlk hI ⟨(hF.trans hout), fr_σ_75⟩ dX11_best_21

set_option maxRecDepth 100000 in
set_option maxHeartbeats 4000000 in
theorem c_X11_sayer (l : Launch) (X : XW) (σ : ST) (a : Nat) (v1 : Int32) (ha : q_kd X a = 11) : Met l yX11_sayer (q_ws yX11_sayer cX11_sayer 4 (some .int)) (q_rm 2 44) (q_P X σ [.ref a, .int v1]) (q_Qi X 8 σ (fun (r : Int32) (σ' : ST) => (r, σ') = F_X11_sayer X σ a v1 ∧ q_ow [(11, 0)] [] X σ σ')) 0 0 (q_reg X) := by
  refine q_met 8 (by first | exact rfl | decide +kernel) rfl (Nat.le_of_ble_eq_true rfl) (fun p e s m below meth c E hml hr hlk hI ls hl => ?_)
  have hx := E.1
  have hb := E.2.1
  have hl : lv_has ls 4 [(0, .ref a), (1, .int v1)] := hl
  have fr_σ : q_ow [(11, 0)] [] X σ σ := q_ow.rf
  obtain ⟨out, hout⟩ : ∃ o, o = F_X11_sayer X σ a v1 := ⟨_, rfl⟩
  have hF := hout.symm
  unfold F_X11_sayer at hF
  refine lv_aload_n hx hb dX11_sayer_0 rfl (lv_at hl 0 rfl) ?_
  refine lv_iload_n hx hb dX11_sayer_1 rfl (lv_at hl 1 rfl) ?_
  refine q_ci (q_rV10_1 (rest := []) E (hml.trans hl.1.symm) hI (c_X11_isKind l X σ a v1 ha) kv_X11_250 ha ⟨Nat.le_of_ble_eq_true rfl, Nat.le_of_ble_eq_true rfl⟩ (Nat.le_of_ble_eq_true rfl) dX11_sayer_2) hI (Nat.le_of_ble_eq_true rfl) (fun r_1 σ_2 H locs hpσ_2 hkσ_2 hI => ?_)
  have ahpσ_2 := hpσ_2.1
  have bhpσ_2 := hpσ_2.2.1
  have chpσ_2 := hpσ_2.2.2
  clear hpσ_2
  replace hI := q_Irw ahpσ_2 hI
  replace hF := q_letX hF chpσ_2
  refine q_if_ne (A := r_1.toInt) E rfl (tgt := 14) dX11_sayer_5 (by decide) (fun c_3 => ?_) (fun c_3 => ?_)
  · skip
    replace hF := q_ifn hF c_3
    replace c_3 := q_ifOne bhpσ_2 c_3
    refine lv_aload_n hx hb dX11_sayer_14 rfl (lv_at hl 0 rfl) ?_
    refine gs_X11_42_11 E hI ha dX11_sayer_15 ?_
    refine gs_X11_147_1 E hI (q_tk (k' := 1) hI ha rfl (Nat.succ_ne_zero _)) dX11_sayer_18 ?_
    refine gs_X11_151_6 E hI (q_tk (k' := 6) hI (q_tk (k' := 1) hI ha rfl (Nat.succ_ne_zero _)) rfl (Nat.succ_ne_zero _)) dX11_sayer_21 ?_
    refine lv_topi (fun f_4 ef_4 => ?_)
    replace hF := q_letX hF ef_4
    refine q_if_ne (A := f_4.toInt) E rfl (tgt := 34) dX11_sayer_24 (by decide) (fun c_5 => ?_) (fun c_5 => ?_)
    · skip
      replace hF := q_ifn hF c_5
      refine lv_aload_n hx hb dX11_sayer_34 rfl (lv_at hl 0 rfl) ?_
      refine gs_X11_42_11 E hI ha dX11_sayer_35 ?_
      refine gs_X11_210_1 E hI (q_tk (k' := 1) hI ha rfl (Nat.succ_ne_zero _)) dX11_sayer_38 ?_
      refine lv_topi (fun f_6 ef_6 => ?_)
      replace hF := q_letX hF ef_6
      have bf_6 : 0 ≤ f_6.toInt ∧ f_6.toInt ≤ 1 := by rw [ef_6]; exact q_bd hI (q_tk (k' := 1) hI ha rfl (Nat.succ_ne_zero _)) rfl
      refine q_if_eq (A := f_6.toInt) E rfl (tgt := 48) dX11_sayer_41 (by decide) (fun c_7 => ?_) (fun c_7 => ?_)
      · skip
        replace hF := q_ifp hF c_7
        refine lv_iconst (v := 0) hx hb dX11_sayer_48 zki_0 ?_
        refine lv_istore_n (lv' := [(2, .int 0), (0, .ref a), (1, .int v1)]) hx hb dX11_sayer_49 rfl hl (by decide) rfl (fun ls hl => ?_)
        refine lv_iload_n hx hb dX11_sayer_50 rfl (lv_at hl 0 rfl) ?_
        refine lv_istore_n (lv' := [(3, .int 0), (2, .int 0), (0, .ref a), (1, .int v1)]) hx hb dX11_sayer_51 rfl hl (by decide) rfl (fun ls hl => ?_)
        have L_52_9 : ∀ (k_9 : Nat) (x_8 : Int32) (H : Heap) (locs : List Loc) (ls : Array Slot), (2147483647 - x_8.toInt).toNat < k_9 → (0 ≤ x_8.toInt) → (F_X11_sayer_L52_1 X σ a v1 k_9 x_8 = out) → q_I X 8 σ s.heap locs σ H → lv_has ls 4 [(0, .ref a), (1, .int v1), (2, .int 0), (3, .int x_8)] → W p l e (q_rm 2 44) s m ([.ref a, .int v1] : List Value).toArray below meth c H locs 0 0 (MQ below (q_Qi X 8 σ (fun (r : Int32) (σ' : ST) => (r, σ') = F_X11_sayer X σ a v1 ∧ q_ow [(11, 0)] [] X σ σ')) ([.ref a, .int v1] : List Value).toArray s 0 0 (q_reg X)) (F0 m 52 ls []) := by
          clear hF
          intro k_9
          induction k_9 with
          | zero =>
            intro x_8 H locs ls hms
            exact absurd hms (Nat.not_lt_zero _)
          | succ k_9 ih52 =>
            intro x_8 H locs ls hm52 hge52 hF hI hl
            replace hF := (F_X11_sayer_L52_1_s).symm.trans hF
            unfold F_X11_sayer_B52_1 at hF
            refine lv_iload_n hx hb dX11_sayer_52 rfl (lv_at hl 3 rfl) ?_
            refine lv_aload_n hx hb dX11_sayer_53 rfl (lv_at hl 0 rfl) ?_
            refine gs_X11_42_11 E hI ha dX11_sayer_54 ?_
            refine gs_X11_147_1 E hI (q_tk (k' := 1) hI ha rfl (Nat.succ_ne_zero _)) dX11_sayer_57 ?_
            refine gs_X11_183_6 E hI (q_tk (k' := 6) hI (q_tk (k' := 1) hI ha rfl (Nat.succ_ne_zero _)) rfl (Nat.succ_ne_zero _)) dX11_sayer_60 ?_
            refine lv_topi (fun f_10 ef_10 => ?_)
            replace hF := q_letX hF ef_10
            have bf_10 : -2147483648 ≤ f_10.toInt ∧ f_10.toInt ≤ 10 := by rw [ef_10]; exact q_bd hI (q_tk (k' := 6) hI (q_tk (k' := 1) hI ha rfl (Nat.succ_ne_zero _)) rfl (Nat.succ_ne_zero _)) rfl
            have gc_11_x_8 := q_rng x_8
            have gc_11_f_10 := q_rng f_10
            refine q_icmp_gt (A := x_8.toInt) (B := f_10.toInt) E rfl rfl (tgt := 117) dX11_sayer_63 (by decide) (fun c_11 => ?_) (fun c_11 => ?_)
            · skip
              replace hF := q_ifp hF c_11
              unfold F_X11_sayer_E117_2 at hF
              refine lv_aload_n hx hb dX11_sayer_117 rfl (lv_at hl 0 rfl) ?_
              refine lv_bipush (v := 8) hx hb dX11_sayer_118 zkb_8 ?_
              have kc_12 : (8 : Int32).toInt = 8 := zt_8
              refine q_ci (q_rV10_1 (rest := []) E (hml.trans hl.1.symm) hI (c_X11_none l X σ a (8 : Int32) ha) kv_X11_109 ha ⟨Nat.le_of_ble_eq_true rfl, Nat.le_of_ble_eq_true rfl⟩ (Nat.le_of_ble_eq_true rfl) dX11_sayer_120) hI (Nat.le_of_ble_eq_true rfl) (fun r_13 σ_14 H locs hpσ_14 hkσ_14 hI => ?_)
              have ahpσ_14 := hpσ_14.1
              have bhpσ_14 := hpσ_14.2.1
              have chpσ_14 := hpσ_14.2.2
              clear hpσ_14
              have fr_σ_14 := fr_σ.call chpσ_14 rfl rfl
              replace hF := q_biX hF bhpσ_14
              exact q_reti E hr hlk hI ⟨(hF.trans hout), fr_σ_14⟩ dX11_sayer_123
            · skip
              replace hF := q_ifn hF (Int.not_lt.mpr c_11)
              refine lv_aload_n hx hb dX11_sayer_66 rfl (lv_at hl 0 rfl) ?_
              refine gs_X11_42_11 E hI ha dX11_sayer_67 ?_
              refine gs_X11_147_1 E hI (q_tk (k' := 1) hI ha rfl (Nat.succ_ne_zero _)) dX11_sayer_70 ?_
              refine lv_aload_n hx hb dX11_sayer_73 rfl (lv_at hl 0 rfl) ?_
              refine gs_X11_42_11 E hI ha dX11_sayer_74 ?_
              refine gs_X11_195_1 E hI (q_tk (k' := 1) hI ha rfl (Nat.succ_ne_zero _)) dX11_sayer_77 ?_
              refine lv_topi (fun f_15 ef_15 => ?_)
              replace hF := q_letX hF ef_15
              refine lv_iload_n hx hb dX11_sayer_80 rfl (lv_at hl 3 rfl) ?_
              refine q_ci (q_rV5_2 (rest := []) E (hml.trans hl.1.symm) hI (c_X6_kindAfter l X σ (q_rf X (q_rf X a 8) 0) f_15 x_8 (q_tk (k' := 6) hI (q_tk (k' := 1) hI ha rfl (Nat.succ_ne_zero _)) rfl (Nat.succ_ne_zero _))) kv_X11_386 (q_tk (k' := 6) hI (q_tk (k' := 1) hI ha rfl (Nat.succ_ne_zero _)) rfl (Nat.succ_ne_zero _)) ⟨Nat.le_of_ble_eq_true rfl, Nat.le_of_ble_eq_true rfl⟩ (Nat.le_of_ble_eq_true rfl) dX11_sayer_81) hI (Nat.le_of_ble_eq_true rfl) (fun r_16 σ_17 H locs hpσ_17 hkσ_17 hI => ?_)
              have ahpσ_17 := hpσ_17.1
              have bhpσ_17 := hpσ_17.2
              clear hpσ_17
              replace hI := q_Irw ahpσ_17 hI
              replace hF := q_letX hF bhpσ_17
              refine lv_iload_n hx hb dX11_sayer_84 rfl (lv_at hl 1 rfl) ?_
              have gc_18_r_16 := q_rng r_16
              have gc_18_v1 := q_rng v1
              refine q_icmp_ne (A := r_16.toInt) (B := v1.toInt) E rfl rfl (tgt := 111) dX11_sayer_85 (by decide) (fun c_18 => ?_) (fun c_18 => ?_)
              · skip
                replace hF := q_ifn hF c_18
                obtain ⟨z_19, ez_19⟩ : ∃ y : Int32, y = x_8 + 1 := ⟨_, rfl⟩
                replace hF := q_letX hF ez_19
                refine lv_iinc (v := z_19) (lv' := [(3, .int z_19), (0, .ref a), (1, .int v1), (2, .int 0)]) hx hb dX11_sayer_111 hl (k := 3) rfl (by rw [ez_19]; rfl) (by decide) rfl (fun ls hl => ?_)
                have iz_19 : z_19.toInt = x_8.toInt + 1 := q_inc ez_19 (by first | (clear ahpσ_2 bhpσ_2 chpσ_2 c_3 c_5 bf_6 c_7 hm52 gc_11_f_10 ahpσ_17 bhpσ_17 gc_18_r_16 gc_18_v1 c_18; omega) | omega)
                refine lv_goto (tgt := 52) hx hb dX11_sayer_114 (by decide) ?_
                exact ih52 z_19 _ _ ls (by first | (clear ahpσ_2 bhpσ_2 chpσ_2 c_3 c_5 bf_6 c_7 gc_11_f_10 ahpσ_17 bhpσ_17 gc_18_r_16 gc_18_v1; omega) | omega) (by first | (clear ahpσ_2 bhpσ_2 chpσ_2 c_3 c_5 bf_6 c_7 hm52 bf_10 gc_11_f_10 c_11 ahpσ_17 bhpσ_17 gc_18_r_16 gc_18_v1 c_18; omega) | omega) hF hI (lv_sub hl [1, 2, 3, 0] rfl)
              · skip
                replace hF := q_ifp hF c_18
                unfold F_X11_sayer_E88_3 at hF
                refine lv_aload_n hx hb dX11_sayer_88 rfl (lv_at hl 0 rfl) ?_
                refine lv_aload_n hx hb dX11_sayer_89 rfl (lv_at hl 0 rfl) ?_
                refine gs_X11_42_11 E hI ha dX11_sayer_90 ?_
                refine gs_X11_147_1 E hI (q_tk (k' := 1) hI ha rfl (Nat.succ_ne_zero _)) dX11_sayer_93 ?_
                refine lv_aload_n hx hb dX11_sayer_96 rfl (lv_at hl 0 rfl) ?_
                refine gs_X11_42_11 E hI ha dX11_sayer_97 ?_
                refine gs_X11_198_1 E hI (q_tk (k' := 1) hI ha rfl (Nat.succ_ne_zero _)) dX11_sayer_100 ?_
                refine lv_topi (fun f_20 ef_20 => ?_)
                replace hF := q_letX hF ef_20
                refine lv_iload_n hx hb dX11_sayer_103 rfl (lv_at hl 3 rfl) ?_
                refine q_ci (q_rV5_2 (rest := [.ref a]) E (hml.trans hl.1.symm) hI (c_X6_playerAfter l X σ (q_rf X (q_rf X a 8) 0) f_20 x_8 (q_tk (k' := 6) hI (q_tk (k' := 1) hI ha rfl (Nat.succ_ne_zero _)) rfl (Nat.succ_ne_zero _))) kv_X11_339 (q_tk (k' := 6) hI (q_tk (k' := 1) hI ha rfl (Nat.succ_ne_zero _)) rfl (Nat.succ_ne_zero _)) ⟨Nat.le_of_ble_eq_true rfl, Nat.le_of_ble_eq_true rfl⟩ (Nat.le_of_ble_eq_true rfl) dX11_sayer_104) hI (Nat.le_of_ble_eq_true rfl) (fun r_21 σ_22 H locs hpσ_22 hkσ_22 hI => ?_)
                have ahpσ_22 := hpσ_22.1
                have bhpσ_22 := hpσ_22.2
                clear hpσ_22
                replace hI := q_Irw ahpσ_22 hI
                replace hF := q_letX hF bhpσ_22
                refine q_ci (q_rV10_1 (rest := []) E (hml.trans hl.1.symm) hI (c_X11_good l X σ a r_21 ha) kv_X11_156 ha ⟨Nat.le_of_ble_eq_true rfl, Nat.le_of_ble_eq_true rfl⟩ (Nat.le_of_ble_eq_true rfl) dX11_sayer_107) hI (Nat.le_of_ble_eq_true rfl) (fun r_23 σ_24 H locs hpσ_24 hkσ_24 hI => ?_)
                have ahpσ_24 := hpσ_24.1
                have bhpσ_24 := hpσ_24.2.1
                have chpσ_24 := hpσ_24.2.2
                clear hpσ_24
                have fr_σ_24 := fr_σ.call chpσ_24 rfl rfl
                replace hF := q_biX hF bhpσ_24
                exact q_reti E hr hlk hI ⟨(hF.trans hout), fr_σ_24⟩ dX11_sayer_110
        exact L_52_9 ((2147483647 - (0 : Int32).toInt).toNat + 1) 0 _ _ ls (Nat.lt_succ_self _) (by decide) hF hI (lv_sub hl [2, 3, 1, 0] rfl)
      · skip
        replace hF := q_ifn hF c_7
        refine lv_iconst (v := 1) hx hb dX11_sayer_44 zki_1 ?_
        refine lv_goto (tgt := 49) hx hb dX11_sayer_45 (by decide) ?_
        refine lv_istore_n (lv' := [(2, .int 1), (0, .ref a), (1, .int v1)]) hx hb dX11_sayer_49 rfl hl (by decide) rfl (fun ls hl => ?_)
        refine lv_iload_n hx hb dX11_sayer_50 rfl (lv_at hl 0 rfl) ?_
        refine lv_istore_n (lv' := [(3, .int 1), (2, .int 1), (0, .ref a), (1, .int v1)]) hx hb dX11_sayer_51 rfl hl (by decide) rfl (fun ls hl => ?_)
        have L_52_26 : ∀ (k_26 : Nat) (x_25 : Int32) (H : Heap) (locs : List Loc) (ls : Array Slot), (2147483647 - x_25.toInt).toNat < k_26 → (0 ≤ x_25.toInt) → (F_X11_sayer_L52_4 X σ a v1 k_26 x_25 = out) → q_I X 8 σ s.heap locs σ H → lv_has ls 4 [(0, .ref a), (1, .int v1), (2, .int 1), (3, .int x_25)] → W p l e (q_rm 2 44) s m ([.ref a, .int v1] : List Value).toArray below meth c H locs 0 0 (MQ below (q_Qi X 8 σ (fun (r : Int32) (σ' : ST) => (r, σ') = F_X11_sayer X σ a v1 ∧ q_ow [(11, 0)] [] X σ σ')) ([.ref a, .int v1] : List Value).toArray s 0 0 (q_reg X)) (F0 m 52 ls []) := by
          clear hF
          intro k_26
          induction k_26 with
          | zero =>
            intro x_25 H locs ls hms
            exact absurd hms (Nat.not_lt_zero _)
          | succ k_26 ih52 =>
            intro x_25 H locs ls hm52 hge52 hF hI hl
            replace hF := (F_X11_sayer_L52_4_s).symm.trans hF
            unfold F_X11_sayer_B52_4 at hF
            refine lv_iload_n hx hb dX11_sayer_52 rfl (lv_at hl 3 rfl) ?_
            refine lv_aload_n hx hb dX11_sayer_53 rfl (lv_at hl 0 rfl) ?_
            refine gs_X11_42_11 E hI ha dX11_sayer_54 ?_
            refine gs_X11_147_1 E hI (q_tk (k' := 1) hI ha rfl (Nat.succ_ne_zero _)) dX11_sayer_57 ?_
            refine gs_X11_183_6 E hI (q_tk (k' := 6) hI (q_tk (k' := 1) hI ha rfl (Nat.succ_ne_zero _)) rfl (Nat.succ_ne_zero _)) dX11_sayer_60 ?_
            refine lv_topi (fun f_27 ef_27 => ?_)
            replace hF := q_letX hF ef_27
            have bf_27 : -2147483648 ≤ f_27.toInt ∧ f_27.toInt ≤ 10 := by rw [ef_27]; exact q_bd hI (q_tk (k' := 6) hI (q_tk (k' := 1) hI ha rfl (Nat.succ_ne_zero _)) rfl (Nat.succ_ne_zero _)) rfl
            have gc_28_x_25 := q_rng x_25
            have gc_28_f_27 := q_rng f_27
            refine q_icmp_gt (A := x_25.toInt) (B := f_27.toInt) E rfl rfl (tgt := 117) dX11_sayer_63 (by decide) (fun c_28 => ?_) (fun c_28 => ?_)
            · skip
              replace hF := q_ifp hF c_28
              unfold F_X11_sayer_E117_5 at hF
              refine lv_aload_n hx hb dX11_sayer_117 rfl (lv_at hl 0 rfl) ?_
              refine lv_bipush (v := 8) hx hb dX11_sayer_118 zkb_8 ?_
              have kc_29 : (8 : Int32).toInt = 8 := zt_8
              refine q_ci (q_rV10_1 (rest := []) E (hml.trans hl.1.symm) hI (c_X11_none l X σ a (8 : Int32) ha) kv_X11_109 ha ⟨Nat.le_of_ble_eq_true rfl, Nat.le_of_ble_eq_true rfl⟩ (Nat.le_of_ble_eq_true rfl) dX11_sayer_120) hI (Nat.le_of_ble_eq_true rfl) (fun r_30 σ_31 H locs hpσ_31 hkσ_31 hI => ?_)
              have ahpσ_31 := hpσ_31.1
              have bhpσ_31 := hpσ_31.2.1
              have chpσ_31 := hpσ_31.2.2
              clear hpσ_31
              have fr_σ_31 := fr_σ.call chpσ_31 rfl rfl
              replace hF := q_biX hF bhpσ_31
              exact q_reti E hr hlk hI ⟨(hF.trans hout), fr_σ_31⟩ dX11_sayer_123
            · skip
              replace hF := q_ifn hF (Int.not_lt.mpr c_28)
              refine lv_aload_n hx hb dX11_sayer_66 rfl (lv_at hl 0 rfl) ?_
              refine gs_X11_42_11 E hI ha dX11_sayer_67 ?_
              refine gs_X11_147_1 E hI (q_tk (k' := 1) hI ha rfl (Nat.succ_ne_zero _)) dX11_sayer_70 ?_
              refine lv_aload_n hx hb dX11_sayer_73 rfl (lv_at hl 0 rfl) ?_
              refine gs_X11_42_11 E hI ha dX11_sayer_74 ?_
              refine gs_X11_195_1 E hI (q_tk (k' := 1) hI ha rfl (Nat.succ_ne_zero _)) dX11_sayer_77 ?_
              refine lv_topi (fun f_32 ef_32 => ?_)
              replace hF := q_letX hF ef_32
              refine lv_iload_n hx hb dX11_sayer_80 rfl (lv_at hl 3 rfl) ?_
              refine q_ci (q_rV5_2 (rest := []) E (hml.trans hl.1.symm) hI (c_X6_kindAfter l X σ (q_rf X (q_rf X a 8) 0) f_32 x_25 (q_tk (k' := 6) hI (q_tk (k' := 1) hI ha rfl (Nat.succ_ne_zero _)) rfl (Nat.succ_ne_zero _))) kv_X11_386 (q_tk (k' := 6) hI (q_tk (k' := 1) hI ha rfl (Nat.succ_ne_zero _)) rfl (Nat.succ_ne_zero _)) ⟨Nat.le_of_ble_eq_true rfl, Nat.le_of_ble_eq_true rfl⟩ (Nat.le_of_ble_eq_true rfl) dX11_sayer_81) hI (Nat.le_of_ble_eq_true rfl) (fun r_33 σ_34 H locs hpσ_34 hkσ_34 hI => ?_)
              have ahpσ_34 := hpσ_34.1
              have bhpσ_34 := hpσ_34.2
              clear hpσ_34
              replace hI := q_Irw ahpσ_34 hI
              replace hF := q_letX hF bhpσ_34
              refine lv_iload_n hx hb dX11_sayer_84 rfl (lv_at hl 1 rfl) ?_
              have gc_35_r_33 := q_rng r_33
              have gc_35_v1 := q_rng v1
              refine q_icmp_ne (A := r_33.toInt) (B := v1.toInt) E rfl rfl (tgt := 111) dX11_sayer_85 (by decide) (fun c_35 => ?_) (fun c_35 => ?_)
              · skip
                replace hF := q_ifn hF c_35
                obtain ⟨z_36, ez_36⟩ : ∃ y : Int32, y = x_25 + 1 := ⟨_, rfl⟩
                replace hF := q_letX hF ez_36
                refine lv_iinc (v := z_36) (lv' := [(3, .int z_36), (0, .ref a), (1, .int v1), (2, .int 1)]) hx hb dX11_sayer_111 hl (k := 3) rfl (by rw [ez_36]; rfl) (by decide) rfl (fun ls hl => ?_)
                have iz_36 : z_36.toInt = x_25.toInt + 1 := q_inc ez_36 (by first | (clear ahpσ_2 bhpσ_2 chpσ_2 c_3 c_5 bf_6 c_7 hm52 gc_28_f_27 ahpσ_34 bhpσ_34 gc_35_r_33 gc_35_v1 c_35; omega) | omega)
                refine lv_goto (tgt := 52) hx hb dX11_sayer_114 (by decide) ?_
                exact ih52 z_36 _ _ ls (by first | (clear ahpσ_2 bhpσ_2 chpσ_2 c_3 c_5 bf_6 c_7 gc_28_f_27 ahpσ_34 bhpσ_34 gc_35_r_33 gc_35_v1; omega) | omega) (by first | (clear ahpσ_2 bhpσ_2 chpσ_2 c_3 c_5 bf_6 c_7 hm52 bf_27 gc_28_f_27 c_28 ahpσ_34 bhpσ_34 gc_35_r_33 gc_35_v1 c_35; omega) | omega) hF hI (lv_sub hl [1, 2, 3, 0] rfl)
              · skip
                replace hF := q_ifp hF c_35
                unfold F_X11_sayer_E88_6 at hF
                refine lv_aload_n hx hb dX11_sayer_88 rfl (lv_at hl 0 rfl) ?_
                refine lv_aload_n hx hb dX11_sayer_89 rfl (lv_at hl 0 rfl) ?_
                refine gs_X11_42_11 E hI ha dX11_sayer_90 ?_
                refine gs_X11_147_1 E hI (q_tk (k' := 1) hI ha rfl (Nat.succ_ne_zero _)) dX11_sayer_93 ?_
                refine lv_aload_n hx hb dX11_sayer_96 rfl (lv_at hl 0 rfl) ?_
                refine gs_X11_42_11 E hI ha dX11_sayer_97 ?_
                refine gs_X11_198_1 E hI (q_tk (k' := 1) hI ha rfl (Nat.succ_ne_zero _)) dX11_sayer_100 ?_
                refine lv_topi (fun f_37 ef_37 => ?_)
                replace hF := q_letX hF ef_37
                refine lv_iload_n hx hb dX11_sayer_103 rfl (lv_at hl 3 rfl) ?_
                refine q_ci (q_rV5_2 (rest := [.ref a]) E (hml.trans hl.1.symm) hI (c_X6_playerAfter l X σ (q_rf X (q_rf X a 8) 0) f_37 x_25 (q_tk (k' := 6) hI (q_tk (k' := 1) hI ha rfl (Nat.succ_ne_zero _)) rfl (Nat.succ_ne_zero _))) kv_X11_339 (q_tk (k' := 6) hI (q_tk (k' := 1) hI ha rfl (Nat.succ_ne_zero _)) rfl (Nat.succ_ne_zero _)) ⟨Nat.le_of_ble_eq_true rfl, Nat.le_of_ble_eq_true rfl⟩ (Nat.le_of_ble_eq_true rfl) dX11_sayer_104) hI (Nat.le_of_ble_eq_true rfl) (fun r_38 σ_39 H locs hpσ_39 hkσ_39 hI => ?_)
                have ahpσ_39 := hpσ_39.1
                have bhpσ_39 := hpσ_39.2
                clear hpσ_39
                replace hI := q_Irw ahpσ_39 hI
                replace hF := q_letX hF bhpσ_39
                refine q_ci (q_rV10_1 (rest := []) E (hml.trans hl.1.symm) hI (c_X11_good l X σ a r_38 ha) kv_X11_156 ha ⟨Nat.le_of_ble_eq_true rfl, Nat.le_of_ble_eq_true rfl⟩ (Nat.le_of_ble_eq_true rfl) dX11_sayer_107) hI (Nat.le_of_ble_eq_true rfl) (fun r_40 σ_41 H locs hpσ_41 hkσ_41 hI => ?_)
                have ahpσ_41 := hpσ_41.1
                have bhpσ_41 := hpσ_41.2.1
                have chpσ_41 := hpσ_41.2.2
                clear hpσ_41
                have fr_σ_41 := fr_σ.call chpσ_41 rfl rfl
                replace hF := q_biX hF bhpσ_41
                exact q_reti E hr hlk hI ⟨(hF.trans hout), fr_σ_41⟩ dX11_sayer_110
        exact L_52_26 ((2147483647 - (1 : Int32).toInt).toNat + 1) 1 _ _ ls (Nat.lt_succ_self _) (by decide) hF hI (lv_sub hl [2, 3, 1, 0] rfl)
    · skip
      replace hF := q_ifp hF c_5
      refine lv_aload_n hx hb dX11_sayer_27 rfl (lv_at hl 0 rfl) ?_
      refine lv_bipush (v := 8) hx hb dX11_sayer_28 zkb_8 ?_
      have kc_42 : (8 : Int32).toInt = 8 := zt_8
      refine q_ci (q_rV10_1 (rest := []) E (hml.trans hl.1.symm) hI (c_X11_none l X σ a (8 : Int32) ha) kv_X11_109 ha ⟨Nat.le_of_ble_eq_true rfl, Nat.le_of_ble_eq_true rfl⟩ (Nat.le_of_ble_eq_true rfl) dX11_sayer_30) hI (Nat.le_of_ble_eq_true rfl) (fun r_43 σ_44 H locs hpσ_44 hkσ_44 hI => ?_)
      have ahpσ_44 := hpσ_44.1
      have bhpσ_44 := hpσ_44.2.1
      have chpσ_44 := hpσ_44.2.2
      clear hpσ_44
      have fr_σ_44 := fr_σ.call chpσ_44 rfl rfl
      replace hF := q_biX hF bhpσ_44
      exact q_reti E hr hlk hI ⟨(hF.trans hout), fr_σ_44⟩ dX11_sayer_33
  · skip
    replace hF := q_ifp hF c_3
    refine lv_aload_n hx hb dX11_sayer_8 rfl (lv_at hl 0 rfl) ?_
    refine lv_iconst (v := 2) hx hb dX11_sayer_9 zki_2 ?_
    have kc_45 : (2 : Int32).toInt = 2 := zt_2
    refine q_ci (q_rV10_1 (rest := []) E (hml.trans hl.1.symm) hI (c_X11_none l X σ a (2 : Int32) ha) kv_X11_109 ha ⟨Nat.le_of_ble_eq_true rfl, Nat.le_of_ble_eq_true rfl⟩ (Nat.le_of_ble_eq_true rfl) dX11_sayer_10) hI (Nat.le_of_ble_eq_true rfl) (fun r_46 σ_47 H locs hpσ_47 hkσ_47 hI => ?_)
    have ahpσ_47 := hpσ_47.1
    have bhpσ_47 := hpσ_47.2.1
    have chpσ_47 := hpσ_47.2.2
    clear hpσ_47
    have fr_σ_47 := fr_σ.call chpσ_47 rfl rfl
    replace hF := q_biX hF bhpσ_47
    exact q_reti E hr hlk hI ⟨(hF.trans hout), fr_σ_47⟩ dX11_sayer_13

set_option maxRecDepth 100000 in
set_option maxHeartbeats 4000000 in
theorem c_X11_has (l : Launch) (X : XW) (σ : ST) (a : Nat) (v1 : Int32) (ha : q_kd X a = 11) : Met l yX11_has (q_ws yX11_has cX11_has 4 (some .int)) (q_rm 2 43) (q_P X σ [.ref a, .int v1]) (q_Qi X 8 σ (fun (r : Int32) (σ' : ST) => (r, σ') = F_X11_has X σ a v1 ∧ q_ow [(11, 0)] [] X σ σ')) 0 0 (q_reg X) := by
  refine q_met 8 (by first | exact rfl | decide +kernel) rfl (Nat.le_of_ble_eq_true rfl) (fun p e s m below meth c E hml hr hlk hI ls hl => ?_)
  have hx := E.1
  have hb := E.2.1
  have hl : lv_has ls 4 [(0, .ref a), (1, .int v1)] := hl
  have fr_σ : q_ow [(11, 0)] [] X σ σ := q_ow.rf
  obtain ⟨out, hout⟩ : ∃ o, o = F_X11_has X σ a v1 := ⟨_, rfl⟩
  have hF := hout.symm
  unfold F_X11_has at hF
  refine lv_aload_n hx hb dX11_has_0 rfl (lv_at hl 0 rfl) ?_
  refine lv_iload_n hx hb dX11_has_1 rfl (lv_at hl 1 rfl) ?_
  refine q_ci (q_rV10_1 (rest := []) E (hml.trans hl.1.symm) hI (c_X11_isPlayer l X σ a v1 ha) kv_X11_219 ha ⟨Nat.le_of_ble_eq_true rfl, Nat.le_of_ble_eq_true rfl⟩ (Nat.le_of_ble_eq_true rfl) dX11_has_2) hI (Nat.le_of_ble_eq_true rfl) (fun r_1 σ_2 H locs hpσ_2 hkσ_2 hI => ?_)
  have ahpσ_2 := hpσ_2.1
  have bhpσ_2 := hpσ_2.2.1
  have chpσ_2 := hpσ_2.2.2
  clear hpσ_2
  replace hI := q_Irw ahpσ_2 hI
  replace hF := q_letX hF chpσ_2
  refine q_if_ne (A := r_1.toInt) E rfl (tgt := 14) dX11_has_5 (by decide) (fun c_3 => ?_) (fun c_3 => ?_)
  · skip
    replace hF := q_ifn hF c_3
    replace c_3 := q_ifOne bhpσ_2 c_3
    refine lv_iconst (v := 0) hx hb dX11_has_14 zki_0 ?_
    refine lv_istore_n (lv' := [(2, .int 0), (0, .ref a), (1, .int v1)]) hx hb dX11_has_15 rfl hl (by decide) rfl (fun ls hl => ?_)
    refine lv_iconst (v := 0) hx hb dX11_has_16 zki_0 ?_
    refine lv_istore_n (lv' := [(3, .int 0), (2, .int 0), (0, .ref a), (1, .int v1)]) hx hb dX11_has_17 rfl hl (by decide) rfl (fun ls hl => ?_)
    have L_18_6 : ∀ (k_6 : Nat) (x_4 : Int32) (x_5 : Int32) (H : Heap) (locs : List Loc) (ls : Array Slot), (2147483647 - x_5.toInt).toNat < k_6 → (0 ≤ x_5.toInt) → (F_X11_has_L18_1 X σ a v1 k_6 x_4 x_5 = out) → q_I X 8 σ s.heap locs σ H → lv_has ls 4 [(0, .ref a), (1, .int v1), (2, .int x_4), (3, .int x_5)] → W p l e (q_rm 2 43) s m ([.ref a, .int v1] : List Value).toArray below meth c H locs 0 0 (MQ below (q_Qi X 8 σ (fun (r : Int32) (σ' : ST) => (r, σ') = F_X11_has X σ a v1 ∧ q_ow [(11, 0)] [] X σ σ')) ([.ref a, .int v1] : List Value).toArray s 0 0 (q_reg X)) (F0 m 18 ls []) := by
      clear hF
      intro k_6
      induction k_6 with
      | zero =>
        intro x_4 x_5 H locs ls hms
        exact absurd hms (Nat.not_lt_zero _)
      | succ k_6 ih18 =>
        intro x_4 x_5 H locs ls hm18 hge18 hF hI hl
        replace hF := (F_X11_has_L18_1_s).symm.trans hF
        unfold F_X11_has_B18_1 at hF
        refine lv_iload_n hx hb dX11_has_18 rfl (lv_at hl 3 rfl) ?_
        refine lv_aload_n hx hb dX11_has_19 rfl (lv_at hl 0 rfl) ?_
        refine gs_X11_42_11 E hI ha dX11_has_20 ?_
        refine gs_X11_147_1 E hI (q_tk (k' := 1) hI ha rfl (Nat.succ_ne_zero _)) dX11_has_23 ?_
        refine gs_X11_183_6 E hI (q_tk (k' := 6) hI (q_tk (k' := 1) hI ha rfl (Nat.succ_ne_zero _)) rfl (Nat.succ_ne_zero _)) dX11_has_26 ?_
        refine lv_topi (fun f_7 ef_7 => ?_)
        replace hF := q_letX hF ef_7
        have bf_7 : -2147483648 ≤ f_7.toInt ∧ f_7.toInt ≤ 10 := by rw [ef_7]; exact q_bd hI (q_tk (k' := 6) hI (q_tk (k' := 1) hI ha rfl (Nat.succ_ne_zero _)) rfl (Nat.succ_ne_zero _)) rfl
        have gc_8_x_5 := q_rng x_5
        have gc_8_f_7 := q_rng f_7
        refine q_icmp_ge (A := x_5.toInt) (B := f_7.toInt) E rfl rfl (tgt := 59) dX11_has_29 (by decide) (fun c_8 => ?_) (fun c_8 => ?_)
        · skip
          replace hF := q_ifn hF (Int.not_lt.mpr c_8)
          unfold F_X11_has_E59_2 at hF
          refine lv_aload_n hx hb dX11_has_59 rfl (lv_at hl 0 rfl) ?_
          refine lv_iload_n hx hb dX11_has_60 rfl (lv_at hl 2 rfl) ?_
          refine q_ci (q_rV10_1 (rest := []) E (hml.trans hl.1.symm) hI (c_X11_good l X σ a x_4 ha) kv_X11_156 ha ⟨Nat.le_of_ble_eq_true rfl, Nat.le_of_ble_eq_true rfl⟩ (Nat.le_of_ble_eq_true rfl) dX11_has_61) hI (Nat.le_of_ble_eq_true rfl) (fun r_9 σ_10 H locs hpσ_10 hkσ_10 hI => ?_)
          have ahpσ_10 := hpσ_10.1
          have bhpσ_10 := hpσ_10.2.1
          have chpσ_10 := hpσ_10.2.2
          clear hpσ_10
          have fr_σ_10 := fr_σ.call chpσ_10 rfl rfl
          replace hF := q_biX hF bhpσ_10
          exact q_reti E hr hlk hI ⟨(hF.trans hout), fr_σ_10⟩ dX11_has_64
        · skip
          replace hF := q_ifp hF c_8
          refine lv_aload_n hx hb dX11_has_32 rfl (lv_at hl 0 rfl) ?_
          refine gs_X11_42_11 E hI ha dX11_has_33 ?_
          refine gs_X11_222_1 E hI (q_tk (k' := 1) hI ha rfl (Nat.succ_ne_zero _)) dX11_has_36 ?_
          refine lv_iload_n hx hb dX11_has_39 rfl (lv_at hl 1 rfl) ?_
          refine lv_iload_n hx hb dX11_has_40 rfl (lv_at hl 3 rfl) ?_
          refine q_ci (q_rV1_2 (rest := []) E (hml.trans hl.1.symm) hI (c_X1_heldBy l X σ (q_rf X (q_rf X a 8) 1) v1 x_5 (q_tk (k' := 2) hI (q_tk (k' := 1) hI ha rfl (Nat.succ_ne_zero _)) rfl (Nat.succ_ne_zero _))) kv_X11_253 (q_tk (k' := 2) hI (q_tk (k' := 1) hI ha rfl (Nat.succ_ne_zero _)) rfl (Nat.succ_ne_zero _)) ⟨Nat.le_of_ble_eq_true rfl, Nat.le_of_ble_eq_true rfl⟩ (Nat.le_of_ble_eq_true rfl) dX11_has_41) hI (Nat.le_of_ble_eq_true rfl) (fun r_11 σ_12 H locs hpσ_12 hkσ_12 hI => ?_)
          have ahpσ_12 := hpσ_12.1
          have bhpσ_12 := hpσ_12.2
          clear hpσ_12
          replace hI := q_Irw ahpσ_12 hI
          replace hF := q_letX hF bhpσ_12
          refine q_if_le (A := r_11.toInt) E rfl (tgt := 53) dX11_has_44 (by decide) (fun c_13 => ?_) (fun c_13 => ?_)
          · skip
            replace hF := q_ifn hF (Int.not_lt.mpr c_13)
            obtain ⟨z_14, ez_14⟩ : ∃ y : Int32, y = x_5 + 1 := ⟨_, rfl⟩
            replace hF := q_letX hF ez_14
            refine lv_iinc (v := z_14) (lv' := [(3, .int z_14), (0, .ref a), (1, .int v1), (2, .int x_4)]) hx hb dX11_has_53 hl (k := 3) rfl (by rw [ez_14]; rfl) (by decide) rfl (fun ls hl => ?_)
            have iz_14 : z_14.toInt = x_5.toInt + 1 := q_inc ez_14 (by first | (clear ahpσ_2 bhpσ_2 chpσ_2 c_3 hm18 gc_8_f_7 ahpσ_12 bhpσ_12 c_13; omega) | omega)
            refine lv_goto (tgt := 18) hx hb dX11_has_56 (by decide) ?_
            exact ih18 x_4 z_14 _ _ ls (by first | (clear ahpσ_2 bhpσ_2 chpσ_2 c_3 gc_8_f_7 ahpσ_12 bhpσ_12 c_13; omega) | omega) (by first | (clear ahpσ_2 bhpσ_2 chpσ_2 c_3 hm18 bf_7 gc_8_f_7 c_8 ahpσ_12 bhpσ_12 c_13; omega) | omega) hF hI (lv_sub hl [1, 2, 3, 0] rfl)
          · skip
            replace hF := q_ifp hF c_13
            refine lv_iload_n hx hb dX11_has_47 rfl (lv_at hl 2 rfl) ?_
            refine lv_iconst (v := 1) hx hb dX11_has_48 zki_1 ?_
            refine lv_iload_n hx hb dX11_has_49 rfl (lv_at hl 3 rfl) ?_
            refine lv_ishl hx hb dX11_has_50 ?_
            refine lv_topi (fun z_15 ez_15 => ?_)
            replace hF := q_letX hF ez_15
            refine lv_ior hx hb dX11_has_51 ?_
            refine lv_topi (fun z_16 ez_16 => ?_)
            replace hF := q_letX hF ez_16
            refine lv_istore_n (lv' := [(2, .int z_16), (0, .ref a), (1, .int v1), (3, .int x_5)]) hx hb dX11_has_52 rfl hl (by decide) rfl (fun ls hl => ?_)
            obtain ⟨z_17, ez_17⟩ : ∃ y : Int32, y = x_5 + 1 := ⟨_, rfl⟩
            replace hF := q_letX hF ez_17
            refine lv_iinc (v := z_17) (lv' := [(3, .int z_17), (2, .int z_16), (0, .ref a), (1, .int v1)]) hx hb dX11_has_53 hl (k := 3) rfl (by rw [ez_17]; rfl) (by decide) rfl (fun ls hl => ?_)
            have iz_17 : z_17.toInt = x_5.toInt + 1 := q_inc ez_17 (by first | (clear ahpσ_2 bhpσ_2 chpσ_2 c_3 hm18 gc_8_f_7 ahpσ_12 bhpσ_12 c_13; omega) | omega)
            refine lv_goto (tgt := 18) hx hb dX11_has_56 (by decide) ?_
            exact ih18 z_16 z_17 _ _ ls (by first | (clear ahpσ_2 bhpσ_2 chpσ_2 c_3 gc_8_f_7 ahpσ_12 bhpσ_12 c_13; omega) | omega) (by first | (clear ahpσ_2 bhpσ_2 chpσ_2 c_3 hm18 bf_7 gc_8_f_7 c_8 ahpσ_12 bhpσ_12 c_13; omega) | omega) hF hI (lv_sub hl [2, 3, 1, 0] rfl)
    exact L_18_6 ((2147483647 - (0 : Int32).toInt).toNat + 1) 0 0 _ _ ls (Nat.lt_succ_self _) (by decide) hF hI (lv_sub hl [2, 3, 1, 0] rfl)
  · skip
    replace hF := q_ifp hF c_3
    refine lv_aload_n hx hb dX11_has_8 rfl (lv_at hl 0 rfl) ?_
    refine lv_iconst (v := 2) hx hb dX11_has_9 zki_2 ?_
    have kc_18 : (2 : Int32).toInt = 2 := zt_2
    refine q_ci (q_rV10_1 (rest := []) E (hml.trans hl.1.symm) hI (c_X11_none l X σ a (2 : Int32) ha) kv_X11_109 ha ⟨Nat.le_of_ble_eq_true rfl, Nat.le_of_ble_eq_true rfl⟩ (Nat.le_of_ble_eq_true rfl) dX11_has_10) hI (Nat.le_of_ble_eq_true rfl) (fun r_19 σ_20 H locs hpσ_20 hkσ_20 hI => ?_)
    have ahpσ_20 := hpσ_20.1
    have bhpσ_20 := hpσ_20.2.1
    have chpσ_20 := hpσ_20.2.2
    clear hpσ_20
    have fr_σ_20 := fr_σ.call chpσ_20 rfl rfl
    replace hF := q_biX hF bhpσ_20
    exact q_reti E hr hlk hI ⟨(hF.trans hout), fr_σ_20⟩ dX11_has_13
end
/-! FROM 16.class.b05.lean.txt -/
section
set_option maxRecDepth 100000 in
set_option maxHeartbeats 4000000 in
theorem c_X11_lies (l : Launch) (X : XW) (σ : ST) (a : Nat) (v1 : Int32) (ha : q_kd X a = 11) : Met l yX11_lies (q_ws yX11_lies cX11_lies 2 (some .int)) (q_rm 3 66) (q_P X σ [.ref a, .int v1]) (q_Qi X 8 σ (fun (r : Int32) (σ' : ST) => (r, σ') = F_X11_lies X σ a v1 ∧ q_ow [(11, 0)] [] X σ σ')) 0 0 (q_reg X) := by
  refine q_met 8 (by first | exact rfl | decide +kernel) rfl (Nat.le_of_ble_eq_true rfl) (fun p e s m below meth c E hml hr hlk hI ls hl => ?_)
  have hx := E.1
  have hb := E.2.1
  have hl : lv_has ls 2 [(0, .ref a), (1, .int v1)] := hl
  have fr_σ : q_ow [(11, 0)] [] X σ σ := q_ow.rf
  obtain ⟨out, hout⟩ : ∃ o, o = F_X11_lies X σ a v1 := ⟨_, rfl⟩
  have hF := hout.symm
  unfold F_X11_lies at hF
  refine lv_aload_n hx hb dX11_lies_0 rfl (lv_at hl 0 rfl) ?_
  refine lv_iload_n hx hb dX11_lies_1 rfl (lv_at hl 1 rfl) ?_
  refine q_ci (q_rV10_1 (rest := []) E (hml.trans hl.1.symm) hI (c_X11_isKind l X σ a v1 ha) kv_X11_250 ha ⟨Nat.le_of_ble_eq_true rfl, Nat.le_of_ble_eq_true rfl⟩ (Nat.le_of_ble_eq_true rfl) dX11_lies_2) hI (Nat.le_of_ble_eq_true rfl) (fun r_1 σ_2 H locs hpσ_2 hkσ_2 hI => ?_)
  have ahpσ_2 := hpσ_2.1
  have bhpσ_2 := hpσ_2.2.1
  have chpσ_2 := hpσ_2.2.2
  clear hpσ_2
  replace hI := q_Irw ahpσ_2 hI
  replace hF := q_letX hF chpσ_2
  refine q_if_eq (A := r_1.toInt) E rfl (tgt := 23) dX11_lies_5 (by decide) (fun c_3 => ?_) (fun c_3 => ?_)
  · skip
    replace hF := q_ifp hF c_3
    refine lv_aload_n hx hb dX11_lies_23 rfl (lv_at hl 0 rfl) ?_
    refine lv_iconst (v := 2) hx hb dX11_lies_24 zki_2 ?_
    have kc_4 : (2 : Int32).toInt = 2 := zt_2
    refine q_ci (q_rV10_1 (rest := []) E (hml.trans hl.1.symm) hI (c_X11_none l X σ a (2 : Int32) ha) kv_X11_109 ha ⟨Nat.le_of_ble_eq_true rfl, Nat.le_of_ble_eq_true rfl⟩ (Nat.le_of_ble_eq_true rfl) dX11_lies_25) hI (Nat.le_of_ble_eq_true rfl) (fun r_5 σ_6 H locs hpσ_6 hkσ_6 hI => ?_)
    have ahpσ_6 := hpσ_6.1
    have bhpσ_6 := hpσ_6.2.1
    have chpσ_6 := hpσ_6.2.2
    clear hpσ_6
    have fr_σ_6 := fr_σ.call chpσ_6 rfl rfl
    replace hF := q_biX hF bhpσ_6
    exact q_reti E hr hlk hI ⟨(hF.trans hout), fr_σ_6⟩ dX11_lies_28
  · skip
    replace hF := q_ifn hF c_3
    replace c_3 := q_ifOne bhpσ_2 c_3
    refine lv_aload_n hx hb dX11_lies_8 rfl (lv_at hl 0 rfl) ?_
    refine lv_aload_n hx hb dX11_lies_9 rfl (lv_at hl 0 rfl) ?_
    refine gs_X11_42_11 E hI ha dX11_lies_10 ?_
    refine lv_iload_n hx hb dX11_lies_13 rfl (lv_at hl 1 rfl) ?_
    refine q_ci (q_rV0_1 (rest := [.ref a]) E (hml.trans hl.1.symm) hI (c_X0_lyingOf l X σ (q_rf X a 8) v1 (q_tk (k' := 1) hI ha rfl (Nat.succ_ne_zero _))) kv_X11_389 (q_tk (k' := 1) hI ha rfl (Nat.succ_ne_zero _)) ⟨Nat.le_of_ble_eq_true rfl, Nat.le_of_ble_eq_true rfl⟩ (Nat.le_of_ble_eq_true rfl) dX11_lies_14) hI (Nat.le_of_ble_eq_true rfl) (fun r_7 σ_8 H locs hpσ_8 hkσ_8 hI => ?_)
    have ahpσ_8 := hpσ_8.1
    have bhpσ_8 := hpσ_8.2
    clear hpσ_8
    replace hI := q_Irw ahpσ_8 hI
    replace hF := q_letX hF bhpσ_8
    refine q_ci (q_rV10_1 (rest := []) E (hml.trans hl.1.symm) hI (c_X11_good l X σ a r_7 ha) kv_X11_156 ha ⟨Nat.le_of_ble_eq_true rfl, Nat.le_of_ble_eq_true rfl⟩ (Nat.le_of_ble_eq_true rfl) dX11_lies_17) hI (Nat.le_of_ble_eq_true rfl) (fun r_9 σ_10 H locs hpσ_10 hkσ_10 hI => ?_)
    have ahpσ_10 := hpσ_10.1
    have bhpσ_10 := hpσ_10.2.1
    have chpσ_10 := hpσ_10.2.2
    clear hpσ_10
    have fr_σ_10 := fr_σ.call chpσ_10 rfl rfl
    replace hF := q_biX hF bhpσ_10
    refine lv_goto (tgt := 28) hx hb dX11_lies_20 (by decide) ?_
    exact q_reti E hr hlk hI ⟨(hF.trans hout), fr_σ_10⟩ dX11_lies_28

set_option maxRecDepth 100000 in
set_option maxHeartbeats 4000000 in
theorem c_X11_guess (l : Launch) (X : XW) (σ : ST) (a : Nat) (v1 : Int32) (v2 : Int32) (v3 : Int32) (ha : q_kd X a = 11) : Met l yX11_guess (q_ws yX11_guess cX11_guess 5 (some .boolean)) (q_rm 4 89) (q_P X σ [.ref a, .int v1, .int v2, .int v3]) (q_Qi X 8 σ (fun (r : Int32) (σ' : ST) => (0 ≤ r.toInt ∧ r.toInt ≤ 1) ∧ (r, σ') = F_X11_guess X σ a v1 v2 v3 ∧ q_ow [(11, 0)] [(11, 1), (11, 2)] X σ σ')) 0 0 (q_reg X) := by
  refine q_met 8 (by first | exact rfl | decide +kernel) rfl (Nat.le_of_ble_eq_true rfl) (fun p e s m below meth c E hml hr hlk hI ls hl => ?_)
  have hx := E.1
  have hb := E.2.1
  have hl : lv_has ls 5 [(0, .ref a), (1, .int v1), (2, .int v2), (3, .int v3)] := hl
  have fr_σ : q_ow [(11, 0)] [(11, 1), (11, 2)] X σ σ := q_ow.rf
  obtain ⟨out, hout⟩ : ∃ o, o = F_X11_guess X σ a v1 v2 v3 := ⟨_, rfl⟩
  have hF := hout.symm
  unfold F_X11_guess at hF
  refine lv_aload_n hx hb dX11_guess_0 rfl (lv_at hl 0 rfl) ?_
  refine lv_iload_n hx hb dX11_guess_1 rfl (lv_at hl 1 rfl) ?_
  refine q_ci (q_rV10_1 (rest := []) E (hml.trans hl.1.symm) hI (c_X11_isPlayer l X σ a v1 ha) kv_X11_219 ha ⟨Nat.le_of_ble_eq_true rfl, Nat.le_of_ble_eq_true rfl⟩ (Nat.le_of_ble_eq_true rfl) dX11_guess_2) hI (Nat.le_of_ble_eq_true rfl) (fun r_1 σ_2 H locs hpσ_2 hkσ_2 hI => ?_)
  have ahpσ_2 := hpσ_2.1
  have bhpσ_2 := hpσ_2.2.1
  have chpσ_2 := hpσ_2.2.2
  clear hpσ_2
  replace hI := q_Irw ahpσ_2 hI
  replace hF := q_letX hF chpσ_2
  refine q_if_eq (A := r_1.toInt) E rfl (tgt := 16) dX11_guess_5 (by decide) (fun c_3 => ?_) (fun c_3 => ?_)
  · skip
    replace hF := q_ifp hF c_3
    refine lv_aload_n hx hb dX11_guess_16 rfl (lv_at hl 0 rfl) ?_
    refine lv_iconst (v := 2) hx hb dX11_guess_17 zki_2 ?_
    have kc_4 : (2 : Int32).toInt = 2 := zt_2
    refine q_ci (q_rV10_1 (rest := []) E (hml.trans hl.1.symm) hI (c_X11_no l X σ a (2 : Int32) ha) kv_X11_89 ha ⟨Nat.le_of_ble_eq_true rfl, Nat.le_of_ble_eq_true rfl⟩ (Nat.le_of_ble_eq_true rfl) dX11_guess_18) hI (Nat.le_of_ble_eq_true rfl) (fun r_5 σ_6 H locs hpσ_6 hkσ_6 hI => ?_)
    have ahpσ_6 := hpσ_6.1
    have bhpσ_6 := hpσ_6.2.1
    have chpσ_6 := hpσ_6.2.2.1
    have dhpσ_6 := hpσ_6.2.2.2
    clear hpσ_6
    have fr_σ_6 := fr_σ.call dhpσ_6 rfl rfl
    replace hF := q_biX hF chpσ_6
    exact q_retz E hr hlk hI ⟨by omega, by omega⟩ ⟨⟨by omega, by omega⟩, (hF.trans hout), fr_σ_6⟩ dX11_guess_21
  · skip
    replace hF := q_ifn hF c_3
    replace c_3 := q_ifOne bhpσ_2 c_3
    refine lv_aload_n hx hb dX11_guess_8 rfl (lv_at hl 0 rfl) ?_
    refine lv_iload_n hx hb dX11_guess_9 rfl (lv_at hl 2 rfl) ?_
    refine q_ci (q_rV10_1 (rest := []) E (hml.trans hl.1.symm) hI (c_X11_isKind l X σ a v2 ha) kv_X11_250 ha ⟨Nat.le_of_ble_eq_true rfl, Nat.le_of_ble_eq_true rfl⟩ (Nat.le_of_ble_eq_true rfl) dX11_guess_10) hI (Nat.le_of_ble_eq_true rfl) (fun r_7 σ_8 H locs hpσ_8 hkσ_8 hI => ?_)
    have ahpσ_8 := hpσ_8.1
    have bhpσ_8 := hpσ_8.2.1
    have chpσ_8 := hpσ_8.2.2
    clear hpσ_8
    replace hI := q_Irw ahpσ_8 hI
    replace hF := q_letX hF chpσ_8
    refine q_if_ne (A := r_7.toInt) E rfl (tgt := 22) dX11_guess_13 (by decide) (fun c_9 => ?_) (fun c_9 => ?_)
    · skip
      replace hF := q_ifn hF c_9
      replace c_9 := q_ifOne bhpσ_8 c_9
      refine lv_iload_n hx hb dX11_guess_22 rfl (lv_at hl 3 rfl) ?_
      refine q_if_lt (A := v3.toInt) E rfl (tgt := 31) dX11_guess_23 (by decide) (fun c_10 => ?_) (fun c_10 => ?_)
      · skip
        replace hF := q_ifp hF c_10
        refine lv_aload_n hx hb dX11_guess_31 rfl (lv_at hl 0 rfl) ?_
        refine lv_iconst (v := 5) hx hb dX11_guess_32 zki_5 ?_
        have kc_11 : (5 : Int32).toInt = 5 := zt_5
        refine q_ci (q_rV10_1 (rest := []) E (hml.trans hl.1.symm) hI (c_X11_no l X σ a (5 : Int32) ha) kv_X11_89 ha ⟨Nat.le_of_ble_eq_true rfl, Nat.le_of_ble_eq_true rfl⟩ (Nat.le_of_ble_eq_true rfl) dX11_guess_33) hI (Nat.le_of_ble_eq_true rfl) (fun r_12 σ_13 H locs hpσ_13 hkσ_13 hI => ?_)
        have ahpσ_13 := hpσ_13.1
        have bhpσ_13 := hpσ_13.2.1
        have chpσ_13 := hpσ_13.2.2.1
        have dhpσ_13 := hpσ_13.2.2.2
        clear hpσ_13
        have fr_σ_13 := fr_σ.call dhpσ_13 rfl rfl
        replace hF := q_biX hF chpσ_13
        exact q_retz E hr hlk hI ⟨by omega, by omega⟩ ⟨⟨by omega, by omega⟩, (hF.trans hout), fr_σ_13⟩ dX11_guess_36
      · skip
        replace hF := q_ifn hF (Int.not_lt.mpr c_10)
        refine lv_iload_n hx hb dX11_guess_26 rfl (lv_at hl 3 rfl) ?_
        refine lv_iconst (v := 4) hx hb dX11_guess_27 zki_4 ?_
        refine q_icmp_le (A := v3.toInt) (B := 4) E rfl (by decide) (tgt := 37) dX11_guess_28 (by decide) (fun c_14 => ?_) (fun c_14 => ?_)
        · skip
          replace hF := q_ifn hF (Int.not_lt.mpr c_14)
          refine lv_aload_n hx hb dX11_guess_37 rfl (lv_at hl 0 rfl) ?_
          refine gs_X11_42_11 E hI ha dX11_guess_38 ?_
          refine lv_iload_n hx hb dX11_guess_41 rfl (lv_at hl 1 rfl) ?_
          refine q_ci (q_rV0_1 (rest := []) E (hml.trans hl.1.symm) hI (c_X0_allUnknownTo l X σ (q_rf X a 8) v1 (q_tk (k' := 1) hI ha rfl (Nat.succ_ne_zero _))) kv_X11_311 (q_tk (k' := 1) hI ha rfl (Nat.succ_ne_zero _)) ⟨Nat.le_of_ble_eq_true rfl, Nat.le_of_ble_eq_true rfl⟩ (Nat.le_of_ble_eq_true rfl) dX11_guess_42) hI (Nat.le_of_ble_eq_true rfl) (fun r_15 σ_16 H locs hpσ_16 hkσ_16 hI => ?_)
          have ahpσ_16 := hpσ_16.1
          have bhpσ_16 := hpσ_16.2
          clear hpσ_16
          replace hI := q_Irw ahpσ_16 hI
          replace hF := q_letX hF bhpσ_16
          refine lv_istore (lv' := [(4, .int r_15), (0, .ref a), (1, .int v1), (2, .int v2), (3, .int v3)]) hx hb dX11_guess_45 hl (by decide) rfl (fun ls hl => ?_)
          refine lv_iload hx hb dX11_guess_47 (lv_at hl 0 rfl) ?_
          refine lv_iload_n hx hb dX11_guess_49 rfl (lv_at hl 4 rfl) ?_
          refine q_icmp_ge (A := r_15.toInt) (B := v3.toInt) E rfl rfl (tgt := 60) dX11_guess_50 (by decide) (fun c_17 => ?_) (fun c_17 => ?_)
          · skip
            replace hF := q_ifn hF (Int.not_lt.mpr c_17)
            refine lv_aload_n hx hb dX11_guess_60 rfl (lv_at hl 1 rfl) ?_
            refine lv_aload_n hx hb dX11_guess_61 rfl (lv_at hl 1 rfl) ?_
            refine gs_X11_42_11 E hI ha dX11_guess_62 ?_
            refine lv_iload_n hx hb dX11_guess_65 rfl (lv_at hl 2 rfl) ?_
            refine lv_iload_n hx hb dX11_guess_66 rfl (lv_at hl 3 rfl) ?_
            refine q_ci (q_rV0_2 (rest := [.ref a]) E (hml.trans hl.1.symm) hI (c_X0_unknownTo l X σ (q_rf X a 8) v1 v2 (q_tk (k' := 1) hI ha rfl (Nat.succ_ne_zero _))) kv_X11_314 (q_tk (k' := 1) hI ha rfl (Nat.succ_ne_zero _)) ⟨Nat.le_of_ble_eq_true rfl, Nat.le_of_ble_eq_true rfl⟩ (Nat.le_of_ble_eq_true rfl) dX11_guess_67) hI (Nat.le_of_ble_eq_true rfl) (fun r_18 σ_19 H locs hpσ_19 hkσ_19 hI => ?_)
            have ahpσ_19 := hpσ_19.1
            have bhpσ_19 := hpσ_19.2
            clear hpσ_19
            replace hI := q_Irw ahpσ_19 hI
            replace hF := q_letX hF bhpσ_19
            refine lv_iload_n hx hb dX11_guess_70 rfl (lv_at hl 4 rfl) ?_
            refine q_cl_ (q_runS (As := [.int r_18, .int v3]) (rest := [.ref a]) E (hml.trans hl.1.symm) hI (c_X11_waysToTake l X σ r_18 v3) ks_X11_392 rfl ⟨Nat.le_of_ble_eq_true rfl, Nat.le_of_ble_eq_true rfl⟩ ⟨Nat.le_refl _, Nat.le_refl _⟩ rfl (Nat.le_of_ble_eq_true rfl) dX11_guess_71) hI (Nat.le_of_ble_eq_true rfl) (fun r_20 σ_21 H locs hpσ_21 hkσ_21 hI => ?_)
            have ahpσ_21 := hpσ_21.1
            have bhpσ_21 := hpσ_21.2
            clear hpσ_21
            replace hI := q_Irw ahpσ_21 hI
            replace hF := q_letX hF bhpσ_21
            refine lv_iload hx hb dX11_guess_74 (lv_at hl 0 rfl) ?_
            refine lv_iload_n hx hb dX11_guess_76 rfl (lv_at hl 4 rfl) ?_
            refine q_cl_ (q_runS (As := [.int r_15, .int v3]) (rest := [.long r_20, .ref a]) E (hml.trans hl.1.symm) hI (c_X11_waysToTake l X σ r_15 v3) ks_X11_392 rfl ⟨Nat.le_of_ble_eq_true rfl, Nat.le_of_ble_eq_true rfl⟩ ⟨Nat.le_refl _, Nat.le_refl _⟩ rfl (Nat.le_of_ble_eq_true rfl) dX11_guess_77) hI (Nat.le_of_ble_eq_true rfl) (fun r_22 σ_23 H locs hpσ_23 hkσ_23 hI => ?_)
            have ahpσ_23 := hpσ_23.1
            have bhpσ_23 := hpσ_23.2
            clear hpσ_23
            replace hI := q_Irw ahpσ_23 hI
            replace hF := q_letX hF bhpσ_23
            refine q_ci (q_rV10_2 (rest := []) E (hml.trans hl.1.symm) hI (c_X11_tell l X σ a r_20 r_22 ha) kv_X11_326 ha ⟨Nat.le_of_ble_eq_true rfl, Nat.le_of_ble_eq_true rfl⟩ (Nat.le_of_ble_eq_true rfl) dX11_guess_80) hI (Nat.le_of_ble_eq_true rfl) (fun r_24 σ_25 H locs hpσ_25 hkσ_25 hI => ?_)
            have ahpσ_25 := hpσ_25.1
            have bhpσ_25 := hpσ_25.2.1
            have chpσ_25 := hpσ_25.2.2
            clear hpσ_25
            have fr_σ_25 := fr_σ.call chpσ_25 rfl rfl
            replace hF := q_biX hF bhpσ_25
            exact q_retz E hr hlk hI ⟨by omega, by omega⟩ ⟨⟨by omega, by omega⟩, (hF.trans hout), fr_σ_25⟩ dX11_guess_83
          · skip
            replace hF := q_ifp hF c_17
            refine lv_aload_n hx hb dX11_guess_53 rfl (lv_at hl 1 rfl) ?_
            refine lv_bipush (v := 9) hx hb dX11_guess_54 zkb_9 ?_
            have kc_26 : (9 : Int32).toInt = 9 := zt_9
            refine q_ci (q_rV10_1 (rest := []) E (hml.trans hl.1.symm) hI (c_X11_no l X σ a (9 : Int32) ha) kv_X11_89 ha ⟨Nat.le_of_ble_eq_true rfl, Nat.le_of_ble_eq_true rfl⟩ (Nat.le_of_ble_eq_true rfl) dX11_guess_56) hI (Nat.le_of_ble_eq_true rfl) (fun r_27 σ_28 H locs hpσ_28 hkσ_28 hI => ?_)
            have ahpσ_28 := hpσ_28.1
            have bhpσ_28 := hpσ_28.2.1
            have chpσ_28 := hpσ_28.2.2.1
            have dhpσ_28 := hpσ_28.2.2.2
            clear hpσ_28
            have fr_σ_28 := fr_σ.call dhpσ_28 rfl rfl
            replace hF := q_biX hF chpσ_28
            exact q_retz E hr hlk hI ⟨by omega, by omega⟩ ⟨⟨by omega, by omega⟩, (hF.trans hout), fr_σ_28⟩ dX11_guess_59
        · skip
          replace hF := q_ifp hF c_14
          refine lv_aload_n hx hb dX11_guess_31 rfl (lv_at hl 0 rfl) ?_
          refine lv_iconst (v := 5) hx hb dX11_guess_32 zki_5 ?_
          have kc_29 : (5 : Int32).toInt = 5 := zt_5
          refine q_ci (q_rV10_1 (rest := []) E (hml.trans hl.1.symm) hI (c_X11_no l X σ a (5 : Int32) ha) kv_X11_89 ha ⟨Nat.le_of_ble_eq_true rfl, Nat.le_of_ble_eq_true rfl⟩ (Nat.le_of_ble_eq_true rfl) dX11_guess_33) hI (Nat.le_of_ble_eq_true rfl) (fun r_30 σ_31 H locs hpσ_31 hkσ_31 hI => ?_)
          have ahpσ_31 := hpσ_31.1
          have bhpσ_31 := hpσ_31.2.1
          have chpσ_31 := hpσ_31.2.2.1
          have dhpσ_31 := hpσ_31.2.2.2
          clear hpσ_31
          have fr_σ_31 := fr_σ.call dhpσ_31 rfl rfl
          replace hF := q_biX hF chpσ_31
          exact q_retz E hr hlk hI ⟨by omega, by omega⟩ ⟨⟨by omega, by omega⟩, (hF.trans hout), fr_σ_31⟩ dX11_guess_36
    · skip
      replace hF := q_ifp hF c_9
      refine lv_aload_n hx hb dX11_guess_16 rfl (lv_at hl 0 rfl) ?_
      refine lv_iconst (v := 2) hx hb dX11_guess_17 zki_2 ?_
      have kc_32 : (2 : Int32).toInt = 2 := zt_2
      refine q_ci (q_rV10_1 (rest := []) E (hml.trans hl.1.symm) hI (c_X11_no l X σ a (2 : Int32) ha) kv_X11_89 ha ⟨Nat.le_of_ble_eq_true rfl, Nat.le_of_ble_eq_true rfl⟩ (Nat.le_of_ble_eq_true rfl) dX11_guess_18) hI (Nat.le_of_ble_eq_true rfl) (fun r_33 σ_34 H locs hpσ_34 hkσ_34 hI => ?_)
      have ahpσ_34 := hpσ_34.1
      have bhpσ_34 := hpσ_34.2.1
      have chpσ_34 := hpσ_34.2.2.1
      have dhpσ_34 := hpσ_34.2.2.2
      clear hpσ_34
      have fr_σ_34 := fr_σ.call dhpσ_34 rfl rfl
      replace hF := q_biX hF chpσ_34
      exact q_retz E hr hlk hI ⟨by omega, by omega⟩ ⟨⟨by omega, by omega⟩, (hF.trans hout), fr_σ_34⟩ dX11_guess_21

set_option maxRecDepth 100000 in
set_option maxHeartbeats 4000000 in
theorem c_X11_fullest (l : Launch) (X : XW) (σ : ST) (a : Nat) (ha : q_kd X a = 11) : Met l yX11_fullest (q_ws yX11_fullest cX11_fullest 4 (some .int)) (q_rm 2 42) (q_P X σ [.ref a]) (q_Qi X 8 σ (fun (r : Int32) (σ' : ST) => (r, σ') = F_X11_fullest X σ a ∧ q_ow [(11, 0)] [] X σ σ')) 0 0 (q_reg X) := by
  refine q_met 8 (by first | exact rfl | decide +kernel) rfl (Nat.le_of_ble_eq_true rfl) (fun p e s m below meth c E hml hr hlk hI ls hl => ?_)
  have hx := E.1
  have hb := E.2.1
  have hl : lv_has ls 4 [(0, .ref a)] := hl
  have fr_σ : q_ow [(11, 0)] [] X σ σ := q_ow.rf
  obtain ⟨out, hout⟩ : ∃ o, o = F_X11_fullest X σ a := ⟨_, rfl⟩
  have hF := hout.symm
  unfold F_X11_fullest at hF
  refine lv_iconst (v := (-1)) hx hb dX11_fullest_0 zki_m1 ?_
  refine lv_istore_n (lv' := [(1, .int (-1)), (0, .ref a)]) hx hb dX11_fullest_1 rfl hl (by decide) rfl (fun ls hl => ?_)
  refine lv_iconst (v := (-1)) hx hb dX11_fullest_2 zki_m1 ?_
  refine lv_istore_n (lv' := [(2, .int (-1)), (1, .int (-1)), (0, .ref a)]) hx hb dX11_fullest_3 rfl hl (by decide) rfl (fun ls hl => ?_)
  refine lv_iconst (v := 0) hx hb dX11_fullest_4 zki_0 ?_
  refine lv_istore_n (lv' := [(3, .int 0), (2, .int (-1)), (1, .int (-1)), (0, .ref a)]) hx hb dX11_fullest_5 rfl hl (by decide) rfl (fun ls hl => ?_)
  have L_6_4 : ∀ (k_4 : Nat) (x_1 : Int32) (x_2 : Int32) (x_3 : Int32) (H : Heap) (locs : List Loc) (ls : Array Slot), (2147483647 - x_3.toInt).toNat < k_4 → (0 ≤ x_3.toInt) → (F_X11_fullest_L6_1 X σ a k_4 x_1 x_2 x_3 = out) → q_I X 8 σ s.heap locs σ H → lv_has ls 4 [(0, .ref a), (1, .int x_1), (2, .int x_2), (3, .int x_3)] → W p l e (q_rm 2 42) s m ([.ref a] : List Value).toArray below meth c H locs 0 0 (MQ below (q_Qi X 8 σ (fun (r : Int32) (σ' : ST) => (r, σ') = F_X11_fullest X σ a ∧ q_ow [(11, 0)] [] X σ σ')) ([.ref a] : List Value).toArray s 0 0 (q_reg X)) (F0 m 6 ls []) := by
    clear hF
    intro k_4
    induction k_4 with
    | zero =>
      intro x_1 x_2 x_3 H locs ls hms
      exact absurd hms (Nat.not_lt_zero _)
    | succ k_4 ih6 =>
      intro x_1 x_2 x_3 H locs ls hm6 hge6 hF hI hl
      replace hF := (F_X11_fullest_L6_1_s).symm.trans hF
      unfold F_X11_fullest_B6_1 at hF
      refine lv_iload_n hx hb dX11_fullest_6 rfl (lv_at hl 3 rfl) ?_
      refine lv_aload_n hx hb dX11_fullest_7 rfl (lv_at hl 0 rfl) ?_
      refine gs_X11_42_11 E hI ha dX11_fullest_8 ?_
      refine gs_X11_147_1 E hI (q_tk (k' := 1) hI ha rfl (Nat.succ_ne_zero _)) dX11_fullest_11 ?_
      refine gs_X11_151_6 E hI (q_tk (k' := 6) hI (q_tk (k' := 1) hI ha rfl (Nat.succ_ne_zero _)) rfl (Nat.succ_ne_zero _)) dX11_fullest_14 ?_
      refine lv_topi (fun f_5 ef_5 => ?_)
      replace hF := q_letX hF ef_5
      have gc_6_x_3 := q_rng x_3
      have gc_6_f_5 := q_rng f_5
      refine q_icmp_ge (A := x_3.toInt) (B := f_5.toInt) E rfl rfl (tgt := 61) dX11_fullest_17 (by decide) (fun c_6 => ?_) (fun c_6 => ?_)
      · skip
        replace hF := q_ifn hF (Int.not_lt.mpr c_6)
        unfold F_X11_fullest_E61_2 at hF
        refine lv_aload_n hx hb dX11_fullest_61 rfl (lv_at hl 0 rfl) ?_
        refine lv_iload_n hx hb dX11_fullest_62 rfl (lv_at hl 1 rfl) ?_
        refine q_ci (q_rV10_1 (rest := []) E (hml.trans hl.1.symm) hI (c_X11_goodOrNotThere l X σ a x_1 ha) kv_X11_366 ha ⟨Nat.le_of_ble_eq_true rfl, Nat.le_of_ble_eq_true rfl⟩ (Nat.le_of_ble_eq_true rfl) dX11_fullest_63) hI (Nat.le_of_ble_eq_true rfl) (fun r_7 σ_8 H locs hpσ_8 hkσ_8 hI => ?_)
        have ahpσ_8 := hpσ_8.1
        have bhpσ_8 := hpσ_8.2
        clear hpσ_8
        have fr_σ_8 := fr_σ.call bhpσ_8 rfl rfl
        replace hF := q_biX hF ahpσ_8
        exact q_reti E hr hlk hI ⟨(hF.trans hout), fr_σ_8⟩ dX11_fullest_66
      · skip
        replace hF := q_ifp hF c_6
        refine lv_aload_n hx hb dX11_fullest_20 rfl (lv_at hl 0 rfl) ?_
        refine gs_X11_42_11 E hI ha dX11_fullest_21 ?_
        refine gs_X11_222_1 E hI (q_tk (k' := 1) hI ha rfl (Nat.succ_ne_zero _)) dX11_fullest_24 ?_
        refine gs_X11_239_2 E hI (q_tk (k' := 2) hI (q_tk (k' := 1) hI ha rfl (Nat.succ_ne_zero _)) rfl (Nat.succ_ne_zero _)) dX11_fullest_27 ?_
        refine lv_iload_n hx hb dX11_fullest_30 rfl (lv_at hl 3 rfl) ?_
        refine q_ci (q_rV4_1 (rest := []) E (hml.trans hl.1.symm) hI (c_X5_get l X σ (q_rf X (q_rf X (q_rf X a 8) 1) 2) x_3 (q_tk (k' := 5) hI (q_tk (k' := 2) hI (q_tk (k' := 1) hI ha rfl (Nat.succ_ne_zero _)) rfl (Nat.succ_ne_zero _)) rfl (Nat.succ_ne_zero _))) kv_X11_232 (q_tk (k' := 5) hI (q_tk (k' := 2) hI (q_tk (k' := 1) hI ha rfl (Nat.succ_ne_zero _)) rfl (Nat.succ_ne_zero _)) rfl (Nat.succ_ne_zero _)) ⟨Nat.le_of_ble_eq_true rfl, Nat.le_of_ble_eq_true rfl⟩ (Nat.le_of_ble_eq_true rfl) dX11_fullest_31) hI (Nat.le_of_ble_eq_true rfl) (fun r_9 σ_10 H locs hpσ_10 hkσ_10 hI => ?_)
        have ahpσ_10 := hpσ_10.1
        have bhpσ_10 := hpσ_10.2
        clear hpσ_10
        replace hI := q_Irw ahpσ_10 hI
        replace hF := q_letX hF bhpσ_10
        refine lv_iload_n hx hb dX11_fullest_34 rfl (lv_at hl 2 rfl) ?_
        have gc_11_r_9 := q_rng r_9
        have gc_11_x_2 := q_rng x_2
        refine q_icmp_le (A := r_9.toInt) (B := x_2.toInt) E rfl rfl (tgt := 55) dX11_fullest_35 (by decide) (fun c_11 => ?_) (fun c_11 => ?_)
        · skip
          replace hF := q_ifn hF (Int.not_lt.mpr c_11)
          obtain ⟨z_12, ez_12⟩ : ∃ y : Int32, y = x_3 + 1 := ⟨_, rfl⟩
          replace hF := q_letX hF ez_12
          refine lv_iinc (v := z_12) (lv' := [(3, .int z_12), (0, .ref a), (1, .int x_1), (2, .int x_2)]) hx hb dX11_fullest_55 hl (k := 3) rfl (by rw [ez_12]; rfl) (by decide) rfl (fun ls hl => ?_)
          have iz_12 : z_12.toInt = x_3.toInt + 1 := q_inc ez_12 (by first | (clear hm6 ahpσ_10 bhpσ_10 gc_11_r_9 gc_11_x_2 c_11; omega) | omega)
          refine lv_goto (tgt := 6) hx hb dX11_fullest_58 (by decide) ?_
          exact ih6 x_1 x_2 z_12 _ _ ls (by first | (clear ahpσ_10 bhpσ_10 gc_11_r_9 gc_11_x_2 c_11; omega) | omega) (by first | (clear hm6 gc_6_f_5 c_6 ahpσ_10 bhpσ_10 gc_11_r_9 gc_11_x_2 c_11; omega) | omega) hF hI (lv_sub hl [1, 2, 3, 0] rfl)
        · skip
          replace hF := q_ifp hF c_11
          refine lv_aload_n hx hb dX11_fullest_38 rfl (lv_at hl 0 rfl) ?_
          refine gs_X11_42_11 E hI ha dX11_fullest_39 ?_
          refine gs_X11_222_1 E hI (q_tk (k' := 1) hI ha rfl (Nat.succ_ne_zero _)) dX11_fullest_42 ?_
          refine gs_X11_239_2 E hI (q_tk (k' := 2) hI (q_tk (k' := 1) hI ha rfl (Nat.succ_ne_zero _)) rfl (Nat.succ_ne_zero _)) dX11_fullest_45 ?_
          refine lv_iload_n hx hb dX11_fullest_48 rfl (lv_at hl 3 rfl) ?_
          refine q_ci (q_rV4_1 (rest := []) E (hml.trans hl.1.symm) hI (c_X5_get l X σ (q_rf X (q_rf X (q_rf X a 8) 1) 2) x_3 (q_tk (k' := 5) hI (q_tk (k' := 2) hI (q_tk (k' := 1) hI ha rfl (Nat.succ_ne_zero _)) rfl (Nat.succ_ne_zero _)) rfl (Nat.succ_ne_zero _))) kv_X11_232 (q_tk (k' := 5) hI (q_tk (k' := 2) hI (q_tk (k' := 1) hI ha rfl (Nat.succ_ne_zero _)) rfl (Nat.succ_ne_zero _)) rfl (Nat.succ_ne_zero _)) ⟨Nat.le_of_ble_eq_true rfl, Nat.le_of_ble_eq_true rfl⟩ (Nat.le_of_ble_eq_true rfl) dX11_fullest_49) hI (Nat.le_of_ble_eq_true rfl) (fun r_13 σ_14 H locs hpσ_14 hkσ_14 hI => ?_)
          have ahpσ_14 := hpσ_14.1
          have bhpσ_14 := hpσ_14.2
          clear hpσ_14
          replace hI := q_Irw ahpσ_14 hI
          replace hF := q_letX hF bhpσ_14
          refine lv_istore_n (lv' := [(2, .int r_13), (0, .ref a), (1, .int x_1), (3, .int x_3)]) hx hb dX11_fullest_52 rfl hl (by decide) rfl (fun ls hl => ?_)
          refine lv_iload_n hx hb dX11_fullest_53 rfl (lv_at hl 3 rfl) ?_
          refine lv_istore_n (lv' := [(1, .int x_3), (2, .int r_13), (0, .ref a), (3, .int x_3)]) hx hb dX11_fullest_54 rfl hl (by decide) rfl (fun ls hl => ?_)
          obtain ⟨z_15, ez_15⟩ : ∃ y : Int32, y = x_3 + 1 := ⟨_, rfl⟩
          replace hF := q_letX hF ez_15
          refine lv_iinc (v := z_15) (lv' := [(3, .int z_15), (1, .int x_3), (2, .int r_13), (0, .ref a)]) hx hb dX11_fullest_55 hl (k := 3) rfl (by rw [ez_15]; rfl) (by decide) rfl (fun ls hl => ?_)
          have iz_15 : z_15.toInt = x_3.toInt + 1 := q_inc ez_15 (by first | (clear hm6 ahpσ_10 bhpσ_10 gc_11_r_9 gc_11_x_2 c_11 ahpσ_14 bhpσ_14; omega) | omega)
          refine lv_goto (tgt := 6) hx hb dX11_fullest_58 (by decide) ?_
          exact ih6 x_3 r_13 z_15 _ _ ls (by first | (clear ahpσ_10 bhpσ_10 gc_11_r_9 gc_11_x_2 c_11 ahpσ_14 bhpσ_14; omega) | omega) (by first | (clear hm6 gc_6_f_5 c_6 ahpσ_10 bhpσ_10 gc_11_r_9 gc_11_x_2 c_11 ahpσ_14 bhpσ_14; omega) | omega) hF hI (lv_sub hl [3, 1, 2, 0] rfl)
  exact L_6_4 ((2147483647 - (0 : Int32).toInt).toNat + 1) (-1) (-1) 0 _ _ ls (Nat.lt_succ_self _) (by decide) hF hI (lv_sub hl [3, 2, 1, 0] rfl)

set_option maxRecDepth 100000 in
set_option maxHeartbeats 4000000 in
theorem c_X11_quartet (l : Launch) (X : XW) (σ : ST) (a : Nat) (v1 : Int32) (ha : q_kd X a = 11) : Met l yX11_quartet (q_ws yX11_quartet cX11_quartet 4 (some .int)) (q_rm 2 43) (q_P X σ [.ref a, .int v1]) (q_Qi X 8 σ (fun (r : Int32) (σ' : ST) => (r, σ') = F_X11_quartet X σ a v1 ∧ q_ow [(11, 0)] [] X σ σ')) 0 0 (q_reg X) := by
  refine q_met 8 (by first | exact rfl | decide +kernel) rfl (Nat.le_of_ble_eq_true rfl) (fun p e s m below meth c E hml hr hlk hI ls hl => ?_)
  have hx := E.1
  have hb := E.2.1
  have hl : lv_has ls 4 [(0, .ref a), (1, .int v1)] := hl
  have fr_σ : q_ow [(11, 0)] [] X σ σ := q_ow.rf
  obtain ⟨out, hout⟩ : ∃ o, o = F_X11_quartet X σ a v1 := ⟨_, rfl⟩
  have hF := hout.symm
  unfold F_X11_quartet at hF
  refine lv_aload_n hx hb dX11_quartet_0 rfl (lv_at hl 0 rfl) ?_
  refine lv_iload_n hx hb dX11_quartet_1 rfl (lv_at hl 1 rfl) ?_
  refine q_ci (q_rV10_1 (rest := []) E (hml.trans hl.1.symm) hI (c_X11_isPlayer l X σ a v1 ha) kv_X11_219 ha ⟨Nat.le_of_ble_eq_true rfl, Nat.le_of_ble_eq_true rfl⟩ (Nat.le_of_ble_eq_true rfl) dX11_quartet_2) hI (Nat.le_of_ble_eq_true rfl) (fun r_1 σ_2 H locs hpσ_2 hkσ_2 hI => ?_)
  have ahpσ_2 := hpσ_2.1
  have bhpσ_2 := hpσ_2.2.1
  have chpσ_2 := hpσ_2.2.2
  clear hpσ_2
  replace hI := q_Irw ahpσ_2 hI
  replace hF := q_letX hF chpσ_2
  refine q_if_ne (A := r_1.toInt) E rfl (tgt := 14) dX11_quartet_5 (by decide) (fun c_3 => ?_) (fun c_3 => ?_)
  · skip
    replace hF := q_ifn hF c_3
    replace c_3 := q_ifOne bhpσ_2 c_3
    refine lv_iconst (v := 0) hx hb dX11_quartet_14 zki_0 ?_
    refine lv_istore_n (lv' := [(2, .int 0), (0, .ref a), (1, .int v1)]) hx hb dX11_quartet_15 rfl hl (by decide) rfl (fun ls hl => ?_)
    have L_16_5 : ∀ (k_5 : Nat) (x_4 : Int32) (H : Heap) (locs : List Loc) (ls : Array Slot), (2147483647 - x_4.toInt).toNat < k_5 → (0 ≤ x_4.toInt) → (F_X11_quartet_L16_1 X σ a v1 k_5 x_4 = out) → q_I X 8 σ s.heap locs σ H → lv_has ls 4 [(0, .ref a), (1, .int v1), (2, .int x_4)] → W p l e (q_rm 2 43) s m ([.ref a, .int v1] : List Value).toArray below meth c H locs 0 0 (MQ below (q_Qi X 8 σ (fun (r : Int32) (σ' : ST) => (r, σ') = F_X11_quartet X σ a v1 ∧ q_ow [(11, 0)] [] X σ σ')) ([.ref a, .int v1] : List Value).toArray s 0 0 (q_reg X)) (F0 m 16 ls []) := by
      clear hF
      intro k_5
      induction k_5 with
      | zero =>
        intro x_4 H locs ls hms
        exact absurd hms (Nat.not_lt_zero _)
      | succ k_5 ih16 =>
        intro x_4 H locs ls hm16 hge16 hF hI hl
        replace hF := (F_X11_quartet_L16_1_s).symm.trans hF
        unfold F_X11_quartet_B16_1 at hF
        refine lv_iload_n hx hb dX11_quartet_16 rfl (lv_at hl 2 rfl) ?_
        refine lv_aload_n hx hb dX11_quartet_17 rfl (lv_at hl 0 rfl) ?_
        refine gs_X11_42_11 E hI ha dX11_quartet_18 ?_
        refine gs_X11_147_1 E hI (q_tk (k' := 1) hI ha rfl (Nat.succ_ne_zero _)) dX11_quartet_21 ?_
        refine gs_X11_183_6 E hI (q_tk (k' := 6) hI (q_tk (k' := 1) hI ha rfl (Nat.succ_ne_zero _)) rfl (Nat.succ_ne_zero _)) dX11_quartet_24 ?_
        refine lv_topi (fun f_6 ef_6 => ?_)
        replace hF := q_letX hF ef_6
        have bf_6 : -2147483648 ≤ f_6.toInt ∧ f_6.toInt ≤ 10 := by rw [ef_6]; exact q_bd hI (q_tk (k' := 6) hI (q_tk (k' := 1) hI ha rfl (Nat.succ_ne_zero _)) rfl (Nat.succ_ne_zero _)) rfl
        have gc_7_x_4 := q_rng x_4
        have gc_7_f_6 := q_rng f_6
        refine q_icmp_ge (A := x_4.toInt) (B := f_6.toInt) E rfl rfl (tgt := 77) dX11_quartet_27 (by decide) (fun c_7 => ?_) (fun c_7 => ?_)
        · skip
          replace hF := q_ifn hF (Int.not_lt.mpr c_7)
          unfold F_X11_quartet_E77_2 at hF
          refine lv_aload_n hx hb dX11_quartet_77 rfl (lv_at hl 0 rfl) ?_
          refine lv_bipush (v := 8) hx hb dX11_quartet_78 zkb_8 ?_
          have kc_8 : (8 : Int32).toInt = 8 := zt_8
          refine q_ci (q_rV10_1 (rest := []) E (hml.trans hl.1.symm) hI (c_X11_none l X σ a (8 : Int32) ha) kv_X11_109 ha ⟨Nat.le_of_ble_eq_true rfl, Nat.le_of_ble_eq_true rfl⟩ (Nat.le_of_ble_eq_true rfl) dX11_quartet_80) hI (Nat.le_of_ble_eq_true rfl) (fun r_9 σ_10 H locs hpσ_10 hkσ_10 hI => ?_)
          have ahpσ_10 := hpσ_10.1
          have bhpσ_10 := hpσ_10.2.1
          have chpσ_10 := hpσ_10.2.2
          clear hpσ_10
          have fr_σ_10 := fr_σ.call chpσ_10 rfl rfl
          replace hF := q_biX hF bhpσ_10
          exact q_reti E hr hlk hI ⟨(hF.trans hout), fr_σ_10⟩ dX11_quartet_83
        · skip
          replace hF := q_ifp hF c_7
          refine lv_aload_n hx hb dX11_quartet_30 rfl (lv_at hl 0 rfl) ?_
          refine gs_X11_42_11 E hI ha dX11_quartet_31 ?_
          refine gs_X11_147_1 E hI (q_tk (k' := 1) hI ha rfl (Nat.succ_ne_zero _)) dX11_quartet_34 ?_
          refine gs_X11_257_6 E hI (q_tk (k' := 6) hI (q_tk (k' := 1) hI ha rfl (Nat.succ_ne_zero _)) rfl (Nat.succ_ne_zero _)) dX11_quartet_37 ?_
          refine lv_iload_n hx hb dX11_quartet_40 rfl (lv_at hl 2 rfl) ?_
          refine q_ci (q_rV4_1 (rest := []) E (hml.trans hl.1.symm) hI (c_X5_get l X σ (q_rf X (q_rf X (q_rf X a 8) 0) 5) x_4 (q_tk (k' := 5) hI (q_tk (k' := 6) hI (q_tk (k' := 1) hI ha rfl (Nat.succ_ne_zero _)) rfl (Nat.succ_ne_zero _)) rfl (Nat.succ_ne_zero _))) kv_X11_232 (q_tk (k' := 5) hI (q_tk (k' := 6) hI (q_tk (k' := 1) hI ha rfl (Nat.succ_ne_zero _)) rfl (Nat.succ_ne_zero _)) rfl (Nat.succ_ne_zero _)) ⟨Nat.le_of_ble_eq_true rfl, Nat.le_of_ble_eq_true rfl⟩ (Nat.le_of_ble_eq_true rfl) dX11_quartet_41) hI (Nat.le_of_ble_eq_true rfl) (fun r_11 σ_12 H locs hpσ_12 hkσ_12 hI => ?_)
          have ahpσ_12 := hpσ_12.1
          have bhpσ_12 := hpσ_12.2
          clear hpσ_12
          replace hI := q_Irw ahpσ_12 hI
          replace hF := q_letX hF bhpσ_12
          refine lv_istore_n (lv' := [(3, .int r_11), (0, .ref a), (1, .int v1), (2, .int x_4)]) hx hb dX11_quartet_44 rfl hl (by decide) rfl (fun ls hl => ?_)
          refine lv_iload_n hx hb dX11_quartet_45 rfl (lv_at hl 0 rfl) ?_
          refine q_if_le (A := r_11.toInt) E rfl (tgt := 71) dX11_quartet_46 (by decide) (fun c_13 => ?_) (fun c_13 => ?_)
          · skip
            replace hF := q_ifn hF (Int.not_lt.mpr c_13)
            obtain ⟨z_14, ez_14⟩ : ∃ y : Int32, y = x_4 + 1 := ⟨_, rfl⟩
            replace hF := q_letX hF ez_14
            refine lv_iinc (v := z_14) (lv' := [(2, .int z_14), (3, .int r_11), (0, .ref a), (1, .int v1)]) hx hb dX11_quartet_71 hl (k := 3) rfl (by rw [ez_14]; rfl) (by decide) rfl (fun ls hl => ?_)
            have iz_14 : z_14.toInt = x_4.toInt + 1 := q_inc ez_14 (by omega)
            refine lv_goto (tgt := 16) hx hb dX11_quartet_74 (by decide) ?_
            exact ih16 z_14 _ _ ls (by omega) (by omega) hF hI (lv_sub hl [2, 3, 0] rfl)
          · skip
            replace hF := q_ifp hF c_13
            refine lv_aload_n hx hb dX11_quartet_49 rfl (lv_at hl 1 rfl) ?_
            refine gs_X11_42_11 E hI ha dX11_quartet_50 ?_
            refine gs_X11_222_1 E hI (q_tk (k' := 1) hI ha rfl (Nat.succ_ne_zero _)) dX11_quartet_53 ?_
            refine lv_iload_n hx hb dX11_quartet_56 rfl (lv_at hl 2 rfl) ?_
            refine lv_iload_n hx hb dX11_quartet_57 rfl (lv_at hl 3 rfl) ?_
            refine q_ci (q_rV1_2 (rest := []) E (hml.trans hl.1.symm) hI (c_X1_heldBy l X σ (q_rf X (q_rf X a 8) 1) v1 x_4 (q_tk (k' := 2) hI (q_tk (k' := 1) hI ha rfl (Nat.succ_ne_zero _)) rfl (Nat.succ_ne_zero _))) kv_X11_253 (q_tk (k' := 2) hI (q_tk (k' := 1) hI ha rfl (Nat.succ_ne_zero _)) rfl (Nat.succ_ne_zero _)) ⟨Nat.le_of_ble_eq_true rfl, Nat.le_of_ble_eq_true rfl⟩ (Nat.le_of_ble_eq_true rfl) dX11_quartet_58) hI (Nat.le_of_ble_eq_true rfl) (fun r_15 σ_16 H locs hpσ_16 hkσ_16 hI => ?_)
            have ahpσ_16 := hpσ_16.1
            have bhpσ_16 := hpσ_16.2
            clear hpσ_16
            replace hI := q_Irw ahpσ_16 hI
            replace hF := q_letX hF bhpσ_16
            refine lv_iload_n hx hb dX11_quartet_61 rfl (lv_at hl 0 rfl) ?_
            have gc_17_r_15 := q_rng r_15
            have gc_17_r_11 := q_rng r_11
            refine q_icmp_ne (A := r_15.toInt) (B := r_11.toInt) E rfl rfl (tgt := 71) dX11_quartet_62 (by decide) (fun c_17 => ?_) (fun c_17 => ?_)
            · skip
              replace hF := q_ifn hF c_17
              obtain ⟨z_18, ez_18⟩ : ∃ y : Int32, y = x_4 + 1 := ⟨_, rfl⟩
              replace hF := q_letX hF ez_18
              refine lv_iinc (v := z_18) (lv' := [(2, .int z_18), (3, .int r_11), (0, .ref a), (1, .int v1)]) hx hb dX11_quartet_71 hl (k := 3) rfl (by rw [ez_18]; rfl) (by decide) rfl (fun ls hl => ?_)
              have iz_18 : z_18.toInt = x_4.toInt + 1 := q_inc ez_18 (by first | (clear ahpσ_2 bhpσ_2 chpσ_2 c_3 hm16 gc_7_f_6 ahpσ_12 bhpσ_12 c_13 ahpσ_16 bhpσ_16 gc_17_r_15 gc_17_r_11 c_17; omega) | omega)
              refine lv_goto (tgt := 16) hx hb dX11_quartet_74 (by decide) ?_
              exact ih16 z_18 _ _ ls (by first | (clear ahpσ_2 bhpσ_2 chpσ_2 c_3 gc_7_f_6 ahpσ_12 bhpσ_12 c_13 ahpσ_16 bhpσ_16 gc_17_r_15 gc_17_r_11; omega) | omega) (by first | (clear ahpσ_2 bhpσ_2 chpσ_2 c_3 hm16 bf_6 gc_7_f_6 c_7 ahpσ_12 bhpσ_12 c_13 ahpσ_16 bhpσ_16 gc_17_r_15 gc_17_r_11 c_17; omega) | omega) hF hI (lv_sub hl [2, 3, 0] rfl)
            · skip
              replace hF := q_ifp hF c_17
              unfold F_X11_quartet_E65_3 at hF
              refine lv_aload_n hx hb dX11_quartet_65 rfl (lv_at hl 1 rfl) ?_
              refine lv_iload_n hx hb dX11_quartet_66 rfl (lv_at hl 3 rfl) ?_
              refine q_ci (q_rV10_1 (rest := []) E (hml.trans hl.1.symm) hI (c_X11_good l X σ a x_4 ha) kv_X11_156 ha ⟨Nat.le_of_ble_eq_true rfl, Nat.le_of_ble_eq_true rfl⟩ (Nat.le_of_ble_eq_true rfl) dX11_quartet_67) hI (Nat.le_of_ble_eq_true rfl) (fun r_19 σ_20 H locs hpσ_20 hkσ_20 hI => ?_)
              have ahpσ_20 := hpσ_20.1
              have bhpσ_20 := hpσ_20.2.1
              have chpσ_20 := hpσ_20.2.2
              clear hpσ_20
              have fr_σ_20 := fr_σ.call chpσ_20 rfl rfl
              replace hF := q_biX hF bhpσ_20
              exact q_reti E hr hlk hI ⟨(hF.trans hout), fr_σ_20⟩ dX11_quartet_70
    exact L_16_5 ((2147483647 - (0 : Int32).toInt).toNat + 1) 0 _ _ ls (Nat.lt_succ_self _) (by decide) hF hI (lv_sub hl [1, 2, 0] rfl)
  · skip
    replace hF := q_ifp hF c_3
    refine lv_aload_n hx hb dX11_quartet_8 rfl (lv_at hl 0 rfl) ?_
    refine lv_iconst (v := 2) hx hb dX11_quartet_9 zki_2 ?_
    have kc_21 : (2 : Int32).toInt = 2 := zt_2
    refine q_ci (q_rV10_1 (rest := []) E (hml.trans hl.1.symm) hI (c_X11_none l X σ a (2 : Int32) ha) kv_X11_109 ha ⟨Nat.le_of_ble_eq_true rfl, Nat.le_of_ble_eq_true rfl⟩ (Nat.le_of_ble_eq_true rfl) dX11_quartet_10) hI (Nat.le_of_ble_eq_true rfl) (fun r_22 σ_23 H locs hpσ_23 hkσ_23 hI => ?_)
    have ahpσ_23 := hpσ_23.1
    have bhpσ_23 := hpσ_23.2.1
    have chpσ_23 := hpσ_23.2.2
    clear hpσ_23
    have fr_σ_23 := fr_σ.call chpσ_23 rfl rfl
    replace hF := q_biX hF bhpσ_23
    exact q_reti E hr hlk hI ⟨(hF.trans hout), fr_σ_23⟩ dX11_quartet_13

set_option maxRecDepth 100000 in
set_option maxHeartbeats 4000000 in
theorem c_X11_sorts (l : Launch) (X : XW) (σ : ST) (a : Nat) (v1 : Int32) (ha : q_kd X a = 11) : Met l yX11_sorts (q_ws yX11_sorts cX11_sorts 4 (some .int)) (q_rm 2 44) (q_P X σ [.ref a, .int v1]) (q_Qi X 8 σ (fun (r : Int32) (σ' : ST) => (r, σ') = F_X11_sorts X σ a v1 ∧ q_ow [(11, 0)] [] X σ σ')) 0 0 (q_reg X) := by
  refine q_met 8 (by first | exact rfl | decide +kernel) rfl (Nat.le_of_ble_eq_true rfl) (fun p e s m below meth c E hml hr hlk hI ls hl => ?_)
  have hx := E.1
  have hb := E.2.1
  have hl : lv_has ls 4 [(0, .ref a), (1, .int v1)] := hl
  have fr_σ : q_ow [(11, 0)] [] X σ σ := q_ow.rf
  obtain ⟨out, hout⟩ : ∃ o, o = F_X11_sorts X σ a v1 := ⟨_, rfl⟩
  have hF := hout.symm
  unfold F_X11_sorts at hF
  refine lv_iload_n hx hb dX11_sorts_0 rfl (lv_at hl 1 rfl) ?_
  refine q_if_lt (A := v1.toInt) E rfl (tgt := 9) dX11_sorts_1 (by decide) (fun c_1 => ?_) (fun c_1 => ?_)
  · skip
    replace hF := q_ifp hF c_1
    refine lv_aload_n hx hb dX11_sorts_9 rfl (lv_at hl 0 rfl) ?_
    refine lv_iconst (v := 5) hx hb dX11_sorts_10 zki_5 ?_
    have kc_2 : (5 : Int32).toInt = 5 := zt_5
    refine q_ci (q_rV10_1 (rest := []) E (hml.trans hl.1.symm) hI (c_X11_none l X σ a (5 : Int32) ha) kv_X11_109 ha ⟨Nat.le_of_ble_eq_true rfl, Nat.le_of_ble_eq_true rfl⟩ (Nat.le_of_ble_eq_true rfl) dX11_sorts_11) hI (Nat.le_of_ble_eq_true rfl) (fun r_3 σ_4 H locs hpσ_4 hkσ_4 hI => ?_)
    have ahpσ_4 := hpσ_4.1
    have bhpσ_4 := hpσ_4.2.1
    have chpσ_4 := hpσ_4.2.2
    clear hpσ_4
    have fr_σ_4 := fr_σ.call chpσ_4 rfl rfl
    replace hF := q_biX hF bhpσ_4
    exact q_reti E hr hlk hI ⟨(hF.trans hout), fr_σ_4⟩ dX11_sorts_14
  · skip
    replace hF := q_ifn hF (Int.not_lt.mpr c_1)
    refine lv_iload_n hx hb dX11_sorts_4 rfl (lv_at hl 1 rfl) ?_
    refine lv_iconst (v := 2) hx hb dX11_sorts_5 zki_2 ?_
    have gc_5_v1 := q_rng v1
    refine q_icmp_le (A := v1.toInt) (B := 2) E rfl (by decide) (tgt := 15) dX11_sorts_6 (by decide) (fun c_5 => ?_) (fun c_5 => ?_)
    · skip
      replace hF := q_ifn hF (Int.not_lt.mpr c_5)
      refine lv_iconst (v := 0) hx hb dX11_sorts_15 zki_0 ?_
      refine lv_istore_n (lv' := [(2, .int 0), (0, .ref a), (1, .int v1)]) hx hb dX11_sorts_16 rfl hl (by decide) rfl (fun ls hl => ?_)
      refine lv_iconst (v := 0) hx hb dX11_sorts_17 zki_0 ?_
      refine lv_istore_n (lv' := [(3, .int 0), (2, .int 0), (0, .ref a), (1, .int v1)]) hx hb dX11_sorts_18 rfl hl (by decide) rfl (fun ls hl => ?_)
      have L_19_8 : ∀ (k_8 : Nat) (x_6 : Int32) (x_7 : Int32) (H : Heap) (locs : List Loc) (ls : Array Slot), (2147483647 - x_7.toInt).toNat < k_8 → (0 ≤ x_7.toInt) → (F_X11_sorts_L19_1 X σ a v1 k_8 x_6 x_7 = out) → q_I X 8 σ s.heap locs σ H → lv_has ls 4 [(0, .ref a), (1, .int v1), (2, .int x_6), (3, .int x_7)] → W p l e (q_rm 2 44) s m ([.ref a, .int v1] : List Value).toArray below meth c H locs 0 0 (MQ below (q_Qi X 8 σ (fun (r : Int32) (σ' : ST) => (r, σ') = F_X11_sorts X σ a v1 ∧ q_ow [(11, 0)] [] X σ σ')) ([.ref a, .int v1] : List Value).toArray s 0 0 (q_reg X)) (F0 m 19 ls []) := by
        clear hF
        intro k_8
        induction k_8 with
        | zero =>
          intro x_6 x_7 H locs ls hms
          exact absurd hms (Nat.not_lt_zero _)
        | succ k_8 ih19 =>
          intro x_6 x_7 H locs ls hm19 hge19 hF hI hl
          replace hF := (F_X11_sorts_L19_1_s).symm.trans hF
          unfold F_X11_sorts_B19_1 at hF
          refine lv_iload_n hx hb dX11_sorts_19 rfl (lv_at hl 3 rfl) ?_
          refine lv_aload_n hx hb dX11_sorts_20 rfl (lv_at hl 0 rfl) ?_
          refine gs_X11_42_11 E hI ha dX11_sorts_21 ?_
          refine gs_X11_201_1 E hI (q_tk (k' := 1) hI ha rfl (Nat.succ_ne_zero _)) dX11_sorts_24 ?_
          refine gs_X11_216_3 E hI (q_tk (k' := 3) hI (q_tk (k' := 1) hI ha rfl (Nat.succ_ne_zero _)) rfl (Nat.succ_ne_zero _)) dX11_sorts_27 ?_
          refine lv_topi (fun f_9 ef_9 => ?_)
          replace hF := q_letX hF ef_9
          have gc_10_x_7 := q_rng x_7
          have gc_10_f_9 := q_rng f_9
          refine q_icmp_ge (A := x_7.toInt) (B := f_9.toInt) E rfl rfl (tgt := 57) dX11_sorts_30 (by decide) (fun c_10 => ?_) (fun c_10 => ?_)
          · skip
            replace hF := q_ifn hF (Int.not_lt.mpr c_10)
            unfold F_X11_sorts_E57_2 at hF
            refine lv_aload_n hx hb dX11_sorts_57 rfl (lv_at hl 0 rfl) ?_
            refine lv_iload_n hx hb dX11_sorts_58 rfl (lv_at hl 2 rfl) ?_
            refine q_ci (q_rV10_1 (rest := []) E (hml.trans hl.1.symm) hI (c_X11_good l X σ a x_6 ha) kv_X11_156 ha ⟨Nat.le_of_ble_eq_true rfl, Nat.le_of_ble_eq_true rfl⟩ (Nat.le_of_ble_eq_true rfl) dX11_sorts_59) hI (Nat.le_of_ble_eq_true rfl) (fun r_11 σ_12 H locs hpσ_12 hkσ_12 hI => ?_)
            have ahpσ_12 := hpσ_12.1
            have bhpσ_12 := hpσ_12.2.1
            have chpσ_12 := hpσ_12.2.2
            clear hpσ_12
            have fr_σ_12 := fr_σ.call chpσ_12 rfl rfl
            replace hF := q_biX hF bhpσ_12
            exact q_reti E hr hlk hI ⟨(hF.trans hout), fr_σ_12⟩ dX11_sorts_62
          · skip
            replace hF := q_ifp hF c_10
            refine lv_aload_n hx hb dX11_sorts_33 rfl (lv_at hl 0 rfl) ?_
            refine gs_X11_42_11 E hI ha dX11_sorts_34 ?_
            refine gs_X11_201_1 E hI (q_tk (k' := 1) hI ha rfl (Nat.succ_ne_zero _)) dX11_sorts_37 ?_
            refine lv_iload_n hx hb dX11_sorts_40 rfl (lv_at hl 3 rfl) ?_
            refine q_ci (q_rV2_1 (rest := []) E (hml.trans hl.1.symm) hI (c_X2_truth l X σ (q_rf X (q_rf X a 8) 2) x_7 (q_tk (k' := 3) hI (q_tk (k' := 1) hI ha rfl (Nat.succ_ne_zero _)) rfl (Nat.succ_ne_zero _))) kv_X11_269 (q_tk (k' := 3) hI (q_tk (k' := 1) hI ha rfl (Nat.succ_ne_zero _)) rfl (Nat.succ_ne_zero _)) ⟨Nat.le_of_ble_eq_true rfl, Nat.le_of_ble_eq_true rfl⟩ (Nat.le_of_ble_eq_true rfl) dX11_sorts_41) hI (Nat.le_of_ble_eq_true rfl) (fun r_13 σ_14 H locs hpσ_14 hkσ_14 hI => ?_)
            have ahpσ_14 := hpσ_14.1
            have bhpσ_14 := hpσ_14.2
            clear hpσ_14
            replace hI := q_Irw ahpσ_14 hI
            replace hF := q_letX hF bhpσ_14
            refine lv_iload_n hx hb dX11_sorts_44 rfl (lv_at hl 1 rfl) ?_
            have gc_15_r_13 := q_rng r_13
            have gc_15_v1 := q_rng v1
            refine q_icmp_ne (A := r_13.toInt) (B := v1.toInt) E rfl rfl (tgt := 51) dX11_sorts_45 (by decide) (fun c_15 => ?_) (fun c_15 => ?_)
            · skip
              replace hF := q_ifn hF c_15
              obtain ⟨z_16, ez_16⟩ : ∃ y : Int32, y = x_7 + 1 := ⟨_, rfl⟩
              replace hF := q_letX hF ez_16
              refine lv_iinc (v := z_16) (lv' := [(3, .int z_16), (0, .ref a), (1, .int v1), (2, .int x_6)]) hx hb dX11_sorts_51 hl (k := 3) rfl (by rw [ez_16]; rfl) (by decide) rfl (fun ls hl => ?_)
              have iz_16 : z_16.toInt = x_7.toInt + 1 := q_inc ez_16 (by omega)
              refine lv_goto (tgt := 19) hx hb dX11_sorts_54 (by decide) ?_
              exact ih19 x_6 z_16 _ _ ls (by omega) (by omega) hF hI (lv_sub hl [1, 2, 3, 0] rfl)
            · skip
              replace hF := q_ifp hF c_15
              obtain ⟨z_17, ez_17⟩ : ∃ y : Int32, y = x_6 + 1 := ⟨_, rfl⟩
              replace hF := q_letX hF ez_17
              refine lv_iinc (v := z_17) (lv' := [(2, .int z_17), (0, .ref a), (1, .int v1), (3, .int x_7)]) hx hb dX11_sorts_48 hl (k := 2) rfl (by rw [ez_17]; rfl) (by decide) rfl (fun ls hl => ?_)
              obtain ⟨z_18, ez_18⟩ : ∃ y : Int32, y = x_7 + 1 := ⟨_, rfl⟩
              replace hF := q_letX hF ez_18
              refine lv_iinc (v := z_18) (lv' := [(3, .int z_18), (2, .int z_17), (0, .ref a), (1, .int v1)]) hx hb dX11_sorts_51 hl (k := 3) rfl (by rw [ez_18]; rfl) (by decide) rfl (fun ls hl => ?_)
              have iz_18 : z_18.toInt = x_7.toInt + 1 := q_inc ez_18 (by omega)
              refine lv_goto (tgt := 19) hx hb dX11_sorts_54 (by decide) ?_
              exact ih19 z_17 z_18 _ _ ls (by first | (clear c_1 gc_5_v1 c_5 ahpσ_14 bhpσ_14 gc_15_r_13 gc_15_v1 c_15; omega) | omega) (by omega) hF hI (lv_sub hl [2, 3, 1, 0] rfl)
      exact L_19_8 ((2147483647 - (0 : Int32).toInt).toNat + 1) 0 0 _ _ ls (Nat.lt_succ_self _) (by decide) hF hI (lv_sub hl [2, 3, 1, 0] rfl)
    · skip
      replace hF := q_ifp hF c_5
      refine lv_aload_n hx hb dX11_sorts_9 rfl (lv_at hl 0 rfl) ?_
      refine lv_iconst (v := 5) hx hb dX11_sorts_10 zki_5 ?_
      have kc_19 : (5 : Int32).toInt = 5 := zt_5
      refine q_ci (q_rV10_1 (rest := []) E (hml.trans hl.1.symm) hI (c_X11_none l X σ a (5 : Int32) ha) kv_X11_109 ha ⟨Nat.le_of_ble_eq_true rfl, Nat.le_of_ble_eq_true rfl⟩ (Nat.le_of_ble_eq_true rfl) dX11_sorts_11) hI (Nat.le_of_ble_eq_true rfl) (fun r_20 σ_21 H locs hpσ_21 hkσ_21 hI => ?_)
      have ahpσ_21 := hpσ_21.1
      have bhpσ_21 := hpσ_21.2.1
      have chpσ_21 := hpσ_21.2.2
      clear hpσ_21
      have fr_σ_21 := fr_σ.call chpσ_21 rfl rfl
      replace hF := q_biX hF bhpσ_21
      exact q_reti E hr hlk hI ⟨(hF.trans hout), fr_σ_21⟩ dX11_sorts_14

set_option maxRecDepth 100000 in
set_option maxHeartbeats 4000000 in
theorem c_X11_liar (l : Launch) (X : XW) (σ : ST) (a : Nat) (ha : q_kd X a = 11) : Met l yX11_liar (q_ws yX11_liar cX11_liar 4 (some .int)) (q_rm 2 42) (q_P X σ [.ref a]) (q_Qi X 8 σ (fun (r : Int32) (σ' : ST) => (r, σ') = F_X11_liar X σ a ∧ q_ow [(11, 0)] [] X σ σ')) 0 0 (q_reg X) := by
  refine q_met 8 (by first | exact rfl | decide +kernel) rfl (Nat.le_of_ble_eq_true rfl) (fun p e s m below meth c E hml hr hlk hI ls hl => ?_)
  have hx := E.1
  have hb := E.2.1
  have hl : lv_has ls 4 [(0, .ref a)] := hl
  have fr_σ : q_ow [(11, 0)] [] X σ σ := q_ow.rf
  obtain ⟨out, hout⟩ : ∃ o, o = F_X11_liar X σ a := ⟨_, rfl⟩
  have hF := hout.symm
  unfold F_X11_liar at hF
  refine lv_aload_n hx hb dX11_liar_0 rfl (lv_at hl 0 rfl) ?_
  refine gs_X11_42_11 E hI ha dX11_liar_1 ?_
  refine gs_X11_222_1 E hI (q_tk (k' := 1) hI ha rfl (Nat.succ_ne_zero _)) dX11_liar_4 ?_
  refine lv_astore_n (lv' := [(1, .ref (q_rf X (q_rf X a 8) 1)), (0, .ref a)]) hx hb dX11_liar_7 rfl hl (by decide) rfl (fun ls hl => ?_)
  refine lv_aload_n hx hb dX11_liar_8 rfl (lv_at hl 1 rfl) ?_
  refine gs_X11_42_11 E hI ha dX11_liar_9 ?_
  refine gs_X11_147_1 E hI (q_tk (k' := 1) hI ha rfl (Nat.succ_ne_zero _)) dX11_liar_12 ?_
  refine gs_X11_151_6 E hI (q_tk (k' := 6) hI (q_tk (k' := 1) hI ha rfl (Nat.succ_ne_zero _)) rfl (Nat.succ_ne_zero _)) dX11_liar_15 ?_
  refine lv_topi (fun f_1 ef_1 => ?_)
  replace hF := q_letX hF ef_1
  refine q_if_ne (A := f_1.toInt) E rfl (tgt := 25) dX11_liar_18 (by decide) (fun c_2 => ?_) (fun c_2 => ?_)
  · skip
    replace hF := q_ifn hF c_2
    refine lv_iconst (v := 0) hx hb dX11_liar_25 zki_0 ?_
    refine lv_istore_n (lv' := [(2, .int 0), (1, .ref (q_rf X (q_rf X a 8) 1)), (0, .ref a)]) hx hb dX11_liar_26 rfl hl (by decide) rfl (fun ls hl => ?_)
    refine lv_iconst (v := 1) hx hb dX11_liar_27 zki_1 ?_
    refine lv_istore_n (lv' := [(3, .int 1), (2, .int 0), (1, .ref (q_rf X (q_rf X a 8) 1)), (0, .ref a)]) hx hb dX11_liar_28 rfl hl (by decide) rfl (fun ls hl => ?_)
    have L_29_5 : ∀ (k_5 : Nat) (x_3 : Int32) (x_4 : Int32) (H : Heap) (locs : List Loc) (ls : Array Slot), (2147483647 - x_4.toInt).toNat < k_5 → (0 ≤ x_4.toInt) → (F_X11_liar_L29_1 X σ a k_5 x_3 x_4 = out) → q_I X 8 σ s.heap locs σ H → lv_has ls 4 [(0, .ref a), (1, .ref (q_rf X (q_rf X a 8) 1)), (2, .int x_3), (3, .int x_4)] → W p l e (q_rm 2 42) s m ([.ref a] : List Value).toArray below meth c H locs 0 0 (MQ below (q_Qi X 8 σ (fun (r : Int32) (σ' : ST) => (r, σ') = F_X11_liar X σ a ∧ q_ow [(11, 0)] [] X σ σ')) ([.ref a] : List Value).toArray s 0 0 (q_reg X)) (F0 m 29 ls []) := by
      clear hF
      intro k_5
      induction k_5 with
      | zero =>
        intro x_3 x_4 H locs ls hms
        exact absurd hms (Nat.not_lt_zero _)
      | succ k_5 ih29 =>
        intro x_3 x_4 H locs ls hm29 hge29 hF hI hl
        replace hF := (F_X11_liar_L29_1_s).symm.trans hF
        unfold F_X11_liar_B29_1 at hF
        refine lv_iload_n hx hb dX11_liar_29 rfl (lv_at hl 3 rfl) ?_
        refine lv_aload_n hx hb dX11_liar_30 rfl (lv_at hl 0 rfl) ?_
        refine gs_X11_42_11 E hI ha dX11_liar_31 ?_
        refine gs_X11_147_1 E hI (q_tk (k' := 1) hI ha rfl (Nat.succ_ne_zero _)) dX11_liar_34 ?_
        refine gs_X11_151_6 E hI (q_tk (k' := 6) hI (q_tk (k' := 1) hI ha rfl (Nat.succ_ne_zero _)) rfl (Nat.succ_ne_zero _)) dX11_liar_37 ?_
        refine lv_topi (fun f_6 ef_6 => ?_)
        replace hF := q_letX hF ef_6
        have gc_7_x_4 := q_rng x_4
        have gc_7_f_6 := q_rng f_6
        refine q_icmp_ge (A := x_4.toInt) (B := f_6.toInt) E rfl rfl (tgt := 77) dX11_liar_40 (by decide) (fun c_7 => ?_) (fun c_7 => ?_)
        · skip
          replace hF := q_ifn hF (Int.not_lt.mpr c_7)
          unfold F_X11_liar_E77_2 at hF
          refine lv_aload_n hx hb dX11_liar_77 rfl (lv_at hl 0 rfl) ?_
          refine lv_iload_n hx hb dX11_liar_78 rfl (lv_at hl 2 rfl) ?_
          refine q_ci (q_rV10_1 (rest := []) E (hml.trans hl.1.symm) hI (c_X11_goodOrNotThere l X σ a x_3 ha) kv_X11_366 ha ⟨Nat.le_of_ble_eq_true rfl, Nat.le_of_ble_eq_true rfl⟩ (Nat.le_of_ble_eq_true rfl) dX11_liar_79) hI (Nat.le_of_ble_eq_true rfl) (fun r_8 σ_9 H locs hpσ_9 hkσ_9 hI => ?_)
          have ahpσ_9 := hpσ_9.1
          have bhpσ_9 := hpσ_9.2
          clear hpσ_9
          have fr_σ_9 := fr_σ.call bhpσ_9 rfl rfl
          replace hF := q_biX hF ahpσ_9
          exact q_reti E hr hlk hI ⟨(hF.trans hout), fr_σ_9⟩ dX11_liar_82
        · skip
          replace hF := q_ifp hF c_7
          refine lv_aload_n hx hb dX11_liar_43 rfl (lv_at hl 1 rfl) ?_
          refine lv_iload_n hx hb dX11_liar_44 rfl (lv_at hl 3 rfl) ?_
          refine q_cl_ (q_rV1_1 (rest := []) E (hml.trans hl.1.symm) hI (c_X1_honestTop l X σ (q_rf X (q_rf X a 8) 1) x_4 (q_tk (k' := 2) hI (q_tk (k' := 1) hI ha rfl (Nat.succ_ne_zero _)) rfl (Nat.succ_ne_zero _))) kv_X11_330 (q_tk (k' := 2) hI (q_tk (k' := 1) hI ha rfl (Nat.succ_ne_zero _)) rfl (Nat.succ_ne_zero _)) ⟨Nat.le_of_ble_eq_true rfl, Nat.le_of_ble_eq_true rfl⟩ (Nat.le_of_ble_eq_true rfl) dX11_liar_45) hI (Nat.le_of_ble_eq_true rfl) (fun r_10 σ_11 H locs hpσ_11 hkσ_11 hI => ?_)
          have ahpσ_11 := hpσ_11.1
          have bhpσ_11 := hpσ_11.2
          clear hpσ_11
          replace hI := q_Irw ahpσ_11 hI
          replace hF := q_letX hF bhpσ_11
          refine lv_aload_n hx hb dX11_liar_48 rfl (lv_at hl 1 rfl) ?_
          refine lv_iload_n hx hb dX11_liar_49 rfl (lv_at hl 2 rfl) ?_
          refine q_cl_ (q_rV1_1 (rest := [.long r_10]) E (hml.trans hl.1.symm) hI (c_X1_honestBottom l X σ (q_rf X (q_rf X a 8) 1) x_3 (q_tk (k' := 2) hI (q_tk (k' := 1) hI ha rfl (Nat.succ_ne_zero _)) rfl (Nat.succ_ne_zero _))) kv_X11_333 (q_tk (k' := 2) hI (q_tk (k' := 1) hI ha rfl (Nat.succ_ne_zero _)) rfl (Nat.succ_ne_zero _)) ⟨Nat.le_of_ble_eq_true rfl, Nat.le_of_ble_eq_true rfl⟩ (Nat.le_of_ble_eq_true rfl) dX11_liar_50) hI (Nat.le_of_ble_eq_true rfl) (fun r_12 σ_13 H locs hpσ_13 hkσ_13 hI => ?_)
          have ahpσ_13 := hpσ_13.1
          have bhpσ_13 := hpσ_13.2
          clear hpσ_13
          replace hI := q_Irw ahpσ_13 hI
          replace hF := q_letX hF bhpσ_13
          refine lv_lmul hx hb dX11_liar_53 ?_
          refine lv_topl (fun y_14 ey_14 => ?_)
          replace hF := q_letX hF ey_14
          refine lv_aload_n hx hb dX11_liar_54 rfl (lv_at hl 1 rfl) ?_
          refine lv_iload_n hx hb dX11_liar_55 rfl (lv_at hl 2 rfl) ?_
          refine q_cl_ (q_rV1_1 (rest := [.long y_14]) E (hml.trans hl.1.symm) hI (c_X1_honestTop l X σ (q_rf X (q_rf X a 8) 1) x_3 (q_tk (k' := 2) hI (q_tk (k' := 1) hI ha rfl (Nat.succ_ne_zero _)) rfl (Nat.succ_ne_zero _))) kv_X11_330 (q_tk (k' := 2) hI (q_tk (k' := 1) hI ha rfl (Nat.succ_ne_zero _)) rfl (Nat.succ_ne_zero _)) ⟨Nat.le_of_ble_eq_true rfl, Nat.le_of_ble_eq_true rfl⟩ (Nat.le_of_ble_eq_true rfl) dX11_liar_56) hI (Nat.le_of_ble_eq_true rfl) (fun r_15 σ_16 H locs hpσ_16 hkσ_16 hI => ?_)
          have ahpσ_16 := hpσ_16.1
          have bhpσ_16 := hpσ_16.2
          clear hpσ_16
          replace hI := q_Irw ahpσ_16 hI
          replace hF := q_letX hF bhpσ_16
          refine lv_aload_n hx hb dX11_liar_59 rfl (lv_at hl 1 rfl) ?_
          refine lv_iload_n hx hb dX11_liar_60 rfl (lv_at hl 3 rfl) ?_
          refine q_cl_ (q_rV1_1 (rest := [.long r_15, .long y_14]) E (hml.trans hl.1.symm) hI (c_X1_honestBottom l X σ (q_rf X (q_rf X a 8) 1) x_4 (q_tk (k' := 2) hI (q_tk (k' := 1) hI ha rfl (Nat.succ_ne_zero _)) rfl (Nat.succ_ne_zero _))) kv_X11_333 (q_tk (k' := 2) hI (q_tk (k' := 1) hI ha rfl (Nat.succ_ne_zero _)) rfl (Nat.succ_ne_zero _)) ⟨Nat.le_of_ble_eq_true rfl, Nat.le_of_ble_eq_true rfl⟩ (Nat.le_of_ble_eq_true rfl) dX11_liar_61) hI (Nat.le_of_ble_eq_true rfl) (fun r_17 σ_18 H locs hpσ_18 hkσ_18 hI => ?_)
          have ahpσ_18 := hpσ_18.1
          have bhpσ_18 := hpσ_18.2
          clear hpσ_18
          replace hI := q_Irw ahpσ_18 hI
          replace hF := q_letX hF bhpσ_18
          refine lv_lmul hx hb dX11_liar_64 ?_
          refine lv_topl (fun y_19 ey_19 => ?_)
          replace hF := q_letX hF ey_19
          refine q_lcmpX E dX11_liar_65 (fun z_20 ez_20 hz_20 => ?_)
          replace hF := q_letX hF ez_20
          refine q_if_ge (A := z_20.toInt) E rfl (tgt := 71) dX11_liar_66 (by decide) (fun c_21 => ?_) (fun c_21 => ?_)
          · skip
            replace hF := q_ifn hF (Int.not_lt.mpr c_21)
            obtain ⟨z_22, ez_22⟩ : ∃ y : Int32, y = x_4 + 1 := ⟨_, rfl⟩
            replace hF := q_letX hF ez_22
            refine lv_iinc (v := z_22) (lv' := [(3, .int z_22), (0, .ref a), (1, .ref (q_rf X (q_rf X a 8) 1)), (2, .int x_3)]) hx hb dX11_liar_71 hl (k := 3) rfl (by rw [ez_22]; rfl) (by decide) rfl (fun ls hl => ?_)
            have iz_22 : z_22.toInt = x_4.toInt + 1 := q_inc ez_22 (by omega)
            refine lv_goto (tgt := 29) hx hb dX11_liar_74 (by decide) ?_
            exact ih29 x_3 z_22 _ _ ls (by first | (clear c_2 ahpσ_11 bhpσ_11 ahpσ_13 bhpσ_13 ahpσ_16 bhpσ_16 ahpσ_18 bhpσ_18; omega) | omega) (by omega) hF hI (lv_sub hl [1, 2, 3, 0] rfl)
          · skip
            replace hF := q_ifp hF c_21
            refine lv_iload_n hx hb dX11_liar_69 rfl (lv_at hl 3 rfl) ?_
            refine lv_istore_n (lv' := [(2, .int x_4), (0, .ref a), (1, .ref (q_rf X (q_rf X a 8) 1)), (3, .int x_4)]) hx hb dX11_liar_70 rfl hl (by decide) rfl (fun ls hl => ?_)
            obtain ⟨z_23, ez_23⟩ : ∃ y : Int32, y = x_4 + 1 := ⟨_, rfl⟩
            replace hF := q_letX hF ez_23
            refine lv_iinc (v := z_23) (lv' := [(3, .int z_23), (2, .int x_4), (0, .ref a), (1, .ref (q_rf X (q_rf X a 8) 1))]) hx hb dX11_liar_71 hl (k := 3) rfl (by rw [ez_23]; rfl) (by decide) rfl (fun ls hl => ?_)
            have iz_23 : z_23.toInt = x_4.toInt + 1 := q_inc ez_23 (by omega)
            refine lv_goto (tgt := 29) hx hb dX11_liar_74 (by decide) ?_
            exact ih29 x_4 z_23 _ _ ls (by first | (clear c_2 ahpσ_11 bhpσ_11 ahpσ_13 bhpσ_13 ahpσ_16 bhpσ_16 ahpσ_18 bhpσ_18; omega) | omega) (by omega) hF hI (lv_sub hl [2, 3, 1, 0] rfl)
    exact L_29_5 ((2147483647 - (1 : Int32).toInt).toNat + 1) 0 1 _ _ ls (Nat.lt_succ_self _) (by decide) hF hI (lv_sub hl [3, 2, 1, 0] rfl)
  · skip
    replace hF := q_ifp hF c_2
    refine lv_iconst (v := (-1)) hx hb dX11_liar_21 zki_m1 ?_
    refine lv_goto (tgt := 26) hx hb dX11_liar_22 (by decide) ?_
    refine lv_istore_n (lv' := [(2, .int (-1)), (1, .ref (q_rf X (q_rf X a 8) 1)), (0, .ref a)]) hx hb dX11_liar_26 rfl hl (by decide) rfl (fun ls hl => ?_)
    refine lv_iconst (v := 1) hx hb dX11_liar_27 zki_1 ?_
    refine lv_istore_n (lv' := [(3, .int 1), (2, .int (-1)), (1, .ref (q_rf X (q_rf X a 8) 1)), (0, .ref a)]) hx hb dX11_liar_28 rfl hl (by decide) rfl (fun ls hl => ?_)
    have L_29_26 : ∀ (k_26 : Nat) (x_24 : Int32) (x_25 : Int32) (H : Heap) (locs : List Loc) (ls : Array Slot), (2147483647 - x_25.toInt).toNat < k_26 → (0 ≤ x_25.toInt) → (F_X11_liar_L29_3 X σ a k_26 x_24 x_25 = out) → q_I X 8 σ s.heap locs σ H → lv_has ls 4 [(0, .ref a), (1, .ref (q_rf X (q_rf X a 8) 1)), (2, .int x_24), (3, .int x_25)] → W p l e (q_rm 2 42) s m ([.ref a] : List Value).toArray below meth c H locs 0 0 (MQ below (q_Qi X 8 σ (fun (r : Int32) (σ' : ST) => (r, σ') = F_X11_liar X σ a ∧ q_ow [(11, 0)] [] X σ σ')) ([.ref a] : List Value).toArray s 0 0 (q_reg X)) (F0 m 29 ls []) := by
      clear hF
      intro k_26
      induction k_26 with
      | zero =>
        intro x_24 x_25 H locs ls hms
        exact absurd hms (Nat.not_lt_zero _)
      | succ k_26 ih29 =>
        intro x_24 x_25 H locs ls hm29 hge29 hF hI hl
        replace hF := (F_X11_liar_L29_3_s).symm.trans hF
        unfold F_X11_liar_B29_3 at hF
        refine lv_iload_n hx hb dX11_liar_29 rfl (lv_at hl 3 rfl) ?_
        refine lv_aload_n hx hb dX11_liar_30 rfl (lv_at hl 0 rfl) ?_
        refine gs_X11_42_11 E hI ha dX11_liar_31 ?_
        refine gs_X11_147_1 E hI (q_tk (k' := 1) hI ha rfl (Nat.succ_ne_zero _)) dX11_liar_34 ?_
        refine gs_X11_151_6 E hI (q_tk (k' := 6) hI (q_tk (k' := 1) hI ha rfl (Nat.succ_ne_zero _)) rfl (Nat.succ_ne_zero _)) dX11_liar_37 ?_
        refine lv_topi (fun f_27 ef_27 => ?_)
        replace hF := q_letX hF ef_27
        have gc_28_x_25 := q_rng x_25
        have gc_28_f_27 := q_rng f_27
        refine q_icmp_ge (A := x_25.toInt) (B := f_27.toInt) E rfl rfl (tgt := 77) dX11_liar_40 (by decide) (fun c_28 => ?_) (fun c_28 => ?_)
        · skip
          replace hF := q_ifn hF (Int.not_lt.mpr c_28)
          unfold F_X11_liar_E77_4 at hF
          refine lv_aload_n hx hb dX11_liar_77 rfl (lv_at hl 0 rfl) ?_
          refine lv_iload_n hx hb dX11_liar_78 rfl (lv_at hl 2 rfl) ?_
          refine q_ci (q_rV10_1 (rest := []) E (hml.trans hl.1.symm) hI (c_X11_goodOrNotThere l X σ a x_24 ha) kv_X11_366 ha ⟨Nat.le_of_ble_eq_true rfl, Nat.le_of_ble_eq_true rfl⟩ (Nat.le_of_ble_eq_true rfl) dX11_liar_79) hI (Nat.le_of_ble_eq_true rfl) (fun r_29 σ_30 H locs hpσ_30 hkσ_30 hI => ?_)
          have ahpσ_30 := hpσ_30.1
          have bhpσ_30 := hpσ_30.2
          clear hpσ_30
          have fr_σ_30 := fr_σ.call bhpσ_30 rfl rfl
          replace hF := q_biX hF ahpσ_30
          exact q_reti E hr hlk hI ⟨(hF.trans hout), fr_σ_30⟩ dX11_liar_82
        · skip
          replace hF := q_ifp hF c_28
          refine lv_aload_n hx hb dX11_liar_43 rfl (lv_at hl 1 rfl) ?_
          refine lv_iload_n hx hb dX11_liar_44 rfl (lv_at hl 3 rfl) ?_
          refine q_cl_ (q_rV1_1 (rest := []) E (hml.trans hl.1.symm) hI (c_X1_honestTop l X σ (q_rf X (q_rf X a 8) 1) x_25 (q_tk (k' := 2) hI (q_tk (k' := 1) hI ha rfl (Nat.succ_ne_zero _)) rfl (Nat.succ_ne_zero _))) kv_X11_330 (q_tk (k' := 2) hI (q_tk (k' := 1) hI ha rfl (Nat.succ_ne_zero _)) rfl (Nat.succ_ne_zero _)) ⟨Nat.le_of_ble_eq_true rfl, Nat.le_of_ble_eq_true rfl⟩ (Nat.le_of_ble_eq_true rfl) dX11_liar_45) hI (Nat.le_of_ble_eq_true rfl) (fun r_31 σ_32 H locs hpσ_32 hkσ_32 hI => ?_)
          have ahpσ_32 := hpσ_32.1
          have bhpσ_32 := hpσ_32.2
          clear hpσ_32
          replace hI := q_Irw ahpσ_32 hI
          replace hF := q_letX hF bhpσ_32
          refine lv_aload_n hx hb dX11_liar_48 rfl (lv_at hl 1 rfl) ?_
          refine lv_iload_n hx hb dX11_liar_49 rfl (lv_at hl 2 rfl) ?_
          refine q_cl_ (q_rV1_1 (rest := [.long r_31]) E (hml.trans hl.1.symm) hI (c_X1_honestBottom l X σ (q_rf X (q_rf X a 8) 1) x_24 (q_tk (k' := 2) hI (q_tk (k' := 1) hI ha rfl (Nat.succ_ne_zero _)) rfl (Nat.succ_ne_zero _))) kv_X11_333 (q_tk (k' := 2) hI (q_tk (k' := 1) hI ha rfl (Nat.succ_ne_zero _)) rfl (Nat.succ_ne_zero _)) ⟨Nat.le_of_ble_eq_true rfl, Nat.le_of_ble_eq_true rfl⟩ (Nat.le_of_ble_eq_true rfl) dX11_liar_50) hI (Nat.le_of_ble_eq_true rfl) (fun r_33 σ_34 H locs hpσ_34 hkσ_34 hI => ?_)
          have ahpσ_34 := hpσ_34.1
          have bhpσ_34 := hpσ_34.2
          clear hpσ_34
          replace hI := q_Irw ahpσ_34 hI
          replace hF := q_letX hF bhpσ_34
          refine lv_lmul hx hb dX11_liar_53 ?_
          refine lv_topl (fun y_35 ey_35 => ?_)
          replace hF := q_letX hF ey_35
          refine lv_aload_n hx hb dX11_liar_54 rfl (lv_at hl 1 rfl) ?_
          refine lv_iload_n hx hb dX11_liar_55 rfl (lv_at hl 2 rfl) ?_
          refine q_cl_ (q_rV1_1 (rest := [.long y_35]) E (hml.trans hl.1.symm) hI (c_X1_honestTop l X σ (q_rf X (q_rf X a 8) 1) x_24 (q_tk (k' := 2) hI (q_tk (k' := 1) hI ha rfl (Nat.succ_ne_zero _)) rfl (Nat.succ_ne_zero _))) kv_X11_330 (q_tk (k' := 2) hI (q_tk (k' := 1) hI ha rfl (Nat.succ_ne_zero _)) rfl (Nat.succ_ne_zero _)) ⟨Nat.le_of_ble_eq_true rfl, Nat.le_of_ble_eq_true rfl⟩ (Nat.le_of_ble_eq_true rfl) dX11_liar_56) hI (Nat.le_of_ble_eq_true rfl) (fun r_36 σ_37 H locs hpσ_37 hkσ_37 hI => ?_)
          have ahpσ_37 := hpσ_37.1
          have bhpσ_37 := hpσ_37.2
          clear hpσ_37
          replace hI := q_Irw ahpσ_37 hI
          replace hF := q_letX hF bhpσ_37
          refine lv_aload_n hx hb dX11_liar_59 rfl (lv_at hl 1 rfl) ?_
          refine lv_iload_n hx hb dX11_liar_60 rfl (lv_at hl 3 rfl) ?_
          refine q_cl_ (q_rV1_1 (rest := [.long r_36, .long y_35]) E (hml.trans hl.1.symm) hI (c_X1_honestBottom l X σ (q_rf X (q_rf X a 8) 1) x_25 (q_tk (k' := 2) hI (q_tk (k' := 1) hI ha rfl (Nat.succ_ne_zero _)) rfl (Nat.succ_ne_zero _))) kv_X11_333 (q_tk (k' := 2) hI (q_tk (k' := 1) hI ha rfl (Nat.succ_ne_zero _)) rfl (Nat.succ_ne_zero _)) ⟨Nat.le_of_ble_eq_true rfl, Nat.le_of_ble_eq_true rfl⟩ (Nat.le_of_ble_eq_true rfl) dX11_liar_61) hI (Nat.le_of_ble_eq_true rfl) (fun r_38 σ_39 H locs hpσ_39 hkσ_39 hI => ?_)
          have ahpσ_39 := hpσ_39.1
          have bhpσ_39 := hpσ_39.2
          clear hpσ_39
          replace hI := q_Irw ahpσ_39 hI
          replace hF := q_letX hF bhpσ_39
          refine lv_lmul hx hb dX11_liar_64 ?_
          refine lv_topl (fun y_40 ey_40 => ?_)
          replace hF := q_letX hF ey_40
          refine q_lcmpX E dX11_liar_65 (fun z_41 ez_41 hz_41 => ?_)
          replace hF := q_letX hF ez_41
          refine q_if_ge (A := z_41.toInt) E rfl (tgt := 71) dX11_liar_66 (by decide) (fun c_42 => ?_) (fun c_42 => ?_)
          · skip
            replace hF := q_ifn hF (Int.not_lt.mpr c_42)
            obtain ⟨z_43, ez_43⟩ : ∃ y : Int32, y = x_25 + 1 := ⟨_, rfl⟩
            replace hF := q_letX hF ez_43
            refine lv_iinc (v := z_43) (lv' := [(3, .int z_43), (0, .ref a), (1, .ref (q_rf X (q_rf X a 8) 1)), (2, .int x_24)]) hx hb dX11_liar_71 hl (k := 3) rfl (by rw [ez_43]; rfl) (by decide) rfl (fun ls hl => ?_)
            have iz_43 : z_43.toInt = x_25.toInt + 1 := q_inc ez_43 (by first | (clear c_2 hm29 ahpσ_32 bhpσ_32 ahpσ_34 bhpσ_34 ahpσ_37 bhpσ_37 ahpσ_39 bhpσ_39 hz_41 c_42; omega) | omega)
            refine lv_goto (tgt := 29) hx hb dX11_liar_74 (by decide) ?_
            exact ih29 x_24 z_43 _ _ ls (by first | (clear c_2 ahpσ_32 bhpσ_32 ahpσ_34 bhpσ_34 ahpσ_37 bhpσ_37 ahpσ_39 bhpσ_39; omega) | omega) (by omega) hF hI (lv_sub hl [1, 2, 3, 0] rfl)
          · skip
            replace hF := q_ifp hF c_42
            refine lv_iload_n hx hb dX11_liar_69 rfl (lv_at hl 3 rfl) ?_
            refine lv_istore_n (lv' := [(2, .int x_25), (0, .ref a), (1, .ref (q_rf X (q_rf X a 8) 1)), (3, .int x_25)]) hx hb dX11_liar_70 rfl hl (by decide) rfl (fun ls hl => ?_)
            obtain ⟨z_44, ez_44⟩ : ∃ y : Int32, y = x_25 + 1 := ⟨_, rfl⟩
            replace hF := q_letX hF ez_44
            refine lv_iinc (v := z_44) (lv' := [(3, .int z_44), (2, .int x_25), (0, .ref a), (1, .ref (q_rf X (q_rf X a 8) 1))]) hx hb dX11_liar_71 hl (k := 3) rfl (by rw [ez_44]; rfl) (by decide) rfl (fun ls hl => ?_)
            have iz_44 : z_44.toInt = x_25.toInt + 1 := q_inc ez_44 (by first | (clear c_2 hm29 ahpσ_32 bhpσ_32 ahpσ_34 bhpσ_34 ahpσ_37 bhpσ_37 ahpσ_39 bhpσ_39 hz_41 c_42; omega) | omega)
            refine lv_goto (tgt := 29) hx hb dX11_liar_74 (by decide) ?_
            exact ih29 x_25 z_44 _ _ ls (by first | (clear c_2 ahpσ_32 bhpσ_32 ahpσ_34 bhpσ_34 ahpσ_37 bhpσ_37 ahpσ_39 bhpσ_39; omega) | omega) (by omega) hF hI (lv_sub hl [2, 3, 1, 0] rfl)
    exact L_29_26 ((2147483647 - (1 : Int32).toInt).toNat + 1) (-1) 1 _ _ ls (Nat.lt_succ_self _) (by decide) hF hI (lv_sub hl [3, 2, 1, 0] rfl)

set_option maxRecDepth 100000 in
set_option maxHeartbeats 4000000 in
theorem c_X11_play (l : Launch) (X : XW) (σ : ST) (a : Nat) (v1 : Int32) (ha : q_kd X a = 11) : Met l yX11_play (q_ws yX11_play cX11_play 2 (some .int)) (q_rm 7 166) (q_P X σ [.ref a, .int v1]) (q_Qi X 8 σ (fun (r : Int32) (σ' : ST) => (r, σ') = F_X11_play X σ a v1 ∧ q_ow [(1, 4), (1, 5), (1, 6), (1, 7), (1, 9), (3, 0), (3, 1), (7, 0), (7, 1), (7, 2), (7, 3), (7, 4), (7, 5), (7, 6), (11, 0), (11, 16), (20, 99)] [] X σ σ')) 0 0 (q_reg X) := by
  refine q_met 8 (by first | exact rfl | decide +kernel) rfl (Nat.le_of_ble_eq_true rfl) (fun p e s m below meth c E hml hr hlk hI ls hl => ?_)
  have hx := E.1
  have hb := E.2.1
  have hl : lv_has ls 2 [(0, .ref a), (1, .int v1)] := hl
  have fr_σ : q_ow [(1, 4), (1, 5), (1, 6), (1, 7), (1, 9), (3, 0), (3, 1), (7, 0), (7, 1), (7, 2), (7, 3), (7, 4), (7, 5), (7, 6), (11, 0), (11, 16), (20, 99)] [] X σ σ := q_ow.rf
  obtain ⟨out, hout⟩ : ∃ o, o = F_X11_play X σ a v1 := ⟨_, rfl⟩
  have hF := hout.symm
  unfold F_X11_play at hF
  refine lv_iload_n hx hb dX11_play_0 rfl (lv_at hl 1 rfl) ?_
  refine q_if_lt (A := v1.toInt) E rfl (tgt := 11) dX11_play_1 (by decide) (fun c_1 => ?_) (fun c_1 => ?_)
  · skip
    replace hF := q_ifp hF c_1
    refine lv_aload_n hx hb dX11_play_11 rfl (lv_at hl 0 rfl) ?_
    refine lv_iconst (v := 5) hx hb dX11_play_12 zki_5 ?_
    have kc_2 : (5 : Int32).toInt = 5 := zt_5
    refine q_ci (q_rV10_1 (rest := []) E (hml.trans hl.1.symm) hI (c_X11_none l X σ a (5 : Int32) ha) kv_X11_109 ha ⟨Nat.le_of_ble_eq_true rfl, Nat.le_of_ble_eq_true rfl⟩ (Nat.le_of_ble_eq_true rfl) dX11_play_13) hI (Nat.le_of_ble_eq_true rfl) (fun r_3 σ_4 H locs hpσ_4 hkσ_4 hI => ?_)
    have ahpσ_4 := hpσ_4.1
    have bhpσ_4 := hpσ_4.2.1
    have chpσ_4 := hpσ_4.2.2
    clear hpσ_4
    have fr_σ_4 := fr_σ.call chpσ_4 rfl rfl
    replace hF := q_biX hF bhpσ_4
    exact q_reti E hr hlk hI ⟨(hF.trans hout), fr_σ_4⟩ dX11_play_16
  · skip
    replace hF := q_ifn hF (Int.not_lt.mpr c_1)
    refine lv_iload_n hx hb dX11_play_4 rfl (lv_at hl 1 rfl) ?_
    refine lv_sipush (v := 9999) hx hb dX11_play_5 zks_9999 ?_
    refine q_icmp_le (A := v1.toInt) (B := 9999) E rfl (by decide) (tgt := 17) dX11_play_8 (by decide) (fun c_5 => ?_) (fun c_5 => ?_)
    · skip
      replace hF := q_ifn hF (Int.not_lt.mpr c_5)
      refine lv_aload_n hx hb dX11_play_17 rfl (lv_at hl 0 rfl) ?_
      refine gs_X11_42_11 E hI ha dX11_play_18 ?_
      refine gs_X11_162_1 E hI (q_tk (k' := 1) hI ha rfl (Nat.succ_ne_zero _)) dX11_play_21 ?_
      refine gs_X11_396_8 E hI (q_tk (k' := 8) hI (q_tk (k' := 1) hI ha rfl (Nat.succ_ne_zero _)) rfl (Nat.succ_ne_zero _)) dX11_play_24 ?_
      refine lv_topi (fun f_6 ef_6 => ?_)
      replace hF := q_letX hF ef_6
      have bf_6 : 0 ≤ f_6.toInt ∧ f_6.toInt ≤ 1 := by rw [ef_6]; exact q_bd hI (q_tk (k' := 8) hI (q_tk (k' := 1) hI ha rfl (Nat.succ_ne_zero _)) rfl (Nat.succ_ne_zero _)) rfl
      refine q_if_ne (A := f_6.toInt) E rfl (tgt := 37) dX11_play_27 (by decide) (fun c_7 => ?_) (fun c_7 => ?_)
      · skip
        replace hF := q_ifn hF c_7
        refine lv_aload_n hx hb dX11_play_37 rfl (lv_at hl 0 rfl) ?_
        refine gs_X11_73_11 E hI ha dX11_play_38 ?_
        refine lv_aload_n hx hb dX11_play_41 rfl (lv_at hl 0 rfl) ?_
        refine gs_X11_42_11 E hI ha dX11_play_42 ?_
        refine lv_iload_n hx hb dX11_play_45 rfl (lv_at hl 1 rfl) ?_
        refine q_cv (q_rV6_2 (rest := []) E (hml.trans hl.1.symm) hI (c_X7_go l X σ (q_rf X a 14) (q_rf X a 8) v1 (q_tk (k' := 7) hI ha rfl (Nat.succ_ne_zero _)) (q_tk (k' := 1) hI ha rfl (Nat.succ_ne_zero _))) kv_X11_399 (q_tk (k' := 7) hI ha rfl (Nat.succ_ne_zero _)) ⟨Nat.le_of_ble_eq_true rfl, Nat.le_of_ble_eq_true rfl⟩ (Nat.le_of_ble_eq_true rfl) dX11_play_46) hI (Nat.le_of_ble_eq_true rfl) (fun σ_9 H locs hpσ_9 hkσ_9 hI => ?_)
        have ahpσ_9 := hpσ_9.1
        have bhpσ_9 := hpσ_9.2
        clear hpσ_9
        have fr_σ_9 := fr_σ.call bhpσ_9 rfl rfl
        replace hF := q_letX hF ahpσ_9
        refine lv_aload_n hx hb dX11_play_49 rfl (lv_at hl 0 rfl) ?_
        refine lv_iconst (v := 1) hx hb dX11_play_50 zki_1 ?_
        refine ps_X11_80_11 E hI ha (by decide) (by decide) (by decide) dX11_play_51 (fun H locs σ_10 hσ_10 hI => ?_)
        replace hF := q_letX hF hσ_10
        have fr_σ_10 := fr_σ_9.si hσ_10 ha rfl
        refine lv_aload_n hx hb dX11_play_54 rfl (lv_at hl 0 rfl) ?_
        refine lv_aload_n hx hb dX11_play_55 rfl (lv_at hl 0 rfl) ?_
        refine gs_X11_73_11 E hI ha dX11_play_56 ?_
        refine gs_X11_403_7 E hI (q_tk (k' := 7) hI ha rfl (Nat.succ_ne_zero _)) dX11_play_59 ?_
        refine lv_topi (fun f_11 ef_11 => ?_)
        replace hF := q_letX hF ef_11
        refine q_ci (q_rV10_1 (rest := []) E (hml.trans hl.1.symm) hI (c_X11_good l X σ_10 a f_11 ha) kv_X11_156 ha ⟨Nat.le_of_ble_eq_true rfl, Nat.le_of_ble_eq_true rfl⟩ (Nat.le_of_ble_eq_true rfl) dX11_play_62) hI (Nat.le_of_ble_eq_true rfl) (fun r_12 σ_13 H locs hpσ_13 hkσ_13 hI => ?_)
        have ahpσ_13 := hpσ_13.1
        have bhpσ_13 := hpσ_13.2.1
        have chpσ_13 := hpσ_13.2.2
        clear hpσ_13
        have fr_σ_13 := fr_σ_10.call chpσ_13 rfl rfl
        replace hF := q_biX hF bhpσ_13
        exact q_reti E hr hlk hI ⟨(hF.trans hout), fr_σ_13⟩ dX11_play_65
      · skip
        replace hF := q_ifp hF c_7
        refine lv_aload_n hx hb dX11_play_30 rfl (lv_at hl 0 rfl) ?_
        refine lv_bipush (v := 8) hx hb dX11_play_31 zkb_8 ?_
        have kc_14 : (8 : Int32).toInt = 8 := zt_8
        refine q_ci (q_rV10_1 (rest := []) E (hml.trans hl.1.symm) hI (c_X11_none l X σ a (8 : Int32) ha) kv_X11_109 ha ⟨Nat.le_of_ble_eq_true rfl, Nat.le_of_ble_eq_true rfl⟩ (Nat.le_of_ble_eq_true rfl) dX11_play_33) hI (Nat.le_of_ble_eq_true rfl) (fun r_15 σ_16 H locs hpσ_16 hkσ_16 hI => ?_)
        have ahpσ_16 := hpσ_16.1
        have bhpσ_16 := hpσ_16.2.1
        have chpσ_16 := hpσ_16.2.2
        clear hpσ_16
        have fr_σ_16 := fr_σ.call chpσ_16 rfl rfl
        replace hF := q_biX hF bhpσ_16
        exact q_reti E hr hlk hI ⟨(hF.trans hout), fr_σ_16⟩ dX11_play_36
    · skip
      replace hF := q_ifp hF c_5
      refine lv_aload_n hx hb dX11_play_11 rfl (lv_at hl 0 rfl) ?_
      refine lv_iconst (v := 5) hx hb dX11_play_12 zki_5 ?_
      have kc_17 : (5 : Int32).toInt = 5 := zt_5
      refine q_ci (q_rV10_1 (rest := []) E (hml.trans hl.1.symm) hI (c_X11_none l X σ a (5 : Int32) ha) kv_X11_109 ha ⟨Nat.le_of_ble_eq_true rfl, Nat.le_of_ble_eq_true rfl⟩ (Nat.le_of_ble_eq_true rfl) dX11_play_13) hI (Nat.le_of_ble_eq_true rfl) (fun r_18 σ_19 H locs hpσ_19 hkσ_19 hI => ?_)
      have ahpσ_19 := hpσ_19.1
      have bhpσ_19 := hpσ_19.2.1
      have chpσ_19 := hpσ_19.2.2
      clear hpσ_19
      have fr_σ_19 := fr_σ.call chpσ_19 rfl rfl
      replace hF := q_biX hF bhpσ_19
      exact q_reti E hr hlk hI ⟨(hF.trans hout), fr_σ_19⟩ dX11_play_16

set_option maxRecDepth 100000 in
set_option maxHeartbeats 4000000 in
theorem c_X11_played (l : Launch) (X : XW) (σ : ST) (a : Nat) (v1 : Int32) (ha : q_kd X a = 11) : Met l yX11_played (q_ws yX11_played cX11_played 2 (some .int)) (q_rm 1 21) (q_P X σ [.ref a, .int v1]) (q_Qi X 8 σ (fun (r : Int32) (σ' : ST) => (r, σ') = F_X11_played X σ a v1 ∧ q_ow [(11, 0)] [] X σ σ')) 0 0 (q_reg X) := by
  refine q_met 8 (by first | exact rfl | decide +kernel) rfl (Nat.le_of_ble_eq_true rfl) (fun p e s m below meth c E hml hr hlk hI ls hl => ?_)
  have hx := E.1
  have hb := E.2.1
  have hl : lv_has ls 2 [(0, .ref a), (1, .int v1)] := hl
  have fr_σ : q_ow [(11, 0)] [] X σ σ := q_ow.rf
  obtain ⟨out, hout⟩ : ∃ o, o = F_X11_played X σ a v1 := ⟨_, rfl⟩
  have hF := hout.symm
  unfold F_X11_played at hF
  refine lv_iload_n hx hb dX11_played_0 rfl (lv_at hl 1 rfl) ?_
  refine q_if_lt (A := v1.toInt) E rfl (tgt := 9) dX11_played_1 (by decide) (fun c_1 => ?_) (fun c_1 => ?_)
  · skip
    replace hF := q_ifp hF c_1
    refine lv_aload_n hx hb dX11_played_9 rfl (lv_at hl 0 rfl) ?_
    refine lv_iconst (v := 5) hx hb dX11_played_10 zki_5 ?_
    have kc_2 : (5 : Int32).toInt = 5 := zt_5
    refine q_ci (q_rV10_1 (rest := []) E (hml.trans hl.1.symm) hI (c_X11_none l X σ a (5 : Int32) ha) kv_X11_109 ha ⟨Nat.le_of_ble_eq_true rfl, Nat.le_of_ble_eq_true rfl⟩ (Nat.le_of_ble_eq_true rfl) dX11_played_11) hI (Nat.le_of_ble_eq_true rfl) (fun r_3 σ_4 H locs hpσ_4 hkσ_4 hI => ?_)
    have ahpσ_4 := hpσ_4.1
    have bhpσ_4 := hpσ_4.2.1
    have chpσ_4 := hpσ_4.2.2
    clear hpσ_4
    have fr_σ_4 := fr_σ.call chpσ_4 rfl rfl
    replace hF := q_biX hF bhpσ_4
    exact q_reti E hr hlk hI ⟨(hF.trans hout), fr_σ_4⟩ dX11_played_14
  · skip
    replace hF := q_ifn hF (Int.not_lt.mpr c_1)
    refine lv_iload_n hx hb dX11_played_4 rfl (lv_at hl 1 rfl) ?_
    refine lv_iconst (v := 4) hx hb dX11_played_5 zki_4 ?_
    refine q_icmp_le (A := v1.toInt) (B := 4) E rfl (by decide) (tgt := 15) dX11_played_6 (by decide) (fun c_5 => ?_) (fun c_5 => ?_)
    · skip
      replace hF := q_ifn hF (Int.not_lt.mpr c_5)
      refine lv_aload_n hx hb dX11_played_15 rfl (lv_at hl 0 rfl) ?_
      refine gs_X11_80_11 E hI ha dX11_played_16 ?_
      refine lv_topi (fun f_6 ef_6 => ?_)
      replace hF := q_letX hF ef_6
      have bf_6 : 0 ≤ f_6.toInt ∧ f_6.toInt ≤ 1 := by rw [ef_6]; exact q_bd hI ha rfl
      refine q_if_ne (A := f_6.toInt) E rfl (tgt := 29) dX11_played_19 (by decide) (fun c_7 => ?_) (fun c_7 => ?_)
      · skip
        replace hF := q_ifn hF c_7
        refine lv_iload_n hx hb dX11_played_29 rfl (lv_at hl 1 rfl) ?_
        by_cases c_8 : v1.toInt = 0
        · refine lv_tableIn (off := 30) (tgt := 60) hx hb dX11_played_30 (by omega) (by first | (clear c_1 c_5 bf_6 c_7; omega) | omega) (by rw [c_8]; rfl) (by decide) ?_
          replace hF := q_ifp hF c_8
          refine lv_aload_n hx hb dX11_played_60 rfl (lv_at hl 0 rfl) ?_
          refine lv_aload_n hx hb dX11_played_61 rfl (lv_at hl 0 rfl) ?_
          refine gs_X11_73_11 E hI ha dX11_played_62 ?_
          refine gs_X11_404_7 E hI (q_tk (k' := 7) hI ha rfl (Nat.succ_ne_zero _)) dX11_played_65 ?_
          refine lv_topi (fun f_9 ef_9 => ?_)
          replace hF := q_letX hF ef_9
          refine q_ci (q_rV10_1 (rest := []) E (hml.trans hl.1.symm) hI (c_X11_good l X σ a f_9 ha) kv_X11_156 ha ⟨Nat.le_of_ble_eq_true rfl, Nat.le_of_ble_eq_true rfl⟩ (Nat.le_of_ble_eq_true rfl) dX11_played_68) hI (Nat.le_of_ble_eq_true rfl) (fun r_10 σ_11 H locs hpσ_11 hkσ_11 hI => ?_)
          have ahpσ_11 := hpσ_11.1
          have bhpσ_11 := hpσ_11.2.1
          have chpσ_11 := hpσ_11.2.2
          clear hpσ_11
          have fr_σ_11 := fr_σ.call chpσ_11 rfl rfl
          replace hF := q_biX hF bhpσ_11
          exact q_reti E hr hlk hI ⟨(hF.trans hout), fr_σ_11⟩ dX11_played_71
        replace hF := q_ifn hF c_8
        by_cases c_12 : v1.toInt = 1
        · refine lv_tableIn (off := 42) (tgt := 72) hx hb dX11_played_30 (by omega) (by first | (clear c_1 c_5 bf_6 c_7; omega) | omega) (by rw [c_12]; rfl) (by decide) ?_
          replace hF := q_ifp hF c_12
          refine lv_aload_n hx hb dX11_played_72 rfl (lv_at hl 0 rfl) ?_
          refine lv_aload_n hx hb dX11_played_73 rfl (lv_at hl 0 rfl) ?_
          refine gs_X11_73_11 E hI ha dX11_played_74 ?_
          refine gs_X11_407_7 E hI (q_tk (k' := 7) hI ha rfl (Nat.succ_ne_zero _)) dX11_played_77 ?_
          refine lv_topi (fun f_13 ef_13 => ?_)
          replace hF := q_letX hF ef_13
          refine q_ci (q_rV10_1 (rest := []) E (hml.trans hl.1.symm) hI (c_X11_good l X σ a f_13 ha) kv_X11_156 ha ⟨Nat.le_of_ble_eq_true rfl, Nat.le_of_ble_eq_true rfl⟩ (Nat.le_of_ble_eq_true rfl) dX11_played_80) hI (Nat.le_of_ble_eq_true rfl) (fun r_14 σ_15 H locs hpσ_15 hkσ_15 hI => ?_)
          have ahpσ_15 := hpσ_15.1
          have bhpσ_15 := hpσ_15.2.1
          have chpσ_15 := hpσ_15.2.2
          clear hpσ_15
          have fr_σ_15 := fr_σ.call chpσ_15 rfl rfl
          replace hF := q_biX hF bhpσ_15
          exact q_reti E hr hlk hI ⟨(hF.trans hout), fr_σ_15⟩ dX11_played_83
        replace hF := q_ifn hF c_12
        by_cases c_16 : v1.toInt = 2
        · refine lv_tableIn (off := 54) (tgt := 84) hx hb dX11_played_30 (by omega) (by first | (clear c_1 c_5 bf_6 c_7; omega) | omega) (by rw [c_16]; rfl) (by decide) ?_
          replace hF := q_ifp hF c_16
          refine lv_aload_n hx hb dX11_played_84 rfl (lv_at hl 0 rfl) ?_
          refine lv_aload_n hx hb dX11_played_85 rfl (lv_at hl 0 rfl) ?_
          refine gs_X11_73_11 E hI ha dX11_played_86 ?_
          refine gs_X11_408_7 E hI (q_tk (k' := 7) hI ha rfl (Nat.succ_ne_zero _)) dX11_played_89 ?_
          refine lv_topi (fun f_17 ef_17 => ?_)
          replace hF := q_letX hF ef_17
          refine q_ci (q_rV10_1 (rest := []) E (hml.trans hl.1.symm) hI (c_X11_good l X σ a f_17 ha) kv_X11_156 ha ⟨Nat.le_of_ble_eq_true rfl, Nat.le_of_ble_eq_true rfl⟩ (Nat.le_of_ble_eq_true rfl) dX11_played_92) hI (Nat.le_of_ble_eq_true rfl) (fun r_18 σ_19 H locs hpσ_19 hkσ_19 hI => ?_)
          have ahpσ_19 := hpσ_19.1
          have bhpσ_19 := hpσ_19.2.1
          have chpσ_19 := hpσ_19.2.2
          clear hpσ_19
          have fr_σ_19 := fr_σ.call chpσ_19 rfl rfl
          replace hF := q_biX hF bhpσ_19
          exact q_reti E hr hlk hI ⟨(hF.trans hout), fr_σ_19⟩ dX11_played_95
        replace hF := q_ifn hF c_16
        by_cases c_20 : v1.toInt = 3
        · refine lv_tableIn (off := 66) (tgt := 96) hx hb dX11_played_30 (by omega) (by first | (clear c_1 c_5 bf_6 c_7; omega) | omega) (by rw [c_20]; rfl) (by decide) ?_
          replace hF := q_ifp hF c_20
          refine lv_aload_n hx hb dX11_played_96 rfl (lv_at hl 0 rfl) ?_
          refine lv_aload_n hx hb dX11_played_97 rfl (lv_at hl 0 rfl) ?_
          refine gs_X11_73_11 E hI ha dX11_played_98 ?_
          refine gs_X11_411_7 E hI (q_tk (k' := 7) hI ha rfl (Nat.succ_ne_zero _)) dX11_played_101 ?_
          refine lv_topi (fun f_21 ef_21 => ?_)
          replace hF := q_letX hF ef_21
          refine q_ci (q_rV10_1 (rest := []) E (hml.trans hl.1.symm) hI (c_X11_good l X σ a f_21 ha) kv_X11_156 ha ⟨Nat.le_of_ble_eq_true rfl, Nat.le_of_ble_eq_true rfl⟩ (Nat.le_of_ble_eq_true rfl) dX11_played_104) hI (Nat.le_of_ble_eq_true rfl) (fun r_22 σ_23 H locs hpσ_23 hkσ_23 hI => ?_)
          have ahpσ_23 := hpσ_23.1
          have bhpσ_23 := hpσ_23.2.1
          have chpσ_23 := hpσ_23.2.2
          clear hpσ_23
          have fr_σ_23 := fr_σ.call chpσ_23 rfl rfl
          replace hF := q_biX hF bhpσ_23
          exact q_reti E hr hlk hI ⟨(hF.trans hout), fr_σ_23⟩ dX11_played_107
        replace hF := q_ifn hF c_20
        refine lv_tableOut (tgt := 108) hx hb dX11_played_30 (by first | (clear bf_6 c_7; omega) | omega) (by decide) ?_
        refine lv_aload_n hx hb dX11_played_108 rfl (lv_at hl 0 rfl) ?_
        refine lv_aload_n hx hb dX11_played_109 rfl (lv_at hl 0 rfl) ?_
        refine gs_X11_73_11 E hI ha dX11_played_110 ?_
        refine gs_X11_414_7 E hI (q_tk (k' := 7) hI ha rfl (Nat.succ_ne_zero _)) dX11_played_113 ?_
        refine lv_topi (fun f_24 ef_24 => ?_)
        replace hF := q_letX hF ef_24
        have bf_24 : 0 ≤ f_24.toInt ∧ f_24.toInt ≤ 1 := by rw [ef_24]; exact q_bd hI (q_tk (k' := 7) hI ha rfl (Nat.succ_ne_zero _)) rfl
        refine q_if_eq (A := f_24.toInt) E rfl (tgt := 123) dX11_played_116 (by decide) (fun c_25 => ?_) (fun c_25 => ?_)
        · skip
          replace hF := q_ifp hF c_25
          refine lv_iconst (v := 0) hx hb dX11_played_123 zki_0 ?_
          have kc_26 : (0 : Int32).toInt = 0 := zt_0
          refine q_ci (q_rV10_1 (rest := []) E (hml.trans hl.1.symm) hI (c_X11_good l X σ a (0 : Int32) ha) kv_X11_156 ha ⟨Nat.le_of_ble_eq_true rfl, Nat.le_of_ble_eq_true rfl⟩ (Nat.le_of_ble_eq_true rfl) dX11_played_124) hI (Nat.le_of_ble_eq_true rfl) (fun r_27 σ_28 H locs hpσ_28 hkσ_28 hI => ?_)
          have ahpσ_28 := hpσ_28.1
          have bhpσ_28 := hpσ_28.2.1
          have chpσ_28 := hpσ_28.2.2
          clear hpσ_28
          have fr_σ_28 := fr_σ.call chpσ_28 rfl rfl
          replace hF := q_biX hF bhpσ_28
          exact q_reti E hr hlk hI ⟨(hF.trans hout), fr_σ_28⟩ dX11_played_127
        · skip
          replace hF := q_ifn hF c_25
          refine lv_iconst (v := 1) hx hb dX11_played_119 zki_1 ?_
          refine lv_goto (tgt := 124) hx hb dX11_played_120 (by decide) ?_
          have kc_29 : (1 : Int32).toInt = 1 := zt_1
          refine q_ci (q_rV10_1 (rest := []) E (hml.trans hl.1.symm) hI (c_X11_good l X σ a (1 : Int32) ha) kv_X11_156 ha ⟨Nat.le_of_ble_eq_true rfl, Nat.le_of_ble_eq_true rfl⟩ (Nat.le_of_ble_eq_true rfl) dX11_played_124) hI (Nat.le_of_ble_eq_true rfl) (fun r_30 σ_31 H locs hpσ_31 hkσ_31 hI => ?_)
          have ahpσ_31 := hpσ_31.1
          have bhpσ_31 := hpσ_31.2.1
          have chpσ_31 := hpσ_31.2.2
          clear hpσ_31
          have fr_σ_31 := fr_σ.call chpσ_31 rfl rfl
          replace hF := q_biX hF bhpσ_31
          exact q_reti E hr hlk hI ⟨(hF.trans hout), fr_σ_31⟩ dX11_played_127
      · skip
        replace hF := q_ifp hF c_7
        refine lv_aload_n hx hb dX11_played_22 rfl (lv_at hl 0 rfl) ?_
        refine lv_bipush (v := 8) hx hb dX11_played_23 zkb_8 ?_
        have kc_32 : (8 : Int32).toInt = 8 := zt_8
        refine q_ci (q_rV10_1 (rest := []) E (hml.trans hl.1.symm) hI (c_X11_none l X σ a (8 : Int32) ha) kv_X11_109 ha ⟨Nat.le_of_ble_eq_true rfl, Nat.le_of_ble_eq_true rfl⟩ (Nat.le_of_ble_eq_true rfl) dX11_played_25) hI (Nat.le_of_ble_eq_true rfl) (fun r_33 σ_34 H locs hpσ_34 hkσ_34 hI => ?_)
        have ahpσ_34 := hpσ_34.1
        have bhpσ_34 := hpσ_34.2.1
        have chpσ_34 := hpσ_34.2.2
        clear hpσ_34
        have fr_σ_34 := fr_σ.call chpσ_34 rfl rfl
        replace hF := q_biX hF bhpσ_34
        exact q_reti E hr hlk hI ⟨(hF.trans hout), fr_σ_34⟩ dX11_played_28
    · skip
      replace hF := q_ifp hF c_5
      refine lv_aload_n hx hb dX11_played_9 rfl (lv_at hl 0 rfl) ?_
      refine lv_iconst (v := 5) hx hb dX11_played_10 zki_5 ?_
      have kc_35 : (5 : Int32).toInt = 5 := zt_5
      refine q_ci (q_rV10_1 (rest := []) E (hml.trans hl.1.symm) hI (c_X11_none l X σ a (5 : Int32) ha) kv_X11_109 ha ⟨Nat.le_of_ble_eq_true rfl, Nat.le_of_ble_eq_true rfl⟩ (Nat.le_of_ble_eq_true rfl) dX11_played_11) hI (Nat.le_of_ble_eq_true rfl) (fun r_36 σ_37 H locs hpσ_37 hkσ_37 hI => ?_)
      have ahpσ_37 := hpσ_37.1
      have bhpσ_37 := hpσ_37.2.1
      have chpσ_37 := hpσ_37.2.2
      clear hpσ_37
      have fr_σ_37 := fr_σ.call chpσ_37 rfl rfl
      replace hF := q_biX hF bhpσ_37
      exact q_reti E hr hlk hI ⟨(hF.trans hout), fr_σ_37⟩ dX11_played_14

set_option maxRecDepth 100000 in
set_option maxHeartbeats 4000000 in
theorem c_X11_seedsStatus (l : Launch) (X : XW) (σ : ST) (a : Nat) (v1 : Int32) (v2 : Int32) (v3 : Int32) (ha : q_kd X a = 11) : Met l yX11_seedsStatus (q_ws yX11_seedsStatus cX11_seedsStatus 4 (some .int)) (q_rm 1 21) (q_P X σ [.ref a, .int v1, .int v2, .int v3]) (q_Qi X 9 σ (fun (r : Int32) (σ' : ST) => σ' = σ ∧ r = F_X11_seedsStatus X σ a v1 v2 v3)) 0 0 (q_reg X) := by
  refine q_met 9 (by first | exact rfl | decide +kernel) rfl (Nat.le_of_ble_eq_true rfl) (fun p e s m below meth c E hml hr hlk hI ls hl => ?_)
  have hx := E.1
  have hb := E.2.1
  have hl : lv_has ls 4 [(0, .ref a), (1, .int v1), (2, .int v2), (3, .int v3)] := hl
  obtain ⟨out, hout⟩ : ∃ o, o = F_X11_seedsStatus X σ a v1 v2 v3 := ⟨_, rfl⟩
  have hF := hout.symm
  unfold F_X11_seedsStatus at hF
  refine lv_aload_n hx hb dX11_seedsStatus_0 rfl (lv_at hl 0 rfl) ?_
  refine lv_iload_n hx hb dX11_seedsStatus_1 rfl (lv_at hl 1 rfl) ?_
  refine q_ci (q_rV10_1 (rest := []) E (hml.trans hl.1.symm) hI (c_X11_isPlayer l X σ a v1 ha) kv_X11_219 ha ⟨Nat.le_of_ble_eq_true rfl, Nat.le_of_ble_eq_true rfl⟩ (Nat.le_of_ble_eq_true rfl) dX11_seedsStatus_2) hI (Nat.le_of_ble_eq_true rfl) (fun r_1 σ_2 H locs hpσ_2 hkσ_2 hI => ?_)
  have ahpσ_2 := hpσ_2.1
  have bhpσ_2 := hpσ_2.2.1
  have chpσ_2 := hpσ_2.2.2
  clear hpσ_2
  replace hI := q_Irw ahpσ_2 hI
  replace hF := q_letX hF chpσ_2
  refine q_if_ne (A := r_1.toInt) E rfl (tgt := 10) dX11_seedsStatus_5 (by decide) (fun c_3 => ?_) (fun c_3 => ?_)
  · skip
    replace hF := q_ifn hF c_3
    replace c_3 := q_ifOne bhpσ_2 c_3
    refine lv_iload_n hx hb dX11_seedsStatus_10 rfl (lv_at hl 2 rfl) ?_
    refine q_if_lt (A := v2.toInt) E rfl (tgt := 36) dX11_seedsStatus_11 (by decide) (fun c_4 => ?_) (fun c_4 => ?_)
    · skip
      replace hF := q_ifp hF c_4
      refine lv_iconst (v := 5) hx hb dX11_seedsStatus_36 zki_5 ?_
      exact q_reti E hr hlk hI ⟨rfl, (hF.trans hout)⟩ dX11_seedsStatus_37
    · skip
      replace hF := q_ifn hF (Int.not_lt.mpr c_4)
      refine lv_iload_n hx hb dX11_seedsStatus_14 rfl (lv_at hl 3 rfl) ?_
      refine lv_iconst (v := 1) hx hb dX11_seedsStatus_15 zki_1 ?_
      refine q_icmp_lt (A := v3.toInt) (B := 1) E rfl (by decide) (tgt := 36) dX11_seedsStatus_16 (by decide) (fun c_5 => ?_) (fun c_5 => ?_)
      · skip
        replace hF := q_ifp hF c_5
        refine lv_iconst (v := 5) hx hb dX11_seedsStatus_36 zki_5 ?_
        exact q_reti E hr hlk hI ⟨rfl, (hF.trans hout)⟩ dX11_seedsStatus_37
      · skip
        replace hF := q_ifn hF (Int.not_lt.mpr c_5)
        refine lv_iload_n hx hb dX11_seedsStatus_19 rfl (lv_at hl 3 rfl) ?_
        refine lv_bipush (v := 20) hx hb dX11_seedsStatus_20 zkb_20 ?_
        refine q_icmp_gt (A := v3.toInt) (B := 20) E rfl (by decide) (tgt := 36) dX11_seedsStatus_22 (by decide) (fun c_6 => ?_) (fun c_6 => ?_)
        · skip
          replace hF := q_ifp hF c_6
          refine lv_iconst (v := 5) hx hb dX11_seedsStatus_36 zki_5 ?_
          exact q_reti E hr hlk hI ⟨rfl, (hF.trans hout)⟩ dX11_seedsStatus_37
        · skip
          replace hF := q_ifn hF (Int.not_lt.mpr c_6)
          refine lv_iload_n hx hb dX11_seedsStatus_25 rfl (lv_at hl 2 rfl) ?_
          refine lv_sipush (v := 9999) hx hb dX11_seedsStatus_26 zks_9999 ?_
          refine lv_iload_n hx hb dX11_seedsStatus_29 rfl (lv_at hl 3 rfl) ?_
          refine lv_isub hx hb dX11_seedsStatus_30 ?_
          refine lv_topi (fun z_7 ez_7 => ?_)
          replace hF := q_letX hF ez_7
          refine lv_iconst (v := 1) hx hb dX11_seedsStatus_31 zki_1 ?_
          refine lv_iadd hx hb dX11_seedsStatus_32 ?_
          refine lv_topi (fun z_8 ez_8 => ?_)
          replace hF := q_letX hF ez_8
          refine q_icmp_le (A := v2.toInt) (B := z_8.toInt) E rfl rfl (tgt := 38) dX11_seedsStatus_33 (by decide) (fun c_9 => ?_) (fun c_9 => ?_)
          · skip
            replace hF := q_ifn hF (Int.not_lt.mpr c_9)
            refine lv_aload_n hx hb dX11_seedsStatus_38 rfl (lv_at hl 0 rfl) ?_
            refine gs_X11_42_11 E hI ha dX11_seedsStatus_39 ?_
            refine gs_X11_162_1 E hI (q_tk (k' := 1) hI ha rfl (Nat.succ_ne_zero _)) dX11_seedsStatus_42 ?_
            refine gs_X11_396_8 E hI (q_tk (k' := 8) hI (q_tk (k' := 1) hI ha rfl (Nat.succ_ne_zero _)) rfl (Nat.succ_ne_zero _)) dX11_seedsStatus_45 ?_
            refine lv_topi (fun f_10 ef_10 => ?_)
            replace hF := q_letX hF ef_10
            have bf_10 : 0 ≤ f_10.toInt ∧ f_10.toInt ≤ 1 := by rw [ef_10]; exact q_bd hI (q_tk (k' := 8) hI (q_tk (k' := 1) hI ha rfl (Nat.succ_ne_zero _)) rfl (Nat.succ_ne_zero _)) rfl
            refine q_if_eq (A := f_10.toInt) E rfl (tgt := 55) dX11_seedsStatus_48 (by decide) (fun c_11 => ?_) (fun c_11 => ?_)
            · skip
              replace hF := q_ifp hF c_11
              refine lv_bipush (v := 8) hx hb dX11_seedsStatus_55 zkb_8 ?_
              exact q_reti E hr hlk hI ⟨rfl, (hF.trans hout)⟩ dX11_seedsStatus_57
            · skip
              replace hF := q_ifn hF c_11
              refine lv_iconst (v := 0) hx hb dX11_seedsStatus_51 zki_0 ?_
              refine lv_goto (tgt := 57) hx hb dX11_seedsStatus_52 (by decide) ?_
              exact q_reti E hr hlk hI ⟨rfl, (hF.trans hout)⟩ dX11_seedsStatus_57
          · skip
            replace hF := q_ifp hF c_9
            refine lv_iconst (v := 5) hx hb dX11_seedsStatus_36 zki_5 ?_
            exact q_reti E hr hlk hI ⟨rfl, (hF.trans hout)⟩ dX11_seedsStatus_37
  · skip
    replace hF := q_ifp hF c_3
    refine lv_iconst (v := 2) hx hb dX11_seedsStatus_8 zki_2 ?_
    exact q_reti E hr hlk hI ⟨rfl, (hF.trans hout)⟩ dX11_seedsStatus_9

set_option maxRecDepth 100000 in
set_option maxHeartbeats 4000000 in
theorem c_X11_wins (l : Launch) (X : XW) (σ : ST) (a : Nat) (v1 : Int32) (v2 : Int32) (v3 : Int32) (ha : q_kd X a = 11) : Met l yX11_wins (q_ws yX11_wins cX11_wins 7 (some .boolean)) (q_rm 7 166) (q_P X σ [.ref a, .int v1, .int v2, .int v3]) (q_Qi X 8 σ (fun (r : Int32) (σ' : ST) => (0 ≤ r.toInt ∧ r.toInt ≤ 1) ∧ (r, σ') = F_X11_wins X σ a v1 v2 v3 ∧ q_ow [(1, 4), (1, 5), (1, 6), (1, 7), (1, 9), (3, 0), (3, 1), (6, 0), (6, 1), (6, 2), (6, 3), (6, 4), (7, 0), (7, 1), (7, 2), (7, 3), (7, 4), (7, 5), (7, 6), (8, 0), (8, 1), (8, 2), (11, 0), (20, 99)] [(11, 1), (11, 2)] X σ σ')) 0 0 (q_reg X) := by
  refine q_met 8 (by first | exact rfl | decide +kernel) rfl (Nat.le_of_ble_eq_true rfl) (fun p e s m below meth c E hml hr hlk hI ls hl => ?_)
  have hx := E.1
  have hb := E.2.1
  have hl : lv_has ls 7 [(0, .ref a), (1, .int v1), (2, .int v2), (3, .int v3)] := hl
  have fr_σ : q_ow [(1, 4), (1, 5), (1, 6), (1, 7), (1, 9), (3, 0), (3, 1), (6, 0), (6, 1), (6, 2), (6, 3), (6, 4), (7, 0), (7, 1), (7, 2), (7, 3), (7, 4), (7, 5), (7, 6), (8, 0), (8, 1), (8, 2), (11, 0), (20, 99)] [(11, 1), (11, 2)] X σ σ := q_ow.rf
  obtain ⟨out, hout⟩ : ∃ o, o = F_X11_wins X σ a v1 v2 v3 := ⟨_, rfl⟩
  have hF := hout.symm
  unfold F_X11_wins at hF
  refine lv_aload_n hx hb dX11_wins_0 rfl (lv_at hl 0 rfl) ?_
  refine lv_iload_n hx hb dX11_wins_1 rfl (lv_at hl 1 rfl) ?_
  refine lv_iload_n hx hb dX11_wins_2 rfl (lv_at hl 2 rfl) ?_
  refine lv_iload_n hx hb dX11_wins_3 rfl (lv_at hl 3 rfl) ?_
  refine q_ci (q_rV10_3 (rest := []) E (hml.trans hl.1.symm) hI (c_X11_seedsStatus l X σ a v1 v2 v3 ha) kv_X11_417 ha ⟨Nat.le_of_ble_eq_true rfl, Nat.le_of_ble_eq_true rfl⟩ (Nat.le_of_ble_eq_true rfl) dX11_wins_4) hI (Nat.le_of_ble_eq_true rfl) (fun r_1 σ_2 H locs hpσ_2 hkσ_2 hI => ?_)
  have ahpσ_2 := hpσ_2.1
  have bhpσ_2 := hpσ_2.2
  clear hpσ_2
  replace hI := q_Irw ahpσ_2 hI
  replace hF := q_letX hF bhpσ_2
  refine lv_istore (lv' := [(4, .int r_1), (0, .ref a), (1, .int v1), (2, .int v2), (3, .int v3)]) hx hb dX11_wins_7 hl (by decide) rfl (fun ls hl => ?_)
  refine lv_iload hx hb dX11_wins_9 (lv_at hl 0 rfl) ?_
  refine q_if_eq (A := r_1.toInt) E rfl (tgt := 21) dX11_wins_11 (by decide) (fun c_3 => ?_) (fun c_3 => ?_)
  · skip
    replace hF := q_ifp hF c_3
    refine lv_iconst (v := 0) hx hb dX11_wins_21 zki_0 ?_
    refine lv_istore (lv' := [(5, .int 0), (4, .int r_1), (0, .ref a), (1, .int v1), (2, .int v2), (3, .int v3)]) hx hb dX11_wins_22 hl (by decide) rfl (fun ls hl => ?_)
    refine lv_iconst (v := 0) hx hb dX11_wins_24 zki_0 ?_
    refine lv_istore (lv' := [(6, .int 0), (5, .int 0), (4, .int r_1), (0, .ref a), (1, .int v1), (2, .int v2), (3, .int v3)]) hx hb dX11_wins_25 hl (by decide) rfl (fun ls hl => ?_)
    have L_27_7 : ∀ (k_7 : Nat) (x_4 : Int32) (x_5 : Int32) (σ_6 : ST) (H : Heap) (locs : List Loc) (ls : Array Slot), (2147483647 - x_5.toInt).toNat < k_7 → (0 ≤ x_5.toInt) → (q_ow [(1, 4), (1, 5), (1, 6), (1, 7), (1, 9), (3, 0), (3, 1), (6, 0), (6, 1), (6, 2), (6, 3), (6, 4), (7, 0), (7, 1), (7, 2), (7, 3), (7, 4), (7, 5), (7, 6), (8, 0), (8, 1), (8, 2), (11, 0), (20, 99)] [(11, 1), (11, 2)] X σ σ_6) → (F_X11_wins_L27_1 X v3 a v2 v1 k_7 x_4 x_5 σ_6 = out) → q_I X 8 σ s.heap locs σ_6 H → lv_has ls 7 [(0, .ref a), (1, .int v1), (2, .int v2), (3, .int v3), (4, .int r_1), (5, .int x_4), (6, .int x_5)] → W p l e (q_rm 7 166) s m ([.ref a, .int v1, .int v2, .int v3] : List Value).toArray below meth c H locs 0 0 (MQ below (q_Qi X 8 σ (fun (r : Int32) (σ' : ST) => (0 ≤ r.toInt ∧ r.toInt ≤ 1) ∧ (r, σ') = F_X11_wins X σ a v1 v2 v3 ∧ q_ow [(1, 4), (1, 5), (1, 6), (1, 7), (1, 9), (3, 0), (3, 1), (6, 0), (6, 1), (6, 2), (6, 3), (6, 4), (7, 0), (7, 1), (7, 2), (7, 3), (7, 4), (7, 5), (7, 6), (8, 0), (8, 1), (8, 2), (11, 0), (20, 99)] [(11, 1), (11, 2)] X σ σ')) ([.ref a, .int v1, .int v2, .int v3] : List Value).toArray s 0 0 (q_reg X)) (F0 m 27 ls []) := by
      clear hF
      intro k_7
      induction k_7 with
      | zero =>
        intro x_4 x_5 σ_6 H locs ls hms
        exact absurd hms (Nat.not_lt_zero _)
      | succ k_7 ih27 =>
        intro x_4 x_5 σ_6 H locs ls hm27 hge27 fr_σ_6 hF hI hl
        replace hF := (F_X11_wins_L27_1_s).symm.trans hF
        unfold F_X11_wins_B27_1 at hF
        refine lv_iload hx hb dX11_wins_27 (lv_at hl 6 rfl) ?_
        refine lv_iload_n hx hb dX11_wins_29 rfl (lv_at hl 3 rfl) ?_
        have gc_8_x_5 := q_rng x_5
        have gc_8_v3 := q_rng v3
        refine q_icmp_ge (A := x_5.toInt) (B := v3.toInt) E rfl rfl (tgt := 79) dX11_wins_30 (by decide) (fun c_8 => ?_) (fun c_8 => ?_)
        · skip
          replace hF := q_ifn hF (Int.not_lt.mpr c_8)
          unfold F_X11_wins_E79_2 at hF
          refine lv_aload_n hx hb dX11_wins_79 rfl (lv_at hl 0 rfl) ?_
          refine lv_iload hx hb dX11_wins_80 (lv_at hl 5 rfl) ?_
          refine lv_i2l hx hb dX11_wins_82 rfl ?_
          refine lv_topl (fun y_9 ey_9 => ?_)
          replace hF := q_letX hF ey_9
          refine lv_iload_n hx hb dX11_wins_83 rfl (lv_at hl 3 rfl) ?_
          refine lv_i2l hx hb dX11_wins_84 rfl ?_
          refine lv_topl (fun y_10 ey_10 => ?_)
          replace hF := q_letX hF ey_10
          refine q_ci (q_rV10_2 (rest := []) E (hml.trans hl.1.symm) hI (c_X11_tell l X σ_6 a y_9 y_10 ha) kv_X11_326 ha ⟨Nat.le_of_ble_eq_true rfl, Nat.le_of_ble_eq_true rfl⟩ (Nat.le_of_ble_eq_true rfl) dX11_wins_85) hI (Nat.le_of_ble_eq_true rfl) (fun r_11 σ_12 H locs hpσ_12 hkσ_12 hI => ?_)
          have ahpσ_12 := hpσ_12.1
          have bhpσ_12 := hpσ_12.2.1
          have chpσ_12 := hpσ_12.2.2
          clear hpσ_12
          have fr_σ_12 := fr_σ_6.call chpσ_12 rfl rfl
          replace hF := q_biX hF bhpσ_12
          exact q_retz E hr hlk hI ⟨by omega, by omega⟩ ⟨⟨by omega, by omega⟩, (hF.trans hout), fr_σ_12⟩ dX11_wins_88
        · skip
          replace hF := q_ifp hF c_8
          refine lv_aload_n hx hb dX11_wins_33 rfl (lv_at hl 0 rfl) ?_
          refine gs_X11_46_11 E hI ha dX11_wins_34 ?_
          refine lv_aload_n hx hb dX11_wins_37 rfl (lv_at hl 0 rfl) ?_
          refine gs_X11_42_11 E hI ha dX11_wins_38 ?_
          refine q_cv (q_rV0_1 (rest := []) E (hml.trans hl.1.symm) hI (c_X0_copyFrom l X σ_6 (q_rf X a 9) (q_rf X a 8) (q_tk (k' := 1) hI ha rfl (Nat.succ_ne_zero _)) (q_tk (k' := 1) hI ha rfl (Nat.succ_ne_zero _))) kv_X11_144 (q_tk (k' := 1) hI ha rfl (Nat.succ_ne_zero _)) ⟨Nat.le_of_ble_eq_true rfl, Nat.le_of_ble_eq_true rfl⟩ (Nat.le_of_ble_eq_true rfl) dX11_wins_41) hI (Nat.le_of_ble_eq_true rfl) (fun σ_14 H locs hpσ_14 hkσ_14 hI => ?_)
          have ahpσ_14 := hpσ_14.1
          have bhpσ_14 := hpσ_14.2
          clear hpσ_14
          have fr_σ_14 := fr_σ_6.call bhpσ_14 rfl rfl
          replace hF := q_letX hF ahpσ_14
          refine lv_aload_n hx hb dX11_wins_44 rfl (lv_at hl 0 rfl) ?_
          refine gs_X11_77_11 E hI ha dX11_wins_45 ?_
          refine lv_aload_n hx hb dX11_wins_48 rfl (lv_at hl 0 rfl) ?_
          refine gs_X11_46_11 E hI ha dX11_wins_49 ?_
          refine lv_iload_n hx hb dX11_wins_52 rfl (lv_at hl 2 rfl) ?_
          refine lv_iload hx hb dX11_wins_53 (lv_at hl 6 rfl) ?_
          refine lv_iadd hx hb dX11_wins_55 ?_
          refine lv_topi (fun z_15 ez_15 => ?_)
          replace hF := q_letX hF ez_15
          refine q_cv (q_rV6_2 (rest := []) E (hml.trans hl.1.symm) hI (c_X7_go l X σ_14 (q_rf X a 15) (q_rf X a 9) z_15 (q_tk (k' := 7) hI ha rfl (Nat.succ_ne_zero _)) (q_tk (k' := 1) hI ha rfl (Nat.succ_ne_zero _))) kv_X11_399 (q_tk (k' := 7) hI ha rfl (Nat.succ_ne_zero _)) ⟨Nat.le_of_ble_eq_true rfl, Nat.le_of_ble_eq_true rfl⟩ (Nat.le_of_ble_eq_true rfl) dX11_wins_56) hI (Nat.le_of_ble_eq_true rfl) (fun σ_17 H locs hpσ_17 hkσ_17 hI => ?_)
          have ahpσ_17 := hpσ_17.1
          have bhpσ_17 := hpσ_17.2
          clear hpσ_17
          have fr_σ_17 := fr_σ_14.call bhpσ_17 rfl rfl
          replace hF := q_letX hF ahpσ_17
          refine lv_aload_n hx hb dX11_wins_59 rfl (lv_at hl 0 rfl) ?_
          refine gs_X11_46_11 E hI ha dX11_wins_60 ?_
          refine gs_X11_213_1 E hI (q_tk (k' := 1) hI ha rfl (Nat.succ_ne_zero _)) dX11_wins_63 ?_
          refine lv_topi (fun f_18 ef_18 => ?_)
          replace hF := q_letX hF ef_18
          refine lv_iload_n hx hb dX11_wins_66 rfl (lv_at hl 1 rfl) ?_
          have gc_19_f_18 := q_rng f_18
          have gc_19_v1 := q_rng v1
          refine q_icmp_ne (A := f_18.toInt) (B := v1.toInt) E rfl rfl (tgt := 73) dX11_wins_67 (by decide) (fun c_19 => ?_) (fun c_19 => ?_)
          · skip
            replace hF := q_ifn hF c_19
            obtain ⟨z_20, ez_20⟩ : ∃ y : Int32, y = x_5 + 1 := ⟨_, rfl⟩
            replace hF := q_letX hF ez_20
            refine lv_iinc (v := z_20) (lv' := [(6, .int z_20), (0, .ref a), (1, .int v1), (2, .int v2), (3, .int v3), (4, .int r_1), (5, .int x_4)]) hx hb dX11_wins_73 hl (k := 6) rfl (by rw [ez_20]; rfl) (by decide) rfl (fun ls hl => ?_)
            have iz_20 : z_20.toInt = x_5.toInt + 1 := q_inc ez_20 (by first | (clear ahpσ_2 bhpσ_2 c_3 hm27 ahpσ_14 bhpσ_14 ahpσ_17 bhpσ_17 gc_19_f_18 gc_19_v1 c_19; omega) | omega)
            refine lv_goto (tgt := 27) hx hb dX11_wins_76 (by decide) ?_
            exact ih27 x_4 z_20 σ_17 _ _ ls (by first | (clear ahpσ_2 bhpσ_2 c_3 ahpσ_14 bhpσ_14 ahpσ_17 bhpσ_17 gc_19_f_18 gc_19_v1; omega) | omega) (by first | (clear ahpσ_2 bhpσ_2 c_3 hm27 gc_8_v3 c_8 ahpσ_14 bhpσ_14 ahpσ_17 bhpσ_17 gc_19_f_18 gc_19_v1 c_19; omega) | omega) fr_σ_17 hF hI (lv_sub hl [1, 2, 3, 4, 5, 6, 0] rfl)
          · skip
            replace hF := q_ifp hF c_19
            obtain ⟨z_21, ez_21⟩ : ∃ y : Int32, y = x_4 + 1 := ⟨_, rfl⟩
            replace hF := q_letX hF ez_21
            refine lv_iinc (v := z_21) (lv' := [(5, .int z_21), (0, .ref a), (1, .int v1), (2, .int v2), (3, .int v3), (4, .int r_1), (6, .int x_5)]) hx hb dX11_wins_70 hl (k := 5) rfl (by rw [ez_21]; rfl) (by decide) rfl (fun ls hl => ?_)
            obtain ⟨z_22, ez_22⟩ : ∃ y : Int32, y = x_5 + 1 := ⟨_, rfl⟩
            replace hF := q_letX hF ez_22
            refine lv_iinc (v := z_22) (lv' := [(6, .int z_22), (5, .int z_21), (0, .ref a), (1, .int v1), (2, .int v2), (3, .int v3), (4, .int r_1)]) hx hb dX11_wins_73 hl (k := 6) rfl (by rw [ez_22]; rfl) (by decide) rfl (fun ls hl => ?_)
            have iz_22 : z_22.toInt = x_5.toInt + 1 := q_inc ez_22 (by first | (clear ahpσ_2 bhpσ_2 c_3 hm27 ahpσ_14 bhpσ_14 ahpσ_17 bhpσ_17 gc_19_f_18 gc_19_v1 c_19; omega) | omega)
            refine lv_goto (tgt := 27) hx hb dX11_wins_76 (by decide) ?_
            exact ih27 z_21 z_22 σ_17 _ _ ls (by first | (clear ahpσ_2 bhpσ_2 c_3 ahpσ_14 bhpσ_14 ahpσ_17 bhpσ_17 gc_19_f_18 gc_19_v1 c_19; omega) | omega) (by first | (clear ahpσ_2 bhpσ_2 c_3 hm27 gc_8_v3 c_8 ahpσ_14 bhpσ_14 ahpσ_17 bhpσ_17 gc_19_f_18 gc_19_v1 c_19; omega) | omega) fr_σ_17 hF hI (lv_sub hl [2, 3, 4, 5, 6, 1, 0] rfl)
    exact L_27_7 ((2147483647 - (0 : Int32).toInt).toNat + 1) 0 0 σ _ _ ls (Nat.lt_succ_self _) (by decide) fr_σ hF hI (lv_sub hl [3, 4, 5, 6, 2, 1, 0] rfl)
  · skip
    replace hF := q_ifn hF c_3
    refine lv_aload_n hx hb dX11_wins_14 rfl (lv_at hl 1 rfl) ?_
    refine lv_iload hx hb dX11_wins_15 (lv_at hl 0 rfl) ?_
    refine q_ci (q_rV10_1 (rest := []) E (hml.trans hl.1.symm) hI (c_X11_no l X σ a r_1 ha) kv_X11_89 ha ⟨Nat.le_of_ble_eq_true rfl, Nat.le_of_ble_eq_true rfl⟩ (Nat.le_of_ble_eq_true rfl) dX11_wins_17) hI (Nat.le_of_ble_eq_true rfl) (fun r_23 σ_24 H locs hpσ_24 hkσ_24 hI => ?_)
    have ahpσ_24 := hpσ_24.1
    have bhpσ_24 := hpσ_24.2.1
    have chpσ_24 := hpσ_24.2.2.1
    have dhpσ_24 := hpσ_24.2.2.2
    clear hpσ_24
    have fr_σ_24 := fr_σ.call dhpσ_24 rfl rfl
    replace hF := q_biX hF chpσ_24
    exact q_retz E hr hlk hI ⟨by omega, by omega⟩ ⟨⟨by omega, by omega⟩, (hF.trans hout), fr_σ_24⟩ dX11_wins_20

set_option maxRecDepth 100000 in
set_option maxHeartbeats 4000000 in
theorem c_X11_left (l : Launch) (X : XW) (σ : ST) (a : Nat) (v1 : Int32) (v2 : Int32) (v3 : Int32) (ha : q_kd X a = 11) : Met l yX11_left (q_ws yX11_left cX11_left 7 (some .boolean)) (q_rm 7 166) (q_P X σ [.ref a, .int v1, .int v2, .int v3]) (q_Qi X 8 σ (fun (r : Int32) (σ' : ST) => (0 ≤ r.toInt ∧ r.toInt ≤ 1) ∧ (r, σ') = F_X11_left X σ a v1 v2 v3 ∧ q_ow [(1, 4), (1, 5), (1, 6), (1, 7), (1, 9), (3, 0), (3, 1), (6, 0), (6, 1), (6, 2), (6, 3), (6, 4), (7, 0), (7, 1), (7, 2), (7, 3), (7, 4), (7, 5), (7, 6), (8, 0), (8, 1), (8, 2), (11, 0), (20, 99)] [(11, 1), (11, 2)] X σ σ')) 0 0 (q_reg X) := by
  refine q_met 8 (by first | exact rfl | decide +kernel) rfl (Nat.le_of_ble_eq_true rfl) (fun p e s m below meth c E hml hr hlk hI ls hl => ?_)
  have hx := E.1
  have hb := E.2.1
  have hl : lv_has ls 7 [(0, .ref a), (1, .int v1), (2, .int v2), (3, .int v3)] := hl
  have fr_σ : q_ow [(1, 4), (1, 5), (1, 6), (1, 7), (1, 9), (3, 0), (3, 1), (6, 0), (6, 1), (6, 2), (6, 3), (6, 4), (7, 0), (7, 1), (7, 2), (7, 3), (7, 4), (7, 5), (7, 6), (8, 0), (8, 1), (8, 2), (11, 0), (20, 99)] [(11, 1), (11, 2)] X σ σ := q_ow.rf
  obtain ⟨out, hout⟩ : ∃ o, o = F_X11_left X σ a v1 v2 v3 := ⟨_, rfl⟩
  have hF := hout.symm
  unfold F_X11_left at hF
  refine lv_aload_n hx hb dX11_left_0 rfl (lv_at hl 0 rfl) ?_
  refine lv_iload_n hx hb dX11_left_1 rfl (lv_at hl 1 rfl) ?_
  refine lv_iload_n hx hb dX11_left_2 rfl (lv_at hl 2 rfl) ?_
  refine lv_iload_n hx hb dX11_left_3 rfl (lv_at hl 3 rfl) ?_
  refine q_ci (q_rV10_3 (rest := []) E (hml.trans hl.1.symm) hI (c_X11_seedsStatus l X σ a v1 v2 v3 ha) kv_X11_417 ha ⟨Nat.le_of_ble_eq_true rfl, Nat.le_of_ble_eq_true rfl⟩ (Nat.le_of_ble_eq_true rfl) dX11_left_4) hI (Nat.le_of_ble_eq_true rfl) (fun r_1 σ_2 H locs hpσ_2 hkσ_2 hI => ?_)
  have ahpσ_2 := hpσ_2.1
  have bhpσ_2 := hpσ_2.2
  clear hpσ_2
  replace hI := q_Irw ahpσ_2 hI
  replace hF := q_letX hF bhpσ_2
  refine lv_istore (lv' := [(4, .int r_1), (0, .ref a), (1, .int v1), (2, .int v2), (3, .int v3)]) hx hb dX11_left_7 hl (by decide) rfl (fun ls hl => ?_)
  refine lv_iload hx hb dX11_left_9 (lv_at hl 0 rfl) ?_
  refine q_if_eq (A := r_1.toInt) E rfl (tgt := 21) dX11_left_11 (by decide) (fun c_3 => ?_) (fun c_3 => ?_)
  · skip
    replace hF := q_ifp hF c_3
    refine lv_iconst (v := 0) hx hb dX11_left_21 zki_0 ?_
    refine lv_istore (lv' := [(5, .int 0), (4, .int r_1), (0, .ref a), (1, .int v1), (2, .int v2), (3, .int v3)]) hx hb dX11_left_22 hl (by decide) rfl (fun ls hl => ?_)
    refine lv_iconst (v := 0) hx hb dX11_left_24 zki_0 ?_
    refine lv_istore (lv' := [(6, .int 0), (5, .int 0), (4, .int r_1), (0, .ref a), (1, .int v1), (2, .int v2), (3, .int v3)]) hx hb dX11_left_25 hl (by decide) rfl (fun ls hl => ?_)
    have L_27_7 : ∀ (k_7 : Nat) (x_4 : Int32) (x_5 : Int32) (σ_6 : ST) (H : Heap) (locs : List Loc) (ls : Array Slot), (2147483647 - x_5.toInt).toNat < k_7 → (0 ≤ x_5.toInt) → (q_ow [(1, 4), (1, 5), (1, 6), (1, 7), (1, 9), (3, 0), (3, 1), (6, 0), (6, 1), (6, 2), (6, 3), (6, 4), (7, 0), (7, 1), (7, 2), (7, 3), (7, 4), (7, 5), (7, 6), (8, 0), (8, 1), (8, 2), (11, 0), (20, 99)] [(11, 1), (11, 2)] X σ σ_6) → (F_X11_left_L27_1 X v3 a v2 v1 k_7 x_4 x_5 σ_6 = out) → q_I X 8 σ s.heap locs σ_6 H → lv_has ls 7 [(0, .ref a), (1, .int v1), (2, .int v2), (3, .int v3), (4, .int r_1), (5, .int x_4), (6, .int x_5)] → W p l e (q_rm 7 166) s m ([.ref a, .int v1, .int v2, .int v3] : List Value).toArray below meth c H locs 0 0 (MQ below (q_Qi X 8 σ (fun (r : Int32) (σ' : ST) => (0 ≤ r.toInt ∧ r.toInt ≤ 1) ∧ (r, σ') = F_X11_left X σ a v1 v2 v3 ∧ q_ow [(1, 4), (1, 5), (1, 6), (1, 7), (1, 9), (3, 0), (3, 1), (6, 0), (6, 1), (6, 2), (6, 3), (6, 4), (7, 0), (7, 1), (7, 2), (7, 3), (7, 4), (7, 5), (7, 6), (8, 0), (8, 1), (8, 2), (11, 0), (20, 99)] [(11, 1), (11, 2)] X σ σ')) ([.ref a, .int v1, .int v2, .int v3] : List Value).toArray s 0 0 (q_reg X)) (F0 m 27 ls []) := by
      clear hF
      intro k_7
      induction k_7 with
      | zero =>
        intro x_4 x_5 σ_6 H locs ls hms
        exact absurd hms (Nat.not_lt_zero _)
      | succ k_7 ih27 =>
        intro x_4 x_5 σ_6 H locs ls hm27 hge27 fr_σ_6 hF hI hl
        replace hF := (F_X11_left_L27_1_s).symm.trans hF
        unfold F_X11_left_B27_1 at hF
        refine lv_iload hx hb dX11_left_27 (lv_at hl 6 rfl) ?_
        refine lv_iload_n hx hb dX11_left_29 rfl (lv_at hl 3 rfl) ?_
        have gc_8_x_5 := q_rng x_5
        have gc_8_v3 := q_rng v3
        refine q_icmp_ge (A := x_5.toInt) (B := v3.toInt) E rfl rfl (tgt := 84) dX11_left_30 (by decide) (fun c_8 => ?_) (fun c_8 => ?_)
        · skip
          replace hF := q_ifn hF (Int.not_lt.mpr c_8)
          unfold F_X11_left_E84_2 at hF
          refine lv_aload_n hx hb dX11_left_84 rfl (lv_at hl 0 rfl) ?_
          refine lv_iload hx hb dX11_left_85 (lv_at hl 5 rfl) ?_
          refine lv_i2l hx hb dX11_left_87 rfl ?_
          refine lv_topl (fun y_9 ey_9 => ?_)
          replace hF := q_letX hF ey_9
          refine lv_iload_n hx hb dX11_left_88 rfl (lv_at hl 3 rfl) ?_
          refine lv_i2l hx hb dX11_left_89 rfl ?_
          refine lv_topl (fun y_10 ey_10 => ?_)
          replace hF := q_letX hF ey_10
          refine q_ci (q_rV10_2 (rest := []) E (hml.trans hl.1.symm) hI (c_X11_tell l X σ_6 a y_9 y_10 ha) kv_X11_326 ha ⟨Nat.le_of_ble_eq_true rfl, Nat.le_of_ble_eq_true rfl⟩ (Nat.le_of_ble_eq_true rfl) dX11_left_90) hI (Nat.le_of_ble_eq_true rfl) (fun r_11 σ_12 H locs hpσ_12 hkσ_12 hI => ?_)
          have ahpσ_12 := hpσ_12.1
          have bhpσ_12 := hpσ_12.2.1
          have chpσ_12 := hpσ_12.2.2
          clear hpσ_12
          have fr_σ_12 := fr_σ_6.call chpσ_12 rfl rfl
          replace hF := q_biX hF bhpσ_12
          exact q_retz E hr hlk hI ⟨by omega, by omega⟩ ⟨⟨by omega, by omega⟩, (hF.trans hout), fr_σ_12⟩ dX11_left_93
        · skip
          replace hF := q_ifp hF c_8
          refine lv_aload_n hx hb dX11_left_33 rfl (lv_at hl 0 rfl) ?_
          refine gs_X11_46_11 E hI ha dX11_left_34 ?_
          refine lv_aload_n hx hb dX11_left_37 rfl (lv_at hl 0 rfl) ?_
          refine gs_X11_42_11 E hI ha dX11_left_38 ?_
          refine q_cv (q_rV0_1 (rest := []) E (hml.trans hl.1.symm) hI (c_X0_copyFrom l X σ_6 (q_rf X a 9) (q_rf X a 8) (q_tk (k' := 1) hI ha rfl (Nat.succ_ne_zero _)) (q_tk (k' := 1) hI ha rfl (Nat.succ_ne_zero _))) kv_X11_144 (q_tk (k' := 1) hI ha rfl (Nat.succ_ne_zero _)) ⟨Nat.le_of_ble_eq_true rfl, Nat.le_of_ble_eq_true rfl⟩ (Nat.le_of_ble_eq_true rfl) dX11_left_41) hI (Nat.le_of_ble_eq_true rfl) (fun σ_14 H locs hpσ_14 hkσ_14 hI => ?_)
          have ahpσ_14 := hpσ_14.1
          have bhpσ_14 := hpσ_14.2
          clear hpσ_14
          have fr_σ_14 := fr_σ_6.call bhpσ_14 rfl rfl
          replace hF := q_letX hF ahpσ_14
          refine lv_aload_n hx hb dX11_left_44 rfl (lv_at hl 0 rfl) ?_
          refine gs_X11_77_11 E hI ha dX11_left_45 ?_
          refine lv_aload_n hx hb dX11_left_48 rfl (lv_at hl 0 rfl) ?_
          refine gs_X11_46_11 E hI ha dX11_left_49 ?_
          refine lv_iload_n hx hb dX11_left_52 rfl (lv_at hl 2 rfl) ?_
          refine lv_iload hx hb dX11_left_53 (lv_at hl 6 rfl) ?_
          refine lv_iadd hx hb dX11_left_55 ?_
          refine lv_topi (fun z_15 ez_15 => ?_)
          replace hF := q_letX hF ez_15
          refine q_cv (q_rV6_2 (rest := []) E (hml.trans hl.1.symm) hI (c_X7_go l X σ_14 (q_rf X a 15) (q_rf X a 9) z_15 (q_tk (k' := 7) hI ha rfl (Nat.succ_ne_zero _)) (q_tk (k' := 1) hI ha rfl (Nat.succ_ne_zero _))) kv_X11_399 (q_tk (k' := 7) hI ha rfl (Nat.succ_ne_zero _)) ⟨Nat.le_of_ble_eq_true rfl, Nat.le_of_ble_eq_true rfl⟩ (Nat.le_of_ble_eq_true rfl) dX11_left_56) hI (Nat.le_of_ble_eq_true rfl) (fun σ_17 H locs hpσ_17 hkσ_17 hI => ?_)
          have ahpσ_17 := hpσ_17.1
          have bhpσ_17 := hpσ_17.2
          clear hpσ_17
          have fr_σ_17 := fr_σ_14.call bhpσ_17 rfl rfl
          replace hF := q_letX hF ahpσ_17
          refine lv_iload hx hb dX11_left_59 (lv_at hl 5 rfl) ?_
          refine lv_aload_n hx hb dX11_left_61 rfl (lv_at hl 0 rfl) ?_
          refine gs_X11_46_11 E hI ha dX11_left_62 ?_
          refine gs_X11_222_1 E hI (q_tk (k' := 1) hI ha rfl (Nat.succ_ne_zero _)) dX11_left_65 ?_
          refine gs_X11_239_2 E hI (q_tk (k' := 2) hI (q_tk (k' := 1) hI ha rfl (Nat.succ_ne_zero _)) rfl (Nat.succ_ne_zero _)) dX11_left_68 ?_
          refine lv_iload_n hx hb dX11_left_71 rfl (lv_at hl 1 rfl) ?_
          refine q_ci (q_rV4_1 (rest := [.int x_4]) E (hml.trans hl.1.symm) hI (c_X5_get l X σ_17 (q_rf X (q_rf X (q_rf X a 9) 1) 2) v1 (q_tk (k' := 5) hI (q_tk (k' := 2) hI (q_tk (k' := 1) hI ha rfl (Nat.succ_ne_zero _)) rfl (Nat.succ_ne_zero _)) rfl (Nat.succ_ne_zero _))) kv_X11_232 (q_tk (k' := 5) hI (q_tk (k' := 2) hI (q_tk (k' := 1) hI ha rfl (Nat.succ_ne_zero _)) rfl (Nat.succ_ne_zero _)) rfl (Nat.succ_ne_zero _)) ⟨Nat.le_of_ble_eq_true rfl, Nat.le_of_ble_eq_true rfl⟩ (Nat.le_of_ble_eq_true rfl) dX11_left_72) hI (Nat.le_of_ble_eq_true rfl) (fun r_18 σ_19 H locs hpσ_19 hkσ_19 hI => ?_)
          have ahpσ_19 := hpσ_19.1
          have bhpσ_19 := hpσ_19.2
          clear hpσ_19
          replace hI := q_Irw ahpσ_19 hI
          replace hF := q_letX hF bhpσ_19
          refine lv_iadd hx hb dX11_left_75 ?_
          refine lv_topi (fun z_20 ez_20 => ?_)
          replace hF := q_letX hF ez_20
          refine lv_istore (lv' := [(5, .int z_20), (0, .ref a), (1, .int v1), (2, .int v2), (3, .int v3), (4, .int r_1), (6, .int x_5)]) hx hb dX11_left_76 hl (by decide) rfl (fun ls hl => ?_)
          obtain ⟨z_21, ez_21⟩ : ∃ y : Int32, y = x_5 + 1 := ⟨_, rfl⟩
          replace hF := q_letX hF ez_21
          refine lv_iinc (v := z_21) (lv' := [(6, .int z_21), (5, .int z_20), (0, .ref a), (1, .int v1), (2, .int v2), (3, .int v3), (4, .int r_1)]) hx hb dX11_left_78 hl (k := 6) rfl (by rw [ez_21]; rfl) (by decide) rfl (fun ls hl => ?_)
          have iz_21 : z_21.toInt = x_5.toInt + 1 := q_inc ez_21 (by first | (clear ahpσ_2 bhpσ_2 c_3 hm27 ahpσ_14 bhpσ_14 ahpσ_17 bhpσ_17 ahpσ_19 bhpσ_19; omega) | omega)
          refine lv_goto (tgt := 27) hx hb dX11_left_81 (by decide) ?_
          exact ih27 z_20 z_21 σ_17 _ _ ls (by first | (clear ahpσ_2 bhpσ_2 c_3 ahpσ_14 bhpσ_14 ahpσ_17 bhpσ_17 ahpσ_19 bhpσ_19; omega) | omega) (by first | (clear ahpσ_2 bhpσ_2 c_3 hm27 gc_8_v3 c_8 ahpσ_14 bhpσ_14 ahpσ_17 bhpσ_17 ahpσ_19 bhpσ_19; omega) | omega) fr_σ_17 hF hI (lv_sub hl [2, 3, 4, 5, 6, 1, 0] rfl)
    exact L_27_7 ((2147483647 - (0 : Int32).toInt).toNat + 1) 0 0 σ _ _ ls (Nat.lt_succ_self _) (by decide) fr_σ hF hI (lv_sub hl [3, 4, 5, 6, 2, 1, 0] rfl)
  · skip
    replace hF := q_ifn hF c_3
    refine lv_aload_n hx hb dX11_left_14 rfl (lv_at hl 1 rfl) ?_
    refine lv_iload hx hb dX11_left_15 (lv_at hl 0 rfl) ?_
    refine q_ci (q_rV10_1 (rest := []) E (hml.trans hl.1.symm) hI (c_X11_no l X σ a r_1 ha) kv_X11_89 ha ⟨Nat.le_of_ble_eq_true rfl, Nat.le_of_ble_eq_true rfl⟩ (Nat.le_of_ble_eq_true rfl) dX11_left_17) hI (Nat.le_of_ble_eq_true rfl) (fun r_22 σ_23 H locs hpσ_23 hkσ_23 hI => ?_)
    have ahpσ_23 := hpσ_23.1
    have bhpσ_23 := hpσ_23.2.1
    have chpσ_23 := hpσ_23.2.2.1
    have dhpσ_23 := hpσ_23.2.2.2
    clear hpσ_23
    have fr_σ_23 := fr_σ.call dhpσ_23 rfl rfl
    replace hF := q_biX hF chpσ_23
    exact q_retz E hr hlk hI ⟨by omega, by omega⟩ ⟨⟨by omega, by omega⟩, (hF.trans hout), fr_σ_23⟩ dX11_left_20

set_option maxRecDepth 100000 in
set_option maxHeartbeats 4000000 in
theorem c_X11_markAt (l : Launch) (X : XW) (σ : ST) (a : Nat) (v1 : Int32) (ha : q_kd X a = 11) : Met l yX11_markAt (q_ws yX11_markAt cX11_markAt 2 (some (.object "CheatHeap$Game"))) (q_rm 0 0) (q_P X σ [.ref a, .int v1]) (q_Qq X 9 σ (fun (r : Option Nat) (σ' : ST) => σ' = σ ∧ ((∀ y, r = some y → q_kd X y = 1 ∧ 0 ≤ v1.toInt ∧ v1.toInt < 3) ∧ (r = none → ¬ (0 ≤ v1.toInt ∧ v1.toInt < 3))) ∧ r = F_X11_markAt X σ a v1)) 0 0 (q_reg X) := by
  refine q_met 9 (by first | exact rfl | decide +kernel) rfl (Nat.le_of_ble_eq_true rfl) (fun p e s m below meth c E hml hr hlk hI ls hl => ?_)
  have hx := E.1
  have hb := E.2.1
  have hl : lv_has ls 2 [(0, .ref a), (1, .int v1)] := hl
  obtain ⟨out, hout⟩ : ∃ o, o = F_X11_markAt X σ a v1 := ⟨_, rfl⟩
  have hF := hout.symm
  unfold F_X11_markAt at hF
  refine lv_iload_n hx hb dX11_markAt_0 rfl (lv_at hl 1 rfl) ?_
  refine q_if_lt (A := v1.toInt) E rfl (tgt := 18) dX11_markAt_1 (by decide) (fun c_1 => ?_) (fun c_1 => ?_)
  · skip
    replace hF := q_ifp hF c_1
    refine lv_null hx hb dX11_markAt_18 ?_
    exact q_retq (r := none) E hr hlk hI rfl ⟨rfl, ⟨fun y h => (nomatch h), fun _ => by omega⟩, (hF.trans hout)⟩ dX11_markAt_19
  · skip
    replace hF := q_ifn hF (Int.not_lt.mpr c_1)
    refine lv_iload_n hx hb dX11_markAt_4 rfl (lv_at hl 1 rfl) ?_
    refine lv_iconst (v := 3) hx hb dX11_markAt_5 zki_3 ?_
    refine q_icmp_ge (A := v1.toInt) (B := 3) E rfl (by decide) (tgt := 18) dX11_markAt_6 (by decide) (fun c_2 => ?_) (fun c_2 => ?_)
    · skip
      replace hF := q_ifn hF (Int.not_lt.mpr c_2)
      refine lv_null hx hb dX11_markAt_18 ?_
      exact q_retq (r := none) E hr hlk hI rfl ⟨rfl, ⟨fun y h => (nomatch h), fun _ => by omega⟩, (hF.trans hout)⟩ dX11_markAt_19
    · skip
      replace hF := q_ifp hF c_2
      refine lv_aload_n hx hb dX11_markAt_9 rfl (lv_at hl 0 rfl) ?_
      refine gs_X11_49_11 E hI ha dX11_markAt_10 ?_
      refine lv_iload_n hx hb dX11_markAt_13 rfl (lv_at hl 1 rfl) ?_
      refine q_aald E hI (q_tk (k' := 24) hI ha rfl (Nat.succ_ne_zero _)) (Or.inr rfl) (by omega) (by rw [q_lnk (v := 3) hI (q_tk (k' := 24) hI ha rfl (Nat.succ_ne_zero _)) rfl (by decide)]; omega) dX11_markAt_14 ?_
      refine lv_goto (tgt := 19) hx hb dX11_markAt_15 (by decide) ?_
      exact q_retq (r := some (q_rf X (q_rf X a 10) (v1 : Int32).toNatClampNeg)) E hr hlk hI rfl ⟨rfl, ⟨fun y h => by cases h; exact ⟨(q_tk24 hI (q_tk (k' := 24) hI ha rfl (Nat.succ_ne_zero _)) (by omega) (by omega)), by omega, by omega⟩, fun h => (nomatch h)⟩, (hF.trans hout)⟩ dX11_markAt_19
end
/-! FROM 16.class.b06.lean.txt -/
section
set_option maxRecDepth 100000 in
set_option maxHeartbeats 4000000 in
theorem c_X11_mark (l : Launch) (X : XW) (σ : ST) (a : Nat) (ha : q_kd X a = 11) : Met l yX11_mark (q_ws yX11_mark cX11_mark 2 (some .int)) (q_rm 3 64) (q_P X σ [.ref a]) (q_Qi X 0 σ (fun (r : Int32) (σ' : ST) => (q_KS (fun b g => b = a ∧ g = 11) 8 X σ σ') ∧ ((σ.1 a 11).toInt < 3 → (σ'.1 a 11).toInt = (σ.1 a 11).toInt + 1 ∧ r.toInt = (σ.1 a 11).toInt + 1) ∧ ((σ.1 a 11).toInt = 3 → (σ'.1 a 11).toInt = 3 ∧ r.toInt = -1) ∧ (r, σ') = F_X11_mark X σ a ∧ q_ow [(1, 4), (1, 5), (1, 6), (1, 7), (3, 0), (3, 1), (6, 0), (6, 1), (6, 2), (6, 3), (6, 4), (8, 0), (8, 1), (8, 2), (11, 0), (11, 11), (20, 99)] [] X σ σ')) 0 0 (q_reg X) := by
  refine q_met 0 (by first | exact rfl | decide +kernel) rfl (Nat.le_of_ble_eq_true rfl) (fun p e s m below meth c E hml hr hlk hI ls hl => ?_)
  have hx := E.1
  have hb := E.2.1
  have hl : lv_has ls 2 [(0, .ref a)] := hl
  have ks_σ : q_KS (fun b g => b = a ∧ g = 11) 8 X σ σ := q_KS.rf
  have fr_σ : q_ow [(1, 4), (1, 5), (1, 6), (1, 7), (3, 0), (3, 1), (6, 0), (6, 1), (6, 2), (6, 3), (6, 4), (8, 0), (8, 1), (8, 2), (11, 0), (11, 11), (20, 99)] [] X σ σ := q_ow.rf
  obtain ⟨out, hout⟩ : ∃ o, o = F_X11_mark X σ a := ⟨_, rfl⟩
  have hF := hout.symm
  unfold F_X11_mark at hF
  refine lv_aload_n hx hb dX11_mark_0 rfl (lv_at hl 0 rfl) ?_
  refine lv_aload_n hx hb dX11_mark_1 rfl (lv_at hl 0 rfl) ?_
  refine gs_X11_53_11 E hI ha dX11_mark_2 ?_
  refine lv_topi (fun f_1 ef_1 => ?_)
  replace hF := q_letX hF ef_1
  have if_1 : f_1.toInt = (σ.1 a 11).toInt := congrArg Int32.toInt ef_1
  have bf_1 : 0 ≤ f_1.toInt ∧ f_1.toInt ≤ 3 := by rw [ef_1]; exact q_bd hI ha rfl
  refine q_cq (q_rV10_1 (rest := []) E (hml.trans hl.1.symm) hI (c_X11_markAt l X σ a f_1 ha) kv_X11_420 ha ⟨Nat.le_of_ble_eq_true rfl, Nat.le_of_ble_eq_true rfl⟩ (Nat.le_of_ble_eq_true rfl) dX11_mark_5) hI (Nat.le_of_ble_eq_true rfl) (fun r_2 σ_3 H locs hpσ_3 hkσ_3 hI => ?_)
  have ahpσ_3 := hpσ_3.1
  have bhpσ_3 := hpσ_3.2.1
  have chpσ_3 := hpσ_3.2.2
  clear hpσ_3
  replace hI := q_Irw ahpσ_3 hI
  replace hF := q_letX hF chpσ_3
  rcases r_2 with _ | r_2
  · show W _ _ _ _ _ _ _ _ _ _ _ _ _ _ _ (F0 m (5 + 3) ls [.null])
    replace hF := q_onN hF
    have nq_f_1 := bhpσ_3.2 rfl
    refine lv_astore_nN (lv' := [(1, .null), (0, .ref a)]) hx hb dX11_mark_8 rfl hl (by decide) rfl (fun ls hl => ?_)
    refine lv_aload_nN hx hb dX11_mark_9 rfl (lv_at hl 0 rfl) ?_
    refine lv_ifnonnullN hx hb dX11_mark_10 ?_
    refine lv_aload_n hx hb dX11_mark_13 rfl (lv_at hl 1 rfl) ?_
    refine lv_bipush (v := 7) hx hb dX11_mark_14 zkb_7 ?_
    have kc_4 : (7 : Int32).toInt = 7 := zt_7
    refine q_ci (q_rV10_1 (rest := []) E (hml.trans hl.1.symm) hI (c_X11_none l X σ a (7 : Int32) ha) kv_X11_109 ha ⟨Nat.le_of_ble_eq_true rfl, Nat.le_of_ble_eq_true rfl⟩ (Nat.le_of_ble_eq_true rfl) dX11_mark_16) hI (Nat.le_of_ble_eq_true rfl) (fun r_5 σ_6 H locs hpσ_6 hkσ_6 hI => ?_)
    have ahpσ_6 := hpσ_6.1
    have bhpσ_6 := hpσ_6.2.1
    have chpσ_6 := hpσ_6.2.2
    clear hpσ_6
    have fr_σ_6 := fr_σ.call chpσ_6 rfl rfl
    replace hF := q_biX hF bhpσ_6
    have mv11_σ_6 : (σ_6.1 a 11).toInt = (σ.1 a 11).toInt := congrArg Int32.toInt ((q_K.le hkσ_6 (by decide) : q_K 8 X σ σ_6) a 11 (by rw [ha]; decide))
    have ks_σ_6 : q_KS (fun b g => b = a ∧ g = 11) 8 X σ σ_6 := ks_σ.K hkσ_6 (by decide)
    exact q_reti E hr hlk hI ⟨ks_σ_6, (by first | (clear ahpσ_3 bhpσ_3 chpσ_3 kc_4 bhpσ_6 chpσ_6; omega) | omega), (by first | (clear if_1 bf_1 ahpσ_3 bhpσ_3 chpσ_3 nq_f_1 kc_4 bhpσ_6 chpσ_6; omega) | omega), (hF.trans hout), fr_σ_6⟩ dX11_mark_19
  · show W _ _ _ _ _ _ _ _ _ _ _ _ _ _ _ (F0 m (5 + 3) ls [.ref r_2])
    replace hF := q_onS hF
    obtain ⟨kq_r_2, lo_r_2, hi_r_2⟩ := bhpσ_3.1 _ rfl
    refine lv_astore_n (lv' := [(1, .ref r_2), (0, .ref a)]) hx hb dX11_mark_8 rfl hl (by decide) rfl (fun ls hl => ?_)
    refine lv_aload_n hx hb dX11_mark_9 rfl (lv_at hl 0 rfl) ?_
    refine lv_ifnonnull (tgt := 20) hx hb dX11_mark_10 (by decide) ?_
    refine lv_aload_n hx hb dX11_mark_20 rfl (lv_at hl 0 rfl) ?_
    refine lv_aload_n hx hb dX11_mark_21 rfl (lv_at hl 1 rfl) ?_
    refine gs_X11_42_11 E hI ha dX11_mark_22 ?_
    refine q_cv (q_rV0_1 (rest := []) E (hml.trans hl.1.symm) hI (c_X0_copyFrom l X σ r_2 (q_rf X a 8) kq_r_2 (q_tk (k' := 1) hI ha rfl (Nat.succ_ne_zero _))) kv_X11_144 kq_r_2 ⟨Nat.le_of_ble_eq_true rfl, Nat.le_of_ble_eq_true rfl⟩ (Nat.le_of_ble_eq_true rfl) dX11_mark_25) hI (Nat.le_of_ble_eq_true rfl) (fun σ_8 H locs hpσ_8 hkσ_8 hI => ?_)
    have ahpσ_8 := hpσ_8.1
    have bhpσ_8 := hpσ_8.2
    clear hpσ_8
    have fr_σ_8 := fr_σ.call bhpσ_8 rfl rfl
    replace hF := q_letX hF ahpσ_8
    have mv11_σ_8 : (σ_8.1 a 11).toInt = (σ.1 a 11).toInt := congrArg Int32.toInt ((q_K.le hkσ_8 (by decide) : q_K 8 X σ σ_8) a 11 (by rw [ha]; decide))
    have ks_σ_8 : q_KS (fun b g => b = a ∧ g = 11) 8 X σ σ_8 := ks_σ.K hkσ_8 (by decide)
    refine lv_aload_n hx hb dX11_mark_28 rfl (lv_at hl 1 rfl) ?_
    refine lv_dup hx hb dX11_mark_29 rfl ?_
    refine gs_X11_53_11 E hI ha dX11_mark_30 ?_
    refine lv_topi (fun f_9 ef_9 => ?_)
    replace hF := q_letX hF ef_9
    have if_9 : f_9.toInt = (σ_8.1 a 11).toInt := congrArg Int32.toInt ef_9
    have bf_9 : 0 ≤ f_9.toInt ∧ f_9.toInt ≤ 3 := by rw [ef_9]; exact q_bd hI ha rfl
    refine lv_iconst (v := 1) hx hb dX11_mark_33 zki_1 ?_
    refine lv_iadd hx hb dX11_mark_34 ?_
    refine lv_topi (fun z_10 ez_10 => ?_)
    replace hF := q_letX hF ez_10
    have kc_11 : (1 : Int32).toInt = 1 := zt_1
    have iz_10 := q_add ez_10 (by first | (clear ahpσ_3 bhpσ_3 chpσ_3 lo_r_2 ahpσ_8 bhpσ_8 bf_9; omega) | omega) (by first | (clear ahpσ_3 bhpσ_3 chpσ_3 lo_r_2 ahpσ_8 bhpσ_8 bf_9; omega) | omega)
    refine ps_X11_53_11 E hI ha (by decide) (by first | (clear ahpσ_3 bhpσ_3 chpσ_3 lo_r_2 ahpσ_8 bhpσ_8 bf_9; omega) | omega) (by first | (clear ahpσ_3 bhpσ_3 chpσ_3 lo_r_2 ahpσ_8 bhpσ_8 bf_9; omega) | omega) dX11_mark_35 (fun H locs σ_12 hσ_12 hI => ?_)
    replace hF := q_letX hF hσ_12
    have fr_σ_12 := fr_σ_8.si hσ_12 ha rfl
    have ks_σ_12 : q_KS (fun b g => b = a ∧ g = 11) 8 X σ σ_12 := ks_σ_8.siS hσ_12 ⟨rfl, rfl⟩
    have mv11_σ_12 : (σ_12.1 a 11).toInt = z_10.toInt := congrArg Int32.toInt (q_rd hσ_12)
    refine lv_aload_n hx hb dX11_mark_38 rfl (lv_at hl 1 rfl) ?_
    refine lv_aload_n hx hb dX11_mark_39 rfl (lv_at hl 1 rfl) ?_
    refine gs_X11_53_11 E hI ha dX11_mark_40 ?_
    refine lv_topi (fun f_13 ef_13 => ?_)
    replace hF := q_letX hF ef_13
    have if_13 : f_13.toInt = (σ_12.1 a 11).toInt := congrArg Int32.toInt ef_13
    have bf_13 : 0 ≤ f_13.toInt ∧ f_13.toInt ≤ 3 := by rw [ef_13]; exact q_bd hI ha rfl
    refine q_ci (q_rV10_1 (rest := []) E (hml.trans hl.1.symm) hI (c_X11_good l X σ_12 a f_13 ha) kv_X11_156 ha ⟨Nat.le_of_ble_eq_true rfl, Nat.le_of_ble_eq_true rfl⟩ (Nat.le_of_ble_eq_true rfl) dX11_mark_43) hI (Nat.le_of_ble_eq_true rfl) (fun r_14 σ_15 H locs hpσ_15 hkσ_15 hI => ?_)
    have ahpσ_15 := hpσ_15.1
    have bhpσ_15 := hpσ_15.2.1
    have chpσ_15 := hpσ_15.2.2
    clear hpσ_15
    have fr_σ_15 := fr_σ_12.call chpσ_15 rfl rfl
    replace hF := q_biX hF bhpσ_15
    have mv11_σ_15 : (σ_15.1 a 11).toInt = (σ_12.1 a 11).toInt := congrArg Int32.toInt ((q_K.le hkσ_15 (by decide) : q_K 8 X σ_12 σ_15) a 11 (by rw [ha]; decide))
    have ks_σ_15 : q_KS (fun b g => b = a ∧ g = 11) 8 X σ σ_15 := ks_σ_12.K hkσ_15 (by decide)
    exact q_reti E hr hlk hI ⟨ks_σ_15, (by first | (clear if_1 bf_1 ahpσ_3 bhpσ_3 chpσ_3 lo_r_2 hi_r_2 ahpσ_8 bhpσ_8 bf_9 bf_13 bhpσ_15 chpσ_15; omega) | omega), (by first | (clear ahpσ_3 bhpσ_3 chpσ_3 lo_r_2 ahpσ_8 bhpσ_8 bf_9 bf_13 bhpσ_15 chpσ_15; omega) | omega), (hF.trans hout), fr_σ_15⟩ dX11_mark_46

set_option maxRecDepth 100000 in
set_option maxHeartbeats 4000000 in
theorem c_X11_back (l : Launch) (X : XW) (σ : ST) (a : Nat) (ha : q_kd X a = 11) : Met l yX11_back (q_ws yX11_back cX11_back 2 (some .int)) (q_rm 3 64) (q_P X σ [.ref a]) (q_Qi X 0 σ (fun (r : Int32) (σ' : ST) => (q_KS (fun b g => b = a ∧ g = 11) 8 X σ σ') ∧ (0 < (σ.1 a 11).toInt → (σ'.1 a 11).toInt = (σ.1 a 11).toInt - 1 ∧ r.toInt = (σ.1 a 11).toInt - 1) ∧ ((σ.1 a 11).toInt = 0 → (σ'.1 a 11).toInt = 0 ∧ r.toInt = -1) ∧ (r, σ') = F_X11_back X σ a ∧ q_ow [(1, 4), (1, 5), (1, 6), (1, 7), (3, 0), (3, 1), (6, 0), (6, 1), (6, 2), (6, 3), (6, 4), (8, 0), (8, 1), (8, 2), (11, 0), (11, 11), (20, 99)] [] X σ σ')) 0 0 (q_reg X) := by
  refine q_met 0 (by first | exact rfl | decide +kernel) rfl (Nat.le_of_ble_eq_true rfl) (fun p e s m below meth c E hml hr hlk hI ls hl => ?_)
  have hx := E.1
  have hb := E.2.1
  have hl : lv_has ls 2 [(0, .ref a)] := hl
  have ks_σ : q_KS (fun b g => b = a ∧ g = 11) 8 X σ σ := q_KS.rf
  have fr_σ : q_ow [(1, 4), (1, 5), (1, 6), (1, 7), (3, 0), (3, 1), (6, 0), (6, 1), (6, 2), (6, 3), (6, 4), (8, 0), (8, 1), (8, 2), (11, 0), (11, 11), (20, 99)] [] X σ σ := q_ow.rf
  obtain ⟨out, hout⟩ : ∃ o, o = F_X11_back X σ a := ⟨_, rfl⟩
  have hF := hout.symm
  unfold F_X11_back at hF
  refine lv_aload_n hx hb dX11_back_0 rfl (lv_at hl 0 rfl) ?_
  refine lv_aload_n hx hb dX11_back_1 rfl (lv_at hl 0 rfl) ?_
  refine gs_X11_53_11 E hI ha dX11_back_2 ?_
  refine lv_topi (fun f_1 ef_1 => ?_)
  replace hF := q_letX hF ef_1
  have if_1 : f_1.toInt = (σ.1 a 11).toInt := congrArg Int32.toInt ef_1
  have bf_1 : 0 ≤ f_1.toInt ∧ f_1.toInt ≤ 3 := by rw [ef_1]; exact q_bd hI ha rfl
  refine lv_iconst (v := 1) hx hb dX11_back_5 zki_1 ?_
  refine lv_isub hx hb dX11_back_6 ?_
  refine lv_topi (fun z_2 ez_2 => ?_)
  replace hF := q_letX hF ez_2
  have kc_3 : (1 : Int32).toInt = 1 := zt_1
  have iz_2 := q_sub ez_2 (by omega) (by omega)
  refine q_cq (q_rV10_1 (rest := []) E (hml.trans hl.1.symm) hI (c_X11_markAt l X σ a z_2 ha) kv_X11_420 ha ⟨Nat.le_of_ble_eq_true rfl, Nat.le_of_ble_eq_true rfl⟩ (Nat.le_of_ble_eq_true rfl) dX11_back_7) hI (Nat.le_of_ble_eq_true rfl) (fun r_4 σ_5 H locs hpσ_5 hkσ_5 hI => ?_)
  have ahpσ_5 := hpσ_5.1
  have bhpσ_5 := hpσ_5.2.1
  have chpσ_5 := hpσ_5.2.2
  clear hpσ_5
  replace hI := q_Irw ahpσ_5 hI
  replace hF := q_letX hF chpσ_5
  rcases r_4 with _ | r_4
  · show W _ _ _ _ _ _ _ _ _ _ _ _ _ _ _ (F0 m (7 + 3) ls [.null])
    replace hF := q_onN hF
    have nq_z_2 := bhpσ_5.2 rfl
    refine lv_astore_nN (lv' := [(1, .null), (0, .ref a)]) hx hb dX11_back_10 rfl hl (by decide) rfl (fun ls hl => ?_)
    refine lv_aload_nN hx hb dX11_back_11 rfl (lv_at hl 0 rfl) ?_
    refine lv_ifnonnullN hx hb dX11_back_12 ?_
    refine lv_aload_n hx hb dX11_back_15 rfl (lv_at hl 1 rfl) ?_
    refine lv_bipush (v := 8) hx hb dX11_back_16 zkb_8 ?_
    have kc_6 : (8 : Int32).toInt = 8 := zt_8
    refine q_ci (q_rV10_1 (rest := []) E (hml.trans hl.1.symm) hI (c_X11_none l X σ a (8 : Int32) ha) kv_X11_109 ha ⟨Nat.le_of_ble_eq_true rfl, Nat.le_of_ble_eq_true rfl⟩ (Nat.le_of_ble_eq_true rfl) dX11_back_18) hI (Nat.le_of_ble_eq_true rfl) (fun r_7 σ_8 H locs hpσ_8 hkσ_8 hI => ?_)
    have ahpσ_8 := hpσ_8.1
    have bhpσ_8 := hpσ_8.2.1
    have chpσ_8 := hpσ_8.2.2
    clear hpσ_8
    have fr_σ_8 := fr_σ.call chpσ_8 rfl rfl
    replace hF := q_biX hF bhpσ_8
    have mv11_σ_8 : (σ_8.1 a 11).toInt = (σ.1 a 11).toInt := congrArg Int32.toInt ((q_K.le hkσ_8 (by decide) : q_K 8 X σ σ_8) a 11 (by rw [ha]; decide))
    have ks_σ_8 : q_KS (fun b g => b = a ∧ g = 11) 8 X σ σ_8 := ks_σ.K hkσ_8 (by decide)
    exact q_reti E hr hlk hI ⟨ks_σ_8, (by first | (clear ahpσ_5 bhpσ_5 chpσ_5 kc_6 bhpσ_8 chpσ_8; omega) | omega), (by first | (clear bf_1 ahpσ_5 bhpσ_5 chpσ_5 nq_z_2 kc_6 bhpσ_8 chpσ_8; omega) | omega), (hF.trans hout), fr_σ_8⟩ dX11_back_21
  · show W _ _ _ _ _ _ _ _ _ _ _ _ _ _ _ (F0 m (7 + 3) ls [.ref r_4])
    replace hF := q_onS hF
    obtain ⟨kq_r_4, lo_r_4, hi_r_4⟩ := bhpσ_5.1 _ rfl
    refine lv_astore_n (lv' := [(1, .ref r_4), (0, .ref a)]) hx hb dX11_back_10 rfl hl (by decide) rfl (fun ls hl => ?_)
    refine lv_aload_n hx hb dX11_back_11 rfl (lv_at hl 0 rfl) ?_
    refine lv_ifnonnull (tgt := 22) hx hb dX11_back_12 (by decide) ?_
    refine lv_aload_n hx hb dX11_back_22 rfl (lv_at hl 1 rfl) ?_
    refine gs_X11_42_11 E hI ha dX11_back_23 ?_
    refine lv_aload_n hx hb dX11_back_26 rfl (lv_at hl 0 rfl) ?_
    refine q_cv (q_rV0_1 (rest := []) E (hml.trans hl.1.symm) hI (c_X0_copyFrom l X σ (q_rf X a 8) r_4 (q_tk (k' := 1) hI ha rfl (Nat.succ_ne_zero _)) kq_r_4) kv_X11_144 (q_tk (k' := 1) hI ha rfl (Nat.succ_ne_zero _)) ⟨Nat.le_of_ble_eq_true rfl, Nat.le_of_ble_eq_true rfl⟩ (Nat.le_of_ble_eq_true rfl) dX11_back_27) hI (Nat.le_of_ble_eq_true rfl) (fun σ_10 H locs hpσ_10 hkσ_10 hI => ?_)
    have ahpσ_10 := hpσ_10.1
    have bhpσ_10 := hpσ_10.2
    clear hpσ_10
    have fr_σ_10 := fr_σ.call bhpσ_10 rfl rfl
    replace hF := q_letX hF ahpσ_10
    have mv11_σ_10 : (σ_10.1 a 11).toInt = (σ.1 a 11).toInt := congrArg Int32.toInt ((q_K.le hkσ_10 (by decide) : q_K 8 X σ σ_10) a 11 (by rw [ha]; decide))
    have ks_σ_10 : q_KS (fun b g => b = a ∧ g = 11) 8 X σ σ_10 := ks_σ.K hkσ_10 (by decide)
    refine lv_aload_n hx hb dX11_back_30 rfl (lv_at hl 1 rfl) ?_
    refine lv_dup hx hb dX11_back_31 rfl ?_
    refine gs_X11_53_11 E hI ha dX11_back_32 ?_
    refine lv_topi (fun f_11 ef_11 => ?_)
    replace hF := q_letX hF ef_11
    have if_11 : f_11.toInt = (σ_10.1 a 11).toInt := congrArg Int32.toInt ef_11
    have bf_11 : 0 ≤ f_11.toInt ∧ f_11.toInt ≤ 3 := by rw [ef_11]; exact q_bd hI ha rfl
    refine lv_iconst (v := 1) hx hb dX11_back_35 zki_1 ?_
    refine lv_isub hx hb dX11_back_36 ?_
    refine lv_topi (fun z_12 ez_12 => ?_)
    replace hF := q_letX hF ez_12
    have kc_13 : (1 : Int32).toInt = 1 := zt_1
    have iz_12 := q_sub ez_12 (by first | (clear ahpσ_5 bhpσ_5 chpσ_5 hi_r_4 ahpσ_10 bhpσ_10 bf_11 kc_13; omega) | omega) (by first | (clear ahpσ_5 bhpσ_5 chpσ_5 hi_r_4 ahpσ_10 bhpσ_10 bf_11 kc_13; omega) | omega)
    refine ps_X11_53_11 E hI ha (by decide) (by first | (clear ahpσ_5 bhpσ_5 chpσ_5 hi_r_4 ahpσ_10 bhpσ_10 bf_11 kc_13; omega) | omega) (by first | (clear ahpσ_5 bhpσ_5 chpσ_5 hi_r_4 ahpσ_10 bhpσ_10 bf_11 kc_13; omega) | omega) dX11_back_37 (fun H locs σ_14 hσ_14 hI => ?_)
    replace hF := q_letX hF hσ_14
    have fr_σ_14 := fr_σ_10.si hσ_14 ha rfl
    have ks_σ_14 : q_KS (fun b g => b = a ∧ g = 11) 8 X σ σ_14 := ks_σ_10.siS hσ_14 ⟨rfl, rfl⟩
    have mv11_σ_14 : (σ_14.1 a 11).toInt = z_12.toInt := congrArg Int32.toInt (q_rd hσ_14)
    refine lv_aload_n hx hb dX11_back_40 rfl (lv_at hl 1 rfl) ?_
    refine lv_aload_n hx hb dX11_back_41 rfl (lv_at hl 1 rfl) ?_
    refine gs_X11_53_11 E hI ha dX11_back_42 ?_
    refine lv_topi (fun f_15 ef_15 => ?_)
    replace hF := q_letX hF ef_15
    have if_15 : f_15.toInt = (σ_14.1 a 11).toInt := congrArg Int32.toInt ef_15
    have bf_15 : 0 ≤ f_15.toInt ∧ f_15.toInt ≤ 3 := by rw [ef_15]; exact q_bd hI ha rfl
    refine q_ci (q_rV10_1 (rest := []) E (hml.trans hl.1.symm) hI (c_X11_good l X σ_14 a f_15 ha) kv_X11_156 ha ⟨Nat.le_of_ble_eq_true rfl, Nat.le_of_ble_eq_true rfl⟩ (Nat.le_of_ble_eq_true rfl) dX11_back_45) hI (Nat.le_of_ble_eq_true rfl) (fun r_16 σ_17 H locs hpσ_17 hkσ_17 hI => ?_)
    have ahpσ_17 := hpσ_17.1
    have bhpσ_17 := hpσ_17.2.1
    have chpσ_17 := hpσ_17.2.2
    clear hpσ_17
    have fr_σ_17 := fr_σ_14.call chpσ_17 rfl rfl
    replace hF := q_biX hF bhpσ_17
    have mv11_σ_17 : (σ_17.1 a 11).toInt = (σ_14.1 a 11).toInt := congrArg Int32.toInt ((q_K.le hkσ_17 (by decide) : q_K 8 X σ_14 σ_17) a 11 (by rw [ha]; decide))
    have ks_σ_17 : q_KS (fun b g => b = a ∧ g = 11) 8 X σ σ_17 := ks_σ_14.K hkσ_17 (by decide)
    exact q_reti E hr hlk hI ⟨ks_σ_17, (by first | (clear bf_1 ahpσ_5 bhpσ_5 chpσ_5 lo_r_4 hi_r_4 ahpσ_10 bhpσ_10 bf_11 kc_13 bf_15 bhpσ_17 chpσ_17; omega) | omega), (by first | (clear ahpσ_5 bhpσ_5 chpσ_5 hi_r_4 ahpσ_10 bhpσ_10 bf_11 kc_13 bf_15 bhpσ_17 chpσ_17; omega) | omega), (hF.trans hout), fr_σ_17⟩ dX11_back_48
end
/-! FROM 20.num.lean.txt -/
section
theorem q_addI {x y z : Int32} {A B : Int} (e : z = x + y) (ea : x.toInt = A) (eb : y.toInt = B) (h1 : -2147483648 ≤ A + B) (h2 : A + B ≤ 2147483647) : z.toInt = A + B := by
  subst ea; subst eb; exact q_add e h1 h2
theorem q_subI {x y z : Int32} {A B : Int} (e : z = x - y) (ea : x.toInt = A) (eb : y.toInt = B) (h1 : -2147483648 ≤ A - B) (h2 : A - B ≤ 2147483647) : z.toInt = A - B := by
  subst ea; subst eb; exact q_sub e h1 h2
theorem q_mulI {x y z : Int32} {A B : Int} (e : z = x * y) (ea : x.toInt = A) (eb : y.toInt = B) (h1 : -2147483648 ≤ A * B) (h2 : A * B ≤ 2147483647) : z.toInt = A * B := by
  subst ea; subst eb; exact q_mul e h1 h2
theorem q_addJ {x y z : Int64} {A B : Int} (e : z = x + y) (ea : x.toInt = A) (eb : y.toInt = B) (h1 : -9223372036854775808 ≤ A + B) (h2 : A + B ≤ 9223372036854775807) : z.toInt = A + B := by
  subst ea; subst eb
  rw [e, Int64.toInt_add]
  exact Int.bmod_eq_of_le (by omega) (by omega)
theorem q_subJ {x y z : Int64} {A B : Int} (e : z = x - y) (ea : x.toInt = A) (eb : y.toInt = B) (h1 : -9223372036854775808 ≤ A - B) (h2 : A - B ≤ 9223372036854775807) : z.toInt = A - B := by
  subst ea; subst eb
  rw [e, Int64.toInt_sub]
  exact Int.bmod_eq_of_le (by omega) (by omega)
theorem q_mulJ {x y z : Int64} {A B : Int} (e : z = x * y) (ea : x.toInt = A) (eb : y.toInt = B) (h1 : -9223372036854775808 ≤ A * B) (h2 : A * B ≤ 9223372036854775807) : z.toInt = A * B := by
  subst ea; subst eb
  rw [e, Int64.toInt_mul]
  exact Int.bmod_eq_of_le (by omega) (by omega)
/-- the model's table -/
def m_c (X : XW) (σ : ST) (a : Nat) (j : Int) : Int := (σ.1 (q_rf X a 20) j.toNat).toInt
/-- a byte of the model's tape -/
def m_look (X : XW) (σ : ST) (a : Nat) (p : Int) : Int := if p < (σ.1 a 9).toInt then ((σ.1 (q_rf X a 7) p.toNat) &&& 255).toInt else 0
theorem m_k30 {n : Nat} {X : XW} {σ σ' : ST} {a : Nat} (h : q_K n X σ σ') (hT : q_T X) (ha : q_kd X a = 12) (hn : 1 ≤ n) (j : Nat) : (σ'.1 (q_rf X a 4) j).toInt = (σ.1 (q_rf X a 4) j).toInt := by
  have hk : q_kd X (q_rf X a 4) = 30 := (hT.1 a 4 (by rw [ha]; decide)).trans (by rw [ha]; rfl)
  exact congrArg Int32.toInt (h _ j (by rw [hk]; exact hn))
theorem m_k31 {n : Nat} {X : XW} {σ σ' : ST} {a : Nat} (h : q_K n X σ σ') (hT : q_T X) (ha : q_kd X a = 12) (hn : 1 ≤ n) (j : Nat) : (σ'.1 (q_rf X a 5) j).toInt = (σ.1 (q_rf X a 5) j).toInt := by
  have hk : q_kd X (q_rf X a 5) = 31 := (hT.1 a 5 (by rw [ha]; decide)).trans (by rw [ha]; rfl)
  exact congrArg Int32.toInt (h _ j (by rw [hk]; exact hn))
theorem m_cK {n : Nat} {X : XW} {σ σ' : ST} {a : Nat} (h : q_K n X σ σ') (hT : q_T X) (ha : q_kd X a = 12) (hn : 2 ≤ n) (j : Int) : m_c X σ' a j = m_c X σ a j := by
  have hk : q_kd X (q_rf X a 20) = 34 := (hT.1 a 20 (by rw [ha]; decide)).trans (by rw [ha]; rfl)
  exact congrArg Int32.toInt (h _ _ (by rw [hk]; exact hn))
theorem m_ne {X : XW} {a b k k' : Nat} (ha : q_kd X a = k) (hb : q_kd X b = k') (h : k ≠ k') : a ≠ b := by
  rintro rfl
  exact h (ha.symm.trans hb)
theorem q_cl9 (k f : Nat) : q_cl k f ≤ 9 := by
  unfold q_cl
  split
  all_goals first | (split <;> decide) | decide
theorem m_lookK {X : XW} {σ σ' : ST} {a : Nat} {S : Nat → Nat → Prop} (h : q_KS S 9 X σ σ') (hT : q_T X) (ha : q_kd X a = 12) (hS : ∀ b g, S b g → b = a ∧ g ≠ 9) (p : Int) : m_look X σ' a p = m_look X σ a p := by
  have hk : q_kd X (q_rf X a 7) = 33 := (hT.1 a 7 (by rw [ha]; decide)).trans (by rw [ha]; rfl)
  unfold m_look
  rw [h a 9 (q_cl9 _ _) (fun z => (hS _ _ z).2 rfl), h (q_rf X a 7) p.toNat (q_cl9 _ _) (fun z => m_ne hk ha (by decide) (hS _ _ z).1)]
theorem q_KS.to {S : Nat → Nat → Prop} {n n' : Nat} {X : XW} {σ σ' : ST} (h : q_KS S n X σ σ') (hn : n' ≤ n) : q_KS S n' X σ σ' := fun b g q hs => h b g (Nat.le_trans q hn) hs
theorem m_and255 (x : Int32) : 0 ≤ (x &&& 255).toInt ∧ (x &&& 255).toInt ≤ 255 := by
  have h : (x &&& 255) = (x.toUInt32 &&& 255).toInt32 := rfl
  have h2 : (x.toUInt32 &&& 255).toNat ≤ 255 := by
    rw [UInt32.toNat_and]
    exact Nat.and_le_right
  have h3 : ((x.toUInt32 &&& 255).toInt32).toInt = ((x.toUInt32 &&& 255).toNat : Int) := by
    show ((x.toUInt32 &&& 255).toBitVec).toInt = _
    rw [BitVec.toInt_eq_toNat_of_lt (by show 2 * (x.toUInt32 &&& 255).toNat < _; omega)]
    rfl
  rw [h, h3]
  omega
end
/-! FROM 21.table.lean.txt -/
section
theorem m_rd {X : XW} {σ : ST} {a : Nat} {i z : Int32} {A : Int} (e : z = σ.1 (q_rf X a 20) i.toNatClampNeg) (h : i.toInt = A) : z.toInt = m_c X σ a A := by
  subst h
  exact congrArg Int32.toInt e
theorem m_wr {X : XW} {σ σ' : ST} {a : Nat} {i v : Int32} {A : Int} (e : σ' = q_si σ (q_rf X a 20) i.toNatClampNeg v) (h : i.toInt = A) (h0 : 0 ≤ A) : ∀ j : Int, 0 ≤ j → m_c X σ' a j = if j = A then v.toInt else m_c X σ a j := by
  subst h
  intro j hj
  unfold m_c
  by_cases q : j = i.toInt
  · subst q
    rw [if_pos rfl]
    exact congrArg Int32.toInt (q_rd e)
  · rw [if_neg q]
    refine congrArg Int32.toInt (q_rdn e (Or.inr ?_))
    show j.toNat ≠ i.toInt.toNat
    omega
theorem m_wo {X : XW} {σ σ' : ST} {a b f : Nat} {v : Int32} (e : σ' = q_si σ b f v) (h : b ≠ q_rf X a 20) (j : Int) : m_c X σ' a j = m_c X σ a j := congrArg Int32.toInt (q_rdn e (Or.inl (Ne.symm h)))
theorem m_wl {X : XW} {σ σ' : ST} {b f : Nat} {v : Int64} (e : σ' = q_sl σ b f v) (a : Nat) (j : Int) : m_c X σ' a j = m_c X σ a j := congrArg Int32.toInt (q_rdl e)
end
/-! FROM 22.game.lean.txt -/
section
/-! the model's game: what its table, hands, heap and steps are between two calls -/
/-- the sum of n cells from b on -/
def m_S (c : Int → Int) (b : Int) : Nat → Int
  | 0 => 0
  | n + 1 => m_S c b n + c (b + (n : Int))
/-- how many cards the first n layings have -/
def m_L (c : Int → Int) : Nat → Int
  | 0 => 0
  | n + 1 => m_L c n + c (94 + 7 * (n : Int) + 2)
theorem m_S_ext {c c' : Int → Int} {b : Int} {n : Nat} (h : ∀ j : Int, b ≤ j → j < b + (n : Int) → c' j = c j) : m_S c' b n = m_S c b n := by
  induction n with
  | zero => rfl
  | succ n ih =>
    show m_S c' b n + c' (b + (n : Int)) = m_S c b n + c (b + (n : Int))
    rw [ih (fun j h1 h2 => h j h1 (by omega)), h _ (by omega) (by omega)]
theorem m_L_ext {c c' : Int → Int} {n : Nat} (h : ∀ i : Int, 0 ≤ i → i < (n : Int) → c' (94 + 7 * i + 2) = c (94 + 7 * i + 2)) : m_L c' n = m_L c n := by
  induction n with
  | zero => rfl
  | succ n ih =>
    show m_L c' n + c' (94 + 7 * (n : Int) + 2) = m_L c n + c (94 + 7 * (n : Int) + 2)
    rw [ih (fun j h1 h2 => h j h1 (by omega)), h _ (by omega) (by omega)]
theorem m_S_succ (c : Int → Int) (b k : Int) (h : 0 ≤ k) : m_S c b (k + 1).toNat = m_S c b k.toNat + c (b + k) := by
  have e : (k + 1).toNat = k.toNat + 1 := by omega
  have e2 : (k.toNat : Int) = k := by omega
  rw [e]
  show m_S c b k.toNat + c (b + (k.toNat : Int)) = _
  rw [e2]
theorem m_L_succ (c : Int → Int) (k : Int) (h : 0 ≤ k) : m_L c (k + 1).toNat = m_L c k.toNat + c (94 + 7 * k + 2) := by
  have e : (k + 1).toNat = k.toNat + 1 := by omega
  have e2 : (k.toNat : Int) = k := by omega
  rw [e]
  show m_L c k.toNat + c (94 + 7 * (k.toNat : Int) + 2) = _
  rw [e2]
theorem m_S_add (c : Int → Int) (b : Int) (m n : Nat) : m_S c b (m + n) = m_S c b m + m_S c (b + (m : Int)) n := by
  induction n with
  | zero => show m_S c b m = m_S c b m + 0; omega
  | succ n ih =>
    show m_S c b (m + n) + c (b + ((m + n : Nat) : Int)) = m_S c b m + (m_S c (b + (m : Int)) n + c (b + (m : Int) + (n : Int)))
    have e : b + ((m + n : Nat) : Int) = b + (m : Int) + (n : Int) := by omega
    rw [ih, e]
    omega
theorem m_S_nn {c : Int → Int} {b : Int} {n : Nat} (h : ∀ j : Int, b ≤ j → j < b + (n : Int) → 0 ≤ c j) : 0 ≤ m_S c b n := by
  induction n with
  | zero => exact Int.le_refl _
  | succ n ih =>
    have h1 := ih (fun j a b => h j a (by omega))
    have h2 := h (b + (n : Int)) (by omega) (by omega)
    show 0 ≤ m_S c b n + c (b + (n : Int))
    omega
/-- six hands -/
theorem m_S_6 (c : Int → Int) : m_S c 34 60 = m_S c 34 10 + m_S c 44 10 + m_S c 54 10 + m_S c 64 10 + m_S c 74 10 + m_S c 84 10 := by
  have h1 : m_S c 34 60 = m_S c 34 50 + m_S c (34 + ((50 : Nat) : Int)) 10 := m_S_add c 34 50 10
  have h2 : m_S c 34 50 = m_S c 34 40 + m_S c (34 + ((40 : Nat) : Int)) 10 := m_S_add c 34 40 10
  have h3 : m_S c 34 40 = m_S c 34 30 + m_S c (34 + ((30 : Nat) : Int)) 10 := m_S_add c 34 30 10
  have h4 : m_S c 34 30 = m_S c 34 20 + m_S c (34 + ((20 : Nat) : Int)) 10 := m_S_add c 34 20 10
  have h5 : m_S c 34 20 = m_S c 34 10 + m_S c (34 + ((10 : Nat) : Int)) 10 := m_S_add c 34 10 10
  have f : ∀ i j : Int, i = j → m_S c i 10 = m_S c j 10 := fun i j h => by rw [h]
  rw [f (34 + ((50 : Nat) : Int)) 84 (by omega)] at h1
  rw [f (34 + ((40 : Nat) : Int)) 74 (by omega)] at h2
  rw [f (34 + ((30 : Nat) : Int)) 64 (by omega)] at h3
  rw [f (34 + ((20 : Nat) : Int)) 54 (by omega)] at h4
  rw [f (34 + ((10 : Nat) : Int)) 44 (by omega)] at h5
  omega
/-- one hand changed -/
theorem m_S_hand {c c' : Int → Int} {p : Int} (hp : 0 ≤ p ∧ p < 6) (h : ∀ j : Int, 34 ≤ j → j < 94 → ¬ (34 + 10 * p ≤ j ∧ j < 44 + 10 * p) → c' j = c j) : m_S c' 34 60 - m_S c 34 60 = m_S c' (34 + 10 * p) 10 - m_S c (34 + 10 * p) 10 := by
  have e : ∀ q : Int, 0 ≤ q → q < 6 → q ≠ p → m_S c' (34 + 10 * q) 10 = m_S c (34 + 10 * q) 10 := fun q h0 h1 h2 => m_S_ext (fun j a b => h j (by omega) (by omega) (by omega))
  rw [m_S_6 c', m_S_6 c]
  have a0 := e 0 (by decide) (by decide)
  have a1 := e 1 (by decide) (by decide)
  have a2 := e 2 (by decide) (by decide)
  have a3 := e 3 (by decide) (by decide)
  have a4 := e 4 (by decide) (by decide)
  have a5 := e 5 (by decide) (by decide)
  have hc : p = 0 ∨ p = 1 ∨ p = 2 ∨ p = 3 ∨ p = 4 ∨ p = 5 := by omega
  rcases hc with rfl | rfl | rfl | rfl | rfl | rfl
  · have b1 := a1 (by decide); have b2 := a2 (by decide); have b3 := a3 (by decide); have b4 := a4 (by decide); have b5 := a5 (by decide)
    simp only [Int.reduceMul, Int.reduceAdd] at b1 b2 b3 b4 b5 ⊢
    omega
  · have b0 := a0 (by decide); have b2 := a2 (by decide); have b3 := a3 (by decide); have b4 := a4 (by decide); have b5 := a5 (by decide)
    simp only [Int.reduceMul, Int.reduceAdd] at b0 b2 b3 b4 b5 ⊢
    omega
  · have b1 := a1 (by decide); have b0 := a0 (by decide); have b3 := a3 (by decide); have b4 := a4 (by decide); have b5 := a5 (by decide)
    simp only [Int.reduceMul, Int.reduceAdd] at b1 b0 b3 b4 b5 ⊢
    omega
  · have b1 := a1 (by decide); have b2 := a2 (by decide); have b0 := a0 (by decide); have b4 := a4 (by decide); have b5 := a5 (by decide)
    simp only [Int.reduceMul, Int.reduceAdd] at b1 b2 b0 b4 b5 ⊢
    omega
  · have b1 := a1 (by decide); have b2 := a2 (by decide); have b3 := a3 (by decide); have b0 := a0 (by decide); have b5 := a5 (by decide)
    simp only [Int.reduceMul, Int.reduceAdd] at b1 b2 b3 b0 b5 ⊢
    omega
  · have b1 := a1 (by decide); have b2 := a2 (by decide); have b3 := a3 (by decide); have b4 := a4 (by decide); have b0 := a0 (by decide)
    simp only [Int.reduceMul, Int.reduceAdd] at b1 b2 b3 b4 b0 ⊢
    omega
/-- a cell of the sum written -/
theorem m_S_upd {c c' : Int → Int} {b A v : Int} {n : Nat} (e : ∀ j : Int, b ≤ j → j < b + (n : Int) → c' j = if j = A then v else c j) (h0 : b ≤ A) (h1 : A < b + (n : Int)) : m_S c' b n = m_S c b n + (v - c A) := by
  induction n with
  | zero => omega
  | succ n ih =>
    show m_S c' b n + c' (b + (n : Int)) = m_S c b n + c (b + (n : Int)) + (v - c A)
    by_cases q : A = b + (n : Int)
    · rw [m_S_ext (c := c) (fun j a1 a2 => by rw [e j a1 (by omega), if_neg (by omega)]), e (b + (n : Int)) (by omega) (by omega), if_pos q.symm, q]
      omega
    · rw [ih (fun j a1 a2 => e j a1 (by omega)) (by omega), e (b + (n : Int)) (by omega) (by omega), if_neg (by omega)]
      omega
def m_H (c : Int → Int) : Prop := (2 ≤ c 0 ∧ c 0 ≤ 10) ∧ (0 ≤ c 2 ∧ c 2 ≤ 6) ∧ (1 ≤ c 4 ∧ c 4 ≤ 4) ∧ (0 ≤ c 5 ∧ c 5 < c 0) ∧ (-1 ≤ c 6 ∧ c 6 < c 2 ∧ c 2 ≤ 6 * (c 6 + 1)) ∧ (0 ≤ c 7 ∧ c 7 ≤ 1) ∧ (0 ≤ c 9 ∧ c 9 ≤ 80) ∧ (c 7 ≤ c 9 ∧ c 7 ≤ c 6 + 1)
def m_D (c : Int → Int) : Prop := ∀ p k : Int, 0 ≤ p → p < 6 → 0 ≤ k → k < 10 → 0 ≤ c (34 + 10 * p + k) ∧ (c 0 ≤ k → c (34 + 10 * p + k) = 0)
def m_Y (c : Int → Int) : Prop := ∀ i : Int, 0 ≤ i → i < c 9 → (1 ≤ c (94 + 7 * i + 2) ∧ c (94 + 7 * i + 2) ≤ 4) ∧ ∀ t : Int, 0 ≤ t → t < c (94 + 7 * i + 2) → 0 ≤ c (94 + 7 * i + 3 + t) ∧ c (94 + 7 * i + 3 + t) < c 0
def m_T (c : Int → Int) : Prop := m_S c 34 60 + m_L c (c 9).toNat ≤ 80
def m_O (c : Int → Int) : Prop := c 7 = 1 → c (94 + 7 * (c 9 - 1)) = c 6
/-- a step of a round, at place w, of number s, of e -/
def m_stp (c : Int → Int) (w s e : Int) : Prop := (0 ≤ c w ∧ c w ≤ 5) ∧ ((c w = 1 ∨ c w = 2 ∨ (c w = 3 ∧ (c (w + 6) = 0 ∨ c (w + 6) = 2))) → 0 ≤ c (w + 1) ∧ c (w + 1) ≤ 5) ∧ (c w = 3 → 0 ≤ c (w + 6) ∧ c (w + 6) ≤ 3) ∧ (s < c (w + 8) ∧ c (w + 8) ≤ e)
def m_Q (c : Int → Int) : Prop := (0 ≤ c 655 ∧ c 655 ≤ 30) ∧ ∀ s : Int, 0 ≤ s → s < c 655 → m_stp c (656 + 9 * s) s (c 655)
def m_W (c : Int → Int) (n : Int) : Prop := ∀ q : Int, 0 ≤ q → q < 6 → 0 ≤ c (28 + q) ∧ c (28 + q) ≤ c (22 + q) ∧ c (22 + q) ≤ n
def m_G (c : Int → Int) : Prop := m_H c ∧ m_D c ∧ m_Y c ∧ m_T c ∧ m_O c ∧ m_Q c
theorem m_stp.ext {c c' : Int → Int} {w s e : Int} (h : m_stp c w s e) (q : ∀ j : Int, w ≤ j → j < w + 9 → c' j = c j) : m_stp c' w s e := by
  unfold m_stp at h ⊢
  rw [q w (by omega) (by omega), q (w + 1) (by omega) (by omega), q (w + 6) (by omega) (by omega), q (w + 8) (by omega) (by omega)]
  exact h
theorem m_W.ext {c c' : Int → Int} {n : Int} (q : ∀ j : Int, 22 ≤ j → j < 34 → c' j = c j) (h : m_W c n) : m_W c' n := by
  intro p h0 h1
  rw [q (28 + p) (by omega) (by omega), q (22 + p) (by omega) (by omega)]
  exact h p h0 h1
theorem m_W.le {c : Int → Int} {n n' : Int} (h : m_W c n) (hn : n ≤ n') : m_W c n' := fun p h0 h1 => by have := h p h0 h1; omega
theorem m_G.ext {c c' : Int → Int} (q : ∀ j : Int, 0 ≤ j → j < 930 → c' j = c j) (h : m_G c) : m_G c' := by
  obtain ⟨hH, hD, hY, hT, hO, hQ⟩ := h
  have b9 : 0 ≤ c 9 ∧ c 9 ≤ 80 := hH.2.2.2.2.2.2.1
  have b5 : 0 ≤ c 655 ∧ c 655 ≤ 30 := hQ.1
  have e9 : c' 9 = c 9 := q 9 (by decide) (by decide)
  have e0 : c' 0 = c 0 := q 0 (by decide) (by decide)
  refine ⟨?_, ?_, ?_, ?_, ?_, ?_⟩
  · unfold m_H at hH ⊢
    rw [q 0 (by decide) (by decide), q 2 (by decide) (by decide), q 4 (by decide) (by decide), q 5 (by decide) (by decide), q 6 (by decide) (by decide), q 7 (by decide) (by decide), q 9 (by decide) (by decide)]
    exact hH
  · intro p k h0 h1 h2 h3
    rw [q _ (by omega) (by omega), e0]
    exact hD p k h0 h1 h2 h3
  · intro i h0 h1
    rw [e9] at h1
    have w := hY i h0 h1
    rw [q (94 + 7 * i + 2) (by omega) (by omega)]
    refine ⟨w.1, fun t t0 t1 => ?_⟩
    rw [q (94 + 7 * i + 3 + t) (by omega) (by omega), e0]
    exact w.2 t t0 t1
  · unfold m_T at hT ⊢
    rw [m_S_ext (fun j a b => q j (by omega) (by omega)), e9, m_L_ext (fun i a b => q _ (by omega) (by omega))]
    exact hT
  · intro h7
    rw [q 7 (by decide) (by decide)] at h7
    have h8 : 1 ≤ c 9 := by have := hH.2.2.2.2.2.2.2.1; omega
    rw [e9, q (94 + 7 * (c 9 - 1)) (by omega) (by omega), q 6 (by decide) (by decide)]
    exact hO h7
  · have e5 : c' 655 = c 655 := q 655 (by decide) (by decide)
    refine ⟨by rw [e5]; exact b5, fun s h0 h1 => ?_⟩
    rw [e5] at h1 ⊢
    exact (hQ.2 s h0 h1).ext (fun j a b => q j (by omega) (by omega))
/-- a cell of the head, or of those that say how they lie and doubt -/
theorem m_G.wr {c c' : Int → Int} {A v : Int} (h : m_G c) (e : ∀ j : Int, 0 ≤ j → c' j = if j = A then v else c j) (hA : A = 7 ∧ v = 0 ∨ A = 8 ∨ 10 ≤ A ∧ A < 34 ∨ A = 5 ∧ 0 ≤ v ∧ v < c 0 ∨ A = 6 ∧ 0 ≤ v ∧ v < c 2 ∧ c 7 = 0 ∨ A = 654 ∨ 930 ≤ A) : m_G c' := by
  obtain ⟨hH, hD, hY, hT, hO, hQ⟩ := h
  have q : ∀ j : Int, 0 ≤ j → j ≠ A → c' j = c j := fun j hj hn => by rw [e j hj, if_neg hn]
  have s : ∀ j : Int, 0 ≤ j → j = A → c' j = v := fun j hj hn => by rw [e j hj, if_pos hn]
  have b9 : 0 ≤ c 9 ∧ c 9 ≤ 80 := hH.2.2.2.2.2.2.1
  have b5 : 0 ≤ c 655 ∧ c 655 ≤ 30 := hQ.1
  have e9 : c' 9 = c 9 := q 9 (by decide) (by omega)
  have e0 : c' 0 = c 0 := q 0 (by decide) (by omega)
  have e2 : c' 2 = c 2 := q 2 (by decide) (by omega)
  have e4 : c' 4 = c 4 := q 4 (by decide) (by omega)
  refine ⟨?_, ?_, ?_, ?_, ?_, ?_⟩
  · unfold m_H at hH ⊢
    have r5 : c' 5 = c 5 ∨ (A = 5 ∧ c' 5 = v) := by
      by_cases w : 5 = A
      · exact Or.inr ⟨w.symm, s 5 (by decide) w⟩
      · exact Or.inl (q 5 (by decide) w)
    have r6 : c' 6 = c 6 ∨ (A = 6 ∧ c' 6 = v) := by
      by_cases w : 6 = A
      · exact Or.inr ⟨w.symm, s 6 (by decide) w⟩
      · exact Or.inl (q 6 (by decide) w)
    have r7 : (A ≠ 7 ∧ c' 7 = c 7) ∨ (A = 7 ∧ c' 7 = v) := by
      by_cases w : 7 = A
      · exact Or.inr ⟨w.symm, s 7 (by decide) w⟩
      · exact Or.inl ⟨fun z => w z.symm, q 7 (by decide) w⟩
    rw [e0, e2, e4, e9]
    omega
  · intro p k h0 h1 h2 h3
    rw [q _ (by omega) (by omega), e0]
    exact hD p k h0 h1 h2 h3
  · intro i h0 h1
    rw [e9] at h1
    have w := hY i h0 h1
    rw [q (94 + 7 * i + 2) (by omega) (by omega)]
    refine ⟨w.1, fun t t0 t1 => ?_⟩
    rw [q (94 + 7 * i + 3 + t) (by omega) (by omega), e0]
    exact w.2 t t0 t1
  · unfold m_T at hT ⊢
    rw [m_S_ext (fun j a b => q j (by omega) (by omega)), e9, m_L_ext (fun i a b => q _ (by omega) (by omega))]
    exact hT
  · intro h7
    have h8 := hH.2.2.2.2.2.2.2.1
    by_cases w7 : 7 = A
    · have := s 7 (by decide) w7
      omega
    · rw [q 7 (by decide) w7] at h7
      rw [e9, q (94 + 7 * (c 9 - 1)) (by omega) (by omega), q 6 (by decide) (by omega)]
      exact hO h7
  · have e5 : c' 655 = c 655 := q 655 (by decide) (by omega)
    refine ⟨by rw [e5]; exact b5, fun s h0 h1 => ?_⟩
    rw [e5] at h1 ⊢
    exact (hQ.2 s h0 h1).ext (fun j a b => q j (by omega) (by omega))
theorem m_W.wr {c c' : Int → Int} {A v n : Int} (h : m_W c n) (e : ∀ j : Int, 0 ≤ j → c' j = if j = A then v else c j) (hA : A < 22 ∨ 34 ≤ A) : m_W c' n := m_W.ext (fun j a b => by rw [e j (by omega), if_neg (by omega)]) h
end
/-! FROM 23.sums.lean.txt -/
section
theorem m_G.hd {c : Int → Int} (h : m_G c) : (2 ≤ c 0 ∧ c 0 ≤ 10) ∧ (0 ≤ c 2 ∧ c 2 ≤ 6) ∧ (1 ≤ c 4 ∧ c 4 ≤ 4) ∧ (0 ≤ c 5 ∧ c 5 < c 0) ∧ (-1 ≤ c 6 ∧ c 6 < c 2 ∧ c 2 ≤ 6 * (c 6 + 1)) ∧ (0 ≤ c 7 ∧ c 7 ≤ 1) ∧ (0 ≤ c 9 ∧ c 9 ≤ 80) ∧ (c 7 ≤ c 9 ∧ c 7 ≤ c 6 + 1) := h.1
theorem m_G.hand0 {c : Int → Int} (h : m_G c) {j : Int} (h0 : 34 ≤ j) (h1 : j < 94) : 0 ≤ c j := by
  have e : j = 34 + 10 * ((j - 34) / 10) + (j - 34) % 10 := by omega
  rw [e]
  exact (h.2.1 _ _ (by omega) (by omega) (by omega) (by omega)).1
theorem m_G.L0 {c : Int → Int} (h : m_G c) (n : Nat) (hn : (n : Int) ≤ c 9) : 0 ≤ m_L c n := by
  induction n with
  | zero => exact Int.le_refl _
  | succ n ih =>
    have h1 := ih (by omega)
    have h2 := (h.2.2.1 (n : Int) (by omega) (by omega)).1
    show 0 ≤ m_L c n + c (94 + 7 * (n : Int) + 2)
    omega
/-- the cards of the first layings are no more than all -/
theorem m_G.Lle {c : Int → Int} (h : m_G c) (n : Nat) (hn : (n : Int) ≤ c 9) : (n : Int) ≤ m_L c n ∧ m_L c n ≤ 4 * (n : Int) := by
  induction n with
  | zero => exact ⟨Int.le_refl _, Int.le_refl _⟩
  | succ n ih =>
    have h1 := ih (by omega)
    have h2 := (h.2.2.1 (n : Int) (by omega) (by omega)).1
    show ((n + 1 : Nat) : Int) ≤ m_L c n + c (94 + 7 * (n : Int) + 2) ∧ m_L c n + c (94 + 7 * (n : Int) + 2) ≤ 4 * ((n + 1 : Nat) : Int)
    omega
theorem m_G.Lmono {c : Int → Int} (h : m_G c) (m n : Nat) (hn : ((m + n : Nat) : Int) ≤ c 9) : m_L c m ≤ m_L c (m + n) := by
  induction n with
  | zero => exact Int.le_refl _
  | succ n ih =>
    have h1 := ih (by omega)
    have h2 := (h.2.2.1 ((m + n : Nat) : Int) (by omega) (by omega)).1
    show m_L c m ≤ m_L c (m + n) + c (94 + 7 * ((m + n : Nat) : Int) + 2)
    omega
theorem m_G.Lall {c : Int → Int} (h : m_G c) {k : Int} (h0 : 0 ≤ k) (h1 : k ≤ c 9) : 0 ≤ m_L c k.toNat ∧ m_L c k.toNat ≤ m_L c (c 9).toNat := by
  have b := h.hd.2.2.2.2.2.2.1
  refine ⟨h.L0 _ (by omega), ?_⟩
  have w := h.Lmono k.toNat ((c 9).toNat - k.toNat) (by omega)
  have e : k.toNat + ((c 9).toNat - k.toNat) = (c 9).toNat := by omega
  rw [e] at w
  exact w
theorem m_G.S0 {c : Int → Int} (h : m_G c) : 0 ≤ m_S c 34 60 := m_S_nn (fun _ a b => h.hand0 a (by omega))
theorem m_G.tot {c : Int → Int} (h : m_G c) : m_S c 34 60 + m_L c (c 9).toNat ≤ 80 := h.2.2.2.1
theorem m_G.L80 {c : Int → Int} (h : m_G c) {k : Int} (h0 : 0 ≤ k) (h1 : k ≤ c 9) : 0 ≤ m_L c k.toNat ∧ m_L c k.toNat ≤ 80 := by
  have a := h.Lall h0 h1
  have b := h.tot
  have d := h.S0
  omega
/-- a hand, or its beginning -/
theorem m_G.Shand {c : Int → Int} (h : m_G c) {p : Int} (h0 : 0 ≤ p) (h1 : p < 6) {n : Nat} (hn : n ≤ 10) : 0 ≤ m_S c (34 + 10 * p) n ∧ m_S c (34 + 10 * p) n ≤ m_S c 34 60 := by
  refine ⟨m_S_nn (fun j a b => h.hand0 (by omega) (by omega)), ?_⟩
  have w := m_S_add c 34 ((10 * p).toNat + n) (60 - ((10 * p).toNat + n))
  have e : (10 * p).toNat + n + (60 - ((10 * p).toNat + n)) = 60 := by omega
  rw [e] at w
  have w2 := m_S_add c 34 (10 * p).toNat n
  have e2 : (34 : Int) + ((10 * p).toNat : Int) = 34 + 10 * p := by omega
  rw [e2] at w2
  have z1 : 0 ≤ m_S c 34 (10 * p).toNat := m_S_nn (fun j a b => h.hand0 (by omega) (by omega))
  have z2 : 0 ≤ m_S c (34 + (((10 * p).toNat + n : Nat) : Int)) (60 - ((10 * p).toNat + n)) := m_S_nn (fun j a b => h.hand0 (by omega) (by omega))
  omega
theorem m_G.S80 {c : Int → Int} (h : m_G c) {p k : Int} (h0 : 0 ≤ p) (h1 : p < 6) (k0 : 0 ≤ k) (k1 : k ≤ 10) : 0 ≤ m_S c (34 + 10 * p) k.toNat ∧ m_S c (34 + 10 * p) k.toNat ≤ 80 := by
  have a := h.Shand h0 h1 (n := k.toNat) (by omega)
  have b := h.tot
  have d := h.L80 (k := c 9) h.hd.2.2.2.2.2.2.1.1 (Int.le_refl _)
  omega
theorem m_G.h80 {c : Int → Int} (h : m_G c) {p k : Int} (h0 : 0 ≤ p) (h1 : p < 6) (k0 : 0 ≤ k) (k1 : k < 10) : 0 ≤ c (34 + 10 * p + k) ∧ c (34 + 10 * p + k) ≤ 80 := by
  have a := h.S80 h0 h1 k0 (by omega : k ≤ 10)
  have b := h.S80 h0 h1 (by omega : 0 ≤ k + 1) (by omega : k + 1 ≤ 10)
  rw [m_S_succ _ _ _ k0] at b
  have d := (h.2.1 p k h0 h1 k0 k1).1
  omega
/-- all hands' cards of a kind -/
def m_P (c : Int → Int) (k : Int) : Nat → Int
  | 0 => 0
  | n + 1 => m_P c k n + c (34 + 10 * (n : Int) + k)
theorem m_P_succ (c : Int → Int) (k p : Int) (h : 0 ≤ p) : m_P c k (p + 1).toNat = m_P c k p.toNat + c (34 + 10 * p + k) := by
  have e : (p + 1).toNat = p.toNat + 1 := by omega
  have e2 : (p.toNat : Int) = p := by omega
  rw [e]
  show m_P c k p.toNat + c (34 + 10 * (p.toNat : Int) + k) = _
  rw [e2]
theorem m_S_ge {c : Int → Int} {b A : Int} {n : Nat} (h : ∀ j : Int, b ≤ j → j < b + (n : Int) → 0 ≤ c j) (h0 : b ≤ A) (h1 : A < b + (n : Int)) : c A ≤ m_S c b n := by
  induction n with
  | zero => omega
  | succ n ih =>
    show c A ≤ m_S c b n + c (b + (n : Int))
    have z := m_S_nn (fun j a1 a2 => h j a1 (by omega) : ∀ j : Int, b ≤ j → j < b + (n : Int) → 0 ≤ c j)
    by_cases q : A = b + (n : Int)
    · rw [q]; omega
    · have w := ih (fun j a1 a2 => h j a1 (by omega)) (by omega)
      have z2 := h (b + (n : Int)) (by omega) (by omega)
      omega
theorem m_G.Pbd {c : Int → Int} (h : m_G c) {k : Int} (k0 : 0 ≤ k) (k1 : k < 10) (n : Nat) (hn : n ≤ 6) : 0 ≤ m_P c k n ∧ m_P c k n ≤ m_S c 34 (10 * n) := by
  induction n with
  | zero => exact ⟨Int.le_refl _, Int.le_refl _⟩
  | succ n ih =>
    have a := ih (by omega)
    have e : 10 * (n + 1) = 10 * n + 10 := by omega
    have w := m_S_add c 34 (10 * n) 10
    have e2 : (34 : Int) + ((10 * n : Nat) : Int) = 34 + 10 * (n : Int) := by omega
    rw [← e, e2] at w
    have z := m_S_ge (c := c) (b := 34 + 10 * (n : Int)) (A := 34 + 10 * (n : Int) + k) (n := 10) (fun j a b => h.hand0 (by omega) (by omega)) (by omega) (by omega)
    have d := h.hand0 (j := 34 + 10 * (n : Int) + k) (by omega) (by omega)
    show 0 ≤ m_P c k n + c (34 + 10 * (n : Int) + k) ∧ m_P c k n + c (34 + 10 * (n : Int) + k) ≤ m_S c 34 (10 * (n + 1))
    omega
theorem m_G.Sall {c : Int → Int} (h : m_G c) (n : Nat) (hn : n ≤ 60) : m_S c 34 n ≤ m_S c 34 60 := by
  have w := m_S_add c 34 n (60 - n)
  have e : n + (60 - n) = 60 := by omega
  rw [e] at w
  have z : 0 ≤ m_S c (34 + (n : Int)) (60 - n) := m_S_nn (fun j a b => h.hand0 (by omega) (by omega))
  omega
theorem m_G.Pge {c : Int → Int} (h : m_G c) {k : Int} (k0 : 0 ≤ k) (k1 : k < 10) {p : Int} (p0 : 0 ≤ p) (n : Nat) (hn : n ≤ 6) (p1 : p < (n : Int)) : c (34 + 10 * p + k) ≤ m_P c k n := by
  induction n with
  | zero => omega
  | succ n ih =>
    have z := (h.Pbd k0 k1 n (by omega)).1
    have d := h.hand0 (j := 34 + 10 * (n : Int) + k) (by omega) (by omega)
    show c (34 + 10 * p + k) ≤ m_P c k n + c (34 + 10 * (n : Int) + k)
    by_cases q : p = (n : Int)
    · rw [q]; omega
    · have := ih (by omega) (by omega)
      omega
/-- how many of the first n cards of the laying at w are of a kind (below 0: all) -/
def m_K (c : Int → Int) (w k : Int) : Nat → Int
  | 0 => 0
  | n + 1 => m_K c w k n + (if k < 0 ∨ c (w + 3 + (n : Int)) = k then 1 else 0)
theorem m_K_succ (c : Int → Int) (w k t : Int) (h : 0 ≤ t) : m_K c w k (t + 1).toNat = m_K c w k t.toNat + (if k < 0 ∨ c (w + 3 + t) = k then 1 else 0) := by
  have e : (t + 1).toNat = t.toNat + 1 := by omega
  have e2 : (t.toNat : Int) = t := by omega
  rw [e]
  show m_K c w k t.toNat + (if k < 0 ∨ c (w + 3 + (t.toNat : Int)) = k then 1 else 0) = _
  rw [e2]
theorem m_K_bd (c : Int → Int) (w k : Int) (n : Nat) : 0 ≤ m_K c w k n ∧ m_K c w k n ≤ (n : Int) := by
  induction n with
  | zero => exact ⟨Int.le_refl _, Int.le_refl _⟩
  | succ n ih =>
    show 0 ≤ m_K c w k n + (if k < 0 ∨ c (w + 3 + (n : Int)) = k then 1 else 0) ∧ m_K c w k n + (if k < 0 ∨ c (w + 3 + (n : Int)) = k then 1 else 0) ≤ ((n + 1 : Nat) : Int)
    split <;> omega
/-- how many cards of a kind (below 0: of all) a player (below 0: all) laid in the first n layings -/
def m_A (c : Int → Int) (p k : Int) : Nat → Int
  | 0 => 0
  | n + 1 => m_A c p k n + (if 0 ≤ p ∧ c (94 + 7 * (n : Int)) ≠ p then 0 else m_K c (94 + 7 * (n : Int)) k (c (94 + 7 * (n : Int) + 2)).toNat)
theorem m_A_succ (c : Int → Int) (p k t : Int) (h : 0 ≤ t) : m_A c p k (t + 1).toNat = m_A c p k t.toNat + (if 0 ≤ p ∧ c (94 + 7 * t) ≠ p then 0 else m_K c (94 + 7 * t) k (c (94 + 7 * t + 2)).toNat) := by
  have e : (t + 1).toNat = t.toNat + 1 := by omega
  have e2 : (t.toNat : Int) = t := by omega
  rw [e]
  show m_A c p k t.toNat + (if 0 ≤ p ∧ c (94 + 7 * (t.toNat : Int)) ≠ p then 0 else m_K c (94 + 7 * (t.toNat : Int)) k (c (94 + 7 * (t.toNat : Int) + 2)).toNat) = _
  rw [e2]
theorem m_G.A_bd {c : Int → Int} (h : m_G c) (p k : Int) (n : Nat) (hn : (n : Int) ≤ c 9) : 0 ≤ m_A c p k n ∧ m_A c p k n ≤ m_L c n := by
  induction n with
  | zero => exact ⟨Int.le_refl _, Int.le_refl _⟩
  | succ n ih =>
    have a := ih (by omega)
    have h2 := (h.2.2.1 (n : Int) (by omega) (by omega)).1
    have b := m_K_bd c (94 + 7 * (n : Int)) k (c (94 + 7 * (n : Int) + 2)).toNat
    show 0 ≤ m_A c p k n + (if 0 ≤ p ∧ c (94 + 7 * (n : Int)) ≠ p then 0 else m_K c (94 + 7 * (n : Int)) k (c (94 + 7 * (n : Int) + 2)).toNat) ∧ m_A c p k n + (if 0 ≤ p ∧ c (94 + 7 * (n : Int)) ≠ p then 0 else m_K c (94 + 7 * (n : Int)) k (c (94 + 7 * (n : Int) + 2)).toNat) ≤ m_L c n + c (94 + 7 * (n : Int) + 2)
    split <;> omega
/-- those of one player are among those of all -/
theorem m_A_le (c : Int → Int) (p k : Int) (n : Nat) : m_A c p k n ≤ m_A c (-1) k n := by
  induction n with
  | zero => exact Int.le_refl _
  | succ n ih =>
    have b := m_K_bd c (94 + 7 * (n : Int)) k (c (94 + 7 * (n : Int) + 2)).toNat
    show m_A c p k n + (if 0 ≤ p ∧ c (94 + 7 * (n : Int)) ≠ p then 0 else m_K c (94 + 7 * (n : Int)) k (c (94 + 7 * (n : Int) + 2)).toNat) ≤ m_A c (-1) k n + (if 0 ≤ (-1 : Int) ∧ c (94 + 7 * (n : Int)) ≠ -1 then 0 else m_K c (94 + 7 * (n : Int)) k (c (94 + 7 * (n : Int) + 2)).toNat)
    rw [if_neg (by omega : ¬ (0 ≤ (-1 : Int) ∧ c (94 + 7 * (n : Int)) ≠ -1))]
    split <;> omega
/-- and the last laying is another's -/
theorem m_A_last (c : Int → Int) (p k : Int) (n : Nat) (hp : 0 ≤ p) (h : c (94 + 7 * (n : Int)) ≠ p) : m_A c p k (n + 1) + m_K c (94 + 7 * (n : Int)) k (c (94 + 7 * (n : Int) + 2)).toNat ≤ m_A c (-1) k (n + 1) := by
  have a := m_A_le c p k n
  show m_A c p k n + (if 0 ≤ p ∧ c (94 + 7 * (n : Int)) ≠ p then 0 else m_K c (94 + 7 * (n : Int)) k (c (94 + 7 * (n : Int) + 2)).toNat) + m_K c (94 + 7 * (n : Int)) k (c (94 + 7 * (n : Int) + 2)).toNat ≤ m_A c (-1) k n + (if 0 ≤ (-1 : Int) ∧ c (94 + 7 * (n : Int)) ≠ -1 then 0 else m_K c (94 + 7 * (n : Int)) k (c (94 + 7 * (n : Int) + 2)).toNat)
  rw [if_pos ⟨hp, h⟩, if_neg (by omega : ¬ (0 ≤ (-1 : Int) ∧ c (94 + 7 * (n : Int)) ≠ -1))]
  omega
/-- how many of a kind are in the game; are unknown to a player -/
def m_I (c : Int → Int) (k : Int) : Int := m_A c (-1) k (c 9).toNat + m_P c k (c 2).toNat
def m_U (c : Int → Int) (p k : Int) : Int := m_I c k - (c (34 + 10 * p + k) + m_A c p k (c 9).toNat)
theorem m_G.I_bd {c : Int → Int} (h : m_G c) {k : Int} (k0 : 0 ≤ k) (k1 : k < 10) : 0 ≤ m_I c k ∧ m_I c k ≤ 80 := by
  have b := h.hd
  have a := h.A_bd (-1) k (c 9).toNat (by omega)
  have d := h.Pbd k0 k1 (c 2).toNat (by omega)
  have e := h.Sall (10 * (c 2).toNat) (by omega)
  have f := h.tot
  unfold m_I
  omega
theorem m_G.U_bd {c : Int → Int} (h : m_G c) {p k : Int} (p0 : 0 ≤ p) (p1 : p < c 2) (k0 : 0 ≤ k) (k1 : k < 10) : 0 ≤ m_U c p k ∧ m_U c p k ≤ 80 := by
  have b := h.hd
  have a := h.I_bd k0 k1
  have d := h.Pge k0 k1 p0 (c 2).toNat (by omega) (by omega)
  have e := m_A_le c p k (c 9).toNat
  have f := h.A_bd p k (c 9).toNat (by omega)
  have g := h.hand0 (j := 34 + 10 * p + k) (by omega) (by omega)
  unfold m_U
  unfold m_I at a ⊢
  omega
/-- unknown ones of the first n kinds -/
def m_V (c : Int → Int) (p : Int) : Nat → Int
  | 0 => 0
  | n + 1 => m_V c p n + m_U c p (n : Int)
theorem m_V_succ (c : Int → Int) (p k : Int) (h : 0 ≤ k) : m_V c p (k + 1).toNat = m_V c p k.toNat + m_U c p k := by
  have e : (k + 1).toNat = k.toNat + 1 := by omega
  have e2 : (k.toNat : Int) = k := by omega
  rw [e]
  show m_V c p k.toNat + m_U c p (k.toNat : Int) = _
  rw [e2]
theorem m_G.V_bd {c : Int → Int} (h : m_G c) {p : Int} (p0 : 0 ≤ p) (p1 : p < c 2) (n : Nat) (hn : n ≤ 10) : 0 ≤ m_V c p n ∧ m_V c p n ≤ 80 * (n : Int) := by
  induction n with
  | zero => exact ⟨Int.le_refl _, Int.le_refl _⟩
  | succ n ih =>
    have a := ih (by omega)
    have b := h.U_bd p0 p1 (k := (n : Int)) (by omega) (by omega)
    show 0 ≤ m_V c p n + m_U c p (n : Int) ∧ m_V c p n + m_U c p (n : Int) ≤ 80 * ((n + 1 : Nat) : Int)
    omega
/-- the last laying's cards, kind by kind -/
def m_J (c : Int → Int) (w : Int) (m : Nat) : Nat → Int
  | 0 => 0
  | n + 1 => m_J c w m n + m_K c w (n : Int) m
theorem m_J_succ (c : Int → Int) (w : Int) (m n : Nat) : m_J c w (m + 1) n = m_J c w m n + (if 0 ≤ c (w + 3 + (m : Int)) ∧ c (w + 3 + (m : Int)) < (n : Int) then 1 else 0) := by
  induction n with
  | zero =>
    show (0 : Int) = 0 + (if 0 ≤ c (w + 3 + (m : Int)) ∧ c (w + 3 + (m : Int)) < ((0 : Nat) : Int) then 1 else 0)
    rw [if_neg (by omega)]
    rfl
  | succ n ih =>
    show m_J c w (m + 1) n + (m_K c w (n : Int) m + (if (n : Int) < 0 ∨ c (w + 3 + (m : Int)) = (n : Int) then 1 else 0)) = m_J c w m n + m_K c w (n : Int) m + (if 0 ≤ c (w + 3 + (m : Int)) ∧ c (w + 3 + (m : Int)) < ((n + 1 : Nat) : Int) then 1 else 0)
    rw [ih]
    repeat' split
    all_goals omega
theorem m_J_all {c : Int → Int} {w : Int} {m n : Nat} (h : ∀ t : Int, 0 ≤ t → t < (m : Int) → 0 ≤ c (w + 3 + t) ∧ c (w + 3 + t) < (n : Int)) : m_J c w m n = (m : Int) := by
  induction m with
  | zero =>
    have z : ∀ n : Nat, m_J c w 0 n = 0 := by
      intro n
      induction n with
      | zero => rfl
      | succ n ih => show m_J c w 0 n + 0 = 0; omega
    exact z n
  | succ m ih =>
    rw [m_J_succ, ih (fun t a b => h t a (by omega)), if_pos (h (m : Int) (by omega) (by omega))]
    rfl
/-- all unknown ones are no fewer than an open laying's cards, for another player -/
theorem m_G.V_open {c : Int → Int} (h : m_G c) {p : Int} (p0 : 0 ≤ p) (p1 : p < c 2) (h7 : c 7 = 1) (hp : p ≠ c 6) : 1 ≤ c (94 + 7 * (c 9 - 1) + 2) ∧ c (94 + 7 * (c 9 - 1) + 2) ≤ 4 ∧ c (94 + 7 * (c 9 - 1) + 2) ≤ m_V c p (c 0).toNat := by
  have b := h.hd
  have y := h.2.2.1 (c 9 - 1) (by omega) (by omega)
  have o : c (94 + 7 * (c 9 - 1)) = c 6 := h.2.2.2.2.1 h7
  have e : (((c 9).toNat - 1 : Nat) : Int) = c 9 - 1 := by omega
  have e9 : (c 9).toNat = (c 9).toNat - 1 + 1 := by omega
  have st : ∀ n : Nat, n ≤ 10 → m_J c (94 + 7 * (c 9 - 1)) (c (94 + 7 * (c 9 - 1) + 2)).toNat n ≤ m_V c p n := by
    intro n hn
    induction n with
    | zero => exact Int.le_refl _
    | succ n ih =>
      have a := ih (by omega)
      have z := m_A_last c p (n : Int) ((c 9).toNat - 1) p0 (by rw [e, o]; exact Ne.symm hp)
      rw [← e9, e] at z
      have d := h.Pge (k := (n : Int)) (by omega) (by omega) p0 (c 2).toNat (by omega) (by omega)
      show m_J c (94 + 7 * (c 9 - 1)) (c (94 + 7 * (c 9 - 1) + 2)).toNat n + m_K c (94 + 7 * (c 9 - 1)) (n : Int) (c (94 + 7 * (c 9 - 1) + 2)).toNat ≤ m_V c p n + m_U c p (n : Int)
      have u : m_U c p (n : Int) = m_A c (-1) (n : Int) (c 9).toNat + m_P c (n : Int) (c 2).toNat - (c (34 + 10 * p + (n : Int)) + m_A c p (n : Int) (c 9).toNat) := rfl
      omega
  have w := st (c 0).toNat (by omega)
  rw [m_J_all (fun t a b' => by
    have := y.2 t a (by omega)
    omega)] at w
  omega
end
/-! FROM 24.new.lean.txt -/
section
/-! what the model's new table (its fifth block) is while a text is read -/
def m_sum (c : Int → Int) (b k : Int) : Int := c (b + 34 + k) + c (b + 44 + k) + c (b + 54 + k) + c (b + 64 + k) + c (b + 74 + k) + c (b + 84 + k)
def m_N (c : Int → Int) : Prop :=
  (0 ≤ c 3720 ∧ c 3720 ≤ 10) ∧ (0 ≤ c 3721 ∧ c 3721 ≤ 8) ∧ (0 ≤ c 3722 ∧ c 3722 ≤ 6) ∧ (0 ≤ c 3723 ∧ c 3723 ≤ 2) ∧ (0 ≤ c 3724 ∧ c 3724 ≤ 4) ∧
  (∀ j, 3725 ≤ j → j < 3730 → c j = 0) ∧ (∀ j, 3742 ≤ j → j < 3754 → c j = 0) ∧ (∀ j, 3754 ≤ j → j < 3814 → 0 ≤ c j) ∧ (∀ k, 0 ≤ k → k < 10 → m_sum c 3720 k ≤ 8) ∧ (∀ j, 3814 ≤ j → j < 4650 → c j = 0) ∧ (∀ p k, 0 ≤ p → p < 6 → 0 ≤ k → k < 10 → c 3720 ≤ k → c (3754 + 10 * p + k) = 0)
theorem m_N.ext {c c' : Int → Int} (e : ∀ j, c' j = c j) (h : m_N c) : m_N c' := by
  have : c' = c := funext e
  rw [this]; exact h
/-- a cell written that the new table's hands don't reach -/
theorem m_N.wr {c c' : Int → Int} {A v : Int} (h : m_N c) (e : ∀ j : Int, 0 ≤ j → c' j = if j = A then v else c j) (hA : A = 3721 ∧ 0 ≤ v ∧ v ≤ 8 ∨ A = 3722 ∧ 0 ≤ v ∧ v ≤ 6 ∨ A = 3723 ∧ 0 ≤ v ∧ v ≤ 2 ∨ A = 3724 ∧ 0 ≤ v ∧ v ≤ 4 ∨ 3730 ≤ A ∧ A < 3742) : m_N c' := by
  obtain ⟨h0, h1, h2, h3, h4, h5, h6, h7, h8, h9, h10⟩ := h
  have q : ∀ j : Int, 0 ≤ j → j ≠ A → c' j = c j := fun j hj hn => by rw [e j hj, if_neg hn]
  have s : ∀ j : Int, 0 ≤ j → j = A → c' j = v := fun j hj hn => by rw [e j hj, if_pos hn]
  have r : ∀ (j lo hi : Int), 0 ≤ j → (lo ≤ c j ∧ c j ≤ hi) → (j = A → lo ≤ v ∧ v ≤ hi) → lo ≤ c' j ∧ c' j ≤ hi := by
    intro j lo hi hj hc hv
    by_cases w : j = A
    · rw [s j hj w]; exact hv w
    · rw [q j hj w]; exact hc
  refine ⟨r _ _ _ (by decide) h0 (by omega), r _ _ _ (by decide) h1 (by omega), r _ _ _ (by decide) h2 (by omega), r _ _ _ (by decide) h3 (by omega), r _ _ _ (by decide) h4 (by omega), ?_, ?_, ?_, ?_, ?_, ?_⟩
  · intro j a b; rw [q j (by omega) (by omega)]; exact h5 j a b
  · intro j a b; rw [q j (by omega) (by omega)]; exact h6 j a b
  · intro j a b; rw [q j (by omega) (by omega)]; exact h7 j a b
  · intro k a b
    have w := h8 k a b
    unfold m_sum at w ⊢
    rw [q _ (by omega) (by omega), q _ (by omega) (by omega), q _ (by omega) (by omega), q _ (by omega) (by omega), q _ (by omega) (by omega), q _ (by omega) (by omega)]
    exact w
  · intro j a b; rw [q j (by omega) (by omega)]; exact h9 j a b
  · intro p k a0 a1 a2 a3 a4; rw [q 3720 (by decide) (by omega)] at a4; rw [q _ (by omega) (by omega)]; exact h10 p k a0 a1 a2 a3 a4
/-- the number of kinds told, while no hand is -/
theorem m_N.w0 {c c' : Int → Int} {v : Int} (h : m_N c) (z : ∀ j, 3754 ≤ j → j < 3814 → c j = 0) (e : ∀ j : Int, 0 ≤ j → c' j = if j = 3720 then v else c j) (hv : 0 ≤ v ∧ v ≤ 10) : m_N c' := by
  obtain ⟨h0, h1, h2, h3, h4, h5, h6, h7, h8, h9, h10⟩ := h
  have q : ∀ j : Int, 0 ≤ j → j ≠ 3720 → c' j = c j := fun j hj hn => by rw [e j hj, if_neg hn]
  refine ⟨?_, ?_, ?_, ?_, ?_, ?_, ?_, ?_, ?_, ?_, ?_⟩
  · rw [e 3720 (by decide), if_pos rfl]; exact hv
  · rw [q _ (by decide) (by decide)]; exact h1
  · rw [q _ (by decide) (by decide)]; exact h2
  · rw [q _ (by decide) (by decide)]; exact h3
  · rw [q _ (by decide) (by decide)]; exact h4
  · intro j a b; rw [q j (by omega) (by omega)]; exact h5 j a b
  · intro j a b; rw [q j (by omega) (by omega)]; exact h6 j a b
  · intro j a b; rw [q j (by omega) (by omega)]; exact h7 j a b
  · intro k a b
    have w := h8 k a b
    unfold m_sum at w ⊢
    rw [q _ (by omega) (by omega), q _ (by omega) (by omega), q _ (by omega) (by omega), q _ (by omega) (by omega), q _ (by omega) (by omega), q _ (by omega) (by omega)]
    exact w
  · intro j a b; rw [q j (by omega) (by omega)]; exact h9 j a b
  · intro p k a0 a1 a2 a3 a4; rw [q _ (by omega) (by omega)]; exact z _ (by omega) (by omega)
/-- a new table's cells, all 0 but for the most -/
theorem m_N.new {c c' : Int → Int} {v : Int} (z : ∀ j, 3720 ≤ j → j < 4650 → c j = 0) (e : ∀ j : Int, 0 ≤ j → c' j = if j = 3724 then v else c j) (hv : v = 4) : m_N c' := by
  have q : ∀ j : Int, 3720 ≤ j → j < 4650 → j ≠ 3724 → c' j = 0 := fun j hj h2 hn => by rw [e j (by omega), if_neg hn]; exact z j hj h2
  refine ⟨?_, ?_, ?_, ?_, ?_, ?_, ?_, ?_, ?_, ?_, ?_⟩
  · rw [q _ (by decide) (by decide) (by decide)]; decide
  · rw [q _ (by decide) (by decide) (by decide)]; decide
  · rw [q _ (by decide) (by decide) (by decide)]; decide
  · rw [q _ (by decide) (by decide) (by decide)]; decide
  · rw [e 3724 (by decide), if_pos rfl, hv]; decide
  · intro j a b; exact q j (by omega) (by omega) (by omega)
  · intro j a b; exact q j (by omega) (by omega) (by omega)
  · intro j a b; rw [q j (by omega) (by omega) (by omega)]; decide
  · intro k a b
    unfold m_sum
    rw [q _ (by omega) (by omega) (by omega), q _ (by omega) (by omega) (by omega), q _ (by omega) (by omega) (by omega), q _ (by omega) (by omega) (by omega), q _ (by omega) (by omega) (by omega), q _ (by omega) (by omega) (by omega)]
    decide
  · intro j a b; exact q j (by omega) (by omega) (by omega)
  · intro p k a0 a1 a2 a3 a4; exact q _ (by omega) (by omega) (by omega)
/-- a hand told -/
theorem m_N.hand {c c' : Int → Int} {p k v : Int} (h : m_N c) (hp : 0 ≤ p ∧ p < 6) (hk : 0 ≤ k ∧ k < 10) (hkc : k < c 3720) (e : ∀ j : Int, 0 ≤ j → c' j = if j = 3754 + (10 * p + k) then v else c j) (hv : 0 ≤ v) (hs : m_sum c 3720 k + v ≤ 8) : m_N c' := by
  obtain ⟨h0, h1, h2, h3, h4, h5, h6, h7, h8, h9, h10⟩ := h
  have q : ∀ j : Int, 0 ≤ j → j ≠ 3754 + (10 * p + k) → c' j = c j := fun j hj hn => by rw [e j hj, if_neg hn]
  refine ⟨?_, ?_, ?_, ?_, ?_, ?_, ?_, ?_, ?_, ?_, ?_⟩
  · rw [q _ (by omega) (by omega)]; exact h0
  · rw [q _ (by omega) (by omega)]; exact h1
  · rw [q _ (by omega) (by omega)]; exact h2
  · rw [q _ (by omega) (by omega)]; exact h3
  · rw [q _ (by omega) (by omega)]; exact h4
  · intro j a b; rw [q j (by omega) (by omega)]; exact h5 j a b
  · intro j a b; rw [q j (by omega) (by omega)]; exact h6 j a b
  · intro j a b
    rw [e j (by omega)]
    split
    · exact hv
    · exact h7 j a b
  · intro i a b
    by_cases w : i = k
    · subst w
      have z := fun j (a : 3754 ≤ j) (b : j < 3814) => h7 j a b
      have z0 := h7 (3720 + 34 + i) (by omega) (by omega)
      have z1 := h7 (3720 + 44 + i) (by omega) (by omega)
      have z2 := h7 (3720 + 54 + i) (by omega) (by omega)
      have z3 := h7 (3720 + 64 + i) (by omega) (by omega)
      have z4 := h7 (3720 + 74 + i) (by omega) (by omega)
      have z5 := h7 (3720 + 84 + i) (by omega) (by omega)
      unfold m_sum at hs ⊢
      rw [e _ (by omega), e _ (by omega), e _ (by omega), e _ (by omega), e _ (by omega), e _ (by omega)]
      repeat' split
      all_goals omega
    · have u := h8 i a b
      unfold m_sum at u ⊢
      rw [q _ (by omega) (by omega), q _ (by omega) (by omega), q _ (by omega) (by omega), q _ (by omega) (by omega), q _ (by omega) (by omega), q _ (by omega) (by omega)]
      exact u
  · intro j a b; rw [q j (by omega) (by omega)]; exact h9 j a b
  · intro p' k' a0 a1 a2 a3 a4; rw [q 3720 (by decide) (by omega)] at a4; rw [q _ (by omega) (by omega)]; exact h10 p' k' a0 a1 a2 a3 a4
def m_ps (c : Int → Int) (k : Int) : Nat → Int
  | 0 => 0
  | n + 1 => m_ps c k n + c (3754 + (10 * (n : Int)) + k)
theorem m_ps_succ (c : Int → Int) (k p : Int) (h : 0 ≤ p) : m_ps c k (p + 1).toNat = m_ps c k p.toNat + c (3754 + 10 * p + k) := by
  have e : (p + 1).toNat = p.toNat + 1 := by omega
  have e2 : (p.toNat : Int) = p := by omega
  rw [e]
  show m_ps c k p.toNat + c (3754 + 10 * (p.toNat : Int) + k) = _
  rw [e2]
theorem m_ps_6 (c : Int → Int) (k : Int) : m_ps c k 6 = m_sum c 3720 k := by
  unfold m_sum
  show ((((((0 + c (3754 + 10 * 0 + k)) + c (3754 + 10 * 1 + k)) + c (3754 + 10 * 2 + k)) + c (3754 + 10 * 3 + k)) + c (3754 + 10 * 4 + k)) + c (3754 + 10 * 5 + k)) = _
  have f : ∀ i j : Int, i = j → c i = c j := fun i j h => by rw [h]
  rw [f (3754 + 10 * 0 + k) (3720 + 34 + k) (by omega), f (3754 + 10 * 1 + k) (3720 + 44 + k) (by omega), f (3754 + 10 * 2 + k) (3720 + 54 + k) (by omega), f (3754 + 10 * 3 + k) (3720 + 64 + k) (by omega), f (3754 + 10 * 4 + k) (3720 + 74 + k) (by omega), f (3754 + 10 * 5 + k) (3720 + 84 + k) (by omega)]
  omega
theorem m_ps_bd {c : Int → Int} (h : m_N c) {k : Int} (hk : 0 ≤ k ∧ k < 10) (n : Nat) (hn : n ≤ 6) : 0 ≤ m_ps c k n ∧ m_ps c k n ≤ 8 := by
  have h7 := h.2.2.2.2.2.2.2.1
  have h8 := h.2.2.2.2.2.2.2.2.1 k hk.1 hk.2
  have st : ∀ i : Nat, i < 6 → m_ps c k i ≤ m_ps c k (i + 1) := by
    intro i hi
    have := h7 (3754 + (10 * (i : Int)) + k) (by omega) (by omega)
    show m_ps c k i ≤ m_ps c k i + _
    omega
  have a0 : m_ps c k 0 ≤ m_ps c k 1 := st 0 (by decide)
  have a1 : m_ps c k 1 ≤ m_ps c k 2 := st 1 (by decide)
  have a2 : m_ps c k 2 ≤ m_ps c k 3 := st 2 (by decide)
  have a3 : m_ps c k 3 ≤ m_ps c k 4 := st 3 (by decide)
  have a4 : m_ps c k 4 ≤ m_ps c k 5 := st 4 (by decide)
  have a5 : m_ps c k 5 ≤ m_ps c k 6 := st 5 (by decide)
  have z : m_ps c k 0 = 0 := rfl
  have e := m_ps_6 c k
  have hn' : n = 0 ∨ n = 1 ∨ n = 2 ∨ n = 3 ∨ n = 4 ∨ n = 5 ∨ n = 6 := by omega
  rcases hn' with rfl | rfl | rfl | rfl | rfl | rfl | rfl <;> omega
end
/-! FROM 25.tab.lean.txt -/
section
/-! the new table, told to its end, becomes the game -/
def m_new (c : Int → Int) : Prop := ∃ c1 : Int → Int, m_N c1 ∧ 2 ≤ c1 3720 ∧ 1 ≤ c1 3724 ∧ ∀ j : Int, 0 ≤ j → c j = if j = 3726 then (if c1 3722 = 0 then -1 else 0) else if j = 3728 then -1 else c1 j
theorem m_new.mk {c c1 c2 : Int → Int} {w v : Int} (hN : m_N c1) (h0 : 2 ≤ c1 3720) (h4 : 1 ≤ c1 3724) (e1 : ∀ j : Int, 0 ≤ j → c2 j = if j = 3728 then w else c1 j) (hw : w = -1) (e : ∀ j : Int, 0 ≤ j → c j = if j = 3726 then v else c2 j) (hv : c1 3722 = 0 ∧ v = -1 ∨ c1 3722 ≠ 0 ∧ v = 0) : m_new c := by
  refine ⟨c1, hN, h0, h4, fun j hj => ?_⟩
  rw [e j hj, e1 j hj, hw]
  by_cases q : j = 3726
  · rw [if_pos q, if_pos q]
    rcases hv with ⟨a, b⟩ | ⟨a, b⟩
    · rw [if_pos a]; exact b
    · rw [if_neg a]; exact b
  · rw [if_neg q, if_neg q]
theorem m_S_10 (c : Int → Int) (b : Int) : m_S c b 10 = c b + c (b + 1) + c (b + 2) + c (b + 3) + c (b + 4) + c (b + 5) + c (b + 6) + c (b + 7) + c (b + 8) + c (b + 9) := by
  show ((((((((((0 + c (b + 0)) + c (b + 1)) + c (b + 2)) + c (b + 3)) + c (b + 4)) + c (b + 5)) + c (b + 6)) + c (b + 7)) + c (b + 8)) + c (b + 9)) = _
  have e : c (b + 0) = c b := by rw [Int.add_zero]
  omega
theorem m_G.new {c c' : Int → Int} (h : m_new c) (e : ∀ j : Int, 0 ≤ j → j < 930 → c' j = c (3720 + j)) : m_G c' ∧ m_W c' 0 := by
  obtain ⟨c1, hN, k0, k4, ec⟩ := h
  obtain ⟨h0, h1, h2, h3, h4, h5, h6, h7, h8, h9, h10⟩ := hN
  have q : ∀ j : Int, 0 ≤ j → j < 930 → j ≠ 6 → j ≠ 8 → c' j = c1 (3720 + j) := fun j a b n6 n8 => by
    rw [e j a b, ec _ (by omega), if_neg (by omega), if_neg (by omega)]
  have e0 : c' 0 = c1 3720 := q 0 (by decide) (by decide) (by decide) (by decide)
  have e2 : c' 2 = c1 3722 := q 2 (by decide) (by decide) (by decide) (by decide)
  have e4 : c' 4 = c1 3724 := q 4 (by decide) (by decide) (by decide) (by decide)
  have e5 : c' 5 = 0 := (q 5 (by decide) (by decide) (by decide) (by decide)).trans (h5 3725 (by decide) (by decide))
  have e7 : c' 7 = 0 := (q 7 (by decide) (by decide) (by decide) (by decide)).trans (h5 3727 (by decide) (by decide))
  have e9 : c' 9 = 0 := (q 9 (by decide) (by decide) (by decide) (by decide)).trans (h5 3729 (by decide) (by decide))
  have e6 : c' 6 = if c1 3722 = 0 then -1 else 0 := by
    rw [e 6 (by decide) (by decide)]
    exact (ec 3726 (by decide)).trans (if_pos rfl)
  have eQ : c' 655 = 0 := (q 655 (by decide) (by decide) (by decide) (by decide)).trans (h9 4375 (by decide) (by decide))
  refine ⟨⟨?_, ?_, ?_, ?_, ?_, ?_⟩, ?_⟩
  · unfold m_H
    rw [e0, e2, e4, e5, e7, e9, e6]
    split <;> omega
  · intro p k a0 a1 a2 a3
    rw [q _ (by omega) (by omega) (by omega) (by omega), e0]
    have ee : (3720 : Int) + (34 + 10 * p + k) = 3754 + 10 * p + k := by omega
    rw [ee]
    exact ⟨h7 _ (by omega) (by omega), h10 p k a0 a1 a2 a3⟩
  · intro i a0 a1
    rw [e9] at a1
    omega
  · unfold m_T
    rw [e9]
    have hs : ∀ k : Int, 0 ≤ k → k < 10 → c' (34 + k) + c' (44 + k) + c' (54 + k) + c' (64 + k) + c' (74 + k) + c' (84 + k) ≤ 8 := by
      intro k a0 a1
      have w := h8 k a0 a1
      unfold m_sum at w
      rw [q (34 + k) (by omega) (by omega) (by omega) (by omega), q (44 + k) (by omega) (by omega) (by omega) (by omega), q (54 + k) (by omega) (by omega) (by omega) (by omega), q (64 + k) (by omega) (by omega) (by omega) (by omega), q (74 + k) (by omega) (by omega) (by omega) (by omega), q (84 + k) (by omega) (by omega) (by omega) (by omega)]
      have f : ∀ i j : Int, i = j → c1 i = c1 j := fun i j h => by rw [h]
      rw [f (3720 + (34 + k)) (3720 + 34 + k) (by omega), f (3720 + (44 + k)) (3720 + 44 + k) (by omega), f (3720 + (54 + k)) (3720 + 54 + k) (by omega), f (3720 + (64 + k)) (3720 + 64 + k) (by omega), f (3720 + (74 + k)) (3720 + 74 + k) (by omega), f (3720 + (84 + k)) (3720 + 84 + k) (by omega)]
      exact w
    have s0 := hs 0 (by decide) (by decide)
    have s1 := hs 1 (by decide) (by decide)
    have s2 := hs 2 (by decide) (by decide)
    have s3 := hs 3 (by decide) (by decide)
    have s4 := hs 4 (by decide) (by decide)
    have s5 := hs 5 (by decide) (by decide)
    have s6 := hs 6 (by decide) (by decide)
    have s7 := hs 7 (by decide) (by decide)
    have s8 := hs 8 (by decide) (by decide)
    have s9 := hs 9 (by decide) (by decide)
    simp only [Int.reduceAdd, Int.add_zero] at s0 s1 s2 s3 s4 s5 s6 s7 s8 s9
    rw [m_S_6, m_S_10, m_S_10, m_S_10, m_S_10, m_S_10, m_S_10]
    simp only [Int.reduceAdd]
    show _ + m_L c' 0 ≤ 80
    have z : m_L c' 0 = 0 := rfl
    rw [z]
    omega
  · intro w
    rw [e7] at w
    exact absurd w (by decide)
  · refine ⟨by rw [eQ]; decide, fun s a0 a1 => ?_⟩
    rw [eQ] at a1
    omega
  · intro p a0 a1
    rw [q (28 + p) (by omega) (by omega) (by omega) (by omega), q (22 + p) (by omega) (by omega) (by omega) (by omega), h6 _ (by omega) (by omega), h6 _ (by omega) (by omega)]
    decide
/-- cells copied from B on to D on, the first k of n -/
theorem m_cpy {c c0 c1 : Int → Int} {B D k n v : Int} (h : ∀ j : Int, 0 ≤ j → c1 j = if D ≤ j ∧ j < D + k then c0 (B + (j - D)) else c0 j) (e : ∀ j : Int, 0 ≤ j → c j = if j = D + k then v else c1 j) (hv : v = c1 (B + k)) (hk : 0 ≤ k ∧ k < n) (hB : 0 ≤ B) (hd : B + n ≤ D ∨ D + n ≤ B) : ∀ j : Int, 0 ≤ j → c j = if D ≤ j ∧ j < D + (k + 1) then c0 (B + (j - D)) else c0 j := by
  intro j hj
  rw [e j hj]
  by_cases q : j = D + k
  · rw [if_pos q, if_pos (by omega), hv, h _ (by omega), if_neg (by omega)]
    have : B + (j - D) = B + k := by omega
    rw [this]
  · rw [if_neg q, h j hj]
    by_cases w : D ≤ j ∧ j < D + k
    · rw [if_pos w, if_pos (by omega)]
    · rw [if_neg w, if_neg (by omega)]
end
/-! FROM 26.look.lean.txt -/
section
theorem m_look_lt {X : XW} {σ : ST} {a : Nat} {p : Int} (h : m_look X σ a p ≠ 0) : p < (σ.1 a 9).toInt := by
  unfold m_look at h
  split at h
  · assumption
  · exact absurd rfl h
/-! the reader's standing facts carried over a call -/
theorem sm_tr {p15 p16 p9 p14 p12 n15 n16 n9 n14 n12 b9 b15 b12 : Int} (h : 0 ≤ p15 ∧ p15 ≤ p16 ∧ p16 ≤ p9 ∧ p9 ≤ 900 ∧ 0 ≤ p14 ∧ p14 ≤ 4 ∧ p14 ≤ 4 * (p16 - p15) ∧ p14 ≤ 4 * (p9 - p15) ∧ 0 ≤ p12 ∧ p9 = b9 ∧ b15 ≤ p15 ∧ b12 ≤ p12) (c : 0 ≤ n15 ∧ n15 ≤ n16 ∧ n16 ≤ n9 ∧ n9 ≤ 900 ∧ 0 ≤ n14 ∧ n14 ≤ 4 ∧ n14 ≤ 4 * (n16 - n15) ∧ n14 ≤ 4 * (n9 - n15) ∧ 0 ≤ n12 ∧ n9 = p9 ∧ p15 ≤ n15 ∧ p12 ≤ n12) : 0 ≤ n15 ∧ n15 ≤ n16 ∧ n16 ≤ n9 ∧ n9 ≤ 900 ∧ 0 ≤ n14 ∧ n14 ≤ 4 ∧ n14 ≤ 4 * (n16 - n15) ∧ n14 ≤ 4 * (n9 - n15) ∧ 0 ≤ n12 ∧ n9 = b9 ∧ b15 ≤ n15 ∧ b12 ≤ n12 :=
  ⟨c.1, c.2.1, c.2.2.1, c.2.2.2.1, c.2.2.2.2.1, c.2.2.2.2.2.1, c.2.2.2.2.2.2.1, c.2.2.2.2.2.2.2.1, c.2.2.2.2.2.2.2.2.1, c.2.2.2.2.2.2.2.2.2.1.trans h.2.2.2.2.2.2.2.2.2.1, Int.le_trans h.2.2.2.2.2.2.2.2.2.2.1 c.2.2.2.2.2.2.2.2.2.2.1, Int.le_trans h.2.2.2.2.2.2.2.2.2.2.2 c.2.2.2.2.2.2.2.2.2.2.2⟩
theorem sm_9 {p15 p16 p9 p14 p12 b9 b15 b12 : Int} (h : 0 ≤ p15 ∧ p15 ≤ p16 ∧ p16 ≤ p9 ∧ p9 ≤ 900 ∧ 0 ≤ p14 ∧ p14 ≤ 4 ∧ p14 ≤ 4 * (p16 - p15) ∧ p14 ≤ 4 * (p9 - p15) ∧ 0 ≤ p12 ∧ p9 = b9 ∧ b15 ≤ p15 ∧ b12 ≤ p12) : 0 ≤ p15 ∧ p15 ≤ p16 ∧ p16 ≤ p9 ∧ p9 ≤ 900 ∧ 0 ≤ p14 ∧ p14 ≤ 4 ∧ p14 ≤ 4 * (p16 - p15) ∧ p14 ≤ 4 * (p9 - p15) ∧ 0 ≤ p12 := ⟨h.1, h.2.1, h.2.2.1, h.2.2.2.1, h.2.2.2.2.1, h.2.2.2.2.2.1, h.2.2.2.2.2.2.1, h.2.2.2.2.2.2.2.1, h.2.2.2.2.2.2.2.2.1⟩
theorem sm_nx {p15 p16 p9 p14 p12 n15 n16 n9 n14 n12 b9 b15 b12 : Int} (h : 0 ≤ p15 ∧ p15 ≤ p16 ∧ p16 ≤ p9 ∧ p9 ≤ 900 ∧ 0 ≤ p14 ∧ p14 ≤ 4 ∧ p14 ≤ 4 * (p16 - p15) ∧ p14 ≤ 4 * (p9 - p15) ∧ 0 ≤ p12 ∧ p9 = b9 ∧ b15 ≤ p15 ∧ b12 ≤ p12) (c : 0 ≤ n15 ∧ n15 ≤ n16 ∧ n16 ≤ n9 ∧ n9 ≤ 900 ∧ 0 ≤ n14 ∧ n14 ≤ 4 ∧ n14 ≤ 4 * (n16 - n15) ∧ n14 ≤ 4 * (n9 - n15)) (d : n9 = p9 ∧ n12 = p12 ∧ p16 ≤ n15) : 0 ≤ n15 ∧ n15 ≤ n16 ∧ n16 ≤ n9 ∧ n9 ≤ 900 ∧ 0 ≤ n14 ∧ n14 ≤ 4 ∧ n14 ≤ 4 * (n16 - n15) ∧ n14 ≤ 4 * (n9 - n15) ∧ 0 ≤ n12 ∧ n9 = b9 ∧ b15 ≤ n15 ∧ b12 ≤ n12 := by
  obtain ⟨d1, d2, d3⟩ := d
  exact ⟨c.1, c.2.1, c.2.2.1, c.2.2.2.1, c.2.2.2.2.1, c.2.2.2.2.2.1, c.2.2.2.2.2.2.1, c.2.2.2.2.2.2.2, by omega, by omega, by omega, by omega⟩
theorem sm_fl {p15 p16 p9 p14 p12 n15 n16 n9 n14 n12 b9 b15 b12 : Int} (h : 0 ≤ p15 ∧ p15 ≤ p16 ∧ p16 ≤ p9 ∧ p9 ≤ 900 ∧ 0 ≤ p14 ∧ p14 ≤ 4 ∧ p14 ≤ 4 * (p16 - p15) ∧ p14 ≤ 4 * (p9 - p15) ∧ 0 ≤ p12 ∧ p9 = b9 ∧ b15 ≤ p15 ∧ b12 ≤ p12) (c : n9 = p9 ∧ n14 = p14 ∧ n15 = p15 ∧ n16 = p16) (d : p12 ≤ n12 ∧ 1 ≤ n12) : 0 ≤ n15 ∧ n15 ≤ n16 ∧ n16 ≤ n9 ∧ n9 ≤ 900 ∧ 0 ≤ n14 ∧ n14 ≤ 4 ∧ n14 ≤ 4 * (n16 - n15) ∧ n14 ≤ 4 * (n9 - n15) ∧ 0 ≤ n12 ∧ n9 = b9 ∧ b15 ≤ n15 ∧ b12 ≤ n12 := by
  obtain ⟨c1, c2, c3, c4⟩ := c
  subst c1 c2 c3 c4
  exact ⟨h.1, h.2.1, h.2.2.1, h.2.2.2.1, h.2.2.2.2.1, h.2.2.2.2.2.1, h.2.2.2.2.2.2.1, h.2.2.2.2.2.2.2.1, by omega, h.2.2.2.2.2.2.2.2.2.1, h.2.2.2.2.2.2.2.2.2.2.1, by omega⟩
end
