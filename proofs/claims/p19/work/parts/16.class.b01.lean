set_option maxRecDepth 100000 in
set_option maxHeartbeats 4000000 in
theorem c_X11_pour (l : Launch) (X : XW) (σ : ST) (a : Nat) (v1 : Int32) (v2 : Int32) (v3 : Int32) (v4 : Int32) (v5 : Int32) (ha : q_kd X a = 11) : Met l yX11_pour (q_ws yX11_pour cX11_pour 8 (some .boolean)) (q_rm 2 84) (q_P X σ [.ref a, .int v1, .int v2, .int v3, .int v4, .int v5]) (q_Qi X 8 σ (fun (r : Int32) (σ' : ST) => (0 ≤ r.toInt ∧ r.toInt ≤ 1) ∧ (r.toInt = 1 ↔ ((0 ≤ v1.toInt ∧ v1.toInt < 4) ∧ (0 ≤ v3.toInt ∧ v3.toInt < 4) ∧ 0 ≤ (σ.1 (q_rf X (q_rf X a 3) v1.toNatClampNeg) 1).toInt ∧ 0 ≤ (σ.1 (q_rf X (q_rf X a 3) v3.toNatClampNeg) 1).toInt ∧ (σ.1 (q_rf X (q_rf X a 3) v1.toNatClampNeg) 0).toInt = (σ.1 (q_rf X (q_rf X a 3) v3.toNatClampNeg) 0).toInt ∧ 0 ≤ v5.toInt ∧ 0 ≤ v2.toInt ∧ v2.toInt + v5.toInt ≤ (σ.1 (q_rf X (q_rf X a 3) v1.toNatClampNeg) 1).toInt ∧ 0 ≤ v4.toInt ∧ v4.toInt + v5.toInt ≤ (σ.1 (q_rf X (q_rf X a 3) v3.toNatClampNeg) 1).toInt)) ∧ (r, σ') = F_X11_pour X σ a v1 v2 v3 v4 v5 ∧ q_ow [(11, 0)] [(21, 99)] X σ σ')) 0 0 (q_reg X) := by
  refine q_met 8 (by first | exact rfl | decide +kernel) rfl (Nat.le_of_ble_eq_true rfl) (fun p e s m below meth c E hml hr hlk hI ls hl => ?_)
  have hx := E.1
  have hb := E.2.1
  have hl : lv_has ls 8 [(0, .ref a), (1, .int v1), (2, .int v2), (3, .int v3), (4, .int v4), (5, .int v5)] := hl
  have fr_σ : q_ow [(11, 0)] [(21, 99)] X σ σ := q_ow.rf
  obtain ⟨out, hout⟩ : ∃ o, o = F_X11_pour X σ a v1 v2 v3 v4 v5 := ⟨_, rfl⟩
  have hF := hout.symm
  unfold F_X11_pour at hF
  refine lv_aload_n hx hb dX11_pour_0 rfl (lv_at hl 0 rfl) ?_
  refine lv_iload_n hx hb dX11_pour_1 rfl (lv_at hl 1 rfl) ?_
  refine q_cq (q_runV (As := [.int v1]) (rest := []) E (hml.trans hl.1.symm) hI (c_X11_trayAt l X σ a v1 ha) kv_X11_85 ha ⟨rfl, by decide⟩ (show vwCl[10]? = some (RX11, TX11, 17) from rfl) rfl ⟨Nat.le_of_ble_eq_true rfl, Nat.le_of_ble_eq_true rfl⟩ ⟨Nat.le_refl _, Nat.le_refl _⟩ rfl (Nat.le_of_ble_eq_true rfl) dX11_pour_2) hI (by decide) (fun r_1 σ_2 H locs hpσ_2 hkσ_2 hI => ?_)
  obtain ⟨ahpσ_2, bhpσ_2, chpσ_2⟩ := hpσ_2
  rw [ahpσ_2] at hI
  replace hF := q_letX hF chpσ_2
  rcases r_1 with _ | r_1
  · show W _ _ _ _ _ _ _ _ _ _ _ _ _ _ _ (F0 m (2 + 3) ls [.null])
    replace hF := q_onN hF
    have nq_v1 := bhpσ_2.2 rfl
    refine lv_astoreN (lv' := [(6, .null), (0, .ref a), (1, .int v1), (2, .int v2), (3, .int v3), (4, .int v4), (5, .int v5)]) hx hb dX11_pour_5 hl (by decide) rfl (fun ls hl => ?_)
    refine lv_aload_n hx hb dX11_pour_7 rfl (lv_at hl 1 rfl) ?_
    refine lv_iload_n hx hb dX11_pour_8 rfl (lv_at hl 4 rfl) ?_
    refine q_cq (q_runV (As := [.int v3]) (rest := []) E (hml.trans hl.1.symm) hI (c_X11_trayAt l X σ a v3 ha) kv_X11_85 ha ⟨rfl, by decide⟩ (show vwCl[10]? = some (RX11, TX11, 17) from rfl) rfl ⟨Nat.le_of_ble_eq_true rfl, Nat.le_of_ble_eq_true rfl⟩ ⟨Nat.le_refl _, Nat.le_refl _⟩ rfl (Nat.le_of_ble_eq_true rfl) dX11_pour_9) hI (by decide) (fun r_3 σ_4 H locs hpσ_4 hkσ_4 hI => ?_)
    obtain ⟨ahpσ_4, bhpσ_4, chpσ_4⟩ := hpσ_4
    rw [ahpσ_4] at hI
    replace hF := q_letX hF chpσ_4
    rcases r_3 with _ | r_3
    · show W _ _ _ _ _ _ _ _ _ _ _ _ _ _ _ (F0 m (9 + 3) ls [.null])
      replace hF := q_onN hF
      have nq_v3 := bhpσ_4.2 rfl
      refine lv_astoreN (lv' := [(7, .null), (6, .null), (0, .ref a), (1, .int v1), (2, .int v2), (3, .int v3), (4, .int v4), (5, .int v5)]) hx hb dX11_pour_12 hl (by decide) rfl (fun ls hl => ?_)
      refine lv_aloadN hx hb dX11_pour_14 (lv_at hl 1 rfl) ?_
      refine lv_ifnullN (tgt := 24) hx hb dX11_pour_16 (by decide) ?_
      refine lv_aload_n hx hb dX11_pour_24 rfl (lv_at hl 2 rfl) ?_
      refine lv_iconst (v := 1) hx hb dX11_pour_25 (by decide) ?_
      have kc_5 : (1 : Int32).toInt = 1 := rfl
      refine q_ci (q_runV (As := [.int 1]) (rest := []) E (hml.trans hl.1.symm) hI (c_X11_no l X σ a (1 : Int32) ha) kv_X11_89 ha ⟨rfl, by decide⟩ (show vwCl[10]? = some (RX11, TX11, 17) from rfl) rfl ⟨Nat.le_of_ble_eq_true rfl, Nat.le_of_ble_eq_true rfl⟩ ⟨Nat.le_refl _, Nat.le_refl _⟩ rfl (Nat.le_of_ble_eq_true rfl) dX11_pour_26) hI (by decide) (fun r_6 σ_7 H locs hpσ_7 hkσ_7 hI => ?_)
      obtain ⟨ahpσ_7, bhpσ_7, chpσ_7, dhpσ_7⟩ := hpσ_7
      have fr_σ_7 := fr_σ.call dhpσ_7 rfl rfl
      replace hF := q_biX hF chpσ_7
      exact q_retz E hr hlk hI ⟨by omega, by omega⟩ ⟨⟨by omega, by omega⟩, (by constructor <;> intro h9 <;> omega), (hF.trans hout), fr_σ_7⟩ dX11_pour_29
    · show W _ _ _ _ _ _ _ _ _ _ _ _ _ _ _ (F0 m (9 + 3) ls [.ref r_3])
      replace hF := q_onS hF
      obtain ⟨kq_r_3, eq_r_3, lo_r_3, hi_r_3⟩ := bhpσ_4.1 _ rfl
      have f0_r_3 : (σ.1 (q_rf X (q_rf X a 3) v3.toNatClampNeg) 0).toInt = (σ.1 r_3 0).toInt := by rw [← eq_r_3]
      have f1_r_3 : (σ.1 (q_rf X (q_rf X a 3) v3.toNatClampNeg) 1).toInt = (σ.1 r_3 1).toInt := by rw [← eq_r_3]
      have g1_r_3 : -1 ≤ (σ.1 r_3 1).toInt ∧ (σ.1 r_3 1).toInt ≤ 60 := q_bd hI kq_r_3 rfl
      refine lv_astore (lv' := [(7, .ref r_3), (6, .null), (0, .ref a), (1, .int v1), (2, .int v2), (3, .int v3), (4, .int v4), (5, .int v5)]) hx hb dX11_pour_12 hl (by decide) rfl (fun ls hl => ?_)
      refine lv_aloadN hx hb dX11_pour_14 (lv_at hl 1 rfl) ?_
      refine lv_ifnullN (tgt := 24) hx hb dX11_pour_16 (by decide) ?_
      refine lv_aload_n hx hb dX11_pour_24 rfl (lv_at hl 2 rfl) ?_
      refine lv_iconst (v := 1) hx hb dX11_pour_25 (by decide) ?_
      have kc_8 : (1 : Int32).toInt = 1 := rfl
      refine q_ci (q_runV (As := [.int 1]) (rest := []) E (hml.trans hl.1.symm) hI (c_X11_no l X σ a (1 : Int32) ha) kv_X11_89 ha ⟨rfl, by decide⟩ (show vwCl[10]? = some (RX11, TX11, 17) from rfl) rfl ⟨Nat.le_of_ble_eq_true rfl, Nat.le_of_ble_eq_true rfl⟩ ⟨Nat.le_refl _, Nat.le_refl _⟩ rfl (Nat.le_of_ble_eq_true rfl) dX11_pour_26) hI (by decide) (fun r_9 σ_10 H locs hpσ_10 hkσ_10 hI => ?_)
      obtain ⟨ahpσ_10, bhpσ_10, chpσ_10, dhpσ_10⟩ := hpσ_10
      have fr_σ_10 := fr_σ.call dhpσ_10 rfl rfl
      replace hF := q_biX hF chpσ_10
      exact q_retz E hr hlk hI ⟨by omega, by omega⟩ ⟨⟨by omega, by omega⟩, (by constructor <;> intro h9 <;> omega), (hF.trans hout), fr_σ_10⟩ dX11_pour_29
  · show W _ _ _ _ _ _ _ _ _ _ _ _ _ _ _ (F0 m (2 + 3) ls [.ref r_1])
    replace hF := q_onS hF
    obtain ⟨kq_r_1, eq_r_1, lo_r_1, hi_r_1⟩ := bhpσ_2.1 _ rfl
    have f0_r_1 : (σ.1 (q_rf X (q_rf X a 3) v1.toNatClampNeg) 0).toInt = (σ.1 r_1 0).toInt := by rw [← eq_r_1]
    have f1_r_1 : (σ.1 (q_rf X (q_rf X a 3) v1.toNatClampNeg) 1).toInt = (σ.1 r_1 1).toInt := by rw [← eq_r_1]
    have g1_r_1 : -1 ≤ (σ.1 r_1 1).toInt ∧ (σ.1 r_1 1).toInt ≤ 60 := q_bd hI kq_r_1 rfl
    refine lv_astore (lv' := [(6, .ref r_1), (0, .ref a), (1, .int v1), (2, .int v2), (3, .int v3), (4, .int v4), (5, .int v5)]) hx hb dX11_pour_5 hl (by decide) rfl (fun ls hl => ?_)
    refine lv_aload_n hx hb dX11_pour_7 rfl (lv_at hl 1 rfl) ?_
    refine lv_iload_n hx hb dX11_pour_8 rfl (lv_at hl 4 rfl) ?_
    refine q_cq (q_runV (As := [.int v3]) (rest := []) E (hml.trans hl.1.symm) hI (c_X11_trayAt l X σ a v3 ha) kv_X11_85 ha ⟨rfl, by decide⟩ (show vwCl[10]? = some (RX11, TX11, 17) from rfl) rfl ⟨Nat.le_of_ble_eq_true rfl, Nat.le_of_ble_eq_true rfl⟩ ⟨Nat.le_refl _, Nat.le_refl _⟩ rfl (Nat.le_of_ble_eq_true rfl) dX11_pour_9) hI (by decide) (fun r_11 σ_12 H locs hpσ_12 hkσ_12 hI => ?_)
    obtain ⟨ahpσ_12, bhpσ_12, chpσ_12⟩ := hpσ_12
    rw [ahpσ_12] at hI
    replace hF := q_letX hF chpσ_12
    rcases r_11 with _ | r_11
    · show W _ _ _ _ _ _ _ _ _ _ _ _ _ _ _ (F0 m (9 + 3) ls [.null])
      replace hF := q_onN hF
      have nq_v3 := bhpσ_12.2 rfl
      refine lv_astoreN (lv' := [(7, .null), (6, .ref r_1), (0, .ref a), (1, .int v1), (2, .int v2), (3, .int v3), (4, .int v4), (5, .int v5)]) hx hb dX11_pour_12 hl (by decide) rfl (fun ls hl => ?_)
      refine lv_aload hx hb dX11_pour_14 (lv_at hl 1 rfl) ?_
      refine lv_ifnull hx hb dX11_pour_16 ?_
      refine lv_aloadN hx hb dX11_pour_19 (lv_at hl 0 rfl) ?_
      refine lv_ifnonnullN hx hb dX11_pour_21 ?_
      refine lv_aload_n hx hb dX11_pour_24 rfl (lv_at hl 2 rfl) ?_
      refine lv_iconst (v := 1) hx hb dX11_pour_25 (by decide) ?_
      have kc_13 : (1 : Int32).toInt = 1 := rfl
      refine q_ci (q_runV (As := [.int 1]) (rest := []) E (hml.trans hl.1.symm) hI (c_X11_no l X σ a (1 : Int32) ha) kv_X11_89 ha ⟨rfl, by decide⟩ (show vwCl[10]? = some (RX11, TX11, 17) from rfl) rfl ⟨Nat.le_of_ble_eq_true rfl, Nat.le_of_ble_eq_true rfl⟩ ⟨Nat.le_refl _, Nat.le_refl _⟩ rfl (Nat.le_of_ble_eq_true rfl) dX11_pour_26) hI (by decide) (fun r_14 σ_15 H locs hpσ_15 hkσ_15 hI => ?_)
      obtain ⟨ahpσ_15, bhpσ_15, chpσ_15, dhpσ_15⟩ := hpσ_15
      have fr_σ_15 := fr_σ.call dhpσ_15 rfl rfl
      replace hF := q_biX hF chpσ_15
      exact q_retz E hr hlk hI ⟨by omega, by omega⟩ ⟨⟨by omega, by omega⟩, (by constructor <;> intro h9 <;> omega), (hF.trans hout), fr_σ_15⟩ dX11_pour_29
    · show W _ _ _ _ _ _ _ _ _ _ _ _ _ _ _ (F0 m (9 + 3) ls [.ref r_11])
      replace hF := q_onS hF
      obtain ⟨kq_r_11, eq_r_11, lo_r_11, hi_r_11⟩ := bhpσ_12.1 _ rfl
      have f0_r_11 : (σ.1 (q_rf X (q_rf X a 3) v3.toNatClampNeg) 0).toInt = (σ.1 r_11 0).toInt := by rw [← eq_r_11]
      have f1_r_11 : (σ.1 (q_rf X (q_rf X a 3) v3.toNatClampNeg) 1).toInt = (σ.1 r_11 1).toInt := by rw [← eq_r_11]
      have g1_r_11 : -1 ≤ (σ.1 r_11 1).toInt ∧ (σ.1 r_11 1).toInt ≤ 60 := q_bd hI kq_r_11 rfl
      refine lv_astore (lv' := [(7, .ref r_11), (6, .ref r_1), (0, .ref a), (1, .int v1), (2, .int v2), (3, .int v3), (4, .int v4), (5, .int v5)]) hx hb dX11_pour_12 hl (by decide) rfl (fun ls hl => ?_)
      refine lv_aload hx hb dX11_pour_14 (lv_at hl 1 rfl) ?_
      refine lv_ifnull hx hb dX11_pour_16 ?_
      refine lv_aload hx hb dX11_pour_19 (lv_at hl 0 rfl) ?_
      refine lv_ifnonnull (tgt := 30) hx hb dX11_pour_21 (by decide) ?_
      refine lv_aload hx hb dX11_pour_30 (lv_at hl 1 rfl) ?_
      refine q_ci (q_runV (As := []) (rest := []) E (hml.trans hl.1.symm) hI (c_X10_isMissing l X σ r_1 kq_r_1) kv_X11_117 kq_r_1 ⟨rfl, by decide⟩ (show vwCl[9]? = some (RX10, TX10, 3) from rfl) rfl ⟨Nat.le_of_ble_eq_true rfl, Nat.le_of_ble_eq_true rfl⟩ ⟨Nat.le_refl _, Nat.le_refl _⟩ rfl (Nat.le_of_ble_eq_true rfl) dX11_pour_32) hI (by decide) (fun r_16 σ_17 H locs hpσ_17 hkσ_17 hI => ?_)
      obtain ⟨ahpσ_17, bhpσ_17, chpσ_17, dhpσ_17⟩ := hpσ_17
      rw [ahpσ_17] at hI
      replace hF := q_letX hF dhpσ_17
      refine q_if_ne (A := r_16.toInt) E rfl (tgt := 46) dX11_pour_35 (by decide) (fun c_18 => ?_) (fun c_18 => ?_)
      · skip
        replace hF := q_ifn hF c_18
        replace c_18 := q_ifOne bhpσ_17 c_18
        replace chpσ_17 := q_ifYes chpσ_17 c_18
        refine lv_aload_n hx hb dX11_pour_46 rfl (lv_at hl 2 rfl) ?_
        refine lv_iconst (v := 3) hx hb dX11_pour_47 (by decide) ?_
        have kc_19 : (3 : Int32).toInt = 3 := rfl
        refine q_ci (q_runV (As := [.int 3]) (rest := []) E (hml.trans hl.1.symm) hI (c_X11_no l X σ a (3 : Int32) ha) kv_X11_89 ha ⟨rfl, by decide⟩ (show vwCl[10]? = some (RX11, TX11, 17) from rfl) rfl ⟨Nat.le_of_ble_eq_true rfl, Nat.le_of_ble_eq_true rfl⟩ ⟨Nat.le_refl _, Nat.le_refl _⟩ rfl (Nat.le_of_ble_eq_true rfl) dX11_pour_48) hI (by decide) (fun r_20 σ_21 H locs hpσ_21 hkσ_21 hI => ?_)
        obtain ⟨ahpσ_21, bhpσ_21, chpσ_21, dhpσ_21⟩ := hpσ_21
        have fr_σ_21 := fr_σ.call dhpσ_21 rfl rfl
        replace hF := q_biX hF chpσ_21
        exact q_retz E hr hlk hI ⟨by omega, by omega⟩ ⟨⟨by omega, by omega⟩, (by constructor <;> intro h9 <;> omega), (hF.trans hout), fr_σ_21⟩ dX11_pour_51
      · skip
        replace hF := q_ifp hF c_18
        replace chpσ_17 := q_ifNo chpσ_17 c_18
        refine lv_aload hx hb dX11_pour_38 (lv_at hl 0 rfl) ?_
        refine q_ci (q_runV (As := []) (rest := []) E (hml.trans hl.1.symm) hI (c_X10_isMissing l X σ r_11 kq_r_11) kv_X11_117 kq_r_11 ⟨rfl, by decide⟩ (show vwCl[9]? = some (RX10, TX10, 3) from rfl) rfl ⟨Nat.le_of_ble_eq_true rfl, Nat.le_of_ble_eq_true rfl⟩ ⟨Nat.le_refl _, Nat.le_refl _⟩ rfl (Nat.le_of_ble_eq_true rfl) dX11_pour_40) hI (by decide) (fun r_22 σ_23 H locs hpσ_23 hkσ_23 hI => ?_)
        obtain ⟨ahpσ_23, bhpσ_23, chpσ_23, dhpσ_23⟩ := hpσ_23
        rw [ahpσ_23] at hI
        replace hF := q_letX hF dhpσ_23
        refine q_if_eq (A := r_22.toInt) E rfl (tgt := 52) dX11_pour_43 (by decide) (fun c_24 => ?_) (fun c_24 => ?_)
        · skip
          replace hF := q_ifp hF c_24
          replace chpσ_23 := q_ifNo chpσ_23 c_24
          refine lv_aload hx hb dX11_pour_52 (lv_at hl 1 rfl) ?_
          refine gs_X11_120_10 E hI kq_r_1 dX11_pour_54 ?_
          refine lv_topi (fun f_25 ef_25 => ?_)
          replace hF := q_letX hF ef_25
          have if_25 : f_25.toInt = (σ.1 r_1 0).toInt := congrArg Int32.toInt ef_25
          have bf_25 : 0 ≤ f_25.toInt ∧ f_25.toInt ≤ 3 := by rw [ef_25]; exact q_bd hI kq_r_1 rfl
          refine lv_aload hx hb dX11_pour_57 (lv_at hl 0 rfl) ?_
          refine gs_X11_120_10 E hI kq_r_11 dX11_pour_59 ?_
          refine lv_topi (fun f_26 ef_26 => ?_)
          replace hF := q_letX hF ef_26
          have if_26 : f_26.toInt = (σ.1 r_11 0).toInt := congrArg Int32.toInt ef_26
          have bf_26 : 0 ≤ f_26.toInt ∧ f_26.toInt ≤ 3 := by rw [ef_26]; exact q_bd hI kq_r_11 rfl
          refine q_icmp_eq (A := f_25.toInt) (B := f_26.toInt) E rfl rfl (tgt := 72) dX11_pour_62 (by decide) (fun c_27 => ?_) (fun c_27 => ?_)
          · skip
            replace hF := q_ifp hF c_27
            refine lv_iload hx hb dX11_pour_72 (lv_at hl 7 rfl) ?_
            refine q_if_ge (A := v5.toInt) E rfl (tgt := 84) dX11_pour_74 (by decide) (fun c_28 => ?_) (fun c_28 => ?_)
            · skip
              replace hF := q_ifn hF (Int.not_lt.mpr c_28)
              refine lv_aload hx hb dX11_pour_84 (lv_at hl 1 rfl) ?_
              refine lv_iload_n hx hb dX11_pour_86 rfl (lv_at hl 4 rfl) ?_
              refine lv_iload hx hb dX11_pour_87 (lv_at hl 7 rfl) ?_
              refine q_ci (q_runV (As := [.int v2, .int v5]) (rest := []) E (hml.trans hl.1.symm) hI (c_X10_hasPlaces l X σ r_1 v2 v5 kq_r_1) kv_X11_123 kq_r_1 ⟨rfl, by decide⟩ (show vwCl[9]? = some (RX10, TX10, 3) from rfl) rfl ⟨Nat.le_of_ble_eq_true rfl, Nat.le_of_ble_eq_true rfl⟩ ⟨Nat.le_refl _, Nat.le_refl _⟩ rfl (Nat.le_of_ble_eq_true rfl) dX11_pour_89) hI (by decide) (fun r_29 σ_30 H locs hpσ_30 hkσ_30 hI => ?_)
              obtain ⟨ahpσ_30, bhpσ_30, chpσ_30, dhpσ_30⟩ := hpσ_30
              rw [ahpσ_30] at hI
              replace hF := q_letX hF dhpσ_30
              refine q_if_eq (A := r_29.toInt) E rfl (tgt := 107) dX11_pour_92 (by decide) (fun c_31 => ?_) (fun c_31 => ?_)
              · skip
                replace hF := q_ifp hF c_31
                replace chpσ_30 := q_ifNo chpσ_30 c_31
                refine lv_aload_n hx hb dX11_pour_107 rfl (lv_at hl 2 rfl) ?_
                refine lv_iconst (v := 4) hx hb dX11_pour_108 (by decide) ?_
                have kc_32 : (4 : Int32).toInt = 4 := rfl
                refine q_ci (q_runV (As := [.int 4]) (rest := []) E (hml.trans hl.1.symm) hI (c_X11_no l X σ a (4 : Int32) ha) kv_X11_89 ha ⟨rfl, by decide⟩ (show vwCl[10]? = some (RX11, TX11, 17) from rfl) rfl ⟨Nat.le_of_ble_eq_true rfl, Nat.le_of_ble_eq_true rfl⟩ ⟨Nat.le_refl _, Nat.le_refl _⟩ rfl (Nat.le_of_ble_eq_true rfl) dX11_pour_109) hI (by decide) (fun r_33 σ_34 H locs hpσ_34 hkσ_34 hI => ?_)
                obtain ⟨ahpσ_34, bhpσ_34, chpσ_34, dhpσ_34⟩ := hpσ_34
                have fr_σ_34 := fr_σ.call dhpσ_34 rfl rfl
                replace hF := q_biX hF chpσ_34
                exact q_retz E hr hlk hI ⟨by omega, by omega⟩ ⟨⟨by omega, by omega⟩, (by constructor <;> intro h9 <;> omega), (hF.trans hout), fr_σ_34⟩ dX11_pour_112
              · skip
                replace hF := q_ifn hF c_31
                replace c_31 := q_ifOne bhpσ_30 c_31
                replace chpσ_30 := q_ifYes chpσ_30 c_31
                refine lv_aload hx hb dX11_pour_95 (lv_at hl 0 rfl) ?_
                refine lv_iload hx hb dX11_pour_97 (lv_at hl 6 rfl) ?_
                refine lv_iload hx hb dX11_pour_99 (lv_at hl 7 rfl) ?_
                refine q_ci (q_runV (As := [.int v4, .int v5]) (rest := []) E (hml.trans hl.1.symm) hI (c_X10_hasPlaces l X σ r_11 v4 v5 kq_r_11) kv_X11_123 kq_r_11 ⟨rfl, by decide⟩ (show vwCl[9]? = some (RX10, TX10, 3) from rfl) rfl ⟨Nat.le_of_ble_eq_true rfl, Nat.le_of_ble_eq_true rfl⟩ ⟨Nat.le_refl _, Nat.le_refl _⟩ rfl (Nat.le_of_ble_eq_true rfl) dX11_pour_101) hI (by decide) (fun r_35 σ_36 H locs hpσ_36 hkσ_36 hI => ?_)
                obtain ⟨ahpσ_36, bhpσ_36, chpσ_36, dhpσ_36⟩ := hpσ_36
                rw [ahpσ_36] at hI
                replace hF := q_letX hF dhpσ_36
                refine q_if_ne (A := r_35.toInt) E rfl (tgt := 113) dX11_pour_104 (by decide) (fun c_37 => ?_) (fun c_37 => ?_)
                · skip
                  replace hF := q_ifn hF c_37
                  replace c_37 := q_ifOne bhpσ_36 c_37
                  replace chpσ_36 := q_ifYes chpσ_36 c_37
                  refine lv_aload hx hb dX11_pour_113 (lv_at hl 0 rfl) ?_
                  refine lv_aload hx hb dX11_pour_115 (lv_at hl 1 rfl) ?_
                  refine lv_iload_n hx hb dX11_pour_117 rfl (lv_at hl 4 rfl) ?_
                  refine lv_iload hx hb dX11_pour_118 (lv_at hl 6 rfl) ?_
                  refine lv_iload hx hb dX11_pour_120 (lv_at hl 7 rfl) ?_
                  refine q_cv (q_runV (As := [.ref r_1, .int v2, .int v4, .int v5]) (rest := []) E (hml.trans hl.1.symm) hI (c_X10_copyFrom l X σ r_11 r_1 v2 v4 v5 kq_r_11 kq_r_1) kv_X11_127 kq_r_11 ⟨rfl, by decide⟩ (show vwCl[9]? = some (RX10, TX10, 3) from rfl) rfl ⟨Nat.le_of_ble_eq_true rfl, Nat.le_of_ble_eq_true rfl⟩ ⟨Nat.le_refl _, Nat.le_refl _⟩ rfl (Nat.le_of_ble_eq_true rfl) dX11_pour_122) hI (by decide) (fun σ_39 H locs hpσ_39 hkσ_39 hI => ?_)
                  obtain ⟨ahpσ_39, bhpσ_39⟩ := hpσ_39
                  have fr_σ_39 := fr_σ.call bhpσ_39 rfl rfl
                  replace hF := q_letX hF ahpσ_39
                  refine lv_aload_n hx hb dX11_pour_125 rfl (lv_at hl 2 rfl) ?_
                  refine q_ci (q_runV (As := []) (rest := []) E (hml.trans hl.1.symm) hI (c_X11_yes l X σ_39 a ha) kv_X11_97 ha ⟨rfl, by decide⟩ (show vwCl[10]? = some (RX11, TX11, 17) from rfl) rfl ⟨Nat.le_of_ble_eq_true rfl, Nat.le_of_ble_eq_true rfl⟩ ⟨Nat.le_refl _, Nat.le_refl _⟩ rfl (Nat.le_of_ble_eq_true rfl) dX11_pour_126) hI (by decide) (fun r_40 σ_41 H locs hpσ_41 hkσ_41 hI => ?_)
                  obtain ⟨ahpσ_41, bhpσ_41, chpσ_41, dhpσ_41⟩ := hpσ_41
                  have fr_σ_41 := fr_σ_39.call dhpσ_41 rfl rfl
                  replace hF := q_biX hF chpσ_41
                  exact q_retz E hr hlk hI ⟨by omega, by omega⟩ ⟨⟨by omega, by omega⟩, (by constructor <;> intro h9 <;> omega), (hF.trans hout), fr_σ_41⟩ dX11_pour_129
                · skip
                  replace hF := q_ifp hF c_37
                  replace chpσ_36 := q_ifNo chpσ_36 c_37
                  refine lv_aload_n hx hb dX11_pour_107 rfl (lv_at hl 2 rfl) ?_
                  refine lv_iconst (v := 4) hx hb dX11_pour_108 (by decide) ?_
                  have kc_42 : (4 : Int32).toInt = 4 := rfl
                  refine q_ci (q_runV (As := [.int 4]) (rest := []) E (hml.trans hl.1.symm) hI (c_X11_no l X σ a (4 : Int32) ha) kv_X11_89 ha ⟨rfl, by decide⟩ (show vwCl[10]? = some (RX11, TX11, 17) from rfl) rfl ⟨Nat.le_of_ble_eq_true rfl, Nat.le_of_ble_eq_true rfl⟩ ⟨Nat.le_refl _, Nat.le_refl _⟩ rfl (Nat.le_of_ble_eq_true rfl) dX11_pour_109) hI (by decide) (fun r_43 σ_44 H locs hpσ_44 hkσ_44 hI => ?_)
                  obtain ⟨ahpσ_44, bhpσ_44, chpσ_44, dhpσ_44⟩ := hpσ_44
                  have fr_σ_44 := fr_σ.call dhpσ_44 rfl rfl
                  replace hF := q_biX hF chpσ_44
                  exact q_retz E hr hlk hI ⟨by omega, by omega⟩ ⟨⟨by omega, by omega⟩, (by constructor <;> intro h9 <;> omega), (hF.trans hout), fr_σ_44⟩ dX11_pour_112
            · skip
              replace hF := q_ifp hF c_28
              refine lv_aload_n hx hb dX11_pour_77 rfl (lv_at hl 2 rfl) ?_
              refine lv_bipush (v := 6) hx hb dX11_pour_78 (by decide) ?_
              have kc_45 : (6 : Int32).toInt = 6 := rfl
              refine q_ci (q_runV (As := [.int 6]) (rest := []) E (hml.trans hl.1.symm) hI (c_X11_no l X σ a (6 : Int32) ha) kv_X11_89 ha ⟨rfl, by decide⟩ (show vwCl[10]? = some (RX11, TX11, 17) from rfl) rfl ⟨Nat.le_of_ble_eq_true rfl, Nat.le_of_ble_eq_true rfl⟩ ⟨Nat.le_refl _, Nat.le_refl _⟩ rfl (Nat.le_of_ble_eq_true rfl) dX11_pour_80) hI (by decide) (fun r_46 σ_47 H locs hpσ_47 hkσ_47 hI => ?_)
              obtain ⟨ahpσ_47, bhpσ_47, chpσ_47, dhpσ_47⟩ := hpσ_47
              have fr_σ_47 := fr_σ.call dhpσ_47 rfl rfl
              replace hF := q_biX hF chpσ_47
              exact q_retz E hr hlk hI ⟨by omega, by omega⟩ ⟨⟨by omega, by omega⟩, (by constructor <;> intro h9 <;> omega), (hF.trans hout), fr_σ_47⟩ dX11_pour_83
          · skip
            replace hF := q_ifn hF c_27
            refine lv_aload_n hx hb dX11_pour_65 rfl (lv_at hl 2 rfl) ?_
            refine lv_bipush (v := 11) hx hb dX11_pour_66 (by decide) ?_
            have kc_48 : (11 : Int32).toInt = 11 := rfl
            refine q_ci (q_runV (As := [.int 11]) (rest := []) E (hml.trans hl.1.symm) hI (c_X11_no l X σ a (11 : Int32) ha) kv_X11_89 ha ⟨rfl, by decide⟩ (show vwCl[10]? = some (RX11, TX11, 17) from rfl) rfl ⟨Nat.le_of_ble_eq_true rfl, Nat.le_of_ble_eq_true rfl⟩ ⟨Nat.le_refl _, Nat.le_refl _⟩ rfl (Nat.le_of_ble_eq_true rfl) dX11_pour_68) hI (by decide) (fun r_49 σ_50 H locs hpσ_50 hkσ_50 hI => ?_)
            obtain ⟨ahpσ_50, bhpσ_50, chpσ_50, dhpσ_50⟩ := hpσ_50
            have fr_σ_50 := fr_σ.call dhpσ_50 rfl rfl
            replace hF := q_biX hF chpσ_50
            exact q_retz E hr hlk hI ⟨by omega, by omega⟩ ⟨⟨by omega, by omega⟩, (by constructor <;> intro h9 <;> omega), (hF.trans hout), fr_σ_50⟩ dX11_pour_71
        · skip
          replace hF := q_ifn hF c_24
          replace c_24 := q_ifOne bhpσ_23 c_24
          replace chpσ_23 := q_ifYes chpσ_23 c_24
          refine lv_aload_n hx hb dX11_pour_46 rfl (lv_at hl 2 rfl) ?_
          refine lv_iconst (v := 3) hx hb dX11_pour_47 (by decide) ?_
          have kc_51 : (3 : Int32).toInt = 3 := rfl
          refine q_ci (q_runV (As := [.int 3]) (rest := []) E (hml.trans hl.1.symm) hI (c_X11_no l X σ a (3 : Int32) ha) kv_X11_89 ha ⟨rfl, by decide⟩ (show vwCl[10]? = some (RX11, TX11, 17) from rfl) rfl ⟨Nat.le_of_ble_eq_true rfl, Nat.le_of_ble_eq_true rfl⟩ ⟨Nat.le_refl _, Nat.le_refl _⟩ rfl (Nat.le_of_ble_eq_true rfl) dX11_pour_48) hI (by decide) (fun r_52 σ_53 H locs hpσ_53 hkσ_53 hI => ?_)
          obtain ⟨ahpσ_53, bhpσ_53, chpσ_53, dhpσ_53⟩ := hpσ_53
          have fr_σ_53 := fr_σ.call dhpσ_53 rfl rfl
          replace hF := q_biX hF chpσ_53
          exact q_retz E hr hlk hI ⟨by omega, by omega⟩ ⟨⟨by omega, by omega⟩, (by constructor <;> intro h9 <;> omega), (hF.trans hout), fr_σ_53⟩ dX11_pour_51

set_option maxRecDepth 100000 in
set_option maxHeartbeats 4000000 in
theorem c_X11_tapeInt (l : Launch) (X : XW) (σ : ST) (a : Nat) (v1 : Int32) (ha : q_kd X a = 11) (h0 : (σ.1 a 5).toInt ≤ 896) : Met l yX11_tapeInt (q_ws yX11_tapeInt cX11_tapeInt 3 none) (q_rm 0 0) (q_P X σ [.ref a, .int v1]) (q_Qv X 0 σ (fun (σ' : ST) => (q_KS (fun b g => b = a ∧ g = 5) 8 X σ σ') ∧ ((σ'.1 a 5).toInt = (σ.1 a 5).toInt + 4) ∧ σ' = F_X11_tapeInt X σ a v1 ∧ q_ow [(11, 5), (22, 99)] [] X σ σ')) 0 0 (q_reg X) := by
  refine q_met 0 (by first | exact rfl | decide +kernel) rfl (Nat.le_of_ble_eq_true rfl) (fun p e s m below meth c E hml hr hlk hI ls hl => ?_)
  have hx := E.1
  have hb := E.2.1
  have hl : lv_has ls 3 [(0, .ref a), (1, .int v1)] := hl
  have ks_σ : q_KS (fun b g => b = a ∧ g = 5) 8 X σ σ := q_KS.rf
  have fr_σ : q_ow [(11, 5), (22, 99)] [] X σ σ := q_ow.rf
  obtain ⟨out, hout⟩ : ∃ o, o = F_X11_tapeInt X σ a v1 := ⟨_, rfl⟩
  have hF := hout.symm
  unfold F_X11_tapeInt at hF
  refine lv_bipush (v := 24) hx hb dX11_tapeInt_0 (by decide) ?_
  refine lv_istore_n (lv' := [(2, .int 24), (0, .ref a), (1, .int v1)]) hx hb dX11_tapeInt_2 rfl hl (by decide) rfl (fun ls hl => ?_)
  have L_3_3 : ∀ (k_3 : Nat) (x_1 : Int32) (σ_2 : ST) (H : Heap) (locs : List Loc) (ls : Array Slot), (x_1.toInt + 2147483656).toNat < k_3 → (8 * ((σ_2.1 a 5).toInt - (σ.1 a 5).toInt) = 24 - x_1.toInt) → (-8 ≤ x_1.toInt) → (q_KS (fun b g => b = a ∧ g = 5) 8 X σ σ_2) → (q_ow [(11, 5), (22, 99)] [] X σ σ_2) → (F_X11_tapeInt_L3_1 X a v1 k_3 x_1 σ_2 = out) → q_I X 0 σ s.heap locs σ_2 H → lv_has ls 3 [(0, .ref a), (1, .int v1), (2, .int x_1)] → W p l e (q_rm 0 0) s m ([.ref a, .int v1] : List Value).toArray below meth c H locs 0 0 (MQ below (q_Qv X 0 σ (fun (σ' : ST) => (q_KS (fun b g => b = a ∧ g = 5) 8 X σ σ') ∧ ((σ'.1 a 5).toInt = (σ.1 a 5).toInt + 4) ∧ σ' = F_X11_tapeInt X σ a v1 ∧ q_ow [(11, 5), (22, 99)] [] X σ σ')) ([.ref a, .int v1] : List Value).toArray s 0 0 (q_reg X)) (F0 m 3 ls []) := by
    clear hF
    intro k_3
    induction k_3 with
    | zero =>
      intro x_1 σ_2 H locs ls hms
      exact absurd hms (Nat.not_lt_zero _)
    | succ k_3 ih3 =>
      intro x_1 σ_2 H locs ls hm3 hsh hs8 ks_σ_2 fr_σ_2 hF hI hl
      replace hF := (F_X11_tapeInt_L3_1_s).symm.trans hF
      unfold F_X11_tapeInt_B3_1 at hF
      refine lv_iload_n hx hb dX11_tapeInt_3 rfl (lv_at hl 2 rfl) ?_
      refine q_if_lt (A := x_1.toInt) E rfl (tgt := 53) dX11_tapeInt_4 (by decide) (fun c_4 => ?_) (fun c_4 => ?_)
      · skip
        replace hF := q_ifp hF c_4
        skip
        exact q_retv E hr hlk hI ⟨ks_σ_2, (by first | (clear h0 hm3; omega) | omega), (hF.trans hout), fr_σ_2⟩ dX11_tapeInt_53
      · skip
        replace hF := q_ifn hF (Int.not_lt.mpr c_4)
        refine lv_aload_n hx hb dX11_tapeInt_7 rfl (lv_at hl 0 rfl) ?_
        refine gs_X11_30_11 E hI ha dX11_tapeInt_8 ?_
        refine lv_topi (fun f_5 ef_5 => ?_)
        replace hF := q_letX hF ef_5
        have if_5 : f_5.toInt = (σ_2.1 a 5).toInt := congrArg Int32.toInt ef_5
        have bf_5 : 0 ≤ f_5.toInt ∧ f_5.toInt ≤ 900 := by rw [ef_5]; exact q_bd hI ha rfl
        refine q_if_lt (A := f_5.toInt) E rfl (tgt := 53) dX11_tapeInt_11 (by decide) (fun c_6 => ?_) (fun c_6 => ?_)
        · skip
          replace hF := q_ifp hF c_6
          exact absurd c_6 (by first | (clear h0 hm3 hsh hs8 c_4 if_5; omega) | omega)
        · skip
          replace hF := q_ifn hF (Int.not_lt.mpr c_6)
          refine lv_aload_n hx hb dX11_tapeInt_14 rfl (lv_at hl 0 rfl) ?_
          refine gs_X11_30_11 E hI ha dX11_tapeInt_15 ?_
          refine lv_topi (fun f_7 ef_7 => ?_)
          replace hF := q_letX hF ef_7
          have if_7 : f_7.toInt = (σ_2.1 a 5).toInt := congrArg Int32.toInt ef_7
          have bf_7 : 0 ≤ f_7.toInt ∧ f_7.toInt ≤ 900 := by rw [ef_7]; exact q_bd hI ha rfl
          refine lv_sipush (v := 900) hx hb dX11_tapeInt_18 (by decide) ?_
          have gc_8_f_7 := q_rng f_7
          refine q_icmp_ge (A := f_7.toInt) (B := 900) E rfl (by decide) (tgt := 53) dX11_tapeInt_21 (by decide) (fun c_8 => ?_) (fun c_8 => ?_)
          · skip
            replace hF := q_ifn hF (Int.not_lt.mpr c_8)
            exact absurd c_8 (by first | (clear h0 hm3 hs8 c_6 bf_7 gc_8_f_7; omega) | omega)
          · skip
            replace hF := q_ifp hF c_8
            refine lv_aload_n hx hb dX11_tapeInt_24 rfl (lv_at hl 0 rfl) ?_
            refine gs_X11_26_11 E hI ha dX11_tapeInt_25 ?_
            refine lv_aload_n hx hb dX11_tapeInt_28 rfl (lv_at hl 0 rfl) ?_
            refine gs_X11_30_11 E hI ha dX11_tapeInt_29 ?_
            refine lv_topi (fun f_9 ef_9 => ?_)
            replace hF := q_letX hF ef_9
            have if_9 : f_9.toInt = (σ_2.1 a 5).toInt := congrArg Int32.toInt ef_9
            have bf_9 : 0 ≤ f_9.toInt ∧ f_9.toInt ≤ 900 := by rw [ef_9]; exact q_bd hI ha rfl
            refine lv_iload_n hx hb dX11_tapeInt_32 rfl (lv_at hl 1 rfl) ?_
            refine lv_iload_n hx hb dX11_tapeInt_33 rfl (lv_at hl 2 rfl) ?_
            refine lv_ishr hx hb dX11_tapeInt_34 ?_
            refine lv_topi (fun z_10 ez_10 => ?_)
            replace hF := q_letX hF ez_10
            refine lv_i2b hx hb dX11_tapeInt_35 rfl ?_
            refine lv_topi (fun z_11 ez_11 => ?_)
            replace hF := q_letX hF ez_11
            refine q_bastN E hI (q_tk (k' := 22) hI ha rfl (by decide)) ⟨by decide, rfl⟩ (by first | (clear h0 hm3 hsh hs8 c_4 c_6 bf_7 gc_8_f_7 bf_9; omega) | omega) (by rw [q_ln11 hI ha]; omega) (show 0 < 9 by decide) rfl dX11_tapeInt_36 (fun H locs σ_12 hσ_12 hI => ?_)
            replace hF := q_letX hF hσ_12
            have fr_σ_12 := fr_σ_2.si hσ_12 (q_tk (k' := 22) hI ha rfl (by decide)) rfl
            have mv5_σ_12 : (σ_12.1 a 5).toInt = (σ_2.1 a 5).toInt := congrArg Int32.toInt ((hσ_12 ▸ (q_K.si (q_tk (k' := 22) hI ha rfl (by decide)) (show 8 < 9 by decide) : q_K 8 X σ_2 (q_si σ_2 (q_rf X a 4) (f_9 : Int32).toNatClampNeg _))) a 5 (by rw [ha]; decide))
            have ks_σ_12 : q_KS (fun b g => b = a ∧ g = 5) 8 X σ σ_12 := ks_σ_2.si hσ_12 (q_tk (k' := 22) hI ha rfl (by decide)) (show 8 < 9 by decide)
            refine lv_aload_n hx hb dX11_tapeInt_37 rfl (lv_at hl 0 rfl) ?_
            refine lv_dup hx hb dX11_tapeInt_38 rfl ?_
            refine gs_X11_30_11 E hI ha dX11_tapeInt_39 ?_
            refine lv_topi (fun f_13 ef_13 => ?_)
            replace hF := q_letX hF ef_13
            have if_13 : f_13.toInt = (σ_12.1 a 5).toInt := congrArg Int32.toInt ef_13
            have bf_13 : 0 ≤ f_13.toInt ∧ f_13.toInt ≤ 900 := by rw [ef_13]; exact q_bd hI ha rfl
            refine lv_iconst (v := 1) hx hb dX11_tapeInt_42 (by decide) ?_
            refine lv_iadd hx hb dX11_tapeInt_43 ?_
            refine lv_topi (fun z_14 ez_14 => ?_)
            replace hF := q_letX hF ez_14
            have iz_14 : z_14.toInt = f_13.toInt + 1 := q_inc ez_14 (by first | (clear h0 hm3 hsh hs8 c_4 c_6 bf_7 gc_8_f_7 bf_9 bf_13; omega) | omega)
            refine ps_X11_30_11 E hI ha (by decide) (by first | (clear h0 hm3 hsh hs8 c_4 c_6 bf_7 gc_8_f_7 bf_9 bf_13; omega) | omega) (by first | (clear h0 hm3 hsh hs8 c_4 c_6 bf_7 gc_8_f_7 bf_9 bf_13; omega) | omega) dX11_tapeInt_44 (fun H locs σ_15 hσ_15 hI => ?_)
            replace hF := q_letX hF hσ_15
            have fr_σ_15 := fr_σ_12.si hσ_15 ha rfl
            have ks_σ_15 : q_KS (fun b g => b = a ∧ g = 5) 8 X σ σ_15 := ks_σ_12.siS hσ_15 ⟨rfl, rfl⟩
            have mv5_σ_15 : (σ_15.1 a 5).toInt = z_14.toInt := congrArg Int32.toInt (q_rd hσ_15)
            obtain ⟨z_16, ez_16⟩ : ∃ y : Int32, y = x_1 + (-8) := ⟨_, rfl⟩
            replace hF := q_letX hF ez_16
            refine lv_iinc (v := z_16) (lv' := [(2, .int z_16), (0, .ref a), (1, .int v1)]) hx hb dX11_tapeInt_47 hl (k := 2) rfl (by rw [ez_16]; rfl) (by decide) rfl (fun ls hl => ?_)
            have iz_16 : z_16.toInt = x_1.toInt - 8 := by have h8 : ((-8) : Int32).toInt = -8 := rfl; have h9 := q_add ez_16 (by rw [h8]; omega) (by rw [h8]; omega); rw [h9, h8]; omega
            refine lv_goto (tgt := 3) hx hb dX11_tapeInt_50 (by decide) ?_
            exact ih3 z_16 σ_15 _ _ ls (by first | (clear h0 hs8 bf_5 c_6 bf_7 gc_8_f_7 c_8 bf_9 bf_13; omega) | omega) (by first | (clear h0 hm3 hs8 c_4 bf_5 c_6 bf_7 gc_8_f_7 c_8 bf_9 bf_13; omega) | omega) (by first | (clear h0 hm3 hs8 bf_5 c_6 bf_7 gc_8_f_7 c_8 bf_9 bf_13; omega) | omega) ks_σ_15 fr_σ_15 hF hI (lv_sub hl [1, 2, 0] rfl)
  exact L_3_3 (((24 : Int32).toInt + 2147483656).toNat + 1) 24 σ _ _ ls (Nat.lt_succ_self _) (by have h24 : (24 : Int32).toInt = 24 := rfl; omega) (by decide) ks_σ fr_σ hF hI (lv_sub hl [1, 2, 0] rfl)

set_option maxRecDepth 100000 in
set_option maxHeartbeats 4000000 in
theorem c_X11_feed (l : Launch) (X : XW) (σ : ST) (a : Nat) (v1 : Int32) (v2 : Int32) (v3 : Int32) (v4 : Int32) (v5 : Int32) (ha : q_kd X a = 11) : Met l yX11_feed (q_ws yX11_feed cX11_feed 6 (some .int)) (q_rm 1 22) (q_P X σ [.ref a, .int v1, .int v2, .int v3, .int v4, .int v5]) (q_Qi X 0 σ (fun (r : Int32) (σ' : ST) => (q_KS (fun b g => b = a ∧ g = 5) 8 X σ σ') ∧ ((σ.1 a 5).toInt + 20 > 900 → r.toInt = -1 ∧ (σ'.1 a 5).toInt = (σ.1 a 5).toInt) ∧ ((σ.1 a 5).toInt + 20 ≤ 900 → r.toInt = (σ.1 a 5).toInt + 20 ∧ (σ'.1 a 5).toInt = (σ.1 a 5).toInt + 20) ∧ (r, σ') = F_X11_feed X σ a v1 v2 v3 v4 v5 ∧ q_ow [(11, 5), (22, 99)] [] X σ σ')) 0 0 (q_reg X) := by
  refine q_met 0 (by first | exact rfl | decide +kernel) rfl (Nat.le_of_ble_eq_true rfl) (fun p e s m below meth c E hml hr hlk hI ls hl => ?_)
  have hx := E.1
  have hb := E.2.1
  have hl : lv_has ls 6 [(0, .ref a), (1, .int v1), (2, .int v2), (3, .int v3), (4, .int v4), (5, .int v5)] := hl
  have ks_σ : q_KS (fun b g => b = a ∧ g = 5) 8 X σ σ := q_KS.rf
  have fr_σ : q_ow [(11, 5), (22, 99)] [] X σ σ := q_ow.rf
  obtain ⟨out, hout⟩ : ∃ o, o = F_X11_feed X σ a v1 v2 v3 v4 v5 := ⟨_, rfl⟩
  have hF := hout.symm
  unfold F_X11_feed at hF
  refine lv_aload_n hx hb dX11_feed_0 rfl (lv_at hl 0 rfl) ?_
  refine gs_X11_30_11 E hI ha dX11_feed_1 ?_
  refine lv_topi (fun f_1 ef_1 => ?_)
  replace hF := q_letX hF ef_1
  have if_1 : f_1.toInt = (σ.1 a 5).toInt := congrArg Int32.toInt ef_1
  have bf_1 : 0 ≤ f_1.toInt ∧ f_1.toInt ≤ 900 := by rw [ef_1]; exact q_bd hI ha rfl
  refine lv_bipush (v := 20) hx hb dX11_feed_4 (by decide) ?_
  refine lv_iadd hx hb dX11_feed_6 ?_
  refine lv_topi (fun z_2 ez_2 => ?_)
  replace hF := q_letX hF ez_2
  have kc_3 : (20 : Int32).toInt = 20 := rfl
  have iz_2 := q_add ez_2 (by omega) (by omega)
  refine lv_sipush (v := 900) hx hb dX11_feed_7 (by decide) ?_
  refine q_icmp_le (A := z_2.toInt) (B := 900) E rfl (by decide) (tgt := 15) dX11_feed_10 (by decide) (fun c_4 => ?_) (fun c_4 => ?_)
  · skip
    replace hF := q_ifn hF (Int.not_lt.mpr c_4)
    refine lv_aload_n hx hb dX11_feed_15 rfl (lv_at hl 0 rfl) ?_
    refine lv_iload_n hx hb dX11_feed_16 rfl (lv_at hl 1 rfl) ?_
    refine q_cv (q_runV (As := [.int v1]) (rest := []) E (hml.trans hl.1.symm) hI (c_X11_tapeInt l X σ a v1 ha (by omega)) kv_X11_131 ha ⟨rfl, by decide⟩ (show vwCl[10]? = some (RX11, TX11, 17) from rfl) rfl ⟨Nat.le_of_ble_eq_true rfl, Nat.le_of_ble_eq_true rfl⟩ ⟨Nat.le_refl _, Nat.le_refl _⟩ rfl (Nat.le_of_ble_eq_true rfl) dX11_feed_17) hI (by decide) (fun σ_6 H locs hpσ_6 hkσ_6 hI => ?_)
    obtain ⟨ahpσ_6, bhpσ_6, chpσ_6, dhpσ_6⟩ := hpσ_6
    have fr_σ_6 := fr_σ.call dhpσ_6 rfl rfl
    replace hF := q_letX hF chpσ_6
    have ks_σ_6 : q_KS (fun b g => b = a ∧ g = 5) 8 X σ σ_6 := ks_σ.KS ahpσ_6 (by decide) (fun _ _ h => h)
    refine lv_aload_n hx hb dX11_feed_20 rfl (lv_at hl 0 rfl) ?_
    refine lv_iload_n hx hb dX11_feed_21 rfl (lv_at hl 2 rfl) ?_
    refine q_cv (q_runV (As := [.int v2]) (rest := []) E (hml.trans hl.1.symm) hI (c_X11_tapeInt l X σ_6 a v2 ha (by first | (clear ahpσ_6 chpσ_6 dhpσ_6; omega) | omega)) kv_X11_131 ha ⟨rfl, by decide⟩ (show vwCl[10]? = some (RX11, TX11, 17) from rfl) rfl ⟨Nat.le_of_ble_eq_true rfl, Nat.le_of_ble_eq_true rfl⟩ ⟨Nat.le_refl _, Nat.le_refl _⟩ rfl (Nat.le_of_ble_eq_true rfl) dX11_feed_22) hI (by decide) (fun σ_8 H locs hpσ_8 hkσ_8 hI => ?_)
    obtain ⟨ahpσ_8, bhpσ_8, chpσ_8, dhpσ_8⟩ := hpσ_8
    have fr_σ_8 := fr_σ_6.call dhpσ_8 rfl rfl
    replace hF := q_letX hF chpσ_8
    have ks_σ_8 : q_KS (fun b g => b = a ∧ g = 5) 8 X σ σ_8 := ks_σ_6.KS ahpσ_8 (by decide) (fun _ _ h => h)
    refine lv_aload_n hx hb dX11_feed_25 rfl (lv_at hl 0 rfl) ?_
    refine lv_iload_n hx hb dX11_feed_26 rfl (lv_at hl 3 rfl) ?_
    refine q_cv (q_runV (As := [.int v3]) (rest := []) E (hml.trans hl.1.symm) hI (c_X11_tapeInt l X σ_8 a v3 ha (by first | (clear ahpσ_6 chpσ_6 dhpσ_6 ahpσ_8 chpσ_8 dhpσ_8; omega) | omega)) kv_X11_131 ha ⟨rfl, by decide⟩ (show vwCl[10]? = some (RX11, TX11, 17) from rfl) rfl ⟨Nat.le_of_ble_eq_true rfl, Nat.le_of_ble_eq_true rfl⟩ ⟨Nat.le_refl _, Nat.le_refl _⟩ rfl (Nat.le_of_ble_eq_true rfl) dX11_feed_27) hI (by decide) (fun σ_10 H locs hpσ_10 hkσ_10 hI => ?_)
    obtain ⟨ahpσ_10, bhpσ_10, chpσ_10, dhpσ_10⟩ := hpσ_10
    have fr_σ_10 := fr_σ_8.call dhpσ_10 rfl rfl
    replace hF := q_letX hF chpσ_10
    have ks_σ_10 : q_KS (fun b g => b = a ∧ g = 5) 8 X σ σ_10 := ks_σ_8.KS ahpσ_10 (by decide) (fun _ _ h => h)
    refine lv_aload_n hx hb dX11_feed_30 rfl (lv_at hl 0 rfl) ?_
    refine lv_iload hx hb dX11_feed_31 (lv_at hl 4 rfl) ?_
    refine q_cv (q_runV (As := [.int v4]) (rest := []) E (hml.trans hl.1.symm) hI (c_X11_tapeInt l X σ_10 a v4 ha (by first | (clear ahpσ_6 chpσ_6 dhpσ_6 ahpσ_8 chpσ_8 dhpσ_8 ahpσ_10 chpσ_10 dhpσ_10; omega) | omega)) kv_X11_131 ha ⟨rfl, by decide⟩ (show vwCl[10]? = some (RX11, TX11, 17) from rfl) rfl ⟨Nat.le_of_ble_eq_true rfl, Nat.le_of_ble_eq_true rfl⟩ ⟨Nat.le_refl _, Nat.le_refl _⟩ rfl (Nat.le_of_ble_eq_true rfl) dX11_feed_33) hI (by decide) (fun σ_12 H locs hpσ_12 hkσ_12 hI => ?_)
    obtain ⟨ahpσ_12, bhpσ_12, chpσ_12, dhpσ_12⟩ := hpσ_12
    have fr_σ_12 := fr_σ_10.call dhpσ_12 rfl rfl
    replace hF := q_letX hF chpσ_12
    have ks_σ_12 : q_KS (fun b g => b = a ∧ g = 5) 8 X σ σ_12 := ks_σ_10.KS ahpσ_12 (by decide) (fun _ _ h => h)
    refine lv_aload_n hx hb dX11_feed_36 rfl (lv_at hl 0 rfl) ?_
    refine lv_iload hx hb dX11_feed_37 (lv_at hl 5 rfl) ?_
    refine q_cv (q_runV (As := [.int v5]) (rest := []) E (hml.trans hl.1.symm) hI (c_X11_tapeInt l X σ_12 a v5 ha (by first | (clear ahpσ_6 chpσ_6 dhpσ_6 ahpσ_8 chpσ_8 dhpσ_8 ahpσ_10 chpσ_10 dhpσ_10 ahpσ_12 chpσ_12 dhpσ_12; omega) | omega)) kv_X11_131 ha ⟨rfl, by decide⟩ (show vwCl[10]? = some (RX11, TX11, 17) from rfl) rfl ⟨Nat.le_of_ble_eq_true rfl, Nat.le_of_ble_eq_true rfl⟩ ⟨Nat.le_refl _, Nat.le_refl _⟩ rfl (Nat.le_of_ble_eq_true rfl) dX11_feed_39) hI (by decide) (fun σ_14 H locs hpσ_14 hkσ_14 hI => ?_)
    obtain ⟨ahpσ_14, bhpσ_14, chpσ_14, dhpσ_14⟩ := hpσ_14
    have fr_σ_14 := fr_σ_12.call dhpσ_14 rfl rfl
    replace hF := q_letX hF chpσ_14
    have ks_σ_14 : q_KS (fun b g => b = a ∧ g = 5) 8 X σ σ_14 := ks_σ_12.KS ahpσ_14 (by decide) (fun _ _ h => h)
    refine lv_aload_n hx hb dX11_feed_42 rfl (lv_at hl 0 rfl) ?_
    refine gs_X11_30_11 E hI ha dX11_feed_43 ?_
    refine lv_topi (fun f_15 ef_15 => ?_)
    replace hF := q_letX hF ef_15
    have if_15 : f_15.toInt = (σ_14.1 a 5).toInt := congrArg Int32.toInt ef_15
    have bf_15 : 0 ≤ f_15.toInt ∧ f_15.toInt ≤ 900 := by rw [ef_15]; exact q_bd hI ha rfl
    exact q_reti E hr hlk hI ⟨ks_σ_14, (by first | (clear ahpσ_6 chpσ_6 dhpσ_6 ahpσ_8 chpσ_8 dhpσ_8 ahpσ_10 chpσ_10 dhpσ_10 ahpσ_12 chpσ_12 dhpσ_12 ahpσ_14 chpσ_14 dhpσ_14 bf_15; omega) | omega), (by first | (clear bf_1 c_4 ahpσ_6 chpσ_6 dhpσ_6 ahpσ_8 chpσ_8 dhpσ_8 ahpσ_10 chpσ_10 dhpσ_10 ahpσ_12 chpσ_12 dhpσ_12 ahpσ_14 chpσ_14 dhpσ_14 bf_15; omega) | omega), (hF.trans hout), fr_σ_14⟩ dX11_feed_46
  · skip
    replace hF := q_ifp hF c_4
    refine lv_iconst (v := (-1)) hx hb dX11_feed_13 (by decide) ?_
    have hrv : ((-1) : Int32).toInt = (-1) := rfl
    exact q_reti E hr hlk hI ⟨ks_σ, (by first | (clear if_1 bf_1 kc_3 iz_2 c_4; omega) | omega), (by first | (clear hrv; omega) | omega), (hF.trans hout), fr_σ⟩ dX11_feed_14

set_option maxRecDepth 100000 in
set_option maxHeartbeats 4000000 in
theorem c_X11_endReading (l : Launch) (X : XW) (σ : ST) (a : Nat) (r1 : Nat) (ha : q_kd X a = 11) (hr1 : q_kd X r1 = 4 ∨ q_kd X r1 = 9) : Met l yX11_endReading (q_ws yX11_endReading cX11_endReading 2 none) (q_rm 0 0) (q_P X σ [.ref a, .ref r1]) (q_Qv X 0 σ (fun (σ' : ST) => (q_KS (fun b g => b = a ∧ g = 5) 8 X σ σ') ∧ ((σ'.1 a 5).toInt = 0) ∧ σ' = F_X11_endReading X σ a r1 ∧ q_ow [(11, 5), (11, 6), (11, 7)] [] X σ σ')) 0 0 (q_reg X) := by
  refine q_met 0 (by first | exact rfl | decide +kernel) rfl (Nat.le_of_ble_eq_true rfl) (fun p e s m below meth c E hml hr hlk hI ls hl => ?_)
  have hx := E.1
  have hb := E.2.1
  have hl : lv_has ls 2 [(0, .ref a), (1, .ref r1)] := hl
  have ks_σ : q_KS (fun b g => b = a ∧ g = 5) 8 X σ σ := q_KS.rf
  have fr_σ : q_ow [(11, 5), (11, 6), (11, 7)] [] X σ σ := q_ow.rf
  obtain ⟨out, hout⟩ : ∃ o, o = F_X11_endReading X σ a r1 := ⟨_, rfl⟩
  have hF := hout.symm
  unfold F_X11_endReading at hF
  refine lv_aload_n hx hb dX11_endReading_0 rfl (lv_at hl 0 rfl) ?_
  refine lv_iconst (v := 0) hx hb dX11_endReading_1 (by decide) ?_
  refine ps_X11_30_11 E hI ha (by decide) (by decide) (by decide) dX11_endReading_2 (fun H locs σ_1 hσ_1 hI => ?_)
  replace hF := q_letX hF hσ_1
  have fr_σ_1 := fr_σ.si hσ_1 ha rfl
  have ks_σ_1 : q_KS (fun b g => b = a ∧ g = 5) 8 X σ σ_1 := ks_σ.siS hσ_1 ⟨rfl, rfl⟩
  have mv5_σ_1 : (σ_1.1 a 5).toInt = (0 : Int32).toInt := congrArg Int32.toInt (q_rd hσ_1)
  refine lv_aload_n hx hb dX11_endReading_5 rfl (lv_at hl 0 rfl) ?_
  refine lv_aload_n hx hb dX11_endReading_6 rfl (lv_at hl 1 rfl) ?_
  refine gsr_X11_175 E hI hr1 dX11_endReading_7 ?_
  refine lv_topi (fun f_2 ef_2 => ?_)
  replace hF := q_letX hF ef_2
  refine ps_X11_33_11 E hI ha (by decide) dX11_endReading_10 (fun H locs σ_3 hσ_3 hI => ?_)
  replace hF := q_letX hF hσ_3
  have fr_σ_3 := fr_σ_1.si hσ_3 ha rfl
  have ks_σ_3 : q_KS (fun b g => b = a ∧ g = 5) 8 X σ σ_3 := ks_σ_1.si hσ_3 ha (show 8 < 9 by decide)
  have mv5_σ_3 : (σ_3.1 a 5).toInt = (σ_1.1 a 5).toInt := congrArg Int32.toInt (q_rdn hσ_3 (Or.inr (by decide)))
  refine lv_aload_n hx hb dX11_endReading_13 rfl (lv_at hl 0 rfl) ?_
  refine lv_aload_n hx hb dX11_endReading_14 rfl (lv_at hl 1 rfl) ?_
  refine gsr_X11_180 E hI hr1 dX11_endReading_15 ?_
  refine lv_topi (fun f_4 ef_4 => ?_)
  replace hF := q_letX hF ef_4
  refine ps_X11_36_11 E hI ha (by decide) dX11_endReading_18 (fun H locs σ_5 hσ_5 hI => ?_)
  replace hF := q_letX hF hσ_5
  have fr_σ_5 := fr_σ_3.si hσ_5 ha rfl
  have ks_σ_5 : q_KS (fun b g => b = a ∧ g = 5) 8 X σ σ_5 := ks_σ_3.si hσ_5 ha (show 8 < 9 by decide)
  have mv5_σ_5 : (σ_5.1 a 5).toInt = (σ_3.1 a 5).toInt := congrArg Int32.toInt (q_rdn hσ_5 (Or.inr (by decide)))
  exact q_retv E hr hlk hI ⟨ks_σ_5, (by have h0 : (0 : Int32).toInt = 0 := rfl; omega), (hF.trans hout), fr_σ_5⟩ dX11_endReading_21

set_option maxRecDepth 100000 in
set_option maxHeartbeats 4000000 in
theorem c_X11_good (l : Launch) (X : XW) (σ : ST) (a : Nat) (v1 : Int32) (ha : q_kd X a = 11) : Met l yX11_good (q_ws yX11_good cX11_good 2 (some .int)) (q_rm 0 0) (q_P X σ [.ref a, .int v1]) (q_Qi X 8 σ (fun (r : Int32) (σ' : ST) => (r.toInt = v1.toInt) ∧ (r, σ') = F_X11_good X σ a v1 ∧ q_ow [(11, 0)] [] X σ σ')) 0 0 (q_reg X) := by
  refine q_met 8 (by first | exact rfl | decide +kernel) rfl (Nat.le_of_ble_eq_true rfl) (fun p e s m below meth c E hml hr hlk hI ls hl => ?_)
  have hx := E.1
  have hb := E.2.1
  have hl : lv_has ls 2 [(0, .ref a), (1, .int v1)] := hl
  have fr_σ : q_ow [(11, 0)] [] X σ σ := q_ow.rf
  obtain ⟨out, hout⟩ : ∃ o, o = F_X11_good X σ a v1 := ⟨_, rfl⟩
  have hF := hout.symm
  unfold F_X11_good at hF
  refine lv_aload_n hx hb dX11_good_0 rfl (lv_at hl 0 rfl) ?_
  refine lv_iconst (v := 0) hx hb dX11_good_1 (by decide) ?_
  refine ps_X11_9_11 E hI ha (by decide) dX11_good_2 (fun H locs σ_1 hσ_1 hI => ?_)
  replace hF := q_letX hF hσ_1
  have fr_σ_1 := fr_σ.si hσ_1 ha rfl
  refine lv_iload_n hx hb dX11_good_5 rfl (lv_at hl 1 rfl) ?_
  exact q_reti E hr hlk hI ⟨rfl, (hF.trans hout), fr_σ_1⟩ dX11_good_6

set_option maxRecDepth 100000 in
set_option maxHeartbeats 4000000 in
theorem c_X11_table (l : Launch) (X : XW) (σ : ST) (a : Nat) (v1 : Int32) (ha : q_kd X a = 11) : Met l yX11_table (q_ws yX11_table cX11_table 3 (some .int)) (q_rm 10 217) (q_P X σ [.ref a, .int v1]) (q_Qi X 0 σ (fun (r : Int32) (σ' : ST) => (q_KS (fun b g => b = a ∧ g = 5) 8 X σ σ') ∧ ((v1.toInt < 0 ∨ (σ.1 a 5).toInt < v1.toInt) → (σ'.1 a 5).toInt = (σ.1 a 5).toInt) ∧ ((0 ≤ v1.toInt ∧ v1.toInt ≤ (σ.1 a 5).toInt) → (σ'.1 a 5).toInt = 0) ∧ (r, σ') = F_X11_table X σ a v1 ∧ q_ow [(1, 4), (1, 5), (1, 6), (1, 7), (3, 0), (3, 1), (4, 1), (4, 2), (4, 3), (4, 4), (4, 5), (4, 6), (4, 7), (6, 0), (6, 1), (6, 2), (6, 3), (6, 4), (8, 0), (8, 1), (8, 2), (9, 1), (9, 2), (9, 3), (9, 4), (9, 5), (9, 6), (9, 7), (9, 9), (9, 10), (11, 0), (11, 5), (11, 6), (11, 7), (20, 99)] [] X σ σ')) 0 0 (q_reg X) := by
  refine q_met 0 (by first | exact rfl | decide +kernel) rfl (Nat.le_of_ble_eq_true rfl) (fun p e s m below meth c E hml hr hlk hI ls hl => ?_)
  have hx := E.1
  have hb := E.2.1
  have hl : lv_has ls 3 [(0, .ref a), (1, .int v1)] := hl
  have ks_σ : q_KS (fun b g => b = a ∧ g = 5) 8 X σ σ := q_KS.rf
  have fr_σ : q_ow [(1, 4), (1, 5), (1, 6), (1, 7), (3, 0), (3, 1), (4, 1), (4, 2), (4, 3), (4, 4), (4, 5), (4, 6), (4, 7), (6, 0), (6, 1), (6, 2), (6, 3), (6, 4), (8, 0), (8, 1), (8, 2), (9, 1), (9, 2), (9, 3), (9, 4), (9, 5), (9, 6), (9, 7), (9, 9), (9, 10), (11, 0), (11, 5), (11, 6), (11, 7), (20, 99)] [] X σ σ := q_ow.rf
  obtain ⟨out, hout⟩ : ∃ o, o = F_X11_table X σ a v1 := ⟨_, rfl⟩
  have hF := hout.symm
  unfold F_X11_table at hF
  refine lv_iload_n hx hb dX11_table_0 rfl (lv_at hl 1 rfl) ?_
  refine q_if_lt (A := v1.toInt) E rfl (tgt := 12) dX11_table_1 (by decide) (fun c_1 => ?_) (fun c_1 => ?_)
  · skip
    replace hF := q_ifp hF c_1
    refine lv_aload_n hx hb dX11_table_12 rfl (lv_at hl 0 rfl) ?_
    refine lv_iconst (v := 5) hx hb dX11_table_13 (by decide) ?_
    have kc_2 : (5 : Int32).toInt = 5 := rfl
    refine q_ci (q_runV (As := [.int 5]) (rest := []) E (hml.trans hl.1.symm) hI (c_X11_none l X σ a (5 : Int32) ha) kv_X11_109 ha ⟨rfl, by decide⟩ (show vwCl[10]? = some (RX11, TX11, 17) from rfl) rfl ⟨Nat.le_of_ble_eq_true rfl, Nat.le_of_ble_eq_true rfl⟩ ⟨Nat.le_refl _, Nat.le_refl _⟩ rfl (Nat.le_of_ble_eq_true rfl) dX11_table_14) hI (by decide) (fun r_3 σ_4 H locs hpσ_4 hkσ_4 hI => ?_)
    obtain ⟨ahpσ_4, bhpσ_4, chpσ_4⟩ := hpσ_4
    have fr_σ_4 := fr_σ.call chpσ_4 rfl rfl
    replace hF := q_biX hF bhpσ_4
    have mv5_σ_4 : (σ_4.1 a 5).toInt = (σ.1 a 5).toInt := congrArg Int32.toInt ((q_K.le hkσ_4 (by decide) : q_K 8 X σ σ_4) a 5 (by rw [ha]; decide))
    have ks_σ_4 : q_KS (fun b g => b = a ∧ g = 5) 8 X σ σ_4 := ks_σ.K hkσ_4 (by decide)
    exact q_reti E hr hlk hI ⟨ks_σ_4, (by first | (clear c_1 kc_2 ahpσ_4 bhpσ_4 chpσ_4; omega) | omega), (by first | (clear kc_2 ahpσ_4 bhpσ_4 chpσ_4 mv5_σ_4; omega) | omega), (hF.trans hout), fr_σ_4⟩ dX11_table_17
  · skip
    replace hF := q_ifn hF (Int.not_lt.mpr c_1)
    refine lv_iload_n hx hb dX11_table_4 rfl (lv_at hl 1 rfl) ?_
    refine lv_aload_n hx hb dX11_table_5 rfl (lv_at hl 0 rfl) ?_
    refine gs_X11_30_11 E hI ha dX11_table_6 ?_
    refine lv_topi (fun f_5 ef_5 => ?_)
    replace hF := q_letX hF ef_5
    have if_5 : f_5.toInt = (σ.1 a 5).toInt := congrArg Int32.toInt ef_5
    have bf_5 : 0 ≤ f_5.toInt ∧ f_5.toInt ≤ 900 := by rw [ef_5]; exact q_bd hI ha rfl
    refine q_icmp_le (A := v1.toInt) (B := f_5.toInt) E rfl rfl (tgt := 18) dX11_table_9 (by decide) (fun c_6 => ?_) (fun c_6 => ?_)
    · skip
      replace hF := q_ifn hF (Int.not_lt.mpr c_6)
      refine lv_aload_n hx hb dX11_table_18 rfl (lv_at hl 0 rfl) ?_
      refine gs_X11_59_11 E hI ha dX11_table_19 ?_
      refine lv_aload_n hx hb dX11_table_22 rfl (lv_at hl 0 rfl) ?_
      refine gs_X11_26_11 E hI ha dX11_table_23 ?_
      refine lv_iload_n hx hb dX11_table_26 rfl (lv_at hl 1 rfl) ?_
      refine q_ci (q_runV (As := [.ref (q_rf X a 4), .int v1]) (rest := []) E (hml.trans hl.1.symm) hI (c_X9_takes l X σ (q_rf X a 12) (q_rf X a 4) v1 (q_tk (k' := 9) hI ha rfl (by decide)) (q_tk (k' := 22) hI ha rfl (by decide))) kv_X11_135 (q_tk (k' := 9) hI ha rfl (by decide)) ⟨rfl, by decide⟩ (show vwCl[8]? = some (RX9, TX9, 12) from rfl) rfl ⟨Nat.le_of_ble_eq_true rfl, Nat.le_of_ble_eq_true rfl⟩ ⟨Nat.le_refl _, Nat.le_refl _⟩ rfl (Nat.le_of_ble_eq_true rfl) dX11_table_27) hI (by decide) (fun r_7 σ_8 H locs hpσ_8 hkσ_8 hI => ?_)
      obtain ⟨ahpσ_8, bhpσ_8, chpσ_8⟩ := hpσ_8
      have fr_σ_8 := fr_σ.call chpσ_8 rfl rfl
      replace hF := q_biX hF bhpσ_8
      have mv5_σ_8 : (σ_8.1 a 5).toInt = (σ.1 a 5).toInt := congrArg Int32.toInt ((q_K.le hkσ_8 (by decide) : q_K 8 X σ σ_8) a 5 (by rw [ha]; decide))
      have ks_σ_8 : q_KS (fun b g => b = a ∧ g = 5) 8 X σ σ_8 := ks_σ.K hkσ_8 (by decide)
      refine lv_istore_n (lv' := [(2, .int r_7), (0, .ref a), (1, .int v1)]) hx hb dX11_table_30 rfl hl (by decide) rfl (fun ls hl => ?_)
      refine lv_aload_n hx hb dX11_table_31 rfl (lv_at hl 1 rfl) ?_
      refine lv_aload_n hx hb dX11_table_32 rfl (lv_at hl 1 rfl) ?_
      refine gs_X11_59_11 E hI ha dX11_table_33 ?_
      refine q_cv (q_runV (As := [.ref (q_rf X a 12)]) (rest := []) E (hml.trans hl.1.symm) hI (c_X11_endReading l X σ_8 a (q_rf X a 12) ha (Or.inr (q_tk (k' := 9) hI ha rfl (by decide)))) kv_X11_139 ha ⟨rfl, by decide⟩ (show vwCl[10]? = some (RX11, TX11, 17) from rfl) rfl ⟨Nat.le_of_ble_eq_true rfl, Nat.le_of_ble_eq_true rfl⟩ ⟨Nat.le_refl _, Nat.le_refl _⟩ rfl (Nat.le_of_ble_eq_true rfl) dX11_table_36) hI (by decide) (fun σ_10 H locs hpσ_10 hkσ_10 hI => ?_)
      obtain ⟨ahpσ_10, bhpσ_10, chpσ_10, dhpσ_10⟩ := hpσ_10
      have fr_σ_10 := fr_σ_8.call dhpσ_10 rfl rfl
      replace hF := q_letX hF chpσ_10
      have ks_σ_10 : q_KS (fun b g => b = a ∧ g = 5) 8 X σ σ_10 := ks_σ_8.KS ahpσ_10 (by decide) (fun _ _ h => h)
      refine lv_iload_n hx hb dX11_table_39 rfl (lv_at hl 0 rfl) ?_
      refine q_if_ne (A := r_7.toInt) E rfl (tgt := 50) dX11_table_40 (by decide) (fun c_11 => ?_) (fun c_11 => ?_)
      · skip
        replace hF := q_ifn hF c_11
        replace c_11 := q_ifOne ahpσ_8 c_11
        refine lv_aload_n hx hb dX11_table_50 rfl (lv_at hl 1 rfl) ?_
        refine gs_X11_42_11 E hI ha dX11_table_51 ?_
        refine lv_aload_n hx hb dX11_table_54 rfl (lv_at hl 1 rfl) ?_
        refine gs_X11_59_11 E hI ha dX11_table_55 ?_
        refine gs_X11_143_9 E hI (q_tk (k' := 9) hI ha rfl (by decide)) dX11_table_58 ?_
        refine q_cv (q_runV (As := [.ref (q_rf X (q_rf X a 12) 8)]) (rest := []) E (hml.trans hl.1.symm) hI (c_X0_copyFrom l X σ_10 (q_rf X a 8) (q_rf X (q_rf X a 12) 8) (q_tk (k' := 1) hI ha rfl (by decide)) (q_tk (k' := 1) hI (q_tk (k' := 9) hI ha rfl (by decide)) rfl (by decide))) kv_X11_144 (q_tk (k' := 1) hI ha rfl (by decide)) ⟨rfl, by decide⟩ (show vwCl[0]? = some (RX0, TX0, 15) from rfl) rfl ⟨Nat.le_of_ble_eq_true rfl, Nat.le_of_ble_eq_true rfl⟩ ⟨Nat.le_refl _, Nat.le_refl _⟩ rfl (Nat.le_of_ble_eq_true rfl) dX11_table_61) hI (by decide) (fun σ_13 H locs hpσ_13 hkσ_13 hI => ?_)
        obtain ⟨ahpσ_13, bhpσ_13⟩ := hpσ_13
        have fr_σ_13 := fr_σ_10.call bhpσ_13 rfl rfl
        replace hF := q_letX hF ahpσ_13
        have mv5_σ_13 : (σ_13.1 a 5).toInt = (σ_10.1 a 5).toInt := congrArg Int32.toInt ((q_K.le hkσ_13 (by decide) : q_K 8 X σ_10 σ_13) a 5 (by rw [ha]; decide))
        have ks_σ_13 : q_KS (fun b g => b = a ∧ g = 5) 8 X σ σ_13 := ks_σ_10.K hkσ_13 (by decide)
        refine lv_aload_n hx hb dX11_table_64 rfl (lv_at hl 1 rfl) ?_
        refine lv_aload_n hx hb dX11_table_65 rfl (lv_at hl 1 rfl) ?_
        refine gs_X11_42_11 E hI ha dX11_table_66 ?_
        refine gs_X11_147_1 E hI (q_tk (k' := 1) hI ha rfl (by decide)) dX11_table_69 ?_
        refine gs_X11_151_6 E hI (q_tk (k' := 6) hI (q_tk (k' := 1) hI ha rfl (by decide)) rfl (by decide)) dX11_table_72 ?_
        refine lv_topi (fun f_14 ef_14 => ?_)
        replace hF := q_letX hF ef_14
        have if_14 : f_14.toInt = (σ_13.1 (q_rf X (q_rf X a 8) 0) 4).toInt := congrArg Int32.toInt ef_14
        refine q_ci (q_runV (As := [.int f_14]) (rest := []) E (hml.trans hl.1.symm) hI (c_X11_good l X σ_13 a f_14 ha) kv_X11_156 ha ⟨rfl, by decide⟩ (show vwCl[10]? = some (RX11, TX11, 17) from rfl) rfl ⟨Nat.le_of_ble_eq_true rfl, Nat.le_of_ble_eq_true rfl⟩ ⟨Nat.le_refl _, Nat.le_refl _⟩ rfl (Nat.le_of_ble_eq_true rfl) dX11_table_75) hI (by decide) (fun r_15 σ_16 H locs hpσ_16 hkσ_16 hI => ?_)
        obtain ⟨ahpσ_16, bhpσ_16, chpσ_16⟩ := hpσ_16
        have fr_σ_16 := fr_σ_13.call chpσ_16 rfl rfl
        replace hF := q_biX hF bhpσ_16
        have mv5_σ_16 : (σ_16.1 a 5).toInt = (σ_13.1 a 5).toInt := congrArg Int32.toInt ((q_K.le hkσ_16 (by decide) : q_K 8 X σ_13 σ_16) a 5 (by rw [ha]; decide))
        have ks_σ_16 : q_KS (fun b g => b = a ∧ g = 5) 8 X σ σ_16 := ks_σ_13.K hkσ_16 (by decide)
        exact q_reti E hr hlk hI ⟨ks_σ_16, (by first | (clear ahpσ_8 bhpσ_8 chpσ_8 ahpσ_10 chpσ_10 dhpσ_10 c_11 ahpσ_13 bhpσ_13 if_14 ahpσ_16 bhpσ_16 chpσ_16; omega) | omega), (by first | (clear c_1 if_5 bf_5 c_6 ahpσ_8 bhpσ_8 chpσ_8 mv5_σ_8 ahpσ_10 chpσ_10 dhpσ_10 c_11 ahpσ_13 bhpσ_13 if_14 ahpσ_16 bhpσ_16 chpσ_16; omega) | omega), (hF.trans hout), fr_σ_16⟩ dX11_table_78
      · skip
        replace hF := q_ifp hF c_11
        refine lv_aload_n hx hb dX11_table_43 rfl (lv_at hl 1 rfl) ?_
        refine lv_bipush (v := 10) hx hb dX11_table_44 (by decide) ?_
        have kc_17 : (10 : Int32).toInt = 10 := rfl
        refine q_ci (q_runV (As := [.int 10]) (rest := []) E (hml.trans hl.1.symm) hI (c_X11_none l X σ_10 a (10 : Int32) ha) kv_X11_109 ha ⟨rfl, by decide⟩ (show vwCl[10]? = some (RX11, TX11, 17) from rfl) rfl ⟨Nat.le_of_ble_eq_true rfl, Nat.le_of_ble_eq_true rfl⟩ ⟨Nat.le_refl _, Nat.le_refl _⟩ rfl (Nat.le_of_ble_eq_true rfl) dX11_table_46) hI (by decide) (fun r_18 σ_19 H locs hpσ_19 hkσ_19 hI => ?_)
        obtain ⟨ahpσ_19, bhpσ_19, chpσ_19⟩ := hpσ_19
        have fr_σ_19 := fr_σ_10.call chpσ_19 rfl rfl
        replace hF := q_biX hF bhpσ_19
        have mv5_σ_19 : (σ_19.1 a 5).toInt = (σ_10.1 a 5).toInt := congrArg Int32.toInt ((q_K.le hkσ_19 (by decide) : q_K 8 X σ_10 σ_19) a 5 (by rw [ha]; decide))
        have ks_σ_19 : q_KS (fun b g => b = a ∧ g = 5) 8 X σ σ_19 := ks_σ_10.K hkσ_19 (by decide)
        exact q_reti E hr hlk hI ⟨ks_σ_19, (by first | (clear ahpσ_8 bhpσ_8 chpσ_8 ahpσ_10 chpσ_10 dhpσ_10 c_11 kc_17 ahpσ_19 bhpσ_19 chpσ_19; omega) | omega), (by first | (clear c_1 if_5 bf_5 c_6 ahpσ_8 bhpσ_8 chpσ_8 mv5_σ_8 ahpσ_10 chpσ_10 dhpσ_10 c_11 kc_17 ahpσ_19 bhpσ_19 chpσ_19; omega) | omega), (hF.trans hout), fr_σ_19⟩ dX11_table_49
    · skip
      replace hF := q_ifp hF c_6
      refine lv_aload_n hx hb dX11_table_12 rfl (lv_at hl 0 rfl) ?_
      refine lv_iconst (v := 5) hx hb dX11_table_13 (by decide) ?_
      have kc_20 : (5 : Int32).toInt = 5 := rfl
      refine q_ci (q_runV (As := [.int 5]) (rest := []) E (hml.trans hl.1.symm) hI (c_X11_none l X σ a (5 : Int32) ha) kv_X11_109 ha ⟨rfl, by decide⟩ (show vwCl[10]? = some (RX11, TX11, 17) from rfl) rfl ⟨Nat.le_of_ble_eq_true rfl, Nat.le_of_ble_eq_true rfl⟩ ⟨Nat.le_refl _, Nat.le_refl _⟩ rfl (Nat.le_of_ble_eq_true rfl) dX11_table_14) hI (by decide) (fun r_21 σ_22 H locs hpσ_22 hkσ_22 hI => ?_)
      obtain ⟨ahpσ_22, bhpσ_22, chpσ_22⟩ := hpσ_22
      have fr_σ_22 := fr_σ.call chpσ_22 rfl rfl
      replace hF := q_biX hF bhpσ_22
      have mv5_σ_22 : (σ_22.1 a 5).toInt = (σ.1 a 5).toInt := congrArg Int32.toInt ((q_K.le hkσ_22 (by decide) : q_K 8 X σ σ_22) a 5 (by rw [ha]; decide))
      have ks_σ_22 : q_KS (fun b g => b = a ∧ g = 5) 8 X σ σ_22 := ks_σ.K hkσ_22 (by decide)
      exact q_reti E hr hlk hI ⟨ks_σ_22, (by first | (clear c_1 if_5 bf_5 c_6 kc_20 ahpσ_22 bhpσ_22 chpσ_22; omega) | omega), (by first | (clear c_1 bf_5 kc_20 ahpσ_22 bhpσ_22 chpσ_22; omega) | omega), (hF.trans hout), fr_σ_22⟩ dX11_table_17

set_option maxRecDepth 100000 in
set_option maxHeartbeats 4000000 in
theorem c_X11_round (l : Launch) (X : XW) (σ : ST) (a : Nat) (v1 : Int32) (ha : q_kd X a = 11) : Met l yX11_round (q_ws yX11_round cX11_round 3 (some .int)) (q_rm 10 224) (q_P X σ [.ref a, .int v1]) (q_Qi X 0 σ (fun (r : Int32) (σ' : ST) => (q_KS (fun b g => b = a ∧ g = 5) 8 X σ σ') ∧ ((v1.toInt < 0 ∨ (σ.1 a 5).toInt < v1.toInt ∨ 300 < v1.toInt) → (σ'.1 a 5).toInt = (σ.1 a 5).toInt) ∧ ((0 ≤ v1.toInt ∧ v1.toInt ≤ (σ.1 a 5).toInt ∧ v1.toInt ≤ 300) → (σ'.1 a 5).toInt = 0) ∧ (r, σ') = F_X11_round X σ a v1 ∧ q_ow [(4, 1), (4, 2), (4, 3), (4, 4), (4, 5), (4, 6), (4, 7), (4, 10), (8, 0), (8, 1), (8, 2), (9, 1), (9, 2), (9, 3), (9, 4), (9, 5), (9, 6), (9, 7), (11, 0), (11, 5), (11, 6), (11, 7), (20, 99)] [] X σ σ')) 0 0 (q_reg X) := by
  refine q_met 0 (by first | exact rfl | decide +kernel) rfl (Nat.le_of_ble_eq_true rfl) (fun p e s m below meth c E hml hr hlk hI ls hl => ?_)
  have hx := E.1
  have hb := E.2.1
  have hl : lv_has ls 3 [(0, .ref a), (1, .int v1)] := hl
  have ks_σ : q_KS (fun b g => b = a ∧ g = 5) 8 X σ σ := q_KS.rf
  have fr_σ : q_ow [(4, 1), (4, 2), (4, 3), (4, 4), (4, 5), (4, 6), (4, 7), (4, 10), (8, 0), (8, 1), (8, 2), (9, 1), (9, 2), (9, 3), (9, 4), (9, 5), (9, 6), (9, 7), (11, 0), (11, 5), (11, 6), (11, 7), (20, 99)] [] X σ σ := q_ow.rf
  obtain ⟨out, hout⟩ : ∃ o, o = F_X11_round X σ a v1 := ⟨_, rfl⟩
  have hF := hout.symm
  unfold F_X11_round at hF
  refine lv_iload_n hx hb dX11_round_0 rfl (lv_at hl 1 rfl) ?_
  refine q_if_lt (A := v1.toInt) E rfl (tgt := 19) dX11_round_1 (by decide) (fun c_1 => ?_) (fun c_1 => ?_)
  · skip
    replace hF := q_ifp hF c_1
    refine lv_aload_n hx hb dX11_round_19 rfl (lv_at hl 0 rfl) ?_
    refine lv_iconst (v := 5) hx hb dX11_round_20 (by decide) ?_
    have kc_2 : (5 : Int32).toInt = 5 := rfl
    refine q_ci (q_runV (As := [.int 5]) (rest := []) E (hml.trans hl.1.symm) hI (c_X11_none l X σ a (5 : Int32) ha) kv_X11_109 ha ⟨rfl, by decide⟩ (show vwCl[10]? = some (RX11, TX11, 17) from rfl) rfl ⟨Nat.le_of_ble_eq_true rfl, Nat.le_of_ble_eq_true rfl⟩ ⟨Nat.le_refl _, Nat.le_refl _⟩ rfl (Nat.le_of_ble_eq_true rfl) dX11_round_21) hI (by decide) (fun r_3 σ_4 H locs hpσ_4 hkσ_4 hI => ?_)
    obtain ⟨ahpσ_4, bhpσ_4, chpσ_4⟩ := hpσ_4
    have fr_σ_4 := fr_σ.call chpσ_4 rfl rfl
    replace hF := q_biX hF bhpσ_4
    have mv5_σ_4 : (σ_4.1 a 5).toInt = (σ.1 a 5).toInt := congrArg Int32.toInt ((q_K.le hkσ_4 (by decide) : q_K 8 X σ σ_4) a 5 (by rw [ha]; decide))
    have ks_σ_4 : q_KS (fun b g => b = a ∧ g = 5) 8 X σ σ_4 := ks_σ.K hkσ_4 (by decide)
    exact q_reti E hr hlk hI ⟨ks_σ_4, (by omega), (by first | (clear kc_2 ahpσ_4 bhpσ_4 chpσ_4 mv5_σ_4; omega) | omega), (hF.trans hout), fr_σ_4⟩ dX11_round_24
  · skip
    replace hF := q_ifn hF (Int.not_lt.mpr c_1)
    refine lv_iload_n hx hb dX11_round_4 rfl (lv_at hl 1 rfl) ?_
    refine lv_aload_n hx hb dX11_round_5 rfl (lv_at hl 0 rfl) ?_
    refine gs_X11_30_11 E hI ha dX11_round_6 ?_
    refine lv_topi (fun f_5 ef_5 => ?_)
    replace hF := q_letX hF ef_5
    have if_5 : f_5.toInt = (σ.1 a 5).toInt := congrArg Int32.toInt ef_5
    have bf_5 : 0 ≤ f_5.toInt ∧ f_5.toInt ≤ 900 := by rw [ef_5]; exact q_bd hI ha rfl
    refine q_icmp_gt (A := v1.toInt) (B := f_5.toInt) E rfl rfl (tgt := 19) dX11_round_9 (by decide) (fun c_6 => ?_) (fun c_6 => ?_)
    · skip
      replace hF := q_ifp hF c_6
      refine lv_aload_n hx hb dX11_round_19 rfl (lv_at hl 0 rfl) ?_
      refine lv_iconst (v := 5) hx hb dX11_round_20 (by decide) ?_
      have kc_7 : (5 : Int32).toInt = 5 := rfl
      refine q_ci (q_runV (As := [.int 5]) (rest := []) E (hml.trans hl.1.symm) hI (c_X11_none l X σ a (5 : Int32) ha) kv_X11_109 ha ⟨rfl, by decide⟩ (show vwCl[10]? = some (RX11, TX11, 17) from rfl) rfl ⟨Nat.le_of_ble_eq_true rfl, Nat.le_of_ble_eq_true rfl⟩ ⟨Nat.le_refl _, Nat.le_refl _⟩ rfl (Nat.le_of_ble_eq_true rfl) dX11_round_21) hI (by decide) (fun r_8 σ_9 H locs hpσ_9 hkσ_9 hI => ?_)
      obtain ⟨ahpσ_9, bhpσ_9, chpσ_9⟩ := hpσ_9
      have fr_σ_9 := fr_σ.call chpσ_9 rfl rfl
      replace hF := q_biX hF bhpσ_9
      have mv5_σ_9 : (σ_9.1 a 5).toInt = (σ.1 a 5).toInt := congrArg Int32.toInt ((q_K.le hkσ_9 (by decide) : q_K 8 X σ σ_9) a 5 (by rw [ha]; decide))
      have ks_σ_9 : q_KS (fun b g => b = a ∧ g = 5) 8 X σ σ_9 := ks_σ.K hkσ_9 (by decide)
      exact q_reti E hr hlk hI ⟨ks_σ_9, (by omega), (by first | (clear c_1 bf_5 kc_7 ahpσ_9 bhpσ_9 chpσ_9; omega) | omega), (hF.trans hout), fr_σ_9⟩ dX11_round_24
    · skip
      replace hF := q_ifn hF (Int.not_lt.mpr c_6)
      refine lv_iload_n hx hb dX11_round_12 rfl (lv_at hl 1 rfl) ?_
      refine lv_sipush (v := 300) hx hb dX11_round_13 (by decide) ?_
      refine q_icmp_le (A := v1.toInt) (B := 300) E rfl (by decide) (tgt := 25) dX11_round_16 (by decide) (fun c_10 => ?_) (fun c_10 => ?_)
      · skip
        replace hF := q_ifn hF (Int.not_lt.mpr c_10)
        refine lv_aload_n hx hb dX11_round_25 rfl (lv_at hl 0 rfl) ?_
        refine gs_X11_66_11 E hI ha dX11_round_26 ?_
        refine lv_aload_n hx hb dX11_round_29 rfl (lv_at hl 0 rfl) ?_
        refine gs_X11_26_11 E hI ha dX11_round_30 ?_
        refine lv_iload_n hx hb dX11_round_33 rfl (lv_at hl 1 rfl) ?_
        refine lv_aload_n hx hb dX11_round_34 rfl (lv_at hl 0 rfl) ?_
        refine gs_X11_42_11 E hI ha dX11_round_35 ?_
        refine gs_X11_147_1 E hI (q_tk (k' := 1) hI ha rfl (by decide)) dX11_round_38 ?_
        refine q_ci (q_runV (As := [.ref (q_rf X a 4), .int v1, .ref (q_rf X (q_rf X a 8) 0)]) (rest := []) E (hml.trans hl.1.symm) hI (c_X4_takes l X σ (q_rf X a 13) (q_rf X a 4) v1 (q_rf X (q_rf X a 8) 0) (q_tk (k' := 4) hI ha rfl (by decide)) (q_tk (k' := 22) hI ha rfl (by decide)) (q_tk (k' := 6) hI (q_tk (k' := 1) hI ha rfl (by decide)) rfl (by decide))) kv_X11_159 (q_tk (k' := 4) hI ha rfl (by decide)) ⟨rfl, by decide⟩ (show vwCl[3]? = some (RX4, TX4, 11) from rfl) rfl ⟨Nat.le_of_ble_eq_true rfl, Nat.le_of_ble_eq_true rfl⟩ ⟨Nat.le_refl _, Nat.le_refl _⟩ rfl (Nat.le_of_ble_eq_true rfl) dX11_round_41) hI (by decide) (fun r_11 σ_12 H locs hpσ_12 hkσ_12 hI => ?_)
        obtain ⟨ahpσ_12, bhpσ_12, chpσ_12⟩ := hpσ_12
        have fr_σ_12 := fr_σ.call chpσ_12 rfl rfl
        replace hF := q_biX hF bhpσ_12
        have mv5_σ_12 : (σ_12.1 a 5).toInt = (σ.1 a 5).toInt := congrArg Int32.toInt ((q_K.le hkσ_12 (by decide) : q_K 8 X σ σ_12) a 5 (by rw [ha]; decide))
        have ks_σ_12 : q_KS (fun b g => b = a ∧ g = 5) 8 X σ σ_12 := ks_σ.K hkσ_12 (by decide)
        refine lv_istore_n (lv' := [(2, .int r_11), (0, .ref a), (1, .int v1)]) hx hb dX11_round_44 rfl hl (by decide) rfl (fun ls hl => ?_)
        refine lv_aload_n hx hb dX11_round_45 rfl (lv_at hl 1 rfl) ?_
        refine lv_aload_n hx hb dX11_round_46 rfl (lv_at hl 1 rfl) ?_
        refine gs_X11_66_11 E hI ha dX11_round_47 ?_
        refine q_cv (q_runV (As := [.ref (q_rf X a 13)]) (rest := []) E (hml.trans hl.1.symm) hI (c_X11_endReading l X σ_12 a (q_rf X a 13) ha (Or.inl (q_tk (k' := 4) hI ha rfl (by decide)))) kv_X11_139 ha ⟨rfl, by decide⟩ (show vwCl[10]? = some (RX11, TX11, 17) from rfl) rfl ⟨Nat.le_of_ble_eq_true rfl, Nat.le_of_ble_eq_true rfl⟩ ⟨Nat.le_refl _, Nat.le_refl _⟩ rfl (Nat.le_of_ble_eq_true rfl) dX11_round_50) hI (by decide) (fun σ_14 H locs hpσ_14 hkσ_14 hI => ?_)
        obtain ⟨ahpσ_14, bhpσ_14, chpσ_14, dhpσ_14⟩ := hpσ_14
        have fr_σ_14 := fr_σ_12.call dhpσ_14 rfl rfl
        replace hF := q_letX hF chpσ_14
        have ks_σ_14 : q_KS (fun b g => b = a ∧ g = 5) 8 X σ σ_14 := ks_σ_12.KS ahpσ_14 (by decide) (fun _ _ h => h)
        refine lv_iload_n hx hb dX11_round_53 rfl (lv_at hl 0 rfl) ?_
        refine q_if_ne (A := r_11.toInt) E rfl (tgt := 64) dX11_round_54 (by decide) (fun c_15 => ?_) (fun c_15 => ?_)
        · skip
          replace hF := q_ifn hF c_15
          replace c_15 := q_ifOne ahpσ_12 c_15
          refine lv_aload_n hx hb dX11_round_64 rfl (lv_at hl 1 rfl) ?_
          refine gs_X11_42_11 E hI ha dX11_round_65 ?_
          refine gs_X11_162_1 E hI (q_tk (k' := 1) hI ha rfl (by decide)) dX11_round_68 ?_
          refine lv_aload_n hx hb dX11_round_71 rfl (lv_at hl 1 rfl) ?_
          refine gs_X11_66_11 E hI ha dX11_round_72 ?_
          refine gs_X11_166_4 E hI (q_tk (k' := 4) hI ha rfl (by decide)) dX11_round_75 ?_
          refine q_cv (q_runV (As := [.ref (q_rf X (q_rf X a 13) 8)]) (rest := []) E (hml.trans hl.1.symm) hI (c_X8_copyFrom l X σ_14 (q_rf X (q_rf X a 8) 3) (q_rf X (q_rf X a 13) 8) (q_tk (k' := 8) hI (q_tk (k' := 1) hI ha rfl (by decide)) rfl (by decide)) (q_tk (k' := 8) hI (q_tk (k' := 4) hI ha rfl (by decide)) rfl (by decide))) kv_X11_167 (q_tk (k' := 8) hI (q_tk (k' := 1) hI ha rfl (by decide)) rfl (by decide)) ⟨rfl, by decide⟩ (show vwCl[7]? = some (RX8, TX8, 8) from rfl) rfl ⟨Nat.le_of_ble_eq_true rfl, Nat.le_of_ble_eq_true rfl⟩ ⟨Nat.le_refl _, Nat.le_refl _⟩ rfl (Nat.le_of_ble_eq_true rfl) dX11_round_78) hI (by decide) (fun σ_17 H locs hpσ_17 hkσ_17 hI => ?_)
          obtain ⟨ahpσ_17, bhpσ_17⟩ := hpσ_17
          have fr_σ_17 := fr_σ_14.call bhpσ_17 rfl rfl
          replace hF := q_letX hF ahpσ_17
          have mv5_σ_17 : (σ_17.1 a 5).toInt = (σ_14.1 a 5).toInt := congrArg Int32.toInt ((q_K.le hkσ_17 (by decide) : q_K 8 X σ_14 σ_17) a 5 (by rw [ha]; decide))
          have ks_σ_17 : q_KS (fun b g => b = a ∧ g = 5) 8 X σ σ_17 := ks_σ_14.K hkσ_17 (by decide)
          refine lv_aload_n hx hb dX11_round_81 rfl (lv_at hl 1 rfl) ?_
          refine lv_aload_n hx hb dX11_round_82 rfl (lv_at hl 1 rfl) ?_
          refine gs_X11_42_11 E hI ha dX11_round_83 ?_
          refine gs_X11_162_1 E hI (q_tk (k' := 1) hI ha rfl (by decide)) dX11_round_86 ?_
          refine gs_X11_172_8 E hI (q_tk (k' := 8) hI (q_tk (k' := 1) hI ha rfl (by decide)) rfl (by decide)) dX11_round_89 ?_
          refine lv_topi (fun f_18 ef_18 => ?_)
          replace hF := q_letX hF ef_18
          have if_18 : f_18.toInt = (σ_17.1 (q_rf X (q_rf X a 8) 3) 1).toInt := congrArg Int32.toInt ef_18
          refine q_ci (q_runV (As := [.int f_18]) (rest := []) E (hml.trans hl.1.symm) hI (c_X11_good l X σ_17 a f_18 ha) kv_X11_156 ha ⟨rfl, by decide⟩ (show vwCl[10]? = some (RX11, TX11, 17) from rfl) rfl ⟨Nat.le_of_ble_eq_true rfl, Nat.le_of_ble_eq_true rfl⟩ ⟨Nat.le_refl _, Nat.le_refl _⟩ rfl (Nat.le_of_ble_eq_true rfl) dX11_round_92) hI (by decide) (fun r_19 σ_20 H locs hpσ_20 hkσ_20 hI => ?_)
          obtain ⟨ahpσ_20, bhpσ_20, chpσ_20⟩ := hpσ_20
          have fr_σ_20 := fr_σ_17.call chpσ_20 rfl rfl
          replace hF := q_biX hF bhpσ_20
          have mv5_σ_20 : (σ_20.1 a 5).toInt = (σ_17.1 a 5).toInt := congrArg Int32.toInt ((q_K.le hkσ_20 (by decide) : q_K 8 X σ_17 σ_20) a 5 (by rw [ha]; decide))
          have ks_σ_20 : q_KS (fun b g => b = a ∧ g = 5) 8 X σ σ_20 := ks_σ_17.K hkσ_20 (by decide)
          exact q_reti E hr hlk hI ⟨ks_σ_20, (by first | (clear ahpσ_12 bhpσ_12 chpσ_12 ahpσ_14 chpσ_14 dhpσ_14 c_15 ahpσ_17 bhpσ_17 if_18 ahpσ_20 bhpσ_20 chpσ_20; omega) | omega), (by omega), (hF.trans hout), fr_σ_20⟩ dX11_round_95
        · skip
          replace hF := q_ifp hF c_15
          refine lv_aload_n hx hb dX11_round_57 rfl (lv_at hl 1 rfl) ?_
          refine lv_bipush (v := 10) hx hb dX11_round_58 (by decide) ?_
          have kc_21 : (10 : Int32).toInt = 10 := rfl
          refine q_ci (q_runV (As := [.int 10]) (rest := []) E (hml.trans hl.1.symm) hI (c_X11_none l X σ_14 a (10 : Int32) ha) kv_X11_109 ha ⟨rfl, by decide⟩ (show vwCl[10]? = some (RX11, TX11, 17) from rfl) rfl ⟨Nat.le_of_ble_eq_true rfl, Nat.le_of_ble_eq_true rfl⟩ ⟨Nat.le_refl _, Nat.le_refl _⟩ rfl (Nat.le_of_ble_eq_true rfl) dX11_round_60) hI (by decide) (fun r_22 σ_23 H locs hpσ_23 hkσ_23 hI => ?_)
          obtain ⟨ahpσ_23, bhpσ_23, chpσ_23⟩ := hpσ_23
          have fr_σ_23 := fr_σ_14.call chpσ_23 rfl rfl
          replace hF := q_biX hF bhpσ_23
          have mv5_σ_23 : (σ_23.1 a 5).toInt = (σ_14.1 a 5).toInt := congrArg Int32.toInt ((q_K.le hkσ_23 (by decide) : q_K 8 X σ_14 σ_23) a 5 (by rw [ha]; decide))
          have ks_σ_23 : q_KS (fun b g => b = a ∧ g = 5) 8 X σ σ_23 := ks_σ_14.K hkσ_23 (by decide)
          exact q_reti E hr hlk hI ⟨ks_σ_23, (by first | (clear ahpσ_12 bhpσ_12 chpσ_12 ahpσ_14 chpσ_14 dhpσ_14 c_15 kc_21 ahpσ_23 bhpσ_23 chpσ_23; omega) | omega), (by omega), (hF.trans hout), fr_σ_23⟩ dX11_round_63
      · skip
        replace hF := q_ifp hF c_10
        refine lv_aload_n hx hb dX11_round_19 rfl (lv_at hl 0 rfl) ?_
        refine lv_iconst (v := 5) hx hb dX11_round_20 (by decide) ?_
        have kc_24 : (5 : Int32).toInt = 5 := rfl
        refine q_ci (q_runV (As := [.int 5]) (rest := []) E (hml.trans hl.1.symm) hI (c_X11_none l X σ a (5 : Int32) ha) kv_X11_109 ha ⟨rfl, by decide⟩ (show vwCl[10]? = some (RX11, TX11, 17) from rfl) rfl ⟨Nat.le_of_ble_eq_true rfl, Nat.le_of_ble_eq_true rfl⟩ ⟨Nat.le_refl _, Nat.le_refl _⟩ rfl (Nat.le_of_ble_eq_true rfl) dX11_round_21) hI (by decide) (fun r_25 σ_26 H locs hpσ_26 hkσ_26 hI => ?_)
        obtain ⟨ahpσ_26, bhpσ_26, chpσ_26⟩ := hpσ_26
        have fr_σ_26 := fr_σ.call chpσ_26 rfl rfl
        replace hF := q_biX hF bhpσ_26
        have mv5_σ_26 : (σ_26.1 a 5).toInt = (σ.1 a 5).toInt := congrArg Int32.toInt ((q_K.le hkσ_26 (by decide) : q_K 8 X σ σ_26) a 5 (by rw [ha]; decide))
        have ks_σ_26 : q_KS (fun b g => b = a ∧ g = 5) 8 X σ σ_26 := ks_σ.K hkσ_26 (by decide)
        exact q_reti E hr hlk hI ⟨ks_σ_26, (by omega), (by first | (clear c_1 if_5 bf_5 c_6 kc_24 ahpσ_26 bhpσ_26 chpσ_26 mv5_σ_26; omega) | omega), (hF.trans hout), fr_σ_26⟩ dX11_round_24

set_option maxRecDepth 100000 in
set_option maxHeartbeats 4000000 in
theorem c_X11_fault (l : Launch) (X : XW) (σ : ST) (a : Nat) (v1 : Int32) (ha : q_kd X a = 11) : Met l yX11_fault (q_ws yX11_fault cX11_fault 2 (some .int)) (q_rm 0 0) (q_P X σ [.ref a, .int v1]) (q_Qi X 9 σ (fun (r : Int32) (σ' : ST) => σ' = σ ∧ r = F_X11_fault X σ a v1)) 0 0 (q_reg X) := by
  refine q_met 9 (by first | exact rfl | decide +kernel) rfl (Nat.le_of_ble_eq_true rfl) (fun p e s m below meth c E hml hr hlk hI ls hl => ?_)
  have hx := E.1
  have hb := E.2.1
  have hl : lv_has ls 2 [(0, .ref a), (1, .int v1)] := hl
  obtain ⟨out, hout⟩ : ∃ o, o = F_X11_fault X σ a v1 := ⟨_, rfl⟩
  have hF := hout.symm
  unfold F_X11_fault at hF
  refine lv_iload_n hx hb dX11_fault_0 rfl (lv_at hl 1 rfl) ?_
  refine q_if_ne (A := v1.toInt) E rfl (tgt := 9) dX11_fault_1 (by decide) (fun c_1 => ?_) (fun c_1 => ?_)
  · skip
    replace hF := q_ifn hF c_1
    refine lv_iload_n hx hb dX11_fault_9 rfl (lv_at hl 1 rfl) ?_
    refine lv_iconst (v := 1) hx hb dX11_fault_10 (by decide) ?_
    refine q_icmp_ne (A := v1.toInt) (B := 1) E rfl (by decide) (tgt := 21) dX11_fault_11 (by decide) (fun c_2 => ?_) (fun c_2 => ?_)
    · skip
      replace hF := q_ifn hF c_2
      refine lv_iconst (v := (-1)) hx hb dX11_fault_21 (by decide) ?_
      exact q_reti E hr hlk hI ⟨rfl, (hF.trans hout)⟩ dX11_fault_22
    · skip
      replace hF := q_ifp hF c_2
      refine lv_aload_n hx hb dX11_fault_14 rfl (lv_at hl 0 rfl) ?_
      refine gs_X11_36_11 E hI ha dX11_fault_15 ?_
      refine lv_topi (fun f_3 ef_3 => ?_)
      replace hF := q_letX hF ef_3
      refine lv_goto (tgt := 22) hx hb dX11_fault_18 (by decide) ?_
      exact q_reti E hr hlk hI ⟨rfl, (hF.trans hout)⟩ dX11_fault_22
  · skip
    replace hF := q_ifp hF c_1
    refine lv_aload_n hx hb dX11_fault_4 rfl (lv_at hl 0 rfl) ?_
    refine gs_X11_33_11 E hI ha dX11_fault_5 ?_
    refine lv_topi (fun f_4 ef_4 => ?_)
    replace hF := q_letX hF ef_4
    exact q_reti E hr hlk hI ⟨rfl, (hF.trans hout)⟩ dX11_fault_8

set_option maxRecDepth 100000 in
set_option maxHeartbeats 4000000 in
theorem c_X11_many (l : Launch) (X : XW) (σ : ST) (a : Nat) (v1 : Int32) (ha : q_kd X a = 11) : Met l yX11_many (q_ws yX11_many cX11_many 3 (some .int)) (q_rm 1 21) (q_P X σ [.ref a, .int v1]) (q_Qi X 8 σ (fun (r : Int32) (σ' : ST) => (r, σ') = F_X11_many X σ a v1 ∧ q_ow [(11, 0)] [] X σ σ')) 0 0 (q_reg X) := by
  refine q_met 8 (by first | exact rfl | decide +kernel) rfl (Nat.le_of_ble_eq_true rfl) (fun p e s m below meth c E hml hr hlk hI ls hl => ?_)
  have hx := E.1
  have hb := E.2.1
  have hl : lv_has ls 3 [(0, .ref a), (1, .int v1)] := hl
  have fr_σ : q_ow [(11, 0)] [] X σ σ := q_ow.rf
  obtain ⟨out, hout⟩ : ∃ o, o = F_X11_many X σ a v1 := ⟨_, rfl⟩
  have hF := hout.symm
  unfold F_X11_many at hF
  refine lv_aload_n hx hb dX11_many_0 rfl (lv_at hl 0 rfl) ?_
  refine gs_X11_42_11 E hI ha dX11_many_1 ?_
  refine gs_X11_147_1 E hI (q_tk (k' := 1) hI ha rfl (by decide)) dX11_many_4 ?_
  refine lv_astore_n (lv' := [(2, .ref (q_rf X (q_rf X a 8) 0)), (0, .ref a), (1, .int v1)]) hx hb dX11_many_7 rfl hl (by decide) rfl (fun ls hl => ?_)
  refine lv_iload_n hx hb dX11_many_8 rfl (lv_at hl 2 rfl) ?_
  by_cases c_1 : v1.toInt = 0
  · refine lv_tableIn (off := 59) (tgt := 68) hx hb dX11_many_9 (by omega) (by omega) (by rw [c_1]; rfl) (by decide) ?_
    replace hF := q_ifp hF c_1
    refine lv_aload_n hx hb dX11_many_68 rfl (lv_at hl 1 rfl) ?_
    refine lv_aload_n hx hb dX11_many_69 rfl (lv_at hl 0 rfl) ?_
    refine gs_X11_183_6 E hI (q_tk (k' := 6) hI (q_tk (k' := 1) hI ha rfl (by decide)) rfl (by decide)) dX11_many_70 ?_
    refine lv_topi (fun f_2 ef_2 => ?_)
    replace hF := q_letX hF ef_2
    have bf_2 : -2147483648 ≤ f_2.toInt ∧ f_2.toInt ≤ 10 := by rw [ef_2]; exact q_bd hI (q_tk (k' := 6) hI (q_tk (k' := 1) hI ha rfl (by decide)) rfl (by decide)) rfl
    refine q_ci (q_runV (As := [.int f_2]) (rest := []) E (hml.trans hl.1.symm) hI (c_X11_good l X σ a f_2 ha) kv_X11_156 ha ⟨rfl, by decide⟩ (show vwCl[10]? = some (RX11, TX11, 17) from rfl) rfl ⟨Nat.le_of_ble_eq_true rfl, Nat.le_of_ble_eq_true rfl⟩ ⟨Nat.le_refl _, Nat.le_refl _⟩ rfl (Nat.le_of_ble_eq_true rfl) dX11_many_73) hI (by decide) (fun r_3 σ_4 H locs hpσ_4 hkσ_4 hI => ?_)
    obtain ⟨ahpσ_4, bhpσ_4, chpσ_4⟩ := hpσ_4
    have fr_σ_4 := fr_σ.call chpσ_4 rfl rfl
    replace hF := q_biX hF bhpσ_4
    exact q_reti E hr hlk hI ⟨(hF.trans hout), fr_σ_4⟩ dX11_many_76
  replace hF := q_ifn hF c_1
  by_cases c_5 : v1.toInt = 1
  · refine lv_tableIn (off := 68) (tgt := 77) hx hb dX11_many_9 (by omega) (by omega) (by rw [c_5]; rfl) (by decide) ?_
    replace hF := q_ifp hF c_5
    refine lv_aload_n hx hb dX11_many_77 rfl (lv_at hl 1 rfl) ?_
    refine lv_aload_n hx hb dX11_many_78 rfl (lv_at hl 0 rfl) ?_
    refine gs_X11_186_6 E hI (q_tk (k' := 6) hI (q_tk (k' := 1) hI ha rfl (by decide)) rfl (by decide)) dX11_many_79 ?_
    refine lv_topi (fun f_6 ef_6 => ?_)
    replace hF := q_letX hF ef_6
    refine q_ci (q_runV (As := [.int f_6]) (rest := []) E (hml.trans hl.1.symm) hI (c_X11_good l X σ a f_6 ha) kv_X11_156 ha ⟨rfl, by decide⟩ (show vwCl[10]? = some (RX11, TX11, 17) from rfl) rfl ⟨Nat.le_of_ble_eq_true rfl, Nat.le_of_ble_eq_true rfl⟩ ⟨Nat.le_refl _, Nat.le_refl _⟩ rfl (Nat.le_of_ble_eq_true rfl) dX11_many_82) hI (by decide) (fun r_7 σ_8 H locs hpσ_8 hkσ_8 hI => ?_)
    obtain ⟨ahpσ_8, bhpσ_8, chpσ_8⟩ := hpσ_8
    have fr_σ_8 := fr_σ.call chpσ_8 rfl rfl
    replace hF := q_biX hF bhpσ_8
    exact q_reti E hr hlk hI ⟨(hF.trans hout), fr_σ_8⟩ dX11_many_85
  replace hF := q_ifn hF c_5
  by_cases c_9 : v1.toInt = 2
  · refine lv_tableIn (off := 77) (tgt := 86) hx hb dX11_many_9 (by omega) (by omega) (by rw [c_9]; rfl) (by decide) ?_
    replace hF := q_ifp hF c_9
    refine lv_aload_n hx hb dX11_many_86 rfl (lv_at hl 1 rfl) ?_
    refine lv_aload_n hx hb dX11_many_87 rfl (lv_at hl 0 rfl) ?_
    refine gs_X11_151_6 E hI (q_tk (k' := 6) hI (q_tk (k' := 1) hI ha rfl (by decide)) rfl (by decide)) dX11_many_88 ?_
    refine lv_topi (fun f_10 ef_10 => ?_)
    replace hF := q_letX hF ef_10
    refine q_ci (q_runV (As := [.int f_10]) (rest := []) E (hml.trans hl.1.symm) hI (c_X11_good l X σ a f_10 ha) kv_X11_156 ha ⟨rfl, by decide⟩ (show vwCl[10]? = some (RX11, TX11, 17) from rfl) rfl ⟨Nat.le_of_ble_eq_true rfl, Nat.le_of_ble_eq_true rfl⟩ ⟨Nat.le_refl _, Nat.le_refl _⟩ rfl (Nat.le_of_ble_eq_true rfl) dX11_many_91) hI (by decide) (fun r_11 σ_12 H locs hpσ_12 hkσ_12 hI => ?_)
    obtain ⟨ahpσ_12, bhpσ_12, chpσ_12⟩ := hpσ_12
    have fr_σ_12 := fr_σ.call chpσ_12 rfl rfl
    replace hF := q_biX hF bhpσ_12
    exact q_reti E hr hlk hI ⟨(hF.trans hout), fr_σ_12⟩ dX11_many_94
  replace hF := q_ifn hF c_9
  by_cases c_13 : v1.toInt = 3
  · refine lv_tableIn (off := 86) (tgt := 95) hx hb dX11_many_9 (by omega) (by omega) (by rw [c_13]; rfl) (by decide) ?_
    replace hF := q_ifp hF c_13
    refine lv_aload_n hx hb dX11_many_95 rfl (lv_at hl 1 rfl) ?_
    refine lv_aload_n hx hb dX11_many_96 rfl (lv_at hl 0 rfl) ?_
    refine gs_X11_189_6 E hI (q_tk (k' := 6) hI (q_tk (k' := 1) hI ha rfl (by decide)) rfl (by decide)) dX11_many_97 ?_
    refine lv_topi (fun f_14 ef_14 => ?_)
    replace hF := q_letX hF ef_14
    refine q_ci (q_runV (As := [.int f_14]) (rest := []) E (hml.trans hl.1.symm) hI (c_X11_good l X σ a f_14 ha) kv_X11_156 ha ⟨rfl, by decide⟩ (show vwCl[10]? = some (RX11, TX11, 17) from rfl) rfl ⟨Nat.le_of_ble_eq_true rfl, Nat.le_of_ble_eq_true rfl⟩ ⟨Nat.le_refl _, Nat.le_refl _⟩ rfl (Nat.le_of_ble_eq_true rfl) dX11_many_100) hI (by decide) (fun r_15 σ_16 H locs hpσ_16 hkσ_16 hI => ?_)
    obtain ⟨ahpσ_16, bhpσ_16, chpσ_16⟩ := hpσ_16
    have fr_σ_16 := fr_σ.call chpσ_16 rfl rfl
    replace hF := q_biX hF bhpσ_16
    exact q_reti E hr hlk hI ⟨(hF.trans hout), fr_σ_16⟩ dX11_many_103
  replace hF := q_ifn hF c_13
  by_cases c_17 : v1.toInt = 4
  · refine lv_tableIn (off := 95) (tgt := 104) hx hb dX11_many_9 (by omega) (by omega) (by rw [c_17]; rfl) (by decide) ?_
    replace hF := q_ifp hF c_17
    refine lv_aload_n hx hb dX11_many_104 rfl (lv_at hl 1 rfl) ?_
    refine lv_aload_n hx hb dX11_many_105 rfl (lv_at hl 0 rfl) ?_
    refine gs_X11_192_6 E hI (q_tk (k' := 6) hI (q_tk (k' := 1) hI ha rfl (by decide)) rfl (by decide)) dX11_many_106 ?_
    refine lv_topi (fun f_18 ef_18 => ?_)
    replace hF := q_letX hF ef_18
    have bf_18 : -2147483648 ≤ f_18.toInt ∧ f_18.toInt ≤ 4 := by rw [ef_18]; exact q_bd hI (q_tk (k' := 6) hI (q_tk (k' := 1) hI ha rfl (by decide)) rfl (by decide)) rfl
    refine q_ci (q_runV (As := [.int f_18]) (rest := []) E (hml.trans hl.1.symm) hI (c_X11_good l X σ a f_18 ha) kv_X11_156 ha ⟨rfl, by decide⟩ (show vwCl[10]? = some (RX11, TX11, 17) from rfl) rfl ⟨Nat.le_of_ble_eq_true rfl, Nat.le_of_ble_eq_true rfl⟩ ⟨Nat.le_refl _, Nat.le_refl _⟩ rfl (Nat.le_of_ble_eq_true rfl) dX11_many_109) hI (by decide) (fun r_19 σ_20 H locs hpσ_20 hkσ_20 hI => ?_)
    obtain ⟨ahpσ_20, bhpσ_20, chpσ_20⟩ := hpσ_20
    have fr_σ_20 := fr_σ.call chpσ_20 rfl rfl
    replace hF := q_biX hF bhpσ_20
    exact q_reti E hr hlk hI ⟨(hF.trans hout), fr_σ_20⟩ dX11_many_112
  replace hF := q_ifn hF c_17
  by_cases c_21 : v1.toInt = 5
  · refine lv_tableIn (off := 104) (tgt := 113) hx hb dX11_many_9 (by omega) (by omega) (by rw [c_21]; rfl) (by decide) ?_
    replace hF := q_ifp hF c_21
    refine lv_aload_n hx hb dX11_many_113 rfl (lv_at hl 1 rfl) ?_
    refine lv_aload_n hx hb dX11_many_114 rfl (lv_at hl 1 rfl) ?_
    refine gs_X11_42_11 E hI ha dX11_many_115 ?_
    refine gs_X11_195_1 E hI (q_tk (k' := 1) hI ha rfl (by decide)) dX11_many_118 ?_
    refine lv_topi (fun f_22 ef_22 => ?_)
    replace hF := q_letX hF ef_22
    refine q_ci (q_runV (As := [.int f_22]) (rest := []) E (hml.trans hl.1.symm) hI (c_X11_good l X σ a f_22 ha) kv_X11_156 ha ⟨rfl, by decide⟩ (show vwCl[10]? = some (RX11, TX11, 17) from rfl) rfl ⟨Nat.le_of_ble_eq_true rfl, Nat.le_of_ble_eq_true rfl⟩ ⟨Nat.le_refl _, Nat.le_refl _⟩ rfl (Nat.le_of_ble_eq_true rfl) dX11_many_121) hI (by decide) (fun r_23 σ_24 H locs hpσ_24 hkσ_24 hI => ?_)
    obtain ⟨ahpσ_24, bhpσ_24, chpσ_24⟩ := hpσ_24
    have fr_σ_24 := fr_σ.call chpσ_24 rfl rfl
    replace hF := q_biX hF bhpσ_24
    exact q_reti E hr hlk hI ⟨(hF.trans hout), fr_σ_24⟩ dX11_many_124
  replace hF := q_ifn hF c_21
  by_cases c_25 : v1.toInt = 6
  · refine lv_tableIn (off := 116) (tgt := 125) hx hb dX11_many_9 (by omega) (by omega) (by rw [c_25]; rfl) (by decide) ?_
    replace hF := q_ifp hF c_25
    refine lv_aload_n hx hb dX11_many_125 rfl (lv_at hl 0 rfl) ?_
    refine gs_X11_151_6 E hI (q_tk (k' := 6) hI (q_tk (k' := 1) hI ha rfl (by decide)) rfl (by decide)) dX11_many_126 ?_
    refine lv_topi (fun f_26 ef_26 => ?_)
    replace hF := q_letX hF ef_26
    refine q_if_ne (A := f_26.toInt) E rfl (tgt := 141) dX11_many_129 (by decide) (fun c_27 => ?_) (fun c_27 => ?_)
    · skip
      replace hF := q_ifn hF c_27
      refine lv_aload_n hx hb dX11_many_141 rfl (lv_at hl 1 rfl) ?_
      refine lv_aload_n hx hb dX11_many_142 rfl (lv_at hl 1 rfl) ?_
      refine gs_X11_42_11 E hI ha dX11_many_143 ?_
      refine gs_X11_198_1 E hI (q_tk (k' := 1) hI ha rfl (by decide)) dX11_many_146 ?_
      refine lv_topi (fun f_28 ef_28 => ?_)
      replace hF := q_letX hF ef_28
      refine q_ci (q_runV (As := [.int f_28]) (rest := []) E (hml.trans hl.1.symm) hI (c_X11_good l X σ a f_28 ha) kv_X11_156 ha ⟨rfl, by decide⟩ (show vwCl[10]? = some (RX11, TX11, 17) from rfl) rfl ⟨Nat.le_of_ble_eq_true rfl, Nat.le_of_ble_eq_true rfl⟩ ⟨Nat.le_refl _, Nat.le_refl _⟩ rfl (Nat.le_of_ble_eq_true rfl) dX11_many_149) hI (by decide) (fun r_29 σ_30 H locs hpσ_30 hkσ_30 hI => ?_)
      obtain ⟨ahpσ_30, bhpσ_30, chpσ_30⟩ := hpσ_30
      have fr_σ_30 := fr_σ.call chpσ_30 rfl rfl
      replace hF := q_biX hF bhpσ_30
      exact q_reti E hr hlk hI ⟨(hF.trans hout), fr_σ_30⟩ dX11_many_152
    · skip
      replace hF := q_ifp hF c_27
      refine lv_aload_n hx hb dX11_many_132 rfl (lv_at hl 1 rfl) ?_
      refine lv_bipush (v := 8) hx hb dX11_many_133 (by decide) ?_
      have kc_31 : (8 : Int32).toInt = 8 := rfl
      refine q_ci (q_runV (As := [.int 8]) (rest := []) E (hml.trans hl.1.symm) hI (c_X11_none l X σ a (8 : Int32) ha) kv_X11_109 ha ⟨rfl, by decide⟩ (show vwCl[10]? = some (RX11, TX11, 17) from rfl) rfl ⟨Nat.le_of_ble_eq_true rfl, Nat.le_of_ble_eq_true rfl⟩ ⟨Nat.le_refl _, Nat.le_refl _⟩ rfl (Nat.le_of_ble_eq_true rfl) dX11_many_135) hI (by decide) (fun r_32 σ_33 H locs hpσ_33 hkσ_33 hI => ?_)
      obtain ⟨ahpσ_33, bhpσ_33, chpσ_33⟩ := hpσ_33
      have fr_σ_33 := fr_σ.call chpσ_33 rfl rfl
      replace hF := q_biX hF bhpσ_33
      refine lv_goto (tgt := 152) hx hb dX11_many_138 (by decide) ?_
      exact q_reti E hr hlk hI ⟨(hF.trans hout), fr_σ_33⟩ dX11_many_152
  replace hF := q_ifn hF c_25
  by_cases c_34 : v1.toInt = 7
  · refine lv_tableIn (off := 144) (tgt := 153) hx hb dX11_many_9 (by omega) (by omega) (by rw [c_34]; rfl) (by decide) ?_
    replace hF := q_ifp hF c_34
    refine lv_aload_n hx hb dX11_many_153 rfl (lv_at hl 1 rfl) ?_
    refine lv_aload_n hx hb dX11_many_154 rfl (lv_at hl 1 rfl) ?_
    refine gs_X11_42_11 E hI ha dX11_many_155 ?_
    refine gs_X11_201_1 E hI (q_tk (k' := 1) hI ha rfl (by decide)) dX11_many_158 ?_
    refine gs_X11_205_3 E hI (q_tk (k' := 3) hI (q_tk (k' := 1) hI ha rfl (by decide)) rfl (by decide)) dX11_many_161 ?_
    refine lv_topi (fun f_35 ef_35 => ?_)
    replace hF := q_letX hF ef_35
    refine q_ci (q_runV (As := [.int f_35]) (rest := []) E (hml.trans hl.1.symm) hI (c_X11_good l X σ a f_35 ha) kv_X11_156 ha ⟨rfl, by decide⟩ (show vwCl[10]? = some (RX11, TX11, 17) from rfl) rfl ⟨Nat.le_of_ble_eq_true rfl, Nat.le_of_ble_eq_true rfl⟩ ⟨Nat.le_refl _, Nat.le_refl _⟩ rfl (Nat.le_of_ble_eq_true rfl) dX11_many_164) hI (by decide) (fun r_36 σ_37 H locs hpσ_37 hkσ_37 hI => ?_)
    obtain ⟨ahpσ_37, bhpσ_37, chpσ_37⟩ := hpσ_37
    have fr_σ_37 := fr_σ.call chpσ_37 rfl rfl
    replace hF := q_biX hF bhpσ_37
    exact q_reti E hr hlk hI ⟨(hF.trans hout), fr_σ_37⟩ dX11_many_167
  replace hF := q_ifn hF c_34
  by_cases c_38 : v1.toInt = 8
  · refine lv_tableIn (off := 159) (tgt := 168) hx hb dX11_many_9 (by omega) (by omega) (by rw [c_38]; rfl) (by decide) ?_
    replace hF := q_ifp hF c_38
    refine lv_aload_n hx hb dX11_many_168 rfl (lv_at hl 1 rfl) ?_
    refine lv_aload_n hx hb dX11_many_169 rfl (lv_at hl 1 rfl) ?_
    refine gs_X11_42_11 E hI ha dX11_many_170 ?_
    refine gs_X11_210_1 E hI (q_tk (k' := 1) hI ha rfl (by decide)) dX11_many_173 ?_
    refine lv_topi (fun f_39 ef_39 => ?_)
    replace hF := q_letX hF ef_39
    have bf_39 : 0 ≤ f_39.toInt ∧ f_39.toInt ≤ 1 := by rw [ef_39]; exact q_bd hI (q_tk (k' := 1) hI ha rfl (by decide)) rfl
    refine q_if_eq (A := f_39.toInt) E rfl (tgt := 183) dX11_many_176 (by decide) (fun c_40 => ?_) (fun c_40 => ?_)
    · skip
      replace hF := q_ifp hF c_40
      refine lv_iconst (v := 0) hx hb dX11_many_183 (by decide) ?_
      have kc_41 : (0 : Int32).toInt = 0 := rfl
      refine q_ci (q_runV (As := [.int 0]) (rest := []) E (hml.trans hl.1.symm) hI (c_X11_good l X σ a (0 : Int32) ha) kv_X11_156 ha ⟨rfl, by decide⟩ (show vwCl[10]? = some (RX11, TX11, 17) from rfl) rfl ⟨Nat.le_of_ble_eq_true rfl, Nat.le_of_ble_eq_true rfl⟩ ⟨Nat.le_refl _, Nat.le_refl _⟩ rfl (Nat.le_of_ble_eq_true rfl) dX11_many_184) hI (by decide) (fun r_42 σ_43 H locs hpσ_43 hkσ_43 hI => ?_)
      obtain ⟨ahpσ_43, bhpσ_43, chpσ_43⟩ := hpσ_43
      have fr_σ_43 := fr_σ.call chpσ_43 rfl rfl
      replace hF := q_biX hF bhpσ_43
      exact q_reti E hr hlk hI ⟨(hF.trans hout), fr_σ_43⟩ dX11_many_187
    · skip
      replace hF := q_ifn hF c_40
      refine lv_iconst (v := 1) hx hb dX11_many_179 (by decide) ?_
      refine lv_goto (tgt := 184) hx hb dX11_many_180 (by decide) ?_
      have kc_44 : (1 : Int32).toInt = 1 := rfl
      refine q_ci (q_runV (As := [.int 1]) (rest := []) E (hml.trans hl.1.symm) hI (c_X11_good l X σ a (1 : Int32) ha) kv_X11_156 ha ⟨rfl, by decide⟩ (show vwCl[10]? = some (RX11, TX11, 17) from rfl) rfl ⟨Nat.le_of_ble_eq_true rfl, Nat.le_of_ble_eq_true rfl⟩ ⟨Nat.le_refl _, Nat.le_refl _⟩ rfl (Nat.le_of_ble_eq_true rfl) dX11_many_184) hI (by decide) (fun r_45 σ_46 H locs hpσ_46 hkσ_46 hI => ?_)
      obtain ⟨ahpσ_46, bhpσ_46, chpσ_46⟩ := hpσ_46
      have fr_σ_46 := fr_σ.call chpσ_46 rfl rfl
      replace hF := q_biX hF bhpσ_46
      exact q_reti E hr hlk hI ⟨(hF.trans hout), fr_σ_46⟩ dX11_many_187
  replace hF := q_ifn hF c_38
  by_cases c_47 : v1.toInt = 9
  · refine lv_tableIn (off := 179) (tgt := 188) hx hb dX11_many_9 (by omega) (by omega) (by rw [c_47]; rfl) (by decide) ?_
    replace hF := q_ifp hF c_47
    refine lv_aload_n hx hb dX11_many_188 rfl (lv_at hl 1 rfl) ?_
    refine gs_X11_42_11 E hI ha dX11_many_189 ?_
    refine gs_X11_213_1 E hI (q_tk (k' := 1) hI ha rfl (by decide)) dX11_many_192 ?_
    refine lv_topi (fun f_48 ef_48 => ?_)
    replace hF := q_letX hF ef_48
    refine lv_iconst (v := (-1)) hx hb dX11_many_195 (by decide) ?_
    refine q_icmp_ne (A := f_48.toInt) (B := (-1)) E rfl (by decide) (tgt := 208) dX11_many_196 (by decide) (fun c_49 => ?_) (fun c_49 => ?_)
    · skip
      replace hF := q_ifn hF c_49
      refine lv_aload_n hx hb dX11_many_208 rfl (lv_at hl 1 rfl) ?_
      refine lv_aload_n hx hb dX11_many_209 rfl (lv_at hl 1 rfl) ?_
      refine gs_X11_42_11 E hI ha dX11_many_210 ?_
      refine gs_X11_213_1 E hI (q_tk (k' := 1) hI ha rfl (by decide)) dX11_many_213 ?_
      refine lv_topi (fun f_50 ef_50 => ?_)
      replace hF := q_letX hF ef_50
      refine q_ci (q_runV (As := [.int f_50]) (rest := []) E (hml.trans hl.1.symm) hI (c_X11_good l X σ a f_50 ha) kv_X11_156 ha ⟨rfl, by decide⟩ (show vwCl[10]? = some (RX11, TX11, 17) from rfl) rfl ⟨Nat.le_of_ble_eq_true rfl, Nat.le_of_ble_eq_true rfl⟩ ⟨Nat.le_refl _, Nat.le_refl _⟩ rfl (Nat.le_of_ble_eq_true rfl) dX11_many_216) hI (by decide) (fun r_51 σ_52 H locs hpσ_52 hkσ_52 hI => ?_)
      obtain ⟨ahpσ_52, bhpσ_52, chpσ_52⟩ := hpσ_52
      have fr_σ_52 := fr_σ.call chpσ_52 rfl rfl
      replace hF := q_biX hF bhpσ_52
      exact q_reti E hr hlk hI ⟨(hF.trans hout), fr_σ_52⟩ dX11_many_219
    · skip
      replace hF := q_ifp hF c_49
      refine lv_aload_n hx hb dX11_many_199 rfl (lv_at hl 1 rfl) ?_
      refine lv_bipush (v := 8) hx hb dX11_many_200 (by decide) ?_
      have kc_53 : (8 : Int32).toInt = 8 := rfl
      refine q_ci (q_runV (As := [.int 8]) (rest := []) E (hml.trans hl.1.symm) hI (c_X11_none l X σ a (8 : Int32) ha) kv_X11_109 ha ⟨rfl, by decide⟩ (show vwCl[10]? = some (RX11, TX11, 17) from rfl) rfl ⟨Nat.le_of_ble_eq_true rfl, Nat.le_of_ble_eq_true rfl⟩ ⟨Nat.le_refl _, Nat.le_refl _⟩ rfl (Nat.le_of_ble_eq_true rfl) dX11_many_202) hI (by decide) (fun r_54 σ_55 H locs hpσ_55 hkσ_55 hI => ?_)
      obtain ⟨ahpσ_55, bhpσ_55, chpσ_55⟩ := hpσ_55
      have fr_σ_55 := fr_σ.call chpσ_55 rfl rfl
      replace hF := q_biX hF bhpσ_55
      refine lv_goto (tgt := 219) hx hb dX11_many_205 (by decide) ?_
      exact q_reti E hr hlk hI ⟨(hF.trans hout), fr_σ_55⟩ dX11_many_219
  replace hF := q_ifn hF c_47
  by_cases c_56 : v1.toInt = 10
  · refine lv_tableIn (off := 211) (tgt := 220) hx hb dX11_many_9 (by omega) (by omega) (by rw [c_56]; rfl) (by decide) ?_
    replace hF := q_ifp hF c_56
    refine lv_aload_n hx hb dX11_many_220 rfl (lv_at hl 1 rfl) ?_
    refine lv_aload_n hx hb dX11_many_221 rfl (lv_at hl 1 rfl) ?_
    refine gs_X11_42_11 E hI ha dX11_many_222 ?_
    refine gs_X11_201_1 E hI (q_tk (k' := 1) hI ha rfl (by decide)) dX11_many_225 ?_
    refine gs_X11_216_3 E hI (q_tk (k' := 3) hI (q_tk (k' := 1) hI ha rfl (by decide)) rfl (by decide)) dX11_many_228 ?_
    refine lv_topi (fun f_57 ef_57 => ?_)
    replace hF := q_letX hF ef_57
    refine q_ci (q_runV (As := [.int f_57]) (rest := []) E (hml.trans hl.1.symm) hI (c_X11_good l X σ a f_57 ha) kv_X11_156 ha ⟨rfl, by decide⟩ (show vwCl[10]? = some (RX11, TX11, 17) from rfl) rfl ⟨Nat.le_of_ble_eq_true rfl, Nat.le_of_ble_eq_true rfl⟩ ⟨Nat.le_refl _, Nat.le_refl _⟩ rfl (Nat.le_of_ble_eq_true rfl) dX11_many_231) hI (by decide) (fun r_58 σ_59 H locs hpσ_59 hkσ_59 hI => ?_)
    obtain ⟨ahpσ_59, bhpσ_59, chpσ_59⟩ := hpσ_59
    have fr_σ_59 := fr_σ.call chpσ_59 rfl rfl
    replace hF := q_biX hF bhpσ_59
    exact q_reti E hr hlk hI ⟨(hF.trans hout), fr_σ_59⟩ dX11_many_234
  replace hF := q_ifn hF c_56
  refine lv_tableOut (tgt := 235) hx hb dX11_many_9 (by omega) (by decide) ?_
  refine lv_aload_n hx hb dX11_many_235 rfl (lv_at hl 1 rfl) ?_
  refine lv_iconst (v := 5) hx hb dX11_many_236 (by decide) ?_
  have kc_60 : (5 : Int32).toInt = 5 := rfl
  refine q_ci (q_runV (As := [.int 5]) (rest := []) E (hml.trans hl.1.symm) hI (c_X11_none l X σ a (5 : Int32) ha) kv_X11_109 ha ⟨rfl, by decide⟩ (show vwCl[10]? = some (RX11, TX11, 17) from rfl) rfl ⟨Nat.le_of_ble_eq_true rfl, Nat.le_of_ble_eq_true rfl⟩ ⟨Nat.le_refl _, Nat.le_refl _⟩ rfl (Nat.le_of_ble_eq_true rfl) dX11_many_237) hI (by decide) (fun r_61 σ_62 H locs hpσ_62 hkσ_62 hI => ?_)
  obtain ⟨ahpσ_62, bhpσ_62, chpσ_62⟩ := hpσ_62
  have fr_σ_62 := fr_σ.call chpσ_62 rfl rfl
  replace hF := q_biX hF bhpσ_62
  exact q_reti E hr hlk hI ⟨(hF.trans hout), fr_σ_62⟩ dX11_many_240

set_option maxRecDepth 100000 in
set_option maxHeartbeats 4000000 in
theorem c_X11_isPlayer (l : Launch) (X : XW) (σ : ST) (a : Nat) (v1 : Int32) (ha : q_kd X a = 11) : Met l yX11_isPlayer (q_ws yX11_isPlayer cX11_isPlayer 2 (some .boolean)) (q_rm 0 0) (q_P X σ [.ref a, .int v1]) (q_Qi X 9 σ (fun (r : Int32) (σ' : ST) => σ' = σ ∧ (0 ≤ r.toInt ∧ r.toInt ≤ 1) ∧ r = F_X11_isPlayer X σ a v1)) 0 0 (q_reg X) := by
  refine q_met 9 (by first | exact rfl | decide +kernel) rfl (Nat.le_of_ble_eq_true rfl) (fun p e s m below meth c E hml hr hlk hI ls hl => ?_)
  have hx := E.1
  have hb := E.2.1
  have hl : lv_has ls 2 [(0, .ref a), (1, .int v1)] := hl
  obtain ⟨out, hout⟩ : ∃ o, o = F_X11_isPlayer X σ a v1 := ⟨_, rfl⟩
  have hF := hout.symm
  unfold F_X11_isPlayer at hF
  refine lv_iload_n hx hb dX11_isPlayer_0 rfl (lv_at hl 1 rfl) ?_
  refine q_if_lt (A := v1.toInt) E rfl (tgt := 22) dX11_isPlayer_1 (by decide) (fun c_1 => ?_) (fun c_1 => ?_)
  · skip
    replace hF := q_ifp hF c_1
    refine lv_iconst (v := 0) hx hb dX11_isPlayer_22 (by decide) ?_
    have hrv : (0 : Int32).toInt = 0 := rfl
    exact q_retz E hr hlk hI ⟨by decide, by decide⟩ ⟨rfl, ⟨by decide, by decide⟩, (hF.trans hout)⟩ dX11_isPlayer_23
  · skip
    replace hF := q_ifn hF (Int.not_lt.mpr c_1)
    refine lv_iload_n hx hb dX11_isPlayer_4 rfl (lv_at hl 1 rfl) ?_
    refine lv_aload_n hx hb dX11_isPlayer_5 rfl (lv_at hl 0 rfl) ?_
    refine gs_X11_42_11 E hI ha dX11_isPlayer_6 ?_
    refine gs_X11_147_1 E hI (q_tk (k' := 1) hI ha rfl (by decide)) dX11_isPlayer_9 ?_
    refine gs_X11_151_6 E hI (q_tk (k' := 6) hI (q_tk (k' := 1) hI ha rfl (by decide)) rfl (by decide)) dX11_isPlayer_12 ?_
    refine lv_topi (fun f_2 ef_2 => ?_)
    replace hF := q_letX hF ef_2
    refine q_icmp_ge (A := v1.toInt) (B := f_2.toInt) E rfl rfl (tgt := 22) dX11_isPlayer_15 (by decide) (fun c_3 => ?_) (fun c_3 => ?_)
    · skip
      replace hF := q_ifn hF (Int.not_lt.mpr c_3)
      refine lv_iconst (v := 0) hx hb dX11_isPlayer_22 (by decide) ?_
      have hrv : (0 : Int32).toInt = 0 := rfl
      exact q_retz E hr hlk hI ⟨by decide, by decide⟩ ⟨rfl, ⟨by decide, by decide⟩, (hF.trans hout)⟩ dX11_isPlayer_23
    · skip
      replace hF := q_ifp hF c_3
      refine lv_iconst (v := 1) hx hb dX11_isPlayer_18 (by decide) ?_
      refine lv_goto (tgt := 23) hx hb dX11_isPlayer_19 (by decide) ?_
      have hrv : (1 : Int32).toInt = 1 := rfl
      exact q_retz E hr hlk hI ⟨by decide, by decide⟩ ⟨rfl, ⟨by decide, by decide⟩, (hF.trans hout)⟩ dX11_isPlayer_23

set_option maxRecDepth 100000 in
set_option maxHeartbeats 4000000 in
theorem c_X11_player (l : Launch) (X : XW) (σ : ST) (a : Nat) (v1 : Int32) (v2 : Int32) (ha : q_kd X a = 11) : Met l yX11_player (q_ws yX11_player cX11_player 4 (some .int)) (q_rm 3 66) (q_P X σ [.ref a, .int v1, .int v2]) (q_Qi X 8 σ (fun (r : Int32) (σ' : ST) => (r, σ') = F_X11_player X σ a v1 v2 ∧ q_ow [(11, 0)] [] X σ σ')) 0 0 (q_reg X) := by
  refine q_met 8 (by first | exact rfl | decide +kernel) rfl (Nat.le_of_ble_eq_true rfl) (fun p e s m below meth c E hml hr hlk hI ls hl => ?_)
  have hx := E.1
  have hb := E.2.1
  have hl : lv_has ls 4 [(0, .ref a), (1, .int v1), (2, .int v2)] := hl
  have fr_σ : q_ow [(11, 0)] [] X σ σ := q_ow.rf
  obtain ⟨out, hout⟩ : ∃ o, o = F_X11_player X σ a v1 v2 := ⟨_, rfl⟩
  have hF := hout.symm
  unfold F_X11_player at hF
  refine lv_aload_n hx hb dX11_player_0 rfl (lv_at hl 0 rfl) ?_
  refine lv_iload_n hx hb dX11_player_1 rfl (lv_at hl 1 rfl) ?_
  refine q_ci (q_runV (As := [.int v1]) (rest := []) E (hml.trans hl.1.symm) hI (c_X11_isPlayer l X σ a v1 ha) kv_X11_219 ha ⟨rfl, by decide⟩ (show vwCl[10]? = some (RX11, TX11, 17) from rfl) rfl ⟨Nat.le_of_ble_eq_true rfl, Nat.le_of_ble_eq_true rfl⟩ ⟨Nat.le_refl _, Nat.le_refl _⟩ rfl (Nat.le_of_ble_eq_true rfl) dX11_player_2) hI (by decide) (fun r_1 σ_2 H locs hpσ_2 hkσ_2 hI => ?_)
  obtain ⟨ahpσ_2, bhpσ_2, chpσ_2⟩ := hpσ_2
  rw [ahpσ_2] at hI
  replace hF := q_letX hF chpσ_2
  refine q_if_ne (A := r_1.toInt) E rfl (tgt := 14) dX11_player_5 (by decide) (fun c_3 => ?_) (fun c_3 => ?_)
  · skip
    replace hF := q_ifn hF c_3
    replace c_3 := q_ifOne bhpσ_2 c_3
    refine lv_aload_n hx hb dX11_player_14 rfl (lv_at hl 0 rfl) ?_
    refine gs_X11_42_11 E hI ha dX11_player_15 ?_
    refine gs_X11_222_1 E hI (q_tk (k' := 1) hI ha rfl (by decide)) dX11_player_18 ?_
    refine lv_astore_n (lv' := [(3, .ref (q_rf X (q_rf X a 8) 1)), (0, .ref a), (1, .int v1), (2, .int v2)]) hx hb dX11_player_21 rfl hl (by decide) rfl (fun ls hl => ?_)
    refine lv_iload_n hx hb dX11_player_22 rfl (lv_at hl 3 rfl) ?_
    by_cases c_4 : v2.toInt = 0
    · refine lv_tableIn (off := 37) (tgt := 60) hx hb dX11_player_23 (by first | (clear ahpσ_2 bhpσ_2 chpσ_2 c_3; omega) | omega) (by first | (clear ahpσ_2 bhpσ_2 chpσ_2 c_3; omega) | omega) (by rw [c_4]; rfl) (by decide) ?_
      replace hF := q_ifp hF c_4
      refine lv_aload_n hx hb dX11_player_60 rfl (lv_at hl 1 rfl) ?_
      refine lv_aload_n hx hb dX11_player_61 rfl (lv_at hl 0 rfl) ?_
      refine gs_X11_226_2 E hI (q_tk (k' := 2) hI (q_tk (k' := 1) hI ha rfl (by decide)) rfl (by decide)) dX11_player_62 ?_
      refine lv_iload_n hx hb dX11_player_65 rfl (lv_at hl 2 rfl) ?_
      refine q_ci (q_runV (As := [.int v1]) (rest := [.ref a]) E (hml.trans hl.1.symm) hI (c_X5_get l X σ (q_rf X (q_rf X (q_rf X a 8) 1) 3) v1 (q_tk (k' := 5) hI (q_tk (k' := 2) hI (q_tk (k' := 1) hI ha rfl (by decide)) rfl (by decide)) rfl (by decide))) kv_X11_232 (q_tk (k' := 5) hI (q_tk (k' := 2) hI (q_tk (k' := 1) hI ha rfl (by decide)) rfl (by decide)) rfl (by decide)) ⟨rfl, by decide⟩ (show vwCl[4]? = some (RX5, TX5, 1) from rfl) rfl ⟨Nat.le_of_ble_eq_true rfl, Nat.le_of_ble_eq_true rfl⟩ ⟨Nat.le_refl _, Nat.le_refl _⟩ rfl (Nat.le_of_ble_eq_true rfl) dX11_player_66) hI (by decide) (fun r_5 σ_6 H locs hpσ_6 hkσ_6 hI => ?_)
      obtain ⟨ahpσ_6, bhpσ_6⟩ := hpσ_6
      rw [ahpσ_6] at hI
      replace hF := q_letX hF bhpσ_6
      refine q_ci (q_runV (As := [.int r_5]) (rest := []) E (hml.trans hl.1.symm) hI (c_X11_good l X σ a r_5 ha) kv_X11_156 ha ⟨rfl, by decide⟩ (show vwCl[10]? = some (RX11, TX11, 17) from rfl) rfl ⟨Nat.le_of_ble_eq_true rfl, Nat.le_of_ble_eq_true rfl⟩ ⟨Nat.le_refl _, Nat.le_refl _⟩ rfl (Nat.le_of_ble_eq_true rfl) dX11_player_69) hI (by decide) (fun r_7 σ_8 H locs hpσ_8 hkσ_8 hI => ?_)
      obtain ⟨ahpσ_8, bhpσ_8, chpσ_8⟩ := hpσ_8
      have fr_σ_8 := fr_σ.call chpσ_8 rfl rfl
      replace hF := q_biX hF bhpσ_8
      exact q_reti E hr hlk hI ⟨(hF.trans hout), fr_σ_8⟩ dX11_player_72
    replace hF := q_ifn hF c_4
    by_cases c_9 : v2.toInt = 1
    · refine lv_tableIn (off := 50) (tgt := 73) hx hb dX11_player_23 (by first | (clear ahpσ_2 bhpσ_2 chpσ_2 c_3; omega) | omega) (by first | (clear ahpσ_2 bhpσ_2 chpσ_2 c_3; omega) | omega) (by rw [c_9]; rfl) (by decide) ?_
      replace hF := q_ifp hF c_9
      refine lv_aload_n hx hb dX11_player_73 rfl (lv_at hl 1 rfl) ?_
      refine lv_aload_n hx hb dX11_player_74 rfl (lv_at hl 0 rfl) ?_
      refine gs_X11_236_2 E hI (q_tk (k' := 2) hI (q_tk (k' := 1) hI ha rfl (by decide)) rfl (by decide)) dX11_player_75 ?_
      refine lv_iload_n hx hb dX11_player_78 rfl (lv_at hl 2 rfl) ?_
      refine q_ci (q_runV (As := [.int v1]) (rest := [.ref a]) E (hml.trans hl.1.symm) hI (c_X5_get l X σ (q_rf X (q_rf X (q_rf X a 8) 1) 4) v1 (q_tk (k' := 5) hI (q_tk (k' := 2) hI (q_tk (k' := 1) hI ha rfl (by decide)) rfl (by decide)) rfl (by decide))) kv_X11_232 (q_tk (k' := 5) hI (q_tk (k' := 2) hI (q_tk (k' := 1) hI ha rfl (by decide)) rfl (by decide)) rfl (by decide)) ⟨rfl, by decide⟩ (show vwCl[4]? = some (RX5, TX5, 1) from rfl) rfl ⟨Nat.le_of_ble_eq_true rfl, Nat.le_of_ble_eq_true rfl⟩ ⟨Nat.le_refl _, Nat.le_refl _⟩ rfl (Nat.le_of_ble_eq_true rfl) dX11_player_79) hI (by decide) (fun r_10 σ_11 H locs hpσ_11 hkσ_11 hI => ?_)
      obtain ⟨ahpσ_11, bhpσ_11⟩ := hpσ_11
      rw [ahpσ_11] at hI
      replace hF := q_letX hF bhpσ_11
      refine q_ci (q_runV (As := [.int r_10]) (rest := []) E (hml.trans hl.1.symm) hI (c_X11_good l X σ a r_10 ha) kv_X11_156 ha ⟨rfl, by decide⟩ (show vwCl[10]? = some (RX11, TX11, 17) from rfl) rfl ⟨Nat.le_of_ble_eq_true rfl, Nat.le_of_ble_eq_true rfl⟩ ⟨Nat.le_refl _, Nat.le_refl _⟩ rfl (Nat.le_of_ble_eq_true rfl) dX11_player_82) hI (by decide) (fun r_12 σ_13 H locs hpσ_13 hkσ_13 hI => ?_)
      obtain ⟨ahpσ_13, bhpσ_13, chpσ_13⟩ := hpσ_13
      have fr_σ_13 := fr_σ.call chpσ_13 rfl rfl
      replace hF := q_biX hF bhpσ_13
      exact q_reti E hr hlk hI ⟨(hF.trans hout), fr_σ_13⟩ dX11_player_85
    replace hF := q_ifn hF c_9
    by_cases c_14 : v2.toInt = 2
    · refine lv_tableIn (off := 63) (tgt := 86) hx hb dX11_player_23 (by first | (clear ahpσ_2 bhpσ_2 chpσ_2 c_3; omega) | omega) (by first | (clear ahpσ_2 bhpσ_2 chpσ_2 c_3; omega) | omega) (by rw [c_14]; rfl) (by decide) ?_
      replace hF := q_ifp hF c_14
      refine lv_aload_n hx hb dX11_player_86 rfl (lv_at hl 1 rfl) ?_
      refine lv_aload_n hx hb dX11_player_87 rfl (lv_at hl 0 rfl) ?_
      refine gs_X11_239_2 E hI (q_tk (k' := 2) hI (q_tk (k' := 1) hI ha rfl (by decide)) rfl (by decide)) dX11_player_88 ?_
      refine lv_iload_n hx hb dX11_player_91 rfl (lv_at hl 2 rfl) ?_
      refine q_ci (q_runV (As := [.int v1]) (rest := [.ref a]) E (hml.trans hl.1.symm) hI (c_X5_get l X σ (q_rf X (q_rf X (q_rf X a 8) 1) 2) v1 (q_tk (k' := 5) hI (q_tk (k' := 2) hI (q_tk (k' := 1) hI ha rfl (by decide)) rfl (by decide)) rfl (by decide))) kv_X11_232 (q_tk (k' := 5) hI (q_tk (k' := 2) hI (q_tk (k' := 1) hI ha rfl (by decide)) rfl (by decide)) rfl (by decide)) ⟨rfl, by decide⟩ (show vwCl[4]? = some (RX5, TX5, 1) from rfl) rfl ⟨Nat.le_of_ble_eq_true rfl, Nat.le_of_ble_eq_true rfl⟩ ⟨Nat.le_refl _, Nat.le_refl _⟩ rfl (Nat.le_of_ble_eq_true rfl) dX11_player_92) hI (by decide) (fun r_15 σ_16 H locs hpσ_16 hkσ_16 hI => ?_)
      obtain ⟨ahpσ_16, bhpσ_16⟩ := hpσ_16
      rw [ahpσ_16] at hI
      replace hF := q_letX hF bhpσ_16
      refine q_ci (q_runV (As := [.int r_15]) (rest := []) E (hml.trans hl.1.symm) hI (c_X11_good l X σ a r_15 ha) kv_X11_156 ha ⟨rfl, by decide⟩ (show vwCl[10]? = some (RX11, TX11, 17) from rfl) rfl ⟨Nat.le_of_ble_eq_true rfl, Nat.le_of_ble_eq_true rfl⟩ ⟨Nat.le_refl _, Nat.le_refl _⟩ rfl (Nat.le_of_ble_eq_true rfl) dX11_player_95) hI (by decide) (fun r_17 σ_18 H locs hpσ_18 hkσ_18 hI => ?_)
      obtain ⟨ahpσ_18, bhpσ_18, chpσ_18⟩ := hpσ_18
      have fr_σ_18 := fr_σ.call chpσ_18 rfl rfl
      replace hF := q_biX hF bhpσ_18
      exact q_reti E hr hlk hI ⟨(hF.trans hout), fr_σ_18⟩ dX11_player_98
    replace hF := q_ifn hF c_14
    by_cases c_19 : v2.toInt = 3
    · refine lv_tableIn (off := 76) (tgt := 99) hx hb dX11_player_23 (by first | (clear ahpσ_2 bhpσ_2 chpσ_2 c_3; omega) | omega) (by first | (clear ahpσ_2 bhpσ_2 chpσ_2 c_3; omega) | omega) (by rw [c_19]; rfl) (by decide) ?_
      replace hF := q_ifp hF c_19
      refine lv_aload_n hx hb dX11_player_99 rfl (lv_at hl 1 rfl) ?_
      refine lv_aload_n hx hb dX11_player_100 rfl (lv_at hl 0 rfl) ?_
      refine gs_X11_241_2 E hI (q_tk (k' := 2) hI (q_tk (k' := 1) hI ha rfl (by decide)) rfl (by decide)) dX11_player_101 ?_
      refine lv_iload_n hx hb dX11_player_104 rfl (lv_at hl 2 rfl) ?_
      refine q_ci (q_runV (As := [.int v1]) (rest := [.ref a]) E (hml.trans hl.1.symm) hI (c_X5_get l X σ (q_rf X (q_rf X (q_rf X a 8) 1) 5) v1 (q_tk (k' := 5) hI (q_tk (k' := 2) hI (q_tk (k' := 1) hI ha rfl (by decide)) rfl (by decide)) rfl (by decide))) kv_X11_232 (q_tk (k' := 5) hI (q_tk (k' := 2) hI (q_tk (k' := 1) hI ha rfl (by decide)) rfl (by decide)) rfl (by decide)) ⟨rfl, by decide⟩ (show vwCl[4]? = some (RX5, TX5, 1) from rfl) rfl ⟨Nat.le_of_ble_eq_true rfl, Nat.le_of_ble_eq_true rfl⟩ ⟨Nat.le_refl _, Nat.le_refl _⟩ rfl (Nat.le_of_ble_eq_true rfl) dX11_player_105) hI (by decide) (fun r_20 σ_21 H locs hpσ_21 hkσ_21 hI => ?_)
      obtain ⟨ahpσ_21, bhpσ_21⟩ := hpσ_21
      rw [ahpσ_21] at hI
      replace hF := q_letX hF bhpσ_21
      refine q_ci (q_runV (As := [.int r_20]) (rest := []) E (hml.trans hl.1.symm) hI (c_X11_good l X σ a r_20 ha) kv_X11_156 ha ⟨rfl, by decide⟩ (show vwCl[10]? = some (RX11, TX11, 17) from rfl) rfl ⟨Nat.le_of_ble_eq_true rfl, Nat.le_of_ble_eq_true rfl⟩ ⟨Nat.le_refl _, Nat.le_refl _⟩ rfl (Nat.le_of_ble_eq_true rfl) dX11_player_108) hI (by decide) (fun r_22 σ_23 H locs hpσ_23 hkσ_23 hI => ?_)
      obtain ⟨ahpσ_23, bhpσ_23, chpσ_23⟩ := hpσ_23
      have fr_σ_23 := fr_σ.call chpσ_23 rfl rfl
      replace hF := q_biX hF bhpσ_23
      exact q_reti E hr hlk hI ⟨(hF.trans hout), fr_σ_23⟩ dX11_player_111
    replace hF := q_ifn hF c_19
    by_cases c_24 : v2.toInt = 4
    · refine lv_tableIn (off := 89) (tgt := 112) hx hb dX11_player_23 (by first | (clear ahpσ_2 bhpσ_2 chpσ_2 c_3; omega) | omega) (by first | (clear ahpσ_2 bhpσ_2 chpσ_2 c_3; omega) | omega) (by rw [c_24]; rfl) (by decide) ?_
      replace hF := q_ifp hF c_24
      refine lv_aload_n hx hb dX11_player_112 rfl (lv_at hl 1 rfl) ?_
      refine lv_aload_n hx hb dX11_player_113 rfl (lv_at hl 0 rfl) ?_
      refine gs_X11_244_2 E hI (q_tk (k' := 2) hI (q_tk (k' := 1) hI ha rfl (by decide)) rfl (by decide)) dX11_player_114 ?_
      refine lv_iload_n hx hb dX11_player_117 rfl (lv_at hl 2 rfl) ?_
      refine q_ci (q_runV (As := [.int v1]) (rest := [.ref a]) E (hml.trans hl.1.symm) hI (c_X5_get l X σ (q_rf X (q_rf X (q_rf X a 8) 1) 6) v1 (q_tk (k' := 5) hI (q_tk (k' := 2) hI (q_tk (k' := 1) hI ha rfl (by decide)) rfl (by decide)) rfl (by decide))) kv_X11_232 (q_tk (k' := 5) hI (q_tk (k' := 2) hI (q_tk (k' := 1) hI ha rfl (by decide)) rfl (by decide)) rfl (by decide)) ⟨rfl, by decide⟩ (show vwCl[4]? = some (RX5, TX5, 1) from rfl) rfl ⟨Nat.le_of_ble_eq_true rfl, Nat.le_of_ble_eq_true rfl⟩ ⟨Nat.le_refl _, Nat.le_refl _⟩ rfl (Nat.le_of_ble_eq_true rfl) dX11_player_118) hI (by decide) (fun r_25 σ_26 H locs hpσ_26 hkσ_26 hI => ?_)
      obtain ⟨ahpσ_26, bhpσ_26⟩ := hpσ_26
      rw [ahpσ_26] at hI
      replace hF := q_letX hF bhpσ_26
      refine q_ci (q_runV (As := [.int r_25]) (rest := []) E (hml.trans hl.1.symm) hI (c_X11_good l X σ a r_25 ha) kv_X11_156 ha ⟨rfl, by decide⟩ (show vwCl[10]? = some (RX11, TX11, 17) from rfl) rfl ⟨Nat.le_of_ble_eq_true rfl, Nat.le_of_ble_eq_true rfl⟩ ⟨Nat.le_refl _, Nat.le_refl _⟩ rfl (Nat.le_of_ble_eq_true rfl) dX11_player_121) hI (by decide) (fun r_27 σ_28 H locs hpσ_28 hkσ_28 hI => ?_)
      obtain ⟨ahpσ_28, bhpσ_28, chpσ_28⟩ := hpσ_28
      have fr_σ_28 := fr_σ.call chpσ_28 rfl rfl
      replace hF := q_biX hF bhpσ_28
      exact q_reti E hr hlk hI ⟨(hF.trans hout), fr_σ_28⟩ dX11_player_124
    replace hF := q_ifn hF c_24
    by_cases c_29 : v2.toInt = 5
    · refine lv_tableIn (off := 102) (tgt := 125) hx hb dX11_player_23 (by first | (clear ahpσ_2 bhpσ_2 chpσ_2 c_3; omega) | omega) (by first | (clear ahpσ_2 bhpσ_2 chpσ_2 c_3; omega) | omega) (by rw [c_29]; rfl) (by decide) ?_
      replace hF := q_ifp hF c_29
      refine lv_aload_n hx hb dX11_player_125 rfl (lv_at hl 1 rfl) ?_
      refine lv_aload_n hx hb dX11_player_126 rfl (lv_at hl 0 rfl) ?_
      refine lv_iload_n hx hb dX11_player_127 rfl (lv_at hl 2 rfl) ?_
      refine q_ci (q_runV (As := [.int v1]) (rest := [.ref a]) E (hml.trans hl.1.symm) hI (c_X1_allLaidBy l X σ (q_rf X (q_rf X a 8) 1) v1 (q_tk (k' := 2) hI (q_tk (k' := 1) hI ha rfl (by decide)) rfl (by decide))) kv_X11_247 (q_tk (k' := 2) hI (q_tk (k' := 1) hI ha rfl (by decide)) rfl (by decide)) ⟨rfl, by decide⟩ (show vwCl[1]? = some (RX1, TX1, 7) from rfl) rfl ⟨Nat.le_of_ble_eq_true rfl, Nat.le_of_ble_eq_true rfl⟩ ⟨Nat.le_refl _, Nat.le_refl _⟩ rfl (Nat.le_of_ble_eq_true rfl) dX11_player_128) hI (by decide) (fun r_30 σ_31 H locs hpσ_31 hkσ_31 hI => ?_)
      obtain ⟨ahpσ_31, bhpσ_31⟩ := hpσ_31
      rw [ahpσ_31] at hI
      replace hF := q_letX hF bhpσ_31
      refine q_ci (q_runV (As := [.int r_30]) (rest := []) E (hml.trans hl.1.symm) hI (c_X11_good l X σ a r_30 ha) kv_X11_156 ha ⟨rfl, by decide⟩ (show vwCl[10]? = some (RX11, TX11, 17) from rfl) rfl ⟨Nat.le_of_ble_eq_true rfl, Nat.le_of_ble_eq_true rfl⟩ ⟨Nat.le_refl _, Nat.le_refl _⟩ rfl (Nat.le_of_ble_eq_true rfl) dX11_player_131) hI (by decide) (fun r_32 σ_33 H locs hpσ_33 hkσ_33 hI => ?_)
      obtain ⟨ahpσ_33, bhpσ_33, chpσ_33⟩ := hpσ_33
      have fr_σ_33 := fr_σ.call chpσ_33 rfl rfl
      replace hF := q_biX hF bhpσ_33
      exact q_reti E hr hlk hI ⟨(hF.trans hout), fr_σ_33⟩ dX11_player_134
    replace hF := q_ifn hF c_29
    refine lv_tableOut (tgt := 135) hx hb dX11_player_23 (by first | (clear ahpσ_2 bhpσ_2 chpσ_2 c_3; omega) | omega) (by decide) ?_
    refine lv_aload_n hx hb dX11_player_135 rfl (lv_at hl 1 rfl) ?_
    refine lv_iconst (v := 5) hx hb dX11_player_136 (by decide) ?_
    have kc_34 : (5 : Int32).toInt = 5 := rfl
    refine q_ci (q_runV (As := [.int 5]) (rest := []) E (hml.trans hl.1.symm) hI (c_X11_none l X σ a (5 : Int32) ha) kv_X11_109 ha ⟨rfl, by decide⟩ (show vwCl[10]? = some (RX11, TX11, 17) from rfl) rfl ⟨Nat.le_of_ble_eq_true rfl, Nat.le_of_ble_eq_true rfl⟩ ⟨Nat.le_refl _, Nat.le_refl _⟩ rfl (Nat.le_of_ble_eq_true rfl) dX11_player_137) hI (by decide) (fun r_35 σ_36 H locs hpσ_36 hkσ_36 hI => ?_)
    obtain ⟨ahpσ_36, bhpσ_36, chpσ_36⟩ := hpσ_36
    have fr_σ_36 := fr_σ.call chpσ_36 rfl rfl
    replace hF := q_biX hF bhpσ_36
    exact q_reti E hr hlk hI ⟨(hF.trans hout), fr_σ_36⟩ dX11_player_140
  · skip
    replace hF := q_ifp hF c_3
    refine lv_aload_n hx hb dX11_player_8 rfl (lv_at hl 0 rfl) ?_
    refine lv_iconst (v := 2) hx hb dX11_player_9 (by decide) ?_
    have kc_37 : (2 : Int32).toInt = 2 := rfl
    refine q_ci (q_runV (As := [.int 2]) (rest := []) E (hml.trans hl.1.symm) hI (c_X11_none l X σ a (2 : Int32) ha) kv_X11_109 ha ⟨rfl, by decide⟩ (show vwCl[10]? = some (RX11, TX11, 17) from rfl) rfl ⟨Nat.le_of_ble_eq_true rfl, Nat.le_of_ble_eq_true rfl⟩ ⟨Nat.le_refl _, Nat.le_refl _⟩ rfl (Nat.le_of_ble_eq_true rfl) dX11_player_10) hI (by decide) (fun r_38 σ_39 H locs hpσ_39 hkσ_39 hI => ?_)
    obtain ⟨ahpσ_39, bhpσ_39, chpσ_39⟩ := hpσ_39
    have fr_σ_39 := fr_σ.call chpσ_39 rfl rfl
    replace hF := q_biX hF bhpσ_39
    exact q_reti E hr hlk hI ⟨(hF.trans hout), fr_σ_39⟩ dX11_player_13

set_option maxRecDepth 100000 in
set_option maxHeartbeats 4000000 in
theorem c_X11_isKind (l : Launch) (X : XW) (σ : ST) (a : Nat) (v1 : Int32) (ha : q_kd X a = 11) : Met l yX11_isKind (q_ws yX11_isKind cX11_isKind 2 (some .boolean)) (q_rm 0 0) (q_P X σ [.ref a, .int v1]) (q_Qi X 9 σ (fun (r : Int32) (σ' : ST) => σ' = σ ∧ (0 ≤ r.toInt ∧ r.toInt ≤ 1) ∧ r = F_X11_isKind X σ a v1)) 0 0 (q_reg X) := by
  refine q_met 9 (by first | exact rfl | decide +kernel) rfl (Nat.le_of_ble_eq_true rfl) (fun p e s m below meth c E hml hr hlk hI ls hl => ?_)
  have hx := E.1
  have hb := E.2.1
  have hl : lv_has ls 2 [(0, .ref a), (1, .int v1)] := hl
  obtain ⟨out, hout⟩ : ∃ o, o = F_X11_isKind X σ a v1 := ⟨_, rfl⟩
  have hF := hout.symm
  unfold F_X11_isKind at hF
  refine lv_iload_n hx hb dX11_isKind_0 rfl (lv_at hl 1 rfl) ?_
  refine q_if_lt (A := v1.toInt) E rfl (tgt := 22) dX11_isKind_1 (by decide) (fun c_1 => ?_) (fun c_1 => ?_)
  · skip
    replace hF := q_ifp hF c_1
    refine lv_iconst (v := 0) hx hb dX11_isKind_22 (by decide) ?_
    have hrv : (0 : Int32).toInt = 0 := rfl
    exact q_retz E hr hlk hI ⟨by decide, by decide⟩ ⟨rfl, ⟨by decide, by decide⟩, (hF.trans hout)⟩ dX11_isKind_23
  · skip
    replace hF := q_ifn hF (Int.not_lt.mpr c_1)
    refine lv_iload_n hx hb dX11_isKind_4 rfl (lv_at hl 1 rfl) ?_
    refine lv_aload_n hx hb dX11_isKind_5 rfl (lv_at hl 0 rfl) ?_
    refine gs_X11_42_11 E hI ha dX11_isKind_6 ?_
    refine gs_X11_147_1 E hI (q_tk (k' := 1) hI ha rfl (by decide)) dX11_isKind_9 ?_
    refine gs_X11_183_6 E hI (q_tk (k' := 6) hI (q_tk (k' := 1) hI ha rfl (by decide)) rfl (by decide)) dX11_isKind_12 ?_
    refine lv_topi (fun f_2 ef_2 => ?_)
    replace hF := q_letX hF ef_2
    have bf_2 : -2147483648 ≤ f_2.toInt ∧ f_2.toInt ≤ 10 := by rw [ef_2]; exact q_bd hI (q_tk (k' := 6) hI (q_tk (k' := 1) hI ha rfl (by decide)) rfl (by decide)) rfl
    refine q_icmp_ge (A := v1.toInt) (B := f_2.toInt) E rfl rfl (tgt := 22) dX11_isKind_15 (by decide) (fun c_3 => ?_) (fun c_3 => ?_)
    · skip
      replace hF := q_ifn hF (Int.not_lt.mpr c_3)
      refine lv_iconst (v := 0) hx hb dX11_isKind_22 (by decide) ?_
      have hrv : (0 : Int32).toInt = 0 := rfl
      exact q_retz E hr hlk hI ⟨by decide, by decide⟩ ⟨rfl, ⟨by decide, by decide⟩, (hF.trans hout)⟩ dX11_isKind_23
    · skip
      replace hF := q_ifp hF c_3
      refine lv_iconst (v := 1) hx hb dX11_isKind_18 (by decide) ?_
      refine lv_goto (tgt := 23) hx hb dX11_isKind_19 (by decide) ?_
      have hrv : (1 : Int32).toInt = 1 := rfl
      exact q_retz E hr hlk hI ⟨by decide, by decide⟩ ⟨rfl, ⟨by decide, by decide⟩, (hF.trans hout)⟩ dX11_isKind_23
