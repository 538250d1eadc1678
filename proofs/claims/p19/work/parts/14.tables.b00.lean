set_option maxRecDepth 100000 in
set_option maxHeartbeats 4000000 in
theorem c_X9_readHead (l : Launch) (X : XW) (σ : ST) (a : Nat) (ha : q_kd X a = 9) : Met l yX9_readHead (q_ws yX9_readHead cX9_readHead 3 (some .boolean)) (q_rm 6 128) (q_P X σ [.ref a]) (q_Qi X 8 σ (fun (r : Int32) (σ' : ST) => (0 ≤ r.toInt ∧ r.toInt ≤ 1) ∧ (r, σ') = F_X9_readHead X σ a ∧ q_ow [(4, 2), (4, 3), (4, 4), (4, 5), (4, 6), (4, 7), (6, 0), (6, 1), (9, 2), (9, 3), (9, 4), (9, 5), (9, 6), (9, 7)] [] X σ σ')) 0 0 (q_reg X) := by
  refine q_met 8 (by first | exact rfl | decide +kernel) rfl (Nat.le_of_ble_eq_true rfl) (fun p e s m below meth c E hml hr hlk hI ls hl => ?_)
  have hx := E.1
  have hb := E.2.1
  have hl : lv_has ls 3 [(0, .ref a)] := hl
  have fr_σ : q_ow [(4, 2), (4, 3), (4, 4), (4, 5), (4, 6), (4, 7), (6, 0), (6, 1), (9, 2), (9, 3), (9, 4), (9, 5), (9, 6), (9, 7)] [] X σ σ := q_ow.rf
  obtain ⟨out, hout⟩ : ∃ o, o = F_X9_readHead X σ a := ⟨_, rfl⟩
  have hF := hout.symm
  unfold F_X9_readHead at hF
  refine lv_aload_n hx hb dX9_readHead_0 rfl (lv_at hl 0 rfl) ?_
  refine va_ldcS hx hb E.2.2.1 (kz_X9_55 E) dX9_readHead_1 ?_
  refine q_ci (q_runU (As := [.ref (q_sk X 0)]) (rest := []) E (hml.trans hl.1.symm) hI (c_X3_passWord l X σ a 0 (Or.inr ha) (by decide : 0 < 22)) ku_X9_57_9 ha ⟨rfl, by decide⟩ (show vwCl[8]? = some (RX9, TX9, 12) from rfl) rfl ⟨Nat.le_of_ble_eq_true rfl, Nat.le_of_ble_eq_true rfl⟩ ⟨Nat.le_refl _, Nat.le_refl _⟩ rfl (Nat.le_of_ble_eq_true rfl) dX9_readHead_3) hI (by decide) (fun r_1 σ_2 H locs hpσ_2 hkσ_2 hI => ?_)
  obtain ⟨ahpσ_2, bhpσ_2, chpσ_2⟩ := hpσ_2
  have fr_σ_2 := fr_σ.call chpσ_2 rfl rfl
  replace hF := q_biX hF bhpσ_2
  refine q_if_ne (A := r_1.toInt) E rfl (tgt := 11) dX9_readHead_6 (by decide) (fun c_3 => ?_) (fun c_3 => ?_)
  · skip
    replace hF := q_ifn hF c_3
    replace c_3 := q_ifOne ahpσ_2 c_3
    refine lv_aload_n hx hb dX9_readHead_11 rfl (lv_at hl 0 rfl) ?_
    refine lv_iconst (v := 2) hx hb dX9_readHead_12 (by decide) ?_
    refine lv_bipush (v := 10) hx hb dX9_readHead_13 (by decide) ?_
    have kc_4 : (2 : Int32).toInt = 2 := rfl
    have kc_5 : (10 : Int32).toInt = 10 := rfl
    refine q_ci (q_runU (As := [.int 2, .int 10]) (rest := []) E (hml.trans hl.1.symm) hI (c_X3_passNumber l X σ_2 a (2 : Int32) (10 : Int32) (Or.inr ha)) ku_X9_61_9 ha ⟨rfl, by decide⟩ (show vwCl[8]? = some (RX9, TX9, 12) from rfl) rfl ⟨Nat.le_of_ble_eq_true rfl, Nat.le_of_ble_eq_true rfl⟩ ⟨Nat.le_refl _, Nat.le_refl _⟩ rfl (Nat.le_of_ble_eq_true rfl) dX9_readHead_15) hI (by decide) (fun r_6 σ_7 H locs hpσ_7 hkσ_7 hI => ?_)
    obtain ⟨ahpσ_7, bhpσ_7, chpσ_7⟩ := hpσ_7
    have fr_σ_7 := fr_σ_2.call chpσ_7 rfl rfl
    replace hF := q_biX hF bhpσ_7
    refine lv_istore_n (lv' := [(1, .int r_6), (0, .ref a)]) hx hb dX9_readHead_18 rfl hl (by decide) rfl (fun ls hl => ?_)
    refine lv_iload_n hx hb dX9_readHead_19 rfl (lv_at hl 0 rfl) ?_
    refine lv_iconst (v := (-1)) hx hb dX9_readHead_20 (by decide) ?_
    refine q_icmp_eq (A := r_6.toInt) (B := (-1)) E rfl (by decide) (tgt := 33) dX9_readHead_21 (by decide) (fun c_8 => ?_) (fun c_8 => ?_)
    · skip
      replace hF := q_ifp hF c_8
      refine lv_iconst (v := 0) hx hb dX9_readHead_33 (by decide) ?_
      have hrv : (0 : Int32).toInt = 0 := rfl
      exact q_retz E hr hlk hI ⟨by decide, by decide⟩ ⟨⟨by decide, by decide⟩, (hF.trans hout), fr_σ_7⟩ dX9_readHead_34
    · skip
      replace hF := q_ifn hF c_8
      refine lv_aload_n hx hb dX9_readHead_24 rfl (lv_at hl 1 rfl) ?_
      refine va_ldcS hx hb E.2.2.1 (kz_X9_65 E) dX9_readHead_25 ?_
      refine q_ci (q_runU (As := [.ref (q_sk X 1)]) (rest := []) E (hml.trans hl.1.symm) hI (c_X3_passWord l X σ_7 a 1 (Or.inr ha) (by decide : 1 < 22)) ku_X9_57_9 ha ⟨rfl, by decide⟩ (show vwCl[8]? = some (RX9, TX9, 12) from rfl) rfl ⟨Nat.le_of_ble_eq_true rfl, Nat.le_of_ble_eq_true rfl⟩ ⟨Nat.le_refl _, Nat.le_refl _⟩ rfl (Nat.le_of_ble_eq_true rfl) dX9_readHead_27) hI (by decide) (fun r_9 σ_10 H locs hpσ_10 hkσ_10 hI => ?_)
      obtain ⟨ahpσ_10, bhpσ_10, chpσ_10⟩ := hpσ_10
      have fr_σ_10 := fr_σ_7.call chpσ_10 rfl rfl
      replace hF := q_biX hF bhpσ_10
      refine q_if_ne (A := r_9.toInt) E rfl (tgt := 35) dX9_readHead_30 (by decide) (fun c_11 => ?_) (fun c_11 => ?_)
      · skip
        replace hF := q_ifn hF c_11
        replace c_11 := q_ifOne ahpσ_10 c_11
        refine lv_aload_n hx hb dX9_readHead_35 rfl (lv_at hl 1 rfl) ?_
        refine lv_iconst (v := 1) hx hb dX9_readHead_36 (by decide) ?_
        refine lv_bipush (v := 8) hx hb dX9_readHead_37 (by decide) ?_
        have kc_12 : (1 : Int32).toInt = 1 := rfl
        have kc_13 : (8 : Int32).toInt = 8 := rfl
        refine q_ci (q_runU (As := [.int 1, .int 8]) (rest := []) E (hml.trans hl.1.symm) hI (c_X3_passNumber l X σ_10 a (1 : Int32) (8 : Int32) (Or.inr ha)) ku_X9_61_9 ha ⟨rfl, by decide⟩ (show vwCl[8]? = some (RX9, TX9, 12) from rfl) rfl ⟨Nat.le_of_ble_eq_true rfl, Nat.le_of_ble_eq_true rfl⟩ ⟨Nat.le_refl _, Nat.le_refl _⟩ rfl (Nat.le_of_ble_eq_true rfl) dX9_readHead_39) hI (by decide) (fun r_14 σ_15 H locs hpσ_15 hkσ_15 hI => ?_)
        obtain ⟨ahpσ_15, bhpσ_15, chpσ_15⟩ := hpσ_15
        have fr_σ_15 := fr_σ_10.call chpσ_15 rfl rfl
        replace hF := q_biX hF bhpσ_15
        refine lv_istore_n (lv' := [(2, .int r_14), (1, .int r_6), (0, .ref a)]) hx hb dX9_readHead_42 rfl hl (by decide) rfl (fun ls hl => ?_)
        refine lv_iload_n hx hb dX9_readHead_43 rfl (lv_at hl 0 rfl) ?_
        refine lv_iconst (v := (-1)) hx hb dX9_readHead_44 (by decide) ?_
        refine q_icmp_ne (A := r_14.toInt) (B := (-1)) E rfl (by decide) (tgt := 50) dX9_readHead_45 (by decide) (fun c_16 => ?_) (fun c_16 => ?_)
        · skip
          replace hF := q_ifn hF c_16
          refine lv_aload_n hx hb dX9_readHead_50 rfl (lv_at hl 2 rfl) ?_
          refine gs_X9_12_9 E hI ha dX9_readHead_51 ?_
          refine gs_X9_67_1 E hI (q_tk (k' := 1) hI ha rfl (by decide)) dX9_readHead_54 ?_
          refine lv_iload_n hx hb dX9_readHead_57 rfl (lv_at hl 1 rfl) ?_
          refine ps_X9_71_6 E hI (q_tk (k' := 6) hI (q_tk (k' := 1) hI ha rfl (by decide)) rfl (by decide)) (by decide) (by first | (clear ahpσ_2 bhpσ_2 chpσ_2 c_3 kc_5 bhpσ_7 chpσ_7 ahpσ_10 bhpσ_10 chpσ_10 c_11 kc_13 bhpσ_15 chpσ_15; omega) | omega) (by first | (clear ahpσ_2 bhpσ_2 chpσ_2 c_3 kc_4 bhpσ_7 chpσ_7 ahpσ_10 bhpσ_10 chpσ_10 c_11 kc_13 bhpσ_15 chpσ_15; omega) | omega) dX9_readHead_58 (fun H locs σ_17 hσ_17 hI => ?_)
          replace hF := q_letX hF hσ_17
          have fr_σ_17 := fr_σ_15.si hσ_17 (q_tk (k' := 6) hI (q_tk (k' := 1) hI ha rfl (by decide)) rfl (by decide)) rfl
          refine lv_aload_n hx hb dX9_readHead_61 rfl (lv_at hl 2 rfl) ?_
          refine gs_X9_12_9 E hI ha dX9_readHead_62 ?_
          refine gs_X9_67_1 E hI (q_tk (k' := 1) hI ha rfl (by decide)) dX9_readHead_65 ?_
          refine lv_iload_n hx hb dX9_readHead_68 rfl (lv_at hl 0 rfl) ?_
          refine ps_X9_75_6 E hI (q_tk (k' := 6) hI (q_tk (k' := 1) hI ha rfl (by decide)) rfl (by decide)) (by decide) dX9_readHead_69 (fun H locs σ_18 hσ_18 hI => ?_)
          replace hF := q_letX hF hσ_18
          have fr_σ_18 := fr_σ_17.si hσ_18 (q_tk (k' := 6) hI (q_tk (k' := 1) hI ha rfl (by decide)) rfl (by decide)) rfl
          refine lv_aload_n hx hb dX9_readHead_72 rfl (lv_at hl 2 rfl) ?_
          refine q_ci (q_runU (As := []) (rest := []) E (hml.trans hl.1.symm) hI (c_X3_passSemicolon l X σ_18 a (Or.inr ha)) ku_X9_77_9 ha ⟨rfl, by decide⟩ (show vwCl[8]? = some (RX9, TX9, 12) from rfl) rfl ⟨Nat.le_of_ble_eq_true rfl, Nat.le_of_ble_eq_true rfl⟩ ⟨Nat.le_refl _, Nat.le_refl _⟩ rfl (Nat.le_of_ble_eq_true rfl) dX9_readHead_73) hI (by decide) (fun r_19 σ_20 H locs hpσ_20 hkσ_20 hI => ?_)
          obtain ⟨ahpσ_20, bhpσ_20, chpσ_20⟩ := hpσ_20
          have fr_σ_20 := fr_σ_18.call chpσ_20 rfl rfl
          replace hF := q_biX hF bhpσ_20
          exact q_retz E hr hlk hI ⟨by omega, by omega⟩ ⟨⟨by omega, by omega⟩, (hF.trans hout), fr_σ_20⟩ dX9_readHead_76
        · skip
          replace hF := q_ifp hF c_16
          refine lv_iconst (v := 0) hx hb dX9_readHead_48 (by decide) ?_
          have hrv : (0 : Int32).toInt = 0 := rfl
          exact q_retz E hr hlk hI ⟨by decide, by decide⟩ ⟨⟨by decide, by decide⟩, (hF.trans hout), fr_σ_15⟩ dX9_readHead_49
      · skip
        replace hF := q_ifp hF c_11
        refine lv_iconst (v := 0) hx hb dX9_readHead_33 (by decide) ?_
        have hrv : (0 : Int32).toInt = 0 := rfl
        exact q_retz E hr hlk hI ⟨by decide, by decide⟩ ⟨⟨by decide, by decide⟩, (hF.trans hout), fr_σ_10⟩ dX9_readHead_34
  · skip
    replace hF := q_ifp hF c_3
    refine lv_iconst (v := 0) hx hb dX9_readHead_9 (by decide) ?_
    have hrv : (0 : Int32).toInt = 0 := rfl
    exact q_retz E hr hlk hI ⟨by decide, by decide⟩ ⟨⟨by decide, by decide⟩, (hF.trans hout), fr_σ_2⟩ dX9_readHead_10

set_option maxRecDepth 100000 in
set_option maxHeartbeats 4000000 in
theorem c_X9_readLaw (l : Launch) (X : XW) (σ : ST) (a : Nat) (ha : q_kd X a = 9) : Met l yX9_readLaw (q_ws yX9_readLaw cX9_readLaw 1 (some .boolean)) (q_rm 5 107) (q_P X σ [.ref a]) (q_Qi X 8 σ (fun (r : Int32) (σ' : ST) => (0 ≤ r.toInt ∧ r.toInt ≤ 1) ∧ (r, σ') = F_X9_readLaw X σ a ∧ q_ow [(4, 2), (4, 3), (4, 4), (4, 5), (4, 6), (4, 7), (6, 2), (9, 2), (9, 3), (9, 4), (9, 5), (9, 6), (9, 7), (9, 9)] [] X σ σ')) 0 0 (q_reg X) := by
  refine q_met 8 (by first | exact rfl | decide +kernel) rfl (Nat.le_of_ble_eq_true rfl) (fun p e s m below meth c E hml hr hlk hI ls hl => ?_)
  have hx := E.1
  have hb := E.2.1
  have hl : lv_has ls 1 [(0, .ref a)] := hl
  have fr_σ : q_ow [(4, 2), (4, 3), (4, 4), (4, 5), (4, 6), (4, 7), (6, 2), (9, 2), (9, 3), (9, 4), (9, 5), (9, 6), (9, 7), (9, 9)] [] X σ σ := q_ow.rf
  obtain ⟨out, hout⟩ : ∃ o, o = F_X9_readLaw X σ a := ⟨_, rfl⟩
  have hF := hout.symm
  unfold F_X9_readLaw at hF
  refine lv_aload_n hx hb dX9_readLaw_0 rfl (lv_at hl 0 rfl) ?_
  refine gs_X9_18_9 E hI ha dX9_readLaw_1 ?_
  refine lv_topi (fun f_1 ef_1 => ?_)
  replace hF := q_letX hF ef_1
  have bf_1 : 0 ≤ f_1.toInt ∧ f_1.toInt ≤ 1 := by rw [ef_1]; exact q_bd hI ha rfl
  refine q_if_eq (A := f_1.toInt) E rfl (tgt := 13) dX9_readLaw_4 (by decide) (fun c_2 => ?_) (fun c_2 => ?_)
  · skip
    replace hF := q_ifp hF c_2
    refine lv_aload_n hx hb dX9_readLaw_13 rfl (lv_at hl 0 rfl) ?_
    refine lv_iconst (v := 1) hx hb dX9_readLaw_14 (by decide) ?_
    refine ps_X9_18_9 E hI ha (by decide) (by decide) (by decide) dX9_readLaw_15 (fun H locs σ_3 hσ_3 hI => ?_)
    replace hF := q_letX hF hσ_3
    have fr_σ_3 := fr_σ.si hσ_3 ha rfl
    refine lv_aload_n hx hb dX9_readLaw_18 rfl (lv_at hl 0 rfl) ?_
    refine q_cv (q_runU (As := []) (rest := []) E (hml.trans hl.1.symm) hI (c_X3_advance l X σ_3 a (Or.inr ha)) ku_X9_107_9 ha ⟨rfl, by decide⟩ (show vwCl[8]? = some (RX9, TX9, 12) from rfl) rfl ⟨Nat.le_of_ble_eq_true rfl, Nat.le_of_ble_eq_true rfl⟩ ⟨Nat.le_refl _, Nat.le_refl _⟩ rfl (Nat.le_of_ble_eq_true rfl) dX9_readLaw_19) hI (by decide) (fun σ_5 H locs hpσ_5 hkσ_5 hI => ?_)
    obtain ⟨ahpσ_5, bhpσ_5⟩ := hpσ_5
    have fr_σ_5 := fr_σ_3.call bhpσ_5 rfl rfl
    replace hF := q_letX hF ahpσ_5
    refine lv_aload_n hx hb dX9_readLaw_22 rfl (lv_at hl 0 rfl) ?_
    refine va_ldcS hx hb E.2.2.1 (kz_X9_110 E) dX9_readLaw_23 ?_
    refine q_ci (q_runU (As := [.ref (q_sk X 3)]) (rest := []) E (hml.trans hl.1.symm) hI (c_X3_isWord l X σ_5 a 3 (Or.inr ha) (by decide : 3 < 22)) ku_X9_82_9 ha ⟨rfl, by decide⟩ (show vwCl[8]? = some (RX9, TX9, 12) from rfl) rfl ⟨Nat.le_of_ble_eq_true rfl, Nat.le_of_ble_eq_true rfl⟩ ⟨Nat.le_refl _, Nat.le_refl _⟩ rfl (Nat.le_of_ble_eq_true rfl) dX9_readLaw_25) hI (by decide) (fun r_6 σ_7 H locs hpσ_7 hkσ_7 hI => ?_)
    obtain ⟨ahpσ_7, bhpσ_7, chpσ_7⟩ := hpσ_7
    rw [ahpσ_7] at hI
    replace hF := q_letX hF chpσ_7
    refine q_if_eq (A := r_6.toInt) E rfl (tgt := 45) dX9_readLaw_28 (by decide) (fun c_8 => ?_) (fun c_8 => ?_)
    · skip
      replace hF := q_ifp hF c_8
      refine lv_aload_n hx hb dX9_readLaw_45 rfl (lv_at hl 0 rfl) ?_
      refine va_ldcS hx hb E.2.2.1 (kz_X9_114 E) dX9_readLaw_46 ?_
      refine q_ci (q_runU (As := [.ref (q_sk X 4)]) (rest := []) E (hml.trans hl.1.symm) hI (c_X3_isWord l X σ_5 a 4 (Or.inr ha) (by decide : 4 < 22)) ku_X9_82_9 ha ⟨rfl, by decide⟩ (show vwCl[8]? = some (RX9, TX9, 12) from rfl) rfl ⟨Nat.le_of_ble_eq_true rfl, Nat.le_of_ble_eq_true rfl⟩ ⟨Nat.le_refl _, Nat.le_refl _⟩ rfl (Nat.le_of_ble_eq_true rfl) dX9_readLaw_48) hI (by decide) (fun r_9 σ_10 H locs hpσ_10 hkσ_10 hI => ?_)
      obtain ⟨ahpσ_10, bhpσ_10, chpσ_10⟩ := hpσ_10
      rw [ahpσ_10] at hI
      replace hF := q_letX hF chpσ_10
      refine q_if_eq (A := r_9.toInt) E rfl (tgt := 68) dX9_readLaw_51 (by decide) (fun c_11 => ?_) (fun c_11 => ?_)
      · skip
        replace hF := q_ifp hF c_11
        refine lv_aload_n hx hb dX9_readLaw_68 rfl (lv_at hl 0 rfl) ?_
        refine va_ldcS hx hb E.2.2.1 (kz_X9_116 E) dX9_readLaw_69 ?_
        refine q_ci (q_runU (As := [.ref (q_sk X 5)]) (rest := []) E (hml.trans hl.1.symm) hI (c_X3_isWord l X σ_5 a 5 (Or.inr ha) (by decide : 5 < 22)) ku_X9_82_9 ha ⟨rfl, by decide⟩ (show vwCl[8]? = some (RX9, TX9, 12) from rfl) rfl ⟨Nat.le_of_ble_eq_true rfl, Nat.le_of_ble_eq_true rfl⟩ ⟨Nat.le_refl _, Nat.le_refl _⟩ rfl (Nat.le_of_ble_eq_true rfl) dX9_readLaw_71) hI (by decide) (fun r_12 σ_13 H locs hpσ_13 hkσ_13 hI => ?_)
        obtain ⟨ahpσ_13, bhpσ_13, chpσ_13⟩ := hpσ_13
        rw [ahpσ_13] at hI
        replace hF := q_letX hF chpσ_13
        refine q_if_eq (A := r_12.toInt) E rfl (tgt := 91) dX9_readLaw_74 (by decide) (fun c_14 => ?_) (fun c_14 => ?_)
        · skip
          replace hF := q_ifp hF c_14
          refine lv_aload_n hx hb dX9_readLaw_91 rfl (lv_at hl 0 rfl) ?_
          refine lv_iconst (v := 2) hx hb dX9_readLaw_92 (by decide) ?_
          have kc_15 : (2 : Int32).toInt = 2 := rfl
          refine q_ci (q_runU (As := [.int 2]) (rest := []) E (hml.trans hl.1.symm) hI (c_X3_fails l X σ_5 a (2 : Int32) (Or.inr ha)) ku_X9_103_9 ha ⟨rfl, by decide⟩ (show vwCl[8]? = some (RX9, TX9, 12) from rfl) rfl ⟨Nat.le_of_ble_eq_true rfl, Nat.le_of_ble_eq_true rfl⟩ ⟨Nat.le_refl _, Nat.le_refl _⟩ rfl (Nat.le_of_ble_eq_true rfl) dX9_readLaw_93) hI (by decide) (fun r_16 σ_17 H locs hpσ_17 hkσ_17 hI => ?_)
          obtain ⟨ahpσ_17, bhpσ_17, chpσ_17, dhpσ_17⟩ := hpσ_17
          have fr_σ_17 := fr_σ_5.call dhpσ_17 rfl rfl
          replace hF := q_biX hF chpσ_17
          exact q_retz E hr hlk hI ⟨by omega, by omega⟩ ⟨⟨by omega, by omega⟩, (hF.trans hout), fr_σ_17⟩ dX9_readLaw_96
        · skip
          replace hF := q_ifn hF c_14
          replace c_14 := q_ifOne bhpσ_13 c_14
          refine lv_aload_n hx hb dX9_readLaw_77 rfl (lv_at hl 0 rfl) ?_
          refine gs_X9_12_9 E hI ha dX9_readLaw_78 ?_
          refine gs_X9_67_1 E hI (q_tk (k' := 1) hI ha rfl (by decide)) dX9_readLaw_81 ?_
          refine lv_iconst (v := 2) hx hb dX9_readLaw_84 (by decide) ?_
          refine ps_X9_112_6 E hI (q_tk (k' := 6) hI (q_tk (k' := 1) hI ha rfl (by decide)) rfl (by decide)) (by decide) dX9_readLaw_85 (fun H locs σ_18 hσ_18 hI => ?_)
          replace hF := q_letX hF hσ_18
          have fr_σ_18 := fr_σ_5.si hσ_18 (q_tk (k' := 6) hI (q_tk (k' := 1) hI ha rfl (by decide)) rfl (by decide)) rfl
          refine lv_goto (tgt := 97) hx hb dX9_readLaw_88 (by decide) ?_
          refine lv_aload_n hx hb dX9_readLaw_97 rfl (lv_at hl 0 rfl) ?_
          refine q_cv (q_runU (As := []) (rest := []) E (hml.trans hl.1.symm) hI (c_X3_advance l X σ_18 a (Or.inr ha)) ku_X9_107_9 ha ⟨rfl, by decide⟩ (show vwCl[8]? = some (RX9, TX9, 12) from rfl) rfl ⟨Nat.le_of_ble_eq_true rfl, Nat.le_of_ble_eq_true rfl⟩ ⟨Nat.le_refl _, Nat.le_refl _⟩ rfl (Nat.le_of_ble_eq_true rfl) dX9_readLaw_98) hI (by decide) (fun σ_20 H locs hpσ_20 hkσ_20 hI => ?_)
          obtain ⟨ahpσ_20, bhpσ_20⟩ := hpσ_20
          have fr_σ_20 := fr_σ_18.call bhpσ_20 rfl rfl
          replace hF := q_letX hF ahpσ_20
          refine lv_aload_n hx hb dX9_readLaw_101 rfl (lv_at hl 0 rfl) ?_
          refine q_ci (q_runU (As := []) (rest := []) E (hml.trans hl.1.symm) hI (c_X3_passSemicolon l X σ_20 a (Or.inr ha)) ku_X9_77_9 ha ⟨rfl, by decide⟩ (show vwCl[8]? = some (RX9, TX9, 12) from rfl) rfl ⟨Nat.le_of_ble_eq_true rfl, Nat.le_of_ble_eq_true rfl⟩ ⟨Nat.le_refl _, Nat.le_refl _⟩ rfl (Nat.le_of_ble_eq_true rfl) dX9_readLaw_102) hI (by decide) (fun r_21 σ_22 H locs hpσ_22 hkσ_22 hI => ?_)
          obtain ⟨ahpσ_22, bhpσ_22, chpσ_22⟩ := hpσ_22
          have fr_σ_22 := fr_σ_20.call chpσ_22 rfl rfl
          replace hF := q_biX hF bhpσ_22
          exact q_retz E hr hlk hI ⟨by omega, by omega⟩ ⟨⟨by omega, by omega⟩, (hF.trans hout), fr_σ_22⟩ dX9_readLaw_105
      · skip
        replace hF := q_ifn hF c_11
        replace c_11 := q_ifOne bhpσ_10 c_11
        refine lv_aload_n hx hb dX9_readLaw_54 rfl (lv_at hl 0 rfl) ?_
        refine gs_X9_12_9 E hI ha dX9_readLaw_55 ?_
        refine gs_X9_67_1 E hI (q_tk (k' := 1) hI ha rfl (by decide)) dX9_readLaw_58 ?_
        refine lv_iconst (v := 1) hx hb dX9_readLaw_61 (by decide) ?_
        refine ps_X9_112_6 E hI (q_tk (k' := 6) hI (q_tk (k' := 1) hI ha rfl (by decide)) rfl (by decide)) (by decide) dX9_readLaw_62 (fun H locs σ_23 hσ_23 hI => ?_)
        replace hF := q_letX hF hσ_23
        have fr_σ_23 := fr_σ_5.si hσ_23 (q_tk (k' := 6) hI (q_tk (k' := 1) hI ha rfl (by decide)) rfl (by decide)) rfl
        refine lv_goto (tgt := 97) hx hb dX9_readLaw_65 (by decide) ?_
        refine lv_aload_n hx hb dX9_readLaw_97 rfl (lv_at hl 0 rfl) ?_
        refine q_cv (q_runU (As := []) (rest := []) E (hml.trans hl.1.symm) hI (c_X3_advance l X σ_23 a (Or.inr ha)) ku_X9_107_9 ha ⟨rfl, by decide⟩ (show vwCl[8]? = some (RX9, TX9, 12) from rfl) rfl ⟨Nat.le_of_ble_eq_true rfl, Nat.le_of_ble_eq_true rfl⟩ ⟨Nat.le_refl _, Nat.le_refl _⟩ rfl (Nat.le_of_ble_eq_true rfl) dX9_readLaw_98) hI (by decide) (fun σ_25 H locs hpσ_25 hkσ_25 hI => ?_)
        obtain ⟨ahpσ_25, bhpσ_25⟩ := hpσ_25
        have fr_σ_25 := fr_σ_23.call bhpσ_25 rfl rfl
        replace hF := q_letX hF ahpσ_25
        refine lv_aload_n hx hb dX9_readLaw_101 rfl (lv_at hl 0 rfl) ?_
        refine q_ci (q_runU (As := []) (rest := []) E (hml.trans hl.1.symm) hI (c_X3_passSemicolon l X σ_25 a (Or.inr ha)) ku_X9_77_9 ha ⟨rfl, by decide⟩ (show vwCl[8]? = some (RX9, TX9, 12) from rfl) rfl ⟨Nat.le_of_ble_eq_true rfl, Nat.le_of_ble_eq_true rfl⟩ ⟨Nat.le_refl _, Nat.le_refl _⟩ rfl (Nat.le_of_ble_eq_true rfl) dX9_readLaw_102) hI (by decide) (fun r_26 σ_27 H locs hpσ_27 hkσ_27 hI => ?_)
        obtain ⟨ahpσ_27, bhpσ_27, chpσ_27⟩ := hpσ_27
        have fr_σ_27 := fr_σ_25.call chpσ_27 rfl rfl
        replace hF := q_biX hF bhpσ_27
        exact q_retz E hr hlk hI ⟨by omega, by omega⟩ ⟨⟨by omega, by omega⟩, (hF.trans hout), fr_σ_27⟩ dX9_readLaw_105
    · skip
      replace hF := q_ifn hF c_8
      replace c_8 := q_ifOne bhpσ_7 c_8
      refine lv_aload_n hx hb dX9_readLaw_31 rfl (lv_at hl 0 rfl) ?_
      refine gs_X9_12_9 E hI ha dX9_readLaw_32 ?_
      refine gs_X9_67_1 E hI (q_tk (k' := 1) hI ha rfl (by decide)) dX9_readLaw_35 ?_
      refine lv_iconst (v := 0) hx hb dX9_readLaw_38 (by decide) ?_
      refine ps_X9_112_6 E hI (q_tk (k' := 6) hI (q_tk (k' := 1) hI ha rfl (by decide)) rfl (by decide)) (by decide) dX9_readLaw_39 (fun H locs σ_28 hσ_28 hI => ?_)
      replace hF := q_letX hF hσ_28
      have fr_σ_28 := fr_σ_5.si hσ_28 (q_tk (k' := 6) hI (q_tk (k' := 1) hI ha rfl (by decide)) rfl (by decide)) rfl
      refine lv_goto (tgt := 97) hx hb dX9_readLaw_42 (by decide) ?_
      refine lv_aload_n hx hb dX9_readLaw_97 rfl (lv_at hl 0 rfl) ?_
      refine q_cv (q_runU (As := []) (rest := []) E (hml.trans hl.1.symm) hI (c_X3_advance l X σ_28 a (Or.inr ha)) ku_X9_107_9 ha ⟨rfl, by decide⟩ (show vwCl[8]? = some (RX9, TX9, 12) from rfl) rfl ⟨Nat.le_of_ble_eq_true rfl, Nat.le_of_ble_eq_true rfl⟩ ⟨Nat.le_refl _, Nat.le_refl _⟩ rfl (Nat.le_of_ble_eq_true rfl) dX9_readLaw_98) hI (by decide) (fun σ_30 H locs hpσ_30 hkσ_30 hI => ?_)
      obtain ⟨ahpσ_30, bhpσ_30⟩ := hpσ_30
      have fr_σ_30 := fr_σ_28.call bhpσ_30 rfl rfl
      replace hF := q_letX hF ahpσ_30
      refine lv_aload_n hx hb dX9_readLaw_101 rfl (lv_at hl 0 rfl) ?_
      refine q_ci (q_runU (As := []) (rest := []) E (hml.trans hl.1.symm) hI (c_X3_passSemicolon l X σ_30 a (Or.inr ha)) ku_X9_77_9 ha ⟨rfl, by decide⟩ (show vwCl[8]? = some (RX9, TX9, 12) from rfl) rfl ⟨Nat.le_of_ble_eq_true rfl, Nat.le_of_ble_eq_true rfl⟩ ⟨Nat.le_refl _, Nat.le_refl _⟩ rfl (Nat.le_of_ble_eq_true rfl) dX9_readLaw_102) hI (by decide) (fun r_31 σ_32 H locs hpσ_32 hkσ_32 hI => ?_)
      obtain ⟨ahpσ_32, bhpσ_32, chpσ_32⟩ := hpσ_32
      have fr_σ_32 := fr_σ_30.call chpσ_32 rfl rfl
      replace hF := q_biX hF bhpσ_32
      exact q_retz E hr hlk hI ⟨by omega, by omega⟩ ⟨⟨by omega, by omega⟩, (hF.trans hout), fr_σ_32⟩ dX9_readLaw_105
  · skip
    replace hF := q_ifn hF c_2
    refine lv_aload_n hx hb dX9_readLaw_7 rfl (lv_at hl 0 rfl) ?_
    refine lv_iconst (v := 5) hx hb dX9_readLaw_8 (by decide) ?_
    have kc_33 : (5 : Int32).toInt = 5 := rfl
    refine q_ci (q_runU (As := [.int 5]) (rest := []) E (hml.trans hl.1.symm) hI (c_X3_fails l X σ a (5 : Int32) (Or.inr ha)) ku_X9_103_9 ha ⟨rfl, by decide⟩ (show vwCl[8]? = some (RX9, TX9, 12) from rfl) rfl ⟨Nat.le_of_ble_eq_true rfl, Nat.le_of_ble_eq_true rfl⟩ ⟨Nat.le_refl _, Nat.le_refl _⟩ rfl (Nat.le_of_ble_eq_true rfl) dX9_readLaw_9) hI (by decide) (fun r_34 σ_35 H locs hpσ_35 hkσ_35 hI => ?_)
    obtain ⟨ahpσ_35, bhpσ_35, chpσ_35, dhpσ_35⟩ := hpσ_35
    have fr_σ_35 := fr_σ.call dhpσ_35 rfl rfl
    replace hF := q_biX hF chpσ_35
    exact q_retz E hr hlk hI ⟨by omega, by omega⟩ ⟨⟨by omega, by omega⟩, (hF.trans hout), fr_σ_35⟩ dX9_readLaw_12

set_option maxRecDepth 100000 in
set_option maxHeartbeats 4000000 in
theorem c_X9_readMost (l : Launch) (X : XW) (σ : ST) (a : Nat) (ha : q_kd X a = 9) : Met l yX9_readMost (q_ws yX9_readMost cX9_readMost 2 (some .boolean)) (q_rm 3 68) (q_P X σ [.ref a]) (q_Qi X 8 σ (fun (r : Int32) (σ' : ST) => (0 ≤ r.toInt ∧ r.toInt ≤ 1) ∧ (r, σ') = F_X9_readMost X σ a ∧ q_ow [(4, 2), (4, 3), (4, 4), (4, 5), (4, 6), (4, 7), (6, 3), (9, 2), (9, 3), (9, 4), (9, 5), (9, 6), (9, 7), (9, 10)] [] X σ σ')) 0 0 (q_reg X) := by
  refine q_met 8 (by first | exact rfl | decide +kernel) rfl (Nat.le_of_ble_eq_true rfl) (fun p e s m below meth c E hml hr hlk hI ls hl => ?_)
  have hx := E.1
  have hb := E.2.1
  have hl : lv_has ls 2 [(0, .ref a)] := hl
  have fr_σ : q_ow [(4, 2), (4, 3), (4, 4), (4, 5), (4, 6), (4, 7), (6, 3), (9, 2), (9, 3), (9, 4), (9, 5), (9, 6), (9, 7), (9, 10)] [] X σ σ := q_ow.rf
  obtain ⟨out, hout⟩ : ∃ o, o = F_X9_readMost X σ a := ⟨_, rfl⟩
  have hF := hout.symm
  unfold F_X9_readMost at hF
  refine lv_aload_n hx hb dX9_readMost_0 rfl (lv_at hl 0 rfl) ?_
  refine gs_X9_22_9 E hI ha dX9_readMost_1 ?_
  refine lv_topi (fun f_1 ef_1 => ?_)
  replace hF := q_letX hF ef_1
  have bf_1 : 0 ≤ f_1.toInt ∧ f_1.toInt ≤ 1 := by rw [ef_1]; exact q_bd hI ha rfl
  refine q_if_eq (A := f_1.toInt) E rfl (tgt := 13) dX9_readMost_4 (by decide) (fun c_2 => ?_) (fun c_2 => ?_)
  · skip
    replace hF := q_ifp hF c_2
    refine lv_aload_n hx hb dX9_readMost_13 rfl (lv_at hl 0 rfl) ?_
    refine lv_iconst (v := 1) hx hb dX9_readMost_14 (by decide) ?_
    refine ps_X9_22_9 E hI ha (by decide) (by decide) (by decide) dX9_readMost_15 (fun H locs σ_3 hσ_3 hI => ?_)
    replace hF := q_letX hF hσ_3
    have fr_σ_3 := fr_σ.si hσ_3 ha rfl
    refine lv_aload_n hx hb dX9_readMost_18 rfl (lv_at hl 0 rfl) ?_
    refine q_cv (q_runU (As := []) (rest := []) E (hml.trans hl.1.symm) hI (c_X3_advance l X σ_3 a (Or.inr ha)) ku_X9_107_9 ha ⟨rfl, by decide⟩ (show vwCl[8]? = some (RX9, TX9, 12) from rfl) rfl ⟨Nat.le_of_ble_eq_true rfl, Nat.le_of_ble_eq_true rfl⟩ ⟨Nat.le_refl _, Nat.le_refl _⟩ rfl (Nat.le_of_ble_eq_true rfl) dX9_readMost_19) hI (by decide) (fun σ_5 H locs hpσ_5 hkσ_5 hI => ?_)
    obtain ⟨ahpσ_5, bhpσ_5⟩ := hpσ_5
    have fr_σ_5 := fr_σ_3.call bhpσ_5 rfl rfl
    replace hF := q_letX hF ahpσ_5
    refine lv_aload_n hx hb dX9_readMost_22 rfl (lv_at hl 0 rfl) ?_
    refine lv_iconst (v := 1) hx hb dX9_readMost_23 (by decide) ?_
    refine lv_iconst (v := 4) hx hb dX9_readMost_24 (by decide) ?_
    have kc_6 : (1 : Int32).toInt = 1 := rfl
    have kc_7 : (4 : Int32).toInt = 4 := rfl
    refine q_ci (q_runU (As := [.int 1, .int 4]) (rest := []) E (hml.trans hl.1.symm) hI (c_X3_passNumber l X σ_5 a (1 : Int32) (4 : Int32) (Or.inr ha)) ku_X9_61_9 ha ⟨rfl, by decide⟩ (show vwCl[8]? = some (RX9, TX9, 12) from rfl) rfl ⟨Nat.le_of_ble_eq_true rfl, Nat.le_of_ble_eq_true rfl⟩ ⟨Nat.le_refl _, Nat.le_refl _⟩ rfl (Nat.le_of_ble_eq_true rfl) dX9_readMost_25) hI (by decide) (fun r_8 σ_9 H locs hpσ_9 hkσ_9 hI => ?_)
    obtain ⟨ahpσ_9, bhpσ_9, chpσ_9⟩ := hpσ_9
    have fr_σ_9 := fr_σ_5.call chpσ_9 rfl rfl
    replace hF := q_biX hF bhpσ_9
    refine lv_istore_n (lv' := [(1, .int r_8), (0, .ref a)]) hx hb dX9_readMost_28 rfl hl (by decide) rfl (fun ls hl => ?_)
    refine lv_iload_n hx hb dX9_readMost_29 rfl (lv_at hl 0 rfl) ?_
    refine lv_iconst (v := (-1)) hx hb dX9_readMost_30 (by decide) ?_
    refine q_icmp_ne (A := r_8.toInt) (B := (-1)) E rfl (by decide) (tgt := 36) dX9_readMost_31 (by decide) (fun c_10 => ?_) (fun c_10 => ?_)
    · skip
      replace hF := q_ifn hF c_10
      refine lv_aload_n hx hb dX9_readMost_36 rfl (lv_at hl 1 rfl) ?_
      refine gs_X9_12_9 E hI ha dX9_readMost_37 ?_
      refine gs_X9_67_1 E hI (q_tk (k' := 1) hI ha rfl (by decide)) dX9_readMost_40 ?_
      refine lv_iload_n hx hb dX9_readMost_43 rfl (lv_at hl 0 rfl) ?_
      refine ps_X9_118_6 E hI (q_tk (k' := 6) hI (q_tk (k' := 1) hI ha rfl (by decide)) rfl (by decide)) (by decide) (by first | (clear bf_1 c_2 ahpσ_5 bhpσ_5 kc_7 bhpσ_9 chpσ_9; omega) | omega) (by first | (clear bf_1 c_2 ahpσ_5 bhpσ_5 kc_6 bhpσ_9 chpσ_9; omega) | omega) dX9_readMost_44 (fun H locs σ_11 hσ_11 hI => ?_)
      replace hF := q_letX hF hσ_11
      have fr_σ_11 := fr_σ_9.si hσ_11 (q_tk (k' := 6) hI (q_tk (k' := 1) hI ha rfl (by decide)) rfl (by decide)) rfl
      refine lv_aload_n hx hb dX9_readMost_47 rfl (lv_at hl 1 rfl) ?_
      refine q_ci (q_runU (As := []) (rest := []) E (hml.trans hl.1.symm) hI (c_X3_passSemicolon l X σ_11 a (Or.inr ha)) ku_X9_77_9 ha ⟨rfl, by decide⟩ (show vwCl[8]? = some (RX9, TX9, 12) from rfl) rfl ⟨Nat.le_of_ble_eq_true rfl, Nat.le_of_ble_eq_true rfl⟩ ⟨Nat.le_refl _, Nat.le_refl _⟩ rfl (Nat.le_of_ble_eq_true rfl) dX9_readMost_48) hI (by decide) (fun r_12 σ_13 H locs hpσ_13 hkσ_13 hI => ?_)
      obtain ⟨ahpσ_13, bhpσ_13, chpσ_13⟩ := hpσ_13
      have fr_σ_13 := fr_σ_11.call chpσ_13 rfl rfl
      replace hF := q_biX hF bhpσ_13
      exact q_retz E hr hlk hI ⟨by omega, by omega⟩ ⟨⟨by omega, by omega⟩, (hF.trans hout), fr_σ_13⟩ dX9_readMost_51
    · skip
      replace hF := q_ifp hF c_10
      refine lv_iconst (v := 0) hx hb dX9_readMost_34 (by decide) ?_
      have hrv : (0 : Int32).toInt = 0 := rfl
      exact q_retz E hr hlk hI ⟨by decide, by decide⟩ ⟨⟨by decide, by decide⟩, (hF.trans hout), fr_σ_9⟩ dX9_readMost_35
  · skip
    replace hF := q_ifn hF c_2
    refine lv_aload_n hx hb dX9_readMost_7 rfl (lv_at hl 0 rfl) ?_
    refine lv_iconst (v := 5) hx hb dX9_readMost_8 (by decide) ?_
    have kc_14 : (5 : Int32).toInt = 5 := rfl
    refine q_ci (q_runU (As := [.int 5]) (rest := []) E (hml.trans hl.1.symm) hI (c_X3_fails l X σ a (5 : Int32) (Or.inr ha)) ku_X9_103_9 ha ⟨rfl, by decide⟩ (show vwCl[8]? = some (RX9, TX9, 12) from rfl) rfl ⟨Nat.le_of_ble_eq_true rfl, Nat.le_of_ble_eq_true rfl⟩ ⟨Nat.le_refl _, Nat.le_refl _⟩ rfl (Nat.le_of_ble_eq_true rfl) dX9_readMost_9) hI (by decide) (fun r_15 σ_16 H locs hpσ_16 hkσ_16 hI => ?_)
    obtain ⟨ahpσ_16, bhpσ_16, chpσ_16, dhpσ_16⟩ := hpσ_16
    have fr_σ_16 := fr_σ.call dhpσ_16 rfl rfl
    replace hF := q_biX hF chpσ_16
    exact q_retz E hr hlk hI ⟨by omega, by omega⟩ ⟨⟨by omega, by omega⟩, (hF.trans hout), fr_σ_16⟩ dX9_readMost_12

set_option maxRecDepth 100000 in
set_option maxHeartbeats 4000000 in
theorem c_X9_readSixteenths (l : Launch) (X : XW) (σ : ST) (a : Nat) (r1 : Nat) (r2 : Nat) (v3 : Int32) (ha : q_kd X a = 9) (hr1 : r1 < 22) (hr2 : q_kd X r2 = 5) : Met l yX9_readSixteenths (q_ws yX9_readSixteenths cX9_readSixteenths 5 (some .boolean)) (q_rm 5 107) (q_P X σ [.ref a, .ref (q_sk X r1), .ref r2, .int v3]) (q_Qi X 8 σ (fun (r : Int32) (σ' : ST) => (0 ≤ r.toInt ∧ r.toInt ≤ 1) ∧ (r, σ') = F_X9_readSixteenths X σ a r1 r2 v3 ∧ q_ow [(4, 2), (4, 3), (4, 4), (4, 5), (4, 6), (4, 7), (9, 2), (9, 3), (9, 4), (9, 5), (9, 6), (9, 7), (20, 99)] [] X σ σ')) 0 0 (q_reg X) := by
  refine q_met 8 (by first | exact rfl | decide +kernel) rfl (Nat.le_of_ble_eq_true rfl) (fun p e s m below meth c E hml hr hlk hI ls hl => ?_)
  have hx := E.1
  have hb := E.2.1
  have hl : lv_has ls 5 [(0, .ref a), (1, .ref (q_sk X r1)), (2, .ref r2), (3, .int v3)] := hl
  have fr_σ : q_ow [(4, 2), (4, 3), (4, 4), (4, 5), (4, 6), (4, 7), (9, 2), (9, 3), (9, 4), (9, 5), (9, 6), (9, 7), (20, 99)] [] X σ σ := q_ow.rf
  obtain ⟨out, hout⟩ : ∃ o, o = F_X9_readSixteenths X σ a r1 r2 v3 := ⟨_, rfl⟩
  have hF := hout.symm
  unfold F_X9_readSixteenths at hF
  refine lv_aload_n hx hb dX9_readSixteenths_0 rfl (lv_at hl 0 rfl) ?_
  refine lv_aload_n hx hb dX9_readSixteenths_1 rfl (lv_at hl 1 rfl) ?_
  refine q_ci (q_runU (As := [.ref (q_sk X r1)]) (rest := []) E (hml.trans hl.1.symm) hI (c_X3_isWord l X σ a r1 (Or.inr ha) hr1) ku_X9_82_9 ha ⟨rfl, by decide⟩ (show vwCl[8]? = some (RX9, TX9, 12) from rfl) rfl ⟨Nat.le_of_ble_eq_true rfl, Nat.le_of_ble_eq_true rfl⟩ ⟨Nat.le_refl _, Nat.le_refl _⟩ rfl (Nat.le_of_ble_eq_true rfl) dX9_readSixteenths_2) hI (by decide) (fun r_1 σ_2 H locs hpσ_2 hkσ_2 hI => ?_)
  obtain ⟨ahpσ_2, bhpσ_2, chpσ_2⟩ := hpσ_2
  rw [ahpσ_2] at hI
  replace hF := q_letX hF chpσ_2
  refine q_if_ne (A := r_1.toInt) E rfl (tgt := 10) dX9_readSixteenths_5 (by decide) (fun c_3 => ?_) (fun c_3 => ?_)
  · skip
    replace hF := q_ifn hF c_3
    replace c_3 := q_ifOne bhpσ_2 c_3
    refine lv_aload_n hx hb dX9_readSixteenths_10 rfl (lv_at hl 0 rfl) ?_
    refine q_cv (q_runU (As := []) (rest := []) E (hml.trans hl.1.symm) hI (c_X3_advance l X σ a (Or.inr ha)) ku_X9_107_9 ha ⟨rfl, by decide⟩ (show vwCl[8]? = some (RX9, TX9, 12) from rfl) rfl ⟨Nat.le_of_ble_eq_true rfl, Nat.le_of_ble_eq_true rfl⟩ ⟨Nat.le_refl _, Nat.le_refl _⟩ rfl (Nat.le_of_ble_eq_true rfl) dX9_readSixteenths_11) hI (by decide) (fun σ_5 H locs hpσ_5 hkσ_5 hI => ?_)
    obtain ⟨ahpσ_5, bhpσ_5⟩ := hpσ_5
    have fr_σ_5 := fr_σ.call bhpσ_5 rfl rfl
    replace hF := q_letX hF ahpσ_5
    refine lv_aload_n hx hb dX9_readSixteenths_14 rfl (lv_at hl 0 rfl) ?_
    refine lv_iconst (v := 0) hx hb dX9_readSixteenths_15 (by decide) ?_
    refine lv_bipush (v := 16) hx hb dX9_readSixteenths_16 (by decide) ?_
    have kc_6 : (0 : Int32).toInt = 0 := rfl
    have kc_7 : (16 : Int32).toInt = 16 := rfl
    refine q_ci (q_runU (As := [.int 0, .int 16]) (rest := []) E (hml.trans hl.1.symm) hI (c_X3_passNumber l X σ_5 a (0 : Int32) (16 : Int32) (Or.inr ha)) ku_X9_61_9 ha ⟨rfl, by decide⟩ (show vwCl[8]? = some (RX9, TX9, 12) from rfl) rfl ⟨Nat.le_of_ble_eq_true rfl, Nat.le_of_ble_eq_true rfl⟩ ⟨Nat.le_refl _, Nat.le_refl _⟩ rfl (Nat.le_of_ble_eq_true rfl) dX9_readSixteenths_18) hI (by decide) (fun r_8 σ_9 H locs hpσ_9 hkσ_9 hI => ?_)
    obtain ⟨ahpσ_9, bhpσ_9, chpσ_9⟩ := hpσ_9
    have fr_σ_9 := fr_σ_5.call chpσ_9 rfl rfl
    replace hF := q_biX hF bhpσ_9
    refine lv_istore (lv' := [(4, .int r_8), (0, .ref a), (1, .ref (q_sk X r1)), (2, .ref r2), (3, .int v3)]) hx hb dX9_readSixteenths_21 hl (by decide) rfl (fun ls hl => ?_)
    refine lv_aload_n hx hb dX9_readSixteenths_23 rfl (lv_at hl 3 rfl) ?_
    refine lv_iload_n hx hb dX9_readSixteenths_24 rfl (lv_at hl 4 rfl) ?_
    refine lv_iload hx hb dX9_readSixteenths_25 (lv_at hl 0 rfl) ?_
    refine q_cv (q_runV (As := [.int v3, .int r_8]) (rest := []) E (hml.trans hl.1.symm) hI (c_X5_set l X σ_9 r2 v3 r_8 hr2) kv_X9_154 hr2 ⟨rfl, by decide⟩ (show vwCl[4]? = some (RX5, TX5, 1) from rfl) rfl ⟨Nat.le_of_ble_eq_true rfl, Nat.le_of_ble_eq_true rfl⟩ ⟨Nat.le_refl _, Nat.le_refl _⟩ rfl (Nat.le_of_ble_eq_true rfl) dX9_readSixteenths_27) hI (by decide) (fun σ_11 H locs hpσ_11 hkσ_11 hI => ?_)
    obtain ⟨ahpσ_11, bhpσ_11⟩ := hpσ_11
    have fr_σ_11 := fr_σ_9.call bhpσ_11 rfl rfl
    replace hF := q_letX hF ahpσ_11
    refine lv_iload hx hb dX9_readSixteenths_30 (lv_at hl 0 rfl) ?_
    refine lv_iconst (v := (-1)) hx hb dX9_readSixteenths_32 (by decide) ?_
    refine q_icmp_eq (A := r_8.toInt) (B := (-1)) E rfl (by decide) (tgt := 40) dX9_readSixteenths_33 (by decide) (fun c_12 => ?_) (fun c_12 => ?_)
    · skip
      replace hF := q_ifp hF c_12
      refine lv_iconst (v := 0) hx hb dX9_readSixteenths_40 (by decide) ?_
      have hrv : (0 : Int32).toInt = 0 := rfl
      exact q_retz E hr hlk hI ⟨by decide, by decide⟩ ⟨⟨by decide, by decide⟩, (hF.trans hout), fr_σ_11⟩ dX9_readSixteenths_41
    · skip
      replace hF := q_ifn hF c_12
      refine lv_iconst (v := 1) hx hb dX9_readSixteenths_36 (by decide) ?_
      refine lv_goto (tgt := 41) hx hb dX9_readSixteenths_37 (by decide) ?_
      have hrv : (1 : Int32).toInt = 1 := rfl
      exact q_retz E hr hlk hI ⟨by decide, by decide⟩ ⟨⟨by decide, by decide⟩, (hF.trans hout), fr_σ_11⟩ dX9_readSixteenths_41
  · skip
    replace hF := q_ifp hF c_3
    refine lv_iconst (v := 1) hx hb dX9_readSixteenths_8 (by decide) ?_
    have hrv : (1 : Int32).toInt = 1 := rfl
    exact q_retz E hr hlk hI ⟨by decide, by decide⟩ ⟨⟨by decide, by decide⟩, (hF.trans hout), fr_σ⟩ dX9_readSixteenths_9

set_option maxRecDepth 100000 in
set_option maxHeartbeats 4000000 in
theorem c_X9_readPlayer (l : Launch) (X : XW) (σ : ST) (a : Nat) (ha : q_kd X a = 9) : Met l yX9_readPlayer (q_ws yX9_readPlayer cX9_readPlayer 2 (some .boolean)) (q_rm 6 131) (q_P X σ [.ref a]) (q_Qi X 8 σ (fun (r : Int32) (σ' : ST) => (0 ≤ r.toInt ∧ r.toInt ≤ 1) ∧ (r, σ') = F_X9_readPlayer X σ a ∧ q_ow [(4, 2), (4, 3), (4, 4), (4, 5), (4, 6), (4, 7), (6, 4), (9, 2), (9, 3), (9, 4), (9, 5), (9, 6), (9, 7), (20, 99)] [] X σ σ')) 0 0 (q_reg X) := by
  refine q_met 8 (by first | exact rfl | decide +kernel) rfl (Nat.le_of_ble_eq_true rfl) (fun p e s m below meth c E hml hr hlk hI ls hl => ?_)
  have hx := E.1
  have hb := E.2.1
  have hl : lv_has ls 2 [(0, .ref a)] := hl
  have fr_σ : q_ow [(4, 2), (4, 3), (4, 4), (4, 5), (4, 6), (4, 7), (6, 4), (9, 2), (9, 3), (9, 4), (9, 5), (9, 6), (9, 7), (20, 99)] [] X σ σ := q_ow.rf
  obtain ⟨out, hout⟩ : ∃ o, o = F_X9_readPlayer X σ a := ⟨_, rfl⟩
  have hF := hout.symm
  unfold F_X9_readPlayer at hF
  refine lv_aload_n hx hb dX9_readPlayer_0 rfl (lv_at hl 0 rfl) ?_
  refine gs_X9_12_9 E hI ha dX9_readPlayer_1 ?_
  refine gs_X9_67_1 E hI (q_tk (k' := 1) hI ha rfl (by decide)) dX9_readPlayer_4 ?_
  refine gs_X9_120_6 E hI (q_tk (k' := 6) hI (q_tk (k' := 1) hI ha rfl (by decide)) rfl (by decide)) dX9_readPlayer_7 ?_
  refine lv_topi (fun f_1 ef_1 => ?_)
  replace hF := q_letX hF ef_1
  refine lv_istore_n (lv' := [(1, .int f_1), (0, .ref a)]) hx hb dX9_readPlayer_10 rfl hl (by decide) rfl (fun ls hl => ?_)
  refine lv_iload_n hx hb dX9_readPlayer_11 rfl (lv_at hl 0 rfl) ?_
  refine lv_bipush (v := 6) hx hb dX9_readPlayer_12 (by decide) ?_
  refine q_icmp_lt (A := f_1.toInt) (B := 6) E rfl (by decide) (tgt := 24) dX9_readPlayer_14 (by decide) (fun c_2 => ?_) (fun c_2 => ?_)
  · skip
    replace hF := q_ifp hF c_2
    refine lv_aload_n hx hb dX9_readPlayer_24 rfl (lv_at hl 1 rfl) ?_
    refine q_cv (q_runU (As := []) (rest := []) E (hml.trans hl.1.symm) hI (c_X3_advance l X σ a (Or.inr ha)) ku_X9_107_9 ha ⟨rfl, by decide⟩ (show vwCl[8]? = some (RX9, TX9, 12) from rfl) rfl ⟨Nat.le_of_ble_eq_true rfl, Nat.le_of_ble_eq_true rfl⟩ ⟨Nat.le_refl _, Nat.le_refl _⟩ rfl (Nat.le_of_ble_eq_true rfl) dX9_readPlayer_25) hI (by decide) (fun σ_4 H locs hpσ_4 hkσ_4 hI => ?_)
    obtain ⟨ahpσ_4, bhpσ_4⟩ := hpσ_4
    have fr_σ_4 := fr_σ.call bhpσ_4 rfl rfl
    replace hF := q_letX hF ahpσ_4
    refine lv_aload_n hx hb dX9_readPlayer_28 rfl (lv_at hl 1 rfl) ?_
    refine q_ci (q_runU (As := []) (rest := []) E (hml.trans hl.1.symm) hI (c_X3_mustBeName l X σ_4 a (Or.inr ha)) ku_X9_123_9 ha ⟨rfl, by decide⟩ (show vwCl[8]? = some (RX9, TX9, 12) from rfl) rfl ⟨Nat.le_of_ble_eq_true rfl, Nat.le_of_ble_eq_true rfl⟩ ⟨Nat.le_refl _, Nat.le_refl _⟩ rfl (Nat.le_of_ble_eq_true rfl) dX9_readPlayer_29) hI (by decide) (fun r_5 σ_6 H locs hpσ_6 hkσ_6 hI => ?_)
    obtain ⟨ahpσ_6, bhpσ_6, chpσ_6⟩ := hpσ_6
    have fr_σ_6 := fr_σ_4.call chpσ_6 rfl rfl
    replace hF := q_biX hF bhpσ_6
    refine q_if_ne (A := r_5.toInt) E rfl (tgt := 37) dX9_readPlayer_32 (by decide) (fun c_7 => ?_) (fun c_7 => ?_)
    · skip
      replace hF := q_ifn hF c_7
      replace c_7 := q_ifOne ahpσ_6 c_7
      refine lv_aload_n hx hb dX9_readPlayer_37 rfl (lv_at hl 1 rfl) ?_
      refine gs_X9_12_9 E hI ha dX9_readPlayer_38 ?_
      refine gs_X9_67_1 E hI (q_tk (k' := 1) hI ha rfl (by decide)) dX9_readPlayer_41 ?_
      refine lv_aload_n hx hb dX9_readPlayer_44 rfl (lv_at hl 1 rfl) ?_
      refine q_ci (q_runV (As := [.ref a]) (rest := []) E (hml.trans hl.1.symm) hI (c_X6_playerNamed l X σ_6 (q_rf X (q_rf X a 8) 0) a (q_tk (k' := 6) hI (q_tk (k' := 1) hI ha rfl (by decide)) rfl (by decide)) (Or.inr ha)) kv_X9_126 (q_tk (k' := 6) hI (q_tk (k' := 1) hI ha rfl (by decide)) rfl (by decide)) ⟨rfl, by decide⟩ (show vwCl[5]? = some (RX6, TX6, 8) from rfl) rfl ⟨Nat.le_of_ble_eq_true rfl, Nat.le_of_ble_eq_true rfl⟩ ⟨Nat.le_refl _, Nat.le_refl _⟩ rfl (Nat.le_of_ble_eq_true rfl) dX9_readPlayer_45) hI (by decide) (fun r_8 σ_9 H locs hpσ_9 hkσ_9 hI => ?_)
      obtain ⟨ahpσ_9, bhpσ_9⟩ := hpσ_9
      rw [ahpσ_9] at hI
      replace hF := q_letX hF bhpσ_9
      refine lv_iconst (v := (-1)) hx hb dX9_readPlayer_48 (by decide) ?_
      refine q_icmp_eq (A := r_8.toInt) (B := (-1)) E rfl (by decide) (tgt := 58) dX9_readPlayer_49 (by decide) (fun c_10 => ?_) (fun c_10 => ?_)
      · skip
        replace hF := q_ifp hF c_10
        refine lv_aload_n hx hb dX9_readPlayer_58 rfl (lv_at hl 1 rfl) ?_
        refine gs_X9_12_9 E hI ha dX9_readPlayer_59 ?_
        refine gs_X9_67_1 E hI (q_tk (k' := 1) hI ha rfl (by decide)) dX9_readPlayer_62 ?_
        refine lv_aload_n hx hb dX9_readPlayer_65 rfl (lv_at hl 1 rfl) ?_
        refine q_cv (q_runV (As := [.ref a]) (rest := []) E (hml.trans hl.1.symm) hI (c_X6_addPlayer l X σ_6 (q_rf X (q_rf X a 8) 0) a (q_tk (k' := 6) hI (q_tk (k' := 1) hI ha rfl (by decide)) rfl (by decide)) (Or.inr ha)) kv_X9_130 (q_tk (k' := 6) hI (q_tk (k' := 1) hI ha rfl (by decide)) rfl (by decide)) ⟨rfl, by decide⟩ (show vwCl[5]? = some (RX6, TX6, 8) from rfl) rfl ⟨Nat.le_of_ble_eq_true rfl, Nat.le_of_ble_eq_true rfl⟩ ⟨Nat.le_refl _, Nat.le_refl _⟩ rfl (Nat.le_of_ble_eq_true rfl) dX9_readPlayer_66) hI (by decide) (fun σ_12 H locs hpσ_12 hkσ_12 hI => ?_)
        obtain ⟨ahpσ_12, bhpσ_12⟩ := hpσ_12
        have fr_σ_12 := fr_σ_6.call bhpσ_12 rfl rfl
        replace hF := q_letX hF ahpσ_12
        refine lv_aload_n hx hb dX9_readPlayer_69 rfl (lv_at hl 1 rfl) ?_
        refine q_cv (q_runU (As := []) (rest := []) E (hml.trans hl.1.symm) hI (c_X3_advance l X σ_12 a (Or.inr ha)) ku_X9_107_9 ha ⟨rfl, by decide⟩ (show vwCl[8]? = some (RX9, TX9, 12) from rfl) rfl ⟨Nat.le_of_ble_eq_true rfl, Nat.le_of_ble_eq_true rfl⟩ ⟨Nat.le_refl _, Nat.le_refl _⟩ rfl (Nat.le_of_ble_eq_true rfl) dX9_readPlayer_70) hI (by decide) (fun σ_14 H locs hpσ_14 hkσ_14 hI => ?_)
        obtain ⟨ahpσ_14, bhpσ_14⟩ := hpσ_14
        have fr_σ_14 := fr_σ_12.call bhpσ_14 rfl rfl
        replace hF := q_letX hF ahpσ_14
        refine lv_aload_n hx hb dX9_readPlayer_73 rfl (lv_at hl 1 rfl) ?_
        refine va_ldcS hx hb E.2.2.1 (kz_X9_134 E) dX9_readPlayer_74 ?_
        refine lv_aload_n hx hb dX9_readPlayer_76 rfl (lv_at hl 1 rfl) ?_
        refine gs_X9_12_9 E hI ha dX9_readPlayer_77 ?_
        refine gs_X9_136_1 E hI (q_tk (k' := 1) hI ha rfl (by decide)) dX9_readPlayer_80 ?_
        refine gs_X9_140_2 E hI (q_tk (k' := 2) hI (q_tk (k' := 1) hI ha rfl (by decide)) rfl (by decide)) dX9_readPlayer_83 ?_
        refine lv_iload_n hx hb dX9_readPlayer_86 rfl (lv_at hl 0 rfl) ?_
        refine q_ci (q_runV (As := [.ref (q_sk X 9), .ref (q_rf X (q_rf X (q_rf X a 8) 1) 3), .int f_1]) (rest := []) E (hml.trans hl.1.symm) hI (c_X9_readSixteenths l X σ_14 a 9 (q_rf X (q_rf X (q_rf X a 8) 1) 3) f_1 ha (by decide : 9 < 22) (q_tk (k' := 5) hI (q_tk (k' := 2) hI (q_tk (k' := 1) hI ha rfl (by decide)) rfl (by decide)) rfl (by decide))) kv_X9_145 ha ⟨rfl, by decide⟩ (show vwCl[8]? = some (RX9, TX9, 12) from rfl) rfl ⟨Nat.le_of_ble_eq_true rfl, Nat.le_of_ble_eq_true rfl⟩ ⟨Nat.le_refl _, Nat.le_refl _⟩ rfl (Nat.le_of_ble_eq_true rfl) dX9_readPlayer_87) hI (by decide) (fun r_15 σ_16 H locs hpσ_16 hkσ_16 hI => ?_)
        obtain ⟨ahpσ_16, bhpσ_16, chpσ_16⟩ := hpσ_16
        have fr_σ_16 := fr_σ_14.call chpσ_16 rfl rfl
        replace hF := q_biX hF bhpσ_16
        refine q_if_eq (A := r_15.toInt) E rfl (tgt := 124) dX9_readPlayer_90 (by decide) (fun c_17 => ?_) (fun c_17 => ?_)
        · skip
          replace hF := q_ifp hF c_17
          refine lv_iconst (v := 0) hx hb dX9_readPlayer_124 (by decide) ?_
          have hrv : (0 : Int32).toInt = 0 := rfl
          exact q_retz E hr hlk hI ⟨by decide, by decide⟩ ⟨⟨by decide, by decide⟩, (hF.trans hout), fr_σ_16⟩ dX9_readPlayer_125
        · skip
          replace hF := q_ifn hF c_17
          replace c_17 := q_ifOne ahpσ_16 c_17
          refine lv_aload_n hx hb dX9_readPlayer_93 rfl (lv_at hl 1 rfl) ?_
          refine va_ldcS hx hb E.2.2.1 (kz_X9_149 E) dX9_readPlayer_94 ?_
          refine lv_aload_n hx hb dX9_readPlayer_96 rfl (lv_at hl 1 rfl) ?_
          refine gs_X9_12_9 E hI ha dX9_readPlayer_97 ?_
          refine gs_X9_136_1 E hI (q_tk (k' := 1) hI ha rfl (by decide)) dX9_readPlayer_100 ?_
          refine gs_X9_151_2 E hI (q_tk (k' := 2) hI (q_tk (k' := 1) hI ha rfl (by decide)) rfl (by decide)) dX9_readPlayer_103 ?_
          refine lv_iload_n hx hb dX9_readPlayer_106 rfl (lv_at hl 0 rfl) ?_
          refine q_ci (q_runV (As := [.ref (q_sk X 10), .ref (q_rf X (q_rf X (q_rf X a 8) 1) 4), .int f_1]) (rest := []) E (hml.trans hl.1.symm) hI (c_X9_readSixteenths l X σ_16 a 10 (q_rf X (q_rf X (q_rf X a 8) 1) 4) f_1 ha (by decide : 10 < 22) (q_tk (k' := 5) hI (q_tk (k' := 2) hI (q_tk (k' := 1) hI ha rfl (by decide)) rfl (by decide)) rfl (by decide))) kv_X9_145 ha ⟨rfl, by decide⟩ (show vwCl[8]? = some (RX9, TX9, 12) from rfl) rfl ⟨Nat.le_of_ble_eq_true rfl, Nat.le_of_ble_eq_true rfl⟩ ⟨Nat.le_refl _, Nat.le_refl _⟩ rfl (Nat.le_of_ble_eq_true rfl) dX9_readPlayer_107) hI (by decide) (fun r_18 σ_19 H locs hpσ_19 hkσ_19 hI => ?_)
          obtain ⟨ahpσ_19, bhpσ_19, chpσ_19⟩ := hpσ_19
          have fr_σ_19 := fr_σ_16.call chpσ_19 rfl rfl
          replace hF := q_biX hF bhpσ_19
          refine q_if_eq (A := r_18.toInt) E rfl (tgt := 124) dX9_readPlayer_110 (by decide) (fun c_20 => ?_) (fun c_20 => ?_)
          · skip
            replace hF := q_ifp hF c_20
            refine lv_iconst (v := 0) hx hb dX9_readPlayer_124 (by decide) ?_
            have hrv : (0 : Int32).toInt = 0 := rfl
            exact q_retz E hr hlk hI ⟨by decide, by decide⟩ ⟨⟨by decide, by decide⟩, (hF.trans hout), fr_σ_19⟩ dX9_readPlayer_125
          · skip
            replace hF := q_ifn hF c_20
            replace c_20 := q_ifOne ahpσ_19 c_20
            refine lv_aload_n hx hb dX9_readPlayer_113 rfl (lv_at hl 1 rfl) ?_
            refine q_ci (q_runU (As := []) (rest := []) E (hml.trans hl.1.symm) hI (c_X3_passSemicolon l X σ_19 a (Or.inr ha)) ku_X9_77_9 ha ⟨rfl, by decide⟩ (show vwCl[8]? = some (RX9, TX9, 12) from rfl) rfl ⟨Nat.le_of_ble_eq_true rfl, Nat.le_of_ble_eq_true rfl⟩ ⟨Nat.le_refl _, Nat.le_refl _⟩ rfl (Nat.le_of_ble_eq_true rfl) dX9_readPlayer_114) hI (by decide) (fun r_21 σ_22 H locs hpσ_22 hkσ_22 hI => ?_)
            obtain ⟨ahpσ_22, bhpσ_22, chpσ_22⟩ := hpσ_22
            have fr_σ_22 := fr_σ_19.call chpσ_22 rfl rfl
            replace hF := q_biX hF bhpσ_22
            refine q_if_eq (A := r_21.toInt) E rfl (tgt := 124) dX9_readPlayer_117 (by decide) (fun c_23 => ?_) (fun c_23 => ?_)
            · skip
              replace hF := q_ifp hF c_23
              refine lv_iconst (v := 0) hx hb dX9_readPlayer_124 (by decide) ?_
              have hrv : (0 : Int32).toInt = 0 := rfl
              exact q_retz E hr hlk hI ⟨by decide, by decide⟩ ⟨⟨by decide, by decide⟩, (hF.trans hout), fr_σ_22⟩ dX9_readPlayer_125
            · skip
              replace hF := q_ifn hF c_23
              replace c_23 := q_ifOne ahpσ_22 c_23
              refine lv_iconst (v := 1) hx hb dX9_readPlayer_120 (by decide) ?_
              refine lv_goto (tgt := 125) hx hb dX9_readPlayer_121 (by decide) ?_
              have hrv : (1 : Int32).toInt = 1 := rfl
              exact q_retz E hr hlk hI ⟨by decide, by decide⟩ ⟨⟨by decide, by decide⟩, (hF.trans hout), fr_σ_22⟩ dX9_readPlayer_125
      · skip
        replace hF := q_ifn hF c_10
        refine lv_aload_n hx hb dX9_readPlayer_52 rfl (lv_at hl 1 rfl) ?_
        refine lv_iconst (v := 3) hx hb dX9_readPlayer_53 (by decide) ?_
        have kc_24 : (3 : Int32).toInt = 3 := rfl
        refine q_ci (q_runU (As := [.int 3]) (rest := []) E (hml.trans hl.1.symm) hI (c_X3_fails l X σ_6 a (3 : Int32) (Or.inr ha)) ku_X9_103_9 ha ⟨rfl, by decide⟩ (show vwCl[8]? = some (RX9, TX9, 12) from rfl) rfl ⟨Nat.le_of_ble_eq_true rfl, Nat.le_of_ble_eq_true rfl⟩ ⟨Nat.le_refl _, Nat.le_refl _⟩ rfl (Nat.le_of_ble_eq_true rfl) dX9_readPlayer_54) hI (by decide) (fun r_25 σ_26 H locs hpσ_26 hkσ_26 hI => ?_)
        obtain ⟨ahpσ_26, bhpσ_26, chpσ_26, dhpσ_26⟩ := hpσ_26
        have fr_σ_26 := fr_σ_6.call dhpσ_26 rfl rfl
        replace hF := q_biX hF chpσ_26
        exact q_retz E hr hlk hI ⟨by omega, by omega⟩ ⟨⟨by omega, by omega⟩, (hF.trans hout), fr_σ_26⟩ dX9_readPlayer_57
    · skip
      replace hF := q_ifp hF c_7
      refine lv_iconst (v := 0) hx hb dX9_readPlayer_35 (by decide) ?_
      have hrv : (0 : Int32).toInt = 0 := rfl
      exact q_retz E hr hlk hI ⟨by decide, by decide⟩ ⟨⟨by decide, by decide⟩, (hF.trans hout), fr_σ_6⟩ dX9_readPlayer_36
  · skip
    replace hF := q_ifn hF (Int.not_lt.mpr c_2)
    refine lv_aload_n hx hb dX9_readPlayer_17 rfl (lv_at hl 1 rfl) ?_
    refine lv_bipush (v := 6) hx hb dX9_readPlayer_18 (by decide) ?_
    have kc_27 : (6 : Int32).toInt = 6 := rfl
    refine q_ci (q_runU (As := [.int 6]) (rest := []) E (hml.trans hl.1.symm) hI (c_X3_fails l X σ a (6 : Int32) (Or.inr ha)) ku_X9_103_9 ha ⟨rfl, by decide⟩ (show vwCl[8]? = some (RX9, TX9, 12) from rfl) rfl ⟨Nat.le_of_ble_eq_true rfl, Nat.le_of_ble_eq_true rfl⟩ ⟨Nat.le_refl _, Nat.le_refl _⟩ rfl (Nat.le_of_ble_eq_true rfl) dX9_readPlayer_20) hI (by decide) (fun r_28 σ_29 H locs hpσ_29 hkσ_29 hI => ?_)
    obtain ⟨ahpσ_29, bhpσ_29, chpσ_29, dhpσ_29⟩ := hpσ_29
    have fr_σ_29 := fr_σ.call dhpσ_29 rfl rfl
    replace hF := q_biX hF chpσ_29
    exact q_retz E hr hlk hI ⟨by omega, by omega⟩ ⟨⟨by omega, by omega⟩, (hF.trans hout), fr_σ_29⟩ dX9_readPlayer_23

set_option maxRecDepth 100000 in
set_option maxHeartbeats 4000000 in
theorem c_X9_readHand (l : Launch) (X : XW) (σ : ST) (a : Nat) (ha : q_kd X a = 9) : Met l yX9_readHand (q_ws yX9_readHand cX9_readHand 5 (some .boolean)) (q_rm 7 150) (q_P X σ [.ref a]) (q_Qi X 8 σ (fun (r : Int32) (σ' : ST) => (0 ≤ r.toInt ∧ r.toInt ≤ 1) ∧ (r, σ') = F_X9_readHand X σ a ∧ q_ow [(4, 2), (4, 3), (4, 4), (4, 5), (4, 6), (4, 7), (9, 2), (9, 3), (9, 4), (9, 5), (9, 6), (9, 7), (20, 99)] [] X σ σ')) 0 0 (q_reg X) := by
  refine q_met 8 (by first | exact rfl | decide +kernel) rfl (Nat.le_of_ble_eq_true rfl) (fun p e s m below meth c E hml hr hlk hI ls hl => ?_)
  have hx := E.1
  have hb := E.2.1
  have hl : lv_has ls 5 [(0, .ref a)] := hl
  have fr_σ : q_ow [(4, 2), (4, 3), (4, 4), (4, 5), (4, 6), (4, 7), (9, 2), (9, 3), (9, 4), (9, 5), (9, 6), (9, 7), (20, 99)] [] X σ σ := q_ow.rf
  obtain ⟨out, hout⟩ : ∃ o, o = F_X9_readHand X σ a := ⟨_, rfl⟩
  have hF := hout.symm
  unfold F_X9_readHand at hF
  refine lv_aload_n hx hb dX9_readHand_0 rfl (lv_at hl 0 rfl) ?_
  refine q_cv (q_runU (As := []) (rest := []) E (hml.trans hl.1.symm) hI (c_X3_advance l X σ a (Or.inr ha)) ku_X9_107_9 ha ⟨rfl, by decide⟩ (show vwCl[8]? = some (RX9, TX9, 12) from rfl) rfl ⟨Nat.le_of_ble_eq_true rfl, Nat.le_of_ble_eq_true rfl⟩ ⟨Nat.le_refl _, Nat.le_refl _⟩ rfl (Nat.le_of_ble_eq_true rfl) dX9_readHand_1) hI (by decide) (fun σ_2 H locs hpσ_2 hkσ_2 hI => ?_)
  obtain ⟨ahpσ_2, bhpσ_2⟩ := hpσ_2
  have fr_σ_2 := fr_σ.call bhpσ_2 rfl rfl
  replace hF := q_letX hF ahpσ_2
  refine lv_aload_n hx hb dX9_readHand_4 rfl (lv_at hl 0 rfl) ?_
  refine lv_aload_n hx hb dX9_readHand_5 rfl (lv_at hl 0 rfl) ?_
  refine gs_X9_12_9 E hI ha dX9_readHand_6 ?_
  refine gs_X9_67_1 E hI (q_tk (k' := 1) hI ha rfl (by decide)) dX9_readHand_9 ?_
  refine q_ci (q_runU (As := [.ref (q_rf X (q_rf X a 8) 0)]) (rest := []) E (hml.trans hl.1.symm) hI (c_X3_passPlayer l X σ_2 a (q_rf X (q_rf X a 8) 0) (Or.inr ha) (q_tk (k' := 6) hI (q_tk (k' := 1) hI ha rfl (by decide)) rfl (by decide))) ku_X9_158_9 ha ⟨rfl, by decide⟩ (show vwCl[8]? = some (RX9, TX9, 12) from rfl) rfl ⟨Nat.le_of_ble_eq_true rfl, Nat.le_of_ble_eq_true rfl⟩ ⟨Nat.le_refl _, Nat.le_refl _⟩ rfl (Nat.le_of_ble_eq_true rfl) dX9_readHand_12) hI (by decide) (fun r_3 σ_4 H locs hpσ_4 hkσ_4 hI => ?_)
  obtain ⟨ahpσ_4, bhpσ_4⟩ := hpσ_4
  have fr_σ_4 := fr_σ_2.call bhpσ_4 rfl rfl
  replace hF := q_biX hF ahpσ_4
  refine lv_istore_n (lv' := [(1, .int r_3), (0, .ref a)]) hx hb dX9_readHand_15 rfl hl (by decide) rfl (fun ls hl => ?_)
  refine lv_iload_n hx hb dX9_readHand_16 rfl (lv_at hl 0 rfl) ?_
  refine lv_iconst (v := (-1)) hx hb dX9_readHand_17 (by decide) ?_
  refine q_icmp_ne (A := r_3.toInt) (B := (-1)) E rfl (by decide) (tgt := 23) dX9_readHand_18 (by decide) (fun c_5 => ?_) (fun c_5 => ?_)
  · skip
    replace hF := q_ifn hF c_5
    refine lv_aload_n hx hb dX9_readHand_23 rfl (lv_at hl 1 rfl) ?_
    refine lv_iconst (v := 0) hx hb dX9_readHand_24 (by decide) ?_
    refine lv_bipush (v := 8) hx hb dX9_readHand_25 (by decide) ?_
    have kc_6 : (0 : Int32).toInt = 0 := rfl
    have kc_7 : (8 : Int32).toInt = 8 := rfl
    refine q_ci (q_runU (As := [.int 0, .int 8]) (rest := []) E (hml.trans hl.1.symm) hI (c_X3_passNumber l X σ_4 a (0 : Int32) (8 : Int32) (Or.inr ha)) ku_X9_61_9 ha ⟨rfl, by decide⟩ (show vwCl[8]? = some (RX9, TX9, 12) from rfl) rfl ⟨Nat.le_of_ble_eq_true rfl, Nat.le_of_ble_eq_true rfl⟩ ⟨Nat.le_refl _, Nat.le_refl _⟩ rfl (Nat.le_of_ble_eq_true rfl) dX9_readHand_27) hI (by decide) (fun r_8 σ_9 H locs hpσ_9 hkσ_9 hI => ?_)
    obtain ⟨ahpσ_9, bhpσ_9, chpσ_9⟩ := hpσ_9
    have fr_σ_9 := fr_σ_4.call chpσ_9 rfl rfl
    replace hF := q_biX hF bhpσ_9
    refine lv_istore_n (lv' := [(2, .int r_8), (1, .int r_3), (0, .ref a)]) hx hb dX9_readHand_30 rfl hl (by decide) rfl (fun ls hl => ?_)
    refine lv_iload_n hx hb dX9_readHand_31 rfl (lv_at hl 0 rfl) ?_
    refine lv_iconst (v := (-1)) hx hb dX9_readHand_32 (by decide) ?_
    refine q_icmp_eq (A := r_8.toInt) (B := (-1)) E rfl (by decide) (tgt := 65) dX9_readHand_33 (by decide) (fun c_10 => ?_) (fun c_10 => ?_)
    · skip
      replace hF := q_ifp hF c_10
      refine lv_iconst (v := 0) hx hb dX9_readHand_65 (by decide) ?_
      have hrv : (0 : Int32).toInt = 0 := rfl
      exact q_retz E hr hlk hI ⟨by decide, by decide⟩ ⟨⟨by decide, by decide⟩, (hF.trans hout), fr_σ_9⟩ dX9_readHand_66
    · skip
      replace hF := q_ifn hF c_10
      refine lv_aload_n hx hb dX9_readHand_36 rfl (lv_at hl 2 rfl) ?_
      refine va_ldcS hx hb E.2.2.1 (kz_X9_162 E) dX9_readHand_37 ?_
      refine q_ci (q_runU (As := [.ref (q_sk X 12)]) (rest := []) E (hml.trans hl.1.symm) hI (c_X3_passWord l X σ_9 a 12 (Or.inr ha) (by decide : 12 < 22)) ku_X9_57_9 ha ⟨rfl, by decide⟩ (show vwCl[8]? = some (RX9, TX9, 12) from rfl) rfl ⟨Nat.le_of_ble_eq_true rfl, Nat.le_of_ble_eq_true rfl⟩ ⟨Nat.le_refl _, Nat.le_refl _⟩ rfl (Nat.le_of_ble_eq_true rfl) dX9_readHand_39) hI (by decide) (fun r_11 σ_12 H locs hpσ_12 hkσ_12 hI => ?_)
      obtain ⟨ahpσ_12, bhpσ_12, chpσ_12⟩ := hpσ_12
      have fr_σ_12 := fr_σ_9.call chpσ_12 rfl rfl
      replace hF := q_biX hF bhpσ_12
      refine q_if_eq (A := r_11.toInt) E rfl (tgt := 65) dX9_readHand_42 (by decide) (fun c_13 => ?_) (fun c_13 => ?_)
      · skip
        replace hF := q_ifp hF c_13
        refine lv_iconst (v := 0) hx hb dX9_readHand_65 (by decide) ?_
        have hrv : (0 : Int32).toInt = 0 := rfl
        exact q_retz E hr hlk hI ⟨by decide, by decide⟩ ⟨⟨by decide, by decide⟩, (hF.trans hout), fr_σ_12⟩ dX9_readHand_66
      · skip
        replace hF := q_ifn hF c_13
        replace c_13 := q_ifOne ahpσ_12 c_13
        refine lv_aload_n hx hb dX9_readHand_45 rfl (lv_at hl 2 rfl) ?_
        refine lv_iconst (v := 0) hx hb dX9_readHand_46 (by decide) ?_
        refine lv_aload_n hx hb dX9_readHand_47 rfl (lv_at hl 2 rfl) ?_
        refine gs_X9_12_9 E hI ha dX9_readHand_48 ?_
        refine gs_X9_67_1 E hI (q_tk (k' := 1) hI ha rfl (by decide)) dX9_readHand_51 ?_
        refine gs_X9_71_6 E hI (q_tk (k' := 6) hI (q_tk (k' := 1) hI ha rfl (by decide)) rfl (by decide)) dX9_readHand_54 ?_
        refine lv_topi (fun f_14 ef_14 => ?_)
        replace hF := q_letX hF ef_14
        have bf_14 : -2147483648 ≤ f_14.toInt ∧ f_14.toInt ≤ 10 := by rw [ef_14]; exact q_bd hI (q_tk (k' := 6) hI (q_tk (k' := 1) hI ha rfl (by decide)) rfl (by decide)) rfl
        refine lv_iconst (v := 1) hx hb dX9_readHand_57 (by decide) ?_
        refine lv_isub hx hb dX9_readHand_58 ?_
        refine lv_topi (fun z_15 ez_15 => ?_)
        replace hF := q_letX hF ez_15
        have kc_16 : (0 : Int32).toInt = 0 := rfl
        refine q_ci (q_runU (As := [.int 0, .int z_15]) (rest := []) E (hml.trans hl.1.symm) hI (c_X3_mustBeNumber l X σ_12 a (0 : Int32) z_15 (Or.inr ha)) ku_X9_164_9 ha ⟨rfl, by decide⟩ (show vwCl[8]? = some (RX9, TX9, 12) from rfl) rfl ⟨Nat.le_of_ble_eq_true rfl, Nat.le_of_ble_eq_true rfl⟩ ⟨Nat.le_refl _, Nat.le_refl _⟩ rfl (Nat.le_of_ble_eq_true rfl) dX9_readHand_59) hI (by decide) (fun r_17 σ_18 H locs hpσ_18 hkσ_18 hI => ?_)
        obtain ⟨ahpσ_18, bhpσ_18, chpσ_18, dhpσ_18⟩ := hpσ_18
        have fr_σ_18 := fr_σ_12.call dhpσ_18 rfl rfl
        replace hF := q_biX hF chpσ_18
        refine q_if_ne (A := r_17.toInt) E rfl (tgt := 67) dX9_readHand_62 (by decide) (fun c_19 => ?_) (fun c_19 => ?_)
        · skip
          replace hF := q_ifn hF c_19
          replace c_19 := q_ifOne ahpσ_18 c_19
          replace bhpσ_18 := bhpσ_18 c_19
          refine lv_aload_n hx hb dX9_readHand_67 rfl (lv_at hl 2 rfl) ?_
          refine gs_X9_168_9 E hI ha dX9_readHand_68 ?_
          refine lv_topi (fun f_20 ef_20 => ?_)
          replace hF := q_letX hF ef_20
          refine lv_istore_n (lv' := [(3, .int f_20), (2, .int r_8), (1, .int r_3), (0, .ref a)]) hx hb dX9_readHand_71 rfl hl (by decide) rfl (fun ls hl => ?_)
          refine lv_aload_n hx hb dX9_readHand_72 rfl (lv_at hl 3 rfl) ?_
          refine gs_X9_30_9 E hI ha dX9_readHand_73 ?_
          refine lv_iload_n hx hb dX9_readHand_76 rfl (lv_at hl 2 rfl) ?_
          refine q_ci (q_runV (As := [.int r_3]) (rest := []) E (hml.trans hl.1.symm) hI (c_X5_get l X σ_18 (q_rf X a 11) r_3 (q_tk (k' := 5) hI ha rfl (by decide))) kv_X9_171 (q_tk (k' := 5) hI ha rfl (by decide)) ⟨rfl, by decide⟩ (show vwCl[4]? = some (RX5, TX5, 1) from rfl) rfl ⟨Nat.le_of_ble_eq_true rfl, Nat.le_of_ble_eq_true rfl⟩ ⟨Nat.le_refl _, Nat.le_refl _⟩ rfl (Nat.le_of_ble_eq_true rfl) dX9_readHand_77) hI (by decide) (fun r_21 σ_22 H locs hpσ_22 hkσ_22 hI => ?_)
          obtain ⟨ahpσ_22, bhpσ_22⟩ := hpσ_22
          rw [ahpσ_22] at hI
          replace hF := q_letX hF bhpσ_22
          refine lv_iload_n hx hb dX9_readHand_80 rfl (lv_at hl 0 rfl) ?_
          refine lv_ishr hx hb dX9_readHand_81 ?_
          refine lv_topi (fun z_23 ez_23 => ?_)
          replace hF := q_letX hF ez_23
          refine lv_iconst (v := 1) hx hb dX9_readHand_82 (by decide) ?_
          refine lv_iand hx hb dX9_readHand_83 ?_
          refine lv_topi (fun z_24 ez_24 => ?_)
          replace hF := q_letX hF ez_24
          have J_92_25 : ∀ (x_25 : Int32) (H : Heap) (locs : List Loc) (ls : Array Slot), (F_X9_readHand_J92_1 X σ_18 a f_20 r_8 r_3 x_25 = out) → q_I X 8 σ s.heap locs σ_18 H → lv_has ls 5 [(0, .ref a), (1, .int r_3), (2, .int r_8), (3, .int f_20)] → W p l e (q_rm 7 150) s m ([.ref a] : List Value).toArray below meth c H locs 0 0 (MQ below (q_Qi X 8 σ (fun (r : Int32) (σ' : ST) => (0 ≤ r.toInt ∧ r.toInt ≤ 1) ∧ (r, σ') = F_X9_readHand X σ a ∧ q_ow [(4, 2), (4, 3), (4, 4), (4, 5), (4, 6), (4, 7), (9, 2), (9, 3), (9, 4), (9, 5), (9, 6), (9, 7), (20, 99)] [] X σ σ')) ([.ref a] : List Value).toArray s 0 0 (q_reg X)) (F0 m 92 ls [.int x_25]) := by
            clear hF
            intro x_25 H locs ls  hF hI hl
            unfold F_X9_readHand_J92_1 at hF
            refine lv_istore (lv' := [(4, .int x_25), (0, .ref a), (1, .int r_3), (2, .int r_8), (3, .int f_20)]) hx hb dX9_readHand_92 hl (by decide) rfl (fun ls hl => ?_)
            refine lv_iload hx hb dX9_readHand_94 (lv_at hl 0 rfl) ?_
            refine q_if_ne (A := x_25.toInt) E rfl (tgt := 128) dX9_readHand_96 (by decide) (fun c_26 => ?_) (fun c_26 => ?_)
            · skip
              replace hF := q_ifn hF c_26
              refine lv_aload_n hx hb dX9_readHand_128 rfl (lv_at hl 1 rfl) ?_
              refine lv_iconst (v := 5) hx hb dX9_readHand_129 (by decide) ?_
              have kc_27 : (5 : Int32).toInt = 5 := rfl
              refine q_ci (q_runU (As := [.int 5]) (rest := []) E (hml.trans hl.1.symm) hI (c_X3_fails l X σ_18 a (5 : Int32) (Or.inr ha)) ku_X9_103_9 ha ⟨rfl, by decide⟩ (show vwCl[8]? = some (RX9, TX9, 12) from rfl) rfl ⟨Nat.le_of_ble_eq_true rfl, Nat.le_of_ble_eq_true rfl⟩ ⟨Nat.le_refl _, Nat.le_refl _⟩ rfl (Nat.le_of_ble_eq_true rfl) dX9_readHand_130) hI (by decide) (fun r_28 σ_29 H locs hpσ_29 hkσ_29 hI => ?_)
              obtain ⟨ahpσ_29, bhpσ_29, chpσ_29, dhpσ_29⟩ := hpσ_29
              have fr_σ_29 := fr_σ_18.call dhpσ_29 rfl rfl
              replace hF := q_biX hF chpσ_29
              exact q_retz E hr hlk hI ⟨by omega, by omega⟩ ⟨⟨by omega, by omega⟩, (hF.trans hout), fr_σ_29⟩ dX9_readHand_133
            · skip
              replace hF := q_ifp hF c_26
              refine lv_aload_n hx hb dX9_readHand_99 rfl (lv_at hl 1 rfl) ?_
              refine gs_X9_12_9 E hI ha dX9_readHand_100 ?_
              refine gs_X9_67_1 E hI (q_tk (k' := 1) hI ha rfl (by decide)) dX9_readHand_103 ?_
              refine gs_X9_175_6 E hI (q_tk (k' := 6) hI (q_tk (k' := 1) hI ha rfl (by decide)) rfl (by decide)) dX9_readHand_106 ?_
              refine lv_iload_n hx hb dX9_readHand_109 rfl (lv_at hl 4 rfl) ?_
              refine q_ci (q_runV (As := [.int f_20]) (rest := []) E (hml.trans hl.1.symm) hI (c_X5_get l X σ_18 (q_rf X (q_rf X (q_rf X a 8) 0) 5) f_20 (q_tk (k' := 5) hI (q_tk (k' := 6) hI (q_tk (k' := 1) hI ha rfl (by decide)) rfl (by decide)) rfl (by decide))) kv_X9_171 (q_tk (k' := 5) hI (q_tk (k' := 6) hI (q_tk (k' := 1) hI ha rfl (by decide)) rfl (by decide)) rfl (by decide)) ⟨rfl, by decide⟩ (show vwCl[4]? = some (RX5, TX5, 1) from rfl) rfl ⟨Nat.le_of_ble_eq_true rfl, Nat.le_of_ble_eq_true rfl⟩ ⟨Nat.le_refl _, Nat.le_refl _⟩ rfl (Nat.le_of_ble_eq_true rfl) dX9_readHand_110) hI (by decide) (fun r_30 σ_31 H locs hpσ_31 hkσ_31 hI => ?_)
              obtain ⟨ahpσ_31, bhpσ_31⟩ := hpσ_31
              rw [ahpσ_31] at hI
              replace hF := q_letX hF bhpσ_31
              refine lv_iload_n hx hb dX9_readHand_113 rfl (lv_at hl 3 rfl) ?_
              refine lv_iadd hx hb dX9_readHand_114 ?_
              refine lv_topi (fun z_32 ez_32 => ?_)
              replace hF := q_letX hF ez_32
              refine lv_aload_n hx hb dX9_readHand_115 rfl (lv_at hl 1 rfl) ?_
              refine gs_X9_12_9 E hI ha dX9_readHand_116 ?_
              refine gs_X9_67_1 E hI (q_tk (k' := 1) hI ha rfl (by decide)) dX9_readHand_119 ?_
              refine gs_X9_75_6 E hI (q_tk (k' := 6) hI (q_tk (k' := 1) hI ha rfl (by decide)) rfl (by decide)) dX9_readHand_122 ?_
              refine lv_topi (fun f_33 ef_33 => ?_)
              replace hF := q_letX hF ef_33
              refine q_icmp_le (A := z_32.toInt) (B := f_33.toInt) E rfl rfl (tgt := 134) dX9_readHand_125 (by decide) (fun c_34 => ?_) (fun c_34 => ?_)
              · skip
                replace hF := q_ifn hF (Int.not_lt.mpr c_34)
                refine lv_aload_n hx hb dX9_readHand_134 rfl (lv_at hl 1 rfl) ?_
                refine gs_X9_30_9 E hI ha dX9_readHand_135 ?_
                refine lv_iload_n hx hb dX9_readHand_138 rfl (lv_at hl 2 rfl) ?_
                refine lv_iconst (v := 1) hx hb dX9_readHand_139 (by decide) ?_
                refine lv_iload_n hx hb dX9_readHand_140 rfl (lv_at hl 4 rfl) ?_
                refine lv_ishl hx hb dX9_readHand_141 ?_
                refine lv_topi (fun z_35 ez_35 => ?_)
                replace hF := q_letX hF ez_35
                refine q_cv (q_runV (As := [.int r_3, .int z_35]) (rest := []) E (hml.trans hl.1.symm) hI (c_X5_add l X σ_18 (q_rf X a 11) r_3 z_35 (q_tk (k' := 5) hI ha rfl (by decide))) kv_X9_178 (q_tk (k' := 5) hI ha rfl (by decide)) ⟨rfl, by decide⟩ (show vwCl[4]? = some (RX5, TX5, 1) from rfl) rfl ⟨Nat.le_of_ble_eq_true rfl, Nat.le_of_ble_eq_true rfl⟩ ⟨Nat.le_refl _, Nat.le_refl _⟩ rfl (Nat.le_of_ble_eq_true rfl) dX9_readHand_142) hI (by decide) (fun σ_37 H locs hpσ_37 hkσ_37 hI => ?_)
                obtain ⟨ahpσ_37, bhpσ_37⟩ := hpσ_37
                have fr_σ_37 := fr_σ_18.call bhpσ_37 rfl rfl
                replace hF := q_letX hF ahpσ_37
                refine lv_aload_n hx hb dX9_readHand_145 rfl (lv_at hl 1 rfl) ?_
                refine gs_X9_12_9 E hI ha dX9_readHand_146 ?_
                refine gs_X9_67_1 E hI (q_tk (k' := 1) hI ha rfl (by decide)) dX9_readHand_149 ?_
                refine gs_X9_175_6 E hI (q_tk (k' := 6) hI (q_tk (k' := 1) hI ha rfl (by decide)) rfl (by decide)) dX9_readHand_152 ?_
                refine lv_iload_n hx hb dX9_readHand_155 rfl (lv_at hl 4 rfl) ?_
                refine lv_iload_n hx hb dX9_readHand_156 rfl (lv_at hl 3 rfl) ?_
                refine q_cv (q_runV (As := [.int f_20, .int r_8]) (rest := []) E (hml.trans hl.1.symm) hI (c_X5_add l X σ_37 (q_rf X (q_rf X (q_rf X a 8) 0) 5) f_20 r_8 (q_tk (k' := 5) hI (q_tk (k' := 6) hI (q_tk (k' := 1) hI ha rfl (by decide)) rfl (by decide)) rfl (by decide))) kv_X9_178 (q_tk (k' := 5) hI (q_tk (k' := 6) hI (q_tk (k' := 1) hI ha rfl (by decide)) rfl (by decide)) rfl (by decide)) ⟨rfl, by decide⟩ (show vwCl[4]? = some (RX5, TX5, 1) from rfl) rfl ⟨Nat.le_of_ble_eq_true rfl, Nat.le_of_ble_eq_true rfl⟩ ⟨Nat.le_refl _, Nat.le_refl _⟩ rfl (Nat.le_of_ble_eq_true rfl) dX9_readHand_157) hI (by decide) (fun σ_39 H locs hpσ_39 hkσ_39 hI => ?_)
                obtain ⟨ahpσ_39, bhpσ_39⟩ := hpσ_39
                have fr_σ_39 := fr_σ_37.call bhpσ_39 rfl rfl
                replace hF := q_letX hF ahpσ_39
                refine lv_aload_n hx hb dX9_readHand_160 rfl (lv_at hl 1 rfl) ?_
                refine gs_X9_12_9 E hI ha dX9_readHand_161 ?_
                refine gs_X9_136_1 E hI (q_tk (k' := 1) hI ha rfl (by decide)) dX9_readHand_164 ?_
                refine lv_iload_n hx hb dX9_readHand_167 rfl (lv_at hl 2 rfl) ?_
                refine lv_iload_n hx hb dX9_readHand_168 rfl (lv_at hl 4 rfl) ?_
                refine lv_iload_n hx hb dX9_readHand_169 rfl (lv_at hl 3 rfl) ?_
                refine q_cv (q_runV (As := [.int r_3, .int f_20, .int r_8]) (rest := []) E (hml.trans hl.1.symm) hI (c_X1_deal l X σ_39 (q_rf X (q_rf X a 8) 1) r_3 f_20 r_8 (q_tk (k' := 2) hI (q_tk (k' := 1) hI ha rfl (by decide)) rfl (by decide))) kv_X9_181 (q_tk (k' := 2) hI (q_tk (k' := 1) hI ha rfl (by decide)) rfl (by decide)) ⟨rfl, by decide⟩ (show vwCl[1]? = some (RX1, TX1, 7) from rfl) rfl ⟨Nat.le_of_ble_eq_true rfl, Nat.le_of_ble_eq_true rfl⟩ ⟨Nat.le_refl _, Nat.le_refl _⟩ rfl (Nat.le_of_ble_eq_true rfl) dX9_readHand_170) hI (by decide) (fun σ_41 H locs hpσ_41 hkσ_41 hI => ?_)
                obtain ⟨ahpσ_41, bhpσ_41⟩ := hpσ_41
                have fr_σ_41 := fr_σ_39.call bhpσ_41 rfl rfl
                replace hF := q_letX hF ahpσ_41
                refine lv_aload_n hx hb dX9_readHand_173 rfl (lv_at hl 1 rfl) ?_
                refine q_cv (q_runU (As := []) (rest := []) E (hml.trans hl.1.symm) hI (c_X3_advance l X σ_41 a (Or.inr ha)) ku_X9_107_9 ha ⟨rfl, by decide⟩ (show vwCl[8]? = some (RX9, TX9, 12) from rfl) rfl ⟨Nat.le_of_ble_eq_true rfl, Nat.le_of_ble_eq_true rfl⟩ ⟨Nat.le_refl _, Nat.le_refl _⟩ rfl (Nat.le_of_ble_eq_true rfl) dX9_readHand_174) hI (by decide) (fun σ_43 H locs hpσ_43 hkσ_43 hI => ?_)
                obtain ⟨ahpσ_43, bhpσ_43⟩ := hpσ_43
                have fr_σ_43 := fr_σ_41.call bhpσ_43 rfl rfl
                replace hF := q_letX hF ahpσ_43
                refine lv_aload_n hx hb dX9_readHand_177 rfl (lv_at hl 1 rfl) ?_
                refine q_ci (q_runU (As := []) (rest := []) E (hml.trans hl.1.symm) hI (c_X3_passSemicolon l X σ_43 a (Or.inr ha)) ku_X9_77_9 ha ⟨rfl, by decide⟩ (show vwCl[8]? = some (RX9, TX9, 12) from rfl) rfl ⟨Nat.le_of_ble_eq_true rfl, Nat.le_of_ble_eq_true rfl⟩ ⟨Nat.le_refl _, Nat.le_refl _⟩ rfl (Nat.le_of_ble_eq_true rfl) dX9_readHand_178) hI (by decide) (fun r_44 σ_45 H locs hpσ_45 hkσ_45 hI => ?_)
                obtain ⟨ahpσ_45, bhpσ_45, chpσ_45⟩ := hpσ_45
                have fr_σ_45 := fr_σ_43.call chpσ_45 rfl rfl
                replace hF := q_biX hF bhpσ_45
                exact q_retz E hr hlk hI ⟨by omega, by omega⟩ ⟨⟨by omega, by omega⟩, (hF.trans hout), fr_σ_45⟩ dX9_readHand_181
              · skip
                replace hF := q_ifp hF c_34
                refine lv_aload_n hx hb dX9_readHand_128 rfl (lv_at hl 1 rfl) ?_
                refine lv_iconst (v := 5) hx hb dX9_readHand_129 (by decide) ?_
                have kc_46 : (5 : Int32).toInt = 5 := rfl
                refine q_ci (q_runU (As := [.int 5]) (rest := []) E (hml.trans hl.1.symm) hI (c_X3_fails l X σ_18 a (5 : Int32) (Or.inr ha)) ku_X9_103_9 ha ⟨rfl, by decide⟩ (show vwCl[8]? = some (RX9, TX9, 12) from rfl) rfl ⟨Nat.le_of_ble_eq_true rfl, Nat.le_of_ble_eq_true rfl⟩ ⟨Nat.le_refl _, Nat.le_refl _⟩ rfl (Nat.le_of_ble_eq_true rfl) dX9_readHand_130) hI (by decide) (fun r_47 σ_48 H locs hpσ_48 hkσ_48 hI => ?_)
                obtain ⟨ahpσ_48, bhpσ_48, chpσ_48, dhpσ_48⟩ := hpσ_48
                have fr_σ_48 := fr_σ_18.call dhpσ_48 rfl rfl
                replace hF := q_biX hF chpσ_48
                exact q_retz E hr hlk hI ⟨by omega, by omega⟩ ⟨⟨by omega, by omega⟩, (hF.trans hout), fr_σ_48⟩ dX9_readHand_133
          refine q_if_eq (A := z_24.toInt) E rfl (tgt := 91) dX9_readHand_84 (by decide) (fun c_49 => ?_) (fun c_49 => ?_)
          · skip
            replace hF := q_ifp hF c_49
            refine lv_iconst (v := 0) hx hb dX9_readHand_91 (by decide) ?_
            exact J_92_25 0 _ _ ls hF hI (lv_sub hl [3, 2, 1, 0] rfl)
          · skip
            replace hF := q_ifn hF c_49
            refine lv_iconst (v := 1) hx hb dX9_readHand_87 (by decide) ?_
            refine lv_goto (tgt := 92) hx hb dX9_readHand_88 (by decide) ?_
            exact J_92_25 1 _ _ ls hF hI (lv_sub hl [3, 2, 1, 0] rfl)
        · skip
          replace hF := q_ifp hF c_19
          clear bhpσ_18
          refine lv_iconst (v := 0) hx hb dX9_readHand_65 (by decide) ?_
          have hrv : (0 : Int32).toInt = 0 := rfl
          exact q_retz E hr hlk hI ⟨by decide, by decide⟩ ⟨⟨by decide, by decide⟩, (hF.trans hout), fr_σ_18⟩ dX9_readHand_66
  · skip
    replace hF := q_ifp hF c_5
    refine lv_iconst (v := 0) hx hb dX9_readHand_21 (by decide) ?_
    have hrv : (0 : Int32).toInt = 0 := rfl
    exact q_retz E hr hlk hI ⟨by decide, by decide⟩ ⟨⟨by decide, by decide⟩, (hF.trans hout), fr_σ_4⟩ dX9_readHand_22

set_option maxRecDepth 100000 in
set_option maxHeartbeats 4000000 in
theorem c_X9_readPart (l : Launch) (X : XW) (σ : ST) (a : Nat) (ha : q_kd X a = 9) : Met l yX9_readPart (q_ws yX9_readPart cX9_readPart 1 (some .boolean)) (q_rm 8 174) (q_P X σ [.ref a]) (q_Qi X 8 σ (fun (r : Int32) (σ' : ST) => (0 ≤ r.toInt ∧ r.toInt ≤ 1) ∧ (r, σ') = F_X9_readPart X σ a ∧ q_ow [(4, 2), (4, 3), (4, 4), (4, 5), (4, 6), (4, 7), (6, 2), (6, 3), (6, 4), (9, 2), (9, 3), (9, 4), (9, 5), (9, 6), (9, 7), (9, 9), (9, 10), (20, 99)] [] X σ σ')) 0 0 (q_reg X) := by
  refine q_met 8 (by first | exact rfl | decide +kernel) rfl (Nat.le_of_ble_eq_true rfl) (fun p e s m below meth c E hml hr hlk hI ls hl => ?_)
  have hx := E.1
  have hb := E.2.1
  have hl : lv_has ls 1 [(0, .ref a)] := hl
  have fr_σ : q_ow [(4, 2), (4, 3), (4, 4), (4, 5), (4, 6), (4, 7), (6, 2), (6, 3), (6, 4), (9, 2), (9, 3), (9, 4), (9, 5), (9, 6), (9, 7), (9, 9), (9, 10), (20, 99)] [] X σ σ := q_ow.rf
  obtain ⟨out, hout⟩ : ∃ o, o = F_X9_readPart X σ a := ⟨_, rfl⟩
  have hF := hout.symm
  unfold F_X9_readPart at hF
  refine lv_aload_n hx hb dX9_readPart_0 rfl (lv_at hl 0 rfl) ?_
  refine va_ldcS hx hb E.2.2.1 (kz_X9_80 E) dX9_readPart_1 ?_
  refine q_ci (q_runU (As := [.ref (q_sk X 2)]) (rest := []) E (hml.trans hl.1.symm) hI (c_X3_isWord l X σ a 2 (Or.inr ha) (by decide : 2 < 22)) ku_X9_82_9 ha ⟨rfl, by decide⟩ (show vwCl[8]? = some (RX9, TX9, 12) from rfl) rfl ⟨Nat.le_of_ble_eq_true rfl, Nat.le_of_ble_eq_true rfl⟩ ⟨Nat.le_refl _, Nat.le_refl _⟩ rfl (Nat.le_of_ble_eq_true rfl) dX9_readPart_3) hI (by decide) (fun r_1 σ_2 H locs hpσ_2 hkσ_2 hI => ?_)
  obtain ⟨ahpσ_2, bhpσ_2, chpσ_2⟩ := hpσ_2
  rw [ahpσ_2] at hI
  replace hF := q_letX hF chpσ_2
  refine q_if_eq (A := r_1.toInt) E rfl (tgt := 14) dX9_readPart_6 (by decide) (fun c_3 => ?_) (fun c_3 => ?_)
  · skip
    replace hF := q_ifp hF c_3
    refine lv_aload_n hx hb dX9_readPart_14 rfl (lv_at hl 0 rfl) ?_
    refine va_ldcS hx hb E.2.2.1 (kz_X9_88 E) dX9_readPart_15 ?_
    refine q_ci (q_runU (As := [.ref (q_sk X 6)]) (rest := []) E (hml.trans hl.1.symm) hI (c_X3_isWord l X σ a 6 (Or.inr ha) (by decide : 6 < 22)) ku_X9_82_9 ha ⟨rfl, by decide⟩ (show vwCl[8]? = some (RX9, TX9, 12) from rfl) rfl ⟨Nat.le_of_ble_eq_true rfl, Nat.le_of_ble_eq_true rfl⟩ ⟨Nat.le_refl _, Nat.le_refl _⟩ rfl (Nat.le_of_ble_eq_true rfl) dX9_readPart_17) hI (by decide) (fun r_4 σ_5 H locs hpσ_5 hkσ_5 hI => ?_)
    obtain ⟨ahpσ_5, bhpσ_5, chpσ_5⟩ := hpσ_5
    rw [ahpσ_5] at hI
    replace hF := q_letX hF chpσ_5
    refine q_if_eq (A := r_4.toInt) E rfl (tgt := 28) dX9_readPart_20 (by decide) (fun c_6 => ?_) (fun c_6 => ?_)
    · skip
      replace hF := q_ifp hF c_6
      refine lv_aload_n hx hb dX9_readPart_28 rfl (lv_at hl 0 rfl) ?_
      refine va_ldcS hx hb E.2.2.1 (kz_X9_93 E) dX9_readPart_29 ?_
      refine q_ci (q_runU (As := [.ref (q_sk X 7)]) (rest := []) E (hml.trans hl.1.symm) hI (c_X3_isWord l X σ a 7 (Or.inr ha) (by decide : 7 < 22)) ku_X9_82_9 ha ⟨rfl, by decide⟩ (show vwCl[8]? = some (RX9, TX9, 12) from rfl) rfl ⟨Nat.le_of_ble_eq_true rfl, Nat.le_of_ble_eq_true rfl⟩ ⟨Nat.le_refl _, Nat.le_refl _⟩ rfl (Nat.le_of_ble_eq_true rfl) dX9_readPart_31) hI (by decide) (fun r_7 σ_8 H locs hpσ_8 hkσ_8 hI => ?_)
      obtain ⟨ahpσ_8, bhpσ_8, chpσ_8⟩ := hpσ_8
      rw [ahpσ_8] at hI
      replace hF := q_letX hF chpσ_8
      refine q_if_eq (A := r_7.toInt) E rfl (tgt := 42) dX9_readPart_34 (by decide) (fun c_9 => ?_) (fun c_9 => ?_)
      · skip
        replace hF := q_ifp hF c_9
        refine lv_aload_n hx hb dX9_readPart_42 rfl (lv_at hl 0 rfl) ?_
        refine va_ldcS hx hb E.2.2.1 (kz_X9_98 E) dX9_readPart_43 ?_
        refine q_ci (q_runU (As := [.ref (q_sk X 11)]) (rest := []) E (hml.trans hl.1.symm) hI (c_X3_isWord l X σ a 11 (Or.inr ha) (by decide : 11 < 22)) ku_X9_82_9 ha ⟨rfl, by decide⟩ (show vwCl[8]? = some (RX9, TX9, 12) from rfl) rfl ⟨Nat.le_of_ble_eq_true rfl, Nat.le_of_ble_eq_true rfl⟩ ⟨Nat.le_refl _, Nat.le_refl _⟩ rfl (Nat.le_of_ble_eq_true rfl) dX9_readPart_45) hI (by decide) (fun r_10 σ_11 H locs hpσ_11 hkσ_11 hI => ?_)
        obtain ⟨ahpσ_11, bhpσ_11, chpσ_11⟩ := hpσ_11
        rw [ahpσ_11] at hI
        replace hF := q_letX hF chpσ_11
        refine q_if_eq (A := r_10.toInt) E rfl (tgt := 58) dX9_readPart_48 (by decide) (fun c_12 => ?_) (fun c_12 => ?_)
        · skip
          replace hF := q_ifp hF c_12
          refine lv_aload_n hx hb dX9_readPart_58 rfl (lv_at hl 0 rfl) ?_
          refine lv_iconst (v := 2) hx hb dX9_readPart_59 (by decide) ?_
          have kc_13 : (2 : Int32).toInt = 2 := rfl
          refine q_ci (q_runU (As := [.int 2]) (rest := []) E (hml.trans hl.1.symm) hI (c_X3_fails l X σ a (2 : Int32) (Or.inr ha)) ku_X9_103_9 ha ⟨rfl, by decide⟩ (show vwCl[8]? = some (RX9, TX9, 12) from rfl) rfl ⟨Nat.le_of_ble_eq_true rfl, Nat.le_of_ble_eq_true rfl⟩ ⟨Nat.le_refl _, Nat.le_refl _⟩ rfl (Nat.le_of_ble_eq_true rfl) dX9_readPart_60) hI (by decide) (fun r_14 σ_15 H locs hpσ_15 hkσ_15 hI => ?_)
          obtain ⟨ahpσ_15, bhpσ_15, chpσ_15, dhpσ_15⟩ := hpσ_15
          have fr_σ_15 := fr_σ.call dhpσ_15 rfl rfl
          replace hF := q_biX hF chpσ_15
          exact q_retz E hr hlk hI ⟨by omega, by omega⟩ ⟨⟨by omega, by omega⟩, (hF.trans hout), fr_σ_15⟩ dX9_readPart_63
        · skip
          replace hF := q_ifn hF c_12
          replace c_12 := q_ifOne bhpσ_11 c_12
          refine lv_aload_n hx hb dX9_readPart_51 rfl (lv_at hl 0 rfl) ?_
          refine q_ci (q_runV (As := []) (rest := []) E (hml.trans hl.1.symm) hI (c_X9_readHand l X σ a ha) kv_X9_100 ha ⟨rfl, by decide⟩ (show vwCl[8]? = some (RX9, TX9, 12) from rfl) rfl ⟨Nat.le_of_ble_eq_true rfl, Nat.le_of_ble_eq_true rfl⟩ ⟨Nat.le_refl _, Nat.le_refl _⟩ rfl (Nat.le_of_ble_eq_true rfl) dX9_readPart_52) hI (by decide) (fun r_16 σ_17 H locs hpσ_17 hkσ_17 hI => ?_)
          obtain ⟨ahpσ_17, bhpσ_17, chpσ_17⟩ := hpσ_17
          have fr_σ_17 := fr_σ.call chpσ_17 rfl rfl
          replace hF := q_biX hF bhpσ_17
          refine lv_goto (tgt := 63) hx hb dX9_readPart_55 (by decide) ?_
          exact q_retz E hr hlk hI ⟨by omega, by omega⟩ ⟨⟨by omega, by omega⟩, (hF.trans hout), fr_σ_17⟩ dX9_readPart_63
      · skip
        replace hF := q_ifn hF c_9
        replace c_9 := q_ifOne bhpσ_8 c_9
        refine lv_aload_n hx hb dX9_readPart_37 rfl (lv_at hl 0 rfl) ?_
        refine q_ci (q_runV (As := []) (rest := []) E (hml.trans hl.1.symm) hI (c_X9_readPlayer l X σ a ha) kv_X9_95 ha ⟨rfl, by decide⟩ (show vwCl[8]? = some (RX9, TX9, 12) from rfl) rfl ⟨Nat.le_of_ble_eq_true rfl, Nat.le_of_ble_eq_true rfl⟩ ⟨Nat.le_refl _, Nat.le_refl _⟩ rfl (Nat.le_of_ble_eq_true rfl) dX9_readPart_38) hI (by decide) (fun r_18 σ_19 H locs hpσ_19 hkσ_19 hI => ?_)
        obtain ⟨ahpσ_19, bhpσ_19, chpσ_19⟩ := hpσ_19
        have fr_σ_19 := fr_σ.call chpσ_19 rfl rfl
        replace hF := q_biX hF bhpσ_19
        exact q_retz E hr hlk hI ⟨by omega, by omega⟩ ⟨⟨by omega, by omega⟩, (hF.trans hout), fr_σ_19⟩ dX9_readPart_41
    · skip
      replace hF := q_ifn hF c_6
      replace c_6 := q_ifOne bhpσ_5 c_6
      refine lv_aload_n hx hb dX9_readPart_23 rfl (lv_at hl 0 rfl) ?_
      refine q_ci (q_runV (As := []) (rest := []) E (hml.trans hl.1.symm) hI (c_X9_readMost l X σ a ha) kv_X9_90 ha ⟨rfl, by decide⟩ (show vwCl[8]? = some (RX9, TX9, 12) from rfl) rfl ⟨Nat.le_of_ble_eq_true rfl, Nat.le_of_ble_eq_true rfl⟩ ⟨Nat.le_refl _, Nat.le_refl _⟩ rfl (Nat.le_of_ble_eq_true rfl) dX9_readPart_24) hI (by decide) (fun r_20 σ_21 H locs hpσ_21 hkσ_21 hI => ?_)
      obtain ⟨ahpσ_21, bhpσ_21, chpσ_21⟩ := hpσ_21
      have fr_σ_21 := fr_σ.call chpσ_21 rfl rfl
      replace hF := q_biX hF bhpσ_21
      exact q_retz E hr hlk hI ⟨by omega, by omega⟩ ⟨⟨by omega, by omega⟩, (hF.trans hout), fr_σ_21⟩ dX9_readPart_27
  · skip
    replace hF := q_ifn hF c_3
    replace c_3 := q_ifOne bhpσ_2 c_3
    refine lv_aload_n hx hb dX9_readPart_9 rfl (lv_at hl 0 rfl) ?_
    refine q_ci (q_runV (As := []) (rest := []) E (hml.trans hl.1.symm) hI (c_X9_readLaw l X σ a ha) kv_X9_85 ha ⟨rfl, by decide⟩ (show vwCl[8]? = some (RX9, TX9, 12) from rfl) rfl ⟨Nat.le_of_ble_eq_true rfl, Nat.le_of_ble_eq_true rfl⟩ ⟨Nat.le_refl _, Nat.le_refl _⟩ rfl (Nat.le_of_ble_eq_true rfl) dX9_readPart_10) hI (by decide) (fun r_22 σ_23 H locs hpσ_23 hkσ_23 hI => ?_)
    obtain ⟨ahpσ_23, bhpσ_23, chpσ_23⟩ := hpσ_23
    have fr_σ_23 := fr_σ.call chpσ_23 rfl rfl
    replace hF := q_biX hF bhpσ_23
    exact q_retz E hr hlk hI ⟨by omega, by omega⟩ ⟨⟨by omega, by omega⟩, (hF.trans hout), fr_σ_23⟩ dX9_readPart_13

set_option maxRecDepth 100000 in
set_option maxHeartbeats 4000000 in
theorem c_X9_takes (l : Launch) (X : XW) (σ : ST) (a : Nat) (r1 : Nat) (v2 : Int32) (ha : q_kd X a = 9) (hr1 : q_kd X r1 = 22) : Met l yX9_takes (q_ws yX9_takes cX9_takes 4 (some .boolean)) (q_rm 9 194) (q_P X σ [.ref a, .ref r1, .int v2]) (q_Qi X 8 σ (fun (r : Int32) (σ' : ST) => (0 ≤ r.toInt ∧ r.toInt ≤ 1) ∧ (r, σ') = F_X9_takes X σ a r1 v2 ∧ q_ow [(1, 4), (1, 5), (1, 6), (1, 7), (3, 0), (3, 1), (4, 1), (4, 2), (4, 3), (4, 4), (4, 5), (4, 6), (4, 7), (6, 0), (6, 1), (6, 2), (6, 3), (6, 4), (8, 0), (8, 1), (8, 2), (9, 1), (9, 2), (9, 3), (9, 4), (9, 5), (9, 6), (9, 7), (9, 9), (9, 10), (20, 99)] [] X σ σ')) 0 0 (q_reg X) := by
  refine q_met 8 (by first | exact rfl | decide +kernel) rfl (Nat.le_of_ble_eq_true rfl) (fun p e s m below meth c E hml hr hlk hI ls hl => ?_)
  have hx := E.1
  have hb := E.2.1
  have hl : lv_has ls 4 [(0, .ref a), (1, .ref r1), (2, .int v2)] := hl
  have fr_σ : q_ow [(1, 4), (1, 5), (1, 6), (1, 7), (3, 0), (3, 1), (4, 1), (4, 2), (4, 3), (4, 4), (4, 5), (4, 6), (4, 7), (6, 0), (6, 1), (6, 2), (6, 3), (6, 4), (8, 0), (8, 1), (8, 2), (9, 1), (9, 2), (9, 3), (9, 4), (9, 5), (9, 6), (9, 7), (9, 9), (9, 10), (20, 99)] [] X σ σ := q_ow.rf
  obtain ⟨out, hout⟩ : ∃ o, o = F_X9_takes X σ a r1 v2 := ⟨_, rfl⟩
  have hF := hout.symm
  unfold F_X9_takes at hF
  refine lv_aload_n hx hb dX9_takes_0 rfl (lv_at hl 0 rfl) ?_
  refine gs_X9_12_9 E hI ha dX9_takes_1 ?_
  refine q_cv (q_runV (As := []) (rest := []) E (hml.trans hl.1.symm) hI (c_X0_reset l X σ (q_rf X a 8) (q_tk (k' := 1) hI ha rfl (by decide))) kv_X9_34 (q_tk (k' := 1) hI ha rfl (by decide)) ⟨rfl, by decide⟩ (show vwCl[0]? = some (RX0, TX0, 15) from rfl) rfl ⟨Nat.le_of_ble_eq_true rfl, Nat.le_of_ble_eq_true rfl⟩ ⟨Nat.le_refl _, Nat.le_refl _⟩ rfl (Nat.le_of_ble_eq_true rfl) dX9_takes_4) hI (by decide) (fun σ_2 H locs hpσ_2 hkσ_2 hI => ?_)
  obtain ⟨ahpσ_2, bhpσ_2⟩ := hpσ_2
  have fr_σ_2 := fr_σ.call bhpσ_2 rfl rfl
  replace hF := q_letX hF ahpσ_2
  refine lv_aload_n hx hb dX9_takes_7 rfl (lv_at hl 0 rfl) ?_
  refine lv_iconst (v := 0) hx hb dX9_takes_8 (by decide) ?_
  refine ps_X9_18_9 E hI ha (by decide) (by decide) (by decide) dX9_takes_9 (fun H locs σ_3 hσ_3 hI => ?_)
  replace hF := q_letX hF hσ_3
  have fr_σ_3 := fr_σ_2.si hσ_3 ha rfl
  refine lv_aload_n hx hb dX9_takes_12 rfl (lv_at hl 0 rfl) ?_
  refine lv_iconst (v := 0) hx hb dX9_takes_13 (by decide) ?_
  refine ps_X9_22_9 E hI ha (by decide) (by decide) (by decide) dX9_takes_14 (fun H locs σ_4 hσ_4 hI => ?_)
  replace hF := q_letX hF hσ_4
  have fr_σ_4 := fr_σ_3.si hσ_4 ha rfl
  refine lv_aload_n hx hb dX9_takes_17 rfl (lv_at hl 0 rfl) ?_
  refine gs_X9_30_9 E hI ha dX9_takes_18 ?_
  refine q_cv (q_runV (As := []) (rest := []) E (hml.trans hl.1.symm) hI (c_X5_clear l X σ_4 (q_rf X a 11) (q_tk (k' := 5) hI ha rfl (by decide))) kv_X9_37 (q_tk (k' := 5) hI ha rfl (by decide)) ⟨rfl, by decide⟩ (show vwCl[4]? = some (RX5, TX5, 1) from rfl) rfl ⟨Nat.le_of_ble_eq_true rfl, Nat.le_of_ble_eq_true rfl⟩ ⟨Nat.le_refl _, Nat.le_refl _⟩ rfl (Nat.le_of_ble_eq_true rfl) dX9_takes_21) hI (by decide) (fun σ_6 H locs hpσ_6 hkσ_6 hI => ?_)
  obtain ⟨ahpσ_6, bhpσ_6⟩ := hpσ_6
  have fr_σ_6 := fr_σ_4.call bhpσ_6 rfl rfl
  replace hF := q_letX hF ahpσ_6
  refine lv_aload_n hx hb dX9_takes_24 rfl (lv_at hl 0 rfl) ?_
  refine lv_aload_n hx hb dX9_takes_25 rfl (lv_at hl 1 rfl) ?_
  refine lv_iload_n hx hb dX9_takes_26 rfl (lv_at hl 2 rfl) ?_
  refine q_cv (q_runU (As := [.ref r1, .int v2]) (rest := []) E (hml.trans hl.1.symm) hI (c_X3_start l X σ_6 a r1 v2 (Or.inr ha) hr1) ku_X9_40_9 ha ⟨rfl, by decide⟩ (show vwCl[8]? = some (RX9, TX9, 12) from rfl) rfl ⟨Nat.le_of_ble_eq_true rfl, Nat.le_of_ble_eq_true rfl⟩ ⟨Nat.le_refl _, Nat.le_refl _⟩ rfl (Nat.le_of_ble_eq_true rfl) dX9_takes_27) hI (by decide) (fun σ_8 H locs hpσ_8 hkσ_8 hI => ?_)
  obtain ⟨ahpσ_8, bhpσ_8⟩ := hpσ_8
  have fr_σ_8 := fr_σ_6.call bhpσ_8 rfl rfl
  replace hF := q_letX hF ahpσ_8
  refine lv_aload_n hx hb dX9_takes_30 rfl (lv_at hl 0 rfl) ?_
  refine q_ci (q_runV (As := []) (rest := []) E (hml.trans hl.1.symm) hI (c_X9_readHead l X σ_8 a ha) kv_X9_44 ha ⟨rfl, by decide⟩ (show vwCl[8]? = some (RX9, TX9, 12) from rfl) rfl ⟨Nat.le_of_ble_eq_true rfl, Nat.le_of_ble_eq_true rfl⟩ ⟨Nat.le_refl _, Nat.le_refl _⟩ rfl (Nat.le_of_ble_eq_true rfl) dX9_takes_31) hI (by decide) (fun r_9 σ_10 H locs hpσ_10 hkσ_10 hI => ?_)
  obtain ⟨ahpσ_10, bhpσ_10, chpσ_10⟩ := hpσ_10
  have fr_σ_10 := fr_σ_8.call chpσ_10 rfl rfl
  replace hF := q_biX hF bhpσ_10
  refine q_if_ne (A := r_9.toInt) E rfl (tgt := 39) dX9_takes_34 (by decide) (fun c_11 => ?_) (fun c_11 => ?_)
  · skip
    replace hF := q_ifn hF c_11
    replace c_11 := q_ifOne ahpσ_10 c_11
    refine lv_iconst (v := 0) hx hb dX9_takes_39 (by decide) ?_
    refine lv_istore_n (lv' := [(3, .int 0), (0, .ref a), (1, .ref r1), (2, .int v2)]) hx hb dX9_takes_40 rfl hl (by decide) rfl (fun ls hl => ?_)
    have L_41_14 : ∀ (k_14 : Nat) (x_12 : Int32) (σ_13 : ST) (H : Heap) (locs : List Loc) (ls : Array Slot), (2147483647 - x_12.toInt).toNat < k_14 → (0 ≤ x_12.toInt) → (q_ow [(1, 4), (1, 5), (1, 6), (1, 7), (3, 0), (3, 1), (4, 1), (4, 2), (4, 3), (4, 4), (4, 5), (4, 6), (4, 7), (6, 0), (6, 1), (6, 2), (6, 3), (6, 4), (8, 0), (8, 1), (8, 2), (9, 1), (9, 2), (9, 3), (9, 4), (9, 5), (9, 6), (9, 7), (9, 9), (9, 10), (20, 99)] [] X σ σ_13) → (F_X9_takes_L41_1 X a k_14 x_12 σ_13 = out) → q_I X 8 σ s.heap locs σ_13 H → lv_has ls 4 [(0, .ref a), (1, .ref r1), (2, .int v2), (3, .int x_12)] → W p l e (q_rm 9 194) s m ([.ref a, .ref r1, .int v2] : List Value).toArray below meth c H locs 0 0 (MQ below (q_Qi X 8 σ (fun (r : Int32) (σ' : ST) => (0 ≤ r.toInt ∧ r.toInt ≤ 1) ∧ (r, σ') = F_X9_takes X σ a r1 v2 ∧ q_ow [(1, 4), (1, 5), (1, 6), (1, 7), (3, 0), (3, 1), (4, 1), (4, 2), (4, 3), (4, 4), (4, 5), (4, 6), (4, 7), (6, 0), (6, 1), (6, 2), (6, 3), (6, 4), (8, 0), (8, 1), (8, 2), (9, 1), (9, 2), (9, 3), (9, 4), (9, 5), (9, 6), (9, 7), (9, 9), (9, 10), (20, 99)] [] X σ σ')) ([.ref a, .ref r1, .int v2] : List Value).toArray s 0 0 (q_reg X)) (F0 m 41 ls []) := by
      clear hF
      intro k_14
      induction k_14 with
      | zero =>
        intro x_12 σ_13 H locs ls hms
        exact absurd hms (Nat.not_lt_zero _)
      | succ k_14 ih41 =>
        intro x_12 σ_13 H locs ls hm41 hge41 fr_σ_13 hF hI hl
        replace hF := (F_X9_takes_L41_1_s).symm.trans hF
        unfold F_X9_takes_B41_1 at hF
        refine lv_iload_n hx hb dX9_takes_41 rfl (lv_at hl 3 rfl) ?_
        refine lv_sipush (v := 900) hx hb dX9_takes_42 (by decide) ?_
        have gc_15_x_12 := q_rng x_12
        refine q_icmp_ge (A := x_12.toInt) (B := 900) E rfl (by decide) (tgt := 70) dX9_takes_45 (by decide) (fun c_15 => ?_) (fun c_15 => ?_)
        · skip
          replace hF := q_ifn hF (Int.not_lt.mpr c_15)
          skip
          refine lv_iconst (v := 1) hx hb dX9_takes_70 (by decide) ?_
          have hrv : (1 : Int32).toInt = 1 := rfl
          exact q_retz E hr hlk hI ⟨by decide, by decide⟩ ⟨⟨by decide, by decide⟩, (hF.trans hout), fr_σ_13⟩ dX9_takes_71
        · skip
          replace hF := q_ifp hF c_15
          refine lv_aload_n hx hb dX9_takes_48 rfl (lv_at hl 0 rfl) ?_
          refine gs_X9_48_9 E hI ha dX9_takes_49 ?_
          refine lv_topi (fun f_16 ef_16 => ?_)
          replace hF := q_letX hF ef_16
          refine q_if_eq (A := f_16.toInt) E rfl (tgt := 70) dX9_takes_52 (by decide) (fun c_17 => ?_) (fun c_17 => ?_)
          · skip
            replace hF := q_ifp hF c_17
            skip
            refine lv_iconst (v := 1) hx hb dX9_takes_70 (by decide) ?_
            have hrv : (1 : Int32).toInt = 1 := rfl
            exact q_retz E hr hlk hI ⟨by decide, by decide⟩ ⟨⟨by decide, by decide⟩, (hF.trans hout), fr_σ_13⟩ dX9_takes_71
          · skip
            replace hF := q_ifn hF c_17
            refine lv_aload_n hx hb dX9_takes_55 rfl (lv_at hl 0 rfl) ?_
            refine q_ci (q_runV (As := []) (rest := []) E (hml.trans hl.1.symm) hI (c_X9_readPart l X σ_13 a ha) kv_X9_52 ha ⟨rfl, by decide⟩ (show vwCl[8]? = some (RX9, TX9, 12) from rfl) rfl ⟨Nat.le_of_ble_eq_true rfl, Nat.le_of_ble_eq_true rfl⟩ ⟨Nat.le_refl _, Nat.le_refl _⟩ rfl (Nat.le_of_ble_eq_true rfl) dX9_takes_56) hI (by decide) (fun r_18 σ_19 H locs hpσ_19 hkσ_19 hI => ?_)
            obtain ⟨ahpσ_19, bhpσ_19, chpσ_19⟩ := hpσ_19
            have fr_σ_19 := fr_σ_13.call chpσ_19 rfl rfl
            replace hF := q_biX hF bhpσ_19
            refine q_if_ne (A := r_18.toInt) E rfl (tgt := 64) dX9_takes_59 (by decide) (fun c_20 => ?_) (fun c_20 => ?_)
            · skip
              replace hF := q_ifn hF c_20
              replace c_20 := q_ifOne ahpσ_19 c_20
              obtain ⟨z_21, ez_21⟩ : ∃ y : Int32, y = x_12 + 1 := ⟨_, rfl⟩
              replace hF := q_letX hF ez_21
              refine lv_iinc (v := z_21) (lv' := [(3, .int z_21), (0, .ref a), (1, .ref r1), (2, .int v2)]) hx hb dX9_takes_64 hl (k := 3) rfl (by rw [ez_21]; rfl) (by decide) rfl (fun ls hl => ?_)
              have iz_21 : z_21.toInt = x_12.toInt + 1 := q_inc ez_21 (by first | (clear ahpσ_2 bhpσ_2 ahpσ_6 bhpσ_6 ahpσ_8 bhpσ_8 ahpσ_10 bhpσ_10 chpσ_10 c_11 hm41 c_17 ahpσ_19 bhpσ_19 chpσ_19 c_20; omega) | omega)
              refine lv_goto (tgt := 41) hx hb dX9_takes_67 (by decide) ?_
              exact ih41 z_21 σ_19 _ _ ls (by first | (clear ahpσ_2 bhpσ_2 ahpσ_6 bhpσ_6 ahpσ_8 bhpσ_8 ahpσ_10 bhpσ_10 chpσ_10 c_11 ahpσ_19 bhpσ_19 chpσ_19 c_20; omega) | omega) (by first | (clear ahpσ_2 bhpσ_2 ahpσ_6 bhpσ_6 ahpσ_8 bhpσ_8 ahpσ_10 bhpσ_10 chpσ_10 c_11 hm41 c_17 ahpσ_19 bhpσ_19 chpσ_19 c_20; omega) | omega) fr_σ_19 hF hI (lv_sub hl [1, 2, 3, 0] rfl)
            · skip
              replace hF := q_ifp hF c_20
              skip
              refine lv_iconst (v := 0) hx hb dX9_takes_62 (by decide) ?_
              have hrv : (0 : Int32).toInt = 0 := rfl
              exact q_retz E hr hlk hI ⟨by decide, by decide⟩ ⟨⟨by decide, by decide⟩, (hF.trans hout), fr_σ_19⟩ dX9_takes_63
    exact L_41_14 ((2147483647 - (0 : Int32).toInt).toNat + 1) 0 σ_10 _ _ ls (Nat.lt_succ_self _) (by decide) fr_σ_10 hF hI (lv_sub hl [1, 2, 3, 0] rfl)
  · skip
    replace hF := q_ifp hF c_11
    refine lv_iconst (v := 0) hx hb dX9_takes_37 (by decide) ?_
    have hrv : (0 : Int32).toInt = 0 := rfl
    exact q_retz E hr hlk hI ⟨by decide, by decide⟩ ⟨⟨by decide, by decide⟩, (hF.trans hout), fr_σ_10⟩ dX9_takes_38

set_option maxRecDepth 100000 in
set_option maxHeartbeats 4000000 in
theorem c_X4_readEnd (l : Launch) (X : XW) (σ : ST) (a : Nat) (ha : q_kd X a = 4) : Met l yX4_readEnd (q_ws yX4_readEnd cX4_readEnd 3 (some .boolean)) (q_rm 3 65) (q_P X σ [.ref a]) (q_Qi X 8 σ (fun (r : Int32) (σ' : ST) => (0 ≤ r.toInt ∧ r.toInt ≤ 1) ∧ (r, σ') = F_X4_readEnd X σ a ∧ q_ow [(4, 2), (4, 3), (4, 4), (4, 5), (4, 6), (4, 7), (4, 10), (8, 2), (9, 2), (9, 3), (9, 4), (9, 5), (9, 6), (9, 7), (20, 99)] [] X σ σ')) 0 0 (q_reg X) := by
  refine q_met 8 (by first | exact rfl | decide +kernel) rfl (Nat.le_of_ble_eq_true rfl) (fun p e s m below meth c E hml hr hlk hI ls hl => ?_)
  have hx := E.1
  have hb := E.2.1
  have hl : lv_has ls 3 [(0, .ref a)] := hl
  have fr_σ : q_ow [(4, 2), (4, 3), (4, 4), (4, 5), (4, 6), (4, 7), (4, 10), (8, 2), (9, 2), (9, 3), (9, 4), (9, 5), (9, 6), (9, 7), (20, 99)] [] X σ σ := q_ow.rf
  obtain ⟨out, hout⟩ : ∃ o, o = F_X4_readEnd X σ a := ⟨_, rfl⟩
  have hF := hout.symm
  unfold F_X4_readEnd at hF
  refine lv_aload_n hx hb dX4_readEnd_0 rfl (lv_at hl 0 rfl) ?_
  refine gs_X4_27_4 E hI ha dX4_readEnd_1 ?_
  refine lv_topi (fun f_1 ef_1 => ?_)
  replace hF := q_letX hF ef_1
  refine q_if_ne (A := f_1.toInt) E rfl (tgt := 13) dX4_readEnd_4 (by decide) (fun c_2 => ?_) (fun c_2 => ?_)
  · skip
    replace hF := q_ifn hF c_2
    refine lv_aload_n hx hb dX4_readEnd_13 rfl (lv_at hl 0 rfl) ?_
    refine lv_dup hx hb dX4_readEnd_14 rfl ?_
    refine gs_X4_27_4 E hI ha dX4_readEnd_15 ?_
    refine lv_topi (fun f_3 ef_3 => ?_)
    replace hF := q_letX hF ef_3
    refine lv_iconst (v := 1) hx hb dX4_readEnd_18 (by decide) ?_
    refine lv_isub hx hb dX4_readEnd_19 ?_
    refine lv_topi (fun z_4 ez_4 => ?_)
    replace hF := q_letX hF ez_4
    refine ps_X4_27_4 E hI ha (by decide) dX4_readEnd_20 (fun H locs σ_5 hσ_5 hI => ?_)
    replace hF := q_letX hF hσ_5
    have fr_σ_5 := fr_σ.si hσ_5 ha rfl
    refine lv_aload_n hx hb dX4_readEnd_23 rfl (lv_at hl 0 rfl) ?_
    refine gs_X4_23_4 E hI ha dX4_readEnd_24 ?_
    refine lv_aload_n hx hb dX4_readEnd_27 rfl (lv_at hl 0 rfl) ?_
    refine gs_X4_27_4 E hI ha dX4_readEnd_28 ?_
    refine lv_topi (fun f_6 ef_6 => ?_)
    replace hF := q_letX hF ef_6
    refine q_ci (q_runV (As := [.int f_6]) (rest := []) E (hml.trans hl.1.symm) hI (c_X5_get l X σ_5 (q_rf X a 9) f_6 (q_tk (k' := 5) hI ha rfl (by decide))) kv_X4_63 (q_tk (k' := 5) hI ha rfl (by decide)) ⟨rfl, by decide⟩ (show vwCl[4]? = some (RX5, TX5, 1) from rfl) rfl ⟨Nat.le_of_ble_eq_true rfl, Nat.le_of_ble_eq_true rfl⟩ ⟨Nat.le_refl _, Nat.le_refl _⟩ rfl (Nat.le_of_ble_eq_true rfl) dX4_readEnd_31) hI (by decide) (fun r_7 σ_8 H locs hpσ_8 hkσ_8 hI => ?_)
    obtain ⟨ahpσ_8, bhpσ_8⟩ := hpσ_8
    rw [ahpσ_8] at hI
    replace hF := q_letX hF bhpσ_8
    refine lv_istore_n (lv' := [(1, .int r_7), (0, .ref a)]) hx hb dX4_readEnd_34 rfl hl (by decide) rfl (fun ls hl => ?_)
    refine lv_aload_n hx hb dX4_readEnd_35 rfl (lv_at hl 1 rfl) ?_
    refine gs_X4_12_4 E hI ha dX4_readEnd_36 ?_
    refine lv_bipush (v := 9) hx hb dX4_readEnd_39 (by decide) ?_
    have kc_9 : (9 : Int32).toInt = 9 := rfl
    refine q_ci (q_runV (As := [.int 9]) (rest := []) E (hml.trans hl.1.symm) hI (c_X8_add l X σ_5 (q_rf X a 8) (9 : Int32) (q_tk (k' := 8) hI ha rfl (by decide))) kv_X4_67 (q_tk (k' := 8) hI ha rfl (by decide)) ⟨rfl, by decide⟩ (show vwCl[7]? = some (RX8, TX8, 8) from rfl) rfl ⟨Nat.le_of_ble_eq_true rfl, Nat.le_of_ble_eq_true rfl⟩ ⟨Nat.le_refl _, Nat.le_refl _⟩ rfl (Nat.le_of_ble_eq_true rfl) dX4_readEnd_41) hI (by decide) (fun r_10 σ_11 H locs hpσ_11 hkσ_11 hI => ?_)
    obtain ⟨ahpσ_11, bhpσ_11⟩ := hpσ_11
    have fr_σ_11 := fr_σ_5.call bhpσ_11 rfl rfl
    replace hF := q_biX hF ahpσ_11
    refine lv_istore_n (lv' := [(2, .int r_10), (1, .int r_7), (0, .ref a)]) hx hb dX4_readEnd_44 rfl hl (by decide) rfl (fun ls hl => ?_)
    refine lv_aload_n hx hb dX4_readEnd_45 rfl (lv_at hl 2 rfl) ?_
    refine gs_X4_12_4 E hI ha dX4_readEnd_46 ?_
    refine gs_X4_70_8 E hI (q_tk (k' := 8) hI ha rfl (by decide)) dX4_readEnd_49 ?_
    refine lv_iload_n hx hb dX4_readEnd_52 rfl (lv_at hl 0 rfl) ?_
    refine lv_iload_n hx hb dX4_readEnd_53 rfl (lv_at hl 1 rfl) ?_
    refine q_cv (q_runV (As := [.int r_10, .int r_7]) (rest := []) E (hml.trans hl.1.symm) hI (c_X5_set l X σ_11 (q_rf X (q_rf X a 8) 4) r_10 r_7 (q_tk (k' := 5) hI (q_tk (k' := 8) hI ha rfl (by decide)) rfl (by decide))) kv_X4_73 (q_tk (k' := 5) hI (q_tk (k' := 8) hI ha rfl (by decide)) rfl (by decide)) ⟨rfl, by decide⟩ (show vwCl[4]? = some (RX5, TX5, 1) from rfl) rfl ⟨Nat.le_of_ble_eq_true rfl, Nat.le_of_ble_eq_true rfl⟩ ⟨Nat.le_refl _, Nat.le_refl _⟩ rfl (Nat.le_of_ble_eq_true rfl) dX4_readEnd_54) hI (by decide) (fun σ_13 H locs hpσ_13 hkσ_13 hI => ?_)
    obtain ⟨ahpσ_13, bhpσ_13⟩ := hpσ_13
    have fr_σ_13 := fr_σ_11.call bhpσ_13 rfl rfl
    replace hF := q_letX hF ahpσ_13
    refine lv_aload_n hx hb dX4_readEnd_57 rfl (lv_at hl 2 rfl) ?_
    refine gs_X4_12_4 E hI ha dX4_readEnd_58 ?_
    refine gs_X4_70_8 E hI (q_tk (k' := 8) hI ha rfl (by decide)) dX4_readEnd_61 ?_
    refine lv_iload_n hx hb dX4_readEnd_64 rfl (lv_at hl 1 rfl) ?_
    refine lv_iload_n hx hb dX4_readEnd_65 rfl (lv_at hl 0 rfl) ?_
    refine q_cv (q_runV (As := [.int r_7, .int r_10]) (rest := []) E (hml.trans hl.1.symm) hI (c_X5_set l X σ_13 (q_rf X (q_rf X a 8) 4) r_7 r_10 (q_tk (k' := 5) hI (q_tk (k' := 8) hI ha rfl (by decide)) rfl (by decide))) kv_X4_73 (q_tk (k' := 5) hI (q_tk (k' := 8) hI ha rfl (by decide)) rfl (by decide)) ⟨rfl, by decide⟩ (show vwCl[4]? = some (RX5, TX5, 1) from rfl) rfl ⟨Nat.le_of_ble_eq_true rfl, Nat.le_of_ble_eq_true rfl⟩ ⟨Nat.le_refl _, Nat.le_refl _⟩ rfl (Nat.le_of_ble_eq_true rfl) dX4_readEnd_66) hI (by decide) (fun σ_15 H locs hpσ_15 hkσ_15 hI => ?_)
    obtain ⟨ahpσ_15, bhpσ_15⟩ := hpσ_15
    have fr_σ_15 := fr_σ_13.call bhpσ_15 rfl rfl
    replace hF := q_letX hF ahpσ_15
    refine lv_aload_n hx hb dX4_readEnd_69 rfl (lv_at hl 2 rfl) ?_
    refine q_cv (q_runU (As := []) (rest := []) E (hml.trans hl.1.symm) hI (c_X3_advance l X σ_15 a (Or.inl ha)) ku_X4_77_4 ha ⟨rfl, by decide⟩ (show vwCl[3]? = some (RX4, TX4, 11) from rfl) rfl ⟨Nat.le_of_ble_eq_true rfl, Nat.le_of_ble_eq_true rfl⟩ ⟨Nat.le_refl _, Nat.le_refl _⟩ rfl (Nat.le_of_ble_eq_true rfl) dX4_readEnd_70) hI (by decide) (fun σ_17 H locs hpσ_17 hkσ_17 hI => ?_)
    obtain ⟨ahpσ_17, bhpσ_17⟩ := hpσ_17
    have fr_σ_17 := fr_σ_15.call bhpσ_17 rfl rfl
    replace hF := q_letX hF ahpσ_17
    refine lv_aload_n hx hb dX4_readEnd_73 rfl (lv_at hl 2 rfl) ?_
    refine q_ci (q_runU (As := []) (rest := []) E (hml.trans hl.1.symm) hI (c_X3_passSemicolon l X σ_17 a (Or.inl ha)) ku_X4_80_4 ha ⟨rfl, by decide⟩ (show vwCl[3]? = some (RX4, TX4, 11) from rfl) rfl ⟨Nat.le_of_ble_eq_true rfl, Nat.le_of_ble_eq_true rfl⟩ ⟨Nat.le_refl _, Nat.le_refl _⟩ rfl (Nat.le_of_ble_eq_true rfl) dX4_readEnd_74) hI (by decide) (fun r_18 σ_19 H locs hpσ_19 hkσ_19 hI => ?_)
    obtain ⟨ahpσ_19, bhpσ_19, chpσ_19⟩ := hpσ_19
    have fr_σ_19 := fr_σ_17.call chpσ_19 rfl rfl
    replace hF := q_biX hF bhpσ_19
    exact q_retz E hr hlk hI ⟨by omega, by omega⟩ ⟨⟨by omega, by omega⟩, (hF.trans hout), fr_σ_19⟩ dX4_readEnd_77
  · skip
    replace hF := q_ifp hF c_2
    refine lv_aload_n hx hb dX4_readEnd_7 rfl (lv_at hl 0 rfl) ?_
    refine lv_iconst (v := 2) hx hb dX4_readEnd_8 (by decide) ?_
    have kc_20 : (2 : Int32).toInt = 2 := rfl
    refine q_ci (q_runU (As := [.int 2]) (rest := []) E (hml.trans hl.1.symm) hI (c_X3_fails l X σ a (2 : Int32) (Or.inl ha)) ku_X4_59_4 ha ⟨rfl, by decide⟩ (show vwCl[3]? = some (RX4, TX4, 11) from rfl) rfl ⟨Nat.le_of_ble_eq_true rfl, Nat.le_of_ble_eq_true rfl⟩ ⟨Nat.le_refl _, Nat.le_refl _⟩ rfl (Nat.le_of_ble_eq_true rfl) dX4_readEnd_9) hI (by decide) (fun r_21 σ_22 H locs hpσ_22 hkσ_22 hI => ?_)
    obtain ⟨ahpσ_22, bhpσ_22, chpσ_22, dhpσ_22⟩ := hpσ_22
    have fr_σ_22 := fr_σ.call dhpσ_22 rfl rfl
    replace hF := q_biX hF chpσ_22
    exact q_retz E hr hlk hI ⟨by omega, by omega⟩ ⟨⟨by omega, by omega⟩, (hF.trans hout), fr_σ_22⟩ dX4_readEnd_12

set_option maxRecDepth 100000 in
set_option maxHeartbeats 4000000 in
theorem c_X4_actionHere (l : Launch) (X : XW) (σ : ST) (a : Nat) (ha : q_kd X a = 4) : Met l yX4_actionHere (q_ws yX4_actionHere cX4_actionHere 1 (some .int)) (q_rm 5 107) (q_P X σ [.ref a]) (q_Qi X 9 σ (fun (r : Int32) (σ' : ST) => σ' = σ ∧ r = F_X4_actionHere X σ a)) 0 0 (q_reg X) := by
  refine q_met 9 (by first | exact rfl | decide +kernel) rfl (Nat.le_of_ble_eq_true rfl) (fun p e s m below meth c E hml hr hlk hI ls hl => ?_)
  have hx := E.1
  have hb := E.2.1
  have hl : lv_has ls 1 [(0, .ref a)] := hl
  obtain ⟨out, hout⟩ : ∃ o, o = F_X4_actionHere X σ a := ⟨_, rfl⟩
  have hF := hout.symm
  unfold F_X4_actionHere at hF
  refine lv_aload_n hx hb dX4_actionHere_0 rfl (lv_at hl 0 rfl) ?_
  refine va_ldcS hx hb E.2.2.1 (kz_X4_100 E) dX4_actionHere_1 ?_
  refine q_ci (q_runU (As := [.ref (q_sk X 14)]) (rest := []) E (hml.trans hl.1.symm) hI (c_X3_isWord l X σ a 14 (Or.inl ha) (by decide : 14 < 22)) ku_X4_43_4 ha ⟨rfl, by decide⟩ (show vwCl[3]? = some (RX4, TX4, 11) from rfl) rfl ⟨Nat.le_of_ble_eq_true rfl, Nat.le_of_ble_eq_true rfl⟩ ⟨Nat.le_refl _, Nat.le_refl _⟩ rfl (Nat.le_of_ble_eq_true rfl) dX4_actionHere_3) hI (by decide) (fun r_1 σ_2 H locs hpσ_2 hkσ_2 hI => ?_)
  obtain ⟨ahpσ_2, bhpσ_2, chpσ_2⟩ := hpσ_2
  rw [ahpσ_2] at hI
  replace hF := q_letX hF chpσ_2
  refine q_if_eq (A := r_1.toInt) E rfl (tgt := 11) dX4_actionHere_6 (by decide) (fun c_3 => ?_) (fun c_3 => ?_)
  · skip
    replace hF := q_ifp hF c_3
    refine lv_aload_n hx hb dX4_actionHere_11 rfl (lv_at hl 0 rfl) ?_
    refine va_ldcS hx hb E.2.2.1 (kz_X4_102 E) dX4_actionHere_12 ?_
    refine q_ci (q_runU (As := [.ref (q_sk X 9)]) (rest := []) E (hml.trans hl.1.symm) hI (c_X3_isWord l X σ a 9 (Or.inl ha) (by decide : 9 < 22)) ku_X4_43_4 ha ⟨rfl, by decide⟩ (show vwCl[3]? = some (RX4, TX4, 11) from rfl) rfl ⟨Nat.le_of_ble_eq_true rfl, Nat.le_of_ble_eq_true rfl⟩ ⟨Nat.le_refl _, Nat.le_refl _⟩ rfl (Nat.le_of_ble_eq_true rfl) dX4_actionHere_14) hI (by decide) (fun r_4 σ_5 H locs hpσ_5 hkσ_5 hI => ?_)
    obtain ⟨ahpσ_5, bhpσ_5, chpσ_5⟩ := hpσ_5
    rw [ahpσ_5] at hI
    replace hF := q_letX hF chpσ_5
    refine q_if_eq (A := r_4.toInt) E rfl (tgt := 22) dX4_actionHere_17 (by decide) (fun c_6 => ?_) (fun c_6 => ?_)
    · skip
      replace hF := q_ifp hF c_6
      refine lv_aload_n hx hb dX4_actionHere_22 rfl (lv_at hl 0 rfl) ?_
      refine va_ldcS hx hb E.2.2.1 (kz_X4_104 E) dX4_actionHere_23 ?_
      refine q_ci (q_runU (As := [.ref (q_sk X 10)]) (rest := []) E (hml.trans hl.1.symm) hI (c_X3_isWord l X σ a 10 (Or.inl ha) (by decide : 10 < 22)) ku_X4_43_4 ha ⟨rfl, by decide⟩ (show vwCl[3]? = some (RX4, TX4, 11) from rfl) rfl ⟨Nat.le_of_ble_eq_true rfl, Nat.le_of_ble_eq_true rfl⟩ ⟨Nat.le_refl _, Nat.le_refl _⟩ rfl (Nat.le_of_ble_eq_true rfl) dX4_actionHere_25) hI (by decide) (fun r_7 σ_8 H locs hpσ_8 hkσ_8 hI => ?_)
      obtain ⟨ahpσ_8, bhpσ_8, chpσ_8⟩ := hpσ_8
      rw [ahpσ_8] at hI
      replace hF := q_letX hF chpσ_8
      refine q_if_eq (A := r_7.toInt) E rfl (tgt := 33) dX4_actionHere_28 (by decide) (fun c_9 => ?_) (fun c_9 => ?_)
      · skip
        replace hF := q_ifp hF c_9
        refine lv_aload_n hx hb dX4_actionHere_33 rfl (lv_at hl 0 rfl) ?_
        refine va_ldcS hx hb E.2.2.1 (kz_X4_106 E) dX4_actionHere_34 ?_
        refine q_ci (q_runU (As := [.ref (q_sk X 15)]) (rest := []) E (hml.trans hl.1.symm) hI (c_X3_isWord l X σ a 15 (Or.inl ha) (by decide : 15 < 22)) ku_X4_43_4 ha ⟨rfl, by decide⟩ (show vwCl[3]? = some (RX4, TX4, 11) from rfl) rfl ⟨Nat.le_of_ble_eq_true rfl, Nat.le_of_ble_eq_true rfl⟩ ⟨Nat.le_refl _, Nat.le_refl _⟩ rfl (Nat.le_of_ble_eq_true rfl) dX4_actionHere_36) hI (by decide) (fun r_10 σ_11 H locs hpσ_11 hkσ_11 hI => ?_)
        obtain ⟨ahpσ_11, bhpσ_11, chpσ_11⟩ := hpσ_11
        rw [ahpσ_11] at hI
        replace hF := q_letX hF chpσ_11
        refine q_if_eq (A := r_10.toInt) E rfl (tgt := 44) dX4_actionHere_39 (by decide) (fun c_12 => ?_) (fun c_12 => ?_)
        · skip
          replace hF := q_ifp hF c_12
          refine lv_aload_n hx hb dX4_actionHere_44 rfl (lv_at hl 0 rfl) ?_
          refine va_ldcS hx hb E.2.2.1 (kz_X4_108 E) dX4_actionHere_45 ?_
          refine q_ci (q_runU (As := [.ref (q_sk X 16)]) (rest := []) E (hml.trans hl.1.symm) hI (c_X3_isWord l X σ a 16 (Or.inl ha) (by decide : 16 < 22)) ku_X4_43_4 ha ⟨rfl, by decide⟩ (show vwCl[3]? = some (RX4, TX4, 11) from rfl) rfl ⟨Nat.le_of_ble_eq_true rfl, Nat.le_of_ble_eq_true rfl⟩ ⟨Nat.le_refl _, Nat.le_refl _⟩ rfl (Nat.le_of_ble_eq_true rfl) dX4_actionHere_47) hI (by decide) (fun r_13 σ_14 H locs hpσ_14 hkσ_14 hI => ?_)
          obtain ⟨ahpσ_14, bhpσ_14, chpσ_14⟩ := hpσ_14
          rw [ahpσ_14] at hI
          replace hF := q_letX hF chpσ_14
          refine q_if_eq (A := r_13.toInt) E rfl (tgt := 55) dX4_actionHere_50 (by decide) (fun c_15 => ?_) (fun c_15 => ?_)
          · skip
            replace hF := q_ifp hF c_15
            refine lv_aload_n hx hb dX4_actionHere_55 rfl (lv_at hl 0 rfl) ?_
            refine va_ldcS hx hb E.2.2.1 (kz_X4_110 E) dX4_actionHere_56 ?_
            refine q_ci (q_runU (As := [.ref (q_sk X 17)]) (rest := []) E (hml.trans hl.1.symm) hI (c_X3_isWord l X σ a 17 (Or.inl ha) (by decide : 17 < 22)) ku_X4_43_4 ha ⟨rfl, by decide⟩ (show vwCl[3]? = some (RX4, TX4, 11) from rfl) rfl ⟨Nat.le_of_ble_eq_true rfl, Nat.le_of_ble_eq_true rfl⟩ ⟨Nat.le_refl _, Nat.le_refl _⟩ rfl (Nat.le_of_ble_eq_true rfl) dX4_actionHere_58) hI (by decide) (fun r_16 σ_17 H locs hpσ_17 hkσ_17 hI => ?_)
            obtain ⟨ahpσ_17, bhpσ_17, chpσ_17⟩ := hpσ_17
            rw [ahpσ_17] at hI
            replace hF := q_letX hF chpσ_17
            refine q_if_eq (A := r_16.toInt) E rfl (tgt := 69) dX4_actionHere_61 (by decide) (fun c_18 => ?_) (fun c_18 => ?_)
            · skip
              replace hF := q_ifp hF c_18
              refine lv_iconst (v := (-1)) hx hb dX4_actionHere_69 (by decide) ?_
              exact q_reti E hr hlk hI ⟨rfl, (hF.trans hout)⟩ dX4_actionHere_70
            · skip
              replace hF := q_ifn hF c_18
              replace c_18 := q_ifOne bhpσ_17 c_18
              refine lv_bipush (v := 8) hx hb dX4_actionHere_64 (by decide) ?_
              refine lv_goto (tgt := 70) hx hb dX4_actionHere_66 (by decide) ?_
              exact q_reti E hr hlk hI ⟨rfl, (hF.trans hout)⟩ dX4_actionHere_70
          · skip
            replace hF := q_ifn hF c_15
            replace c_15 := q_ifOne bhpσ_14 c_15
            refine lv_iconst (v := 4) hx hb dX4_actionHere_53 (by decide) ?_
            exact q_reti E hr hlk hI ⟨rfl, (hF.trans hout)⟩ dX4_actionHere_54
        · skip
          replace hF := q_ifn hF c_12
          replace c_12 := q_ifOne bhpσ_11 c_12
          refine lv_iconst (v := 3) hx hb dX4_actionHere_42 (by decide) ?_
          exact q_reti E hr hlk hI ⟨rfl, (hF.trans hout)⟩ dX4_actionHere_43
      · skip
        replace hF := q_ifn hF c_9
        replace c_9 := q_ifOne bhpσ_8 c_9
        refine lv_iconst (v := 2) hx hb dX4_actionHere_31 (by decide) ?_
        exact q_reti E hr hlk hI ⟨rfl, (hF.trans hout)⟩ dX4_actionHere_32
    · skip
      replace hF := q_ifn hF c_6
      replace c_6 := q_ifOne bhpσ_5 c_6
      refine lv_iconst (v := 1) hx hb dX4_actionHere_20 (by decide) ?_
      exact q_reti E hr hlk hI ⟨rfl, (hF.trans hout)⟩ dX4_actionHere_21
  · skip
    replace hF := q_ifn hF c_3
    replace c_3 := q_ifOne bhpσ_2 c_3
    refine lv_iconst (v := 0) hx hb dX4_actionHere_9 (by decide) ?_
    exact q_reti E hr hlk hI ⟨rfl, (hF.trans hout)⟩ dX4_actionHere_10

set_option maxRecDepth 100000 in
set_option maxHeartbeats 4000000 in
theorem c_X4_readTest (l : Launch) (X : XW) (σ : ST) (a : Nat) (v1 : Int32) (ha : q_kd X a = 4) : Met l yX4_readTest (q_ws yX4_readTest cX4_readTest 2 (some .boolean)) (q_rm 5 107) (q_P X σ [.ref a, .int v1]) (q_Qi X 8 σ (fun (r : Int32) (σ' : ST) => (0 ≤ r.toInt ∧ r.toInt ≤ 1) ∧ (r, σ') = F_X4_readTest X σ a v1 ∧ q_ow [(4, 2), (4, 3), (4, 4), (4, 5), (4, 6), (4, 7), (9, 2), (9, 3), (9, 4), (9, 5), (9, 6), (9, 7), (20, 99)] [] X σ σ')) 0 0 (q_reg X) := by
  refine q_met 8 (by first | exact rfl | decide +kernel) rfl (Nat.le_of_ble_eq_true rfl) (fun p e s m below meth c E hml hr hlk hI ls hl => ?_)
  have hx := E.1
  have hb := E.2.1
  have hl : lv_has ls 2 [(0, .ref a), (1, .int v1)] := hl
  have fr_σ : q_ow [(4, 2), (4, 3), (4, 4), (4, 5), (4, 6), (4, 7), (9, 2), (9, 3), (9, 4), (9, 5), (9, 6), (9, 7), (20, 99)] [] X σ σ := q_ow.rf
  obtain ⟨out, hout⟩ : ∃ o, o = F_X4_readTest X σ a v1 := ⟨_, rfl⟩
  have hF := hout.symm
  unfold F_X4_readTest at hF
  refine lv_aload_n hx hb dX4_readTest_0 rfl (lv_at hl 0 rfl) ?_
  refine va_ldcS hx hb E.2.2.1 (kz_X4_112 E) dX4_readTest_1 ?_
  refine q_ci (q_runU (As := [.ref (q_sk X 18)]) (rest := []) E (hml.trans hl.1.symm) hI (c_X3_isWord l X σ a 18 (Or.inl ha) (by decide : 18 < 22)) ku_X4_43_4 ha ⟨rfl, by decide⟩ (show vwCl[3]? = some (RX4, TX4, 11) from rfl) rfl ⟨Nat.le_of_ble_eq_true rfl, Nat.le_of_ble_eq_true rfl⟩ ⟨Nat.le_refl _, Nat.le_refl _⟩ rfl (Nat.le_of_ble_eq_true rfl) dX4_readTest_3) hI (by decide) (fun r_1 σ_2 H locs hpσ_2 hkσ_2 hI => ?_)
  obtain ⟨ahpσ_2, bhpσ_2, chpσ_2⟩ := hpσ_2
  rw [ahpσ_2] at hI
  replace hF := q_letX hF chpσ_2
  refine q_if_eq (A := r_1.toInt) E rfl (tgt := 24) dX4_readTest_6 (by decide) (fun c_3 => ?_) (fun c_3 => ?_)
  · skip
    replace hF := q_ifp hF c_3
    refine lv_aload_n hx hb dX4_readTest_24 rfl (lv_at hl 0 rfl) ?_
    refine va_ldcS hx hb E.2.2.1 (kz_X4_117 E) dX4_readTest_25 ?_
    refine q_ci (q_runU (As := [.ref (q_sk X 19)]) (rest := []) E (hml.trans hl.1.symm) hI (c_X3_isWord l X σ a 19 (Or.inl ha) (by decide : 19 < 22)) ku_X4_43_4 ha ⟨rfl, by decide⟩ (show vwCl[3]? = some (RX4, TX4, 11) from rfl) rfl ⟨Nat.le_of_ble_eq_true rfl, Nat.le_of_ble_eq_true rfl⟩ ⟨Nat.le_refl _, Nat.le_refl _⟩ rfl (Nat.le_of_ble_eq_true rfl) dX4_readTest_27) hI (by decide) (fun r_4 σ_5 H locs hpσ_5 hkσ_5 hI => ?_)
    obtain ⟨ahpσ_5, bhpσ_5, chpσ_5⟩ := hpσ_5
    rw [ahpσ_5] at hI
    replace hF := q_letX hF chpσ_5
    refine q_if_eq (A := r_4.toInt) E rfl (tgt := 49) dX4_readTest_30 (by decide) (fun c_6 => ?_) (fun c_6 => ?_)
    · skip
      replace hF := q_ifp hF c_6
      refine lv_aload_n hx hb dX4_readTest_49 rfl (lv_at hl 0 rfl) ?_
      refine va_ldcS hx hb E.2.2.1 (kz_X4_119 E) dX4_readTest_50 ?_
      refine q_ci (q_runU (As := [.ref (q_sk X 20)]) (rest := []) E (hml.trans hl.1.symm) hI (c_X3_isWord l X σ a 20 (Or.inl ha) (by decide : 20 < 22)) ku_X4_43_4 ha ⟨rfl, by decide⟩ (show vwCl[3]? = some (RX4, TX4, 11) from rfl) rfl ⟨Nat.le_of_ble_eq_true rfl, Nat.le_of_ble_eq_true rfl⟩ ⟨Nat.le_refl _, Nat.le_refl _⟩ rfl (Nat.le_of_ble_eq_true rfl) dX4_readTest_52) hI (by decide) (fun r_7 σ_8 H locs hpσ_8 hkσ_8 hI => ?_)
      obtain ⟨ahpσ_8, bhpσ_8, chpσ_8⟩ := hpσ_8
      rw [ahpσ_8] at hI
      replace hF := q_letX hF chpσ_8
      refine q_if_eq (A := r_7.toInt) E rfl (tgt := 74) dX4_readTest_55 (by decide) (fun c_9 => ?_) (fun c_9 => ?_)
      · skip
        replace hF := q_ifp hF c_9
        refine lv_aload_n hx hb dX4_readTest_74 rfl (lv_at hl 0 rfl) ?_
        refine va_ldcS hx hb E.2.2.1 (kz_X4_121 E) dX4_readTest_75 ?_
        refine q_ci (q_runU (As := [.ref (q_sk X 21)]) (rest := []) E (hml.trans hl.1.symm) hI (c_X3_isWord l X σ a 21 (Or.inl ha) (by decide : 21 < 22)) ku_X4_43_4 ha ⟨rfl, by decide⟩ (show vwCl[3]? = some (RX4, TX4, 11) from rfl) rfl ⟨Nat.le_of_ble_eq_true rfl, Nat.le_of_ble_eq_true rfl⟩ ⟨Nat.le_refl _, Nat.le_refl _⟩ rfl (Nat.le_of_ble_eq_true rfl) dX4_readTest_77) hI (by decide) (fun r_10 σ_11 H locs hpσ_11 hkσ_11 hI => ?_)
        obtain ⟨ahpσ_11, bhpσ_11, chpσ_11⟩ := hpσ_11
        rw [ahpσ_11] at hI
        replace hF := q_letX hF chpσ_11
        refine q_if_ne (A := r_10.toInt) E rfl (tgt := 89) dX4_readTest_80 (by decide) (fun c_12 => ?_) (fun c_12 => ?_)
        · skip
          replace hF := q_ifn hF c_12
          replace c_12 := q_ifOne bhpσ_11 c_12
          refine lv_aload_n hx hb dX4_readTest_89 rfl (lv_at hl 0 rfl) ?_
          refine q_cv (q_runU (As := []) (rest := []) E (hml.trans hl.1.symm) hI (c_X3_advance l X σ a (Or.inl ha)) ku_X4_77_4 ha ⟨rfl, by decide⟩ (show vwCl[3]? = some (RX4, TX4, 11) from rfl) rfl ⟨Nat.le_of_ble_eq_true rfl, Nat.le_of_ble_eq_true rfl⟩ ⟨Nat.le_refl _, Nat.le_refl _⟩ rfl (Nat.le_of_ble_eq_true rfl) dX4_readTest_90) hI (by decide) (fun σ_14 H locs hpσ_14 hkσ_14 hI => ?_)
          obtain ⟨ahpσ_14, bhpσ_14⟩ := hpσ_14
          have fr_σ_14 := fr_σ.call bhpσ_14 rfl rfl
          replace hF := q_letX hF ahpσ_14
          refine lv_iconst (v := 1) hx hb dX4_readTest_93 (by decide) ?_
          have hrv : (1 : Int32).toInt = 1 := rfl
          exact q_retz E hr hlk hI ⟨by decide, by decide⟩ ⟨⟨by decide, by decide⟩, (hF.trans hout), fr_σ_14⟩ dX4_readTest_94
        · skip
          replace hF := q_ifp hF c_12
          refine lv_aload_n hx hb dX4_readTest_83 rfl (lv_at hl 0 rfl) ?_
          refine lv_iconst (v := 2) hx hb dX4_readTest_84 (by decide) ?_
          have kc_15 : (2 : Int32).toInt = 2 := rfl
          refine q_ci (q_runU (As := [.int 2]) (rest := []) E (hml.trans hl.1.symm) hI (c_X3_fails l X σ a (2 : Int32) (Or.inl ha)) ku_X4_59_4 ha ⟨rfl, by decide⟩ (show vwCl[3]? = some (RX4, TX4, 11) from rfl) rfl ⟨Nat.le_of_ble_eq_true rfl, Nat.le_of_ble_eq_true rfl⟩ ⟨Nat.le_refl _, Nat.le_refl _⟩ rfl (Nat.le_of_ble_eq_true rfl) dX4_readTest_85) hI (by decide) (fun r_16 σ_17 H locs hpσ_17 hkσ_17 hI => ?_)
          obtain ⟨ahpσ_17, bhpσ_17, chpσ_17, dhpσ_17⟩ := hpσ_17
          have fr_σ_17 := fr_σ.call dhpσ_17 rfl rfl
          replace hF := q_biX hF chpσ_17
          exact q_retz E hr hlk hI ⟨by omega, by omega⟩ ⟨⟨by omega, by omega⟩, (hF.trans hout), fr_σ_17⟩ dX4_readTest_88
      · skip
        replace hF := q_ifn hF c_9
        replace c_9 := q_ifOne bhpσ_8 c_9
        refine lv_aload_n hx hb dX4_readTest_58 rfl (lv_at hl 0 rfl) ?_
        refine gs_X4_12_4 E hI ha dX4_readTest_59 ?_
        refine gs_X4_114_8 E hI (q_tk (k' := 8) hI ha rfl (by decide)) dX4_readTest_62 ?_
        refine lv_iload_n hx hb dX4_readTest_65 rfl (lv_at hl 1 rfl) ?_
        refine lv_bipush (v := 7) hx hb dX4_readTest_66 (by decide) ?_
        have kc_18 : (7 : Int32).toInt = 7 := rfl
        refine q_cv (q_runV (As := [.int v1, .int 7]) (rest := []) E (hml.trans hl.1.symm) hI (c_X5_set l X σ (q_rf X (q_rf X a 8) 3) v1 (7 : Int32) (q_tk (k' := 5) hI (q_tk (k' := 8) hI ha rfl (by decide)) rfl (by decide))) kv_X4_73 (q_tk (k' := 5) hI (q_tk (k' := 8) hI ha rfl (by decide)) rfl (by decide)) ⟨rfl, by decide⟩ (show vwCl[4]? = some (RX5, TX5, 1) from rfl) rfl ⟨Nat.le_of_ble_eq_true rfl, Nat.le_of_ble_eq_true rfl⟩ ⟨Nat.le_refl _, Nat.le_refl _⟩ rfl (Nat.le_of_ble_eq_true rfl) dX4_readTest_68) hI (by decide) (fun σ_20 H locs hpσ_20 hkσ_20 hI => ?_)
        obtain ⟨ahpσ_20, bhpσ_20⟩ := hpσ_20
        have fr_σ_20 := fr_σ.call bhpσ_20 rfl rfl
        replace hF := q_letX hF ahpσ_20
        refine lv_goto (tgt := 89) hx hb dX4_readTest_71 (by decide) ?_
        refine lv_aload_n hx hb dX4_readTest_89 rfl (lv_at hl 0 rfl) ?_
        refine q_cv (q_runU (As := []) (rest := []) E (hml.trans hl.1.symm) hI (c_X3_advance l X σ_20 a (Or.inl ha)) ku_X4_77_4 ha ⟨rfl, by decide⟩ (show vwCl[3]? = some (RX4, TX4, 11) from rfl) rfl ⟨Nat.le_of_ble_eq_true rfl, Nat.le_of_ble_eq_true rfl⟩ ⟨Nat.le_refl _, Nat.le_refl _⟩ rfl (Nat.le_of_ble_eq_true rfl) dX4_readTest_90) hI (by decide) (fun σ_22 H locs hpσ_22 hkσ_22 hI => ?_)
        obtain ⟨ahpσ_22, bhpσ_22⟩ := hpσ_22
        have fr_σ_22 := fr_σ_20.call bhpσ_22 rfl rfl
        replace hF := q_letX hF ahpσ_22
        refine lv_iconst (v := 1) hx hb dX4_readTest_93 (by decide) ?_
        have hrv : (1 : Int32).toInt = 1 := rfl
        exact q_retz E hr hlk hI ⟨by decide, by decide⟩ ⟨⟨by decide, by decide⟩, (hF.trans hout), fr_σ_22⟩ dX4_readTest_94
    · skip
      replace hF := q_ifn hF c_6
      replace c_6 := q_ifOne bhpσ_5 c_6
      refine lv_aload_n hx hb dX4_readTest_33 rfl (lv_at hl 0 rfl) ?_
      refine gs_X4_12_4 E hI ha dX4_readTest_34 ?_
      refine gs_X4_114_8 E hI (q_tk (k' := 8) hI ha rfl (by decide)) dX4_readTest_37 ?_
      refine lv_iload_n hx hb dX4_readTest_40 rfl (lv_at hl 1 rfl) ?_
      refine lv_bipush (v := 6) hx hb dX4_readTest_41 (by decide) ?_
      have kc_23 : (6 : Int32).toInt = 6 := rfl
      refine q_cv (q_runV (As := [.int v1, .int 6]) (rest := []) E (hml.trans hl.1.symm) hI (c_X5_set l X σ (q_rf X (q_rf X a 8) 3) v1 (6 : Int32) (q_tk (k' := 5) hI (q_tk (k' := 8) hI ha rfl (by decide)) rfl (by decide))) kv_X4_73 (q_tk (k' := 5) hI (q_tk (k' := 8) hI ha rfl (by decide)) rfl (by decide)) ⟨rfl, by decide⟩ (show vwCl[4]? = some (RX5, TX5, 1) from rfl) rfl ⟨Nat.le_of_ble_eq_true rfl, Nat.le_of_ble_eq_true rfl⟩ ⟨Nat.le_refl _, Nat.le_refl _⟩ rfl (Nat.le_of_ble_eq_true rfl) dX4_readTest_43) hI (by decide) (fun σ_25 H locs hpσ_25 hkσ_25 hI => ?_)
      obtain ⟨ahpσ_25, bhpσ_25⟩ := hpσ_25
      have fr_σ_25 := fr_σ.call bhpσ_25 rfl rfl
      replace hF := q_letX hF ahpσ_25
      refine lv_goto (tgt := 89) hx hb dX4_readTest_46 (by decide) ?_
      refine lv_aload_n hx hb dX4_readTest_89 rfl (lv_at hl 0 rfl) ?_
      refine q_cv (q_runU (As := []) (rest := []) E (hml.trans hl.1.symm) hI (c_X3_advance l X σ_25 a (Or.inl ha)) ku_X4_77_4 ha ⟨rfl, by decide⟩ (show vwCl[3]? = some (RX4, TX4, 11) from rfl) rfl ⟨Nat.le_of_ble_eq_true rfl, Nat.le_of_ble_eq_true rfl⟩ ⟨Nat.le_refl _, Nat.le_refl _⟩ rfl (Nat.le_of_ble_eq_true rfl) dX4_readTest_90) hI (by decide) (fun σ_27 H locs hpσ_27 hkσ_27 hI => ?_)
      obtain ⟨ahpσ_27, bhpσ_27⟩ := hpσ_27
      have fr_σ_27 := fr_σ_25.call bhpσ_27 rfl rfl
      replace hF := q_letX hF ahpσ_27
      refine lv_iconst (v := 1) hx hb dX4_readTest_93 (by decide) ?_
      have hrv : (1 : Int32).toInt = 1 := rfl
      exact q_retz E hr hlk hI ⟨by decide, by decide⟩ ⟨⟨by decide, by decide⟩, (hF.trans hout), fr_σ_27⟩ dX4_readTest_94
  · skip
    replace hF := q_ifn hF c_3
    replace c_3 := q_ifOne bhpσ_2 c_3
    refine lv_aload_n hx hb dX4_readTest_9 rfl (lv_at hl 0 rfl) ?_
    refine gs_X4_12_4 E hI ha dX4_readTest_10 ?_
    refine gs_X4_114_8 E hI (q_tk (k' := 8) hI ha rfl (by decide)) dX4_readTest_13 ?_
    refine lv_iload_n hx hb dX4_readTest_16 rfl (lv_at hl 1 rfl) ?_
    refine lv_iconst (v := 5) hx hb dX4_readTest_17 (by decide) ?_
    have kc_28 : (5 : Int32).toInt = 5 := rfl
    refine q_cv (q_runV (As := [.int v1, .int 5]) (rest := []) E (hml.trans hl.1.symm) hI (c_X5_set l X σ (q_rf X (q_rf X a 8) 3) v1 (5 : Int32) (q_tk (k' := 5) hI (q_tk (k' := 8) hI ha rfl (by decide)) rfl (by decide))) kv_X4_73 (q_tk (k' := 5) hI (q_tk (k' := 8) hI ha rfl (by decide)) rfl (by decide)) ⟨rfl, by decide⟩ (show vwCl[4]? = some (RX5, TX5, 1) from rfl) rfl ⟨Nat.le_of_ble_eq_true rfl, Nat.le_of_ble_eq_true rfl⟩ ⟨Nat.le_refl _, Nat.le_refl _⟩ rfl (Nat.le_of_ble_eq_true rfl) dX4_readTest_18) hI (by decide) (fun σ_30 H locs hpσ_30 hkσ_30 hI => ?_)
    obtain ⟨ahpσ_30, bhpσ_30⟩ := hpσ_30
    have fr_σ_30 := fr_σ.call bhpσ_30 rfl rfl
    replace hF := q_letX hF ahpσ_30
    refine lv_goto (tgt := 89) hx hb dX4_readTest_21 (by decide) ?_
    refine lv_aload_n hx hb dX4_readTest_89 rfl (lv_at hl 0 rfl) ?_
    refine q_cv (q_runU (As := []) (rest := []) E (hml.trans hl.1.symm) hI (c_X3_advance l X σ_30 a (Or.inl ha)) ku_X4_77_4 ha ⟨rfl, by decide⟩ (show vwCl[3]? = some (RX4, TX4, 11) from rfl) rfl ⟨Nat.le_of_ble_eq_true rfl, Nat.le_of_ble_eq_true rfl⟩ ⟨Nat.le_refl _, Nat.le_refl _⟩ rfl (Nat.le_of_ble_eq_true rfl) dX4_readTest_90) hI (by decide) (fun σ_32 H locs hpσ_32 hkσ_32 hI => ?_)
    obtain ⟨ahpσ_32, bhpσ_32⟩ := hpσ_32
    have fr_σ_32 := fr_σ_30.call bhpσ_32 rfl rfl
    replace hF := q_letX hF ahpσ_32
    refine lv_iconst (v := 1) hx hb dX4_readTest_93 (by decide) ?_
    have hrv : (1 : Int32).toInt = 1 := rfl
    exact q_retz E hr hlk hI ⟨by decide, by decide⟩ ⟨⟨by decide, by decide⟩, (hF.trans hout), fr_σ_32⟩ dX4_readTest_94

set_option maxRecDepth 100000 in
set_option maxHeartbeats 4000000 in
theorem c_X4_readOperands (l : Launch) (X : XW) (σ : ST) (a : Nat) (v1 : Int32) (r2 : Nat) (ha : q_kd X a = 4) (hr2 : q_kd X r2 = 6) : Met l yX4_readOperands (q_ws yX4_readOperands cX4_readOperands 6 (some .boolean)) (q_rm 7 150) (q_P X σ [.ref a, .int v1, .ref r2]) (q_Qi X 8 σ (fun (r : Int32) (σ' : ST) => (0 ≤ r.toInt ∧ r.toInt ≤ 1) ∧ (r, σ') = F_X4_readOperands X σ a v1 r2 ∧ q_ow [(4, 2), (4, 3), (4, 4), (4, 5), (4, 6), (4, 7), (9, 2), (9, 3), (9, 4), (9, 5), (9, 6), (9, 7), (20, 99)] [] X σ σ')) 0 0 (q_reg X) := by
  refine q_met 8 (by first | exact rfl | decide +kernel) rfl (Nat.le_of_ble_eq_true rfl) (fun p e s m below meth c E hml hr hlk hI ls hl => ?_)
  have hx := E.1
  have hb := E.2.1
  have hl : lv_has ls 6 [(0, .ref a), (1, .int v1), (2, .ref r2)] := hl
  have fr_σ : q_ow [(4, 2), (4, 3), (4, 4), (4, 5), (4, 6), (4, 7), (9, 2), (9, 3), (9, 4), (9, 5), (9, 6), (9, 7), (20, 99)] [] X σ σ := q_ow.rf
  obtain ⟨out, hout⟩ : ∃ o, o = F_X4_readOperands X σ a v1 r2 := ⟨_, rfl⟩
  have hF := hout.symm
  unfold F_X4_readOperands at hF
  refine lv_aload_n hx hb dX4_readOperands_0 rfl (lv_at hl 0 rfl) ?_
  refine gs_X4_12_4 E hI ha dX4_readOperands_1 ?_
  refine gs_X4_114_8 E hI (q_tk (k' := 8) hI ha rfl (by decide)) dX4_readOperands_4 ?_
  refine lv_iload_n hx hb dX4_readOperands_7 rfl (lv_at hl 1 rfl) ?_
  refine q_ci (q_runV (As := [.int v1]) (rest := []) E (hml.trans hl.1.symm) hI (c_X5_get l X σ (q_rf X (q_rf X a 8) 3) v1 (q_tk (k' := 5) hI (q_tk (k' := 8) hI ha rfl (by decide)) rfl (by decide))) kv_X4_63 (q_tk (k' := 5) hI (q_tk (k' := 8) hI ha rfl (by decide)) rfl (by decide)) ⟨rfl, by decide⟩ (show vwCl[4]? = some (RX5, TX5, 1) from rfl) rfl ⟨Nat.le_of_ble_eq_true rfl, Nat.le_of_ble_eq_true rfl⟩ ⟨Nat.le_refl _, Nat.le_refl _⟩ rfl (Nat.le_of_ble_eq_true rfl) dX4_readOperands_8) hI (by decide) (fun r_1 σ_2 H locs hpσ_2 hkσ_2 hI => ?_)
  obtain ⟨ahpσ_2, bhpσ_2⟩ := hpσ_2
  rw [ahpσ_2] at hI
  replace hF := q_letX hF bhpσ_2
  refine lv_istore_n (lv' := [(3, .int r_1), (0, .ref a), (1, .int v1), (2, .ref r2)]) hx hb dX4_readOperands_11 rfl hl (by decide) rfl (fun ls hl => ?_)
  refine lv_iload_n hx hb dX4_readOperands_12 rfl (lv_at hl 0 rfl) ?_
  refine q_ci (q_runS (As := [.int r_1]) (rest := []) E (hml.trans hl.1.symm) hI (c_X8_hasName l X σ r_1) ks_X4_123 rfl ⟨Nat.le_of_ble_eq_true rfl, Nat.le_of_ble_eq_true rfl⟩ ⟨Nat.le_refl _, Nat.le_refl _⟩ rfl (Nat.le_of_ble_eq_true rfl) dX4_readOperands_13) hI (by decide) (fun r_3 σ_4 H locs hpσ_4 hkσ_4 hI => ?_)
  obtain ⟨ahpσ_4, bhpσ_4, chpσ_4⟩ := hpσ_4
  rw [ahpσ_4] at hI
  replace hF := q_letX hF chpσ_4
  have J_47_5 : ∀  (σ_5 : ST) (H : Heap) (locs : List Loc) (ls : Array Slot), (q_ow [(4, 2), (4, 3), (4, 4), (4, 5), (4, 6), (4, 7), (9, 2), (9, 3), (9, 4), (9, 5), (9, 6), (9, 7), (20, 99)] [] X σ σ_5) → (F_X4_readOperands_J47_1 X r_1 a v1 σ_5 = out) → q_I X 8 σ s.heap locs σ_5 H → lv_has ls 6 [(0, .ref a), (1, .int v1), (2, .ref r2), (3, .int r_1)] → W p l e (q_rm 7 150) s m ([.ref a, .int v1, .ref r2] : List Value).toArray below meth c H locs 0 0 (MQ below (q_Qi X 8 σ (fun (r : Int32) (σ' : ST) => (0 ≤ r.toInt ∧ r.toInt ≤ 1) ∧ (r, σ') = F_X4_readOperands X σ a v1 r2 ∧ q_ow [(4, 2), (4, 3), (4, 4), (4, 5), (4, 6), (4, 7), (9, 2), (9, 3), (9, 4), (9, 5), (9, 6), (9, 7), (20, 99)] [] X σ σ')) ([.ref a, .int v1, .ref r2] : List Value).toArray s 0 0 (q_reg X)) (F0 m 47 ls []) := by
    clear hF
    intro σ_5 H locs ls fr_σ_5 hF hI hl
    unfold F_X4_readOperands_J47_1 at hF
    refine lv_iload_n hx hb dX4_readOperands_47 rfl (lv_at hl 3 rfl) ?_
    refine q_ci (q_runS (As := [.int r_1]) (rest := []) E (hml.trans hl.1.symm) hI (c_X8_hasComparison l X σ_5 r_1) ks_X4_133 rfl ⟨Nat.le_of_ble_eq_true rfl, Nat.le_of_ble_eq_true rfl⟩ ⟨Nat.le_refl _, Nat.le_refl _⟩ rfl (Nat.le_of_ble_eq_true rfl) dX4_readOperands_48) hI (by decide) (fun r_6 σ_7 H locs hpσ_7 hkσ_7 hI => ?_)
    obtain ⟨ahpσ_7, bhpσ_7, chpσ_7⟩ := hpσ_7
    rw [ahpσ_7] at hI
    replace hF := q_letX hF chpσ_7
    refine q_if_eq (A := r_6.toInt) E rfl (tgt := 99) dX4_readOperands_51 (by decide) (fun c_8 => ?_) (fun c_8 => ?_)
    · skip
      replace hF := q_ifp hF c_8
      refine lv_iload_n hx hb dX4_readOperands_99 rfl (lv_at hl 3 rfl) ?_
      refine q_ci (q_runS (As := [.int r_1]) (rest := []) E (hml.trans hl.1.symm) hI (c_X8_highest l X σ_5 r_1) ks_X4_142 rfl ⟨Nat.le_of_ble_eq_true rfl, Nat.le_of_ble_eq_true rfl⟩ ⟨Nat.le_refl _, Nat.le_refl _⟩ rfl (Nat.le_of_ble_eq_true rfl) dX4_readOperands_100) hI (by decide) (fun r_9 σ_10 H locs hpσ_10 hkσ_10 hI => ?_)
      obtain ⟨ahpσ_10, bhpσ_10⟩ := hpσ_10
      rw [ahpσ_10] at hI
      replace hF := q_letX hF bhpσ_10
      refine lv_istore (lv' := [(4, .int r_9), (0, .ref a), (1, .int v1), (2, .ref r2), (3, .int r_1)]) hx hb dX4_readOperands_103 hl (by decide) rfl (fun ls hl => ?_)
      refine lv_iload hx hb dX4_readOperands_105 (lv_at hl 0 rfl) ?_
      refine lv_iconst (v := (-1)) hx hb dX4_readOperands_107 (by decide) ?_
      refine q_icmp_ne (A := r_9.toInt) (B := (-1)) E rfl (by decide) (tgt := 113) dX4_readOperands_108 (by decide) (fun c_11 => ?_) (fun c_11 => ?_)
      · skip
        replace hF := q_ifn hF c_11
        refine lv_aload_n hx hb dX4_readOperands_113 rfl (lv_at hl 1 rfl) ?_
        refine lv_iload_n hx hb dX4_readOperands_114 rfl (lv_at hl 4 rfl) ?_
        refine lv_iconst (v := 4) hx hb dX4_readOperands_115 (by decide) ?_
        refine q_icmp_ne (A := r_1.toInt) (B := 4) E rfl (by decide) (tgt := 123) dX4_readOperands_116 (by decide) (fun c_12 => ?_) (fun c_12 => ?_)
        · skip
          replace hF := q_ifn hF c_12
          refine lv_iconst (v := 0) hx hb dX4_readOperands_123 (by decide) ?_
          refine lv_iload hx hb dX4_readOperands_124 (lv_at hl 0 rfl) ?_
          have kc_13 : (0 : Int32).toInt = 0 := rfl
          refine q_ci (q_runU (As := [.int 0, .int r_9]) (rest := []) E (hml.trans hl.1.symm) hI (c_X3_passNumber l X σ_5 a (0 : Int32) r_9 (Or.inl ha)) ku_X4_145_4 ha ⟨rfl, by decide⟩ (show vwCl[3]? = some (RX4, TX4, 11) from rfl) rfl ⟨Nat.le_of_ble_eq_true rfl, Nat.le_of_ble_eq_true rfl⟩ ⟨Nat.le_refl _, Nat.le_refl _⟩ rfl (Nat.le_of_ble_eq_true rfl) dX4_readOperands_126) hI (by decide) (fun r_14 σ_15 H locs hpσ_15 hkσ_15 hI => ?_)
          obtain ⟨ahpσ_15, bhpσ_15, chpσ_15⟩ := hpσ_15
          have fr_σ_15 := fr_σ_5.call chpσ_15 rfl rfl
          replace hF := q_biX hF bhpσ_15
          refine lv_istore (lv' := [(5, .int r_14), (4, .int r_9), (0, .ref a), (1, .int v1), (2, .ref r2), (3, .int r_1)]) hx hb dX4_readOperands_129 hl (by decide) rfl (fun ls hl => ?_)
          refine lv_aload_n hx hb dX4_readOperands_131 rfl (lv_at hl 2 rfl) ?_
          refine gs_X4_12_4 E hI ha dX4_readOperands_132 ?_
          refine gs_X4_149_8 E hI (q_tk (k' := 8) hI ha rfl (by decide)) dX4_readOperands_135 ?_
          refine lv_iload_n hx hb dX4_readOperands_138 rfl (lv_at hl 3 rfl) ?_
          refine lv_iload hx hb dX4_readOperands_139 (lv_at hl 0 rfl) ?_
          refine q_cv (q_runV (As := [.int v1, .int r_14]) (rest := []) E (hml.trans hl.1.symm) hI (c_X5_set l X σ_15 (q_rf X (q_rf X a 8) 7) v1 r_14 (q_tk (k' := 5) hI (q_tk (k' := 8) hI ha rfl (by decide)) rfl (by decide))) kv_X4_73 (q_tk (k' := 5) hI (q_tk (k' := 8) hI ha rfl (by decide)) rfl (by decide)) ⟨rfl, by decide⟩ (show vwCl[4]? = some (RX5, TX5, 1) from rfl) rfl ⟨Nat.le_of_ble_eq_true rfl, Nat.le_of_ble_eq_true rfl⟩ ⟨Nat.le_refl _, Nat.le_refl _⟩ rfl (Nat.le_of_ble_eq_true rfl) dX4_readOperands_141) hI (by decide) (fun σ_17 H locs hpσ_17 hkσ_17 hI => ?_)
          obtain ⟨ahpσ_17, bhpσ_17⟩ := hpσ_17
          have fr_σ_17 := fr_σ_15.call bhpσ_17 rfl rfl
          replace hF := q_letX hF ahpσ_17
          refine lv_iload hx hb dX4_readOperands_144 (lv_at hl 0 rfl) ?_
          refine lv_iconst (v := (-1)) hx hb dX4_readOperands_146 (by decide) ?_
          refine q_icmp_eq (A := r_14.toInt) (B := (-1)) E rfl (by decide) (tgt := 154) dX4_readOperands_147 (by decide) (fun c_18 => ?_) (fun c_18 => ?_)
          · skip
            replace hF := q_ifp hF c_18
            refine lv_iconst (v := 0) hx hb dX4_readOperands_154 (by decide) ?_
            have hrv : (0 : Int32).toInt = 0 := rfl
            exact q_retz E hr hlk hI ⟨by decide, by decide⟩ ⟨⟨by decide, by decide⟩, (hF.trans hout), fr_σ_17⟩ dX4_readOperands_155
          · skip
            replace hF := q_ifn hF c_18
            refine lv_iconst (v := 1) hx hb dX4_readOperands_150 (by decide) ?_
            refine lv_goto (tgt := 155) hx hb dX4_readOperands_151 (by decide) ?_
            have hrv : (1 : Int32).toInt = 1 := rfl
            exact q_retz E hr hlk hI ⟨by decide, by decide⟩ ⟨⟨by decide, by decide⟩, (hF.trans hout), fr_σ_17⟩ dX4_readOperands_155
        · skip
          replace hF := q_ifp hF c_12
          refine lv_iconst (v := 1) hx hb dX4_readOperands_119 (by decide) ?_
          refine lv_goto (tgt := 124) hx hb dX4_readOperands_120 (by decide) ?_
          refine lv_iload hx hb dX4_readOperands_124 (lv_at hl 0 rfl) ?_
          have kc_19 : (1 : Int32).toInt = 1 := rfl
          refine q_ci (q_runU (As := [.int 1, .int r_9]) (rest := []) E (hml.trans hl.1.symm) hI (c_X3_passNumber l X σ_5 a (1 : Int32) r_9 (Or.inl ha)) ku_X4_145_4 ha ⟨rfl, by decide⟩ (show vwCl[3]? = some (RX4, TX4, 11) from rfl) rfl ⟨Nat.le_of_ble_eq_true rfl, Nat.le_of_ble_eq_true rfl⟩ ⟨Nat.le_refl _, Nat.le_refl _⟩ rfl (Nat.le_of_ble_eq_true rfl) dX4_readOperands_126) hI (by decide) (fun r_20 σ_21 H locs hpσ_21 hkσ_21 hI => ?_)
          obtain ⟨ahpσ_21, bhpσ_21, chpσ_21⟩ := hpσ_21
          have fr_σ_21 := fr_σ_5.call chpσ_21 rfl rfl
          replace hF := q_biX hF bhpσ_21
          refine lv_istore (lv' := [(5, .int r_20), (4, .int r_9), (0, .ref a), (1, .int v1), (2, .ref r2), (3, .int r_1)]) hx hb dX4_readOperands_129 hl (by decide) rfl (fun ls hl => ?_)
          refine lv_aload_n hx hb dX4_readOperands_131 rfl (lv_at hl 2 rfl) ?_
          refine gs_X4_12_4 E hI ha dX4_readOperands_132 ?_
          refine gs_X4_149_8 E hI (q_tk (k' := 8) hI ha rfl (by decide)) dX4_readOperands_135 ?_
          refine lv_iload_n hx hb dX4_readOperands_138 rfl (lv_at hl 3 rfl) ?_
          refine lv_iload hx hb dX4_readOperands_139 (lv_at hl 0 rfl) ?_
          refine q_cv (q_runV (As := [.int v1, .int r_20]) (rest := []) E (hml.trans hl.1.symm) hI (c_X5_set l X σ_21 (q_rf X (q_rf X a 8) 7) v1 r_20 (q_tk (k' := 5) hI (q_tk (k' := 8) hI ha rfl (by decide)) rfl (by decide))) kv_X4_73 (q_tk (k' := 5) hI (q_tk (k' := 8) hI ha rfl (by decide)) rfl (by decide)) ⟨rfl, by decide⟩ (show vwCl[4]? = some (RX5, TX5, 1) from rfl) rfl ⟨Nat.le_of_ble_eq_true rfl, Nat.le_of_ble_eq_true rfl⟩ ⟨Nat.le_refl _, Nat.le_refl _⟩ rfl (Nat.le_of_ble_eq_true rfl) dX4_readOperands_141) hI (by decide) (fun σ_23 H locs hpσ_23 hkσ_23 hI => ?_)
          obtain ⟨ahpσ_23, bhpσ_23⟩ := hpσ_23
          have fr_σ_23 := fr_σ_21.call bhpσ_23 rfl rfl
          replace hF := q_letX hF ahpσ_23
          refine lv_iload hx hb dX4_readOperands_144 (lv_at hl 0 rfl) ?_
          refine lv_iconst (v := (-1)) hx hb dX4_readOperands_146 (by decide) ?_
          refine q_icmp_eq (A := r_20.toInt) (B := (-1)) E rfl (by decide) (tgt := 154) dX4_readOperands_147 (by decide) (fun c_24 => ?_) (fun c_24 => ?_)
          · skip
            replace hF := q_ifp hF c_24
            refine lv_iconst (v := 0) hx hb dX4_readOperands_154 (by decide) ?_
            have hrv : (0 : Int32).toInt = 0 := rfl
            exact q_retz E hr hlk hI ⟨by decide, by decide⟩ ⟨⟨by decide, by decide⟩, (hF.trans hout), fr_σ_23⟩ dX4_readOperands_155
          · skip
            replace hF := q_ifn hF c_24
            refine lv_iconst (v := 1) hx hb dX4_readOperands_150 (by decide) ?_
            refine lv_goto (tgt := 155) hx hb dX4_readOperands_151 (by decide) ?_
            have hrv : (1 : Int32).toInt = 1 := rfl
            exact q_retz E hr hlk hI ⟨by decide, by decide⟩ ⟨⟨by decide, by decide⟩, (hF.trans hout), fr_σ_23⟩ dX4_readOperands_155
      · skip
        replace hF := q_ifp hF c_11
        refine lv_iconst (v := 1) hx hb dX4_readOperands_111 (by decide) ?_
        have hrv : (1 : Int32).toInt = 1 := rfl
        exact q_retz E hr hlk hI ⟨by decide, by decide⟩ ⟨⟨by decide, by decide⟩, (hF.trans hout), fr_σ_5⟩ dX4_readOperands_112
    · skip
      replace hF := q_ifn hF c_8
      replace c_8 := q_ifOne bhpσ_7 c_8
      refine lv_aload_n hx hb dX4_readOperands_54 rfl (lv_at hl 0 rfl) ?_
      refine lv_iconst (v := 0) hx hb dX4_readOperands_55 (by decide) ?_
      have kc_25 : (0 : Int32).toInt = 0 := rfl
      refine q_ci (q_runU (As := [.int 0]) (rest := []) E (hml.trans hl.1.symm) hI (c_X3_signAt l X σ_5 a (0 : Int32) (Or.inl ha)) ku_X4_136_4 ha ⟨rfl, by decide⟩ (show vwCl[3]? = some (RX4, TX4, 11) from rfl) rfl ⟨Nat.le_of_ble_eq_true rfl, Nat.le_of_ble_eq_true rfl⟩ ⟨Nat.le_refl _, Nat.le_refl _⟩ rfl (Nat.le_of_ble_eq_true rfl) dX4_readOperands_56) hI (by decide) (fun r_26 σ_27 H locs hpσ_27 hkσ_27 hI => ?_)
      obtain ⟨ahpσ_27, bhpσ_27⟩ := hpσ_27
      rw [ahpσ_27] at hI
      replace hF := q_letX hF bhpσ_27
      refine lv_istore (lv' := [(4, .int r_26), (0, .ref a), (1, .int v1), (2, .ref r2), (3, .int r_1)]) hx hb dX4_readOperands_59 hl (by decide) rfl (fun ls hl => ?_)
      refine lv_aload_n hx hb dX4_readOperands_61 rfl (lv_at hl 1 rfl) ?_
      refine gs_X4_38_4 E hI ha dX4_readOperands_62 ?_
      refine lv_topi (fun f_28 ef_28 => ?_)
      replace hF := q_letX hF ef_28
      refine lv_iconst (v := 3) hx hb dX4_readOperands_65 (by decide) ?_
      refine q_icmp_ne (A := f_28.toInt) (B := 3) E rfl (by decide) (tgt := 76) dX4_readOperands_66 (by decide) (fun c_29 => ?_) (fun c_29 => ?_)
      · skip
        replace hF := q_ifn hF c_29
        refine lv_aload_n hx hb dX4_readOperands_76 rfl (lv_at hl 1 rfl) ?_
        refine lv_iconst (v := 2) hx hb dX4_readOperands_77 (by decide) ?_
        have kc_30 : (2 : Int32).toInt = 2 := rfl
        refine q_ci (q_runU (As := [.int 2]) (rest := []) E (hml.trans hl.1.symm) hI (c_X3_fails l X σ_5 a (2 : Int32) (Or.inl ha)) ku_X4_59_4 ha ⟨rfl, by decide⟩ (show vwCl[3]? = some (RX4, TX4, 11) from rfl) rfl ⟨Nat.le_of_ble_eq_true rfl, Nat.le_of_ble_eq_true rfl⟩ ⟨Nat.le_refl _, Nat.le_refl _⟩ rfl (Nat.le_of_ble_eq_true rfl) dX4_readOperands_78) hI (by decide) (fun r_31 σ_32 H locs hpσ_32 hkσ_32 hI => ?_)
        obtain ⟨ahpσ_32, bhpσ_32, chpσ_32, dhpσ_32⟩ := hpσ_32
        have fr_σ_32 := fr_σ_5.call dhpσ_32 rfl rfl
        replace hF := q_biX hF chpσ_32
        exact q_retz E hr hlk hI ⟨by omega, by omega⟩ ⟨⟨by omega, by omega⟩, (hF.trans hout), fr_σ_32⟩ dX4_readOperands_81
      · skip
        replace hF := q_ifp hF c_29
        refine lv_iload hx hb dX4_readOperands_69 (lv_at hl 0 rfl) ?_
        refine lv_bipush (v := 59) hx hb dX4_readOperands_71 (by decide) ?_
        refine q_icmp_ne (A := r_26.toInt) (B := 59) E rfl (by decide) (tgt := 82) dX4_readOperands_73 (by decide) (fun c_33 => ?_) (fun c_33 => ?_)
        · skip
          replace hF := q_ifn hF c_33
          refine lv_aload_n hx hb dX4_readOperands_82 rfl (lv_at hl 1 rfl) ?_
          refine gs_X4_12_4 E hI ha dX4_readOperands_83 ?_
          refine gs_X4_139_8 E hI (q_tk (k' := 8) hI ha rfl (by decide)) dX4_readOperands_86 ?_
          refine lv_iload_n hx hb dX4_readOperands_89 rfl (lv_at hl 2 rfl) ?_
          refine lv_iload hx hb dX4_readOperands_90 (lv_at hl 0 rfl) ?_
          refine q_cv (q_runV (As := [.int v1, .int r_26]) (rest := []) E (hml.trans hl.1.symm) hI (c_X5_set l X σ_5 (q_rf X (q_rf X a 8) 6) v1 r_26 (q_tk (k' := 5) hI (q_tk (k' := 8) hI ha rfl (by decide)) rfl (by decide))) kv_X4_73 (q_tk (k' := 5) hI (q_tk (k' := 8) hI ha rfl (by decide)) rfl (by decide)) ⟨rfl, by decide⟩ (show vwCl[4]? = some (RX5, TX5, 1) from rfl) rfl ⟨Nat.le_of_ble_eq_true rfl, Nat.le_of_ble_eq_true rfl⟩ ⟨Nat.le_refl _, Nat.le_refl _⟩ rfl (Nat.le_of_ble_eq_true rfl) dX4_readOperands_92) hI (by decide) (fun σ_35 H locs hpσ_35 hkσ_35 hI => ?_)
          obtain ⟨ahpσ_35, bhpσ_35⟩ := hpσ_35
          have fr_σ_35 := fr_σ_5.call bhpσ_35 rfl rfl
          replace hF := q_letX hF ahpσ_35
          refine lv_aload_n hx hb dX4_readOperands_95 rfl (lv_at hl 1 rfl) ?_
          refine q_cv (q_runU (As := []) (rest := []) E (hml.trans hl.1.symm) hI (c_X3_advance l X σ_35 a (Or.inl ha)) ku_X4_77_4 ha ⟨rfl, by decide⟩ (show vwCl[3]? = some (RX4, TX4, 11) from rfl) rfl ⟨Nat.le_of_ble_eq_true rfl, Nat.le_of_ble_eq_true rfl⟩ ⟨Nat.le_refl _, Nat.le_refl _⟩ rfl (Nat.le_of_ble_eq_true rfl) dX4_readOperands_96) hI (by decide) (fun σ_37 H locs hpσ_37 hkσ_37 hI => ?_)
          obtain ⟨ahpσ_37, bhpσ_37⟩ := hpσ_37
          have fr_σ_37 := fr_σ_35.call bhpσ_37 rfl rfl
          replace hF := q_letX hF ahpσ_37
          refine lv_iload_n hx hb dX4_readOperands_99 rfl (lv_at hl 4 rfl) ?_
          refine q_ci (q_runS (As := [.int r_1]) (rest := []) E (hml.trans hl.1.symm) hI (c_X8_highest l X σ_37 r_1) ks_X4_142 rfl ⟨Nat.le_of_ble_eq_true rfl, Nat.le_of_ble_eq_true rfl⟩ ⟨Nat.le_refl _, Nat.le_refl _⟩ rfl (Nat.le_of_ble_eq_true rfl) dX4_readOperands_100) hI (by decide) (fun r_38 σ_39 H locs hpσ_39 hkσ_39 hI => ?_)
          obtain ⟨ahpσ_39, bhpσ_39⟩ := hpσ_39
          rw [ahpσ_39] at hI
          replace hF := q_letX hF bhpσ_39
          refine lv_istore (lv' := [(4, .int r_38), (0, .ref a), (1, .int v1), (2, .ref r2), (3, .int r_1)]) hx hb dX4_readOperands_103 hl (by decide) rfl (fun ls hl => ?_)
          refine lv_iload hx hb dX4_readOperands_105 (lv_at hl 0 rfl) ?_
          refine lv_iconst (v := (-1)) hx hb dX4_readOperands_107 (by decide) ?_
          refine q_icmp_ne (A := r_38.toInt) (B := (-1)) E rfl (by decide) (tgt := 113) dX4_readOperands_108 (by decide) (fun c_40 => ?_) (fun c_40 => ?_)
          · skip
            replace hF := q_ifn hF c_40
            refine lv_aload_n hx hb dX4_readOperands_113 rfl (lv_at hl 1 rfl) ?_
            refine lv_iload_n hx hb dX4_readOperands_114 rfl (lv_at hl 4 rfl) ?_
            refine lv_iconst (v := 4) hx hb dX4_readOperands_115 (by decide) ?_
            refine q_icmp_ne (A := r_1.toInt) (B := 4) E rfl (by decide) (tgt := 123) dX4_readOperands_116 (by decide) (fun c_41 => ?_) (fun c_41 => ?_)
            · skip
              replace hF := q_ifn hF c_41
              refine lv_iconst (v := 0) hx hb dX4_readOperands_123 (by decide) ?_
              refine lv_iload hx hb dX4_readOperands_124 (lv_at hl 0 rfl) ?_
              have kc_42 : (0 : Int32).toInt = 0 := rfl
              refine q_ci (q_runU (As := [.int 0, .int r_38]) (rest := []) E (hml.trans hl.1.symm) hI (c_X3_passNumber l X σ_37 a (0 : Int32) r_38 (Or.inl ha)) ku_X4_145_4 ha ⟨rfl, by decide⟩ (show vwCl[3]? = some (RX4, TX4, 11) from rfl) rfl ⟨Nat.le_of_ble_eq_true rfl, Nat.le_of_ble_eq_true rfl⟩ ⟨Nat.le_refl _, Nat.le_refl _⟩ rfl (Nat.le_of_ble_eq_true rfl) dX4_readOperands_126) hI (by decide) (fun r_43 σ_44 H locs hpσ_44 hkσ_44 hI => ?_)
              obtain ⟨ahpσ_44, bhpσ_44, chpσ_44⟩ := hpσ_44
              have fr_σ_44 := fr_σ_37.call chpσ_44 rfl rfl
              replace hF := q_biX hF bhpσ_44
              refine lv_istore (lv' := [(5, .int r_43), (4, .int r_38), (0, .ref a), (1, .int v1), (2, .ref r2), (3, .int r_1)]) hx hb dX4_readOperands_129 hl (by decide) rfl (fun ls hl => ?_)
              refine lv_aload_n hx hb dX4_readOperands_131 rfl (lv_at hl 2 rfl) ?_
              refine gs_X4_12_4 E hI ha dX4_readOperands_132 ?_
              refine gs_X4_149_8 E hI (q_tk (k' := 8) hI ha rfl (by decide)) dX4_readOperands_135 ?_
              refine lv_iload_n hx hb dX4_readOperands_138 rfl (lv_at hl 3 rfl) ?_
              refine lv_iload hx hb dX4_readOperands_139 (lv_at hl 0 rfl) ?_
              refine q_cv (q_runV (As := [.int v1, .int r_43]) (rest := []) E (hml.trans hl.1.symm) hI (c_X5_set l X σ_44 (q_rf X (q_rf X a 8) 7) v1 r_43 (q_tk (k' := 5) hI (q_tk (k' := 8) hI ha rfl (by decide)) rfl (by decide))) kv_X4_73 (q_tk (k' := 5) hI (q_tk (k' := 8) hI ha rfl (by decide)) rfl (by decide)) ⟨rfl, by decide⟩ (show vwCl[4]? = some (RX5, TX5, 1) from rfl) rfl ⟨Nat.le_of_ble_eq_true rfl, Nat.le_of_ble_eq_true rfl⟩ ⟨Nat.le_refl _, Nat.le_refl _⟩ rfl (Nat.le_of_ble_eq_true rfl) dX4_readOperands_141) hI (by decide) (fun σ_46 H locs hpσ_46 hkσ_46 hI => ?_)
              obtain ⟨ahpσ_46, bhpσ_46⟩ := hpσ_46
              have fr_σ_46 := fr_σ_44.call bhpσ_46 rfl rfl
              replace hF := q_letX hF ahpσ_46
              refine lv_iload hx hb dX4_readOperands_144 (lv_at hl 0 rfl) ?_
              refine lv_iconst (v := (-1)) hx hb dX4_readOperands_146 (by decide) ?_
              refine q_icmp_eq (A := r_43.toInt) (B := (-1)) E rfl (by decide) (tgt := 154) dX4_readOperands_147 (by decide) (fun c_47 => ?_) (fun c_47 => ?_)
              · skip
                replace hF := q_ifp hF c_47
                refine lv_iconst (v := 0) hx hb dX4_readOperands_154 (by decide) ?_
                have hrv : (0 : Int32).toInt = 0 := rfl
                exact q_retz E hr hlk hI ⟨by decide, by decide⟩ ⟨⟨by decide, by decide⟩, (hF.trans hout), fr_σ_46⟩ dX4_readOperands_155
              · skip
                replace hF := q_ifn hF c_47
                refine lv_iconst (v := 1) hx hb dX4_readOperands_150 (by decide) ?_
                refine lv_goto (tgt := 155) hx hb dX4_readOperands_151 (by decide) ?_
                have hrv : (1 : Int32).toInt = 1 := rfl
                exact q_retz E hr hlk hI ⟨by decide, by decide⟩ ⟨⟨by decide, by decide⟩, (hF.trans hout), fr_σ_46⟩ dX4_readOperands_155
            · skip
              replace hF := q_ifp hF c_41
              refine lv_iconst (v := 1) hx hb dX4_readOperands_119 (by decide) ?_
              refine lv_goto (tgt := 124) hx hb dX4_readOperands_120 (by decide) ?_
              refine lv_iload hx hb dX4_readOperands_124 (lv_at hl 0 rfl) ?_
              have kc_48 : (1 : Int32).toInt = 1 := rfl
              refine q_ci (q_runU (As := [.int 1, .int r_38]) (rest := []) E (hml.trans hl.1.symm) hI (c_X3_passNumber l X σ_37 a (1 : Int32) r_38 (Or.inl ha)) ku_X4_145_4 ha ⟨rfl, by decide⟩ (show vwCl[3]? = some (RX4, TX4, 11) from rfl) rfl ⟨Nat.le_of_ble_eq_true rfl, Nat.le_of_ble_eq_true rfl⟩ ⟨Nat.le_refl _, Nat.le_refl _⟩ rfl (Nat.le_of_ble_eq_true rfl) dX4_readOperands_126) hI (by decide) (fun r_49 σ_50 H locs hpσ_50 hkσ_50 hI => ?_)
              obtain ⟨ahpσ_50, bhpσ_50, chpσ_50⟩ := hpσ_50
              have fr_σ_50 := fr_σ_37.call chpσ_50 rfl rfl
              replace hF := q_biX hF bhpσ_50
              refine lv_istore (lv' := [(5, .int r_49), (4, .int r_38), (0, .ref a), (1, .int v1), (2, .ref r2), (3, .int r_1)]) hx hb dX4_readOperands_129 hl (by decide) rfl (fun ls hl => ?_)
              refine lv_aload_n hx hb dX4_readOperands_131 rfl (lv_at hl 2 rfl) ?_
              refine gs_X4_12_4 E hI ha dX4_readOperands_132 ?_
              refine gs_X4_149_8 E hI (q_tk (k' := 8) hI ha rfl (by decide)) dX4_readOperands_135 ?_
              refine lv_iload_n hx hb dX4_readOperands_138 rfl (lv_at hl 3 rfl) ?_
              refine lv_iload hx hb dX4_readOperands_139 (lv_at hl 0 rfl) ?_
              refine q_cv (q_runV (As := [.int v1, .int r_49]) (rest := []) E (hml.trans hl.1.symm) hI (c_X5_set l X σ_50 (q_rf X (q_rf X a 8) 7) v1 r_49 (q_tk (k' := 5) hI (q_tk (k' := 8) hI ha rfl (by decide)) rfl (by decide))) kv_X4_73 (q_tk (k' := 5) hI (q_tk (k' := 8) hI ha rfl (by decide)) rfl (by decide)) ⟨rfl, by decide⟩ (show vwCl[4]? = some (RX5, TX5, 1) from rfl) rfl ⟨Nat.le_of_ble_eq_true rfl, Nat.le_of_ble_eq_true rfl⟩ ⟨Nat.le_refl _, Nat.le_refl _⟩ rfl (Nat.le_of_ble_eq_true rfl) dX4_readOperands_141) hI (by decide) (fun σ_52 H locs hpσ_52 hkσ_52 hI => ?_)
              obtain ⟨ahpσ_52, bhpσ_52⟩ := hpσ_52
              have fr_σ_52 := fr_σ_50.call bhpσ_52 rfl rfl
              replace hF := q_letX hF ahpσ_52
              refine lv_iload hx hb dX4_readOperands_144 (lv_at hl 0 rfl) ?_
              refine lv_iconst (v := (-1)) hx hb dX4_readOperands_146 (by decide) ?_
              refine q_icmp_eq (A := r_49.toInt) (B := (-1)) E rfl (by decide) (tgt := 154) dX4_readOperands_147 (by decide) (fun c_53 => ?_) (fun c_53 => ?_)
              · skip
                replace hF := q_ifp hF c_53
                refine lv_iconst (v := 0) hx hb dX4_readOperands_154 (by decide) ?_
                have hrv : (0 : Int32).toInt = 0 := rfl
                exact q_retz E hr hlk hI ⟨by decide, by decide⟩ ⟨⟨by decide, by decide⟩, (hF.trans hout), fr_σ_52⟩ dX4_readOperands_155
              · skip
                replace hF := q_ifn hF c_53
                refine lv_iconst (v := 1) hx hb dX4_readOperands_150 (by decide) ?_
                refine lv_goto (tgt := 155) hx hb dX4_readOperands_151 (by decide) ?_
                have hrv : (1 : Int32).toInt = 1 := rfl
                exact q_retz E hr hlk hI ⟨by decide, by decide⟩ ⟨⟨by decide, by decide⟩, (hF.trans hout), fr_σ_52⟩ dX4_readOperands_155
          · skip
            replace hF := q_ifp hF c_40
            refine lv_iconst (v := 1) hx hb dX4_readOperands_111 (by decide) ?_
            have hrv : (1 : Int32).toInt = 1 := rfl
            exact q_retz E hr hlk hI ⟨by decide, by decide⟩ ⟨⟨by decide, by decide⟩, (hF.trans hout), fr_σ_37⟩ dX4_readOperands_112
        · skip
          replace hF := q_ifp hF c_33
          refine lv_aload_n hx hb dX4_readOperands_76 rfl (lv_at hl 1 rfl) ?_
          refine lv_iconst (v := 2) hx hb dX4_readOperands_77 (by decide) ?_
          have kc_54 : (2 : Int32).toInt = 2 := rfl
          refine q_ci (q_runU (As := [.int 2]) (rest := []) E (hml.trans hl.1.symm) hI (c_X3_fails l X σ_5 a (2 : Int32) (Or.inl ha)) ku_X4_59_4 ha ⟨rfl, by decide⟩ (show vwCl[3]? = some (RX4, TX4, 11) from rfl) rfl ⟨Nat.le_of_ble_eq_true rfl, Nat.le_of_ble_eq_true rfl⟩ ⟨Nat.le_refl _, Nat.le_refl _⟩ rfl (Nat.le_of_ble_eq_true rfl) dX4_readOperands_78) hI (by decide) (fun r_55 σ_56 H locs hpσ_56 hkσ_56 hI => ?_)
          obtain ⟨ahpσ_56, bhpσ_56, chpσ_56, dhpσ_56⟩ := hpσ_56
          have fr_σ_56 := fr_σ_5.call dhpσ_56 rfl rfl
          replace hF := q_biX hF chpσ_56
          exact q_retz E hr hlk hI ⟨by omega, by omega⟩ ⟨⟨by omega, by omega⟩, (hF.trans hout), fr_σ_56⟩ dX4_readOperands_81
  refine q_if_eq (A := r_3.toInt) E rfl (tgt := 47) dX4_readOperands_16 (by decide) (fun c_57 => ?_) (fun c_57 => ?_)
  · skip
    replace hF := q_ifp hF c_57
    exact J_47_5 σ _ _ ls fr_σ hF hI (lv_sub hl [1, 2, 3, 0] rfl)
  · skip
    replace hF := q_ifn hF c_57
    replace c_57 := q_ifOne bhpσ_4 c_57
    refine lv_aload_n hx hb dX4_readOperands_19 rfl (lv_at hl 1 rfl) ?_
    refine lv_aload_n hx hb dX4_readOperands_20 rfl (lv_at hl 3 rfl) ?_
    refine q_ci (q_runU (As := [.ref r2]) (rest := []) E (hml.trans hl.1.symm) hI (c_X3_passPlayer l X σ a r2 (Or.inl ha) hr2) ku_X4_126_4 ha ⟨rfl, by decide⟩ (show vwCl[3]? = some (RX4, TX4, 11) from rfl) rfl ⟨Nat.le_of_ble_eq_true rfl, Nat.le_of_ble_eq_true rfl⟩ ⟨Nat.le_refl _, Nat.le_refl _⟩ rfl (Nat.le_of_ble_eq_true rfl) dX4_readOperands_21) hI (by decide) (fun r_58 σ_59 H locs hpσ_59 hkσ_59 hI => ?_)
    obtain ⟨ahpσ_59, bhpσ_59⟩ := hpσ_59
    have fr_σ_59 := fr_σ.call bhpσ_59 rfl rfl
    replace hF := q_biX hF ahpσ_59
    refine lv_istore (lv' := [(4, .int r_58), (3, .int r_1), (0, .ref a), (1, .int v1), (2, .ref r2)]) hx hb dX4_readOperands_24 hl (by decide) rfl (fun ls hl => ?_)
    refine lv_iload hx hb dX4_readOperands_26 (lv_at hl 0 rfl) ?_
    refine lv_iconst (v := (-1)) hx hb dX4_readOperands_28 (by decide) ?_
    refine q_icmp_ne (A := r_58.toInt) (B := (-1)) E rfl (by decide) (tgt := 34) dX4_readOperands_29 (by decide) (fun c_60 => ?_) (fun c_60 => ?_)
    · skip
      replace hF := q_ifn hF c_60
      refine lv_aload_n hx hb dX4_readOperands_34 rfl (lv_at hl 2 rfl) ?_
      refine gs_X4_12_4 E hI ha dX4_readOperands_35 ?_
      refine gs_X4_130_8 E hI (q_tk (k' := 8) hI ha rfl (by decide)) dX4_readOperands_38 ?_
      refine lv_iload_n hx hb dX4_readOperands_41 rfl (lv_at hl 3 rfl) ?_
      refine lv_iload hx hb dX4_readOperands_42 (lv_at hl 0 rfl) ?_
      refine q_cv (q_runV (As := [.int v1, .int r_58]) (rest := []) E (hml.trans hl.1.symm) hI (c_X5_set l X σ_59 (q_rf X (q_rf X a 8) 5) v1 r_58 (q_tk (k' := 5) hI (q_tk (k' := 8) hI ha rfl (by decide)) rfl (by decide))) kv_X4_73 (q_tk (k' := 5) hI (q_tk (k' := 8) hI ha rfl (by decide)) rfl (by decide)) ⟨rfl, by decide⟩ (show vwCl[4]? = some (RX5, TX5, 1) from rfl) rfl ⟨Nat.le_of_ble_eq_true rfl, Nat.le_of_ble_eq_true rfl⟩ ⟨Nat.le_refl _, Nat.le_refl _⟩ rfl (Nat.le_of_ble_eq_true rfl) dX4_readOperands_44) hI (by decide) (fun σ_62 H locs hpσ_62 hkσ_62 hI => ?_)
      obtain ⟨ahpσ_62, bhpσ_62⟩ := hpσ_62
      have fr_σ_62 := fr_σ_59.call bhpσ_62 rfl rfl
      replace hF := q_letX hF ahpσ_62
      exact J_47_5 σ_62 _ _ ls fr_σ_62 hF hI (lv_sub hl [2, 3, 4, 1] rfl)
    · skip
      replace hF := q_ifp hF c_60
      refine lv_iconst (v := 0) hx hb dX4_readOperands_32 (by decide) ?_
      have hrv : (0 : Int32).toInt = 0 := rfl
      exact q_retz E hr hlk hI ⟨by decide, by decide⟩ ⟨⟨by decide, by decide⟩, (hF.trans hout), fr_σ_59⟩ dX4_readOperands_33

set_option maxRecDepth 100000 in
set_option maxHeartbeats 4000000 in
theorem c_X4_readStep (l : Launch) (X : XW) (σ : ST) (a : Nat) (r1 : Nat) (ha : q_kd X a = 4) (hr1 : q_kd X r1 = 6) : Met l yX4_readStep (q_ws yX4_readStep cX4_readStep 5 (some .boolean)) (q_rm 8 175) (q_P X σ [.ref a, .ref r1]) (q_Qi X 8 σ (fun (r : Int32) (σ' : ST) => (0 ≤ r.toInt ∧ r.toInt ≤ 1) ∧ (r, σ') = F_X4_readStep X σ a r1 ∧ q_ow [(4, 2), (4, 3), (4, 4), (4, 5), (4, 6), (4, 7), (4, 10), (8, 1), (8, 2), (9, 2), (9, 3), (9, 4), (9, 5), (9, 6), (9, 7), (20, 99)] [] X σ σ')) 0 0 (q_reg X) := by
  refine q_met 8 (by first | exact rfl | decide +kernel) rfl (Nat.le_of_ble_eq_true rfl) (fun p e s m below meth c E hml hr hlk hI ls hl => ?_)
  have hx := E.1
  have hb := E.2.1
  have hl : lv_has ls 5 [(0, .ref a), (1, .ref r1)] := hl
  have fr_σ : q_ow [(4, 2), (4, 3), (4, 4), (4, 5), (4, 6), (4, 7), (4, 10), (8, 1), (8, 2), (9, 2), (9, 3), (9, 4), (9, 5), (9, 6), (9, 7), (20, 99)] [] X σ σ := q_ow.rf
  obtain ⟨out, hout⟩ : ∃ o, o = F_X4_readStep X σ a r1 := ⟨_, rfl⟩
  have hF := hout.symm
  unfold F_X4_readStep at hF
  refine lv_aload_n hx hb dX4_readStep_0 rfl (lv_at hl 0 rfl) ?_
  refine q_ci (q_runV (As := []) (rest := []) E (hml.trans hl.1.symm) hI (c_X4_actionHere l X σ a ha) kv_X4_83 ha ⟨rfl, by decide⟩ (show vwCl[3]? = some (RX4, TX4, 11) from rfl) rfl ⟨Nat.le_of_ble_eq_true rfl, Nat.le_of_ble_eq_true rfl⟩ ⟨Nat.le_refl _, Nat.le_refl _⟩ rfl (Nat.le_of_ble_eq_true rfl) dX4_readStep_1) hI (by decide) (fun r_1 σ_2 H locs hpσ_2 hkσ_2 hI => ?_)
  obtain ⟨ahpσ_2, bhpσ_2⟩ := hpσ_2
  rw [ahpσ_2] at hI
  replace hF := q_letX hF bhpσ_2
  refine lv_istore_n (lv' := [(2, .int r_1), (0, .ref a), (1, .ref r1)]) hx hb dX4_readStep_4 rfl hl (by decide) rfl (fun ls hl => ?_)
  refine lv_iload_n hx hb dX4_readStep_5 rfl (lv_at hl 0 rfl) ?_
  refine lv_iconst (v := (-1)) hx hb dX4_readStep_6 (by decide) ?_
  refine q_icmp_ne (A := r_1.toInt) (B := (-1)) E rfl (by decide) (tgt := 16) dX4_readStep_7 (by decide) (fun c_3 => ?_) (fun c_3 => ?_)
  · skip
    replace hF := q_ifn hF c_3
    refine lv_aload_n hx hb dX4_readStep_16 rfl (lv_at hl 1 rfl) ?_
    refine gs_X4_12_4 E hI ha dX4_readStep_17 ?_
    refine gs_X4_87_8 E hI (q_tk (k' := 8) hI ha rfl (by decide)) dX4_readStep_20 ?_
    refine lv_topi (fun f_4 ef_4 => ?_)
    replace hF := q_letX hF ef_4
    refine lv_bipush (v := 30) hx hb dX4_readStep_23 (by decide) ?_
    refine q_icmp_lt (A := f_4.toInt) (B := 30) E rfl (by decide) (tgt := 35) dX4_readStep_25 (by decide) (fun c_5 => ?_) (fun c_5 => ?_)
    · skip
      replace hF := q_ifp hF c_5
      refine lv_iload_n hx hb dX4_readStep_35 rfl (lv_at hl 0 rfl) ?_
      refine lv_iconst (v := 4) hx hb dX4_readStep_36 (by decide) ?_
      have J_47_5 : ∀  (H : Heap) (locs : List Loc) (ls : Array Slot), (F_X4_readStep_J47_1 X σ a r_1 r1 = out) → q_I X 8 σ s.heap locs σ H → lv_has ls 5 [(0, .ref a), (1, .ref r1), (2, .int r_1)] → W p l e (q_rm 8 175) s m ([.ref a, .ref r1] : List Value).toArray below meth c H locs 0 0 (MQ below (q_Qi X 8 σ (fun (r : Int32) (σ' : ST) => (0 ≤ r.toInt ∧ r.toInt ≤ 1) ∧ (r, σ') = F_X4_readStep X σ a r1 ∧ q_ow [(4, 2), (4, 3), (4, 4), (4, 5), (4, 6), (4, 7), (4, 10), (8, 1), (8, 2), (9, 2), (9, 3), (9, 4), (9, 5), (9, 6), (9, 7), (20, 99)] [] X σ σ')) ([.ref a, .ref r1] : List Value).toArray s 0 0 (q_reg X)) (F0 m 47 ls []) := by
        clear hF
        intro  H locs ls  hF hI hl
        unfold F_X4_readStep_J47_1 at hF
        refine lv_iconst (v := 1) hx hb dX4_readStep_47 (by decide) ?_
        refine lv_goto (tgt := 52) hx hb dX4_readStep_48 (by decide) ?_
        refine lv_istore_n (lv' := [(3, .int 1), (0, .ref a), (1, .ref r1), (2, .int r_1)]) hx hb dX4_readStep_52 rfl hl (by decide) rfl (fun ls hl => ?_)
        refine lv_iload_n hx hb dX4_readStep_53 rfl (lv_at hl 0 rfl) ?_
        have J_72_5 : ∀  (H : Heap) (locs : List Loc) (ls : Array Slot), (F_X4_readStep_J72_2 X σ a r_1 r1 = out) → q_I X 8 σ s.heap locs σ H → lv_has ls 5 [(0, .ref a), (1, .ref r1), (2, .int r_1), (3, .int 1)] → W p l e (q_rm 8 175) s m ([.ref a, .ref r1] : List Value).toArray below meth c H locs 0 0 (MQ below (q_Qi X 8 σ (fun (r : Int32) (σ' : ST) => (0 ≤ r.toInt ∧ r.toInt ≤ 1) ∧ (r, σ') = F_X4_readStep X σ a r1 ∧ q_ow [(4, 2), (4, 3), (4, 4), (4, 5), (4, 6), (4, 7), (4, 10), (8, 1), (8, 2), (9, 2), (9, 3), (9, 4), (9, 5), (9, 6), (9, 7), (20, 99)] [] X σ σ')) ([.ref a, .ref r1] : List Value).toArray s 0 0 (q_reg X)) (F0 m 72 ls []) := by
          clear hF
          intro  H locs ls  hF hI hl
          unfold F_X4_readStep_J72_2 at hF
          refine lv_aload_n hx hb dX4_readStep_72 rfl (lv_at hl 0 rfl) ?_
          refine gs_X4_12_4 E hI ha dX4_readStep_73 ?_
          refine lv_iload_n hx hb dX4_readStep_76 rfl (lv_at hl 2 rfl) ?_
          refine q_ci (q_runV (As := [.int r_1]) (rest := []) E (hml.trans hl.1.symm) hI (c_X8_add l X σ (q_rf X a 8) r_1 (q_tk (k' := 8) hI ha rfl (by decide))) kv_X4_67 (q_tk (k' := 8) hI ha rfl (by decide)) ⟨rfl, by decide⟩ (show vwCl[7]? = some (RX8, TX8, 8) from rfl) rfl ⟨Nat.le_of_ble_eq_true rfl, Nat.le_of_ble_eq_true rfl⟩ ⟨Nat.le_refl _, Nat.le_refl _⟩ rfl (Nat.le_of_ble_eq_true rfl) dX4_readStep_77) hI (by decide) (fun r_6 σ_7 H locs hpσ_7 hkσ_7 hI => ?_)
          obtain ⟨ahpσ_7, bhpσ_7⟩ := hpσ_7
          have fr_σ_7 := fr_σ.call bhpσ_7 rfl rfl
          replace hF := q_biX hF ahpσ_7
          refine lv_istore (lv' := [(4, .int r_6), (0, .ref a), (1, .ref r1), (2, .int r_1), (3, .int 1)]) hx hb dX4_readStep_80 hl (by decide) rfl (fun ls hl => ?_)
          refine lv_aload_n hx hb dX4_readStep_82 rfl (lv_at hl 1 rfl) ?_
          refine gs_X4_12_4 E hI ha dX4_readStep_83 ?_
          refine lv_dup hx hb dX4_readStep_86 rfl ?_
          refine gs_X4_87_8 E hI (q_tk (k' := 8) hI ha rfl (by decide)) dX4_readStep_87 ?_
          refine lv_topi (fun f_8 ef_8 => ?_)
          replace hF := q_letX hF ef_8
          refine lv_iconst (v := 1) hx hb dX4_readStep_90 (by decide) ?_
          refine lv_iadd hx hb dX4_readStep_91 ?_
          refine lv_topi (fun z_9 ez_9 => ?_)
          replace hF := q_letX hF ez_9
          refine ps_X4_87_8 E hI (q_tk (k' := 8) hI ha rfl (by decide)) (by decide) dX4_readStep_92 (fun H locs σ_10 hσ_10 hI => ?_)
          replace hF := q_letX hF hσ_10
          have fr_σ_10 := fr_σ_7.si hσ_10 (q_tk (k' := 8) hI ha rfl (by decide)) rfl
          refine lv_iload_n hx hb dX4_readStep_95 rfl (lv_at hl 4 rfl) ?_
          refine q_if_eq (A := 1) E (by decide) (tgt := 122) dX4_readStep_96 (by decide) (fun c_11 => ?_) (fun c_11 => ?_)
          · skip
            replace hF := q_ifp hF c_11
            refine lv_aload_n hx hb dX4_readStep_122 rfl (lv_at hl 1 rfl) ?_
            refine q_cv (q_runU (As := []) (rest := []) E (hml.trans hl.1.symm) hI (c_X3_advance l X σ_10 a (Or.inl ha)) ku_X4_77_4 ha ⟨rfl, by decide⟩ (show vwCl[3]? = some (RX4, TX4, 11) from rfl) rfl ⟨Nat.le_of_ble_eq_true rfl, Nat.le_of_ble_eq_true rfl⟩ ⟨Nat.le_refl _, Nat.le_refl _⟩ rfl (Nat.le_of_ble_eq_true rfl) dX4_readStep_123) hI (by decide) (fun σ_13 H locs hpσ_13 hkσ_13 hI => ?_)
            obtain ⟨ahpσ_13, bhpσ_13⟩ := hpσ_13
            have fr_σ_13 := fr_σ_10.call bhpσ_13 rfl rfl
            replace hF := q_letX hF ahpσ_13
            refine lv_iload_n hx hb dX4_readStep_126 rfl (lv_at hl 3 rfl) ?_
            refine q_ci (q_runS (As := [.int r_1]) (rest := []) E (hml.trans hl.1.symm) hI (c_X8_isWhen l X σ_13 r_1) ks_X4_90 rfl ⟨Nat.le_of_ble_eq_true rfl, Nat.le_of_ble_eq_true rfl⟩ ⟨Nat.le_refl _, Nat.le_refl _⟩ rfl (Nat.le_of_ble_eq_true rfl) dX4_readStep_127) hI (by decide) (fun r_14 σ_15 H locs hpσ_15 hkσ_15 hI => ?_)
            obtain ⟨ahpσ_15, bhpσ_15, chpσ_15⟩ := hpσ_15
            rw [ahpσ_15] at hI
            replace hF := q_letX hF chpσ_15
            refine q_if_eq (A := r_14.toInt) E rfl (tgt := 144) dX4_readStep_130 (by decide) (fun c_16 => ?_) (fun c_16 => ?_)
            · skip
              replace hF := q_ifp hF c_16
              refine lv_aload_n hx hb dX4_readStep_144 rfl (lv_at hl 1 rfl) ?_
              refine lv_iload hx hb dX4_readStep_145 (lv_at hl 0 rfl) ?_
              refine lv_aload_n hx hb dX4_readStep_147 rfl (lv_at hl 2 rfl) ?_
              refine q_ci (q_runV (As := [.int r_6, .ref r1]) (rest := []) E (hml.trans hl.1.symm) hI (c_X4_readOperands l X σ_13 a r_6 r1 ha hr1) kv_X4_96 ha ⟨rfl, by decide⟩ (show vwCl[3]? = some (RX4, TX4, 11) from rfl) rfl ⟨Nat.le_of_ble_eq_true rfl, Nat.le_of_ble_eq_true rfl⟩ ⟨Nat.le_refl _, Nat.le_refl _⟩ rfl (Nat.le_of_ble_eq_true rfl) dX4_readStep_148) hI (by decide) (fun r_17 σ_18 H locs hpσ_18 hkσ_18 hI => ?_)
              obtain ⟨ahpσ_18, bhpσ_18, chpσ_18⟩ := hpσ_18
              have fr_σ_18 := fr_σ_13.call chpσ_18 rfl rfl
              replace hF := q_biX hF bhpσ_18
              refine q_if_eq (A := r_17.toInt) E rfl (tgt := 165) dX4_readStep_151 (by decide) (fun c_19 => ?_) (fun c_19 => ?_)
              · skip
                replace hF := q_ifp hF c_19
                refine lv_iconst (v := 0) hx hb dX4_readStep_165 (by decide) ?_
                have hrv : (0 : Int32).toInt = 0 := rfl
                exact q_retz E hr hlk hI ⟨by decide, by decide⟩ ⟨⟨by decide, by decide⟩, (hF.trans hout), fr_σ_18⟩ dX4_readStep_166
              · skip
                replace hF := q_ifn hF c_19
                replace c_19 := q_ifOne ahpσ_18 c_19
                refine lv_aload_n hx hb dX4_readStep_154 rfl (lv_at hl 1 rfl) ?_
                refine q_ci (q_runU (As := []) (rest := []) E (hml.trans hl.1.symm) hI (c_X3_passSemicolon l X σ_18 a (Or.inl ha)) ku_X4_80_4 ha ⟨rfl, by decide⟩ (show vwCl[3]? = some (RX4, TX4, 11) from rfl) rfl ⟨Nat.le_of_ble_eq_true rfl, Nat.le_of_ble_eq_true rfl⟩ ⟨Nat.le_refl _, Nat.le_refl _⟩ rfl (Nat.le_of_ble_eq_true rfl) dX4_readStep_155) hI (by decide) (fun r_20 σ_21 H locs hpσ_21 hkσ_21 hI => ?_)
                obtain ⟨ahpσ_21, bhpσ_21, chpσ_21⟩ := hpσ_21
                have fr_σ_21 := fr_σ_18.call chpσ_21 rfl rfl
                replace hF := q_biX hF bhpσ_21
                refine q_if_eq (A := r_20.toInt) E rfl (tgt := 165) dX4_readStep_158 (by decide) (fun c_22 => ?_) (fun c_22 => ?_)
                · skip
                  replace hF := q_ifp hF c_22
                  refine lv_iconst (v := 0) hx hb dX4_readStep_165 (by decide) ?_
                  have hrv : (0 : Int32).toInt = 0 := rfl
                  exact q_retz E hr hlk hI ⟨by decide, by decide⟩ ⟨⟨by decide, by decide⟩, (hF.trans hout), fr_σ_21⟩ dX4_readStep_166
                · skip
                  replace hF := q_ifn hF c_22
                  replace c_22 := q_ifOne ahpσ_21 c_22
                  refine lv_iconst (v := 1) hx hb dX4_readStep_161 (by decide) ?_
                  refine lv_goto (tgt := 166) hx hb dX4_readStep_162 (by decide) ?_
                  have hrv : (1 : Int32).toInt = 1 := rfl
                  exact q_retz E hr hlk hI ⟨by decide, by decide⟩ ⟨⟨by decide, by decide⟩, (hF.trans hout), fr_σ_21⟩ dX4_readStep_166
            · skip
              replace hF := q_ifn hF c_16
              replace c_16 := q_ifOne bhpσ_15 c_16
              refine lv_aload_n hx hb dX4_readStep_133 rfl (lv_at hl 1 rfl) ?_
              refine lv_iload hx hb dX4_readStep_134 (lv_at hl 0 rfl) ?_
              refine q_ci (q_runV (As := [.int r_6]) (rest := []) E (hml.trans hl.1.symm) hI (c_X4_readTest l X σ_13 a r_6 ha) kv_X4_93 ha ⟨rfl, by decide⟩ (show vwCl[3]? = some (RX4, TX4, 11) from rfl) rfl ⟨Nat.le_of_ble_eq_true rfl, Nat.le_of_ble_eq_true rfl⟩ ⟨Nat.le_refl _, Nat.le_refl _⟩ rfl (Nat.le_of_ble_eq_true rfl) dX4_readStep_136) hI (by decide) (fun r_23 σ_24 H locs hpσ_24 hkσ_24 hI => ?_)
              obtain ⟨ahpσ_24, bhpσ_24, chpσ_24⟩ := hpσ_24
              have fr_σ_24 := fr_σ_13.call chpσ_24 rfl rfl
              replace hF := q_biX hF bhpσ_24
              refine q_if_ne (A := r_23.toInt) E rfl (tgt := 144) dX4_readStep_139 (by decide) (fun c_25 => ?_) (fun c_25 => ?_)
              · skip
                replace hF := q_ifn hF c_25
                replace c_25 := q_ifOne ahpσ_24 c_25
                refine lv_aload_n hx hb dX4_readStep_144 rfl (lv_at hl 1 rfl) ?_
                refine lv_iload hx hb dX4_readStep_145 (lv_at hl 0 rfl) ?_
                refine lv_aload_n hx hb dX4_readStep_147 rfl (lv_at hl 2 rfl) ?_
                refine q_ci (q_runV (As := [.int r_6, .ref r1]) (rest := []) E (hml.trans hl.1.symm) hI (c_X4_readOperands l X σ_24 a r_6 r1 ha hr1) kv_X4_96 ha ⟨rfl, by decide⟩ (show vwCl[3]? = some (RX4, TX4, 11) from rfl) rfl ⟨Nat.le_of_ble_eq_true rfl, Nat.le_of_ble_eq_true rfl⟩ ⟨Nat.le_refl _, Nat.le_refl _⟩ rfl (Nat.le_of_ble_eq_true rfl) dX4_readStep_148) hI (by decide) (fun r_26 σ_27 H locs hpσ_27 hkσ_27 hI => ?_)
                obtain ⟨ahpσ_27, bhpσ_27, chpσ_27⟩ := hpσ_27
                have fr_σ_27 := fr_σ_24.call chpσ_27 rfl rfl
                replace hF := q_biX hF bhpσ_27
                refine q_if_eq (A := r_26.toInt) E rfl (tgt := 165) dX4_readStep_151 (by decide) (fun c_28 => ?_) (fun c_28 => ?_)
                · skip
                  replace hF := q_ifp hF c_28
                  refine lv_iconst (v := 0) hx hb dX4_readStep_165 (by decide) ?_
                  have hrv : (0 : Int32).toInt = 0 := rfl
                  exact q_retz E hr hlk hI ⟨by decide, by decide⟩ ⟨⟨by decide, by decide⟩, (hF.trans hout), fr_σ_27⟩ dX4_readStep_166
                · skip
                  replace hF := q_ifn hF c_28
                  replace c_28 := q_ifOne ahpσ_27 c_28
                  refine lv_aload_n hx hb dX4_readStep_154 rfl (lv_at hl 1 rfl) ?_
                  refine q_ci (q_runU (As := []) (rest := []) E (hml.trans hl.1.symm) hI (c_X3_passSemicolon l X σ_27 a (Or.inl ha)) ku_X4_80_4 ha ⟨rfl, by decide⟩ (show vwCl[3]? = some (RX4, TX4, 11) from rfl) rfl ⟨Nat.le_of_ble_eq_true rfl, Nat.le_of_ble_eq_true rfl⟩ ⟨Nat.le_refl _, Nat.le_refl _⟩ rfl (Nat.le_of_ble_eq_true rfl) dX4_readStep_155) hI (by decide) (fun r_29 σ_30 H locs hpσ_30 hkσ_30 hI => ?_)
                  obtain ⟨ahpσ_30, bhpσ_30, chpσ_30⟩ := hpσ_30
                  have fr_σ_30 := fr_σ_27.call chpσ_30 rfl rfl
                  replace hF := q_biX hF bhpσ_30
                  refine q_if_eq (A := r_29.toInt) E rfl (tgt := 165) dX4_readStep_158 (by decide) (fun c_31 => ?_) (fun c_31 => ?_)
                  · skip
                    replace hF := q_ifp hF c_31
                    refine lv_iconst (v := 0) hx hb dX4_readStep_165 (by decide) ?_
                    have hrv : (0 : Int32).toInt = 0 := rfl
                    exact q_retz E hr hlk hI ⟨by decide, by decide⟩ ⟨⟨by decide, by decide⟩, (hF.trans hout), fr_σ_30⟩ dX4_readStep_166
                  · skip
                    replace hF := q_ifn hF c_31
                    replace c_31 := q_ifOne ahpσ_30 c_31
                    refine lv_iconst (v := 1) hx hb dX4_readStep_161 (by decide) ?_
                    refine lv_goto (tgt := 166) hx hb dX4_readStep_162 (by decide) ?_
                    have hrv : (1 : Int32).toInt = 1 := rfl
                    exact q_retz E hr hlk hI ⟨by decide, by decide⟩ ⟨⟨by decide, by decide⟩, (hF.trans hout), fr_σ_30⟩ dX4_readStep_166
              · skip
                replace hF := q_ifp hF c_25
                refine lv_iconst (v := 0) hx hb dX4_readStep_142 (by decide) ?_
                have hrv : (0 : Int32).toInt = 0 := rfl
                exact q_retz E hr hlk hI ⟨by decide, by decide⟩ ⟨⟨by decide, by decide⟩, (hF.trans hout), fr_σ_24⟩ dX4_readStep_143
          · skip
            replace hF := q_ifn hF c_11
            refine lv_aload_n hx hb dX4_readStep_99 rfl (lv_at hl 1 rfl) ?_
            refine gs_X4_23_4 E hI ha dX4_readStep_100 ?_
            refine lv_aload_n hx hb dX4_readStep_103 rfl (lv_at hl 1 rfl) ?_
            refine gs_X4_27_4 E hI ha dX4_readStep_104 ?_
            refine lv_topi (fun f_32 ef_32 => ?_)
            replace hF := q_letX hF ef_32
            refine lv_iload hx hb dX4_readStep_107 (lv_at hl 0 rfl) ?_
            refine q_cv (q_runV (As := [.int f_32, .int r_6]) (rest := []) E (hml.trans hl.1.symm) hI (c_X5_set l X σ_10 (q_rf X a 9) f_32 r_6 (q_tk (k' := 5) hI ha rfl (by decide))) kv_X4_73 (q_tk (k' := 5) hI ha rfl (by decide)) ⟨rfl, by decide⟩ (show vwCl[4]? = some (RX5, TX5, 1) from rfl) rfl ⟨Nat.le_of_ble_eq_true rfl, Nat.le_of_ble_eq_true rfl⟩ ⟨Nat.le_refl _, Nat.le_refl _⟩ rfl (Nat.le_of_ble_eq_true rfl) dX4_readStep_109) hI (by decide) (fun σ_34 H locs hpσ_34 hkσ_34 hI => ?_)
            obtain ⟨ahpσ_34, bhpσ_34⟩ := hpσ_34
            have fr_σ_34 := fr_σ_10.call bhpσ_34 rfl rfl
            replace hF := q_letX hF ahpσ_34
            refine lv_aload_n hx hb dX4_readStep_112 rfl (lv_at hl 1 rfl) ?_
            refine lv_dup hx hb dX4_readStep_113 rfl ?_
            refine gs_X4_27_4 E hI ha dX4_readStep_114 ?_
            refine lv_topi (fun f_35 ef_35 => ?_)
            replace hF := q_letX hF ef_35
            refine lv_iconst (v := 1) hx hb dX4_readStep_117 (by decide) ?_
            refine lv_iadd hx hb dX4_readStep_118 ?_
            refine lv_topi (fun z_36 ez_36 => ?_)
            replace hF := q_letX hF ez_36
            refine ps_X4_27_4 E hI ha (by decide) dX4_readStep_119 (fun H locs σ_37 hσ_37 hI => ?_)
            replace hF := q_letX hF hσ_37
            have fr_σ_37 := fr_σ_34.si hσ_37 ha rfl
            refine lv_aload_n hx hb dX4_readStep_122 rfl (lv_at hl 1 rfl) ?_
            refine q_cv (q_runU (As := []) (rest := []) E (hml.trans hl.1.symm) hI (c_X3_advance l X σ_37 a (Or.inl ha)) ku_X4_77_4 ha ⟨rfl, by decide⟩ (show vwCl[3]? = some (RX4, TX4, 11) from rfl) rfl ⟨Nat.le_of_ble_eq_true rfl, Nat.le_of_ble_eq_true rfl⟩ ⟨Nat.le_refl _, Nat.le_refl _⟩ rfl (Nat.le_of_ble_eq_true rfl) dX4_readStep_123) hI (by decide) (fun σ_39 H locs hpσ_39 hkσ_39 hI => ?_)
            obtain ⟨ahpσ_39, bhpσ_39⟩ := hpσ_39
            have fr_σ_39 := fr_σ_37.call bhpσ_39 rfl rfl
            replace hF := q_letX hF ahpσ_39
            refine lv_iload_n hx hb dX4_readStep_126 rfl (lv_at hl 3 rfl) ?_
            refine q_ci (q_runS (As := [.int r_1]) (rest := []) E (hml.trans hl.1.symm) hI (c_X8_isWhen l X σ_39 r_1) ks_X4_90 rfl ⟨Nat.le_of_ble_eq_true rfl, Nat.le_of_ble_eq_true rfl⟩ ⟨Nat.le_refl _, Nat.le_refl _⟩ rfl (Nat.le_of_ble_eq_true rfl) dX4_readStep_127) hI (by decide) (fun r_40 σ_41 H locs hpσ_41 hkσ_41 hI => ?_)
            obtain ⟨ahpσ_41, bhpσ_41, chpσ_41⟩ := hpσ_41
            rw [ahpσ_41] at hI
            replace hF := q_letX hF chpσ_41
            refine q_if_eq (A := r_40.toInt) E rfl (tgt := 144) dX4_readStep_130 (by decide) (fun c_42 => ?_) (fun c_42 => ?_)
            · skip
              replace hF := q_ifp hF c_42
              refine lv_aload_n hx hb dX4_readStep_144 rfl (lv_at hl 1 rfl) ?_
              refine lv_iload hx hb dX4_readStep_145 (lv_at hl 0 rfl) ?_
              refine lv_aload_n hx hb dX4_readStep_147 rfl (lv_at hl 2 rfl) ?_
              refine q_ci (q_runV (As := [.int r_6, .ref r1]) (rest := []) E (hml.trans hl.1.symm) hI (c_X4_readOperands l X σ_39 a r_6 r1 ha hr1) kv_X4_96 ha ⟨rfl, by decide⟩ (show vwCl[3]? = some (RX4, TX4, 11) from rfl) rfl ⟨Nat.le_of_ble_eq_true rfl, Nat.le_of_ble_eq_true rfl⟩ ⟨Nat.le_refl _, Nat.le_refl _⟩ rfl (Nat.le_of_ble_eq_true rfl) dX4_readStep_148) hI (by decide) (fun r_43 σ_44 H locs hpσ_44 hkσ_44 hI => ?_)
              obtain ⟨ahpσ_44, bhpσ_44, chpσ_44⟩ := hpσ_44
              have fr_σ_44 := fr_σ_39.call chpσ_44 rfl rfl
              replace hF := q_biX hF bhpσ_44
              refine q_if_eq (A := r_43.toInt) E rfl (tgt := 165) dX4_readStep_151 (by decide) (fun c_45 => ?_) (fun c_45 => ?_)
              · skip
                replace hF := q_ifp hF c_45
                refine lv_iconst (v := 0) hx hb dX4_readStep_165 (by decide) ?_
                have hrv : (0 : Int32).toInt = 0 := rfl
                exact q_retz E hr hlk hI ⟨by decide, by decide⟩ ⟨⟨by decide, by decide⟩, (hF.trans hout), fr_σ_44⟩ dX4_readStep_166
              · skip
                replace hF := q_ifn hF c_45
                replace c_45 := q_ifOne ahpσ_44 c_45
                refine lv_aload_n hx hb dX4_readStep_154 rfl (lv_at hl 1 rfl) ?_
                refine q_ci (q_runU (As := []) (rest := []) E (hml.trans hl.1.symm) hI (c_X3_passSemicolon l X σ_44 a (Or.inl ha)) ku_X4_80_4 ha ⟨rfl, by decide⟩ (show vwCl[3]? = some (RX4, TX4, 11) from rfl) rfl ⟨Nat.le_of_ble_eq_true rfl, Nat.le_of_ble_eq_true rfl⟩ ⟨Nat.le_refl _, Nat.le_refl _⟩ rfl (Nat.le_of_ble_eq_true rfl) dX4_readStep_155) hI (by decide) (fun r_46 σ_47 H locs hpσ_47 hkσ_47 hI => ?_)
                obtain ⟨ahpσ_47, bhpσ_47, chpσ_47⟩ := hpσ_47
                have fr_σ_47 := fr_σ_44.call chpσ_47 rfl rfl
                replace hF := q_biX hF bhpσ_47
                refine q_if_eq (A := r_46.toInt) E rfl (tgt := 165) dX4_readStep_158 (by decide) (fun c_48 => ?_) (fun c_48 => ?_)
                · skip
                  replace hF := q_ifp hF c_48
                  refine lv_iconst (v := 0) hx hb dX4_readStep_165 (by decide) ?_
                  have hrv : (0 : Int32).toInt = 0 := rfl
                  exact q_retz E hr hlk hI ⟨by decide, by decide⟩ ⟨⟨by decide, by decide⟩, (hF.trans hout), fr_σ_47⟩ dX4_readStep_166
                · skip
                  replace hF := q_ifn hF c_48
                  replace c_48 := q_ifOne ahpσ_47 c_48
                  refine lv_iconst (v := 1) hx hb dX4_readStep_161 (by decide) ?_
                  refine lv_goto (tgt := 166) hx hb dX4_readStep_162 (by decide) ?_
                  have hrv : (1 : Int32).toInt = 1 := rfl
                  exact q_retz E hr hlk hI ⟨by decide, by decide⟩ ⟨⟨by decide, by decide⟩, (hF.trans hout), fr_σ_47⟩ dX4_readStep_166
            · skip
              replace hF := q_ifn hF c_42
              replace c_42 := q_ifOne bhpσ_41 c_42
              refine lv_aload_n hx hb dX4_readStep_133 rfl (lv_at hl 1 rfl) ?_
              refine lv_iload hx hb dX4_readStep_134 (lv_at hl 0 rfl) ?_
              refine q_ci (q_runV (As := [.int r_6]) (rest := []) E (hml.trans hl.1.symm) hI (c_X4_readTest l X σ_39 a r_6 ha) kv_X4_93 ha ⟨rfl, by decide⟩ (show vwCl[3]? = some (RX4, TX4, 11) from rfl) rfl ⟨Nat.le_of_ble_eq_true rfl, Nat.le_of_ble_eq_true rfl⟩ ⟨Nat.le_refl _, Nat.le_refl _⟩ rfl (Nat.le_of_ble_eq_true rfl) dX4_readStep_136) hI (by decide) (fun r_49 σ_50 H locs hpσ_50 hkσ_50 hI => ?_)
              obtain ⟨ahpσ_50, bhpσ_50, chpσ_50⟩ := hpσ_50
              have fr_σ_50 := fr_σ_39.call chpσ_50 rfl rfl
              replace hF := q_biX hF bhpσ_50
              refine q_if_ne (A := r_49.toInt) E rfl (tgt := 144) dX4_readStep_139 (by decide) (fun c_51 => ?_) (fun c_51 => ?_)
              · skip
                replace hF := q_ifn hF c_51
                replace c_51 := q_ifOne ahpσ_50 c_51
                refine lv_aload_n hx hb dX4_readStep_144 rfl (lv_at hl 1 rfl) ?_
                refine lv_iload hx hb dX4_readStep_145 (lv_at hl 0 rfl) ?_
                refine lv_aload_n hx hb dX4_readStep_147 rfl (lv_at hl 2 rfl) ?_
                refine q_ci (q_runV (As := [.int r_6, .ref r1]) (rest := []) E (hml.trans hl.1.symm) hI (c_X4_readOperands l X σ_50 a r_6 r1 ha hr1) kv_X4_96 ha ⟨rfl, by decide⟩ (show vwCl[3]? = some (RX4, TX4, 11) from rfl) rfl ⟨Nat.le_of_ble_eq_true rfl, Nat.le_of_ble_eq_true rfl⟩ ⟨Nat.le_refl _, Nat.le_refl _⟩ rfl (Nat.le_of_ble_eq_true rfl) dX4_readStep_148) hI (by decide) (fun r_52 σ_53 H locs hpσ_53 hkσ_53 hI => ?_)
                obtain ⟨ahpσ_53, bhpσ_53, chpσ_53⟩ := hpσ_53
                have fr_σ_53 := fr_σ_50.call chpσ_53 rfl rfl
                replace hF := q_biX hF bhpσ_53
                refine q_if_eq (A := r_52.toInt) E rfl (tgt := 165) dX4_readStep_151 (by decide) (fun c_54 => ?_) (fun c_54 => ?_)
                · skip
                  replace hF := q_ifp hF c_54
                  refine lv_iconst (v := 0) hx hb dX4_readStep_165 (by decide) ?_
                  have hrv : (0 : Int32).toInt = 0 := rfl
                  exact q_retz E hr hlk hI ⟨by decide, by decide⟩ ⟨⟨by decide, by decide⟩, (hF.trans hout), fr_σ_53⟩ dX4_readStep_166
                · skip
                  replace hF := q_ifn hF c_54
                  replace c_54 := q_ifOne ahpσ_53 c_54
                  refine lv_aload_n hx hb dX4_readStep_154 rfl (lv_at hl 1 rfl) ?_
                  refine q_ci (q_runU (As := []) (rest := []) E (hml.trans hl.1.symm) hI (c_X3_passSemicolon l X σ_53 a (Or.inl ha)) ku_X4_80_4 ha ⟨rfl, by decide⟩ (show vwCl[3]? = some (RX4, TX4, 11) from rfl) rfl ⟨Nat.le_of_ble_eq_true rfl, Nat.le_of_ble_eq_true rfl⟩ ⟨Nat.le_refl _, Nat.le_refl _⟩ rfl (Nat.le_of_ble_eq_true rfl) dX4_readStep_155) hI (by decide) (fun r_55 σ_56 H locs hpσ_56 hkσ_56 hI => ?_)
                  obtain ⟨ahpσ_56, bhpσ_56, chpσ_56⟩ := hpσ_56
                  have fr_σ_56 := fr_σ_53.call chpσ_56 rfl rfl
                  replace hF := q_biX hF bhpσ_56
                  refine q_if_eq (A := r_55.toInt) E rfl (tgt := 165) dX4_readStep_158 (by decide) (fun c_57 => ?_) (fun c_57 => ?_)
                  · skip
                    replace hF := q_ifp hF c_57
                    refine lv_iconst (v := 0) hx hb dX4_readStep_165 (by decide) ?_
                    have hrv : (0 : Int32).toInt = 0 := rfl
                    exact q_retz E hr hlk hI ⟨by decide, by decide⟩ ⟨⟨by decide, by decide⟩, (hF.trans hout), fr_σ_56⟩ dX4_readStep_166
                  · skip
                    replace hF := q_ifn hF c_57
                    replace c_57 := q_ifOne ahpσ_56 c_57
                    refine lv_iconst (v := 1) hx hb dX4_readStep_161 (by decide) ?_
                    refine lv_goto (tgt := 166) hx hb dX4_readStep_162 (by decide) ?_
                    have hrv : (1 : Int32).toInt = 1 := rfl
                    exact q_retz E hr hlk hI ⟨by decide, by decide⟩ ⟨⟨by decide, by decide⟩, (hF.trans hout), fr_σ_56⟩ dX4_readStep_166
              · skip
                replace hF := q_ifp hF c_51
                refine lv_iconst (v := 0) hx hb dX4_readStep_142 (by decide) ?_
                have hrv : (0 : Int32).toInt = 0 := rfl
                exact q_retz E hr hlk hI ⟨by decide, by decide⟩ ⟨⟨by decide, by decide⟩, (hF.trans hout), fr_σ_50⟩ dX4_readStep_143
        refine q_if_eq (A := 1) E (by decide) (tgt := 72) dX4_readStep_54 (by decide) (fun c_58 => ?_) (fun c_58 => ?_)
        · skip
          replace hF := q_ifp hF c_58
          exact J_72_5 _ _ ls hF hI (lv_sub hl [1, 2, 3, 0] rfl)
        · skip
          replace hF := q_ifn hF c_58
          refine lv_aload_n hx hb dX4_readStep_57 rfl (lv_at hl 1 rfl) ?_
          refine gs_X4_27_4 E hI ha dX4_readStep_58 ?_
          refine lv_topi (fun f_59 ef_59 => ?_)
          replace hF := q_letX hF ef_59
          refine lv_iconst (v := 3) hx hb dX4_readStep_61 (by decide) ?_
          refine q_icmp_lt (A := f_59.toInt) (B := 3) E rfl (by decide) (tgt := 72) dX4_readStep_62 (by decide) (fun c_60 => ?_) (fun c_60 => ?_)
          · skip
            replace hF := q_ifp hF c_60
            exact J_72_5 _ _ ls hF hI (lv_sub hl [1, 2, 3, 0] rfl)
          · skip
            replace hF := q_ifn hF (Int.not_lt.mpr c_60)
            refine lv_aload_n hx hb dX4_readStep_65 rfl (lv_at hl 1 rfl) ?_
            refine lv_bipush (v := 7) hx hb dX4_readStep_66 (by decide) ?_
            have kc_61 : (7 : Int32).toInt = 7 := rfl
            refine q_ci (q_runU (As := [.int 7]) (rest := []) E (hml.trans hl.1.symm) hI (c_X3_fails l X σ a (7 : Int32) (Or.inl ha)) ku_X4_59_4 ha ⟨rfl, by decide⟩ (show vwCl[3]? = some (RX4, TX4, 11) from rfl) rfl ⟨Nat.le_of_ble_eq_true rfl, Nat.le_of_ble_eq_true rfl⟩ ⟨Nat.le_refl _, Nat.le_refl _⟩ rfl (Nat.le_of_ble_eq_true rfl) dX4_readStep_68) hI (by decide) (fun r_62 σ_63 H locs hpσ_63 hkσ_63 hI => ?_)
            obtain ⟨ahpσ_63, bhpσ_63, chpσ_63, dhpσ_63⟩ := hpσ_63
            have fr_σ_63 := fr_σ.call dhpσ_63 rfl rfl
            replace hF := q_biX hF chpσ_63
            exact q_retz E hr hlk hI ⟨by omega, by omega⟩ ⟨⟨by omega, by omega⟩, (hF.trans hout), fr_σ_63⟩ dX4_readStep_71
      have J_52_64 : ∀ (x_64 : Int32) (H : Heap) (locs : List Loc) (ls : Array Slot), (F_X4_readStep_J52_3 X σ a r_1 r1 x_64 = out) → q_I X 8 σ s.heap locs σ H → lv_has ls 5 [(0, .ref a), (1, .ref r1), (2, .int r_1)] → W p l e (q_rm 8 175) s m ([.ref a, .ref r1] : List Value).toArray below meth c H locs 0 0 (MQ below (q_Qi X 8 σ (fun (r : Int32) (σ' : ST) => (0 ≤ r.toInt ∧ r.toInt ≤ 1) ∧ (r, σ') = F_X4_readStep X σ a r1 ∧ q_ow [(4, 2), (4, 3), (4, 4), (4, 5), (4, 6), (4, 7), (4, 10), (8, 1), (8, 2), (9, 2), (9, 3), (9, 4), (9, 5), (9, 6), (9, 7), (20, 99)] [] X σ σ')) ([.ref a, .ref r1] : List Value).toArray s 0 0 (q_reg X)) (F0 m 52 ls [.int x_64]) := by
        clear hF
        intro x_64 H locs ls  hF hI hl
        unfold F_X4_readStep_J52_3 at hF
        refine lv_istore_n (lv' := [(3, .int x_64), (0, .ref a), (1, .ref r1), (2, .int r_1)]) hx hb dX4_readStep_52 rfl hl (by decide) rfl (fun ls hl => ?_)
        refine lv_iload_n hx hb dX4_readStep_53 rfl (lv_at hl 0 rfl) ?_
        have J_72_64 : ∀  (H : Heap) (locs : List Loc) (ls : Array Slot), (F_X4_readStep_J72_4 X σ a r_1 x_64 r1 = out) → q_I X 8 σ s.heap locs σ H → lv_has ls 5 [(0, .ref a), (1, .ref r1), (2, .int r_1), (3, .int x_64)] → W p l e (q_rm 8 175) s m ([.ref a, .ref r1] : List Value).toArray below meth c H locs 0 0 (MQ below (q_Qi X 8 σ (fun (r : Int32) (σ' : ST) => (0 ≤ r.toInt ∧ r.toInt ≤ 1) ∧ (r, σ') = F_X4_readStep X σ a r1 ∧ q_ow [(4, 2), (4, 3), (4, 4), (4, 5), (4, 6), (4, 7), (4, 10), (8, 1), (8, 2), (9, 2), (9, 3), (9, 4), (9, 5), (9, 6), (9, 7), (20, 99)] [] X σ σ')) ([.ref a, .ref r1] : List Value).toArray s 0 0 (q_reg X)) (F0 m 72 ls []) := by
          clear hF
          intro  H locs ls  hF hI hl
          unfold F_X4_readStep_J72_4 at hF
          refine lv_aload_n hx hb dX4_readStep_72 rfl (lv_at hl 0 rfl) ?_
          refine gs_X4_12_4 E hI ha dX4_readStep_73 ?_
          refine lv_iload_n hx hb dX4_readStep_76 rfl (lv_at hl 2 rfl) ?_
          refine q_ci (q_runV (As := [.int r_1]) (rest := []) E (hml.trans hl.1.symm) hI (c_X8_add l X σ (q_rf X a 8) r_1 (q_tk (k' := 8) hI ha rfl (by decide))) kv_X4_67 (q_tk (k' := 8) hI ha rfl (by decide)) ⟨rfl, by decide⟩ (show vwCl[7]? = some (RX8, TX8, 8) from rfl) rfl ⟨Nat.le_of_ble_eq_true rfl, Nat.le_of_ble_eq_true rfl⟩ ⟨Nat.le_refl _, Nat.le_refl _⟩ rfl (Nat.le_of_ble_eq_true rfl) dX4_readStep_77) hI (by decide) (fun r_65 σ_66 H locs hpσ_66 hkσ_66 hI => ?_)
          obtain ⟨ahpσ_66, bhpσ_66⟩ := hpσ_66
          have fr_σ_66 := fr_σ.call bhpσ_66 rfl rfl
          replace hF := q_biX hF ahpσ_66
          refine lv_istore (lv' := [(4, .int r_65), (0, .ref a), (1, .ref r1), (2, .int r_1), (3, .int x_64)]) hx hb dX4_readStep_80 hl (by decide) rfl (fun ls hl => ?_)
          refine lv_aload_n hx hb dX4_readStep_82 rfl (lv_at hl 1 rfl) ?_
          refine gs_X4_12_4 E hI ha dX4_readStep_83 ?_
          refine lv_dup hx hb dX4_readStep_86 rfl ?_
          refine gs_X4_87_8 E hI (q_tk (k' := 8) hI ha rfl (by decide)) dX4_readStep_87 ?_
          refine lv_topi (fun f_67 ef_67 => ?_)
          replace hF := q_letX hF ef_67
          refine lv_iconst (v := 1) hx hb dX4_readStep_90 (by decide) ?_
          refine lv_iadd hx hb dX4_readStep_91 ?_
          refine lv_topi (fun z_68 ez_68 => ?_)
          replace hF := q_letX hF ez_68
          refine ps_X4_87_8 E hI (q_tk (k' := 8) hI ha rfl (by decide)) (by decide) dX4_readStep_92 (fun H locs σ_69 hσ_69 hI => ?_)
          replace hF := q_letX hF hσ_69
          have fr_σ_69 := fr_σ_66.si hσ_69 (q_tk (k' := 8) hI ha rfl (by decide)) rfl
          refine lv_iload_n hx hb dX4_readStep_95 rfl (lv_at hl 4 rfl) ?_
          refine q_if_eq (A := x_64.toInt) E rfl (tgt := 122) dX4_readStep_96 (by decide) (fun c_70 => ?_) (fun c_70 => ?_)
          · skip
            replace hF := q_ifp hF c_70
            refine lv_aload_n hx hb dX4_readStep_122 rfl (lv_at hl 1 rfl) ?_
            refine q_cv (q_runU (As := []) (rest := []) E (hml.trans hl.1.symm) hI (c_X3_advance l X σ_69 a (Or.inl ha)) ku_X4_77_4 ha ⟨rfl, by decide⟩ (show vwCl[3]? = some (RX4, TX4, 11) from rfl) rfl ⟨Nat.le_of_ble_eq_true rfl, Nat.le_of_ble_eq_true rfl⟩ ⟨Nat.le_refl _, Nat.le_refl _⟩ rfl (Nat.le_of_ble_eq_true rfl) dX4_readStep_123) hI (by decide) (fun σ_72 H locs hpσ_72 hkσ_72 hI => ?_)
            obtain ⟨ahpσ_72, bhpσ_72⟩ := hpσ_72
            have fr_σ_72 := fr_σ_69.call bhpσ_72 rfl rfl
            replace hF := q_letX hF ahpσ_72
            refine lv_iload_n hx hb dX4_readStep_126 rfl (lv_at hl 3 rfl) ?_
            refine q_ci (q_runS (As := [.int r_1]) (rest := []) E (hml.trans hl.1.symm) hI (c_X8_isWhen l X σ_72 r_1) ks_X4_90 rfl ⟨Nat.le_of_ble_eq_true rfl, Nat.le_of_ble_eq_true rfl⟩ ⟨Nat.le_refl _, Nat.le_refl _⟩ rfl (Nat.le_of_ble_eq_true rfl) dX4_readStep_127) hI (by decide) (fun r_73 σ_74 H locs hpσ_74 hkσ_74 hI => ?_)
            obtain ⟨ahpσ_74, bhpσ_74, chpσ_74⟩ := hpσ_74
            rw [ahpσ_74] at hI
            replace hF := q_letX hF chpσ_74
            refine q_if_eq (A := r_73.toInt) E rfl (tgt := 144) dX4_readStep_130 (by decide) (fun c_75 => ?_) (fun c_75 => ?_)
            · skip
              replace hF := q_ifp hF c_75
              refine lv_aload_n hx hb dX4_readStep_144 rfl (lv_at hl 1 rfl) ?_
              refine lv_iload hx hb dX4_readStep_145 (lv_at hl 0 rfl) ?_
              refine lv_aload_n hx hb dX4_readStep_147 rfl (lv_at hl 2 rfl) ?_
              refine q_ci (q_runV (As := [.int r_65, .ref r1]) (rest := []) E (hml.trans hl.1.symm) hI (c_X4_readOperands l X σ_72 a r_65 r1 ha hr1) kv_X4_96 ha ⟨rfl, by decide⟩ (show vwCl[3]? = some (RX4, TX4, 11) from rfl) rfl ⟨Nat.le_of_ble_eq_true rfl, Nat.le_of_ble_eq_true rfl⟩ ⟨Nat.le_refl _, Nat.le_refl _⟩ rfl (Nat.le_of_ble_eq_true rfl) dX4_readStep_148) hI (by decide) (fun r_76 σ_77 H locs hpσ_77 hkσ_77 hI => ?_)
              obtain ⟨ahpσ_77, bhpσ_77, chpσ_77⟩ := hpσ_77
              have fr_σ_77 := fr_σ_72.call chpσ_77 rfl rfl
              replace hF := q_biX hF bhpσ_77
              refine q_if_eq (A := r_76.toInt) E rfl (tgt := 165) dX4_readStep_151 (by decide) (fun c_78 => ?_) (fun c_78 => ?_)
              · skip
                replace hF := q_ifp hF c_78
                refine lv_iconst (v := 0) hx hb dX4_readStep_165 (by decide) ?_
                have hrv : (0 : Int32).toInt = 0 := rfl
                exact q_retz E hr hlk hI ⟨by decide, by decide⟩ ⟨⟨by decide, by decide⟩, (hF.trans hout), fr_σ_77⟩ dX4_readStep_166
              · skip
                replace hF := q_ifn hF c_78
                replace c_78 := q_ifOne ahpσ_77 c_78
                refine lv_aload_n hx hb dX4_readStep_154 rfl (lv_at hl 1 rfl) ?_
                refine q_ci (q_runU (As := []) (rest := []) E (hml.trans hl.1.symm) hI (c_X3_passSemicolon l X σ_77 a (Or.inl ha)) ku_X4_80_4 ha ⟨rfl, by decide⟩ (show vwCl[3]? = some (RX4, TX4, 11) from rfl) rfl ⟨Nat.le_of_ble_eq_true rfl, Nat.le_of_ble_eq_true rfl⟩ ⟨Nat.le_refl _, Nat.le_refl _⟩ rfl (Nat.le_of_ble_eq_true rfl) dX4_readStep_155) hI (by decide) (fun r_79 σ_80 H locs hpσ_80 hkσ_80 hI => ?_)
                obtain ⟨ahpσ_80, bhpσ_80, chpσ_80⟩ := hpσ_80
                have fr_σ_80 := fr_σ_77.call chpσ_80 rfl rfl
                replace hF := q_biX hF bhpσ_80
                refine q_if_eq (A := r_79.toInt) E rfl (tgt := 165) dX4_readStep_158 (by decide) (fun c_81 => ?_) (fun c_81 => ?_)
                · skip
                  replace hF := q_ifp hF c_81
                  refine lv_iconst (v := 0) hx hb dX4_readStep_165 (by decide) ?_
                  have hrv : (0 : Int32).toInt = 0 := rfl
                  exact q_retz E hr hlk hI ⟨by decide, by decide⟩ ⟨⟨by decide, by decide⟩, (hF.trans hout), fr_σ_80⟩ dX4_readStep_166
                · skip
                  replace hF := q_ifn hF c_81
                  replace c_81 := q_ifOne ahpσ_80 c_81
                  refine lv_iconst (v := 1) hx hb dX4_readStep_161 (by decide) ?_
                  refine lv_goto (tgt := 166) hx hb dX4_readStep_162 (by decide) ?_
                  have hrv : (1 : Int32).toInt = 1 := rfl
                  exact q_retz E hr hlk hI ⟨by decide, by decide⟩ ⟨⟨by decide, by decide⟩, (hF.trans hout), fr_σ_80⟩ dX4_readStep_166
            · skip
              replace hF := q_ifn hF c_75
              replace c_75 := q_ifOne bhpσ_74 c_75
              refine lv_aload_n hx hb dX4_readStep_133 rfl (lv_at hl 1 rfl) ?_
              refine lv_iload hx hb dX4_readStep_134 (lv_at hl 0 rfl) ?_
              refine q_ci (q_runV (As := [.int r_65]) (rest := []) E (hml.trans hl.1.symm) hI (c_X4_readTest l X σ_72 a r_65 ha) kv_X4_93 ha ⟨rfl, by decide⟩ (show vwCl[3]? = some (RX4, TX4, 11) from rfl) rfl ⟨Nat.le_of_ble_eq_true rfl, Nat.le_of_ble_eq_true rfl⟩ ⟨Nat.le_refl _, Nat.le_refl _⟩ rfl (Nat.le_of_ble_eq_true rfl) dX4_readStep_136) hI (by decide) (fun r_82 σ_83 H locs hpσ_83 hkσ_83 hI => ?_)
              obtain ⟨ahpσ_83, bhpσ_83, chpσ_83⟩ := hpσ_83
              have fr_σ_83 := fr_σ_72.call chpσ_83 rfl rfl
              replace hF := q_biX hF bhpσ_83
              refine q_if_ne (A := r_82.toInt) E rfl (tgt := 144) dX4_readStep_139 (by decide) (fun c_84 => ?_) (fun c_84 => ?_)
              · skip
                replace hF := q_ifn hF c_84
                replace c_84 := q_ifOne ahpσ_83 c_84
                refine lv_aload_n hx hb dX4_readStep_144 rfl (lv_at hl 1 rfl) ?_
                refine lv_iload hx hb dX4_readStep_145 (lv_at hl 0 rfl) ?_
                refine lv_aload_n hx hb dX4_readStep_147 rfl (lv_at hl 2 rfl) ?_
                refine q_ci (q_runV (As := [.int r_65, .ref r1]) (rest := []) E (hml.trans hl.1.symm) hI (c_X4_readOperands l X σ_83 a r_65 r1 ha hr1) kv_X4_96 ha ⟨rfl, by decide⟩ (show vwCl[3]? = some (RX4, TX4, 11) from rfl) rfl ⟨Nat.le_of_ble_eq_true rfl, Nat.le_of_ble_eq_true rfl⟩ ⟨Nat.le_refl _, Nat.le_refl _⟩ rfl (Nat.le_of_ble_eq_true rfl) dX4_readStep_148) hI (by decide) (fun r_85 σ_86 H locs hpσ_86 hkσ_86 hI => ?_)
                obtain ⟨ahpσ_86, bhpσ_86, chpσ_86⟩ := hpσ_86
                have fr_σ_86 := fr_σ_83.call chpσ_86 rfl rfl
                replace hF := q_biX hF bhpσ_86
                refine q_if_eq (A := r_85.toInt) E rfl (tgt := 165) dX4_readStep_151 (by decide) (fun c_87 => ?_) (fun c_87 => ?_)
                · skip
                  replace hF := q_ifp hF c_87
                  refine lv_iconst (v := 0) hx hb dX4_readStep_165 (by decide) ?_
                  have hrv : (0 : Int32).toInt = 0 := rfl
                  exact q_retz E hr hlk hI ⟨by decide, by decide⟩ ⟨⟨by decide, by decide⟩, (hF.trans hout), fr_σ_86⟩ dX4_readStep_166
                · skip
                  replace hF := q_ifn hF c_87
                  replace c_87 := q_ifOne ahpσ_86 c_87
                  refine lv_aload_n hx hb dX4_readStep_154 rfl (lv_at hl 1 rfl) ?_
                  refine q_ci (q_runU (As := []) (rest := []) E (hml.trans hl.1.symm) hI (c_X3_passSemicolon l X σ_86 a (Or.inl ha)) ku_X4_80_4 ha ⟨rfl, by decide⟩ (show vwCl[3]? = some (RX4, TX4, 11) from rfl) rfl ⟨Nat.le_of_ble_eq_true rfl, Nat.le_of_ble_eq_true rfl⟩ ⟨Nat.le_refl _, Nat.le_refl _⟩ rfl (Nat.le_of_ble_eq_true rfl) dX4_readStep_155) hI (by decide) (fun r_88 σ_89 H locs hpσ_89 hkσ_89 hI => ?_)
                  obtain ⟨ahpσ_89, bhpσ_89, chpσ_89⟩ := hpσ_89
                  have fr_σ_89 := fr_σ_86.call chpσ_89 rfl rfl
                  replace hF := q_biX hF bhpσ_89
                  refine q_if_eq (A := r_88.toInt) E rfl (tgt := 165) dX4_readStep_158 (by decide) (fun c_90 => ?_) (fun c_90 => ?_)
                  · skip
                    replace hF := q_ifp hF c_90
                    refine lv_iconst (v := 0) hx hb dX4_readStep_165 (by decide) ?_
                    have hrv : (0 : Int32).toInt = 0 := rfl
                    exact q_retz E hr hlk hI ⟨by decide, by decide⟩ ⟨⟨by decide, by decide⟩, (hF.trans hout), fr_σ_89⟩ dX4_readStep_166
                  · skip
                    replace hF := q_ifn hF c_90
                    replace c_90 := q_ifOne ahpσ_89 c_90
                    refine lv_iconst (v := 1) hx hb dX4_readStep_161 (by decide) ?_
                    refine lv_goto (tgt := 166) hx hb dX4_readStep_162 (by decide) ?_
                    have hrv : (1 : Int32).toInt = 1 := rfl
                    exact q_retz E hr hlk hI ⟨by decide, by decide⟩ ⟨⟨by decide, by decide⟩, (hF.trans hout), fr_σ_89⟩ dX4_readStep_166
              · skip
                replace hF := q_ifp hF c_84
                refine lv_iconst (v := 0) hx hb dX4_readStep_142 (by decide) ?_
                have hrv : (0 : Int32).toInt = 0 := rfl
                exact q_retz E hr hlk hI ⟨by decide, by decide⟩ ⟨⟨by decide, by decide⟩, (hF.trans hout), fr_σ_83⟩ dX4_readStep_143
          · skip
            replace hF := q_ifn hF c_70
            refine lv_aload_n hx hb dX4_readStep_99 rfl (lv_at hl 1 rfl) ?_
            refine gs_X4_23_4 E hI ha dX4_readStep_100 ?_
            refine lv_aload_n hx hb dX4_readStep_103 rfl (lv_at hl 1 rfl) ?_
            refine gs_X4_27_4 E hI ha dX4_readStep_104 ?_
            refine lv_topi (fun f_91 ef_91 => ?_)
            replace hF := q_letX hF ef_91
            refine lv_iload hx hb dX4_readStep_107 (lv_at hl 0 rfl) ?_
            refine q_cv (q_runV (As := [.int f_91, .int r_65]) (rest := []) E (hml.trans hl.1.symm) hI (c_X5_set l X σ_69 (q_rf X a 9) f_91 r_65 (q_tk (k' := 5) hI ha rfl (by decide))) kv_X4_73 (q_tk (k' := 5) hI ha rfl (by decide)) ⟨rfl, by decide⟩ (show vwCl[4]? = some (RX5, TX5, 1) from rfl) rfl ⟨Nat.le_of_ble_eq_true rfl, Nat.le_of_ble_eq_true rfl⟩ ⟨Nat.le_refl _, Nat.le_refl _⟩ rfl (Nat.le_of_ble_eq_true rfl) dX4_readStep_109) hI (by decide) (fun σ_93 H locs hpσ_93 hkσ_93 hI => ?_)
            obtain ⟨ahpσ_93, bhpσ_93⟩ := hpσ_93
            have fr_σ_93 := fr_σ_69.call bhpσ_93 rfl rfl
            replace hF := q_letX hF ahpσ_93
            refine lv_aload_n hx hb dX4_readStep_112 rfl (lv_at hl 1 rfl) ?_
            refine lv_dup hx hb dX4_readStep_113 rfl ?_
            refine gs_X4_27_4 E hI ha dX4_readStep_114 ?_
            refine lv_topi (fun f_94 ef_94 => ?_)
            replace hF := q_letX hF ef_94
            refine lv_iconst (v := 1) hx hb dX4_readStep_117 (by decide) ?_
            refine lv_iadd hx hb dX4_readStep_118 ?_
            refine lv_topi (fun z_95 ez_95 => ?_)
            replace hF := q_letX hF ez_95
            refine ps_X4_27_4 E hI ha (by decide) dX4_readStep_119 (fun H locs σ_96 hσ_96 hI => ?_)
            replace hF := q_letX hF hσ_96
            have fr_σ_96 := fr_σ_93.si hσ_96 ha rfl
            refine lv_aload_n hx hb dX4_readStep_122 rfl (lv_at hl 1 rfl) ?_
            refine q_cv (q_runU (As := []) (rest := []) E (hml.trans hl.1.symm) hI (c_X3_advance l X σ_96 a (Or.inl ha)) ku_X4_77_4 ha ⟨rfl, by decide⟩ (show vwCl[3]? = some (RX4, TX4, 11) from rfl) rfl ⟨Nat.le_of_ble_eq_true rfl, Nat.le_of_ble_eq_true rfl⟩ ⟨Nat.le_refl _, Nat.le_refl _⟩ rfl (Nat.le_of_ble_eq_true rfl) dX4_readStep_123) hI (by decide) (fun σ_98 H locs hpσ_98 hkσ_98 hI => ?_)
            obtain ⟨ahpσ_98, bhpσ_98⟩ := hpσ_98
            have fr_σ_98 := fr_σ_96.call bhpσ_98 rfl rfl
            replace hF := q_letX hF ahpσ_98
            refine lv_iload_n hx hb dX4_readStep_126 rfl (lv_at hl 3 rfl) ?_
            refine q_ci (q_runS (As := [.int r_1]) (rest := []) E (hml.trans hl.1.symm) hI (c_X8_isWhen l X σ_98 r_1) ks_X4_90 rfl ⟨Nat.le_of_ble_eq_true rfl, Nat.le_of_ble_eq_true rfl⟩ ⟨Nat.le_refl _, Nat.le_refl _⟩ rfl (Nat.le_of_ble_eq_true rfl) dX4_readStep_127) hI (by decide) (fun r_99 σ_100 H locs hpσ_100 hkσ_100 hI => ?_)
            obtain ⟨ahpσ_100, bhpσ_100, chpσ_100⟩ := hpσ_100
            rw [ahpσ_100] at hI
            replace hF := q_letX hF chpσ_100
            refine q_if_eq (A := r_99.toInt) E rfl (tgt := 144) dX4_readStep_130 (by decide) (fun c_101 => ?_) (fun c_101 => ?_)
            · skip
              replace hF := q_ifp hF c_101
              refine lv_aload_n hx hb dX4_readStep_144 rfl (lv_at hl 1 rfl) ?_
              refine lv_iload hx hb dX4_readStep_145 (lv_at hl 0 rfl) ?_
              refine lv_aload_n hx hb dX4_readStep_147 rfl (lv_at hl 2 rfl) ?_
              refine q_ci (q_runV (As := [.int r_65, .ref r1]) (rest := []) E (hml.trans hl.1.symm) hI (c_X4_readOperands l X σ_98 a r_65 r1 ha hr1) kv_X4_96 ha ⟨rfl, by decide⟩ (show vwCl[3]? = some (RX4, TX4, 11) from rfl) rfl ⟨Nat.le_of_ble_eq_true rfl, Nat.le_of_ble_eq_true rfl⟩ ⟨Nat.le_refl _, Nat.le_refl _⟩ rfl (Nat.le_of_ble_eq_true rfl) dX4_readStep_148) hI (by decide) (fun r_102 σ_103 H locs hpσ_103 hkσ_103 hI => ?_)
              obtain ⟨ahpσ_103, bhpσ_103, chpσ_103⟩ := hpσ_103
              have fr_σ_103 := fr_σ_98.call chpσ_103 rfl rfl
              replace hF := q_biX hF bhpσ_103
              refine q_if_eq (A := r_102.toInt) E rfl (tgt := 165) dX4_readStep_151 (by decide) (fun c_104 => ?_) (fun c_104 => ?_)
              · skip
                replace hF := q_ifp hF c_104
                refine lv_iconst (v := 0) hx hb dX4_readStep_165 (by decide) ?_
                have hrv : (0 : Int32).toInt = 0 := rfl
                exact q_retz E hr hlk hI ⟨by decide, by decide⟩ ⟨⟨by decide, by decide⟩, (hF.trans hout), fr_σ_103⟩ dX4_readStep_166
              · skip
                replace hF := q_ifn hF c_104
                replace c_104 := q_ifOne ahpσ_103 c_104
                refine lv_aload_n hx hb dX4_readStep_154 rfl (lv_at hl 1 rfl) ?_
                refine q_ci (q_runU (As := []) (rest := []) E (hml.trans hl.1.symm) hI (c_X3_passSemicolon l X σ_103 a (Or.inl ha)) ku_X4_80_4 ha ⟨rfl, by decide⟩ (show vwCl[3]? = some (RX4, TX4, 11) from rfl) rfl ⟨Nat.le_of_ble_eq_true rfl, Nat.le_of_ble_eq_true rfl⟩ ⟨Nat.le_refl _, Nat.le_refl _⟩ rfl (Nat.le_of_ble_eq_true rfl) dX4_readStep_155) hI (by decide) (fun r_105 σ_106 H locs hpσ_106 hkσ_106 hI => ?_)
                obtain ⟨ahpσ_106, bhpσ_106, chpσ_106⟩ := hpσ_106
                have fr_σ_106 := fr_σ_103.call chpσ_106 rfl rfl
                replace hF := q_biX hF bhpσ_106
                refine q_if_eq (A := r_105.toInt) E rfl (tgt := 165) dX4_readStep_158 (by decide) (fun c_107 => ?_) (fun c_107 => ?_)
                · skip
                  replace hF := q_ifp hF c_107
                  refine lv_iconst (v := 0) hx hb dX4_readStep_165 (by decide) ?_
                  have hrv : (0 : Int32).toInt = 0 := rfl
                  exact q_retz E hr hlk hI ⟨by decide, by decide⟩ ⟨⟨by decide, by decide⟩, (hF.trans hout), fr_σ_106⟩ dX4_readStep_166
                · skip
                  replace hF := q_ifn hF c_107
                  replace c_107 := q_ifOne ahpσ_106 c_107
                  refine lv_iconst (v := 1) hx hb dX4_readStep_161 (by decide) ?_
                  refine lv_goto (tgt := 166) hx hb dX4_readStep_162 (by decide) ?_
                  have hrv : (1 : Int32).toInt = 1 := rfl
                  exact q_retz E hr hlk hI ⟨by decide, by decide⟩ ⟨⟨by decide, by decide⟩, (hF.trans hout), fr_σ_106⟩ dX4_readStep_166
            · skip
              replace hF := q_ifn hF c_101
              replace c_101 := q_ifOne bhpσ_100 c_101
              refine lv_aload_n hx hb dX4_readStep_133 rfl (lv_at hl 1 rfl) ?_
              refine lv_iload hx hb dX4_readStep_134 (lv_at hl 0 rfl) ?_
              refine q_ci (q_runV (As := [.int r_65]) (rest := []) E (hml.trans hl.1.symm) hI (c_X4_readTest l X σ_98 a r_65 ha) kv_X4_93 ha ⟨rfl, by decide⟩ (show vwCl[3]? = some (RX4, TX4, 11) from rfl) rfl ⟨Nat.le_of_ble_eq_true rfl, Nat.le_of_ble_eq_true rfl⟩ ⟨Nat.le_refl _, Nat.le_refl _⟩ rfl (Nat.le_of_ble_eq_true rfl) dX4_readStep_136) hI (by decide) (fun r_108 σ_109 H locs hpσ_109 hkσ_109 hI => ?_)
              obtain ⟨ahpσ_109, bhpσ_109, chpσ_109⟩ := hpσ_109
              have fr_σ_109 := fr_σ_98.call chpσ_109 rfl rfl
              replace hF := q_biX hF bhpσ_109
              refine q_if_ne (A := r_108.toInt) E rfl (tgt := 144) dX4_readStep_139 (by decide) (fun c_110 => ?_) (fun c_110 => ?_)
              · skip
                replace hF := q_ifn hF c_110
                replace c_110 := q_ifOne ahpσ_109 c_110
                refine lv_aload_n hx hb dX4_readStep_144 rfl (lv_at hl 1 rfl) ?_
                refine lv_iload hx hb dX4_readStep_145 (lv_at hl 0 rfl) ?_
                refine lv_aload_n hx hb dX4_readStep_147 rfl (lv_at hl 2 rfl) ?_
                refine q_ci (q_runV (As := [.int r_65, .ref r1]) (rest := []) E (hml.trans hl.1.symm) hI (c_X4_readOperands l X σ_109 a r_65 r1 ha hr1) kv_X4_96 ha ⟨rfl, by decide⟩ (show vwCl[3]? = some (RX4, TX4, 11) from rfl) rfl ⟨Nat.le_of_ble_eq_true rfl, Nat.le_of_ble_eq_true rfl⟩ ⟨Nat.le_refl _, Nat.le_refl _⟩ rfl (Nat.le_of_ble_eq_true rfl) dX4_readStep_148) hI (by decide) (fun r_111 σ_112 H locs hpσ_112 hkσ_112 hI => ?_)
                obtain ⟨ahpσ_112, bhpσ_112, chpσ_112⟩ := hpσ_112
                have fr_σ_112 := fr_σ_109.call chpσ_112 rfl rfl
                replace hF := q_biX hF bhpσ_112
                refine q_if_eq (A := r_111.toInt) E rfl (tgt := 165) dX4_readStep_151 (by decide) (fun c_113 => ?_) (fun c_113 => ?_)
                · skip
                  replace hF := q_ifp hF c_113
                  refine lv_iconst (v := 0) hx hb dX4_readStep_165 (by decide) ?_
                  have hrv : (0 : Int32).toInt = 0 := rfl
                  exact q_retz E hr hlk hI ⟨by decide, by decide⟩ ⟨⟨by decide, by decide⟩, (hF.trans hout), fr_σ_112⟩ dX4_readStep_166
                · skip
                  replace hF := q_ifn hF c_113
                  replace c_113 := q_ifOne ahpσ_112 c_113
                  refine lv_aload_n hx hb dX4_readStep_154 rfl (lv_at hl 1 rfl) ?_
                  refine q_ci (q_runU (As := []) (rest := []) E (hml.trans hl.1.symm) hI (c_X3_passSemicolon l X σ_112 a (Or.inl ha)) ku_X4_80_4 ha ⟨rfl, by decide⟩ (show vwCl[3]? = some (RX4, TX4, 11) from rfl) rfl ⟨Nat.le_of_ble_eq_true rfl, Nat.le_of_ble_eq_true rfl⟩ ⟨Nat.le_refl _, Nat.le_refl _⟩ rfl (Nat.le_of_ble_eq_true rfl) dX4_readStep_155) hI (by decide) (fun r_114 σ_115 H locs hpσ_115 hkσ_115 hI => ?_)
                  obtain ⟨ahpσ_115, bhpσ_115, chpσ_115⟩ := hpσ_115
                  have fr_σ_115 := fr_σ_112.call chpσ_115 rfl rfl
                  replace hF := q_biX hF bhpσ_115
                  refine q_if_eq (A := r_114.toInt) E rfl (tgt := 165) dX4_readStep_158 (by decide) (fun c_116 => ?_) (fun c_116 => ?_)
                  · skip
                    replace hF := q_ifp hF c_116
                    refine lv_iconst (v := 0) hx hb dX4_readStep_165 (by decide) ?_
                    have hrv : (0 : Int32).toInt = 0 := rfl
                    exact q_retz E hr hlk hI ⟨by decide, by decide⟩ ⟨⟨by decide, by decide⟩, (hF.trans hout), fr_σ_115⟩ dX4_readStep_166
                  · skip
                    replace hF := q_ifn hF c_116
                    replace c_116 := q_ifOne ahpσ_115 c_116
                    refine lv_iconst (v := 1) hx hb dX4_readStep_161 (by decide) ?_
                    refine lv_goto (tgt := 166) hx hb dX4_readStep_162 (by decide) ?_
                    have hrv : (1 : Int32).toInt = 1 := rfl
                    exact q_retz E hr hlk hI ⟨by decide, by decide⟩ ⟨⟨by decide, by decide⟩, (hF.trans hout), fr_σ_115⟩ dX4_readStep_166
              · skip
                replace hF := q_ifp hF c_110
                refine lv_iconst (v := 0) hx hb dX4_readStep_142 (by decide) ?_
                have hrv : (0 : Int32).toInt = 0 := rfl
                exact q_retz E hr hlk hI ⟨by decide, by decide⟩ ⟨⟨by decide, by decide⟩, (hF.trans hout), fr_σ_109⟩ dX4_readStep_143
        refine q_if_eq (A := x_64.toInt) E rfl (tgt := 72) dX4_readStep_54 (by decide) (fun c_117 => ?_) (fun c_117 => ?_)
        · skip
          replace hF := q_ifp hF c_117
          exact J_72_64 _ _ ls hF hI (lv_sub hl [1, 2, 3, 0] rfl)
        · skip
          replace hF := q_ifn hF c_117
          refine lv_aload_n hx hb dX4_readStep_57 rfl (lv_at hl 1 rfl) ?_
          refine gs_X4_27_4 E hI ha dX4_readStep_58 ?_
          refine lv_topi (fun f_118 ef_118 => ?_)
          replace hF := q_letX hF ef_118
          refine lv_iconst (v := 3) hx hb dX4_readStep_61 (by decide) ?_
          refine q_icmp_lt (A := f_118.toInt) (B := 3) E rfl (by decide) (tgt := 72) dX4_readStep_62 (by decide) (fun c_119 => ?_) (fun c_119 => ?_)
          · skip
            replace hF := q_ifp hF c_119
            exact J_72_64 _ _ ls hF hI (lv_sub hl [1, 2, 3, 0] rfl)
          · skip
            replace hF := q_ifn hF (Int.not_lt.mpr c_119)
            refine lv_aload_n hx hb dX4_readStep_65 rfl (lv_at hl 1 rfl) ?_
            refine lv_bipush (v := 7) hx hb dX4_readStep_66 (by decide) ?_
            have kc_120 : (7 : Int32).toInt = 7 := rfl
            refine q_ci (q_runU (As := [.int 7]) (rest := []) E (hml.trans hl.1.symm) hI (c_X3_fails l X σ a (7 : Int32) (Or.inl ha)) ku_X4_59_4 ha ⟨rfl, by decide⟩ (show vwCl[3]? = some (RX4, TX4, 11) from rfl) rfl ⟨Nat.le_of_ble_eq_true rfl, Nat.le_of_ble_eq_true rfl⟩ ⟨Nat.le_refl _, Nat.le_refl _⟩ rfl (Nat.le_of_ble_eq_true rfl) dX4_readStep_68) hI (by decide) (fun r_121 σ_122 H locs hpσ_122 hkσ_122 hI => ?_)
            obtain ⟨ahpσ_122, bhpσ_122, chpσ_122, dhpσ_122⟩ := hpσ_122
            have fr_σ_122 := fr_σ.call dhpσ_122 rfl rfl
            replace hF := q_biX hF chpσ_122
            exact q_retz E hr hlk hI ⟨by omega, by omega⟩ ⟨⟨by omega, by omega⟩, (hF.trans hout), fr_σ_122⟩ dX4_readStep_71
      refine q_icmp_eq (A := r_1.toInt) (B := 4) E rfl (by decide) (tgt := 47) dX4_readStep_37 (by decide) (fun c_123 => ?_) (fun c_123 => ?_)
      · skip
        replace hF := q_ifp hF c_123
        exact J_47_5 _ _ ls hF hI (lv_sub hl [1, 2, 0] rfl)
      · skip
        replace hF := q_ifn hF c_123
        refine lv_iload_n hx hb dX4_readStep_40 rfl (lv_at hl 0 rfl) ?_
        refine q_ci (q_runS (As := [.int r_1]) (rest := []) E (hml.trans hl.1.symm) hI (c_X8_isWhen l X σ r_1) ks_X4_90 rfl ⟨Nat.le_of_ble_eq_true rfl, Nat.le_of_ble_eq_true rfl⟩ ⟨Nat.le_refl _, Nat.le_refl _⟩ rfl (Nat.le_of_ble_eq_true rfl) dX4_readStep_41) hI (by decide) (fun r_124 σ_125 H locs hpσ_125 hkσ_125 hI => ?_)
        obtain ⟨ahpσ_125, bhpσ_125, chpσ_125⟩ := hpσ_125
        rw [ahpσ_125] at hI
        replace hF := q_letX hF chpσ_125
        refine q_if_eq (A := r_124.toInt) E rfl (tgt := 51) dX4_readStep_44 (by decide) (fun c_126 => ?_) (fun c_126 => ?_)
        · skip
          replace hF := q_ifp hF c_126
          refine lv_iconst (v := 0) hx hb dX4_readStep_51 (by decide) ?_
          exact J_52_64 0 _ _ ls hF hI (lv_sub hl [1, 2, 0] rfl)
        · skip
          replace hF := q_ifn hF c_126
          replace c_126 := q_ifOne bhpσ_125 c_126
          exact J_47_5 _ _ ls hF hI (lv_sub hl [1, 2, 0] rfl)
    · skip
      replace hF := q_ifn hF (Int.not_lt.mpr c_5)
      refine lv_aload_n hx hb dX4_readStep_28 rfl (lv_at hl 1 rfl) ?_
      refine lv_bipush (v := 6) hx hb dX4_readStep_29 (by decide) ?_
      have kc_127 : (6 : Int32).toInt = 6 := rfl
      refine q_ci (q_runU (As := [.int 6]) (rest := []) E (hml.trans hl.1.symm) hI (c_X3_fails l X σ a (6 : Int32) (Or.inl ha)) ku_X4_59_4 ha ⟨rfl, by decide⟩ (show vwCl[3]? = some (RX4, TX4, 11) from rfl) rfl ⟨Nat.le_of_ble_eq_true rfl, Nat.le_of_ble_eq_true rfl⟩ ⟨Nat.le_refl _, Nat.le_refl _⟩ rfl (Nat.le_of_ble_eq_true rfl) dX4_readStep_31) hI (by decide) (fun r_128 σ_129 H locs hpσ_129 hkσ_129 hI => ?_)
      obtain ⟨ahpσ_129, bhpσ_129, chpσ_129, dhpσ_129⟩ := hpσ_129
      have fr_σ_129 := fr_σ.call dhpσ_129 rfl rfl
      replace hF := q_biX hF chpσ_129
      exact q_retz E hr hlk hI ⟨by omega, by omega⟩ ⟨⟨by omega, by omega⟩, (hF.trans hout), fr_σ_129⟩ dX4_readStep_34
  · skip
    replace hF := q_ifp hF c_3
    refine lv_aload_n hx hb dX4_readStep_10 rfl (lv_at hl 1 rfl) ?_
    refine lv_iconst (v := 2) hx hb dX4_readStep_11 (by decide) ?_
    have kc_130 : (2 : Int32).toInt = 2 := rfl
    refine q_ci (q_runU (As := [.int 2]) (rest := []) E (hml.trans hl.1.symm) hI (c_X3_fails l X σ a (2 : Int32) (Or.inl ha)) ku_X4_59_4 ha ⟨rfl, by decide⟩ (show vwCl[3]? = some (RX4, TX4, 11) from rfl) rfl ⟨Nat.le_of_ble_eq_true rfl, Nat.le_of_ble_eq_true rfl⟩ ⟨Nat.le_refl _, Nat.le_refl _⟩ rfl (Nat.le_of_ble_eq_true rfl) dX4_readStep_12) hI (by decide) (fun r_131 σ_132 H locs hpσ_132 hkσ_132 hI => ?_)
    obtain ⟨ahpσ_132, bhpσ_132, chpσ_132, dhpσ_132⟩ := hpσ_132
    have fr_σ_132 := fr_σ.call dhpσ_132 rfl rfl
    replace hF := q_biX hF chpσ_132
    exact q_retz E hr hlk hI ⟨by omega, by omega⟩ ⟨⟨by omega, by omega⟩, (hF.trans hout), fr_σ_132⟩ dX4_readStep_15

set_option maxRecDepth 100000 in
set_option maxHeartbeats 4000000 in
theorem c_X4_takes (l : Launch) (X : XW) (σ : ST) (a : Nat) (r1 : Nat) (v2 : Int32) (r3 : Nat) (ha : q_kd X a = 4) (hr1 : q_kd X r1 = 22) (hr3 : q_kd X r3 = 6) : Met l yX4_takes (q_ws yX4_takes cX4_takes 6 (some .boolean)) (q_rm 9 199) (q_P X σ [.ref a, .ref r1, .int v2, .ref r3]) (q_Qi X 8 σ (fun (r : Int32) (σ' : ST) => (0 ≤ r.toInt ∧ r.toInt ≤ 1) ∧ (r, σ') = F_X4_takes X σ a r1 v2 r3 ∧ q_ow [(4, 1), (4, 2), (4, 3), (4, 4), (4, 5), (4, 6), (4, 7), (4, 10), (8, 0), (8, 1), (8, 2), (9, 1), (9, 2), (9, 3), (9, 4), (9, 5), (9, 6), (9, 7), (20, 99)] [] X σ σ')) 0 0 (q_reg X) := by
  refine q_met 8 (by first | exact rfl | decide +kernel) rfl (Nat.le_of_ble_eq_true rfl) (fun p e s m below meth c E hml hr hlk hI ls hl => ?_)
  have hx := E.1
  have hb := E.2.1
  have hl : lv_has ls 6 [(0, .ref a), (1, .ref r1), (2, .int v2), (3, .ref r3)] := hl
  have fr_σ : q_ow [(4, 1), (4, 2), (4, 3), (4, 4), (4, 5), (4, 6), (4, 7), (4, 10), (8, 0), (8, 1), (8, 2), (9, 1), (9, 2), (9, 3), (9, 4), (9, 5), (9, 6), (9, 7), (20, 99)] [] X σ σ := q_ow.rf
  obtain ⟨out, hout⟩ : ∃ o, o = F_X4_takes X σ a r1 v2 r3 := ⟨_, rfl⟩
  have hF := hout.symm
  unfold F_X4_takes at hF
  refine lv_aload_n hx hb dX4_takes_0 rfl (lv_at hl 0 rfl) ?_
  refine gs_X4_12_4 E hI ha dX4_takes_1 ?_
  refine q_cv (q_runV (As := []) (rest := []) E (hml.trans hl.1.symm) hI (c_X8_clear l X σ (q_rf X a 8) (q_tk (k' := 8) hI ha rfl (by decide))) kv_X4_31 (q_tk (k' := 8) hI ha rfl (by decide)) ⟨rfl, by decide⟩ (show vwCl[7]? = some (RX8, TX8, 8) from rfl) rfl ⟨Nat.le_of_ble_eq_true rfl, Nat.le_of_ble_eq_true rfl⟩ ⟨Nat.le_refl _, Nat.le_refl _⟩ rfl (Nat.le_of_ble_eq_true rfl) dX4_takes_4) hI (by decide) (fun σ_2 H locs hpσ_2 hkσ_2 hI => ?_)
  obtain ⟨ahpσ_2, bhpσ_2⟩ := hpσ_2
  have fr_σ_2 := fr_σ.call bhpσ_2 rfl rfl
  replace hF := q_letX hF ahpσ_2
  refine lv_aload_n hx hb dX4_takes_7 rfl (lv_at hl 0 rfl) ?_
  refine lv_iconst (v := 0) hx hb dX4_takes_8 (by decide) ?_
  refine ps_X4_27_4 E hI ha (by decide) dX4_takes_9 (fun H locs σ_3 hσ_3 hI => ?_)
  replace hF := q_letX hF hσ_3
  have fr_σ_3 := fr_σ_2.si hσ_3 ha rfl
  refine lv_aload_n hx hb dX4_takes_12 rfl (lv_at hl 0 rfl) ?_
  refine lv_aload_n hx hb dX4_takes_13 rfl (lv_at hl 1 rfl) ?_
  refine lv_iload_n hx hb dX4_takes_14 rfl (lv_at hl 2 rfl) ?_
  refine q_cv (q_runU (As := [.ref r1, .int v2]) (rest := []) E (hml.trans hl.1.symm) hI (c_X3_start l X σ_3 a r1 v2 (Or.inl ha) hr1) ku_X4_34_4 ha ⟨rfl, by decide⟩ (show vwCl[3]? = some (RX4, TX4, 11) from rfl) rfl ⟨Nat.le_of_ble_eq_true rfl, Nat.le_of_ble_eq_true rfl⟩ ⟨Nat.le_refl _, Nat.le_refl _⟩ rfl (Nat.le_of_ble_eq_true rfl) dX4_takes_15) hI (by decide) (fun σ_5 H locs hpσ_5 hkσ_5 hI => ?_)
  obtain ⟨ahpσ_5, bhpσ_5⟩ := hpσ_5
  have fr_σ_5 := fr_σ_3.call bhpσ_5 rfl rfl
  replace hF := q_letX hF ahpσ_5
  refine lv_iconst (v := 0) hx hb dX4_takes_18 (by decide) ?_
  refine lv_istore (lv' := [(4, .int 0), (0, .ref a), (1, .ref r1), (2, .int v2), (3, .ref r3)]) hx hb dX4_takes_19 hl (by decide) rfl (fun ls hl => ?_)
  have L_21_8 : ∀ (k_8 : Nat) (x_6 : Int32) (σ_7 : ST) (H : Heap) (locs : List Loc) (ls : Array Slot), (2147483647 - x_6.toInt).toNat < k_8 → (0 ≤ x_6.toInt) → (q_ow [(4, 1), (4, 2), (4, 3), (4, 4), (4, 5), (4, 6), (4, 7), (4, 10), (8, 0), (8, 1), (8, 2), (9, 1), (9, 2), (9, 3), (9, 4), (9, 5), (9, 6), (9, 7), (20, 99)] [] X σ σ_7) → (F_X4_takes_L21_1 X a r3 k_8 x_6 σ_7 = out) → q_I X 8 σ s.heap locs σ_7 H → lv_has ls 6 [(0, .ref a), (1, .ref r1), (2, .int v2), (3, .ref r3), (4, .int x_6)] → W p l e (q_rm 9 199) s m ([.ref a, .ref r1, .int v2, .ref r3] : List Value).toArray below meth c H locs 0 0 (MQ below (q_Qi X 8 σ (fun (r : Int32) (σ' : ST) => (0 ≤ r.toInt ∧ r.toInt ≤ 1) ∧ (r, σ') = F_X4_takes X σ a r1 v2 r3 ∧ q_ow [(4, 1), (4, 2), (4, 3), (4, 4), (4, 5), (4, 6), (4, 7), (4, 10), (8, 0), (8, 1), (8, 2), (9, 1), (9, 2), (9, 3), (9, 4), (9, 5), (9, 6), (9, 7), (20, 99)] [] X σ σ')) ([.ref a, .ref r1, .int v2, .ref r3] : List Value).toArray s 0 0 (q_reg X)) (F0 m 21 ls []) := by
    clear hF
    intro k_8
    induction k_8 with
    | zero =>
      intro x_6 σ_7 H locs ls hms
      exact absurd hms (Nat.not_lt_zero _)
    | succ k_8 ih21 =>
      intro x_6 σ_7 H locs ls hm21 hge21 fr_σ_7 hF hI hl
      replace hF := (F_X4_takes_L21_1_s).symm.trans hF
      unfold F_X4_takes_B21_1 at hF
      refine lv_iload hx hb dX4_takes_21 (lv_at hl 4 rfl) ?_
      refine lv_sipush (v := 300) hx hb dX4_takes_23 (by decide) ?_
      have gc_9_x_6 := q_rng x_6
      refine q_icmp_ge (A := x_6.toInt) (B := 300) E rfl (by decide) (tgt := 72) dX4_takes_26 (by decide) (fun c_9 => ?_) (fun c_9 => ?_)
      · skip
        replace hF := q_ifn hF (Int.not_lt.mpr c_9)
        unfold F_X4_takes_E72_2 at hF
        refine lv_aload_n hx hb dX4_takes_72 rfl (lv_at hl 0 rfl) ?_
        refine gs_X4_12_4 E hI ha dX4_takes_73 ?_
        refine lv_iconst (v := 1) hx hb dX4_takes_76 (by decide) ?_
        refine ps_X4_55_8 E hI (q_tk (k' := 8) hI ha rfl (by decide)) (by decide) (by decide) (by decide) dX4_takes_77 (fun H locs σ_10 hσ_10 hI => ?_)
        replace hF := q_letX hF hσ_10
        have fr_σ_10 := fr_σ_7.si hσ_10 (q_tk (k' := 8) hI ha rfl (by decide)) rfl
        refine lv_aload_n hx hb dX4_takes_80 rfl (lv_at hl 0 rfl) ?_
        refine gs_X4_27_4 E hI ha dX4_takes_81 ?_
        refine lv_topi (fun f_11 ef_11 => ?_)
        replace hF := q_letX hF ef_11
        refine q_if_eq (A := f_11.toInt) E rfl (tgt := 95) dX4_takes_84 (by decide) (fun c_12 => ?_) (fun c_12 => ?_)
        · skip
          replace hF := q_ifp hF c_12
          refine lv_iconst (v := 1) hx hb dX4_takes_95 (by decide) ?_
          refine lv_goto (tgt := 100) hx hb dX4_takes_96 (by decide) ?_
          have hrv : (1 : Int32).toInt = 1 := rfl
          exact q_retz E hr hlk hI ⟨by decide, by decide⟩ ⟨⟨by decide, by decide⟩, (hF.trans hout), fr_σ_10⟩ dX4_takes_100
        · skip
          replace hF := q_ifn hF c_12
          refine lv_aload_n hx hb dX4_takes_87 rfl (lv_at hl 0 rfl) ?_
          refine lv_iconst (v := 2) hx hb dX4_takes_88 (by decide) ?_
          have kc_13 : (2 : Int32).toInt = 2 := rfl
          refine q_ci (q_runU (As := [.int 2]) (rest := []) E (hml.trans hl.1.symm) hI (c_X3_fails l X σ_10 a (2 : Int32) (Or.inl ha)) ku_X4_59_4 ha ⟨rfl, by decide⟩ (show vwCl[3]? = some (RX4, TX4, 11) from rfl) rfl ⟨Nat.le_of_ble_eq_true rfl, Nat.le_of_ble_eq_true rfl⟩ ⟨Nat.le_refl _, Nat.le_refl _⟩ rfl (Nat.le_of_ble_eq_true rfl) dX4_takes_89) hI (by decide) (fun r_14 σ_15 H locs hpσ_15 hkσ_15 hI => ?_)
          obtain ⟨ahpσ_15, bhpσ_15, chpσ_15, dhpσ_15⟩ := hpσ_15
          have fr_σ_15 := fr_σ_10.call dhpσ_15 rfl rfl
          replace hF := q_biX hF chpσ_15
          refine q_if_eq (A := r_14.toInt) E rfl (tgt := 99) dX4_takes_92 (by decide) (fun c_16 => ?_) (fun c_16 => ?_)
          · skip
            replace hF := q_ifp hF c_16
            refine lv_iconst (v := 0) hx hb dX4_takes_99 (by decide) ?_
            have hrv : (0 : Int32).toInt = 0 := rfl
            exact q_retz E hr hlk hI ⟨by decide, by decide⟩ ⟨⟨by decide, by decide⟩, (hF.trans hout), fr_σ_15⟩ dX4_takes_100
          · skip
            replace hF := q_ifn hF c_16
            replace c_16 := q_ifOne ahpσ_15 c_16
            refine lv_iconst (v := 1) hx hb dX4_takes_95 (by decide) ?_
            refine lv_goto (tgt := 100) hx hb dX4_takes_96 (by decide) ?_
            have hrv : (1 : Int32).toInt = 1 := rfl
            exact q_retz E hr hlk hI ⟨by decide, by decide⟩ ⟨⟨by decide, by decide⟩, (hF.trans hout), fr_σ_15⟩ dX4_takes_100
      · skip
        replace hF := q_ifp hF c_9
        refine lv_aload_n hx hb dX4_takes_29 rfl (lv_at hl 0 rfl) ?_
        refine gs_X4_38_4 E hI ha dX4_takes_30 ?_
        refine lv_topi (fun f_17 ef_17 => ?_)
        replace hF := q_letX hF ef_17
        refine q_if_eq (A := f_17.toInt) E rfl (tgt := 72) dX4_takes_33 (by decide) (fun c_18 => ?_) (fun c_18 => ?_)
        · skip
          replace hF := q_ifp hF c_18
          unfold F_X4_takes_E72_3 at hF
          refine lv_aload_n hx hb dX4_takes_72 rfl (lv_at hl 0 rfl) ?_
          refine gs_X4_12_4 E hI ha dX4_takes_73 ?_
          refine lv_iconst (v := 1) hx hb dX4_takes_76 (by decide) ?_
          refine ps_X4_55_8 E hI (q_tk (k' := 8) hI ha rfl (by decide)) (by decide) (by decide) (by decide) dX4_takes_77 (fun H locs σ_19 hσ_19 hI => ?_)
          replace hF := q_letX hF hσ_19
          have fr_σ_19 := fr_σ_7.si hσ_19 (q_tk (k' := 8) hI ha rfl (by decide)) rfl
          refine lv_aload_n hx hb dX4_takes_80 rfl (lv_at hl 0 rfl) ?_
          refine gs_X4_27_4 E hI ha dX4_takes_81 ?_
          refine lv_topi (fun f_20 ef_20 => ?_)
          replace hF := q_letX hF ef_20
          refine q_if_eq (A := f_20.toInt) E rfl (tgt := 95) dX4_takes_84 (by decide) (fun c_21 => ?_) (fun c_21 => ?_)
          · skip
            replace hF := q_ifp hF c_21
            refine lv_iconst (v := 1) hx hb dX4_takes_95 (by decide) ?_
            refine lv_goto (tgt := 100) hx hb dX4_takes_96 (by decide) ?_
            have hrv : (1 : Int32).toInt = 1 := rfl
            exact q_retz E hr hlk hI ⟨by decide, by decide⟩ ⟨⟨by decide, by decide⟩, (hF.trans hout), fr_σ_19⟩ dX4_takes_100
          · skip
            replace hF := q_ifn hF c_21
            refine lv_aload_n hx hb dX4_takes_87 rfl (lv_at hl 0 rfl) ?_
            refine lv_iconst (v := 2) hx hb dX4_takes_88 (by decide) ?_
            have kc_22 : (2 : Int32).toInt = 2 := rfl
            refine q_ci (q_runU (As := [.int 2]) (rest := []) E (hml.trans hl.1.symm) hI (c_X3_fails l X σ_19 a (2 : Int32) (Or.inl ha)) ku_X4_59_4 ha ⟨rfl, by decide⟩ (show vwCl[3]? = some (RX4, TX4, 11) from rfl) rfl ⟨Nat.le_of_ble_eq_true rfl, Nat.le_of_ble_eq_true rfl⟩ ⟨Nat.le_refl _, Nat.le_refl _⟩ rfl (Nat.le_of_ble_eq_true rfl) dX4_takes_89) hI (by decide) (fun r_23 σ_24 H locs hpσ_24 hkσ_24 hI => ?_)
            obtain ⟨ahpσ_24, bhpσ_24, chpσ_24, dhpσ_24⟩ := hpσ_24
            have fr_σ_24 := fr_σ_19.call dhpσ_24 rfl rfl
            replace hF := q_biX hF chpσ_24
            refine q_if_eq (A := r_23.toInt) E rfl (tgt := 99) dX4_takes_92 (by decide) (fun c_25 => ?_) (fun c_25 => ?_)
            · skip
              replace hF := q_ifp hF c_25
              refine lv_iconst (v := 0) hx hb dX4_takes_99 (by decide) ?_
              have hrv : (0 : Int32).toInt = 0 := rfl
              exact q_retz E hr hlk hI ⟨by decide, by decide⟩ ⟨⟨by decide, by decide⟩, (hF.trans hout), fr_σ_24⟩ dX4_takes_100
            · skip
              replace hF := q_ifn hF c_25
              replace c_25 := q_ifOne ahpσ_24 c_25
              refine lv_iconst (v := 1) hx hb dX4_takes_95 (by decide) ?_
              refine lv_goto (tgt := 100) hx hb dX4_takes_96 (by decide) ?_
              have hrv : (1 : Int32).toInt = 1 := rfl
              exact q_retz E hr hlk hI ⟨by decide, by decide⟩ ⟨⟨by decide, by decide⟩, (hF.trans hout), fr_σ_24⟩ dX4_takes_100
        · skip
          replace hF := q_ifn hF c_18
          refine lv_aload_n hx hb dX4_takes_36 rfl (lv_at hl 0 rfl) ?_
          refine va_ldcS hx hb E.2.2.1 (kz_X4_41 E) dX4_takes_37 ?_
          refine q_ci (q_runU (As := [.ref (q_sk X 13)]) (rest := []) E (hml.trans hl.1.symm) hI (c_X3_isWord l X σ_7 a 13 (Or.inl ha) (by decide : 13 < 22)) ku_X4_43_4 ha ⟨rfl, by decide⟩ (show vwCl[3]? = some (RX4, TX4, 11) from rfl) rfl ⟨Nat.le_of_ble_eq_true rfl, Nat.le_of_ble_eq_true rfl⟩ ⟨Nat.le_refl _, Nat.le_refl _⟩ rfl (Nat.le_of_ble_eq_true rfl) dX4_takes_39) hI (by decide) (fun r_26 σ_27 H locs hpσ_27 hkσ_27 hI => ?_)
          obtain ⟨ahpσ_27, bhpσ_27, chpσ_27⟩ := hpσ_27
          rw [ahpσ_27] at hI
          replace hF := q_letX hF chpσ_27
          refine q_if_eq (A := r_26.toInt) E rfl (tgt := 52) dX4_takes_42 (by decide) (fun c_28 => ?_) (fun c_28 => ?_)
          · skip
            replace hF := q_ifp hF c_28
            refine lv_aload_n hx hb dX4_takes_52 rfl (lv_at hl 0 rfl) ?_
            refine lv_aload_n hx hb dX4_takes_53 rfl (lv_at hl 3 rfl) ?_
            refine q_ci (q_runV (As := [.ref r3]) (rest := []) E (hml.trans hl.1.symm) hI (c_X4_readStep l X σ_7 a r3 ha hr3) kv_X4_51 ha ⟨rfl, by decide⟩ (show vwCl[3]? = some (RX4, TX4, 11) from rfl) rfl ⟨Nat.le_of_ble_eq_true rfl, Nat.le_of_ble_eq_true rfl⟩ ⟨Nat.le_refl _, Nat.le_refl _⟩ rfl (Nat.le_of_ble_eq_true rfl) dX4_takes_54) hI (by decide) (fun r_29 σ_30 H locs hpσ_30 hkσ_30 hI => ?_)
            obtain ⟨ahpσ_30, bhpσ_30, chpσ_30⟩ := hpσ_30
            have fr_σ_30 := fr_σ_7.call chpσ_30 rfl rfl
            replace hF := q_biX hF bhpσ_30
            refine lv_istore (lv' := [(5, .int r_29), (0, .ref a), (1, .ref r1), (2, .int v2), (3, .ref r3), (4, .int x_6)]) hx hb dX4_takes_57 hl (by decide) rfl (fun ls hl => ?_)
            refine lv_iload hx hb dX4_takes_59 (lv_at hl 0 rfl) ?_
            refine q_if_ne (A := r_29.toInt) E rfl (tgt := 66) dX4_takes_61 (by decide) (fun c_31 => ?_) (fun c_31 => ?_)
            · skip
              replace hF := q_ifn hF c_31
              replace c_31 := q_ifOne ahpσ_30 c_31
              obtain ⟨z_32, ez_32⟩ : ∃ y : Int32, y = x_6 + 1 := ⟨_, rfl⟩
              replace hF := q_letX hF ez_32
              refine lv_iinc (v := z_32) (lv' := [(4, .int z_32), (5, .int r_29), (0, .ref a), (1, .ref r1), (2, .int v2), (3, .ref r3)]) hx hb dX4_takes_66 hl (k := 5) rfl (by rw [ez_32]; rfl) (by decide) rfl (fun ls hl => ?_)
              have iz_32 : z_32.toInt = x_6.toInt + 1 := q_inc ez_32 (by first | (clear ahpσ_2 bhpσ_2 ahpσ_5 bhpσ_5 hm21 c_18 ahpσ_27 bhpσ_27 chpσ_27 c_28 ahpσ_30 bhpσ_30 chpσ_30 c_31; omega) | omega)
              refine lv_goto (tgt := 21) hx hb dX4_takes_69 (by decide) ?_
              exact ih21 z_32 σ_30 _ _ ls (by first | (clear ahpσ_2 bhpσ_2 ahpσ_5 bhpσ_5 ahpσ_27 bhpσ_27 chpσ_27 c_28 ahpσ_30 bhpσ_30 chpσ_30 c_31; omega) | omega) (by first | (clear ahpσ_2 bhpσ_2 ahpσ_5 bhpσ_5 hm21 c_18 ahpσ_27 bhpσ_27 chpσ_27 c_28 ahpσ_30 bhpσ_30 chpσ_30 c_31; omega) | omega) fr_σ_30 hF hI (lv_sub hl [2, 3, 4, 5, 0] rfl)
            · skip
              replace hF := q_ifp hF c_31
              skip
              refine lv_iconst (v := 0) hx hb dX4_takes_64 (by decide) ?_
              have hrv : (0 : Int32).toInt = 0 := rfl
              exact q_retz E hr hlk hI ⟨by decide, by decide⟩ ⟨⟨by decide, by decide⟩, (hF.trans hout), fr_σ_30⟩ dX4_takes_65
          · skip
            replace hF := q_ifn hF c_28
            replace c_28 := q_ifOne bhpσ_27 c_28
            refine lv_aload_n hx hb dX4_takes_45 rfl (lv_at hl 0 rfl) ?_
            refine q_ci (q_runV (As := []) (rest := []) E (hml.trans hl.1.symm) hI (c_X4_readEnd l X σ_7 a ha) kv_X4_47 ha ⟨rfl, by decide⟩ (show vwCl[3]? = some (RX4, TX4, 11) from rfl) rfl ⟨Nat.le_of_ble_eq_true rfl, Nat.le_of_ble_eq_true rfl⟩ ⟨Nat.le_refl _, Nat.le_refl _⟩ rfl (Nat.le_of_ble_eq_true rfl) dX4_takes_46) hI (by decide) (fun r_33 σ_34 H locs hpσ_34 hkσ_34 hI => ?_)
            obtain ⟨ahpσ_34, bhpσ_34, chpσ_34⟩ := hpσ_34
            have fr_σ_34 := fr_σ_7.call chpσ_34 rfl rfl
            replace hF := q_biX hF bhpσ_34
            refine lv_goto (tgt := 57) hx hb dX4_takes_49 (by decide) ?_
            refine lv_istore (lv' := [(5, .int r_33), (0, .ref a), (1, .ref r1), (2, .int v2), (3, .ref r3), (4, .int x_6)]) hx hb dX4_takes_57 hl (by decide) rfl (fun ls hl => ?_)
            refine lv_iload hx hb dX4_takes_59 (lv_at hl 0 rfl) ?_
            refine q_if_ne (A := r_33.toInt) E rfl (tgt := 66) dX4_takes_61 (by decide) (fun c_35 => ?_) (fun c_35 => ?_)
            · skip
              replace hF := q_ifn hF c_35
              replace c_35 := q_ifOne ahpσ_34 c_35
              obtain ⟨z_36, ez_36⟩ : ∃ y : Int32, y = x_6 + 1 := ⟨_, rfl⟩
              replace hF := q_letX hF ez_36
              refine lv_iinc (v := z_36) (lv' := [(4, .int z_36), (5, .int r_33), (0, .ref a), (1, .ref r1), (2, .int v2), (3, .ref r3)]) hx hb dX4_takes_66 hl (k := 5) rfl (by rw [ez_36]; rfl) (by decide) rfl (fun ls hl => ?_)
              have iz_36 : z_36.toInt = x_6.toInt + 1 := q_inc ez_36 (by first | (clear ahpσ_2 bhpσ_2 ahpσ_5 bhpσ_5 hm21 c_18 ahpσ_27 bhpσ_27 chpσ_27 c_28 ahpσ_34 bhpσ_34 chpσ_34 c_35; omega) | omega)
              refine lv_goto (tgt := 21) hx hb dX4_takes_69 (by decide) ?_
              exact ih21 z_36 σ_34 _ _ ls (by first | (clear ahpσ_2 bhpσ_2 ahpσ_5 bhpσ_5 ahpσ_27 bhpσ_27 chpσ_27 c_28 ahpσ_34 bhpσ_34 chpσ_34 c_35; omega) | omega) (by first | (clear ahpσ_2 bhpσ_2 ahpσ_5 bhpσ_5 hm21 c_18 ahpσ_27 bhpσ_27 chpσ_27 c_28 ahpσ_34 bhpσ_34 chpσ_34 c_35; omega) | omega) fr_σ_34 hF hI (lv_sub hl [2, 3, 4, 5, 0] rfl)
            · skip
              replace hF := q_ifp hF c_35
              skip
              refine lv_iconst (v := 0) hx hb dX4_takes_64 (by decide) ?_
              have hrv : (0 : Int32).toInt = 0 := rfl
              exact q_retz E hr hlk hI ⟨by decide, by decide⟩ ⟨⟨by decide, by decide⟩, (hF.trans hout), fr_σ_34⟩ dX4_takes_65
  exact L_21_8 ((2147483647 - (0 : Int32).toInt).toNat + 1) 0 σ_5 _ _ ls (Nat.lt_succ_self _) (by decide) fr_σ_5 hF hI (lv_sub hl [1, 2, 3, 4, 0] rfl)
