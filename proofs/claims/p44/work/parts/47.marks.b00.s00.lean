section
set_option maxRecDepth 100000 in
set_option maxHeartbeats 4000000 in
theorem c_X12_play (l : Launch) (X : XW) (σ : ST) (a : Nat) (v1 : Int32) (n : Int) (ha : q_kd X a = 12) (hG : m_G (m_c X σ a)) (hW : m_W (m_c X σ a) n) (hn : 0 ≤ n ∧ n ≤ 199000) : Met l yX12_play (q_ws yX12_play cX12_play 2 (some .int)) (q_rm 69 1612) (q_P X σ [.ref a, .int v1]) (q_Qi X 1 σ (fun (r : Int32) (σ' : ST) => (m_G (m_c X σ' a)) ∧ (m_W (m_c X σ' a) (n + 301)) ∧ (∀ j, 930 ≤ j → j < 3720 → m_c X σ' a j = m_c X σ a j) ∧ (r, σ') = F_X12_play X σ a v1 ∧ q_ow [(12, 0), (12, 1), (12, 37), (12, 38), (12, 39), (12, 40), (12, 41), (12, 42), (12, 43), (12, 44), (12, 45), (34, 99), (39, 99), (41, 99)] [] X σ σ')) 0 0 (q_reg X) := by
  refine q_met 1 (by first | exact rfl | decide +kernel) rfl (Nat.le_of_ble_eq_true rfl) (fun p e s m below meth c E hml hr hlk hI ls hl => ?_)
  have hx := E.1
  have hb := E.2.1
  have hl : lv_has ls 2 [(0, .ref a), (1, .int v1)] := hl
  have gσ : m_G (m_c X σ a) := hG
  have wσ : m_W (m_c X σ a) n := hW
  have kqσ : ∀ j, 654 ≤ j → m_c X σ a j = m_c X σ a j := fun _ _ => rfl
  have fxσ : m_c X σ a = m_c X σ a := rfl
  have fr_σ : q_ow [(12, 0), (12, 1), (12, 37), (12, 38), (12, 39), (12, 40), (12, 41), (12, 42), (12, 43), (12, 44), (12, 45), (34, 99), (39, 99), (41, 99)] [] X σ σ := q_ow.rf
  have hh := hG.hd
  obtain ⟨out, hout⟩ : ∃ o, o = F_X12_play X σ a v1 := ⟨_, rfl⟩
  have hF := hout.symm
  unfold F_X12_play at hF
  refine lv_aload_n hx hb dX12_play_0 rfl (lv_at hl 0 rfl) ?_
  refine lv_iconst (v := 0) hx hb dX12_play_1 (by decide) ?_
  refine ps_X12_59_12 E hI ha (by decide) dX12_play_2 (fun H locs σ_1 hσ_1 hI => ?_)
  replace hF := q_letX hF hσ_1
  have fr_σ_1 := fr_σ.si hσ_1 ha rfl
  have mcσ_1 := m_wo hσ_1 (m_ne ha (q_tk (f := 20) (k' := 34) hI ha rfl (by decide)) (by decide))
  have gσ_1 : m_G (m_c X σ_1 a) := m_G.ext (fun j _ _ => mcσ_1 j) gσ
  have wσ_1 : m_W (m_c X σ_1 a) n := m_W.ext (fun j _ _ => mcσ_1 j) wσ
  have kqσ_1 : ∀ j, 654 ≤ j → m_c X σ_1 a j = m_c X σ a j := fun j h => (mcσ_1 j).trans (kqσ j h)
  have fxσ_1 : m_c X σ_1 a = m_c X σ a := (funext mcσ_1).trans fxσ
  refine lv_aload_n hx hb dX12_play_5 rfl (lv_at hl 0 rfl) ?_
  refine lv_iconst (v := 0) hx hb dX12_play_6 (by decide) ?_
  refine ps_X12_62_12 E hI ha (by decide) dX12_play_7 (fun H locs σ_2 hσ_2 hI => ?_)
  replace hF := q_letX hF hσ_2
  have fr_σ_2 := fr_σ_1.si hσ_2 ha rfl
  have mcσ_2 := m_wo hσ_2 (m_ne ha (q_tk (f := 20) (k' := 34) hI ha rfl (by decide)) (by decide))
  have gσ_2 : m_G (m_c X σ_2 a) := m_G.ext (fun j _ _ => mcσ_2 j) gσ_1
  have wσ_2 : m_W (m_c X σ_2 a) n := m_W.ext (fun j _ _ => mcσ_2 j) wσ_1
  have kqσ_2 : ∀ j, 654 ≤ j → m_c X σ_2 a j = m_c X σ a j := fun j h => (mcσ_2 j).trans (kqσ_1 j h)
  have fxσ_2 : m_c X σ_2 a = m_c X σ a := (funext mcσ_2).trans fxσ_1
  refine lv_iload_n hx hb dX12_play_10 rfl (lv_at hl 1 rfl) ?_
  refine lv_i2l hx hb dX12_play_11 rfl ?_
  refine lv_topl (fun y_3 ey_3 => ?_)
  replace hF := q_letX hF ey_3
  have ggy_3 := q_rng v1
  have iy_3 : y_3.toInt = v1.toInt := by rw [ey_3]; exact (q_i2l _).trans rfl
  refine lv_lconst (v := 0) hx hb dX12_play_12 (by decide) ?_
  refine lv_ldc2 (v := 9999) hx hb E.2.2.1 (E.2.2.2.1 _ (q_in_t9 (i := 145) (by first | rfl | decide +kernel) rfl)) dX12_play_13 ?_
  have kc_4 : (0 : Int64).toInt = 0 := rfl
  have kc_5 : (9999 : Int64).toInt = 9999 := rfl
  refine q_ci (q_runS (As := [.long y_3, .long 0, .long 9999]) (rest := []) E (hml.trans hl.1.symm) hI (c_X12_isIn l X σ_2 y_3 (0 : Int64) (9999 : Int64)) ks_X12_94 rfl ⟨Nat.le_of_ble_eq_true rfl, Nat.le_of_ble_eq_true rfl⟩ ⟨Nat.le_refl _, Nat.le_refl _⟩ rfl (Nat.le_of_ble_eq_true rfl) dX12_play_16) hI (by decide) (fun r_6 σ_7 H locs hpσ_7 hkσ_7 hI => ?_)
  obtain ⟨ahpσ_7, bhpσ_7, chpσ_7, dhpσ_7⟩ := hpσ_7
  rw [ahpσ_7] at hI
  replace hF := q_letX hF dhpσ_7
  refine q_if_ne (A := r_6.toInt) E rfl (tgt := 28) dX12_play_19 (by decide) (fun c_8 => ?_) (fun c_8 => ?_)
  · skip
    replace hF := q_ifn hF c_8
    refine lv_aload_n hx hb dX12_play_28 rfl (lv_at hl 0 rfl) ?_
    refine gs_X12_35_12 E hI ha dX12_play_29 ?_
    refine lv_sipush (v := 654) hx hb dX12_play_32 (by decide) ?_
    refine q_iald E hI (q_tk (k' := 34) hI ha rfl (by decide)) ⟨by decide, rfl⟩ (by decide) (by rw [q_lnk (v := 4650) hI (q_tk (k' := 34) hI ha rfl (by decide)) rfl (by decide)]; decide) dX12_play_35 ?_
    refine lv_topi (fun f_9 ef_9 => ?_)
    replace hF := q_letX hF ef_9
    have if_9 : f_9.toInt = m_c X σ a 654 := (m_rd ef_9 (by decide)).trans (congrFun fxσ_2 _)
    refine q_if_ne (A := f_9.toInt) E rfl (tgt := 46) dX12_play_36 (by decide) (fun c_10 => ?_) (fun c_10 => ?_)
    · skip
      replace hF := q_ifn hF c_10
      refine lv_aload_n hx hb dX12_play_46 rfl (lv_at hl 0 rfl) ?_
      refine lv_iload_n hx hb dX12_play_47 rfl (lv_at hl 1 rfl) ?_
      refine q_cv (q_runV (As := [.int v1]) (rest := []) E (hml.trans hl.1.symm) hI (c_X12_plays l X σ_2 a v1 n ha gσ_2 wσ_2 (by omega)) kv_X12_443 ha ⟨rfl, by decide⟩ (show vwCl[11]? = some (RX12, TX12, 46) from rfl) rfl ⟨Nat.le_of_ble_eq_true rfl, Nat.le_of_ble_eq_true rfl⟩ ⟨Nat.le_refl _, Nat.le_refl _⟩ rfl (Nat.le_of_ble_eq_true rfl) dX12_play_48) hI (by decide) (fun σ_12 H locs hpσ_12 hkσ_12 hI => ?_)
      obtain ⟨ahpσ_12, bhpσ_12, chpσ_12, dhpσ_12, ehpσ_12, fhpσ_12⟩ := hpσ_12
      have fr_σ_12 := fr_σ_2.call fhpσ_12 rfl rfl
      replace hF := q_letX hF ehpσ_12
      have gσ_12 : m_G (m_c X σ_12 a) := ahpσ_12
      have vσ_12 : m_W (m_c X σ_12 a) (n + 300) := bhpσ_12
      have kqσ_12 : ∀ j, 654 ≤ j → m_c X σ_12 a j = m_c X σ a j := (fun j h => (chpσ_12 j h).trans (kqσ_2 j h))
      refine lv_aload_n hx hb dX12_play_51 rfl (lv_at hl 0 rfl) ?_
      refine gs_X12_56_12 E hI ha dX12_play_52 ?_
      refine lv_iconst (v := 0) hx hb dX12_play_55 (by decide) ?_
      refine lv_aload_n hx hb dX12_play_56 rfl (lv_at hl 0 rfl) ?_
      refine gs_X12_426_12 E hI ha dX12_play_57 ?_
      refine lv_topi (fun f_13 ef_13 => ?_)
      replace hF := q_letX hF ef_13
      have if_13 : f_13.toInt = (σ_12.1 a 41).toInt := congrArg Int32.toInt ef_13
      refine q_iastN E hI (q_tk (k' := 41) hI ha rfl (by decide)) ⟨by decide, rfl⟩ (by decide) (by rw [q_lnk (v := 5) hI (q_tk (k' := 41) hI ha rfl (by decide)) rfl (by decide)]; decide) (show 1 < 9 by decide) (q_inU rfl) dX12_play_60 (fun H locs σ_14 hσ_14 hI => ?_)
      replace hF := q_letX hF hσ_14
      have fr_σ_14 := fr_σ_12.si hσ_14 (q_tk (k' := 41) hI ha rfl (by decide)) rfl
      have mcσ_14 := m_wo hσ_14 (m_ne (q_tk (k' := 41) hI ha rfl (by decide)) (q_tk (f := 20) (k' := 34) hI ha rfl (by decide)) (by decide))
      have gσ_14 : m_G (m_c X σ_14 a) := m_G.ext (fun j _ _ => mcσ_14 j) gσ_12
      have vσ_14 : m_W (m_c X σ_14 a) (n + 300) := m_W.ext (fun j _ _ => mcσ_14 j) vσ_12
      have kqσ_14 : ∀ j, 654 ≤ j → m_c X σ_14 a j = m_c X σ a j := fun j h => (mcσ_14 j).trans (kqσ_12 j h)
      refine lv_aload_n hx hb dX12_play_61 rfl (lv_at hl 0 rfl) ?_
      refine gs_X12_56_12 E hI ha dX12_play_62 ?_
      refine lv_iconst (v := 1) hx hb dX12_play_65 (by decide) ?_
      refine lv_aload_n hx hb dX12_play_66 rfl (lv_at hl 0 rfl) ?_
      refine gs_X12_405_12 E hI ha dX12_play_67 ?_
      refine lv_topi (fun f_15 ef_15 => ?_)
      replace hF := q_letX hF ef_15
      have if_15 : f_15.toInt = (σ_14.1 a 42).toInt := congrArg Int32.toInt ef_15
      refine q_iastN E hI (q_tk (k' := 41) hI ha rfl (by decide)) ⟨by decide, rfl⟩ (by decide) (by rw [q_lnk (v := 5) hI (q_tk (k' := 41) hI ha rfl (by decide)) rfl (by decide)]; decide) (show 1 < 9 by decide) (q_inU rfl) dX12_play_70 (fun H locs σ_16 hσ_16 hI => ?_)
      replace hF := q_letX hF hσ_16
      have fr_σ_16 := fr_σ_14.si hσ_16 (q_tk (k' := 41) hI ha rfl (by decide)) rfl
      have mcσ_16 := m_wo hσ_16 (m_ne (q_tk (k' := 41) hI ha rfl (by decide)) (q_tk (f := 20) (k' := 34) hI ha rfl (by decide)) (by decide))
      have gσ_16 : m_G (m_c X σ_16 a) := m_G.ext (fun j _ _ => mcσ_16 j) gσ_14
      have vσ_16 : m_W (m_c X σ_16 a) (n + 300) := m_W.ext (fun j _ _ => mcσ_16 j) vσ_14
      have kqσ_16 : ∀ j, 654 ≤ j → m_c X σ_16 a j = m_c X σ a j := fun j h => (mcσ_16 j).trans (kqσ_14 j h)
      refine lv_aload_n hx hb dX12_play_71 rfl (lv_at hl 0 rfl) ?_
      refine gs_X12_56_12 E hI ha dX12_play_72 ?_
      refine lv_iconst (v := 2) hx hb dX12_play_75 (by decide) ?_
      refine lv_aload_n hx hb dX12_play_76 rfl (lv_at hl 0 rfl) ?_
      refine gs_X12_408_12 E hI ha dX12_play_77 ?_
      refine lv_topi (fun f_17 ef_17 => ?_)
      replace hF := q_letX hF ef_17
      have if_17 : f_17.toInt = (σ_16.1 a 43).toInt := congrArg Int32.toInt ef_17
      refine q_iastN E hI (q_tk (k' := 41) hI ha rfl (by decide)) ⟨by decide, rfl⟩ (by decide) (by rw [q_lnk (v := 5) hI (q_tk (k' := 41) hI ha rfl (by decide)) rfl (by decide)]; decide) (show 1 < 9 by decide) (q_inU rfl) dX12_play_80 (fun H locs σ_18 hσ_18 hI => ?_)
      replace hF := q_letX hF hσ_18
      have fr_σ_18 := fr_σ_16.si hσ_18 (q_tk (k' := 41) hI ha rfl (by decide)) rfl
      have mcσ_18 := m_wo hσ_18 (m_ne (q_tk (k' := 41) hI ha rfl (by decide)) (q_tk (f := 20) (k' := 34) hI ha rfl (by decide)) (by decide))
      have gσ_18 : m_G (m_c X σ_18 a) := m_G.ext (fun j _ _ => mcσ_18 j) gσ_16
      have vσ_18 : m_W (m_c X σ_18 a) (n + 300) := m_W.ext (fun j _ _ => mcσ_18 j) vσ_16
      have kqσ_18 : ∀ j, 654 ≤ j → m_c X σ_18 a j = m_c X σ a j := fun j h => (mcσ_18 j).trans (kqσ_16 j h)
      refine lv_aload_n hx hb dX12_play_81 rfl (lv_at hl 0 rfl) ?_
      refine gs_X12_56_12 E hI ha dX12_play_82 ?_
      refine lv_iconst (v := 3) hx hb dX12_play_85 (by decide) ?_
      refine lv_aload_n hx hb dX12_play_86 rfl (lv_at hl 0 rfl) ?_
      refine gs_X12_411_12 E hI ha dX12_play_87 ?_
      refine lv_topi (fun f_19 ef_19 => ?_)
      replace hF := q_letX hF ef_19
      have if_19 : f_19.toInt = (σ_18.1 a 44).toInt := congrArg Int32.toInt ef_19
      refine q_iastN E hI (q_tk (k' := 41) hI ha rfl (by decide)) ⟨by decide, rfl⟩ (by decide) (by rw [q_lnk (v := 5) hI (q_tk (k' := 41) hI ha rfl (by decide)) rfl (by decide)]; decide) (show 1 < 9 by decide) (q_inU rfl) dX12_play_90 (fun H locs σ_20 hσ_20 hI => ?_)
      replace hF := q_letX hF hσ_20
      have fr_σ_20 := fr_σ_18.si hσ_20 (q_tk (k' := 41) hI ha rfl (by decide)) rfl
      have mcσ_20 := m_wo hσ_20 (m_ne (q_tk (k' := 41) hI ha rfl (by decide)) (q_tk (f := 20) (k' := 34) hI ha rfl (by decide)) (by decide))
      have gσ_20 : m_G (m_c X σ_20 a) := m_G.ext (fun j _ _ => mcσ_20 j) gσ_18
      have vσ_20 : m_W (m_c X σ_20 a) (n + 300) := m_W.ext (fun j _ _ => mcσ_20 j) vσ_18
      have kqσ_20 : ∀ j, 654 ≤ j → m_c X σ_20 a j = m_c X σ a j := fun j h => (mcσ_20 j).trans (kqσ_18 j h)
      refine lv_aload_n hx hb dX12_play_91 rfl (lv_at hl 0 rfl) ?_
      refine gs_X12_56_12 E hI ha dX12_play_92 ?_
      refine lv_iconst (v := 4) hx hb dX12_play_95 (by decide) ?_
      refine lv_aload_n hx hb dX12_play_96 rfl (lv_at hl 0 rfl) ?_
      refine gs_X12_423_12 E hI ha dX12_play_97 ?_
      refine lv_topi (fun f_21 ef_21 => ?_)
      replace hF := q_letX hF ef_21
      have if_21 : f_21.toInt = (σ_20.1 a 45).toInt := congrArg Int32.toInt ef_21
      refine q_iastN E hI (q_tk (k' := 41) hI ha rfl (by decide)) ⟨by decide, rfl⟩ (by decide) (by rw [q_lnk (v := 5) hI (q_tk (k' := 41) hI ha rfl (by decide)) rfl (by decide)]; decide) (show 1 < 9 by decide) (q_inU rfl) dX12_play_100 (fun H locs σ_22 hσ_22 hI => ?_)
      replace hF := q_letX hF hσ_22
      have fr_σ_22 := fr_σ_20.si hσ_22 (q_tk (k' := 41) hI ha rfl (by decide)) rfl
      have mcσ_22 := m_wo hσ_22 (m_ne (q_tk (k' := 41) hI ha rfl (by decide)) (q_tk (f := 20) (k' := 34) hI ha rfl (by decide)) (by decide))
      have gσ_22 : m_G (m_c X σ_22 a) := m_G.ext (fun j _ _ => mcσ_22 j) gσ_20
      have vσ_22 : m_W (m_c X σ_22 a) (n + 300) := m_W.ext (fun j _ _ => mcσ_22 j) vσ_20
      have kqσ_22 : ∀ j, 654 ≤ j → m_c X σ_22 a j = m_c X σ a j := fun j h => (mcσ_22 j).trans (kqσ_20 j h)
      refine lv_aload_n hx hb dX12_play_101 rfl (lv_at hl 0 rfl) ?_
      refine lv_iconst (v := 1) hx hb dX12_play_102 (by decide) ?_
      refine ps_X12_446_12 E hI ha (by decide) (by decide) (by decide) dX12_play_103 (fun H locs σ_23 hσ_23 hI => ?_)
      replace hF := q_letX hF hσ_23
      have fr_σ_23 := fr_σ_22.si hσ_23 ha rfl
      have mcσ_23 := m_wo hσ_23 (m_ne ha (q_tk (f := 20) (k' := 34) hI ha rfl (by decide)) (by decide))
      have gσ_23 : m_G (m_c X σ_23 a) := m_G.ext (fun j _ _ => mcσ_23 j) gσ_22
      have vσ_23 : m_W (m_c X σ_23 a) (n + 300) := m_W.ext (fun j _ _ => mcσ_23 j) vσ_22
      have kqσ_23 : ∀ j, 654 ≤ j → m_c X σ_23 a j = m_c X σ a j := fun j h => (mcσ_23 j).trans (kqσ_22 j h)
      refine lv_aload_n hx hb dX12_play_106 rfl (lv_at hl 0 rfl) ?_
      refine gs_X12_417_12 E hI ha dX12_play_107 ?_
      refine lv_topi (fun f_24 ef_24 => ?_)
      replace hF := q_letX hF ef_24
      have if_24 : f_24.toInt = (σ_23.1 a 40).toInt := congrArg Int32.toInt ef_24
      exact q_reti E hr hlk hI ⟨gσ_23, (by first | exact m_W.le vσ_23 (by omega) | exact m_W.le wσ_23 (by omega)), (fun j h0 h1 => kqσ_23 j (by omega)), (hF.trans hout), fr_σ_23⟩ dX12_play_110
    · skip
      replace hF := q_ifp hF c_10
      refine lv_aload_n hx hb dX12_play_39 rfl (lv_at hl 0 rfl) ?_
      refine lv_bipush (v := 8) hx hb dX12_play_40 (by decide) ?_
      have kc_25 : (8 : Int32).toInt = 8 := rfl
      refine q_ci (q_runV (As := [.int 8]) (rest := []) E (hml.trans hl.1.symm) hI (c_X12_refuse l X σ_2 a (8 : Int32) ha) kv_X12_284 ha ⟨rfl, by decide⟩ (show vwCl[11]? = some (RX12, TX12, 46) from rfl) rfl ⟨Nat.le_of_ble_eq_true rfl, Nat.le_of_ble_eq_true rfl⟩ ⟨Nat.le_refl _, Nat.le_refl _⟩ rfl (Nat.le_of_ble_eq_true rfl) dX12_play_42) hI (by decide) (fun r_26 σ_27 H locs hpσ_27 hkσ_27 hI => ?_)
      obtain ⟨ahpσ_27, bhpσ_27, chpσ_27⟩ := hpσ_27
      have fr_σ_27 := fr_σ_2.call chpσ_27 rfl rfl
      replace hF := q_biX hF bhpσ_27
      have mcσ_27 := m_cK hkσ_27 hI.1 ha (by decide)
      have gσ_27 : m_G (m_c X σ_27 a) := m_G.ext (fun j _ _ => mcσ_27 j) gσ_2
      have wσ_27 : m_W (m_c X σ_27 a) n := m_W.ext (fun j _ _ => mcσ_27 j) wσ_2
      have kqσ_27 : ∀ j, 654 ≤ j → m_c X σ_27 a j = m_c X σ a j := fun j h => (mcσ_27 j).trans (kqσ_2 j h)
      have fxσ_27 : m_c X σ_27 a = m_c X σ a := (funext mcσ_27).trans fxσ_2
      exact q_reti E hr hlk hI ⟨gσ_27, (by first | exact m_W.le vσ_27 (by omega) | exact m_W.le wσ_27 (by omega)), (fun j h0 h1 => kqσ_27 j (by omega)), (hF.trans hout), fr_σ_27⟩ dX12_play_45
  · skip
    replace hF := q_ifp hF c_8
    refine lv_aload_n hx hb dX12_play_22 rfl (lv_at hl 0 rfl) ?_
    refine lv_iconst (v := 5) hx hb dX12_play_23 (by decide) ?_
    have kc_28 : (5 : Int32).toInt = 5 := rfl
    refine q_ci (q_runV (As := [.int 5]) (rest := []) E (hml.trans hl.1.symm) hI (c_X12_refuse l X σ_2 a (5 : Int32) ha) kv_X12_284 ha ⟨rfl, by decide⟩ (show vwCl[11]? = some (RX12, TX12, 46) from rfl) rfl ⟨Nat.le_of_ble_eq_true rfl, Nat.le_of_ble_eq_true rfl⟩ ⟨Nat.le_refl _, Nat.le_refl _⟩ rfl (Nat.le_of_ble_eq_true rfl) dX12_play_24) hI (by decide) (fun r_29 σ_30 H locs hpσ_30 hkσ_30 hI => ?_)
    obtain ⟨ahpσ_30, bhpσ_30, chpσ_30⟩ := hpσ_30
    have fr_σ_30 := fr_σ_2.call chpσ_30 rfl rfl
    replace hF := q_biX hF bhpσ_30
    have mcσ_30 := m_cK hkσ_30 hI.1 ha (by decide)
    have gσ_30 : m_G (m_c X σ_30 a) := m_G.ext (fun j _ _ => mcσ_30 j) gσ_2
    have wσ_30 : m_W (m_c X σ_30 a) n := m_W.ext (fun j _ _ => mcσ_30 j) wσ_2
    have kqσ_30 : ∀ j, 654 ≤ j → m_c X σ_30 a j = m_c X σ a j := fun j h => (mcσ_30 j).trans (kqσ_2 j h)
    have fxσ_30 : m_c X σ_30 a = m_c X σ a := (funext mcσ_30).trans fxσ_2
    exact q_reti E hr hlk hI ⟨gσ_30, (by first | exact m_W.le vσ_30 (by omega) | exact m_W.le wσ_30 (by omega)), (fun j h0 h1 => kqσ_30 j (by omega)), (hF.trans hout), fr_σ_30⟩ dX12_play_27
end
