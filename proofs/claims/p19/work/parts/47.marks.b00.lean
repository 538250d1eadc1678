/-! FROM 47.marks.b00.lean.txt -/
section
set_option maxRecDepth 100000 in
set_option maxHeartbeats 4000000 in
theorem c_X12_play (l : Launch) (X : XW) (σ : ST) (a : Nat) (v1 : Int32) (n : Int) (ha : q_kd X a = 12) (hG : m_G (m_c X σ a)) (hW : m_W (m_c X σ a) n) (hn : 0 ≤ n ∧ n ≤ 199000) : Met l yX12_play (q_ws yX12_play cX12_play 2 (some .int)) (q_rm 69 1612) (q_P X σ [.ref a, .int v1]) (q_Qi X 1 σ (fun (r : Int32) (σ' : ST) => (m_G (m_c X σ' a)) ∧ (m_W (m_c X σ' a) (n + 301)) ∧ (∀ j, 930 ≤ j → j < 3720 → m_c X σ' a j = m_c X σ a j) ∧ (r, σ') = F_X12_play X σ a v1 ∧ q_ow [(12, 0), (12, 1), (12, 37), (12, 38), (12, 39), (12, 40), (12, 41), (12, 42), (12, 43), (12, 44), (12, 45), (34, 99), (39, 99), (41, 99)] [] X σ σ')) 0 0 (q_reg X) := by
  refine q_met 1 (by first | exact rfl | decide +kernel) rfl (Nat.le_of_ble_eq_true rfl) (fun p e s m below meth c E hml hr hlk hI ls hl => ?_)
  have hx := E.1
  have hb := E.2.1
  have hl : lv_has ls 2 [(0, .ref a), (1, .int v1)] := hl
  have gσ : m_G (m_c X σ a) := hG
  have wσ : m_W (m_c X σ a) n := hW
  have kqσ : ∀ j, 654 ≤ j → m_c X σ a j = m_c X σ a j := fun _ _ => rfl
  have fxσ : m_c X σ a = m_c X σ a := rfl
  have fr_σ : q_ow [(12, 0), (12, 1), (12, 37), (12, 38), (12, 39), (12, 40), (12, 41), (12, 42), (12, 43), (12, 44), (12, 45), (34, 99), (39, 99), (41, 99)] [] X σ σ := q_ow.rf
  have hh := hG.hd
  obtain ⟨out, hout⟩ : ∃ o, o = F_X12_play X σ a v1 := ⟨_, rfl⟩
  have hF := hout.symm
  unfold F_X12_play at hF
  refine lv_aload_n hx hb dX12_play_0 rfl (lv_at hl 0 rfl) ?_
  refine lv_iconst (v := 0) hx hb dX12_play_1 (by decide) ?_
  refine ps_X12_59_12 E hI ha (by decide) dX12_play_2 (fun H locs σ_1 hσ_1 hI => ?_)
  replace hF := q_letX hF hσ_1
  have fr_σ_1 := fr_σ.si hσ_1 ha rfl
  have mcσ_1 := m_wo hσ_1 (m_ne ha (q_tk (f := 20) (k' := 34) hI ha rfl (by decide)) (by decide))
  have gσ_1 : m_G (m_c X σ_1 a) := m_G.ext (fun j _ _ => mcσ_1 j) gσ
  have wσ_1 : m_W (m_c X σ_1 a) n := m_W.ext (fun j _ _ => mcσ_1 j) wσ
  have kqσ_1 : ∀ j, 654 ≤ j → m_c X σ_1 a j = m_c X σ a j := fun j h => (mcσ_1 j).trans (kqσ j h)
  have fxσ_1 : m_c X σ_1 a = m_c X σ a := (funext mcσ_1).trans fxσ
  refine lv_aload_n hx hb dX12_play_5 rfl (lv_at hl 0 rfl) ?_
  refine lv_iconst (v := 0) hx hb dX12_play_6 (by decide) ?_
  refine ps_X12_62_12 E hI ha (by decide) dX12_play_7 (fun H locs σ_2 hσ_2 hI => ?_)
  replace hF := q_letX hF hσ_2
  have fr_σ_2 := fr_σ_1.si hσ_2 ha rfl
  have mcσ_2 := m_wo hσ_2 (m_ne ha (q_tk (f := 20) (k' := 34) hI ha rfl (by decide)) (by decide))
  have gσ_2 : m_G (m_c X σ_2 a) := m_G.ext (fun j _ _ => mcσ_2 j) gσ_1
  have wσ_2 : m_W (m_c X σ_2 a) n := m_W.ext (fun j _ _ => mcσ_2 j) wσ_1
  have kqσ_2 : ∀ j, 654 ≤ j → m_c X σ_2 a j = m_c X σ a j := fun j h => (mcσ_2 j).trans (kqσ_1 j h)
  have fxσ_2 : m_c X σ_2 a = m_c X σ a := (funext mcσ_2).trans fxσ_1
  refine lv_iload_n hx hb dX12_play_10 rfl (lv_at hl 1 rfl) ?_
  refine lv_i2l hx hb dX12_play_11 rfl ?_
  refine lv_topl (fun y_3 ey_3 => ?_)
  replace hF := q_letX hF ey_3
  have ggy_3 := q_rng v1
  have iy_3 : y_3.toInt = v1.toInt := by rw [ey_3]; exact (q_i2l _).trans rfl
  refine lv_lconst (v := 0) hx hb dX12_play_12 (by decide) ?_
  refine lv_ldc2 (v := 9999) hx hb E.2.2.1 (E.2.2.2.1 _ (q_in_t9 (i := 145) (by first | rfl | decide +kernel) rfl)) dX12_play_13 ?_
  have kc_4 : (0 : Int64).toInt = 0 := rfl
  have kc_5 : (9999 : Int64).toInt = 9999 := rfl
  refine q_ci (q_runS (As := [.long y_3, .long 0, .long 9999]) (rest := []) E (hml.trans hl.1.symm) hI (c_X12_isIn l X σ_2 y_3 (0 : Int64) (9999 : Int64)) ks_X12_94 rfl ⟨Nat.le_of_ble_eq_true rfl, Nat.le_of_ble_eq_true rfl⟩ ⟨Nat.le_refl _, Nat.le_refl _⟩ rfl (Nat.le_of_ble_eq_true rfl) dX12_play_16) hI (by decide) (fun r_6 σ_7 H locs hpσ_7 hkσ_7 hI => ?_)
  obtain ⟨ahpσ_7, bhpσ_7, chpσ_7, dhpσ_7⟩ := hpσ_7
  rw [ahpσ_7] at hI
  replace hF := q_letX hF dhpσ_7
  refine q_if_ne (A := r_6.toInt) E rfl (tgt := 28) dX12_play_19 (by decide) (fun c_8 => ?_) (fun c_8 => ?_)
  · skip
    replace hF := q_ifn hF c_8
    replace c_8 := q_ifOne bhpσ_7 c_8
    replace chpσ_7 := q_ifYes chpσ_7 c_8
    refine lv_aload_n hx hb dX12_play_28 rfl (lv_at hl 0 rfl) ?_
    refine gs_X12_35_12 E hI ha dX12_play_29 ?_
    refine lv_sipush (v := 654) hx hb dX12_play_32 (by decide) ?_
    refine q_iald E hI (q_tk (k' := 34) hI ha rfl (by decide)) ⟨by decide, rfl⟩ (by decide) (by rw [q_lnk (v := 4650) hI (q_tk (k' := 34) hI ha rfl (by decide)) rfl (by decide)]; decide) dX12_play_35 ?_
    refine lv_topi (fun f_9 ef_9 => ?_)
    replace hF := q_letX hF ef_9
    have if_9 : f_9.toInt = m_c X σ a 654 := (m_rd ef_9 (by decide)).trans (congrFun fxσ_2 _)
    refine q_if_ne (A := f_9.toInt) E rfl (tgt := 46) dX12_play_36 (by decide) (fun c_10 => ?_) (fun c_10 => ?_)
    · skip
      replace hF := q_ifn hF c_10
      refine lv_aload_n hx hb dX12_play_46 rfl (lv_at hl 0 rfl) ?_
      refine lv_iload_n hx hb dX12_play_47 rfl (lv_at hl 1 rfl) ?_
      refine q_cv (q_runV (As := [.int v1]) (rest := []) E (hml.trans hl.1.symm) hI (c_X12_plays l X σ_2 a v1 n ha gσ_2 wσ_2 (by first | (clear gσ wσ hh gσ_1 wσ_1 gσ_2 wσ_2 ggy_3 iy_3 kc_4 kc_5 ahpσ_7 bhpσ_7 dhpσ_7 c_8 chpσ_7 if_9 c_10; omega) | omega)) kv_X12_443 ha ⟨rfl, by decide⟩ (show vwCl[11]? = some (RX12, TX12, 46) from rfl) rfl ⟨Nat.le_of_ble_eq_true rfl, Nat.le_of_ble_eq_true rfl⟩ ⟨Nat.le_refl _, Nat.le_refl _⟩ rfl (Nat.le_of_ble_eq_true rfl) dX12_play_48) hI (by decide) (fun σ_12 H locs hpσ_12 hkσ_12 hI => ?_)
      obtain ⟨ahpσ_12, bhpσ_12, chpσ_12, dhpσ_12, ehpσ_12, fhpσ_12⟩ := hpσ_12
      have fr_σ_12 := fr_σ_2.call fhpσ_12 rfl rfl
      replace hF := q_letX hF ehpσ_12
      have gσ_12 : m_G (m_c X σ_12 a) := ahpσ_12
      have vσ_12 : m_W (m_c X σ_12 a) (n + 300) := bhpσ_12
      have kqσ_12 : ∀ j, 654 ≤ j → m_c X σ_12 a j = m_c X σ a j := (fun j h => (chpσ_12 j h).trans (kqσ_2 j h))
      refine lv_aload_n hx hb dX12_play_51 rfl (lv_at hl 0 rfl) ?_
      refine gs_X12_56_12 E hI ha dX12_play_52 ?_
      refine lv_iconst (v := 0) hx hb dX12_play_55 (by decide) ?_
      refine lv_aload_n hx hb dX12_play_56 rfl (lv_at hl 0 rfl) ?_
      refine gs_X12_426_12 E hI ha dX12_play_57 ?_
      refine lv_topi (fun f_13 ef_13 => ?_)
      replace hF := q_letX hF ef_13
      have if_13 : f_13.toInt = (σ_12.1 a 41).toInt := congrArg Int32.toInt ef_13
      refine q_iastN E hI (q_tk (k' := 41) hI ha rfl (by decide)) ⟨by decide, rfl⟩ (by decide) (by rw [q_lnk (v := 5) hI (q_tk (k' := 41) hI ha rfl (by decide)) rfl (by decide)]; decide) (show 1 < 9 by decide) (q_inU rfl) dX12_play_60 (fun H locs σ_14 hσ_14 hI => ?_)
      replace hF := q_letX hF hσ_14
      have fr_σ_14 := fr_σ_12.si hσ_14 (q_tk (k' := 41) hI ha rfl (by decide)) rfl
      have mcσ_14 := m_wo hσ_14 (m_ne (q_tk (k' := 41) hI ha rfl (by decide)) (q_tk (f := 20) (k' := 34) hI ha rfl (by decide)) (by decide))
      have gσ_14 : m_G (m_c X σ_14 a) := m_G.ext (fun j _ _ => mcσ_14 j) gσ_12
      have vσ_14 : m_W (m_c X σ_14 a) (n + 300) := m_W.ext (fun j _ _ => mcσ_14 j) vσ_12
      have kqσ_14 : ∀ j, 654 ≤ j → m_c X σ_14 a j = m_c X σ a j := fun j h => (mcσ_14 j).trans (kqσ_12 j h)
      refine lv_aload_n hx hb dX12_play_61 rfl (lv_at hl 0 rfl) ?_
      refine gs_X12_56_12 E hI ha dX12_play_62 ?_
      refine lv_iconst (v := 1) hx hb dX12_play_65 (by decide) ?_
      refine lv_aload_n hx hb dX12_play_66 rfl (lv_at hl 0 rfl) ?_
      refine gs_X12_405_12 E hI ha dX12_play_67 ?_
      refine lv_topi (fun f_15 ef_15 => ?_)
      replace hF := q_letX hF ef_15
      have if_15 : f_15.toInt = (σ_14.1 a 42).toInt := congrArg Int32.toInt ef_15
      refine q_iastN E hI (q_tk (k' := 41) hI ha rfl (by decide)) ⟨by decide, rfl⟩ (by decide) (by rw [q_lnk (v := 5) hI (q_tk (k' := 41) hI ha rfl (by decide)) rfl (by decide)]; decide) (show 1 < 9 by decide) (q_inU rfl) dX12_play_70 (fun H locs σ_16 hσ_16 hI => ?_)
      replace hF := q_letX hF hσ_16
      have fr_σ_16 := fr_σ_14.si hσ_16 (q_tk (k' := 41) hI ha rfl (by decide)) rfl
      have mcσ_16 := m_wo hσ_16 (m_ne (q_tk (k' := 41) hI ha rfl (by decide)) (q_tk (f := 20) (k' := 34) hI ha rfl (by decide)) (by decide))
      have gσ_16 : m_G (m_c X σ_16 a) := m_G.ext (fun j _ _ => mcσ_16 j) gσ_14
      have vσ_16 : m_W (m_c X σ_16 a) (n + 300) := m_W.ext (fun j _ _ => mcσ_16 j) vσ_14
      have kqσ_16 : ∀ j, 654 ≤ j → m_c X σ_16 a j = m_c X σ a j := fun j h => (mcσ_16 j).trans (kqσ_14 j h)
      refine lv_aload_n hx hb dX12_play_71 rfl (lv_at hl 0 rfl) ?_
      refine gs_X12_56_12 E hI ha dX12_play_72 ?_
      refine lv_iconst (v := 2) hx hb dX12_play_75 (by decide) ?_
      refine lv_aload_n hx hb dX12_play_76 rfl (lv_at hl 0 rfl) ?_
      refine gs_X12_408_12 E hI ha dX12_play_77 ?_
      refine lv_topi (fun f_17 ef_17 => ?_)
      replace hF := q_letX hF ef_17
      have if_17 : f_17.toInt = (σ_16.1 a 43).toInt := congrArg Int32.toInt ef_17
      refine q_iastN E hI (q_tk (k' := 41) hI ha rfl (by decide)) ⟨by decide, rfl⟩ (by decide) (by rw [q_lnk (v := 5) hI (q_tk (k' := 41) hI ha rfl (by decide)) rfl (by decide)]; decide) (show 1 < 9 by decide) (q_inU rfl) dX12_play_80 (fun H locs σ_18 hσ_18 hI => ?_)
      replace hF := q_letX hF hσ_18
      have fr_σ_18 := fr_σ_16.si hσ_18 (q_tk (k' := 41) hI ha rfl (by decide)) rfl
      have mcσ_18 := m_wo hσ_18 (m_ne (q_tk (k' := 41) hI ha rfl (by decide)) (q_tk (f := 20) (k' := 34) hI ha rfl (by decide)) (by decide))
      have gσ_18 : m_G (m_c X σ_18 a) := m_G.ext (fun j _ _ => mcσ_18 j) gσ_16
      have vσ_18 : m_W (m_c X σ_18 a) (n + 300) := m_W.ext (fun j _ _ => mcσ_18 j) vσ_16
      have kqσ_18 : ∀ j, 654 ≤ j → m_c X σ_18 a j = m_c X σ a j := fun j h => (mcσ_18 j).trans (kqσ_16 j h)
      refine lv_aload_n hx hb dX12_play_81 rfl (lv_at hl 0 rfl) ?_
      refine gs_X12_56_12 E hI ha dX12_play_82 ?_
      refine lv_iconst (v := 3) hx hb dX12_play_85 (by decide) ?_
      refine lv_aload_n hx hb dX12_play_86 rfl (lv_at hl 0 rfl) ?_
      refine gs_X12_411_12 E hI ha dX12_play_87 ?_
      refine lv_topi (fun f_19 ef_19 => ?_)
      replace hF := q_letX hF ef_19
      have if_19 : f_19.toInt = (σ_18.1 a 44).toInt := congrArg Int32.toInt ef_19
      refine q_iastN E hI (q_tk (k' := 41) hI ha rfl (by decide)) ⟨by decide, rfl⟩ (by decide) (by rw [q_lnk (v := 5) hI (q_tk (k' := 41) hI ha rfl (by decide)) rfl (by decide)]; decide) (show 1 < 9 by decide) (q_inU rfl) dX12_play_90 (fun H locs σ_20 hσ_20 hI => ?_)
      replace hF := q_letX hF hσ_20
      have fr_σ_20 := fr_σ_18.si hσ_20 (q_tk (k' := 41) hI ha rfl (by decide)) rfl
      have mcσ_20 := m_wo hσ_20 (m_ne (q_tk (k' := 41) hI ha rfl (by decide)) (q_tk (f := 20) (k' := 34) hI ha rfl (by decide)) (by decide))
      have gσ_20 : m_G (m_c X σ_20 a) := m_G.ext (fun j _ _ => mcσ_20 j) gσ_18
      have vσ_20 : m_W (m_c X σ_20 a) (n + 300) := m_W.ext (fun j _ _ => mcσ_20 j) vσ_18
      have kqσ_20 : ∀ j, 654 ≤ j → m_c X σ_20 a j = m_c X σ a j := fun j h => (mcσ_20 j).trans (kqσ_18 j h)
      refine lv_aload_n hx hb dX12_play_91 rfl (lv_at hl 0 rfl) ?_
      refine gs_X12_56_12 E hI ha dX12_play_92 ?_
      refine lv_iconst (v := 4) hx hb dX12_play_95 (by decide) ?_
      refine lv_aload_n hx hb dX12_play_96 rfl (lv_at hl 0 rfl) ?_
      refine gs_X12_423_12 E hI ha dX12_play_97 ?_
      refine lv_topi (fun f_21 ef_21 => ?_)
      replace hF := q_letX hF ef_21
      have if_21 : f_21.toInt = (σ_20.1 a 45).toInt := congrArg Int32.toInt ef_21
      refine q_iastN E hI (q_tk (k' := 41) hI ha rfl (by decide)) ⟨by decide, rfl⟩ (by decide) (by rw [q_lnk (v := 5) hI (q_tk (k' := 41) hI ha rfl (by decide)) rfl (by decide)]; decide) (show 1 < 9 by decide) (q_inU rfl) dX12_play_100 (fun H locs σ_22 hσ_22 hI => ?_)
      replace hF := q_letX hF hσ_22
      have fr_σ_22 := fr_σ_20.si hσ_22 (q_tk (k' := 41) hI ha rfl (by decide)) rfl
      have mcσ_22 := m_wo hσ_22 (m_ne (q_tk (k' := 41) hI ha rfl (by decide)) (q_tk (f := 20) (k' := 34) hI ha rfl (by decide)) (by decide))
      have gσ_22 : m_G (m_c X σ_22 a) := m_G.ext (fun j _ _ => mcσ_22 j) gσ_20
      have vσ_22 : m_W (m_c X σ_22 a) (n + 300) := m_W.ext (fun j _ _ => mcσ_22 j) vσ_20
      have kqσ_22 : ∀ j, 654 ≤ j → m_c X σ_22 a j = m_c X σ a j := fun j h => (mcσ_22 j).trans (kqσ_20 j h)
      refine lv_aload_n hx hb dX12_play_101 rfl (lv_at hl 0 rfl) ?_
      refine lv_iconst (v := 1) hx hb dX12_play_102 (by decide) ?_
      refine ps_X12_446_12 E hI ha (by decide) (by decide) (by decide) dX12_play_103 (fun H locs σ_23 hσ_23 hI => ?_)
      replace hF := q_letX hF hσ_23
      have fr_σ_23 := fr_σ_22.si hσ_23 ha rfl
      have mcσ_23 := m_wo hσ_23 (m_ne ha (q_tk (f := 20) (k' := 34) hI ha rfl (by decide)) (by decide))
      have gσ_23 : m_G (m_c X σ_23 a) := m_G.ext (fun j _ _ => mcσ_23 j) gσ_22
      have vσ_23 : m_W (m_c X σ_23 a) (n + 300) := m_W.ext (fun j _ _ => mcσ_23 j) vσ_22
      have kqσ_23 : ∀ j, 654 ≤ j → m_c X σ_23 a j = m_c X σ a j := fun j h => (mcσ_23 j).trans (kqσ_22 j h)
      refine lv_aload_n hx hb dX12_play_106 rfl (lv_at hl 0 rfl) ?_
      refine gs_X12_417_12 E hI ha dX12_play_107 ?_
      refine lv_topi (fun f_24 ef_24 => ?_)
      replace hF := q_letX hF ef_24
      have if_24 : f_24.toInt = (σ_23.1 a 40).toInt := congrArg Int32.toInt ef_24
      exact q_reti E hr hlk hI ⟨gσ_23, (by first | exact m_W.le vσ_23 (by first | (clear hn gσ wσ hh gσ_1 wσ_1 gσ_2 wσ_2 ggy_3 iy_3 kc_4 kc_5 ahpσ_7 bhpσ_7 dhpσ_7 c_8 chpσ_7 if_9 c_10 ahpσ_12 bhpσ_12 chpσ_12 dhpσ_12 ehpσ_12 fhpσ_12 gσ_12 vσ_12 if_13 gσ_14 vσ_14 if_15 gσ_16 vσ_16 if_17 gσ_18 vσ_18 if_19 gσ_20 vσ_20 if_21 gσ_22 vσ_22 gσ_23 vσ_23 if_24; omega) | omega) | exact m_W.le wσ_23 (by omega)), (fun j h0 h1 => kqσ_23 j (by first | (clear hn gσ wσ hh gσ_1 wσ_1 gσ_2 wσ_2 ggy_3 iy_3 kc_4 kc_5 ahpσ_7 bhpσ_7 dhpσ_7 c_8 chpσ_7 if_9 c_10 ahpσ_12 bhpσ_12 chpσ_12 dhpσ_12 ehpσ_12 fhpσ_12 gσ_12 vσ_12 if_13 gσ_14 vσ_14 if_15 gσ_16 vσ_16 if_17 gσ_18 vσ_18 if_19 gσ_20 vσ_20 if_21 gσ_22 vσ_22 gσ_23 vσ_23 if_24; omega) | omega)), (hF.trans hout), fr_σ_23⟩ dX12_play_110
    · skip
      replace hF := q_ifp hF c_10
      refine lv_aload_n hx hb dX12_play_39 rfl (lv_at hl 0 rfl) ?_
      refine lv_bipush (v := 8) hx hb dX12_play_40 (by decide) ?_
      have kc_25 : (8 : Int32).toInt = 8 := rfl
      refine q_ci (q_runV (As := [.int 8]) (rest := []) E (hml.trans hl.1.symm) hI (c_X12_refuse l X σ_2 a (8 : Int32) ha) kv_X12_284 ha ⟨rfl, by decide⟩ (show vwCl[11]? = some (RX12, TX12, 46) from rfl) rfl ⟨Nat.le_of_ble_eq_true rfl, Nat.le_of_ble_eq_true rfl⟩ ⟨Nat.le_refl _, Nat.le_refl _⟩ rfl (Nat.le_of_ble_eq_true rfl) dX12_play_42) hI (by decide) (fun r_26 σ_27 H locs hpσ_27 hkσ_27 hI => ?_)
      obtain ⟨ahpσ_27, bhpσ_27, chpσ_27⟩ := hpσ_27
      have fr_σ_27 := fr_σ_2.call chpσ_27 rfl rfl
      replace hF := q_biX hF bhpσ_27
      have mcσ_27 := m_cK hkσ_27 hI.1 ha (by decide)
      have gσ_27 : m_G (m_c X σ_27 a) := m_G.ext (fun j _ _ => mcσ_27 j) gσ_2
      have wσ_27 : m_W (m_c X σ_27 a) n := m_W.ext (fun j _ _ => mcσ_27 j) wσ_2
      have kqσ_27 : ∀ j, 654 ≤ j → m_c X σ_27 a j = m_c X σ a j := fun j h => (mcσ_27 j).trans (kqσ_2 j h)
      have fxσ_27 : m_c X σ_27 a = m_c X σ a := (funext mcσ_27).trans fxσ_2
      exact q_reti E hr hlk hI ⟨gσ_27, (by first | exact m_W.le vσ_27 (by omega) | exact m_W.le wσ_27 (by first | (clear hn gσ wσ hh gσ_1 wσ_1 gσ_2 wσ_2 ggy_3 iy_3 kc_4 kc_5 ahpσ_7 bhpσ_7 dhpσ_7 c_8 chpσ_7 if_9 c_10 kc_25 ahpσ_27 bhpσ_27 chpσ_27 gσ_27 wσ_27; omega) | omega)), (fun j h0 h1 => kqσ_27 j (by first | (clear hn gσ wσ hh gσ_1 wσ_1 gσ_2 wσ_2 ggy_3 iy_3 kc_4 kc_5 ahpσ_7 bhpσ_7 dhpσ_7 c_8 chpσ_7 if_9 c_10 kc_25 ahpσ_27 bhpσ_27 chpσ_27 gσ_27 wσ_27; omega) | omega)), (hF.trans hout), fr_σ_27⟩ dX12_play_45
  · skip
    replace hF := q_ifp hF c_8
    replace chpσ_7 := q_ifNo chpσ_7 c_8
    refine lv_aload_n hx hb dX12_play_22 rfl (lv_at hl 0 rfl) ?_
    refine lv_iconst (v := 5) hx hb dX12_play_23 (by decide) ?_
    have kc_28 : (5 : Int32).toInt = 5 := rfl
    refine q_ci (q_runV (As := [.int 5]) (rest := []) E (hml.trans hl.1.symm) hI (c_X12_refuse l X σ_2 a (5 : Int32) ha) kv_X12_284 ha ⟨rfl, by decide⟩ (show vwCl[11]? = some (RX12, TX12, 46) from rfl) rfl ⟨Nat.le_of_ble_eq_true rfl, Nat.le_of_ble_eq_true rfl⟩ ⟨Nat.le_refl _, Nat.le_refl _⟩ rfl (Nat.le_of_ble_eq_true rfl) dX12_play_24) hI (by decide) (fun r_29 σ_30 H locs hpσ_30 hkσ_30 hI => ?_)
    obtain ⟨ahpσ_30, bhpσ_30, chpσ_30⟩ := hpσ_30
    have fr_σ_30 := fr_σ_2.call chpσ_30 rfl rfl
    replace hF := q_biX hF bhpσ_30
    have mcσ_30 := m_cK hkσ_30 hI.1 ha (by decide)
    have gσ_30 : m_G (m_c X σ_30 a) := m_G.ext (fun j _ _ => mcσ_30 j) gσ_2
    have wσ_30 : m_W (m_c X σ_30 a) n := m_W.ext (fun j _ _ => mcσ_30 j) wσ_2
    have kqσ_30 : ∀ j, 654 ≤ j → m_c X σ_30 a j = m_c X σ a j := fun j h => (mcσ_30 j).trans (kqσ_2 j h)
    have fxσ_30 : m_c X σ_30 a = m_c X σ a := (funext mcσ_30).trans fxσ_2
    exact q_reti E hr hlk hI ⟨gσ_30, (by first | exact m_W.le vσ_30 (by omega) | exact m_W.le wσ_30 (by first | (clear hn gσ wσ hh gσ_1 wσ_1 gσ_2 wσ_2 ggy_3 iy_3 kc_4 kc_5 ahpσ_7 bhpσ_7 dhpσ_7 c_8 chpσ_7 kc_28 ahpσ_30 bhpσ_30 chpσ_30 gσ_30 wσ_30; omega) | omega)), (fun j h0 h1 => kqσ_30 j (by first | (clear hn gσ wσ hh gσ_1 wσ_1 gσ_2 wσ_2 ggy_3 iy_3 kc_4 kc_5 ahpσ_7 bhpσ_7 dhpσ_7 c_8 chpσ_7 kc_28 ahpσ_30 bhpσ_30 chpσ_30 gσ_30 wσ_30; omega) | omega)), (hF.trans hout), fr_σ_30⟩ dX12_play_27

set_option maxRecDepth 100000 in
set_option maxHeartbeats 4000000 in
theorem c_X12_tries (l : Launch) (X : XW) (σ : ST) (a : Nat) (v1 : Int32) (v2 : Int32) (v3 : Int32) (v4 : Int32) (n : Int) (ha : q_kd X a = 12) (hG : m_G (m_c X σ a)) (hW : m_W (m_c X σ a) n) (hn : 0 ≤ n ∧ n ≤ 199000) : Met l yX12_tries (q_ws yX12_tries cX12_tries 8 (some .boolean)) (q_rm 69 1612) (q_P X σ [.ref a, .int v1, .int v2, .int v3, .int v4]) (q_Qi X 1 σ (fun (r : Int32) (σ' : ST) => (0 ≤ r.toInt ∧ r.toInt ≤ 1) ∧ (m_c X σ' a = m_c X σ a) ∧ (r, σ') = F_X12_tries X σ a v1 v2 v3 v4 ∧ q_ow [(12, 0), (12, 1), (12, 38), (12, 39), (12, 40), (12, 41), (12, 42), (12, 43), (12, 44), (12, 45), (34, 99), (35, 99), (39, 99)] [(12, 2), (12, 3)] X σ σ')) 0 0 (q_reg X) := by
  refine q_met 1 (by first | exact rfl | decide +kernel) rfl (Nat.le_of_ble_eq_true rfl) (fun p e s m below meth c E hml hr hlk hI ls hl => ?_)
  have hx := E.1
  have hb := E.2.1
  have hl : lv_has ls 8 [(0, .ref a), (1, .int v1), (2, .int v2), (3, .int v3), (4, .int v4)] := hl
  have fxσ : m_c X σ a = m_c X σ a := rfl
  have fr_σ : q_ow [(12, 0), (12, 1), (12, 38), (12, 39), (12, 40), (12, 41), (12, 42), (12, 43), (12, 44), (12, 45), (34, 99), (35, 99), (39, 99)] [(12, 2), (12, 3)] X σ σ := q_ow.rf
  have hh := hG.hd
  obtain ⟨out, hout⟩ : ∃ o, o = F_X12_tries X σ a v1 v2 v3 v4 := ⟨_, rfl⟩
  have hF := hout.symm
  unfold F_X12_tries at hF
  refine lv_aload_n hx hb dX12_tries_0 rfl (lv_at hl 0 rfl) ?_
  refine lv_iconst (v := 0) hx hb dX12_tries_1 (by decide) ?_
  refine ps_X12_59_12 E hI ha (by decide) dX12_tries_2 (fun H locs σ_1 hσ_1 hI => ?_)
  replace hF := q_letX hF hσ_1
  have fr_σ_1 := fr_σ.si hσ_1 ha rfl
  have mcσ_1 := m_wo hσ_1 (m_ne ha (q_tk (f := 20) (k' := 34) hI ha rfl (by decide)) (by decide))
  have fxσ_1 : m_c X σ_1 a = m_c X σ a := (funext mcσ_1).trans fxσ
  refine lv_aload_n hx hb dX12_tries_5 rfl (lv_at hl 0 rfl) ?_
  refine lv_iconst (v := 0) hx hb dX12_tries_6 (by decide) ?_
  refine ps_X12_62_12 E hI ha (by decide) dX12_tries_7 (fun H locs σ_2 hσ_2 hI => ?_)
  replace hF := q_letX hF hσ_2
  have fr_σ_2 := fr_σ_1.si hσ_2 ha rfl
  have mcσ_2 := m_wo hσ_2 (m_ne ha (q_tk (f := 20) (k' := 34) hI ha rfl (by decide)) (by decide))
  have fxσ_2 : m_c X σ_2 a = m_c X σ a := (funext mcσ_2).trans fxσ_1
  refine lv_aload_n hx hb dX12_tries_10 rfl (lv_at hl 0 rfl) ?_
  refine lv_iload_n hx hb dX12_tries_11 rfl (lv_at hl 1 rfl) ?_
  refine q_ci (q_runV (As := [.int v1]) (rest := []) E (hml.trans hl.1.symm) hI (c_X12_isPlayerAt l X σ_2 a v1 ha (by rw [fxσ_2]; exact hG)) kv_X12_290 ha ⟨rfl, by decide⟩ (show vwCl[11]? = some (RX12, TX12, 46) from rfl) rfl ⟨Nat.le_of_ble_eq_true rfl, Nat.le_of_ble_eq_true rfl⟩ ⟨Nat.le_refl _, Nat.le_refl _⟩ rfl (Nat.le_of_ble_eq_true rfl) dX12_tries_12) hI (by decide) (fun r_3 σ_4 H locs hpσ_4 hkσ_4 hI => ?_)
  obtain ⟨ahpσ_4, bhpσ_4, chpσ_4, dhpσ_4⟩ := hpσ_4
  rw [ahpσ_4] at hI
  rw [fxσ_2] at chpσ_4
  replace hF := q_letX hF dhpσ_4
  refine q_if_ne (A := r_3.toInt) E rfl (tgt := 24) dX12_tries_15 (by decide) (fun c_5 => ?_) (fun c_5 => ?_)
  · skip
    replace hF := q_ifn hF c_5
    replace c_5 := q_ifOne bhpσ_4 c_5
    replace chpσ_4 := q_ifYes chpσ_4 c_5
    refine lv_iload_n hx hb dX12_tries_24 rfl (lv_at hl 3 rfl) ?_
    refine lv_i2l hx hb dX12_tries_25 rfl ?_
    refine lv_topl (fun y_6 ey_6 => ?_)
    replace hF := q_letX hF ey_6
    have ggy_6 := q_rng v3
    have iy_6 : y_6.toInt = v3.toInt := by rw [ey_6]; exact (q_i2l _).trans rfl
    refine lv_lconst (v := 1) hx hb dX12_tries_26 (by decide) ?_
    refine lv_ldc2 (v := 20) hx hb E.2.2.1 (E.2.2.2.1 _ (q_in_t9 (i := 191) (by first | rfl | decide +kernel) rfl)) dX12_tries_27 ?_
    have kc_7 : (1 : Int64).toInt = 1 := rfl
    have kc_8 : (20 : Int64).toInt = 20 := rfl
    refine q_ci (q_runS (As := [.long y_6, .long 1, .long 20]) (rest := []) E (hml.trans hl.1.symm) hI (c_X12_isIn l X σ_2 y_6 (1 : Int64) (20 : Int64)) ks_X12_94 rfl ⟨Nat.le_of_ble_eq_true rfl, Nat.le_of_ble_eq_true rfl⟩ ⟨Nat.le_refl _, Nat.le_refl _⟩ rfl (Nat.le_of_ble_eq_true rfl) dX12_tries_30) hI (by decide) (fun r_9 σ_10 H locs hpσ_10 hkσ_10 hI => ?_)
    obtain ⟨ahpσ_10, bhpσ_10, chpσ_10, dhpσ_10⟩ := hpσ_10
    rw [ahpσ_10] at hI
    replace hF := q_letX hF dhpσ_10
    refine q_if_eq (A := r_9.toInt) E rfl (tgt := 51) dX12_tries_33 (by decide) (fun c_11 => ?_) (fun c_11 => ?_)
    · skip
      replace hF := q_ifp hF c_11
      replace chpσ_10 := q_ifNo chpσ_10 c_11
      refine lv_aload_n hx hb dX12_tries_51 rfl (lv_at hl 0 rfl) ?_
      refine lv_iconst (v := 5) hx hb dX12_tries_52 (by decide) ?_
      have kc_12 : (5 : Int32).toInt = 5 := rfl
      refine q_ci (q_runV (As := [.int 5]) (rest := []) E (hml.trans hl.1.symm) hI (c_X12_no l X σ_2 a (5 : Int32) ha) kv_X12_74 ha ⟨rfl, by decide⟩ (show vwCl[11]? = some (RX12, TX12, 46) from rfl) rfl ⟨Nat.le_of_ble_eq_true rfl, Nat.le_of_ble_eq_true rfl⟩ ⟨Nat.le_refl _, Nat.le_refl _⟩ rfl (Nat.le_of_ble_eq_true rfl) dX12_tries_53) hI (by decide) (fun r_13 σ_14 H locs hpσ_14 hkσ_14 hI => ?_)
      obtain ⟨ahpσ_14, bhpσ_14, chpσ_14, dhpσ_14⟩ := hpσ_14
      have fr_σ_14 := fr_σ_2.call dhpσ_14 rfl rfl
      replace hF := q_biX hF chpσ_14
      have mcσ_14 := m_cK hkσ_14 hI.1 ha (by decide)
      have fxσ_14 : m_c X σ_14 a = m_c X σ a := (funext mcσ_14).trans fxσ_2
      exact q_retz E hr hlk hI ⟨by omega, by omega⟩ ⟨⟨by omega, by omega⟩, fxσ_14, (hF.trans hout), fr_σ_14⟩ dX12_tries_56
    · skip
      replace hF := q_ifn hF c_11
      replace c_11 := q_ifOne bhpσ_10 c_11
      replace chpσ_10 := q_ifYes chpσ_10 c_11
      refine lv_iload_n hx hb dX12_tries_36 rfl (lv_at hl 2 rfl) ?_
      refine lv_i2l hx hb dX12_tries_37 rfl ?_
      refine lv_topl (fun y_15 ey_15 => ?_)
      replace hF := q_letX hF ey_15
      have ggy_15 := q_rng v2
      have iy_15 : y_15.toInt = v2.toInt := by rw [ey_15]; exact (q_i2l _).trans rfl
      refine lv_lconst (v := 0) hx hb dX12_tries_38 (by decide) ?_
      refine lv_sipush (v := 10000) hx hb dX12_tries_39 (by decide) ?_
      refine lv_iload_n hx hb dX12_tries_42 rfl (lv_at hl 3 rfl) ?_
      refine lv_isub hx hb dX12_tries_43 ?_
      refine lv_topi (fun z_16 ez_16 => ?_)
      replace hF := q_letX hF ez_16
      refine lv_i2l hx hb dX12_tries_44 rfl ?_
      refine lv_topl (fun y_17 ey_17 => ?_)
      replace hF := q_letX hF ey_17
      have ggy_17 := q_rng z_16
      have iy_17 : y_17.toInt = z_16.toInt := by rw [ey_17]; exact (q_i2l _).trans rfl
      have kc_18 : (0 : Int64).toInt = 0 := rfl
      refine q_ci (q_runS (As := [.long y_15, .long 0, .long y_17]) (rest := []) E (hml.trans hl.1.symm) hI (c_X12_isIn l X σ_2 y_15 (0 : Int64) y_17) ks_X12_94 rfl ⟨Nat.le_of_ble_eq_true rfl, Nat.le_of_ble_eq_true rfl⟩ ⟨Nat.le_refl _, Nat.le_refl _⟩ rfl (Nat.le_of_ble_eq_true rfl) dX12_tries_45) hI (by decide) (fun r_19 σ_20 H locs hpσ_20 hkσ_20 hI => ?_)
      obtain ⟨ahpσ_20, bhpσ_20, chpσ_20, dhpσ_20⟩ := hpσ_20
      rw [ahpσ_20] at hI
      replace hF := q_letX hF dhpσ_20
      refine q_if_ne (A := r_19.toInt) E rfl (tgt := 57) dX12_tries_48 (by decide) (fun c_21 => ?_) (fun c_21 => ?_)
      · skip
        replace hF := q_ifn hF c_21
        replace c_21 := q_ifOne bhpσ_20 c_21
        replace chpσ_20 := q_ifYes chpσ_20 c_21
        refine lv_aload_n hx hb dX12_tries_57 rfl (lv_at hl 0 rfl) ?_
        refine gs_X12_35_12 E hI ha dX12_tries_58 ?_
        refine lv_sipush (v := 654) hx hb dX12_tries_61 (by decide) ?_
        refine q_iald E hI (q_tk (k' := 34) hI ha rfl (by decide)) ⟨by decide, rfl⟩ (by decide) (by rw [q_lnk (v := 4650) hI (q_tk (k' := 34) hI ha rfl (by decide)) rfl (by decide)]; decide) dX12_tries_64 ?_
        refine lv_topi (fun f_22 ef_22 => ?_)
        replace hF := q_letX hF ef_22
        have if_22 : f_22.toInt = m_c X σ a 654 := (m_rd ef_22 (by decide)).trans (congrFun fxσ_2 _)
        refine q_if_ne (A := f_22.toInt) E rfl (tgt := 75) dX12_tries_65 (by decide) (fun c_23 => ?_) (fun c_23 => ?_)
        · skip
          replace hF := q_ifn hF c_23
          refine lv_iconst (v := 0) hx hb dX12_tries_75 (by decide) ?_
          refine lv_istore (lv' := [(5, .int 0), (0, .ref a), (1, .int v1), (2, .int v2), (3, .int v3), (4, .int v4)]) hx hb dX12_tries_76 hl (by decide) rfl (fun ls hl => ?_)
          have L_78_26 : ∀ (k_26 : Nat) (x_24 : Int32) (σ_25 : ST) (H : Heap) (locs : List Loc) (ls : Array Slot), (2147483647 - x_24.toInt).toNat < k_26 → (0 ≤ x_24.toInt ∧ x_24.toInt ≤ 654) → (∀ j, 0 ≤ j → j < x_24.toInt → m_of σ_25 (q_rf X a 21) j = m_c X σ a j) → (q_ow [(12, 0), (12, 1), (12, 38), (12, 39), (12, 40), (12, 41), (12, 42), (12, 43), (12, 44), (12, 45), (34, 99), (35, 99), (39, 99)] [(12, 2), (12, 3)] X σ σ_25) → (m_c X σ_25 a = m_c X σ a) → (F_X12_tries_L78_1 X a v3 v2 v4 v1 k_26 x_24 σ_25 = out) → q_I X 1 σ s.heap locs σ_25 H → lv_has ls 8 [(0, .ref a), (1, .int v1), (2, .int v2), (3, .int v3), (4, .int v4), (5, .int x_24)] → W p l e (q_rm 69 1612) s m ([.ref a, .int v1, .int v2, .int v3, .int v4] : List Value).toArray below meth c H locs 0 0 (MQ below (q_Qi X 1 σ (fun (r : Int32) (σ' : ST) => (0 ≤ r.toInt ∧ r.toInt ≤ 1) ∧ (m_c X σ' a = m_c X σ a) ∧ (r, σ') = F_X12_tries X σ a v1 v2 v3 v4 ∧ q_ow [(12, 0), (12, 1), (12, 38), (12, 39), (12, 40), (12, 41), (12, 42), (12, 43), (12, 44), (12, 45), (34, 99), (35, 99), (39, 99)] [(12, 2), (12, 3)] X σ σ')) ([.ref a, .int v1, .int v2, .int v3, .int v4] : List Value).toArray s 0 0 (q_reg X)) (F0 m 78 ls []) := by
            clear hF
            intro k_26
            induction k_26 with
            | zero =>
              intro x_24 σ_25 H locs ls hms
              exact absurd hms (Nat.not_lt_zero _)
            | succ k_26 ih78 =>
              intro x_24 σ_25 H locs ls hm78 hge78 klσ_25 fr_σ_25 fxσ_25 hF hI hl
              replace hF := (F_X12_tries_L78_1_s).symm.trans hF
              unfold F_X12_tries_B78_1 at hF
              refine lv_iload hx hb dX12_tries_78 (lv_at hl 5 rfl) ?_
              refine lv_sipush (v := 654) hx hb dX12_tries_80 (by decide) ?_
              have gc_27_x_24 := q_rng x_24
              refine q_icmp_ge (A := x_24.toInt) (B := 654) E rfl (by decide) (tgt := 106) dX12_tries_83 (by decide) (fun c_27 => ?_) (fun c_27 => ?_)
              · skip
                replace hF := q_ifn hF (Int.not_lt.mpr c_27)
                skip
                have kfσ_25 : ∀ j, 0 ≤ j → j < 654 → m_of σ_25 (q_rf X a 21) j = m_c X σ a j := fun j h0 h1 => klσ_25 j h0 (by first | (clear hn hh ahpσ_4 bhpσ_4 dhpσ_4 c_5 chpσ_4 ggy_6 iy_6 kc_7 kc_8 ahpσ_10 bhpσ_10 dhpσ_10 c_11 chpσ_10 ggy_15 iy_15 ggy_17 iy_17 kc_18 ahpσ_20 bhpσ_20 dhpσ_20 c_21 chpσ_20 if_22 c_23 hm78 gc_27_x_24; omega) | omega)
                refine lv_iconst (v := 0) hx hb dX12_tries_106 (by decide) ?_
                refine lv_istore (lv' := [(5, .int 0), (0, .ref a), (1, .int v1), (2, .int v2), (3, .int v3), (4, .int v4)]) hx hb dX12_tries_107 hl (by decide) rfl (fun ls hl => ?_)
                refine lv_iconst (v := 0) hx hb dX12_tries_109 (by decide) ?_
                refine lv_istore (lv' := [(6, .int 0), (5, .int 0), (0, .ref a), (1, .int v1), (2, .int v2), (3, .int v3), (4, .int v4)]) hx hb dX12_tries_110 hl (by decide) rfl (fun ls hl => ?_)
                have L_112_31 : ∀ (k_31 : Nat) (x_28 : Int32) (x_29 : Int32) (σ_30 : ST) (H : Heap) (locs : List Loc) (ls : Array Slot), (2147483647 - x_29.toInt).toNat < k_31 → (0 ≤ x_29.toInt) → (q_ow [(12, 0), (12, 1), (12, 38), (12, 39), (12, 40), (12, 41), (12, 42), (12, 43), (12, 44), (12, 45), (34, 99), (35, 99), (39, 99)] [(12, 2), (12, 3)] X σ σ_30) → (m_c X σ_30 a = m_c X σ a) → (∀ j, 0 ≤ j → j < 654 → m_of σ_30 (q_rf X a 21) j = m_c X σ a j) → (F_X12_tries_L112_3 X v3 v2 a v4 v1 k_31 x_28 x_29 σ_30 = out) → q_I X 1 σ s.heap locs σ_30 H → lv_has ls 8 [(0, .ref a), (1, .int v1), (2, .int v2), (3, .int v3), (4, .int v4), (5, .int x_28), (6, .int x_29)] → W p l e (q_rm 69 1612) s m ([.ref a, .int v1, .int v2, .int v3, .int v4] : List Value).toArray below meth c H locs 0 0 (MQ below (q_Qi X 1 σ (fun (r : Int32) (σ' : ST) => (0 ≤ r.toInt ∧ r.toInt ≤ 1) ∧ (m_c X σ' a = m_c X σ a) ∧ (r, σ') = F_X12_tries X σ a v1 v2 v3 v4 ∧ q_ow [(12, 0), (12, 1), (12, 38), (12, 39), (12, 40), (12, 41), (12, 42), (12, 43), (12, 44), (12, 45), (34, 99), (35, 99), (39, 99)] [(12, 2), (12, 3)] X σ σ')) ([.ref a, .int v1, .int v2, .int v3, .int v4] : List Value).toArray s 0 0 (q_reg X)) (F0 m 112 ls []) := by
                  clear hF
                  intro k_31
                  induction k_31 with
                  | zero =>
                    intro x_28 x_29 σ_30 H locs ls hms
                    try clear kfσ_25
                    exact absurd hms (Nat.not_lt_zero _)
                  | succ k_31 ih112 =>
                    intro x_28 x_29 σ_30 H locs ls hm112 hge112 fr_σ_30 fxσ_30 kfσ_30 hF hI hl
                    replace hF := (F_X12_tries_L112_3_s).symm.trans hF
                    unfold F_X12_tries_B112_3 at hF
                    refine lv_iload hx hb dX12_tries_112 (lv_at hl 6 rfl) ?_
                    refine lv_iload_n hx hb dX12_tries_114 rfl (lv_at hl 3 rfl) ?_
                    have gc_32_x_29 := q_rng x_29
                    have gc_32_v3 := q_rng v3
                    refine q_icmp_ge (A := x_29.toInt) (B := v3.toInt) E rfl rfl (tgt := 197) dX12_tries_115 (by decide) (fun c_32 => ?_) (fun c_32 => ?_)
                    · skip
                      replace hF := q_ifn hF (Int.not_lt.mpr c_32)
                      unfold F_X12_tries_E197_4 at hF
                      refine lv_aload_n hx hb dX12_tries_197 rfl (lv_at hl 0 rfl) ?_
                      refine lv_iload hx hb dX12_tries_198 (lv_at hl 5 rfl) ?_
                      refine lv_i2l hx hb dX12_tries_200 rfl ?_
                      refine lv_topl (fun y_33 ey_33 => ?_)
                      replace hF := q_letX hF ey_33
                      have ggy_33 := q_rng x_28
                      have iy_33 : y_33.toInt = x_28.toInt := by rw [ey_33]; exact (q_i2l _).trans rfl
                      refine lv_iload_n hx hb dX12_tries_201 rfl (lv_at hl 3 rfl) ?_
                      refine lv_i2l hx hb dX12_tries_202 rfl ?_
                      refine lv_topl (fun y_34 ey_34 => ?_)
                      replace hF := q_letX hF ey_34
                      have ggy_34 := q_rng v3
                      have iy_34 : y_34.toInt = v3.toInt := by rw [ey_34]; exact (q_i2l _).trans rfl
                      refine q_ci (q_runV (As := [.long y_33, .long y_34]) (rest := []) E (hml.trans hl.1.symm) hI (c_X12_fraction l X σ_30 a y_33 y_34 ha (by first | (clear hn hh ahpσ_4 bhpσ_4 dhpσ_4 c_5 chpσ_4 ggy_6 ahpσ_10 bhpσ_10 dhpσ_10 c_11 ggy_15 iy_15 ggy_17 iy_17 kc_18 ahpσ_20 bhpσ_20 dhpσ_20 c_21 chpσ_20 if_22 c_23 hm78 hge78 gc_27_x_24 c_27 hm112 hge112 gc_32_x_29 gc_32_v3 c_32 ggy_33 iy_33 ggy_34; omega) | omega)) kv_X12_361 ha ⟨rfl, by decide⟩ (show vwCl[11]? = some (RX12, TX12, 46) from rfl) rfl ⟨Nat.le_of_ble_eq_true rfl, Nat.le_of_ble_eq_true rfl⟩ ⟨Nat.le_refl _, Nat.le_refl _⟩ rfl (Nat.le_of_ble_eq_true rfl) dX12_tries_203) hI (by decide) (fun r_35 σ_36 H locs hpσ_36 hkσ_36 hI => ?_)
                      obtain ⟨ahpσ_36, bhpσ_36, chpσ_36⟩ := hpσ_36
                      have fr_σ_36 := fr_σ_30.call chpσ_36 rfl rfl
                      replace hF := q_biX hF bhpσ_36
                      have mcσ_36 := m_cK hkσ_36 hI.1 ha (by decide)
                      have fxσ_36 : m_c X σ_36 a = m_c X σ a := (funext mcσ_36).trans fxσ_30
                      exact q_retz E hr hlk hI ⟨by omega, by omega⟩ ⟨⟨by omega, by omega⟩, fxσ_36, (hF.trans hout), fr_σ_36⟩ dX12_tries_206
                    · skip
                      replace hF := q_ifp hF c_32
                      refine lv_aload_n hx hb dX12_tries_118 rfl (lv_at hl 0 rfl) ?_
                      refine lv_iload_n hx hb dX12_tries_119 rfl (lv_at hl 2 rfl) ?_
                      refine lv_iload hx hb dX12_tries_120 (lv_at hl 6 rfl) ?_
                      refine lv_iadd hx hb dX12_tries_122 ?_
                      refine lv_topi (fun z_37 ez_37 => ?_)
                      replace hF := q_letX hF ez_37
                      refine q_cv (q_runV (As := [.int z_37]) (rest := []) E (hml.trans hl.1.symm) hI (c_X12_plays l X σ_30 a z_37 n ha (by rw [fxσ_30]; exact hG) (by rw [fxσ_30]; exact hW) (by first | (clear hh ahpσ_4 bhpσ_4 dhpσ_4 c_5 chpσ_4 ggy_6 iy_6 kc_7 kc_8 ahpσ_10 bhpσ_10 dhpσ_10 c_11 chpσ_10 ggy_15 iy_15 ggy_17 iy_17 kc_18 ahpσ_20 bhpσ_20 dhpσ_20 c_21 chpσ_20 if_22 c_23 hm78 hge78 gc_27_x_24 c_27 hm112 hge112 gc_32_x_29 gc_32_v3 c_32; omega) | omega)) kv_X12_443 ha ⟨rfl, by decide⟩ (show vwCl[11]? = some (RX12, TX12, 46) from rfl) rfl ⟨Nat.le_of_ble_eq_true rfl, Nat.le_of_ble_eq_true rfl⟩ ⟨Nat.le_refl _, Nat.le_refl _⟩ rfl (Nat.le_of_ble_eq_true rfl) dX12_tries_123) hI (by decide) (fun σ_39 H locs hpσ_39 hkσ_39 hI => ?_)
                      obtain ⟨ahpσ_39, bhpσ_39, chpσ_39, dhpσ_39, ehpσ_39, fhpσ_39⟩ := hpσ_39
                      have fr_σ_39 := fr_σ_30.call fhpσ_39 rfl rfl
                      replace hF := q_letX hF ehpσ_39
                      have gσ_39 : m_G (m_c X σ_39 a) := ahpσ_39
                      have kqσ_39 : ∀ j, 654 ≤ j → m_c X σ_39 a j = m_c X σ a j := (fun j h => (chpσ_39 j h).trans (congrFun fxσ_30 j))
                      have kfσ_39 : ∀ j, 0 ≤ j → j < 654 → m_of σ_39 (q_rf X a 21) j = m_c X σ a j := (fun j h0 h1 => (congrArg Int32.toInt (dhpσ_39 (q_rf X a 21) j.toNat (q_tk (k' := 35) hI ha rfl (by decide)))).trans (kfσ_30 j h0 h1))
                      refine lv_iload hx hb dX12_tries_126 (lv_at hl 5 rfl) ?_
                      refine lv_iload hx hb dX12_tries_128 (lv_at hl 4 rfl) ?_
                      refine q_if_eq (A := v4.toInt) E rfl (tgt := 152) dX12_tries_130 (by decide) (fun c_40 => ?_) (fun c_40 => ?_)
                      · skip
                        replace hF := q_ifp hF c_40
                        refine lv_aload_n hx hb dX12_tries_152 rfl (lv_at hl 0 rfl) ?_
                        refine lv_iload_n hx hb dX12_tries_153 rfl (lv_at hl 1 rfl) ?_
                        refine q_ci (q_runV (As := [.int v1]) (rest := [.int x_28]) E (hml.trans hl.1.symm) hI (c_X12_cardsOf l X σ_39 a v1 ha gσ_39 (by first | (clear hn ahpσ_4 bhpσ_4 dhpσ_4 c_5 ggy_6 iy_6 kc_7 kc_8 ahpσ_10 bhpσ_10 dhpσ_10 c_11 chpσ_10 ggy_15 iy_15 ggy_17 iy_17 kc_18 ahpσ_20 bhpσ_20 dhpσ_20 c_21 chpσ_20 if_22 c_23 hm78 hge78 gc_27_x_24 c_27 hm112 hge112 gc_32_x_29 gc_32_v3 c_32 ahpσ_39 bhpσ_39 chpσ_39 dhpσ_39 ehpσ_39 fhpσ_39 gσ_39 c_40; omega) | omega)) kv_X12_293 ha ⟨rfl, by decide⟩ (show vwCl[11]? = some (RX12, TX12, 46) from rfl) rfl ⟨Nat.le_of_ble_eq_true rfl, Nat.le_of_ble_eq_true rfl⟩ ⟨Nat.le_refl _, Nat.le_refl _⟩ rfl (Nat.le_of_ble_eq_true rfl) dX12_tries_154) hI (by decide) (fun r_41 σ_42 H locs hpσ_42 hkσ_42 hI => ?_)
                        obtain ⟨ahpσ_42, bhpσ_42, chpσ_42, dhpσ_42⟩ := hpσ_42
                        rw [ahpσ_42] at hI
                        replace hF := q_letX hF dhpσ_42
                        refine lv_iadd hx hb dX12_tries_157 ?_
                        refine lv_topi (fun z_43 ez_43 => ?_)
                        replace hF := q_letX hF ez_43
                        refine lv_istore (lv' := [(5, .int z_43), (0, .ref a), (1, .int v1), (2, .int v2), (3, .int v3), (4, .int v4), (6, .int x_29)]) hx hb dX12_tries_158 hl (by decide) rfl (fun ls hl => ?_)
                        refine lv_iconst (v := 0) hx hb dX12_tries_160 (by decide) ?_
                        refine lv_istore (lv' := [(7, .int 0), (5, .int z_43), (0, .ref a), (1, .int v1), (2, .int v2), (3, .int v3), (4, .int v4), (6, .int x_29)]) hx hb dX12_tries_161 hl (by decide) rfl (fun ls hl => ?_)
                        have L_163_46 : ∀ (k_46 : Nat) (x_44 : Int32) (σ_45 : ST) (H : Heap) (locs : List Loc) (ls : Array Slot), (2147483647 - x_44.toInt).toNat < k_46 → (0 ≤ x_44.toInt ∧ x_44.toInt ≤ 654) → (∀ j, 0 ≤ j → j < x_44.toInt → m_c X σ_45 a j = m_c X σ a j) → (q_ow [(12, 0), (12, 1), (12, 38), (12, 39), (12, 40), (12, 41), (12, 42), (12, 43), (12, 44), (12, 45), (34, 99), (35, 99), (39, 99)] [(12, 2), (12, 3)] X σ σ_45) → (∀ j, 654 ≤ j → m_c X σ_45 a j = m_c X σ a j) → (∀ j, 0 ≤ j → j < 654 → m_of σ_45 (q_rf X a 21) j = m_c X σ a j) → (F_X12_tries_L163_5 X a x_29 (F_X12_tries_L112_3 X v3 v2 a v4 v1 k_31) z_43 k_46 x_44 σ_45 = out) → q_I X 1 σ s.heap locs σ_45 H → lv_has ls 8 [(0, .ref a), (1, .int v1), (2, .int v2), (3, .int v3), (4, .int v4), (5, .int z_43), (6, .int x_29), (7, .int x_44)] → W p l e (q_rm 69 1612) s m ([.ref a, .int v1, .int v2, .int v3, .int v4] : List Value).toArray below meth c H locs 0 0 (MQ below (q_Qi X 1 σ (fun (r : Int32) (σ' : ST) => (0 ≤ r.toInt ∧ r.toInt ≤ 1) ∧ (m_c X σ' a = m_c X σ a) ∧ (r, σ') = F_X12_tries X σ a v1 v2 v3 v4 ∧ q_ow [(12, 0), (12, 1), (12, 38), (12, 39), (12, 40), (12, 41), (12, 42), (12, 43), (12, 44), (12, 45), (34, 99), (35, 99), (39, 99)] [(12, 2), (12, 3)] X σ σ')) ([.ref a, .int v1, .int v2, .int v3, .int v4] : List Value).toArray s 0 0 (q_reg X)) (F0 m 163 ls []) := by
                          clear hF
                          intro k_46
                          induction k_46 with
                          | zero =>
                            intro x_44 σ_45 H locs ls hms
                            try clear ahpσ_42
                            exact absurd hms (Nat.not_lt_zero _)
                          | succ k_46 ih163 =>
                            intro x_44 σ_45 H locs ls hm163 hge163 rsσ_45 fr_σ_45 kqσ_45 kfσ_45 hF hI hl
                            replace hF := (F_X12_tries_L163_5_s).symm.trans hF
                            unfold F_X12_tries_B163_5 at hF
                            refine lv_iload hx hb dX12_tries_163 (lv_at hl 7 rfl) ?_
                            refine lv_sipush (v := 654) hx hb dX12_tries_165 (by decide) ?_
                            have gc_47_x_44 := q_rng x_44
                            refine q_icmp_ge (A := x_44.toInt) (B := 654) E rfl (by decide) (tgt := 191) dX12_tries_168 (by decide) (fun c_47 => ?_) (fun c_47 => ?_)
                            · skip
                              replace hF := q_ifn hF (Int.not_lt.mpr c_47)
                              unfold F_X12_tries_E191_6 at hF
                              have fxσ_45 : m_c X σ_45 a = m_c X σ a := m_c_ext (fun j hj => if h : j < 654 then rsσ_45 j hj (by first | (clear hn hh ahpσ_4 bhpσ_4 dhpσ_4 c_5 chpσ_4 ggy_6 iy_6 kc_7 kc_8 ahpσ_10 bhpσ_10 dhpσ_10 c_11 chpσ_10 ggy_15 iy_15 ggy_17 iy_17 kc_18 ahpσ_20 bhpσ_20 dhpσ_20 c_21 chpσ_20 if_22 c_23 hm78 hge78 gc_27_x_24 c_27 hm112 hge112 gc_32_x_29 gc_32_v3 c_32 ahpσ_39 bhpσ_39 chpσ_39 dhpσ_39 ehpσ_39 fhpσ_39 gσ_39 c_40 bhpσ_42 chpσ_42 dhpσ_42 hm163 gc_47_x_44; omega) | omega) else kqσ_45 j (by first | (clear hn hh ahpσ_4 bhpσ_4 dhpσ_4 c_5 chpσ_4 ggy_6 iy_6 kc_7 kc_8 ahpσ_10 bhpσ_10 dhpσ_10 c_11 chpσ_10 ggy_15 iy_15 ggy_17 iy_17 kc_18 ahpσ_20 bhpσ_20 dhpσ_20 c_21 chpσ_20 if_22 c_23 hm78 hge78 gc_27_x_24 c_27 hm112 hge112 gc_32_x_29 gc_32_v3 c_32 ahpσ_39 bhpσ_39 chpσ_39 dhpσ_39 ehpσ_39 fhpσ_39 gσ_39 c_40 bhpσ_42 chpσ_42 dhpσ_42 hm163 hge163 gc_47_x_44 c_47; omega) | omega))
                              obtain ⟨z_48, ez_48⟩ : ∃ y : Int32, y = x_29 + 1 := ⟨_, rfl⟩
                              replace hF := q_letX hF ez_48
                              refine lv_iinc (v := z_48) (lv' := [(6, .int z_48), (0, .ref a), (1, .int v1), (2, .int v2), (3, .int v3), (4, .int v4), (5, .int z_43), (7, .int x_44)]) hx hb dX12_tries_191 hl (k := 6) rfl (by rw [ez_48]; rfl) (by decide) rfl (fun ls hl => ?_)
                              have iz_48 : z_48.toInt = x_29.toInt + 1 := q_inc ez_48 (by first | (clear hn hh ahpσ_4 bhpσ_4 dhpσ_4 c_5 chpσ_4 ggy_6 kc_7 ahpσ_10 bhpσ_10 dhpσ_10 c_11 ggy_15 iy_15 ggy_17 iy_17 kc_18 ahpσ_20 bhpσ_20 dhpσ_20 c_21 chpσ_20 if_22 c_23 hm78 hge78 gc_27_x_24 c_27 hm112 gc_32_v3 ahpσ_39 bhpσ_39 chpσ_39 dhpσ_39 ehpσ_39 fhpσ_39 gσ_39 c_40 bhpσ_42 chpσ_42 dhpσ_42 hm163 hge163 gc_47_x_44 c_47; omega) | omega)
                              refine lv_goto (tgt := 112) hx hb dX12_tries_194 (by decide) ?_
                              exact ih112 z_43 z_48 σ_45 _ _ ls (by first | (clear hn hh ahpσ_4 bhpσ_4 dhpσ_4 c_5 chpσ_4 ggy_6 kc_7 ahpσ_10 bhpσ_10 dhpσ_10 c_11 ggy_15 iy_15 ggy_17 iy_17 kc_18 ahpσ_20 bhpσ_20 dhpσ_20 c_21 chpσ_20 if_22 c_23 hm78 hge78 gc_27_x_24 c_27 gc_32_v3 ahpσ_39 bhpσ_39 chpσ_39 dhpσ_39 ehpσ_39 fhpσ_39 gσ_39 c_40 bhpσ_42 chpσ_42 dhpσ_42 hm163 gc_47_x_44; omega) | omega) (by first | (clear hn hh ahpσ_4 bhpσ_4 dhpσ_4 c_5 chpσ_4 ggy_6 iy_6 kc_7 kc_8 ahpσ_10 bhpσ_10 dhpσ_10 c_11 chpσ_10 ggy_15 iy_15 ggy_17 iy_17 kc_18 ahpσ_20 bhpσ_20 dhpσ_20 c_21 chpσ_20 if_22 c_23 hm78 hge78 gc_27_x_24 c_27 hm112 gc_32_v3 c_32 ahpσ_39 bhpσ_39 chpσ_39 dhpσ_39 ehpσ_39 fhpσ_39 gσ_39 c_40 bhpσ_42 chpσ_42 dhpσ_42 hm163 hge163 gc_47_x_44 c_47; omega) | omega) fr_σ_45 fxσ_45 kfσ_45 hF hI (lv_sub hl [1, 2, 3, 4, 5, 6, 0] rfl)
                            · skip
                              replace hF := q_ifp hF c_47
                              refine lv_aload_n hx hb dX12_tries_171 rfl (lv_at hl 0 rfl) ?_
                              refine gs_X12_35_12 E hI ha dX12_tries_172 ?_
                              refine lv_iload hx hb dX12_tries_175 (lv_at hl 7 rfl) ?_
                              refine lv_aload_n hx hb dX12_tries_177 rfl (lv_at hl 0 rfl) ?_
                              refine gs_X12_38_12 E hI ha dX12_tries_178 ?_
                              refine lv_iload hx hb dX12_tries_181 (lv_at hl 7 rfl) ?_
                              refine q_iald E hI (q_tk (k' := 35) hI ha rfl (by decide)) ⟨by decide, rfl⟩ (by first | (clear hn hh ahpσ_4 bhpσ_4 dhpσ_4 c_5 chpσ_4 ggy_6 iy_6 kc_7 kc_8 ahpσ_10 bhpσ_10 dhpσ_10 c_11 chpσ_10 ggy_15 iy_15 ggy_17 iy_17 kc_18 ahpσ_20 bhpσ_20 dhpσ_20 c_21 chpσ_20 if_22 c_23 hm78 hge78 gc_27_x_24 c_27 hm112 hge112 gc_32_x_29 gc_32_v3 c_32 ahpσ_39 bhpσ_39 chpσ_39 dhpσ_39 ehpσ_39 fhpσ_39 gσ_39 c_40 bhpσ_42 chpσ_42 dhpσ_42 hm163 gc_47_x_44; omega) | omega) (by rw [q_lnk (v := 654) hI (q_tk (k' := 35) hI ha rfl (by decide)) rfl (by decide)]; omega) dX12_tries_183 ?_
                              refine lv_topi (fun f_49 ef_49 => ?_)
                              replace hF := q_letX hF ef_49
                              have krf_49 : f_49.toInt = m_of σ_45 (q_rf X a 21) x_44.toInt := by rw [ef_49]; rfl
                              refine q_iastN E hI (q_tk (k' := 34) hI ha rfl (by decide)) ⟨by decide, rfl⟩ (by first | (clear hn hh ahpσ_4 bhpσ_4 dhpσ_4 c_5 chpσ_4 ggy_6 iy_6 kc_7 kc_8 ahpσ_10 bhpσ_10 dhpσ_10 c_11 chpσ_10 ggy_15 iy_15 ggy_17 iy_17 kc_18 ahpσ_20 bhpσ_20 dhpσ_20 c_21 chpσ_20 if_22 c_23 hm78 hge78 gc_27_x_24 c_27 hm112 hge112 gc_32_x_29 gc_32_v3 c_32 ahpσ_39 bhpσ_39 chpσ_39 dhpσ_39 ehpσ_39 fhpσ_39 gσ_39 c_40 bhpσ_42 chpσ_42 dhpσ_42 hm163 gc_47_x_44; omega) | omega) (by rw [q_lnk (v := 4650) hI (q_tk (k' := 34) hI ha rfl (by decide)) rfl (by decide)]; omega) (show 1 < 2 by decide) (q_inU rfl) dX12_tries_184 (fun H locs σ_50 hσ_50 hI => ?_)
                              replace hF := q_letX hF hσ_50
                              have fr_σ_50 := fr_σ_45.si hσ_50 (q_tk (k' := 34) hI ha rfl (by decide)) rfl
                              have mcσ_50 := m_wr (v := f_49) (A := x_44.toInt) hσ_50 rfl (by first | (clear hn hh ahpσ_4 bhpσ_4 dhpσ_4 c_5 chpσ_4 ggy_6 iy_6 kc_7 kc_8 ahpσ_10 bhpσ_10 dhpσ_10 c_11 chpσ_10 ggy_15 iy_15 ggy_17 iy_17 kc_18 ahpσ_20 bhpσ_20 dhpσ_20 c_21 chpσ_20 if_22 c_23 hm78 hge78 gc_27_x_24 c_27 hm112 hge112 gc_32_x_29 gc_32_v3 c_32 ahpσ_39 bhpσ_39 chpσ_39 dhpσ_39 ehpσ_39 fhpσ_39 gσ_39 c_40 bhpσ_42 chpσ_42 dhpσ_42 hm163 gc_47_x_44; omega) | omega)
                              have kqσ_50 : ∀ j, 654 ≤ j → m_c X σ_50 a j = m_c X σ a j := fun j h => by rw [mcσ_50 j (by first | (clear hn hh ahpσ_4 bhpσ_4 dhpσ_4 c_5 chpσ_4 ggy_6 iy_6 kc_7 kc_8 ahpσ_10 bhpσ_10 dhpσ_10 c_11 chpσ_10 ggy_15 iy_15 ggy_17 iy_17 kc_18 ahpσ_20 bhpσ_20 dhpσ_20 c_21 chpσ_20 if_22 c_23 hm78 hge78 gc_27_x_24 c_27 hm112 hge112 gc_32_x_29 gc_32_v3 c_32 ahpσ_39 bhpσ_39 chpσ_39 dhpσ_39 ehpσ_39 fhpσ_39 gσ_39 c_40 bhpσ_42 chpσ_42 dhpσ_42 hm163 hge163 gc_47_x_44 c_47; omega) | omega), if_neg (by first | (clear hn hh ahpσ_4 bhpσ_4 dhpσ_4 c_5 chpσ_4 ggy_6 iy_6 kc_7 kc_8 ahpσ_10 bhpσ_10 dhpσ_10 c_11 chpσ_10 ggy_15 iy_15 ggy_17 iy_17 kc_18 ahpσ_20 bhpσ_20 dhpσ_20 c_21 chpσ_20 if_22 c_23 hm78 hge78 gc_27_x_24 c_27 hm112 hge112 gc_32_x_29 gc_32_v3 c_32 ahpσ_39 bhpσ_39 chpσ_39 dhpσ_39 ehpσ_39 fhpσ_39 gσ_39 c_40 bhpσ_42 chpσ_42 dhpσ_42 hm163 gc_47_x_44; omega) | omega)] <;> exact kqσ_45 j h
                              have kfσ_50 : ∀ j, 0 ≤ j → j < 654 → m_of σ_50 (q_rf X a 21) j = m_c X σ a j := fun j h0 h1 => (m_ofo hσ_50 (m_ne (q_tk (f := 21) (k' := 35) hI ha rfl (by decide)) (q_tk (k' := 34) hI ha rfl (by decide)) (by decide)) j).trans (kfσ_45 j h0 h1)
                              have rsσ_50x := rsσ_45
                              have kvσ_50 : (f_49).toInt = m_c X σ a x_44.toInt := by rw [krf_49]; exact kfσ_45 _ (by first | (clear hn hh ahpσ_4 bhpσ_4 dhpσ_4 c_5 chpσ_4 ggy_6 iy_6 kc_7 kc_8 ahpσ_10 bhpσ_10 dhpσ_10 c_11 chpσ_10 ggy_15 iy_15 ggy_17 iy_17 kc_18 ahpσ_20 bhpσ_20 dhpσ_20 c_21 chpσ_20 if_22 c_23 hm78 hge78 gc_27_x_24 c_27 hm112 hge112 gc_32_x_29 gc_32_v3 c_32 ahpσ_39 bhpσ_39 chpσ_39 dhpσ_39 ehpσ_39 fhpσ_39 gσ_39 c_40 bhpσ_42 chpσ_42 dhpσ_42 hm163 gc_47_x_44; omega) | omega) (by omega)
                              obtain ⟨z_51, ez_51⟩ : ∃ y : Int32, y = x_44 + 1 := ⟨_, rfl⟩
                              replace hF := q_letX hF ez_51
                              refine lv_iinc (v := z_51) (lv' := [(7, .int z_51), (0, .ref a), (1, .int v1), (2, .int v2), (3, .int v3), (4, .int v4), (5, .int z_43), (6, .int x_29)]) hx hb dX12_tries_185 hl (k := 7) rfl (by rw [ez_51]; rfl) (by decide) rfl (fun ls hl => ?_)
                              have iz_51 : z_51.toInt = x_44.toInt + 1 := q_inc ez_51 (by first | (clear hn hh ahpσ_4 bhpσ_4 dhpσ_4 c_5 chpσ_4 ggy_6 iy_6 kc_7 kc_8 ahpσ_10 bhpσ_10 dhpσ_10 c_11 chpσ_10 ggy_15 iy_15 ggy_17 iy_17 kc_18 ahpσ_20 bhpσ_20 dhpσ_20 c_21 chpσ_20 if_22 c_23 hm78 hge78 gc_27_x_24 c_27 hm112 hge112 gc_32_x_29 gc_32_v3 c_32 ahpσ_39 bhpσ_39 chpσ_39 dhpσ_39 ehpσ_39 fhpσ_39 gσ_39 c_40 bhpσ_42 chpσ_42 dhpσ_42 hm163 gc_47_x_44; omega) | omega)
                              refine lv_goto (tgt := 163) hx hb dX12_tries_188 (by decide) ?_
                              exact ih163 z_51 σ_50 _ _ ls (by first | (clear hn hh ahpσ_4 bhpσ_4 dhpσ_4 c_5 chpσ_4 ggy_6 iy_6 kc_7 kc_8 ahpσ_10 bhpσ_10 dhpσ_10 c_11 chpσ_10 ggy_15 iy_15 ggy_17 iy_17 kc_18 ahpσ_20 bhpσ_20 dhpσ_20 c_21 chpσ_20 if_22 c_23 hm78 hge78 gc_27_x_24 c_27 hm112 hge112 gc_32_x_29 gc_32_v3 c_32 ahpσ_39 bhpσ_39 chpσ_39 dhpσ_39 ehpσ_39 fhpσ_39 gσ_39 c_40 bhpσ_42 chpσ_42 dhpσ_42 gc_47_x_44; omega) | omega) (by first | (clear hn hh ahpσ_4 bhpσ_4 dhpσ_4 c_5 chpσ_4 ggy_6 iy_6 kc_7 kc_8 ahpσ_10 bhpσ_10 dhpσ_10 c_11 chpσ_10 ggy_15 iy_15 ggy_17 iy_17 kc_18 ahpσ_20 bhpσ_20 dhpσ_20 c_21 chpσ_20 if_22 c_23 hm78 hge78 gc_27_x_24 c_27 hm112 hge112 gc_32_x_29 gc_32_v3 c_32 ahpσ_39 bhpσ_39 chpσ_39 dhpσ_39 ehpσ_39 fhpσ_39 gσ_39 c_40 bhpσ_42 chpσ_42 dhpσ_42 hm163 gc_47_x_44; omega) | omega) (fun j h0 h1 => (by rw [mcσ_50 j h0]; split; (rename_i q; rw [q]; exact kvσ_50); exact rsσ_50x j h0 (by first | (clear hn hh ahpσ_4 bhpσ_4 dhpσ_4 c_5 chpσ_4 ggy_6 iy_6 kc_7 kc_8 ahpσ_10 bhpσ_10 dhpσ_10 c_11 chpσ_10 ggy_15 iy_15 ggy_17 iy_17 kc_18 ahpσ_20 bhpσ_20 dhpσ_20 c_21 chpσ_20 if_22 c_23 hm78 hge78 gc_27_x_24 c_27 hm112 hge112 gc_32_x_29 gc_32_v3 c_32 ahpσ_39 bhpσ_39 chpσ_39 dhpσ_39 ehpσ_39 fhpσ_39 gσ_39 c_40 bhpσ_42 chpσ_42 dhpσ_42 hm163 hge163 gc_47_x_44 c_47; omega) | omega))) fr_σ_50 kqσ_50 kfσ_50 hF hI (lv_sub hl [1, 2, 3, 4, 5, 6, 7, 0] rfl)
                        have kc_52 : (0 : Int32).toInt = 0 := rfl
                        exact L_163_46 ((2147483647 - (0 : Int32).toInt).toNat + 1) 0 σ_39 _ _ ls (Nat.lt_succ_self _) (by decide) (fun j h0 h1 => by have q : (0 : Int32).toInt = 0 := rfl; omega) fr_σ_39 kqσ_39 kfσ_39 hF hI (lv_sub hl [2, 3, 4, 5, 6, 1, 7, 0] rfl)
                      · skip
                        replace hF := q_ifn hF c_40
                        refine lv_aload_n hx hb dX12_tries_133 rfl (lv_at hl 0 rfl) ?_
                        refine gs_X12_35_12 E hI ha dX12_tries_134 ?_
                        refine lv_bipush (v := 8) hx hb dX12_tries_137 (by decide) ?_
                        refine q_iald E hI (q_tk (k' := 34) hI ha rfl (by decide)) ⟨by decide, rfl⟩ (by decide) (by rw [q_lnk (v := 4650) hI (q_tk (k' := 34) hI ha rfl (by decide)) rfl (by decide)]; decide) dX12_tries_139 ?_
                        refine lv_topi (fun f_53 ef_53 => ?_)
                        replace hF := q_letX hF ef_53
                        have if_53 : f_53.toInt = m_c X σ_39 a 8 := m_rd ef_53 (by decide)
                        refine lv_iload_n hx hb dX12_tries_140 rfl (lv_at hl 1 rfl) ?_
                        have gc_54_f_53 := q_rng f_53
                        have gc_54_v1 := q_rng v1
                        refine q_icmp_ne (A := f_53.toInt) (B := v1.toInt) E rfl rfl (tgt := 148) dX12_tries_141 (by decide) (fun c_54 => ?_) (fun c_54 => ?_)
                        · skip
                          replace hF := q_ifn hF c_54
                          refine lv_iconst (v := 0) hx hb dX12_tries_148 (by decide) ?_
                          refine lv_goto (tgt := 157) hx hb dX12_tries_149 (by decide) ?_
                          refine lv_iadd hx hb dX12_tries_157 ?_
                          refine lv_topi (fun z_55 ez_55 => ?_)
                          replace hF := q_letX hF ez_55
                          refine lv_istore (lv' := [(5, .int z_55), (0, .ref a), (1, .int v1), (2, .int v2), (3, .int v3), (4, .int v4), (6, .int x_29)]) hx hb dX12_tries_158 hl (by decide) rfl (fun ls hl => ?_)
                          refine lv_iconst (v := 0) hx hb dX12_tries_160 (by decide) ?_
                          refine lv_istore (lv' := [(7, .int 0), (5, .int z_55), (0, .ref a), (1, .int v1), (2, .int v2), (3, .int v3), (4, .int v4), (6, .int x_29)]) hx hb dX12_tries_161 hl (by decide) rfl (fun ls hl => ?_)
                          have L_163_58 : ∀ (k_58 : Nat) (x_56 : Int32) (σ_57 : ST) (H : Heap) (locs : List Loc) (ls : Array Slot), (2147483647 - x_56.toInt).toNat < k_58 → (0 ≤ x_56.toInt ∧ x_56.toInt ≤ 654) → (∀ j, 0 ≤ j → j < x_56.toInt → m_c X σ_57 a j = m_c X σ a j) → (q_ow [(12, 0), (12, 1), (12, 38), (12, 39), (12, 40), (12, 41), (12, 42), (12, 43), (12, 44), (12, 45), (34, 99), (35, 99), (39, 99)] [(12, 2), (12, 3)] X σ σ_57) → (∀ j, 654 ≤ j → m_c X σ_57 a j = m_c X σ a j) → (∀ j, 0 ≤ j → j < 654 → m_of σ_57 (q_rf X a 21) j = m_c X σ a j) → (F_X12_tries_L163_7 X a x_29 (F_X12_tries_L112_3 X v3 v2 a v4 v1 k_31) z_55 k_58 x_56 σ_57 = out) → q_I X 1 σ s.heap locs σ_57 H → lv_has ls 8 [(0, .ref a), (1, .int v1), (2, .int v2), (3, .int v3), (4, .int v4), (5, .int z_55), (6, .int x_29), (7, .int x_56)] → W p l e (q_rm 69 1612) s m ([.ref a, .int v1, .int v2, .int v3, .int v4] : List Value).toArray below meth c H locs 0 0 (MQ below (q_Qi X 1 σ (fun (r : Int32) (σ' : ST) => (0 ≤ r.toInt ∧ r.toInt ≤ 1) ∧ (m_c X σ' a = m_c X σ a) ∧ (r, σ') = F_X12_tries X σ a v1 v2 v3 v4 ∧ q_ow [(12, 0), (12, 1), (12, 38), (12, 39), (12, 40), (12, 41), (12, 42), (12, 43), (12, 44), (12, 45), (34, 99), (35, 99), (39, 99)] [(12, 2), (12, 3)] X σ σ')) ([.ref a, .int v1, .int v2, .int v3, .int v4] : List Value).toArray s 0 0 (q_reg X)) (F0 m 163 ls []) := by
                            clear hF
                            intro k_58
                            induction k_58 with
                            | zero =>
                              intro x_56 σ_57 H locs ls hms
                              exact absurd hms (Nat.not_lt_zero _)
                            | succ k_58 ih163 =>
                              intro x_56 σ_57 H locs ls hm163 hge163 rsσ_57 fr_σ_57 kqσ_57 kfσ_57 hF hI hl
                              replace hF := (F_X12_tries_L163_7_s).symm.trans hF
                              unfold F_X12_tries_B163_7 at hF
                              refine lv_iload hx hb dX12_tries_163 (lv_at hl 7 rfl) ?_
                              refine lv_sipush (v := 654) hx hb dX12_tries_165 (by decide) ?_
                              have gc_59_x_56 := q_rng x_56
                              refine q_icmp_ge (A := x_56.toInt) (B := 654) E rfl (by decide) (tgt := 191) dX12_tries_168 (by decide) (fun c_59 => ?_) (fun c_59 => ?_)
                              · skip
                                replace hF := q_ifn hF (Int.not_lt.mpr c_59)
                                unfold F_X12_tries_E191_8 at hF
                                have fxσ_57 : m_c X σ_57 a = m_c X σ a := m_c_ext (fun j hj => if h : j < 654 then rsσ_57 j hj (by first | (clear hn hh ahpσ_4 bhpσ_4 dhpσ_4 c_5 chpσ_4 ggy_6 iy_6 kc_7 kc_8 ahpσ_10 bhpσ_10 dhpσ_10 c_11 chpσ_10 ggy_15 iy_15 ggy_17 iy_17 kc_18 ahpσ_20 bhpσ_20 dhpσ_20 c_21 chpσ_20 if_22 c_23 hm78 hge78 gc_27_x_24 c_27 hm112 hge112 gc_32_x_29 gc_32_v3 c_32 ahpσ_39 bhpσ_39 chpσ_39 dhpσ_39 ehpσ_39 fhpσ_39 gσ_39 c_40 if_53 gc_54_f_53 gc_54_v1 c_54 hm163 gc_59_x_56; omega) | omega) else kqσ_57 j (by first | (clear hn hh ahpσ_4 bhpσ_4 dhpσ_4 c_5 chpσ_4 ggy_6 iy_6 kc_7 kc_8 ahpσ_10 bhpσ_10 dhpσ_10 c_11 chpσ_10 ggy_15 iy_15 ggy_17 iy_17 kc_18 ahpσ_20 bhpσ_20 dhpσ_20 c_21 chpσ_20 if_22 c_23 hm78 hge78 gc_27_x_24 c_27 hm112 hge112 gc_32_x_29 gc_32_v3 c_32 ahpσ_39 bhpσ_39 chpσ_39 dhpσ_39 ehpσ_39 fhpσ_39 gσ_39 c_40 if_53 gc_54_f_53 gc_54_v1 c_54 hm163 hge163 gc_59_x_56 c_59; omega) | omega))
                                obtain ⟨z_60, ez_60⟩ : ∃ y : Int32, y = x_29 + 1 := ⟨_, rfl⟩
                                replace hF := q_letX hF ez_60
                                refine lv_iinc (v := z_60) (lv' := [(6, .int z_60), (0, .ref a), (1, .int v1), (2, .int v2), (3, .int v3), (4, .int v4), (5, .int z_55), (7, .int x_56)]) hx hb dX12_tries_191 hl (k := 6) rfl (by rw [ez_60]; rfl) (by decide) rfl (fun ls hl => ?_)
                                have iz_60 : z_60.toInt = x_29.toInt + 1 := q_inc ez_60 (by first | (clear hn hh ahpσ_4 bhpσ_4 dhpσ_4 c_5 chpσ_4 ggy_6 kc_7 ahpσ_10 bhpσ_10 dhpσ_10 c_11 ggy_15 iy_15 ggy_17 iy_17 kc_18 ahpσ_20 bhpσ_20 dhpσ_20 c_21 chpσ_20 if_22 c_23 hm78 hge78 gc_27_x_24 c_27 hm112 gc_32_v3 ahpσ_39 bhpσ_39 chpσ_39 dhpσ_39 ehpσ_39 fhpσ_39 gσ_39 c_40 if_53 gc_54_f_53 gc_54_v1 c_54 hm163 hge163 gc_59_x_56 c_59; omega) | omega)
                                refine lv_goto (tgt := 112) hx hb dX12_tries_194 (by decide) ?_
                                exact ih112 z_55 z_60 σ_57 _ _ ls (by first | (clear hn hh ahpσ_4 bhpσ_4 dhpσ_4 c_5 chpσ_4 ggy_6 kc_7 ahpσ_10 bhpσ_10 dhpσ_10 c_11 ggy_15 iy_15 ggy_17 iy_17 kc_18 ahpσ_20 bhpσ_20 dhpσ_20 c_21 chpσ_20 if_22 c_23 hm78 hge78 gc_27_x_24 c_27 gc_32_v3 ahpσ_39 bhpσ_39 chpσ_39 dhpσ_39 ehpσ_39 fhpσ_39 gσ_39 if_53 gc_54_f_53 gc_54_v1 hm163 gc_59_x_56; omega) | omega) (by first | (clear hn hh ahpσ_4 bhpσ_4 dhpσ_4 c_5 chpσ_4 ggy_6 iy_6 kc_7 kc_8 ahpσ_10 bhpσ_10 dhpσ_10 c_11 chpσ_10 ggy_15 iy_15 ggy_17 iy_17 kc_18 ahpσ_20 bhpσ_20 dhpσ_20 c_21 chpσ_20 if_22 c_23 hm78 hge78 gc_27_x_24 c_27 hm112 gc_32_v3 c_32 ahpσ_39 bhpσ_39 chpσ_39 dhpσ_39 ehpσ_39 fhpσ_39 gσ_39 c_40 if_53 gc_54_f_53 gc_54_v1 c_54 hm163 hge163 gc_59_x_56 c_59; omega) | omega) fr_σ_57 fxσ_57 kfσ_57 hF hI (lv_sub hl [1, 2, 3, 4, 5, 6, 0] rfl)
                              · skip
                                replace hF := q_ifp hF c_59
                                refine lv_aload_n hx hb dX12_tries_171 rfl (lv_at hl 0 rfl) ?_
                                refine gs_X12_35_12 E hI ha dX12_tries_172 ?_
                                refine lv_iload hx hb dX12_tries_175 (lv_at hl 7 rfl) ?_
                                refine lv_aload_n hx hb dX12_tries_177 rfl (lv_at hl 0 rfl) ?_
                                refine gs_X12_38_12 E hI ha dX12_tries_178 ?_
                                refine lv_iload hx hb dX12_tries_181 (lv_at hl 7 rfl) ?_
                                refine q_iald E hI (q_tk (k' := 35) hI ha rfl (by decide)) ⟨by decide, rfl⟩ (by first | (clear hn hh ahpσ_4 bhpσ_4 dhpσ_4 c_5 chpσ_4 ggy_6 iy_6 kc_7 kc_8 ahpσ_10 bhpσ_10 dhpσ_10 c_11 chpσ_10 ggy_15 iy_15 ggy_17 iy_17 kc_18 ahpσ_20 bhpσ_20 dhpσ_20 c_21 chpσ_20 if_22 c_23 hm78 hge78 gc_27_x_24 c_27 hm112 hge112 gc_32_x_29 gc_32_v3 c_32 ahpσ_39 bhpσ_39 chpσ_39 dhpσ_39 ehpσ_39 fhpσ_39 gσ_39 c_40 if_53 gc_54_f_53 gc_54_v1 c_54 hm163 gc_59_x_56; omega) | omega) (by rw [q_lnk (v := 654) hI (q_tk (k' := 35) hI ha rfl (by decide)) rfl (by decide)]; omega) dX12_tries_183 ?_
                                refine lv_topi (fun f_61 ef_61 => ?_)
                                replace hF := q_letX hF ef_61
                                have krf_61 : f_61.toInt = m_of σ_57 (q_rf X a 21) x_56.toInt := by rw [ef_61]; rfl
                                refine q_iastN E hI (q_tk (k' := 34) hI ha rfl (by decide)) ⟨by decide, rfl⟩ (by first | (clear hn hh ahpσ_4 bhpσ_4 dhpσ_4 c_5 chpσ_4 ggy_6 iy_6 kc_7 kc_8 ahpσ_10 bhpσ_10 dhpσ_10 c_11 chpσ_10 ggy_15 iy_15 ggy_17 iy_17 kc_18 ahpσ_20 bhpσ_20 dhpσ_20 c_21 chpσ_20 if_22 c_23 hm78 hge78 gc_27_x_24 c_27 hm112 hge112 gc_32_x_29 gc_32_v3 c_32 ahpσ_39 bhpσ_39 chpσ_39 dhpσ_39 ehpσ_39 fhpσ_39 gσ_39 c_40 if_53 gc_54_f_53 gc_54_v1 c_54 hm163 gc_59_x_56; omega) | omega) (by rw [q_lnk (v := 4650) hI (q_tk (k' := 34) hI ha rfl (by decide)) rfl (by decide)]; omega) (show 1 < 2 by decide) (q_inU rfl) dX12_tries_184 (fun H locs σ_62 hσ_62 hI => ?_)
                                replace hF := q_letX hF hσ_62
                                have fr_σ_62 := fr_σ_57.si hσ_62 (q_tk (k' := 34) hI ha rfl (by decide)) rfl
                                have mcσ_62 := m_wr (v := f_61) (A := x_56.toInt) hσ_62 rfl (by first | (clear hn hh ahpσ_4 bhpσ_4 dhpσ_4 c_5 chpσ_4 ggy_6 iy_6 kc_7 kc_8 ahpσ_10 bhpσ_10 dhpσ_10 c_11 chpσ_10 ggy_15 iy_15 ggy_17 iy_17 kc_18 ahpσ_20 bhpσ_20 dhpσ_20 c_21 chpσ_20 if_22 c_23 hm78 hge78 gc_27_x_24 c_27 hm112 hge112 gc_32_x_29 gc_32_v3 c_32 ahpσ_39 bhpσ_39 chpσ_39 dhpσ_39 ehpσ_39 fhpσ_39 gσ_39 c_40 if_53 gc_54_f_53 gc_54_v1 c_54 hm163 gc_59_x_56; omega) | omega)
                                have kqσ_62 : ∀ j, 654 ≤ j → m_c X σ_62 a j = m_c X σ a j := fun j h => by rw [mcσ_62 j (by first | (clear hn hh ahpσ_4 bhpσ_4 dhpσ_4 c_5 chpσ_4 ggy_6 iy_6 kc_7 kc_8 ahpσ_10 bhpσ_10 dhpσ_10 c_11 chpσ_10 ggy_15 iy_15 ggy_17 iy_17 kc_18 ahpσ_20 bhpσ_20 dhpσ_20 c_21 chpσ_20 if_22 c_23 hm78 hge78 gc_27_x_24 c_27 hm112 hge112 gc_32_x_29 gc_32_v3 c_32 ahpσ_39 bhpσ_39 chpσ_39 dhpσ_39 ehpσ_39 fhpσ_39 gσ_39 c_40 if_53 gc_54_f_53 gc_54_v1 c_54 hm163 hge163 gc_59_x_56 c_59; omega) | omega), if_neg (by first | (clear hn hh ahpσ_4 bhpσ_4 dhpσ_4 c_5 chpσ_4 ggy_6 iy_6 kc_7 kc_8 ahpσ_10 bhpσ_10 dhpσ_10 c_11 chpσ_10 ggy_15 iy_15 ggy_17 iy_17 kc_18 ahpσ_20 bhpσ_20 dhpσ_20 c_21 chpσ_20 if_22 c_23 hm78 hge78 gc_27_x_24 c_27 hm112 hge112 gc_32_x_29 gc_32_v3 c_32 ahpσ_39 bhpσ_39 chpσ_39 dhpσ_39 ehpσ_39 fhpσ_39 gσ_39 c_40 if_53 gc_54_f_53 gc_54_v1 c_54 hm163 gc_59_x_56; omega) | omega)] <;> exact kqσ_57 j h
                                have kfσ_62 : ∀ j, 0 ≤ j → j < 654 → m_of σ_62 (q_rf X a 21) j = m_c X σ a j := fun j h0 h1 => (m_ofo hσ_62 (m_ne (q_tk (f := 21) (k' := 35) hI ha rfl (by decide)) (q_tk (k' := 34) hI ha rfl (by decide)) (by decide)) j).trans (kfσ_57 j h0 h1)
                                have rsσ_62x := rsσ_57
                                have kvσ_62 : (f_61).toInt = m_c X σ a x_56.toInt := by rw [krf_61]; exact kfσ_57 _ (by first | (clear hn hh ahpσ_4 bhpσ_4 dhpσ_4 c_5 chpσ_4 ggy_6 iy_6 kc_7 kc_8 ahpσ_10 bhpσ_10 dhpσ_10 c_11 chpσ_10 ggy_15 iy_15 ggy_17 iy_17 kc_18 ahpσ_20 bhpσ_20 dhpσ_20 c_21 chpσ_20 if_22 c_23 hm78 hge78 gc_27_x_24 c_27 hm112 hge112 gc_32_x_29 gc_32_v3 c_32 ahpσ_39 bhpσ_39 chpσ_39 dhpσ_39 ehpσ_39 fhpσ_39 gσ_39 c_40 if_53 gc_54_f_53 gc_54_v1 c_54 hm163 gc_59_x_56; omega) | omega) (by omega)
                                obtain ⟨z_63, ez_63⟩ : ∃ y : Int32, y = x_56 + 1 := ⟨_, rfl⟩
                                replace hF := q_letX hF ez_63
                                refine lv_iinc (v := z_63) (lv' := [(7, .int z_63), (0, .ref a), (1, .int v1), (2, .int v2), (3, .int v3), (4, .int v4), (5, .int z_55), (6, .int x_29)]) hx hb dX12_tries_185 hl (k := 7) rfl (by rw [ez_63]; rfl) (by decide) rfl (fun ls hl => ?_)
                                have iz_63 : z_63.toInt = x_56.toInt + 1 := q_inc ez_63 (by first | (clear hn hh ahpσ_4 bhpσ_4 dhpσ_4 c_5 chpσ_4 ggy_6 iy_6 kc_7 kc_8 ahpσ_10 bhpσ_10 dhpσ_10 c_11 chpσ_10 ggy_15 iy_15 ggy_17 iy_17 kc_18 ahpσ_20 bhpσ_20 dhpσ_20 c_21 chpσ_20 if_22 c_23 hm78 hge78 gc_27_x_24 c_27 hm112 hge112 gc_32_x_29 gc_32_v3 c_32 ahpσ_39 bhpσ_39 chpσ_39 dhpσ_39 ehpσ_39 fhpσ_39 gσ_39 c_40 if_53 gc_54_f_53 gc_54_v1 c_54 hm163 gc_59_x_56; omega) | omega)
                                refine lv_goto (tgt := 163) hx hb dX12_tries_188 (by decide) ?_
                                exact ih163 z_63 σ_62 _ _ ls (by first | (clear hn hh ahpσ_4 bhpσ_4 dhpσ_4 c_5 chpσ_4 ggy_6 iy_6 kc_7 kc_8 ahpσ_10 bhpσ_10 dhpσ_10 c_11 chpσ_10 ggy_15 iy_15 ggy_17 iy_17 kc_18 ahpσ_20 bhpσ_20 dhpσ_20 c_21 chpσ_20 if_22 c_23 hm78 hge78 gc_27_x_24 c_27 hm112 hge112 gc_32_x_29 gc_32_v3 c_32 ahpσ_39 bhpσ_39 chpσ_39 dhpσ_39 ehpσ_39 fhpσ_39 gσ_39 c_40 if_53 gc_54_f_53 gc_54_v1 c_54 gc_59_x_56; omega) | omega) (by first | (clear hn hh ahpσ_4 bhpσ_4 dhpσ_4 c_5 chpσ_4 ggy_6 iy_6 kc_7 kc_8 ahpσ_10 bhpσ_10 dhpσ_10 c_11 chpσ_10 ggy_15 iy_15 ggy_17 iy_17 kc_18 ahpσ_20 bhpσ_20 dhpσ_20 c_21 chpσ_20 if_22 c_23 hm78 hge78 gc_27_x_24 c_27 hm112 hge112 gc_32_x_29 gc_32_v3 c_32 ahpσ_39 bhpσ_39 chpσ_39 dhpσ_39 ehpσ_39 fhpσ_39 gσ_39 c_40 if_53 gc_54_f_53 gc_54_v1 c_54 hm163 gc_59_x_56; omega) | omega) (fun j h0 h1 => (by rw [mcσ_62 j h0]; split; (rename_i q; rw [q]; exact kvσ_62); exact rsσ_62x j h0 (by first | (clear hn hh ahpσ_4 bhpσ_4 dhpσ_4 c_5 chpσ_4 ggy_6 iy_6 kc_7 kc_8 ahpσ_10 bhpσ_10 dhpσ_10 c_11 chpσ_10 ggy_15 iy_15 ggy_17 iy_17 kc_18 ahpσ_20 bhpσ_20 dhpσ_20 c_21 chpσ_20 if_22 c_23 hm78 hge78 gc_27_x_24 c_27 hm112 hge112 gc_32_x_29 gc_32_v3 c_32 ahpσ_39 bhpσ_39 chpσ_39 dhpσ_39 ehpσ_39 fhpσ_39 gσ_39 c_40 if_53 gc_54_f_53 gc_54_v1 c_54 hm163 hge163 gc_59_x_56 c_59; omega) | omega))) fr_σ_62 kqσ_62 kfσ_62 hF hI (lv_sub hl [1, 2, 3, 4, 5, 6, 7, 0] rfl)
                          have kc_64 : (0 : Int32).toInt = 0 := rfl
                          exact L_163_58 ((2147483647 - (0 : Int32).toInt).toNat + 1) 0 σ_39 _ _ ls (Nat.lt_succ_self _) (by decide) (fun j h0 h1 => by have q : (0 : Int32).toInt = 0 := rfl; omega) fr_σ_39 kqσ_39 kfσ_39 hF hI (lv_sub hl [2, 3, 4, 5, 6, 1, 7, 0] rfl)
                        · skip
                          replace hF := q_ifp hF c_54
                          refine lv_iconst (v := 1) hx hb dX12_tries_144 (by decide) ?_
                          refine lv_goto (tgt := 157) hx hb dX12_tries_145 (by decide) ?_
                          refine lv_iadd hx hb dX12_tries_157 ?_
                          refine lv_topi (fun z_65 ez_65 => ?_)
                          replace hF := q_letX hF ez_65
                          refine lv_istore (lv' := [(5, .int z_65), (0, .ref a), (1, .int v1), (2, .int v2), (3, .int v3), (4, .int v4), (6, .int x_29)]) hx hb dX12_tries_158 hl (by decide) rfl (fun ls hl => ?_)
                          refine lv_iconst (v := 0) hx hb dX12_tries_160 (by decide) ?_
                          refine lv_istore (lv' := [(7, .int 0), (5, .int z_65), (0, .ref a), (1, .int v1), (2, .int v2), (3, .int v3), (4, .int v4), (6, .int x_29)]) hx hb dX12_tries_161 hl (by decide) rfl (fun ls hl => ?_)
                          have L_163_68 : ∀ (k_68 : Nat) (x_66 : Int32) (σ_67 : ST) (H : Heap) (locs : List Loc) (ls : Array Slot), (2147483647 - x_66.toInt).toNat < k_68 → (0 ≤ x_66.toInt ∧ x_66.toInt ≤ 654) → (∀ j, 0 ≤ j → j < x_66.toInt → m_c X σ_67 a j = m_c X σ a j) → (q_ow [(12, 0), (12, 1), (12, 38), (12, 39), (12, 40), (12, 41), (12, 42), (12, 43), (12, 44), (12, 45), (34, 99), (35, 99), (39, 99)] [(12, 2), (12, 3)] X σ σ_67) → (∀ j, 654 ≤ j → m_c X σ_67 a j = m_c X σ a j) → (∀ j, 0 ≤ j → j < 654 → m_of σ_67 (q_rf X a 21) j = m_c X σ a j) → (F_X12_tries_L163_9 X a x_29 (F_X12_tries_L112_3 X v3 v2 a v4 v1 k_31) z_65 k_68 x_66 σ_67 = out) → q_I X 1 σ s.heap locs σ_67 H → lv_has ls 8 [(0, .ref a), (1, .int v1), (2, .int v2), (3, .int v3), (4, .int v4), (5, .int z_65), (6, .int x_29), (7, .int x_66)] → W p l e (q_rm 69 1612) s m ([.ref a, .int v1, .int v2, .int v3, .int v4] : List Value).toArray below meth c H locs 0 0 (MQ below (q_Qi X 1 σ (fun (r : Int32) (σ' : ST) => (0 ≤ r.toInt ∧ r.toInt ≤ 1) ∧ (m_c X σ' a = m_c X σ a) ∧ (r, σ') = F_X12_tries X σ a v1 v2 v3 v4 ∧ q_ow [(12, 0), (12, 1), (12, 38), (12, 39), (12, 40), (12, 41), (12, 42), (12, 43), (12, 44), (12, 45), (34, 99), (35, 99), (39, 99)] [(12, 2), (12, 3)] X σ σ')) ([.ref a, .int v1, .int v2, .int v3, .int v4] : List Value).toArray s 0 0 (q_reg X)) (F0 m 163 ls []) := by
                            clear hF
                            intro k_68
                            induction k_68 with
                            | zero =>
                              intro x_66 σ_67 H locs ls hms
                              exact absurd hms (Nat.not_lt_zero _)
                            | succ k_68 ih163 =>
                              intro x_66 σ_67 H locs ls hm163 hge163 rsσ_67 fr_σ_67 kqσ_67 kfσ_67 hF hI hl
                              replace hF := (F_X12_tries_L163_9_s).symm.trans hF
                              unfold F_X12_tries_B163_9 at hF
                              refine lv_iload hx hb dX12_tries_163 (lv_at hl 7 rfl) ?_
                              refine lv_sipush (v := 654) hx hb dX12_tries_165 (by decide) ?_
                              have gc_69_x_66 := q_rng x_66
                              refine q_icmp_ge (A := x_66.toInt) (B := 654) E rfl (by decide) (tgt := 191) dX12_tries_168 (by decide) (fun c_69 => ?_) (fun c_69 => ?_)
                              · skip
                                replace hF := q_ifn hF (Int.not_lt.mpr c_69)
                                unfold F_X12_tries_E191_10 at hF
                                have fxσ_67 : m_c X σ_67 a = m_c X σ a := m_c_ext (fun j hj => if h : j < 654 then rsσ_67 j hj (by first | (clear hn hh ahpσ_4 bhpσ_4 dhpσ_4 c_5 chpσ_4 ggy_6 iy_6 kc_7 kc_8 ahpσ_10 bhpσ_10 dhpσ_10 c_11 chpσ_10 ggy_15 iy_15 ggy_17 iy_17 kc_18 ahpσ_20 bhpσ_20 dhpσ_20 c_21 chpσ_20 if_22 c_23 hm78 hge78 gc_27_x_24 c_27 hm112 hge112 gc_32_x_29 gc_32_v3 c_32 ahpσ_39 bhpσ_39 chpσ_39 dhpσ_39 ehpσ_39 fhpσ_39 gσ_39 c_40 if_53 gc_54_f_53 gc_54_v1 c_54 hm163 gc_69_x_66; omega) | omega) else kqσ_67 j (by first | (clear hn hh ahpσ_4 bhpσ_4 dhpσ_4 c_5 chpσ_4 ggy_6 iy_6 kc_7 kc_8 ahpσ_10 bhpσ_10 dhpσ_10 c_11 chpσ_10 ggy_15 iy_15 ggy_17 iy_17 kc_18 ahpσ_20 bhpσ_20 dhpσ_20 c_21 chpσ_20 if_22 c_23 hm78 hge78 gc_27_x_24 c_27 hm112 hge112 gc_32_x_29 gc_32_v3 c_32 ahpσ_39 bhpσ_39 chpσ_39 dhpσ_39 ehpσ_39 fhpσ_39 gσ_39 c_40 if_53 gc_54_f_53 gc_54_v1 c_54 hm163 hge163 gc_69_x_66 c_69; omega) | omega))
                                obtain ⟨z_70, ez_70⟩ : ∃ y : Int32, y = x_29 + 1 := ⟨_, rfl⟩
                                replace hF := q_letX hF ez_70
                                refine lv_iinc (v := z_70) (lv' := [(6, .int z_70), (0, .ref a), (1, .int v1), (2, .int v2), (3, .int v3), (4, .int v4), (5, .int z_65), (7, .int x_66)]) hx hb dX12_tries_191 hl (k := 6) rfl (by rw [ez_70]; rfl) (by decide) rfl (fun ls hl => ?_)
                                have iz_70 : z_70.toInt = x_29.toInt + 1 := q_inc ez_70 (by first | (clear hn hh ahpσ_4 bhpσ_4 dhpσ_4 c_5 chpσ_4 ggy_6 kc_7 ahpσ_10 bhpσ_10 dhpσ_10 c_11 ggy_15 iy_15 ggy_17 iy_17 kc_18 ahpσ_20 bhpσ_20 dhpσ_20 c_21 chpσ_20 if_22 c_23 hm78 hge78 gc_27_x_24 c_27 hm112 gc_32_v3 ahpσ_39 bhpσ_39 chpσ_39 dhpσ_39 ehpσ_39 fhpσ_39 gσ_39 c_40 if_53 gc_54_f_53 gc_54_v1 c_54 hm163 hge163 gc_69_x_66 c_69; omega) | omega)
                                refine lv_goto (tgt := 112) hx hb dX12_tries_194 (by decide) ?_
                                exact ih112 z_65 z_70 σ_67 _ _ ls (by first | (clear hn hh ahpσ_4 bhpσ_4 dhpσ_4 c_5 chpσ_4 ggy_6 kc_7 ahpσ_10 bhpσ_10 dhpσ_10 c_11 ggy_15 iy_15 ggy_17 iy_17 kc_18 ahpσ_20 bhpσ_20 dhpσ_20 c_21 chpσ_20 if_22 c_23 hm78 hge78 gc_27_x_24 c_27 gc_32_v3 ahpσ_39 bhpσ_39 chpσ_39 dhpσ_39 ehpσ_39 fhpσ_39 gσ_39 if_53 gc_54_f_53 gc_54_v1 c_54 hm163 gc_69_x_66; omega) | omega) (by first | (clear hn hh ahpσ_4 bhpσ_4 dhpσ_4 c_5 chpσ_4 ggy_6 iy_6 kc_7 kc_8 ahpσ_10 bhpσ_10 dhpσ_10 c_11 chpσ_10 ggy_15 iy_15 ggy_17 iy_17 kc_18 ahpσ_20 bhpσ_20 dhpσ_20 c_21 chpσ_20 if_22 c_23 hm78 hge78 gc_27_x_24 c_27 hm112 gc_32_v3 c_32 ahpσ_39 bhpσ_39 chpσ_39 dhpσ_39 ehpσ_39 fhpσ_39 gσ_39 c_40 if_53 gc_54_f_53 gc_54_v1 c_54 hm163 hge163 gc_69_x_66 c_69; omega) | omega) fr_σ_67 fxσ_67 kfσ_67 hF hI (lv_sub hl [1, 2, 3, 4, 5, 6, 0] rfl)
                              · skip
                                replace hF := q_ifp hF c_69
                                refine lv_aload_n hx hb dX12_tries_171 rfl (lv_at hl 0 rfl) ?_
                                refine gs_X12_35_12 E hI ha dX12_tries_172 ?_
                                refine lv_iload hx hb dX12_tries_175 (lv_at hl 7 rfl) ?_
                                refine lv_aload_n hx hb dX12_tries_177 rfl (lv_at hl 0 rfl) ?_
                                refine gs_X12_38_12 E hI ha dX12_tries_178 ?_
                                refine lv_iload hx hb dX12_tries_181 (lv_at hl 7 rfl) ?_
                                refine q_iald E hI (q_tk (k' := 35) hI ha rfl (by decide)) ⟨by decide, rfl⟩ (by first | (clear hn hh ahpσ_4 bhpσ_4 dhpσ_4 c_5 chpσ_4 ggy_6 iy_6 kc_7 kc_8 ahpσ_10 bhpσ_10 dhpσ_10 c_11 chpσ_10 ggy_15 iy_15 ggy_17 iy_17 kc_18 ahpσ_20 bhpσ_20 dhpσ_20 c_21 chpσ_20 if_22 c_23 hm78 hge78 gc_27_x_24 c_27 hm112 hge112 gc_32_x_29 gc_32_v3 c_32 ahpσ_39 bhpσ_39 chpσ_39 dhpσ_39 ehpσ_39 fhpσ_39 gσ_39 c_40 if_53 gc_54_f_53 gc_54_v1 c_54 hm163 gc_69_x_66; omega) | omega) (by rw [q_lnk (v := 654) hI (q_tk (k' := 35) hI ha rfl (by decide)) rfl (by decide)]; omega) dX12_tries_183 ?_
                                refine lv_topi (fun f_71 ef_71 => ?_)
                                replace hF := q_letX hF ef_71
                                have krf_71 : f_71.toInt = m_of σ_67 (q_rf X a 21) x_66.toInt := by rw [ef_71]; rfl
                                refine q_iastN E hI (q_tk (k' := 34) hI ha rfl (by decide)) ⟨by decide, rfl⟩ (by first | (clear hn hh ahpσ_4 bhpσ_4 dhpσ_4 c_5 chpσ_4 ggy_6 iy_6 kc_7 kc_8 ahpσ_10 bhpσ_10 dhpσ_10 c_11 chpσ_10 ggy_15 iy_15 ggy_17 iy_17 kc_18 ahpσ_20 bhpσ_20 dhpσ_20 c_21 chpσ_20 if_22 c_23 hm78 hge78 gc_27_x_24 c_27 hm112 hge112 gc_32_x_29 gc_32_v3 c_32 ahpσ_39 bhpσ_39 chpσ_39 dhpσ_39 ehpσ_39 fhpσ_39 gσ_39 c_40 if_53 gc_54_f_53 gc_54_v1 c_54 hm163 gc_69_x_66; omega) | omega) (by rw [q_lnk (v := 4650) hI (q_tk (k' := 34) hI ha rfl (by decide)) rfl (by decide)]; omega) (show 1 < 2 by decide) (q_inU rfl) dX12_tries_184 (fun H locs σ_72 hσ_72 hI => ?_)
                                replace hF := q_letX hF hσ_72
                                have fr_σ_72 := fr_σ_67.si hσ_72 (q_tk (k' := 34) hI ha rfl (by decide)) rfl
                                have mcσ_72 := m_wr (v := f_71) (A := x_66.toInt) hσ_72 rfl (by first | (clear hn hh ahpσ_4 bhpσ_4 dhpσ_4 c_5 chpσ_4 ggy_6 iy_6 kc_7 kc_8 ahpσ_10 bhpσ_10 dhpσ_10 c_11 chpσ_10 ggy_15 iy_15 ggy_17 iy_17 kc_18 ahpσ_20 bhpσ_20 dhpσ_20 c_21 chpσ_20 if_22 c_23 hm78 hge78 gc_27_x_24 c_27 hm112 hge112 gc_32_x_29 gc_32_v3 c_32 ahpσ_39 bhpσ_39 chpσ_39 dhpσ_39 ehpσ_39 fhpσ_39 gσ_39 c_40 if_53 gc_54_f_53 gc_54_v1 c_54 hm163 gc_69_x_66; omega) | omega)
                                have kqσ_72 : ∀ j, 654 ≤ j → m_c X σ_72 a j = m_c X σ a j := fun j h => by rw [mcσ_72 j (by first | (clear hn hh ahpσ_4 bhpσ_4 dhpσ_4 c_5 chpσ_4 ggy_6 iy_6 kc_7 kc_8 ahpσ_10 bhpσ_10 dhpσ_10 c_11 chpσ_10 ggy_15 iy_15 ggy_17 iy_17 kc_18 ahpσ_20 bhpσ_20 dhpσ_20 c_21 chpσ_20 if_22 c_23 hm78 hge78 gc_27_x_24 c_27 hm112 hge112 gc_32_x_29 gc_32_v3 c_32 ahpσ_39 bhpσ_39 chpσ_39 dhpσ_39 ehpσ_39 fhpσ_39 gσ_39 c_40 if_53 gc_54_f_53 gc_54_v1 c_54 hm163 hge163 gc_69_x_66 c_69; omega) | omega), if_neg (by first | (clear hn hh ahpσ_4 bhpσ_4 dhpσ_4 c_5 chpσ_4 ggy_6 iy_6 kc_7 kc_8 ahpσ_10 bhpσ_10 dhpσ_10 c_11 chpσ_10 ggy_15 iy_15 ggy_17 iy_17 kc_18 ahpσ_20 bhpσ_20 dhpσ_20 c_21 chpσ_20 if_22 c_23 hm78 hge78 gc_27_x_24 c_27 hm112 hge112 gc_32_x_29 gc_32_v3 c_32 ahpσ_39 bhpσ_39 chpσ_39 dhpσ_39 ehpσ_39 fhpσ_39 gσ_39 c_40 if_53 gc_54_f_53 gc_54_v1 c_54 hm163 gc_69_x_66; omega) | omega)] <;> exact kqσ_67 j h
                                have kfσ_72 : ∀ j, 0 ≤ j → j < 654 → m_of σ_72 (q_rf X a 21) j = m_c X σ a j := fun j h0 h1 => (m_ofo hσ_72 (m_ne (q_tk (f := 21) (k' := 35) hI ha rfl (by decide)) (q_tk (k' := 34) hI ha rfl (by decide)) (by decide)) j).trans (kfσ_67 j h0 h1)
                                have rsσ_72x := rsσ_67
                                have kvσ_72 : (f_71).toInt = m_c X σ a x_66.toInt := by rw [krf_71]; exact kfσ_67 _ (by first | (clear hn hh ahpσ_4 bhpσ_4 dhpσ_4 c_5 chpσ_4 ggy_6 iy_6 kc_7 kc_8 ahpσ_10 bhpσ_10 dhpσ_10 c_11 chpσ_10 ggy_15 iy_15 ggy_17 iy_17 kc_18 ahpσ_20 bhpσ_20 dhpσ_20 c_21 chpσ_20 if_22 c_23 hm78 hge78 gc_27_x_24 c_27 hm112 hge112 gc_32_x_29 gc_32_v3 c_32 ahpσ_39 bhpσ_39 chpσ_39 dhpσ_39 ehpσ_39 fhpσ_39 gσ_39 c_40 if_53 gc_54_f_53 gc_54_v1 c_54 hm163 gc_69_x_66; omega) | omega) (by omega)
                                obtain ⟨z_73, ez_73⟩ : ∃ y : Int32, y = x_66 + 1 := ⟨_, rfl⟩
                                replace hF := q_letX hF ez_73
                                refine lv_iinc (v := z_73) (lv' := [(7, .int z_73), (0, .ref a), (1, .int v1), (2, .int v2), (3, .int v3), (4, .int v4), (5, .int z_65), (6, .int x_29)]) hx hb dX12_tries_185 hl (k := 7) rfl (by rw [ez_73]; rfl) (by decide) rfl (fun ls hl => ?_)
                                have iz_73 : z_73.toInt = x_66.toInt + 1 := q_inc ez_73 (by first | (clear hn hh ahpσ_4 bhpσ_4 dhpσ_4 c_5 chpσ_4 ggy_6 iy_6 kc_7 kc_8 ahpσ_10 bhpσ_10 dhpσ_10 c_11 chpσ_10 ggy_15 iy_15 ggy_17 iy_17 kc_18 ahpσ_20 bhpσ_20 dhpσ_20 c_21 chpσ_20 if_22 c_23 hm78 hge78 gc_27_x_24 c_27 hm112 hge112 gc_32_x_29 gc_32_v3 c_32 ahpσ_39 bhpσ_39 chpσ_39 dhpσ_39 ehpσ_39 fhpσ_39 gσ_39 c_40 if_53 gc_54_f_53 gc_54_v1 c_54 hm163 gc_69_x_66; omega) | omega)
                                refine lv_goto (tgt := 163) hx hb dX12_tries_188 (by decide) ?_
                                exact ih163 z_73 σ_72 _ _ ls (by first | (clear hn hh ahpσ_4 bhpσ_4 dhpσ_4 c_5 chpσ_4 ggy_6 iy_6 kc_7 kc_8 ahpσ_10 bhpσ_10 dhpσ_10 c_11 chpσ_10 ggy_15 iy_15 ggy_17 iy_17 kc_18 ahpσ_20 bhpσ_20 dhpσ_20 c_21 chpσ_20 if_22 c_23 hm78 hge78 gc_27_x_24 c_27 hm112 hge112 gc_32_x_29 gc_32_v3 c_32 ahpσ_39 bhpσ_39 chpσ_39 dhpσ_39 ehpσ_39 fhpσ_39 gσ_39 c_40 if_53 gc_54_f_53 gc_54_v1 c_54 gc_69_x_66; omega) | omega) (by first | (clear hn hh ahpσ_4 bhpσ_4 dhpσ_4 c_5 chpσ_4 ggy_6 iy_6 kc_7 kc_8 ahpσ_10 bhpσ_10 dhpσ_10 c_11 chpσ_10 ggy_15 iy_15 ggy_17 iy_17 kc_18 ahpσ_20 bhpσ_20 dhpσ_20 c_21 chpσ_20 if_22 c_23 hm78 hge78 gc_27_x_24 c_27 hm112 hge112 gc_32_x_29 gc_32_v3 c_32 ahpσ_39 bhpσ_39 chpσ_39 dhpσ_39 ehpσ_39 fhpσ_39 gσ_39 c_40 if_53 gc_54_f_53 gc_54_v1 c_54 hm163 gc_69_x_66; omega) | omega) (fun j h0 h1 => (by rw [mcσ_72 j h0]; split; (rename_i q; rw [q]; exact kvσ_72); exact rsσ_72x j h0 (by first | (clear hn hh ahpσ_4 bhpσ_4 dhpσ_4 c_5 chpσ_4 ggy_6 iy_6 kc_7 kc_8 ahpσ_10 bhpσ_10 dhpσ_10 c_11 chpσ_10 ggy_15 iy_15 ggy_17 iy_17 kc_18 ahpσ_20 bhpσ_20 dhpσ_20 c_21 chpσ_20 if_22 c_23 hm78 hge78 gc_27_x_24 c_27 hm112 hge112 gc_32_x_29 gc_32_v3 c_32 ahpσ_39 bhpσ_39 chpσ_39 dhpσ_39 ehpσ_39 fhpσ_39 gσ_39 c_40 if_53 gc_54_f_53 gc_54_v1 c_54 hm163 hge163 gc_69_x_66 c_69; omega) | omega))) fr_σ_72 kqσ_72 kfσ_72 hF hI (lv_sub hl [1, 2, 3, 4, 5, 6, 7, 0] rfl)
                          have kc_74 : (0 : Int32).toInt = 0 := rfl
                          exact L_163_68 ((2147483647 - (0 : Int32).toInt).toNat + 1) 0 σ_39 _ _ ls (Nat.lt_succ_self _) (by decide) (fun j h0 h1 => by have q : (0 : Int32).toInt = 0 := rfl; omega) fr_σ_39 kqσ_39 kfσ_39 hF hI (lv_sub hl [2, 3, 4, 5, 6, 1, 7, 0] rfl)
                have kc_75 : (0 : Int32).toInt = 0 := rfl
                exact L_112_31 ((2147483647 - (0 : Int32).toInt).toNat + 1) 0 0 σ_25 _ _ ls (Nat.lt_succ_self _) (by decide) fr_σ_25 fxσ_25 kfσ_25 hF hI (lv_sub hl [2, 3, 4, 5, 6, 1, 0] rfl)
              · skip
                replace hF := q_ifp hF c_27
                refine lv_aload_n hx hb dX12_tries_86 rfl (lv_at hl 0 rfl) ?_
                refine gs_X12_38_12 E hI ha dX12_tries_87 ?_
                refine lv_iload hx hb dX12_tries_90 (lv_at hl 5 rfl) ?_
                refine lv_aload_n hx hb dX12_tries_92 rfl (lv_at hl 0 rfl) ?_
                refine gs_X12_35_12 E hI ha dX12_tries_93 ?_
                refine lv_iload hx hb dX12_tries_96 (lv_at hl 5 rfl) ?_
                refine q_iald E hI (q_tk (k' := 34) hI ha rfl (by decide)) ⟨by decide, rfl⟩ (by first | (clear hn hh ahpσ_4 bhpσ_4 dhpσ_4 c_5 chpσ_4 ggy_6 iy_6 kc_7 kc_8 ahpσ_10 bhpσ_10 dhpσ_10 c_11 chpσ_10 ggy_15 iy_15 ggy_17 iy_17 kc_18 ahpσ_20 bhpσ_20 dhpσ_20 c_21 chpσ_20 if_22 c_23 hm78 gc_27_x_24; omega) | omega) (by rw [q_lnk (v := 4650) hI (q_tk (k' := 34) hI ha rfl (by decide)) rfl (by decide)]; omega) dX12_tries_98 ?_
                refine lv_topi (fun f_76 ef_76 => ?_)
                replace hF := q_letX hF ef_76
                have if_76 : f_76.toInt = m_c X σ a x_24.toInt := (m_rd ef_76 rfl).trans (congrFun fxσ_25 _)
                refine q_iastN E hI (q_tk (k' := 35) hI ha rfl (by decide)) ⟨by decide, rfl⟩ (by first | (clear hn hh ahpσ_4 bhpσ_4 dhpσ_4 c_5 chpσ_4 ggy_6 iy_6 kc_7 kc_8 ahpσ_10 bhpσ_10 dhpσ_10 c_11 chpσ_10 ggy_15 iy_15 ggy_17 iy_17 kc_18 ahpσ_20 bhpσ_20 dhpσ_20 c_21 chpσ_20 if_22 c_23 hm78 gc_27_x_24 if_76; omega) | omega) (by rw [q_lnk (v := 654) hI (q_tk (k' := 35) hI ha rfl (by decide)) rfl (by decide)]; omega) (show 1 < 9 by decide) (q_inU rfl) dX12_tries_99 (fun H locs σ_77 hσ_77 hI => ?_)
                replace hF := q_letX hF hσ_77
                have fr_σ_77 := fr_σ_25.si hσ_77 (q_tk (k' := 35) hI ha rfl (by decide)) rfl
                have mcσ_77 := m_wo hσ_77 (m_ne (q_tk (k' := 35) hI ha rfl (by decide)) (q_tk (f := 20) (k' := 34) hI ha rfl (by decide)) (by decide))
                have fxσ_77 : m_c X σ_77 a = m_c X σ a := (funext mcσ_77).trans fxσ_25
                have moσ_77 := m_ofw hσ_77 (rfl : x_24.toInt = _) (by first | (clear hn hh ahpσ_4 bhpσ_4 dhpσ_4 c_5 chpσ_4 ggy_6 iy_6 kc_7 kc_8 ahpσ_10 bhpσ_10 dhpσ_10 c_11 chpσ_10 ggy_15 iy_15 ggy_17 iy_17 kc_18 ahpσ_20 bhpσ_20 dhpσ_20 c_21 chpσ_20 if_22 c_23 hm78 gc_27_x_24 if_76; omega) | omega)
                have kvσ_77 := if_76
                have klσ_77x := klσ_25
                obtain ⟨z_78, ez_78⟩ : ∃ y : Int32, y = x_24 + 1 := ⟨_, rfl⟩
                replace hF := q_letX hF ez_78
                refine lv_iinc (v := z_78) (lv' := [(5, .int z_78), (0, .ref a), (1, .int v1), (2, .int v2), (3, .int v3), (4, .int v4)]) hx hb dX12_tries_100 hl (k := 5) rfl (by rw [ez_78]; rfl) (by decide) rfl (fun ls hl => ?_)
                have iz_78 : z_78.toInt = x_24.toInt + 1 := q_inc ez_78 (by first | (clear hn hh ahpσ_4 bhpσ_4 dhpσ_4 c_5 chpσ_4 ggy_6 iy_6 kc_7 kc_8 ahpσ_10 bhpσ_10 dhpσ_10 c_11 chpσ_10 ggy_15 iy_15 ggy_17 iy_17 kc_18 ahpσ_20 bhpσ_20 dhpσ_20 c_21 chpσ_20 if_22 c_23 hm78 gc_27_x_24 if_76; omega) | omega)
                refine lv_goto (tgt := 78) hx hb dX12_tries_103 (by decide) ?_
                exact ih78 z_78 σ_77 _ _ ls (by first | (clear hn hh ahpσ_4 bhpσ_4 dhpσ_4 c_5 chpσ_4 ggy_6 iy_6 kc_7 kc_8 ahpσ_10 bhpσ_10 dhpσ_10 c_11 chpσ_10 ggy_15 iy_15 ggy_17 iy_17 kc_18 ahpσ_20 bhpσ_20 dhpσ_20 c_21 chpσ_20 if_22 c_23 gc_27_x_24 if_76; omega) | omega) (by first | (clear hn hh ahpσ_4 bhpσ_4 dhpσ_4 c_5 chpσ_4 ggy_6 iy_6 kc_7 kc_8 ahpσ_10 bhpσ_10 dhpσ_10 c_11 chpσ_10 ggy_15 iy_15 ggy_17 iy_17 kc_18 ahpσ_20 bhpσ_20 dhpσ_20 c_21 chpσ_20 if_22 c_23 hm78 gc_27_x_24 if_76; omega) | omega) (fun j h0 h1 => by rw [moσ_77 j h0]; split; (rename_i q; rw [q]; exact kvσ_77); exact klσ_77x j h0 (by first | (clear hn hh ahpσ_4 bhpσ_4 dhpσ_4 c_5 chpσ_4 ggy_6 iy_6 kc_7 kc_8 ahpσ_10 bhpσ_10 dhpσ_10 c_11 chpσ_10 ggy_15 iy_15 ggy_17 iy_17 kc_18 ahpσ_20 bhpσ_20 dhpσ_20 c_21 chpσ_20 if_22 c_23 hm78 hge78 gc_27_x_24 c_27 if_76; omega) | omega)) fr_σ_77 fxσ_77 hF hI (lv_sub hl [1, 2, 3, 4, 5, 0] rfl)
          have kc_79 : (0 : Int32).toInt = 0 := rfl
          exact L_78_26 ((2147483647 - (0 : Int32).toInt).toNat + 1) 0 σ_2 _ _ ls (Nat.lt_succ_self _) (by decide) (fun j h0 h1 => by have q : (0 : Int32).toInt = 0 := rfl; omega) fr_σ_2 fxσ_2 hF hI (lv_sub hl [1, 2, 3, 4, 5, 0] rfl)
        · skip
          replace hF := q_ifp hF c_23
          refine lv_aload_n hx hb dX12_tries_68 rfl (lv_at hl 0 rfl) ?_
          refine lv_bipush (v := 8) hx hb dX12_tries_69 (by decide) ?_
          have kc_80 : (8 : Int32).toInt = 8 := rfl
          refine q_ci (q_runV (As := [.int 8]) (rest := []) E (hml.trans hl.1.symm) hI (c_X12_no l X σ_2 a (8 : Int32) ha) kv_X12_74 ha ⟨rfl, by decide⟩ (show vwCl[11]? = some (RX12, TX12, 46) from rfl) rfl ⟨Nat.le_of_ble_eq_true rfl, Nat.le_of_ble_eq_true rfl⟩ ⟨Nat.le_refl _, Nat.le_refl _⟩ rfl (Nat.le_of_ble_eq_true rfl) dX12_tries_71) hI (by decide) (fun r_81 σ_82 H locs hpσ_82 hkσ_82 hI => ?_)
          obtain ⟨ahpσ_82, bhpσ_82, chpσ_82, dhpσ_82⟩ := hpσ_82
          have fr_σ_82 := fr_σ_2.call dhpσ_82 rfl rfl
          replace hF := q_biX hF chpσ_82
          have mcσ_82 := m_cK hkσ_82 hI.1 ha (by decide)
          have fxσ_82 : m_c X σ_82 a = m_c X σ a := (funext mcσ_82).trans fxσ_2
          exact q_retz E hr hlk hI ⟨by omega, by omega⟩ ⟨⟨by omega, by omega⟩, fxσ_82, (hF.trans hout), fr_σ_82⟩ dX12_tries_74
      · skip
        replace hF := q_ifp hF c_21
        replace chpσ_20 := q_ifNo chpσ_20 c_21
        refine lv_aload_n hx hb dX12_tries_51 rfl (lv_at hl 0 rfl) ?_
        refine lv_iconst (v := 5) hx hb dX12_tries_52 (by decide) ?_
        have kc_83 : (5 : Int32).toInt = 5 := rfl
        refine q_ci (q_runV (As := [.int 5]) (rest := []) E (hml.trans hl.1.symm) hI (c_X12_no l X σ_2 a (5 : Int32) ha) kv_X12_74 ha ⟨rfl, by decide⟩ (show vwCl[11]? = some (RX12, TX12, 46) from rfl) rfl ⟨Nat.le_of_ble_eq_true rfl, Nat.le_of_ble_eq_true rfl⟩ ⟨Nat.le_refl _, Nat.le_refl _⟩ rfl (Nat.le_of_ble_eq_true rfl) dX12_tries_53) hI (by decide) (fun r_84 σ_85 H locs hpσ_85 hkσ_85 hI => ?_)
        obtain ⟨ahpσ_85, bhpσ_85, chpσ_85, dhpσ_85⟩ := hpσ_85
        have fr_σ_85 := fr_σ_2.call dhpσ_85 rfl rfl
        replace hF := q_biX hF chpσ_85
        have mcσ_85 := m_cK hkσ_85 hI.1 ha (by decide)
        have fxσ_85 : m_c X σ_85 a = m_c X σ a := (funext mcσ_85).trans fxσ_2
        exact q_retz E hr hlk hI ⟨by omega, by omega⟩ ⟨⟨by omega, by omega⟩, fxσ_85, (hF.trans hout), fr_σ_85⟩ dX12_tries_56
  · skip
    replace hF := q_ifp hF c_5
    replace chpσ_4 := q_ifNo chpσ_4 c_5
    refine lv_aload_n hx hb dX12_tries_18 rfl (lv_at hl 0 rfl) ?_
    refine lv_iconst (v := 2) hx hb dX12_tries_19 (by decide) ?_
    have kc_86 : (2 : Int32).toInt = 2 := rfl
    refine q_ci (q_runV (As := [.int 2]) (rest := []) E (hml.trans hl.1.symm) hI (c_X12_no l X σ_2 a (2 : Int32) ha) kv_X12_74 ha ⟨rfl, by decide⟩ (show vwCl[11]? = some (RX12, TX12, 46) from rfl) rfl ⟨Nat.le_of_ble_eq_true rfl, Nat.le_of_ble_eq_true rfl⟩ ⟨Nat.le_refl _, Nat.le_refl _⟩ rfl (Nat.le_of_ble_eq_true rfl) dX12_tries_20) hI (by decide) (fun r_87 σ_88 H locs hpσ_88 hkσ_88 hI => ?_)
    obtain ⟨ahpσ_88, bhpσ_88, chpσ_88, dhpσ_88⟩ := hpσ_88
    have fr_σ_88 := fr_σ_2.call dhpσ_88 rfl rfl
    replace hF := q_biX hF chpσ_88
    have mcσ_88 := m_cK hkσ_88 hI.1 ha (by decide)
    have fxσ_88 : m_c X σ_88 a = m_c X σ a := (funext mcσ_88).trans fxσ_2
    exact q_retz E hr hlk hI ⟨by omega, by omega⟩ ⟨⟨by omega, by omega⟩, fxσ_88, (hF.trans hout), fr_σ_88⟩ dX12_tries_23

set_option maxRecDepth 100000 in
set_option maxHeartbeats 4000000 in
theorem c_X12_wins (l : Launch) (X : XW) (σ : ST) (a : Nat) (v1 : Int32) (v2 : Int32) (v3 : Int32) (n : Int) (ha : q_kd X a = 12) (hG : m_G (m_c X σ a)) (hW : m_W (m_c X σ a) n) (hn : 0 ≤ n ∧ n ≤ 199000) : Met l yX12_wins (q_ws yX12_wins cX12_wins 4 (some .boolean)) (q_rm 70 1639) (q_P X σ [.ref a, .int v1, .int v2, .int v3]) (q_Qi X 1 σ (fun (r : Int32) (σ' : ST) => (0 ≤ r.toInt ∧ r.toInt ≤ 1) ∧ (m_c X σ' a = m_c X σ a) ∧ (r, σ') = F_X12_wins X σ a v1 v2 v3 ∧ q_ow [(12, 0), (12, 1), (12, 38), (12, 39), (12, 40), (12, 41), (12, 42), (12, 43), (12, 44), (12, 45), (34, 99), (35, 99), (39, 99)] [(12, 2), (12, 3)] X σ σ')) 0 0 (q_reg X) := by
  refine q_met 1 (by first | exact rfl | decide +kernel) rfl (Nat.le_of_ble_eq_true rfl) (fun p e s m below meth c E hml hr hlk hI ls hl => ?_)
  have hx := E.1
  have hb := E.2.1
  have hl : lv_has ls 4 [(0, .ref a), (1, .int v1), (2, .int v2), (3, .int v3)] := hl
  have fr_σ : q_ow [(12, 0), (12, 1), (12, 38), (12, 39), (12, 40), (12, 41), (12, 42), (12, 43), (12, 44), (12, 45), (34, 99), (35, 99), (39, 99)] [(12, 2), (12, 3)] X σ σ := q_ow.rf
  obtain ⟨out, hout⟩ : ∃ o, o = F_X12_wins X σ a v1 v2 v3 := ⟨_, rfl⟩
  have hF := hout.symm
  unfold F_X12_wins at hF
  refine lv_aload_n hx hb dX12_wins_0 rfl (lv_at hl 0 rfl) ?_
  refine lv_iload_n hx hb dX12_wins_1 rfl (lv_at hl 1 rfl) ?_
  refine lv_iload_n hx hb dX12_wins_2 rfl (lv_at hl 2 rfl) ?_
  refine lv_iload_n hx hb dX12_wins_3 rfl (lv_at hl 3 rfl) ?_
  refine lv_iconst (v := 1) hx hb dX12_wins_4 (by decide) ?_
  have kc_1 : (1 : Int32).toInt = 1 := rfl
  refine q_ci (q_runV (As := [.int v1, .int v2, .int v3, .int 1]) (rest := []) E (hml.trans hl.1.symm) hI (c_X12_tries l X σ a v1 v2 v3 (1 : Int32) n ha hG hW hn) kv_X12_451 ha ⟨rfl, by decide⟩ (show vwCl[11]? = some (RX12, TX12, 46) from rfl) rfl ⟨Nat.le_of_ble_eq_true rfl, Nat.le_of_ble_eq_true rfl⟩ ⟨Nat.le_refl _, Nat.le_refl _⟩ rfl (Nat.le_of_ble_eq_true rfl) dX12_wins_5) hI (by decide) (fun r_2 σ_3 H locs hpσ_3 hkσ_3 hI => ?_)
  obtain ⟨ahpσ_3, bhpσ_3, chpσ_3, dhpσ_3⟩ := hpσ_3
  have fr_σ_3 := fr_σ.call dhpσ_3 rfl rfl
  replace hF := q_biX hF chpσ_3
  have tqσ_3 := bhpσ_3
  exact q_retz E hr hlk hI ⟨by omega, by omega⟩ ⟨⟨by omega, by omega⟩, tqσ_3, (hF.trans hout), fr_σ_3⟩ dX12_wins_8

set_option maxRecDepth 100000 in
set_option maxHeartbeats 4000000 in
theorem c_X12_left (l : Launch) (X : XW) (σ : ST) (a : Nat) (v1 : Int32) (v2 : Int32) (v3 : Int32) (n : Int) (ha : q_kd X a = 12) (hG : m_G (m_c X σ a)) (hW : m_W (m_c X σ a) n) (hn : 0 ≤ n ∧ n ≤ 199000) : Met l yX12_left (q_ws yX12_left cX12_left 4 (some .boolean)) (q_rm 70 1639) (q_P X σ [.ref a, .int v1, .int v2, .int v3]) (q_Qi X 1 σ (fun (r : Int32) (σ' : ST) => (0 ≤ r.toInt ∧ r.toInt ≤ 1) ∧ (m_c X σ' a = m_c X σ a) ∧ (r, σ') = F_X12_left X σ a v1 v2 v3 ∧ q_ow [(12, 0), (12, 1), (12, 38), (12, 39), (12, 40), (12, 41), (12, 42), (12, 43), (12, 44), (12, 45), (34, 99), (35, 99), (39, 99)] [(12, 2), (12, 3)] X σ σ')) 0 0 (q_reg X) := by
  refine q_met 1 (by first | exact rfl | decide +kernel) rfl (Nat.le_of_ble_eq_true rfl) (fun p e s m below meth c E hml hr hlk hI ls hl => ?_)
  have hx := E.1
  have hb := E.2.1
  have hl : lv_has ls 4 [(0, .ref a), (1, .int v1), (2, .int v2), (3, .int v3)] := hl
  have fr_σ : q_ow [(12, 0), (12, 1), (12, 38), (12, 39), (12, 40), (12, 41), (12, 42), (12, 43), (12, 44), (12, 45), (34, 99), (35, 99), (39, 99)] [(12, 2), (12, 3)] X σ σ := q_ow.rf
  obtain ⟨out, hout⟩ : ∃ o, o = F_X12_left X σ a v1 v2 v3 := ⟨_, rfl⟩
  have hF := hout.symm
  unfold F_X12_left at hF
  refine lv_aload_n hx hb dX12_left_0 rfl (lv_at hl 0 rfl) ?_
  refine lv_iload_n hx hb dX12_left_1 rfl (lv_at hl 1 rfl) ?_
  refine lv_iload_n hx hb dX12_left_2 rfl (lv_at hl 2 rfl) ?_
  refine lv_iload_n hx hb dX12_left_3 rfl (lv_at hl 3 rfl) ?_
  refine lv_iconst (v := 0) hx hb dX12_left_4 (by decide) ?_
  have kc_1 : (0 : Int32).toInt = 0 := rfl
  refine q_ci (q_runV (As := [.int v1, .int v2, .int v3, .int 0]) (rest := []) E (hml.trans hl.1.symm) hI (c_X12_tries l X σ a v1 v2 v3 (0 : Int32) n ha hG hW hn) kv_X12_451 ha ⟨rfl, by decide⟩ (show vwCl[11]? = some (RX12, TX12, 46) from rfl) rfl ⟨Nat.le_of_ble_eq_true rfl, Nat.le_of_ble_eq_true rfl⟩ ⟨Nat.le_refl _, Nat.le_refl _⟩ rfl (Nat.le_of_ble_eq_true rfl) dX12_left_5) hI (by decide) (fun r_2 σ_3 H locs hpσ_3 hkσ_3 hI => ?_)
  obtain ⟨ahpσ_3, bhpσ_3, chpσ_3, dhpσ_3⟩ := hpσ_3
  have fr_σ_3 := fr_σ.call dhpσ_3 rfl rfl
  replace hF := q_biX hF chpσ_3
  have tqσ_3 := bhpσ_3
  exact q_retz E hr hlk hI ⟨by omega, by omega⟩ ⟨⟨by omega, by omega⟩, tqσ_3, (hF.trans hout), fr_σ_3⟩ dX12_left_8

set_option maxRecDepth 100000 in
set_option maxHeartbeats 4000000 in
theorem c_X12_mark (l : Launch) (X : XW) (σ : ST) (a : Nat) (n : Int) (ha : q_kd X a = 12) (hM : m_M (m_c X σ a) (σ.1 a 24).toInt n) : Met l yX12_mark (q_ws yX12_mark cX12_mark 1 (some .int)) (q_rm 1 23) (q_P X σ [.ref a]) (q_Qi X 0 σ (fun (r : Int32) (σ' : ST) => (q_KS (fun b g => b = a ∧ g = 24) 1 X σ σ') ∧ (m_M (m_c X σ' a) (σ'.1 a 24).toInt n) ∧ ((σ.1 a 24).toInt < 3 → (σ'.1 a 24).toInt = (σ.1 a 24).toInt + 1 ∧ r.toInt = (σ.1 a 24).toInt + 1) ∧ ((σ.1 a 24).toInt = 3 → (σ'.1 a 24).toInt = 3 ∧ r.toInt = -1) ∧ (r, σ') = F_X12_mark X σ a ∧ q_ow [(12, 0), (12, 1), (12, 24), (34, 99)] [(37, 99)] X σ σ')) 0 0 (q_reg X) := by
  refine q_met 0 (by first | exact rfl | decide +kernel) rfl (Nat.le_of_ble_eq_true rfl) (fun p e s m below meth c E hml hr hlk hI ls hl => ?_)
  have hx := E.1
  have hb := E.2.1
  have hl : lv_has ls 1 [(0, .ref a)] := hl
  have ks_σ : q_KS (fun b g => b = a ∧ g = 24) 1 X σ σ := q_KS.rf
  have fxσ : m_c X σ a = m_c X σ a := rfl
  have fr_σ : q_ow [(12, 0), (12, 1), (12, 24), (34, 99)] [(37, 99)] X σ σ := q_ow.rf
  have b24 := q_bd (f := 24) (lo := 0) (hi := 3) hI ha rfl
  obtain ⟨out, hout⟩ : ∃ o, o = F_X12_mark X σ a := ⟨_, rfl⟩
  have hF := hout.symm
  unfold F_X12_mark at hF
  refine lv_aload_n hx hb dX12_mark_0 rfl (lv_at hl 0 rfl) ?_
  refine lv_iconst (v := 0) hx hb dX12_mark_1 (by decide) ?_
  refine ps_X12_59_12 E hI ha (by decide) dX12_mark_2 (fun H locs σ_1 hσ_1 hI => ?_)
  replace hF := q_letX hF hσ_1
  have fr_σ_1 := fr_σ.si hσ_1 ha rfl
  have ks_σ_1 : q_KS (fun b g => b = a ∧ g = 24) 1 X σ σ_1 := ks_σ.si hσ_1 ha (show 1 < 9 by decide)
  have mv24_σ_1 : (σ_1.1 a 24).toInt = (σ.1 a 24).toInt := congrArg Int32.toInt (q_rdn hσ_1 (Or.inr (by decide)))
  have mcσ_1 := m_wo hσ_1 (m_ne ha (q_tk (f := 20) (k' := 34) hI ha rfl (by decide)) (by decide))
  have fxσ_1 : m_c X σ_1 a = m_c X σ a := (funext mcσ_1).trans fxσ
  refine lv_aload_n hx hb dX12_mark_5 rfl (lv_at hl 0 rfl) ?_
  refine lv_iconst (v := 0) hx hb dX12_mark_6 (by decide) ?_
  refine ps_X12_62_12 E hI ha (by decide) dX12_mark_7 (fun H locs σ_2 hσ_2 hI => ?_)
  replace hF := q_letX hF hσ_2
  have fr_σ_2 := fr_σ_1.si hσ_2 ha rfl
  have ks_σ_2 : q_KS (fun b g => b = a ∧ g = 24) 1 X σ σ_2 := ks_σ_1.si hσ_2 ha (show 1 < 9 by decide)
  have mv24_σ_2 : (σ_2.1 a 24).toInt = (σ_1.1 a 24).toInt := congrArg Int32.toInt (q_rdn hσ_2 (Or.inr (by decide)))
  have mcσ_2 := m_wo hσ_2 (m_ne ha (q_tk (f := 20) (k' := 34) hI ha rfl (by decide)) (by decide))
  have fxσ_2 : m_c X σ_2 a = m_c X σ a := (funext mcσ_2).trans fxσ_1
  refine lv_aload_n hx hb dX12_mark_10 rfl (lv_at hl 0 rfl) ?_
  refine gs_X12_455_12 E hI ha dX12_mark_11 ?_
  refine lv_topi (fun f_3 ef_3 => ?_)
  replace hF := q_letX hF ef_3
  have if_3 : f_3.toInt = (σ_2.1 a 24).toInt := congrArg Int32.toInt ef_3
  have bf_3 : 0 ≤ f_3.toInt ∧ f_3.toInt ≤ 3 := by rw [ef_3]; exact q_bd hI ha rfl
  refine lv_iconst (v := 3) hx hb dX12_mark_14 (by decide) ?_
  refine q_icmp_ne (A := f_3.toInt) (B := 3) E rfl (by decide) (tgt := 25) dX12_mark_15 (by decide) (fun c_4 => ?_) (fun c_4 => ?_)
  · skip
    replace hF := q_ifn hF c_4
    refine lv_aload_n hx hb dX12_mark_25 rfl (lv_at hl 0 rfl) ?_
    refine lv_dup hx hb dX12_mark_26 rfl ?_
    refine gs_X12_455_12 E hI ha dX12_mark_27 ?_
    refine lv_topi (fun f_5 ef_5 => ?_)
    replace hF := q_letX hF ef_5
    have if_5 : f_5.toInt = (σ_2.1 a 24).toInt := congrArg Int32.toInt ef_5
    have bf_5 : 0 ≤ f_5.toInt ∧ f_5.toInt ≤ 3 := by rw [ef_5]; exact q_bd hI ha rfl
    refine lv_iconst (v := 1) hx hb dX12_mark_30 (by decide) ?_
    refine lv_iadd hx hb dX12_mark_31 ?_
    refine lv_topi (fun z_6 ez_6 => ?_)
    replace hF := q_letX hF ez_6
    have iz_6 := q_addI (A := f_5.toInt) (B := 1) ez_6 rfl (by decide) (by first | (clear bf_3 c_4 bf_5; omega) | omega) (by first | (clear bf_3 c_4 bf_5; omega) | omega)
    refine ps_X12_455_12 E hI ha (by decide) (by first | (clear bf_3 c_4 bf_5; omega) | omega) (by first | (clear bf_3 bf_5; omega) | omega) dX12_mark_32 (fun H locs σ_7 hσ_7 hI => ?_)
    replace hF := q_letX hF hσ_7
    have fr_σ_7 := fr_σ_2.si hσ_7 ha rfl
    have ks_σ_7 : q_KS (fun b g => b = a ∧ g = 24) 1 X σ σ_7 := ks_σ_2.siS hσ_7 ⟨rfl, rfl⟩
    have mv24_σ_7 : (σ_7.1 a 24).toInt = z_6.toInt := congrArg Int32.toInt (q_rd hσ_7)
    have mcσ_7 := m_wo hσ_7 (m_ne ha (q_tk (f := 20) (k' := 34) hI ha rfl (by decide)) (by decide))
    have fxσ_7 : m_c X σ_7 a = m_c X σ a := (funext mcσ_7).trans fxσ_2
    refine lv_aload_n hx hb dX12_mark_35 rfl (lv_at hl 0 rfl) ?_
    refine lv_iconst (v := 0) hx hb dX12_mark_36 (by decide) ?_
    refine lv_aload_n hx hb dX12_mark_37 rfl (lv_at hl 0 rfl) ?_
    refine gs_X12_455_12 E hI ha dX12_mark_38 ?_
    refine lv_topi (fun f_8 ef_8 => ?_)
    replace hF := q_letX hF ef_8
    have if_8 : f_8.toInt = (σ_7.1 a 24).toInt := congrArg Int32.toInt ef_8
    have bf_8 : 0 ≤ f_8.toInt ∧ f_8.toInt ≤ 3 := by rw [ef_8]; exact q_bd hI ha rfl
    have kc_9 : (0 : Int32).toInt = 0 := rfl
    refine q_cv (q_runV (As := [.int 0, .int f_8]) (rest := []) E (hml.trans hl.1.symm) hI (c_X12_copy l X σ_7 a (0 : Int32) f_8 ha (by first | (clear b24 mv24_σ_1 mv24_σ_2 if_3 bf_3 c_4 if_5 bf_5 iz_6 mv24_σ_7 if_8 bf_8; omega) | omega) (by omega) (by first | (clear bf_3 c_4 bf_5; omega) | omega)) kv_X12_261 ha ⟨rfl, by decide⟩ (show vwCl[11]? = some (RX12, TX12, 46) from rfl) rfl ⟨Nat.le_of_ble_eq_true rfl, Nat.le_of_ble_eq_true rfl⟩ ⟨Nat.le_refl _, Nat.le_refl _⟩ rfl (Nat.le_of_ble_eq_true rfl) dX12_mark_41) hI (by decide) (fun σ_11 H locs hpσ_11 hkσ_11 hI => ?_)
    obtain ⟨ahpσ_11, bhpσ_11, chpσ_11⟩ := hpσ_11
    have fr_σ_11 := fr_σ_7.call chpσ_11 rfl rfl
    replace hF := q_letX hF bhpσ_11
    have mv24_σ_11 : (σ_11.1 a 24).toInt = (σ_7.1 a 24).toInt := congrArg Int32.toInt (hkσ_11 a 24 (by rw [ha]; decide))
    have ks_σ_11 : q_KS (fun b g => b = a ∧ g = 24) 1 X σ σ_11 := ks_σ_7.K hkσ_11 (by decide)
    have mmσ_11 : m_M (m_c X σ_11 a) ((σ.1 a 24).toInt + 1) n := m_M.mark (w := (0 : Int32).toInt) (z := f_8.toInt) hM (by first | (clear bf_3 c_4 bf_5 kc_9 ahpσ_11 bhpσ_11 chpσ_11; omega) | omega) (by decide) (by first | (clear b24 bf_3 c_4 bf_5 bf_8 kc_9 ahpσ_11 bhpσ_11 chpσ_11 mv24_σ_11; omega) | omega) (fun j hj => (by have q := ahpσ_11 j hj; rw [fxσ_7] at q; exact q))
    refine lv_aload_n hx hb dX12_mark_44 rfl (lv_at hl 0 rfl) ?_
    refine gs_X12_455_12 E hI ha dX12_mark_45 ?_
    refine lv_topi (fun f_12 ef_12 => ?_)
    replace hF := q_letX hF ef_12
    have if_12 : f_12.toInt = (σ_11.1 a 24).toInt := congrArg Int32.toInt ef_12
    have bf_12 : 0 ≤ f_12.toInt ∧ f_12.toInt ≤ 3 := by rw [ef_12]; exact q_bd hI ha rfl
    exact q_reti E hr hlk hI ⟨ks_σ_11, (by first | (have q : (σ_11.1 a 24).toInt = (σ.1 a 24).toInt := (by omega); rw [fxσ_11, q]; exact hM) | (have q : (σ_11.1 a 24).toInt = (σ.1 a 24).toInt + 1 := (by first | (clear b24 bf_3 c_4 bf_5 bf_8 kc_9 ahpσ_11 bhpσ_11 chpσ_11 if_12 bf_12; omega) | omega); rw [q]; exact mmσ_11)), (by first | (clear b24 bf_3 c_4 bf_5 bf_8 kc_9 ahpσ_11 bhpσ_11 chpσ_11 bf_12; omega) | omega), (by first | (clear bf_3 c_4 bf_5 kc_9 ahpσ_11 bhpσ_11 chpσ_11 bf_12; omega) | omega), (hF.trans hout), fr_σ_11⟩ dX12_mark_48
  · skip
    replace hF := q_ifp hF c_4
    refine lv_aload_n hx hb dX12_mark_18 rfl (lv_at hl 0 rfl) ?_
    refine lv_bipush (v := 7) hx hb dX12_mark_19 (by decide) ?_
    have kc_13 : (7 : Int32).toInt = 7 := rfl
    refine q_ci (q_runV (As := [.int 7]) (rest := []) E (hml.trans hl.1.symm) hI (c_X12_refuse l X σ_2 a (7 : Int32) ha) kv_X12_284 ha ⟨rfl, by decide⟩ (show vwCl[11]? = some (RX12, TX12, 46) from rfl) rfl ⟨Nat.le_of_ble_eq_true rfl, Nat.le_of_ble_eq_true rfl⟩ ⟨Nat.le_refl _, Nat.le_refl _⟩ rfl (Nat.le_of_ble_eq_true rfl) dX12_mark_21) hI (by decide) (fun r_14 σ_15 H locs hpσ_15 hkσ_15 hI => ?_)
    obtain ⟨ahpσ_15, bhpσ_15, chpσ_15⟩ := hpσ_15
    have fr_σ_15 := fr_σ_2.call chpσ_15 rfl rfl
    replace hF := q_biX hF bhpσ_15
    have mv24_σ_15 : (σ_15.1 a 24).toInt = (σ_2.1 a 24).toInt := congrArg Int32.toInt ((q_K.le hkσ_15 (by decide) : q_K 8 X σ_2 σ_15) a 24 (by rw [ha]; decide))
    have mcσ_15 := m_cK hkσ_15 hI.1 ha (by decide)
    have fxσ_15 : m_c X σ_15 a = m_c X σ a := (funext mcσ_15).trans fxσ_2
    have ks_σ_15 : q_KS (fun b g => b = a ∧ g = 24) 1 X σ σ_15 := ks_σ_2.K hkσ_15 (by decide)
    exact q_reti E hr hlk hI ⟨ks_σ_15, (by first | (have q : (σ_15.1 a 24).toInt = (σ.1 a 24).toInt := (by first | (clear b24 bf_3 kc_13 ahpσ_15 bhpσ_15 chpσ_15; omega) | omega); rw [fxσ_15, q]; exact hM) | (have q : (σ_15.1 a 24).toInt = (σ.1 a 24).toInt + 1 := (by omega); rw [q]; exact mmσ_15)), (by first | (clear b24 bf_3 kc_13 ahpσ_15 bhpσ_15 chpσ_15 mv24_σ_15; omega) | omega), (by first | (clear b24 mv24_σ_1 mv24_σ_2 bf_3 kc_13 bhpσ_15 chpσ_15; omega) | omega), (hF.trans hout), fr_σ_15⟩ dX12_mark_24

set_option maxRecDepth 100000 in
set_option maxHeartbeats 4000000 in
theorem c_X12_back (l : Launch) (X : XW) (σ : ST) (a : Nat) (n : Int) (ha : q_kd X a = 12) (hM : m_M (m_c X σ a) (σ.1 a 24).toInt n) : Met l yX12_back (q_ws yX12_back cX12_back 1 (some .int)) (q_rm 1 23) (q_P X σ [.ref a]) (q_Qi X 0 σ (fun (r : Int32) (σ' : ST) => (q_KS (fun b g => b = a ∧ g = 24) 1 X σ σ') ∧ (m_M (m_c X σ' a) (σ'.1 a 24).toInt n) ∧ (0 < (σ.1 a 24).toInt → (σ'.1 a 24).toInt = (σ.1 a 24).toInt - 1 ∧ r.toInt = (σ.1 a 24).toInt - 1) ∧ ((σ.1 a 24).toInt = 0 → (σ'.1 a 24).toInt = 0 ∧ r.toInt = -1) ∧ (r, σ') = F_X12_back X σ a ∧ q_ow [(12, 0), (12, 1), (12, 24), (34, 99)] [(37, 99)] X σ σ')) 0 0 (q_reg X) := by
  refine q_met 0 (by first | exact rfl | decide +kernel) rfl (Nat.le_of_ble_eq_true rfl) (fun p e s m below meth c E hml hr hlk hI ls hl => ?_)
  have hx := E.1
  have hb := E.2.1
  have hl : lv_has ls 1 [(0, .ref a)] := hl
  have ks_σ : q_KS (fun b g => b = a ∧ g = 24) 1 X σ σ := q_KS.rf
  have fxσ : m_c X σ a = m_c X σ a := rfl
  have fr_σ : q_ow [(12, 0), (12, 1), (12, 24), (34, 99)] [(37, 99)] X σ σ := q_ow.rf
  have b24 := q_bd (f := 24) (lo := 0) (hi := 3) hI ha rfl
  obtain ⟨out, hout⟩ : ∃ o, o = F_X12_back X σ a := ⟨_, rfl⟩
  have hF := hout.symm
  unfold F_X12_back at hF
  refine lv_aload_n hx hb dX12_back_0 rfl (lv_at hl 0 rfl) ?_
  refine lv_iconst (v := 0) hx hb dX12_back_1 (by decide) ?_
  refine ps_X12_59_12 E hI ha (by decide) dX12_back_2 (fun H locs σ_1 hσ_1 hI => ?_)
  replace hF := q_letX hF hσ_1
  have fr_σ_1 := fr_σ.si hσ_1 ha rfl
  have ks_σ_1 : q_KS (fun b g => b = a ∧ g = 24) 1 X σ σ_1 := ks_σ.si hσ_1 ha (show 1 < 9 by decide)
  have mv24_σ_1 : (σ_1.1 a 24).toInt = (σ.1 a 24).toInt := congrArg Int32.toInt (q_rdn hσ_1 (Or.inr (by decide)))
  have mcσ_1 := m_wo hσ_1 (m_ne ha (q_tk (f := 20) (k' := 34) hI ha rfl (by decide)) (by decide))
  have fxσ_1 : m_c X σ_1 a = m_c X σ a := (funext mcσ_1).trans fxσ
  refine lv_aload_n hx hb dX12_back_5 rfl (lv_at hl 0 rfl) ?_
  refine lv_iconst (v := 0) hx hb dX12_back_6 (by decide) ?_
  refine ps_X12_62_12 E hI ha (by decide) dX12_back_7 (fun H locs σ_2 hσ_2 hI => ?_)
  replace hF := q_letX hF hσ_2
  have fr_σ_2 := fr_σ_1.si hσ_2 ha rfl
  have ks_σ_2 : q_KS (fun b g => b = a ∧ g = 24) 1 X σ σ_2 := ks_σ_1.si hσ_2 ha (show 1 < 9 by decide)
  have mv24_σ_2 : (σ_2.1 a 24).toInt = (σ_1.1 a 24).toInt := congrArg Int32.toInt (q_rdn hσ_2 (Or.inr (by decide)))
  have mcσ_2 := m_wo hσ_2 (m_ne ha (q_tk (f := 20) (k' := 34) hI ha rfl (by decide)) (by decide))
  have fxσ_2 : m_c X σ_2 a = m_c X σ a := (funext mcσ_2).trans fxσ_1
  refine lv_aload_n hx hb dX12_back_10 rfl (lv_at hl 0 rfl) ?_
  refine gs_X12_455_12 E hI ha dX12_back_11 ?_
  refine lv_topi (fun f_3 ef_3 => ?_)
  replace hF := q_letX hF ef_3
  have if_3 : f_3.toInt = (σ_2.1 a 24).toInt := congrArg Int32.toInt ef_3
  have bf_3 : 0 ≤ f_3.toInt ∧ f_3.toInt ≤ 3 := by rw [ef_3]; exact q_bd hI ha rfl
  refine q_if_ne (A := f_3.toInt) E rfl (tgt := 24) dX12_back_14 (by decide) (fun c_4 => ?_) (fun c_4 => ?_)
  · skip
    replace hF := q_ifn hF c_4
    refine lv_aload_n hx hb dX12_back_24 rfl (lv_at hl 0 rfl) ?_
    refine lv_aload_n hx hb dX12_back_25 rfl (lv_at hl 0 rfl) ?_
    refine gs_X12_455_12 E hI ha dX12_back_26 ?_
    refine lv_topi (fun f_5 ef_5 => ?_)
    replace hF := q_letX hF ef_5
    have if_5 : f_5.toInt = (σ_2.1 a 24).toInt := congrArg Int32.toInt ef_5
    have bf_5 : 0 ≤ f_5.toInt ∧ f_5.toInt ≤ 3 := by rw [ef_5]; exact q_bd hI ha rfl
    refine lv_iconst (v := 0) hx hb dX12_back_29 (by decide) ?_
    have kc_6 : (0 : Int32).toInt = 0 := rfl
    refine q_cv (q_runV (As := [.int f_5, .int 0]) (rest := []) E (hml.trans hl.1.symm) hI (c_X12_copy l X σ_2 a f_5 (0 : Int32) ha (by first | (clear bf_3 c_4 bf_5 kc_6; omega) | omega) (by first | (clear b24 mv24_σ_1 mv24_σ_2 if_3 bf_3 c_4 if_5 bf_5; omega) | omega) (by first | (clear b24 mv24_σ_1 mv24_σ_2 bf_3 bf_5; omega) | omega)) kv_X12_261 ha ⟨rfl, by decide⟩ (show vwCl[11]? = some (RX12, TX12, 46) from rfl) rfl ⟨Nat.le_of_ble_eq_true rfl, Nat.le_of_ble_eq_true rfl⟩ ⟨Nat.le_refl _, Nat.le_refl _⟩ rfl (Nat.le_of_ble_eq_true rfl) dX12_back_30) hI (by decide) (fun σ_8 H locs hpσ_8 hkσ_8 hI => ?_)
    obtain ⟨ahpσ_8, bhpσ_8, chpσ_8⟩ := hpσ_8
    have fr_σ_8 := fr_σ_2.call chpσ_8 rfl rfl
    replace hF := q_letX hF bhpσ_8
    have mv24_σ_8 : (σ_8.1 a 24).toInt = (σ_2.1 a 24).toInt := congrArg Int32.toInt (hkσ_8 a 24 (by rw [ha]; decide))
    have ks_σ_8 : q_KS (fun b g => b = a ∧ g = 24) 1 X σ σ_8 := ks_σ_2.K hkσ_8 (by decide)
    have mmσ_8 : m_M (m_c X σ_8 a) ((σ.1 a 24).toInt - 1) n := m_M.back (w := f_5.toInt) (z := (0 : Int32).toInt) hM (by first | (clear bf_3 bf_5 kc_6 ahpσ_8 bhpσ_8 chpσ_8; omega) | omega) (by first | (clear b24 bf_3 c_4 bf_5 kc_6 ahpσ_8 bhpσ_8 chpσ_8 mv24_σ_8; omega) | omega) (by decide) (fun j hj => (by have q := ahpσ_8 j hj; rw [fxσ_2] at q; exact q))
    refine lv_aload_n hx hb dX12_back_33 rfl (lv_at hl 0 rfl) ?_
    refine lv_dup hx hb dX12_back_34 rfl ?_
    refine gs_X12_455_12 E hI ha dX12_back_35 ?_
    refine lv_topi (fun f_9 ef_9 => ?_)
    replace hF := q_letX hF ef_9
    have if_9 : f_9.toInt = (σ_8.1 a 24).toInt := congrArg Int32.toInt ef_9
    have bf_9 : 0 ≤ f_9.toInt ∧ f_9.toInt ≤ 3 := by rw [ef_9]; exact q_bd hI ha rfl
    refine lv_iconst (v := 1) hx hb dX12_back_38 (by decide) ?_
    refine lv_isub hx hb dX12_back_39 ?_
    refine lv_topi (fun z_10 ez_10 => ?_)
    replace hF := q_letX hF ez_10
    have iz_10 := q_subI (A := f_9.toInt) (B := 1) ez_10 rfl (by decide) (by first | (clear bf_3 c_4 bf_5 kc_6 ahpσ_8 bhpσ_8 chpσ_8 bf_9; omega) | omega) (by first | (clear bf_3 c_4 bf_5 kc_6 ahpσ_8 bhpσ_8 chpσ_8 bf_9; omega) | omega)
    refine ps_X12_455_12 E hI ha (by decide) (by first | (clear bf_3 bf_5 kc_6 ahpσ_8 bhpσ_8 chpσ_8 bf_9; omega) | omega) (by first | (clear bf_3 c_4 bf_5 kc_6 ahpσ_8 bhpσ_8 chpσ_8 bf_9; omega) | omega) dX12_back_40 (fun H locs σ_11 hσ_11 hI => ?_)
    replace hF := q_letX hF hσ_11
    have fr_σ_11 := fr_σ_8.si hσ_11 ha rfl
    have ks_σ_11 : q_KS (fun b g => b = a ∧ g = 24) 1 X σ σ_11 := ks_σ_8.siS hσ_11 ⟨rfl, rfl⟩
    have mv24_σ_11 : (σ_11.1 a 24).toInt = z_10.toInt := congrArg Int32.toInt (q_rd hσ_11)
    have mcσ_11 := m_wo hσ_11 (m_ne ha (q_tk (f := 20) (k' := 34) hI ha rfl (by decide)) (by decide))
    have fyσ_11 : m_c X σ_11 a = m_c X σ_8 a := funext mcσ_11
    have mnσ_11 := mmσ_8
    rw [← fyσ_11] at mnσ_11
    refine lv_aload_n hx hb dX12_back_43 rfl (lv_at hl 0 rfl) ?_
    refine gs_X12_455_12 E hI ha dX12_back_44 ?_
    refine lv_topi (fun f_12 ef_12 => ?_)
    replace hF := q_letX hF ef_12
    have if_12 : f_12.toInt = (σ_11.1 a 24).toInt := congrArg Int32.toInt ef_12
    have bf_12 : 0 ≤ f_12.toInt ∧ f_12.toInt ≤ 3 := by rw [ef_12]; exact q_bd hI ha rfl
    exact q_reti E hr hlk hI ⟨ks_σ_11, (by first | (have q : (σ_11.1 a 24).toInt = (σ.1 a 24).toInt := (by omega); rw [fxσ_11, q]; exact hM) | (have q : (σ_11.1 a 24).toInt = (σ.1 a 24).toInt - 1 := (by first | (clear b24 bf_3 c_4 bf_5 kc_6 ahpσ_8 bhpσ_8 chpσ_8 bf_9 if_12 bf_12; omega) | omega); rw [q]; exact mnσ_11)), (by first | (clear b24 bf_3 c_4 bf_5 kc_6 ahpσ_8 bhpσ_8 chpσ_8 bf_9 bf_12; omega) | omega), (by first | (clear bf_3 c_4 bf_5 kc_6 ahpσ_8 bhpσ_8 chpσ_8 bf_9; omega) | omega), (hF.trans hout), fr_σ_11⟩ dX12_back_47
  · skip
    replace hF := q_ifp hF c_4
    refine lv_aload_n hx hb dX12_back_17 rfl (lv_at hl 0 rfl) ?_
    refine lv_bipush (v := 8) hx hb dX12_back_18 (by decide) ?_
    have kc_13 : (8 : Int32).toInt = 8 := rfl
    refine q_ci (q_runV (As := [.int 8]) (rest := []) E (hml.trans hl.1.symm) hI (c_X12_refuse l X σ_2 a (8 : Int32) ha) kv_X12_284 ha ⟨rfl, by decide⟩ (show vwCl[11]? = some (RX12, TX12, 46) from rfl) rfl ⟨Nat.le_of_ble_eq_true rfl, Nat.le_of_ble_eq_true rfl⟩ ⟨Nat.le_refl _, Nat.le_refl _⟩ rfl (Nat.le_of_ble_eq_true rfl) dX12_back_20) hI (by decide) (fun r_14 σ_15 H locs hpσ_15 hkσ_15 hI => ?_)
    obtain ⟨ahpσ_15, bhpσ_15, chpσ_15⟩ := hpσ_15
    have fr_σ_15 := fr_σ_2.call chpσ_15 rfl rfl
    replace hF := q_biX hF bhpσ_15
    have mv24_σ_15 : (σ_15.1 a 24).toInt = (σ_2.1 a 24).toInt := congrArg Int32.toInt ((q_K.le hkσ_15 (by decide) : q_K 8 X σ_2 σ_15) a 24 (by rw [ha]; decide))
    have mcσ_15 := m_cK hkσ_15 hI.1 ha (by decide)
    have fxσ_15 : m_c X σ_15 a = m_c X σ a := (funext mcσ_15).trans fxσ_2
    have ks_σ_15 : q_KS (fun b g => b = a ∧ g = 24) 1 X σ σ_15 := ks_σ_2.K hkσ_15 (by decide)
    exact q_reti E hr hlk hI ⟨ks_σ_15, (by first | (have q : (σ_15.1 a 24).toInt = (σ.1 a 24).toInt := (by first | (clear b24 bf_3 kc_13 ahpσ_15 bhpσ_15 chpσ_15; omega) | omega); rw [fxσ_15, q]; exact hM) | (have q : (σ_15.1 a 24).toInt = (σ.1 a 24).toInt - 1 := (by omega); rw [q]; exact mnσ_15)), (by first | (clear b24 bf_3 kc_13 ahpσ_15 bhpσ_15 chpσ_15 mv24_σ_15; omega) | omega), (by first | (clear b24 mv24_σ_1 mv24_σ_2 bf_3 kc_13 bhpσ_15 chpσ_15; omega) | omega), (hF.trans hout), fr_σ_15⟩ dX12_back_23
end
/-! FROM 48a.ar.lean.txt -/
section
/-! ARITHMETIC of the exact answers -/
def ar_w (n : Int) : Int := Int.bmod n (2 ^ 32)
def ar_v (n : Int) : Int := Int.bmod n (2 ^ 64)
theorem ar_wr {n : Int} (h1 : -2147483648 ≤ n) (h2 : n ≤ 2147483647) : ar_w n = n := Int.bmod_eq_of_le (by omega) (by omega)
theorem ar_vr {n : Int} (h1 : -9223372036854775808 ≤ n) (h2 : n ≤ 9223372036854775807) : ar_v n = n := Int.bmod_eq_of_le (by omega) (by omega)
theorem ar_add (x y : Int32) : (x + y).toInt = ar_w (x.toInt + y.toInt) := Int32.toInt_add x y
theorem ar_sub (x y : Int32) : (x - y).toInt = ar_w (x.toInt - y.toInt) := Int32.toInt_sub x y
theorem ar_mul (x y : Int32) : (x * y).toInt = ar_w (x.toInt * y.toInt) := Int32.toInt_mul x y
theorem ar_neg (x : Int32) : (-x).toInt = ar_w (-x.toInt) := Int32.toInt_neg x
theorem ar_addl (x y : Int64) : (x + y).toInt = ar_v (x.toInt + y.toInt) := Int64.toInt_add x y
theorem ar_subl (x y : Int64) : (x - y).toInt = ar_v (x.toInt - y.toInt) := Int64.toInt_sub x y
theorem ar_mull (x y : Int64) : (x * y).toInt = ar_v (x.toInt * y.toInt) := Int64.toInt_mul x y
theorem ar_i2l (x : Int32) : x.toInt64.toInt = x.toInt := Int32.toInt_toInt64 x
theorem ar_cl (x : Int32) : x.toNatClampNeg = x.toInt.toNat := rfl
theorem ar_bd (x : Int32) : -2147483648 ≤ x.toInt ∧ x.toInt ≤ 2147483647 := q_rng x
theorem ar_m1 : (-1 : Int32).toInt = -1 := rfl
end
/-! FROM 48b.view.lean.txt -/
section
/-! THE CLASS'S GAMES AS ROWS OF NUMBERS -/
/-- a label for each object: 8192 for each game, 16 for each step of the way -/
def y_lc (L f : Nat) : Nat := if L = 1 ∧ f = 8 then 8193 else if L = 1 ∧ f = 9 then 16385 else if L = 26 then 8192 * (f + 3) + 1 else if L = 28 ∧ f = 8 then 49153 else L + 15 * (L % 8192) + f
def y_rl (k f : Nat) : Nat := match k with
  | 1 => match f with | 8 => 10 | 10 => 10 | _ => 0
  | 2 => match f with | 0 => 60 | 1 => 60 | 2 => 6 | 3 => 6 | 4 => 6 | 5 => 6 | 6 => 6 | _ => 0
  | 3 => match f with | 2 => 80 | 3 => 80 | 4 => 80 | 5 => 320 | _ => 0
  | 4 => match f with | 9 => 3 | _ => 0
  | 6 => match f with | 5 => 10 | 6 => 48 | 7 => 6 | _ => 0
  | 7 => match f with | 7 => 60 | _ => 0
  | 8 => match f with | 3 => 60 | 4 => 60 | 5 => 60 | 6 => 60 | 7 => 60 | _ => 0
  | 9 => match f with | 11 => 6 | _ => 0
  | _ => 0
/-- the objects and rows of a game: 0 game, 1 rules, 2 pile, 3 script, 4 dealt, 5 names, 6 nameLength, 7 held, 8 laid, 9 cards, 10 lying, 11 doubting, 12 shown, 13 untrue, 14 layer, 15 kindSaid, 16 size, 17 card, 18 action, 19 mate, 20 who, 21 comparison, 22 number, 23 wants, 24 rest -/
def y_gA (X : XW) (g id : Nat) : Nat := match id with
  | 0 => g
  | 1 => q_rf X g 0
  | 2 => q_rf X g 2
  | 3 => q_rf X g 3
  | 4 => q_rf X (q_rf X (q_rf X g 0) 5) 0
  | 5 => q_rf X (q_rf X (q_rf X g 0) 6) 0
  | 6 => q_rf X (q_rf X (q_rf X g 0) 7) 0
  | 7 => q_rf X (q_rf X (q_rf X g 1) 0) 0
  | 8 => q_rf X (q_rf X (q_rf X g 1) 1) 0
  | 9 => q_rf X (q_rf X (q_rf X g 1) 2) 0
  | 10 => q_rf X (q_rf X (q_rf X g 1) 3) 0
  | 11 => q_rf X (q_rf X (q_rf X g 1) 4) 0
  | 12 => q_rf X (q_rf X (q_rf X g 1) 5) 0
  | 13 => q_rf X (q_rf X (q_rf X g 1) 6) 0
  | 14 => q_rf X (q_rf X (q_rf X g 2) 2) 0
  | 15 => q_rf X (q_rf X (q_rf X g 2) 3) 0
  | 16 => q_rf X (q_rf X (q_rf X g 2) 4) 0
  | 17 => q_rf X (q_rf X (q_rf X g 2) 5) 0
  | 18 => q_rf X (q_rf X (q_rf X g 3) 3) 0
  | 19 => q_rf X (q_rf X (q_rf X g 3) 4) 0
  | 20 => q_rf X (q_rf X (q_rf X g 3) 5) 0
  | 21 => q_rf X (q_rf X (q_rf X g 3) 6) 0
  | 22 => q_rf X (q_rf X (q_rf X g 3) 7) 0
  | 23 => q_rf X (q_rf X g 8) 0
  | 24 => q_rf X (q_rf X g 10) 0
  | _ => q_rf X g 0
def y_co (id : Nat) : Nat := match id with | 0 => 1 | 1 => 16 | 2 => 18 | 3 => 19 | 4 => 4176 | 5 => 4192 | 6 => 4208 | 7 => 4352 | 8 => 4368 | 9 => 4384 | 10 => 4400 | 11 => 4416 | 12 => 4432 | 13 => 4448 | 14 => 4640 | 15 => 4656 | 16 => 4672 | 17 => 4688 | 18 => 4912 | 19 => 4928 | 20 => 4944 | 21 => 4960 | 22 => 4976 | 23 => 384 | 24 => 416 | _ => 0
def y_ki (id : Nat) : Nat := match id with | 0 => 1 | 1 => 6 | 2 => 3 | 3 => 8 | _ => 20
def y_gn (id : Nat) : Nat := match id with | 0 => 0 | 1 => 0 | 2 => 0 | 3 => 0 | 4 => 10 | 5 => 48 | 6 => 6 | 7 => 60 | 8 => 60 | 9 => 6 | 10 => 6 | 11 => 6 | 12 => 6 | 13 => 6 | 14 => 80 | 15 => 80 | 16 => 80 | 17 => 320 | 18 => 60 | 19 => 60 | 20 => 60 | 21 => 60 | 22 => 60 | 23 => 10 | 24 => 10 | _ => 0
def y_S (X : XW) (lb : Nat → Nat) : Prop := q_T X ∧ (∀ a f, q_rk (q_kd X a) f ≠ 0 → lb (q_rf X a f) = y_lc (lb a) f) ∧ ∀ a f, q_rk (q_kd X a) f = 5 → q_ln X (q_rf X (q_rf X a f) 0) = y_rl (q_kd X a) f
/-- g is the root of game o -/
def y_G (X : XW) (lb : Nat → Nat) (g o : Nat) : Prop := q_kd X g = 1 ∧ lb g = 8192 * o + 1 ∧ 1 ≤ o
theorem y_lcI {L o c f c' : Nat} (h : L = 8192 * o + c) (ho : 1 ≤ o) (hc : (decide (c < 8192) && (c + 15 * c + f == c')) = true) : y_lc L f = 8192 * o + c' := by
  have h1 : c < 8192 ∧ c + 15 * c + f = c' := by simpa using hc
  unfold y_lc
  rw [if_neg (by omega), if_neg (by omega), if_neg (by omega), if_neg (by omega)]
  omega
set_option maxHeartbeats 4000000 in
theorem y_gf {X : XW} {lb : Nat → Nat} {g o : Nat} (S : y_S X lb) (G : y_G X lb g o) : ∀ id, id < 25 → lb (y_gA X g id) = 8192 * o + y_co id ∧ q_kd X (y_gA X g id) = y_ki id ∧ (4 ≤ id → q_ln X (y_gA X g id) = y_gn id) := by
  obtain ⟨T, L, N⟩ := S
  obtain ⟨gk, gl, go⟩ := G
  have k_ : q_kd X g = 1 := gk
  have l_ : lb g = 8192 * o + 1 := gl
  have k_0 : q_kd X (q_rf X g 0) = 6 := (T.1 (g) 0 (by rw [k_]; decide)).trans (by rw [k_]; rfl)
  have l_0 : lb (q_rf X g 0) = 8192 * o + 16 := (L (g) 0 (by rw [k_]; decide)).trans (y_lcI l_ go (by decide))
  have k_1 : q_kd X (q_rf X g 1) = 2 := (T.1 (g) 1 (by rw [k_]; decide)).trans (by rw [k_]; rfl)
  have l_1 : lb (q_rf X g 1) = 8192 * o + 17 := (L (g) 1 (by rw [k_]; decide)).trans (y_lcI l_ go (by decide))
  have k_2 : q_kd X (q_rf X g 2) = 3 := (T.1 (g) 2 (by rw [k_]; decide)).trans (by rw [k_]; rfl)
  have l_2 : lb (q_rf X g 2) = 8192 * o + 18 := (L (g) 2 (by rw [k_]; decide)).trans (y_lcI l_ go (by decide))
  have k_3 : q_kd X (q_rf X g 3) = 8 := (T.1 (g) 3 (by rw [k_]; decide)).trans (by rw [k_]; rfl)
  have l_3 : lb (q_rf X g 3) = 8192 * o + 19 := (L (g) 3 (by rw [k_]; decide)).trans (y_lcI l_ go (by decide))
  have k_8 : q_kd X (q_rf X g 8) = 5 := (T.1 (g) 8 (by rw [k_]; decide)).trans (by rw [k_]; rfl)
  have l_8 : lb (q_rf X g 8) = 8192 * o + 24 := (L (g) 8 (by rw [k_]; decide)).trans (y_lcI l_ go (by decide))
  have k_10 : q_kd X (q_rf X g 10) = 5 := (T.1 (g) 10 (by rw [k_]; decide)).trans (by rw [k_]; rfl)
  have l_10 : lb (q_rf X g 10) = 8192 * o + 26 := (L (g) 10 (by rw [k_]; decide)).trans (y_lcI l_ go (by decide))
  have k_0_5 : q_kd X (q_rf X (q_rf X g 0) 5) = 5 := (T.1 (q_rf X g 0) 5 (by rw [k_0]; decide)).trans (by rw [k_0]; rfl)
  have l_0_5 : lb (q_rf X (q_rf X g 0) 5) = 8192 * o + 261 := (L (q_rf X g 0) 5 (by rw [k_0]; decide)).trans (y_lcI l_0 go (by decide))
  have k_0_6 : q_kd X (q_rf X (q_rf X g 0) 6) = 5 := (T.1 (q_rf X g 0) 6 (by rw [k_0]; decide)).trans (by rw [k_0]; rfl)
  have l_0_6 : lb (q_rf X (q_rf X g 0) 6) = 8192 * o + 262 := (L (q_rf X g 0) 6 (by rw [k_0]; decide)).trans (y_lcI l_0 go (by decide))
  have k_0_7 : q_kd X (q_rf X (q_rf X g 0) 7) = 5 := (T.1 (q_rf X g 0) 7 (by rw [k_0]; decide)).trans (by rw [k_0]; rfl)
  have l_0_7 : lb (q_rf X (q_rf X g 0) 7) = 8192 * o + 263 := (L (q_rf X g 0) 7 (by rw [k_0]; decide)).trans (y_lcI l_0 go (by decide))
  have k_1_0 : q_kd X (q_rf X (q_rf X g 1) 0) = 5 := (T.1 (q_rf X g 1) 0 (by rw [k_1]; decide)).trans (by rw [k_1]; rfl)
  have l_1_0 : lb (q_rf X (q_rf X g 1) 0) = 8192 * o + 272 := (L (q_rf X g 1) 0 (by rw [k_1]; decide)).trans (y_lcI l_1 go (by decide))
  have k_1_1 : q_kd X (q_rf X (q_rf X g 1) 1) = 5 := (T.1 (q_rf X g 1) 1 (by rw [k_1]; decide)).trans (by rw [k_1]; rfl)
  have l_1_1 : lb (q_rf X (q_rf X g 1) 1) = 8192 * o + 273 := (L (q_rf X g 1) 1 (by rw [k_1]; decide)).trans (y_lcI l_1 go (by decide))
  have k_1_2 : q_kd X (q_rf X (q_rf X g 1) 2) = 5 := (T.1 (q_rf X g 1) 2 (by rw [k_1]; decide)).trans (by rw [k_1]; rfl)
  have l_1_2 : lb (q_rf X (q_rf X g 1) 2) = 8192 * o + 274 := (L (q_rf X g 1) 2 (by rw [k_1]; decide)).trans (y_lcI l_1 go (by decide))
  have k_1_3 : q_kd X (q_rf X (q_rf X g 1) 3) = 5 := (T.1 (q_rf X g 1) 3 (by rw [k_1]; decide)).trans (by rw [k_1]; rfl)
  have l_1_3 : lb (q_rf X (q_rf X g 1) 3) = 8192 * o + 275 := (L (q_rf X g 1) 3 (by rw [k_1]; decide)).trans (y_lcI l_1 go (by decide))
  have k_1_4 : q_kd X (q_rf X (q_rf X g 1) 4) = 5 := (T.1 (q_rf X g 1) 4 (by rw [k_1]; decide)).trans (by rw [k_1]; rfl)
  have l_1_4 : lb (q_rf X (q_rf X g 1) 4) = 8192 * o + 276 := (L (q_rf X g 1) 4 (by rw [k_1]; decide)).trans (y_lcI l_1 go (by decide))
  have k_1_5 : q_kd X (q_rf X (q_rf X g 1) 5) = 5 := (T.1 (q_rf X g 1) 5 (by rw [k_1]; decide)).trans (by rw [k_1]; rfl)
  have l_1_5 : lb (q_rf X (q_rf X g 1) 5) = 8192 * o + 277 := (L (q_rf X g 1) 5 (by rw [k_1]; decide)).trans (y_lcI l_1 go (by decide))
  have k_1_6 : q_kd X (q_rf X (q_rf X g 1) 6) = 5 := (T.1 (q_rf X g 1) 6 (by rw [k_1]; decide)).trans (by rw [k_1]; rfl)
  have l_1_6 : lb (q_rf X (q_rf X g 1) 6) = 8192 * o + 278 := (L (q_rf X g 1) 6 (by rw [k_1]; decide)).trans (y_lcI l_1 go (by decide))
  have k_2_2 : q_kd X (q_rf X (q_rf X g 2) 2) = 5 := (T.1 (q_rf X g 2) 2 (by rw [k_2]; decide)).trans (by rw [k_2]; rfl)
  have l_2_2 : lb (q_rf X (q_rf X g 2) 2) = 8192 * o + 290 := (L (q_rf X g 2) 2 (by rw [k_2]; decide)).trans (y_lcI l_2 go (by decide))
  have k_2_3 : q_kd X (q_rf X (q_rf X g 2) 3) = 5 := (T.1 (q_rf X g 2) 3 (by rw [k_2]; decide)).trans (by rw [k_2]; rfl)
  have l_2_3 : lb (q_rf X (q_rf X g 2) 3) = 8192 * o + 291 := (L (q_rf X g 2) 3 (by rw [k_2]; decide)).trans (y_lcI l_2 go (by decide))
  have k_2_4 : q_kd X (q_rf X (q_rf X g 2) 4) = 5 := (T.1 (q_rf X g 2) 4 (by rw [k_2]; decide)).trans (by rw [k_2]; rfl)
  have l_2_4 : lb (q_rf X (q_rf X g 2) 4) = 8192 * o + 292 := (L (q_rf X g 2) 4 (by rw [k_2]; decide)).trans (y_lcI l_2 go (by decide))
  have k_2_5 : q_kd X (q_rf X (q_rf X g 2) 5) = 5 := (T.1 (q_rf X g 2) 5 (by rw [k_2]; decide)).trans (by rw [k_2]; rfl)
  have l_2_5 : lb (q_rf X (q_rf X g 2) 5) = 8192 * o + 293 := (L (q_rf X g 2) 5 (by rw [k_2]; decide)).trans (y_lcI l_2 go (by decide))
  have k_3_3 : q_kd X (q_rf X (q_rf X g 3) 3) = 5 := (T.1 (q_rf X g 3) 3 (by rw [k_3]; decide)).trans (by rw [k_3]; rfl)
  have l_3_3 : lb (q_rf X (q_rf X g 3) 3) = 8192 * o + 307 := (L (q_rf X g 3) 3 (by rw [k_3]; decide)).trans (y_lcI l_3 go (by decide))
  have k_3_4 : q_kd X (q_rf X (q_rf X g 3) 4) = 5 := (T.1 (q_rf X g 3) 4 (by rw [k_3]; decide)).trans (by rw [k_3]; rfl)
  have l_3_4 : lb (q_rf X (q_rf X g 3) 4) = 8192 * o + 308 := (L (q_rf X g 3) 4 (by rw [k_3]; decide)).trans (y_lcI l_3 go (by decide))
  have k_3_5 : q_kd X (q_rf X (q_rf X g 3) 5) = 5 := (T.1 (q_rf X g 3) 5 (by rw [k_3]; decide)).trans (by rw [k_3]; rfl)
  have l_3_5 : lb (q_rf X (q_rf X g 3) 5) = 8192 * o + 309 := (L (q_rf X g 3) 5 (by rw [k_3]; decide)).trans (y_lcI l_3 go (by decide))
  have k_3_6 : q_kd X (q_rf X (q_rf X g 3) 6) = 5 := (T.1 (q_rf X g 3) 6 (by rw [k_3]; decide)).trans (by rw [k_3]; rfl)
  have l_3_6 : lb (q_rf X (q_rf X g 3) 6) = 8192 * o + 310 := (L (q_rf X g 3) 6 (by rw [k_3]; decide)).trans (y_lcI l_3 go (by decide))
  have k_3_7 : q_kd X (q_rf X (q_rf X g 3) 7) = 5 := (T.1 (q_rf X g 3) 7 (by rw [k_3]; decide)).trans (by rw [k_3]; rfl)
  have l_3_7 : lb (q_rf X (q_rf X g 3) 7) = 8192 * o + 311 := (L (q_rf X g 3) 7 (by rw [k_3]; decide)).trans (y_lcI l_3 go (by decide))
  have k_8_0 : q_kd X (q_rf X (q_rf X g 8) 0) = 20 := (T.1 (q_rf X g 8) 0 (by rw [k_8]; decide)).trans (by rw [k_8]; rfl)
  have l_8_0 : lb (q_rf X (q_rf X g 8) 0) = 8192 * o + 384 := (L (q_rf X g 8) 0 (by rw [k_8]; decide)).trans (y_lcI l_8 go (by decide))
  have k_10_0 : q_kd X (q_rf X (q_rf X g 10) 0) = 20 := (T.1 (q_rf X g 10) 0 (by rw [k_10]; decide)).trans (by rw [k_10]; rfl)
  have l_10_0 : lb (q_rf X (q_rf X g 10) 0) = 8192 * o + 416 := (L (q_rf X g 10) 0 (by rw [k_10]; decide)).trans (y_lcI l_10 go (by decide))
  have k_0_5_0 : q_kd X (q_rf X (q_rf X (q_rf X g 0) 5) 0) = 20 := (T.1 (q_rf X (q_rf X g 0) 5) 0 (by rw [k_0_5]; decide)).trans (by rw [k_0_5]; rfl)
  have l_0_5_0 : lb (q_rf X (q_rf X (q_rf X g 0) 5) 0) = 8192 * o + 4176 := (L (q_rf X (q_rf X g 0) 5) 0 (by rw [k_0_5]; decide)).trans (y_lcI l_0_5 go (by decide))
  have k_0_6_0 : q_kd X (q_rf X (q_rf X (q_rf X g 0) 6) 0) = 20 := (T.1 (q_rf X (q_rf X g 0) 6) 0 (by rw [k_0_6]; decide)).trans (by rw [k_0_6]; rfl)
  have l_0_6_0 : lb (q_rf X (q_rf X (q_rf X g 0) 6) 0) = 8192 * o + 4192 := (L (q_rf X (q_rf X g 0) 6) 0 (by rw [k_0_6]; decide)).trans (y_lcI l_0_6 go (by decide))
  have k_0_7_0 : q_kd X (q_rf X (q_rf X (q_rf X g 0) 7) 0) = 20 := (T.1 (q_rf X (q_rf X g 0) 7) 0 (by rw [k_0_7]; decide)).trans (by rw [k_0_7]; rfl)
  have l_0_7_0 : lb (q_rf X (q_rf X (q_rf X g 0) 7) 0) = 8192 * o + 4208 := (L (q_rf X (q_rf X g 0) 7) 0 (by rw [k_0_7]; decide)).trans (y_lcI l_0_7 go (by decide))
  have k_1_0_0 : q_kd X (q_rf X (q_rf X (q_rf X g 1) 0) 0) = 20 := (T.1 (q_rf X (q_rf X g 1) 0) 0 (by rw [k_1_0]; decide)).trans (by rw [k_1_0]; rfl)
  have l_1_0_0 : lb (q_rf X (q_rf X (q_rf X g 1) 0) 0) = 8192 * o + 4352 := (L (q_rf X (q_rf X g 1) 0) 0 (by rw [k_1_0]; decide)).trans (y_lcI l_1_0 go (by decide))
  have k_1_1_0 : q_kd X (q_rf X (q_rf X (q_rf X g 1) 1) 0) = 20 := (T.1 (q_rf X (q_rf X g 1) 1) 0 (by rw [k_1_1]; decide)).trans (by rw [k_1_1]; rfl)
  have l_1_1_0 : lb (q_rf X (q_rf X (q_rf X g 1) 1) 0) = 8192 * o + 4368 := (L (q_rf X (q_rf X g 1) 1) 0 (by rw [k_1_1]; decide)).trans (y_lcI l_1_1 go (by decide))
  have k_1_2_0 : q_kd X (q_rf X (q_rf X (q_rf X g 1) 2) 0) = 20 := (T.1 (q_rf X (q_rf X g 1) 2) 0 (by rw [k_1_2]; decide)).trans (by rw [k_1_2]; rfl)
  have l_1_2_0 : lb (q_rf X (q_rf X (q_rf X g 1) 2) 0) = 8192 * o + 4384 := (L (q_rf X (q_rf X g 1) 2) 0 (by rw [k_1_2]; decide)).trans (y_lcI l_1_2 go (by decide))
  have k_1_3_0 : q_kd X (q_rf X (q_rf X (q_rf X g 1) 3) 0) = 20 := (T.1 (q_rf X (q_rf X g 1) 3) 0 (by rw [k_1_3]; decide)).trans (by rw [k_1_3]; rfl)
  have l_1_3_0 : lb (q_rf X (q_rf X (q_rf X g 1) 3) 0) = 8192 * o + 4400 := (L (q_rf X (q_rf X g 1) 3) 0 (by rw [k_1_3]; decide)).trans (y_lcI l_1_3 go (by decide))
  have k_1_4_0 : q_kd X (q_rf X (q_rf X (q_rf X g 1) 4) 0) = 20 := (T.1 (q_rf X (q_rf X g 1) 4) 0 (by rw [k_1_4]; decide)).trans (by rw [k_1_4]; rfl)
  have l_1_4_0 : lb (q_rf X (q_rf X (q_rf X g 1) 4) 0) = 8192 * o + 4416 := (L (q_rf X (q_rf X g 1) 4) 0 (by rw [k_1_4]; decide)).trans (y_lcI l_1_4 go (by decide))
  have k_1_5_0 : q_kd X (q_rf X (q_rf X (q_rf X g 1) 5) 0) = 20 := (T.1 (q_rf X (q_rf X g 1) 5) 0 (by rw [k_1_5]; decide)).trans (by rw [k_1_5]; rfl)
  have l_1_5_0 : lb (q_rf X (q_rf X (q_rf X g 1) 5) 0) = 8192 * o + 4432 := (L (q_rf X (q_rf X g 1) 5) 0 (by rw [k_1_5]; decide)).trans (y_lcI l_1_5 go (by decide))
  have k_1_6_0 : q_kd X (q_rf X (q_rf X (q_rf X g 1) 6) 0) = 20 := (T.1 (q_rf X (q_rf X g 1) 6) 0 (by rw [k_1_6]; decide)).trans (by rw [k_1_6]; rfl)
  have l_1_6_0 : lb (q_rf X (q_rf X (q_rf X g 1) 6) 0) = 8192 * o + 4448 := (L (q_rf X (q_rf X g 1) 6) 0 (by rw [k_1_6]; decide)).trans (y_lcI l_1_6 go (by decide))
  have k_2_2_0 : q_kd X (q_rf X (q_rf X (q_rf X g 2) 2) 0) = 20 := (T.1 (q_rf X (q_rf X g 2) 2) 0 (by rw [k_2_2]; decide)).trans (by rw [k_2_2]; rfl)
  have l_2_2_0 : lb (q_rf X (q_rf X (q_rf X g 2) 2) 0) = 8192 * o + 4640 := (L (q_rf X (q_rf X g 2) 2) 0 (by rw [k_2_2]; decide)).trans (y_lcI l_2_2 go (by decide))
  have k_2_3_0 : q_kd X (q_rf X (q_rf X (q_rf X g 2) 3) 0) = 20 := (T.1 (q_rf X (q_rf X g 2) 3) 0 (by rw [k_2_3]; decide)).trans (by rw [k_2_3]; rfl)
  have l_2_3_0 : lb (q_rf X (q_rf X (q_rf X g 2) 3) 0) = 8192 * o + 4656 := (L (q_rf X (q_rf X g 2) 3) 0 (by rw [k_2_3]; decide)).trans (y_lcI l_2_3 go (by decide))
  have k_2_4_0 : q_kd X (q_rf X (q_rf X (q_rf X g 2) 4) 0) = 20 := (T.1 (q_rf X (q_rf X g 2) 4) 0 (by rw [k_2_4]; decide)).trans (by rw [k_2_4]; rfl)
  have l_2_4_0 : lb (q_rf X (q_rf X (q_rf X g 2) 4) 0) = 8192 * o + 4672 := (L (q_rf X (q_rf X g 2) 4) 0 (by rw [k_2_4]; decide)).trans (y_lcI l_2_4 go (by decide))
  have k_2_5_0 : q_kd X (q_rf X (q_rf X (q_rf X g 2) 5) 0) = 20 := (T.1 (q_rf X (q_rf X g 2) 5) 0 (by rw [k_2_5]; decide)).trans (by rw [k_2_5]; rfl)
  have l_2_5_0 : lb (q_rf X (q_rf X (q_rf X g 2) 5) 0) = 8192 * o + 4688 := (L (q_rf X (q_rf X g 2) 5) 0 (by rw [k_2_5]; decide)).trans (y_lcI l_2_5 go (by decide))
  have k_3_3_0 : q_kd X (q_rf X (q_rf X (q_rf X g 3) 3) 0) = 20 := (T.1 (q_rf X (q_rf X g 3) 3) 0 (by rw [k_3_3]; decide)).trans (by rw [k_3_3]; rfl)
  have l_3_3_0 : lb (q_rf X (q_rf X (q_rf X g 3) 3) 0) = 8192 * o + 4912 := (L (q_rf X (q_rf X g 3) 3) 0 (by rw [k_3_3]; decide)).trans (y_lcI l_3_3 go (by decide))
  have k_3_4_0 : q_kd X (q_rf X (q_rf X (q_rf X g 3) 4) 0) = 20 := (T.1 (q_rf X (q_rf X g 3) 4) 0 (by rw [k_3_4]; decide)).trans (by rw [k_3_4]; rfl)
  have l_3_4_0 : lb (q_rf X (q_rf X (q_rf X g 3) 4) 0) = 8192 * o + 4928 := (L (q_rf X (q_rf X g 3) 4) 0 (by rw [k_3_4]; decide)).trans (y_lcI l_3_4 go (by decide))
  have k_3_5_0 : q_kd X (q_rf X (q_rf X (q_rf X g 3) 5) 0) = 20 := (T.1 (q_rf X (q_rf X g 3) 5) 0 (by rw [k_3_5]; decide)).trans (by rw [k_3_5]; rfl)
  have l_3_5_0 : lb (q_rf X (q_rf X (q_rf X g 3) 5) 0) = 8192 * o + 4944 := (L (q_rf X (q_rf X g 3) 5) 0 (by rw [k_3_5]; decide)).trans (y_lcI l_3_5 go (by decide))
  have k_3_6_0 : q_kd X (q_rf X (q_rf X (q_rf X g 3) 6) 0) = 20 := (T.1 (q_rf X (q_rf X g 3) 6) 0 (by rw [k_3_6]; decide)).trans (by rw [k_3_6]; rfl)
  have l_3_6_0 : lb (q_rf X (q_rf X (q_rf X g 3) 6) 0) = 8192 * o + 4960 := (L (q_rf X (q_rf X g 3) 6) 0 (by rw [k_3_6]; decide)).trans (y_lcI l_3_6 go (by decide))
  have k_3_7_0 : q_kd X (q_rf X (q_rf X (q_rf X g 3) 7) 0) = 20 := (T.1 (q_rf X (q_rf X g 3) 7) 0 (by rw [k_3_7]; decide)).trans (by rw [k_3_7]; rfl)
  have l_3_7_0 : lb (q_rf X (q_rf X (q_rf X g 3) 7) 0) = 8192 * o + 4976 := (L (q_rf X (q_rf X g 3) 7) 0 (by rw [k_3_7]; decide)).trans (y_lcI l_3_7 go (by decide))
  exact fun id h => match id, h with
    | 0, _ => ⟨l_, k_, fun h => absurd h (by decide)⟩
    | 1, _ => ⟨l_0, k_0, fun h => absurd h (by decide)⟩
    | 2, _ => ⟨l_2, k_2, fun h => absurd h (by decide)⟩
    | 3, _ => ⟨l_3, k_3, fun h => absurd h (by decide)⟩
    | 4, _ => ⟨l_0_5_0, k_0_5_0, fun _ => (N (q_rf X g 0) 5 (by rw [k_0]; decide)).trans (by rw [k_0]; rfl)⟩
    | 5, _ => ⟨l_0_6_0, k_0_6_0, fun _ => (N (q_rf X g 0) 6 (by rw [k_0]; decide)).trans (by rw [k_0]; rfl)⟩
    | 6, _ => ⟨l_0_7_0, k_0_7_0, fun _ => (N (q_rf X g 0) 7 (by rw [k_0]; decide)).trans (by rw [k_0]; rfl)⟩
    | 7, _ => ⟨l_1_0_0, k_1_0_0, fun _ => (N (q_rf X g 1) 0 (by rw [k_1]; decide)).trans (by rw [k_1]; rfl)⟩
    | 8, _ => ⟨l_1_1_0, k_1_1_0, fun _ => (N (q_rf X g 1) 1 (by rw [k_1]; decide)).trans (by rw [k_1]; rfl)⟩
    | 9, _ => ⟨l_1_2_0, k_1_2_0, fun _ => (N (q_rf X g 1) 2 (by rw [k_1]; decide)).trans (by rw [k_1]; rfl)⟩
    | 10, _ => ⟨l_1_3_0, k_1_3_0, fun _ => (N (q_rf X g 1) 3 (by rw [k_1]; decide)).trans (by rw [k_1]; rfl)⟩
    | 11, _ => ⟨l_1_4_0, k_1_4_0, fun _ => (N (q_rf X g 1) 4 (by rw [k_1]; decide)).trans (by rw [k_1]; rfl)⟩
    | 12, _ => ⟨l_1_5_0, k_1_5_0, fun _ => (N (q_rf X g 1) 5 (by rw [k_1]; decide)).trans (by rw [k_1]; rfl)⟩
    | 13, _ => ⟨l_1_6_0, k_1_6_0, fun _ => (N (q_rf X g 1) 6 (by rw [k_1]; decide)).trans (by rw [k_1]; rfl)⟩
    | 14, _ => ⟨l_2_2_0, k_2_2_0, fun _ => (N (q_rf X g 2) 2 (by rw [k_2]; decide)).trans (by rw [k_2]; rfl)⟩
    | 15, _ => ⟨l_2_3_0, k_2_3_0, fun _ => (N (q_rf X g 2) 3 (by rw [k_2]; decide)).trans (by rw [k_2]; rfl)⟩
    | 16, _ => ⟨l_2_4_0, k_2_4_0, fun _ => (N (q_rf X g 2) 4 (by rw [k_2]; decide)).trans (by rw [k_2]; rfl)⟩
    | 17, _ => ⟨l_2_5_0, k_2_5_0, fun _ => (N (q_rf X g 2) 5 (by rw [k_2]; decide)).trans (by rw [k_2]; rfl)⟩
    | 18, _ => ⟨l_3_3_0, k_3_3_0, fun _ => (N (q_rf X g 3) 3 (by rw [k_3]; decide)).trans (by rw [k_3]; rfl)⟩
    | 19, _ => ⟨l_3_4_0, k_3_4_0, fun _ => (N (q_rf X g 3) 4 (by rw [k_3]; decide)).trans (by rw [k_3]; rfl)⟩
    | 20, _ => ⟨l_3_5_0, k_3_5_0, fun _ => (N (q_rf X g 3) 5 (by rw [k_3]; decide)).trans (by rw [k_3]; rfl)⟩
    | 21, _ => ⟨l_3_6_0, k_3_6_0, fun _ => (N (q_rf X g 3) 6 (by rw [k_3]; decide)).trans (by rw [k_3]; rfl)⟩
    | 22, _ => ⟨l_3_7_0, k_3_7_0, fun _ => (N (q_rf X g 3) 7 (by rw [k_3]; decide)).trans (by rw [k_3]; rfl)⟩
    | 23, _ => ⟨l_8_0, k_8_0, fun _ => (N (g) 8 (by rw [k_]; decide)).trans (by rw [k_]; rfl)⟩
    | 24, _ => ⟨l_10_0, k_10_0, fun _ => (N (g) 10 (by rw [k_]; decide)).trans (by rw [k_]; rfl)⟩
    | (n + 25), h => absurd h (by omega)
end
/-! FROM 48c.rows.lean.txt -/
section
/-! a game's view: what its cells hold, place by place -/
def y_v (X : XW) (g : Nat) (σ : ST) : Nat → Int → Int := fun id i => if id < 25 ∧ 0 ≤ i then (σ.1 (y_gA X g id) i.toNat).toInt else 0
def y_up (V : Nat → Int → Int) (id : Nat) (i v : Int) : Nat → Int → Int := fun id' i' => if id' = id ∧ i' = i then v else V id' i'
def y_bl (V : Nat → Int → Int) (id : Nat) (n : Int) (f : Int → Int) : Nat → Int → Int := fun id' i' => if id' = id ∧ 0 ≤ i' ∧ i' < n then f i' else V id' i'
/-- from σ to τ nothing but the game's view has changed, to V -/
def y_W (X : XW) (lb : Nat → Nat) (g o : Nat) (σ τ : ST) (V : Nat → Int → Int) : Prop := (∀ b, lb b / 8192 ≠ o → ∀ f, τ.1 b f = σ.1 b f) ∧ τ.2 = σ.2 ∧ y_v X g τ = V
theorem y_co_inj : ∀ i, i < 25 → ∀ j, j < 25 → y_co i = y_co j → i = j := by decide
theorem y_co_lt : ∀ i, i < 25 → y_co i < 8192 := by decide
section Y
variable {X : XW} {lb : Nat → Nat} {g o : Nat} {σ τ : ST} {V : Nat → Int → Int}
theorem y_own (S : y_S X lb) (G : y_G X lb g o) {id : Nat} (h : id < 25) : lb (y_gA X g id) / 8192 = o := by
  have h1 := (y_gf S G id h).1
  have h2 := y_co_lt id h
  omega
theorem y_gA_inj (S : y_S X lb) (G : y_G X lb g o) {i j : Nat} (hi : i < 25) (hj : j < 25) (h : y_gA X g i = y_gA X g j) : i = j := by
  have h1 := (y_gf S G i hi).1
  have h2 := (y_gf S G j hj).1
  rw [h] at h1
  exact y_co_inj i hi j hj (by omega)
theorem y_gA_ne (S : y_S X lb) (G : y_G X lb g o) {id : Nat} (h : id < 25) {b : Nat} (hb : lb b / 8192 ≠ o) : b ≠ y_gA X g id := by
  rintro rfl
  exact hb (y_own S G h)
theorem y_len (S : y_S X lb) (a : Nat) : (q_len X a).toInt = (q_ln X a : Int) := by
  have h := S.1.2.2.1 a
  exact nI_toInt (by omega)
theorem y_ln (S : y_S X lb) (G : y_G X lb g o) {id : Nat} (h : 4 ≤ id ∧ id < 25) : q_ln X (y_gA X g id) = y_gn id := (y_gf S G id h.2).2.2 h.1
theorem y_v_rd {id : Nat} (h : id < 25) (x : Int32) (h0 : 0 ≤ x.toInt) : (σ.1 (y_gA X g id) x.toNatClampNeg).toInt = y_v X g σ id x.toInt := by
  unfold y_v
  rw [if_pos ⟨h, h0⟩]
  rfl
theorem y_v_rdn {id : Nat} (h : id < 25) (f : Nat) : (σ.1 (y_gA X g id) f).toInt = y_v X g σ id (f : Int) := by
  unfold y_v
  rw [if_pos ⟨h, Int.natCast_nonneg f⟩, Int.toNat_natCast]
theorem y_W.rf : y_W X lb g o σ σ (y_v X g σ) := ⟨fun _ _ _ => rfl, rfl, rfl⟩
theorem y_W.eq {V' : Nat → Int → Int} (w : y_W X lb g o σ τ V) (h : V = V') : y_W X lb g o σ τ V' := by
  subst h
  exact w
theorem y_W.tr {τ' : ST} {V' : Nat → Int → Int} (w : y_W X lb g o σ τ V) (w' : y_W X lb g o τ τ' V') : y_W X lb g o σ τ' V' := ⟨fun b hb f => (w'.1 b hb f).trans (w.1 b hb f), w'.2.1.trans w.2.1, w'.2.2⟩
theorem y_W.si (S : y_S X lb) (G : y_G X lb g o) (w : y_W X lb g o σ τ V) {id : Nat} (h : id < 25) (f : Nat) (v : Int32) : y_W X lb g o σ (q_si τ (y_gA X g id) f v) (y_up V id (f : Int) v.toInt) := by
  obtain ⟨w1, w2, w3⟩ := w
  refine ⟨fun b hb k => ?_, w2, ?_⟩
  · show (if b = y_gA X g id ∧ k = f then v else τ.1 b k) = _
    rw [if_neg (fun q => y_gA_ne S G h hb q.1)]
    exact w1 b hb k
  · subst w3
    funext j i
    show (if j < 25 ∧ 0 ≤ i then (if y_gA X g j = y_gA X g id ∧ i.toNat = f then v else τ.1 (y_gA X g j) i.toNat).toInt else 0) = if j = id ∧ i = (f : Int) then v.toInt else (if j < 25 ∧ 0 ≤ i then (τ.1 (y_gA X g j) i.toNat).toInt else 0)
    by_cases hj : j < 25 ∧ 0 ≤ i
    · rw [if_pos hj, if_pos hj]
      by_cases hq : j = id ∧ i = (f : Int)
      · obtain ⟨rfl, rfl⟩ := hq
        rw [if_pos ⟨rfl, Int.toNat_natCast f⟩, if_pos ⟨rfl, rfl⟩]
      · rw [if_neg hq, if_neg]
        rintro ⟨e1, e2⟩
        exact hq ⟨y_gA_inj S G hj.1 h e1, by omega⟩
    · rw [if_neg hj, if_neg hj]
      by_cases hq : j = id ∧ i = (f : Int)
      · obtain ⟨rfl, rfl⟩ := hq
        exact absurd ⟨h, Int.natCast_nonneg f⟩ hj
      · rw [if_neg hq]
theorem y_W.sx (S : y_S X lb) (G : y_G X lb g o) (w : y_W X lb g o σ τ V) {id : Nat} (h : id < 25) (x v : Int32) (h0 : 0 ≤ x.toInt) : y_W X lb g o σ (q_si τ (y_gA X g id) x.toNatClampNeg v) (y_up V id x.toInt v.toInt) := by
  have e : ((x.toNatClampNeg : Nat) : Int) = x.toInt := by rw [ar_cl]; omega
  have := w.si S G h x.toNatClampNeg v
  rw [e] at this
  exact this
/-- rows -/
theorem y_get (S : y_S X lb) (G : y_G X lb g o) (w : y_W X lb g o σ τ V) {id r : Nat} (h : 4 ≤ id ∧ id < 25) (hr : q_rf X r 0 = y_gA X g id) (x : Int32) : (F_X5_get X τ r x).toInt = if 0 ≤ x.toInt ∧ x.toInt < (y_gn id : Int) then V id x.toInt else 0 := by
  simp only [F_X5_get, ↓q_letE]
  rw [y_len S, hr, y_ln S G h]
  by_cases h0 : x.toInt < 0
  · rw [if_pos h0, if_neg (by omega)]
    rfl
  · rw [if_neg h0]
    by_cases h1 : x.toInt < (y_gn id : Int)
    · rw [if_pos h1, if_pos ⟨by omega, h1⟩, y_v_rd h.2 x (by omega), w.2.2]
    · rw [if_neg h1, if_neg (by omega)]
      rfl
theorem y_getI (S : y_S X lb) (G : y_G X lb g o) (w : y_W X lb g o σ τ V) {id r : Nat} (h : 4 ≤ id ∧ id < 25) (hr : q_rf X r 0 = y_gA X g id) {x : Int32} {i : Int} (hx : x.toInt = i) (h0 : 0 ≤ i) (h1 : i < (y_gn id : Int)) : (F_X5_get X τ r x).toInt = V id i := by
  subst hx
  rw [y_get S G w h hr, if_pos ⟨h0, h1⟩]
theorem y_W.set (S : y_S X lb) (G : y_G X lb g o) (w : y_W X lb g o σ τ V) {id r : Nat} (h : 4 ≤ id ∧ id < 25) (hr : q_rf X r 0 = y_gA X g id) (x v : Int32) (h0 : 0 ≤ x.toInt) (h1 : x.toInt < (y_gn id : Int)) : y_W X lb g o σ (F_X5_set X τ r x v) (y_up V id x.toInt v.toInt) := by
  simp only [F_X5_set, ↓q_letE]
  rw [y_len S, hr, y_ln S G h, if_neg (by omega), if_pos h1]
  exact w.sx S G h.2 x v h0
theorem y_W.add (S : y_S X lb) (G : y_G X lb g o) (w : y_W X lb g o σ τ V) {id r : Nat} (h : 4 ≤ id ∧ id < 25) (hr : q_rf X r 0 = y_gA X g id) (x v : Int32) (h0 : 0 ≤ x.toInt) (h1 : x.toInt < (y_gn id : Int)) : y_W X lb g o σ (F_X5_add X τ r x v) (y_up V id x.toInt (ar_w (V id x.toInt + v.toInt))) := by
  simp only [F_X5_add, ↓q_letE]
  rw [y_len S, hr, y_ln S G h, if_neg (by omega), if_pos h1]
  have e := w.sx S G h.2 x (τ.1 (y_gA X g id) x.toNatClampNeg + v) h0
  rw [ar_add, y_v_rd h.2 x h0, w.2.2] at e
  exact e
theorem y_bl0 {id : Nat} {f : Int → Int} : y_bl V id 0 f = V := by
  funext j i
  show (if j = id ∧ 0 ≤ i ∧ i < 0 then f i else V j i) = V j i
  rw [if_neg (by omega)]
theorem y_bl_s {id : Nat} {f : Int → Int} {n : Int} (h : 0 ≤ n) : y_up (y_bl V id n f) id n (f n) = y_bl V id (n + 1) f := by
  funext j i
  show (if j = id ∧ i = n then f n else if j = id ∧ 0 ≤ i ∧ i < n then f i else V j i) = if j = id ∧ 0 ≤ i ∧ i < n + 1 then f i else V j i
  by_cases q : j = id ∧ i = n
  · obtain ⟨rfl, rfl⟩ := q
    rw [if_pos ⟨rfl, rfl⟩, if_pos ⟨rfl, h, by omega⟩]
  · rw [if_neg q]
    by_cases q2 : j = id ∧ 0 ≤ i ∧ i < n
    · rw [if_pos q2, if_pos ⟨q2.1, q2.2.1, by omega⟩]
    · rw [if_neg q2, if_neg]
      rintro ⟨e1, e2, e3⟩
      exact q2 ⟨e1, e2, by have : i ≠ n := fun e => q ⟨e1, e⟩; omega⟩
theorem y_inc {x : Int32} (h : x.toInt < 2147483647) : (x + 1).toInt = x.toInt + 1 := q_inc rfl h
theorem y_clearL (S : y_S X lb) (G : y_G X lb g o) {id r : Nat} (h : 4 ≤ id ∧ id < 25) (hr : q_rf X r 0 = y_gA X g id) (k : Nat) : ∀ (x : Int32) (τ : ST), (2147483647 - x.toInt).toNat < k → 0 ≤ x.toInt → x.toInt ≤ (y_gn id : Int) → y_W X lb g o σ τ (y_bl V id x.toInt (fun _ => 0)) → y_W X lb g o σ (F_X5_clear_L2_1 X r k x τ) (y_bl V id (y_gn id : Int) (fun _ => 0)) := by
  induction k with
  | zero => intro x τ hm; exact absurd hm (Nat.not_lt_zero _)
  | succ k ih =>
    intro x τ hm h0 h1 w
    have hb := ar_bd x
    rw [F_X5_clear_L2_1_s]
    simp only [F_X5_clear_B2_1, ↓q_letE]
    rw [y_len S, hr, y_ln S G h]
    by_cases q : x.toInt < (y_gn id : Int)
    · rw [if_pos q]
      have hl : y_gn id ≤ 1000 := by
        have := S.1.2.2.1 (y_gA X g id)
        have z : ∀ i, i < 25 → y_gn i ≤ 1000 := by decide
        exact z id h.2
      have e : (x + 1).toInt = x.toInt + 1 := y_inc (by omega)
      refine ih (x + 1) _ (by omega) (by omega) (by omega) ?_
      rw [e]
      exact (w.sx S G h.2 x 0 h0).eq (y_bl_s h0)
    · rw [if_neg q]
      have e : x.toInt = (y_gn id : Int) := by omega
      rw [e] at w
      exact w
theorem y_W.clear (S : y_S X lb) (G : y_G X lb g o) (w : y_W X lb g o σ τ V) {id r : Nat} (h : 4 ≤ id ∧ id < 25) (hr : q_rf X r 0 = y_gA X g id) : y_W X lb g o σ (F_X5_clear X τ r) (y_bl V id (y_gn id : Int) (fun _ => 0)) := by
  unfold F_X5_clear
  refine y_clearL S G h hr _ 0 τ (by decide) (by decide) (Int.natCast_nonneg _) ?_
  exact w.eq y_bl0.symm
theorem y_copyL (S : y_S X lb) (G : y_G X lb g o) {id r r' : Nat} (h : 4 ≤ id ∧ id < 25) (hr : q_rf X r 0 = y_gA X g id) (hn : q_ln X (q_rf X r' 0) = y_gn id) (hb : q_rf X r' 0 ≠ y_gA X g id) (ρ : Nat → Int32) (k : Nat) : ∀ (x : Int32) (τ : ST), (2147483647 - x.toInt).toNat < k → 0 ≤ x.toInt → x.toInt ≤ (y_gn id : Int) → (∀ f, τ.1 (q_rf X r' 0) f = ρ f) → y_W X lb g o σ τ (y_bl V id x.toInt (fun i => (ρ i.toNat).toInt)) → y_W X lb g o σ (F_X5_copyFrom_L2_1 X r r' k x τ) (y_bl V id (y_gn id : Int) (fun i => (ρ i.toNat).toInt)) := by
  induction k with
  | zero => intro x τ hm; exact absurd hm (Nat.not_lt_zero _)
  | succ k ih =>
    intro x τ hm h0 h1 hρ w
    have hbd := ar_bd x
    rw [F_X5_copyFrom_L2_1_s]
    simp only [F_X5_copyFrom_B2_1, ↓q_letE]
    rw [y_len S, y_len S, hn, hr, y_ln S G h]
    by_cases q : x.toInt < (y_gn id : Int)
    · rw [if_pos q, if_pos q]
      have hl : y_gn id ≤ 1000 := by
        have z : ∀ i, i < 25 → y_gn i ≤ 1000 := by decide
        exact z id h.2
      have e : (x + 1).toInt = x.toInt + 1 := y_inc (by omega)
      refine ih (x + 1) _ (by omega) (by omega) (by omega) (fun f => ?_) ?_
      · rw [q_si_ne hb]
        exact hρ f
      · rw [e]
        have w2 := w.sx S G h.2 x (τ.1 (q_rf X r' 0) x.toNatClampNeg) h0
        rw [hρ] at w2 ⊢
        exact w2.eq (y_bl_s (f := fun i => (ρ i.toNat).toInt) h0)
    · rw [if_neg q]
      have e : x.toInt = (y_gn id : Int) := by omega
      rw [e] at w
      exact w
theorem y_W.copy (S : y_S X lb) (G : y_G X lb g o) (w : y_W X lb g o σ τ V) {id r r' : Nat} (h : 4 ≤ id ∧ id < 25) (hr : q_rf X r 0 = y_gA X g id) (hn : q_ln X (q_rf X r' 0) = y_gn id) (hb : q_rf X r' 0 ≠ y_gA X g id) : y_W X lb g o σ (F_X5_copyFrom X τ r r') (y_bl V id (y_gn id : Int) (fun i => (τ.1 (q_rf X r' 0) i.toNat).toInt)) := by
  unfold F_X5_copyFrom
  refine y_copyL S G h hr hn hb (fun f => τ.1 (q_rf X r' 0) f) _ 0 τ (by decide) (by decide) (Int.natCast_nonneg _) (fun _ => rfl) ?_
  exact w.eq y_bl0.symm
end Y
end
/-! FROM 48d.text.lean.txt -/
section
/-! TEXTS: tokens of a row of bytes B, the first n of them -/
def tx_D (B : Int → Int) (n p : Int) : Int := if 0 ≤ p ∧ p < n then B p else 0
def tx_run (P : Int → Prop) (n b e : Int) : Prop := b ≤ e ∧ (∀ j, b ≤ j → j < e → j < n ∧ P j) ∧ ¬ (e < n ∧ P e)
def tx_nv (B : Int → Int) (b : Int) : Nat → Int
  | 0 => 0
  | k + 1 => tx_nv B b k * 10 + B (b + (k : Int)) - 48
/-- a word's number, 5 bits a letter -/
def tx_wv (B : Int → Int) (b : Int) : Nat → Int
  | 0 => 0
  | k + 1 => tx_wv B b k * 32 + B (b + (k : Int)) - 96
def tx_bl (x : Int) : Prop := x = 10 ∨ x = 32
def tx_le (x : Int) : Prop := 97 ≤ x ∧ x ≤ 122
def tx_di (x : Int) : Prop := 48 ≤ x ∧ x ≤ 57
def tx_sg (x : Int) : Prop := x = 59 ∨ x = 60 ∨ x = 62 ∨ x = 61
/-- the token that begins at b -/
def tx_cls (B : Int → Int) (n b e ty val : Int) : Prop :=
  (n ≤ b ∧ ty = 0 ∧ e = b) ∨
   (b < n ∧ tx_le (B b) ∧ ty = 1 ∧ tx_run (fun j => tx_le (B j)) n b e) ∨
   (b < n ∧ tx_di (B b) ∧ tx_run (fun j => tx_di (B j)) n b e ∧ (4 < e - b ∧ ty = 4 ∨ e - b ≤ 4 ∧ ty = 2 ∧ val = tx_nv B b (e - b).toNat)) ∨
   (b < n ∧ ¬ tx_le (B b) ∧ ¬ tx_di (B b) ∧ e = b + 1 ∧ (tx_sg (B b) ∧ ty = 3 ∨ ¬ tx_sg (B b) ∧ ty = 4))
/-- the token behind place p -/
def tx_tok (B : Int → Int) (n p b e ty val : Int) : Prop := tx_run (fun j => tx_bl (B j)) n p b ∧ tx_cls B n b e ty val
theorem tx_run_u {P : Int → Prop} {n b e e' : Int} (h : tx_run P n b e) (h' : tx_run P n b e') : e = e' := by
  obtain ⟨h1, h2, h3⟩ := h
  obtain ⟨k1, k2, k3⟩ := h'
  rcases Int.lt_trichotomy e e' with q | q | q
  · exact absurd (k2 e h1 q) h3
  · exact q
  · exact absurd (h2 e' k1 q) k3
theorem tx_run_ne {P : Int → Prop} {n b e : Int} (h : tx_run P n b e) (hb : b < n ∧ P b) : b < e := by
  obtain ⟨h1, h2, h3⟩ := h
  rcases Int.lt_or_le b e with q | q
  · exact q
  · have : b = e := by omega
    subst this
    exact absurd hb h3
theorem tx_run_le {P : Int → Prop} {n b e : Int} (h : tx_run P n b e) (hb : b ≤ n) : e ≤ n := by
  rcases Int.lt_or_le n e with q | q
  · have := (h.2.1 n hb q).1
    omega
  · exact q
theorem tx_tok_b {B : Int → Int} {n p b e ty val : Int} (h : tx_tok B n p b e ty val) (hp : 0 ≤ p ∧ p ≤ n) : p ≤ b ∧ b ≤ n ∧ b ≤ e ∧ e ≤ n ∧ 0 ≤ ty ∧ ty ≤ 4 ∧ (ty ≠ 0 → b < e) ∧ (ty = 0 ↔ b = n) := by
  obtain ⟨h1, h2⟩ := h
  have a1 := h1.1
  have a2 := tx_run_le h1 hp.2
  rcases h2 with ⟨q1, q2, q3⟩ | ⟨q1, q2, q3, q4⟩ | ⟨q1, q2, q3, q4⟩ | ⟨q1, q2, q3, q4, q5⟩
  · omega
  · have b1 := tx_run_le q4 (by omega)
    have b2 := tx_run_ne q4 ⟨q1, q2⟩
    omega
  · have b1 := tx_run_le q3 (by omega)
    have b2 := tx_run_ne q3 ⟨q1, q2⟩
    omega
  · omega
/-- there is one token behind a place -/
theorem tx_tok_u {B : Int → Int} {n p b e ty val b' e' ty' val' : Int} (h : tx_tok B n p b e ty val) (h' : tx_tok B n p b' e' ty' val') : b' = b ∧ e' = e ∧ ty' = ty ∧ (ty = 2 → val' = val) := by
  obtain ⟨h1, h2⟩ := h
  obtain ⟨k1, k2⟩ := h'
  have e1 := tx_run_u k1 h1
  subst e1
  have nd : ∀ x, tx_le x → tx_di x → False := fun x a c => by unfold tx_le at a; unfold tx_di at c; omega
  rcases h2 with ⟨q1, q2, q3⟩ | ⟨q1, q2, q3, q4⟩ | ⟨q1, q2, q3, q4⟩ | ⟨q1, q2, q3, q4, q5⟩
  · rcases k2 with ⟨r1, r2, r3⟩ | ⟨r1, r2, r3, r4⟩ | ⟨r1, r2, r3, r4⟩ | ⟨r1, r2, r3, r4, r5⟩ <;> omega
  · rcases k2 with ⟨r1, r2, r3⟩ | ⟨r1, r2, r3, r4⟩ | ⟨r1, r2, r3, r4⟩ | ⟨r1, r2, r3, r4, r5⟩
    · omega
    · exact ⟨rfl, tx_run_u r4 q4, by omega, by omega⟩
    · exact (nd _ q2 r2).elim
    · exact absurd q2 r2
  · rcases k2 with ⟨r1, r2, r3⟩ | ⟨r1, r2, r3, r4⟩ | ⟨r1, r2, r3, r4⟩ | ⟨r1, r2, r3, r4, r5⟩
    · omega
    · exact (nd _ r2 q2).elim
    · have e2 := tx_run_u r3 q3
      subst e2
      rcases q4 with ⟨s1, s2⟩ | ⟨s1, s2, s3⟩
      · rcases r4 with ⟨t1, t2⟩ | ⟨t1, t2, t3⟩ <;> omega
      · rcases r4 with ⟨t1, t2⟩ | ⟨t1, t2, t3⟩
        · omega
        · exact ⟨rfl, rfl, by omega, fun _ => by rw [s3, t3]⟩
    · exact absurd q2 r3
  · rcases k2 with ⟨r1, r2, r3⟩ | ⟨r1, r2, r3, r4⟩ | ⟨r1, r2, r3, r4⟩ | ⟨r1, r2, r3, r4, r5⟩
    · omega
    · exact absurd r2 q2
    · exact absurd r2 q3
    · rcases q5 with ⟨s1, s2⟩ | ⟨s1, s2⟩
      · rcases r5 with ⟨t1, t2⟩ | ⟨t1, t2⟩
        · omega
        · exact absurd s1 t1
      · rcases r5 with ⟨t1, t2⟩ | ⟨t1, t2⟩
        · exact absurd t1 s1
        · omega
/-! cells kept but for those of S -/
def tk (S : Nat → Nat → Prop) (σ τ : ST) : Prop := (∀ b f, ¬ S b f → τ.1 b f = σ.1 b f) ∧ τ.2 = σ.2
theorem tk.rf {S : Nat → Nat → Prop} {σ : ST} : tk S σ σ := ⟨fun _ _ _ => rfl, rfl⟩
theorem tk.tr {S : Nat → Nat → Prop} {σ τ τ' : ST} (h : tk S σ τ) (h' : tk S τ τ') : tk S σ τ' := ⟨fun b f q => (h'.1 b f q).trans (h.1 b f q), h'.2.trans h.2⟩
theorem tk.mono {S S' : Nat → Nat → Prop} {σ τ : ST} (h : tk S σ τ) (hs : ∀ b f, S b f → S' b f) : tk S' σ τ := ⟨fun b f q => h.1 b f (fun z => q (hs b f z)), h.2⟩
theorem tk.si {S : Nat → Nat → Prop} {σ τ : ST} (h : tk S σ τ) {a f : Nat} (v : Int32) (hs : S a f) : tk S σ (q_si τ a f v) := by
  refine ⟨fun b g q => ?_, h.2⟩
  show (if b = a ∧ g = f then v else τ.1 b g) = _
  rw [if_neg]
  · exact h.1 b g q
  · rintro ⟨rfl, rfl⟩
    exact q hs
theorem si_eq (τ : ST) (a f : Nat) (v : Int32) : (q_si τ a f v).1 a f = v := by
  show (if a = a ∧ f = f then v else _) = v
  rw [if_pos ⟨rfl, rfl⟩]
theorem si_f {τ : ST} {a f : Nat} {v : Int32} {g : Nat} (h : g ≠ f) (b : Nat) : (q_si τ a f v).1 b g = τ.1 b g := by
  show (if b = a ∧ g = f then v else τ.1 b g) = _
  rw [if_neg (fun q => h q.2)]
end
/-! FROM 48e.reader.lean.txt -/
section
/-! THE CLASS'S READER -/
/-- a token's cells of the reader R -/
def tc_S (R : Nat) : Nat → Nat → Prop := fun b f => b = R ∧ 2 ≤ f ∧ f ≤ 5
/-- R reads the first n bytes B of the tape T -/
def tc_E (X : XW) (σ : ST) (R T : Nat) (n : Int) (B : Int → Int) : Prop := σ.2.2 R = T ∧ (σ.1 R 1).toInt = n ∧ (0 ≤ n ∧ n ≤ 900) ∧ T ≠ R ∧ q_ln X T = 900 ∧ ∀ p : Int, 0 ≤ p → p < n → (σ.1 T p.toNat).toInt = B p ∧ -128 ≤ B p ∧ B p ≤ 127
section TC
variable {X : XW} {σ τ : ST} {R T : Nat} {n : Int} {B : Int → Int}
theorem tc_E.k {S : Nat → Nat → Prop} (E : tc_E X σ R T n B) (h : tk S σ τ) (hs : ∀ b f, S b f → b ≠ T ∧ ¬ (b = R ∧ f = 1)) : tc_E X τ R T n B := by
  obtain ⟨E1, E2, E3, E4, E5, E6⟩ := E
  refine ⟨?_, ?_, E3, E4, E5, fun p p0 p1 => ?_⟩
  · rw [h.2]; exact E1
  · rw [h.1 R 1 (fun q => (hs _ _ q).2 ⟨rfl, rfl⟩)]; exact E2
  · rw [h.1 T p.toNat (fun q => (hs _ _ q).1 rfl)]; exact E6 p p0 p1
theorem tc_E.kS (E : tc_E X σ R T n B) (h : tk (tc_S R) σ τ) : tc_E X τ R T n B := E.k h (fun b f q => ⟨fun e => E.2.2.2.1 (e.symm.trans q.1), fun e => absurd q.2.1 (by rw [e.2]; decide)⟩)
theorem tc_len (h : q_ln X T = 900) : (q_len X T).toInt = 900 := by
  unfold q_len
  rw [h]
  rfl
theorem tc_sig (E : tc_E X σ R T n B) {b : Int} (hb : (σ.1 R 2).toInt = b) (h0 : 0 ≤ b ∧ b ≤ 900) {v : Int32} {i : Int} (hv : v.toInt = i) (hi : 0 ≤ i ∧ i ≤ 900) : (F_X3_signAt X σ R v).toInt = tx_D B n (b + i) := by
  obtain ⟨E1, E2, E3, E4, E5, E6⟩ := E
  subst hv
  have e : (σ.1 R 2 + v).toInt = b + v.toInt := by rw [ar_add, hb, ar_wr (by omega) (by omega)]
  simp only [F_X3_signAt, ↓q_letE]
  rw [e, if_neg (by omega), E1, E2]
  unfold tx_D
  by_cases q : b + v.toInt < n
  · rw [if_pos q, if_pos (by rw [tc_len E5]; omega), if_pos ⟨by omega, q⟩, ar_cl, e]
    exact (E6 _ (by omega) q).1
  · rw [if_neg q, if_neg (fun h => q h.2)]
    rfl
theorem tx_D_in {p : Int} (h0 : 0 ≤ p) (h : p < n) : tx_D B n p = B p := if_pos ⟨h0, h⟩
theorem tx_run_cons {P : Int → Prop} {b e : Int} (h : tx_run P n (b + 1) e) (q : b < n) (hp : P b) : tx_run P n b e := by
  obtain ⟨h1, h2, h3⟩ := h
  refine ⟨by omega, fun j a c => ?_, h3⟩
  by_cases hj : j = b
  · subst hj; exact ⟨q, hp⟩
  · exact h2 j (by omega) c
theorem tx_run_nil {P : Int → Prop} {b : Int} (h : ¬ (b < n ∧ P b)) : tx_run P n b b := ⟨Int.le_refl _, fun j a c => by omega, h⟩
theorem tc_eorL (E : tc_E X σ R T n B) (lo hi : Int32) (k : Nat) : ∀ x : Int32, (2147483647 - x.toInt).toNat < k → 0 ≤ x.toInt → x.toInt ≤ n → tx_run (fun j => lo.toInt ≤ B j ∧ B j ≤ hi.toInt) n x.toInt (F_X3_endOfRun_L5_1 X σ R lo hi k x).toInt := by
  obtain ⟨E1, E2, E3, E4, E5, E6⟩ := id E
  induction k with
  | zero => intro x hm; exact absurd hm (Nat.not_lt_zero _)
  | succ k ih =>
    intro x hm h0 h1
    rw [F_X3_endOfRun_L5_1_s]
    simp only [F_X3_endOfRun_B5_1, ↓q_letE]
    rw [E1, E2, tc_len E5]
    by_cases q : x.toInt < n
    · rw [if_pos q, if_pos (by omega), ar_cl, (E6 x.toInt h0 q).1]
      by_cases q1 : B x.toInt < lo.toInt
      · rw [if_pos q1]
        exact tx_run_nil (fun h => by have := h.2; omega)
      · rw [if_neg q1]
        by_cases q2 : hi.toInt < B x.toInt
        · rw [if_pos q2]
          exact tx_run_nil (fun h => by have := h.2; omega)
        · rw [if_neg q2]
          have e1 : (x + 1).toInt = x.toInt + 1 := y_inc (by omega)
          have z := ih (x + 1) (by omega) (by omega) (by omega)
          rw [e1] at z
          exact tx_run_cons z q ⟨by omega, by omega⟩
    · rw [if_neg q]
      exact tx_run_nil (fun h => q h.1)
theorem tc_eor (E : tc_E X σ R T n B) {b : Int} (hb : (σ.1 R 2).toInt = b) (h0 : 0 ≤ b ∧ b ≤ n) (lo hi : Int32) : tx_run (fun j => lo.toInt ≤ B j ∧ B j ≤ hi.toInt) n b (F_X3_endOfRun X σ R lo hi).toInt := by
  simp only [F_X3_endOfRun, ↓q_letE]
  obtain ⟨k, hk⟩ : ∃ k, k = (2147483647 - (σ.1 R 2).toInt).toNat + 1 := ⟨_, rfl⟩
  rw [← hk]
  have z := tc_eorL E lo hi k (σ.1 R 2) (by omega) (by omega) (by omega)
  rw [hb] at z
  exact z
theorem tc_adv8 (E : tc_E X σ R T n B) (k : Nat) : ∀ τ : ST, tk (tc_S R) σ τ → (2147483647 - (τ.1 R 2).toInt).toNat < k → 0 ≤ (τ.1 R 2).toInt → (τ.1 R 2).toInt ≤ n → ∃ τ' : ST, F_X3_advance_L8_1 X R k τ = F_X3_advance_J52_2 X τ' R ∧ tk (tc_S R) σ τ' ∧ tx_run (fun j => tx_bl (B j)) n (τ.1 R 2).toInt (τ'.1 R 2).toInt := by
  have E3 := E.2.2.1
  induction k with
  | zero => intro τ _ hm; exact absurd hm (Nat.not_lt_zero _)
  | succ k ih =>
    intro τ ht hm h0 h1
    have Eτ := E.kS ht
    obtain ⟨b, hb⟩ : ∃ b, (τ.1 R 2).toInt = b := ⟨_, rfl⟩
    rw [hb] at hm h0 h1 ⊢
    have sg := tc_sig Eτ hb ⟨h0, by omega⟩ (v := 0) (i := 0) rfl ⟨by decide, by decide⟩
    rw [Int.add_zero] at sg
    rw [F_X3_advance_L8_1_s]
    simp only [F_X3_advance_B8_1, ↓q_letE]
    rw [Eτ.2.1, sg, hb]
    by_cases q : b < n
    · rw [if_pos q, tx_D_in h0 q]
      have e1 : ((q_si τ R 2 (τ.1 R 2 + 1)).1 R 2).toInt = b + 1 := by rw [si_eq, y_inc (by omega), hb]
      have st : tx_bl (B b) → ∃ τ' : ST, F_X3_advance_L8_1 X R k (q_si τ R 2 (τ.1 R 2 + 1)) = F_X3_advance_J52_2 X τ' R ∧ tk (tc_S R) σ τ' ∧ tx_run (fun j => tx_bl (B j)) n b (τ'.1 R 2).toInt := by
        intro hbl
        obtain ⟨τ', a1, a2, a3⟩ := ih (q_si τ R 2 (τ.1 R 2 + 1)) (ht.si _ ⟨rfl, by decide, by decide⟩) (by rw [e1]; omega) (by rw [e1]; omega) (by rw [e1]; omega)
        rw [e1] at a3
        exact ⟨τ', a1, a2, tx_run_cons a3 q hbl⟩
      by_cases q1 : B b = 10
      · rw [if_pos q1]
        exact st (Or.inl q1)
      · rw [if_neg q1]
        by_cases q2 : B b = 32
        · rw [if_pos q2]
          exact st (Or.inr q2)
        · rw [if_neg q2]
          exact ⟨τ, rfl, ht, by rw [hb]; exact tx_run_nil (fun h => h.2.elim q1 q2)⟩
    · rw [if_neg q]
      exact ⟨τ, rfl, ht, by rw [hb]; exact tx_run_nil (fun h => q h.1)⟩
/-- the number's value, place by place -/
theorem tc_adv165 (E : tc_E X σ R T n B) {b e : Int} (hb0 : 0 ≤ b) (hbe : b ≤ e) (he : e ≤ n) (hd : ∀ j, b ≤ j → j < e → tx_di (B j)) (k : Nat) : ∀ (x : Int32) (τ : ST), (2147483647 - x.toInt).toNat < k → 0 ≤ x.toInt → x.toInt ≤ 4 → x.toInt ≤ e - b → tk (tc_S R) σ τ → (τ.1 R 2).toInt = b → (τ.1 R 3).toInt = e → (τ.1 R 5).toInt = tx_nv B b x.toInt.toNat → (0 ≤ tx_nv B b x.toInt.toNat ∧ tx_nv B b x.toInt.toNat < 10 ^ x.toInt.toNat) →
    ∃ τ' : ST, F_X3_advance_L165_4 X R k x τ = τ' ∧ tk (tc_S R) σ τ' ∧ (τ'.1 R 2).toInt = b ∧ (τ'.1 R 3).toInt = e ∧ τ'.1 R 4 = τ.1 R 4 ∧ (e - b ≤ 4 → (τ'.1 R 5).toInt = tx_nv B b (e - b).toNat) := by
  have E3 := E.2.2.1
  induction k with
  | zero => intro x τ hm; exact absurd hm (Nat.not_lt_zero _)
  | succ k ih =>
    intro x τ hm h0 h4 h5 ht hb he3 hv hvb
    have Eτ := E.kS ht
    have sz : (F_X3_size X τ R).toInt = e - b := by
      simp only [F_X3_size, ↓q_letE]
      rw [ar_sub, he3, hb, ar_wr (by omega) (by omega)]
    rw [F_X3_advance_L165_4_s]
    simp only [F_X3_advance_B165_4, ↓q_letE]
    rw [sz]
    by_cases q : x.toInt < 4
    · rw [if_pos q]
      by_cases q1 : x.toInt < e - b
      · rw [if_pos q1]
        have sg := tc_sig Eτ hb ⟨by omega, by omega⟩ (v := x) rfl ⟨h0, by omega⟩
        rw [tx_D_in (by omega) (by omega)] at sg
        have dg := hd (b + x.toInt) (by omega) (by omega)
        unfold tx_di at dg
        have p4 : (10 : Int) ^ x.toInt.toNat ≤ 1000 := by
          have : x.toInt.toNat = 0 ∨ x.toInt.toNat = 1 ∨ x.toInt.toNat = 2 ∨ x.toInt.toNat = 3 := by omega
          rcases this with q | q | q | q <;> rw [q] <;> decide
        have e10 : (10 : Int32).toInt = 10 := rfl
        have e48 : (48 : Int32).toInt = 48 := rfl
        have ev : (τ.1 R 5 * 10 + F_X3_signAt X τ R x - 48).toInt = tx_nv B b x.toInt.toNat * 10 + B (b + x.toInt) - 48 := by
          rw [ar_sub, ar_add, ar_mul, hv, sg, e10, e48, ar_wr (n := tx_nv B b x.toInt.toNat * 10) (by omega) (by omega), ar_wr (n := tx_nv B b x.toInt.toNat * 10 + B (b + x.toInt)) (by omega) (by omega), ar_wr (by omega) (by omega)]
        have e1 : (x + 1).toInt = x.toInt + 1 := y_inc (by omega)
        have e2 : (x.toInt + 1).toNat = x.toInt.toNat + 1 := by omega
        have e3 : ((x.toInt.toNat : Nat) : Int) = x.toInt := by omega
        have nv : tx_nv B b (x.toInt + 1).toNat = tx_nv B b x.toInt.toNat * 10 + B (b + x.toInt) - 48 := by
          rw [e2]
          show tx_nv B b x.toInt.toNat * 10 + B (b + ((x.toInt.toNat : Nat) : Int)) - 48 = _
          rw [e3]
        have pw : (10 : Int) ^ (x.toInt + 1).toNat = 10 ^ x.toInt.toNat * 10 := by rw [e2, Int.pow_succ]
        obtain ⟨τ', a1, a2, a3, a4, a5, a6⟩ := ih (x + 1) (q_si τ R 5 (τ.1 R 5 * 10 + F_X3_signAt X τ R x - 48)) (by omega) (by omega) (by omega) (by omega) (ht.si _ ⟨rfl, by decide, by decide⟩) (by rw [si_f (by decide)]; exact hb) (by rw [si_f (by decide)]; exact he3) (by rw [si_eq, ev, e1, nv]) (by rw [e1, nv, pw]; omega)
        exact ⟨τ', a1, a2, a3, a4, by rw [a5, si_f (by decide)], a6⟩
      · rw [if_neg q1]
        refine ⟨τ, rfl, ht, hb, he3, rfl, fun _ => ?_⟩
        have : x.toInt = e - b := by omega
        rw [hv, this]
    · rw [if_neg q]
      refine ⟨τ, rfl, ht, hb, he3, rfl, fun h => ?_⟩
      have : x.toInt = e - b := by omega
      rw [hv, this]
theorem tc_165 (k : Nat) : F_X3_advance_L165_7 X R k = F_X3_advance_L165_4 X R k := by
  induction k with
  | zero => rfl
  | succ k ih =>
    show F_X3_advance_B165_7 X R (F_X3_advance_L165_7 X R k) = F_X3_advance_B165_4 X R (F_X3_advance_L165_4 X R k)
    rw [ih]
    rfl
/-- what advance leaves, its blanks passed: the token's cells of R -/
def tc_Q (σ : ST) (R : Nat) (n : Int) (B : Int → Int) (b : Int) (τ' : ST) : Prop := tk (tc_S R) σ τ' ∧ (τ'.1 R 2).toInt = b ∧ tx_cls B n b (τ'.1 R 3).toInt (τ'.1 R 4).toInt (τ'.1 R 5).toInt
theorem tc_J117 (E : tc_E X σ R T n B) {ρ : ST} (ht : tk (tc_S R) σ ρ) {b : Int} (hb : (ρ.1 R 2).toInt = b) (h0 : 0 ≤ b) (q : b < n) {r : Int32} (hr : r.toInt = B b) (hl : ¬ tx_le (B b)) : tc_Q σ R n B b (F_X3_advance_J117_3 X r ρ R) := by
  have E3 := E.2.2.1
  have Eρ := E.kS ht
  have sgn : ∀ ty : Int32, ¬ tx_di (B b) → (tx_sg (B b) ∧ ty.toInt = 3 ∨ ¬ tx_sg (B b) ∧ ty.toInt = 4) → tc_Q σ R n B b (q_si (q_si ρ R 4 ty) R 3 ((q_si ρ R 4 ty).1 R 2 + 1)) := by
    intro ty hd hs
    have e2 : (q_si ρ R 4 ty).1 R 2 = ρ.1 R 2 := si_f (by decide) R
    have e1 : ((q_si ρ R 4 ty).1 R 2 + 1).toInt = b + 1 := by rw [e2, y_inc (by omega), hb]
    refine ⟨(ht.si _ ⟨rfl, by decide, by decide⟩).si _ ⟨rfl, by decide, by decide⟩, by rw [si_f (by decide), si_f (by decide)]; exact hb, Or.inr (Or.inr (Or.inr ⟨q, hl, hd, by rw [si_eq, e1], ?_⟩))⟩
    rw [si_f (by decide), si_eq]
    exact hs
  simp only [F_X3_advance_J117_3, ↓q_letE]
  rw [hr]
  unfold tx_le at hl
  by_cases c1 : B b < 48
  · rw [if_pos c1]
    repeat' split
    all_goals first
      | exact sgn 3 (by unfold tx_di; omega) (Or.inl ⟨by unfold tx_sg; omega, rfl⟩)
      | exact sgn 4 (by unfold tx_di; omega) (Or.inr ⟨by unfold tx_sg; omega, rfl⟩)
  · rw [if_neg c1]
    by_cases c2 : 57 < B b
    · rw [if_pos c2]
      repeat' split
      all_goals first
        | exact sgn 3 (by unfold tx_di; omega) (Or.inl ⟨by unfold tx_sg; omega, rfl⟩)
        | exact sgn 4 (by unfold tx_di; omega) (Or.inr ⟨by unfold tx_sg; omega, rfl⟩)
    · rw [if_neg c2]
      have hd : tx_di (B b) := ⟨by omega, by omega⟩
      have run := tc_eor Eρ hb ⟨h0, by omega⟩ 48 57
      have r48 : (48 : Int32).toInt = 48 := rfl
      have r57 : (57 : Int32).toInt = 57 := rfl
      rw [r48, r57] at run
      obtain ⟨w, hw⟩ : ∃ w, w = F_X3_endOfRun X ρ R 48 57 := ⟨_, rfl⟩
      rw [← hw] at run ⊢
      have hbe := run.1
      have hen := tx_run_le run (by omega)
      have t3 : tk (tc_S R) σ (q_si ρ R 3 w) := ht.si _ ⟨rfl, by decide, by decide⟩
      have b3 : ((q_si ρ R 3 w).1 R 2).toInt = b := by rw [si_f (by decide)]; exact hb
      have sz : (F_X3_size X (q_si ρ R 3 w) R).toInt = w.toInt - b := by
        simp only [F_X3_size, ↓q_letE]
        rw [ar_sub, b3, si_eq, ar_wr (by omega) (by omega)]
      rw [sz]
      have go : ∀ ty : Int32, (4 < w.toInt - b ∧ ty.toInt = 4 ∨ w.toInt - b ≤ 4 ∧ ty.toInt = 2) → tc_Q σ R n B b (F_X3_advance_L165_4 X R ((2147483647 - (0 : Int32).toInt).toNat + 1) 0 (q_si (q_si (q_si ρ R 3 w) R 4 ty) R 5 0)) := by
        intro ty hty
        obtain ⟨τ', a1, a2, a3, a4, a5, a6⟩ := tc_adv165 E h0 hbe hen (fun j j0 j1 => (run.2.1 j j0 j1).2) ((2147483647 - (0 : Int32).toInt).toNat + 1) 0 (q_si (q_si (q_si ρ R 3 w) R 4 ty) R 5 0) (by decide) (by decide) (by decide) (by show (0 : Int) ≤ _; omega) ((t3.si _ ⟨rfl, by decide, by decide⟩).si _ ⟨rfl, by decide, by decide⟩) (by rw [si_f (by decide), si_f (by decide)]; exact b3) (by rw [si_f (by decide), si_f (by decide), si_eq]) (by rw [si_eq]; rfl) (by show (0 : Int) ≤ 0 ∧ (0 : Int) < 10 ^ 0; decide)
        rw [a1]
        refine ⟨a2, a3, Or.inr (Or.inr (Or.inl ⟨q, hd, by rw [a4]; exact run, ?_⟩))⟩
        rw [a4, a5, si_f (by decide), si_eq]
        rcases hty with ⟨h1, h2⟩ | ⟨h1, h2⟩
        · exact Or.inl ⟨h1, h2⟩
        · exact Or.inr ⟨h1, h2, a6 h1⟩
      by_cases c3 : 4 < w.toInt - b
      · rw [if_pos c3, tc_165]
        exact go 4 (Or.inl ⟨c3, rfl⟩)
      · rw [if_neg c3]
        exact go 2 (Or.inr ⟨by omega, rfl⟩)
theorem tc_J52 (E : tc_E X σ R T n B) {τ : ST} (ht : tk (tc_S R) σ τ) {b : Int} (hb : (τ.1 R 2).toInt = b) (h0 : 0 ≤ b) (h1 : b ≤ n) : tc_Q σ R n B b (F_X3_advance_J52_2 X τ R) := by
  have E3 := E.2.2.1
  simp only [F_X3_advance_J52_2, ↓q_letE]
  obtain ⟨ρ, hρ⟩ : ∃ ρ, ρ = q_si τ R 3 (τ.1 R 2) := ⟨_, rfl⟩
  rw [← hρ]
  have ht2 : tk (tc_S R) σ ρ := by rw [hρ]; exact ht.si _ ⟨rfl, by decide, by decide⟩
  have hb2 : (ρ.1 R 2).toInt = b := by rw [hρ, si_f (by decide)]; exact hb
  have he2 : (ρ.1 R 3).toInt = b := by rw [hρ, si_eq]; exact hb
  have Eρ := E.kS ht2
  have sg := tc_sig Eρ hb2 ⟨h0, by omega⟩ (v := 0) (i := 0) rfl ⟨by decide, by decide⟩
  rw [Int.add_zero] at sg
  rw [Eρ.2.1, hb2, sg]
  by_cases q : b < n
  · rw [if_pos q]
    have sg2 := sg
    rw [tx_D_in h0 q] at sg2 ⊢
    by_cases q1 : B b < 97
    · rw [if_pos q1]
      exact tc_J117 E ht2 hb2 h0 q sg2 (fun h => by have := h.1; omega)
    · rw [if_neg q1]
      by_cases q2 : 122 < B b
      · rw [if_pos q2]
        exact tc_J117 E ht2 hb2 h0 q sg2 (fun h => by have := h.2; omega)
      · rw [if_neg q2]
        have t4 : tk (tc_S R) σ (q_si ρ R 4 1) := ht2.si _ ⟨rfl, by decide, by decide⟩
        have b4 : ((q_si ρ R 4 1).1 R 2).toInt = b := by rw [si_f (by decide)]; exact hb2
        have run := tc_eor (E.kS t4) b4 ⟨h0, h1⟩ 97 122
        have r97 : (97 : Int32).toInt = 97 := rfl
        have r122 : (122 : Int32).toInt = 122 := rfl
        rw [r97, r122] at run
        refine ⟨t4.si _ ⟨rfl, by decide, by decide⟩, by rw [si_f (by decide)]; exact b4, Or.inr (Or.inl ⟨q, ⟨by omega, by omega⟩, by rw [si_f (by decide), si_eq]; rfl, ?_⟩)⟩
        rw [si_eq]
        exact run
  · rw [if_neg q]
    exact ⟨ht2.si _ ⟨rfl, by decide, by decide⟩, by rw [si_f (by decide)]; exact hb2, Or.inl ⟨by omega, by rw [si_eq]; rfl, by rw [si_f (by decide)]; exact he2⟩⟩
/-- the class's advance -/
theorem tc_adv (E : tc_E X σ R T n B) {p : Int} (hp : (σ.1 R 3).toInt = p) (h0 : 0 ≤ p ∧ p ≤ n) : tk (tc_S R) σ (F_X3_advance X σ R) ∧ tx_tok B n p ((F_X3_advance X σ R).1 R 2).toInt ((F_X3_advance X σ R).1 R 3).toInt ((F_X3_advance X σ R).1 R 4).toInt ((F_X3_advance X σ R).1 R 5).toInt := by
  have E3 := E.2.2.1
  simp only [F_X3_advance, ↓q_letE]
  obtain ⟨τ, hτ⟩ : ∃ τ, τ = q_si σ R 2 (σ.1 R 3) := ⟨_, rfl⟩
  rw [← hτ]
  have ht : tk (tc_S R) σ τ := by rw [hτ]; exact tk.rf.si _ ⟨rfl, by decide, by decide⟩
  have hb : (τ.1 R 2).toInt = p := by rw [hτ, si_eq]; exact hp
  obtain ⟨k, hk⟩ : ∃ k, k = (2147483647 - (τ.1 R 2).toInt).toNat + 1 := ⟨_, rfl⟩
  rw [← hk]
  obtain ⟨τ', a1, a2, a3⟩ := tc_adv8 E k τ ht (by omega) (by omega) (by omega)
  rw [a1]
  rw [hb] at a3
  have hb2 : p ≤ (τ'.1 R 2).toInt := a3.1
  have hb3 : (τ'.1 R 2).toInt ≤ n := tx_run_le a3 h0.2
  obtain ⟨c1, c2, c3⟩ := tc_J52 E a2 rfl (by omega) hb3
  refine ⟨c1, ?_⟩
  rw [c2]
  exact ⟨a3, c3⟩
end TC
end
/-! FROM 48f.next.lean.txt -/
section
/-! THE REFERENCE'S SCANNER -/
def tkl (S L : Nat → Nat → Prop) (σ τ : ST) : Prop := (∀ b f, ¬ S b f → τ.1 b f = σ.1 b f) ∧ (∀ b f, ¬ L b f → τ.2.1 b f = σ.2.1 b f) ∧ τ.2.2 = σ.2.2
theorem tkl.rf {S L : Nat → Nat → Prop} {σ : ST} : tkl S L σ σ := ⟨fun _ _ _ => rfl, fun _ _ _ => rfl, rfl⟩
theorem tkl.tr {S L : Nat → Nat → Prop} {σ τ τ' : ST} (h : tkl S L σ τ) (h' : tkl S L τ τ') : tkl S L σ τ' := ⟨fun b f q => (h'.1 b f q).trans (h.1 b f q), fun b f q => (h'.2.1 b f q).trans (h.2.1 b f q), h'.2.2.trans h.2.2⟩
theorem tkl.mono {S L S' L' : Nat → Nat → Prop} {σ τ : ST} (h : tkl S L σ τ) (hs : ∀ b f, S b f → S' b f) (hl : ∀ b f, L b f → L' b f) : tkl S' L' σ τ := ⟨fun b f q => h.1 b f (fun z => q (hs b f z)), fun b f q => h.2.1 b f (fun z => q (hl b f z)), h.2.2⟩
theorem tkl.si {S L : Nat → Nat → Prop} {σ τ : ST} (h : tkl S L σ τ) {a f : Nat} (v : Int32) (hs : S a f) : tkl S L σ (q_si τ a f v) := by
  refine ⟨fun b g q => ?_, fun b g q => h.2.1 b g q, h.2.2⟩
  show (if b = a ∧ g = f then v else τ.1 b g) = _
  rw [if_neg]
  · exact h.1 b g q
  · rintro ⟨rfl, rfl⟩
    exact q hs
theorem tkl.sl {S L : Nat → Nat → Prop} {σ τ : ST} (h : tkl S L σ τ) {a f : Nat} (v : Int64) (hs : L a f) : tkl S L σ (q_sl τ a f v) := by
  refine ⟨fun b g q => h.1 b g q, fun b g q => ?_, h.2.2⟩
  show (if b = a ∧ g = f then v else τ.2.1 b g) = _
  rw [if_neg]
  · exact h.2.1 b g q
  · rintro ⟨rfl, rfl⟩
    exact q hs
theorem sl_eq (τ : ST) (a f : Nat) (v : Int64) : (q_sl τ a f v).2.1 a f = v := by
  show (if a = a ∧ f = f then v else _) = v
  rw [if_pos ⟨rfl, rfl⟩]
theorem sl_i (τ : ST) (a f : Nat) (v : Int64) (b g : Nat) : (q_sl τ a f v).1 b g = τ.1 b g := rfl
theorem si_l (τ : ST) (a f : Nat) (v : Int32) (b g : Nat) : (q_si τ a f v).2.1 b g = τ.2.1 b g := rfl
/-- a token's cells of the reference -/
def tn_S (a : Nat) : Nat → Nat → Prop := fun b f => b = a ∧ 14 ≤ f ∧ f ≤ 18
def tn_L (a : Nat) : Nat → Nat → Prop := fun b f => b = a ∧ f = 19
/-- the reference reads the first n bytes B of its tape -/
def tm_E (X : XW) (σ : ST) (a : Nat) (n : Int) (B : Int → Int) : Prop := (σ.1 a 9).toInt = n ∧ (0 ≤ n ∧ n ≤ 900) ∧ q_rf X a 7 ≠ a ∧ ∀ p : Int, 0 ≤ p → p < n → (σ.1 (q_rf X a 7) p.toNat).toInt = B p ∧ -128 ≤ B p ∧ B p ≤ 127
/-- what the token at b, to e, is: sign or word -/
def tm_ext (B : Int → Int) (b e ty num let_ word : Int) : Prop := (ty = 3 → num = B b) ∧ (ty = 1 → let_ = e - b ∧ (e - b ≤ 8 → word = tx_wv B b (e - b).toNat) ∧ (8 < e - b → word = -1))
section TM
variable {X : XW} {σ τ : ST} {a : Nat} {n : Int} {B : Int → Int}
theorem tm_E.k {S L : Nat → Nat → Prop} (E : tm_E X σ a n B) (h : tkl S L σ τ) (hs : ∀ b f, S b f → b ≠ q_rf X a 7 ∧ ¬ (b = a ∧ f = 9)) : tm_E X τ a n B := by
  obtain ⟨E1, E2, E3, E4⟩ := E
  refine ⟨?_, E2, E3, fun p p0 p1 => ?_⟩
  · rw [h.1 a 9 (fun q => (hs _ _ q).2 ⟨rfl, rfl⟩)]; exact E1
  · rw [h.1 (q_rf X a 7) p.toNat (fun q => (hs _ _ q).1 rfl)]; exact E4 p p0 p1
theorem tm_E.kS (E : tm_E X σ a n B) (h : tkl (tn_S a) (tn_L a) σ τ) : tm_E X τ a n B := E.k h (fun b f q => ⟨fun e => E.2.2.1 (e.symm.trans q.1), fun e => absurd q.2.1 (by rw [e.2]; decide)⟩)
theorem tm_look (E : tm_E X σ a n B) {v : Int32} {p : Int} (hv : v.toInt = p) (h0 : 0 ≤ p) : (F_X12_look2 X σ a v).toInt = if p < n then B p % 256 else 0 := by
  obtain ⟨E1, E2, E3, E4⟩ := E
  subst hv
  simp only [F_X12_look2, ↓q_letE]
  rw [E1]
  by_cases q : v.toInt < n
  · rw [if_pos q, if_pos q, Jvm.Kit.i32_mask (k := 8) _ 255 (by decide) (by decide), ar_cl, (E4 _ h0 q).1]
    rfl
  · rw [if_neg q, if_neg q]
    rfl
theorem tm_le {r : Int32} {x : Int} (hr : r.toInt = x % 256) (hb : -128 ≤ x ∧ x ≤ 127) : (F_X12_isLetter X σ r).toInt = if 97 ≤ x ∧ x ≤ 122 then 1 else 0 := by
  simp only [F_X12_isLetter]
  rw [hr]
  by_cases q : 97 ≤ x ∧ x ≤ 122
  · rw [if_pos q, if_neg (by omega), if_neg (by omega)]
    rfl
  · rw [if_neg q]
    by_cases q1 : x % 256 < 97
    · rw [if_pos q1]; rfl
    · rw [if_neg q1, if_pos (by omega)]; rfl
theorem tm_di {r : Int32} {x : Int} (hr : r.toInt = x % 256) (hb : -128 ≤ x ∧ x ≤ 127) : (F_X12_isDigit X σ r).toInt = if 48 ≤ x ∧ x ≤ 57 then 1 else 0 := by
  simp only [F_X12_isDigit]
  rw [hr]
  by_cases q : 48 ≤ x ∧ x ≤ 57
  · rw [if_pos q, if_neg (by omega), if_neg (by omega)]
    rfl
  · rw [if_neg q]
    by_cases q1 : x % 256 < 48
    · rw [if_pos q1]; rfl
    · rw [if_neg q1, if_pos (by omega)]; rfl
theorem tm_adv8 (E : tm_E X σ a n B) (k : Nat) : ∀ τ : ST, tkl (tn_S a) (tn_L a) σ τ → (n - (τ.1 a 15).toInt).toNat < k → 0 ≤ (τ.1 a 15).toInt → (τ.1 a 15).toInt ≤ n → ∃ τ' : ST, F_X12_next_L8_1 X a k τ = F_X12_next_J58_2 X τ' a ∧ tkl (tn_S a) (tn_L a) σ τ' ∧ tx_run (fun j => tx_bl (B j)) n (τ.1 a 15).toInt (τ'.1 a 15).toInt := by
  have E3 := E.2.1
  induction k with
  | zero => intro τ _ hm; exact absurd hm (Nat.not_lt_zero _)
  | succ k ih =>
    intro τ ht hm h0 h1
    have Eτ := E.kS ht
    obtain ⟨b, hb⟩ : ∃ b, (τ.1 a 15).toInt = b := ⟨_, rfl⟩
    rw [hb] at hm h0 h1 ⊢
    have lk := tm_look Eτ hb h0
    rw [F_X12_next_L8_1_s]
    simp only [F_X12_next_B8_1, ↓q_letE]
    rw [Eτ.1, hb, lk]
    by_cases q : b < n
    · rw [if_pos q, if_pos q]
      have hB := (Eτ.2.2.2 b h0 q).2
      have e1 : ((q_si τ a 15 (τ.1 a 15 + 1)).1 a 15).toInt = b + 1 := by rw [si_eq, y_inc (by omega), hb]
      have st : tx_bl (B b) → ∃ τ' : ST, F_X12_next_L8_1 X a k (q_si τ a 15 (τ.1 a 15 + 1)) = F_X12_next_J58_2 X τ' a ∧ tkl (tn_S a) (tn_L a) σ τ' ∧ tx_run (fun j => tx_bl (B j)) n b (τ'.1 a 15).toInt := by
        intro hbl
        have zz := ih (q_si τ a 15 (τ.1 a 15 + 1)) (ht.si _ ⟨rfl, by decide, by decide⟩) (by rw [e1]; omega) (by rw [e1]; omega) (by rw [e1]; omega)
        obtain ⟨τ', a1, a2, a3⟩ := zz
        rw [e1] at a3
        exact ⟨τ', a1, a2, tx_run_cons a3 q hbl⟩
      by_cases q1 : B b % 256 = 10
      · rw [if_pos q1]
        exact st (Or.inl (by omega))
      · rw [if_neg q1]
        by_cases q2 : B b % 256 = 32
        · rw [if_pos q2]
          exact st (Or.inr (by omega))
        · rw [if_neg q2]
          exact ⟨τ, rfl, ht, by rw [hb]; exact tx_run_nil (fun h => by have z := h.2; unfold tx_bl at z; omega)⟩
    · rw [if_neg q]
      exact ⟨τ, rfl, ht, by rw [hb]; exact tx_run_nil (fun h => q h.1)⟩
theorem tx_wv_b {b : Int} {m : Nat} (h : ∀ j : Int, b ≤ j → j < b + (m : Int) → tx_le (B j)) : 0 ≤ tx_wv B b m ∧ tx_wv B b m < 32 ^ m := by
  induction m with
  | zero => exact ⟨Int.le_refl 0, (by decide : (0 : Int) < 32 ^ 0)⟩
  | succ m ih =>
    have a1 := ih (fun j a c => h j a (by omega))
    have a2 := h (b + (m : Int)) (by omega) (by omega)
    unfold tx_le at a2
    have p : (32 : Int) ^ (m + 1) = 32 ^ m * 32 := Int.pow_succ 32 m
    show 0 ≤ tx_wv B b m * 32 + B (b + (m : Int)) - 96 ∧ tx_wv B b m * 32 + B (b + (m : Int)) - 96 < 32 ^ (m + 1)
    omega
theorem tm_109 (E : tm_E X σ a n B) {b : Int} (hb0 : 0 ≤ b) (k : Nat) : ∀ (τ : ST) (x : Int), (τ.1 a 16).toInt = x → (n - x).toNat < k → b ≤ x → x ≤ n → tkl (tn_S a) (tn_L a) σ τ → (τ.1 a 15).toInt = b → (∀ j, b ≤ j → j < x → tx_le (B j)) → (x - b ≤ 8 → (τ.2.1 a 19).toInt = tx_wv B b (x - b).toNat) → (8 < x - b → (τ.2.1 a 19).toInt = -1) →
    ∃ τ' : ST, F_X12_next_L109_5 X a k τ = τ' ∧ tkl (tn_S a) (tn_L a) σ τ' ∧ (τ'.1 a 15).toInt = b ∧ tx_run (fun j => tx_le (B j)) n x (τ'.1 a 16).toInt ∧ τ'.1 a 14 = τ.1 a 14 ∧ (τ'.1 a 18).toInt = (τ'.1 a 16).toInt - b ∧ ((τ'.1 a 16).toInt - b ≤ 8 → (τ'.2.1 a 19).toInt = tx_wv B b ((τ'.1 a 16).toInt - b).toNat) ∧ (8 < (τ'.1 a 16).toInt - b → (τ'.2.1 a 19).toInt = -1) := by
  have E3 := E.2.1
  induction k with
  | zero => intro τ x _ hm; exact absurd hm (Nat.not_lt_zero _)
  | succ k ih =>
    intro τ x hx hm h0 h1 ht hb hl hw1 hw2
    have Eτ := E.kS ht
    have lk := tm_look Eτ hx (by omega)
    rw [F_X12_next_L109_5_s]
    simp only [F_X12_next_B109_5, ↓q_letE]
    have fin : ¬ (x < n ∧ tx_le (B x)) → ∃ τ' : ST, F_X12_next_E182_6 X τ a = τ' ∧ tkl (tn_S a) (tn_L a) σ τ' ∧ (τ'.1 a 15).toInt = b ∧ tx_run (fun j => tx_le (B j)) n x (τ'.1 a 16).toInt ∧ τ'.1 a 14 = τ.1 a 14 ∧ (τ'.1 a 18).toInt = (τ'.1 a 16).toInt - b ∧ ((τ'.1 a 16).toInt - b ≤ 8 → (τ'.2.1 a 19).toInt = tx_wv B b ((τ'.1 a 16).toInt - b).toNat) ∧ (8 < (τ'.1 a 16).toInt - b → (τ'.2.1 a 19).toInt = -1) := by
      intro hn
      simp only [F_X12_next_E182_6, ↓q_letE]
      have e16 : ((q_si τ a 18 (τ.1 a 16 - τ.1 a 15)).1 a 16).toInt = x := by rw [si_f (by decide)]; exact hx
      refine ⟨_, rfl, ht.si _ ⟨rfl, by decide, by decide⟩, by rw [si_f (by decide)]; exact hb, ?_, si_f (by decide) a, ?_, ?_, ?_⟩
      · rw [e16]; exact tx_run_nil hn
      · rw [e16, si_eq, ar_sub, hx, hb, ar_wr (by omega) (by omega)]
      · rw [e16]; exact hw1
      · rw [e16]; exact hw2
    by_cases q : x < n
    · rw [if_pos q] at lk
      have hB := (Eτ.2.2.2 x (by omega) q).2
      have il := tm_le (X := X) (σ := τ) lk hB
      by_cases ql : tx_le (B x)
      · rw [if_pos (show 97 ≤ B x ∧ B x ≤ 122 from ql)] at il
        rw [il, if_neg (by decide)]
        clear fin
        have sz : (τ.1 a 16 - τ.1 a 15).toInt = x - b := by rw [ar_sub, hx, hb, ar_wr (by omega) (by omega)]
        rw [sz]
        have hl2 : ∀ j, b ≤ j → j < x + 1 → tx_le (B j) := fun j j0 j1 => by
          by_cases hj : j = x
          · subst hj; exact ql
          · exact hl j j0 (by omega)
        have e1 : (τ.1 a 16 + 1).toInt = x + 1 := by rw [y_inc (by omega), hx]
        have en : (x + 1 - b).toNat = (x - b).toNat + 1 := by omega
        have ec : (((x - b).toNat : Nat) : Int) = x - b := by omega
        have ep : b + (x - b) = x := by omega
        by_cases q8 : x - b < 8
        · rw [if_pos q8]
          have w1 := hw1 (by omega)
          have wb := tx_wv_b (B := B) (b := b) (m := (x - b).toNat) (fun j j0 j1 => hl j j0 (by omega))
          have pb : (32 : Int) ^ (x - b).toNat ≤ 32 ^ 7 := by
            have : (x - b).toNat = 0 ∨ (x - b).toNat = 1 ∨ (x - b).toNat = 2 ∨ (x - b).toNat = 3 ∨ (x - b).toNat = 4 ∨ (x - b).toNat = 5 ∨ (x - b).toNat = 6 ∨ (x - b).toNat = 7 := by omega
            rcases this with q | q | q | q | q | q | q | q <;> rw [q] <;> decide
          have p7 : (32 : Int) ^ 7 = 34359738368 := by decide
          have ql2 := ql
          unfold tx_le at ql2
          have r32 : (32 : Int64).toInt = 32 := rfl
          have r96 : (96 : Int64).toInt = 96 := rfl
          have nv : tx_wv B b (x + 1 - b).toNat = tx_wv B b (x - b).toNat * 32 + B x - 96 := by
            rw [en]
            show tx_wv B b (x - b).toNat * 32 + B (b + (((x - b).toNat : Nat) : Int)) - 96 = _
            rw [ec, ep]
          have ev : (τ.2.1 a 19 * 32 + (F_X12_look2 X τ a (τ.1 a 16)).toInt64 - 96).toInt = tx_wv B b (x + 1 - b).toNat := by
            rw [nv, ar_subl, ar_addl, ar_mull, w1, ar_i2l, lk, r32, r96, ar_vr (n := tx_wv B b (x - b).toNat * 32) (by omega) (by omega), ar_vr (n := tx_wv B b (x - b).toNat * 32 + B x % 256) (by omega) (by omega), ar_vr (by omega) (by omega)]
            omega
          have zz := ih (q_si (q_sl τ a 19 (τ.2.1 a 19 * 32 + (F_X12_look2 X τ a (τ.1 a 16)).toInt64 - 96)) a 16 (τ.1 a 16 + 1)) (x + 1) (by rw [si_eq]; exact e1) (by omega) (by omega) (by omega) ((ht.sl _ ⟨rfl, rfl⟩).si _ ⟨rfl, by decide, by decide⟩) (by rw [si_f (by decide)]; exact hb) hl2 (fun _ => by rw [si_l, sl_eq]; exact ev) (fun h => absurd h (by omega))
          obtain ⟨τ', a1, a2, a3, a4, a5, a6, a7, a8⟩ := zz
          exact ⟨τ', a1, a2, a3, tx_run_cons a4 q ql, by rw [a5, si_f (by decide)]; rfl, a6, a7, a8⟩
        · rw [if_neg q8]
          have zz := ih (q_si (q_sl τ a 19 (-1)) a 16 (τ.1 a 16 + 1)) (x + 1) (by rw [si_eq]; exact e1) (by omega) (by omega) (by omega) ((ht.sl _ ⟨rfl, rfl⟩).si _ ⟨rfl, by decide, by decide⟩) (by rw [si_f (by decide)]; exact hb) hl2 (fun h => absurd h (by omega)) (fun _ => by rw [si_l, sl_eq]; rfl)
          obtain ⟨τ', a1, a2, a3, a4, a5, a6, a7, a8⟩ := zz
          exact ⟨τ', a1, a2, a3, tx_run_cons a4 q ql, by rw [a5, si_f (by decide)]; rfl, a6, a7, a8⟩
      · rw [if_neg (show ¬ (97 ≤ B x ∧ B x ≤ 122) from ql)] at il
        rw [il, if_pos rfl]
        exact fin (fun h => ql h.2)
    · rw [if_neg q] at lk
      have il : (F_X12_isLetter X τ (F_X12_look2 X τ a (τ.1 a 16))).toInt = 0 := by
        simp only [F_X12_isLetter]
        rw [lk]
        rfl
      rw [il, if_pos rfl]
      exact fin (fun h => q h.1)
theorem tm_210 (E : tm_E X σ a n B) {b : Int} (hb0 : 0 ≤ b) (hbn : b < n) (hbd : tx_di (B b)) (k : Nat) : ∀ (τ : ST) (x : Int), (τ.1 a 16).toInt = x → (n - x).toNat < k → b ≤ x → x ≤ n → tkl (tn_S a) (tn_L a) σ τ → (τ.1 a 15).toInt = b → (∀ j, b ≤ j → j < x → tx_di (B j)) → (x - b ≤ 4 → (τ.1 a 17).toInt = tx_nv B b (x - b).toNat) → (0 ≤ tx_nv B b (x - b).toNat ∧ (x - b ≤ 4 → tx_nv B b (x - b).toNat < 10 ^ (x - b).toNat)) →
    ∃ τ' : ST, F_X12_next_L210_3 X a k τ = τ' ∧ tkl (tn_S a) (tn_L a) σ τ' ∧ (τ'.1 a 15).toInt = b ∧ tx_run (fun j => tx_di (B j)) n x (τ'.1 a 16).toInt ∧ (4 < (τ'.1 a 16).toInt - b ∧ (τ'.1 a 14).toInt = 4 ∨ (τ'.1 a 16).toInt - b ≤ 4 ∧ (τ'.1 a 14).toInt = 2 ∧ (τ'.1 a 17).toInt = tx_nv B b ((τ'.1 a 16).toInt - b).toNat) := by
  have E3 := E.2.1
  induction k with
  | zero => intro τ x _ hm; exact absurd hm (Nat.not_lt_zero _)
  | succ k ih =>
    intro τ x hx hm h0 h1 ht hb hl hw1 hwb
    have Eτ := E.kS ht
    have lk := tm_look Eτ hx (by omega)
    have sz : (τ.1 a 16 - τ.1 a 15).toInt = x - b := by rw [ar_sub, hx, hb, ar_wr (by omega) (by omega)]
    rw [F_X12_next_L210_3_s]
    simp only [F_X12_next_B210_3, ↓q_letE]
    rw [sz]
    have fin : ¬ (x < n ∧ tx_di (B x)) → ∃ τ' : ST, F_X12_next_E273_4 X τ a = τ' ∧ tkl (tn_S a) (tn_L a) σ τ' ∧ (τ'.1 a 15).toInt = b ∧ tx_run (fun j => tx_di (B j)) n x (τ'.1 a 16).toInt ∧ (4 < (τ'.1 a 16).toInt - b ∧ (τ'.1 a 14).toInt = 4 ∨ (τ'.1 a 16).toInt - b ≤ 4 ∧ (τ'.1 a 14).toInt = 2 ∧ (τ'.1 a 17).toInt = tx_nv B b ((τ'.1 a 16).toInt - b).toNat) := by
      intro hn
      simp only [F_X12_next_E273_4, ↓q_letE]
      rw [sz]
      have e16 : ∀ v : Int32, ((q_si τ a 14 v).1 a 16).toInt = x := fun v => by rw [si_f (by decide)]; exact hx
      by_cases q4 : 4 < x - b
      · rw [if_pos q4]
        refine ⟨_, rfl, ht.si _ ⟨rfl, by decide, by decide⟩, by rw [si_f (by decide)]; exact hb, ?_, Or.inl ?_⟩
        · rw [e16]; exact tx_run_nil hn
        · rw [e16, si_eq]; exact ⟨q4, rfl⟩
      · rw [if_neg q4]
        refine ⟨_, rfl, ht.si _ ⟨rfl, by decide, by decide⟩, by rw [si_f (by decide)]; exact hb, ?_, Or.inr ?_⟩
        · rw [e16]; exact tx_run_nil hn
        · rw [e16, si_eq, si_f (by decide)]; exact ⟨by omega, rfl, hw1 (by omega)⟩
    by_cases q : x < n
    · rw [if_pos q] at lk
      have hB := (Eτ.2.2.2 x (by omega) q).2
      have il := tm_di (X := X) (σ := τ) lk hB
      by_cases ql : tx_di (B x)
      · rw [if_pos (show 48 ≤ B x ∧ B x ≤ 57 from ql)] at il
        rw [il, if_neg (by decide)]
        clear fin
        have hl2 : ∀ j, b ≤ j → j < x + 1 → tx_di (B j) := fun j j0 j1 => by
          by_cases hj : j = x
          · subst hj; exact ql
          · exact hl j j0 (by omega)
        have e1 : (τ.1 a 16 + 1).toInt = x + 1 := by rw [y_inc (by omega), hx]
        have en : (x + 1 - b).toNat = (x - b).toNat + 1 := by omega
        have ec : (((x - b).toNat : Nat) : Int) = x - b := by omega
        have ep : b + (x - b) = x := by omega
        have nv : tx_nv B b (x + 1 - b).toNat = tx_nv B b (x - b).toNat * 10 + B x - 48 := by
          rw [en]
          show tx_nv B b (x - b).toNat * 10 + B (b + (((x - b).toNat : Nat) : Int)) - 48 = _
          rw [ec, ep]
        have ql2 := ql
        unfold tx_di at ql2
        by_cases q8 : x - b < 4
        · rw [if_pos q8]
          have w1 := hw1 (by omega)
          have wb := hwb.2 (by omega)
          have w0 := hwb.1
          have pb : (10 : Int) ^ (x - b).toNat ≤ 1000 := by
            have : (x - b).toNat = 0 ∨ (x - b).toNat = 1 ∨ (x - b).toNat = 2 ∨ (x - b).toNat = 3 := by omega
            rcases this with q | q | q | q <;> rw [q] <;> decide
          have pw : (10 : Int) ^ (x + 1 - b).toNat = 10 ^ (x - b).toNat * 10 := by rw [en, Int.pow_succ]
          have r10 : (10 : Int32).toInt = 10 := rfl
          have r48 : (48 : Int32).toInt = 48 := rfl
          have ev : (10 * τ.1 a 17 + F_X12_look2 X τ a (τ.1 a 16) - 48).toInt = tx_nv B b (x + 1 - b).toNat := by
            rw [nv, ar_sub, ar_add, ar_mul, w1, lk, r10, r48, ar_wr (n := 10 * tx_nv B b (x - b).toNat) (by omega) (by omega), ar_wr (n := 10 * tx_nv B b (x - b).toNat + B x % 256) (by omega) (by omega), ar_wr (by omega) (by omega)]
            omega
          have zz := ih (q_si (q_si τ a 17 (10 * τ.1 a 17 + F_X12_look2 X τ a (τ.1 a 16) - 48)) a 16 ((q_si τ a 17 (10 * τ.1 a 17 + F_X12_look2 X τ a (τ.1 a 16) - 48)).1 a 16 + 1)) (x + 1) (by rw [si_eq, si_f (by decide)]; exact e1) (by omega) (by omega) (by omega) ((ht.si _ ⟨rfl, by decide, by decide⟩).si _ ⟨rfl, by decide, by decide⟩) (by rw [si_f (by decide), si_f (by decide)]; exact hb) hl2 (fun _ => by rw [si_f (by decide), si_eq]; exact ev) ⟨by rw [nv]; omega, fun _ => by rw [nv, pw]; omega⟩
          obtain ⟨τ', a1, a2, a3, a4, a5⟩ := zz
          exact ⟨τ', a1, a2, a3, tx_run_cons a4 q ql, a5⟩
        · rw [if_neg q8]
          have zz := ih (q_si τ a 16 (τ.1 a 16 + 1)) (x + 1) (by rw [si_eq]; exact e1) (by omega) (by omega) (by omega) (ht.si _ ⟨rfl, by decide, by decide⟩) (by rw [si_f (by decide)]; exact hb) hl2 (fun h => absurd h (by omega)) ⟨by rw [nv]; have := hwb.1; omega, fun h => absurd h (by omega)⟩
          obtain ⟨τ', a1, a2, a3, a4, a5⟩ := zz
          exact ⟨τ', a1, a2, a3, tx_run_cons a4 q ql, a5⟩
      · rw [if_neg (show ¬ (48 ≤ B x ∧ B x ≤ 57) from ql)] at il
        rw [il, if_pos rfl]
        exact fin (fun h => ql h.2)
    · rw [if_neg q] at lk
      have il : (F_X12_isDigit X τ (F_X12_look2 X τ a (τ.1 a 16))).toInt = 0 := by
        simp only [F_X12_isDigit]
        rw [lk]
        rfl
      rw [il, if_pos rfl]
      exact fin (fun h => q h.1)
theorem tm_J58 (E : tm_E X σ a n B) {τ : ST} (ht : tkl (tn_S a) (tn_L a) σ τ) {b : Int} (hb : (τ.1 a 15).toInt = b) (h0 : 0 ≤ b) (h1 : b ≤ n) : tkl (tn_S a) (tn_L a) σ (F_X12_next_J58_2 X τ a) ∧ ((F_X12_next_J58_2 X τ a).1 a 15).toInt = b ∧ tx_cls B n b ((F_X12_next_J58_2 X τ a).1 a 16).toInt ((F_X12_next_J58_2 X τ a).1 a 14).toInt ((F_X12_next_J58_2 X τ a).1 a 17).toInt ∧ tm_ext B b ((F_X12_next_J58_2 X τ a).1 a 16).toInt ((F_X12_next_J58_2 X τ a).1 a 14).toInt ((F_X12_next_J58_2 X τ a).1 a 17).toInt ((F_X12_next_J58_2 X τ a).1 a 18).toInt ((F_X12_next_J58_2 X τ a).2.1 a 19).toInt := by
  have E3 := E.2.1
  simp only [F_X12_next_J58_2, ↓q_letE]
  obtain ⟨ρ, hρ⟩ : ∃ ρ, ρ = q_si τ a 16 (τ.1 a 15) := ⟨_, rfl⟩
  rw [← hρ]
  have ht2 : tkl (tn_S a) (tn_L a) σ ρ := by rw [hρ]; exact ht.si _ ⟨rfl, by decide, by decide⟩
  have hb2 : (ρ.1 a 15).toInt = b := by rw [hρ, si_f (by decide)]; exact hb
  have he2 : (ρ.1 a 16).toInt = b := by rw [hρ, si_eq]; exact hb
  have Eρ := E.kS ht2
  have lk := tm_look Eρ hb2 h0
  rw [Eρ.1, hb2]
  by_cases q : b < n
  · rw [if_pos q]
    rw [if_pos q] at lk
    have hB := (Eρ.2.2.2 b h0 q).2
    have il := tm_le (X := X) (σ := ρ) lk hB
    have id_ := tm_di (X := X) (σ := ρ) lk hB
    by_cases ql : tx_le (B b)
    · rw [if_pos (show 97 ≤ B b ∧ B b ≤ 122 from ql)] at il
      rw [il, if_neg (by decide)]
      obtain ⟨τ', a1, a2, a3, a4, a5, a6, a7, a8⟩ := tm_109 E h0 ((((q_sl (q_si ρ a 14 1) a 19 0).1 a 9).toInt - ((q_sl (q_si ρ a 14 1) a 19 0).1 a 16).toInt).toNat + 1) (q_sl (q_si ρ a 14 1) a 19 0) b (by rw [sl_i, si_f (by decide)]; exact he2) (by rw [sl_i, sl_i, si_f (by decide), si_f (by decide), Eρ.1, he2]; omega) (Int.le_refl _) h1 ((ht2.si _ ⟨rfl, by decide, by decide⟩).sl _ ⟨rfl, rfl⟩) (by rw [sl_i, si_f (by decide)]; exact hb2) (fun j j0 j1 => by omega) (fun _ => by rw [sl_eq, Int.sub_self]; rfl) (fun h => absurd h (by omega))
      rw [a1]
      have ty : (τ'.1 a 14).toInt = 1 := by rw [a5, sl_i, si_eq]; rfl
      exact ⟨a2, a3, Or.inr (Or.inl ⟨q, ql, ty, a4⟩), ⟨fun h => absurd h (by omega), fun _ => ⟨a6, a7, a8⟩⟩⟩
    · rw [if_neg (show ¬ (97 ≤ B b ∧ B b ≤ 122) from ql)] at il
      rw [il, if_pos rfl]
      by_cases qd : tx_di (B b)
      · rw [if_pos (show 48 ≤ B b ∧ B b ≤ 57 from qd)] at id_
        rw [id_, if_neg (by decide)]
        obtain ⟨τ', a1, a2, a3, a4, a5⟩ := tm_210 E h0 q qd ((((q_si ρ a 17 0).1 a 9).toInt - ((q_si ρ a 17 0).1 a 16).toInt).toNat + 1) (q_si ρ a 17 0) b (by rw [si_f (by decide)]; exact he2) (by rw [si_f (by decide), si_f (by decide), Eρ.1, he2]; omega) (Int.le_refl _) h1 (ht2.si _ ⟨rfl, by decide, by decide⟩) (by rw [si_f (by decide)]; exact hb2) (fun j j0 j1 => by omega) (fun _ => by rw [si_eq, Int.sub_self]; rfl) (by rw [Int.sub_self]; exact ⟨Int.le_refl 0, fun _ => (by decide : (0 : Int) < 10 ^ 0)⟩)
        rw [a1]
        refine ⟨a2, a3, Or.inr (Or.inr (Or.inl ⟨q, qd, a4, a5⟩)), ⟨fun h => ?_, fun h => ?_⟩⟩
        · rcases a5 with ⟨_, z⟩ | ⟨_, z, _⟩ <;> omega
        · rcases a5 with ⟨_, z⟩ | ⟨_, z, _⟩ <;> omega
      · rw [if_neg (show ¬ (48 ≤ B b ∧ B b ≤ 57) from qd)] at id_
        rw [id_, if_pos rfl]
        obtain ⟨r, hr⟩ : ∃ r, r = F_X12_look2 X ρ a (ρ.1 a 15) := ⟨_, rfl⟩
        rw [← hr] at lk ⊢
        have e1 : (ρ.1 a 15 + 1).toInt = b + 1 := by rw [y_inc (by omega), hb2]
        have fin : ∀ ty : Int32, (tx_sg (B b) ∧ ty.toInt = 3 ∨ ¬ tx_sg (B b) ∧ ty.toInt = 4) → tkl (tn_S a) (tn_L a) σ (q_si (q_si (q_si ρ a 16 (ρ.1 a 15 + 1)) a 17 r) a 14 ty) ∧ ((q_si (q_si (q_si ρ a 16 (ρ.1 a 15 + 1)) a 17 r) a 14 ty).1 a 15).toInt = b ∧ tx_cls B n b ((q_si (q_si (q_si ρ a 16 (ρ.1 a 15 + 1)) a 17 r) a 14 ty).1 a 16).toInt ((q_si (q_si (q_si ρ a 16 (ρ.1 a 15 + 1)) a 17 r) a 14 ty).1 a 14).toInt ((q_si (q_si (q_si ρ a 16 (ρ.1 a 15 + 1)) a 17 r) a 14 ty).1 a 17).toInt ∧ tm_ext B b ((q_si (q_si (q_si ρ a 16 (ρ.1 a 15 + 1)) a 17 r) a 14 ty).1 a 16).toInt ((q_si (q_si (q_si ρ a 16 (ρ.1 a 15 + 1)) a 17 r) a 14 ty).1 a 14).toInt ((q_si (q_si (q_si ρ a 16 (ρ.1 a 15 + 1)) a 17 r) a 14 ty).1 a 17).toInt ((q_si (q_si (q_si ρ a 16 (ρ.1 a 15 + 1)) a 17 r) a 14 ty).1 a 18).toInt ((q_si (q_si (q_si ρ a 16 (ρ.1 a 15 + 1)) a 17 r) a 14 ty).2.1 a 19).toInt := by
          intro ty hs
          have f16 : (q_si (q_si (q_si ρ a 16 (ρ.1 a 15 + 1)) a 17 r) a 14 ty).1 a 16 = ρ.1 a 15 + 1 := by rw [si_f (by decide), si_f (by decide), si_eq]
          have f17 : (q_si (q_si (q_si ρ a 16 (ρ.1 a 15 + 1)) a 17 r) a 14 ty).1 a 17 = r := by rw [si_f (by decide), si_eq]
          have f14 : (q_si (q_si (q_si ρ a 16 (ρ.1 a 15 + 1)) a 17 r) a 14 ty).1 a 14 = ty := si_eq _ _ _ _
          have f15 : (q_si (q_si (q_si ρ a 16 (ρ.1 a 15 + 1)) a 17 r) a 14 ty).1 a 15 = ρ.1 a 15 := by rw [si_f (by decide), si_f (by decide), si_f (by decide)]
          rw [f16, f17, f14, f15, e1]
          refine ⟨((ht2.si _ ⟨rfl, by decide, by decide⟩).si _ ⟨rfl, by decide, by decide⟩).si _ ⟨rfl, by decide, by decide⟩, hb2, Or.inr (Or.inr (Or.inr ⟨q, ql, qd, rfl, hs⟩)), fun h => ?_, fun h => ?_⟩
          · rcases hs with ⟨h1, _⟩ | ⟨_, h2⟩
            · unfold tx_sg at h1; omega
            · omega
          · rcases hs with ⟨_, h2⟩ | ⟨_, h2⟩ <;> omega
        have sb : (F_X12_isSignByte X (q_si (q_si ρ a 16 (ρ.1 a 15 + 1)) a 17 r) a r).toInt = if B b = 59 ∨ B b = 60 ∨ B b = 62 ∨ B b = 61 then 1 else 0 := by
          simp only [F_X12_isSignByte]
          rw [lk]
          repeat' split
          all_goals first | rfl | omega
        rw [sb]
        by_cases qs : tx_sg (B b)
        · rw [if_pos (show B b = 59 ∨ B b = 60 ∨ B b = 62 ∨ B b = 61 from qs), if_neg (by decide)]
          exact fin 3 (Or.inl ⟨qs, rfl⟩)
        · rw [if_neg (show ¬ (B b = 59 ∨ B b = 60 ∨ B b = 62 ∨ B b = 61) from qs), if_pos rfl]
          exact fin 4 (Or.inr ⟨qs, rfl⟩)
  · rw [if_neg q]
    refine ⟨ht2.si _ ⟨rfl, by decide, by decide⟩, by rw [si_f (by decide)]; exact hb2, Or.inl ⟨by omega, by rw [si_eq]; rfl, by rw [si_f (by decide)]; exact he2⟩, fun h => ?_, fun h => ?_⟩
    · rw [si_eq] at h; exact absurd h (by decide)
    · rw [si_eq] at h; exact absurd h (by decide)
/-- the reference's next -/
theorem tm_next (E : tm_E X σ a n B) {p : Int} (hp : (σ.1 a 16).toInt = p) (h0 : 0 ≤ p ∧ p ≤ n) : tkl (tn_S a) (tn_L a) σ (F_X12_next X σ a) ∧ tx_tok B n p ((F_X12_next X σ a).1 a 15).toInt ((F_X12_next X σ a).1 a 16).toInt ((F_X12_next X σ a).1 a 14).toInt ((F_X12_next X σ a).1 a 17).toInt ∧ tm_ext B ((F_X12_next X σ a).1 a 15).toInt ((F_X12_next X σ a).1 a 16).toInt ((F_X12_next X σ a).1 a 14).toInt ((F_X12_next X σ a).1 a 17).toInt ((F_X12_next X σ a).1 a 18).toInt ((F_X12_next X σ a).2.1 a 19).toInt := by
  have E3 := E.2.1
  simp only [F_X12_next, ↓q_letE]
  obtain ⟨τ, hτ⟩ : ∃ τ, τ = q_si σ a 15 (σ.1 a 16) := ⟨_, rfl⟩
  rw [← hτ]
  have ht : tkl (tn_S a) (tn_L a) σ τ := by rw [hτ]; exact tkl.rf.si _ ⟨rfl, by decide, by decide⟩
  have hb : (τ.1 a 15).toInt = p := by rw [hτ, si_eq]; exact hp
  have h9 := (E.kS ht).1
  obtain ⟨k, hk⟩ : ∃ k, k = ((τ.1 a 9).toInt - (τ.1 a 15).toInt).toNat + 1 := ⟨_, rfl⟩
  rw [← hk]
  obtain ⟨τ', a1, a2, a3⟩ := tm_adv8 E k τ ht (by rw [hk, h9]; omega) (by omega) (by omega)
  rw [a1]
  rw [hb] at a3
  have hb2 : p ≤ (τ'.1 a 15).toInt := a3.1
  have hb3 : (τ'.1 a 15).toInt ≤ n := tx_run_le a3 h0.2
  obtain ⟨c1, c2, c3, c4⟩ := tm_J58 E a2 rfl (by omega) hb3
  refine ⟨c1, ?_⟩
  rw [c2]
  exact ⟨⟨a3, c3⟩, c4⟩
end TM
end
