section
set_option maxRecDepth 100000 in
set_option maxHeartbeats 4000000 in
theorem c_X12_bend (l : Launch) (X : XW) (σ : ST) (a : Nat) (v1 : Int32) (v2 : Int32) (v3 : Int32) (n : Int) (ha : q_kd X a = 12) (hG : m_G (m_c X σ a)) (hW : m_W (m_c X σ a) n) (hn : n ≤ 199000) : Met l yX12_bend (q_ws yX12_bend cX12_bend 4 (some .boolean)) (q_rm 2 46) (q_P X σ [.ref a, .int v1, .int v2, .int v3]) (q_Qi X 1 σ (fun (r : Int32) (σ' : ST) => (0 ≤ r.toInt ∧ r.toInt ≤ 1) ∧ (m_G (m_c X σ' a)) ∧ (m_W (m_c X σ' a) (n + 301)) ∧ (∀ j, 930 ≤ j → j < 3720 → m_c X σ' a j = m_c X σ a j) ∧ (r, σ') = F_X12_bend X σ a v1 v2 v3 ∧ q_ow [(12, 0), (12, 1), (34, 99)] [] X σ σ')) 0 0 (q_reg X) := by
  refine q_met 1 (by first | exact rfl | decide +kernel) rfl (Nat.le_of_ble_eq_true rfl) (fun p e s m below meth c E hml hr hlk hI ls hl => ?_)
  have hx := E.1
  have hb := E.2.1
  have hl : lv_has ls 4 [(0, .ref a), (1, .int v1), (2, .int v2), (3, .int v3)] := hl
  have gσ : m_G (m_c X σ a) := hG
  have wσ : m_W (m_c X σ a) n := hW
  have kqσ : ∀ j, 654 ≤ j → m_c X σ a j = m_c X σ a j := fun _ _ => rfl
  have fxσ : m_c X σ a = m_c X σ a := rfl
  have fr_σ : q_ow [(12, 0), (12, 1), (34, 99)] [] X σ σ := q_ow.rf
  have hh := hG.hd
  obtain ⟨out, hout⟩ : ∃ o, o = F_X12_bend X σ a v1 v2 v3 := ⟨_, rfl⟩
  have hF := hout.symm
  unfold F_X12_bend at hF
  refine lv_aload_n hx hb dX12_bend_0 rfl (lv_at hl 0 rfl) ?_
  refine lv_iconst (v := 0) hx hb dX12_bend_1 zki_0 ?_
  refine ps_X12_59_12 E hI ha (by decide) dX12_bend_2 (fun H locs σ_1 hσ_1 hI => ?_)
  replace hF := q_letX hF hσ_1
  have fr_σ_1 := fr_σ.si hσ_1 ha rfl
  have mcσ_1 := m_wo hσ_1 (m_ne ha (q_tk (f := 20) (k' := 34) hI ha rfl (by decide)) (by decide))
  have gσ_1 : m_G (m_c X σ_1 a) := m_G.ext (fun j _ _ => mcσ_1 j) gσ
  have wσ_1 : m_W (m_c X σ_1 a) n := m_W.ext (fun j _ _ => mcσ_1 j) wσ
  have kqσ_1 : ∀ j, 654 ≤ j → m_c X σ_1 a j = m_c X σ a j := fun j h => (mcσ_1 j).trans (kqσ j h)
  have fxσ_1 : m_c X σ_1 a = m_c X σ a := (funext mcσ_1).trans fxσ
  refine lv_aload_n hx hb dX12_bend_5 rfl (lv_at hl 0 rfl) ?_
  refine lv_iconst (v := 0) hx hb dX12_bend_6 zki_0 ?_
  refine ps_X12_62_12 E hI ha (by decide) dX12_bend_7 (fun H locs σ_2 hσ_2 hI => ?_)
  replace hF := q_letX hF hσ_2
  have fr_σ_2 := fr_σ_1.si hσ_2 ha rfl
  have mcσ_2 := m_wo hσ_2 (m_ne ha (q_tk (f := 20) (k' := 34) hI ha rfl (by decide)) (by decide))
  have gσ_2 : m_G (m_c X σ_2 a) := m_G.ext (fun j _ _ => mcσ_2 j) gσ_1
  have wσ_2 : m_W (m_c X σ_2 a) n := m_W.ext (fun j _ _ => mcσ_2 j) wσ_1
  have kqσ_2 : ∀ j, 654 ≤ j → m_c X σ_2 a j = m_c X σ a j := fun j h => (mcσ_2 j).trans (kqσ_1 j h)
  have fxσ_2 : m_c X σ_2 a = m_c X σ a := (funext mcσ_2).trans fxσ_1
  refine lv_aload_n hx hb dX12_bend_10 rfl (lv_at hl 0 rfl) ?_
  refine lv_iload_n hx hb dX12_bend_11 rfl (lv_at hl 1 rfl) ?_
  refine q_ci (q_rV11_1 (rest := []) E (hml.trans hl.1.symm) hI (c_X12_isPlayerAt l X σ_2 a v1 ha (by rw [fxσ_2]; exact hG)) kv_X12_290 ha ⟨Nat.le_of_ble_eq_true rfl, Nat.le_of_ble_eq_true rfl⟩ (Nat.le_of_ble_eq_true rfl) dX12_bend_12) hI (Nat.le_of_ble_eq_true rfl) (fun r_3 σ_4 H locs hpσ_4 hkσ_4 hI => ?_)
  have ahpσ_4 := hpσ_4.1
  have bhpσ_4 := hpσ_4.2.1
  have chpσ_4 := hpσ_4.2.2.1
  have dhpσ_4 := hpσ_4.2.2.2
  clear hpσ_4
  replace hI := q_Irw ahpσ_4 hI
  rw [fxσ_2] at chpσ_4
  replace hF := q_letX hF dhpσ_4
  refine q_if_ne (A := r_3.toInt) E rfl (tgt := 24) dX12_bend_15 (by decide) (fun c_5 => ?_) (fun c_5 => ?_)
  · skip
    replace hF := q_ifn hF c_5
    replace c_5 := q_ifOne bhpσ_4 c_5
    replace chpσ_4 := q_ifYes chpσ_4 c_5
    refine lv_iload_n hx hb dX12_bend_24 rfl (lv_at hl 2 rfl) ?_
    refine lv_i2l hx hb dX12_bend_25 rfl ?_
    refine lv_topl (fun y_6 ey_6 => ?_)
    replace hF := q_letX hF ey_6
    have ggy_6 := q_rng v2
    have iy_6 : y_6.toInt = v2.toInt := by rw [ey_6]; exact (q_i2l _).trans rfl
    refine lv_lconst (v := 0) hx hb dX12_bend_26 (by decide) ?_
    refine lv_ldc2 (v := 16) hx hb E.2.2.1 (E.2.2.2.1 _ (q_in_t8 (i := 224) (by first | rfl | decide +kernel) rfl)) dX12_bend_27 ?_
    have kc_7 : (0 : Int64).toInt = 0 := rfl
    have kc_8 : (16 : Int64).toInt = 16 := rfl
    refine q_ci (q_runS (As := [.long y_6, .long 0, .long 16]) (rest := []) E (hml.trans hl.1.symm) hI (c_X12_isIn l X σ_2 y_6 (0 : Int64) (16 : Int64)) ks_X12_94 rfl ⟨Nat.le_of_ble_eq_true rfl, Nat.le_of_ble_eq_true rfl⟩ ⟨Nat.le_refl _, Nat.le_refl _⟩ rfl (Nat.le_of_ble_eq_true rfl) dX12_bend_30) hI (Nat.le_of_ble_eq_true rfl) (fun r_9 σ_10 H locs hpσ_10 hkσ_10 hI => ?_)
    have ahpσ_10 := hpσ_10.1
    have bhpσ_10 := hpσ_10.2.1
    have chpσ_10 := hpσ_10.2.2.1
    have dhpσ_10 := hpσ_10.2.2.2
    clear hpσ_10
    replace hI := q_Irw ahpσ_10 hI
    replace hF := q_letX hF dhpσ_10
    refine q_if_eq (A := r_9.toInt) E rfl (tgt := 48) dX12_bend_33 (by decide) (fun c_11 => ?_) (fun c_11 => ?_)
    · skip
      replace hF := q_ifp hF c_11
      replace chpσ_10 := q_ifNo chpσ_10 c_11
      refine lv_aload_n hx hb dX12_bend_48 rfl (lv_at hl 0 rfl) ?_
      refine lv_iconst (v := 5) hx hb dX12_bend_49 zki_5 ?_
      have kc_12 : (5 : Int32).toInt = 5 := zt_5
      refine q_ci (q_rV11_1 (rest := []) E (hml.trans hl.1.symm) hI (c_X12_no l X σ_2 a (5 : Int32) ha) kv_X12_74 ha ⟨Nat.le_of_ble_eq_true rfl, Nat.le_of_ble_eq_true rfl⟩ (Nat.le_of_ble_eq_true rfl) dX12_bend_50) hI (Nat.le_of_ble_eq_true rfl) (fun r_13 σ_14 H locs hpσ_14 hkσ_14 hI => ?_)
      have ahpσ_14 := hpσ_14.1
      have bhpσ_14 := hpσ_14.2.1
      have chpσ_14 := hpσ_14.2.2.1
      have dhpσ_14 := hpσ_14.2.2.2
      clear hpσ_14
      have fr_σ_14 := fr_σ_2.call dhpσ_14 rfl rfl
      replace hF := q_biX hF chpσ_14
      have mcσ_14 := m_cK hkσ_14 hI.1 ha (by decide)
      have gσ_14 : m_G (m_c X σ_14 a) := m_G.ext (fun j _ _ => mcσ_14 j) gσ_2
      have wσ_14 : m_W (m_c X σ_14 a) n := m_W.ext (fun j _ _ => mcσ_14 j) wσ_2
      have kqσ_14 : ∀ j, 654 ≤ j → m_c X σ_14 a j = m_c X σ a j := fun j h => (mcσ_14 j).trans (kqσ_2 j h)
      have fxσ_14 : m_c X σ_14 a = m_c X σ a := (funext mcσ_14).trans fxσ_2
      exact q_retz E hr hlk hI ⟨by omega, by omega⟩ ⟨⟨by omega, by omega⟩, gσ_14, (by first | exact m_W.le vσ_14 (by omega) | exact m_W.le wσ_14 (by first | (clear hn gσ wσ hh gσ_1 wσ_1 gσ_2 wσ_2 ahpσ_4 bhpσ_4 dhpσ_4 c_5 chpσ_4 ggy_6 iy_6 kc_7 kc_8 ahpσ_10 bhpσ_10 dhpσ_10 c_11 chpσ_10 kc_12 ahpσ_14 bhpσ_14 chpσ_14 dhpσ_14 gσ_14 wσ_14; omega) | omega)), (fun j h0 h1 => kqσ_14 j (by first | (clear hn gσ wσ hh gσ_1 wσ_1 gσ_2 wσ_2 ahpσ_4 bhpσ_4 dhpσ_4 c_5 chpσ_4 ggy_6 iy_6 kc_7 kc_8 ahpσ_10 bhpσ_10 dhpσ_10 c_11 chpσ_10 kc_12 ahpσ_14 bhpσ_14 chpσ_14 dhpσ_14 gσ_14 wσ_14; omega) | omega)), (hF.trans hout), fr_σ_14⟩ dX12_bend_53
    · skip
      replace hF := q_ifn hF c_11
      replace c_11 := q_ifOne bhpσ_10 c_11
      replace chpσ_10 := q_ifYes chpσ_10 c_11
      refine lv_iload_n hx hb dX12_bend_36 rfl (lv_at hl 3 rfl) ?_
      refine lv_i2l hx hb dX12_bend_37 rfl ?_
      refine lv_topl (fun y_15 ey_15 => ?_)
      replace hF := q_letX hF ey_15
      have ggy_15 := q_rng v3
      have iy_15 : y_15.toInt = v3.toInt := by rw [ey_15]; exact (q_i2l _).trans rfl
      refine lv_lconst (v := 0) hx hb dX12_bend_38 (by decide) ?_
      refine lv_ldc2 (v := 16) hx hb E.2.2.1 (E.2.2.2.1 _ (q_in_t8 (i := 224) (by first | rfl | decide +kernel) rfl)) dX12_bend_39 ?_
      have kc_16 : (0 : Int64).toInt = 0 := rfl
      have kc_17 : (16 : Int64).toInt = 16 := rfl
      refine q_ci (q_runS (As := [.long y_15, .long 0, .long 16]) (rest := []) E (hml.trans hl.1.symm) hI (c_X12_isIn l X σ_2 y_15 (0 : Int64) (16 : Int64)) ks_X12_94 rfl ⟨Nat.le_of_ble_eq_true rfl, Nat.le_of_ble_eq_true rfl⟩ ⟨Nat.le_refl _, Nat.le_refl _⟩ rfl (Nat.le_of_ble_eq_true rfl) dX12_bend_42) hI (Nat.le_of_ble_eq_true rfl) (fun r_18 σ_19 H locs hpσ_19 hkσ_19 hI => ?_)
      have ahpσ_19 := hpσ_19.1
      have bhpσ_19 := hpσ_19.2.1
      have chpσ_19 := hpσ_19.2.2.1
      have dhpσ_19 := hpσ_19.2.2.2
      clear hpσ_19
      replace hI := q_Irw ahpσ_19 hI
      replace hF := q_letX hF dhpσ_19
      refine q_if_ne (A := r_18.toInt) E rfl (tgt := 54) dX12_bend_45 (by decide) (fun c_20 => ?_) (fun c_20 => ?_)
      · skip
        replace hF := q_ifn hF c_20
        replace c_20 := q_ifOne bhpσ_19 c_20
        replace chpσ_19 := q_ifYes chpσ_19 c_20
        refine lv_aload_n hx hb dX12_bend_54 rfl (lv_at hl 0 rfl) ?_
        refine gs_X12_35_12 E hI ha dX12_bend_55 ?_
        refine lv_bipush (v := 10) hx hb dX12_bend_58 zkb_10 ?_
        refine lv_iload_n hx hb dX12_bend_60 rfl (lv_at hl 1 rfl) ?_
        refine lv_iadd hx hb dX12_bend_61 ?_
        refine lv_topi (fun z_21 ez_21 => ?_)
        replace hF := q_letX hF ez_21
        have iz_21 := q_addI (A := 10) (B := v1.toInt) ez_21 (by decide) rfl (by first | (clear hn gσ wσ hh gσ_1 wσ_1 gσ_2 wσ_2 ahpσ_4 bhpσ_4 dhpσ_4 c_5 ggy_6 iy_6 kc_7 kc_8 ahpσ_10 bhpσ_10 dhpσ_10 c_11 chpσ_10 ggy_15 iy_15 kc_16 kc_17 ahpσ_19 bhpσ_19 dhpσ_19 c_20 chpσ_19; omega) | omega) (by first | (clear hn gσ wσ gσ_1 wσ_1 gσ_2 wσ_2 ahpσ_4 bhpσ_4 dhpσ_4 c_5 ggy_6 iy_6 kc_7 kc_8 ahpσ_10 bhpσ_10 dhpσ_10 c_11 chpσ_10 ggy_15 iy_15 kc_16 kc_17 ahpσ_19 bhpσ_19 dhpσ_19 c_20 chpσ_19; omega) | omega)
        refine lv_iload_n hx hb dX12_bend_62 rfl (lv_at hl 2 rfl) ?_
        refine q_iastN E hI (q_tk (k' := 34) hI ha rfl (Nat.succ_ne_zero _)) ⟨by decide, rfl⟩ (by first | (clear hn gσ wσ hh gσ_1 wσ_1 gσ_2 wσ_2 ahpσ_4 bhpσ_4 dhpσ_4 c_5 ggy_6 iy_6 kc_7 kc_8 ahpσ_10 bhpσ_10 dhpσ_10 c_11 chpσ_10 ggy_15 iy_15 kc_16 kc_17 ahpσ_19 bhpσ_19 dhpσ_19 c_20 chpσ_19; omega) | omega) (by rw [q_lnk (v := 4650) hI (q_tk (k' := 34) hI ha rfl (Nat.succ_ne_zero _)) rfl (by decide)]; omega) (show 1 < 2 by decide) (q_inU rfl) dX12_bend_63 (fun H locs σ_22 hσ_22 hI => ?_)
        replace hF := q_letX hF hσ_22
        have fr_σ_22 := fr_σ_2.si hσ_22 (q_tk (k' := 34) hI ha rfl (Nat.succ_ne_zero _)) rfl
        have mcσ_22 := m_wr (v := v2) (A := (10 + v1.toInt)) hσ_22 iz_21 (by first | (clear hn gσ wσ hh gσ_1 wσ_1 gσ_2 wσ_2 ahpσ_4 bhpσ_4 dhpσ_4 c_5 ggy_6 iy_6 kc_7 kc_8 ahpσ_10 bhpσ_10 dhpσ_10 c_11 chpσ_10 ggy_15 iy_15 kc_16 kc_17 ahpσ_19 bhpσ_19 dhpσ_19 c_20 chpσ_19; omega) | omega)
        have gσ_22 : m_G (m_c X σ_22 a) := m_G.wr gσ_2 mcσ_22 (by first | (clear hn gσ wσ gσ_1 wσ_1 gσ_2 wσ_2 ahpσ_4 bhpσ_4 dhpσ_4 c_5 kc_8 ahpσ_10 bhpσ_10 dhpσ_10 c_11 ggy_15 iy_15 kc_16 kc_17 ahpσ_19 bhpσ_19 dhpσ_19 c_20 chpσ_19; omega) | omega)
        have wσ_22 : m_W (m_c X σ_22 a) n := m_W.wr wσ_2 mcσ_22 (by first | (clear hn gσ wσ gσ_1 wσ_1 gσ_2 wσ_2 ahpσ_4 bhpσ_4 dhpσ_4 c_5 ggy_6 iy_6 kc_7 kc_8 ahpσ_10 bhpσ_10 dhpσ_10 c_11 chpσ_10 ggy_15 iy_15 kc_16 kc_17 ahpσ_19 bhpσ_19 dhpσ_19 c_20 chpσ_19 gσ_22; omega) | omega)
        have kqσ_22 : ∀ j, 654 ≤ j → m_c X σ_22 a j = m_c X σ a j := fun j h => by rw [mcσ_22 j (by first | (clear hn gσ wσ hh gσ_1 wσ_1 gσ_2 wσ_2 ahpσ_4 bhpσ_4 dhpσ_4 c_5 chpσ_4 ggy_6 iy_6 kc_7 kc_8 ahpσ_10 bhpσ_10 dhpσ_10 c_11 chpσ_10 ggy_15 iy_15 kc_16 kc_17 ahpσ_19 bhpσ_19 dhpσ_19 c_20 chpσ_19 iz_21 gσ_22 wσ_22; omega) | omega), if_neg (by first | (clear hn gσ wσ gσ_1 wσ_1 gσ_2 wσ_2 ahpσ_4 bhpσ_4 dhpσ_4 c_5 ggy_6 iy_6 kc_7 kc_8 ahpσ_10 bhpσ_10 dhpσ_10 c_11 chpσ_10 ggy_15 iy_15 kc_16 kc_17 ahpσ_19 bhpσ_19 dhpσ_19 c_20 chpσ_19 gσ_22 wσ_22; omega) | omega)] <;> exact kqσ_2 j h
        refine lv_aload_n hx hb dX12_bend_64 rfl (lv_at hl 0 rfl) ?_
        refine gs_X12_35_12 E hI ha dX12_bend_65 ?_
        refine lv_bipush (v := 16) hx hb dX12_bend_68 zkb_16 ?_
        refine lv_iload_n hx hb dX12_bend_70 rfl (lv_at hl 1 rfl) ?_
        refine lv_iadd hx hb dX12_bend_71 ?_
        refine lv_topi (fun z_23 ez_23 => ?_)
        replace hF := q_letX hF ez_23
        have iz_23 := q_addI (A := 16) (B := v1.toInt) ez_23 (by decide) rfl (by first | (clear hn gσ wσ hh gσ_1 wσ_1 gσ_2 wσ_2 ahpσ_4 bhpσ_4 dhpσ_4 c_5 ggy_6 iy_6 kc_7 kc_8 ahpσ_10 bhpσ_10 dhpσ_10 c_11 chpσ_10 ggy_15 iy_15 kc_16 kc_17 ahpσ_19 bhpσ_19 dhpσ_19 c_20 chpσ_19 gσ_22 wσ_22; omega) | omega) (by first | (clear hn gσ wσ gσ_1 wσ_1 gσ_2 wσ_2 ahpσ_4 bhpσ_4 dhpσ_4 c_5 ggy_6 iy_6 kc_7 kc_8 ahpσ_10 bhpσ_10 dhpσ_10 c_11 chpσ_10 ggy_15 iy_15 kc_16 kc_17 ahpσ_19 bhpσ_19 dhpσ_19 c_20 chpσ_19 gσ_22 wσ_22; omega) | omega)
        refine lv_iload_n hx hb dX12_bend_72 rfl (lv_at hl 3 rfl) ?_
        refine q_iastN E hI (q_tk (k' := 34) hI ha rfl (Nat.succ_ne_zero _)) ⟨by decide, rfl⟩ (by first | (clear hn gσ wσ hh gσ_1 wσ_1 gσ_2 wσ_2 ahpσ_4 bhpσ_4 dhpσ_4 c_5 ggy_6 iy_6 kc_7 kc_8 ahpσ_10 bhpσ_10 dhpσ_10 c_11 chpσ_10 ggy_15 iy_15 kc_16 kc_17 ahpσ_19 bhpσ_19 dhpσ_19 c_20 chpσ_19 gσ_22 wσ_22; omega) | omega) (by rw [q_lnk (v := 4650) hI (q_tk (k' := 34) hI ha rfl (Nat.succ_ne_zero _)) rfl (by decide)]; omega) (show 1 < 2 by decide) (q_inU rfl) dX12_bend_73 (fun H locs σ_24 hσ_24 hI => ?_)
        replace hF := q_letX hF hσ_24
        have fr_σ_24 := fr_σ_22.si hσ_24 (q_tk (k' := 34) hI ha rfl (Nat.succ_ne_zero _)) rfl
        have mcσ_24 := m_wr (v := v3) (A := (16 + v1.toInt)) hσ_24 iz_23 (by first | (clear hn gσ wσ hh gσ_1 wσ_1 gσ_2 wσ_2 ahpσ_4 bhpσ_4 dhpσ_4 c_5 ggy_6 iy_6 kc_7 kc_8 ahpσ_10 bhpσ_10 dhpσ_10 c_11 chpσ_10 ggy_15 iy_15 kc_16 kc_17 ahpσ_19 bhpσ_19 dhpσ_19 c_20 chpσ_19 gσ_22 wσ_22; omega) | omega)
        have gσ_24 : m_G (m_c X σ_24 a) := m_G.wr gσ_22 mcσ_24 (by first | (clear hn gσ wσ gσ_1 wσ_1 gσ_2 wσ_2 ahpσ_4 bhpσ_4 dhpσ_4 c_5 ggy_6 iy_6 ahpσ_10 bhpσ_10 dhpσ_10 c_11 chpσ_10 kc_16 kc_17 ahpσ_19 bhpσ_19 dhpσ_19 c_20 gσ_22 wσ_22; omega) | omega)
        have wσ_24 : m_W (m_c X σ_24 a) n := m_W.wr wσ_22 mcσ_24 (by first | (clear hn gσ wσ gσ_1 wσ_1 gσ_2 wσ_2 ahpσ_4 bhpσ_4 dhpσ_4 c_5 ggy_6 iy_6 kc_7 kc_8 ahpσ_10 bhpσ_10 dhpσ_10 c_11 chpσ_10 ggy_15 iy_15 kc_16 kc_17 ahpσ_19 bhpσ_19 dhpσ_19 c_20 chpσ_19 gσ_22 wσ_22 gσ_24; omega) | omega)
        have kqσ_24 : ∀ j, 654 ≤ j → m_c X σ_24 a j = m_c X σ a j := fun j h => by rw [mcσ_24 j (by first | (clear hn gσ wσ hh gσ_1 wσ_1 gσ_2 wσ_2 ahpσ_4 bhpσ_4 dhpσ_4 c_5 chpσ_4 ggy_6 iy_6 kc_7 kc_8 ahpσ_10 bhpσ_10 dhpσ_10 c_11 chpσ_10 ggy_15 iy_15 kc_16 kc_17 ahpσ_19 bhpσ_19 dhpσ_19 c_20 chpσ_19 iz_21 gσ_22 wσ_22 iz_23 gσ_24 wσ_24; omega) | omega), if_neg (by first | (clear hn gσ wσ gσ_1 wσ_1 gσ_2 wσ_2 ahpσ_4 bhpσ_4 dhpσ_4 c_5 ggy_6 iy_6 kc_7 kc_8 ahpσ_10 bhpσ_10 dhpσ_10 c_11 chpσ_10 ggy_15 iy_15 kc_16 kc_17 ahpσ_19 bhpσ_19 dhpσ_19 c_20 chpσ_19 gσ_22 wσ_22 gσ_24 wσ_24; omega) | omega)] <;> exact kqσ_22 j h
        refine lv_iconst (v := 1) hx hb dX12_bend_74 zki_1 ?_
        have hrv : (1 : Int32).toInt = 1 := zt_1
        exact q_retz E hr hlk hI ⟨by decide, by decide⟩ ⟨⟨by decide, by decide⟩, gσ_24, (by first | exact m_W.le vσ_24 (by omega) | exact m_W.le wσ_24 (by first | (clear hn gσ wσ hh gσ_1 wσ_1 gσ_2 wσ_2 ahpσ_4 bhpσ_4 dhpσ_4 c_5 chpσ_4 ggy_6 iy_6 kc_7 kc_8 ahpσ_10 bhpσ_10 dhpσ_10 c_11 chpσ_10 ggy_15 iy_15 kc_16 kc_17 ahpσ_19 bhpσ_19 dhpσ_19 c_20 chpσ_19 iz_21 gσ_22 wσ_22 iz_23 gσ_24 wσ_24 hrv; omega) | omega)), (fun j h0 h1 => kqσ_24 j (by first | (clear hn gσ wσ hh gσ_1 wσ_1 gσ_2 wσ_2 ahpσ_4 bhpσ_4 dhpσ_4 c_5 chpσ_4 ggy_6 iy_6 kc_7 kc_8 ahpσ_10 bhpσ_10 dhpσ_10 c_11 chpσ_10 ggy_15 iy_15 kc_16 kc_17 ahpσ_19 bhpσ_19 dhpσ_19 c_20 chpσ_19 iz_21 gσ_22 wσ_22 iz_23 gσ_24 wσ_24 hrv; omega) | omega)), (hF.trans hout), fr_σ_24⟩ dX12_bend_75
      · skip
        replace hF := q_ifp hF c_20
        replace chpσ_19 := q_ifNo chpσ_19 c_20
        refine lv_aload_n hx hb dX12_bend_48 rfl (lv_at hl 0 rfl) ?_
        refine lv_iconst (v := 5) hx hb dX12_bend_49 zki_5 ?_
        have kc_25 : (5 : Int32).toInt = 5 := zt_5
        refine q_ci (q_rV11_1 (rest := []) E (hml.trans hl.1.symm) hI (c_X12_no l X σ_2 a (5 : Int32) ha) kv_X12_74 ha ⟨Nat.le_of_ble_eq_true rfl, Nat.le_of_ble_eq_true rfl⟩ (Nat.le_of_ble_eq_true rfl) dX12_bend_50) hI (Nat.le_of_ble_eq_true rfl) (fun r_26 σ_27 H locs hpσ_27 hkσ_27 hI => ?_)
        have ahpσ_27 := hpσ_27.1
        have bhpσ_27 := hpσ_27.2.1
        have chpσ_27 := hpσ_27.2.2.1
        have dhpσ_27 := hpσ_27.2.2.2
        clear hpσ_27
        have fr_σ_27 := fr_σ_2.call dhpσ_27 rfl rfl
        replace hF := q_biX hF chpσ_27
        have mcσ_27 := m_cK hkσ_27 hI.1 ha (by decide)
        have gσ_27 : m_G (m_c X σ_27 a) := m_G.ext (fun j _ _ => mcσ_27 j) gσ_2
        have wσ_27 : m_W (m_c X σ_27 a) n := m_W.ext (fun j _ _ => mcσ_27 j) wσ_2
        have kqσ_27 : ∀ j, 654 ≤ j → m_c X σ_27 a j = m_c X σ a j := fun j h => (mcσ_27 j).trans (kqσ_2 j h)
        have fxσ_27 : m_c X σ_27 a = m_c X σ a := (funext mcσ_27).trans fxσ_2
        exact q_retz E hr hlk hI ⟨by omega, by omega⟩ ⟨⟨by omega, by omega⟩, gσ_27, (by first | exact m_W.le vσ_27 (by omega) | exact m_W.le wσ_27 (by first | (clear hn gσ wσ hh gσ_1 wσ_1 gσ_2 wσ_2 ahpσ_4 bhpσ_4 dhpσ_4 c_5 chpσ_4 ggy_6 iy_6 kc_7 kc_8 ahpσ_10 bhpσ_10 dhpσ_10 c_11 chpσ_10 ggy_15 iy_15 kc_16 kc_17 ahpσ_19 bhpσ_19 dhpσ_19 c_20 chpσ_19 kc_25 ahpσ_27 bhpσ_27 chpσ_27 dhpσ_27 gσ_27 wσ_27; omega) | omega)), (fun j h0 h1 => kqσ_27 j (by first | (clear hn gσ wσ hh gσ_1 wσ_1 gσ_2 wσ_2 ahpσ_4 bhpσ_4 dhpσ_4 c_5 chpσ_4 ggy_6 iy_6 kc_7 kc_8 ahpσ_10 bhpσ_10 dhpσ_10 c_11 chpσ_10 ggy_15 iy_15 kc_16 kc_17 ahpσ_19 bhpσ_19 dhpσ_19 c_20 chpσ_19 kc_25 ahpσ_27 bhpσ_27 chpσ_27 dhpσ_27 gσ_27 wσ_27; omega) | omega)), (hF.trans hout), fr_σ_27⟩ dX12_bend_53
  · skip
    replace hF := q_ifp hF c_5
    replace chpσ_4 := q_ifNo chpσ_4 c_5
    refine lv_aload_n hx hb dX12_bend_18 rfl (lv_at hl 0 rfl) ?_
    refine lv_iconst (v := 2) hx hb dX12_bend_19 zki_2 ?_
    have kc_28 : (2 : Int32).toInt = 2 := zt_2
    refine q_ci (q_rV11_1 (rest := []) E (hml.trans hl.1.symm) hI (c_X12_no l X σ_2 a (2 : Int32) ha) kv_X12_74 ha ⟨Nat.le_of_ble_eq_true rfl, Nat.le_of_ble_eq_true rfl⟩ (Nat.le_of_ble_eq_true rfl) dX12_bend_20) hI (Nat.le_of_ble_eq_true rfl) (fun r_29 σ_30 H locs hpσ_30 hkσ_30 hI => ?_)
    have ahpσ_30 := hpσ_30.1
    have bhpσ_30 := hpσ_30.2.1
    have chpσ_30 := hpσ_30.2.2.1
    have dhpσ_30 := hpσ_30.2.2.2
    clear hpσ_30
    have fr_σ_30 := fr_σ_2.call dhpσ_30 rfl rfl
    replace hF := q_biX hF chpσ_30
    have mcσ_30 := m_cK hkσ_30 hI.1 ha (by decide)
    have gσ_30 : m_G (m_c X σ_30 a) := m_G.ext (fun j _ _ => mcσ_30 j) gσ_2
    have wσ_30 : m_W (m_c X σ_30 a) n := m_W.ext (fun j _ _ => mcσ_30 j) wσ_2
    have kqσ_30 : ∀ j, 654 ≤ j → m_c X σ_30 a j = m_c X σ a j := fun j h => (mcσ_30 j).trans (kqσ_2 j h)
    have fxσ_30 : m_c X σ_30 a = m_c X σ a := (funext mcσ_30).trans fxσ_2
    exact q_retz E hr hlk hI ⟨by omega, by omega⟩ ⟨⟨by omega, by omega⟩, gσ_30, (by first | exact m_W.le vσ_30 (by omega) | exact m_W.le wσ_30 (by first | (clear hn gσ wσ hh gσ_1 wσ_1 gσ_2 wσ_2 ahpσ_4 bhpσ_4 dhpσ_4 c_5 chpσ_4 kc_28 ahpσ_30 bhpσ_30 chpσ_30 dhpσ_30 gσ_30 wσ_30; omega) | omega)), (fun j h0 h1 => kqσ_30 j (by first | (clear hn gσ wσ hh gσ_1 wσ_1 gσ_2 wσ_2 ahpσ_4 bhpσ_4 dhpσ_4 c_5 chpσ_4 kc_28 ahpσ_30 bhpσ_30 chpσ_30 dhpσ_30 gσ_30 wσ_30; omega) | omega)), (hF.trans hout), fr_σ_30⟩ dX12_bend_23
end
