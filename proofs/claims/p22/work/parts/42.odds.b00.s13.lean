section
set_option maxRecDepth 100000 in
set_option maxHeartbeats 4000000 in
theorem c_X12_belief (l : Launch) (X : XW) (σ : ST) (a : Nat) (v1 : Int32) (n : Int) (ha : q_kd X a = 12) (hG : m_G (m_c X σ a)) (hW : m_W (m_c X σ a) n) (hn : n ≤ 200000) : Met l yX12_belief (q_ws yX12_belief cX12_belief 7 (some .boolean)) (q_rm 6 136) (q_P X σ [.ref a, .int v1]) (q_Qi X 8 σ (fun (r : Int32) (σ' : ST) => (0 ≤ r.toInt ∧ r.toInt ≤ 1) ∧ (r, σ') = F_X12_belief X σ a v1 ∧ q_ow [(12, 0), (12, 1)] [(12, 2), (12, 3), (12, 30), (12, 31)] X σ σ')) 0 0 (q_reg X) := by
  refine q_met 8 (by first | exact rfl | decide +kernel) rfl (Nat.le_of_ble_eq_true rfl) (fun p e s m below meth c E hml hr hlk hI ls hl => ?_)
  have hx := E.1
  have hb := E.2.1
  have hl : lv_has ls 7 [(0, .ref a), (1, .int v1)] := hl
  have feσ : m_c X σ a = m_c X σ a := rfl
  have fr_σ : q_ow [(12, 0), (12, 1)] [(12, 2), (12, 3), (12, 30), (12, 31)] X σ σ := q_ow.rf
  have hh := hG.hd
  obtain ⟨out, hout⟩ : ∃ o, o = F_X12_belief X σ a v1 := ⟨_, rfl⟩
  have hF := hout.symm
  unfold F_X12_belief at hF
  refine lv_aload_n hx hb dX12_belief_0 rfl (lv_at hl 0 rfl) ?_
  refine lv_iconst (v := 0) hx hb dX12_belief_1 zki_0 ?_
  refine ps_X12_59_12 E hI ha (by decide) dX12_belief_2 (fun H locs σ_1 hσ_1 hI => ?_)
  replace hF := q_letX hF hσ_1
  have fr_σ_1 := fr_σ.si hσ_1 ha rfl
  have mv0_σ_1 : (σ_1.1 a 0).toInt = (σ.1 a 0).toInt := congrArg Int32.toInt (q_rdn hσ_1 (Or.inr (by decide)))
  have mcσ_1 := m_wo hσ_1 (m_ne ha (q_tk (f := 20) (k' := 34) hI ha rfl (by decide)) (by decide))
  have feσ_1 : m_c X σ_1 a = m_c X σ a := (funext mcσ_1).trans feσ
  refine lv_aload_n hx hb dX12_belief_5 rfl (lv_at hl 0 rfl) ?_
  refine lv_aload_n hx hb dX12_belief_6 rfl (lv_at hl 0 rfl) ?_
  refine lv_iload_n hx hb dX12_belief_7 rfl (lv_at hl 1 rfl) ?_
  refine q_ci (q_rV11_1 (rest := [.ref a]) E (hml.trans hl.1.symm) hI (c_X12_whyNot l X σ_1 a v1 ha (by rw [feσ_1]; exact hG)) kv_X12_352 ha ⟨Nat.le_of_ble_eq_true rfl, Nat.le_of_ble_eq_true rfl⟩ (Nat.le_of_ble_eq_true rfl) dX12_belief_8) hI (Nat.le_of_ble_eq_true rfl) (fun r_2 σ_3 H locs hpσ_3 hkσ_3 hI => ?_)
  have ahpσ_3 := hpσ_3.1
  have bhpσ_3 := hpσ_3.2.1
  have chpσ_3 := hpσ_3.2.2.1
  have dhpσ_3 := hpσ_3.2.2.2
  clear hpσ_3
  replace hI := q_Irw ahpσ_3 hI
  rw [feσ_1] at chpσ_3
  replace hF := q_letX hF dhpσ_3
  refine ps_X12_62_12 E hI ha (by decide) dX12_belief_11 (fun H locs σ_4 hσ_4 hI => ?_)
  replace hF := q_letX hF hσ_4
  have fr_σ_4 := fr_σ_1.si hσ_4 ha rfl
  have mv0_σ_4 : (σ_4.1 a 0).toInt = r_2.toInt := congrArg Int32.toInt (q_rd hσ_4)
  have mcσ_4 := m_wo hσ_4 (m_ne ha (q_tk (f := 20) (k' := 34) hI ha rfl (by decide)) (by decide))
  have feσ_4 : m_c X σ_4 a = m_c X σ a := (funext mcσ_4).trans feσ_1
  refine lv_aload_n hx hb dX12_belief_14 rfl (lv_at hl 0 rfl) ?_
  refine gs_X12_62_12 E hI ha dX12_belief_15 ?_
  refine lv_topi (fun f_5 ef_5 => ?_)
  replace hF := q_letX hF ef_5
  have if_5 : f_5.toInt = (σ_4.1 a 0).toInt := congrArg Int32.toInt ef_5
  refine q_if_le (A := f_5.toInt) E rfl (tgt := 23) dX12_belief_18 (by decide) (fun c_6 => ?_) (fun c_6 => ?_)
  · skip
    replace hF := q_ifn hF (Int.not_lt.mpr c_6)
    refine lv_aload_n hx hb dX12_belief_23 rfl (lv_at hl 0 rfl) ?_
    refine lv_iload_n hx hb dX12_belief_24 rfl (lv_at hl 1 rfl) ?_
    refine q_cv (q_rV11_1 (rest := []) E (hml.trans hl.1.symm) hI (c_X12_blinds l X σ_4 a v1 ha (by rw [feσ_4]; exact hG) (by rw [feσ_4]; exact (by first | (clear hn hh mv0_σ_1 ahpσ_3 dhpσ_3; omega) | omega)) (by rw [feσ_4]; exact (by first | (clear hn mv0_σ_1 ahpσ_3 dhpσ_3; omega) | omega)) (by rw [feσ_4]; exact (by first | (clear hn hh mv0_σ_1 ahpσ_3 dhpσ_3; omega) | omega))) kv_X12_358 ha ⟨Nat.le_of_ble_eq_true rfl, Nat.le_of_ble_eq_true rfl⟩ (Nat.le_of_ble_eq_true rfl) dX12_belief_25) hI (Nat.le_of_ble_eq_true rfl) (fun σ_8 H locs hpσ_8 hkσ_8 hI => ?_)
    have ahpσ_8 := hpσ_8.1
    have bhpσ_8 := hpσ_8.2.1
    have chpσ_8 := hpσ_8.2.2
    clear hpσ_8
    have fr_σ_8 := fr_σ_4.call chpσ_8 rfl rfl
    replace hF := q_letX hF bhpσ_8
    have mcσ_8 := m_cK hkσ_8 hI.1 ha (by decide)
    have feσ_8 : m_c X σ_8 a = m_c X σ a := (funext mcσ_8).trans feσ_4
    have hw := hW (m_c X σ a 6) (by first | (clear hn mv0_σ_1 ahpσ_3 dhpσ_3 ahpσ_8 bhpσ_8 chpσ_8; omega) | omega) (by first | (clear hn mv0_σ_1 ahpσ_3 bhpσ_3 chpσ_3 dhpσ_3 mv0_σ_4 if_5 c_6 ahpσ_8 bhpσ_8 chpσ_8; omega) | omega)
    refine lv_aload_n hx hb dX12_belief_28 rfl (lv_at hl 0 rfl) ?_
    refine gs_X12_35_12 E hI ha dX12_belief_29 ?_
    refine lv_bipush (v := 6) hx hb dX12_belief_32 zkb_6 ?_
    refine q_iald E hI (q_tk (k' := 34) hI ha rfl (Nat.succ_ne_zero _)) ⟨by decide, rfl⟩ (by decide) (by rw [q_lnk (v := 4650) hI (q_tk (k' := 34) hI ha rfl (Nat.succ_ne_zero _)) rfl (by decide)]; decide) dX12_belief_34 ?_
    refine lv_topi (fun f_9 ef_9 => ?_)
    replace hF := q_letX hF ef_9
    have if_9 : f_9.toInt = m_c X σ a 6 := (m_rd ef_9 (by decide)).trans (congrFun feσ_8 _)
    refine lv_istore_n (lv' := [(2, .int f_9), (0, .ref a), (1, .int v1)]) hx hb dX12_belief_35 rfl hl (by decide) rfl (fun ls hl => ?_)
    refine lv_aload_n hx hb dX12_belief_36 rfl (lv_at hl 1 rfl) ?_
    refine gs_X12_346_12 E hI ha dX12_belief_37 ?_
    refine lv_topl (fun g_10 eg_10 => ?_)
    replace hF := q_letX hF eg_10
    have ig_10 : g_10.toInt = (σ_8.2.1 a 30).toInt := congrArg Int64.toInt eg_10
    refine lv_aload_n hx hb dX12_belief_40 rfl (lv_at hl 1 rfl) ?_
    refine gs_X12_35_12 E hI ha dX12_belief_41 ?_
    refine lv_bipush (v := 22) hx hb dX12_belief_44 zkb_22 ?_
    refine lv_iload_n hx hb dX12_belief_46 rfl (lv_at hl 0 rfl) ?_
    refine lv_iadd hx hb dX12_belief_47 ?_
    refine lv_topi (fun z_11 ez_11 => ?_)
    replace hF := q_letX hF ez_11
    have iz_11 := q_addI (A := 22) (B := (m_c X σ a 6)) ez_11 (by decide) if_9 (by first | (clear hn mv0_σ_1 ahpσ_3 bhpσ_3 chpσ_3 dhpσ_3 mv0_σ_4 if_5 c_6 ahpσ_8 bhpσ_8 chpσ_8 hw ig_10; omega) | omega) (by first | (clear hn mv0_σ_1 ahpσ_3 bhpσ_3 chpσ_3 dhpσ_3 mv0_σ_4 if_5 c_6 ahpσ_8 bhpσ_8 chpσ_8 hw ig_10; omega) | omega)
    refine q_iald E hI (q_tk (k' := 34) hI ha rfl (Nat.succ_ne_zero _)) ⟨by decide, rfl⟩ (by first | (clear hn mv0_σ_1 ahpσ_3 bhpσ_3 chpσ_3 dhpσ_3 mv0_σ_4 if_5 c_6 ahpσ_8 bhpσ_8 chpσ_8 hw ig_10; omega) | omega) (by rw [q_lnk (v := 4650) hI (q_tk (k' := 34) hI ha rfl (Nat.succ_ne_zero _)) rfl (by decide)]; omega) dX12_belief_48 ?_
    refine lv_topi (fun f_12 ef_12 => ?_)
    replace hF := q_letX hF ef_12
    have if_12 : f_12.toInt = m_c X σ a (22 + (m_c X σ a 6)) := (m_rd ef_12 iz_11).trans (congrFun feσ_8 _)
    refine lv_aload_n hx hb dX12_belief_49 rfl (lv_at hl 1 rfl) ?_
    refine gs_X12_35_12 E hI ha dX12_belief_50 ?_
    refine lv_bipush (v := 28) hx hb dX12_belief_53 zkb_28 ?_
    refine lv_iload_n hx hb dX12_belief_55 rfl (lv_at hl 0 rfl) ?_
    refine lv_iadd hx hb dX12_belief_56 ?_
    refine lv_topi (fun z_13 ez_13 => ?_)
    replace hF := q_letX hF ez_13
    have iz_13 := q_addI (A := 28) (B := (m_c X σ a 6)) ez_13 (by decide) if_9 (by first | (clear hn mv0_σ_1 ahpσ_3 bhpσ_3 chpσ_3 dhpσ_3 mv0_σ_4 if_5 c_6 ahpσ_8 bhpσ_8 chpσ_8 hw ig_10 if_12; omega) | omega) (by first | (clear hn mv0_σ_1 ahpσ_3 bhpσ_3 chpσ_3 dhpσ_3 mv0_σ_4 if_5 c_6 ahpσ_8 bhpσ_8 chpσ_8 hw ig_10 if_12; omega) | omega)
    refine q_iald E hI (q_tk (k' := 34) hI ha rfl (Nat.succ_ne_zero _)) ⟨by decide, rfl⟩ (by first | (clear hn mv0_σ_1 ahpσ_3 bhpσ_3 chpσ_3 dhpσ_3 mv0_σ_4 if_5 c_6 ahpσ_8 bhpσ_8 chpσ_8 hw ig_10 if_12; omega) | omega) (by rw [q_lnk (v := 4650) hI (q_tk (k' := 34) hI ha rfl (Nat.succ_ne_zero _)) rfl (by decide)]; omega) dX12_belief_57 ?_
    refine lv_topi (fun f_14 ef_14 => ?_)
    replace hF := q_letX hF ef_14
    have if_14 : f_14.toInt = m_c X σ a (28 + (m_c X σ a 6)) := (m_rd ef_14 iz_13).trans (congrFun feσ_8 _)
    refine lv_isub hx hb dX12_belief_58 ?_
    refine lv_topi (fun z_15 ez_15 => ?_)
    replace hF := q_letX hF ez_15
    have iz_15 := q_subI (A := (m_c X σ a (22 + (m_c X σ a 6)))) (B := (m_c X σ a (28 + (m_c X σ a 6)))) ez_15 if_12 if_14 (by first | (clear hn hh mv0_σ_1 ahpσ_3 bhpσ_3 chpσ_3 dhpσ_3 mv0_σ_4 if_5 c_6 ahpσ_8 bhpσ_8 chpσ_8 if_9 ig_10 iz_11 iz_13; omega) | omega) (by first | (clear hh mv0_σ_1 ahpσ_3 bhpσ_3 chpσ_3 dhpσ_3 mv0_σ_4 if_5 c_6 ahpσ_8 bhpσ_8 chpσ_8 if_9 ig_10 iz_11 iz_13; omega) | omega)
    refine lv_iconst (v := 1) hx hb dX12_belief_59 zki_1 ?_
    refine lv_iadd hx hb dX12_belief_60 ?_
    refine lv_topi (fun z_16 ez_16 => ?_)
    replace hF := q_letX hF ez_16
    have iz_16 := q_addI (A := ((m_c X σ a (22 + (m_c X σ a 6))) - (m_c X σ a (28 + (m_c X σ a 6))))) (B := 1) ez_16 iz_15 (by decide) (by first | (clear hn hh mv0_σ_1 ahpσ_3 bhpσ_3 chpσ_3 dhpσ_3 mv0_σ_4 if_5 c_6 ahpσ_8 bhpσ_8 chpσ_8 if_9 ig_10 iz_11 iz_13; omega) | omega) (by first | (clear hh mv0_σ_1 ahpσ_3 bhpσ_3 chpσ_3 dhpσ_3 mv0_σ_4 if_5 c_6 ahpσ_8 bhpσ_8 chpσ_8 if_9 ig_10 iz_11 iz_13; omega) | omega)
    refine lv_i2l hx hb dX12_belief_61 rfl ?_
    refine lv_topl (fun y_17 ey_17 => ?_)
    replace hF := q_letX hF ey_17
    have ggy_17 := q_rng z_16
    have iy_17 : y_17.toInt = z_16.toInt := by rw [ey_17]; exact (q_i2l _).trans rfl
    have mb := m_mulS (a := g_10.toInt) (A := 409600000000) (b := y_17.toInt) (B := 200001) (by first | (clear hn hh mv0_σ_1 ahpσ_3 bhpσ_3 chpσ_3 dhpσ_3 mv0_σ_4 if_5 c_6 bhpσ_8 chpσ_8 hw if_9 iz_11 if_12 iz_13 if_14 iz_15 iz_16 ggy_17 iy_17; omega) | omega) (by first | (clear hn hh mv0_σ_1 ahpσ_3 bhpσ_3 chpσ_3 dhpσ_3 mv0_σ_4 if_5 c_6 bhpσ_8 chpσ_8 hw if_9 iz_11 if_12 iz_13 if_14 iz_15 iz_16 ggy_17 iy_17; omega) | omega) (by first | (clear hn hh mv0_σ_1 ahpσ_3 bhpσ_3 chpσ_3 dhpσ_3 mv0_σ_4 if_5 c_6 ahpσ_8 bhpσ_8 chpσ_8 if_9 ig_10 iz_11 iz_13; omega) | omega) (by first | (clear hh mv0_σ_1 ahpσ_3 bhpσ_3 chpσ_3 dhpσ_3 mv0_σ_4 if_5 c_6 ahpσ_8 bhpσ_8 chpσ_8 if_9 ig_10 iz_11 iz_13; omega) | omega)
    refine lv_lmul hx hb dX12_belief_62 ?_
    refine lv_topl (fun y_18 ey_18 => ?_)
    replace hF := q_letX hF ey_18
    have iy_18 := q_mulJ (A := g_10.toInt) (B := y_17.toInt) ey_18 rfl rfl (by first | (clear hn hh mv0_σ_1 ahpσ_3 bhpσ_3 chpσ_3 dhpσ_3 mv0_σ_4 if_5 c_6 ahpσ_8 bhpσ_8 chpσ_8 hw if_9 ig_10 iz_11 if_12 iz_13 if_14 iz_15 iz_16 ggy_17 iy_17; omega) | omega) (by first | (clear hn hh mv0_σ_1 ahpσ_3 bhpσ_3 chpσ_3 dhpσ_3 mv0_σ_4 if_5 c_6 ahpσ_8 bhpσ_8 chpσ_8 hw if_9 ig_10 iz_11 if_12 iz_13 if_14 iz_15 iz_16 ggy_17 iy_17; omega) | omega)
    refine lv_lstore_n (lv' := [(3, .long y_18), (2, .int f_9), (0, .ref a), (1, .int v1)]) hx hb dX12_belief_63 rfl hl (by decide) rfl (fun ls hl => ?_)
    refine lv_aload_n hx hb dX12_belief_64 rfl (lv_at hl 2 rfl) ?_
    refine gs_X12_349_12 E hI ha dX12_belief_65 ?_
    refine lv_topl (fun g_19 eg_19 => ?_)
    replace hF := q_letX hF eg_19
    have ig_19 : g_19.toInt = (σ_8.2.1 a 31).toInt := congrArg Int64.toInt eg_19
    refine lv_aload_n hx hb dX12_belief_68 rfl (lv_at hl 2 rfl) ?_
    refine gs_X12_346_12 E hI ha dX12_belief_69 ?_
    refine lv_topl (fun g_20 eg_20 => ?_)
    replace hF := q_letX hF eg_20
    have ig_20 : g_20.toInt = (σ_8.2.1 a 30).toInt := congrArg Int64.toInt eg_20
    refine lv_lsub hx hb dX12_belief_72 ?_
    refine lv_topl (fun y_21 ey_21 => ?_)
    replace hF := q_letX hF ey_21
    have iy_21 := q_subJ (A := g_19.toInt) (B := g_20.toInt) ey_21 rfl rfl (by first | (clear hn hh mv0_σ_1 ahpσ_3 bhpσ_3 chpσ_3 dhpσ_3 mv0_σ_4 if_5 c_6 bhpσ_8 chpσ_8 hw if_9 iz_11 if_12 iz_13 if_14 iz_15 iz_16 ggy_17 iy_17 mb iy_18; omega) | omega) (by first | (clear hn hh mv0_σ_1 ahpσ_3 bhpσ_3 chpσ_3 dhpσ_3 mv0_σ_4 if_5 c_6 bhpσ_8 chpσ_8 hw if_9 iz_11 if_12 iz_13 if_14 iz_15 iz_16 ggy_17 iy_17 mb iy_18; omega) | omega)
    refine lv_aload_n hx hb dX12_belief_73 rfl (lv_at hl 2 rfl) ?_
    refine gs_X12_35_12 E hI ha dX12_belief_74 ?_
    refine lv_bipush (v := 28) hx hb dX12_belief_77 zkb_28 ?_
    refine lv_iload_n hx hb dX12_belief_79 rfl (lv_at hl 1 rfl) ?_
    refine lv_iadd hx hb dX12_belief_80 ?_
    refine lv_topi (fun z_22 ez_22 => ?_)
    replace hF := q_letX hF ez_22
    have iz_22 := q_addI (A := 28) (B := (m_c X σ a 6)) ez_22 (by decide) if_9 (by first | (clear hn mv0_σ_1 ahpσ_3 bhpσ_3 chpσ_3 dhpσ_3 mv0_σ_4 if_5 c_6 ahpσ_8 bhpσ_8 chpσ_8 hw ig_10 if_12 if_14 iz_15 iz_16 ggy_17 iy_17 mb iy_18 ig_19 ig_20 iy_21; omega) | omega) (by first | (clear hn mv0_σ_1 ahpσ_3 bhpσ_3 chpσ_3 dhpσ_3 mv0_σ_4 if_5 c_6 ahpσ_8 bhpσ_8 chpσ_8 hw ig_10 if_12 if_14 iz_15 iz_16 ggy_17 iy_17 mb iy_18 ig_19 ig_20 iy_21; omega) | omega)
    refine q_iald E hI (q_tk (k' := 34) hI ha rfl (Nat.succ_ne_zero _)) ⟨by decide, rfl⟩ (by first | (clear hn mv0_σ_1 ahpσ_3 bhpσ_3 chpσ_3 dhpσ_3 mv0_σ_4 if_5 c_6 ahpσ_8 bhpσ_8 chpσ_8 hw ig_10 if_12 if_14 iz_15 iz_16 ggy_17 iy_17 mb iy_18 ig_19 ig_20 iy_21; omega) | omega) (by rw [q_lnk (v := 4650) hI (q_tk (k' := 34) hI ha rfl (Nat.succ_ne_zero _)) rfl (by decide)]; omega) dX12_belief_81 ?_
    refine lv_topi (fun f_23 ef_23 => ?_)
    replace hF := q_letX hF ef_23
    have if_23 : f_23.toInt = m_c X σ a (28 + (m_c X σ a 6)) := (m_rd ef_23 iz_22).trans (congrFun feσ_8 _)
    refine lv_iconst (v := 1) hx hb dX12_belief_82 zki_1 ?_
    refine lv_iadd hx hb dX12_belief_83 ?_
    refine lv_topi (fun z_24 ez_24 => ?_)
    replace hF := q_letX hF ez_24
    have iz_24 := q_addI (A := (m_c X σ a (28 + (m_c X σ a 6)))) (B := 1) ez_24 if_23 (by decide) (by first | (clear hn hh mv0_σ_1 ahpσ_3 bhpσ_3 chpσ_3 dhpσ_3 mv0_σ_4 if_5 c_6 ahpσ_8 bhpσ_8 chpσ_8 if_9 ig_10 iz_11 if_12 iz_13 iz_15 iz_16 ggy_17 iy_17 mb iy_18 ig_19 ig_20 iy_21 iz_22; omega) | omega) (by first | (clear hh mv0_σ_1 ahpσ_3 bhpσ_3 chpσ_3 dhpσ_3 mv0_σ_4 if_5 c_6 ahpσ_8 bhpσ_8 chpσ_8 if_9 ig_10 iz_11 iz_13 mb iy_18 ig_19 ig_20 iy_21 iz_22; omega) | omega)
    refine lv_i2l hx hb dX12_belief_84 rfl ?_
    refine lv_topl (fun y_25 ey_25 => ?_)
    replace hF := q_letX hF ey_25
    have ggy_25 := q_rng z_24
    have iy_25 : y_25.toInt = z_24.toInt := by rw [ey_25]; exact (q_i2l _).trans rfl
    have mb2 := m_mulS (a := y_21.toInt) (A := 409600000000) (b := y_25.toInt) (B := 200001) (by first | (clear hn hh mv0_σ_1 ahpσ_3 bhpσ_3 chpσ_3 dhpσ_3 mv0_σ_4 if_5 c_6 bhpσ_8 chpσ_8 hw if_9 iz_11 if_12 iz_13 if_14 iz_15 iz_16 ggy_17 iy_17 mb iy_18 iz_22 if_23 iz_24 ggy_25 iy_25; omega) | omega) (by first | (clear hn hh mv0_σ_1 ahpσ_3 bhpσ_3 chpσ_3 dhpσ_3 mv0_σ_4 if_5 c_6 bhpσ_8 chpσ_8 hw if_9 iz_11 if_12 iz_13 if_14 iz_15 iz_16 ggy_17 iy_17 mb iy_18 iz_22 if_23 iz_24 ggy_25 iy_25; omega) | omega) (by first | (clear hn hh mv0_σ_1 ahpσ_3 bhpσ_3 chpσ_3 dhpσ_3 mv0_σ_4 if_5 c_6 ahpσ_8 bhpσ_8 chpσ_8 if_9 ig_10 iz_11 if_12 iz_13 iz_15 iz_16 ggy_17 iy_17 mb iy_18 ig_19 ig_20 iy_21 iz_22; omega) | omega) (by first | (clear hh mv0_σ_1 ahpσ_3 bhpσ_3 chpσ_3 dhpσ_3 mv0_σ_4 if_5 c_6 ahpσ_8 bhpσ_8 chpσ_8 if_9 ig_10 iz_11 iz_13 mb iy_18 ig_19 ig_20 iy_21 iz_22; omega) | omega)
    refine lv_lmul hx hb dX12_belief_85 ?_
    refine lv_topl (fun y_26 ey_26 => ?_)
    replace hF := q_letX hF ey_26
    have iy_26 := q_mulJ (A := y_21.toInt) (B := y_25.toInt) ey_26 rfl rfl (by first | (clear hn hh mv0_σ_1 ahpσ_3 bhpσ_3 chpσ_3 dhpσ_3 mv0_σ_4 if_5 c_6 ahpσ_8 bhpσ_8 chpσ_8 hw if_9 ig_10 iz_11 if_12 iz_13 if_14 iz_15 iz_16 ggy_17 iy_17 mb iy_18 ig_19 ig_20 iy_21 iz_22 if_23 iz_24 ggy_25 iy_25; omega) | omega) (by first | (clear hn hh mv0_σ_1 ahpσ_3 bhpσ_3 chpσ_3 dhpσ_3 mv0_σ_4 if_5 c_6 ahpσ_8 bhpσ_8 chpσ_8 hw if_9 ig_10 iz_11 if_12 iz_13 if_14 iz_15 iz_16 ggy_17 iy_17 mb iy_18 ig_19 ig_20 iy_21 iz_22 if_23 iz_24 ggy_25 iy_25; omega) | omega)
    refine lv_lstore (lv' := [(5, .long y_26), (3, .long y_18), (2, .int f_9), (0, .ref a), (1, .int v1)]) hx hb dX12_belief_86 hl (by decide) rfl (fun ls hl => ?_)
    refine lv_aload_n hx hb dX12_belief_88 rfl (lv_at hl 3 rfl) ?_
    refine lv_lload_n hx hb dX12_belief_89 rfl (lv_at hl 1 rfl) ?_
    refine lv_lload_n hx hb dX12_belief_90 rfl (lv_at hl 1 rfl) ?_
    refine lv_lload hx hb dX12_belief_91 (lv_at hl 0 rfl) ?_
    refine lv_ladd hx hb dX12_belief_93 ?_
    refine lv_topl (fun y_27 ey_27 => ?_)
    replace hF := q_letX hF ey_27
    have iy_27 := q_addJ (A := y_18.toInt) (B := y_26.toInt) ey_27 rfl rfl (by first | (clear hn hh mv0_σ_1 ahpσ_3 bhpσ_3 chpσ_3 dhpσ_3 mv0_σ_4 if_5 c_6 ahpσ_8 bhpσ_8 chpσ_8 hw if_9 ig_10 iz_11 if_12 iz_13 if_14 iz_15 iz_16 ggy_17 iy_17 ig_19 ig_20 iy_21 iz_22 if_23 iz_24 ggy_25 iy_25; omega) | omega) (by first | (clear hn hh mv0_σ_1 ahpσ_3 bhpσ_3 chpσ_3 dhpσ_3 mv0_σ_4 if_5 c_6 ahpσ_8 bhpσ_8 chpσ_8 hw if_9 ig_10 iz_11 if_12 iz_13 if_14 iz_15 iz_16 ggy_17 iy_17 ig_19 ig_20 iy_21 iz_22 if_23 iz_24 ggy_25 iy_25; omega) | omega)
    refine q_ci (q_rV11_2 (rest := []) E (hml.trans hl.1.symm) hI (c_X12_fraction l X σ_8 a y_18 y_27 ha (by first | (clear hn hh mv0_σ_1 ahpσ_3 bhpσ_3 chpσ_3 dhpσ_3 mv0_σ_4 if_5 c_6 bhpσ_8 chpσ_8 if_9 iz_11 iz_13 iz_22; omega) | omega)) kv_X12_361 ha ⟨Nat.le_of_ble_eq_true rfl, Nat.le_of_ble_eq_true rfl⟩ (Nat.le_of_ble_eq_true rfl) dX12_belief_94) hI (Nat.le_of_ble_eq_true rfl) (fun r_28 σ_29 H locs hpσ_29 hkσ_29 hI => ?_)
    have ahpσ_29 := hpσ_29.1
    have bhpσ_29 := hpσ_29.2.1
    have chpσ_29 := hpσ_29.2.2
    clear hpσ_29
    have fr_σ_29 := fr_σ_8.call chpσ_29 rfl rfl
    replace hF := q_biX hF bhpσ_29
    have mcσ_29 := m_cK hkσ_29 hI.1 ha (by decide)
    have feσ_29 : m_c X σ_29 a = m_c X σ a := (funext mcσ_29).trans feσ_8
    exact q_retz E hr hlk hI ⟨by omega, by omega⟩ ⟨⟨by omega, by omega⟩, (hF.trans hout), fr_σ_29⟩ dX12_belief_97
  · skip
    replace hF := q_ifp hF c_6
    refine lv_iconst (v := 0) hx hb dX12_belief_21 zki_0 ?_
    have hrv : (0 : Int32).toInt = 0 := zt_0
    exact q_retz E hr hlk hI ⟨by decide, by decide⟩ ⟨⟨by decide, by decide⟩, (hF.trans hout), fr_σ_4⟩ dX12_belief_22
end
