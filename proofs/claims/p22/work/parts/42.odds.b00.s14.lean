section
set_option maxRecDepth 100000 in
set_option maxHeartbeats 4000000 in
theorem c_X12_worth (l : Launch) (X : XW) (σ : ST) (a : Nat) (v1 : Int32) (ha : q_kd X a = 12) (hG : m_G (m_c X σ a)) : Met l yX12_worth (q_ws yX12_worth cX12_worth 2 (some .boolean)) (q_rm 6 136) (q_P X σ [.ref a, .int v1]) (q_Qi X 8 σ (fun (r : Int32) (σ' : ST) => (0 ≤ r.toInt ∧ r.toInt ≤ 1) ∧ (r, σ') = F_X12_worth X σ a v1 ∧ q_ow [(12, 0), (12, 1)] [(12, 2), (12, 3), (12, 30), (12, 31)] X σ σ')) 0 0 (q_reg X) := by
  refine q_met 8 (by first | exact rfl | decide +kernel) rfl (Nat.le_of_ble_eq_true rfl) (fun p e s m below meth c E hml hr hlk hI ls hl => ?_)
  have hx := E.1
  have hb := E.2.1
  have hl : lv_has ls 2 [(0, .ref a), (1, .int v1)] := hl
  have feσ : m_c X σ a = m_c X σ a := rfl
  have fr_σ : q_ow [(12, 0), (12, 1)] [(12, 2), (12, 3), (12, 30), (12, 31)] X σ σ := q_ow.rf
  have hh := hG.hd
  obtain ⟨out, hout⟩ : ∃ o, o = F_X12_worth X σ a v1 := ⟨_, rfl⟩
  have hF := hout.symm
  unfold F_X12_worth at hF
  refine lv_aload_n hx hb dX12_worth_0 rfl (lv_at hl 0 rfl) ?_
  refine lv_iconst (v := 0) hx hb dX12_worth_1 zki_0 ?_
  refine ps_X12_59_12 E hI ha (by decide) dX12_worth_2 (fun H locs σ_1 hσ_1 hI => ?_)
  replace hF := q_letX hF hσ_1
  have fr_σ_1 := fr_σ.si hσ_1 ha rfl
  have mv0_σ_1 : (σ_1.1 a 0).toInt = (σ.1 a 0).toInt := congrArg Int32.toInt (q_rdn hσ_1 (Or.inr (by decide)))
  have mcσ_1 := m_wo hσ_1 (m_ne ha (q_tk (f := 20) (k' := 34) hI ha rfl (by decide)) (by decide))
  have feσ_1 : m_c X σ_1 a = m_c X σ a := (funext mcσ_1).trans feσ
  refine lv_aload_n hx hb dX12_worth_5 rfl (lv_at hl 0 rfl) ?_
  refine lv_aload_n hx hb dX12_worth_6 rfl (lv_at hl 0 rfl) ?_
  refine lv_iload_n hx hb dX12_worth_7 rfl (lv_at hl 1 rfl) ?_
  refine q_ci (q_rV11_1 (rest := [.ref a]) E (hml.trans hl.1.symm) hI (c_X12_whyNot l X σ_1 a v1 ha (by rw [feσ_1]; exact hG)) kv_X12_352 ha ⟨Nat.le_of_ble_eq_true rfl, Nat.le_of_ble_eq_true rfl⟩ (Nat.le_of_ble_eq_true rfl) dX12_worth_8) hI (Nat.le_of_ble_eq_true rfl) (fun r_2 σ_3 H locs hpσ_3 hkσ_3 hI => ?_)
  have ahpσ_3 := hpσ_3.1
  have bhpσ_3 := hpσ_3.2.1
  have chpσ_3 := hpσ_3.2.2.1
  have dhpσ_3 := hpσ_3.2.2.2
  clear hpσ_3
  replace hI := q_Irw ahpσ_3 hI
  rw [feσ_1] at chpσ_3
  replace hF := q_letX hF dhpσ_3
  refine ps_X12_62_12 E hI ha (by decide) dX12_worth_11 (fun H locs σ_4 hσ_4 hI => ?_)
  replace hF := q_letX hF hσ_4
  have fr_σ_4 := fr_σ_1.si hσ_4 ha rfl
  have mv0_σ_4 : (σ_4.1 a 0).toInt = r_2.toInt := congrArg Int32.toInt (q_rd hσ_4)
  have mcσ_4 := m_wo hσ_4 (m_ne ha (q_tk (f := 20) (k' := 34) hI ha rfl (by decide)) (by decide))
  have feσ_4 : m_c X σ_4 a = m_c X σ a := (funext mcσ_4).trans feσ_1
  refine lv_aload_n hx hb dX12_worth_14 rfl (lv_at hl 0 rfl) ?_
  refine gs_X12_62_12 E hI ha dX12_worth_15 ?_
  refine lv_topi (fun f_5 ef_5 => ?_)
  replace hF := q_letX hF ef_5
  have if_5 : f_5.toInt = (σ_4.1 a 0).toInt := congrArg Int32.toInt ef_5
  refine q_if_le (A := f_5.toInt) E rfl (tgt := 23) dX12_worth_18 (by decide) (fun c_6 => ?_) (fun c_6 => ?_)
  · skip
    replace hF := q_ifn hF (Int.not_lt.mpr c_6)
    refine lv_aload_n hx hb dX12_worth_23 rfl (lv_at hl 0 rfl) ?_
    refine lv_iload_n hx hb dX12_worth_24 rfl (lv_at hl 1 rfl) ?_
    refine q_cv (q_rV11_1 (rest := []) E (hml.trans hl.1.symm) hI (c_X12_blinds l X σ_4 a v1 ha (by rw [feσ_4]; exact hG) (by rw [feσ_4]; exact (by omega)) (by rw [feσ_4]; exact (by omega)) (by rw [feσ_4]; exact (by omega))) kv_X12_358 ha ⟨Nat.le_of_ble_eq_true rfl, Nat.le_of_ble_eq_true rfl⟩ (Nat.le_of_ble_eq_true rfl) dX12_worth_25) hI (Nat.le_of_ble_eq_true rfl) (fun σ_8 H locs hpσ_8 hkσ_8 hI => ?_)
    have ahpσ_8 := hpσ_8.1
    have bhpσ_8 := hpσ_8.2.1
    have chpσ_8 := hpσ_8.2.2
    clear hpσ_8
    have fr_σ_8 := fr_σ_4.call chpσ_8 rfl rfl
    replace hF := q_letX hF bhpσ_8
    have mcσ_8 := m_cK hkσ_8 hI.1 ha (by decide)
    have feσ_8 : m_c X σ_8 a = m_c X σ a := (funext mcσ_8).trans feσ_4
    refine lv_aload_n hx hb dX12_worth_28 rfl (lv_at hl 0 rfl) ?_
    refine lv_aload_n hx hb dX12_worth_29 rfl (lv_at hl 0 rfl) ?_
    refine q_ci (q_rV11_0 (rest := [.ref a]) E (hml.trans hl.1.symm) hI (c_X12_heapMany l X σ_8 a ha (by rw [feσ_8]; exact hG)) kv_X12_287 ha ⟨Nat.le_of_ble_eq_true rfl, Nat.le_of_ble_eq_true rfl⟩ (Nat.le_of_ble_eq_true rfl) dX12_worth_30) hI (Nat.le_of_ble_eq_true rfl) (fun r_9 σ_10 H locs hpσ_10 hkσ_10 hI => ?_)
    have ahpσ_10 := hpσ_10.1
    have bhpσ_10 := hpσ_10.2.1
    have chpσ_10 := hpσ_10.2.2.1
    have dhpσ_10 := hpσ_10.2.2.2
    clear hpσ_10
    replace hI := q_Irw ahpσ_10 hI
    rw [feσ_8] at bhpσ_10
    replace hF := q_letX hF dhpσ_10
    refine lv_i2l hx hb dX12_worth_33 rfl ?_
    refine lv_topl (fun y_11 ey_11 => ?_)
    replace hF := q_letX hF ey_11
    have ggy_11 := q_rng r_9
    have iy_11 : y_11.toInt = r_9.toInt := by rw [ey_11]; exact (q_i2l _).trans rfl
    refine lv_aload_n hx hb dX12_worth_34 rfl (lv_at hl 0 rfl) ?_
    refine gs_X12_349_12 E hI ha dX12_worth_35 ?_
    refine lv_topl (fun g_12 eg_12 => ?_)
    replace hF := q_letX hF eg_12
    have ig_12 : g_12.toInt = (σ_8.2.1 a 31).toInt := congrArg Int64.toInt eg_12
    refine lv_ldc2 (v := 2) hx hb E.2.2.1 (E.2.2.2.1 _ (q_in_t9 (i := 45) (by first | rfl | decide +kernel) rfl)) dX12_worth_38 ?_
    refine lv_aload_n hx hb dX12_worth_41 rfl (lv_at hl 0 rfl) ?_
    refine gs_X12_346_12 E hI ha dX12_worth_42 ?_
    refine lv_topl (fun g_13 eg_13 => ?_)
    replace hF := q_letX hF eg_13
    have ig_13 : g_13.toInt = (σ_8.2.1 a 30).toInt := congrArg Int64.toInt eg_13
    refine lv_lmul hx hb dX12_worth_45 ?_
    refine lv_topl (fun y_14 ey_14 => ?_)
    replace hF := q_letX hF ey_14
    refine lv_lsub hx hb dX12_worth_46 ?_
    refine lv_topl (fun y_15 ey_15 => ?_)
    replace hF := q_letX hF ey_15
    refine lv_lmul hx hb dX12_worth_47 ?_
    refine lv_topl (fun y_16 ey_16 => ?_)
    replace hF := q_letX hF ey_16
    refine lv_aload_n hx hb dX12_worth_48 rfl (lv_at hl 0 rfl) ?_
    refine gs_X12_349_12 E hI ha dX12_worth_49 ?_
    refine lv_topl (fun g_17 eg_17 => ?_)
    replace hF := q_letX hF eg_17
    have ig_17 : g_17.toInt = (σ_8.2.1 a 31).toInt := congrArg Int64.toInt eg_17
    refine q_ci (q_rV11_2 (rest := []) E (hml.trans hl.1.symm) hI (c_X12_fraction l X σ_8 a y_16 g_17 ha (by first | (clear hh mv0_σ_1 ahpσ_3 bhpσ_3 chpσ_3 dhpσ_3 mv0_σ_4 if_5 c_6 bhpσ_8 chpσ_8 ahpσ_10 bhpσ_10 chpσ_10 dhpσ_10 ggy_11 iy_11 ig_13; omega) | omega)) kv_X12_361 ha ⟨Nat.le_of_ble_eq_true rfl, Nat.le_of_ble_eq_true rfl⟩ (Nat.le_of_ble_eq_true rfl) dX12_worth_52) hI (Nat.le_of_ble_eq_true rfl) (fun r_18 σ_19 H locs hpσ_19 hkσ_19 hI => ?_)
    have ahpσ_19 := hpσ_19.1
    have bhpσ_19 := hpσ_19.2.1
    have chpσ_19 := hpσ_19.2.2
    clear hpσ_19
    have fr_σ_19 := fr_σ_8.call chpσ_19 rfl rfl
    replace hF := q_biX hF bhpσ_19
    have mcσ_19 := m_cK hkσ_19 hI.1 ha (by decide)
    have feσ_19 : m_c X σ_19 a = m_c X σ a := (funext mcσ_19).trans feσ_8
    exact q_retz E hr hlk hI ⟨by omega, by omega⟩ ⟨⟨by omega, by omega⟩, (hF.trans hout), fr_σ_19⟩ dX12_worth_55
  · skip
    replace hF := q_ifp hF c_6
    refine lv_iconst (v := 0) hx hb dX12_worth_21 zki_0 ?_
    have hrv : (0 : Int32).toInt = 0 := zt_0
    exact q_retz E hr hlk hI ⟨by decide, by decide⟩ ⟨⟨by decide, by decide⟩, (hF.trans hout), fr_σ_4⟩ dX12_worth_22
end
