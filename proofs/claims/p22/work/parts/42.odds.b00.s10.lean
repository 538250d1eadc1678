section
set_option maxRecDepth 100000 in
set_option maxHeartbeats 4000000 in
theorem c_X12_impossible (l : Launch) (X : XW) (σ : ST) (a : Nat) (v1 : Int32) (ha : q_kd X a = 12) (hG : m_G (m_c X σ a)) : Met l yX12_impossible (q_ws yX12_impossible cX12_impossible 2 (some .int)) (q_rm 5 112) (q_P X σ [.ref a, .int v1]) (q_Qi X 8 σ (fun (r : Int32) (σ' : ST) => (r, σ') = F_X12_impossible X σ a v1 ∧ q_ow [(12, 0), (12, 1)] [] X σ σ')) 0 0 (q_reg X) := by
  refine q_met 8 (by first | exact rfl | decide +kernel) rfl (Nat.le_of_ble_eq_true rfl) (fun p e s m below meth c E hml hr hlk hI ls hl => ?_)
  have hx := E.1
  have hb := E.2.1
  have hl : lv_has ls 2 [(0, .ref a), (1, .int v1)] := hl
  have feσ : m_c X σ a = m_c X σ a := rfl
  have fr_σ : q_ow [(12, 0), (12, 1)] [] X σ σ := q_ow.rf
  have hh := hG.hd
  obtain ⟨out, hout⟩ : ∃ o, o = F_X12_impossible X σ a v1 := ⟨_, rfl⟩
  have hF := hout.symm
  unfold F_X12_impossible at hF
  refine lv_aload_n hx hb dX12_impossible_0 rfl (lv_at hl 0 rfl) ?_
  refine lv_iconst (v := 0) hx hb dX12_impossible_1 zki_0 ?_
  refine ps_X12_59_12 E hI ha (by decide) dX12_impossible_2 (fun H locs σ_1 hσ_1 hI => ?_)
  replace hF := q_letX hF hσ_1
  have fr_σ_1 := fr_σ.si hσ_1 ha rfl
  have mv0_σ_1 : (σ_1.1 a 0).toInt = (σ.1 a 0).toInt := congrArg Int32.toInt (q_rdn hσ_1 (Or.inr (by decide)))
  have mcσ_1 := m_wo hσ_1 (m_ne ha (q_tk (f := 20) (k' := 34) hI ha rfl (by decide)) (by decide))
  have feσ_1 : m_c X σ_1 a = m_c X σ a := (funext mcσ_1).trans feσ
  refine lv_aload_n hx hb dX12_impossible_5 rfl (lv_at hl 0 rfl) ?_
  refine lv_aload_n hx hb dX12_impossible_6 rfl (lv_at hl 0 rfl) ?_
  refine lv_iload_n hx hb dX12_impossible_7 rfl (lv_at hl 1 rfl) ?_
  refine q_ci (q_rV11_1 (rest := [.ref a]) E (hml.trans hl.1.symm) hI (c_X12_whyNot l X σ_1 a v1 ha (by rw [feσ_1]; exact hG)) kv_X12_352 ha ⟨Nat.le_of_ble_eq_true rfl, Nat.le_of_ble_eq_true rfl⟩ (Nat.le_of_ble_eq_true rfl) dX12_impossible_8) hI (Nat.le_of_ble_eq_true rfl) (fun r_2 σ_3 H locs hpσ_3 hkσ_3 hI => ?_)
  have ahpσ_3 := hpσ_3.1
  have bhpσ_3 := hpσ_3.2.1
  have chpσ_3 := hpσ_3.2.2.1
  have dhpσ_3 := hpσ_3.2.2.2
  clear hpσ_3
  replace hI := q_Irw ahpσ_3 hI
  rw [feσ_1] at chpσ_3
  replace hF := q_letX hF dhpσ_3
  refine ps_X12_62_12 E hI ha (by decide) dX12_impossible_11 (fun H locs σ_4 hσ_4 hI => ?_)
  replace hF := q_letX hF hσ_4
  have fr_σ_4 := fr_σ_1.si hσ_4 ha rfl
  have mv0_σ_4 : (σ_4.1 a 0).toInt = r_2.toInt := congrArg Int32.toInt (q_rd hσ_4)
  have mcσ_4 := m_wo hσ_4 (m_ne ha (q_tk (f := 20) (k' := 34) hI ha rfl (by decide)) (by decide))
  have feσ_4 : m_c X σ_4 a = m_c X σ a := (funext mcσ_4).trans feσ_1
  refine lv_aload_n hx hb dX12_impossible_14 rfl (lv_at hl 0 rfl) ?_
  refine gs_X12_62_12 E hI ha dX12_impossible_15 ?_
  refine lv_topi (fun f_5 ef_5 => ?_)
  replace hF := q_letX hF ef_5
  have if_5 : f_5.toInt = (σ_4.1 a 0).toInt := congrArg Int32.toInt ef_5
  refine q_if_le (A := f_5.toInt) E rfl (tgt := 23) dX12_impossible_18 (by decide) (fun c_6 => ?_) (fun c_6 => ?_)
  · skip
    replace hF := q_ifn hF (Int.not_lt.mpr c_6)
    refine lv_aload_n hx hb dX12_impossible_23 rfl (lv_at hl 0 rfl) ?_
    refine lv_iload_n hx hb dX12_impossible_24 rfl (lv_at hl 1 rfl) ?_
    refine q_ci (q_rV11_1 (rest := []) E (hml.trans hl.1.symm) hI (c_X12_isImpossible l X σ_4 a v1 ha (by rw [feσ_4]; exact hG) (by rw [feσ_4]; exact (by first | (clear hh mv0_σ_1 ahpσ_3 dhpσ_3; omega) | omega)) (by rw [feσ_4]; exact (by first | (clear mv0_σ_1 ahpσ_3 dhpσ_3; omega) | omega))) kv_X12_355 ha ⟨Nat.le_of_ble_eq_true rfl, Nat.le_of_ble_eq_true rfl⟩ (Nat.le_of_ble_eq_true rfl) dX12_impossible_25) hI (Nat.le_of_ble_eq_true rfl) (fun r_7 σ_8 H locs hpσ_8 hkσ_8 hI => ?_)
    have ahpσ_8 := hpσ_8.1
    have bhpσ_8 := hpσ_8.2.1
    have chpσ_8 := hpσ_8.2.2
    clear hpσ_8
    replace hI := q_Irw ahpσ_8 hI
    replace hF := q_letX hF chpσ_8
    refine q_if_eq (A := r_7.toInt) E rfl (tgt := 35) dX12_impossible_28 (by decide) (fun c_9 => ?_) (fun c_9 => ?_)
    · skip
      replace hF := q_ifp hF c_9
      refine lv_iconst (v := 0) hx hb dX12_impossible_35 zki_0 ?_
      exact q_reti E hr hlk hI ⟨(hF.trans hout), fr_σ_4⟩ dX12_impossible_36
    · skip
      replace hF := q_ifn hF c_9
      replace c_9 := q_ifOne bhpσ_8 c_9
      refine lv_iconst (v := 1) hx hb dX12_impossible_31 zki_1 ?_
      refine lv_goto (tgt := 36) hx hb dX12_impossible_32 (by decide) ?_
      exact q_reti E hr hlk hI ⟨(hF.trans hout), fr_σ_4⟩ dX12_impossible_36
  · skip
    replace hF := q_ifp hF c_6
    refine lv_iconst (v := (-1)) hx hb dX12_impossible_21 zki_m1 ?_
    exact q_reti E hr hlk hI ⟨(hF.trans hout), fr_σ_4⟩ dX12_impossible_22
end
