section
set_option maxRecDepth 100000 in
set_option maxHeartbeats 4000000 in
theorem c_X12_readMost (l : Launch) (X : XW) (σ : ST) (a : Nat) (ha : q_kd X a = 12) (hs : 0 ≤ (σ.1 a 15).toInt ∧ (σ.1 a 15).toInt ≤ (σ.1 a 16).toInt ∧ (σ.1 a 16).toInt ≤ (σ.1 a 9).toInt ∧ (σ.1 a 9).toInt ≤ 900 ∧ 0 ≤ (σ.1 a 14).toInt ∧ (σ.1 a 14).toInt ≤ 4 ∧ (σ.1 a 14).toInt ≤ 4 * ((σ.1 a 16).toInt - (σ.1 a 15).toInt) ∧ (σ.1 a 14).toInt ≤ 4 * ((σ.1 a 9).toInt - (σ.1 a 15).toInt) ∧ 0 ≤ (σ.1 a 12).toInt) (hN : m_N (m_c X σ a)) (hz : (σ.1 a 12).toInt = 0) (hk : 2 ≤ m_c X σ a 3720) (h4 : 1 ≤ m_c X σ a 3724) : Met l yX12_readMost (q_ws yX12_readMost cX12_readMost 1 none) (q_rm 3 65) (q_P X σ [.ref a]) (q_Qv X 1 σ (fun (σ' : ST) => (m_N (m_c X σ' a)) ∧ (∀ j, 0 ≤ j → j < 3720 → m_c X σ' a j = m_c X σ a j) ∧ (0 ≤ (σ'.1 a 15).toInt ∧ (σ'.1 a 15).toInt ≤ (σ'.1 a 16).toInt ∧ (σ'.1 a 16).toInt ≤ (σ'.1 a 9).toInt ∧ (σ'.1 a 9).toInt ≤ 900 ∧ 0 ≤ (σ'.1 a 14).toInt ∧ (σ'.1 a 14).toInt ≤ 4 ∧ (σ'.1 a 14).toInt ≤ 4 * ((σ'.1 a 16).toInt - (σ'.1 a 15).toInt) ∧ (σ'.1 a 14).toInt ≤ 4 * ((σ'.1 a 9).toInt - (σ'.1 a 15).toInt) ∧ 0 ≤ (σ'.1 a 12).toInt ∧ (σ'.1 a 9).toInt = (σ.1 a 9).toInt ∧ (σ.1 a 15).toInt ≤ (σ'.1 a 15).toInt ∧ (σ.1 a 12).toInt ≤ (σ'.1 a 12).toInt) ∧ ((σ.1 a 16).toInt ≤ (σ'.1 a 15).toInt + 1000 * (σ'.1 a 12).toInt) ∧ (m_c X σ' a 3720 = m_c X σ a 3720 ∧ m_c X σ' a 3721 = m_c X σ a 3721) ∧ (1 ≤ m_c X σ' a 3724 + 10 * (σ'.1 a 12).toInt) ∧ σ' = F_X12_readMost X σ a ∧ q_ow [(12, 12), (12, 13), (12, 14), (12, 15), (12, 16), (12, 17), (12, 18), (12, 26), (34, 99)] [(12, 19)] X σ σ')) 0 0 (q_reg X) := by
  refine q_met 1 (by first | exact rfl | decide +kernel) rfl (Nat.le_of_ble_eq_true rfl) (fun p e s m below meth c E hml hr hlk hI ls hl => ?_)
  have hx := E.1
  have hb := E.2.1
  have hl : lv_has ls 1 [(0, .ref a)] := hl
  have nnσ : m_N (m_c X σ a) := hN
  have kpσ : ∀ j, 0 ≤ j → j < 3720 → m_c X σ a j = m_c X σ a j := fun _ _ _ => rfl
  have k3σ : m_c X σ a 3720 = m_c X σ a 3720 ∧ m_c X σ a 3721 = m_c X σ a 3721 := ⟨rfl, rfl⟩
  have k4σ : 1 ≤ m_c X σ a 3724 + 10 * (σ.1 a 12).toInt := (by omega)
  have smσ : 0 ≤ (σ.1 a 15).toInt ∧ (σ.1 a 15).toInt ≤ (σ.1 a 16).toInt ∧ (σ.1 a 16).toInt ≤ (σ.1 a 9).toInt ∧ (σ.1 a 9).toInt ≤ 900 ∧ 0 ≤ (σ.1 a 14).toInt ∧ (σ.1 a 14).toInt ≤ 4 ∧ (σ.1 a 14).toInt ≤ 4 * ((σ.1 a 16).toInt - (σ.1 a 15).toInt) ∧ (σ.1 a 14).toInt ≤ 4 * ((σ.1 a 9).toInt - (σ.1 a 15).toInt) ∧ 0 ≤ (σ.1 a 12).toInt ∧ (σ.1 a 9).toInt = (σ.1 a 9).toInt ∧ (σ.1 a 15).toInt ≤ (σ.1 a 15).toInt ∧ (σ.1 a 12).toInt ≤ (σ.1 a 12).toInt := (by omega)
  have beσ : (σ.1 a 16).toInt = (σ.1 a 16).toInt := rfl
  have fr_σ : q_ow [(12, 12), (12, 13), (12, 14), (12, 15), (12, 16), (12, 17), (12, 18), (12, 26), (34, 99)] [(12, 19)] X σ σ := q_ow.rf
  obtain ⟨out, hout⟩ : ∃ o, o = F_X12_readMost X σ a := ⟨_, rfl⟩
  have hF := hout.symm
  unfold F_X12_readMost at hF
  refine lv_aload_n hx hb dX12_readMost_0 rfl (lv_at hl 0 rfl) ?_
  refine gs_X12_236_12 E hI ha dX12_readMost_1 ?_
  refine lv_topi (fun f_1 ef_1 => ?_)
  replace hF := q_letX hF ef_1
  have if_1 : f_1.toInt = (σ.1 a 26).toInt := congrArg Int32.toInt ef_1
  have bf_1 : 0 ≤ f_1.toInt ∧ f_1.toInt ≤ 1 := by rw [ef_1]; exact q_bd hI ha rfl
  refine q_if_eq (A := f_1.toInt) E rfl (tgt := 16) dX12_readMost_4 (by decide) (fun c_2 => ?_) (fun c_2 => ?_)
  · skip
    replace hF := q_ifp hF c_2
    refine lv_aload_n hx hb dX12_readMost_16 rfl (lv_at hl 0 rfl) ?_
    refine gs_X12_187_12 E hI ha dX12_readMost_17 ?_
    refine lv_topi (fun f_3 ef_3 => ?_)
    replace hF := q_letX hF ef_3
    have if_3 : f_3.toInt = (σ.1 a 12).toInt := congrArg Int32.toInt ef_3
    refine q_if_le (A := f_3.toInt) E rfl (tgt := 24) dX12_readMost_20 (by decide) (fun c_4 => ?_) (fun c_4 => ?_)
    · skip
      replace hF := q_ifn hF (Int.not_lt.mpr c_4)
      refine lv_aload_n hx hb dX12_readMost_24 rfl (lv_at hl 0 rfl) ?_
      refine lv_iconst (v := 1) hx hb dX12_readMost_25 zki_1 ?_
      refine ps_X12_236_12 E hI ha (by decide) (by decide) (by decide) dX12_readMost_26 (fun H locs σ_5 hσ_5 hI => ?_)
      replace hF := q_letX hF hσ_5
      have fr_σ_5 := fr_σ.si hσ_5 ha rfl
      have mv9_σ_5 : (σ_5.1 a 9).toInt = (σ.1 a 9).toInt := congrArg Int32.toInt (q_rdn hσ_5 (Or.inr (by decide)))
      have mv12_σ_5 : (σ_5.1 a 12).toInt = (σ.1 a 12).toInt := congrArg Int32.toInt (q_rdn hσ_5 (Or.inr (by decide)))
      have mv14_σ_5 : (σ_5.1 a 14).toInt = (σ.1 a 14).toInt := congrArg Int32.toInt (q_rdn hσ_5 (Or.inr (by decide)))
      have mv15_σ_5 : (σ_5.1 a 15).toInt = (σ.1 a 15).toInt := congrArg Int32.toInt (q_rdn hσ_5 (Or.inr (by decide)))
      have mv16_σ_5 : (σ_5.1 a 16).toInt = (σ.1 a 16).toInt := congrArg Int32.toInt (q_rdn hσ_5 (Or.inr (by decide)))
      have mcσ_5 := m_wo hσ_5 (m_ne ha (q_tk (f := 20) (k' := 34) hI ha rfl (by decide)) (by decide))
      have nnσ_5 : m_N (m_c X σ_5 a) := m_N.ext mcσ_5 nnσ
      have kpσ_5 : ∀ j, 0 ≤ j → j < 3720 → m_c X σ_5 a j = m_c X σ a j := fun j h0 h1 => (mcσ_5 j).trans (kpσ j h0 h1)
      have k3σ_5 : m_c X σ_5 a 3720 = m_c X σ a 3720 ∧ m_c X σ_5 a 3721 = m_c X σ a 3721 := ⟨(mcσ_5 3720).trans k3σ.1, (mcσ_5 3721).trans k3σ.2⟩
      have k4σ_5 : 1 ≤ m_c X σ_5 a 3724 + 10 * (σ_5.1 a 12).toInt := (by have := mcσ_5 3724; omega)
      have smσ_5 : 0 ≤ (σ_5.1 a 15).toInt ∧ (σ_5.1 a 15).toInt ≤ (σ_5.1 a 16).toInt ∧ (σ_5.1 a 16).toInt ≤ (σ_5.1 a 9).toInt ∧ (σ_5.1 a 9).toInt ≤ 900 ∧ 0 ≤ (σ_5.1 a 14).toInt ∧ (σ_5.1 a 14).toInt ≤ 4 ∧ (σ_5.1 a 14).toInt ≤ 4 * ((σ_5.1 a 16).toInt - (σ_5.1 a 15).toInt) ∧ (σ_5.1 a 14).toInt ≤ 4 * ((σ_5.1 a 9).toInt - (σ_5.1 a 15).toInt) ∧ 0 ≤ (σ_5.1 a 12).toInt ∧ (σ_5.1 a 9).toInt = (σ.1 a 9).toInt ∧ (σ.1 a 15).toInt ≤ (σ_5.1 a 15).toInt ∧ (σ.1 a 12).toInt ≤ (σ_5.1 a 12).toInt := (by first | (rw [mv12_σ_5, mv14_σ_5, mv15_σ_5, mv16_σ_5, mv9_σ_5]; exact smσ) | omega)
      have beσ_5 : (σ_5.1 a 16).toInt = (σ.1 a 16).toInt := (by omega)
      clear mv9_σ_5 mv12_σ_5 mv14_σ_5 mv15_σ_5 mv16_σ_5 k4σ smσ beσ
      refine lv_aload_n hx hb dX12_readMost_29 rfl (lv_at hl 0 rfl) ?_
      refine q_cv (q_rV11_0 (rest := []) E (hml.trans hl.1.symm) hI (c_X12_next l X σ_5 a ha (by omega) (by omega) (by omega)) kv_X12_197 ha ⟨Nat.le_of_ble_eq_true rfl, Nat.le_of_ble_eq_true rfl⟩ (Nat.le_of_ble_eq_true rfl) dX12_readMost_30) hI (Nat.le_of_ble_eq_true rfl) (fun σ_7 H locs hpσ_7 hkσ_7 hI => ?_)
      have ahpσ_7 := hpσ_7.1
      have bhpσ_7 := hpσ_7.2.1
      have chpσ_7 := hpσ_7.2.2.1
      have dhpσ_7 := hpσ_7.2.2.2.1
      have ehpσ_7 := hpσ_7.2.2.2.2
      clear hpσ_7
      have fr_σ_7 := fr_σ_5.call ehpσ_7 rfl rfl
      replace hF := q_letX hF dhpσ_7
      have mcσ_7 := m_cK hkσ_7 hI.1 ha (by decide)
      have nnσ_7 : m_N (m_c X σ_7 a) := m_N.ext mcσ_7 nnσ_5
      have kpσ_7 : ∀ j, 0 ≤ j → j < 3720 → m_c X σ_7 a j = m_c X σ a j := fun j h0 h1 => (mcσ_7 j).trans (kpσ_5 j h0 h1)
      have k3σ_7 : m_c X σ_7 a 3720 = m_c X σ a 3720 ∧ m_c X σ_7 a 3721 = m_c X σ a 3721 := ⟨(mcσ_7 3720).trans k3σ_5.1, (mcσ_7 3721).trans k3σ_5.2⟩
      have k4σ_7 : 1 ≤ m_c X σ_7 a 3724 + 10 * (σ_7.1 a 12).toInt := (by have := mcσ_7 3724; omega)
      have smσ_7 : 0 ≤ (σ_7.1 a 15).toInt ∧ (σ_7.1 a 15).toInt ≤ (σ_7.1 a 16).toInt ∧ (σ_7.1 a 16).toInt ≤ (σ_7.1 a 9).toInt ∧ (σ_7.1 a 9).toInt ≤ 900 ∧ 0 ≤ (σ_7.1 a 14).toInt ∧ (σ_7.1 a 14).toInt ≤ 4 ∧ (σ_7.1 a 14).toInt ≤ 4 * ((σ_7.1 a 16).toInt - (σ_7.1 a 15).toInt) ∧ (σ_7.1 a 14).toInt ≤ 4 * ((σ_7.1 a 9).toInt - (σ_7.1 a 15).toInt) ∧ 0 ≤ (σ_7.1 a 12).toInt ∧ (σ_7.1 a 9).toInt = (σ.1 a 9).toInt ∧ (σ.1 a 15).toInt ≤ (σ_7.1 a 15).toInt ∧ (σ.1 a 12).toInt ≤ (σ_7.1 a 12).toInt := (by first | exact sm_nx smσ_5 bhpσ_7 chpσ_7 | omega)
      have onσ_7 : (σ.1 a 16).toInt ≤ (σ_7.1 a 15).toInt := (by omega)
      clear k4σ_5 smσ_5 bhpσ_7 chpσ_7
      refine lv_aload_n hx hb dX12_readMost_33 rfl (lv_at hl 0 rfl) ?_
      refine gs_X12_35_12 E hI ha dX12_readMost_34 ?_
      refine lv_sipush (v := 3724) hx hb dX12_readMost_37 zks_3724 ?_
      refine lv_aload_n hx hb dX12_readMost_40 rfl (lv_at hl 0 rfl) ?_
      refine lv_iconst (v := 1) hx hb dX12_readMost_41 zki_1 ?_
      refine lv_iconst (v := 4) hx hb dX12_readMost_42 zki_4 ?_
      have kc_8 : (1 : Int32).toInt = 1 := zt_1
      have kc_9 : (4 : Int32).toInt = 4 := zt_4
      refine q_ci (q_rV11_2 (rest := [.int 3724, .ref (q_rf X a 20)]) E (hml.trans hl.1.symm) hI (c_X12_count l X σ_7 a (1 : Int32) (4 : Int32) ha (by first | exact sm_9 smσ_7 | exact hs | omega) (by first | (clear hs hz hk h4 k3σ if_1 bf_1 c_2 if_3 c_4 k3σ_5 beσ_5 ahpσ_7 dhpσ_7 ehpσ_7 k3σ_7 k4σ_7 smσ_7 onσ_7; omega) | omega)) kv_X12_223 ha ⟨Nat.le_of_ble_eq_true rfl, Nat.le_of_ble_eq_true rfl⟩ (Nat.le_of_ble_eq_true rfl) dX12_readMost_43) hI (Nat.le_of_ble_eq_true rfl) (fun r_10 σ_11 H locs hpσ_11 hkσ_11 hI => ?_)
      have ahpσ_11 := hpσ_11.1
      have bhpσ_11 := hpσ_11.2.1
      have chpσ_11 := hpσ_11.2.2.1
      have dhpσ_11 := hpσ_11.2.2.2.1
      have ehpσ_11 := hpσ_11.2.2.2.2
      clear hpσ_11
      have fr_σ_11 := fr_σ_7.call ehpσ_11 rfl rfl
      replace hF := q_biX hF dhpσ_11
      have mcσ_11 := m_cK hkσ_11 hI.1 ha (by decide)
      have nnσ_11 : m_N (m_c X σ_11 a) := m_N.ext mcσ_11 nnσ_7
      have kpσ_11 : ∀ j, 0 ≤ j → j < 3720 → m_c X σ_11 a j = m_c X σ a j := fun j h0 h1 => (mcσ_11 j).trans (kpσ_7 j h0 h1)
      have k3σ_11 : m_c X σ_11 a 3720 = m_c X σ a 3720 ∧ m_c X σ_11 a 3721 = m_c X σ a 3721 := ⟨(mcσ_11 3720).trans k3σ_7.1, (mcσ_11 3721).trans k3σ_7.2⟩
      have k4σ_11 : 1 ≤ m_c X σ_11 a 3724 + 10 * (σ_11.1 a 12).toInt := (by have := mcσ_11 3724; omega)
      have smσ_11 : 0 ≤ (σ_11.1 a 15).toInt ∧ (σ_11.1 a 15).toInt ≤ (σ_11.1 a 16).toInt ∧ (σ_11.1 a 16).toInt ≤ (σ_11.1 a 9).toInt ∧ (σ_11.1 a 9).toInt ≤ 900 ∧ 0 ≤ (σ_11.1 a 14).toInt ∧ (σ_11.1 a 14).toInt ≤ 4 ∧ (σ_11.1 a 14).toInt ≤ 4 * ((σ_11.1 a 16).toInt - (σ_11.1 a 15).toInt) ∧ (σ_11.1 a 14).toInt ≤ 4 * ((σ_11.1 a 9).toInt - (σ_11.1 a 15).toInt) ∧ 0 ≤ (σ_11.1 a 12).toInt ∧ (σ_11.1 a 9).toInt = (σ.1 a 9).toInt ∧ (σ.1 a 15).toInt ≤ (σ_11.1 a 15).toInt ∧ (σ.1 a 12).toInt ≤ (σ_11.1 a 12).toInt := (by first | exact sm_tr smσ_7 bhpσ_11 | exact sm_tr smσ_7 chpσ_11 | omega)
      have onσ_11 : (σ.1 a 16).toInt ≤ (σ_11.1 a 15).toInt := (by first | (clear hs hz hk h4 k3σ if_1 bf_1 c_2 if_3 c_4 k3σ_5 ahpσ_7 dhpσ_7 ehpσ_7 k3σ_7 k4σ_7 smσ_7 kc_8 kc_9 ahpσ_11 chpσ_11 dhpσ_11 ehpσ_11 k3σ_11 k4σ_11 smσ_11; omega) | omega)
      clear k4σ_7 smσ_7 onσ_7 bhpσ_11
      refine q_iastN E hI (q_tk (k' := 34) hI ha rfl (Nat.succ_ne_zero _)) ⟨by decide, rfl⟩ (by decide) (by rw [q_lnk (v := 4650) hI (q_tk (k' := 34) hI ha rfl (Nat.succ_ne_zero _)) rfl (by decide)]; decide) (show 1 < 2 by decide) (q_inU rfl) dX12_readMost_46 (fun H locs σ_12 hσ_12 hI => ?_)
      replace hF := q_letX hF hσ_12
      have fr_σ_12 := fr_σ_11.si hσ_12 (q_tk (k' := 34) hI ha rfl (Nat.succ_ne_zero _)) rfl
      have mv9_σ_12 : (σ_12.1 a 9).toInt = (σ_11.1 a 9).toInt := congrArg Int32.toInt (q_rdn hσ_12 (Or.inl (m_ne ha (q_tk (k' := 34) hI ha rfl (Nat.succ_ne_zero _)) (by decide))))
      have mv12_σ_12 : (σ_12.1 a 12).toInt = (σ_11.1 a 12).toInt := congrArg Int32.toInt (q_rdn hσ_12 (Or.inl (m_ne ha (q_tk (k' := 34) hI ha rfl (Nat.succ_ne_zero _)) (by decide))))
      have mv14_σ_12 : (σ_12.1 a 14).toInt = (σ_11.1 a 14).toInt := congrArg Int32.toInt (q_rdn hσ_12 (Or.inl (m_ne ha (q_tk (k' := 34) hI ha rfl (Nat.succ_ne_zero _)) (by decide))))
      have mv15_σ_12 : (σ_12.1 a 15).toInt = (σ_11.1 a 15).toInt := congrArg Int32.toInt (q_rdn hσ_12 (Or.inl (m_ne ha (q_tk (k' := 34) hI ha rfl (Nat.succ_ne_zero _)) (by decide))))
      have mv16_σ_12 : (σ_12.1 a 16).toInt = (σ_11.1 a 16).toInt := congrArg Int32.toInt (q_rdn hσ_12 (Or.inl (m_ne ha (q_tk (k' := 34) hI ha rfl (Nat.succ_ne_zero _)) (by decide))))
      have mcσ_12 := m_wr (v := r_10) (A := 3724) hσ_12 (by decide) (by decide)
      have nnσ_12 : m_N (m_c X σ_12 a) := m_N.wr nnσ_11 mcσ_12 (by first | (clear hs hz hk h4 k3σ if_1 bf_1 c_2 if_3 c_4 k3σ_5 beσ_5 ahpσ_7 dhpσ_7 ehpσ_7 k3σ_7 kc_8 ahpσ_11 dhpσ_11 ehpσ_11 k3σ_11 k4σ_11 smσ_11 onσ_11 mv9_σ_12 mv12_σ_12 mv14_σ_12 mv15_σ_12 mv16_σ_12; omega) | omega)
      have kpσ_12 : ∀ j, 0 ≤ j → j < 3720 → m_c X σ_12 a j = m_c X σ a j := fun j h0 h1 => by rw [mcσ_12 j h0, if_neg (by first | (clear hs hz hk h4 k3σ if_1 bf_1 c_2 if_3 c_4 k3σ_5 beσ_5 ahpσ_7 dhpσ_7 ehpσ_7 k3σ_7 kc_8 kc_9 ahpσ_11 chpσ_11 dhpσ_11 ehpσ_11 k3σ_11 k4σ_11 smσ_11 onσ_11 mv9_σ_12 mv12_σ_12 mv14_σ_12 mv15_σ_12 mv16_σ_12; omega) | omega)]; exact kpσ_11 j h0 h1
      have k3σ_12 : m_c X σ_12 a 3720 = m_c X σ a 3720 ∧ m_c X σ_12 a 3721 = m_c X σ a 3721 := ⟨by rw [mcσ_12 3720 (by decide), if_neg (by first | (clear hs hz hk h4 k3σ if_1 bf_1 c_2 if_3 c_4 k3σ_5 beσ_5 ahpσ_7 dhpσ_7 ehpσ_7 k3σ_7 kc_8 kc_9 ahpσ_11 chpσ_11 dhpσ_11 ehpσ_11 k3σ_11 k4σ_11 smσ_11 onσ_11 mv9_σ_12 mv12_σ_12 mv14_σ_12 mv15_σ_12 mv16_σ_12; omega) | omega)]; exact k3σ_11.1, by rw [mcσ_12 3721 (by decide), if_neg (by first | (clear hs hz hk h4 k3σ if_1 bf_1 c_2 if_3 c_4 k3σ_5 beσ_5 ahpσ_7 dhpσ_7 ehpσ_7 k3σ_7 kc_8 kc_9 ahpσ_11 chpσ_11 dhpσ_11 ehpσ_11 k3σ_11 k4σ_11 smσ_11 onσ_11 mv9_σ_12 mv12_σ_12 mv14_σ_12 mv15_σ_12 mv16_σ_12; omega) | omega)]; exact k3σ_11.2⟩
      have k4σ_12 : 1 ≤ m_c X σ_12 a 3724 + 10 * (σ_12.1 a 12).toInt := (by have := mcσ_12 3724 (by decide); rw [if_pos (by first | (clear hs hz hk h4 k3σ if_1 bf_1 c_2 if_3 c_4 k3σ_5 beσ_5 ahpσ_7 dhpσ_7 ehpσ_7 k3σ_7 kc_8 kc_9 ahpσ_11 chpσ_11 dhpσ_11 ehpσ_11 k3σ_11 k4σ_11 smσ_11 onσ_11 mv9_σ_12 mv12_σ_12 mv14_σ_12 mv15_σ_12 mv16_σ_12 k3σ_12; omega) | omega)] at this; omega)
      have smσ_12 : 0 ≤ (σ_12.1 a 15).toInt ∧ (σ_12.1 a 15).toInt ≤ (σ_12.1 a 16).toInt ∧ (σ_12.1 a 16).toInt ≤ (σ_12.1 a 9).toInt ∧ (σ_12.1 a 9).toInt ≤ 900 ∧ 0 ≤ (σ_12.1 a 14).toInt ∧ (σ_12.1 a 14).toInt ≤ 4 ∧ (σ_12.1 a 14).toInt ≤ 4 * ((σ_12.1 a 16).toInt - (σ_12.1 a 15).toInt) ∧ (σ_12.1 a 14).toInt ≤ 4 * ((σ_12.1 a 9).toInt - (σ_12.1 a 15).toInt) ∧ 0 ≤ (σ_12.1 a 12).toInt ∧ (σ_12.1 a 9).toInt = (σ.1 a 9).toInt ∧ (σ.1 a 15).toInt ≤ (σ_12.1 a 15).toInt ∧ (σ.1 a 12).toInt ≤ (σ_12.1 a 12).toInt := (by first | (rw [mv12_σ_12, mv14_σ_12, mv15_σ_12, mv16_σ_12, mv9_σ_12]; exact smσ_11) | omega)
      have onσ_12 : (σ.1 a 16).toInt ≤ (σ_12.1 a 15).toInt := (by first | (clear hs hz hk h4 k3σ if_1 bf_1 c_2 if_3 c_4 k3σ_5 ahpσ_7 dhpσ_7 ehpσ_7 k3σ_7 kc_8 kc_9 ahpσ_11 chpσ_11 dhpσ_11 ehpσ_11 k3σ_11 k4σ_11 smσ_11 mv9_σ_12 mv12_σ_12 mv14_σ_12 mv16_σ_12 k3σ_12 k4σ_12 smσ_12; omega) | omega)
      clear mv9_σ_12 mv12_σ_12 mv14_σ_12 mv15_σ_12 mv16_σ_12 k4σ_11 smσ_11 onσ_11
      exact q_retv E hr hlk hI ⟨nnσ_12, kpσ_12, (by first | exact smσ_12 | omega), (by first | exact smσ_12 | omega), k3σ_12, k4σ_12, (hF.trans hout), fr_σ_12⟩ dX12_readMost_47
    · skip
      replace hF := q_ifp hF c_4
      exact q_retv E hr hlk hI ⟨nnσ, kpσ, (by first | exact smσ | omega), (by first | exact smσ | omega), k3σ, k4σ, (hF.trans hout), fr_σ⟩ dX12_readMost_23
  · skip
    replace hF := q_ifn hF c_2
    refine lv_aload_n hx hb dX12_readMost_7 rfl (lv_at hl 0 rfl) ?_
    refine lv_iconst (v := 5) hx hb dX12_readMost_8 zki_5 ?_
    refine lv_aload_n hx hb dX12_readMost_9 rfl (lv_at hl 0 rfl) ?_
    refine gs_X12_104_12 E hI ha dX12_readMost_10 ?_
    refine lv_topi (fun f_13 ef_13 => ?_)
    replace hF := q_letX hF ef_13
    have if_13 : f_13.toInt = (σ.1 a 15).toInt := congrArg Int32.toInt ef_13
    have kc_14 : (5 : Int32).toInt = 5 := zt_5
    refine q_cv (q_rV11_2 (rest := []) E (hml.trans hl.1.symm) hI (c_X12_fail l X σ a (5 : Int32) f_13 ha (by omega) (by omega)) kv_X12_193 ha ⟨Nat.le_of_ble_eq_true rfl, Nat.le_of_ble_eq_true rfl⟩ (Nat.le_of_ble_eq_true rfl) dX12_readMost_13) hI (Nat.le_of_ble_eq_true rfl) (fun σ_16 H locs hpσ_16 hkσ_16 hI => ?_)
    have ahpσ_16 := hpσ_16.1
    have bhpσ_16 := hpσ_16.2.1
    have chpσ_16 := hpσ_16.2.2.1
    have dhpσ_16 := hpσ_16.2.2.2.1
    have ehpσ_16 := hpσ_16.2.2.2.2
    clear hpσ_16
    have fr_σ_16 := fr_σ.call ehpσ_16 rfl rfl
    replace hF := q_letX hF dhpσ_16
    have mcσ_16 := m_cK hkσ_16 hI.1 ha (by decide)
    have nnσ_16 : m_N (m_c X σ_16 a) := m_N.ext mcσ_16 nnσ
    have kpσ_16 : ∀ j, 0 ≤ j → j < 3720 → m_c X σ_16 a j = m_c X σ a j := fun j h0 h1 => (mcσ_16 j).trans (kpσ j h0 h1)
    have k3σ_16 : m_c X σ_16 a 3720 = m_c X σ a 3720 ∧ m_c X σ_16 a 3721 = m_c X σ a 3721 := ⟨(mcσ_16 3720).trans k3σ.1, (mcσ_16 3721).trans k3σ.2⟩
    have k4σ_16 : 1 ≤ m_c X σ_16 a 3724 + 10 * (σ_16.1 a 12).toInt := (by have := mcσ_16 3724; omega)
    have smσ_16 : 0 ≤ (σ_16.1 a 15).toInt ∧ (σ_16.1 a 15).toInt ≤ (σ_16.1 a 16).toInt ∧ (σ_16.1 a 16).toInt ≤ (σ_16.1 a 9).toInt ∧ (σ_16.1 a 9).toInt ≤ 900 ∧ 0 ≤ (σ_16.1 a 14).toInt ∧ (σ_16.1 a 14).toInt ≤ 4 ∧ (σ_16.1 a 14).toInt ≤ 4 * ((σ_16.1 a 16).toInt - (σ_16.1 a 15).toInt) ∧ (σ_16.1 a 14).toInt ≤ 4 * ((σ_16.1 a 9).toInt - (σ_16.1 a 15).toInt) ∧ 0 ≤ (σ_16.1 a 12).toInt ∧ (σ_16.1 a 9).toInt = (σ.1 a 9).toInt ∧ (σ.1 a 15).toInt ≤ (σ_16.1 a 15).toInt ∧ (σ.1 a 12).toInt ≤ (σ_16.1 a 12).toInt := (by first | exact sm_fl smσ bhpσ_16 chpσ_16 | omega)
    have beσ_16 : (σ_16.1 a 16).toInt = (σ.1 a 16).toInt := (by omega)
    clear k4σ smσ beσ bhpσ_16
    refine lv_aload_n hx hb dX12_readMost_16 rfl (lv_at hl 0 rfl) ?_
    refine gs_X12_187_12 E hI ha dX12_readMost_17 ?_
    refine lv_topi (fun f_17 ef_17 => ?_)
    replace hF := q_letX hF ef_17
    have if_17 : f_17.toInt = (σ_16.1 a 12).toInt := congrArg Int32.toInt ef_17
    refine q_if_le (A := f_17.toInt) E rfl (tgt := 24) dX12_readMost_20 (by decide) (fun c_18 => ?_) (fun c_18 => ?_)
    · skip
      replace hF := q_ifn hF (Int.not_lt.mpr c_18)
      refine lv_aload_n hx hb dX12_readMost_24 rfl (lv_at hl 0 rfl) ?_
      refine lv_iconst (v := 1) hx hb dX12_readMost_25 zki_1 ?_
      refine ps_X12_236_12 E hI ha (by decide) (by decide) (by decide) dX12_readMost_26 (fun H locs σ_19 hσ_19 hI => ?_)
      replace hF := q_letX hF hσ_19
      have fr_σ_19 := fr_σ_16.si hσ_19 ha rfl
      have mv9_σ_19 : (σ_19.1 a 9).toInt = (σ_16.1 a 9).toInt := congrArg Int32.toInt (q_rdn hσ_19 (Or.inr (by decide)))
      have mv12_σ_19 : (σ_19.1 a 12).toInt = (σ_16.1 a 12).toInt := congrArg Int32.toInt (q_rdn hσ_19 (Or.inr (by decide)))
      have mv14_σ_19 : (σ_19.1 a 14).toInt = (σ_16.1 a 14).toInt := congrArg Int32.toInt (q_rdn hσ_19 (Or.inr (by decide)))
      have mv15_σ_19 : (σ_19.1 a 15).toInt = (σ_16.1 a 15).toInt := congrArg Int32.toInt (q_rdn hσ_19 (Or.inr (by decide)))
      have mv16_σ_19 : (σ_19.1 a 16).toInt = (σ_16.1 a 16).toInt := congrArg Int32.toInt (q_rdn hσ_19 (Or.inr (by decide)))
      have mcσ_19 := m_wo hσ_19 (m_ne ha (q_tk (f := 20) (k' := 34) hI ha rfl (by decide)) (by decide))
      have nnσ_19 : m_N (m_c X σ_19 a) := m_N.ext mcσ_19 nnσ_16
      have kpσ_19 : ∀ j, 0 ≤ j → j < 3720 → m_c X σ_19 a j = m_c X σ a j := fun j h0 h1 => (mcσ_19 j).trans (kpσ_16 j h0 h1)
      have k3σ_19 : m_c X σ_19 a 3720 = m_c X σ a 3720 ∧ m_c X σ_19 a 3721 = m_c X σ a 3721 := ⟨(mcσ_19 3720).trans k3σ_16.1, (mcσ_19 3721).trans k3σ_16.2⟩
      have k4σ_19 : 1 ≤ m_c X σ_19 a 3724 + 10 * (σ_19.1 a 12).toInt := (by have := mcσ_19 3724; omega)
      have smσ_19 : 0 ≤ (σ_19.1 a 15).toInt ∧ (σ_19.1 a 15).toInt ≤ (σ_19.1 a 16).toInt ∧ (σ_19.1 a 16).toInt ≤ (σ_19.1 a 9).toInt ∧ (σ_19.1 a 9).toInt ≤ 900 ∧ 0 ≤ (σ_19.1 a 14).toInt ∧ (σ_19.1 a 14).toInt ≤ 4 ∧ (σ_19.1 a 14).toInt ≤ 4 * ((σ_19.1 a 16).toInt - (σ_19.1 a 15).toInt) ∧ (σ_19.1 a 14).toInt ≤ 4 * ((σ_19.1 a 9).toInt - (σ_19.1 a 15).toInt) ∧ 0 ≤ (σ_19.1 a 12).toInt ∧ (σ_19.1 a 9).toInt = (σ.1 a 9).toInt ∧ (σ.1 a 15).toInt ≤ (σ_19.1 a 15).toInt ∧ (σ.1 a 12).toInt ≤ (σ_19.1 a 12).toInt := (by first | (rw [mv12_σ_19, mv14_σ_19, mv15_σ_19, mv16_σ_19, mv9_σ_19]; exact smσ_16) | omega)
      have beσ_19 : (σ_19.1 a 16).toInt = (σ.1 a 16).toInt := (by omega)
      clear mv9_σ_19 mv12_σ_19 mv14_σ_19 mv15_σ_19 mv16_σ_19 k4σ_16 smσ_16 beσ_16
      refine lv_aload_n hx hb dX12_readMost_29 rfl (lv_at hl 0 rfl) ?_
      refine q_cv (q_rV11_0 (rest := []) E (hml.trans hl.1.symm) hI (c_X12_next l X σ_19 a ha (by omega) (by omega) (by omega)) kv_X12_197 ha ⟨Nat.le_of_ble_eq_true rfl, Nat.le_of_ble_eq_true rfl⟩ (Nat.le_of_ble_eq_true rfl) dX12_readMost_30) hI (Nat.le_of_ble_eq_true rfl) (fun σ_21 H locs hpσ_21 hkσ_21 hI => ?_)
      have ahpσ_21 := hpσ_21.1
      have bhpσ_21 := hpσ_21.2.1
      have chpσ_21 := hpσ_21.2.2.1
      have dhpσ_21 := hpσ_21.2.2.2.1
      have ehpσ_21 := hpσ_21.2.2.2.2
      clear hpσ_21
      have fr_σ_21 := fr_σ_19.call ehpσ_21 rfl rfl
      replace hF := q_letX hF dhpσ_21
      have mcσ_21 := m_cK hkσ_21 hI.1 ha (by decide)
      have nnσ_21 : m_N (m_c X σ_21 a) := m_N.ext mcσ_21 nnσ_19
      have kpσ_21 : ∀ j, 0 ≤ j → j < 3720 → m_c X σ_21 a j = m_c X σ a j := fun j h0 h1 => (mcσ_21 j).trans (kpσ_19 j h0 h1)
      have k3σ_21 : m_c X σ_21 a 3720 = m_c X σ a 3720 ∧ m_c X σ_21 a 3721 = m_c X σ a 3721 := ⟨(mcσ_21 3720).trans k3σ_19.1, (mcσ_21 3721).trans k3σ_19.2⟩
      have k4σ_21 : 1 ≤ m_c X σ_21 a 3724 + 10 * (σ_21.1 a 12).toInt := (by have := mcσ_21 3724; omega)
      have smσ_21 : 0 ≤ (σ_21.1 a 15).toInt ∧ (σ_21.1 a 15).toInt ≤ (σ_21.1 a 16).toInt ∧ (σ_21.1 a 16).toInt ≤ (σ_21.1 a 9).toInt ∧ (σ_21.1 a 9).toInt ≤ 900 ∧ 0 ≤ (σ_21.1 a 14).toInt ∧ (σ_21.1 a 14).toInt ≤ 4 ∧ (σ_21.1 a 14).toInt ≤ 4 * ((σ_21.1 a 16).toInt - (σ_21.1 a 15).toInt) ∧ (σ_21.1 a 14).toInt ≤ 4 * ((σ_21.1 a 9).toInt - (σ_21.1 a 15).toInt) ∧ 0 ≤ (σ_21.1 a 12).toInt ∧ (σ_21.1 a 9).toInt = (σ.1 a 9).toInt ∧ (σ.1 a 15).toInt ≤ (σ_21.1 a 15).toInt ∧ (σ.1 a 12).toInt ≤ (σ_21.1 a 12).toInt := (by first | exact sm_nx smσ_19 bhpσ_21 chpσ_21 | omega)
      have onσ_21 : (σ.1 a 16).toInt ≤ (σ_21.1 a 15).toInt := (by omega)
      clear k4σ_19 smσ_19 bhpσ_21 chpσ_21
      refine lv_aload_n hx hb dX12_readMost_33 rfl (lv_at hl 0 rfl) ?_
      refine gs_X12_35_12 E hI ha dX12_readMost_34 ?_
      refine lv_sipush (v := 3724) hx hb dX12_readMost_37 zks_3724 ?_
      refine lv_aload_n hx hb dX12_readMost_40 rfl (lv_at hl 0 rfl) ?_
      refine lv_iconst (v := 1) hx hb dX12_readMost_41 zki_1 ?_
      refine lv_iconst (v := 4) hx hb dX12_readMost_42 zki_4 ?_
      have kc_22 : (1 : Int32).toInt = 1 := zt_1
      have kc_23 : (4 : Int32).toInt = 4 := zt_4
      refine q_ci (q_rV11_2 (rest := [.int 3724, .ref (q_rf X a 20)]) E (hml.trans hl.1.symm) hI (c_X12_count l X σ_21 a (1 : Int32) (4 : Int32) ha (by first | exact sm_9 smσ_21 | exact hs | omega) (by omega)) kv_X12_223 ha ⟨Nat.le_of_ble_eq_true rfl, Nat.le_of_ble_eq_true rfl⟩ (Nat.le_of_ble_eq_true rfl) dX12_readMost_43) hI (Nat.le_of_ble_eq_true rfl) (fun r_24 σ_25 H locs hpσ_25 hkσ_25 hI => ?_)
      have ahpσ_25 := hpσ_25.1
      have bhpσ_25 := hpσ_25.2.1
      have chpσ_25 := hpσ_25.2.2.1
      have dhpσ_25 := hpσ_25.2.2.2.1
      have ehpσ_25 := hpσ_25.2.2.2.2
      clear hpσ_25
      have fr_σ_25 := fr_σ_21.call ehpσ_25 rfl rfl
      replace hF := q_biX hF dhpσ_25
      have mcσ_25 := m_cK hkσ_25 hI.1 ha (by decide)
      have nnσ_25 : m_N (m_c X σ_25 a) := m_N.ext mcσ_25 nnσ_21
      have kpσ_25 : ∀ j, 0 ≤ j → j < 3720 → m_c X σ_25 a j = m_c X σ a j := fun j h0 h1 => (mcσ_25 j).trans (kpσ_21 j h0 h1)
      have k3σ_25 : m_c X σ_25 a 3720 = m_c X σ a 3720 ∧ m_c X σ_25 a 3721 = m_c X σ a 3721 := ⟨(mcσ_25 3720).trans k3σ_21.1, (mcσ_25 3721).trans k3σ_21.2⟩
      have k4σ_25 : 1 ≤ m_c X σ_25 a 3724 + 10 * (σ_25.1 a 12).toInt := (by have := mcσ_25 3724; omega)
      have smσ_25 : 0 ≤ (σ_25.1 a 15).toInt ∧ (σ_25.1 a 15).toInt ≤ (σ_25.1 a 16).toInt ∧ (σ_25.1 a 16).toInt ≤ (σ_25.1 a 9).toInt ∧ (σ_25.1 a 9).toInt ≤ 900 ∧ 0 ≤ (σ_25.1 a 14).toInt ∧ (σ_25.1 a 14).toInt ≤ 4 ∧ (σ_25.1 a 14).toInt ≤ 4 * ((σ_25.1 a 16).toInt - (σ_25.1 a 15).toInt) ∧ (σ_25.1 a 14).toInt ≤ 4 * ((σ_25.1 a 9).toInt - (σ_25.1 a 15).toInt) ∧ 0 ≤ (σ_25.1 a 12).toInt ∧ (σ_25.1 a 9).toInt = (σ.1 a 9).toInt ∧ (σ.1 a 15).toInt ≤ (σ_25.1 a 15).toInt ∧ (σ.1 a 12).toInt ≤ (σ_25.1 a 12).toInt := (by first | exact sm_tr smσ_21 bhpσ_25 | exact sm_tr smσ_21 chpσ_25 | omega)
      have onσ_25 : (σ.1 a 16).toInt ≤ (σ_25.1 a 15).toInt := (by omega)
      clear k4σ_21 smσ_21 onσ_21 bhpσ_25
      refine q_iastN E hI (q_tk (k' := 34) hI ha rfl (Nat.succ_ne_zero _)) ⟨by decide, rfl⟩ (by decide) (by rw [q_lnk (v := 4650) hI (q_tk (k' := 34) hI ha rfl (Nat.succ_ne_zero _)) rfl (by decide)]; decide) (show 1 < 2 by decide) (q_inU rfl) dX12_readMost_46 (fun H locs σ_26 hσ_26 hI => ?_)
      replace hF := q_letX hF hσ_26
      have fr_σ_26 := fr_σ_25.si hσ_26 (q_tk (k' := 34) hI ha rfl (Nat.succ_ne_zero _)) rfl
      have mv9_σ_26 : (σ_26.1 a 9).toInt = (σ_25.1 a 9).toInt := congrArg Int32.toInt (q_rdn hσ_26 (Or.inl (m_ne ha (q_tk (k' := 34) hI ha rfl (Nat.succ_ne_zero _)) (by decide))))
      have mv12_σ_26 : (σ_26.1 a 12).toInt = (σ_25.1 a 12).toInt := congrArg Int32.toInt (q_rdn hσ_26 (Or.inl (m_ne ha (q_tk (k' := 34) hI ha rfl (Nat.succ_ne_zero _)) (by decide))))
      have mv14_σ_26 : (σ_26.1 a 14).toInt = (σ_25.1 a 14).toInt := congrArg Int32.toInt (q_rdn hσ_26 (Or.inl (m_ne ha (q_tk (k' := 34) hI ha rfl (Nat.succ_ne_zero _)) (by decide))))
      have mv15_σ_26 : (σ_26.1 a 15).toInt = (σ_25.1 a 15).toInt := congrArg Int32.toInt (q_rdn hσ_26 (Or.inl (m_ne ha (q_tk (k' := 34) hI ha rfl (Nat.succ_ne_zero _)) (by decide))))
      have mv16_σ_26 : (σ_26.1 a 16).toInt = (σ_25.1 a 16).toInt := congrArg Int32.toInt (q_rdn hσ_26 (Or.inl (m_ne ha (q_tk (k' := 34) hI ha rfl (Nat.succ_ne_zero _)) (by decide))))
      have mcσ_26 := m_wr (v := r_24) (A := 3724) hσ_26 (by decide) (by decide)
      have nnσ_26 : m_N (m_c X σ_26 a) := m_N.wr nnσ_25 mcσ_26 (by omega)
      have kpσ_26 : ∀ j, 0 ≤ j → j < 3720 → m_c X σ_26 a j = m_c X σ a j := fun j h0 h1 => by rw [mcσ_26 j h0, if_neg (by omega)]; exact kpσ_25 j h0 h1
      have k3σ_26 : m_c X σ_26 a 3720 = m_c X σ a 3720 ∧ m_c X σ_26 a 3721 = m_c X σ a 3721 := ⟨by rw [mcσ_26 3720 (by decide), if_neg (by omega)]; exact k3σ_25.1, by rw [mcσ_26 3721 (by decide), if_neg (by omega)]; exact k3σ_25.2⟩
      have k4σ_26 : 1 ≤ m_c X σ_26 a 3724 + 10 * (σ_26.1 a 12).toInt := (by have := mcσ_26 3724 (by decide); rw [if_pos (by omega)] at this; omega)
      have smσ_26 : 0 ≤ (σ_26.1 a 15).toInt ∧ (σ_26.1 a 15).toInt ≤ (σ_26.1 a 16).toInt ∧ (σ_26.1 a 16).toInt ≤ (σ_26.1 a 9).toInt ∧ (σ_26.1 a 9).toInt ≤ 900 ∧ 0 ≤ (σ_26.1 a 14).toInt ∧ (σ_26.1 a 14).toInt ≤ 4 ∧ (σ_26.1 a 14).toInt ≤ 4 * ((σ_26.1 a 16).toInt - (σ_26.1 a 15).toInt) ∧ (σ_26.1 a 14).toInt ≤ 4 * ((σ_26.1 a 9).toInt - (σ_26.1 a 15).toInt) ∧ 0 ≤ (σ_26.1 a 12).toInt ∧ (σ_26.1 a 9).toInt = (σ.1 a 9).toInt ∧ (σ.1 a 15).toInt ≤ (σ_26.1 a 15).toInt ∧ (σ.1 a 12).toInt ≤ (σ_26.1 a 12).toInt := (by first | (rw [mv12_σ_26, mv14_σ_26, mv15_σ_26, mv16_σ_26, mv9_σ_26]; exact smσ_25) | omega)
      have onσ_26 : (σ.1 a 16).toInt ≤ (σ_26.1 a 15).toInt := (by omega)
      clear mv9_σ_26 mv12_σ_26 mv14_σ_26 mv15_σ_26 mv16_σ_26 k4σ_25 smσ_25 onσ_25
      exact q_retv E hr hlk hI ⟨nnσ_26, kpσ_26, (by first | exact smσ_26 | omega), (by first | exact smσ_26 | omega), k3σ_26, k4σ_26, (hF.trans hout), fr_σ_26⟩ dX12_readMost_47
    · skip
      replace hF := q_ifp hF c_18
      exact q_retv E hr hlk hI ⟨nnσ_16, kpσ_16, (by first | exact smσ_16 | omega), (by first | exact smσ_16 | omega), k3σ_16, k4σ_16, (hF.trans hout), fr_σ_16⟩ dX12_readMost_23
end
