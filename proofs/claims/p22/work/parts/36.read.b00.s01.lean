section
set_option maxRecDepth 100000 in
set_option maxHeartbeats 4000000 in
theorem c_X12_readLaw (l : Launch) (X : XW) (σ : ST) (a : Nat) (ha : q_kd X a = 12) (hs : 0 ≤ (σ.1 a 15).toInt ∧ (σ.1 a 15).toInt ≤ (σ.1 a 16).toInt ∧ (σ.1 a 16).toInt ≤ (σ.1 a 9).toInt ∧ (σ.1 a 9).toInt ≤ 900 ∧ 0 ≤ (σ.1 a 14).toInt ∧ (σ.1 a 14).toInt ≤ 4 ∧ (σ.1 a 14).toInt ≤ 4 * ((σ.1 a 16).toInt - (σ.1 a 15).toInt) ∧ (σ.1 a 14).toInt ≤ 4 * ((σ.1 a 9).toInt - (σ.1 a 15).toInt) ∧ 0 ≤ (σ.1 a 12).toInt) (hN : m_N (m_c X σ a)) (hz : (σ.1 a 12).toInt = 0) (hk : 2 ≤ m_c X σ a 3720) (h4 : 1 ≤ m_c X σ a 3724) : Met l yX12_readLaw (q_ws yX12_readLaw cX12_readLaw 1 none) (q_rm 3 63) (q_P X σ [.ref a]) (q_Qv X 1 σ (fun (σ' : ST) => (m_N (m_c X σ' a)) ∧ (∀ j, 0 ≤ j → j < 3720 → m_c X σ' a j = m_c X σ a j) ∧ (0 ≤ (σ'.1 a 15).toInt ∧ (σ'.1 a 15).toInt ≤ (σ'.1 a 16).toInt ∧ (σ'.1 a 16).toInt ≤ (σ'.1 a 9).toInt ∧ (σ'.1 a 9).toInt ≤ 900 ∧ 0 ≤ (σ'.1 a 14).toInt ∧ (σ'.1 a 14).toInt ≤ 4 ∧ (σ'.1 a 14).toInt ≤ 4 * ((σ'.1 a 16).toInt - (σ'.1 a 15).toInt) ∧ (σ'.1 a 14).toInt ≤ 4 * ((σ'.1 a 9).toInt - (σ'.1 a 15).toInt) ∧ 0 ≤ (σ'.1 a 12).toInt ∧ (σ'.1 a 9).toInt = (σ.1 a 9).toInt ∧ (σ.1 a 15).toInt ≤ (σ'.1 a 15).toInt ∧ (σ.1 a 12).toInt ≤ (σ'.1 a 12).toInt) ∧ ((σ.1 a 16).toInt ≤ (σ'.1 a 15).toInt + 1000 * (σ'.1 a 12).toInt) ∧ (m_c X σ' a 3720 = m_c X σ a 3720 ∧ m_c X σ' a 3721 = m_c X σ a 3721) ∧ (1 ≤ m_c X σ' a 3724 + 10 * (σ'.1 a 12).toInt) ∧ σ' = F_X12_readLaw X σ a ∧ q_ow [(12, 12), (12, 13), (12, 14), (12, 15), (12, 16), (12, 17), (12, 18), (12, 25), (34, 99)] [(12, 19)] X σ σ')) 0 0 (q_reg X) := by
  refine q_met 1 (by first | exact rfl | decide +kernel) rfl (Nat.le_of_ble_eq_true rfl) (fun p e s m below meth c E hml hr hlk hI ls hl => ?_)
  have hx := E.1
  have hb := E.2.1
  have hl : lv_has ls 1 [(0, .ref a)] := hl
  have nnσ : m_N (m_c X σ a) := hN
  have kpσ : ∀ j, 0 ≤ j → j < 3720 → m_c X σ a j = m_c X σ a j := fun _ _ _ => rfl
  have k3σ : m_c X σ a 3720 = m_c X σ a 3720 ∧ m_c X σ a 3721 = m_c X σ a 3721 := ⟨rfl, rfl⟩
  have k4σ : 1 ≤ m_c X σ a 3724 + 10 * (σ.1 a 12).toInt := (by first | (clear hs hk h4 k3σ; omega) | omega)
  have smσ : 0 ≤ (σ.1 a 15).toInt ∧ (σ.1 a 15).toInt ≤ (σ.1 a 16).toInt ∧ (σ.1 a 16).toInt ≤ (σ.1 a 9).toInt ∧ (σ.1 a 9).toInt ≤ 900 ∧ 0 ≤ (σ.1 a 14).toInt ∧ (σ.1 a 14).toInt ≤ 4 ∧ (σ.1 a 14).toInt ≤ 4 * ((σ.1 a 16).toInt - (σ.1 a 15).toInt) ∧ (σ.1 a 14).toInt ≤ 4 * ((σ.1 a 9).toInt - (σ.1 a 15).toInt) ∧ 0 ≤ (σ.1 a 12).toInt ∧ (σ.1 a 9).toInt = (σ.1 a 9).toInt ∧ (σ.1 a 15).toInt ≤ (σ.1 a 15).toInt ∧ (σ.1 a 12).toInt ≤ (σ.1 a 12).toInt := (by first | (clear hk h4 k3σ k4σ; omega) | omega)
  have beσ : (σ.1 a 16).toInt = (σ.1 a 16).toInt := rfl
  have fr_σ : q_ow [(12, 12), (12, 13), (12, 14), (12, 15), (12, 16), (12, 17), (12, 18), (12, 25), (34, 99)] [(12, 19)] X σ σ := q_ow.rf
  obtain ⟨out, hout⟩ : ∃ o, o = F_X12_readLaw X σ a := ⟨_, rfl⟩
  have hF := hout.symm
  unfold F_X12_readLaw at hF
  refine lv_aload_n hx hb dX12_readLaw_0 rfl (lv_at hl 0 rfl) ?_
  refine gs_X12_232_12 E hI ha dX12_readLaw_1 ?_
  refine lv_topi (fun f_1 ef_1 => ?_)
  replace hF := q_letX hF ef_1
  have if_1 : f_1.toInt = (σ.1 a 25).toInt := congrArg Int32.toInt ef_1
  have bf_1 : 0 ≤ f_1.toInt ∧ f_1.toInt ≤ 1 := by rw [ef_1]; exact q_bd hI ha rfl
  refine q_if_eq (A := f_1.toInt) E rfl (tgt := 16) dX12_readLaw_4 (by decide) (fun c_2 => ?_) (fun c_2 => ?_)
  · skip
    replace hF := q_ifp hF c_2
    refine lv_aload_n hx hb dX12_readLaw_16 rfl (lv_at hl 0 rfl) ?_
    refine gs_X12_187_12 E hI ha dX12_readLaw_17 ?_
    refine lv_topi (fun f_3 ef_3 => ?_)
    replace hF := q_letX hF ef_3
    have if_3 : f_3.toInt = (σ.1 a 12).toInt := congrArg Int32.toInt ef_3
    refine q_if_le (A := f_3.toInt) E rfl (tgt := 24) dX12_readLaw_20 (by decide) (fun c_4 => ?_) (fun c_4 => ?_)
    · skip
      replace hF := q_ifn hF (Int.not_lt.mpr c_4)
      refine lv_aload_n hx hb dX12_readLaw_24 rfl (lv_at hl 0 rfl) ?_
      refine lv_iconst (v := 1) hx hb dX12_readLaw_25 zki_1 ?_
      refine ps_X12_232_12 E hI ha (by decide) (by decide) (by decide) dX12_readLaw_26 (fun H locs σ_5 hσ_5 hI => ?_)
      replace hF := q_letX hF hσ_5
      have fr_σ_5 := fr_σ.si hσ_5 ha rfl
      have mv9_σ_5 : (σ_5.1 a 9).toInt = (σ.1 a 9).toInt := congrArg Int32.toInt (q_rdn hσ_5 (Or.inr (by decide)))
      have mv12_σ_5 : (σ_5.1 a 12).toInt = (σ.1 a 12).toInt := congrArg Int32.toInt (q_rdn hσ_5 (Or.inr (by decide)))
      have mv14_σ_5 : (σ_5.1 a 14).toInt = (σ.1 a 14).toInt := congrArg Int32.toInt (q_rdn hσ_5 (Or.inr (by decide)))
      have mv15_σ_5 : (σ_5.1 a 15).toInt = (σ.1 a 15).toInt := congrArg Int32.toInt (q_rdn hσ_5 (Or.inr (by decide)))
      have mv16_σ_5 : (σ_5.1 a 16).toInt = (σ.1 a 16).toInt := congrArg Int32.toInt (q_rdn hσ_5 (Or.inr (by decide)))
      have mcσ_5 := m_wo hσ_5 (m_ne ha (q_tk (f := 20) (k' := 34) hI ha rfl (by decide)) (by decide))
      have nnσ_5 : m_N (m_c X σ_5 a) := m_N.ext mcσ_5 nnσ
      have kpσ_5 : ∀ j, 0 ≤ j → j < 3720 → m_c X σ_5 a j = m_c X σ a j := fun j h0 h1 => (mcσ_5 j).trans (kpσ j h0 h1)
      have k3σ_5 : m_c X σ_5 a 3720 = m_c X σ a 3720 ∧ m_c X σ_5 a 3721 = m_c X σ a 3721 := ⟨(mcσ_5 3720).trans k3σ.1, (mcσ_5 3721).trans k3σ.2⟩
      have k4σ_5 : 1 ≤ m_c X σ_5 a 3724 + 10 * (σ_5.1 a 12).toInt := (by have := mcσ_5 3724; omega)
      have smσ_5 : 0 ≤ (σ_5.1 a 15).toInt ∧ (σ_5.1 a 15).toInt ≤ (σ_5.1 a 16).toInt ∧ (σ_5.1 a 16).toInt ≤ (σ_5.1 a 9).toInt ∧ (σ_5.1 a 9).toInt ≤ 900 ∧ 0 ≤ (σ_5.1 a 14).toInt ∧ (σ_5.1 a 14).toInt ≤ 4 ∧ (σ_5.1 a 14).toInt ≤ 4 * ((σ_5.1 a 16).toInt - (σ_5.1 a 15).toInt) ∧ (σ_5.1 a 14).toInt ≤ 4 * ((σ_5.1 a 9).toInt - (σ_5.1 a 15).toInt) ∧ 0 ≤ (σ_5.1 a 12).toInt ∧ (σ_5.1 a 9).toInt = (σ.1 a 9).toInt ∧ (σ.1 a 15).toInt ≤ (σ_5.1 a 15).toInt ∧ (σ.1 a 12).toInt ≤ (σ_5.1 a 12).toInt := (by first | (rw [mv12_σ_5, mv14_σ_5, mv15_σ_5, mv16_σ_5, mv9_σ_5]; exact smσ) | omega)
      have beσ_5 : (σ_5.1 a 16).toInt = (σ.1 a 16).toInt := (by omega)
      clear mv9_σ_5 mv12_σ_5 mv14_σ_5 mv15_σ_5 mv16_σ_5 k4σ smσ beσ
      refine lv_aload_n hx hb dX12_readLaw_29 rfl (lv_at hl 0 rfl) ?_
      refine q_cv (q_rV11_0 (rest := []) E (hml.trans hl.1.symm) hI (c_X12_next l X σ_5 a ha (by first | (clear hz hk h4 k3σ if_1 bf_1 c_2 if_3 c_4 k3σ_5 k4σ_5 smσ_5; omega) | omega) (by first | (clear hs hz hk h4 k3σ if_1 bf_1 c_2 if_3 c_4 k3σ_5 k4σ_5 beσ_5; omega) | omega) (by first | (clear hz hk h4 k3σ if_1 bf_1 c_2 if_3 c_4 k3σ_5 k4σ_5 beσ_5; omega) | omega)) kv_X12_197 ha ⟨Nat.le_of_ble_eq_true rfl, Nat.le_of_ble_eq_true rfl⟩ (Nat.le_of_ble_eq_true rfl) dX12_readLaw_30) hI (Nat.le_of_ble_eq_true rfl) (fun σ_7 H locs hpσ_7 hkσ_7 hI => ?_)
      have ahpσ_7 := hpσ_7.1
      have bhpσ_7 := hpσ_7.2.1
      have chpσ_7 := hpσ_7.2.2.1
      have dhpσ_7 := hpσ_7.2.2.2.1
      have ehpσ_7 := hpσ_7.2.2.2.2
      clear hpσ_7
      have fr_σ_7 := fr_σ_5.call ehpσ_7 rfl rfl
      replace hF := q_letX hF dhpσ_7
      have mcσ_7 := m_cK hkσ_7 hI.1 ha (by decide)
      have nnσ_7 : m_N (m_c X σ_7 a) := m_N.ext mcσ_7 nnσ_5
      have kpσ_7 : ∀ j, 0 ≤ j → j < 3720 → m_c X σ_7 a j = m_c X σ a j := fun j h0 h1 => (mcσ_7 j).trans (kpσ_5 j h0 h1)
      have k3σ_7 : m_c X σ_7 a 3720 = m_c X σ a 3720 ∧ m_c X σ_7 a 3721 = m_c X σ a 3721 := ⟨(mcσ_7 3720).trans k3σ_5.1, (mcσ_7 3721).trans k3σ_5.2⟩
      have k4σ_7 : 1 ≤ m_c X σ_7 a 3724 + 10 * (σ_7.1 a 12).toInt := (by have := mcσ_7 3724; omega)
      have smσ_7 : 0 ≤ (σ_7.1 a 15).toInt ∧ (σ_7.1 a 15).toInt ≤ (σ_7.1 a 16).toInt ∧ (σ_7.1 a 16).toInt ≤ (σ_7.1 a 9).toInt ∧ (σ_7.1 a 9).toInt ≤ 900 ∧ 0 ≤ (σ_7.1 a 14).toInt ∧ (σ_7.1 a 14).toInt ≤ 4 ∧ (σ_7.1 a 14).toInt ≤ 4 * ((σ_7.1 a 16).toInt - (σ_7.1 a 15).toInt) ∧ (σ_7.1 a 14).toInt ≤ 4 * ((σ_7.1 a 9).toInt - (σ_7.1 a 15).toInt) ∧ 0 ≤ (σ_7.1 a 12).toInt ∧ (σ_7.1 a 9).toInt = (σ.1 a 9).toInt ∧ (σ.1 a 15).toInt ≤ (σ_7.1 a 15).toInt ∧ (σ.1 a 12).toInt ≤ (σ_7.1 a 12).toInt := (by first | exact sm_nx smσ_5 bhpσ_7 chpσ_7 | omega)
      have onσ_7 : (σ.1 a 16).toInt ≤ (σ_7.1 a 15).toInt := (by first | (clear hs hz hk h4 k3σ if_1 bf_1 c_2 if_3 c_4 k3σ_5 k4σ_5 smσ_5 ahpσ_7 bhpσ_7 dhpσ_7 ehpσ_7 k3σ_7 k4σ_7 smσ_7; omega) | omega)
      clear k4σ_5 smσ_5 bhpσ_7 chpσ_7
      refine lv_aload_n hx hb dX12_readLaw_33 rfl (lv_at hl 0 rfl) ?_
      refine gs_X12_35_12 E hI ha dX12_readLaw_34 ?_
      refine lv_sipush (v := 3723) hx hb dX12_readLaw_37 zks_3723 ?_
      refine lv_iconst (v := 0) hx hb dX12_readLaw_40 zki_0 ?_
      refine lv_aload_n hx hb dX12_readLaw_41 rfl (lv_at hl 0 rfl) ?_
      refine q_ci (q_rV11_0 (rest := [.int 0, .int 3723, .ref (q_rf X a 20)]) E (hml.trans hl.1.symm) hI (c_X12_lawWord l X σ_7 a ha) kv_X12_171 ha ⟨Nat.le_of_ble_eq_true rfl, Nat.le_of_ble_eq_true rfl⟩ (Nat.le_of_ble_eq_true rfl) dX12_readLaw_42) hI (Nat.le_of_ble_eq_true rfl) (fun r_8 σ_9 H locs hpσ_9 hkσ_9 hI => ?_)
      have ahpσ_9 := hpσ_9.1
      have bhpσ_9 := hpσ_9.2.1
      have chpσ_9 := hpσ_9.2.2
      clear hpσ_9
      replace hI := q_Irw ahpσ_9 hI
      replace hF := q_letX hF chpσ_9
      have kc_10 : (0 : Int32).toInt = 0 := zt_0
      refine q_ci (q_runS (As := [.int 0, .int r_8]) (rest := [.int 3723, .ref (q_rf X a 20)]) E (hml.trans hl.1.symm) hI (c_J9_max_7cf53 l X σ_7 (0 : Int32) r_8) ks_X12_220 rfl ⟨Nat.le_of_ble_eq_true rfl, Nat.le_of_ble_eq_true rfl⟩ ⟨Nat.le_refl _, Nat.le_refl _⟩ rfl (Nat.le_of_ble_eq_true rfl) dX12_readLaw_45) hI (Nat.le_of_ble_eq_true rfl) (fun r_11 σ_12 H locs hpσ_12 hkσ_12 hI => ?_)
      have ahpσ_12 := hpσ_12.1
      have bhpσ_12 := hpσ_12.2.1
      have chpσ_12 := hpσ_12.2.2
      clear hpσ_12
      replace hI := q_Irw ahpσ_12 hI
      replace hF := q_letX hF chpσ_12
      refine q_iastN E hI (q_tk (k' := 34) hI ha rfl (Nat.succ_ne_zero _)) ⟨by decide, rfl⟩ (by decide) (by rw [q_lnk (v := 4650) hI (q_tk (k' := 34) hI ha rfl (Nat.succ_ne_zero _)) rfl (by decide)]; decide) (show 1 < 2 by decide) (q_inU rfl) dX12_readLaw_48 (fun H locs σ_13 hσ_13 hI => ?_)
      replace hF := q_letX hF hσ_13
      have fr_σ_13 := fr_σ_7.si hσ_13 (q_tk (k' := 34) hI ha rfl (Nat.succ_ne_zero _)) rfl
      have mv9_σ_13 : (σ_13.1 a 9).toInt = (σ_7.1 a 9).toInt := congrArg Int32.toInt (q_rdn hσ_13 (Or.inl (m_ne ha (q_tk (k' := 34) hI ha rfl (Nat.succ_ne_zero _)) (by decide))))
      have mv12_σ_13 : (σ_13.1 a 12).toInt = (σ_7.1 a 12).toInt := congrArg Int32.toInt (q_rdn hσ_13 (Or.inl (m_ne ha (q_tk (k' := 34) hI ha rfl (Nat.succ_ne_zero _)) (by decide))))
      have mv14_σ_13 : (σ_13.1 a 14).toInt = (σ_7.1 a 14).toInt := congrArg Int32.toInt (q_rdn hσ_13 (Or.inl (m_ne ha (q_tk (k' := 34) hI ha rfl (Nat.succ_ne_zero _)) (by decide))))
      have mv15_σ_13 : (σ_13.1 a 15).toInt = (σ_7.1 a 15).toInt := congrArg Int32.toInt (q_rdn hσ_13 (Or.inl (m_ne ha (q_tk (k' := 34) hI ha rfl (Nat.succ_ne_zero _)) (by decide))))
      have mv16_σ_13 : (σ_13.1 a 16).toInt = (σ_7.1 a 16).toInt := congrArg Int32.toInt (q_rdn hσ_13 (Or.inl (m_ne ha (q_tk (k' := 34) hI ha rfl (Nat.succ_ne_zero _)) (by decide))))
      have mcσ_13 := m_wr (v := r_11) (A := 3723) hσ_13 (by decide) (by decide)
      have nnσ_13 : m_N (m_c X σ_13 a) := m_N.wr nnσ_7 mcσ_13 (by first | (clear hs hz hk h4 k3σ if_1 bf_1 c_2 if_3 c_4 k3σ_5 beσ_5 ahpσ_7 dhpσ_7 ehpσ_7 k3σ_7 k4σ_7 smσ_7 onσ_7 ahpσ_9 chpσ_9 ahpσ_12 chpσ_12 mv9_σ_13 mv12_σ_13 mv14_σ_13 mv15_σ_13 mv16_σ_13; omega) | omega)
      have kpσ_13 : ∀ j, 0 ≤ j → j < 3720 → m_c X σ_13 a j = m_c X σ a j := fun j h0 h1 => by rw [mcσ_13 j h0, if_neg (by first | (clear hs hz hk h4 k3σ if_1 bf_1 c_2 if_3 c_4 k3σ_5 beσ_5 ahpσ_7 dhpσ_7 ehpσ_7 k3σ_7 k4σ_7 smσ_7 onσ_7 ahpσ_9 bhpσ_9 chpσ_9 kc_10 ahpσ_12 bhpσ_12 chpσ_12 mv9_σ_13 mv12_σ_13 mv14_σ_13 mv15_σ_13 mv16_σ_13; omega) | omega)]; exact kpσ_7 j h0 h1
      have k3σ_13 : m_c X σ_13 a 3720 = m_c X σ a 3720 ∧ m_c X σ_13 a 3721 = m_c X σ a 3721 := ⟨by rw [mcσ_13 3720 (by decide), if_neg (by first | (clear hs hz hk h4 k3σ if_1 bf_1 c_2 if_3 c_4 k3σ_5 beσ_5 ahpσ_7 dhpσ_7 ehpσ_7 k3σ_7 k4σ_7 smσ_7 onσ_7 ahpσ_9 bhpσ_9 chpσ_9 kc_10 ahpσ_12 bhpσ_12 chpσ_12 mv9_σ_13 mv12_σ_13 mv14_σ_13 mv15_σ_13 mv16_σ_13; omega) | omega)]; exact k3σ_7.1, by rw [mcσ_13 3721 (by decide), if_neg (by first | (clear hs hz hk h4 k3σ if_1 bf_1 c_2 if_3 c_4 k3σ_5 beσ_5 ahpσ_7 dhpσ_7 ehpσ_7 k3σ_7 k4σ_7 smσ_7 onσ_7 ahpσ_9 bhpσ_9 chpσ_9 kc_10 ahpσ_12 bhpσ_12 chpσ_12 mv9_σ_13 mv12_σ_13 mv14_σ_13 mv15_σ_13 mv16_σ_13; omega) | omega)]; exact k3σ_7.2⟩
      have k4σ_13 : 1 ≤ m_c X σ_13 a 3724 + 10 * (σ_13.1 a 12).toInt := (by have := mcσ_13 3724 (by decide); rw [if_neg (by first | (clear hs hz hk h4 k3σ if_1 bf_1 c_2 if_3 c_4 k3σ_5 beσ_5 ahpσ_7 dhpσ_7 ehpσ_7 k3σ_7 k4σ_7 smσ_7 onσ_7 ahpσ_9 bhpσ_9 chpσ_9 kc_10 ahpσ_12 bhpσ_12 chpσ_12 mv9_σ_13 mv12_σ_13 mv14_σ_13 mv15_σ_13 mv16_σ_13 k3σ_13; omega) | omega)] at this; omega)
      have smσ_13 : 0 ≤ (σ_13.1 a 15).toInt ∧ (σ_13.1 a 15).toInt ≤ (σ_13.1 a 16).toInt ∧ (σ_13.1 a 16).toInt ≤ (σ_13.1 a 9).toInt ∧ (σ_13.1 a 9).toInt ≤ 900 ∧ 0 ≤ (σ_13.1 a 14).toInt ∧ (σ_13.1 a 14).toInt ≤ 4 ∧ (σ_13.1 a 14).toInt ≤ 4 * ((σ_13.1 a 16).toInt - (σ_13.1 a 15).toInt) ∧ (σ_13.1 a 14).toInt ≤ 4 * ((σ_13.1 a 9).toInt - (σ_13.1 a 15).toInt) ∧ 0 ≤ (σ_13.1 a 12).toInt ∧ (σ_13.1 a 9).toInt = (σ.1 a 9).toInt ∧ (σ.1 a 15).toInt ≤ (σ_13.1 a 15).toInt ∧ (σ.1 a 12).toInt ≤ (σ_13.1 a 12).toInt := (by first | (rw [mv12_σ_13, mv14_σ_13, mv15_σ_13, mv16_σ_13, mv9_σ_13]; exact smσ_7) | omega)
      have onσ_13 : (σ.1 a 16).toInt ≤ (σ_13.1 a 15).toInt := (by first | (clear hs hz hk h4 k3σ if_1 bf_1 c_2 if_3 c_4 k3σ_5 ahpσ_7 dhpσ_7 ehpσ_7 k3σ_7 k4σ_7 smσ_7 ahpσ_9 bhpσ_9 chpσ_9 kc_10 ahpσ_12 bhpσ_12 chpσ_12 mv9_σ_13 mv12_σ_13 mv14_σ_13 mv16_σ_13 k3σ_13 k4σ_13 smσ_13; omega) | omega)
      clear mv9_σ_13 mv12_σ_13 mv14_σ_13 mv15_σ_13 mv16_σ_13 k4σ_7 smσ_7 onσ_7
      refine lv_aload_n hx hb dX12_readLaw_49 rfl (lv_at hl 0 rfl) ?_
      refine lv_aload_n hx hb dX12_readLaw_50 rfl (lv_at hl 0 rfl) ?_
      refine q_ci (q_rV11_0 (rest := [.ref a]) E (hml.trans hl.1.symm) hI (c_X12_lawWord l X σ_13 a ha) kv_X12_171 ha ⟨Nat.le_of_ble_eq_true rfl, Nat.le_of_ble_eq_true rfl⟩ (Nat.le_of_ble_eq_true rfl) dX12_readLaw_51) hI (Nat.le_of_ble_eq_true rfl) (fun r_14 σ_15 H locs hpσ_15 hkσ_15 hI => ?_)
      have ahpσ_15 := hpσ_15.1
      have bhpσ_15 := hpσ_15.2.1
      have chpσ_15 := hpσ_15.2.2
      clear hpσ_15
      replace hI := q_Irw ahpσ_15 hI
      replace hF := q_letX hF chpσ_15
      refine q_if_lt (A := r_14.toInt) E rfl (tgt := 61) dX12_readLaw_54 (by decide) (fun c_16 => ?_) (fun c_16 => ?_)
      · skip
        replace hF := q_ifp hF c_16
        refine lv_iconst (v := 0) hx hb dX12_readLaw_61 zki_0 ?_
        have kc_17 : (0 : Int32).toInt = 0 := zt_0
        refine q_cv (q_rV11_1 (rest := []) E (hml.trans hl.1.symm) hI (c_X12_must l X σ_13 a (0 : Int32) ha (by first | exact sm_9 smσ_13 | exact hs | omega) (by first | (clear hs hz hk h4 k3σ if_1 bf_1 c_2 if_3 c_4 k3σ_5 beσ_5 ahpσ_7 dhpσ_7 ehpσ_7 k3σ_7 ahpσ_9 bhpσ_9 chpσ_9 ahpσ_12 bhpσ_12 chpσ_12 k3σ_13 k4σ_13 smσ_13 onσ_13 ahpσ_15 bhpσ_15 chpσ_15 c_16 kc_17; omega) | omega)) kv_X12_216 ha ⟨Nat.le_of_ble_eq_true rfl, Nat.le_of_ble_eq_true rfl⟩ (Nat.le_of_ble_eq_true rfl) dX12_readLaw_62) hI (Nat.le_of_ble_eq_true rfl) (fun σ_19 H locs hpσ_19 hkσ_19 hI => ?_)
        have ahpσ_19 := hpσ_19.1
        have bhpσ_19 := hpσ_19.2.1
        have chpσ_19 := hpσ_19.2.2.1
        have dhpσ_19 := hpσ_19.2.2.2.1
        have ehpσ_19 := hpσ_19.2.2.2.2
        clear hpσ_19
        have fr_σ_19 := fr_σ_13.call ehpσ_19 rfl rfl
        replace hF := q_letX hF dhpσ_19
        have mcσ_19 := m_cK hkσ_19 hI.1 ha (by decide)
        have nnσ_19 : m_N (m_c X σ_19 a) := m_N.ext mcσ_19 nnσ_13
        have kpσ_19 : ∀ j, 0 ≤ j → j < 3720 → m_c X σ_19 a j = m_c X σ a j := fun j h0 h1 => (mcσ_19 j).trans (kpσ_13 j h0 h1)
        have k3σ_19 : m_c X σ_19 a 3720 = m_c X σ a 3720 ∧ m_c X σ_19 a 3721 = m_c X σ a 3721 := ⟨(mcσ_19 3720).trans k3σ_13.1, (mcσ_19 3721).trans k3σ_13.2⟩
        have k4σ_19 : 1 ≤ m_c X σ_19 a 3724 + 10 * (σ_19.1 a 12).toInt := (by have := mcσ_19 3724; omega)
        have smσ_19 : 0 ≤ (σ_19.1 a 15).toInt ∧ (σ_19.1 a 15).toInt ≤ (σ_19.1 a 16).toInt ∧ (σ_19.1 a 16).toInt ≤ (σ_19.1 a 9).toInt ∧ (σ_19.1 a 9).toInt ≤ 900 ∧ 0 ≤ (σ_19.1 a 14).toInt ∧ (σ_19.1 a 14).toInt ≤ 4 ∧ (σ_19.1 a 14).toInt ≤ 4 * ((σ_19.1 a 16).toInt - (σ_19.1 a 15).toInt) ∧ (σ_19.1 a 14).toInt ≤ 4 * ((σ_19.1 a 9).toInt - (σ_19.1 a 15).toInt) ∧ 0 ≤ (σ_19.1 a 12).toInt ∧ (σ_19.1 a 9).toInt = (σ.1 a 9).toInt ∧ (σ.1 a 15).toInt ≤ (σ_19.1 a 15).toInt ∧ (σ.1 a 12).toInt ≤ (σ_19.1 a 12).toInt := (by first | exact sm_tr smσ_13 bhpσ_19 | exact sm_tr smσ_13 chpσ_19 | omega)
        have onσ_19 : (σ.1 a 16).toInt ≤ (σ_19.1 a 15).toInt := (by first | (clear hs hz hk h4 k3σ if_1 bf_1 c_2 if_3 c_4 k3σ_5 ahpσ_7 dhpσ_7 ehpσ_7 k3σ_7 ahpσ_9 bhpσ_9 chpσ_9 kc_10 ahpσ_12 bhpσ_12 chpσ_12 k3σ_13 k4σ_13 smσ_13 ahpσ_15 bhpσ_15 chpσ_15 c_16 kc_17 ahpσ_19 chpσ_19 dhpσ_19 ehpσ_19 k3σ_19 k4σ_19 smσ_19; omega) | omega)
        clear k4σ_13 smσ_13 onσ_13 bhpσ_19
        exact q_retv E hr hlk hI ⟨nnσ_19, kpσ_19, (by first | exact smσ_19 | omega), (by first | exact smσ_19 | omega), k3σ_19, k4σ_19, (hF.trans hout), fr_σ_19⟩ dX12_readLaw_65
      · skip
        replace hF := q_ifn hF (Int.not_lt.mpr c_16)
        refine lv_iconst (v := 1) hx hb dX12_readLaw_57 zki_1 ?_
        refine lv_goto (tgt := 62) hx hb dX12_readLaw_58 (by decide) ?_
        have kc_20 : (1 : Int32).toInt = 1 := zt_1
        refine q_cv (q_rV11_1 (rest := []) E (hml.trans hl.1.symm) hI (c_X12_must l X σ_13 a (1 : Int32) ha (by first | exact sm_9 smσ_13 | exact hs | omega) (by first | (clear hs hk h4 k3σ if_1 bf_1 c_2 k3σ_5 beσ_5 ahpσ_7 dhpσ_7 ehpσ_7 k3σ_7 ahpσ_9 bhpσ_9 chpσ_9 kc_10 ahpσ_12 bhpσ_12 chpσ_12 k3σ_13 ahpσ_15 bhpσ_15 chpσ_15 c_16; omega) | omega)) kv_X12_216 ha ⟨Nat.le_of_ble_eq_true rfl, Nat.le_of_ble_eq_true rfl⟩ (Nat.le_of_ble_eq_true rfl) dX12_readLaw_62) hI (Nat.le_of_ble_eq_true rfl) (fun σ_22 H locs hpσ_22 hkσ_22 hI => ?_)
        have ahpσ_22 := hpσ_22.1
        have bhpσ_22 := hpσ_22.2.1
        have chpσ_22 := hpσ_22.2.2.1
        have dhpσ_22 := hpσ_22.2.2.2.1
        have ehpσ_22 := hpσ_22.2.2.2.2
        clear hpσ_22
        have fr_σ_22 := fr_σ_13.call ehpσ_22 rfl rfl
        replace hF := q_letX hF dhpσ_22
        have mcσ_22 := m_cK hkσ_22 hI.1 ha (by decide)
        have nnσ_22 : m_N (m_c X σ_22 a) := m_N.ext mcσ_22 nnσ_13
        have kpσ_22 : ∀ j, 0 ≤ j → j < 3720 → m_c X σ_22 a j = m_c X σ a j := fun j h0 h1 => (mcσ_22 j).trans (kpσ_13 j h0 h1)
        have k3σ_22 : m_c X σ_22 a 3720 = m_c X σ a 3720 ∧ m_c X σ_22 a 3721 = m_c X σ a 3721 := ⟨(mcσ_22 3720).trans k3σ_13.1, (mcσ_22 3721).trans k3σ_13.2⟩
        have k4σ_22 : 1 ≤ m_c X σ_22 a 3724 + 10 * (σ_22.1 a 12).toInt := (by have := mcσ_22 3724; omega)
        have smσ_22 : 0 ≤ (σ_22.1 a 15).toInt ∧ (σ_22.1 a 15).toInt ≤ (σ_22.1 a 16).toInt ∧ (σ_22.1 a 16).toInt ≤ (σ_22.1 a 9).toInt ∧ (σ_22.1 a 9).toInt ≤ 900 ∧ 0 ≤ (σ_22.1 a 14).toInt ∧ (σ_22.1 a 14).toInt ≤ 4 ∧ (σ_22.1 a 14).toInt ≤ 4 * ((σ_22.1 a 16).toInt - (σ_22.1 a 15).toInt) ∧ (σ_22.1 a 14).toInt ≤ 4 * ((σ_22.1 a 9).toInt - (σ_22.1 a 15).toInt) ∧ 0 ≤ (σ_22.1 a 12).toInt ∧ (σ_22.1 a 9).toInt = (σ.1 a 9).toInt ∧ (σ.1 a 15).toInt ≤ (σ_22.1 a 15).toInt ∧ (σ.1 a 12).toInt ≤ (σ_22.1 a 12).toInt := (by first | exact sm_tr smσ_13 bhpσ_22 | exact sm_tr smσ_13 chpσ_22 | omega)
        have onσ_22 : (σ.1 a 16).toInt ≤ (σ_22.1 a 15).toInt := (by first | (clear hs hz hk h4 k3σ if_1 bf_1 c_2 if_3 c_4 k3σ_5 ahpσ_7 dhpσ_7 ehpσ_7 k3σ_7 ahpσ_9 bhpσ_9 chpσ_9 kc_10 ahpσ_12 bhpσ_12 chpσ_12 k3σ_13 ahpσ_15 bhpσ_15 chpσ_15 c_16 kc_20 ahpσ_22 chpσ_22 dhpσ_22 ehpσ_22 k3σ_22 k4σ_22 smσ_22; omega) | omega)
        clear k4σ_13 smσ_13 onσ_13 bhpσ_22
        exact q_retv E hr hlk hI ⟨nnσ_22, kpσ_22, (by first | exact smσ_22 | omega), (by first | exact smσ_22 | omega), k3σ_22, k4σ_22, (hF.trans hout), fr_σ_22⟩ dX12_readLaw_65
    · skip
      replace hF := q_ifp hF c_4
      exact q_retv E hr hlk hI ⟨nnσ, kpσ, (by first | exact smσ | omega), (by first | exact smσ | omega), k3σ, k4σ, (hF.trans hout), fr_σ⟩ dX12_readLaw_23
  · skip
    replace hF := q_ifn hF c_2
    refine lv_aload_n hx hb dX12_readLaw_7 rfl (lv_at hl 0 rfl) ?_
    refine lv_iconst (v := 5) hx hb dX12_readLaw_8 zki_5 ?_
    refine lv_aload_n hx hb dX12_readLaw_9 rfl (lv_at hl 0 rfl) ?_
    refine gs_X12_104_12 E hI ha dX12_readLaw_10 ?_
    refine lv_topi (fun f_23 ef_23 => ?_)
    replace hF := q_letX hF ef_23
    have if_23 : f_23.toInt = (σ.1 a 15).toInt := congrArg Int32.toInt ef_23
    have kc_24 : (5 : Int32).toInt = 5 := zt_5
    refine q_cv (q_rV11_2 (rest := []) E (hml.trans hl.1.symm) hI (c_X12_fail l X σ a (5 : Int32) f_23 ha (by first | (clear hs hk h4 k3σ if_1 bf_1 c_2 if_23 kc_24; omega) | omega) (by first | (clear hs hz hk h4 k3σ if_1 bf_1 c_2 if_23; omega) | omega)) kv_X12_193 ha ⟨Nat.le_of_ble_eq_true rfl, Nat.le_of_ble_eq_true rfl⟩ (Nat.le_of_ble_eq_true rfl) dX12_readLaw_13) hI (Nat.le_of_ble_eq_true rfl) (fun σ_26 H locs hpσ_26 hkσ_26 hI => ?_)
    have ahpσ_26 := hpσ_26.1
    have bhpσ_26 := hpσ_26.2.1
    have chpσ_26 := hpσ_26.2.2.1
    have dhpσ_26 := hpσ_26.2.2.2.1
    have ehpσ_26 := hpσ_26.2.2.2.2
    clear hpσ_26
    have fr_σ_26 := fr_σ.call ehpσ_26 rfl rfl
    replace hF := q_letX hF dhpσ_26
    have mcσ_26 := m_cK hkσ_26 hI.1 ha (by decide)
    have nnσ_26 : m_N (m_c X σ_26 a) := m_N.ext mcσ_26 nnσ
    have kpσ_26 : ∀ j, 0 ≤ j → j < 3720 → m_c X σ_26 a j = m_c X σ a j := fun j h0 h1 => (mcσ_26 j).trans (kpσ j h0 h1)
    have k3σ_26 : m_c X σ_26 a 3720 = m_c X σ a 3720 ∧ m_c X σ_26 a 3721 = m_c X σ a 3721 := ⟨(mcσ_26 3720).trans k3σ.1, (mcσ_26 3721).trans k3σ.2⟩
    have k4σ_26 : 1 ≤ m_c X σ_26 a 3724 + 10 * (σ_26.1 a 12).toInt := (by have := mcσ_26 3724; omega)
    have smσ_26 : 0 ≤ (σ_26.1 a 15).toInt ∧ (σ_26.1 a 15).toInt ≤ (σ_26.1 a 16).toInt ∧ (σ_26.1 a 16).toInt ≤ (σ_26.1 a 9).toInt ∧ (σ_26.1 a 9).toInt ≤ 900 ∧ 0 ≤ (σ_26.1 a 14).toInt ∧ (σ_26.1 a 14).toInt ≤ 4 ∧ (σ_26.1 a 14).toInt ≤ 4 * ((σ_26.1 a 16).toInt - (σ_26.1 a 15).toInt) ∧ (σ_26.1 a 14).toInt ≤ 4 * ((σ_26.1 a 9).toInt - (σ_26.1 a 15).toInt) ∧ 0 ≤ (σ_26.1 a 12).toInt ∧ (σ_26.1 a 9).toInt = (σ.1 a 9).toInt ∧ (σ.1 a 15).toInt ≤ (σ_26.1 a 15).toInt ∧ (σ.1 a 12).toInt ≤ (σ_26.1 a 12).toInt := (by first | exact sm_fl smσ bhpσ_26 chpσ_26 | omega)
    have beσ_26 : (σ_26.1 a 16).toInt = (σ.1 a 16).toInt := (by first | (clear hs hz hk h4 k3σ if_1 bf_1 c_2 if_23 kc_24 ahpσ_26 chpσ_26 dhpσ_26 ehpσ_26 k3σ_26 k4σ_26 smσ_26; omega) | omega)
    clear k4σ smσ beσ bhpσ_26
    refine lv_aload_n hx hb dX12_readLaw_16 rfl (lv_at hl 0 rfl) ?_
    refine gs_X12_187_12 E hI ha dX12_readLaw_17 ?_
    refine lv_topi (fun f_27 ef_27 => ?_)
    replace hF := q_letX hF ef_27
    have if_27 : f_27.toInt = (σ_26.1 a 12).toInt := congrArg Int32.toInt ef_27
    refine q_if_le (A := f_27.toInt) E rfl (tgt := 24) dX12_readLaw_20 (by decide) (fun c_28 => ?_) (fun c_28 => ?_)
    · skip
      replace hF := q_ifn hF (Int.not_lt.mpr c_28)
      refine lv_aload_n hx hb dX12_readLaw_24 rfl (lv_at hl 0 rfl) ?_
      refine lv_iconst (v := 1) hx hb dX12_readLaw_25 zki_1 ?_
      refine ps_X12_232_12 E hI ha (by decide) (by decide) (by decide) dX12_readLaw_26 (fun H locs σ_29 hσ_29 hI => ?_)
      replace hF := q_letX hF hσ_29
      have fr_σ_29 := fr_σ_26.si hσ_29 ha rfl
      have mv9_σ_29 : (σ_29.1 a 9).toInt = (σ_26.1 a 9).toInt := congrArg Int32.toInt (q_rdn hσ_29 (Or.inr (by decide)))
      have mv12_σ_29 : (σ_29.1 a 12).toInt = (σ_26.1 a 12).toInt := congrArg Int32.toInt (q_rdn hσ_29 (Or.inr (by decide)))
      have mv14_σ_29 : (σ_29.1 a 14).toInt = (σ_26.1 a 14).toInt := congrArg Int32.toInt (q_rdn hσ_29 (Or.inr (by decide)))
      have mv15_σ_29 : (σ_29.1 a 15).toInt = (σ_26.1 a 15).toInt := congrArg Int32.toInt (q_rdn hσ_29 (Or.inr (by decide)))
      have mv16_σ_29 : (σ_29.1 a 16).toInt = (σ_26.1 a 16).toInt := congrArg Int32.toInt (q_rdn hσ_29 (Or.inr (by decide)))
      have mcσ_29 := m_wo hσ_29 (m_ne ha (q_tk (f := 20) (k' := 34) hI ha rfl (by decide)) (by decide))
      have nnσ_29 : m_N (m_c X σ_29 a) := m_N.ext mcσ_29 nnσ_26
      have kpσ_29 : ∀ j, 0 ≤ j → j < 3720 → m_c X σ_29 a j = m_c X σ a j := fun j h0 h1 => (mcσ_29 j).trans (kpσ_26 j h0 h1)
      have k3σ_29 : m_c X σ_29 a 3720 = m_c X σ a 3720 ∧ m_c X σ_29 a 3721 = m_c X σ a 3721 := ⟨(mcσ_29 3720).trans k3σ_26.1, (mcσ_29 3721).trans k3σ_26.2⟩
      have k4σ_29 : 1 ≤ m_c X σ_29 a 3724 + 10 * (σ_29.1 a 12).toInt := (by have := mcσ_29 3724; omega)
      have smσ_29 : 0 ≤ (σ_29.1 a 15).toInt ∧ (σ_29.1 a 15).toInt ≤ (σ_29.1 a 16).toInt ∧ (σ_29.1 a 16).toInt ≤ (σ_29.1 a 9).toInt ∧ (σ_29.1 a 9).toInt ≤ 900 ∧ 0 ≤ (σ_29.1 a 14).toInt ∧ (σ_29.1 a 14).toInt ≤ 4 ∧ (σ_29.1 a 14).toInt ≤ 4 * ((σ_29.1 a 16).toInt - (σ_29.1 a 15).toInt) ∧ (σ_29.1 a 14).toInt ≤ 4 * ((σ_29.1 a 9).toInt - (σ_29.1 a 15).toInt) ∧ 0 ≤ (σ_29.1 a 12).toInt ∧ (σ_29.1 a 9).toInt = (σ.1 a 9).toInt ∧ (σ.1 a 15).toInt ≤ (σ_29.1 a 15).toInt ∧ (σ.1 a 12).toInt ≤ (σ_29.1 a 12).toInt := (by first | (rw [mv12_σ_29, mv14_σ_29, mv15_σ_29, mv16_σ_29, mv9_σ_29]; exact smσ_26) | omega)
      have beσ_29 : (σ_29.1 a 16).toInt = (σ.1 a 16).toInt := (by first | (clear hs hz hk h4 k3σ if_1 bf_1 c_2 if_23 kc_24 ahpσ_26 dhpσ_26 ehpσ_26 k3σ_26 k4σ_26 smσ_26 beσ_26 mv9_σ_29 mv12_σ_29 mv14_σ_29 mv15_σ_29 mv16_σ_29 k3σ_29 k4σ_29 smσ_29; omega) | omega)
      clear mv9_σ_29 mv12_σ_29 mv14_σ_29 mv15_σ_29 mv16_σ_29 k4σ_26 smσ_26 beσ_26
      refine lv_aload_n hx hb dX12_readLaw_29 rfl (lv_at hl 0 rfl) ?_
      refine q_cv (q_rV11_0 (rest := []) E (hml.trans hl.1.symm) hI (c_X12_next l X σ_29 a ha (by first | (clear hs hz hk h4 k3σ if_1 bf_1 c_2 if_23 kc_24 ahpσ_26 dhpσ_26 ehpσ_26 k3σ_26 k3σ_29 k4σ_29 smσ_29 beσ_29; omega) | omega) (by first | (clear hs hz hk h4 k3σ if_1 bf_1 c_2 if_23 kc_24 ahpσ_26 dhpσ_26 ehpσ_26 k3σ_26 k3σ_29 k4σ_29 smσ_29 beσ_29; omega) | omega) (by first | (clear hs hz hk h4 k3σ if_1 bf_1 c_2 if_23 kc_24 ahpσ_26 dhpσ_26 ehpσ_26 k3σ_26 k3σ_29 k4σ_29 smσ_29 beσ_29; omega) | omega)) kv_X12_197 ha ⟨Nat.le_of_ble_eq_true rfl, Nat.le_of_ble_eq_true rfl⟩ (Nat.le_of_ble_eq_true rfl) dX12_readLaw_30) hI (Nat.le_of_ble_eq_true rfl) (fun σ_31 H locs hpσ_31 hkσ_31 hI => ?_)
      have ahpσ_31 := hpσ_31.1
      have bhpσ_31 := hpσ_31.2.1
      have chpσ_31 := hpσ_31.2.2.1
      have dhpσ_31 := hpσ_31.2.2.2.1
      have ehpσ_31 := hpσ_31.2.2.2.2
      clear hpσ_31
      have fr_σ_31 := fr_σ_29.call ehpσ_31 rfl rfl
      replace hF := q_letX hF dhpσ_31
      have mcσ_31 := m_cK hkσ_31 hI.1 ha (by decide)
      have nnσ_31 : m_N (m_c X σ_31 a) := m_N.ext mcσ_31 nnσ_29
      have kpσ_31 : ∀ j, 0 ≤ j → j < 3720 → m_c X σ_31 a j = m_c X σ a j := fun j h0 h1 => (mcσ_31 j).trans (kpσ_29 j h0 h1)
      have k3σ_31 : m_c X σ_31 a 3720 = m_c X σ a 3720 ∧ m_c X σ_31 a 3721 = m_c X σ a 3721 := ⟨(mcσ_31 3720).trans k3σ_29.1, (mcσ_31 3721).trans k3σ_29.2⟩
      have k4σ_31 : 1 ≤ m_c X σ_31 a 3724 + 10 * (σ_31.1 a 12).toInt := (by have := mcσ_31 3724; omega)
      have smσ_31 : 0 ≤ (σ_31.1 a 15).toInt ∧ (σ_31.1 a 15).toInt ≤ (σ_31.1 a 16).toInt ∧ (σ_31.1 a 16).toInt ≤ (σ_31.1 a 9).toInt ∧ (σ_31.1 a 9).toInt ≤ 900 ∧ 0 ≤ (σ_31.1 a 14).toInt ∧ (σ_31.1 a 14).toInt ≤ 4 ∧ (σ_31.1 a 14).toInt ≤ 4 * ((σ_31.1 a 16).toInt - (σ_31.1 a 15).toInt) ∧ (σ_31.1 a 14).toInt ≤ 4 * ((σ_31.1 a 9).toInt - (σ_31.1 a 15).toInt) ∧ 0 ≤ (σ_31.1 a 12).toInt ∧ (σ_31.1 a 9).toInt = (σ.1 a 9).toInt ∧ (σ.1 a 15).toInt ≤ (σ_31.1 a 15).toInt ∧ (σ.1 a 12).toInt ≤ (σ_31.1 a 12).toInt := (by first | exact sm_nx smσ_29 bhpσ_31 chpσ_31 | omega)
      have onσ_31 : (σ.1 a 16).toInt ≤ (σ_31.1 a 15).toInt := (by first | (clear hs hz hk h4 k3σ if_1 bf_1 c_2 if_23 kc_24 ahpσ_26 dhpσ_26 ehpσ_26 k3σ_26 k3σ_29 k4σ_29 smσ_29 beσ_29 ahpσ_31 bhpσ_31 chpσ_31 dhpσ_31 ehpσ_31 k3σ_31 k4σ_31 smσ_31; omega) | omega)
      clear k4σ_29 smσ_29 bhpσ_31 chpσ_31
      refine lv_aload_n hx hb dX12_readLaw_33 rfl (lv_at hl 0 rfl) ?_
      refine gs_X12_35_12 E hI ha dX12_readLaw_34 ?_
      refine lv_sipush (v := 3723) hx hb dX12_readLaw_37 zks_3723 ?_
      refine lv_iconst (v := 0) hx hb dX12_readLaw_40 zki_0 ?_
      refine lv_aload_n hx hb dX12_readLaw_41 rfl (lv_at hl 0 rfl) ?_
      refine q_ci (q_rV11_0 (rest := [.int 0, .int 3723, .ref (q_rf X a 20)]) E (hml.trans hl.1.symm) hI (c_X12_lawWord l X σ_31 a ha) kv_X12_171 ha ⟨Nat.le_of_ble_eq_true rfl, Nat.le_of_ble_eq_true rfl⟩ (Nat.le_of_ble_eq_true rfl) dX12_readLaw_42) hI (Nat.le_of_ble_eq_true rfl) (fun r_32 σ_33 H locs hpσ_33 hkσ_33 hI => ?_)
      have ahpσ_33 := hpσ_33.1
      have bhpσ_33 := hpσ_33.2.1
      have chpσ_33 := hpσ_33.2.2
      clear hpσ_33
      replace hI := q_Irw ahpσ_33 hI
      replace hF := q_letX hF chpσ_33
      have kc_34 : (0 : Int32).toInt = 0 := zt_0
      refine q_ci (q_runS (As := [.int 0, .int r_32]) (rest := [.int 3723, .ref (q_rf X a 20)]) E (hml.trans hl.1.symm) hI (c_J9_max_7cf53 l X σ_31 (0 : Int32) r_32) ks_X12_220 rfl ⟨Nat.le_of_ble_eq_true rfl, Nat.le_of_ble_eq_true rfl⟩ ⟨Nat.le_refl _, Nat.le_refl _⟩ rfl (Nat.le_of_ble_eq_true rfl) dX12_readLaw_45) hI (Nat.le_of_ble_eq_true rfl) (fun r_35 σ_36 H locs hpσ_36 hkσ_36 hI => ?_)
      have ahpσ_36 := hpσ_36.1
      have bhpσ_36 := hpσ_36.2.1
      have chpσ_36 := hpσ_36.2.2
      clear hpσ_36
      replace hI := q_Irw ahpσ_36 hI
      replace hF := q_letX hF chpσ_36
      refine q_iastN E hI (q_tk (k' := 34) hI ha rfl (Nat.succ_ne_zero _)) ⟨by decide, rfl⟩ (by decide) (by rw [q_lnk (v := 4650) hI (q_tk (k' := 34) hI ha rfl (Nat.succ_ne_zero _)) rfl (by decide)]; decide) (show 1 < 2 by decide) (q_inU rfl) dX12_readLaw_48 (fun H locs σ_37 hσ_37 hI => ?_)
      replace hF := q_letX hF hσ_37
      have fr_σ_37 := fr_σ_31.si hσ_37 (q_tk (k' := 34) hI ha rfl (Nat.succ_ne_zero _)) rfl
      have mv9_σ_37 : (σ_37.1 a 9).toInt = (σ_31.1 a 9).toInt := congrArg Int32.toInt (q_rdn hσ_37 (Or.inl (m_ne ha (q_tk (k' := 34) hI ha rfl (Nat.succ_ne_zero _)) (by decide))))
      have mv12_σ_37 : (σ_37.1 a 12).toInt = (σ_31.1 a 12).toInt := congrArg Int32.toInt (q_rdn hσ_37 (Or.inl (m_ne ha (q_tk (k' := 34) hI ha rfl (Nat.succ_ne_zero _)) (by decide))))
      have mv14_σ_37 : (σ_37.1 a 14).toInt = (σ_31.1 a 14).toInt := congrArg Int32.toInt (q_rdn hσ_37 (Or.inl (m_ne ha (q_tk (k' := 34) hI ha rfl (Nat.succ_ne_zero _)) (by decide))))
      have mv15_σ_37 : (σ_37.1 a 15).toInt = (σ_31.1 a 15).toInt := congrArg Int32.toInt (q_rdn hσ_37 (Or.inl (m_ne ha (q_tk (k' := 34) hI ha rfl (Nat.succ_ne_zero _)) (by decide))))
      have mv16_σ_37 : (σ_37.1 a 16).toInt = (σ_31.1 a 16).toInt := congrArg Int32.toInt (q_rdn hσ_37 (Or.inl (m_ne ha (q_tk (k' := 34) hI ha rfl (Nat.succ_ne_zero _)) (by decide))))
      have mcσ_37 := m_wr (v := r_35) (A := 3723) hσ_37 (by decide) (by decide)
      have nnσ_37 : m_N (m_c X σ_37 a) := m_N.wr nnσ_31 mcσ_37 (by first | (clear hs hz hk h4 k3σ if_1 bf_1 c_2 if_23 kc_24 ahpσ_26 dhpσ_26 ehpσ_26 k3σ_26 k3σ_29 beσ_29 ahpσ_31 dhpσ_31 ehpσ_31 k3σ_31 k4σ_31 smσ_31 onσ_31 ahpσ_33 bhpσ_33 chpσ_33 kc_34 ahpσ_36 bhpσ_36 chpσ_36 mv9_σ_37 mv12_σ_37 mv14_σ_37 mv15_σ_37 mv16_σ_37; omega) | omega)
      have kpσ_37 : ∀ j, 0 ≤ j → j < 3720 → m_c X σ_37 a j = m_c X σ a j := fun j h0 h1 => by rw [mcσ_37 j h0, if_neg (by first | (clear hs hz hk h4 k3σ if_1 bf_1 c_2 if_23 kc_24 ahpσ_26 dhpσ_26 ehpσ_26 k3σ_26 k3σ_29 beσ_29 ahpσ_31 dhpσ_31 ehpσ_31 k3σ_31 k4σ_31 smσ_31 onσ_31 ahpσ_33 bhpσ_33 chpσ_33 kc_34 ahpσ_36 bhpσ_36 chpσ_36 mv9_σ_37 mv12_σ_37 mv14_σ_37 mv15_σ_37 mv16_σ_37; omega) | omega)]; exact kpσ_31 j h0 h1
      have k3σ_37 : m_c X σ_37 a 3720 = m_c X σ a 3720 ∧ m_c X σ_37 a 3721 = m_c X σ a 3721 := ⟨by rw [mcσ_37 3720 (by decide), if_neg (by first | (clear hs hz hk h4 k3σ if_1 bf_1 c_2 if_23 kc_24 ahpσ_26 dhpσ_26 ehpσ_26 k3σ_26 k3σ_29 beσ_29 ahpσ_31 dhpσ_31 ehpσ_31 k3σ_31 k4σ_31 smσ_31 onσ_31 ahpσ_33 bhpσ_33 chpσ_33 kc_34 ahpσ_36 bhpσ_36 chpσ_36 mv9_σ_37 mv12_σ_37 mv14_σ_37 mv15_σ_37 mv16_σ_37; omega) | omega)]; exact k3σ_31.1, by rw [mcσ_37 3721 (by decide), if_neg (by first | (clear hs hz hk h4 k3σ if_1 bf_1 c_2 if_23 kc_24 ahpσ_26 dhpσ_26 ehpσ_26 k3σ_26 k3σ_29 beσ_29 ahpσ_31 dhpσ_31 ehpσ_31 k3σ_31 k4σ_31 smσ_31 onσ_31 ahpσ_33 bhpσ_33 chpσ_33 kc_34 ahpσ_36 bhpσ_36 chpσ_36 mv9_σ_37 mv12_σ_37 mv14_σ_37 mv15_σ_37 mv16_σ_37; omega) | omega)]; exact k3σ_31.2⟩
      have k4σ_37 : 1 ≤ m_c X σ_37 a 3724 + 10 * (σ_37.1 a 12).toInt := (by have := mcσ_37 3724 (by decide); rw [if_neg (by first | (clear hs hz hk h4 k3σ if_1 bf_1 c_2 if_23 kc_24 ahpσ_26 dhpσ_26 ehpσ_26 k3σ_26 k3σ_29 beσ_29 ahpσ_31 dhpσ_31 ehpσ_31 k3σ_31 k4σ_31 smσ_31 onσ_31 ahpσ_33 bhpσ_33 chpσ_33 kc_34 ahpσ_36 bhpσ_36 chpσ_36 mv9_σ_37 mv12_σ_37 mv14_σ_37 mv15_σ_37 mv16_σ_37 k3σ_37; omega) | omega)] at this; omega)
      have smσ_37 : 0 ≤ (σ_37.1 a 15).toInt ∧ (σ_37.1 a 15).toInt ≤ (σ_37.1 a 16).toInt ∧ (σ_37.1 a 16).toInt ≤ (σ_37.1 a 9).toInt ∧ (σ_37.1 a 9).toInt ≤ 900 ∧ 0 ≤ (σ_37.1 a 14).toInt ∧ (σ_37.1 a 14).toInt ≤ 4 ∧ (σ_37.1 a 14).toInt ≤ 4 * ((σ_37.1 a 16).toInt - (σ_37.1 a 15).toInt) ∧ (σ_37.1 a 14).toInt ≤ 4 * ((σ_37.1 a 9).toInt - (σ_37.1 a 15).toInt) ∧ 0 ≤ (σ_37.1 a 12).toInt ∧ (σ_37.1 a 9).toInt = (σ.1 a 9).toInt ∧ (σ.1 a 15).toInt ≤ (σ_37.1 a 15).toInt ∧ (σ.1 a 12).toInt ≤ (σ_37.1 a 12).toInt := (by first | (rw [mv12_σ_37, mv14_σ_37, mv15_σ_37, mv16_σ_37, mv9_σ_37]; exact smσ_31) | omega)
      have onσ_37 : (σ.1 a 16).toInt ≤ (σ_37.1 a 15).toInt := (by first | (clear hs hz hk h4 k3σ if_1 bf_1 c_2 if_23 kc_24 ahpσ_26 dhpσ_26 ehpσ_26 k3σ_26 k3σ_29 beσ_29 ahpσ_31 dhpσ_31 ehpσ_31 k3σ_31 k4σ_31 smσ_31 onσ_31 ahpσ_33 bhpσ_33 chpσ_33 kc_34 ahpσ_36 bhpσ_36 chpσ_36 mv9_σ_37 mv12_σ_37 mv14_σ_37 mv15_σ_37 mv16_σ_37 k3σ_37 k4σ_37 smσ_37; omega) | omega)
      clear mv9_σ_37 mv12_σ_37 mv14_σ_37 mv15_σ_37 mv16_σ_37 k4σ_31 smσ_31 onσ_31
      refine lv_aload_n hx hb dX12_readLaw_49 rfl (lv_at hl 0 rfl) ?_
      refine lv_aload_n hx hb dX12_readLaw_50 rfl (lv_at hl 0 rfl) ?_
      refine q_ci (q_rV11_0 (rest := [.ref a]) E (hml.trans hl.1.symm) hI (c_X12_lawWord l X σ_37 a ha) kv_X12_171 ha ⟨Nat.le_of_ble_eq_true rfl, Nat.le_of_ble_eq_true rfl⟩ (Nat.le_of_ble_eq_true rfl) dX12_readLaw_51) hI (Nat.le_of_ble_eq_true rfl) (fun r_38 σ_39 H locs hpσ_39 hkσ_39 hI => ?_)
      have ahpσ_39 := hpσ_39.1
      have bhpσ_39 := hpσ_39.2.1
      have chpσ_39 := hpσ_39.2.2
      clear hpσ_39
      replace hI := q_Irw ahpσ_39 hI
      replace hF := q_letX hF chpσ_39
      refine q_if_lt (A := r_38.toInt) E rfl (tgt := 61) dX12_readLaw_54 (by decide) (fun c_40 => ?_) (fun c_40 => ?_)
      · skip
        replace hF := q_ifp hF c_40
        refine lv_iconst (v := 0) hx hb dX12_readLaw_61 zki_0 ?_
        have kc_41 : (0 : Int32).toInt = 0 := zt_0
        refine q_cv (q_rV11_1 (rest := []) E (hml.trans hl.1.symm) hI (c_X12_must l X σ_37 a (0 : Int32) ha (by first | exact sm_9 smσ_37 | exact hs | omega) (by first | (clear hz hk h4 k3σ if_1 bf_1 c_2 if_23 kc_24 ahpσ_26 dhpσ_26 ehpσ_26 k3σ_26 k3σ_29 beσ_29 ahpσ_31 dhpσ_31 ehpσ_31 k3σ_31 ahpσ_33 bhpσ_33 chpσ_33 kc_34 ahpσ_36 bhpσ_36 chpσ_36 k3σ_37 k4σ_37 smσ_37 onσ_37 ahpσ_39 bhpσ_39 chpσ_39 c_40 kc_41; omega) | omega)) kv_X12_216 ha ⟨Nat.le_of_ble_eq_true rfl, Nat.le_of_ble_eq_true rfl⟩ (Nat.le_of_ble_eq_true rfl) dX12_readLaw_62) hI (Nat.le_of_ble_eq_true rfl) (fun σ_43 H locs hpσ_43 hkσ_43 hI => ?_)
        have ahpσ_43 := hpσ_43.1
        have bhpσ_43 := hpσ_43.2.1
        have chpσ_43 := hpσ_43.2.2.1
        have dhpσ_43 := hpσ_43.2.2.2.1
        have ehpσ_43 := hpσ_43.2.2.2.2
        clear hpσ_43
        have fr_σ_43 := fr_σ_37.call ehpσ_43 rfl rfl
        replace hF := q_letX hF dhpσ_43
        have mcσ_43 := m_cK hkσ_43 hI.1 ha (by decide)
        have nnσ_43 : m_N (m_c X σ_43 a) := m_N.ext mcσ_43 nnσ_37
        have kpσ_43 : ∀ j, 0 ≤ j → j < 3720 → m_c X σ_43 a j = m_c X σ a j := fun j h0 h1 => (mcσ_43 j).trans (kpσ_37 j h0 h1)
        have k3σ_43 : m_c X σ_43 a 3720 = m_c X σ a 3720 ∧ m_c X σ_43 a 3721 = m_c X σ a 3721 := ⟨(mcσ_43 3720).trans k3σ_37.1, (mcσ_43 3721).trans k3σ_37.2⟩
        have k4σ_43 : 1 ≤ m_c X σ_43 a 3724 + 10 * (σ_43.1 a 12).toInt := (by have := mcσ_43 3724; omega)
        have smσ_43 : 0 ≤ (σ_43.1 a 15).toInt ∧ (σ_43.1 a 15).toInt ≤ (σ_43.1 a 16).toInt ∧ (σ_43.1 a 16).toInt ≤ (σ_43.1 a 9).toInt ∧ (σ_43.1 a 9).toInt ≤ 900 ∧ 0 ≤ (σ_43.1 a 14).toInt ∧ (σ_43.1 a 14).toInt ≤ 4 ∧ (σ_43.1 a 14).toInt ≤ 4 * ((σ_43.1 a 16).toInt - (σ_43.1 a 15).toInt) ∧ (σ_43.1 a 14).toInt ≤ 4 * ((σ_43.1 a 9).toInt - (σ_43.1 a 15).toInt) ∧ 0 ≤ (σ_43.1 a 12).toInt ∧ (σ_43.1 a 9).toInt = (σ.1 a 9).toInt ∧ (σ.1 a 15).toInt ≤ (σ_43.1 a 15).toInt ∧ (σ.1 a 12).toInt ≤ (σ_43.1 a 12).toInt := (by first | exact sm_tr smσ_37 bhpσ_43 | exact sm_tr smσ_37 chpσ_43 | omega)
        have onσ_43 : (σ.1 a 16).toInt ≤ (σ_43.1 a 15).toInt := (by first | (clear hs hz hk h4 k3σ if_1 bf_1 c_2 if_23 kc_24 ahpσ_26 dhpσ_26 ehpσ_26 k3σ_26 k3σ_29 beσ_29 ahpσ_31 dhpσ_31 ehpσ_31 k3σ_31 ahpσ_33 bhpσ_33 chpσ_33 kc_34 ahpσ_36 bhpσ_36 chpσ_36 k3σ_37 k4σ_37 smσ_37 onσ_37 ahpσ_39 bhpσ_39 chpσ_39 c_40 kc_41 ahpσ_43 bhpσ_43 chpσ_43 dhpσ_43 ehpσ_43 k3σ_43 k4σ_43 smσ_43; omega) | omega)
        clear k4σ_37 smσ_37 onσ_37 bhpσ_43
        exact q_retv E hr hlk hI ⟨nnσ_43, kpσ_43, (by first | exact smσ_43 | omega), (by first | exact smσ_43 | omega), k3σ_43, k4σ_43, (hF.trans hout), fr_σ_43⟩ dX12_readLaw_65
      · skip
        replace hF := q_ifn hF (Int.not_lt.mpr c_40)
        refine lv_iconst (v := 1) hx hb dX12_readLaw_57 zki_1 ?_
        refine lv_goto (tgt := 62) hx hb dX12_readLaw_58 (by decide) ?_
        have kc_44 : (1 : Int32).toInt = 1 := zt_1
        refine q_cv (q_rV11_1 (rest := []) E (hml.trans hl.1.symm) hI (c_X12_must l X σ_37 a (1 : Int32) ha (by first | exact sm_9 smσ_37 | exact hs | omega) (by first | (clear hs hz hk h4 k3σ if_1 bf_1 c_2 if_23 kc_24 ahpσ_26 dhpσ_26 ehpσ_26 k3σ_26 k3σ_29 beσ_29 ahpσ_31 dhpσ_31 ehpσ_31 k3σ_31 ahpσ_33 bhpσ_33 chpσ_33 kc_34 ahpσ_36 bhpσ_36 chpσ_36 k3σ_37 ahpσ_39 bhpσ_39 chpσ_39 c_40 kc_44; omega) | omega)) kv_X12_216 ha ⟨Nat.le_of_ble_eq_true rfl, Nat.le_of_ble_eq_true rfl⟩ (Nat.le_of_ble_eq_true rfl) dX12_readLaw_62) hI (Nat.le_of_ble_eq_true rfl) (fun σ_46 H locs hpσ_46 hkσ_46 hI => ?_)
        have ahpσ_46 := hpσ_46.1
        have bhpσ_46 := hpσ_46.2.1
        have chpσ_46 := hpσ_46.2.2.1
        have dhpσ_46 := hpσ_46.2.2.2.1
        have ehpσ_46 := hpσ_46.2.2.2.2
        clear hpσ_46
        have fr_σ_46 := fr_σ_37.call ehpσ_46 rfl rfl
        replace hF := q_letX hF dhpσ_46
        have mcσ_46 := m_cK hkσ_46 hI.1 ha (by decide)
        have nnσ_46 : m_N (m_c X σ_46 a) := m_N.ext mcσ_46 nnσ_37
        have kpσ_46 : ∀ j, 0 ≤ j → j < 3720 → m_c X σ_46 a j = m_c X σ a j := fun j h0 h1 => (mcσ_46 j).trans (kpσ_37 j h0 h1)
        have k3σ_46 : m_c X σ_46 a 3720 = m_c X σ a 3720 ∧ m_c X σ_46 a 3721 = m_c X σ a 3721 := ⟨(mcσ_46 3720).trans k3σ_37.1, (mcσ_46 3721).trans k3σ_37.2⟩
        have k4σ_46 : 1 ≤ m_c X σ_46 a 3724 + 10 * (σ_46.1 a 12).toInt := (by have := mcσ_46 3724; omega)
        have smσ_46 : 0 ≤ (σ_46.1 a 15).toInt ∧ (σ_46.1 a 15).toInt ≤ (σ_46.1 a 16).toInt ∧ (σ_46.1 a 16).toInt ≤ (σ_46.1 a 9).toInt ∧ (σ_46.1 a 9).toInt ≤ 900 ∧ 0 ≤ (σ_46.1 a 14).toInt ∧ (σ_46.1 a 14).toInt ≤ 4 ∧ (σ_46.1 a 14).toInt ≤ 4 * ((σ_46.1 a 16).toInt - (σ_46.1 a 15).toInt) ∧ (σ_46.1 a 14).toInt ≤ 4 * ((σ_46.1 a 9).toInt - (σ_46.1 a 15).toInt) ∧ 0 ≤ (σ_46.1 a 12).toInt ∧ (σ_46.1 a 9).toInt = (σ.1 a 9).toInt ∧ (σ.1 a 15).toInt ≤ (σ_46.1 a 15).toInt ∧ (σ.1 a 12).toInt ≤ (σ_46.1 a 12).toInt := (by first | exact sm_tr smσ_37 bhpσ_46 | exact sm_tr smσ_37 chpσ_46 | omega)
        have onσ_46 : (σ.1 a 16).toInt ≤ (σ_46.1 a 15).toInt := (by first | (clear hs hz hk h4 k3σ if_1 bf_1 c_2 if_23 kc_24 ahpσ_26 dhpσ_26 ehpσ_26 k3σ_26 k3σ_29 beσ_29 ahpσ_31 dhpσ_31 ehpσ_31 k3σ_31 ahpσ_33 bhpσ_33 chpσ_33 kc_34 ahpσ_36 bhpσ_36 chpσ_36 k3σ_37 ahpσ_39 bhpσ_39 chpσ_39 c_40 kc_44 ahpσ_46 bhpσ_46 chpσ_46 dhpσ_46 ehpσ_46 k3σ_46 k4σ_46 smσ_46; omega) | omega)
        clear k4σ_37 smσ_37 onσ_37 bhpσ_46
        exact q_retv E hr hlk hI ⟨nnσ_46, kpσ_46, (by first | exact smσ_46 | omega), (by first | exact smσ_46 | omega), k3σ_46, k4σ_46, (hF.trans hout), fr_σ_46⟩ dX12_readLaw_65
    · skip
      replace hF := q_ifp hF c_28
      exact q_retv E hr hlk hI ⟨nnσ_26, kpσ_26, (by first | exact smσ_26 | omega), (by first | exact smσ_26 | omega), k3σ_26, k4σ_26, (hF.trans hout), fr_σ_26⟩ dX12_readLaw_23
end
