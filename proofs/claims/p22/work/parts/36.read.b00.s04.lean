section
set_option maxRecDepth 100000 in
set_option maxHeartbeats 4000000 in
theorem c_X12_readHand (l : Launch) (X : XW) (σ : ST) (a : Nat) (ha : q_kd X a = 12) (hs : 0 ≤ (σ.1 a 15).toInt ∧ (σ.1 a 15).toInt ≤ (σ.1 a 16).toInt ∧ (σ.1 a 16).toInt ≤ (σ.1 a 9).toInt ∧ (σ.1 a 9).toInt ≤ 900 ∧ 0 ≤ (σ.1 a 14).toInt ∧ (σ.1 a 14).toInt ≤ 4 ∧ (σ.1 a 14).toInt ≤ 4 * ((σ.1 a 16).toInt - (σ.1 a 15).toInt) ∧ (σ.1 a 14).toInt ≤ 4 * ((σ.1 a 9).toInt - (σ.1 a 15).toInt) ∧ 0 ≤ (σ.1 a 12).toInt) (hN : m_N (m_c X σ a)) (hz : (σ.1 a 12).toInt = 0) (hk : 2 ≤ m_c X σ a 3720) (h4 : 1 ≤ m_c X σ a 3724) : Met l yX12_readHand (q_ws yX12_readHand cX12_readHand 6 none) (q_rm 6 129) (q_P X σ [.ref a]) (q_Qv X 1 σ (fun (σ' : ST) => (m_N (m_c X σ' a)) ∧ (∀ j, 0 ≤ j → j < 3720 → m_c X σ' a j = m_c X σ a j) ∧ (0 ≤ (σ'.1 a 15).toInt ∧ (σ'.1 a 15).toInt ≤ (σ'.1 a 16).toInt ∧ (σ'.1 a 16).toInt ≤ (σ'.1 a 9).toInt ∧ (σ'.1 a 9).toInt ≤ 900 ∧ 0 ≤ (σ'.1 a 14).toInt ∧ (σ'.1 a 14).toInt ≤ 4 ∧ (σ'.1 a 14).toInt ≤ 4 * ((σ'.1 a 16).toInt - (σ'.1 a 15).toInt) ∧ (σ'.1 a 14).toInt ≤ 4 * ((σ'.1 a 9).toInt - (σ'.1 a 15).toInt) ∧ 0 ≤ (σ'.1 a 12).toInt ∧ (σ'.1 a 9).toInt = (σ.1 a 9).toInt ∧ (σ.1 a 15).toInt ≤ (σ'.1 a 15).toInt ∧ (σ.1 a 12).toInt ≤ (σ'.1 a 12).toInt) ∧ ((σ.1 a 16).toInt ≤ (σ'.1 a 15).toInt + 1000 * (σ'.1 a 12).toInt) ∧ (m_c X σ' a 3720 = m_c X σ a 3720 ∧ m_c X σ' a 3721 = m_c X σ a 3721) ∧ (1 ≤ m_c X σ' a 3724 + 10 * (σ'.1 a 12).toInt) ∧ σ' = F_X12_readHand X σ a ∧ q_ow [(12, 12), (12, 13), (12, 14), (12, 15), (12, 16), (12, 17), (12, 18), (34, 99), (36, 99)] [(12, 19)] X σ σ')) 0 0 (q_reg X) := by
  refine q_met 1 (by first | exact rfl | decide +kernel) rfl (Nat.le_of_ble_eq_true rfl) (fun p e s m below meth c E hml hr hlk hI ls hl => ?_)
  have hx := E.1
  have hb := E.2.1
  have hl : lv_has ls 6 [(0, .ref a)] := hl
  have nnσ : m_N (m_c X σ a) := hN
  have kpσ : ∀ j, 0 ≤ j → j < 3720 → m_c X σ a j = m_c X σ a j := fun _ _ _ => rfl
  have k3σ : m_c X σ a 3720 = m_c X σ a 3720 ∧ m_c X σ a 3721 = m_c X σ a 3721 := ⟨rfl, rfl⟩
  have k4σ : 1 ≤ m_c X σ a 3724 + 10 * (σ.1 a 12).toInt := (by omega)
  have smσ : 0 ≤ (σ.1 a 15).toInt ∧ (σ.1 a 15).toInt ≤ (σ.1 a 16).toInt ∧ (σ.1 a 16).toInt ≤ (σ.1 a 9).toInt ∧ (σ.1 a 9).toInt ≤ 900 ∧ 0 ≤ (σ.1 a 14).toInt ∧ (σ.1 a 14).toInt ≤ 4 ∧ (σ.1 a 14).toInt ≤ 4 * ((σ.1 a 16).toInt - (σ.1 a 15).toInt) ∧ (σ.1 a 14).toInt ≤ 4 * ((σ.1 a 9).toInt - (σ.1 a 15).toInt) ∧ 0 ≤ (σ.1 a 12).toInt ∧ (σ.1 a 9).toInt = (σ.1 a 9).toInt ∧ (σ.1 a 15).toInt ≤ (σ.1 a 15).toInt ∧ (σ.1 a 12).toInt ≤ (σ.1 a 12).toInt := (by omega)
  have fr_σ : q_ow [(12, 12), (12, 13), (12, 14), (12, 15), (12, 16), (12, 17), (12, 18), (34, 99), (36, 99)] [(12, 19)] X σ σ := q_ow.rf
  have n0 := hN.1
  have n1 := hN.2.1
  obtain ⟨out, hout⟩ : ∃ o, o = F_X12_readHand X σ a := ⟨_, rfl⟩
  have hF := hout.symm
  unfold F_X12_readHand at hF
  refine lv_aload_n hx hb dX12_readHand_0 rfl (lv_at hl 0 rfl) ?_
  refine q_cv (q_rV11_0 (rest := []) E (hml.trans hl.1.symm) hI (c_X12_next l X σ a ha (by first | (clear hz hk h4 k3σ k4σ smσ; omega) | omega) (by first | (clear hz hk h4 k3σ k4σ smσ; omega) | omega) (by first | (clear hz hk h4 k3σ k4σ smσ; omega) | omega)) kv_X12_197 ha ⟨Nat.le_of_ble_eq_true rfl, Nat.le_of_ble_eq_true rfl⟩ (Nat.le_of_ble_eq_true rfl) dX12_readHand_1) hI (Nat.le_of_ble_eq_true rfl) (fun σ_2 H locs hpσ_2 hkσ_2 hI => ?_)
  have ahpσ_2 := hpσ_2.1
  have bhpσ_2 := hpσ_2.2.1
  have chpσ_2 := hpσ_2.2.2.1
  have dhpσ_2 := hpσ_2.2.2.2.1
  have ehpσ_2 := hpσ_2.2.2.2.2
  clear hpσ_2
  have fr_σ_2 := fr_σ.call ehpσ_2 rfl rfl
  replace hF := q_letX hF dhpσ_2
  have mcσ_2 := m_cK hkσ_2 hI.1 ha (by decide)
  have nnσ_2 : m_N (m_c X σ_2 a) := m_N.ext mcσ_2 nnσ
  have kpσ_2 : ∀ j, 0 ≤ j → j < 3720 → m_c X σ_2 a j = m_c X σ a j := fun j h0 h1 => (mcσ_2 j).trans (kpσ j h0 h1)
  have k3σ_2 : m_c X σ_2 a 3720 = m_c X σ a 3720 ∧ m_c X σ_2 a 3721 = m_c X σ a 3721 := ⟨(mcσ_2 3720).trans k3σ.1, (mcσ_2 3721).trans k3σ.2⟩
  have k4σ_2 : 1 ≤ m_c X σ_2 a 3724 + 10 * (σ_2.1 a 12).toInt := (by have := mcσ_2 3724; omega)
  have smσ_2 : 0 ≤ (σ_2.1 a 15).toInt ∧ (σ_2.1 a 15).toInt ≤ (σ_2.1 a 16).toInt ∧ (σ_2.1 a 16).toInt ≤ (σ_2.1 a 9).toInt ∧ (σ_2.1 a 9).toInt ≤ 900 ∧ 0 ≤ (σ_2.1 a 14).toInt ∧ (σ_2.1 a 14).toInt ≤ 4 ∧ (σ_2.1 a 14).toInt ≤ 4 * ((σ_2.1 a 16).toInt - (σ_2.1 a 15).toInt) ∧ (σ_2.1 a 14).toInt ≤ 4 * ((σ_2.1 a 9).toInt - (σ_2.1 a 15).toInt) ∧ 0 ≤ (σ_2.1 a 12).toInt ∧ (σ_2.1 a 9).toInt = (σ.1 a 9).toInt ∧ (σ.1 a 15).toInt ≤ (σ_2.1 a 15).toInt ∧ (σ.1 a 12).toInt ≤ (σ_2.1 a 12).toInt := (by first | exact sm_nx smσ bhpσ_2 chpσ_2 | omega)
  have onσ_2 : (σ.1 a 16).toInt ≤ (σ_2.1 a 15).toInt := (by first | (clear hs hz hk h4 k3σ k4σ smσ ahpσ_2 bhpσ_2 dhpσ_2 ehpσ_2 k3σ_2 k4σ_2 smσ_2; omega) | omega)
  clear k4σ smσ bhpσ_2 chpσ_2
  refine lv_aload_n hx hb dX12_readHand_4 rfl (lv_at hl 0 rfl) ?_
  refine lv_iconst (v := 4) hx hb dX12_readHand_5 zki_4 ?_
  have kc_3 : (4 : Int32).toInt = 4 := zt_4
  refine q_ci (q_rV11_1 (rest := []) E (hml.trans hl.1.symm) hI (c_X12_readTold l X σ_2 a (4 : Int32) ha (by first | exact sm_9 smσ_2 | exact hs | omega) (Or.inr rfl) (by show m_c X σ_2 a 3722 ≤ 6; have := nnσ_2.2.2.1; omega)) kv_X12_226 ha ⟨Nat.le_of_ble_eq_true rfl, Nat.le_of_ble_eq_true rfl⟩ (Nat.le_of_ble_eq_true rfl) dX12_readHand_6) hI (Nat.le_of_ble_eq_true rfl) (fun r_4 σ_5 H locs hpσ_5 hkσ_5 hI => ?_)
  have ahpσ_5 := hpσ_5.1
  have bhpσ_5 := hpσ_5.2.1
  have chpσ_5 := hpσ_5.2.2.1
  have dhpσ_5 := hpσ_5.2.2.2.1
  have ehpσ_5 := hpσ_5.2.2.2.2
  clear hpσ_5
  have fr_σ_5 := fr_σ_2.call ehpσ_5 rfl rfl
  replace hF := q_biX hF dhpσ_5
  have mcσ_5 := m_cK hkσ_5 hI.1 ha (by decide)
  have nnσ_5 : m_N (m_c X σ_5 a) := m_N.ext mcσ_5 nnσ_2
  have kpσ_5 : ∀ j, 0 ≤ j → j < 3720 → m_c X σ_5 a j = m_c X σ a j := fun j h0 h1 => (mcσ_5 j).trans (kpσ_2 j h0 h1)
  have k3σ_5 : m_c X σ_5 a 3720 = m_c X σ a 3720 ∧ m_c X σ_5 a 3721 = m_c X σ a 3721 := ⟨(mcσ_5 3720).trans k3σ_2.1, (mcσ_5 3721).trans k3σ_2.2⟩
  have k4σ_5 : 1 ≤ m_c X σ_5 a 3724 + 10 * (σ_5.1 a 12).toInt := (by have := mcσ_5 3724; omega)
  have smσ_5 : 0 ≤ (σ_5.1 a 15).toInt ∧ (σ_5.1 a 15).toInt ≤ (σ_5.1 a 16).toInt ∧ (σ_5.1 a 16).toInt ≤ (σ_5.1 a 9).toInt ∧ (σ_5.1 a 9).toInt ≤ 900 ∧ 0 ≤ (σ_5.1 a 14).toInt ∧ (σ_5.1 a 14).toInt ≤ 4 ∧ (σ_5.1 a 14).toInt ≤ 4 * ((σ_5.1 a 16).toInt - (σ_5.1 a 15).toInt) ∧ (σ_5.1 a 14).toInt ≤ 4 * ((σ_5.1 a 9).toInt - (σ_5.1 a 15).toInt) ∧ 0 ≤ (σ_5.1 a 12).toInt ∧ (σ_5.1 a 9).toInt = (σ.1 a 9).toInt ∧ (σ.1 a 15).toInt ≤ (σ_5.1 a 15).toInt ∧ (σ.1 a 12).toInt ≤ (σ_5.1 a 12).toInt := (by first | exact sm_tr smσ_2 bhpσ_5 | exact sm_tr smσ_2 chpσ_5 | omega)
  have onσ_5 : (σ.1 a 16).toInt ≤ (σ_5.1 a 15).toInt := (by first | (clear hs hz hk h4 k3σ ahpσ_2 dhpσ_2 ehpσ_2 k3σ_2 k4σ_2 smσ_2 kc_3 ahpσ_5 chpσ_5 dhpσ_5 ehpσ_5 k3σ_5 k4σ_5 smσ_5; omega) | omega)
  clear k4σ_2 smσ_2 onσ_2 bhpσ_5
  refine lv_istore_n (lv' := [(1, .int r_4), (0, .ref a)]) hx hb dX12_readHand_9 rfl hl (by decide) rfl (fun ls hl => ?_)
  refine lv_aload_n hx hb dX12_readHand_10 rfl (lv_at hl 1 rfl) ?_
  refine lv_iconst (v := 0) hx hb dX12_readHand_11 zki_0 ?_
  refine lv_bipush (v := 8) hx hb dX12_readHand_12 zkb_8 ?_
  have kc_6 : (0 : Int32).toInt = 0 := zt_0
  have kc_7 : (8 : Int32).toInt = 8 := zt_8
  refine q_ci (q_rV11_2 (rest := []) E (hml.trans hl.1.symm) hI (c_X12_count l X σ_5 a (0 : Int32) (8 : Int32) ha (by first | exact sm_9 smσ_5 | exact hs | omega) (by first | (clear hs hz hk h4 k3σ ahpσ_2 dhpσ_2 ehpσ_2 k3σ_2 kc_3 ahpσ_5 chpσ_5 dhpσ_5 ehpσ_5 k3σ_5 k4σ_5 smσ_5 onσ_5; omega) | omega)) kv_X12_223 ha ⟨Nat.le_of_ble_eq_true rfl, Nat.le_of_ble_eq_true rfl⟩ (Nat.le_of_ble_eq_true rfl) dX12_readHand_14) hI (Nat.le_of_ble_eq_true rfl) (fun r_8 σ_9 H locs hpσ_9 hkσ_9 hI => ?_)
  have ahpσ_9 := hpσ_9.1
  have bhpσ_9 := hpσ_9.2.1
  have chpσ_9 := hpσ_9.2.2.1
  have dhpσ_9 := hpσ_9.2.2.2.1
  have ehpσ_9 := hpσ_9.2.2.2.2
  clear hpσ_9
  have fr_σ_9 := fr_σ_5.call ehpσ_9 rfl rfl
  replace hF := q_biX hF dhpσ_9
  have mcσ_9 := m_cK hkσ_9 hI.1 ha (by decide)
  have nnσ_9 : m_N (m_c X σ_9 a) := m_N.ext mcσ_9 nnσ_5
  have kpσ_9 : ∀ j, 0 ≤ j → j < 3720 → m_c X σ_9 a j = m_c X σ a j := fun j h0 h1 => (mcσ_9 j).trans (kpσ_5 j h0 h1)
  have k3σ_9 : m_c X σ_9 a 3720 = m_c X σ a 3720 ∧ m_c X σ_9 a 3721 = m_c X σ a 3721 := ⟨(mcσ_9 3720).trans k3σ_5.1, (mcσ_9 3721).trans k3σ_5.2⟩
  have k4σ_9 : 1 ≤ m_c X σ_9 a 3724 + 10 * (σ_9.1 a 12).toInt := (by have := mcσ_9 3724; omega)
  have smσ_9 : 0 ≤ (σ_9.1 a 15).toInt ∧ (σ_9.1 a 15).toInt ≤ (σ_9.1 a 16).toInt ∧ (σ_9.1 a 16).toInt ≤ (σ_9.1 a 9).toInt ∧ (σ_9.1 a 9).toInt ≤ 900 ∧ 0 ≤ (σ_9.1 a 14).toInt ∧ (σ_9.1 a 14).toInt ≤ 4 ∧ (σ_9.1 a 14).toInt ≤ 4 * ((σ_9.1 a 16).toInt - (σ_9.1 a 15).toInt) ∧ (σ_9.1 a 14).toInt ≤ 4 * ((σ_9.1 a 9).toInt - (σ_9.1 a 15).toInt) ∧ 0 ≤ (σ_9.1 a 12).toInt ∧ (σ_9.1 a 9).toInt = (σ.1 a 9).toInt ∧ (σ.1 a 15).toInt ≤ (σ_9.1 a 15).toInt ∧ (σ.1 a 12).toInt ≤ (σ_9.1 a 12).toInt := (by first | exact sm_tr smσ_5 bhpσ_9 | exact sm_tr smσ_5 chpσ_9 | omega)
  have onσ_9 : (σ.1 a 16).toInt ≤ (σ_9.1 a 15).toInt := (by first | (clear hs hz hk h4 k3σ ahpσ_2 dhpσ_2 ehpσ_2 k3σ_2 kc_3 ahpσ_5 chpσ_5 dhpσ_5 ehpσ_5 k3σ_5 k4σ_5 smσ_5 kc_6 kc_7 ahpσ_9 chpσ_9 dhpσ_9 ehpσ_9 k3σ_9 k4σ_9 smσ_9; omega) | omega)
  clear k4σ_5 smσ_5 onσ_5 bhpσ_9
  refine lv_istore_n (lv' := [(2, .int r_8), (1, .int r_4), (0, .ref a)]) hx hb dX12_readHand_17 rfl hl (by decide) rfl (fun ls hl => ?_)
  refine lv_aload_n hx hb dX12_readHand_18 rfl (lv_at hl 2 rfl) ?_
  refine lv_aload_n hx hb dX12_readHand_19 rfl (lv_at hl 2 rfl) ?_
  refine q_ci (q_rV11_0 (rest := [.ref a]) E (hml.trans hl.1.symm) hI (c_X12_isOf l X σ_9 a ha) kv_X12_168 ha ⟨Nat.le_of_ble_eq_true rfl, Nat.le_of_ble_eq_true rfl⟩ (Nat.le_of_ble_eq_true rfl) dX12_readHand_20) hI (Nat.le_of_ble_eq_true rfl) (fun r_10 σ_11 H locs hpσ_11 hkσ_11 hI => ?_)
  have ahpσ_11 := hpσ_11.1
  have bhpσ_11 := hpσ_11.2.1
  have chpσ_11 := hpσ_11.2.2
  clear hpσ_11
  replace hI := q_Irw ahpσ_11 hI
  replace hF := q_letX hF chpσ_11
  refine q_cv (q_rV11_1 (rest := []) E (hml.trans hl.1.symm) hI (c_X12_must l X σ_9 a r_10 ha (by first | exact sm_9 smσ_9 | exact hs | omega) (by first | (clear hs hz hk h4 k3σ ahpσ_2 dhpσ_2 ehpσ_2 k3σ_2 kc_3 ahpσ_5 chpσ_5 dhpσ_5 ehpσ_5 k3σ_5 kc_6 kc_7 ahpσ_9 chpσ_9 dhpσ_9 ehpσ_9 k3σ_9 k4σ_9 smσ_9 onσ_9 ahpσ_11 chpσ_11; omega) | omega)) kv_X12_216 ha ⟨Nat.le_of_ble_eq_true rfl, Nat.le_of_ble_eq_true rfl⟩ (Nat.le_of_ble_eq_true rfl) dX12_readHand_23) hI (Nat.le_of_ble_eq_true rfl) (fun σ_13 H locs hpσ_13 hkσ_13 hI => ?_)
  have ahpσ_13 := hpσ_13.1
  have bhpσ_13 := hpσ_13.2.1
  have chpσ_13 := hpσ_13.2.2.1
  have dhpσ_13 := hpσ_13.2.2.2.1
  have ehpσ_13 := hpσ_13.2.2.2.2
  clear hpσ_13
  have fr_σ_13 := fr_σ_9.call ehpσ_13 rfl rfl
  replace hF := q_letX hF dhpσ_13
  have mcσ_13 := m_cK hkσ_13 hI.1 ha (by decide)
  have nnσ_13 : m_N (m_c X σ_13 a) := m_N.ext mcσ_13 nnσ_9
  have kpσ_13 : ∀ j, 0 ≤ j → j < 3720 → m_c X σ_13 a j = m_c X σ a j := fun j h0 h1 => (mcσ_13 j).trans (kpσ_9 j h0 h1)
  have k3σ_13 : m_c X σ_13 a 3720 = m_c X σ a 3720 ∧ m_c X σ_13 a 3721 = m_c X σ a 3721 := ⟨(mcσ_13 3720).trans k3σ_9.1, (mcσ_13 3721).trans k3σ_9.2⟩
  have k4σ_13 : 1 ≤ m_c X σ_13 a 3724 + 10 * (σ_13.1 a 12).toInt := (by have := mcσ_13 3724; omega)
  have smσ_13 : 0 ≤ (σ_13.1 a 15).toInt ∧ (σ_13.1 a 15).toInt ≤ (σ_13.1 a 16).toInt ∧ (σ_13.1 a 16).toInt ≤ (σ_13.1 a 9).toInt ∧ (σ_13.1 a 9).toInt ≤ 900 ∧ 0 ≤ (σ_13.1 a 14).toInt ∧ (σ_13.1 a 14).toInt ≤ 4 ∧ (σ_13.1 a 14).toInt ≤ 4 * ((σ_13.1 a 16).toInt - (σ_13.1 a 15).toInt) ∧ (σ_13.1 a 14).toInt ≤ 4 * ((σ_13.1 a 9).toInt - (σ_13.1 a 15).toInt) ∧ 0 ≤ (σ_13.1 a 12).toInt ∧ (σ_13.1 a 9).toInt = (σ.1 a 9).toInt ∧ (σ.1 a 15).toInt ≤ (σ_13.1 a 15).toInt ∧ (σ.1 a 12).toInt ≤ (σ_13.1 a 12).toInt := (by first | exact sm_tr smσ_9 bhpσ_13 | exact sm_tr smσ_9 chpσ_13 | omega)
  have onσ_13 : (σ.1 a 16).toInt ≤ (σ_13.1 a 15).toInt := (by first | (clear hs hz hk h4 k3σ ahpσ_2 dhpσ_2 ehpσ_2 k3σ_2 kc_3 ahpσ_5 chpσ_5 dhpσ_5 ehpσ_5 k3σ_5 kc_6 kc_7 ahpσ_9 chpσ_9 dhpσ_9 ehpσ_9 k3σ_9 k4σ_9 smσ_9 ahpσ_11 bhpσ_11 chpσ_11 ahpσ_13 chpσ_13 dhpσ_13 ehpσ_13 k3σ_13 k4σ_13 smσ_13; omega) | omega)
  clear k4σ_9 smσ_9 onσ_9 bhpσ_13
  refine lv_aload_n hx hb dX12_readHand_26 rfl (lv_at hl 2 rfl) ?_
  refine gs_X12_104_12 E hI ha dX12_readHand_27 ?_
  refine lv_topi (fun f_14 ef_14 => ?_)
  replace hF := q_letX hF ef_14
  have if_14 : f_14.toInt = (σ_13.1 a 15).toInt := congrArg Int32.toInt ef_14
  refine lv_istore_n (lv' := [(3, .int f_14), (2, .int r_8), (1, .int r_4), (0, .ref a)]) hx hb dX12_readHand_30 rfl hl (by decide) rfl (fun ls hl => ?_)
  refine lv_aload_n hx hb dX12_readHand_31 rfl (lv_at hl 3 rfl) ?_
  refine lv_iconst (v := 0) hx hb dX12_readHand_32 zki_0 ?_
  refine lv_aload_n hx hb dX12_readHand_33 rfl (lv_at hl 3 rfl) ?_
  refine gs_X12_35_12 E hI ha dX12_readHand_34 ?_
  refine lv_sipush (v := 3720) hx hb dX12_readHand_37 zks_3720 ?_
  refine q_iald E hI (q_tk (k' := 34) hI ha rfl (Nat.succ_ne_zero _)) ⟨by decide, rfl⟩ (by decide) (by rw [q_lnk (v := 4650) hI (q_tk (k' := 34) hI ha rfl (Nat.succ_ne_zero _)) rfl (by decide)]; decide) dX12_readHand_40 ?_
  refine lv_topi (fun f_15 ef_15 => ?_)
  replace hF := q_letX hF ef_15
  have if_15 : f_15.toInt = m_c X σ_13 a 3720 := m_rd ef_15 (by decide)
  refine lv_iconst (v := 1) hx hb dX12_readHand_41 zki_1 ?_
  refine lv_isub hx hb dX12_readHand_42 ?_
  refine lv_topi (fun z_16 ez_16 => ?_)
  replace hF := q_letX hF ez_16
  have iz_16 := q_subI (A := (m_c X σ_13 a 3720)) (B := 1) ez_16 if_15 (by decide) (by first | (clear hs hz h4 k3σ ahpσ_2 dhpσ_2 ehpσ_2 kc_3 ahpσ_5 chpσ_5 dhpσ_5 ehpσ_5 kc_6 kc_7 ahpσ_9 chpσ_9 dhpσ_9 ehpσ_9 ahpσ_11 bhpσ_11 chpσ_11 ahpσ_13 chpσ_13 dhpσ_13 ehpσ_13 k4σ_13 smσ_13 onσ_13 if_14; omega) | omega) (by first | (clear hs hz h4 k3σ ahpσ_2 dhpσ_2 ehpσ_2 kc_3 ahpσ_5 chpσ_5 dhpσ_5 ehpσ_5 kc_6 kc_7 ahpσ_9 chpσ_9 dhpσ_9 ehpσ_9 ahpσ_11 bhpσ_11 chpσ_11 ahpσ_13 chpσ_13 dhpσ_13 ehpσ_13 k4σ_13 smσ_13 onσ_13 if_14; omega) | omega)
  have kc_17 : (0 : Int32).toInt = 0 := zt_0
  refine q_ci (q_rV11_2 (rest := []) E (hml.trans hl.1.symm) hI (c_X12_count l X σ_13 a (0 : Int32) z_16 ha (by first | exact sm_9 smσ_13 | exact hs | omega) (by first | (clear hs hz h4 k3σ ahpσ_2 dhpσ_2 ehpσ_2 kc_3 ahpσ_5 chpσ_5 dhpσ_5 ehpσ_5 kc_7 ahpσ_9 chpσ_9 dhpσ_9 ehpσ_9 ahpσ_11 bhpσ_11 chpσ_11 ahpσ_13 chpσ_13 dhpσ_13 ehpσ_13 k4σ_13 smσ_13 onσ_13 if_14 kc_17; omega) | omega)) kv_X12_223 ha ⟨Nat.le_of_ble_eq_true rfl, Nat.le_of_ble_eq_true rfl⟩ (Nat.le_of_ble_eq_true rfl) dX12_readHand_43) hI (Nat.le_of_ble_eq_true rfl) (fun r_18 σ_19 H locs hpσ_19 hkσ_19 hI => ?_)
  have ahpσ_19 := hpσ_19.1
  have bhpσ_19 := hpσ_19.2.1
  have chpσ_19 := hpσ_19.2.2.1
  have dhpσ_19 := hpσ_19.2.2.2.1
  have ehpσ_19 := hpσ_19.2.2.2.2
  clear hpσ_19
  have fr_σ_19 := fr_σ_13.call ehpσ_19 rfl rfl
  replace hF := q_biX hF dhpσ_19
  have mcσ_19 := m_cK hkσ_19 hI.1 ha (by decide)
  have nnσ_19 : m_N (m_c X σ_19 a) := m_N.ext mcσ_19 nnσ_13
  have kpσ_19 : ∀ j, 0 ≤ j → j < 3720 → m_c X σ_19 a j = m_c X σ a j := fun j h0 h1 => (mcσ_19 j).trans (kpσ_13 j h0 h1)
  have k3σ_19 : m_c X σ_19 a 3720 = m_c X σ a 3720 ∧ m_c X σ_19 a 3721 = m_c X σ a 3721 := ⟨(mcσ_19 3720).trans k3σ_13.1, (mcσ_19 3721).trans k3σ_13.2⟩
  have k4σ_19 : 1 ≤ m_c X σ_19 a 3724 + 10 * (σ_19.1 a 12).toInt := (by have := mcσ_19 3724; omega)
  have smσ_19 : 0 ≤ (σ_19.1 a 15).toInt ∧ (σ_19.1 a 15).toInt ≤ (σ_19.1 a 16).toInt ∧ (σ_19.1 a 16).toInt ≤ (σ_19.1 a 9).toInt ∧ (σ_19.1 a 9).toInt ≤ 900 ∧ 0 ≤ (σ_19.1 a 14).toInt ∧ (σ_19.1 a 14).toInt ≤ 4 ∧ (σ_19.1 a 14).toInt ≤ 4 * ((σ_19.1 a 16).toInt - (σ_19.1 a 15).toInt) ∧ (σ_19.1 a 14).toInt ≤ 4 * ((σ_19.1 a 9).toInt - (σ_19.1 a 15).toInt) ∧ 0 ≤ (σ_19.1 a 12).toInt ∧ (σ_19.1 a 9).toInt = (σ.1 a 9).toInt ∧ (σ.1 a 15).toInt ≤ (σ_19.1 a 15).toInt ∧ (σ.1 a 12).toInt ≤ (σ_19.1 a 12).toInt := (by first | exact sm_tr smσ_13 bhpσ_19 | exact sm_tr smσ_13 chpσ_19 | omega)
  have onσ_19 : (σ.1 a 16).toInt ≤ (σ_19.1 a 15).toInt := (by first | (clear hs hz hk h4 k3σ ahpσ_2 dhpσ_2 ehpσ_2 k3σ_2 kc_3 ahpσ_5 chpσ_5 dhpσ_5 ehpσ_5 k3σ_5 kc_6 kc_7 ahpσ_9 chpσ_9 dhpσ_9 ehpσ_9 k3σ_9 ahpσ_11 bhpσ_11 chpσ_11 ahpσ_13 chpσ_13 dhpσ_13 ehpσ_13 k3σ_13 k4σ_13 smσ_13 if_15 iz_16 kc_17 ahpσ_19 chpσ_19 dhpσ_19 ehpσ_19 k3σ_19 k4σ_19 smσ_19; omega) | omega)
  clear k4σ_13 smσ_13 onσ_13 bhpσ_19
  refine lv_istore (lv' := [(4, .int r_18), (3, .int f_14), (2, .int r_8), (1, .int r_4), (0, .ref a)]) hx hb dX12_readHand_46 hl (by decide) rfl (fun ls hl => ?_)
  refine lv_bipush (v := 10) hx hb dX12_readHand_48 zkb_10 ?_
  refine lv_iload_n hx hb dX12_readHand_50 rfl (lv_at hl 3 rfl) ?_
  refine lv_imul hx hb dX12_readHand_51 ?_
  refine lv_topi (fun z_20 ez_20 => ?_)
  replace hF := q_letX hF ez_20
  have iz_20 := q_mulI (A := 10) (B := r_4.toInt) ez_20 (by decide) rfl (by first | (clear hs hz hk h4 k3σ ahpσ_2 dhpσ_2 ehpσ_2 k3σ_2 kc_3 ahpσ_5 dhpσ_5 ehpσ_5 k3σ_5 kc_6 kc_7 ahpσ_9 chpσ_9 dhpσ_9 ehpσ_9 k3σ_9 ahpσ_11 bhpσ_11 chpσ_11 ahpσ_13 chpσ_13 dhpσ_13 ehpσ_13 k3σ_13 if_14 if_15 iz_16 kc_17 ahpσ_19 chpσ_19 dhpσ_19 ehpσ_19 k3σ_19 k4σ_19 smσ_19 onσ_19; omega) | omega) (by first | (clear hs hz hk h4 k3σ ahpσ_2 dhpσ_2 ehpσ_2 k3σ_2 kc_3 ahpσ_5 dhpσ_5 ehpσ_5 k3σ_5 kc_6 kc_7 ahpσ_9 chpσ_9 dhpσ_9 ehpσ_9 k3σ_9 ahpσ_11 bhpσ_11 chpσ_11 ahpσ_13 chpσ_13 dhpσ_13 ehpσ_13 k3σ_13 if_14 if_15 iz_16 kc_17 ahpσ_19 chpσ_19 dhpσ_19 ehpσ_19 k3σ_19 k4σ_19 smσ_19 onσ_19; omega) | omega)
  refine lv_iload hx hb dX12_readHand_52 (lv_at hl 0 rfl) ?_
  refine lv_iadd hx hb dX12_readHand_54 ?_
  refine lv_topi (fun z_21 ez_21 => ?_)
  replace hF := q_letX hF ez_21
  have iz_21 := q_addI (A := (10 * r_4.toInt)) (B := r_18.toInt) ez_21 iz_20 rfl (by first | (clear hs hz hk h4 k3σ ahpσ_2 dhpσ_2 ehpσ_2 k3σ_2 kc_3 ahpσ_5 dhpσ_5 ehpσ_5 k3σ_5 kc_6 kc_7 ahpσ_9 chpσ_9 dhpσ_9 ehpσ_9 k3σ_9 ahpσ_11 bhpσ_11 chpσ_11 ahpσ_13 chpσ_13 dhpσ_13 ehpσ_13 k3σ_13 if_14 if_15 iz_16 kc_17 ahpσ_19 dhpσ_19 ehpσ_19 k3σ_19 k4σ_19 smσ_19 onσ_19 iz_20; omega) | omega) (by first | (clear hs hz h4 k3σ ahpσ_2 dhpσ_2 ehpσ_2 kc_3 ahpσ_5 dhpσ_5 ehpσ_5 kc_6 kc_7 ahpσ_9 chpσ_9 dhpσ_9 ehpσ_9 ahpσ_11 bhpσ_11 chpσ_11 ahpσ_13 chpσ_13 dhpσ_13 ehpσ_13 if_14 kc_17 ahpσ_19 dhpσ_19 ehpσ_19 k4σ_19 smσ_19 onσ_19 iz_20; omega) | omega)
  refine lv_istore (lv' := [(5, .int z_21), (4, .int r_18), (3, .int f_14), (2, .int r_8), (1, .int r_4), (0, .ref a)]) hx hb dX12_readHand_55 hl (by decide) rfl (fun ls hl => ?_)
  refine lv_aload_n hx hb dX12_readHand_57 rfl (lv_at hl 5 rfl) ?_
  refine gs_X12_187_12 E hI ha dX12_readHand_58 ?_
  refine lv_topi (fun f_22 ef_22 => ?_)
  replace hF := q_letX hF ef_22
  have if_22 : f_22.toInt = (σ_19.1 a 12).toInt := congrArg Int32.toInt ef_22
  refine q_if_ne (A := f_22.toInt) E rfl (tgt := 100) dX12_readHand_61 (by decide) (fun c_23 => ?_) (fun c_23 => ?_)
  · skip
    replace hF := q_ifn hF c_23
    refine lv_aload_n hx hb dX12_readHand_100 rfl (lv_at hl 5 rfl) ?_
    refine gs_X12_187_12 E hI ha dX12_readHand_101 ?_
    refine lv_topi (fun f_24 ef_24 => ?_)
    replace hF := q_letX hF ef_24
    have if_24 : f_24.toInt = (σ_19.1 a 12).toInt := congrArg Int32.toInt ef_24
    refine q_if_le (A := f_24.toInt) E rfl (tgt := 108) dX12_readHand_104 (by decide) (fun c_25 => ?_) (fun c_25 => ?_)
    · skip
      replace hF := q_ifn hF (Int.not_lt.mpr c_25)
      refine lv_aload_n hx hb dX12_readHand_108 rfl (lv_at hl 5 rfl) ?_
      refine gs_X12_41_12 E hI ha dX12_readHand_109 ?_
      refine lv_iload hx hb dX12_readHand_112 (lv_at hl 0 rfl) ?_
      refine lv_iconst (v := 1) hx hb dX12_readHand_114 zki_1 ?_
      refine q_iastN E hI (q_tk (k' := 36) hI ha rfl (Nat.succ_ne_zero _)) ⟨by decide, rfl⟩ (by first | (clear hs hz h4 k3σ ahpσ_2 dhpσ_2 ehpσ_2 kc_3 ahpσ_5 dhpσ_5 ehpσ_5 kc_6 kc_7 ahpσ_9 chpσ_9 dhpσ_9 ehpσ_9 ahpσ_11 bhpσ_11 chpσ_11 ahpσ_13 chpσ_13 dhpσ_13 ehpσ_13 if_14 kc_17 ahpσ_19 dhpσ_19 ehpσ_19 k4σ_19 smσ_19 onσ_19 iz_20 if_22 c_23 if_24 c_25; omega) | omega) (by rw [q_lnk (v := 60) hI (q_tk (k' := 36) hI ha rfl (Nat.succ_ne_zero _)) rfl (by decide)]; omega) (show 1 < 9 by decide) (q_inU rfl) dX12_readHand_115 (fun H locs σ_26 hσ_26 hI => ?_)
      replace hF := q_letX hF hσ_26
      have fr_σ_26 := fr_σ_19.si hσ_26 (q_tk (k' := 36) hI ha rfl (Nat.succ_ne_zero _)) rfl
      have mv9_σ_26 : (σ_26.1 a 9).toInt = (σ_19.1 a 9).toInt := congrArg Int32.toInt ((hσ_26 ▸ (q_K.si (q_tk (k' := 36) hI ha rfl (Nat.succ_ne_zero _)) (show 8 < 9 by decide) : q_K 8 X σ_19 (q_si σ_19 (q_rf X a 22) (z_21 : Int32).toNatClampNeg _))) a 9 (by rw [ha]; decide))
      have mv12_σ_26 : (σ_26.1 a 12).toInt = (σ_19.1 a 12).toInt := congrArg Int32.toInt ((hσ_26 ▸ (q_K.si (q_tk (k' := 36) hI ha rfl (Nat.succ_ne_zero _)) (show 8 < 9 by decide) : q_K 8 X σ_19 (q_si σ_19 (q_rf X a 22) (z_21 : Int32).toNatClampNeg _))) a 12 (by rw [ha]; decide))
      have mv14_σ_26 : (σ_26.1 a 14).toInt = (σ_19.1 a 14).toInt := congrArg Int32.toInt ((hσ_26 ▸ (q_K.si (q_tk (k' := 36) hI ha rfl (Nat.succ_ne_zero _)) (show 8 < 9 by decide) : q_K 8 X σ_19 (q_si σ_19 (q_rf X a 22) (z_21 : Int32).toNatClampNeg _))) a 14 (by rw [ha]; decide))
      have mv15_σ_26 : (σ_26.1 a 15).toInt = (σ_19.1 a 15).toInt := congrArg Int32.toInt ((hσ_26 ▸ (q_K.si (q_tk (k' := 36) hI ha rfl (Nat.succ_ne_zero _)) (show 8 < 9 by decide) : q_K 8 X σ_19 (q_si σ_19 (q_rf X a 22) (z_21 : Int32).toNatClampNeg _))) a 15 (by rw [ha]; decide))
      have mv16_σ_26 : (σ_26.1 a 16).toInt = (σ_19.1 a 16).toInt := congrArg Int32.toInt ((hσ_26 ▸ (q_K.si (q_tk (k' := 36) hI ha rfl (Nat.succ_ne_zero _)) (show 8 < 9 by decide) : q_K 8 X σ_19 (q_si σ_19 (q_rf X a 22) (z_21 : Int32).toNatClampNeg _))) a 16 (by rw [ha]; decide))
      have mcσ_26 := m_wo hσ_26 (m_ne (q_tk (k' := 36) hI ha rfl (Nat.succ_ne_zero _)) (q_tk (f := 20) (k' := 34) hI ha rfl (by decide)) (by decide))
      have nnσ_26 : m_N (m_c X σ_26 a) := m_N.ext mcσ_26 nnσ_19
      have kpσ_26 : ∀ j, 0 ≤ j → j < 3720 → m_c X σ_26 a j = m_c X σ a j := fun j h0 h1 => (mcσ_26 j).trans (kpσ_19 j h0 h1)
      have k3σ_26 : m_c X σ_26 a 3720 = m_c X σ a 3720 ∧ m_c X σ_26 a 3721 = m_c X σ a 3721 := ⟨(mcσ_26 3720).trans k3σ_19.1, (mcσ_26 3721).trans k3σ_19.2⟩
      have k4σ_26 : 1 ≤ m_c X σ_26 a 3724 + 10 * (σ_26.1 a 12).toInt := (by have := mcσ_26 3724; omega)
      have smσ_26 : 0 ≤ (σ_26.1 a 15).toInt ∧ (σ_26.1 a 15).toInt ≤ (σ_26.1 a 16).toInt ∧ (σ_26.1 a 16).toInt ≤ (σ_26.1 a 9).toInt ∧ (σ_26.1 a 9).toInt ≤ 900 ∧ 0 ≤ (σ_26.1 a 14).toInt ∧ (σ_26.1 a 14).toInt ≤ 4 ∧ (σ_26.1 a 14).toInt ≤ 4 * ((σ_26.1 a 16).toInt - (σ_26.1 a 15).toInt) ∧ (σ_26.1 a 14).toInt ≤ 4 * ((σ_26.1 a 9).toInt - (σ_26.1 a 15).toInt) ∧ 0 ≤ (σ_26.1 a 12).toInt ∧ (σ_26.1 a 9).toInt = (σ.1 a 9).toInt ∧ (σ.1 a 15).toInt ≤ (σ_26.1 a 15).toInt ∧ (σ.1 a 12).toInt ≤ (σ_26.1 a 12).toInt := (by first | (rw [mv12_σ_26, mv14_σ_26, mv15_σ_26, mv16_σ_26, mv9_σ_26]; exact smσ_19) | omega)
      have onσ_26 : (σ.1 a 16).toInt ≤ (σ_26.1 a 15).toInt := (by first | (clear hs hz hk h4 k3σ ahpσ_2 dhpσ_2 ehpσ_2 k3σ_2 kc_3 ahpσ_5 chpσ_5 dhpσ_5 ehpσ_5 k3σ_5 kc_6 kc_7 ahpσ_9 chpσ_9 dhpσ_9 ehpσ_9 k3σ_9 ahpσ_11 bhpσ_11 chpσ_11 ahpσ_13 chpσ_13 dhpσ_13 ehpσ_13 k3σ_13 if_14 if_15 iz_16 kc_17 ahpσ_19 chpσ_19 dhpσ_19 ehpσ_19 k3σ_19 k4σ_19 smσ_19 iz_20 iz_21 if_22 c_23 if_24 c_25 mv9_σ_26 mv12_σ_26 mv14_σ_26 mv16_σ_26 k3σ_26 k4σ_26 smσ_26; omega) | omega)
      clear mv9_σ_26 mv12_σ_26 mv14_σ_26 mv15_σ_26 mv16_σ_26 k4σ_19 smσ_19 onσ_19
      refine lv_aload_n hx hb dX12_readHand_116 rfl (lv_at hl 5 rfl) ?_
      refine gs_X12_35_12 E hI ha dX12_readHand_117 ?_
      refine lv_sipush (v := 3754) hx hb dX12_readHand_120 zks_3754 ?_
      refine lv_iload hx hb dX12_readHand_123 (lv_at hl 0 rfl) ?_
      refine lv_iadd hx hb dX12_readHand_125 ?_
      refine lv_topi (fun z_27 ez_27 => ?_)
      replace hF := q_letX hF ez_27
      have iz_27 := q_addI (A := 3754) (B := ((10 * r_4.toInt) + r_18.toInt)) ez_27 (by decide) iz_21 (by first | (clear hs hz hk h4 k3σ ahpσ_2 dhpσ_2 ehpσ_2 k3σ_2 kc_3 ahpσ_5 dhpσ_5 ehpσ_5 k3σ_5 kc_7 ahpσ_9 chpσ_9 dhpσ_9 ehpσ_9 k3σ_9 ahpσ_11 bhpσ_11 chpσ_11 ahpσ_13 chpσ_13 dhpσ_13 ehpσ_13 k3σ_13 if_14 if_15 iz_16 kc_17 ahpσ_19 dhpσ_19 ehpσ_19 k3σ_19 iz_20 c_23 k3σ_26 k4σ_26 smσ_26 onσ_26; omega) | omega) (by first | (clear hs hz h4 k3σ ahpσ_2 dhpσ_2 ehpσ_2 kc_3 ahpσ_5 dhpσ_5 ehpσ_5 kc_6 kc_7 ahpσ_9 chpσ_9 dhpσ_9 ehpσ_9 ahpσ_11 bhpσ_11 chpσ_11 ahpσ_13 chpσ_13 dhpσ_13 ehpσ_13 if_14 kc_17 ahpσ_19 dhpσ_19 ehpσ_19 iz_20 if_22 c_23 if_24 c_25 k4σ_26 smσ_26 onσ_26; omega) | omega)
      refine lv_iload_n hx hb dX12_readHand_126 rfl (lv_at hl 3 rfl) ?_
      refine q_iastN E hI (q_tk (k' := 34) hI ha rfl (Nat.succ_ne_zero _)) ⟨by decide, rfl⟩ (by first | (clear hs hz h4 k3σ ahpσ_2 dhpσ_2 ehpσ_2 kc_3 ahpσ_5 dhpσ_5 ehpσ_5 kc_6 kc_7 ahpσ_9 chpσ_9 dhpσ_9 ehpσ_9 ahpσ_11 bhpσ_11 chpσ_11 ahpσ_13 chpσ_13 dhpσ_13 ehpσ_13 if_14 kc_17 ahpσ_19 dhpσ_19 ehpσ_19 iz_20 if_22 c_23 if_24 c_25 k4σ_26 smσ_26 onσ_26; omega) | omega) (by rw [q_lnk (v := 4650) hI (q_tk (k' := 34) hI ha rfl (Nat.succ_ne_zero _)) rfl (by decide)]; omega) (show 1 < 2 by decide) (q_inU rfl) dX12_readHand_127 (fun H locs σ_28 hσ_28 hI => ?_)
      replace hF := q_letX hF hσ_28
      have fr_σ_28 := fr_σ_26.si hσ_28 (q_tk (k' := 34) hI ha rfl (Nat.succ_ne_zero _)) rfl
      have mv9_σ_28 : (σ_28.1 a 9).toInt = (σ_26.1 a 9).toInt := congrArg Int32.toInt (q_rdn hσ_28 (Or.inl (m_ne ha (q_tk (k' := 34) hI ha rfl (Nat.succ_ne_zero _)) (by decide))))
      have mv12_σ_28 : (σ_28.1 a 12).toInt = (σ_26.1 a 12).toInt := congrArg Int32.toInt (q_rdn hσ_28 (Or.inl (m_ne ha (q_tk (k' := 34) hI ha rfl (Nat.succ_ne_zero _)) (by decide))))
      have mv14_σ_28 : (σ_28.1 a 14).toInt = (σ_26.1 a 14).toInt := congrArg Int32.toInt (q_rdn hσ_28 (Or.inl (m_ne ha (q_tk (k' := 34) hI ha rfl (Nat.succ_ne_zero _)) (by decide))))
      have mv15_σ_28 : (σ_28.1 a 15).toInt = (σ_26.1 a 15).toInt := congrArg Int32.toInt (q_rdn hσ_28 (Or.inl (m_ne ha (q_tk (k' := 34) hI ha rfl (Nat.succ_ne_zero _)) (by decide))))
      have mv16_σ_28 : (σ_28.1 a 16).toInt = (σ_26.1 a 16).toInt := congrArg Int32.toInt (q_rdn hσ_28 (Or.inl (m_ne ha (q_tk (k' := 34) hI ha rfl (Nat.succ_ne_zero _)) (by decide))))
      have mcσ_28 := m_wr (v := r_8) (A := (3754 + ((10 * r_4.toInt) + r_18.toInt))) hσ_28 iz_27 (by first | (clear hs hz h4 k3σ ahpσ_2 dhpσ_2 ehpσ_2 kc_3 ahpσ_5 dhpσ_5 ehpσ_5 kc_6 kc_7 ahpσ_9 chpσ_9 dhpσ_9 ehpσ_9 ahpσ_11 bhpσ_11 chpσ_11 ahpσ_13 chpσ_13 dhpσ_13 ehpσ_13 if_14 kc_17 ahpσ_19 dhpσ_19 ehpσ_19 iz_20 if_22 c_23 if_24 c_25 k4σ_26 smσ_26 onσ_26 mv9_σ_28 mv12_σ_28 mv14_σ_28 mv15_σ_28 mv16_σ_28; omega) | omega)
      have nnσ_28 : m_N (m_c X σ_28 a) := m_N.hand nnσ_26 (by first | (clear hs hz hk h4 k3σ ahpσ_2 dhpσ_2 ehpσ_2 k3σ_2 kc_3 ahpσ_5 dhpσ_5 ehpσ_5 k3σ_5 kc_6 kc_7 ahpσ_9 chpσ_9 dhpσ_9 ehpσ_9 k3σ_9 ahpσ_11 bhpσ_11 chpσ_11 ahpσ_13 chpσ_13 dhpσ_13 ehpσ_13 k3σ_13 if_14 if_15 iz_16 kc_17 ahpσ_19 chpσ_19 dhpσ_19 ehpσ_19 k3σ_19 iz_20 iz_21 if_22 c_23 if_24 c_25 k3σ_26 k4σ_26 smσ_26 onσ_26 iz_27 mv9_σ_28 mv12_σ_28 mv14_σ_28 mv15_σ_28 mv16_σ_28; omega) | omega) (by first | (clear hs hz h4 k3σ ahpσ_2 dhpσ_2 ehpσ_2 kc_3 ahpσ_5 chpσ_5 dhpσ_5 ehpσ_5 kc_6 kc_7 ahpσ_9 chpσ_9 dhpσ_9 ehpσ_9 ahpσ_11 bhpσ_11 chpσ_11 ahpσ_13 chpσ_13 dhpσ_13 ehpσ_13 if_14 kc_17 ahpσ_19 dhpσ_19 ehpσ_19 iz_20 if_22 c_23 if_24 c_25 k4σ_26 smσ_26 onσ_26 mv9_σ_28 mv12_σ_28 mv14_σ_28 mv15_σ_28 mv16_σ_28; omega) | omega) (by first | (clear hs hz hk h4 k3σ ahpσ_2 dhpσ_2 ehpσ_2 kc_3 ahpσ_5 chpσ_5 dhpσ_5 ehpσ_5 kc_6 kc_7 ahpσ_9 chpσ_9 dhpσ_9 ehpσ_9 ahpσ_11 bhpσ_11 chpσ_11 ahpσ_13 chpσ_13 dhpσ_13 ehpσ_13 if_14 kc_17 ahpσ_19 dhpσ_19 ehpσ_19 iz_20 if_22 c_23 if_24 c_25 k4σ_26 smσ_26 onσ_26 mv9_σ_28 mv12_σ_28 mv14_σ_28 mv15_σ_28 mv16_σ_28; omega) | omega) mcσ_28 (by first | (clear hs hz hk h4 k3σ ahpσ_2 dhpσ_2 ehpσ_2 k3σ_2 kc_3 ahpσ_5 chpσ_5 dhpσ_5 ehpσ_5 k3σ_5 kc_6 ahpσ_9 dhpσ_9 ehpσ_9 k3σ_9 ahpσ_11 bhpσ_11 chpσ_11 ahpσ_13 chpσ_13 dhpσ_13 ehpσ_13 k3σ_13 if_14 if_15 iz_16 kc_17 ahpσ_19 chpσ_19 dhpσ_19 ehpσ_19 k3σ_19 iz_20 iz_21 if_22 c_23 if_24 c_25 k3σ_26 k4σ_26 smσ_26 onσ_26 iz_27 mv9_σ_28 mv12_σ_28 mv14_σ_28 mv15_σ_28 mv16_σ_28; omega) | omega) (by rw [funext mcσ_26]; omega)
      have kpσ_28 : ∀ j, 0 ≤ j → j < 3720 → m_c X σ_28 a j = m_c X σ a j := fun j h0 h1 => by rw [mcσ_28 j h0, if_neg (by first | (clear hs hz h4 k3σ ahpσ_2 dhpσ_2 ehpσ_2 kc_3 ahpσ_5 dhpσ_5 ehpσ_5 kc_6 kc_7 ahpσ_9 chpσ_9 dhpσ_9 ehpσ_9 ahpσ_11 bhpσ_11 chpσ_11 ahpσ_13 chpσ_13 dhpσ_13 ehpσ_13 if_14 kc_17 ahpσ_19 dhpσ_19 ehpσ_19 iz_20 if_22 c_23 if_24 c_25 k4σ_26 smσ_26 onσ_26 mv9_σ_28 mv12_σ_28 mv14_σ_28 mv15_σ_28 mv16_σ_28; omega) | omega)]; exact kpσ_26 j h0 h1
      have k3σ_28 : m_c X σ_28 a 3720 = m_c X σ a 3720 ∧ m_c X σ_28 a 3721 = m_c X σ a 3721 := ⟨by rw [mcσ_28 3720 (by decide), if_neg (by first | (clear hs hz h4 k3σ ahpσ_2 dhpσ_2 ehpσ_2 kc_3 ahpσ_5 dhpσ_5 ehpσ_5 kc_6 kc_7 ahpσ_9 chpσ_9 dhpσ_9 ehpσ_9 ahpσ_11 bhpσ_11 chpσ_11 ahpσ_13 chpσ_13 dhpσ_13 ehpσ_13 if_14 kc_17 ahpσ_19 dhpσ_19 ehpσ_19 iz_20 if_22 c_23 if_24 c_25 k4σ_26 smσ_26 onσ_26 mv9_σ_28 mv12_σ_28 mv14_σ_28 mv15_σ_28 mv16_σ_28; omega) | omega)]; exact k3σ_26.1, by rw [mcσ_28 3721 (by decide), if_neg (by first | (clear hs hz h4 k3σ ahpσ_2 dhpσ_2 ehpσ_2 kc_3 ahpσ_5 dhpσ_5 ehpσ_5 kc_6 kc_7 ahpσ_9 chpσ_9 dhpσ_9 ehpσ_9 ahpσ_11 bhpσ_11 chpσ_11 ahpσ_13 chpσ_13 dhpσ_13 ehpσ_13 if_14 kc_17 ahpσ_19 dhpσ_19 ehpσ_19 iz_20 if_22 c_23 if_24 c_25 k4σ_26 smσ_26 onσ_26 mv9_σ_28 mv12_σ_28 mv14_σ_28 mv15_σ_28 mv16_σ_28; omega) | omega)]; exact k3σ_26.2⟩
      have k4σ_28 : 1 ≤ m_c X σ_28 a 3724 + 10 * (σ_28.1 a 12).toInt := (by have := mcσ_28 3724 (by decide); rw [if_neg (by first | (clear hs hz hk h4 k3σ ahpσ_2 dhpσ_2 ehpσ_2 k3σ_2 kc_3 ahpσ_5 dhpσ_5 ehpσ_5 k3σ_5 kc_6 kc_7 ahpσ_9 chpσ_9 dhpσ_9 ehpσ_9 k3σ_9 ahpσ_11 bhpσ_11 chpσ_11 ahpσ_13 chpσ_13 dhpσ_13 ehpσ_13 k3σ_13 if_14 if_15 iz_16 kc_17 ahpσ_19 dhpσ_19 ehpσ_19 k3σ_19 iz_20 if_22 c_23 if_24 c_25 k3σ_26 k4σ_26 smσ_26 onσ_26 mv9_σ_28 mv12_σ_28 mv14_σ_28 mv15_σ_28 mv16_σ_28 k3σ_28; omega) | omega)] at this; omega)
      have smσ_28 : 0 ≤ (σ_28.1 a 15).toInt ∧ (σ_28.1 a 15).toInt ≤ (σ_28.1 a 16).toInt ∧ (σ_28.1 a 16).toInt ≤ (σ_28.1 a 9).toInt ∧ (σ_28.1 a 9).toInt ≤ 900 ∧ 0 ≤ (σ_28.1 a 14).toInt ∧ (σ_28.1 a 14).toInt ≤ 4 ∧ (σ_28.1 a 14).toInt ≤ 4 * ((σ_28.1 a 16).toInt - (σ_28.1 a 15).toInt) ∧ (σ_28.1 a 14).toInt ≤ 4 * ((σ_28.1 a 9).toInt - (σ_28.1 a 15).toInt) ∧ 0 ≤ (σ_28.1 a 12).toInt ∧ (σ_28.1 a 9).toInt = (σ.1 a 9).toInt ∧ (σ.1 a 15).toInt ≤ (σ_28.1 a 15).toInt ∧ (σ.1 a 12).toInt ≤ (σ_28.1 a 12).toInt := (by first | (rw [mv12_σ_28, mv14_σ_28, mv15_σ_28, mv16_σ_28, mv9_σ_28]; exact smσ_26) | omega)
      have onσ_28 : (σ.1 a 16).toInt ≤ (σ_28.1 a 15).toInt := (by first | (clear hs hz hk h4 k3σ ahpσ_2 dhpσ_2 ehpσ_2 k3σ_2 kc_3 ahpσ_5 chpσ_5 dhpσ_5 ehpσ_5 k3σ_5 kc_6 kc_7 ahpσ_9 chpσ_9 dhpσ_9 ehpσ_9 k3σ_9 ahpσ_11 bhpσ_11 chpσ_11 ahpσ_13 chpσ_13 dhpσ_13 ehpσ_13 k3σ_13 if_14 if_15 iz_16 kc_17 ahpσ_19 chpσ_19 dhpσ_19 ehpσ_19 k3σ_19 iz_20 iz_21 if_22 c_23 if_24 c_25 k3σ_26 k4σ_26 smσ_26 iz_27 mv9_σ_28 mv12_σ_28 mv14_σ_28 mv16_σ_28 k3σ_28 k4σ_28 smσ_28; omega) | omega)
      clear mv9_σ_28 mv12_σ_28 mv14_σ_28 mv15_σ_28 mv16_σ_28 k4σ_26 smσ_26 onσ_26
      exact q_retv E hr hlk hI ⟨nnσ_28, kpσ_28, (by first | exact smσ_28 | omega), (by first | exact smσ_28 | omega), k3σ_28, k4σ_28, (hF.trans hout), fr_σ_28⟩ dX12_readHand_128
    · skip
      replace hF := q_ifp hF c_25
      exact q_retv E hr hlk hI ⟨nnσ_19, kpσ_19, (by first | exact smσ_19 | omega), (by first | exact smσ_19 | omega), k3σ_19, k4σ_19, (hF.trans hout), fr_σ_19⟩ dX12_readHand_107
  · skip
    replace hF := q_ifp hF c_23
    refine lv_aload_n hx hb dX12_readHand_64 rfl (lv_at hl 5 rfl) ?_
    refine gs_X12_41_12 E hI ha dX12_readHand_65 ?_
    refine lv_iload hx hb dX12_readHand_68 (lv_at hl 0 rfl) ?_
    refine q_iald E hI (q_tk (k' := 36) hI ha rfl (Nat.succ_ne_zero _)) ⟨by decide, rfl⟩ (by first | (clear hs hz hk h4 k3σ ahpσ_2 dhpσ_2 ehpσ_2 k3σ_2 kc_3 ahpσ_5 dhpσ_5 ehpσ_5 k3σ_5 kc_7 ahpσ_9 chpσ_9 dhpσ_9 ehpσ_9 k3σ_9 ahpσ_11 bhpσ_11 chpσ_11 ahpσ_13 chpσ_13 dhpσ_13 ehpσ_13 k3σ_13 if_14 if_15 iz_16 kc_17 ahpσ_19 dhpσ_19 ehpσ_19 k3σ_19 iz_20; omega) | omega) (by rw [q_lnk (v := 60) hI (q_tk (k' := 36) hI ha rfl (Nat.succ_ne_zero _)) rfl (by decide)]; omega) dX12_readHand_70 ?_
    refine lv_topi (fun f_29 ef_29 => ?_)
    replace hF := q_letX hF ef_29
    refine lv_iconst (v := 1) hx hb dX12_readHand_71 zki_1 ?_
    refine q_icmp_eq (A := f_29.toInt) (B := 1) E rfl (by decide) (tgt := 94) dX12_readHand_72 (by decide) (fun c_30 => ?_) (fun c_30 => ?_)
    · skip
      replace hF := q_ifp hF c_30
      refine lv_aload_n hx hb dX12_readHand_94 rfl (lv_at hl 5 rfl) ?_
      refine lv_iconst (v := 5) hx hb dX12_readHand_95 zki_5 ?_
      refine lv_iload_n hx hb dX12_readHand_96 rfl (lv_at hl 2 rfl) ?_
      have kc_31 : (5 : Int32).toInt = 5 := zt_5
      refine q_cv (q_rV11_2 (rest := []) E (hml.trans hl.1.symm) hI (c_X12_fail l X σ_19 a (5 : Int32) f_14 ha (by first | (clear hs hz hk h4 k3σ ahpσ_2 dhpσ_2 ehpσ_2 k3σ_2 kc_3 ahpσ_5 chpσ_5 dhpσ_5 ehpσ_5 k3σ_5 kc_6 kc_7 ahpσ_9 chpσ_9 dhpσ_9 ehpσ_9 k3σ_9 ahpσ_11 bhpσ_11 chpσ_11 ahpσ_13 chpσ_13 dhpσ_13 ehpσ_13 k3σ_13 if_14 if_15 iz_16 kc_17 ahpσ_19 chpσ_19 dhpσ_19 ehpσ_19 k3σ_19 iz_20 iz_21 c_30 kc_31; omega) | omega) (by first | (clear hs hz hk h4 k3σ ahpσ_2 dhpσ_2 ehpσ_2 k3σ_2 kc_3 ahpσ_5 chpσ_5 dhpσ_5 ehpσ_5 k3σ_5 kc_6 kc_7 ahpσ_9 chpσ_9 dhpσ_9 ehpσ_9 k3σ_9 ahpσ_11 bhpσ_11 chpσ_11 ahpσ_13 chpσ_13 dhpσ_13 ehpσ_13 k3σ_13 if_14 if_15 iz_16 kc_17 ahpσ_19 chpσ_19 dhpσ_19 ehpσ_19 k3σ_19 iz_20 iz_21 if_22 c_23 c_30; omega) | omega)) kv_X12_193 ha ⟨Nat.le_of_ble_eq_true rfl, Nat.le_of_ble_eq_true rfl⟩ (Nat.le_of_ble_eq_true rfl) dX12_readHand_97) hI (Nat.le_of_ble_eq_true rfl) (fun σ_33 H locs hpσ_33 hkσ_33 hI => ?_)
      have ahpσ_33 := hpσ_33.1
      have bhpσ_33 := hpσ_33.2.1
      have chpσ_33 := hpσ_33.2.2.1
      have dhpσ_33 := hpσ_33.2.2.2.1
      have ehpσ_33 := hpσ_33.2.2.2.2
      clear hpσ_33
      have fr_σ_33 := fr_σ_19.call ehpσ_33 rfl rfl
      replace hF := q_letX hF dhpσ_33
      have mcσ_33 := m_cK hkσ_33 hI.1 ha (by decide)
      have nnσ_33 : m_N (m_c X σ_33 a) := m_N.ext mcσ_33 nnσ_19
      have kpσ_33 : ∀ j, 0 ≤ j → j < 3720 → m_c X σ_33 a j = m_c X σ a j := fun j h0 h1 => (mcσ_33 j).trans (kpσ_19 j h0 h1)
      have k3σ_33 : m_c X σ_33 a 3720 = m_c X σ a 3720 ∧ m_c X σ_33 a 3721 = m_c X σ a 3721 := ⟨(mcσ_33 3720).trans k3σ_19.1, (mcσ_33 3721).trans k3σ_19.2⟩
      have k4σ_33 : 1 ≤ m_c X σ_33 a 3724 + 10 * (σ_33.1 a 12).toInt := (by have := mcσ_33 3724; omega)
      have smσ_33 : 0 ≤ (σ_33.1 a 15).toInt ∧ (σ_33.1 a 15).toInt ≤ (σ_33.1 a 16).toInt ∧ (σ_33.1 a 16).toInt ≤ (σ_33.1 a 9).toInt ∧ (σ_33.1 a 9).toInt ≤ 900 ∧ 0 ≤ (σ_33.1 a 14).toInt ∧ (σ_33.1 a 14).toInt ≤ 4 ∧ (σ_33.1 a 14).toInt ≤ 4 * ((σ_33.1 a 16).toInt - (σ_33.1 a 15).toInt) ∧ (σ_33.1 a 14).toInt ≤ 4 * ((σ_33.1 a 9).toInt - (σ_33.1 a 15).toInt) ∧ 0 ≤ (σ_33.1 a 12).toInt ∧ (σ_33.1 a 9).toInt = (σ.1 a 9).toInt ∧ (σ.1 a 15).toInt ≤ (σ_33.1 a 15).toInt ∧ (σ.1 a 12).toInt ≤ (σ_33.1 a 12).toInt := (by first | exact sm_fl smσ_19 bhpσ_33 chpσ_33 | omega)
      have onσ_33 : (σ.1 a 16).toInt ≤ (σ_33.1 a 15).toInt := (by first | (clear hs hz hk h4 k3σ ahpσ_2 dhpσ_2 ehpσ_2 k3σ_2 kc_3 ahpσ_5 chpσ_5 dhpσ_5 ehpσ_5 k3σ_5 kc_6 kc_7 ahpσ_9 chpσ_9 dhpσ_9 ehpσ_9 k3σ_9 ahpσ_11 bhpσ_11 chpσ_11 ahpσ_13 chpσ_13 dhpσ_13 ehpσ_13 k3σ_13 if_14 if_15 iz_16 kc_17 ahpσ_19 chpσ_19 dhpσ_19 ehpσ_19 k3σ_19 iz_20 iz_21 if_22 c_23 c_30 kc_31 ahpσ_33 chpσ_33 dhpσ_33 ehpσ_33 k3σ_33 k4σ_33 smσ_33; omega) | omega)
      clear k4σ_19 smσ_19 onσ_19 bhpσ_33
      refine lv_aload_n hx hb dX12_readHand_100 rfl (lv_at hl 5 rfl) ?_
      refine gs_X12_187_12 E hI ha dX12_readHand_101 ?_
      refine lv_topi (fun f_34 ef_34 => ?_)
      replace hF := q_letX hF ef_34
      have if_34 : f_34.toInt = (σ_33.1 a 12).toInt := congrArg Int32.toInt ef_34
      refine q_if_le (A := f_34.toInt) E rfl (tgt := 108) dX12_readHand_104 (by decide) (fun c_35 => ?_) (fun c_35 => ?_)
      · skip
        replace hF := q_ifn hF (Int.not_lt.mpr c_35)
        refine lv_aload_n hx hb dX12_readHand_108 rfl (lv_at hl 5 rfl) ?_
        refine gs_X12_41_12 E hI ha dX12_readHand_109 ?_
        refine lv_iload hx hb dX12_readHand_112 (lv_at hl 0 rfl) ?_
        refine lv_iconst (v := 1) hx hb dX12_readHand_114 zki_1 ?_
        refine q_iastN E hI (q_tk (k' := 36) hI ha rfl (Nat.succ_ne_zero _)) ⟨by decide, rfl⟩ (by first | (clear hs hz hk h4 k3σ ahpσ_2 dhpσ_2 ehpσ_2 k3σ_2 kc_3 ahpσ_5 chpσ_5 dhpσ_5 ehpσ_5 k3σ_5 kc_6 kc_7 ahpσ_9 chpσ_9 dhpσ_9 ehpσ_9 k3σ_9 ahpσ_11 bhpσ_11 chpσ_11 ahpσ_13 chpσ_13 dhpσ_13 ehpσ_13 k3σ_13 if_14 if_15 iz_16 kc_17 ahpσ_19 chpσ_19 dhpσ_19 ehpσ_19 k3σ_19 iz_20 iz_21 if_22 c_23 c_30 kc_31 ahpσ_33 dhpσ_33 ehpσ_33 k3σ_33 k4σ_33 smσ_33 onσ_33; omega) | omega) (by rw [q_lnk (v := 60) hI (q_tk (k' := 36) hI ha rfl (Nat.succ_ne_zero _)) rfl (by decide)]; omega) (show 1 < 9 by decide) (q_inU rfl) dX12_readHand_115 (fun H locs σ_36 hσ_36 hI => ?_)
        replace hF := q_letX hF hσ_36
        have fr_σ_36 := fr_σ_33.si hσ_36 (q_tk (k' := 36) hI ha rfl (Nat.succ_ne_zero _)) rfl
        have mv9_σ_36 : (σ_36.1 a 9).toInt = (σ_33.1 a 9).toInt := congrArg Int32.toInt ((hσ_36 ▸ (q_K.si (q_tk (k' := 36) hI ha rfl (Nat.succ_ne_zero _)) (show 8 < 9 by decide) : q_K 8 X σ_33 (q_si σ_33 (q_rf X a 22) (z_21 : Int32).toNatClampNeg _))) a 9 (by rw [ha]; decide))
        have mv12_σ_36 : (σ_36.1 a 12).toInt = (σ_33.1 a 12).toInt := congrArg Int32.toInt ((hσ_36 ▸ (q_K.si (q_tk (k' := 36) hI ha rfl (Nat.succ_ne_zero _)) (show 8 < 9 by decide) : q_K 8 X σ_33 (q_si σ_33 (q_rf X a 22) (z_21 : Int32).toNatClampNeg _))) a 12 (by rw [ha]; decide))
        have mv14_σ_36 : (σ_36.1 a 14).toInt = (σ_33.1 a 14).toInt := congrArg Int32.toInt ((hσ_36 ▸ (q_K.si (q_tk (k' := 36) hI ha rfl (Nat.succ_ne_zero _)) (show 8 < 9 by decide) : q_K 8 X σ_33 (q_si σ_33 (q_rf X a 22) (z_21 : Int32).toNatClampNeg _))) a 14 (by rw [ha]; decide))
        have mv15_σ_36 : (σ_36.1 a 15).toInt = (σ_33.1 a 15).toInt := congrArg Int32.toInt ((hσ_36 ▸ (q_K.si (q_tk (k' := 36) hI ha rfl (Nat.succ_ne_zero _)) (show 8 < 9 by decide) : q_K 8 X σ_33 (q_si σ_33 (q_rf X a 22) (z_21 : Int32).toNatClampNeg _))) a 15 (by rw [ha]; decide))
        have mv16_σ_36 : (σ_36.1 a 16).toInt = (σ_33.1 a 16).toInt := congrArg Int32.toInt ((hσ_36 ▸ (q_K.si (q_tk (k' := 36) hI ha rfl (Nat.succ_ne_zero _)) (show 8 < 9 by decide) : q_K 8 X σ_33 (q_si σ_33 (q_rf X a 22) (z_21 : Int32).toNatClampNeg _))) a 16 (by rw [ha]; decide))
        have mcσ_36 := m_wo hσ_36 (m_ne (q_tk (k' := 36) hI ha rfl (Nat.succ_ne_zero _)) (q_tk (f := 20) (k' := 34) hI ha rfl (by decide)) (by decide))
        have nnσ_36 : m_N (m_c X σ_36 a) := m_N.ext mcσ_36 nnσ_33
        have kpσ_36 : ∀ j, 0 ≤ j → j < 3720 → m_c X σ_36 a j = m_c X σ a j := fun j h0 h1 => (mcσ_36 j).trans (kpσ_33 j h0 h1)
        have k3σ_36 : m_c X σ_36 a 3720 = m_c X σ a 3720 ∧ m_c X σ_36 a 3721 = m_c X σ a 3721 := ⟨(mcσ_36 3720).trans k3σ_33.1, (mcσ_36 3721).trans k3σ_33.2⟩
        have k4σ_36 : 1 ≤ m_c X σ_36 a 3724 + 10 * (σ_36.1 a 12).toInt := (by have := mcσ_36 3724; omega)
        have smσ_36 : 0 ≤ (σ_36.1 a 15).toInt ∧ (σ_36.1 a 15).toInt ≤ (σ_36.1 a 16).toInt ∧ (σ_36.1 a 16).toInt ≤ (σ_36.1 a 9).toInt ∧ (σ_36.1 a 9).toInt ≤ 900 ∧ 0 ≤ (σ_36.1 a 14).toInt ∧ (σ_36.1 a 14).toInt ≤ 4 ∧ (σ_36.1 a 14).toInt ≤ 4 * ((σ_36.1 a 16).toInt - (σ_36.1 a 15).toInt) ∧ (σ_36.1 a 14).toInt ≤ 4 * ((σ_36.1 a 9).toInt - (σ_36.1 a 15).toInt) ∧ 0 ≤ (σ_36.1 a 12).toInt ∧ (σ_36.1 a 9).toInt = (σ.1 a 9).toInt ∧ (σ.1 a 15).toInt ≤ (σ_36.1 a 15).toInt ∧ (σ.1 a 12).toInt ≤ (σ_36.1 a 12).toInt := (by first | (rw [mv12_σ_36, mv14_σ_36, mv15_σ_36, mv16_σ_36, mv9_σ_36]; exact smσ_33) | omega)
        have onσ_36 : (σ.1 a 16).toInt ≤ (σ_36.1 a 15).toInt := (by first | (clear hs hz hk h4 k3σ ahpσ_2 dhpσ_2 ehpσ_2 k3σ_2 kc_3 ahpσ_5 chpσ_5 dhpσ_5 ehpσ_5 k3σ_5 kc_6 kc_7 ahpσ_9 chpσ_9 dhpσ_9 ehpσ_9 k3σ_9 ahpσ_11 bhpσ_11 chpσ_11 ahpσ_13 chpσ_13 dhpσ_13 ehpσ_13 k3σ_13 if_14 if_15 iz_16 kc_17 ahpσ_19 chpσ_19 dhpσ_19 ehpσ_19 k3σ_19 iz_20 iz_21 if_22 c_23 c_30 kc_31 ahpσ_33 dhpσ_33 ehpσ_33 k3σ_33 k4σ_33 smσ_33 onσ_33 mv9_σ_36 mv12_σ_36 mv14_σ_36 mv15_σ_36 mv16_σ_36 k3σ_36 k4σ_36 smσ_36; omega) | omega)
        clear mv9_σ_36 mv12_σ_36 mv14_σ_36 mv15_σ_36 mv16_σ_36 k4σ_33 smσ_33 onσ_33
        refine lv_aload_n hx hb dX12_readHand_116 rfl (lv_at hl 5 rfl) ?_
        refine gs_X12_35_12 E hI ha dX12_readHand_117 ?_
        refine lv_sipush (v := 3754) hx hb dX12_readHand_120 zks_3754 ?_
        refine lv_iload hx hb dX12_readHand_123 (lv_at hl 0 rfl) ?_
        refine lv_iadd hx hb dX12_readHand_125 ?_
        refine lv_topi (fun z_37 ez_37 => ?_)
        replace hF := q_letX hF ez_37
        have iz_37 := q_addI (A := 3754) (B := ((10 * r_4.toInt) + r_18.toInt)) ez_37 (by decide) iz_21 (by first | (clear hs hz hk h4 k3σ ahpσ_2 dhpσ_2 ehpσ_2 k3σ_2 kc_3 ahpσ_5 chpσ_5 dhpσ_5 ehpσ_5 k3σ_5 kc_6 kc_7 ahpσ_9 chpσ_9 dhpσ_9 ehpσ_9 k3σ_9 ahpσ_11 bhpσ_11 chpσ_11 ahpσ_13 chpσ_13 dhpσ_13 ehpσ_13 k3σ_13 if_14 if_15 iz_16 kc_17 ahpσ_19 chpσ_19 dhpσ_19 ehpσ_19 k3σ_19 iz_20 iz_21 if_22 c_23 c_30 kc_31 ahpσ_33 dhpσ_33 ehpσ_33 k3σ_33 k3σ_36 k4σ_36 smσ_36 onσ_36; omega) | omega) (by first | (clear hs hz hk h4 k3σ ahpσ_2 dhpσ_2 ehpσ_2 k3σ_2 kc_3 ahpσ_5 chpσ_5 dhpσ_5 ehpσ_5 k3σ_5 kc_6 kc_7 ahpσ_9 chpσ_9 dhpσ_9 ehpσ_9 k3σ_9 ahpσ_11 bhpσ_11 chpσ_11 ahpσ_13 chpσ_13 dhpσ_13 ehpσ_13 k3σ_13 if_14 if_15 iz_16 kc_17 ahpσ_19 chpσ_19 dhpσ_19 ehpσ_19 k3σ_19 iz_20 iz_21 if_22 c_23 c_30 kc_31 ahpσ_33 dhpσ_33 ehpσ_33 k3σ_33 k3σ_36 k4σ_36 smσ_36 onσ_36; omega) | omega)
        refine lv_iload_n hx hb dX12_readHand_126 rfl (lv_at hl 3 rfl) ?_
        refine q_iastN E hI (q_tk (k' := 34) hI ha rfl (Nat.succ_ne_zero _)) ⟨by decide, rfl⟩ (by first | (clear hs hz hk h4 k3σ ahpσ_2 dhpσ_2 ehpσ_2 k3σ_2 kc_3 ahpσ_5 chpσ_5 dhpσ_5 ehpσ_5 k3σ_5 kc_6 kc_7 ahpσ_9 chpσ_9 dhpσ_9 ehpσ_9 k3σ_9 ahpσ_11 bhpσ_11 chpσ_11 ahpσ_13 chpσ_13 dhpσ_13 ehpσ_13 k3σ_13 if_14 if_15 iz_16 kc_17 ahpσ_19 chpσ_19 dhpσ_19 ehpσ_19 k3σ_19 iz_20 iz_21 if_22 c_23 c_30 kc_31 ahpσ_33 dhpσ_33 ehpσ_33 k3σ_33 k3σ_36 k4σ_36 smσ_36 onσ_36 iz_37; omega) | omega) (by rw [q_lnk (v := 4650) hI (q_tk (k' := 34) hI ha rfl (Nat.succ_ne_zero _)) rfl (by decide)]; omega) (show 1 < 2 by decide) (q_inU rfl) dX12_readHand_127 (fun H locs σ_38 hσ_38 hI => ?_)
        replace hF := q_letX hF hσ_38
        have fr_σ_38 := fr_σ_36.si hσ_38 (q_tk (k' := 34) hI ha rfl (Nat.succ_ne_zero _)) rfl
        have mv9_σ_38 : (σ_38.1 a 9).toInt = (σ_36.1 a 9).toInt := congrArg Int32.toInt (q_rdn hσ_38 (Or.inl (m_ne ha (q_tk (k' := 34) hI ha rfl (Nat.succ_ne_zero _)) (by decide))))
        have mv12_σ_38 : (σ_38.1 a 12).toInt = (σ_36.1 a 12).toInt := congrArg Int32.toInt (q_rdn hσ_38 (Or.inl (m_ne ha (q_tk (k' := 34) hI ha rfl (Nat.succ_ne_zero _)) (by decide))))
        have mv14_σ_38 : (σ_38.1 a 14).toInt = (σ_36.1 a 14).toInt := congrArg Int32.toInt (q_rdn hσ_38 (Or.inl (m_ne ha (q_tk (k' := 34) hI ha rfl (Nat.succ_ne_zero _)) (by decide))))
        have mv15_σ_38 : (σ_38.1 a 15).toInt = (σ_36.1 a 15).toInt := congrArg Int32.toInt (q_rdn hσ_38 (Or.inl (m_ne ha (q_tk (k' := 34) hI ha rfl (Nat.succ_ne_zero _)) (by decide))))
        have mv16_σ_38 : (σ_38.1 a 16).toInt = (σ_36.1 a 16).toInt := congrArg Int32.toInt (q_rdn hσ_38 (Or.inl (m_ne ha (q_tk (k' := 34) hI ha rfl (Nat.succ_ne_zero _)) (by decide))))
        have mcσ_38 := m_wr (v := r_8) (A := (3754 + ((10 * r_4.toInt) + r_18.toInt))) hσ_38 iz_37 (by first | (clear hs hz hk h4 k3σ ahpσ_2 dhpσ_2 ehpσ_2 k3σ_2 kc_3 ahpσ_5 chpσ_5 dhpσ_5 ehpσ_5 k3σ_5 kc_6 kc_7 ahpσ_9 chpσ_9 dhpσ_9 ehpσ_9 k3σ_9 ahpσ_11 bhpσ_11 chpσ_11 ahpσ_13 chpσ_13 dhpσ_13 ehpσ_13 k3σ_13 if_14 if_15 iz_16 kc_17 ahpσ_19 chpσ_19 dhpσ_19 ehpσ_19 k3σ_19 iz_20 iz_21 if_22 c_23 c_30 kc_31 ahpσ_33 dhpσ_33 ehpσ_33 k3σ_33 k3σ_36 k4σ_36 smσ_36 onσ_36 iz_37 mv9_σ_38 mv12_σ_38 mv14_σ_38 mv15_σ_38 mv16_σ_38; omega) | omega)
        have nnσ_38 : m_N (m_c X σ_38 a) := m_N.hand nnσ_36 (by first | (clear hs hz hk h4 k3σ ahpσ_2 dhpσ_2 ehpσ_2 k3σ_2 kc_3 ahpσ_5 chpσ_5 dhpσ_5 ehpσ_5 k3σ_5 kc_6 kc_7 ahpσ_9 chpσ_9 dhpσ_9 ehpσ_9 k3σ_9 ahpσ_11 bhpσ_11 chpσ_11 ahpσ_13 chpσ_13 dhpσ_13 ehpσ_13 k3σ_13 if_14 if_15 iz_16 kc_17 ahpσ_19 chpσ_19 dhpσ_19 ehpσ_19 k3σ_19 iz_20 iz_21 if_22 c_23 c_30 kc_31 ahpσ_33 dhpσ_33 ehpσ_33 k3σ_33 k3σ_36 k4σ_36 smσ_36 onσ_36 iz_37 mv9_σ_38 mv12_σ_38 mv14_σ_38 mv15_σ_38 mv16_σ_38; omega) | omega) (by first | (clear hs hz hk h4 k3σ ahpσ_2 dhpσ_2 ehpσ_2 k3σ_2 kc_3 ahpσ_5 chpσ_5 dhpσ_5 ehpσ_5 k3σ_5 kc_6 kc_7 ahpσ_9 chpσ_9 dhpσ_9 ehpσ_9 k3σ_9 ahpσ_11 bhpσ_11 chpσ_11 ahpσ_13 chpσ_13 dhpσ_13 ehpσ_13 k3σ_13 if_14 if_15 iz_16 kc_17 ahpσ_19 chpσ_19 dhpσ_19 ehpσ_19 k3σ_19 iz_20 iz_21 if_22 c_23 c_30 kc_31 ahpσ_33 dhpσ_33 ehpσ_33 k3σ_33 k3σ_36 k4σ_36 smσ_36 onσ_36 iz_37 mv9_σ_38 mv12_σ_38 mv14_σ_38 mv15_σ_38 mv16_σ_38; omega) | omega) (by first | (clear hs hz hk h4 k3σ ahpσ_2 dhpσ_2 ehpσ_2 k3σ_2 kc_3 ahpσ_5 chpσ_5 dhpσ_5 ehpσ_5 k3σ_5 kc_6 kc_7 ahpσ_9 chpσ_9 dhpσ_9 ehpσ_9 k3σ_9 ahpσ_11 bhpσ_11 chpσ_11 ahpσ_13 chpσ_13 dhpσ_13 ehpσ_13 k3σ_13 if_14 if_15 iz_16 kc_17 ahpσ_19 chpσ_19 dhpσ_19 ehpσ_19 k3σ_19 iz_20 iz_21 if_22 c_23 c_30 kc_31 ahpσ_33 dhpσ_33 ehpσ_33 k3σ_33 k3σ_36 k4σ_36 smσ_36 onσ_36 iz_37 mv9_σ_38 mv12_σ_38 mv14_σ_38 mv15_σ_38 mv16_σ_38; omega) | omega) mcσ_38 (by first | (clear hs hz hk h4 k3σ ahpσ_2 dhpσ_2 ehpσ_2 k3σ_2 kc_3 ahpσ_5 chpσ_5 dhpσ_5 ehpσ_5 k3σ_5 kc_6 kc_7 ahpσ_9 chpσ_9 dhpσ_9 ehpσ_9 k3σ_9 ahpσ_11 bhpσ_11 chpσ_11 ahpσ_13 chpσ_13 dhpσ_13 ehpσ_13 k3σ_13 if_14 if_15 iz_16 kc_17 ahpσ_19 chpσ_19 dhpσ_19 ehpσ_19 k3σ_19 iz_20 iz_21 if_22 c_23 c_30 kc_31 ahpσ_33 dhpσ_33 ehpσ_33 k3σ_33 k3σ_36 k4σ_36 smσ_36 onσ_36 iz_37 mv9_σ_38 mv12_σ_38 mv14_σ_38 mv15_σ_38 mv16_σ_38; omega) | omega) (by rw [funext mcσ_36]; omega)
        have kpσ_38 : ∀ j, 0 ≤ j → j < 3720 → m_c X σ_38 a j = m_c X σ a j := fun j h0 h1 => by rw [mcσ_38 j h0, if_neg (by first | (clear hs hz hk h4 k3σ ahpσ_2 dhpσ_2 ehpσ_2 k3σ_2 kc_3 ahpσ_5 chpσ_5 dhpσ_5 ehpσ_5 k3σ_5 kc_6 kc_7 ahpσ_9 chpσ_9 dhpσ_9 ehpσ_9 k3σ_9 ahpσ_11 bhpσ_11 chpσ_11 ahpσ_13 chpσ_13 dhpσ_13 ehpσ_13 k3σ_13 if_14 if_15 iz_16 kc_17 ahpσ_19 chpσ_19 dhpσ_19 ehpσ_19 k3σ_19 iz_20 iz_21 if_22 c_23 c_30 kc_31 ahpσ_33 dhpσ_33 ehpσ_33 k3σ_33 k3σ_36 k4σ_36 smσ_36 onσ_36 iz_37 mv9_σ_38 mv12_σ_38 mv14_σ_38 mv15_σ_38 mv16_σ_38; omega) | omega)]; exact kpσ_36 j h0 h1
        have k3σ_38 : m_c X σ_38 a 3720 = m_c X σ a 3720 ∧ m_c X σ_38 a 3721 = m_c X σ a 3721 := ⟨by rw [mcσ_38 3720 (by decide), if_neg (by first | (clear hs hz hk h4 k3σ ahpσ_2 dhpσ_2 ehpσ_2 k3σ_2 kc_3 ahpσ_5 chpσ_5 dhpσ_5 ehpσ_5 k3σ_5 kc_6 kc_7 ahpσ_9 chpσ_9 dhpσ_9 ehpσ_9 k3σ_9 ahpσ_11 bhpσ_11 chpσ_11 ahpσ_13 chpσ_13 dhpσ_13 ehpσ_13 k3σ_13 if_14 if_15 iz_16 kc_17 ahpσ_19 chpσ_19 dhpσ_19 ehpσ_19 k3σ_19 iz_20 iz_21 if_22 c_23 c_30 kc_31 ahpσ_33 dhpσ_33 ehpσ_33 k3σ_33 k3σ_36 k4σ_36 smσ_36 onσ_36 iz_37 mv9_σ_38 mv12_σ_38 mv14_σ_38 mv15_σ_38 mv16_σ_38; omega) | omega)]; exact k3σ_36.1, by rw [mcσ_38 3721 (by decide), if_neg (by first | (clear hs hz hk h4 k3σ ahpσ_2 dhpσ_2 ehpσ_2 k3σ_2 kc_3 ahpσ_5 chpσ_5 dhpσ_5 ehpσ_5 k3σ_5 kc_6 kc_7 ahpσ_9 chpσ_9 dhpσ_9 ehpσ_9 k3σ_9 ahpσ_11 bhpσ_11 chpσ_11 ahpσ_13 chpσ_13 dhpσ_13 ehpσ_13 k3σ_13 if_14 if_15 iz_16 kc_17 ahpσ_19 chpσ_19 dhpσ_19 ehpσ_19 k3σ_19 iz_20 iz_21 if_22 c_23 c_30 kc_31 ahpσ_33 dhpσ_33 ehpσ_33 k3σ_33 k3σ_36 k4σ_36 smσ_36 onσ_36 iz_37 mv9_σ_38 mv12_σ_38 mv14_σ_38 mv15_σ_38 mv16_σ_38; omega) | omega)]; exact k3σ_36.2⟩
        have k4σ_38 : 1 ≤ m_c X σ_38 a 3724 + 10 * (σ_38.1 a 12).toInt := (by have := mcσ_38 3724 (by decide); rw [if_neg (by first | (clear hs hz hk h4 k3σ ahpσ_2 dhpσ_2 ehpσ_2 k3σ_2 kc_3 ahpσ_5 chpσ_5 dhpσ_5 ehpσ_5 k3σ_5 kc_6 kc_7 ahpσ_9 chpσ_9 dhpσ_9 ehpσ_9 k3σ_9 ahpσ_11 bhpσ_11 chpσ_11 ahpσ_13 chpσ_13 dhpσ_13 ehpσ_13 k3σ_13 if_14 if_15 iz_16 kc_17 ahpσ_19 chpσ_19 dhpσ_19 ehpσ_19 k3σ_19 iz_20 iz_21 if_22 c_23 c_30 kc_31 ahpσ_33 dhpσ_33 ehpσ_33 k3σ_33 k3σ_36 k4σ_36 smσ_36 onσ_36 iz_37 mv9_σ_38 mv12_σ_38 mv14_σ_38 mv15_σ_38 mv16_σ_38 k3σ_38; omega) | omega)] at this; omega)
        have smσ_38 : 0 ≤ (σ_38.1 a 15).toInt ∧ (σ_38.1 a 15).toInt ≤ (σ_38.1 a 16).toInt ∧ (σ_38.1 a 16).toInt ≤ (σ_38.1 a 9).toInt ∧ (σ_38.1 a 9).toInt ≤ 900 ∧ 0 ≤ (σ_38.1 a 14).toInt ∧ (σ_38.1 a 14).toInt ≤ 4 ∧ (σ_38.1 a 14).toInt ≤ 4 * ((σ_38.1 a 16).toInt - (σ_38.1 a 15).toInt) ∧ (σ_38.1 a 14).toInt ≤ 4 * ((σ_38.1 a 9).toInt - (σ_38.1 a 15).toInt) ∧ 0 ≤ (σ_38.1 a 12).toInt ∧ (σ_38.1 a 9).toInt = (σ.1 a 9).toInt ∧ (σ.1 a 15).toInt ≤ (σ_38.1 a 15).toInt ∧ (σ.1 a 12).toInt ≤ (σ_38.1 a 12).toInt := (by first | (rw [mv12_σ_38, mv14_σ_38, mv15_σ_38, mv16_σ_38, mv9_σ_38]; exact smσ_36) | omega)
        have onσ_38 : (σ.1 a 16).toInt ≤ (σ_38.1 a 15).toInt := (by first | (clear hs hz hk h4 k3σ ahpσ_2 dhpσ_2 ehpσ_2 k3σ_2 kc_3 ahpσ_5 chpσ_5 dhpσ_5 ehpσ_5 k3σ_5 kc_6 kc_7 ahpσ_9 chpσ_9 dhpσ_9 ehpσ_9 k3σ_9 ahpσ_11 bhpσ_11 chpσ_11 ahpσ_13 chpσ_13 dhpσ_13 ehpσ_13 k3σ_13 if_14 if_15 iz_16 kc_17 ahpσ_19 chpσ_19 dhpσ_19 ehpσ_19 k3σ_19 iz_20 iz_21 if_22 c_23 c_30 kc_31 ahpσ_33 dhpσ_33 ehpσ_33 k3σ_33 k3σ_36 k4σ_36 smσ_36 onσ_36 iz_37 mv9_σ_38 mv12_σ_38 mv14_σ_38 mv15_σ_38 mv16_σ_38 k3σ_38 k4σ_38 smσ_38; omega) | omega)
        clear mv9_σ_38 mv12_σ_38 mv14_σ_38 mv15_σ_38 mv16_σ_38 k4σ_36 smσ_36 onσ_36
        exact q_retv E hr hlk hI ⟨nnσ_38, kpσ_38, (by first | exact smσ_38 | omega), (by first | exact smσ_38 | omega), k3σ_38, k4σ_38, (hF.trans hout), fr_σ_38⟩ dX12_readHand_128
      · skip
        replace hF := q_ifp hF c_35
        exact q_retv E hr hlk hI ⟨nnσ_33, kpσ_33, (by first | exact smσ_33 | omega), (by first | exact smσ_33 | omega), k3σ_33, k4σ_33, (hF.trans hout), fr_σ_33⟩ dX12_readHand_107
    · skip
      replace hF := q_ifn hF c_30
      refine lv_aload_n hx hb dX12_readHand_75 rfl (lv_at hl 5 rfl) ?_
      refine lv_iload hx hb dX12_readHand_76 (lv_at hl 1 rfl) ?_
      refine q_ci (q_rV11_1 (rest := []) E (hml.trans hl.1.symm) hI (c_X12_toldOf l X σ_19 a r_18 ha (by first | (clear hs hz hk h4 k3σ ahpσ_2 dhpσ_2 ehpσ_2 k3σ_2 kc_3 ahpσ_5 chpσ_5 dhpσ_5 ehpσ_5 k3σ_5 kc_6 kc_7 ahpσ_9 chpσ_9 dhpσ_9 ehpσ_9 k3σ_9 ahpσ_11 bhpσ_11 chpσ_11 ahpσ_13 chpσ_13 dhpσ_13 ehpσ_13 k3σ_13 if_14 if_15 iz_16 kc_17 ahpσ_19 dhpσ_19 ehpσ_19 k3σ_19 iz_20 if_22 c_23 c_30; omega) | omega) (by first | (clear hs hz h4 k3σ ahpσ_2 dhpσ_2 ehpσ_2 kc_3 ahpσ_5 chpσ_5 dhpσ_5 ehpσ_5 kc_6 kc_7 ahpσ_9 chpσ_9 dhpσ_9 ehpσ_9 ahpσ_11 bhpσ_11 chpσ_11 ahpσ_13 chpσ_13 dhpσ_13 ehpσ_13 if_14 kc_17 ahpσ_19 dhpσ_19 ehpσ_19 iz_20 if_22 c_23 c_30; omega) | omega) nnσ_19) kv_X12_229 ha ⟨Nat.le_of_ble_eq_true rfl, Nat.le_of_ble_eq_true rfl⟩ (Nat.le_of_ble_eq_true rfl) dX12_readHand_78) hI (Nat.le_of_ble_eq_true rfl) (fun r_39 σ_40 H locs hpσ_40 hkσ_40 hI => ?_)
      have ahpσ_40 := hpσ_40.1
      have bhpσ_40 := hpσ_40.2.1
      have chpσ_40 := hpσ_40.2.2
      clear hpσ_40
      replace hI := q_Irw ahpσ_40 hI
      replace hF := q_letX hF chpσ_40
      have ts := m_ps_bd nnσ_19 ⟨(by omega : 0 ≤ r_18.toInt), (by first | (clear hs hz h4 k3σ ahpσ_2 dhpσ_2 ehpσ_2 kc_3 ahpσ_5 chpσ_5 dhpσ_5 ehpσ_5 kc_6 kc_7 ahpσ_9 chpσ_9 dhpσ_9 ehpσ_9 ahpσ_11 bhpσ_11 chpσ_11 ahpσ_13 chpσ_13 dhpσ_13 ehpσ_13 if_14 kc_17 ahpσ_19 dhpσ_19 ehpσ_19 iz_20 if_22 c_23 c_30 ahpσ_40 bhpσ_40 chpσ_40; omega) | omega)⟩ 6 (by decide)
      rw [m_ps_6] at ts
      refine lv_iload_n hx hb dX12_readHand_81 rfl (lv_at hl 3 rfl) ?_
      refine lv_iadd hx hb dX12_readHand_82 ?_
      refine lv_topi (fun z_41 ez_41 => ?_)
      replace hF := q_letX hF ez_41
      have iz_41 := q_addI (A := r_39.toInt) (B := r_8.toInt) ez_41 rfl rfl (by first | (clear hs hz hk h4 k3σ ahpσ_2 dhpσ_2 ehpσ_2 k3σ_2 kc_3 ahpσ_5 chpσ_5 dhpσ_5 ehpσ_5 k3σ_5 kc_6 ahpσ_9 dhpσ_9 ehpσ_9 k3σ_9 ahpσ_11 bhpσ_11 chpσ_11 ahpσ_13 chpσ_13 dhpσ_13 ehpσ_13 k3σ_13 if_14 if_15 iz_16 kc_17 ahpσ_19 chpσ_19 dhpσ_19 ehpσ_19 k3σ_19 iz_20 iz_21 if_22 c_23 c_30 ahpσ_40 chpσ_40; omega) | omega) (by first | (clear hs hz hk h4 k3σ ahpσ_2 dhpσ_2 ehpσ_2 k3σ_2 kc_3 ahpσ_5 chpσ_5 dhpσ_5 ehpσ_5 k3σ_5 kc_6 ahpσ_9 dhpσ_9 ehpσ_9 k3σ_9 ahpσ_11 bhpσ_11 chpσ_11 ahpσ_13 chpσ_13 dhpσ_13 ehpσ_13 k3σ_13 if_14 if_15 iz_16 kc_17 ahpσ_19 chpσ_19 dhpσ_19 ehpσ_19 k3σ_19 iz_20 iz_21 if_22 c_23 c_30 ahpσ_40 chpσ_40; omega) | omega)
      refine lv_aload_n hx hb dX12_readHand_83 rfl (lv_at hl 5 rfl) ?_
      refine gs_X12_35_12 E hI ha dX12_readHand_84 ?_
      refine lv_sipush (v := 3721) hx hb dX12_readHand_87 zks_3721 ?_
      refine q_iald E hI (q_tk (k' := 34) hI ha rfl (Nat.succ_ne_zero _)) ⟨by decide, rfl⟩ (by decide) (by rw [q_lnk (v := 4650) hI (q_tk (k' := 34) hI ha rfl (Nat.succ_ne_zero _)) rfl (by decide)]; decide) dX12_readHand_90 ?_
      refine lv_topi (fun f_42 ef_42 => ?_)
      replace hF := q_letX hF ef_42
      have if_42 : f_42.toInt = m_c X σ_19 a 3721 := m_rd ef_42 (by decide)
      refine q_icmp_le (A := z_41.toInt) (B := f_42.toInt) E rfl rfl (tgt := 100) dX12_readHand_91 (by decide) (fun c_43 => ?_) (fun c_43 => ?_)
      · skip
        replace hF := q_ifn hF (Int.not_lt.mpr c_43)
        refine lv_aload_n hx hb dX12_readHand_100 rfl (lv_at hl 5 rfl) ?_
        refine gs_X12_187_12 E hI ha dX12_readHand_101 ?_
        refine lv_topi (fun f_44 ef_44 => ?_)
        replace hF := q_letX hF ef_44
        have if_44 : f_44.toInt = (σ_19.1 a 12).toInt := congrArg Int32.toInt ef_44
        refine q_if_le (A := f_44.toInt) E rfl (tgt := 108) dX12_readHand_104 (by decide) (fun c_45 => ?_) (fun c_45 => ?_)
        · skip
          replace hF := q_ifn hF (Int.not_lt.mpr c_45)
          refine lv_aload_n hx hb dX12_readHand_108 rfl (lv_at hl 5 rfl) ?_
          refine gs_X12_41_12 E hI ha dX12_readHand_109 ?_
          refine lv_iload hx hb dX12_readHand_112 (lv_at hl 0 rfl) ?_
          refine lv_iconst (v := 1) hx hb dX12_readHand_114 zki_1 ?_
          refine q_iastN E hI (q_tk (k' := 36) hI ha rfl (Nat.succ_ne_zero _)) ⟨by decide, rfl⟩ (by first | (clear hs hz hk h4 k3σ ahpσ_2 dhpσ_2 ehpσ_2 k3σ_2 kc_3 ahpσ_5 dhpσ_5 ehpσ_5 k3σ_5 kc_7 ahpσ_9 chpσ_9 dhpσ_9 ehpσ_9 k3σ_9 ahpσ_11 bhpσ_11 chpσ_11 ahpσ_13 chpσ_13 dhpσ_13 ehpσ_13 k3σ_13 if_14 if_15 iz_16 kc_17 ahpσ_19 dhpσ_19 ehpσ_19 k3σ_19 iz_20 c_30 ahpσ_40 bhpσ_40 chpσ_40 ts iz_41 if_42 c_43 if_44 c_45; omega) | omega) (by rw [q_lnk (v := 60) hI (q_tk (k' := 36) hI ha rfl (Nat.succ_ne_zero _)) rfl (by decide)]; omega) (show 1 < 9 by decide) (q_inU rfl) dX12_readHand_115 (fun H locs σ_46 hσ_46 hI => ?_)
          replace hF := q_letX hF hσ_46
          have fr_σ_46 := fr_σ_19.si hσ_46 (q_tk (k' := 36) hI ha rfl (Nat.succ_ne_zero _)) rfl
          have mv9_σ_46 : (σ_46.1 a 9).toInt = (σ_19.1 a 9).toInt := congrArg Int32.toInt ((hσ_46 ▸ (q_K.si (q_tk (k' := 36) hI ha rfl (Nat.succ_ne_zero _)) (show 8 < 9 by decide) : q_K 8 X σ_19 (q_si σ_19 (q_rf X a 22) (z_21 : Int32).toNatClampNeg _))) a 9 (by rw [ha]; decide))
          have mv12_σ_46 : (σ_46.1 a 12).toInt = (σ_19.1 a 12).toInt := congrArg Int32.toInt ((hσ_46 ▸ (q_K.si (q_tk (k' := 36) hI ha rfl (Nat.succ_ne_zero _)) (show 8 < 9 by decide) : q_K 8 X σ_19 (q_si σ_19 (q_rf X a 22) (z_21 : Int32).toNatClampNeg _))) a 12 (by rw [ha]; decide))
          have mv14_σ_46 : (σ_46.1 a 14).toInt = (σ_19.1 a 14).toInt := congrArg Int32.toInt ((hσ_46 ▸ (q_K.si (q_tk (k' := 36) hI ha rfl (Nat.succ_ne_zero _)) (show 8 < 9 by decide) : q_K 8 X σ_19 (q_si σ_19 (q_rf X a 22) (z_21 : Int32).toNatClampNeg _))) a 14 (by rw [ha]; decide))
          have mv15_σ_46 : (σ_46.1 a 15).toInt = (σ_19.1 a 15).toInt := congrArg Int32.toInt ((hσ_46 ▸ (q_K.si (q_tk (k' := 36) hI ha rfl (Nat.succ_ne_zero _)) (show 8 < 9 by decide) : q_K 8 X σ_19 (q_si σ_19 (q_rf X a 22) (z_21 : Int32).toNatClampNeg _))) a 15 (by rw [ha]; decide))
          have mv16_σ_46 : (σ_46.1 a 16).toInt = (σ_19.1 a 16).toInt := congrArg Int32.toInt ((hσ_46 ▸ (q_K.si (q_tk (k' := 36) hI ha rfl (Nat.succ_ne_zero _)) (show 8 < 9 by decide) : q_K 8 X σ_19 (q_si σ_19 (q_rf X a 22) (z_21 : Int32).toNatClampNeg _))) a 16 (by rw [ha]; decide))
          have mcσ_46 := m_wo hσ_46 (m_ne (q_tk (k' := 36) hI ha rfl (Nat.succ_ne_zero _)) (q_tk (f := 20) (k' := 34) hI ha rfl (by decide)) (by decide))
          have nnσ_46 : m_N (m_c X σ_46 a) := m_N.ext mcσ_46 nnσ_19
          have kpσ_46 : ∀ j, 0 ≤ j → j < 3720 → m_c X σ_46 a j = m_c X σ a j := fun j h0 h1 => (mcσ_46 j).trans (kpσ_19 j h0 h1)
          have k3σ_46 : m_c X σ_46 a 3720 = m_c X σ a 3720 ∧ m_c X σ_46 a 3721 = m_c X σ a 3721 := ⟨(mcσ_46 3720).trans k3σ_19.1, (mcσ_46 3721).trans k3σ_19.2⟩
          have k4σ_46 : 1 ≤ m_c X σ_46 a 3724 + 10 * (σ_46.1 a 12).toInt := (by have := mcσ_46 3724; omega)
          have smσ_46 : 0 ≤ (σ_46.1 a 15).toInt ∧ (σ_46.1 a 15).toInt ≤ (σ_46.1 a 16).toInt ∧ (σ_46.1 a 16).toInt ≤ (σ_46.1 a 9).toInt ∧ (σ_46.1 a 9).toInt ≤ 900 ∧ 0 ≤ (σ_46.1 a 14).toInt ∧ (σ_46.1 a 14).toInt ≤ 4 ∧ (σ_46.1 a 14).toInt ≤ 4 * ((σ_46.1 a 16).toInt - (σ_46.1 a 15).toInt) ∧ (σ_46.1 a 14).toInt ≤ 4 * ((σ_46.1 a 9).toInt - (σ_46.1 a 15).toInt) ∧ 0 ≤ (σ_46.1 a 12).toInt ∧ (σ_46.1 a 9).toInt = (σ.1 a 9).toInt ∧ (σ.1 a 15).toInt ≤ (σ_46.1 a 15).toInt ∧ (σ.1 a 12).toInt ≤ (σ_46.1 a 12).toInt := (by first | (rw [mv12_σ_46, mv14_σ_46, mv15_σ_46, mv16_σ_46, mv9_σ_46]; exact smσ_19) | omega)
          have onσ_46 : (σ.1 a 16).toInt ≤ (σ_46.1 a 15).toInt := (by first | (clear hs hz hk h4 k3σ ahpσ_2 dhpσ_2 ehpσ_2 k3σ_2 kc_3 ahpσ_5 chpσ_5 dhpσ_5 ehpσ_5 k3σ_5 kc_6 kc_7 ahpσ_9 chpσ_9 dhpσ_9 ehpσ_9 k3σ_9 ahpσ_11 bhpσ_11 chpσ_11 ahpσ_13 chpσ_13 dhpσ_13 ehpσ_13 k3σ_13 if_14 if_15 iz_16 kc_17 ahpσ_19 chpσ_19 dhpσ_19 ehpσ_19 k3σ_19 iz_20 iz_21 if_22 c_23 c_30 ahpσ_40 bhpσ_40 chpσ_40 ts iz_41 if_42 c_43 if_44 c_45 mv9_σ_46 mv12_σ_46 mv14_σ_46 mv16_σ_46 k3σ_46 k4σ_46 smσ_46; omega) | omega)
          clear mv9_σ_46 mv12_σ_46 mv14_σ_46 mv15_σ_46 mv16_σ_46 k4σ_19 smσ_19 onσ_19
          refine lv_aload_n hx hb dX12_readHand_116 rfl (lv_at hl 5 rfl) ?_
          refine gs_X12_35_12 E hI ha dX12_readHand_117 ?_
          refine lv_sipush (v := 3754) hx hb dX12_readHand_120 zks_3754 ?_
          refine lv_iload hx hb dX12_readHand_123 (lv_at hl 0 rfl) ?_
          refine lv_iadd hx hb dX12_readHand_125 ?_
          refine lv_topi (fun z_47 ez_47 => ?_)
          replace hF := q_letX hF ez_47
          have iz_47 := q_addI (A := 3754) (B := ((10 * r_4.toInt) + r_18.toInt)) ez_47 (by decide) iz_21 (by first | (clear hs hz hk h4 k3σ ahpσ_2 dhpσ_2 ehpσ_2 k3σ_2 kc_3 ahpσ_5 dhpσ_5 ehpσ_5 k3σ_5 kc_6 kc_7 ahpσ_9 chpσ_9 dhpσ_9 ehpσ_9 k3σ_9 ahpσ_11 bhpσ_11 chpσ_11 ahpσ_13 chpσ_13 dhpσ_13 ehpσ_13 k3σ_13 if_14 if_15 iz_16 kc_17 ahpσ_19 dhpσ_19 ehpσ_19 k3σ_19 iz_20 if_22 c_23 c_30 ahpσ_40 bhpσ_40 chpσ_40 ts iz_41 if_42 c_43 if_44 c_45 k3σ_46 k4σ_46 smσ_46 onσ_46; omega) | omega) (by first | (clear hs hz h4 k3σ ahpσ_2 dhpσ_2 ehpσ_2 kc_3 ahpσ_5 dhpσ_5 ehpσ_5 kc_6 kc_7 ahpσ_9 chpσ_9 dhpσ_9 ehpσ_9 ahpσ_11 bhpσ_11 chpσ_11 ahpσ_13 chpσ_13 dhpσ_13 ehpσ_13 if_14 kc_17 ahpσ_19 dhpσ_19 ehpσ_19 iz_20 if_22 c_23 c_30 ahpσ_40 bhpσ_40 chpσ_40 ts iz_41 if_42 c_43 if_44 c_45 k4σ_46 smσ_46 onσ_46; omega) | omega)
          refine lv_iload_n hx hb dX12_readHand_126 rfl (lv_at hl 3 rfl) ?_
          refine q_iastN E hI (q_tk (k' := 34) hI ha rfl (Nat.succ_ne_zero _)) ⟨by decide, rfl⟩ (by first | (clear hs hz h4 k3σ ahpσ_2 dhpσ_2 ehpσ_2 kc_3 ahpσ_5 dhpσ_5 ehpσ_5 kc_7 ahpσ_9 chpσ_9 dhpσ_9 ehpσ_9 ahpσ_11 bhpσ_11 chpσ_11 ahpσ_13 chpσ_13 dhpσ_13 ehpσ_13 if_14 kc_17 ahpσ_19 dhpσ_19 ehpσ_19 iz_20 c_30 ahpσ_40 bhpσ_40 chpσ_40 ts iz_41 if_42 c_43 if_44 c_45 k4σ_46 smσ_46 onσ_46; omega) | omega) (by rw [q_lnk (v := 4650) hI (q_tk (k' := 34) hI ha rfl (Nat.succ_ne_zero _)) rfl (by decide)]; omega) (show 1 < 2 by decide) (q_inU rfl) dX12_readHand_127 (fun H locs σ_48 hσ_48 hI => ?_)
          replace hF := q_letX hF hσ_48
          have fr_σ_48 := fr_σ_46.si hσ_48 (q_tk (k' := 34) hI ha rfl (Nat.succ_ne_zero _)) rfl
          have mv9_σ_48 : (σ_48.1 a 9).toInt = (σ_46.1 a 9).toInt := congrArg Int32.toInt (q_rdn hσ_48 (Or.inl (m_ne ha (q_tk (k' := 34) hI ha rfl (Nat.succ_ne_zero _)) (by decide))))
          have mv12_σ_48 : (σ_48.1 a 12).toInt = (σ_46.1 a 12).toInt := congrArg Int32.toInt (q_rdn hσ_48 (Or.inl (m_ne ha (q_tk (k' := 34) hI ha rfl (Nat.succ_ne_zero _)) (by decide))))
          have mv14_σ_48 : (σ_48.1 a 14).toInt = (σ_46.1 a 14).toInt := congrArg Int32.toInt (q_rdn hσ_48 (Or.inl (m_ne ha (q_tk (k' := 34) hI ha rfl (Nat.succ_ne_zero _)) (by decide))))
          have mv15_σ_48 : (σ_48.1 a 15).toInt = (σ_46.1 a 15).toInt := congrArg Int32.toInt (q_rdn hσ_48 (Or.inl (m_ne ha (q_tk (k' := 34) hI ha rfl (Nat.succ_ne_zero _)) (by decide))))
          have mv16_σ_48 : (σ_48.1 a 16).toInt = (σ_46.1 a 16).toInt := congrArg Int32.toInt (q_rdn hσ_48 (Or.inl (m_ne ha (q_tk (k' := 34) hI ha rfl (Nat.succ_ne_zero _)) (by decide))))
          have mcσ_48 := m_wr (v := r_8) (A := (3754 + ((10 * r_4.toInt) + r_18.toInt))) hσ_48 iz_47 (by first | (clear hs hz h4 k3σ ahpσ_2 dhpσ_2 ehpσ_2 kc_3 ahpσ_5 dhpσ_5 ehpσ_5 kc_7 ahpσ_9 chpσ_9 dhpσ_9 ehpσ_9 ahpσ_11 bhpσ_11 chpσ_11 ahpσ_13 chpσ_13 dhpσ_13 ehpσ_13 if_14 kc_17 ahpσ_19 dhpσ_19 ehpσ_19 iz_20 c_30 ahpσ_40 bhpσ_40 chpσ_40 ts iz_41 if_42 c_43 if_44 c_45 k4σ_46 smσ_46 onσ_46 mv9_σ_48 mv12_σ_48 mv14_σ_48 mv15_σ_48 mv16_σ_48; omega) | omega)
          have nnσ_48 : m_N (m_c X σ_48 a) := m_N.hand nnσ_46 (by first | (clear hs hz hk h4 k3σ ahpσ_2 dhpσ_2 ehpσ_2 k3σ_2 kc_3 ahpσ_5 dhpσ_5 ehpσ_5 k3σ_5 kc_6 kc_7 ahpσ_9 chpσ_9 dhpσ_9 ehpσ_9 k3σ_9 ahpσ_11 bhpσ_11 chpσ_11 ahpσ_13 chpσ_13 dhpσ_13 ehpσ_13 k3σ_13 if_14 if_15 iz_16 kc_17 ahpσ_19 chpσ_19 dhpσ_19 ehpσ_19 k3σ_19 iz_20 iz_21 if_22 c_23 c_30 ahpσ_40 bhpσ_40 chpσ_40 ts iz_41 if_42 c_43 if_44 c_45 k3σ_46 k4σ_46 smσ_46 onσ_46 iz_47 mv9_σ_48 mv12_σ_48 mv14_σ_48 mv15_σ_48 mv16_σ_48; omega) | omega) (by first | (clear hs hz h4 k3σ ahpσ_2 dhpσ_2 ehpσ_2 kc_3 ahpσ_5 chpσ_5 dhpσ_5 ehpσ_5 kc_7 ahpσ_9 chpσ_9 dhpσ_9 ehpσ_9 ahpσ_11 bhpσ_11 chpσ_11 ahpσ_13 chpσ_13 dhpσ_13 ehpσ_13 if_14 kc_17 ahpσ_19 dhpσ_19 ehpσ_19 iz_20 c_30 ahpσ_40 bhpσ_40 chpσ_40 ts iz_41 if_42 c_43 if_44 c_45 k4σ_46 smσ_46 onσ_46 mv9_σ_48 mv12_σ_48 mv14_σ_48 mv15_σ_48 mv16_σ_48; omega) | omega) (by first | (clear hs hz hk h4 k3σ ahpσ_2 dhpσ_2 ehpσ_2 kc_3 ahpσ_5 chpσ_5 dhpσ_5 ehpσ_5 kc_6 kc_7 ahpσ_9 chpσ_9 dhpσ_9 ehpσ_9 ahpσ_11 bhpσ_11 chpσ_11 ahpσ_13 chpσ_13 dhpσ_13 ehpσ_13 if_14 kc_17 ahpσ_19 dhpσ_19 ehpσ_19 iz_20 if_22 c_23 c_30 ahpσ_40 bhpσ_40 chpσ_40 ts iz_41 if_42 c_43 if_44 c_45 k4σ_46 smσ_46 onσ_46 mv9_σ_48 mv12_σ_48 mv14_σ_48 mv15_σ_48 mv16_σ_48; omega) | omega) mcσ_48 (by first | (clear hs hz hk h4 k3σ ahpσ_2 dhpσ_2 ehpσ_2 k3σ_2 kc_3 ahpσ_5 chpσ_5 dhpσ_5 ehpσ_5 k3σ_5 kc_6 ahpσ_9 dhpσ_9 ehpσ_9 k3σ_9 ahpσ_11 bhpσ_11 chpσ_11 ahpσ_13 chpσ_13 dhpσ_13 ehpσ_13 k3σ_13 if_14 if_15 iz_16 kc_17 ahpσ_19 chpσ_19 dhpσ_19 ehpσ_19 k3σ_19 iz_20 iz_21 if_22 c_23 c_30 ahpσ_40 chpσ_40 ts if_42 c_43 if_44 c_45 k3σ_46 k4σ_46 smσ_46 onσ_46 iz_47 mv9_σ_48 mv12_σ_48 mv14_σ_48 mv15_σ_48 mv16_σ_48; omega) | omega) (by rw [funext mcσ_46]; omega)
          have kpσ_48 : ∀ j, 0 ≤ j → j < 3720 → m_c X σ_48 a j = m_c X σ a j := fun j h0 h1 => by rw [mcσ_48 j h0, if_neg (by first | (clear hs hz h4 k3σ ahpσ_2 dhpσ_2 ehpσ_2 kc_3 ahpσ_5 dhpσ_5 ehpσ_5 kc_7 ahpσ_9 chpσ_9 dhpσ_9 ehpσ_9 ahpσ_11 bhpσ_11 chpσ_11 ahpσ_13 chpσ_13 dhpσ_13 ehpσ_13 if_14 kc_17 ahpσ_19 dhpσ_19 ehpσ_19 iz_20 c_30 ahpσ_40 bhpσ_40 chpσ_40 ts iz_41 if_42 c_43 if_44 c_45 k4σ_46 smσ_46 onσ_46 mv9_σ_48 mv12_σ_48 mv14_σ_48 mv15_σ_48 mv16_σ_48; omega) | omega)]; exact kpσ_46 j h0 h1
          have k3σ_48 : m_c X σ_48 a 3720 = m_c X σ a 3720 ∧ m_c X σ_48 a 3721 = m_c X σ a 3721 := ⟨by rw [mcσ_48 3720 (by decide), if_neg (by first | (clear hs hz h4 k3σ ahpσ_2 dhpσ_2 ehpσ_2 kc_3 ahpσ_5 dhpσ_5 ehpσ_5 kc_7 ahpσ_9 chpσ_9 dhpσ_9 ehpσ_9 ahpσ_11 bhpσ_11 chpσ_11 ahpσ_13 chpσ_13 dhpσ_13 ehpσ_13 if_14 kc_17 ahpσ_19 dhpσ_19 ehpσ_19 iz_20 c_30 ahpσ_40 bhpσ_40 chpσ_40 ts iz_41 if_42 c_43 if_44 c_45 k4σ_46 smσ_46 onσ_46 mv9_σ_48 mv12_σ_48 mv14_σ_48 mv15_σ_48 mv16_σ_48; omega) | omega)]; exact k3σ_46.1, by rw [mcσ_48 3721 (by decide), if_neg (by first | (clear hs hz h4 k3σ ahpσ_2 dhpσ_2 ehpσ_2 kc_3 ahpσ_5 dhpσ_5 ehpσ_5 kc_7 ahpσ_9 chpσ_9 dhpσ_9 ehpσ_9 ahpσ_11 bhpσ_11 chpσ_11 ahpσ_13 chpσ_13 dhpσ_13 ehpσ_13 if_14 kc_17 ahpσ_19 dhpσ_19 ehpσ_19 iz_20 c_30 ahpσ_40 bhpσ_40 chpσ_40 ts iz_41 if_42 c_43 if_44 c_45 k4σ_46 smσ_46 onσ_46 mv9_σ_48 mv12_σ_48 mv14_σ_48 mv15_σ_48 mv16_σ_48; omega) | omega)]; exact k3σ_46.2⟩
          have k4σ_48 : 1 ≤ m_c X σ_48 a 3724 + 10 * (σ_48.1 a 12).toInt := (by have := mcσ_48 3724 (by decide); rw [if_neg (by first | (clear hs hz hk h4 k3σ ahpσ_2 dhpσ_2 ehpσ_2 k3σ_2 kc_3 ahpσ_5 dhpσ_5 ehpσ_5 k3σ_5 kc_7 ahpσ_9 chpσ_9 dhpσ_9 ehpσ_9 k3σ_9 ahpσ_11 bhpσ_11 chpσ_11 ahpσ_13 chpσ_13 dhpσ_13 ehpσ_13 k3σ_13 if_14 if_15 iz_16 kc_17 ahpσ_19 dhpσ_19 ehpσ_19 k3σ_19 iz_20 c_30 ahpσ_40 bhpσ_40 chpσ_40 ts iz_41 if_42 c_43 if_44 c_45 k3σ_46 k4σ_46 smσ_46 onσ_46 mv9_σ_48 mv12_σ_48 mv14_σ_48 mv15_σ_48 mv16_σ_48 k3σ_48; omega) | omega)] at this; omega)
          have smσ_48 : 0 ≤ (σ_48.1 a 15).toInt ∧ (σ_48.1 a 15).toInt ≤ (σ_48.1 a 16).toInt ∧ (σ_48.1 a 16).toInt ≤ (σ_48.1 a 9).toInt ∧ (σ_48.1 a 9).toInt ≤ 900 ∧ 0 ≤ (σ_48.1 a 14).toInt ∧ (σ_48.1 a 14).toInt ≤ 4 ∧ (σ_48.1 a 14).toInt ≤ 4 * ((σ_48.1 a 16).toInt - (σ_48.1 a 15).toInt) ∧ (σ_48.1 a 14).toInt ≤ 4 * ((σ_48.1 a 9).toInt - (σ_48.1 a 15).toInt) ∧ 0 ≤ (σ_48.1 a 12).toInt ∧ (σ_48.1 a 9).toInt = (σ.1 a 9).toInt ∧ (σ.1 a 15).toInt ≤ (σ_48.1 a 15).toInt ∧ (σ.1 a 12).toInt ≤ (σ_48.1 a 12).toInt := (by first | (rw [mv12_σ_48, mv14_σ_48, mv15_σ_48, mv16_σ_48, mv9_σ_48]; exact smσ_46) | omega)
          have onσ_48 : (σ.1 a 16).toInt ≤ (σ_48.1 a 15).toInt := (by first | (clear hs hz hk h4 k3σ ahpσ_2 dhpσ_2 ehpσ_2 k3σ_2 kc_3 ahpσ_5 chpσ_5 dhpσ_5 ehpσ_5 k3σ_5 kc_6 kc_7 ahpσ_9 chpσ_9 dhpσ_9 ehpσ_9 k3σ_9 ahpσ_11 bhpσ_11 chpσ_11 ahpσ_13 chpσ_13 dhpσ_13 ehpσ_13 k3σ_13 if_14 if_15 iz_16 kc_17 ahpσ_19 chpσ_19 dhpσ_19 ehpσ_19 k3σ_19 iz_20 iz_21 if_22 c_23 c_30 ahpσ_40 bhpσ_40 chpσ_40 ts iz_41 if_42 c_43 if_44 c_45 k3σ_46 k4σ_46 smσ_46 iz_47 mv9_σ_48 mv12_σ_48 mv14_σ_48 mv16_σ_48 k3σ_48 k4σ_48 smσ_48; omega) | omega)
          clear mv9_σ_48 mv12_σ_48 mv14_σ_48 mv15_σ_48 mv16_σ_48 k4σ_46 smσ_46 onσ_46
          exact q_retv E hr hlk hI ⟨nnσ_48, kpσ_48, (by first | exact smσ_48 | omega), (by first | exact smσ_48 | omega), k3σ_48, k4σ_48, (hF.trans hout), fr_σ_48⟩ dX12_readHand_128
        · skip
          replace hF := q_ifp hF c_45
          exact q_retv E hr hlk hI ⟨nnσ_19, kpσ_19, (by first | exact smσ_19 | omega), (by first | exact smσ_19 | omega), k3σ_19, k4σ_19, (hF.trans hout), fr_σ_19⟩ dX12_readHand_107
      · skip
        replace hF := q_ifp hF c_43
        refine lv_aload_n hx hb dX12_readHand_94 rfl (lv_at hl 5 rfl) ?_
        refine lv_iconst (v := 5) hx hb dX12_readHand_95 zki_5 ?_
        refine lv_iload_n hx hb dX12_readHand_96 rfl (lv_at hl 2 rfl) ?_
        have kc_49 : (5 : Int32).toInt = 5 := zt_5
        refine q_cv (q_rV11_2 (rest := []) E (hml.trans hl.1.symm) hI (c_X12_fail l X σ_19 a (5 : Int32) f_14 ha (by first | (clear hs hz hk h4 k3σ ahpσ_2 dhpσ_2 ehpσ_2 k3σ_2 kc_3 ahpσ_5 chpσ_5 dhpσ_5 ehpσ_5 k3σ_5 kc_6 kc_7 ahpσ_9 chpσ_9 dhpσ_9 ehpσ_9 k3σ_9 ahpσ_11 bhpσ_11 chpσ_11 ahpσ_13 chpσ_13 dhpσ_13 ehpσ_13 k3σ_13 if_14 if_15 iz_16 kc_17 ahpσ_19 chpσ_19 dhpσ_19 ehpσ_19 k3σ_19 iz_20 iz_21 c_30 ahpσ_40 bhpσ_40 chpσ_40 ts iz_41 if_42 c_43 kc_49; omega) | omega) (by first | (clear hs hz hk h4 k3σ ahpσ_2 dhpσ_2 ehpσ_2 k3σ_2 kc_3 ahpσ_5 chpσ_5 dhpσ_5 ehpσ_5 k3σ_5 kc_6 kc_7 ahpσ_9 chpσ_9 dhpσ_9 ehpσ_9 k3σ_9 ahpσ_11 bhpσ_11 chpσ_11 ahpσ_13 chpσ_13 dhpσ_13 ehpσ_13 k3σ_13 if_14 if_15 iz_16 kc_17 ahpσ_19 chpσ_19 dhpσ_19 ehpσ_19 k3σ_19 iz_20 iz_21 if_22 c_23 c_30 ahpσ_40 bhpσ_40 chpσ_40 ts iz_41 if_42 c_43; omega) | omega)) kv_X12_193 ha ⟨Nat.le_of_ble_eq_true rfl, Nat.le_of_ble_eq_true rfl⟩ (Nat.le_of_ble_eq_true rfl) dX12_readHand_97) hI (Nat.le_of_ble_eq_true rfl) (fun σ_51 H locs hpσ_51 hkσ_51 hI => ?_)
        have ahpσ_51 := hpσ_51.1
        have bhpσ_51 := hpσ_51.2.1
        have chpσ_51 := hpσ_51.2.2.1
        have dhpσ_51 := hpσ_51.2.2.2.1
        have ehpσ_51 := hpσ_51.2.2.2.2
        clear hpσ_51
        have fr_σ_51 := fr_σ_19.call ehpσ_51 rfl rfl
        replace hF := q_letX hF dhpσ_51
        have mcσ_51 := m_cK hkσ_51 hI.1 ha (by decide)
        have nnσ_51 : m_N (m_c X σ_51 a) := m_N.ext mcσ_51 nnσ_19
        have kpσ_51 : ∀ j, 0 ≤ j → j < 3720 → m_c X σ_51 a j = m_c X σ a j := fun j h0 h1 => (mcσ_51 j).trans (kpσ_19 j h0 h1)
        have k3σ_51 : m_c X σ_51 a 3720 = m_c X σ a 3720 ∧ m_c X σ_51 a 3721 = m_c X σ a 3721 := ⟨(mcσ_51 3720).trans k3σ_19.1, (mcσ_51 3721).trans k3σ_19.2⟩
        have k4σ_51 : 1 ≤ m_c X σ_51 a 3724 + 10 * (σ_51.1 a 12).toInt := (by have := mcσ_51 3724; omega)
        have smσ_51 : 0 ≤ (σ_51.1 a 15).toInt ∧ (σ_51.1 a 15).toInt ≤ (σ_51.1 a 16).toInt ∧ (σ_51.1 a 16).toInt ≤ (σ_51.1 a 9).toInt ∧ (σ_51.1 a 9).toInt ≤ 900 ∧ 0 ≤ (σ_51.1 a 14).toInt ∧ (σ_51.1 a 14).toInt ≤ 4 ∧ (σ_51.1 a 14).toInt ≤ 4 * ((σ_51.1 a 16).toInt - (σ_51.1 a 15).toInt) ∧ (σ_51.1 a 14).toInt ≤ 4 * ((σ_51.1 a 9).toInt - (σ_51.1 a 15).toInt) ∧ 0 ≤ (σ_51.1 a 12).toInt ∧ (σ_51.1 a 9).toInt = (σ.1 a 9).toInt ∧ (σ.1 a 15).toInt ≤ (σ_51.1 a 15).toInt ∧ (σ.1 a 12).toInt ≤ (σ_51.1 a 12).toInt := (by first | exact sm_fl smσ_19 bhpσ_51 chpσ_51 | omega)
        have onσ_51 : (σ.1 a 16).toInt ≤ (σ_51.1 a 15).toInt := (by first | (clear hs hz hk h4 k3σ ahpσ_2 dhpσ_2 ehpσ_2 k3σ_2 kc_3 ahpσ_5 chpσ_5 dhpσ_5 ehpσ_5 k3σ_5 kc_6 kc_7 ahpσ_9 chpσ_9 dhpσ_9 ehpσ_9 k3σ_9 ahpσ_11 bhpσ_11 chpσ_11 ahpσ_13 chpσ_13 dhpσ_13 ehpσ_13 k3σ_13 if_14 if_15 iz_16 kc_17 ahpσ_19 chpσ_19 dhpσ_19 ehpσ_19 k3σ_19 iz_20 iz_21 if_22 c_23 c_30 ahpσ_40 bhpσ_40 chpσ_40 ts iz_41 if_42 c_43 kc_49 ahpσ_51 chpσ_51 dhpσ_51 ehpσ_51 k3σ_51 k4σ_51 smσ_51; omega) | omega)
        clear k4σ_19 smσ_19 onσ_19 bhpσ_51
        refine lv_aload_n hx hb dX12_readHand_100 rfl (lv_at hl 5 rfl) ?_
        refine gs_X12_187_12 E hI ha dX12_readHand_101 ?_
        refine lv_topi (fun f_52 ef_52 => ?_)
        replace hF := q_letX hF ef_52
        have if_52 : f_52.toInt = (σ_51.1 a 12).toInt := congrArg Int32.toInt ef_52
        refine q_if_le (A := f_52.toInt) E rfl (tgt := 108) dX12_readHand_104 (by decide) (fun c_53 => ?_) (fun c_53 => ?_)
        · skip
          replace hF := q_ifn hF (Int.not_lt.mpr c_53)
          refine lv_aload_n hx hb dX12_readHand_108 rfl (lv_at hl 5 rfl) ?_
          refine gs_X12_41_12 E hI ha dX12_readHand_109 ?_
          refine lv_iload hx hb dX12_readHand_112 (lv_at hl 0 rfl) ?_
          refine lv_iconst (v := 1) hx hb dX12_readHand_114 zki_1 ?_
          refine q_iastN E hI (q_tk (k' := 36) hI ha rfl (Nat.succ_ne_zero _)) ⟨by decide, rfl⟩ (by first | (clear hs hz hk h4 k3σ ahpσ_2 dhpσ_2 ehpσ_2 k3σ_2 kc_3 ahpσ_5 chpσ_5 dhpσ_5 ehpσ_5 k3σ_5 kc_6 kc_7 ahpσ_9 chpσ_9 dhpσ_9 ehpσ_9 k3σ_9 ahpσ_11 bhpσ_11 chpσ_11 ahpσ_13 chpσ_13 dhpσ_13 ehpσ_13 k3σ_13 if_14 if_15 iz_16 kc_17 ahpσ_19 chpσ_19 dhpσ_19 ehpσ_19 k3σ_19 iz_20 iz_21 if_22 c_23 c_30 ahpσ_40 bhpσ_40 chpσ_40 ts iz_41 if_42 c_43 kc_49 ahpσ_51 dhpσ_51 ehpσ_51 k3σ_51 k4σ_51 smσ_51 onσ_51; omega) | omega) (by rw [q_lnk (v := 60) hI (q_tk (k' := 36) hI ha rfl (Nat.succ_ne_zero _)) rfl (by decide)]; omega) (show 1 < 9 by decide) (q_inU rfl) dX12_readHand_115 (fun H locs σ_54 hσ_54 hI => ?_)
          replace hF := q_letX hF hσ_54
          have fr_σ_54 := fr_σ_51.si hσ_54 (q_tk (k' := 36) hI ha rfl (Nat.succ_ne_zero _)) rfl
          have mv9_σ_54 : (σ_54.1 a 9).toInt = (σ_51.1 a 9).toInt := congrArg Int32.toInt ((hσ_54 ▸ (q_K.si (q_tk (k' := 36) hI ha rfl (Nat.succ_ne_zero _)) (show 8 < 9 by decide) : q_K 8 X σ_51 (q_si σ_51 (q_rf X a 22) (z_21 : Int32).toNatClampNeg _))) a 9 (by rw [ha]; decide))
          have mv12_σ_54 : (σ_54.1 a 12).toInt = (σ_51.1 a 12).toInt := congrArg Int32.toInt ((hσ_54 ▸ (q_K.si (q_tk (k' := 36) hI ha rfl (Nat.succ_ne_zero _)) (show 8 < 9 by decide) : q_K 8 X σ_51 (q_si σ_51 (q_rf X a 22) (z_21 : Int32).toNatClampNeg _))) a 12 (by rw [ha]; decide))
          have mv14_σ_54 : (σ_54.1 a 14).toInt = (σ_51.1 a 14).toInt := congrArg Int32.toInt ((hσ_54 ▸ (q_K.si (q_tk (k' := 36) hI ha rfl (Nat.succ_ne_zero _)) (show 8 < 9 by decide) : q_K 8 X σ_51 (q_si σ_51 (q_rf X a 22) (z_21 : Int32).toNatClampNeg _))) a 14 (by rw [ha]; decide))
          have mv15_σ_54 : (σ_54.1 a 15).toInt = (σ_51.1 a 15).toInt := congrArg Int32.toInt ((hσ_54 ▸ (q_K.si (q_tk (k' := 36) hI ha rfl (Nat.succ_ne_zero _)) (show 8 < 9 by decide) : q_K 8 X σ_51 (q_si σ_51 (q_rf X a 22) (z_21 : Int32).toNatClampNeg _))) a 15 (by rw [ha]; decide))
          have mv16_σ_54 : (σ_54.1 a 16).toInt = (σ_51.1 a 16).toInt := congrArg Int32.toInt ((hσ_54 ▸ (q_K.si (q_tk (k' := 36) hI ha rfl (Nat.succ_ne_zero _)) (show 8 < 9 by decide) : q_K 8 X σ_51 (q_si σ_51 (q_rf X a 22) (z_21 : Int32).toNatClampNeg _))) a 16 (by rw [ha]; decide))
          have mcσ_54 := m_wo hσ_54 (m_ne (q_tk (k' := 36) hI ha rfl (Nat.succ_ne_zero _)) (q_tk (f := 20) (k' := 34) hI ha rfl (by decide)) (by decide))
          have nnσ_54 : m_N (m_c X σ_54 a) := m_N.ext mcσ_54 nnσ_51
          have kpσ_54 : ∀ j, 0 ≤ j → j < 3720 → m_c X σ_54 a j = m_c X σ a j := fun j h0 h1 => (mcσ_54 j).trans (kpσ_51 j h0 h1)
          have k3σ_54 : m_c X σ_54 a 3720 = m_c X σ a 3720 ∧ m_c X σ_54 a 3721 = m_c X σ a 3721 := ⟨(mcσ_54 3720).trans k3σ_51.1, (mcσ_54 3721).trans k3σ_51.2⟩
          have k4σ_54 : 1 ≤ m_c X σ_54 a 3724 + 10 * (σ_54.1 a 12).toInt := (by have := mcσ_54 3724; omega)
          have smσ_54 : 0 ≤ (σ_54.1 a 15).toInt ∧ (σ_54.1 a 15).toInt ≤ (σ_54.1 a 16).toInt ∧ (σ_54.1 a 16).toInt ≤ (σ_54.1 a 9).toInt ∧ (σ_54.1 a 9).toInt ≤ 900 ∧ 0 ≤ (σ_54.1 a 14).toInt ∧ (σ_54.1 a 14).toInt ≤ 4 ∧ (σ_54.1 a 14).toInt ≤ 4 * ((σ_54.1 a 16).toInt - (σ_54.1 a 15).toInt) ∧ (σ_54.1 a 14).toInt ≤ 4 * ((σ_54.1 a 9).toInt - (σ_54.1 a 15).toInt) ∧ 0 ≤ (σ_54.1 a 12).toInt ∧ (σ_54.1 a 9).toInt = (σ.1 a 9).toInt ∧ (σ.1 a 15).toInt ≤ (σ_54.1 a 15).toInt ∧ (σ.1 a 12).toInt ≤ (σ_54.1 a 12).toInt := (by first | (rw [mv12_σ_54, mv14_σ_54, mv15_σ_54, mv16_σ_54, mv9_σ_54]; exact smσ_51) | omega)
          have onσ_54 : (σ.1 a 16).toInt ≤ (σ_54.1 a 15).toInt := (by first | (clear hs hz hk h4 k3σ ahpσ_2 dhpσ_2 ehpσ_2 k3σ_2 kc_3 ahpσ_5 chpσ_5 dhpσ_5 ehpσ_5 k3σ_5 kc_6 kc_7 ahpσ_9 chpσ_9 dhpσ_9 ehpσ_9 k3σ_9 ahpσ_11 bhpσ_11 chpσ_11 ahpσ_13 chpσ_13 dhpσ_13 ehpσ_13 k3σ_13 if_14 if_15 iz_16 kc_17 ahpσ_19 chpσ_19 dhpσ_19 ehpσ_19 k3σ_19 iz_20 iz_21 if_22 c_23 c_30 ahpσ_40 bhpσ_40 chpσ_40 ts iz_41 if_42 c_43 kc_49 ahpσ_51 dhpσ_51 ehpσ_51 k3σ_51 k4σ_51 smσ_51 onσ_51 mv9_σ_54 mv12_σ_54 mv14_σ_54 mv15_σ_54 mv16_σ_54 k3σ_54 k4σ_54 smσ_54; omega) | omega)
          clear mv9_σ_54 mv12_σ_54 mv14_σ_54 mv15_σ_54 mv16_σ_54 k4σ_51 smσ_51 onσ_51
          refine lv_aload_n hx hb dX12_readHand_116 rfl (lv_at hl 5 rfl) ?_
          refine gs_X12_35_12 E hI ha dX12_readHand_117 ?_
          refine lv_sipush (v := 3754) hx hb dX12_readHand_120 zks_3754 ?_
          refine lv_iload hx hb dX12_readHand_123 (lv_at hl 0 rfl) ?_
          refine lv_iadd hx hb dX12_readHand_125 ?_
          refine lv_topi (fun z_55 ez_55 => ?_)
          replace hF := q_letX hF ez_55
          have iz_55 := q_addI (A := 3754) (B := ((10 * r_4.toInt) + r_18.toInt)) ez_55 (by decide) iz_21 (by first | (clear hs hz hk h4 k3σ ahpσ_2 dhpσ_2 ehpσ_2 k3σ_2 kc_3 ahpσ_5 chpσ_5 dhpσ_5 ehpσ_5 k3σ_5 kc_6 kc_7 ahpσ_9 chpσ_9 dhpσ_9 ehpσ_9 k3σ_9 ahpσ_11 bhpσ_11 chpσ_11 ahpσ_13 chpσ_13 dhpσ_13 ehpσ_13 k3σ_13 if_14 if_15 iz_16 kc_17 ahpσ_19 chpσ_19 dhpσ_19 ehpσ_19 k3σ_19 iz_20 iz_21 if_22 c_23 c_30 ahpσ_40 bhpσ_40 chpσ_40 ts iz_41 if_42 c_43 kc_49 ahpσ_51 dhpσ_51 ehpσ_51 k3σ_51 k3σ_54 k4σ_54 smσ_54 onσ_54; omega) | omega) (by first | (clear hs hz hk h4 k3σ ahpσ_2 dhpσ_2 ehpσ_2 k3σ_2 kc_3 ahpσ_5 chpσ_5 dhpσ_5 ehpσ_5 k3σ_5 kc_6 kc_7 ahpσ_9 chpσ_9 dhpσ_9 ehpσ_9 k3σ_9 ahpσ_11 bhpσ_11 chpσ_11 ahpσ_13 chpσ_13 dhpσ_13 ehpσ_13 k3σ_13 if_14 if_15 iz_16 kc_17 ahpσ_19 chpσ_19 dhpσ_19 ehpσ_19 k3σ_19 iz_20 iz_21 if_22 c_23 c_30 ahpσ_40 bhpσ_40 chpσ_40 ts iz_41 if_42 c_43 kc_49 ahpσ_51 dhpσ_51 ehpσ_51 k3σ_51 k3σ_54 k4σ_54 smσ_54 onσ_54; omega) | omega)
          refine lv_iload_n hx hb dX12_readHand_126 rfl (lv_at hl 3 rfl) ?_
          refine q_iastN E hI (q_tk (k' := 34) hI ha rfl (Nat.succ_ne_zero _)) ⟨by decide, rfl⟩ (by first | (clear hs hz hk h4 k3σ ahpσ_2 dhpσ_2 ehpσ_2 k3σ_2 kc_3 ahpσ_5 chpσ_5 dhpσ_5 ehpσ_5 k3σ_5 kc_6 kc_7 ahpσ_9 chpσ_9 dhpσ_9 ehpσ_9 k3σ_9 ahpσ_11 bhpσ_11 chpσ_11 ahpσ_13 chpσ_13 dhpσ_13 ehpσ_13 k3σ_13 if_14 if_15 iz_16 kc_17 ahpσ_19 chpσ_19 dhpσ_19 ehpσ_19 k3σ_19 iz_20 iz_21 if_22 c_23 c_30 ahpσ_40 bhpσ_40 chpσ_40 ts iz_41 if_42 c_43 kc_49 ahpσ_51 dhpσ_51 ehpσ_51 k3σ_51 k3σ_54 k4σ_54 smσ_54 onσ_54 iz_55; omega) | omega) (by rw [q_lnk (v := 4650) hI (q_tk (k' := 34) hI ha rfl (Nat.succ_ne_zero _)) rfl (by decide)]; omega) (show 1 < 2 by decide) (q_inU rfl) dX12_readHand_127 (fun H locs σ_56 hσ_56 hI => ?_)
          replace hF := q_letX hF hσ_56
          have fr_σ_56 := fr_σ_54.si hσ_56 (q_tk (k' := 34) hI ha rfl (Nat.succ_ne_zero _)) rfl
          have mv9_σ_56 : (σ_56.1 a 9).toInt = (σ_54.1 a 9).toInt := congrArg Int32.toInt (q_rdn hσ_56 (Or.inl (m_ne ha (q_tk (k' := 34) hI ha rfl (Nat.succ_ne_zero _)) (by decide))))
          have mv12_σ_56 : (σ_56.1 a 12).toInt = (σ_54.1 a 12).toInt := congrArg Int32.toInt (q_rdn hσ_56 (Or.inl (m_ne ha (q_tk (k' := 34) hI ha rfl (Nat.succ_ne_zero _)) (by decide))))
          have mv14_σ_56 : (σ_56.1 a 14).toInt = (σ_54.1 a 14).toInt := congrArg Int32.toInt (q_rdn hσ_56 (Or.inl (m_ne ha (q_tk (k' := 34) hI ha rfl (Nat.succ_ne_zero _)) (by decide))))
          have mv15_σ_56 : (σ_56.1 a 15).toInt = (σ_54.1 a 15).toInt := congrArg Int32.toInt (q_rdn hσ_56 (Or.inl (m_ne ha (q_tk (k' := 34) hI ha rfl (Nat.succ_ne_zero _)) (by decide))))
          have mv16_σ_56 : (σ_56.1 a 16).toInt = (σ_54.1 a 16).toInt := congrArg Int32.toInt (q_rdn hσ_56 (Or.inl (m_ne ha (q_tk (k' := 34) hI ha rfl (Nat.succ_ne_zero _)) (by decide))))
          have mcσ_56 := m_wr (v := r_8) (A := (3754 + ((10 * r_4.toInt) + r_18.toInt))) hσ_56 iz_55 (by first | (clear hs hz hk h4 k3σ ahpσ_2 dhpσ_2 ehpσ_2 k3σ_2 kc_3 ahpσ_5 chpσ_5 dhpσ_5 ehpσ_5 k3σ_5 kc_6 kc_7 ahpσ_9 chpσ_9 dhpσ_9 ehpσ_9 k3σ_9 ahpσ_11 bhpσ_11 chpσ_11 ahpσ_13 chpσ_13 dhpσ_13 ehpσ_13 k3σ_13 if_14 if_15 iz_16 kc_17 ahpσ_19 chpσ_19 dhpσ_19 ehpσ_19 k3σ_19 iz_20 iz_21 if_22 c_23 c_30 ahpσ_40 bhpσ_40 chpσ_40 ts iz_41 if_42 c_43 kc_49 ahpσ_51 dhpσ_51 ehpσ_51 k3σ_51 k3σ_54 k4σ_54 smσ_54 onσ_54 iz_55 mv9_σ_56 mv12_σ_56 mv14_σ_56 mv15_σ_56 mv16_σ_56; omega) | omega)
          have nnσ_56 : m_N (m_c X σ_56 a) := m_N.hand nnσ_54 (by first | (clear hs hz hk h4 k3σ ahpσ_2 dhpσ_2 ehpσ_2 k3σ_2 kc_3 ahpσ_5 chpσ_5 dhpσ_5 ehpσ_5 k3σ_5 kc_6 kc_7 ahpσ_9 chpσ_9 dhpσ_9 ehpσ_9 k3σ_9 ahpσ_11 bhpσ_11 chpσ_11 ahpσ_13 chpσ_13 dhpσ_13 ehpσ_13 k3σ_13 if_14 if_15 iz_16 kc_17 ahpσ_19 chpσ_19 dhpσ_19 ehpσ_19 k3σ_19 iz_20 iz_21 if_22 c_23 c_30 ahpσ_40 bhpσ_40 chpσ_40 ts iz_41 if_42 c_43 kc_49 ahpσ_51 dhpσ_51 ehpσ_51 k3σ_51 k3σ_54 k4σ_54 smσ_54 onσ_54 iz_55 mv9_σ_56 mv12_σ_56 mv14_σ_56 mv15_σ_56 mv16_σ_56; omega) | omega) (by first | (clear hs hz hk h4 k3σ ahpσ_2 dhpσ_2 ehpσ_2 k3σ_2 kc_3 ahpσ_5 chpσ_5 dhpσ_5 ehpσ_5 k3σ_5 kc_6 kc_7 ahpσ_9 chpσ_9 dhpσ_9 ehpσ_9 k3σ_9 ahpσ_11 bhpσ_11 chpσ_11 ahpσ_13 chpσ_13 dhpσ_13 ehpσ_13 k3σ_13 if_14 if_15 iz_16 kc_17 ahpσ_19 chpσ_19 dhpσ_19 ehpσ_19 k3σ_19 iz_20 iz_21 if_22 c_23 c_30 ahpσ_40 bhpσ_40 chpσ_40 ts iz_41 if_42 c_43 kc_49 ahpσ_51 dhpσ_51 ehpσ_51 k3σ_51 k3σ_54 k4σ_54 smσ_54 onσ_54 iz_55 mv9_σ_56 mv12_σ_56 mv14_σ_56 mv15_σ_56 mv16_σ_56; omega) | omega) (by first | (clear hs hz hk h4 k3σ ahpσ_2 dhpσ_2 ehpσ_2 k3σ_2 kc_3 ahpσ_5 chpσ_5 dhpσ_5 ehpσ_5 k3σ_5 kc_6 kc_7 ahpσ_9 chpσ_9 dhpσ_9 ehpσ_9 k3σ_9 ahpσ_11 bhpσ_11 chpσ_11 ahpσ_13 chpσ_13 dhpσ_13 ehpσ_13 k3σ_13 if_14 if_15 iz_16 kc_17 ahpσ_19 chpσ_19 dhpσ_19 ehpσ_19 k3σ_19 iz_20 iz_21 if_22 c_23 c_30 ahpσ_40 bhpσ_40 chpσ_40 ts iz_41 if_42 c_43 kc_49 ahpσ_51 dhpσ_51 ehpσ_51 k3σ_51 k3σ_54 k4σ_54 smσ_54 onσ_54 iz_55 mv9_σ_56 mv12_σ_56 mv14_σ_56 mv15_σ_56 mv16_σ_56; omega) | omega) mcσ_56 (by first | (clear hs hz hk h4 k3σ ahpσ_2 dhpσ_2 ehpσ_2 k3σ_2 kc_3 ahpσ_5 chpσ_5 dhpσ_5 ehpσ_5 k3σ_5 kc_6 kc_7 ahpσ_9 chpσ_9 dhpσ_9 ehpσ_9 k3σ_9 ahpσ_11 bhpσ_11 chpσ_11 ahpσ_13 chpσ_13 dhpσ_13 ehpσ_13 k3σ_13 if_14 if_15 iz_16 kc_17 ahpσ_19 chpσ_19 dhpσ_19 ehpσ_19 k3σ_19 iz_20 iz_21 if_22 c_23 c_30 ahpσ_40 bhpσ_40 chpσ_40 ts iz_41 if_42 c_43 kc_49 ahpσ_51 dhpσ_51 ehpσ_51 k3σ_51 k3σ_54 k4σ_54 smσ_54 onσ_54 iz_55 mv9_σ_56 mv12_σ_56 mv14_σ_56 mv15_σ_56 mv16_σ_56; omega) | omega) (by rw [funext mcσ_54]; omega)
          have kpσ_56 : ∀ j, 0 ≤ j → j < 3720 → m_c X σ_56 a j = m_c X σ a j := fun j h0 h1 => by rw [mcσ_56 j h0, if_neg (by first | (clear hs hz hk h4 k3σ ahpσ_2 dhpσ_2 ehpσ_2 k3σ_2 kc_3 ahpσ_5 chpσ_5 dhpσ_5 ehpσ_5 k3σ_5 kc_6 kc_7 ahpσ_9 chpσ_9 dhpσ_9 ehpσ_9 k3σ_9 ahpσ_11 bhpσ_11 chpσ_11 ahpσ_13 chpσ_13 dhpσ_13 ehpσ_13 k3σ_13 if_14 if_15 iz_16 kc_17 ahpσ_19 chpσ_19 dhpσ_19 ehpσ_19 k3σ_19 iz_20 iz_21 if_22 c_23 c_30 ahpσ_40 bhpσ_40 chpσ_40 ts iz_41 if_42 c_43 kc_49 ahpσ_51 dhpσ_51 ehpσ_51 k3σ_51 k3σ_54 k4σ_54 smσ_54 onσ_54 iz_55 mv9_σ_56 mv12_σ_56 mv14_σ_56 mv15_σ_56 mv16_σ_56; omega) | omega)]; exact kpσ_54 j h0 h1
          have k3σ_56 : m_c X σ_56 a 3720 = m_c X σ a 3720 ∧ m_c X σ_56 a 3721 = m_c X σ a 3721 := ⟨by rw [mcσ_56 3720 (by decide), if_neg (by first | (clear hs hz hk h4 k3σ ahpσ_2 dhpσ_2 ehpσ_2 k3σ_2 kc_3 ahpσ_5 chpσ_5 dhpσ_5 ehpσ_5 k3σ_5 kc_6 kc_7 ahpσ_9 chpσ_9 dhpσ_9 ehpσ_9 k3σ_9 ahpσ_11 bhpσ_11 chpσ_11 ahpσ_13 chpσ_13 dhpσ_13 ehpσ_13 k3σ_13 if_14 if_15 iz_16 kc_17 ahpσ_19 chpσ_19 dhpσ_19 ehpσ_19 k3σ_19 iz_20 iz_21 if_22 c_23 c_30 ahpσ_40 bhpσ_40 chpσ_40 ts iz_41 if_42 c_43 kc_49 ahpσ_51 dhpσ_51 ehpσ_51 k3σ_51 k3σ_54 k4σ_54 smσ_54 onσ_54 iz_55 mv9_σ_56 mv12_σ_56 mv14_σ_56 mv15_σ_56 mv16_σ_56; omega) | omega)]; exact k3σ_54.1, by rw [mcσ_56 3721 (by decide), if_neg (by first | (clear hs hz hk h4 k3σ ahpσ_2 dhpσ_2 ehpσ_2 k3σ_2 kc_3 ahpσ_5 chpσ_5 dhpσ_5 ehpσ_5 k3σ_5 kc_6 kc_7 ahpσ_9 chpσ_9 dhpσ_9 ehpσ_9 k3σ_9 ahpσ_11 bhpσ_11 chpσ_11 ahpσ_13 chpσ_13 dhpσ_13 ehpσ_13 k3σ_13 if_14 if_15 iz_16 kc_17 ahpσ_19 chpσ_19 dhpσ_19 ehpσ_19 k3σ_19 iz_20 iz_21 if_22 c_23 c_30 ahpσ_40 bhpσ_40 chpσ_40 ts iz_41 if_42 c_43 kc_49 ahpσ_51 dhpσ_51 ehpσ_51 k3σ_51 k3σ_54 k4σ_54 smσ_54 onσ_54 iz_55 mv9_σ_56 mv12_σ_56 mv14_σ_56 mv15_σ_56 mv16_σ_56; omega) | omega)]; exact k3σ_54.2⟩
          have k4σ_56 : 1 ≤ m_c X σ_56 a 3724 + 10 * (σ_56.1 a 12).toInt := (by have := mcσ_56 3724 (by decide); rw [if_neg (by first | (clear hs hz hk h4 k3σ ahpσ_2 dhpσ_2 ehpσ_2 k3σ_2 kc_3 ahpσ_5 chpσ_5 dhpσ_5 ehpσ_5 k3σ_5 kc_6 kc_7 ahpσ_9 chpσ_9 dhpσ_9 ehpσ_9 k3σ_9 ahpσ_11 bhpσ_11 chpσ_11 ahpσ_13 chpσ_13 dhpσ_13 ehpσ_13 k3σ_13 if_14 if_15 iz_16 kc_17 ahpσ_19 chpσ_19 dhpσ_19 ehpσ_19 k3σ_19 iz_20 iz_21 if_22 c_23 c_30 ahpσ_40 bhpσ_40 chpσ_40 ts iz_41 if_42 c_43 kc_49 ahpσ_51 dhpσ_51 ehpσ_51 k3σ_51 k3σ_54 k4σ_54 smσ_54 onσ_54 iz_55 mv9_σ_56 mv12_σ_56 mv14_σ_56 mv15_σ_56 mv16_σ_56 k3σ_56; omega) | omega)] at this; omega)
          have smσ_56 : 0 ≤ (σ_56.1 a 15).toInt ∧ (σ_56.1 a 15).toInt ≤ (σ_56.1 a 16).toInt ∧ (σ_56.1 a 16).toInt ≤ (σ_56.1 a 9).toInt ∧ (σ_56.1 a 9).toInt ≤ 900 ∧ 0 ≤ (σ_56.1 a 14).toInt ∧ (σ_56.1 a 14).toInt ≤ 4 ∧ (σ_56.1 a 14).toInt ≤ 4 * ((σ_56.1 a 16).toInt - (σ_56.1 a 15).toInt) ∧ (σ_56.1 a 14).toInt ≤ 4 * ((σ_56.1 a 9).toInt - (σ_56.1 a 15).toInt) ∧ 0 ≤ (σ_56.1 a 12).toInt ∧ (σ_56.1 a 9).toInt = (σ.1 a 9).toInt ∧ (σ.1 a 15).toInt ≤ (σ_56.1 a 15).toInt ∧ (σ.1 a 12).toInt ≤ (σ_56.1 a 12).toInt := (by first | (rw [mv12_σ_56, mv14_σ_56, mv15_σ_56, mv16_σ_56, mv9_σ_56]; exact smσ_54) | omega)
          have onσ_56 : (σ.1 a 16).toInt ≤ (σ_56.1 a 15).toInt := (by first | (clear hs hz hk h4 k3σ ahpσ_2 dhpσ_2 ehpσ_2 k3σ_2 kc_3 ahpσ_5 chpσ_5 dhpσ_5 ehpσ_5 k3σ_5 kc_6 kc_7 ahpσ_9 chpσ_9 dhpσ_9 ehpσ_9 k3σ_9 ahpσ_11 bhpσ_11 chpσ_11 ahpσ_13 chpσ_13 dhpσ_13 ehpσ_13 k3σ_13 if_14 if_15 iz_16 kc_17 ahpσ_19 chpσ_19 dhpσ_19 ehpσ_19 k3σ_19 iz_20 iz_21 if_22 c_23 c_30 ahpσ_40 bhpσ_40 chpσ_40 ts iz_41 if_42 c_43 kc_49 ahpσ_51 dhpσ_51 ehpσ_51 k3σ_51 k3σ_54 k4σ_54 smσ_54 onσ_54 iz_55 mv9_σ_56 mv12_σ_56 mv14_σ_56 mv15_σ_56 mv16_σ_56 k3σ_56 k4σ_56 smσ_56; omega) | omega)
          clear mv9_σ_56 mv12_σ_56 mv14_σ_56 mv15_σ_56 mv16_σ_56 k4σ_54 smσ_54 onσ_54
          exact q_retv E hr hlk hI ⟨nnσ_56, kpσ_56, (by first | exact smσ_56 | omega), (by first | exact smσ_56 | omega), k3σ_56, k4σ_56, (hF.trans hout), fr_σ_56⟩ dX12_readHand_128
        · skip
          replace hF := q_ifp hF c_53
          exact q_retv E hr hlk hI ⟨nnσ_51, kpσ_51, (by first | exact smσ_51 | omega), (by first | exact smσ_51 | omega), k3σ_51, k4σ_51, (hF.trans hout), fr_σ_51⟩ dX12_readHand_107
end
