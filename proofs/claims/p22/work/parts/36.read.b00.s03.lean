section
set_option maxRecDepth 100000 in
set_option maxHeartbeats 4000000 in
theorem c_X12_readPlayer (l : Launch) (X : XW) (σ : ST) (a : Nat) (ha : q_kd X a = 12) (hs : 0 ≤ (σ.1 a 15).toInt ∧ (σ.1 a 15).toInt ≤ (σ.1 a 16).toInt ∧ (σ.1 a 16).toInt ≤ (σ.1 a 9).toInt ∧ (σ.1 a 9).toInt ≤ 900 ∧ 0 ≤ (σ.1 a 14).toInt ∧ (σ.1 a 14).toInt ≤ 4 ∧ (σ.1 a 14).toInt ≤ 4 * ((σ.1 a 16).toInt - (σ.1 a 15).toInt) ∧ (σ.1 a 14).toInt ≤ 4 * ((σ.1 a 9).toInt - (σ.1 a 15).toInt) ∧ 0 ≤ (σ.1 a 12).toInt) (hN : m_N (m_c X σ a)) (hz : (σ.1 a 12).toInt = 0) (hk : 2 ≤ m_c X σ a 3720) (h4 : 1 ≤ m_c X σ a 3724) : Met l yX12_readPlayer (q_ws yX12_readPlayer cX12_readPlayer 2 none) (q_rm 5 107) (q_P X σ [.ref a]) (q_Qv X 1 σ (fun (σ' : ST) => (m_N (m_c X σ' a)) ∧ (∀ j, 0 ≤ j → j < 3720 → m_c X σ' a j = m_c X σ a j) ∧ (0 ≤ (σ'.1 a 15).toInt ∧ (σ'.1 a 15).toInt ≤ (σ'.1 a 16).toInt ∧ (σ'.1 a 16).toInt ≤ (σ'.1 a 9).toInt ∧ (σ'.1 a 9).toInt ≤ 900 ∧ 0 ≤ (σ'.1 a 14).toInt ∧ (σ'.1 a 14).toInt ≤ 4 ∧ (σ'.1 a 14).toInt ≤ 4 * ((σ'.1 a 16).toInt - (σ'.1 a 15).toInt) ∧ (σ'.1 a 14).toInt ≤ 4 * ((σ'.1 a 9).toInt - (σ'.1 a 15).toInt) ∧ 0 ≤ (σ'.1 a 12).toInt ∧ (σ'.1 a 9).toInt = (σ.1 a 9).toInt ∧ (σ.1 a 15).toInt ≤ (σ'.1 a 15).toInt ∧ (σ.1 a 12).toInt ≤ (σ'.1 a 12).toInt) ∧ ((σ.1 a 16).toInt ≤ (σ'.1 a 15).toInt + 1000 * (σ'.1 a 12).toInt) ∧ (m_c X σ' a 3720 = m_c X σ a 3720 ∧ m_c X σ' a 3721 = m_c X σ a 3721) ∧ (1 ≤ m_c X σ' a 3724 + 10 * (σ'.1 a 12).toInt) ∧ σ' = F_X12_readPlayer X σ a ∧ q_ow [(12, 12), (12, 13), (12, 14), (12, 15), (12, 16), (12, 17), (12, 18), (34, 99)] [(12, 19), (37, 99)] X σ σ')) 0 0 (q_reg X) := by
  refine q_met 1 (by first | exact rfl | decide +kernel) rfl (Nat.le_of_ble_eq_true rfl) (fun p e s m below meth c E hml hr hlk hI ls hl => ?_)
  have hx := E.1
  have hb := E.2.1
  have hl : lv_has ls 2 [(0, .ref a)] := hl
  have nnσ : m_N (m_c X σ a) := hN
  have kpσ : ∀ j, 0 ≤ j → j < 3720 → m_c X σ a j = m_c X σ a j := fun _ _ _ => rfl
  have k3σ : m_c X σ a 3720 = m_c X σ a 3720 ∧ m_c X σ a 3721 = m_c X σ a 3721 := ⟨rfl, rfl⟩
  have k4σ : 1 ≤ m_c X σ a 3724 + 10 * (σ.1 a 12).toInt := (by omega)
  have smσ : 0 ≤ (σ.1 a 15).toInt ∧ (σ.1 a 15).toInt ≤ (σ.1 a 16).toInt ∧ (σ.1 a 16).toInt ≤ (σ.1 a 9).toInt ∧ (σ.1 a 9).toInt ≤ 900 ∧ 0 ≤ (σ.1 a 14).toInt ∧ (σ.1 a 14).toInt ≤ 4 ∧ (σ.1 a 14).toInt ≤ 4 * ((σ.1 a 16).toInt - (σ.1 a 15).toInt) ∧ (σ.1 a 14).toInt ≤ 4 * ((σ.1 a 9).toInt - (σ.1 a 15).toInt) ∧ 0 ≤ (σ.1 a 12).toInt ∧ (σ.1 a 9).toInt = (σ.1 a 9).toInt ∧ (σ.1 a 15).toInt ≤ (σ.1 a 15).toInt ∧ (σ.1 a 12).toInt ≤ (σ.1 a 12).toInt := (by omega)
  have beσ : (σ.1 a 16).toInt = (σ.1 a 16).toInt := rfl
  have kmσ : m_c X σ a 3722 = m_c X σ a 3722 := rfl
  have fr_σ : q_ow [(12, 12), (12, 13), (12, 14), (12, 15), (12, 16), (12, 17), (12, 18), (34, 99)] [(12, 19), (37, 99)] X σ σ := q_ow.rf
  have n2 := hN.2.2.1
  obtain ⟨out, hout⟩ : ∃ o, o = F_X12_readPlayer X σ a := ⟨_, rfl⟩
  have hF := hout.symm
  unfold F_X12_readPlayer at hF
  refine lv_aload_n hx hb dX12_readPlayer_0 rfl (lv_at hl 0 rfl) ?_
  refine gs_X12_35_12 E hI ha dX12_readPlayer_1 ?_
  refine lv_sipush (v := 3722) hx hb dX12_readPlayer_4 zks_3722 ?_
  refine q_iald E hI (q_tk (k' := 34) hI ha rfl (Nat.succ_ne_zero _)) ⟨by decide, rfl⟩ (by decide) (by rw [q_lnk (v := 4650) hI (q_tk (k' := 34) hI ha rfl (Nat.succ_ne_zero _)) rfl (by decide)]; decide) dX12_readPlayer_7 ?_
  refine lv_topi (fun f_1 ef_1 => ?_)
  replace hF := q_letX hF ef_1
  have if_1 : f_1.toInt = m_c X σ a 3722 := m_rd ef_1 (by decide)
  refine lv_istore_n (lv' := [(1, .int f_1), (0, .ref a)]) hx hb dX12_readPlayer_8 rfl hl (by decide) rfl (fun ls hl => ?_)
  refine lv_iload_n hx hb dX12_readPlayer_9 rfl (lv_at hl 0 rfl) ?_
  refine lv_bipush (v := 6) hx hb dX12_readPlayer_10 zkb_6 ?_
  have J_25_2 : ∀  (σ_2 : ST) (H : Heap) (locs : List Loc) (ls : Array Slot), (f_1.toInt ≤ 5 + (σ_2.1 a 12).toInt) → (q_ow [(12, 12), (12, 13), (12, 14), (12, 15), (12, 16), (12, 17), (12, 18), (34, 99)] [(12, 19), (37, 99)] X σ σ_2) → (m_N (m_c X σ_2 a)) → (∀ j, 0 ≤ j → j < 3720 → m_c X σ_2 a j = m_c X σ a j) → (m_c X σ_2 a 3720 = m_c X σ a 3720 ∧ m_c X σ_2 a 3721 = m_c X σ a 3721) → (1 ≤ m_c X σ_2 a 3724 + 10 * (σ_2.1 a 12).toInt) → (0 ≤ (σ_2.1 a 15).toInt ∧ (σ_2.1 a 15).toInt ≤ (σ_2.1 a 16).toInt ∧ (σ_2.1 a 16).toInt ≤ (σ_2.1 a 9).toInt ∧ (σ_2.1 a 9).toInt ≤ 900 ∧ 0 ≤ (σ_2.1 a 14).toInt ∧ (σ_2.1 a 14).toInt ≤ 4 ∧ (σ_2.1 a 14).toInt ≤ 4 * ((σ_2.1 a 16).toInt - (σ_2.1 a 15).toInt) ∧ (σ_2.1 a 14).toInt ≤ 4 * ((σ_2.1 a 9).toInt - (σ_2.1 a 15).toInt) ∧ 0 ≤ (σ_2.1 a 12).toInt ∧ (σ_2.1 a 9).toInt = (σ.1 a 9).toInt ∧ (σ.1 a 15).toInt ≤ (σ_2.1 a 15).toInt ∧ (σ.1 a 12).toInt ≤ (σ_2.1 a 12).toInt) → ((σ_2.1 a 16).toInt = (σ.1 a 16).toInt) → (m_c X σ_2 a 3722 = m_c X σ a 3722) → (F_X12_readPlayer_J25_1 X a f_1 σ_2 = out) → q_I X 1 σ s.heap locs σ_2 H → lv_has ls 2 [(0, .ref a), (1, .int f_1)] → W p l e (q_rm 5 107) s m ([.ref a] : List Value).toArray below meth c H locs 0 0 (MQ below (q_Qv X 1 σ (fun (σ' : ST) => (m_N (m_c X σ' a)) ∧ (∀ j, 0 ≤ j → j < 3720 → m_c X σ' a j = m_c X σ a j) ∧ (0 ≤ (σ'.1 a 15).toInt ∧ (σ'.1 a 15).toInt ≤ (σ'.1 a 16).toInt ∧ (σ'.1 a 16).toInt ≤ (σ'.1 a 9).toInt ∧ (σ'.1 a 9).toInt ≤ 900 ∧ 0 ≤ (σ'.1 a 14).toInt ∧ (σ'.1 a 14).toInt ≤ 4 ∧ (σ'.1 a 14).toInt ≤ 4 * ((σ'.1 a 16).toInt - (σ'.1 a 15).toInt) ∧ (σ'.1 a 14).toInt ≤ 4 * ((σ'.1 a 9).toInt - (σ'.1 a 15).toInt) ∧ 0 ≤ (σ'.1 a 12).toInt ∧ (σ'.1 a 9).toInt = (σ.1 a 9).toInt ∧ (σ.1 a 15).toInt ≤ (σ'.1 a 15).toInt ∧ (σ.1 a 12).toInt ≤ (σ'.1 a 12).toInt) ∧ ((σ.1 a 16).toInt ≤ (σ'.1 a 15).toInt + 1000 * (σ'.1 a 12).toInt) ∧ (m_c X σ' a 3720 = m_c X σ a 3720 ∧ m_c X σ' a 3721 = m_c X σ a 3721) ∧ (1 ≤ m_c X σ' a 3724 + 10 * (σ'.1 a 12).toInt) ∧ σ' = F_X12_readPlayer X σ a ∧ q_ow [(12, 12), (12, 13), (12, 14), (12, 15), (12, 16), (12, 17), (12, 18), (34, 99)] [(12, 19), (37, 99)] X σ σ')) ([.ref a] : List Value).toArray s 0 0 (q_reg X)) (F0 m 25 ls []) := by
    clear hF
    intro σ_2 H locs ls j25σ_2 fr_σ_2 nnσ_2 kpσ_2 k3σ_2 k4σ_2 smσ_2 beσ_2 kmσ_2 hF hI hl
    try clear nnσ; try clear kpσ; try clear smσ; try clear beσ; try clear kmσ; try clear fr_σ
    unfold F_X12_readPlayer_J25_1 at hF
    refine lv_aload_n hx hb dX12_readPlayer_25 rfl (lv_at hl 0 rfl) ?_
    refine gs_X12_187_12 E hI ha dX12_readPlayer_26 ?_
    refine lv_topi (fun f_3 ef_3 => ?_)
    replace hF := q_letX hF ef_3
    have if_3 : f_3.toInt = (σ_2.1 a 12).toInt := congrArg Int32.toInt ef_3
    refine q_if_le (A := f_3.toInt) E rfl (tgt := 33) dX12_readPlayer_29 (by decide) (fun c_4 => ?_) (fun c_4 => ?_)
    · skip
      replace hF := q_ifn hF (Int.not_lt.mpr c_4)
      refine lv_aload_n hx hb dX12_readPlayer_33 rfl (lv_at hl 0 rfl) ?_
      refine q_cv (q_rV11_0 (rest := []) E (hml.trans hl.1.symm) hI (c_X12_next l X σ_2 a ha (by first | (clear hz hk h4 k3σ k4σ if_1 j25σ_2 k3σ_2 k4σ_2 smσ_2 kmσ_2 if_3 c_4; omega) | omega) (by first | (clear hz hk h4 k3σ k4σ if_1 j25σ_2 k3σ_2 k4σ_2 kmσ_2 if_3 c_4; omega) | omega) (by first | (clear hz hk h4 k3σ k4σ if_1 j25σ_2 k3σ_2 k4σ_2 beσ_2 kmσ_2 if_3 c_4; omega) | omega)) kv_X12_197 ha ⟨Nat.le_of_ble_eq_true rfl, Nat.le_of_ble_eq_true rfl⟩ (Nat.le_of_ble_eq_true rfl) dX12_readPlayer_34) hI (Nat.le_of_ble_eq_true rfl) (fun σ_6 H locs hpσ_6 hkσ_6 hI => ?_)
      have ahpσ_6 := hpσ_6.1
      have bhpσ_6 := hpσ_6.2.1
      have chpσ_6 := hpσ_6.2.2.1
      have dhpσ_6 := hpσ_6.2.2.2.1
      have ehpσ_6 := hpσ_6.2.2.2.2
      clear hpσ_6
      have fr_σ_6 := fr_σ_2.call ehpσ_6 rfl rfl
      replace hF := q_letX hF dhpσ_6
      have mcσ_6 := m_cK hkσ_6 hI.1 ha (by decide)
      have nnσ_6 : m_N (m_c X σ_6 a) := m_N.ext mcσ_6 nnσ_2
      have kpσ_6 : ∀ j, 0 ≤ j → j < 3720 → m_c X σ_6 a j = m_c X σ a j := fun j h0 h1 => (mcσ_6 j).trans (kpσ_2 j h0 h1)
      have k3σ_6 : m_c X σ_6 a 3720 = m_c X σ a 3720 ∧ m_c X σ_6 a 3721 = m_c X σ a 3721 := ⟨(mcσ_6 3720).trans k3σ_2.1, (mcσ_6 3721).trans k3σ_2.2⟩
      have k4σ_6 : 1 ≤ m_c X σ_6 a 3724 + 10 * (σ_6.1 a 12).toInt := (by have := mcσ_6 3724; omega)
      have smσ_6 : 0 ≤ (σ_6.1 a 15).toInt ∧ (σ_6.1 a 15).toInt ≤ (σ_6.1 a 16).toInt ∧ (σ_6.1 a 16).toInt ≤ (σ_6.1 a 9).toInt ∧ (σ_6.1 a 9).toInt ≤ 900 ∧ 0 ≤ (σ_6.1 a 14).toInt ∧ (σ_6.1 a 14).toInt ≤ 4 ∧ (σ_6.1 a 14).toInt ≤ 4 * ((σ_6.1 a 16).toInt - (σ_6.1 a 15).toInt) ∧ (σ_6.1 a 14).toInt ≤ 4 * ((σ_6.1 a 9).toInt - (σ_6.1 a 15).toInt) ∧ 0 ≤ (σ_6.1 a 12).toInt ∧ (σ_6.1 a 9).toInt = (σ.1 a 9).toInt ∧ (σ.1 a 15).toInt ≤ (σ_6.1 a 15).toInt ∧ (σ.1 a 12).toInt ≤ (σ_6.1 a 12).toInt := (by first | exact sm_nx smσ_2 bhpσ_6 chpσ_6 | omega)
      have onσ_6 : (σ.1 a 16).toInt ≤ (σ_6.1 a 15).toInt := (by first | (clear hs hz hk h4 k3σ k4σ if_1 j25σ_2 k3σ_2 k4σ_2 smσ_2 kmσ_2 if_3 c_4 ahpσ_6 bhpσ_6 dhpσ_6 ehpσ_6 k3σ_6 k4σ_6 smσ_6; omega) | omega)
      have kmσ_6 : m_c X σ_6 a 3722 = m_c X σ a 3722 := (mcσ_6 3722).trans kmσ_2
      clear k4σ_2 smσ_2 kmσ_2 bhpσ_6 chpσ_6
      refine lv_aload_n hx hb dX12_readPlayer_37 rfl (lv_at hl 0 rfl) ?_
      refine q_ci (q_rV11_0 (rest := []) E (hml.trans hl.1.symm) hI (c_X12_isName l X σ_6 a ha (by first | (clear hs hz hk h4 k3σ k4σ if_1 j25σ_2 k3σ_2 beσ_2 if_3 c_4 ahpσ_6 dhpσ_6 ehpσ_6 k3σ_6 k4σ_6 onσ_6 kmσ_6; omega) | omega)) kv_X12_210 ha ⟨Nat.le_of_ble_eq_true rfl, Nat.le_of_ble_eq_true rfl⟩ (Nat.le_of_ble_eq_true rfl) dX12_readPlayer_38) hI (Nat.le_of_ble_eq_true rfl) (fun r_7 σ_8 H locs hpσ_8 hkσ_8 hI => ?_)
      have ahpσ_8 := hpσ_8.1
      have bhpσ_8 := hpσ_8.2.1
      have chpσ_8 := hpσ_8.2.2
      clear hpσ_8
      replace hI := q_Irw ahpσ_8 hI
      replace hF := q_letX hF chpσ_8
      have J_48_9 : ∀  (σ_9 : ST) (H : Heap) (locs : List Loc) (ls : Array Slot), (q_ow [(12, 12), (12, 13), (12, 14), (12, 15), (12, 16), (12, 17), (12, 18), (34, 99)] [(12, 19), (37, 99)] X σ σ_9) → (m_N (m_c X σ_9 a)) → (∀ j, 0 ≤ j → j < 3720 → m_c X σ_9 a j = m_c X σ a j) → (m_c X σ_9 a 3720 = m_c X σ a 3720 ∧ m_c X σ_9 a 3721 = m_c X σ a 3721) → (1 ≤ m_c X σ_9 a 3724 + 10 * (σ_9.1 a 12).toInt) → (0 ≤ (σ_9.1 a 15).toInt ∧ (σ_9.1 a 15).toInt ≤ (σ_9.1 a 16).toInt ∧ (σ_9.1 a 16).toInt ≤ (σ_9.1 a 9).toInt ∧ (σ_9.1 a 9).toInt ≤ 900 ∧ 0 ≤ (σ_9.1 a 14).toInt ∧ (σ_9.1 a 14).toInt ≤ 4 ∧ (σ_9.1 a 14).toInt ≤ 4 * ((σ_9.1 a 16).toInt - (σ_9.1 a 15).toInt) ∧ (σ_9.1 a 14).toInt ≤ 4 * ((σ_9.1 a 9).toInt - (σ_9.1 a 15).toInt) ∧ 0 ≤ (σ_9.1 a 12).toInt ∧ (σ_9.1 a 9).toInt = (σ.1 a 9).toInt ∧ (σ.1 a 15).toInt ≤ (σ_9.1 a 15).toInt ∧ (σ.1 a 12).toInt ≤ (σ_9.1 a 12).toInt) → ((σ.1 a 16).toInt ≤ (σ_9.1 a 15).toInt) → (m_c X σ_9 a 3722 = m_c X σ a 3722) → (F_X12_readPlayer_J48_2 X a f_1 σ_9 = out) → q_I X 1 σ s.heap locs σ_9 H → lv_has ls 2 [(0, .ref a), (1, .int f_1)] → W p l e (q_rm 5 107) s m ([.ref a] : List Value).toArray below meth c H locs 0 0 (MQ below (q_Qv X 1 σ (fun (σ' : ST) => (m_N (m_c X σ' a)) ∧ (∀ j, 0 ≤ j → j < 3720 → m_c X σ' a j = m_c X σ a j) ∧ (0 ≤ (σ'.1 a 15).toInt ∧ (σ'.1 a 15).toInt ≤ (σ'.1 a 16).toInt ∧ (σ'.1 a 16).toInt ≤ (σ'.1 a 9).toInt ∧ (σ'.1 a 9).toInt ≤ 900 ∧ 0 ≤ (σ'.1 a 14).toInt ∧ (σ'.1 a 14).toInt ≤ 4 ∧ (σ'.1 a 14).toInt ≤ 4 * ((σ'.1 a 16).toInt - (σ'.1 a 15).toInt) ∧ (σ'.1 a 14).toInt ≤ 4 * ((σ'.1 a 9).toInt - (σ'.1 a 15).toInt) ∧ 0 ≤ (σ'.1 a 12).toInt ∧ (σ'.1 a 9).toInt = (σ.1 a 9).toInt ∧ (σ.1 a 15).toInt ≤ (σ'.1 a 15).toInt ∧ (σ.1 a 12).toInt ≤ (σ'.1 a 12).toInt) ∧ ((σ.1 a 16).toInt ≤ (σ'.1 a 15).toInt + 1000 * (σ'.1 a 12).toInt) ∧ (m_c X σ' a 3720 = m_c X σ a 3720 ∧ m_c X σ' a 3721 = m_c X σ a 3721) ∧ (1 ≤ m_c X σ' a 3724 + 10 * (σ'.1 a 12).toInt) ∧ σ' = F_X12_readPlayer X σ a ∧ q_ow [(12, 12), (12, 13), (12, 14), (12, 15), (12, 16), (12, 17), (12, 18), (34, 99)] [(12, 19), (37, 99)] X σ σ')) ([.ref a] : List Value).toArray s 0 0 (q_reg X)) (F0 m 48 ls []) := by
        clear hF
        intro σ_9 H locs ls fr_σ_9 nnσ_9 kpσ_9 k3σ_9 k4σ_9 smσ_9 onσ_9 kmσ_9 hF hI hl
        try clear ahpσ_6; try clear fr_σ_6; try clear mcσ_6; try clear nnσ_6; try clear kpσ_6; try clear smσ_6; try clear onσ_6; try clear kmσ_6; try clear ahpσ_8
        unfold F_X12_readPlayer_J48_2 at hF
        refine lv_aload_n hx hb dX12_readPlayer_48 rfl (lv_at hl 0 rfl) ?_
        refine gs_X12_187_12 E hI ha dX12_readPlayer_49 ?_
        refine lv_topi (fun f_10 ef_10 => ?_)
        replace hF := q_letX hF ef_10
        have if_10 : f_10.toInt = (σ_9.1 a 12).toInt := congrArg Int32.toInt ef_10
        have J_72_11 : ∀  (σ_11 : ST) (H : Heap) (locs : List Loc) (ls : Array Slot), (q_ow [(12, 12), (12, 13), (12, 14), (12, 15), (12, 16), (12, 17), (12, 18), (34, 99)] [(12, 19), (37, 99)] X σ σ_11) → (m_N (m_c X σ_11 a)) → (∀ j, 0 ≤ j → j < 3720 → m_c X σ_11 a j = m_c X σ a j) → (m_c X σ_11 a 3720 = m_c X σ a 3720 ∧ m_c X σ_11 a 3721 = m_c X σ a 3721) → (1 ≤ m_c X σ_11 a 3724 + 10 * (σ_11.1 a 12).toInt) → (0 ≤ (σ_11.1 a 15).toInt ∧ (σ_11.1 a 15).toInt ≤ (σ_11.1 a 16).toInt ∧ (σ_11.1 a 16).toInt ≤ (σ_11.1 a 9).toInt ∧ (σ_11.1 a 9).toInt ≤ 900 ∧ 0 ≤ (σ_11.1 a 14).toInt ∧ (σ_11.1 a 14).toInt ≤ 4 ∧ (σ_11.1 a 14).toInt ≤ 4 * ((σ_11.1 a 16).toInt - (σ_11.1 a 15).toInt) ∧ (σ_11.1 a 14).toInt ≤ 4 * ((σ_11.1 a 9).toInt - (σ_11.1 a 15).toInt) ∧ 0 ≤ (σ_11.1 a 12).toInt ∧ (σ_11.1 a 9).toInt = (σ.1 a 9).toInt ∧ (σ.1 a 15).toInt ≤ (σ_11.1 a 15).toInt ∧ (σ.1 a 12).toInt ≤ (σ_11.1 a 12).toInt) → ((σ.1 a 16).toInt ≤ (σ_11.1 a 15).toInt) → (m_c X σ_11 a 3722 = m_c X σ a 3722) → (F_X12_readPlayer_J72_3 X a f_1 σ_11 = out) → q_I X 1 σ s.heap locs σ_11 H → lv_has ls 2 [(0, .ref a), (1, .int f_1)] → W p l e (q_rm 5 107) s m ([.ref a] : List Value).toArray below meth c H locs 0 0 (MQ below (q_Qv X 1 σ (fun (σ' : ST) => (m_N (m_c X σ' a)) ∧ (∀ j, 0 ≤ j → j < 3720 → m_c X σ' a j = m_c X σ a j) ∧ (0 ≤ (σ'.1 a 15).toInt ∧ (σ'.1 a 15).toInt ≤ (σ'.1 a 16).toInt ∧ (σ'.1 a 16).toInt ≤ (σ'.1 a 9).toInt ∧ (σ'.1 a 9).toInt ≤ 900 ∧ 0 ≤ (σ'.1 a 14).toInt ∧ (σ'.1 a 14).toInt ≤ 4 ∧ (σ'.1 a 14).toInt ≤ 4 * ((σ'.1 a 16).toInt - (σ'.1 a 15).toInt) ∧ (σ'.1 a 14).toInt ≤ 4 * ((σ'.1 a 9).toInt - (σ'.1 a 15).toInt) ∧ 0 ≤ (σ'.1 a 12).toInt ∧ (σ'.1 a 9).toInt = (σ.1 a 9).toInt ∧ (σ.1 a 15).toInt ≤ (σ'.1 a 15).toInt ∧ (σ.1 a 12).toInt ≤ (σ'.1 a 12).toInt) ∧ ((σ.1 a 16).toInt ≤ (σ'.1 a 15).toInt + 1000 * (σ'.1 a 12).toInt) ∧ (m_c X σ' a 3720 = m_c X σ a 3720 ∧ m_c X σ' a 3721 = m_c X σ a 3721) ∧ (1 ≤ m_c X σ' a 3724 + 10 * (σ'.1 a 12).toInt) ∧ σ' = F_X12_readPlayer X σ a ∧ q_ow [(12, 12), (12, 13), (12, 14), (12, 15), (12, 16), (12, 17), (12, 18), (34, 99)] [(12, 19), (37, 99)] X σ σ')) ([.ref a] : List Value).toArray s 0 0 (q_reg X)) (F0 m 72 ls []) := by
          clear hF
          intro σ_11 H locs ls fr_σ_11 nnσ_11 kpσ_11 k3σ_11 k4σ_11 smσ_11 onσ_11 kmσ_11 hF hI hl
          try clear fr_σ_9; try clear nnσ_9; try clear kpσ_9; try clear smσ_9; try clear onσ_9; try clear kmσ_9
          unfold F_X12_readPlayer_J72_3 at hF
          refine lv_aload_n hx hb dX12_readPlayer_72 rfl (lv_at hl 0 rfl) ?_
          refine gs_X12_187_12 E hI ha dX12_readPlayer_73 ?_
          refine lv_topi (fun f_12 ef_12 => ?_)
          replace hF := q_letX hF ef_12
          have if_12 : f_12.toInt = (σ_11.1 a 12).toInt := congrArg Int32.toInt ef_12
          refine q_if_le (A := f_12.toInt) E rfl (tgt := 80) dX12_readPlayer_76 (by decide) (fun c_13 => ?_) (fun c_13 => ?_)
          · skip
            replace hF := q_ifn hF (Int.not_lt.mpr c_13)
            refine lv_aload_n hx hb dX12_readPlayer_80 rfl (lv_at hl 0 rfl) ?_
            refine gs_X12_44_12 E hI ha dX12_readPlayer_81 ?_
            refine lv_bipush (v := 24) hx hb dX12_readPlayer_84 zkb_24 ?_
            refine lv_iload_n hx hb dX12_readPlayer_86 rfl (lv_at hl 1 rfl) ?_
            refine lv_iadd hx hb dX12_readPlayer_87 ?_
            refine lv_topi (fun z_14 ez_14 => ?_)
            replace hF := q_letX hF ez_14
            have iz_14 := q_addI (A := 24) (B := (m_c X σ a 3722)) ez_14 (by decide) if_1 (by first | (clear hs hz hk h4 k3σ k4σ j25σ_2 k3σ_2 beσ_2 if_3 c_4 dhpσ_6 ehpσ_6 k3σ_6 k4σ_6 bhpσ_8 chpσ_8 k3σ_9 k4σ_9 if_10 k3σ_11 k4σ_11 smσ_11 onσ_11 if_12 c_13; omega) | omega) (by first | (clear hs hz hk h4 k3σ k4σ j25σ_2 k3σ_2 beσ_2 if_3 c_4 dhpσ_6 ehpσ_6 k3σ_6 k4σ_6 bhpσ_8 chpσ_8 k3σ_9 k4σ_9 if_10 k3σ_11 k4σ_11 smσ_11 onσ_11 if_12 c_13; omega) | omega)
            refine lv_aload_n hx hb dX12_readPlayer_88 rfl (lv_at hl 0 rfl) ?_
            refine gs_X12_116_12 E hI ha dX12_readPlayer_89 ?_
            refine lv_topl (fun g_15 eg_15 => ?_)
            replace hF := q_letX hF eg_15
            refine q_lastN E hI (q_tk (k' := 37) hI ha rfl (Nat.succ_ne_zero _)) ⟨by decide, rfl⟩ (by first | (clear hs hz hk h4 k3σ k4σ j25σ_2 k3σ_2 beσ_2 if_3 c_4 dhpσ_6 ehpσ_6 k3σ_6 k4σ_6 bhpσ_8 chpσ_8 k3σ_9 k4σ_9 if_10 k3σ_11 k4σ_11 smσ_11 onσ_11 if_12 c_13; omega) | omega) (by rw [q_lnk (v := 30) hI (q_tk (k' := 37) hI ha rfl (Nat.succ_ne_zero _)) rfl (by decide)]; omega) dX12_readPlayer_92 (fun H locs σ_16 hσ_16 hI => ?_)
            replace hF := q_letX hF hσ_16
            have fr_σ_16 := fr_σ_11.sl hσ_16 (q_tk (k' := 37) hI ha rfl (Nat.succ_ne_zero _)) rfl
            have mv9_σ_16 : (σ_16.1 a 9).toInt = (σ_11.1 a 9).toInt := congrArg Int32.toInt ((fun b g _ => by rw [hσ_16]; rfl : q_K 8 X σ_11 σ_16) a 9 (by rw [ha]; decide))
            have mv12_σ_16 : (σ_16.1 a 12).toInt = (σ_11.1 a 12).toInt := congrArg Int32.toInt ((fun b g _ => by rw [hσ_16]; rfl : q_K 8 X σ_11 σ_16) a 12 (by rw [ha]; decide))
            have mv14_σ_16 : (σ_16.1 a 14).toInt = (σ_11.1 a 14).toInt := congrArg Int32.toInt ((fun b g _ => by rw [hσ_16]; rfl : q_K 8 X σ_11 σ_16) a 14 (by rw [ha]; decide))
            have mv15_σ_16 : (σ_16.1 a 15).toInt = (σ_11.1 a 15).toInt := congrArg Int32.toInt ((fun b g _ => by rw [hσ_16]; rfl : q_K 8 X σ_11 σ_16) a 15 (by rw [ha]; decide))
            have mv16_σ_16 : (σ_16.1 a 16).toInt = (σ_11.1 a 16).toInt := congrArg Int32.toInt ((fun b g _ => by rw [hσ_16]; rfl : q_K 8 X σ_11 σ_16) a 16 (by rw [ha]; decide))
            have mcσ_16 := m_wl (X := X) hσ_16 a
            have nnσ_16 : m_N (m_c X σ_16 a) := m_N.ext mcσ_16 nnσ_11
            have kpσ_16 : ∀ j, 0 ≤ j → j < 3720 → m_c X σ_16 a j = m_c X σ a j := fun j h0 h1 => (mcσ_16 j).trans (kpσ_11 j h0 h1)
            have k3σ_16 : m_c X σ_16 a 3720 = m_c X σ a 3720 ∧ m_c X σ_16 a 3721 = m_c X σ a 3721 := ⟨(mcσ_16 3720).trans k3σ_11.1, (mcσ_16 3721).trans k3σ_11.2⟩
            have k4σ_16 : 1 ≤ m_c X σ_16 a 3724 + 10 * (σ_16.1 a 12).toInt := (by have := mcσ_16 3724; omega)
            have smσ_16 : 0 ≤ (σ_16.1 a 15).toInt ∧ (σ_16.1 a 15).toInt ≤ (σ_16.1 a 16).toInt ∧ (σ_16.1 a 16).toInt ≤ (σ_16.1 a 9).toInt ∧ (σ_16.1 a 9).toInt ≤ 900 ∧ 0 ≤ (σ_16.1 a 14).toInt ∧ (σ_16.1 a 14).toInt ≤ 4 ∧ (σ_16.1 a 14).toInt ≤ 4 * ((σ_16.1 a 16).toInt - (σ_16.1 a 15).toInt) ∧ (σ_16.1 a 14).toInt ≤ 4 * ((σ_16.1 a 9).toInt - (σ_16.1 a 15).toInt) ∧ 0 ≤ (σ_16.1 a 12).toInt ∧ (σ_16.1 a 9).toInt = (σ.1 a 9).toInt ∧ (σ.1 a 15).toInt ≤ (σ_16.1 a 15).toInt ∧ (σ.1 a 12).toInt ≤ (σ_16.1 a 12).toInt := (by first | (rw [mv12_σ_16, mv14_σ_16, mv15_σ_16, mv16_σ_16, mv9_σ_16]; exact smσ_11) | omega)
            have onσ_16 : (σ.1 a 16).toInt ≤ (σ_16.1 a 15).toInt := (by first | (clear hs hz hk h4 k3σ k4σ if_1 j25σ_2 k3σ_2 if_3 c_4 dhpσ_6 ehpσ_6 k3σ_6 k4σ_6 bhpσ_8 chpσ_8 k3σ_9 k4σ_9 if_10 k3σ_11 k4σ_11 smσ_11 kmσ_11 if_12 c_13 iz_14 mv9_σ_16 mv12_σ_16 mv14_σ_16 mv16_σ_16 k3σ_16 k4σ_16 smσ_16; omega) | omega)
            have kmσ_16 : m_c X σ_16 a 3722 = m_c X σ a 3722 := (mcσ_16 3722).trans kmσ_11
            clear mv9_σ_16 mv12_σ_16 mv14_σ_16 mv15_σ_16 mv16_σ_16 k4σ_11 smσ_11 onσ_11 kmσ_11
            refine lv_aload_n hx hb dX12_readPlayer_93 rfl (lv_at hl 0 rfl) ?_
            refine q_cv (q_rV11_0 (rest := []) E (hml.trans hl.1.symm) hI (c_X12_next l X σ_16 a ha (by first | (clear hs hz hk h4 k3σ k4σ if_1 j25σ_2 k3σ_2 beσ_2 if_3 c_4 dhpσ_6 ehpσ_6 k3σ_6 k4σ_6 bhpσ_8 chpσ_8 k3σ_9 k4σ_9 if_10 k3σ_11 if_12 c_13 iz_14 k3σ_16 k4σ_16 onσ_16 kmσ_16; omega) | omega) (by first | (clear hs hz hk h4 k3σ k4σ if_1 j25σ_2 k3σ_2 beσ_2 if_3 c_4 dhpσ_6 ehpσ_6 k3σ_6 k4σ_6 bhpσ_8 chpσ_8 k3σ_9 k4σ_9 if_10 k3σ_11 if_12 c_13 iz_14 k3σ_16 k4σ_16 onσ_16 kmσ_16; omega) | omega) (by first | (clear hz hk h4 k3σ k4σ if_1 j25σ_2 k3σ_2 beσ_2 if_3 c_4 dhpσ_6 ehpσ_6 k3σ_6 k4σ_6 bhpσ_8 chpσ_8 k3σ_9 k4σ_9 if_10 k3σ_11 if_12 c_13 iz_14 k3σ_16 k4σ_16 onσ_16 kmσ_16; omega) | omega)) kv_X12_197 ha ⟨Nat.le_of_ble_eq_true rfl, Nat.le_of_ble_eq_true rfl⟩ (Nat.le_of_ble_eq_true rfl) dX12_readPlayer_94) hI (Nat.le_of_ble_eq_true rfl) (fun σ_18 H locs hpσ_18 hkσ_18 hI => ?_)
            have ahpσ_18 := hpσ_18.1
            have bhpσ_18 := hpσ_18.2.1
            have chpσ_18 := hpσ_18.2.2.1
            have dhpσ_18 := hpσ_18.2.2.2.1
            have ehpσ_18 := hpσ_18.2.2.2.2
            clear hpσ_18
            have fr_σ_18 := fr_σ_16.call ehpσ_18 rfl rfl
            replace hF := q_letX hF dhpσ_18
            have mcσ_18 := m_cK hkσ_18 hI.1 ha (by decide)
            have nnσ_18 : m_N (m_c X σ_18 a) := m_N.ext mcσ_18 nnσ_16
            have kpσ_18 : ∀ j, 0 ≤ j → j < 3720 → m_c X σ_18 a j = m_c X σ a j := fun j h0 h1 => (mcσ_18 j).trans (kpσ_16 j h0 h1)
            have k3σ_18 : m_c X σ_18 a 3720 = m_c X σ a 3720 ∧ m_c X σ_18 a 3721 = m_c X σ a 3721 := ⟨(mcσ_18 3720).trans k3σ_16.1, (mcσ_18 3721).trans k3σ_16.2⟩
            have k4σ_18 : 1 ≤ m_c X σ_18 a 3724 + 10 * (σ_18.1 a 12).toInt := (by have := mcσ_18 3724; omega)
            have smσ_18 : 0 ≤ (σ_18.1 a 15).toInt ∧ (σ_18.1 a 15).toInt ≤ (σ_18.1 a 16).toInt ∧ (σ_18.1 a 16).toInt ≤ (σ_18.1 a 9).toInt ∧ (σ_18.1 a 9).toInt ≤ 900 ∧ 0 ≤ (σ_18.1 a 14).toInt ∧ (σ_18.1 a 14).toInt ≤ 4 ∧ (σ_18.1 a 14).toInt ≤ 4 * ((σ_18.1 a 16).toInt - (σ_18.1 a 15).toInt) ∧ (σ_18.1 a 14).toInt ≤ 4 * ((σ_18.1 a 9).toInt - (σ_18.1 a 15).toInt) ∧ 0 ≤ (σ_18.1 a 12).toInt ∧ (σ_18.1 a 9).toInt = (σ.1 a 9).toInt ∧ (σ.1 a 15).toInt ≤ (σ_18.1 a 15).toInt ∧ (σ.1 a 12).toInt ≤ (σ_18.1 a 12).toInt := (by first | exact sm_nx smσ_16 bhpσ_18 chpσ_18 | omega)
            have onσ_18 : (σ.1 a 16).toInt ≤ (σ_18.1 a 15).toInt := (by first | (clear hs hz hk h4 k3σ k4σ if_1 j25σ_2 k3σ_2 if_3 c_4 dhpσ_6 ehpσ_6 k3σ_6 k4σ_6 bhpσ_8 chpσ_8 k3σ_9 k4σ_9 if_10 k3σ_11 if_12 c_13 iz_14 k3σ_16 k4σ_16 kmσ_16 ahpσ_18 bhpσ_18 dhpσ_18 ehpσ_18 k3σ_18 k4σ_18 smσ_18; omega) | omega)
            have kmσ_18 : m_c X σ_18 a 3722 = m_c X σ a 3722 := (mcσ_18 3722).trans kmσ_16
            clear k4σ_16 smσ_16 onσ_16 kmσ_16 bhpσ_18 chpσ_18
            refine lv_aload_n hx hb dX12_readPlayer_97 rfl (lv_at hl 0 rfl) ?_
            refine q_ci (q_rV11_0 (rest := []) E (hml.trans hl.1.symm) hI (c_X12_isLies l X σ_18 a ha) kv_X12_143 ha ⟨Nat.le_of_ble_eq_true rfl, Nat.le_of_ble_eq_true rfl⟩ (Nat.le_of_ble_eq_true rfl) dX12_readPlayer_98) hI (Nat.le_of_ble_eq_true rfl) (fun r_19 σ_20 H locs hpσ_20 hkσ_20 hI => ?_)
            have ahpσ_20 := hpσ_20.1
            have bhpσ_20 := hpσ_20.2.1
            have chpσ_20 := hpσ_20.2.2.1
            have dhpσ_20 := hpσ_20.2.2.2
            clear hpσ_20
            replace hI := q_Irw ahpσ_20 hI
            replace hF := q_letX hF dhpσ_20
            have J_125_21 : ∀  (σ_21 : ST) (H : Heap) (locs : List Loc) (ls : Array Slot), (q_ow [(12, 12), (12, 13), (12, 14), (12, 15), (12, 16), (12, 17), (12, 18), (34, 99)] [(12, 19), (37, 99)] X σ σ_21) → (m_N (m_c X σ_21 a)) → (∀ j, 0 ≤ j → j < 3720 → m_c X σ_21 a j = m_c X σ a j) → (m_c X σ_21 a 3720 = m_c X σ a 3720 ∧ m_c X σ_21 a 3721 = m_c X σ a 3721) → (1 ≤ m_c X σ_21 a 3724 + 10 * (σ_21.1 a 12).toInt) → (0 ≤ (σ_21.1 a 15).toInt ∧ (σ_21.1 a 15).toInt ≤ (σ_21.1 a 16).toInt ∧ (σ_21.1 a 16).toInt ≤ (σ_21.1 a 9).toInt ∧ (σ_21.1 a 9).toInt ≤ 900 ∧ 0 ≤ (σ_21.1 a 14).toInt ∧ (σ_21.1 a 14).toInt ≤ 4 ∧ (σ_21.1 a 14).toInt ≤ 4 * ((σ_21.1 a 16).toInt - (σ_21.1 a 15).toInt) ∧ (σ_21.1 a 14).toInt ≤ 4 * ((σ_21.1 a 9).toInt - (σ_21.1 a 15).toInt) ∧ 0 ≤ (σ_21.1 a 12).toInt ∧ (σ_21.1 a 9).toInt = (σ.1 a 9).toInt ∧ (σ.1 a 15).toInt ≤ (σ_21.1 a 15).toInt ∧ (σ.1 a 12).toInt ≤ (σ_21.1 a 12).toInt) → ((σ.1 a 16).toInt ≤ (σ_21.1 a 15).toInt) → (m_c X σ_21 a 3722 = m_c X σ a 3722) → (F_X12_readPlayer_J125_4 X a f_1 σ_21 = out) → q_I X 1 σ s.heap locs σ_21 H → lv_has ls 2 [(0, .ref a), (1, .int f_1)] → W p l e (q_rm 5 107) s m ([.ref a] : List Value).toArray below meth c H locs 0 0 (MQ below (q_Qv X 1 σ (fun (σ' : ST) => (m_N (m_c X σ' a)) ∧ (∀ j, 0 ≤ j → j < 3720 → m_c X σ' a j = m_c X σ a j) ∧ (0 ≤ (σ'.1 a 15).toInt ∧ (σ'.1 a 15).toInt ≤ (σ'.1 a 16).toInt ∧ (σ'.1 a 16).toInt ≤ (σ'.1 a 9).toInt ∧ (σ'.1 a 9).toInt ≤ 900 ∧ 0 ≤ (σ'.1 a 14).toInt ∧ (σ'.1 a 14).toInt ≤ 4 ∧ (σ'.1 a 14).toInt ≤ 4 * ((σ'.1 a 16).toInt - (σ'.1 a 15).toInt) ∧ (σ'.1 a 14).toInt ≤ 4 * ((σ'.1 a 9).toInt - (σ'.1 a 15).toInt) ∧ 0 ≤ (σ'.1 a 12).toInt ∧ (σ'.1 a 9).toInt = (σ.1 a 9).toInt ∧ (σ.1 a 15).toInt ≤ (σ'.1 a 15).toInt ∧ (σ.1 a 12).toInt ≤ (σ'.1 a 12).toInt) ∧ ((σ.1 a 16).toInt ≤ (σ'.1 a 15).toInt + 1000 * (σ'.1 a 12).toInt) ∧ (m_c X σ' a 3720 = m_c X σ a 3720 ∧ m_c X σ' a 3721 = m_c X σ a 3721) ∧ (1 ≤ m_c X σ' a 3724 + 10 * (σ'.1 a 12).toInt) ∧ σ' = F_X12_readPlayer X σ a ∧ q_ow [(12, 12), (12, 13), (12, 14), (12, 15), (12, 16), (12, 17), (12, 18), (34, 99)] [(12, 19), (37, 99)] X σ σ')) ([.ref a] : List Value).toArray s 0 0 (q_reg X)) (F0 m 125 ls []) := by
              clear hF
              intro σ_21 H locs ls fr_σ_21 nnσ_21 kpσ_21 k3σ_21 k4σ_21 smσ_21 onσ_21 kmσ_21 hF hI hl
              try clear fr_σ_16; try clear mcσ_16; try clear nnσ_16; try clear kpσ_16; try clear ahpσ_18; try clear fr_σ_18; try clear mcσ_18; try clear nnσ_18; try clear kpσ_18; try clear smσ_18; try clear onσ_18; try clear kmσ_18; try clear ahpσ_20
              unfold F_X12_readPlayer_J125_4 at hF
              refine lv_aload_n hx hb dX12_readPlayer_125 rfl (lv_at hl 0 rfl) ?_
              refine gs_X12_187_12 E hI ha dX12_readPlayer_126 ?_
              refine lv_topi (fun f_22 ef_22 => ?_)
              replace hF := q_letX hF ef_22
              have if_22 : f_22.toInt = (σ_21.1 a 12).toInt := congrArg Int32.toInt ef_22
              have J_160_23 : ∀  (σ_23 : ST) (H : Heap) (locs : List Loc) (ls : Array Slot), (q_ow [(12, 12), (12, 13), (12, 14), (12, 15), (12, 16), (12, 17), (12, 18), (34, 99)] [(12, 19), (37, 99)] X σ σ_23) → (m_N (m_c X σ_23 a)) → (∀ j, 0 ≤ j → j < 3720 → m_c X σ_23 a j = m_c X σ a j) → (m_c X σ_23 a 3720 = m_c X σ a 3720 ∧ m_c X σ_23 a 3721 = m_c X σ a 3721) → (1 ≤ m_c X σ_23 a 3724 + 10 * (σ_23.1 a 12).toInt) → (0 ≤ (σ_23.1 a 15).toInt ∧ (σ_23.1 a 15).toInt ≤ (σ_23.1 a 16).toInt ∧ (σ_23.1 a 16).toInt ≤ (σ_23.1 a 9).toInt ∧ (σ_23.1 a 9).toInt ≤ 900 ∧ 0 ≤ (σ_23.1 a 14).toInt ∧ (σ_23.1 a 14).toInt ≤ 4 ∧ (σ_23.1 a 14).toInt ≤ 4 * ((σ_23.1 a 16).toInt - (σ_23.1 a 15).toInt) ∧ (σ_23.1 a 14).toInt ≤ 4 * ((σ_23.1 a 9).toInt - (σ_23.1 a 15).toInt) ∧ 0 ≤ (σ_23.1 a 12).toInt ∧ (σ_23.1 a 9).toInt = (σ.1 a 9).toInt ∧ (σ.1 a 15).toInt ≤ (σ_23.1 a 15).toInt ∧ (σ.1 a 12).toInt ≤ (σ_23.1 a 12).toInt) → ((σ.1 a 16).toInt ≤ (σ_23.1 a 15).toInt) → (m_c X σ_23 a 3722 = m_c X σ a 3722) → (F_X12_readPlayer_J160_5 X a σ_23 = out) → q_I X 1 σ s.heap locs σ_23 H → lv_has ls 2 [(0, .ref a), (1, .int f_1)] → W p l e (q_rm 5 107) s m ([.ref a] : List Value).toArray below meth c H locs 0 0 (MQ below (q_Qv X 1 σ (fun (σ' : ST) => (m_N (m_c X σ' a)) ∧ (∀ j, 0 ≤ j → j < 3720 → m_c X σ' a j = m_c X σ a j) ∧ (0 ≤ (σ'.1 a 15).toInt ∧ (σ'.1 a 15).toInt ≤ (σ'.1 a 16).toInt ∧ (σ'.1 a 16).toInt ≤ (σ'.1 a 9).toInt ∧ (σ'.1 a 9).toInt ≤ 900 ∧ 0 ≤ (σ'.1 a 14).toInt ∧ (σ'.1 a 14).toInt ≤ 4 ∧ (σ'.1 a 14).toInt ≤ 4 * ((σ'.1 a 16).toInt - (σ'.1 a 15).toInt) ∧ (σ'.1 a 14).toInt ≤ 4 * ((σ'.1 a 9).toInt - (σ'.1 a 15).toInt) ∧ 0 ≤ (σ'.1 a 12).toInt ∧ (σ'.1 a 9).toInt = (σ.1 a 9).toInt ∧ (σ.1 a 15).toInt ≤ (σ'.1 a 15).toInt ∧ (σ.1 a 12).toInt ≤ (σ'.1 a 12).toInt) ∧ ((σ.1 a 16).toInt ≤ (σ'.1 a 15).toInt + 1000 * (σ'.1 a 12).toInt) ∧ (m_c X σ' a 3720 = m_c X σ a 3720 ∧ m_c X σ' a 3721 = m_c X σ a 3721) ∧ (1 ≤ m_c X σ' a 3724 + 10 * (σ'.1 a 12).toInt) ∧ σ' = F_X12_readPlayer X σ a ∧ q_ow [(12, 12), (12, 13), (12, 14), (12, 15), (12, 16), (12, 17), (12, 18), (34, 99)] [(12, 19), (37, 99)] X σ σ')) ([.ref a] : List Value).toArray s 0 0 (q_reg X)) (F0 m 160 ls []) := by
                clear hF
                intro σ_23 H locs ls fr_σ_23 nnσ_23 kpσ_23 k3σ_23 k4σ_23 smσ_23 onσ_23 kmσ_23 hF hI hl
                try clear fr_σ_21; try clear nnσ_21; try clear kpσ_21; try clear smσ_21; try clear onσ_21; try clear kmσ_21
                unfold F_X12_readPlayer_J160_5 at hF
                refine lv_aload_n hx hb dX12_readPlayer_160 rfl (lv_at hl 0 rfl) ?_
                refine gs_X12_187_12 E hI ha dX12_readPlayer_161 ?_
                refine lv_topi (fun f_24 ef_24 => ?_)
                replace hF := q_letX hF ef_24
                have if_24 : f_24.toInt = (σ_23.1 a 12).toInt := congrArg Int32.toInt ef_24
                refine q_if_ne (A := f_24.toInt) E rfl (tgt := 179) dX12_readPlayer_164 (by decide) (fun c_25 => ?_) (fun c_25 => ?_)
                · skip
                  replace hF := q_ifn hF c_25
                  exact q_retv E hr hlk hI ⟨nnσ_23, kpσ_23, (by first | exact smσ_23 | omega), (by first | exact smσ_23 | omega), k3σ_23, k4σ_23, (hF.trans hout), fr_σ_23⟩ dX12_readPlayer_179
                · skip
                  replace hF := q_ifp hF c_25
                  refine lv_aload_n hx hb dX12_readPlayer_167 rfl (lv_at hl 0 rfl) ?_
                  refine gs_X12_35_12 E hI ha dX12_readPlayer_168 ?_
                  refine lv_sipush (v := 3722) hx hb dX12_readPlayer_171 zks_3722 ?_
                  refine lv_dup2_11 hx hb dX12_readPlayer_174 rfl rfl ?_
                  refine q_iald E hI (q_tk (k' := 34) hI ha rfl (Nat.succ_ne_zero _)) ⟨by decide, rfl⟩ (by decide) (by rw [q_lnk (v := 4650) hI (q_tk (k' := 34) hI ha rfl (Nat.succ_ne_zero _)) rfl (by decide)]; decide) dX12_readPlayer_175 ?_
                  refine lv_topi (fun f_26 ef_26 => ?_)
                  replace hF := q_letX hF ef_26
                  have if_26 : f_26.toInt = m_c X σ_23 a 3722 := m_rd ef_26 (by decide)
                  refine lv_iconst (v := 1) hx hb dX12_readPlayer_176 zki_1 ?_
                  refine lv_iadd hx hb dX12_readPlayer_177 ?_
                  refine lv_topi (fun z_27 ez_27 => ?_)
                  replace hF := q_letX hF ez_27
                  have iz_27 := q_addI (A := (m_c X σ_23 a 3722)) (B := 1) ez_27 if_26 (by decide) (by first | (clear hs hz hk h4 k3σ k4σ j25σ_2 k3σ_2 beσ_2 if_3 c_4 dhpσ_6 ehpσ_6 k3σ_6 k4σ_6 bhpσ_8 chpσ_8 k3σ_9 k4σ_9 if_10 k3σ_11 if_12 c_13 k3σ_16 dhpσ_18 ehpσ_18 k3σ_18 k4σ_18 bhpσ_20 chpσ_20 dhpσ_20 k3σ_21 k4σ_21 if_22 k3σ_23 k4σ_23 smσ_23 onσ_23 if_24 c_25; omega) | omega) (by first | (clear hs hz hk h4 k3σ k4σ j25σ_2 k3σ_2 beσ_2 if_3 c_4 dhpσ_6 ehpσ_6 k3σ_6 k4σ_6 bhpσ_8 chpσ_8 k3σ_9 k4σ_9 if_10 k3σ_11 if_12 c_13 k3σ_16 dhpσ_18 ehpσ_18 k3σ_18 k4σ_18 bhpσ_20 chpσ_20 dhpσ_20 k3σ_21 k4σ_21 if_22 k3σ_23 k4σ_23 smσ_23 onσ_23 if_24 c_25; omega) | omega)
                  refine q_iastN E hI (q_tk (k' := 34) hI ha rfl (Nat.succ_ne_zero _)) ⟨by decide, rfl⟩ (by decide) (by rw [q_lnk (v := 4650) hI (q_tk (k' := 34) hI ha rfl (Nat.succ_ne_zero _)) rfl (by decide)]; decide) (show 1 < 2 by decide) (q_inU rfl) dX12_readPlayer_178 (fun H locs σ_28 hσ_28 hI => ?_)
                  replace hF := q_letX hF hσ_28
                  have fr_σ_28 := fr_σ_23.si hσ_28 (q_tk (k' := 34) hI ha rfl (Nat.succ_ne_zero _)) rfl
                  have mv9_σ_28 : (σ_28.1 a 9).toInt = (σ_23.1 a 9).toInt := congrArg Int32.toInt (q_rdn hσ_28 (Or.inl (m_ne ha (q_tk (k' := 34) hI ha rfl (Nat.succ_ne_zero _)) (by decide))))
                  have mv12_σ_28 : (σ_28.1 a 12).toInt = (σ_23.1 a 12).toInt := congrArg Int32.toInt (q_rdn hσ_28 (Or.inl (m_ne ha (q_tk (k' := 34) hI ha rfl (Nat.succ_ne_zero _)) (by decide))))
                  have mv14_σ_28 : (σ_28.1 a 14).toInt = (σ_23.1 a 14).toInt := congrArg Int32.toInt (q_rdn hσ_28 (Or.inl (m_ne ha (q_tk (k' := 34) hI ha rfl (Nat.succ_ne_zero _)) (by decide))))
                  have mv15_σ_28 : (σ_28.1 a 15).toInt = (σ_23.1 a 15).toInt := congrArg Int32.toInt (q_rdn hσ_28 (Or.inl (m_ne ha (q_tk (k' := 34) hI ha rfl (Nat.succ_ne_zero _)) (by decide))))
                  have mv16_σ_28 : (σ_28.1 a 16).toInt = (σ_23.1 a 16).toInt := congrArg Int32.toInt (q_rdn hσ_28 (Or.inl (m_ne ha (q_tk (k' := 34) hI ha rfl (Nat.succ_ne_zero _)) (by decide))))
                  have mcσ_28 := m_wr (v := z_27) (A := 3722) hσ_28 (by decide) (by decide)
                  have nnσ_28 : m_N (m_c X σ_28 a) := m_N.wr nnσ_23 mcσ_28 (by first | (clear hs hz hk h4 k3σ k4σ k3σ_2 beσ_2 dhpσ_6 ehpσ_6 k3σ_6 k4σ_6 bhpσ_8 chpσ_8 k3σ_9 k4σ_9 if_10 k3σ_11 if_12 c_13 k3σ_16 dhpσ_18 ehpσ_18 k3σ_18 k4σ_18 bhpσ_20 chpσ_20 dhpσ_20 k3σ_21 k4σ_21 if_22 k3σ_23 k4σ_23 smσ_23 onσ_23 if_24 c_25 mv9_σ_28 mv12_σ_28 mv14_σ_28 mv15_σ_28 mv16_σ_28; omega) | omega)
                  have kpσ_28 : ∀ j, 0 ≤ j → j < 3720 → m_c X σ_28 a j = m_c X σ a j := fun j h0 h1 => by rw [mcσ_28 j h0, if_neg (by first | (clear hs hz hk h4 k3σ k4σ if_1 j25σ_2 k3σ_2 beσ_2 if_3 c_4 dhpσ_6 ehpσ_6 k3σ_6 k4σ_6 bhpσ_8 chpσ_8 k3σ_9 k4σ_9 if_10 k3σ_11 if_12 c_13 iz_14 k3σ_16 dhpσ_18 ehpσ_18 k3σ_18 k4σ_18 bhpσ_20 chpσ_20 dhpσ_20 k3σ_21 k4σ_21 if_22 k3σ_23 k4σ_23 smσ_23 onσ_23 kmσ_23 if_24 c_25 if_26 iz_27 mv9_σ_28 mv12_σ_28 mv14_σ_28 mv15_σ_28 mv16_σ_28; omega) | omega)]; exact kpσ_23 j h0 h1
                  have k3σ_28 : m_c X σ_28 a 3720 = m_c X σ a 3720 ∧ m_c X σ_28 a 3721 = m_c X σ a 3721 := ⟨by rw [mcσ_28 3720 (by decide), if_neg (by first | (clear hs hz hk h4 k3σ k4σ if_1 j25σ_2 k3σ_2 beσ_2 if_3 c_4 dhpσ_6 ehpσ_6 k3σ_6 k4σ_6 bhpσ_8 chpσ_8 k3σ_9 k4σ_9 if_10 k3σ_11 if_12 c_13 iz_14 k3σ_16 dhpσ_18 ehpσ_18 k3σ_18 k4σ_18 bhpσ_20 chpσ_20 dhpσ_20 k3σ_21 k4σ_21 if_22 k3σ_23 k4σ_23 smσ_23 onσ_23 kmσ_23 if_24 c_25 if_26 iz_27 mv9_σ_28 mv12_σ_28 mv14_σ_28 mv15_σ_28 mv16_σ_28; omega) | omega)]; exact k3σ_23.1, by rw [mcσ_28 3721 (by decide), if_neg (by first | (clear hs hz hk h4 k3σ k4σ if_1 j25σ_2 k3σ_2 beσ_2 if_3 c_4 dhpσ_6 ehpσ_6 k3σ_6 k4σ_6 bhpσ_8 chpσ_8 k3σ_9 k4σ_9 if_10 k3σ_11 if_12 c_13 iz_14 k3σ_16 dhpσ_18 ehpσ_18 k3σ_18 k4σ_18 bhpσ_20 chpσ_20 dhpσ_20 k3σ_21 k4σ_21 if_22 k3σ_23 k4σ_23 smσ_23 onσ_23 kmσ_23 if_24 c_25 if_26 iz_27 mv9_σ_28 mv12_σ_28 mv14_σ_28 mv15_σ_28 mv16_σ_28; omega) | omega)]; exact k3σ_23.2⟩
                  have k4σ_28 : 1 ≤ m_c X σ_28 a 3724 + 10 * (σ_28.1 a 12).toInt := (by have := mcσ_28 3724 (by decide); rw [if_neg (by first | (clear hs hz hk h4 k3σ k4σ if_1 j25σ_2 k3σ_2 beσ_2 if_3 c_4 dhpσ_6 ehpσ_6 k3σ_6 k4σ_6 bhpσ_8 chpσ_8 k3σ_9 k4σ_9 if_10 k3σ_11 if_12 c_13 iz_14 k3σ_16 dhpσ_18 ehpσ_18 k3σ_18 k4σ_18 bhpσ_20 chpσ_20 dhpσ_20 k3σ_21 k4σ_21 if_22 k3σ_23 k4σ_23 smσ_23 onσ_23 kmσ_23 if_24 c_25 if_26 iz_27 mv9_σ_28 mv12_σ_28 mv14_σ_28 mv15_σ_28 mv16_σ_28 k3σ_28; omega) | omega)] at this; omega)
                  have smσ_28 : 0 ≤ (σ_28.1 a 15).toInt ∧ (σ_28.1 a 15).toInt ≤ (σ_28.1 a 16).toInt ∧ (σ_28.1 a 16).toInt ≤ (σ_28.1 a 9).toInt ∧ (σ_28.1 a 9).toInt ≤ 900 ∧ 0 ≤ (σ_28.1 a 14).toInt ∧ (σ_28.1 a 14).toInt ≤ 4 ∧ (σ_28.1 a 14).toInt ≤ 4 * ((σ_28.1 a 16).toInt - (σ_28.1 a 15).toInt) ∧ (σ_28.1 a 14).toInt ≤ 4 * ((σ_28.1 a 9).toInt - (σ_28.1 a 15).toInt) ∧ 0 ≤ (σ_28.1 a 12).toInt ∧ (σ_28.1 a 9).toInt = (σ.1 a 9).toInt ∧ (σ.1 a 15).toInt ≤ (σ_28.1 a 15).toInt ∧ (σ.1 a 12).toInt ≤ (σ_28.1 a 12).toInt := (by first | (rw [mv12_σ_28, mv14_σ_28, mv15_σ_28, mv16_σ_28, mv9_σ_28]; exact smσ_23) | omega)
                  have onσ_28 : (σ.1 a 16).toInt ≤ (σ_28.1 a 15).toInt := (by first | (clear hs hz hk h4 k3σ k4σ if_1 j25σ_2 k3σ_2 if_3 c_4 dhpσ_6 ehpσ_6 k3σ_6 k4σ_6 bhpσ_8 chpσ_8 k3σ_9 k4σ_9 if_10 k3σ_11 if_12 c_13 iz_14 k3σ_16 dhpσ_18 ehpσ_18 k3σ_18 k4σ_18 bhpσ_20 chpσ_20 dhpσ_20 k3σ_21 k4σ_21 if_22 k3σ_23 k4σ_23 smσ_23 kmσ_23 if_24 c_25 if_26 iz_27 mv9_σ_28 mv12_σ_28 mv14_σ_28 mv16_σ_28 k3σ_28 k4σ_28 smσ_28; omega) | omega)
                  clear mv9_σ_28 mv12_σ_28 mv14_σ_28 mv15_σ_28 mv16_σ_28 k4σ_23 smσ_23 onσ_23
                  exact q_retv E hr hlk hI ⟨nnσ_28, kpσ_28, (by first | exact smσ_28 | omega), (by first | exact smσ_28 | omega), k3σ_28, k4σ_28, (hF.trans hout), fr_σ_28⟩ dX12_readPlayer_179
              refine q_if_ne (A := f_22.toInt) E rfl (tgt := 160) dX12_readPlayer_129 (by decide) (fun c_29 => ?_) (fun c_29 => ?_)
              · skip
                replace hF := q_ifn hF c_29
                exact J_160_23 σ_21 _ _ ls fr_σ_21 nnσ_21 kpσ_21 k3σ_21 k4σ_21 smσ_21 onσ_21 kmσ_21 hF hI (lv_sub hl [0, 1] rfl)
              · skip
                replace hF := q_ifp hF c_29
                refine lv_aload_n hx hb dX12_readPlayer_132 rfl (lv_at hl 0 rfl) ?_
                refine q_ci (q_rV11_0 (rest := []) E (hml.trans hl.1.symm) hI (c_X12_isDoubts l X σ_21 a ha) kv_X12_147 ha ⟨Nat.le_of_ble_eq_true rfl, Nat.le_of_ble_eq_true rfl⟩ (Nat.le_of_ble_eq_true rfl) dX12_readPlayer_133) hI (Nat.le_of_ble_eq_true rfl) (fun r_30 σ_31 H locs hpσ_31 hkσ_31 hI => ?_)
                have ahpσ_31 := hpσ_31.1
                have bhpσ_31 := hpσ_31.2.1
                have chpσ_31 := hpσ_31.2.2.1
                have dhpσ_31 := hpσ_31.2.2.2
                clear hpσ_31
                replace hI := q_Irw ahpσ_31 hI
                replace hF := q_letX hF dhpσ_31
                refine q_if_eq (A := r_30.toInt) E rfl (tgt := 160) dX12_readPlayer_136 (by decide) (fun c_32 => ?_) (fun c_32 => ?_)
                · skip
                  replace hF := q_ifp hF c_32
                  clear chpσ_31
                  exact J_160_23 σ_21 _ _ ls fr_σ_21 nnσ_21 kpσ_21 k3σ_21 k4σ_21 smσ_21 onσ_21 kmσ_21 hF hI (lv_sub hl [0, 1] rfl)
                · skip
                  replace hF := q_ifn hF c_32
                  replace c_32 := q_ifOne bhpσ_31 c_32
                  replace chpσ_31 := chpσ_31 c_32
                  refine lv_aload_n hx hb dX12_readPlayer_139 rfl (lv_at hl 0 rfl) ?_
                  refine q_cv (q_rV11_0 (rest := []) E (hml.trans hl.1.symm) hI (c_X12_next l X σ_21 a ha (by first | (clear hs hz hk h4 k3σ k4σ if_1 j25σ_2 k3σ_2 beσ_2 if_3 c_4 dhpσ_6 ehpσ_6 k3σ_6 k4σ_6 bhpσ_8 chpσ_8 k3σ_9 k4σ_9 if_10 k3σ_11 if_12 c_13 iz_14 k3σ_16 dhpσ_18 ehpσ_18 k3σ_18 k4σ_18 bhpσ_20 chpσ_20 dhpσ_20 k3σ_21 k4σ_21 if_22 c_29 ahpσ_31 bhpσ_31 dhpσ_31 c_32 chpσ_31; omega) | omega) (by first | (clear hs hz hk h4 k3σ k4σ if_1 j25σ_2 k3σ_2 beσ_2 if_3 c_4 dhpσ_6 ehpσ_6 k3σ_6 k4σ_6 bhpσ_8 chpσ_8 k3σ_9 k4σ_9 if_10 k3σ_11 if_12 c_13 iz_14 k3σ_16 dhpσ_18 ehpσ_18 k3σ_18 k4σ_18 bhpσ_20 chpσ_20 dhpσ_20 k3σ_21 k4σ_21 if_22 c_29 ahpσ_31 bhpσ_31 dhpσ_31 c_32 chpσ_31; omega) | omega) (by first | (clear hs hz hk h4 k3σ k4σ if_1 j25σ_2 k3σ_2 beσ_2 if_3 c_4 dhpσ_6 ehpσ_6 k3σ_6 k4σ_6 bhpσ_8 chpσ_8 k3σ_9 k4σ_9 if_10 k3σ_11 if_12 c_13 iz_14 k3σ_16 dhpσ_18 ehpσ_18 k3σ_18 k4σ_18 bhpσ_20 chpσ_20 dhpσ_20 k3σ_21 k4σ_21 if_22 c_29 ahpσ_31 bhpσ_31 dhpσ_31 c_32 chpσ_31; omega) | omega)) kv_X12_197 ha ⟨Nat.le_of_ble_eq_true rfl, Nat.le_of_ble_eq_true rfl⟩ (Nat.le_of_ble_eq_true rfl) dX12_readPlayer_140) hI (Nat.le_of_ble_eq_true rfl) (fun σ_34 H locs hpσ_34 hkσ_34 hI => ?_)
                  have ahpσ_34 := hpσ_34.1
                  have bhpσ_34 := hpσ_34.2.1
                  have chpσ_34 := hpσ_34.2.2.1
                  have dhpσ_34 := hpσ_34.2.2.2.1
                  have ehpσ_34 := hpσ_34.2.2.2.2
                  clear hpσ_34
                  have fr_σ_34 := fr_σ_21.call ehpσ_34 rfl rfl
                  replace hF := q_letX hF dhpσ_34
                  have mcσ_34 := m_cK hkσ_34 hI.1 ha (by decide)
                  have nnσ_34 : m_N (m_c X σ_34 a) := m_N.ext mcσ_34 nnσ_21
                  have kpσ_34 : ∀ j, 0 ≤ j → j < 3720 → m_c X σ_34 a j = m_c X σ a j := fun j h0 h1 => (mcσ_34 j).trans (kpσ_21 j h0 h1)
                  have k3σ_34 : m_c X σ_34 a 3720 = m_c X σ a 3720 ∧ m_c X σ_34 a 3721 = m_c X σ a 3721 := ⟨(mcσ_34 3720).trans k3σ_21.1, (mcσ_34 3721).trans k3σ_21.2⟩
                  have k4σ_34 : 1 ≤ m_c X σ_34 a 3724 + 10 * (σ_34.1 a 12).toInt := (by have := mcσ_34 3724; omega)
                  have smσ_34 : 0 ≤ (σ_34.1 a 15).toInt ∧ (σ_34.1 a 15).toInt ≤ (σ_34.1 a 16).toInt ∧ (σ_34.1 a 16).toInt ≤ (σ_34.1 a 9).toInt ∧ (σ_34.1 a 9).toInt ≤ 900 ∧ 0 ≤ (σ_34.1 a 14).toInt ∧ (σ_34.1 a 14).toInt ≤ 4 ∧ (σ_34.1 a 14).toInt ≤ 4 * ((σ_34.1 a 16).toInt - (σ_34.1 a 15).toInt) ∧ (σ_34.1 a 14).toInt ≤ 4 * ((σ_34.1 a 9).toInt - (σ_34.1 a 15).toInt) ∧ 0 ≤ (σ_34.1 a 12).toInt ∧ (σ_34.1 a 9).toInt = (σ.1 a 9).toInt ∧ (σ.1 a 15).toInt ≤ (σ_34.1 a 15).toInt ∧ (σ.1 a 12).toInt ≤ (σ_34.1 a 12).toInt := (by first | exact sm_nx smσ_21 bhpσ_34 chpσ_34 | omega)
                  have onσ_34 : (σ.1 a 16).toInt ≤ (σ_34.1 a 15).toInt := (by first | (clear hs hz hk h4 k3σ k4σ if_1 j25σ_2 k3σ_2 if_3 c_4 dhpσ_6 ehpσ_6 k3σ_6 k4σ_6 bhpσ_8 chpσ_8 k3σ_9 k4σ_9 if_10 k3σ_11 if_12 c_13 iz_14 k3σ_16 dhpσ_18 ehpσ_18 k3σ_18 k4σ_18 bhpσ_20 chpσ_20 dhpσ_20 k3σ_21 k4σ_21 if_22 c_29 ahpσ_31 bhpσ_31 dhpσ_31 c_32 ahpσ_34 bhpσ_34 dhpσ_34 ehpσ_34 k3σ_34 k4σ_34 smσ_34; omega) | omega)
                  have kmσ_34 : m_c X σ_34 a 3722 = m_c X σ a 3722 := (mcσ_34 3722).trans kmσ_21
                  clear k4σ_21 smσ_21 onσ_21 kmσ_21 bhpσ_34 chpσ_34
                  refine lv_aload_n hx hb dX12_readPlayer_143 rfl (lv_at hl 0 rfl) ?_
                  refine gs_X12_35_12 E hI ha dX12_readPlayer_144 ?_
                  refine lv_sipush (v := 3736) hx hb dX12_readPlayer_147 zks_3736 ?_
                  refine lv_iload_n hx hb dX12_readPlayer_150 rfl (lv_at hl 1 rfl) ?_
                  refine lv_iadd hx hb dX12_readPlayer_151 ?_
                  refine lv_topi (fun z_35 ez_35 => ?_)
                  replace hF := q_letX hF ez_35
                  have iz_35 := q_addI (A := 3736) (B := (m_c X σ a 3722)) ez_35 (by decide) if_1 (by first | (clear hs hz hk h4 k3σ k4σ j25σ_2 k3σ_2 beσ_2 if_3 c_4 dhpσ_6 ehpσ_6 k3σ_6 k4σ_6 bhpσ_8 chpσ_8 k3σ_9 k4σ_9 if_10 k3σ_11 if_12 c_13 k3σ_16 dhpσ_18 ehpσ_18 k3σ_18 k4σ_18 bhpσ_20 chpσ_20 dhpσ_20 k3σ_21 if_22 c_29 ahpσ_31 bhpσ_31 dhpσ_31 c_32 chpσ_31 ahpσ_34 dhpσ_34 ehpσ_34 k3σ_34 k4σ_34 smσ_34 onσ_34; omega) | omega) (by first | (clear hs hz hk h4 k3σ k4σ j25σ_2 k3σ_2 beσ_2 if_3 c_4 dhpσ_6 ehpσ_6 k3σ_6 k4σ_6 bhpσ_8 chpσ_8 k3σ_9 k4σ_9 if_10 k3σ_11 if_12 c_13 k3σ_16 dhpσ_18 ehpσ_18 k3σ_18 k4σ_18 bhpσ_20 chpσ_20 dhpσ_20 k3σ_21 if_22 c_29 ahpσ_31 bhpσ_31 dhpσ_31 c_32 chpσ_31 ahpσ_34 dhpσ_34 ehpσ_34 k3σ_34 k4σ_34 smσ_34 onσ_34; omega) | omega)
                  refine lv_aload_n hx hb dX12_readPlayer_152 rfl (lv_at hl 0 rfl) ?_
                  refine lv_iconst (v := 0) hx hb dX12_readPlayer_153 zki_0 ?_
                  refine lv_bipush (v := 16) hx hb dX12_readPlayer_154 zkb_16 ?_
                  have kc_36 : (0 : Int32).toInt = 0 := zt_0
                  have kc_37 : (16 : Int32).toInt = 16 := zt_16
                  refine q_ci (q_rV11_2 (rest := [.int z_35, .ref (q_rf X a 20)]) E (hml.trans hl.1.symm) hI (c_X12_count l X σ_34 a (0 : Int32) (16 : Int32) ha (by first | exact sm_9 smσ_34 | exact hs | omega) (by first | (clear hs hz hk h4 k3σ k4σ if_1 j25σ_2 k3σ_2 beσ_2 if_3 c_4 dhpσ_6 ehpσ_6 k3σ_6 k4σ_6 bhpσ_8 chpσ_8 k3σ_9 k4σ_9 if_10 k3σ_11 if_12 c_13 iz_14 k3σ_16 dhpσ_18 ehpσ_18 k3σ_18 k4σ_18 bhpσ_20 chpσ_20 dhpσ_20 k3σ_21 if_22 c_29 ahpσ_31 bhpσ_31 dhpσ_31 c_32 chpσ_31 ahpσ_34 dhpσ_34 ehpσ_34 k3σ_34 k4σ_34 smσ_34 onσ_34 kmσ_34 iz_35; omega) | omega)) kv_X12_223 ha ⟨Nat.le_of_ble_eq_true rfl, Nat.le_of_ble_eq_true rfl⟩ (Nat.le_of_ble_eq_true rfl) dX12_readPlayer_156) hI (Nat.le_of_ble_eq_true rfl) (fun r_38 σ_39 H locs hpσ_39 hkσ_39 hI => ?_)
                  have ahpσ_39 := hpσ_39.1
                  have bhpσ_39 := hpσ_39.2.1
                  have chpσ_39 := hpσ_39.2.2.1
                  have dhpσ_39 := hpσ_39.2.2.2.1
                  have ehpσ_39 := hpσ_39.2.2.2.2
                  clear hpσ_39
                  have fr_σ_39 := fr_σ_34.call ehpσ_39 rfl rfl
                  replace hF := q_biX hF dhpσ_39
                  have mcσ_39 := m_cK hkσ_39 hI.1 ha (by decide)
                  have nnσ_39 : m_N (m_c X σ_39 a) := m_N.ext mcσ_39 nnσ_34
                  have kpσ_39 : ∀ j, 0 ≤ j → j < 3720 → m_c X σ_39 a j = m_c X σ a j := fun j h0 h1 => (mcσ_39 j).trans (kpσ_34 j h0 h1)
                  have k3σ_39 : m_c X σ_39 a 3720 = m_c X σ a 3720 ∧ m_c X σ_39 a 3721 = m_c X σ a 3721 := ⟨(mcσ_39 3720).trans k3σ_34.1, (mcσ_39 3721).trans k3σ_34.2⟩
                  have k4σ_39 : 1 ≤ m_c X σ_39 a 3724 + 10 * (σ_39.1 a 12).toInt := (by have := mcσ_39 3724; omega)
                  have smσ_39 : 0 ≤ (σ_39.1 a 15).toInt ∧ (σ_39.1 a 15).toInt ≤ (σ_39.1 a 16).toInt ∧ (σ_39.1 a 16).toInt ≤ (σ_39.1 a 9).toInt ∧ (σ_39.1 a 9).toInt ≤ 900 ∧ 0 ≤ (σ_39.1 a 14).toInt ∧ (σ_39.1 a 14).toInt ≤ 4 ∧ (σ_39.1 a 14).toInt ≤ 4 * ((σ_39.1 a 16).toInt - (σ_39.1 a 15).toInt) ∧ (σ_39.1 a 14).toInt ≤ 4 * ((σ_39.1 a 9).toInt - (σ_39.1 a 15).toInt) ∧ 0 ≤ (σ_39.1 a 12).toInt ∧ (σ_39.1 a 9).toInt = (σ.1 a 9).toInt ∧ (σ.1 a 15).toInt ≤ (σ_39.1 a 15).toInt ∧ (σ.1 a 12).toInt ≤ (σ_39.1 a 12).toInt := (by first | exact sm_tr smσ_34 bhpσ_39 | exact sm_tr smσ_34 chpσ_39 | omega)
                  have onσ_39 : (σ.1 a 16).toInt ≤ (σ_39.1 a 15).toInt := (by first | (clear hs hz hk h4 k3σ k4σ if_1 j25σ_2 k3σ_2 if_3 c_4 dhpσ_6 ehpσ_6 k3σ_6 k4σ_6 bhpσ_8 chpσ_8 k3σ_9 k4σ_9 if_10 k3σ_11 if_12 c_13 iz_14 k3σ_16 dhpσ_18 ehpσ_18 k3σ_18 k4σ_18 bhpσ_20 chpσ_20 dhpσ_20 k3σ_21 if_22 c_29 ahpσ_31 bhpσ_31 dhpσ_31 c_32 chpσ_31 ahpσ_34 dhpσ_34 ehpσ_34 k3σ_34 k4σ_34 smσ_34 kmσ_34 iz_35 kc_36 kc_37 ahpσ_39 chpσ_39 dhpσ_39 ehpσ_39 k3σ_39 k4σ_39 smσ_39; omega) | omega)
                  have kmσ_39 : m_c X σ_39 a 3722 = m_c X σ a 3722 := (mcσ_39 3722).trans kmσ_34
                  clear k4σ_34 smσ_34 onσ_34 kmσ_34 bhpσ_39
                  refine q_iastN E hI (q_tk (k' := 34) hI ha rfl (Nat.succ_ne_zero _)) ⟨by decide, rfl⟩ (by first | (clear hs hz hk h4 k3σ k4σ j25σ_2 k3σ_2 beσ_2 if_3 c_4 dhpσ_6 ehpσ_6 k3σ_6 k4σ_6 bhpσ_8 chpσ_8 k3σ_9 k4σ_9 if_10 k3σ_11 if_12 c_13 k3σ_16 dhpσ_18 ehpσ_18 k3σ_18 k4σ_18 bhpσ_20 chpσ_20 dhpσ_20 k3σ_21 if_22 c_29 ahpσ_31 bhpσ_31 dhpσ_31 c_32 chpσ_31 ahpσ_34 dhpσ_34 ehpσ_34 k3σ_34 kc_36 kc_37 ahpσ_39 chpσ_39 dhpσ_39 ehpσ_39 k3σ_39 k4σ_39 smσ_39 onσ_39; omega) | omega) (by rw [q_lnk (v := 4650) hI (q_tk (k' := 34) hI ha rfl (Nat.succ_ne_zero _)) rfl (by decide)]; omega) (show 1 < 2 by decide) (q_inU rfl) dX12_readPlayer_159 (fun H locs σ_40 hσ_40 hI => ?_)
                  replace hF := q_letX hF hσ_40
                  have fr_σ_40 := fr_σ_39.si hσ_40 (q_tk (k' := 34) hI ha rfl (Nat.succ_ne_zero _)) rfl
                  have mv9_σ_40 : (σ_40.1 a 9).toInt = (σ_39.1 a 9).toInt := congrArg Int32.toInt (q_rdn hσ_40 (Or.inl (m_ne ha (q_tk (k' := 34) hI ha rfl (Nat.succ_ne_zero _)) (by decide))))
                  have mv12_σ_40 : (σ_40.1 a 12).toInt = (σ_39.1 a 12).toInt := congrArg Int32.toInt (q_rdn hσ_40 (Or.inl (m_ne ha (q_tk (k' := 34) hI ha rfl (Nat.succ_ne_zero _)) (by decide))))
                  have mv14_σ_40 : (σ_40.1 a 14).toInt = (σ_39.1 a 14).toInt := congrArg Int32.toInt (q_rdn hσ_40 (Or.inl (m_ne ha (q_tk (k' := 34) hI ha rfl (Nat.succ_ne_zero _)) (by decide))))
                  have mv15_σ_40 : (σ_40.1 a 15).toInt = (σ_39.1 a 15).toInt := congrArg Int32.toInt (q_rdn hσ_40 (Or.inl (m_ne ha (q_tk (k' := 34) hI ha rfl (Nat.succ_ne_zero _)) (by decide))))
                  have mv16_σ_40 : (σ_40.1 a 16).toInt = (σ_39.1 a 16).toInt := congrArg Int32.toInt (q_rdn hσ_40 (Or.inl (m_ne ha (q_tk (k' := 34) hI ha rfl (Nat.succ_ne_zero _)) (by decide))))
                  have mcσ_40 := m_wr (v := r_38) (A := (3736 + (m_c X σ a 3722))) hσ_40 iz_35 (by first | (clear hs hz hk h4 k3σ k4σ j25σ_2 k3σ_2 beσ_2 if_3 c_4 dhpσ_6 ehpσ_6 k3σ_6 k4σ_6 bhpσ_8 chpσ_8 k3σ_9 k4σ_9 if_10 k3σ_11 if_12 c_13 k3σ_16 dhpσ_18 ehpσ_18 k3σ_18 k4σ_18 bhpσ_20 chpσ_20 dhpσ_20 k3σ_21 if_22 c_29 ahpσ_31 bhpσ_31 dhpσ_31 c_32 chpσ_31 ahpσ_34 dhpσ_34 ehpσ_34 k3σ_34 kc_36 kc_37 ahpσ_39 chpσ_39 dhpσ_39 ehpσ_39 k3σ_39 k4σ_39 smσ_39 onσ_39 mv9_σ_40 mv12_σ_40 mv14_σ_40 mv15_σ_40 mv16_σ_40; omega) | omega)
                  have nnσ_40 : m_N (m_c X σ_40 a) := m_N.wr nnσ_39 mcσ_40 (by first | (clear hs hz hk h4 k3σ k4σ k3σ_2 beσ_2 dhpσ_6 ehpσ_6 k3σ_6 k4σ_6 bhpσ_8 chpσ_8 k3σ_9 k4σ_9 if_10 k3σ_11 if_12 c_13 k3σ_16 dhpσ_18 ehpσ_18 k3σ_18 k4σ_18 bhpσ_20 chpσ_20 dhpσ_20 k3σ_21 if_22 c_29 ahpσ_31 bhpσ_31 dhpσ_31 c_32 chpσ_31 ahpσ_34 dhpσ_34 ehpσ_34 k3σ_34 kc_36 kc_37 ahpσ_39 chpσ_39 dhpσ_39 ehpσ_39 k3σ_39 k4σ_39 smσ_39 onσ_39 mv9_σ_40 mv12_σ_40 mv14_σ_40 mv15_σ_40 mv16_σ_40; omega) | omega)
                  have kpσ_40 : ∀ j, 0 ≤ j → j < 3720 → m_c X σ_40 a j = m_c X σ a j := fun j h0 h1 => by rw [mcσ_40 j h0, if_neg (by first | (clear hs hz hk h4 k3σ k4σ j25σ_2 k3σ_2 beσ_2 if_3 c_4 dhpσ_6 ehpσ_6 k3σ_6 k4σ_6 bhpσ_8 chpσ_8 k3σ_9 k4σ_9 if_10 k3σ_11 if_12 c_13 k3σ_16 dhpσ_18 ehpσ_18 k3σ_18 k4σ_18 bhpσ_20 chpσ_20 dhpσ_20 k3σ_21 if_22 c_29 ahpσ_31 bhpσ_31 dhpσ_31 c_32 chpσ_31 ahpσ_34 dhpσ_34 ehpσ_34 k3σ_34 kc_36 kc_37 ahpσ_39 chpσ_39 dhpσ_39 ehpσ_39 k3σ_39 k4σ_39 smσ_39 onσ_39 mv9_σ_40 mv12_σ_40 mv14_σ_40 mv15_σ_40 mv16_σ_40; omega) | omega)]; exact kpσ_39 j h0 h1
                  have k3σ_40 : m_c X σ_40 a 3720 = m_c X σ a 3720 ∧ m_c X σ_40 a 3721 = m_c X σ a 3721 := ⟨by rw [mcσ_40 3720 (by decide), if_neg (by first | (clear hs hz hk h4 k3σ k4σ j25σ_2 k3σ_2 beσ_2 if_3 c_4 dhpσ_6 ehpσ_6 k3σ_6 k4σ_6 bhpσ_8 chpσ_8 k3σ_9 k4σ_9 if_10 k3σ_11 if_12 c_13 k3σ_16 dhpσ_18 ehpσ_18 k3σ_18 k4σ_18 bhpσ_20 chpσ_20 dhpσ_20 k3σ_21 if_22 c_29 ahpσ_31 bhpσ_31 dhpσ_31 c_32 chpσ_31 ahpσ_34 dhpσ_34 ehpσ_34 k3σ_34 kc_36 kc_37 ahpσ_39 chpσ_39 dhpσ_39 ehpσ_39 k3σ_39 k4σ_39 smσ_39 onσ_39 mv9_σ_40 mv12_σ_40 mv14_σ_40 mv15_σ_40 mv16_σ_40; omega) | omega)]; exact k3σ_39.1, by rw [mcσ_40 3721 (by decide), if_neg (by first | (clear hs hz hk h4 k3σ k4σ j25σ_2 k3σ_2 beσ_2 if_3 c_4 dhpσ_6 ehpσ_6 k3σ_6 k4σ_6 bhpσ_8 chpσ_8 k3σ_9 k4σ_9 if_10 k3σ_11 if_12 c_13 k3σ_16 dhpσ_18 ehpσ_18 k3σ_18 k4σ_18 bhpσ_20 chpσ_20 dhpσ_20 k3σ_21 if_22 c_29 ahpσ_31 bhpσ_31 dhpσ_31 c_32 chpσ_31 ahpσ_34 dhpσ_34 ehpσ_34 k3σ_34 kc_36 kc_37 ahpσ_39 chpσ_39 dhpσ_39 ehpσ_39 k3σ_39 k4σ_39 smσ_39 onσ_39 mv9_σ_40 mv12_σ_40 mv14_σ_40 mv15_σ_40 mv16_σ_40; omega) | omega)]; exact k3σ_39.2⟩
                  have k4σ_40 : 1 ≤ m_c X σ_40 a 3724 + 10 * (σ_40.1 a 12).toInt := (by have := mcσ_40 3724 (by decide); rw [if_neg (by first | (clear hs hz hk h4 k3σ k4σ j25σ_2 k3σ_2 beσ_2 if_3 c_4 dhpσ_6 ehpσ_6 k3σ_6 k4σ_6 bhpσ_8 chpσ_8 k3σ_9 k4σ_9 if_10 k3σ_11 if_12 c_13 k3σ_16 dhpσ_18 ehpσ_18 k3σ_18 k4σ_18 bhpσ_20 chpσ_20 dhpσ_20 k3σ_21 if_22 c_29 ahpσ_31 bhpσ_31 dhpσ_31 c_32 chpσ_31 ahpσ_34 dhpσ_34 ehpσ_34 k3σ_34 kc_36 kc_37 ahpσ_39 chpσ_39 dhpσ_39 ehpσ_39 k3σ_39 k4σ_39 smσ_39 onσ_39 mv9_σ_40 mv12_σ_40 mv14_σ_40 mv15_σ_40 mv16_σ_40 k3σ_40; omega) | omega)] at this; omega)
                  have smσ_40 : 0 ≤ (σ_40.1 a 15).toInt ∧ (σ_40.1 a 15).toInt ≤ (σ_40.1 a 16).toInt ∧ (σ_40.1 a 16).toInt ≤ (σ_40.1 a 9).toInt ∧ (σ_40.1 a 9).toInt ≤ 900 ∧ 0 ≤ (σ_40.1 a 14).toInt ∧ (σ_40.1 a 14).toInt ≤ 4 ∧ (σ_40.1 a 14).toInt ≤ 4 * ((σ_40.1 a 16).toInt - (σ_40.1 a 15).toInt) ∧ (σ_40.1 a 14).toInt ≤ 4 * ((σ_40.1 a 9).toInt - (σ_40.1 a 15).toInt) ∧ 0 ≤ (σ_40.1 a 12).toInt ∧ (σ_40.1 a 9).toInt = (σ.1 a 9).toInt ∧ (σ.1 a 15).toInt ≤ (σ_40.1 a 15).toInt ∧ (σ.1 a 12).toInt ≤ (σ_40.1 a 12).toInt := (by first | (rw [mv12_σ_40, mv14_σ_40, mv15_σ_40, mv16_σ_40, mv9_σ_40]; exact smσ_39) | omega)
                  have onσ_40 : (σ.1 a 16).toInt ≤ (σ_40.1 a 15).toInt := (by first | (clear hs hz hk h4 k3σ k4σ if_1 j25σ_2 k3σ_2 if_3 c_4 dhpσ_6 ehpσ_6 k3σ_6 k4σ_6 bhpσ_8 chpσ_8 k3σ_9 k4σ_9 if_10 k3σ_11 if_12 c_13 iz_14 k3σ_16 dhpσ_18 ehpσ_18 k3σ_18 k4σ_18 bhpσ_20 chpσ_20 dhpσ_20 k3σ_21 if_22 c_29 ahpσ_31 bhpσ_31 dhpσ_31 c_32 chpσ_31 ahpσ_34 dhpσ_34 ehpσ_34 k3σ_34 iz_35 kc_36 kc_37 ahpσ_39 chpσ_39 dhpσ_39 ehpσ_39 k3σ_39 k4σ_39 smσ_39 kmσ_39 mv9_σ_40 mv12_σ_40 mv14_σ_40 mv16_σ_40 k3σ_40 k4σ_40 smσ_40; omega) | omega)
                  have kmσ_40 : m_c X σ_40 a 3722 = m_c X σ a 3722 := (by rw [mcσ_40 3722 (by decide), if_neg (by first | (clear hs hz hk h4 k3σ k4σ j25σ_2 k3σ_2 beσ_2 if_3 c_4 dhpσ_6 ehpσ_6 k3σ_6 k4σ_6 bhpσ_8 chpσ_8 k3σ_9 k4σ_9 if_10 k3σ_11 if_12 c_13 k3σ_16 dhpσ_18 ehpσ_18 k3σ_18 k4σ_18 bhpσ_20 chpσ_20 dhpσ_20 k3σ_21 if_22 c_29 ahpσ_31 bhpσ_31 dhpσ_31 c_32 chpσ_31 ahpσ_34 dhpσ_34 ehpσ_34 k3σ_34 kc_36 kc_37 ahpσ_39 chpσ_39 dhpσ_39 ehpσ_39 k3σ_39 k4σ_39 smσ_39 onσ_39 mv9_σ_40 mv12_σ_40 mv14_σ_40 mv15_σ_40 mv16_σ_40 k3σ_40 k4σ_40 smσ_40 onσ_40; omega) | omega)]; exact kmσ_39)
                  clear mv9_σ_40 mv12_σ_40 mv14_σ_40 mv15_σ_40 mv16_σ_40 k4σ_39 smσ_39 onσ_39 kmσ_39
                  exact J_160_23 σ_40 _ _ ls fr_σ_40 nnσ_40 kpσ_40 k3σ_40 k4σ_40 smσ_40 onσ_40 kmσ_40 hF hI (lv_sub hl [0, 1] rfl)
            refine q_if_eq (A := r_19.toInt) E rfl (tgt := 125) dX12_readPlayer_101 (by decide) (fun c_41 => ?_) (fun c_41 => ?_)
            · skip
              replace hF := q_ifp hF c_41
              clear chpσ_20
              exact J_125_21 σ_18 _ _ ls fr_σ_18 nnσ_18 kpσ_18 k3σ_18 k4σ_18 smσ_18 onσ_18 kmσ_18 hF hI (lv_sub hl [0, 1] rfl)
            · skip
              replace hF := q_ifn hF c_41
              replace c_41 := q_ifOne bhpσ_20 c_41
              replace chpσ_20 := chpσ_20 c_41
              refine lv_aload_n hx hb dX12_readPlayer_104 rfl (lv_at hl 0 rfl) ?_
              refine q_cv (q_rV11_0 (rest := []) E (hml.trans hl.1.symm) hI (c_X12_next l X σ_18 a ha (by first | (clear hs hz hk h4 k3σ k4σ if_1 j25σ_2 k3σ_2 beσ_2 if_3 c_4 dhpσ_6 ehpσ_6 k3σ_6 k4σ_6 bhpσ_8 chpσ_8 k3σ_9 k4σ_9 if_10 k3σ_11 if_12 c_13 iz_14 k3σ_16 dhpσ_18 ehpσ_18 k3σ_18 k4σ_18 bhpσ_20 dhpσ_20 c_41 chpσ_20; omega) | omega) (by first | (clear hs hz hk h4 k3σ k4σ if_1 j25σ_2 k3σ_2 beσ_2 if_3 c_4 dhpσ_6 ehpσ_6 k3σ_6 k4σ_6 bhpσ_8 chpσ_8 k3σ_9 k4σ_9 if_10 k3σ_11 if_12 c_13 iz_14 k3σ_16 dhpσ_18 ehpσ_18 k3σ_18 k4σ_18 bhpσ_20 dhpσ_20 c_41 chpσ_20; omega) | omega) (by first | (clear hz hk h4 k3σ k4σ if_1 j25σ_2 k3σ_2 beσ_2 if_3 c_4 dhpσ_6 ehpσ_6 k3σ_6 k4σ_6 bhpσ_8 chpσ_8 k3σ_9 k4σ_9 if_10 k3σ_11 if_12 c_13 iz_14 k3σ_16 dhpσ_18 ehpσ_18 k3σ_18 k4σ_18 bhpσ_20 dhpσ_20 c_41 chpσ_20; omega) | omega)) kv_X12_197 ha ⟨Nat.le_of_ble_eq_true rfl, Nat.le_of_ble_eq_true rfl⟩ (Nat.le_of_ble_eq_true rfl) dX12_readPlayer_105) hI (Nat.le_of_ble_eq_true rfl) (fun σ_43 H locs hpσ_43 hkσ_43 hI => ?_)
              have ahpσ_43 := hpσ_43.1
              have bhpσ_43 := hpσ_43.2.1
              have chpσ_43 := hpσ_43.2.2.1
              have dhpσ_43 := hpσ_43.2.2.2.1
              have ehpσ_43 := hpσ_43.2.2.2.2
              clear hpσ_43
              have fr_σ_43 := fr_σ_18.call ehpσ_43 rfl rfl
              replace hF := q_letX hF dhpσ_43
              have mcσ_43 := m_cK hkσ_43 hI.1 ha (by decide)
              have nnσ_43 : m_N (m_c X σ_43 a) := m_N.ext mcσ_43 nnσ_18
              have kpσ_43 : ∀ j, 0 ≤ j → j < 3720 → m_c X σ_43 a j = m_c X σ a j := fun j h0 h1 => (mcσ_43 j).trans (kpσ_18 j h0 h1)
              have k3σ_43 : m_c X σ_43 a 3720 = m_c X σ a 3720 ∧ m_c X σ_43 a 3721 = m_c X σ a 3721 := ⟨(mcσ_43 3720).trans k3σ_18.1, (mcσ_43 3721).trans k3σ_18.2⟩
              have k4σ_43 : 1 ≤ m_c X σ_43 a 3724 + 10 * (σ_43.1 a 12).toInt := (by have := mcσ_43 3724; omega)
              have smσ_43 : 0 ≤ (σ_43.1 a 15).toInt ∧ (σ_43.1 a 15).toInt ≤ (σ_43.1 a 16).toInt ∧ (σ_43.1 a 16).toInt ≤ (σ_43.1 a 9).toInt ∧ (σ_43.1 a 9).toInt ≤ 900 ∧ 0 ≤ (σ_43.1 a 14).toInt ∧ (σ_43.1 a 14).toInt ≤ 4 ∧ (σ_43.1 a 14).toInt ≤ 4 * ((σ_43.1 a 16).toInt - (σ_43.1 a 15).toInt) ∧ (σ_43.1 a 14).toInt ≤ 4 * ((σ_43.1 a 9).toInt - (σ_43.1 a 15).toInt) ∧ 0 ≤ (σ_43.1 a 12).toInt ∧ (σ_43.1 a 9).toInt = (σ.1 a 9).toInt ∧ (σ.1 a 15).toInt ≤ (σ_43.1 a 15).toInt ∧ (σ.1 a 12).toInt ≤ (σ_43.1 a 12).toInt := (by first | exact sm_nx smσ_18 bhpσ_43 chpσ_43 | omega)
              have onσ_43 : (σ.1 a 16).toInt ≤ (σ_43.1 a 15).toInt := (by first | (clear hs hz hk h4 k3σ k4σ if_1 j25σ_2 k3σ_2 if_3 c_4 dhpσ_6 ehpσ_6 k3σ_6 k4σ_6 bhpσ_8 chpσ_8 k3σ_9 k4σ_9 if_10 k3σ_11 if_12 c_13 iz_14 k3σ_16 dhpσ_18 ehpσ_18 k3σ_18 k4σ_18 bhpσ_20 dhpσ_20 c_41 ahpσ_43 bhpσ_43 dhpσ_43 ehpσ_43 k3σ_43 k4σ_43 smσ_43; omega) | omega)
              have kmσ_43 : m_c X σ_43 a 3722 = m_c X σ a 3722 := (mcσ_43 3722).trans kmσ_18
              clear k4σ_18 smσ_18 onσ_18 kmσ_18 bhpσ_43 chpσ_43
              refine lv_aload_n hx hb dX12_readPlayer_108 rfl (lv_at hl 0 rfl) ?_
              refine gs_X12_35_12 E hI ha dX12_readPlayer_109 ?_
              refine lv_sipush (v := 3730) hx hb dX12_readPlayer_112 zks_3730 ?_
              refine lv_iload_n hx hb dX12_readPlayer_115 rfl (lv_at hl 1 rfl) ?_
              refine lv_iadd hx hb dX12_readPlayer_116 ?_
              refine lv_topi (fun z_44 ez_44 => ?_)
              replace hF := q_letX hF ez_44
              have iz_44 := q_addI (A := 3730) (B := (m_c X σ a 3722)) ez_44 (by decide) if_1 (by first | (clear hs hz hk h4 k3σ k4σ j25σ_2 k3σ_2 beσ_2 if_3 c_4 dhpσ_6 ehpσ_6 k3σ_6 k4σ_6 bhpσ_8 chpσ_8 k3σ_9 k4σ_9 if_10 k3σ_11 if_12 c_13 k3σ_16 dhpσ_18 ehpσ_18 k3σ_18 bhpσ_20 dhpσ_20 c_41 chpσ_20 ahpσ_43 dhpσ_43 ehpσ_43 k3σ_43 k4σ_43 smσ_43 onσ_43; omega) | omega) (by first | (clear hs hz hk h4 k3σ k4σ j25σ_2 k3σ_2 beσ_2 if_3 c_4 dhpσ_6 ehpσ_6 k3σ_6 k4σ_6 bhpσ_8 chpσ_8 k3σ_9 k4σ_9 if_10 k3σ_11 if_12 c_13 k3σ_16 dhpσ_18 ehpσ_18 k3σ_18 bhpσ_20 dhpσ_20 c_41 chpσ_20 ahpσ_43 dhpσ_43 ehpσ_43 k3σ_43 k4σ_43 smσ_43 onσ_43; omega) | omega)
              refine lv_aload_n hx hb dX12_readPlayer_117 rfl (lv_at hl 0 rfl) ?_
              refine lv_iconst (v := 0) hx hb dX12_readPlayer_118 zki_0 ?_
              refine lv_bipush (v := 16) hx hb dX12_readPlayer_119 zkb_16 ?_
              have kc_45 : (0 : Int32).toInt = 0 := zt_0
              have kc_46 : (16 : Int32).toInt = 16 := zt_16
              refine q_ci (q_rV11_2 (rest := [.int z_44, .ref (q_rf X a 20)]) E (hml.trans hl.1.symm) hI (c_X12_count l X σ_43 a (0 : Int32) (16 : Int32) ha (by first | exact sm_9 smσ_43 | exact hs | omega) (by first | (clear hs hz hk h4 k3σ k4σ if_1 j25σ_2 k3σ_2 beσ_2 if_3 c_4 dhpσ_6 ehpσ_6 k3σ_6 k4σ_6 bhpσ_8 chpσ_8 k3σ_9 k4σ_9 if_10 k3σ_11 if_12 c_13 iz_14 k3σ_16 dhpσ_18 ehpσ_18 k3σ_18 bhpσ_20 dhpσ_20 c_41 chpσ_20 ahpσ_43 dhpσ_43 ehpσ_43 k3σ_43 k4σ_43 smσ_43 onσ_43 kmσ_43 iz_44; omega) | omega)) kv_X12_223 ha ⟨Nat.le_of_ble_eq_true rfl, Nat.le_of_ble_eq_true rfl⟩ (Nat.le_of_ble_eq_true rfl) dX12_readPlayer_121) hI (Nat.le_of_ble_eq_true rfl) (fun r_47 σ_48 H locs hpσ_48 hkσ_48 hI => ?_)
              have ahpσ_48 := hpσ_48.1
              have bhpσ_48 := hpσ_48.2.1
              have chpσ_48 := hpσ_48.2.2.1
              have dhpσ_48 := hpσ_48.2.2.2.1
              have ehpσ_48 := hpσ_48.2.2.2.2
              clear hpσ_48
              have fr_σ_48 := fr_σ_43.call ehpσ_48 rfl rfl
              replace hF := q_biX hF dhpσ_48
              have mcσ_48 := m_cK hkσ_48 hI.1 ha (by decide)
              have nnσ_48 : m_N (m_c X σ_48 a) := m_N.ext mcσ_48 nnσ_43
              have kpσ_48 : ∀ j, 0 ≤ j → j < 3720 → m_c X σ_48 a j = m_c X σ a j := fun j h0 h1 => (mcσ_48 j).trans (kpσ_43 j h0 h1)
              have k3σ_48 : m_c X σ_48 a 3720 = m_c X σ a 3720 ∧ m_c X σ_48 a 3721 = m_c X σ a 3721 := ⟨(mcσ_48 3720).trans k3σ_43.1, (mcσ_48 3721).trans k3σ_43.2⟩
              have k4σ_48 : 1 ≤ m_c X σ_48 a 3724 + 10 * (σ_48.1 a 12).toInt := (by have := mcσ_48 3724; omega)
              have smσ_48 : 0 ≤ (σ_48.1 a 15).toInt ∧ (σ_48.1 a 15).toInt ≤ (σ_48.1 a 16).toInt ∧ (σ_48.1 a 16).toInt ≤ (σ_48.1 a 9).toInt ∧ (σ_48.1 a 9).toInt ≤ 900 ∧ 0 ≤ (σ_48.1 a 14).toInt ∧ (σ_48.1 a 14).toInt ≤ 4 ∧ (σ_48.1 a 14).toInt ≤ 4 * ((σ_48.1 a 16).toInt - (σ_48.1 a 15).toInt) ∧ (σ_48.1 a 14).toInt ≤ 4 * ((σ_48.1 a 9).toInt - (σ_48.1 a 15).toInt) ∧ 0 ≤ (σ_48.1 a 12).toInt ∧ (σ_48.1 a 9).toInt = (σ.1 a 9).toInt ∧ (σ.1 a 15).toInt ≤ (σ_48.1 a 15).toInt ∧ (σ.1 a 12).toInt ≤ (σ_48.1 a 12).toInt := (by first | exact sm_tr smσ_43 bhpσ_48 | exact sm_tr smσ_43 chpσ_48 | omega)
              have onσ_48 : (σ.1 a 16).toInt ≤ (σ_48.1 a 15).toInt := (by first | (clear hs hz hk h4 k3σ k4σ if_1 j25σ_2 k3σ_2 if_3 c_4 dhpσ_6 ehpσ_6 k3σ_6 k4σ_6 bhpσ_8 chpσ_8 k3σ_9 k4σ_9 if_10 k3σ_11 if_12 c_13 iz_14 k3σ_16 dhpσ_18 ehpσ_18 k3σ_18 bhpσ_20 dhpσ_20 c_41 chpσ_20 ahpσ_43 dhpσ_43 ehpσ_43 k3σ_43 k4σ_43 smσ_43 kmσ_43 iz_44 kc_45 kc_46 ahpσ_48 chpσ_48 dhpσ_48 ehpσ_48 k3σ_48 k4σ_48 smσ_48; omega) | omega)
              have kmσ_48 : m_c X σ_48 a 3722 = m_c X σ a 3722 := (mcσ_48 3722).trans kmσ_43
              clear k4σ_43 smσ_43 onσ_43 kmσ_43 bhpσ_48
              refine q_iastN E hI (q_tk (k' := 34) hI ha rfl (Nat.succ_ne_zero _)) ⟨by decide, rfl⟩ (by first | (clear hs hz hk h4 k3σ k4σ j25σ_2 k3σ_2 beσ_2 if_3 c_4 dhpσ_6 ehpσ_6 k3σ_6 k4σ_6 bhpσ_8 chpσ_8 k3σ_9 k4σ_9 if_10 k3σ_11 if_12 c_13 k3σ_16 dhpσ_18 ehpσ_18 k3σ_18 bhpσ_20 dhpσ_20 c_41 chpσ_20 ahpσ_43 dhpσ_43 ehpσ_43 k3σ_43 kc_45 kc_46 ahpσ_48 chpσ_48 dhpσ_48 ehpσ_48 k3σ_48 k4σ_48 smσ_48 onσ_48; omega) | omega) (by rw [q_lnk (v := 4650) hI (q_tk (k' := 34) hI ha rfl (Nat.succ_ne_zero _)) rfl (by decide)]; omega) (show 1 < 2 by decide) (q_inU rfl) dX12_readPlayer_124 (fun H locs σ_49 hσ_49 hI => ?_)
              replace hF := q_letX hF hσ_49
              have fr_σ_49 := fr_σ_48.si hσ_49 (q_tk (k' := 34) hI ha rfl (Nat.succ_ne_zero _)) rfl
              have mv9_σ_49 : (σ_49.1 a 9).toInt = (σ_48.1 a 9).toInt := congrArg Int32.toInt (q_rdn hσ_49 (Or.inl (m_ne ha (q_tk (k' := 34) hI ha rfl (Nat.succ_ne_zero _)) (by decide))))
              have mv12_σ_49 : (σ_49.1 a 12).toInt = (σ_48.1 a 12).toInt := congrArg Int32.toInt (q_rdn hσ_49 (Or.inl (m_ne ha (q_tk (k' := 34) hI ha rfl (Nat.succ_ne_zero _)) (by decide))))
              have mv14_σ_49 : (σ_49.1 a 14).toInt = (σ_48.1 a 14).toInt := congrArg Int32.toInt (q_rdn hσ_49 (Or.inl (m_ne ha (q_tk (k' := 34) hI ha rfl (Nat.succ_ne_zero _)) (by decide))))
              have mv15_σ_49 : (σ_49.1 a 15).toInt = (σ_48.1 a 15).toInt := congrArg Int32.toInt (q_rdn hσ_49 (Or.inl (m_ne ha (q_tk (k' := 34) hI ha rfl (Nat.succ_ne_zero _)) (by decide))))
              have mv16_σ_49 : (σ_49.1 a 16).toInt = (σ_48.1 a 16).toInt := congrArg Int32.toInt (q_rdn hσ_49 (Or.inl (m_ne ha (q_tk (k' := 34) hI ha rfl (Nat.succ_ne_zero _)) (by decide))))
              have mcσ_49 := m_wr (v := r_47) (A := (3730 + (m_c X σ a 3722))) hσ_49 iz_44 (by first | (clear hs hz hk h4 k3σ k4σ j25σ_2 k3σ_2 beσ_2 if_3 c_4 dhpσ_6 ehpσ_6 k3σ_6 k4σ_6 bhpσ_8 chpσ_8 k3σ_9 k4σ_9 if_10 k3σ_11 if_12 c_13 k3σ_16 dhpσ_18 ehpσ_18 k3σ_18 bhpσ_20 dhpσ_20 c_41 chpσ_20 ahpσ_43 dhpσ_43 ehpσ_43 k3σ_43 kc_45 kc_46 ahpσ_48 chpσ_48 dhpσ_48 ehpσ_48 k3σ_48 k4σ_48 smσ_48 onσ_48 mv9_σ_49 mv12_σ_49 mv14_σ_49 mv15_σ_49 mv16_σ_49; omega) | omega)
              have nnσ_49 : m_N (m_c X σ_49 a) := m_N.wr nnσ_48 mcσ_49 (by first | (clear hs hz hk h4 k3σ k4σ j25σ_2 k3σ_2 beσ_2 if_3 c_4 dhpσ_6 ehpσ_6 k3σ_6 k4σ_6 bhpσ_8 chpσ_8 k3σ_9 k4σ_9 if_10 k3σ_11 if_12 c_13 k3σ_16 dhpσ_18 ehpσ_18 k3σ_18 bhpσ_20 dhpσ_20 c_41 chpσ_20 ahpσ_43 dhpσ_43 ehpσ_43 k3σ_43 kc_45 kc_46 ahpσ_48 chpσ_48 dhpσ_48 ehpσ_48 k3σ_48 k4σ_48 smσ_48 onσ_48 mv9_σ_49 mv12_σ_49 mv14_σ_49 mv15_σ_49 mv16_σ_49; omega) | omega)
              have kpσ_49 : ∀ j, 0 ≤ j → j < 3720 → m_c X σ_49 a j = m_c X σ a j := fun j h0 h1 => by rw [mcσ_49 j h0, if_neg (by first | (clear hs hz hk h4 k3σ k4σ j25σ_2 k3σ_2 beσ_2 if_3 c_4 dhpσ_6 ehpσ_6 k3σ_6 k4σ_6 bhpσ_8 chpσ_8 k3σ_9 k4σ_9 if_10 k3σ_11 if_12 c_13 k3σ_16 dhpσ_18 ehpσ_18 k3σ_18 bhpσ_20 dhpσ_20 c_41 chpσ_20 ahpσ_43 dhpσ_43 ehpσ_43 k3σ_43 kc_45 kc_46 ahpσ_48 chpσ_48 dhpσ_48 ehpσ_48 k3σ_48 k4σ_48 smσ_48 onσ_48 mv9_σ_49 mv12_σ_49 mv14_σ_49 mv15_σ_49 mv16_σ_49; omega) | omega)]; exact kpσ_48 j h0 h1
              have k3σ_49 : m_c X σ_49 a 3720 = m_c X σ a 3720 ∧ m_c X σ_49 a 3721 = m_c X σ a 3721 := ⟨by rw [mcσ_49 3720 (by decide), if_neg (by first | (clear hs hz hk h4 k3σ k4σ j25σ_2 k3σ_2 beσ_2 if_3 c_4 dhpσ_6 ehpσ_6 k3σ_6 k4σ_6 bhpσ_8 chpσ_8 k3σ_9 k4σ_9 if_10 k3σ_11 if_12 c_13 k3σ_16 dhpσ_18 ehpσ_18 k3σ_18 bhpσ_20 dhpσ_20 c_41 chpσ_20 ahpσ_43 dhpσ_43 ehpσ_43 k3σ_43 kc_45 kc_46 ahpσ_48 chpσ_48 dhpσ_48 ehpσ_48 k3σ_48 k4σ_48 smσ_48 onσ_48 mv9_σ_49 mv12_σ_49 mv14_σ_49 mv15_σ_49 mv16_σ_49; omega) | omega)]; exact k3σ_48.1, by rw [mcσ_49 3721 (by decide), if_neg (by first | (clear hs hz hk h4 k3σ k4σ j25σ_2 k3σ_2 beσ_2 if_3 c_4 dhpσ_6 ehpσ_6 k3σ_6 k4σ_6 bhpσ_8 chpσ_8 k3σ_9 k4σ_9 if_10 k3σ_11 if_12 c_13 k3σ_16 dhpσ_18 ehpσ_18 k3σ_18 bhpσ_20 dhpσ_20 c_41 chpσ_20 ahpσ_43 dhpσ_43 ehpσ_43 k3σ_43 kc_45 kc_46 ahpσ_48 chpσ_48 dhpσ_48 ehpσ_48 k3σ_48 k4σ_48 smσ_48 onσ_48 mv9_σ_49 mv12_σ_49 mv14_σ_49 mv15_σ_49 mv16_σ_49; omega) | omega)]; exact k3σ_48.2⟩
              have k4σ_49 : 1 ≤ m_c X σ_49 a 3724 + 10 * (σ_49.1 a 12).toInt := (by have := mcσ_49 3724 (by decide); rw [if_neg (by first | (clear hs hz hk h4 k3σ k4σ j25σ_2 k3σ_2 beσ_2 if_3 c_4 dhpσ_6 ehpσ_6 k3σ_6 k4σ_6 bhpσ_8 chpσ_8 k3σ_9 k4σ_9 if_10 k3σ_11 if_12 c_13 k3σ_16 dhpσ_18 ehpσ_18 k3σ_18 bhpσ_20 dhpσ_20 c_41 chpσ_20 ahpσ_43 dhpσ_43 ehpσ_43 k3σ_43 kc_45 kc_46 ahpσ_48 chpσ_48 dhpσ_48 ehpσ_48 k3σ_48 k4σ_48 smσ_48 onσ_48 mv9_σ_49 mv12_σ_49 mv14_σ_49 mv15_σ_49 mv16_σ_49 k3σ_49; omega) | omega)] at this; omega)
              have smσ_49 : 0 ≤ (σ_49.1 a 15).toInt ∧ (σ_49.1 a 15).toInt ≤ (σ_49.1 a 16).toInt ∧ (σ_49.1 a 16).toInt ≤ (σ_49.1 a 9).toInt ∧ (σ_49.1 a 9).toInt ≤ 900 ∧ 0 ≤ (σ_49.1 a 14).toInt ∧ (σ_49.1 a 14).toInt ≤ 4 ∧ (σ_49.1 a 14).toInt ≤ 4 * ((σ_49.1 a 16).toInt - (σ_49.1 a 15).toInt) ∧ (σ_49.1 a 14).toInt ≤ 4 * ((σ_49.1 a 9).toInt - (σ_49.1 a 15).toInt) ∧ 0 ≤ (σ_49.1 a 12).toInt ∧ (σ_49.1 a 9).toInt = (σ.1 a 9).toInt ∧ (σ.1 a 15).toInt ≤ (σ_49.1 a 15).toInt ∧ (σ.1 a 12).toInt ≤ (σ_49.1 a 12).toInt := (by first | (rw [mv12_σ_49, mv14_σ_49, mv15_σ_49, mv16_σ_49, mv9_σ_49]; exact smσ_48) | omega)
              have onσ_49 : (σ.1 a 16).toInt ≤ (σ_49.1 a 15).toInt := (by first | (clear hs hz hk h4 k3σ k4σ if_1 j25σ_2 k3σ_2 if_3 c_4 dhpσ_6 ehpσ_6 k3σ_6 k4σ_6 bhpσ_8 chpσ_8 k3σ_9 k4σ_9 if_10 k3σ_11 if_12 c_13 iz_14 k3σ_16 dhpσ_18 ehpσ_18 k3σ_18 bhpσ_20 dhpσ_20 c_41 chpσ_20 ahpσ_43 dhpσ_43 ehpσ_43 k3σ_43 iz_44 kc_45 kc_46 ahpσ_48 chpσ_48 dhpσ_48 ehpσ_48 k3σ_48 k4σ_48 smσ_48 kmσ_48 mv9_σ_49 mv12_σ_49 mv14_σ_49 mv16_σ_49 k3σ_49 k4σ_49 smσ_49; omega) | omega)
              have kmσ_49 : m_c X σ_49 a 3722 = m_c X σ a 3722 := (by rw [mcσ_49 3722 (by decide), if_neg (by first | (clear hs hz hk h4 k3σ k4σ j25σ_2 k3σ_2 beσ_2 if_3 c_4 dhpσ_6 ehpσ_6 k3σ_6 k4σ_6 bhpσ_8 chpσ_8 k3σ_9 k4σ_9 if_10 k3σ_11 if_12 c_13 k3σ_16 dhpσ_18 ehpσ_18 k3σ_18 bhpσ_20 dhpσ_20 c_41 chpσ_20 ahpσ_43 dhpσ_43 ehpσ_43 k3σ_43 kc_45 kc_46 ahpσ_48 chpσ_48 dhpσ_48 ehpσ_48 k3σ_48 k4σ_48 smσ_48 onσ_48 mv9_σ_49 mv12_σ_49 mv14_σ_49 mv15_σ_49 mv16_σ_49 k3σ_49 k4σ_49 smσ_49 onσ_49; omega) | omega)]; exact kmσ_48)
              clear mv9_σ_49 mv12_σ_49 mv14_σ_49 mv15_σ_49 mv16_σ_49 k4σ_48 smσ_48 onσ_48 kmσ_48
              exact J_125_21 σ_49 _ _ ls fr_σ_49 nnσ_49 kpσ_49 k3σ_49 k4σ_49 smσ_49 onσ_49 kmσ_49 hF hI (lv_sub hl [0, 1] rfl)
          · skip
            replace hF := q_ifp hF c_13
            exact q_retv E hr hlk hI ⟨nnσ_11, kpσ_11, (by first | exact smσ_11 | omega), (by first | exact smσ_11 | omega), k3σ_11, k4σ_11, (hF.trans hout), fr_σ_11⟩ dX12_readPlayer_79
        refine q_if_ne (A := f_10.toInt) E rfl (tgt := 72) dX12_readPlayer_52 (by decide) (fun c_50 => ?_) (fun c_50 => ?_)
        · skip
          replace hF := q_ifn hF c_50
          exact J_72_11 σ_9 _ _ ls fr_σ_9 nnσ_9 kpσ_9 k3σ_9 k4σ_9 smσ_9 onσ_9 kmσ_9 hF hI (lv_sub hl [0, 1] rfl)
        · skip
          replace hF := q_ifp hF c_50
          refine lv_aload_n hx hb dX12_readPlayer_55 rfl (lv_at hl 0 rfl) ?_
          refine lv_iconst (v := 4) hx hb dX12_readPlayer_56 zki_4 ?_
          have kc_51 : (4 : Int32).toInt = 4 := zt_4
          refine q_ci (q_rV11_1 (rest := []) E (hml.trans hl.1.symm) hI (c_X12_named l X σ_9 a (4 : Int32) ha (Or.inr rfl) (by show m_c X σ_9 a 3722 ≤ 6; have := nnσ_9.2.2.1; omega)) kv_X12_213 ha ⟨Nat.le_of_ble_eq_true rfl, Nat.le_of_ble_eq_true rfl⟩ (Nat.le_of_ble_eq_true rfl) dX12_readPlayer_57) hI (Nat.le_of_ble_eq_true rfl) (fun r_52 σ_53 H locs hpσ_53 hkσ_53 hI => ?_)
          have ahpσ_53 := hpσ_53.1
          have bhpσ_53 := hpσ_53.2.1
          have chpσ_53 := hpσ_53.2.2
          clear hpσ_53
          replace hI := q_Irw ahpσ_53 hI
          replace hF := q_letX hF chpσ_53
          refine q_if_lt (A := r_52.toInt) E rfl (tgt := 72) dX12_readPlayer_60 (by decide) (fun c_54 => ?_) (fun c_54 => ?_)
          · skip
            replace hF := q_ifp hF c_54
            exact J_72_11 σ_9 _ _ ls fr_σ_9 nnσ_9 kpσ_9 k3σ_9 k4σ_9 smσ_9 onσ_9 kmσ_9 hF hI (lv_sub hl [0, 1] rfl)
          · skip
            replace hF := q_ifn hF (Int.not_lt.mpr c_54)
            refine lv_aload_n hx hb dX12_readPlayer_63 rfl (lv_at hl 0 rfl) ?_
            refine lv_iconst (v := 3) hx hb dX12_readPlayer_64 zki_3 ?_
            refine lv_aload_n hx hb dX12_readPlayer_65 rfl (lv_at hl 0 rfl) ?_
            refine gs_X12_104_12 E hI ha dX12_readPlayer_66 ?_
            refine lv_topi (fun f_55 ef_55 => ?_)
            replace hF := q_letX hF ef_55
            have if_55 : f_55.toInt = (σ_9.1 a 15).toInt := congrArg Int32.toInt ef_55
            have kc_56 : (3 : Int32).toInt = 3 := zt_3
            refine q_cv (q_rV11_2 (rest := []) E (hml.trans hl.1.symm) hI (c_X12_fail l X σ_9 a (3 : Int32) f_55 ha (by first | (clear hs hz hk h4 k3σ k4σ if_1 j25σ_2 k3σ_2 beσ_2 if_3 c_4 dhpσ_6 ehpσ_6 k3σ_6 k4σ_6 bhpσ_8 chpσ_8 k3σ_9 k4σ_9 kc_51 ahpσ_53 bhpσ_53 chpσ_53 c_54 if_55 kc_56; omega) | omega) (by first | (clear hs hz hk h4 k3σ k4σ if_1 j25σ_2 k3σ_2 beσ_2 if_3 c_4 dhpσ_6 ehpσ_6 k3σ_6 k4σ_6 bhpσ_8 chpσ_8 k3σ_9 k4σ_9 if_10 c_50 kc_51 ahpσ_53 bhpσ_53 chpσ_53 c_54 if_55; omega) | omega)) kv_X12_193 ha ⟨Nat.le_of_ble_eq_true rfl, Nat.le_of_ble_eq_true rfl⟩ (Nat.le_of_ble_eq_true rfl) dX12_readPlayer_69) hI (Nat.le_of_ble_eq_true rfl) (fun σ_58 H locs hpσ_58 hkσ_58 hI => ?_)
            have ahpσ_58 := hpσ_58.1
            have bhpσ_58 := hpσ_58.2.1
            have chpσ_58 := hpσ_58.2.2.1
            have dhpσ_58 := hpσ_58.2.2.2.1
            have ehpσ_58 := hpσ_58.2.2.2.2
            clear hpσ_58
            have fr_σ_58 := fr_σ_9.call ehpσ_58 rfl rfl
            replace hF := q_letX hF dhpσ_58
            have mcσ_58 := m_cK hkσ_58 hI.1 ha (by decide)
            have nnσ_58 : m_N (m_c X σ_58 a) := m_N.ext mcσ_58 nnσ_9
            have kpσ_58 : ∀ j, 0 ≤ j → j < 3720 → m_c X σ_58 a j = m_c X σ a j := fun j h0 h1 => (mcσ_58 j).trans (kpσ_9 j h0 h1)
            have k3σ_58 : m_c X σ_58 a 3720 = m_c X σ a 3720 ∧ m_c X σ_58 a 3721 = m_c X σ a 3721 := ⟨(mcσ_58 3720).trans k3σ_9.1, (mcσ_58 3721).trans k3σ_9.2⟩
            have k4σ_58 : 1 ≤ m_c X σ_58 a 3724 + 10 * (σ_58.1 a 12).toInt := (by have := mcσ_58 3724; omega)
            have smσ_58 : 0 ≤ (σ_58.1 a 15).toInt ∧ (σ_58.1 a 15).toInt ≤ (σ_58.1 a 16).toInt ∧ (σ_58.1 a 16).toInt ≤ (σ_58.1 a 9).toInt ∧ (σ_58.1 a 9).toInt ≤ 900 ∧ 0 ≤ (σ_58.1 a 14).toInt ∧ (σ_58.1 a 14).toInt ≤ 4 ∧ (σ_58.1 a 14).toInt ≤ 4 * ((σ_58.1 a 16).toInt - (σ_58.1 a 15).toInt) ∧ (σ_58.1 a 14).toInt ≤ 4 * ((σ_58.1 a 9).toInt - (σ_58.1 a 15).toInt) ∧ 0 ≤ (σ_58.1 a 12).toInt ∧ (σ_58.1 a 9).toInt = (σ.1 a 9).toInt ∧ (σ.1 a 15).toInt ≤ (σ_58.1 a 15).toInt ∧ (σ.1 a 12).toInt ≤ (σ_58.1 a 12).toInt := (by first | exact sm_fl smσ_9 bhpσ_58 chpσ_58 | omega)
            have onσ_58 : (σ.1 a 16).toInt ≤ (σ_58.1 a 15).toInt := (by first | (clear hs hz hk h4 k3σ k4σ if_1 j25σ_2 k3σ_2 if_3 c_4 dhpσ_6 ehpσ_6 k3σ_6 k4σ_6 bhpσ_8 chpσ_8 k3σ_9 k4σ_9 if_10 c_50 kc_51 ahpσ_53 bhpσ_53 chpσ_53 c_54 kc_56 ahpσ_58 chpσ_58 dhpσ_58 ehpσ_58 k3σ_58 k4σ_58 smσ_58; omega) | omega)
            have kmσ_58 : m_c X σ_58 a 3722 = m_c X σ a 3722 := (mcσ_58 3722).trans kmσ_9
            clear k4σ_9 smσ_9 onσ_9 kmσ_9 bhpσ_58
            exact J_72_11 σ_58 _ _ ls fr_σ_58 nnσ_58 kpσ_58 k3σ_58 k4σ_58 smσ_58 onσ_58 kmσ_58 hF hI (lv_sub hl [0, 1] rfl)
      refine q_if_ne (A := r_7.toInt) E rfl (tgt := 48) dX12_readPlayer_41 (by decide) (fun c_59 => ?_) (fun c_59 => ?_)
      · skip
        replace hF := q_ifn hF c_59
        replace c_59 := q_ifOne bhpσ_8 c_59
        exact J_48_9 σ_6 _ _ ls fr_σ_6 nnσ_6 kpσ_6 k3σ_6 k4σ_6 smσ_6 onσ_6 kmσ_6 hF hI (lv_sub hl [0, 1] rfl)
      · skip
        replace hF := q_ifp hF c_59
        refine lv_aload_n hx hb dX12_readPlayer_44 rfl (lv_at hl 0 rfl) ?_
        refine q_cv (q_rV11_0 (rest := []) E (hml.trans hl.1.symm) hI (c_X12_wrong l X σ_6 a ha (by first | (clear hs hz hk h4 k3σ k4σ if_1 j25σ_2 k3σ_2 beσ_2 if_3 c_4 dhpσ_6 ehpσ_6 k3σ_6 k4σ_6 bhpσ_8 chpσ_8 c_59; omega) | omega)) kv_X12_200 ha ⟨Nat.le_of_ble_eq_true rfl, Nat.le_of_ble_eq_true rfl⟩ (Nat.le_of_ble_eq_true rfl) dX12_readPlayer_45) hI (Nat.le_of_ble_eq_true rfl) (fun σ_61 H locs hpσ_61 hkσ_61 hI => ?_)
        have ahpσ_61 := hpσ_61.1
        have bhpσ_61 := hpσ_61.2.1
        have chpσ_61 := hpσ_61.2.2.1
        have dhpσ_61 := hpσ_61.2.2.2.1
        have ehpσ_61 := hpσ_61.2.2.2.2
        clear hpσ_61
        have fr_σ_61 := fr_σ_6.call ehpσ_61 rfl rfl
        replace hF := q_letX hF dhpσ_61
        have mcσ_61 := m_cK hkσ_61 hI.1 ha (by decide)
        have nnσ_61 : m_N (m_c X σ_61 a) := m_N.ext mcσ_61 nnσ_6
        have kpσ_61 : ∀ j, 0 ≤ j → j < 3720 → m_c X σ_61 a j = m_c X σ a j := fun j h0 h1 => (mcσ_61 j).trans (kpσ_6 j h0 h1)
        have k3σ_61 : m_c X σ_61 a 3720 = m_c X σ a 3720 ∧ m_c X σ_61 a 3721 = m_c X σ a 3721 := ⟨(mcσ_61 3720).trans k3σ_6.1, (mcσ_61 3721).trans k3σ_6.2⟩
        have k4σ_61 : 1 ≤ m_c X σ_61 a 3724 + 10 * (σ_61.1 a 12).toInt := (by have := mcσ_61 3724; omega)
        have smσ_61 : 0 ≤ (σ_61.1 a 15).toInt ∧ (σ_61.1 a 15).toInt ≤ (σ_61.1 a 16).toInt ∧ (σ_61.1 a 16).toInt ≤ (σ_61.1 a 9).toInt ∧ (σ_61.1 a 9).toInt ≤ 900 ∧ 0 ≤ (σ_61.1 a 14).toInt ∧ (σ_61.1 a 14).toInt ≤ 4 ∧ (σ_61.1 a 14).toInt ≤ 4 * ((σ_61.1 a 16).toInt - (σ_61.1 a 15).toInt) ∧ (σ_61.1 a 14).toInt ≤ 4 * ((σ_61.1 a 9).toInt - (σ_61.1 a 15).toInt) ∧ 0 ≤ (σ_61.1 a 12).toInt ∧ (σ_61.1 a 9).toInt = (σ.1 a 9).toInt ∧ (σ.1 a 15).toInt ≤ (σ_61.1 a 15).toInt ∧ (σ.1 a 12).toInt ≤ (σ_61.1 a 12).toInt := (by first | exact sm_fl smσ_6 bhpσ_61 chpσ_61 | omega)
        have onσ_61 : (σ.1 a 16).toInt ≤ (σ_61.1 a 15).toInt := (by first | (clear hs hz hk h4 k3σ k4σ if_1 j25σ_2 k3σ_2 if_3 c_4 dhpσ_6 ehpσ_6 k3σ_6 k4σ_6 bhpσ_8 chpσ_8 c_59 ahpσ_61 chpσ_61 dhpσ_61 ehpσ_61 k3σ_61 k4σ_61 smσ_61; omega) | omega)
        have kmσ_61 : m_c X σ_61 a 3722 = m_c X σ a 3722 := (mcσ_61 3722).trans kmσ_6
        clear k4σ_6 smσ_6 onσ_6 kmσ_6 bhpσ_61
        exact J_48_9 σ_61 _ _ ls fr_σ_61 nnσ_61 kpσ_61 k3σ_61 k4σ_61 smσ_61 onσ_61 kmσ_61 hF hI (lv_sub hl [0, 1] rfl)
    · skip
      replace hF := q_ifp hF c_4
      exact q_retv E hr hlk hI ⟨nnσ_2, kpσ_2, (by first | exact smσ_2 | omega), (by first | exact smσ_2 | omega), k3σ_2, k4σ_2, (hF.trans hout), fr_σ_2⟩ dX12_readPlayer_32
  refine q_icmp_ne (A := f_1.toInt) (B := 6) E rfl (by decide) (tgt := 25) dX12_readPlayer_12 (by decide) (fun c_62 => ?_) (fun c_62 => ?_)
  · skip
    replace hF := q_ifn hF c_62
    exact J_25_2 σ _ _ ls (by first | (clear hs hk h4 k3σ k4σ; omega) | omega) fr_σ nnσ kpσ k3σ k4σ smσ beσ kmσ hF hI (lv_sub hl [1, 0] rfl)
  · skip
    replace hF := q_ifp hF c_62
    refine lv_aload_n hx hb dX12_readPlayer_15 rfl (lv_at hl 1 rfl) ?_
    refine lv_bipush (v := 6) hx hb dX12_readPlayer_16 zkb_6 ?_
    refine lv_aload_n hx hb dX12_readPlayer_18 rfl (lv_at hl 1 rfl) ?_
    refine gs_X12_104_12 E hI ha dX12_readPlayer_19 ?_
    refine lv_topi (fun f_63 ef_63 => ?_)
    replace hF := q_letX hF ef_63
    have if_63 : f_63.toInt = (σ.1 a 15).toInt := congrArg Int32.toInt ef_63
    have kc_64 : (6 : Int32).toInt = 6 := zt_6
    refine q_cv (q_rV11_2 (rest := []) E (hml.trans hl.1.symm) hI (c_X12_fail l X σ a (6 : Int32) f_63 ha (by omega) (by first | (clear hs hz hk h4 k3σ k4σ if_1 c_62 if_63; omega) | omega)) kv_X12_193 ha ⟨Nat.le_of_ble_eq_true rfl, Nat.le_of_ble_eq_true rfl⟩ (Nat.le_of_ble_eq_true rfl) dX12_readPlayer_22) hI (Nat.le_of_ble_eq_true rfl) (fun σ_66 H locs hpσ_66 hkσ_66 hI => ?_)
    have ahpσ_66 := hpσ_66.1
    have bhpσ_66 := hpσ_66.2.1
    have chpσ_66 := hpσ_66.2.2.1
    have dhpσ_66 := hpσ_66.2.2.2.1
    have ehpσ_66 := hpσ_66.2.2.2.2
    clear hpσ_66
    have fr_σ_66 := fr_σ.call ehpσ_66 rfl rfl
    replace hF := q_letX hF dhpσ_66
    have mcσ_66 := m_cK hkσ_66 hI.1 ha (by decide)
    have nnσ_66 : m_N (m_c X σ_66 a) := m_N.ext mcσ_66 nnσ
    have kpσ_66 : ∀ j, 0 ≤ j → j < 3720 → m_c X σ_66 a j = m_c X σ a j := fun j h0 h1 => (mcσ_66 j).trans (kpσ j h0 h1)
    have k3σ_66 : m_c X σ_66 a 3720 = m_c X σ a 3720 ∧ m_c X σ_66 a 3721 = m_c X σ a 3721 := ⟨(mcσ_66 3720).trans k3σ.1, (mcσ_66 3721).trans k3σ.2⟩
    have k4σ_66 : 1 ≤ m_c X σ_66 a 3724 + 10 * (σ_66.1 a 12).toInt := (by have := mcσ_66 3724; omega)
    have smσ_66 : 0 ≤ (σ_66.1 a 15).toInt ∧ (σ_66.1 a 15).toInt ≤ (σ_66.1 a 16).toInt ∧ (σ_66.1 a 16).toInt ≤ (σ_66.1 a 9).toInt ∧ (σ_66.1 a 9).toInt ≤ 900 ∧ 0 ≤ (σ_66.1 a 14).toInt ∧ (σ_66.1 a 14).toInt ≤ 4 ∧ (σ_66.1 a 14).toInt ≤ 4 * ((σ_66.1 a 16).toInt - (σ_66.1 a 15).toInt) ∧ (σ_66.1 a 14).toInt ≤ 4 * ((σ_66.1 a 9).toInt - (σ_66.1 a 15).toInt) ∧ 0 ≤ (σ_66.1 a 12).toInt ∧ (σ_66.1 a 9).toInt = (σ.1 a 9).toInt ∧ (σ.1 a 15).toInt ≤ (σ_66.1 a 15).toInt ∧ (σ.1 a 12).toInt ≤ (σ_66.1 a 12).toInt := (by first | exact sm_fl smσ bhpσ_66 chpσ_66 | omega)
    have beσ_66 : (σ_66.1 a 16).toInt = (σ.1 a 16).toInt := (by omega)
    have kmσ_66 : m_c X σ_66 a 3722 = m_c X σ a 3722 := (mcσ_66 3722).trans kmσ
    clear k4σ smσ beσ kmσ bhpσ_66
    exact J_25_2 σ_66 _ _ ls (by first | (clear hs hz hk h4 k3σ if_1 if_63 kc_64 ahpσ_66 dhpσ_66 ehpσ_66 k3σ_66 k4σ_66 smσ_66 beσ_66 kmσ_66; omega) | omega) fr_σ_66 nnσ_66 kpσ_66 k3σ_66 k4σ_66 smσ_66 beσ_66 kmσ_66 hF hI (lv_sub hl [1, 0] rfl)
end
