section
set_option maxRecDepth 100000 in
set_option maxHeartbeats 4000000 in
theorem c_X12_readRest (l : Launch) (X : XW) (σ : ST) (a : Nat) (v1 : Int32) (ha : q_kd X a = 12) (hs : 0 ≤ (σ.1 a 15).toInt ∧ (σ.1 a 15).toInt ≤ (σ.1 a 16).toInt ∧ (σ.1 a 16).toInt ≤ (σ.1 a 9).toInt ∧ (σ.1 a 9).toInt ≤ 900 ∧ 0 ≤ (σ.1 a 14).toInt ∧ (σ.1 a 14).toInt ≤ 4 ∧ (σ.1 a 14).toInt ≤ 4 * ((σ.1 a 16).toInt - (σ.1 a 15).toInt) ∧ (σ.1 a 14).toInt ≤ 4 * ((σ.1 a 9).toInt - (σ.1 a 15).toInt) ∧ 0 ≤ (σ.1 a 12).toInt) (hw : 4376 ≤ v1.toInt ∧ v1.toInt ≤ 4637) (hc2 : m_c X σ a 2 ≤ 6) : Met l yX12_readRest (q_ws yX12_readRest cX12_readRest 3 none) (q_rm 7 151) (q_P X σ [.ref a, .int v1]) (q_Qv X 1 σ (fun (σ' : ST) => (∀ j, 0 ≤ j → (j < v1.toInt + 1 ∨ v1.toInt + 8 ≤ j) → m_c X σ' a j = m_c X σ a j) ∧ (0 ≤ (σ'.1 a 15).toInt ∧ (σ'.1 a 15).toInt ≤ (σ'.1 a 16).toInt ∧ (σ'.1 a 16).toInt ≤ (σ'.1 a 9).toInt ∧ (σ'.1 a 9).toInt ≤ 900 ∧ 0 ≤ (σ'.1 a 14).toInt ∧ (σ'.1 a 14).toInt ≤ 4 ∧ (σ'.1 a 14).toInt ≤ 4 * ((σ'.1 a 16).toInt - (σ'.1 a 15).toInt) ∧ (σ'.1 a 14).toInt ≤ 4 * ((σ'.1 a 9).toInt - (σ'.1 a 15).toInt) ∧ 0 ≤ (σ'.1 a 12).toInt ∧ (σ'.1 a 9).toInt = (σ.1 a 9).toInt ∧ (σ.1 a 15).toInt ≤ (σ'.1 a 15).toInt ∧ (σ.1 a 12).toInt ≤ (σ'.1 a 12).toInt) ∧ ((σ'.1 a 27).toInt = (σ.1 a 27).toInt) ∧ (m_oz (σ'.1 a 12).toInt (m_rst (m_c X σ' a) v1.toInt)) ∧ σ' = F_X12_readRest X σ a v1 ∧ q_ow [(12, 12), (12, 13), (12, 14), (12, 15), (12, 16), (12, 17), (12, 18), (34, 99)] [(12, 19)] X σ σ')) 0 0 (q_reg X) := by
  refine q_metQ 1 (by first | exact rfl | decide +kernel) rfl (Nat.le_of_ble_eq_true rfl) (fun QQ hQQ p e s m below meth c E hml hr hlk hI ls hl => ?_)
  have hx := E.1
  have hb := E.2.1
  have hl : lv_has ls 3 [(0, .ref a), (1, .int v1)] := hl
  have kwσ : ∀ j, 0 ≤ j → (j < v1.toInt + 1 ∨ v1.toInt + 8 ≤ j) → m_c X σ a j = m_c X σ a j := fun _ _ _ => rfl
  have smσ : 0 ≤ (σ.1 a 15).toInt ∧ (σ.1 a 15).toInt ≤ (σ.1 a 16).toInt ∧ (σ.1 a 16).toInt ≤ (σ.1 a 9).toInt ∧ (σ.1 a 9).toInt ≤ 900 ∧ 0 ≤ (σ.1 a 14).toInt ∧ (σ.1 a 14).toInt ≤ 4 ∧ (σ.1 a 14).toInt ≤ 4 * ((σ.1 a 16).toInt - (σ.1 a 15).toInt) ∧ (σ.1 a 14).toInt ≤ 4 * ((σ.1 a 9).toInt - (σ.1 a 15).toInt) ∧ 0 ≤ (σ.1 a 12).toInt ∧ (σ.1 a 9).toInt = (σ.1 a 9).toInt ∧ (σ.1 a 15).toInt ≤ (σ.1 a 15).toInt ∧ (σ.1 a 12).toInt ≤ (σ.1 a 12).toInt := (by omega)
  have nsσ : (σ.1 a 27).toInt = (σ.1 a 27).toInt := rfl
  have fr_σ : q_ow [(12, 12), (12, 13), (12, 14), (12, 15), (12, 16), (12, 17), (12, 18), (34, 99)] [(12, 19)] X σ σ := q_ow.rf
  obtain ⟨out, hout⟩ : ∃ o, o = F_X12_readRest X σ a v1 := ⟨_, rfl⟩
  have hF := hout.symm
  unfold F_X12_readRest at hF
  refine lv_aload_n hx hb dX12_readRest_0 rfl (lv_at hl 0 rfl) ?_
  refine gs_X12_35_12 E hI ha dX12_readRest_1 ?_
  refine lv_iload_n hx hb dX12_readRest_4 rfl (lv_at hl 1 rfl) ?_
  refine q_iald E hI (q_tk (k' := 34) hI ha rfl (by decide)) ⟨by decide, rfl⟩ (by omega) (by rw [q_lnk (v := 4650) hI (q_tk (k' := 34) hI ha rfl (by decide)) rfl (by decide)]; omega) dX12_readRest_5 ?_
  refine lv_topi (fun f_1 ef_1 => ?_)
  replace hF := q_letX hF ef_1
  have if_1 : f_1.toInt = m_c X σ a v1.toInt := m_rd ef_1 rfl
  refine lv_istore_n (lv' := [(2, .int f_1), (0, .ref a), (1, .int v1)]) hx hb dX12_readRest_6 rfl hl (by decide) rfl (fun ls hl => ?_)
  refine lv_iload_n hx hb dX12_readRest_7 rfl (lv_at hl 0 rfl) ?_
  refine lv_iconst (v := 1) hx hb dX12_readRest_8 (by decide) ?_
  refine q_icmp_eq (A := f_1.toInt) (B := 1) E rfl (by decide) (tgt := 17) dX12_readRest_9 (by decide) (fun c_2 => ?_) (fun c_2 => ?_)
  · skip
    replace hF := q_ifp hF c_2
    refine lv_aload_n hx hb dX12_readRest_17 rfl (lv_at hl 1 rfl) ?_
    refine gs_X12_35_12 E hI ha dX12_readRest_18 ?_
    refine lv_iload_n hx hb dX12_readRest_21 rfl (lv_at hl 2 rfl) ?_
    refine lv_iconst (v := 1) hx hb dX12_readRest_22 (by decide) ?_
    refine lv_iadd hx hb dX12_readRest_23 ?_
    refine lv_topi (fun z_3 ez_3 => ?_)
    replace hF := q_letX hF ez_3
    have iz_3 := q_addI (A := v1.toInt) (B := 1) ez_3 rfl (by decide) (by omega) (by omega)
    refine lv_aload_n hx hb dX12_readRest_24 rfl (lv_at hl 1 rfl) ?_
    refine lv_iconst (v := 0) hx hb dX12_readRest_25 (by decide) ?_
    have kc_4 : (0 : Int32).toInt = 0 := rfl
    refine q_ci (q_runV (As := [.int 0]) (rest := [.int z_3, .ref (q_rf X a 20)]) E (hml.trans hl.1.symm) hI (c_X12_readTold l X σ a (0 : Int32) ha (by first | exact sm_9 smσ | exact hs | omega) (Or.inl rfl) (by show m_c X σ a 2 ≤ 6; rw [kwσ 2 (by decide) (Or.inl (by omega))]; exact hc2)) kv_X12_226 ha ⟨rfl, by decide⟩ (show vwCl[11]? = some (RX12, TX12, 46) from rfl) rfl ⟨Nat.le_of_ble_eq_true rfl, Nat.le_of_ble_eq_true rfl⟩ ⟨Nat.le_refl _, Nat.le_refl _⟩ rfl (Nat.le_of_ble_eq_true rfl) dX12_readRest_26) hI (by decide) (fun r_5 σ_6 H locs hpσ_6 hkσ_6 hI => ?_)
    obtain ⟨ahpσ_6, bhpσ_6, chpσ_6, dhpσ_6, ehpσ_6⟩ := hpσ_6
    have fr_σ_6 := fr_σ.call ehpσ_6 rfl rfl
    replace hF := q_biX hF dhpσ_6
    have mv27_σ_6 : (σ_6.1 a 27).toInt = (σ.1 a 27).toInt := congrArg Int32.toInt (ahpσ_6 a 27 (q_cl9 _ _) (fun h => absurd h.2.2 (by decide)))
    have mcσ_6 := m_cK hkσ_6 hI.1 ha (by decide)
    have kwσ_6 : ∀ j, 0 ≤ j → (j < v1.toInt + 1 ∨ v1.toInt + 8 ≤ j) → m_c X σ_6 a j = m_c X σ a j := fun j h0 h1 => (mcσ_6 j).trans (kwσ j h0 h1)
    have smσ_6 : 0 ≤ (σ_6.1 a 15).toInt ∧ (σ_6.1 a 15).toInt ≤ (σ_6.1 a 16).toInt ∧ (σ_6.1 a 16).toInt ≤ (σ_6.1 a 9).toInt ∧ (σ_6.1 a 9).toInt ≤ 900 ∧ 0 ≤ (σ_6.1 a 14).toInt ∧ (σ_6.1 a 14).toInt ≤ 4 ∧ (σ_6.1 a 14).toInt ≤ 4 * ((σ_6.1 a 16).toInt - (σ_6.1 a 15).toInt) ∧ (σ_6.1 a 14).toInt ≤ 4 * ((σ_6.1 a 9).toInt - (σ_6.1 a 15).toInt) ∧ 0 ≤ (σ_6.1 a 12).toInt ∧ (σ_6.1 a 9).toInt = (σ.1 a 9).toInt ∧ (σ.1 a 15).toInt ≤ (σ_6.1 a 15).toInt ∧ (σ.1 a 12).toInt ≤ (σ_6.1 a 12).toInt := (by first | exact sm_tr smσ bhpσ_6 | exact sm_tr smσ chpσ_6 | omega)
    have nsσ_6 : (σ_6.1 a 27).toInt = (σ.1 a 27).toInt := (by omega)
    clear mv27_σ_6 smσ nsσ bhpσ_6
    refine q_iastN E hI (q_tk (k' := 34) hI ha rfl (by decide)) ⟨by decide, rfl⟩ (by omega) (by rw [q_lnk (v := 4650) hI (q_tk (k' := 34) hI ha rfl (by decide)) rfl (by decide)]; omega) (show 1 < 2 by decide) (q_inU rfl) dX12_readRest_29 (fun H locs σ_7 hσ_7 hI => ?_)
    replace hF := q_letX hF hσ_7
    have fr_σ_7 := fr_σ_6.si hσ_7 (q_tk (k' := 34) hI ha rfl (by decide)) rfl
    have mv9_σ_7 : (σ_7.1 a 9).toInt = (σ_6.1 a 9).toInt := congrArg Int32.toInt (q_rdn hσ_7 (Or.inl (m_ne ha (q_tk (k' := 34) hI ha rfl (by decide)) (by decide))))
    have mv12_σ_7 : (σ_7.1 a 12).toInt = (σ_6.1 a 12).toInt := congrArg Int32.toInt (q_rdn hσ_7 (Or.inl (m_ne ha (q_tk (k' := 34) hI ha rfl (by decide)) (by decide))))
    have mv14_σ_7 : (σ_7.1 a 14).toInt = (σ_6.1 a 14).toInt := congrArg Int32.toInt (q_rdn hσ_7 (Or.inl (m_ne ha (q_tk (k' := 34) hI ha rfl (by decide)) (by decide))))
    have mv15_σ_7 : (σ_7.1 a 15).toInt = (σ_6.1 a 15).toInt := congrArg Int32.toInt (q_rdn hσ_7 (Or.inl (m_ne ha (q_tk (k' := 34) hI ha rfl (by decide)) (by decide))))
    have mv16_σ_7 : (σ_7.1 a 16).toInt = (σ_6.1 a 16).toInt := congrArg Int32.toInt (q_rdn hσ_7 (Or.inl (m_ne ha (q_tk (k' := 34) hI ha rfl (by decide)) (by decide))))
    have mv27_σ_7 : (σ_7.1 a 27).toInt = (σ_6.1 a 27).toInt := congrArg Int32.toInt (q_rdn hσ_7 (Or.inl (m_ne ha (q_tk (k' := 34) hI ha rfl (by decide)) (by decide))))
    have mcσ_7 := m_wr (v := r_5) (A := (v1.toInt + 1)) hσ_7 iz_3 (by omega)
    have kwσ_7 : ∀ j, 0 ≤ j → (j < v1.toInt + 1 ∨ v1.toInt + 8 ≤ j) → m_c X σ_7 a j = m_c X σ a j := fun j h0 h1 => by rw [mcσ_7 j h0, if_neg (by omega)]; exact kwσ_6 j h0 h1
    have smσ_7 : 0 ≤ (σ_7.1 a 15).toInt ∧ (σ_7.1 a 15).toInt ≤ (σ_7.1 a 16).toInt ∧ (σ_7.1 a 16).toInt ≤ (σ_7.1 a 9).toInt ∧ (σ_7.1 a 9).toInt ≤ 900 ∧ 0 ≤ (σ_7.1 a 14).toInt ∧ (σ_7.1 a 14).toInt ≤ 4 ∧ (σ_7.1 a 14).toInt ≤ 4 * ((σ_7.1 a 16).toInt - (σ_7.1 a 15).toInt) ∧ (σ_7.1 a 14).toInt ≤ 4 * ((σ_7.1 a 9).toInt - (σ_7.1 a 15).toInt) ∧ 0 ≤ (σ_7.1 a 12).toInt ∧ (σ_7.1 a 9).toInt = (σ.1 a 9).toInt ∧ (σ.1 a 15).toInt ≤ (σ_7.1 a 15).toInt ∧ (σ.1 a 12).toInt ≤ (σ_7.1 a 12).toInt := (by first | (rw [mv12_σ_7, mv14_σ_7, mv15_σ_7, mv16_σ_7, mv9_σ_7]; exact smσ_6) | omega)
    have nsσ_7 : (σ_7.1 a 27).toInt = (σ.1 a 27).toInt := (by omega)
    have p1σ_7 : 0 ≤ m_c X σ_7 a (v1.toInt + 1) ∧ m_c X σ_7 a (v1.toInt + 1) ≤ 5 := (by have := mcσ_7 (v1.toInt + 1) (by omega); rw [if_pos rfl] at this; omega)
    clear mv9_σ_7 mv12_σ_7 mv14_σ_7 mv15_σ_7 mv16_σ_7 mv27_σ_7 smσ_6 nsσ_6
    refine lv_aload_n hx hb dX12_readRest_30 rfl (lv_at hl 1 rfl) ?_
    refine gs_X12_35_12 E hI ha dX12_readRest_31 ?_
    refine lv_iload_n hx hb dX12_readRest_34 rfl (lv_at hl 2 rfl) ?_
    refine lv_iconst (v := 2) hx hb dX12_readRest_35 (by decide) ?_
    refine lv_iadd hx hb dX12_readRest_36 ?_
    refine lv_topi (fun z_8 ez_8 => ?_)
    replace hF := q_letX hF ez_8
    have iz_8 := q_addI (A := v1.toInt) (B := 2) ez_8 rfl (by decide) (by omega) (by omega)
    refine lv_aload_n hx hb dX12_readRest_37 rfl (lv_at hl 1 rfl) ?_
    refine lv_iconst (v := 0) hx hb dX12_readRest_38 (by decide) ?_
    refine lv_bipush (v := 16) hx hb dX12_readRest_39 (by decide) ?_
    have kc_9 : (0 : Int32).toInt = 0 := rfl
    have kc_10 : (16 : Int32).toInt = 16 := rfl
    refine q_ci (q_runV (As := [.int 0, .int 16]) (rest := [.int z_8, .ref (q_rf X a 20)]) E (hml.trans hl.1.symm) hI (c_X12_count l X σ_7 a (0 : Int32) (16 : Int32) ha (by first | exact sm_9 smσ_7 | exact hs | omega) (by omega)) kv_X12_223 ha ⟨rfl, by decide⟩ (show vwCl[11]? = some (RX12, TX12, 46) from rfl) rfl ⟨Nat.le_of_ble_eq_true rfl, Nat.le_of_ble_eq_true rfl⟩ ⟨Nat.le_refl _, Nat.le_refl _⟩ rfl (Nat.le_of_ble_eq_true rfl) dX12_readRest_41) hI (by decide) (fun r_11 σ_12 H locs hpσ_12 hkσ_12 hI => ?_)
    obtain ⟨ahpσ_12, bhpσ_12, chpσ_12, dhpσ_12, ehpσ_12⟩ := hpσ_12
    have fr_σ_12 := fr_σ_7.call ehpσ_12 rfl rfl
    replace hF := q_biX hF dhpσ_12
    have mv27_σ_12 : (σ_12.1 a 27).toInt = (σ_7.1 a 27).toInt := congrArg Int32.toInt (ahpσ_12 a 27 (q_cl9 _ _) (fun h => absurd h.2.2 (by decide)))
    have mcσ_12 := m_cK hkσ_12 hI.1 ha (by decide)
    have kwσ_12 : ∀ j, 0 ≤ j → (j < v1.toInt + 1 ∨ v1.toInt + 8 ≤ j) → m_c X σ_12 a j = m_c X σ a j := fun j h0 h1 => (mcσ_12 j).trans (kwσ_7 j h0 h1)
    have smσ_12 : 0 ≤ (σ_12.1 a 15).toInt ∧ (σ_12.1 a 15).toInt ≤ (σ_12.1 a 16).toInt ∧ (σ_12.1 a 16).toInt ≤ (σ_12.1 a 9).toInt ∧ (σ_12.1 a 9).toInt ≤ 900 ∧ 0 ≤ (σ_12.1 a 14).toInt ∧ (σ_12.1 a 14).toInt ≤ 4 ∧ (σ_12.1 a 14).toInt ≤ 4 * ((σ_12.1 a 16).toInt - (σ_12.1 a 15).toInt) ∧ (σ_12.1 a 14).toInt ≤ 4 * ((σ_12.1 a 9).toInt - (σ_12.1 a 15).toInt) ∧ 0 ≤ (σ_12.1 a 12).toInt ∧ (σ_12.1 a 9).toInt = (σ.1 a 9).toInt ∧ (σ.1 a 15).toInt ≤ (σ_12.1 a 15).toInt ∧ (σ.1 a 12).toInt ≤ (σ_12.1 a 12).toInt := (by first | exact sm_tr smσ_7 bhpσ_12 | exact sm_tr smσ_7 chpσ_12 | omega)
    have nsσ_12 : (σ_12.1 a 27).toInt = (σ.1 a 27).toInt := (by omega)
    have p1σ_12 : 0 ≤ m_c X σ_12 a (v1.toInt + 1) ∧ m_c X σ_12 a (v1.toInt + 1) ≤ 5 := (by have := mcσ_12 (v1.toInt + 1); omega)
    clear mv27_σ_12 smσ_7 nsσ_7 bhpσ_12
    refine q_iastN E hI (q_tk (k' := 34) hI ha rfl (by decide)) ⟨by decide, rfl⟩ (by omega) (by rw [q_lnk (v := 4650) hI (q_tk (k' := 34) hI ha rfl (by decide)) rfl (by decide)]; omega) (show 1 < 2 by decide) (q_inU rfl) dX12_readRest_44 (fun H locs σ_13 hσ_13 hI => ?_)
    replace hF := q_letX hF hσ_13
    have fr_σ_13 := fr_σ_12.si hσ_13 (q_tk (k' := 34) hI ha rfl (by decide)) rfl
    have mv9_σ_13 : (σ_13.1 a 9).toInt = (σ_12.1 a 9).toInt := congrArg Int32.toInt (q_rdn hσ_13 (Or.inl (m_ne ha (q_tk (k' := 34) hI ha rfl (by decide)) (by decide))))
    have mv12_σ_13 : (σ_13.1 a 12).toInt = (σ_12.1 a 12).toInt := congrArg Int32.toInt (q_rdn hσ_13 (Or.inl (m_ne ha (q_tk (k' := 34) hI ha rfl (by decide)) (by decide))))
    have mv14_σ_13 : (σ_13.1 a 14).toInt = (σ_12.1 a 14).toInt := congrArg Int32.toInt (q_rdn hσ_13 (Or.inl (m_ne ha (q_tk (k' := 34) hI ha rfl (by decide)) (by decide))))
    have mv15_σ_13 : (σ_13.1 a 15).toInt = (σ_12.1 a 15).toInt := congrArg Int32.toInt (q_rdn hσ_13 (Or.inl (m_ne ha (q_tk (k' := 34) hI ha rfl (by decide)) (by decide))))
    have mv16_σ_13 : (σ_13.1 a 16).toInt = (σ_12.1 a 16).toInt := congrArg Int32.toInt (q_rdn hσ_13 (Or.inl (m_ne ha (q_tk (k' := 34) hI ha rfl (by decide)) (by decide))))
    have mv27_σ_13 : (σ_13.1 a 27).toInt = (σ_12.1 a 27).toInt := congrArg Int32.toInt (q_rdn hσ_13 (Or.inl (m_ne ha (q_tk (k' := 34) hI ha rfl (by decide)) (by decide))))
    have mcσ_13 := m_wr (v := r_11) (A := (v1.toInt + 2)) hσ_13 iz_8 (by omega)
    have kwσ_13 : ∀ j, 0 ≤ j → (j < v1.toInt + 1 ∨ v1.toInt + 8 ≤ j) → m_c X σ_13 a j = m_c X σ a j := fun j h0 h1 => by rw [mcσ_13 j h0, if_neg (by omega)]; exact kwσ_12 j h0 h1
    have smσ_13 : 0 ≤ (σ_13.1 a 15).toInt ∧ (σ_13.1 a 15).toInt ≤ (σ_13.1 a 16).toInt ∧ (σ_13.1 a 16).toInt ≤ (σ_13.1 a 9).toInt ∧ (σ_13.1 a 9).toInt ≤ 900 ∧ 0 ≤ (σ_13.1 a 14).toInt ∧ (σ_13.1 a 14).toInt ≤ 4 ∧ (σ_13.1 a 14).toInt ≤ 4 * ((σ_13.1 a 16).toInt - (σ_13.1 a 15).toInt) ∧ (σ_13.1 a 14).toInt ≤ 4 * ((σ_13.1 a 9).toInt - (σ_13.1 a 15).toInt) ∧ 0 ≤ (σ_13.1 a 12).toInt ∧ (σ_13.1 a 9).toInt = (σ.1 a 9).toInt ∧ (σ.1 a 15).toInt ≤ (σ_13.1 a 15).toInt ∧ (σ.1 a 12).toInt ≤ (σ_13.1 a 12).toInt := (by first | (rw [mv12_σ_13, mv14_σ_13, mv15_σ_13, mv16_σ_13, mv9_σ_13]; exact smσ_12) | omega)
    have nsσ_13 : (σ_13.1 a 27).toInt = (σ.1 a 27).toInt := (by omega)
    have p1σ_13 : 0 ≤ m_c X σ_13 a (v1.toInt + 1) ∧ m_c X σ_13 a (v1.toInt + 1) ≤ 5 := (by have := mcσ_13 (v1.toInt + 1) (by omega); rw [if_neg (by omega)] at this; omega)
    clear mv9_σ_13 mv12_σ_13 mv14_σ_13 mv15_σ_13 mv16_σ_13 mv27_σ_13 smσ_12 nsσ_12
    refine lv_goto (tgt := 81) hx hb dX12_readRest_45 (by decide) ?_
    have kz := kwσ_13 v1.toInt (by omega) (Or.inl (by omega))
    rewrite [hQQ]; exact q_retv E hr hlk hI ⟨kwσ_13, (by first | exact smσ_13 | omega), nsσ_13, (by first | exact rsσ_13 | exact fun e => m_rst.m1 (by first | exact smσ_13 | omega) p1σ_13 | exact fun e => m_rst.m0 (by first | exact smσ_13 | omega) (by first | exact smσ_13 | omega) (by first | exact smσ_13 | omega)), (hF.trans hout), fr_σ_13⟩ dX12_readRest_81
  · skip
    replace hF := q_ifn hF c_2
    refine lv_iload_n hx hb dX12_readRest_12 rfl (lv_at hl 0 rfl) ?_
    refine lv_iconst (v := 2) hx hb dX12_readRest_13 (by decide) ?_
    refine q_icmp_ne (A := f_1.toInt) (B := 2) E rfl (by decide) (tgt := 48) dX12_readRest_14 (by decide) (fun c_14 => ?_) (fun c_14 => ?_)
    · skip
      replace hF := q_ifn hF c_14
      refine lv_iload_n hx hb dX12_readRest_48 rfl (lv_at hl 0 rfl) ?_
      refine lv_iconst (v := 3) hx hb dX12_readRest_49 (by decide) ?_
      refine q_icmp_ne (A := f_1.toInt) (B := 3) E rfl (by decide) (tgt := 61) dX12_readRest_50 (by decide) (fun c_15 => ?_) (fun c_15 => ?_)
      · skip
        replace hF := q_ifn hF c_15
        refine lv_iload_n hx hb dX12_readRest_61 rfl (lv_at hl 0 rfl) ?_
        refine lv_iconst (v := 4) hx hb dX12_readRest_62 (by decide) ?_
        refine q_icmp_ne (A := f_1.toInt) (B := 4) E rfl (by decide) (tgt := 81) dX12_readRest_63 (by decide) (fun c_16 => ?_) (fun c_16 => ?_)
        · skip
          replace hF := q_ifn hF c_16
          have kz := kwσ v1.toInt (by omega) (Or.inl (by omega))
          rewrite [hQQ]; exact q_retv E hr hlk hI ⟨kwσ, (by first | exact smσ | omega), nsσ, (by first | exact rsσ | exact fun e => m_rst.m1 (by first | exact smσ | omega) p1σ | exact fun e => m_rst.m0 (by first | exact smσ | omega) (by first | exact smσ | omega) (by first | exact smσ | omega)), (hF.trans hout), fr_σ⟩ dX12_readRest_81
        · skip
          replace hF := q_ifp hF c_16
          refine lv_aload_n hx hb dX12_readRest_66 rfl (lv_at hl 1 rfl) ?_
          refine gs_X12_35_12 E hI ha dX12_readRest_67 ?_
          refine lv_iload_n hx hb dX12_readRest_70 rfl (lv_at hl 2 rfl) ?_
          refine lv_iconst (v := 1) hx hb dX12_readRest_71 (by decide) ?_
          refine lv_iadd hx hb dX12_readRest_72 ?_
          refine lv_topi (fun z_17 ez_17 => ?_)
          replace hF := q_letX hF ez_17
          have iz_17 := q_addI (A := v1.toInt) (B := 1) ez_17 rfl (by decide) (by omega) (by omega)
          refine lv_aload_n hx hb dX12_readRest_73 rfl (lv_at hl 1 rfl) ?_
          refine lv_iconst (v := 1) hx hb dX12_readRest_74 (by decide) ?_
          refine lv_bipush (v := 99) hx hb dX12_readRest_75 (by decide) ?_
          have kc_18 : (1 : Int32).toInt = 1 := rfl
          have kc_19 : (99 : Int32).toInt = 99 := rfl
          refine q_ci (q_runV (As := [.int 1, .int 99]) (rest := [.int z_17, .ref (q_rf X a 20)]) E (hml.trans hl.1.symm) hI (c_X12_count l X σ a (1 : Int32) (99 : Int32) ha (by first | exact sm_9 smσ | exact hs | omega) (by omega)) kv_X12_223 ha ⟨rfl, by decide⟩ (show vwCl[11]? = some (RX12, TX12, 46) from rfl) rfl ⟨Nat.le_of_ble_eq_true rfl, Nat.le_of_ble_eq_true rfl⟩ ⟨Nat.le_refl _, Nat.le_refl _⟩ rfl (Nat.le_of_ble_eq_true rfl) dX12_readRest_77) hI (by decide) (fun r_20 σ_21 H locs hpσ_21 hkσ_21 hI => ?_)
          obtain ⟨ahpσ_21, bhpσ_21, chpσ_21, dhpσ_21, ehpσ_21⟩ := hpσ_21
          have fr_σ_21 := fr_σ.call ehpσ_21 rfl rfl
          replace hF := q_biX hF dhpσ_21
          have mv27_σ_21 : (σ_21.1 a 27).toInt = (σ.1 a 27).toInt := congrArg Int32.toInt (ahpσ_21 a 27 (q_cl9 _ _) (fun h => absurd h.2.2 (by decide)))
          have mcσ_21 := m_cK hkσ_21 hI.1 ha (by decide)
          have kwσ_21 : ∀ j, 0 ≤ j → (j < v1.toInt + 1 ∨ v1.toInt + 8 ≤ j) → m_c X σ_21 a j = m_c X σ a j := fun j h0 h1 => (mcσ_21 j).trans (kwσ j h0 h1)
          have smσ_21 : 0 ≤ (σ_21.1 a 15).toInt ∧ (σ_21.1 a 15).toInt ≤ (σ_21.1 a 16).toInt ∧ (σ_21.1 a 16).toInt ≤ (σ_21.1 a 9).toInt ∧ (σ_21.1 a 9).toInt ≤ 900 ∧ 0 ≤ (σ_21.1 a 14).toInt ∧ (σ_21.1 a 14).toInt ≤ 4 ∧ (σ_21.1 a 14).toInt ≤ 4 * ((σ_21.1 a 16).toInt - (σ_21.1 a 15).toInt) ∧ (σ_21.1 a 14).toInt ≤ 4 * ((σ_21.1 a 9).toInt - (σ_21.1 a 15).toInt) ∧ 0 ≤ (σ_21.1 a 12).toInt ∧ (σ_21.1 a 9).toInt = (σ.1 a 9).toInt ∧ (σ.1 a 15).toInt ≤ (σ_21.1 a 15).toInt ∧ (σ.1 a 12).toInt ≤ (σ_21.1 a 12).toInt := (by first | exact sm_tr smσ bhpσ_21 | exact sm_tr smσ chpσ_21 | omega)
          have nsσ_21 : (σ_21.1 a 27).toInt = (σ.1 a 27).toInt := (by omega)
          clear mv27_σ_21 smσ nsσ bhpσ_21
          refine q_iastN E hI (q_tk (k' := 34) hI ha rfl (by decide)) ⟨by decide, rfl⟩ (by omega) (by rw [q_lnk (v := 4650) hI (q_tk (k' := 34) hI ha rfl (by decide)) rfl (by decide)]; omega) (show 1 < 2 by decide) (q_inU rfl) dX12_readRest_80 (fun H locs σ_22 hσ_22 hI => ?_)
          replace hF := q_letX hF hσ_22
          have fr_σ_22 := fr_σ_21.si hσ_22 (q_tk (k' := 34) hI ha rfl (by decide)) rfl
          have mv9_σ_22 : (σ_22.1 a 9).toInt = (σ_21.1 a 9).toInt := congrArg Int32.toInt (q_rdn hσ_22 (Or.inl (m_ne ha (q_tk (k' := 34) hI ha rfl (by decide)) (by decide))))
          have mv12_σ_22 : (σ_22.1 a 12).toInt = (σ_21.1 a 12).toInt := congrArg Int32.toInt (q_rdn hσ_22 (Or.inl (m_ne ha (q_tk (k' := 34) hI ha rfl (by decide)) (by decide))))
          have mv14_σ_22 : (σ_22.1 a 14).toInt = (σ_21.1 a 14).toInt := congrArg Int32.toInt (q_rdn hσ_22 (Or.inl (m_ne ha (q_tk (k' := 34) hI ha rfl (by decide)) (by decide))))
          have mv15_σ_22 : (σ_22.1 a 15).toInt = (σ_21.1 a 15).toInt := congrArg Int32.toInt (q_rdn hσ_22 (Or.inl (m_ne ha (q_tk (k' := 34) hI ha rfl (by decide)) (by decide))))
          have mv16_σ_22 : (σ_22.1 a 16).toInt = (σ_21.1 a 16).toInt := congrArg Int32.toInt (q_rdn hσ_22 (Or.inl (m_ne ha (q_tk (k' := 34) hI ha rfl (by decide)) (by decide))))
          have mv27_σ_22 : (σ_22.1 a 27).toInt = (σ_21.1 a 27).toInt := congrArg Int32.toInt (q_rdn hσ_22 (Or.inl (m_ne ha (q_tk (k' := 34) hI ha rfl (by decide)) (by decide))))
          have mcσ_22 := m_wr (v := r_20) (A := (v1.toInt + 1)) hσ_22 iz_17 (by omega)
          have kwσ_22 : ∀ j, 0 ≤ j → (j < v1.toInt + 1 ∨ v1.toInt + 8 ≤ j) → m_c X σ_22 a j = m_c X σ a j := fun j h0 h1 => by rw [mcσ_22 j h0, if_neg (by omega)]; exact kwσ_21 j h0 h1
          have smσ_22 : 0 ≤ (σ_22.1 a 15).toInt ∧ (σ_22.1 a 15).toInt ≤ (σ_22.1 a 16).toInt ∧ (σ_22.1 a 16).toInt ≤ (σ_22.1 a 9).toInt ∧ (σ_22.1 a 9).toInt ≤ 900 ∧ 0 ≤ (σ_22.1 a 14).toInt ∧ (σ_22.1 a 14).toInt ≤ 4 ∧ (σ_22.1 a 14).toInt ≤ 4 * ((σ_22.1 a 16).toInt - (σ_22.1 a 15).toInt) ∧ (σ_22.1 a 14).toInt ≤ 4 * ((σ_22.1 a 9).toInt - (σ_22.1 a 15).toInt) ∧ 0 ≤ (σ_22.1 a 12).toInt ∧ (σ_22.1 a 9).toInt = (σ.1 a 9).toInt ∧ (σ.1 a 15).toInt ≤ (σ_22.1 a 15).toInt ∧ (σ.1 a 12).toInt ≤ (σ_22.1 a 12).toInt := (by first | (rw [mv12_σ_22, mv14_σ_22, mv15_σ_22, mv16_σ_22, mv9_σ_22]; exact smσ_21) | omega)
          have nsσ_22 : (σ_22.1 a 27).toInt = (σ.1 a 27).toInt := (by omega)
          clear mv9_σ_22 mv12_σ_22 mv14_σ_22 mv15_σ_22 mv16_σ_22 mv27_σ_22 smσ_21 nsσ_21
          have kz := kwσ_22 v1.toInt (by omega) (Or.inl (by omega))
          rewrite [hQQ]; exact q_retv E hr hlk hI ⟨kwσ_22, (by first | exact smσ_22 | omega), nsσ_22, (by first | exact rsσ_22 | exact fun e => m_rst.m1 (by first | exact smσ_22 | omega) p1σ_22 | exact fun e => m_rst.m0 (by first | exact smσ_22 | omega) (by first | exact smσ_22 | omega) (by first | exact smσ_22 | omega)), (hF.trans hout), fr_σ_22⟩ dX12_readRest_81
      · skip
        replace hF := q_ifp hF c_15
        refine lv_aload_n hx hb dX12_readRest_53 rfl (lv_at hl 1 rfl) ?_
        refine lv_iload_n hx hb dX12_readRest_54 rfl (lv_at hl 2 rfl) ?_
        refine q_cv (q_runV (As := [.int v1]) (rest := []) E (hml.trans hl.1.symm) hI (c_X12_readTest l X σ a v1 ha (by first | exact sm_9 smσ | exact hs | omega) hw (by rw [kwσ 2 (by decide) (Or.inl (by omega))]; exact hc2)) kv_X12_264 ha ⟨rfl, by decide⟩ (show vwCl[11]? = some (RX12, TX12, 46) from rfl) rfl ⟨Nat.le_of_ble_eq_true rfl, Nat.le_of_ble_eq_true rfl⟩ ⟨Nat.le_refl _, Nat.le_refl _⟩ rfl (Nat.le_of_ble_eq_true rfl) dX12_readRest_55) hI (by decide) (fun σ_24 H locs hpσ_24 hkσ_24 hI => ?_)
        obtain ⟨ahpσ_24, bhpσ_24, chpσ_24, dhpσ_24, ehpσ_24, fhpσ_24⟩ := hpσ_24
        have fr_σ_24 := fr_σ.call fhpσ_24 rfl rfl
        replace hF := q_letX hF ehpσ_24
        have kwσ_24 : ∀ j, 0 ≤ j → (j < v1.toInt + 1 ∨ v1.toInt + 8 ≤ j) → m_c X σ_24 a j = m_c X σ a j := (fun j h0 h1 => (ahpσ_24 j h0 h1).trans (kwσ j h0 h1))
        have smσ_24 : 0 ≤ (σ_24.1 a 15).toInt ∧ (σ_24.1 a 15).toInt ≤ (σ_24.1 a 16).toInt ∧ (σ_24.1 a 16).toInt ≤ (σ_24.1 a 9).toInt ∧ (σ_24.1 a 9).toInt ≤ 900 ∧ 0 ≤ (σ_24.1 a 14).toInt ∧ (σ_24.1 a 14).toInt ≤ 4 ∧ (σ_24.1 a 14).toInt ≤ 4 * ((σ_24.1 a 16).toInt - (σ_24.1 a 15).toInt) ∧ (σ_24.1 a 14).toInt ≤ 4 * ((σ_24.1 a 9).toInt - (σ_24.1 a 15).toInt) ∧ 0 ≤ (σ_24.1 a 12).toInt ∧ (σ_24.1 a 9).toInt = (σ.1 a 9).toInt ∧ (σ.1 a 15).toInt ≤ (σ_24.1 a 15).toInt ∧ (σ.1 a 12).toInt ≤ (σ_24.1 a 12).toInt := (by first | exact sm_tr smσ bhpσ_24 | exact sm_tr smσ chpσ_24 | omega)
        have nsσ_24 : (σ_24.1 a 27).toInt = (σ.1 a 27).toInt := (by omega)
        clear smσ nsσ bhpσ_24 chpσ_24
        have rsσ_24 : m_oz (σ_24.1 a 12).toInt (m_rst (m_c X σ_24 a) v1.toInt) := fun e => m_rst.m3 (by have := ahpσ_24 v1.toInt (by omega) (Or.inl (by omega)); omega) (dhpσ_24 e)
        refine lv_goto (tgt := 81) hx hb dX12_readRest_58 (by decide) ?_
        have kz := kwσ_24 v1.toInt (by omega) (Or.inl (by omega))
        rewrite [hQQ]; exact q_retv E hr hlk hI ⟨kwσ_24, (by first | exact smσ_24 | omega), nsσ_24, (by first | exact rsσ_24 | exact fun e => m_rst.m1 (by first | exact smσ_24 | omega) p1σ_24 | exact fun e => m_rst.m0 (by first | exact smσ_24 | omega) (by first | exact smσ_24 | omega) (by first | exact smσ_24 | omega)), (hF.trans hout), fr_σ_24⟩ dX12_readRest_81
    · skip
      replace hF := q_ifp hF c_14
      refine lv_aload_n hx hb dX12_readRest_17 rfl (lv_at hl 1 rfl) ?_
      refine gs_X12_35_12 E hI ha dX12_readRest_18 ?_
      refine lv_iload_n hx hb dX12_readRest_21 rfl (lv_at hl 2 rfl) ?_
      refine lv_iconst (v := 1) hx hb dX12_readRest_22 (by decide) ?_
      refine lv_iadd hx hb dX12_readRest_23 ?_
      refine lv_topi (fun z_25 ez_25 => ?_)
      replace hF := q_letX hF ez_25
      have iz_25 := q_addI (A := v1.toInt) (B := 1) ez_25 rfl (by decide) (by omega) (by omega)
      refine lv_aload_n hx hb dX12_readRest_24 rfl (lv_at hl 1 rfl) ?_
      refine lv_iconst (v := 0) hx hb dX12_readRest_25 (by decide) ?_
      have kc_26 : (0 : Int32).toInt = 0 := rfl
      refine q_ci (q_runV (As := [.int 0]) (rest := [.int z_25, .ref (q_rf X a 20)]) E (hml.trans hl.1.symm) hI (c_X12_readTold l X σ a (0 : Int32) ha (by first | exact sm_9 smσ | exact hs | omega) (Or.inl rfl) (by show m_c X σ a 2 ≤ 6; rw [kwσ 2 (by decide) (Or.inl (by omega))]; exact hc2)) kv_X12_226 ha ⟨rfl, by decide⟩ (show vwCl[11]? = some (RX12, TX12, 46) from rfl) rfl ⟨Nat.le_of_ble_eq_true rfl, Nat.le_of_ble_eq_true rfl⟩ ⟨Nat.le_refl _, Nat.le_refl _⟩ rfl (Nat.le_of_ble_eq_true rfl) dX12_readRest_26) hI (by decide) (fun r_27 σ_28 H locs hpσ_28 hkσ_28 hI => ?_)
      obtain ⟨ahpσ_28, bhpσ_28, chpσ_28, dhpσ_28, ehpσ_28⟩ := hpσ_28
      have fr_σ_28 := fr_σ.call ehpσ_28 rfl rfl
      replace hF := q_biX hF dhpσ_28
      have mv27_σ_28 : (σ_28.1 a 27).toInt = (σ.1 a 27).toInt := congrArg Int32.toInt (ahpσ_28 a 27 (q_cl9 _ _) (fun h => absurd h.2.2 (by decide)))
      have mcσ_28 := m_cK hkσ_28 hI.1 ha (by decide)
      have kwσ_28 : ∀ j, 0 ≤ j → (j < v1.toInt + 1 ∨ v1.toInt + 8 ≤ j) → m_c X σ_28 a j = m_c X σ a j := fun j h0 h1 => (mcσ_28 j).trans (kwσ j h0 h1)
      have smσ_28 : 0 ≤ (σ_28.1 a 15).toInt ∧ (σ_28.1 a 15).toInt ≤ (σ_28.1 a 16).toInt ∧ (σ_28.1 a 16).toInt ≤ (σ_28.1 a 9).toInt ∧ (σ_28.1 a 9).toInt ≤ 900 ∧ 0 ≤ (σ_28.1 a 14).toInt ∧ (σ_28.1 a 14).toInt ≤ 4 ∧ (σ_28.1 a 14).toInt ≤ 4 * ((σ_28.1 a 16).toInt - (σ_28.1 a 15).toInt) ∧ (σ_28.1 a 14).toInt ≤ 4 * ((σ_28.1 a 9).toInt - (σ_28.1 a 15).toInt) ∧ 0 ≤ (σ_28.1 a 12).toInt ∧ (σ_28.1 a 9).toInt = (σ.1 a 9).toInt ∧ (σ.1 a 15).toInt ≤ (σ_28.1 a 15).toInt ∧ (σ.1 a 12).toInt ≤ (σ_28.1 a 12).toInt := (by first | exact sm_tr smσ bhpσ_28 | exact sm_tr smσ chpσ_28 | omega)
      have nsσ_28 : (σ_28.1 a 27).toInt = (σ.1 a 27).toInt := (by omega)
      clear mv27_σ_28 smσ nsσ bhpσ_28
      refine q_iastN E hI (q_tk (k' := 34) hI ha rfl (by decide)) ⟨by decide, rfl⟩ (by omega) (by rw [q_lnk (v := 4650) hI (q_tk (k' := 34) hI ha rfl (by decide)) rfl (by decide)]; omega) (show 1 < 2 by decide) (q_inU rfl) dX12_readRest_29 (fun H locs σ_29 hσ_29 hI => ?_)
      replace hF := q_letX hF hσ_29
      have fr_σ_29 := fr_σ_28.si hσ_29 (q_tk (k' := 34) hI ha rfl (by decide)) rfl
      have mv9_σ_29 : (σ_29.1 a 9).toInt = (σ_28.1 a 9).toInt := congrArg Int32.toInt (q_rdn hσ_29 (Or.inl (m_ne ha (q_tk (k' := 34) hI ha rfl (by decide)) (by decide))))
      have mv12_σ_29 : (σ_29.1 a 12).toInt = (σ_28.1 a 12).toInt := congrArg Int32.toInt (q_rdn hσ_29 (Or.inl (m_ne ha (q_tk (k' := 34) hI ha rfl (by decide)) (by decide))))
      have mv14_σ_29 : (σ_29.1 a 14).toInt = (σ_28.1 a 14).toInt := congrArg Int32.toInt (q_rdn hσ_29 (Or.inl (m_ne ha (q_tk (k' := 34) hI ha rfl (by decide)) (by decide))))
      have mv15_σ_29 : (σ_29.1 a 15).toInt = (σ_28.1 a 15).toInt := congrArg Int32.toInt (q_rdn hσ_29 (Or.inl (m_ne ha (q_tk (k' := 34) hI ha rfl (by decide)) (by decide))))
      have mv16_σ_29 : (σ_29.1 a 16).toInt = (σ_28.1 a 16).toInt := congrArg Int32.toInt (q_rdn hσ_29 (Or.inl (m_ne ha (q_tk (k' := 34) hI ha rfl (by decide)) (by decide))))
      have mv27_σ_29 : (σ_29.1 a 27).toInt = (σ_28.1 a 27).toInt := congrArg Int32.toInt (q_rdn hσ_29 (Or.inl (m_ne ha (q_tk (k' := 34) hI ha rfl (by decide)) (by decide))))
      have mcσ_29 := m_wr (v := r_27) (A := (v1.toInt + 1)) hσ_29 iz_25 (by omega)
      have kwσ_29 : ∀ j, 0 ≤ j → (j < v1.toInt + 1 ∨ v1.toInt + 8 ≤ j) → m_c X σ_29 a j = m_c X σ a j := fun j h0 h1 => by rw [mcσ_29 j h0, if_neg (by omega)]; exact kwσ_28 j h0 h1
      have smσ_29 : 0 ≤ (σ_29.1 a 15).toInt ∧ (σ_29.1 a 15).toInt ≤ (σ_29.1 a 16).toInt ∧ (σ_29.1 a 16).toInt ≤ (σ_29.1 a 9).toInt ∧ (σ_29.1 a 9).toInt ≤ 900 ∧ 0 ≤ (σ_29.1 a 14).toInt ∧ (σ_29.1 a 14).toInt ≤ 4 ∧ (σ_29.1 a 14).toInt ≤ 4 * ((σ_29.1 a 16).toInt - (σ_29.1 a 15).toInt) ∧ (σ_29.1 a 14).toInt ≤ 4 * ((σ_29.1 a 9).toInt - (σ_29.1 a 15).toInt) ∧ 0 ≤ (σ_29.1 a 12).toInt ∧ (σ_29.1 a 9).toInt = (σ.1 a 9).toInt ∧ (σ.1 a 15).toInt ≤ (σ_29.1 a 15).toInt ∧ (σ.1 a 12).toInt ≤ (σ_29.1 a 12).toInt := (by first | (rw [mv12_σ_29, mv14_σ_29, mv15_σ_29, mv16_σ_29, mv9_σ_29]; exact smσ_28) | omega)
      have nsσ_29 : (σ_29.1 a 27).toInt = (σ.1 a 27).toInt := (by omega)
      have p1σ_29 : 0 ≤ m_c X σ_29 a (v1.toInt + 1) ∧ m_c X σ_29 a (v1.toInt + 1) ≤ 5 := (by have := mcσ_29 (v1.toInt + 1) (by omega); rw [if_pos rfl] at this; omega)
      clear mv9_σ_29 mv12_σ_29 mv14_σ_29 mv15_σ_29 mv16_σ_29 mv27_σ_29 smσ_28 nsσ_28
      refine lv_aload_n hx hb dX12_readRest_30 rfl (lv_at hl 1 rfl) ?_
      refine gs_X12_35_12 E hI ha dX12_readRest_31 ?_
      refine lv_iload_n hx hb dX12_readRest_34 rfl (lv_at hl 2 rfl) ?_
      refine lv_iconst (v := 2) hx hb dX12_readRest_35 (by decide) ?_
      refine lv_iadd hx hb dX12_readRest_36 ?_
      refine lv_topi (fun z_30 ez_30 => ?_)
      replace hF := q_letX hF ez_30
      have iz_30 := q_addI (A := v1.toInt) (B := 2) ez_30 rfl (by decide) (by omega) (by omega)
      refine lv_aload_n hx hb dX12_readRest_37 rfl (lv_at hl 1 rfl) ?_
      refine lv_iconst (v := 0) hx hb dX12_readRest_38 (by decide) ?_
      refine lv_bipush (v := 16) hx hb dX12_readRest_39 (by decide) ?_
      have kc_31 : (0 : Int32).toInt = 0 := rfl
      have kc_32 : (16 : Int32).toInt = 16 := rfl
      refine q_ci (q_runV (As := [.int 0, .int 16]) (rest := [.int z_30, .ref (q_rf X a 20)]) E (hml.trans hl.1.symm) hI (c_X12_count l X σ_29 a (0 : Int32) (16 : Int32) ha (by first | exact sm_9 smσ_29 | exact hs | omega) (by omega)) kv_X12_223 ha ⟨rfl, by decide⟩ (show vwCl[11]? = some (RX12, TX12, 46) from rfl) rfl ⟨Nat.le_of_ble_eq_true rfl, Nat.le_of_ble_eq_true rfl⟩ ⟨Nat.le_refl _, Nat.le_refl _⟩ rfl (Nat.le_of_ble_eq_true rfl) dX12_readRest_41) hI (by decide) (fun r_33 σ_34 H locs hpσ_34 hkσ_34 hI => ?_)
      obtain ⟨ahpσ_34, bhpσ_34, chpσ_34, dhpσ_34, ehpσ_34⟩ := hpσ_34
      have fr_σ_34 := fr_σ_29.call ehpσ_34 rfl rfl
      replace hF := q_biX hF dhpσ_34
      have mv27_σ_34 : (σ_34.1 a 27).toInt = (σ_29.1 a 27).toInt := congrArg Int32.toInt (ahpσ_34 a 27 (q_cl9 _ _) (fun h => absurd h.2.2 (by decide)))
      have mcσ_34 := m_cK hkσ_34 hI.1 ha (by decide)
      have kwσ_34 : ∀ j, 0 ≤ j → (j < v1.toInt + 1 ∨ v1.toInt + 8 ≤ j) → m_c X σ_34 a j = m_c X σ a j := fun j h0 h1 => (mcσ_34 j).trans (kwσ_29 j h0 h1)
      have smσ_34 : 0 ≤ (σ_34.1 a 15).toInt ∧ (σ_34.1 a 15).toInt ≤ (σ_34.1 a 16).toInt ∧ (σ_34.1 a 16).toInt ≤ (σ_34.1 a 9).toInt ∧ (σ_34.1 a 9).toInt ≤ 900 ∧ 0 ≤ (σ_34.1 a 14).toInt ∧ (σ_34.1 a 14).toInt ≤ 4 ∧ (σ_34.1 a 14).toInt ≤ 4 * ((σ_34.1 a 16).toInt - (σ_34.1 a 15).toInt) ∧ (σ_34.1 a 14).toInt ≤ 4 * ((σ_34.1 a 9).toInt - (σ_34.1 a 15).toInt) ∧ 0 ≤ (σ_34.1 a 12).toInt ∧ (σ_34.1 a 9).toInt = (σ.1 a 9).toInt ∧ (σ.1 a 15).toInt ≤ (σ_34.1 a 15).toInt ∧ (σ.1 a 12).toInt ≤ (σ_34.1 a 12).toInt := (by first | exact sm_tr smσ_29 bhpσ_34 | exact sm_tr smσ_29 chpσ_34 | omega)
      have nsσ_34 : (σ_34.1 a 27).toInt = (σ.1 a 27).toInt := (by omega)
      have p1σ_34 : 0 ≤ m_c X σ_34 a (v1.toInt + 1) ∧ m_c X σ_34 a (v1.toInt + 1) ≤ 5 := (by have := mcσ_34 (v1.toInt + 1); omega)
      clear mv27_σ_34 smσ_29 nsσ_29 bhpσ_34
      refine q_iastN E hI (q_tk (k' := 34) hI ha rfl (by decide)) ⟨by decide, rfl⟩ (by omega) (by rw [q_lnk (v := 4650) hI (q_tk (k' := 34) hI ha rfl (by decide)) rfl (by decide)]; omega) (show 1 < 2 by decide) (q_inU rfl) dX12_readRest_44 (fun H locs σ_35 hσ_35 hI => ?_)
      replace hF := q_letX hF hσ_35
      have fr_σ_35 := fr_σ_34.si hσ_35 (q_tk (k' := 34) hI ha rfl (by decide)) rfl
      have mv9_σ_35 : (σ_35.1 a 9).toInt = (σ_34.1 a 9).toInt := congrArg Int32.toInt (q_rdn hσ_35 (Or.inl (m_ne ha (q_tk (k' := 34) hI ha rfl (by decide)) (by decide))))
      have mv12_σ_35 : (σ_35.1 a 12).toInt = (σ_34.1 a 12).toInt := congrArg Int32.toInt (q_rdn hσ_35 (Or.inl (m_ne ha (q_tk (k' := 34) hI ha rfl (by decide)) (by decide))))
      have mv14_σ_35 : (σ_35.1 a 14).toInt = (σ_34.1 a 14).toInt := congrArg Int32.toInt (q_rdn hσ_35 (Or.inl (m_ne ha (q_tk (k' := 34) hI ha rfl (by decide)) (by decide))))
      have mv15_σ_35 : (σ_35.1 a 15).toInt = (σ_34.1 a 15).toInt := congrArg Int32.toInt (q_rdn hσ_35 (Or.inl (m_ne ha (q_tk (k' := 34) hI ha rfl (by decide)) (by decide))))
      have mv16_σ_35 : (σ_35.1 a 16).toInt = (σ_34.1 a 16).toInt := congrArg Int32.toInt (q_rdn hσ_35 (Or.inl (m_ne ha (q_tk (k' := 34) hI ha rfl (by decide)) (by decide))))
      have mv27_σ_35 : (σ_35.1 a 27).toInt = (σ_34.1 a 27).toInt := congrArg Int32.toInt (q_rdn hσ_35 (Or.inl (m_ne ha (q_tk (k' := 34) hI ha rfl (by decide)) (by decide))))
      have mcσ_35 := m_wr (v := r_33) (A := (v1.toInt + 2)) hσ_35 iz_30 (by omega)
      have kwσ_35 : ∀ j, 0 ≤ j → (j < v1.toInt + 1 ∨ v1.toInt + 8 ≤ j) → m_c X σ_35 a j = m_c X σ a j := fun j h0 h1 => by rw [mcσ_35 j h0, if_neg (by omega)]; exact kwσ_34 j h0 h1
      have smσ_35 : 0 ≤ (σ_35.1 a 15).toInt ∧ (σ_35.1 a 15).toInt ≤ (σ_35.1 a 16).toInt ∧ (σ_35.1 a 16).toInt ≤ (σ_35.1 a 9).toInt ∧ (σ_35.1 a 9).toInt ≤ 900 ∧ 0 ≤ (σ_35.1 a 14).toInt ∧ (σ_35.1 a 14).toInt ≤ 4 ∧ (σ_35.1 a 14).toInt ≤ 4 * ((σ_35.1 a 16).toInt - (σ_35.1 a 15).toInt) ∧ (σ_35.1 a 14).toInt ≤ 4 * ((σ_35.1 a 9).toInt - (σ_35.1 a 15).toInt) ∧ 0 ≤ (σ_35.1 a 12).toInt ∧ (σ_35.1 a 9).toInt = (σ.1 a 9).toInt ∧ (σ.1 a 15).toInt ≤ (σ_35.1 a 15).toInt ∧ (σ.1 a 12).toInt ≤ (σ_35.1 a 12).toInt := (by first | (rw [mv12_σ_35, mv14_σ_35, mv15_σ_35, mv16_σ_35, mv9_σ_35]; exact smσ_34) | omega)
      have nsσ_35 : (σ_35.1 a 27).toInt = (σ.1 a 27).toInt := (by omega)
      have p1σ_35 : 0 ≤ m_c X σ_35 a (v1.toInt + 1) ∧ m_c X σ_35 a (v1.toInt + 1) ≤ 5 := (by have := mcσ_35 (v1.toInt + 1) (by omega); rw [if_neg (by omega)] at this; omega)
      clear mv9_σ_35 mv12_σ_35 mv14_σ_35 mv15_σ_35 mv16_σ_35 mv27_σ_35 smσ_34 nsσ_34
      refine lv_goto (tgt := 81) hx hb dX12_readRest_45 (by decide) ?_
      have kz := kwσ_35 v1.toInt (by omega) (Or.inl (by omega))
      rewrite [hQQ]; exact q_retv E hr hlk hI ⟨kwσ_35, (by first | exact smσ_35 | omega), nsσ_35, (by first | exact rsσ_35 | exact fun e => m_rst.m1 (by first | exact smσ_35 | omega) p1σ_35 | exact fun e => m_rst.m0 (by first | exact smσ_35 | omega) (by first | exact smσ_35 | omega) (by first | exact smσ_35 | omega)), (hF.trans hout), fr_σ_35⟩ dX12_readRest_81
end
