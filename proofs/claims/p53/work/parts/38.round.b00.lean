/-! FROM 38.round.b00.lean.txt -/
section
set_option maxRecDepth 100000 in
set_option maxHeartbeats 4000000 in
theorem c_X12_readTest (l : Launch) (X : XW) (σ : ST) (a : Nat) (v1 : Int32) (ha : q_kd X a = 12) (hs : 0 ≤ (σ.1 a 15).toInt ∧ (σ.1 a 15).toInt ≤ (σ.1 a 16).toInt ∧ (σ.1 a 16).toInt ≤ (σ.1 a 9).toInt ∧ (σ.1 a 9).toInt ≤ 900 ∧ 0 ≤ (σ.1 a 14).toInt ∧ (σ.1 a 14).toInt ≤ 4 ∧ (σ.1 a 14).toInt ≤ 4 * ((σ.1 a 16).toInt - (σ.1 a 15).toInt) ∧ (σ.1 a 14).toInt ≤ 4 * ((σ.1 a 9).toInt - (σ.1 a 15).toInt) ∧ 0 ≤ (σ.1 a 12).toInt) (hw : 4376 ≤ v1.toInt ∧ v1.toInt ≤ 4637) (hc2 : m_c X σ a 2 ≤ 6) : Met l yX12_readTest (q_ws yX12_readTest cX12_readTest 3 none) (q_rm 6 129) (q_P X σ [.ref a, .int v1]) (q_Qv X 1 σ (fun (σ' : ST) => (∀ j, 0 ≤ j → (j < v1.toInt + 1 ∨ v1.toInt + 8 ≤ j) → m_c X σ' a j = m_c X σ a j) ∧ (0 ≤ (σ'.1 a 15).toInt ∧ (σ'.1 a 15).toInt ≤ (σ'.1 a 16).toInt ∧ (σ'.1 a 16).toInt ≤ (σ'.1 a 9).toInt ∧ (σ'.1 a 9).toInt ≤ 900 ∧ 0 ≤ (σ'.1 a 14).toInt ∧ (σ'.1 a 14).toInt ≤ 4 ∧ (σ'.1 a 14).toInt ≤ 4 * ((σ'.1 a 16).toInt - (σ'.1 a 15).toInt) ∧ (σ'.1 a 14).toInt ≤ 4 * ((σ'.1 a 9).toInt - (σ'.1 a 15).toInt) ∧ 0 ≤ (σ'.1 a 12).toInt ∧ (σ'.1 a 9).toInt = (σ.1 a 9).toInt ∧ (σ.1 a 15).toInt ≤ (σ'.1 a 15).toInt ∧ (σ.1 a 12).toInt ≤ (σ'.1 a 12).toInt) ∧ ((σ'.1 a 27).toInt = (σ.1 a 27).toInt) ∧ (m_oz (σ'.1 a 12).toInt (m_tst (m_c X σ' a) v1.toInt)) ∧ σ' = F_X12_readTest X σ a v1 ∧ q_ow [(12, 12), (12, 13), (12, 14), (12, 15), (12, 16), (12, 17), (12, 18), (34, 99)] [(12, 19)] X σ σ')) 0 0 (q_reg X) := by
  refine q_metQ 1 (by first | exact rfl | decide +kernel) rfl (Nat.le_of_ble_eq_true rfl) (fun QQ hQQ p e s m below meth c E hml hr hlk hI ls hl => ?_)
  have hx := E.1
  have hb := E.2.1
  have hl : lv_has ls 3 [(0, .ref a), (1, .int v1)] := hl
  have kwσ : ∀ j, 0 ≤ j → (j < v1.toInt + 1 ∨ v1.toInt + 8 ≤ j) → m_c X σ a j = m_c X σ a j := fun _ _ _ => rfl
  have smσ : 0 ≤ (σ.1 a 15).toInt ∧ (σ.1 a 15).toInt ≤ (σ.1 a 16).toInt ∧ (σ.1 a 16).toInt ≤ (σ.1 a 9).toInt ∧ (σ.1 a 9).toInt ≤ 900 ∧ 0 ≤ (σ.1 a 14).toInt ∧ (σ.1 a 14).toInt ≤ 4 ∧ (σ.1 a 14).toInt ≤ 4 * ((σ.1 a 16).toInt - (σ.1 a 15).toInt) ∧ (σ.1 a 14).toInt ≤ 4 * ((σ.1 a 9).toInt - (σ.1 a 15).toInt) ∧ 0 ≤ (σ.1 a 12).toInt ∧ (σ.1 a 9).toInt = (σ.1 a 9).toInt ∧ (σ.1 a 15).toInt ≤ (σ.1 a 15).toInt ∧ (σ.1 a 12).toInt ≤ (σ.1 a 12).toInt := (by first | (clear hw hc2; omega) | omega)
  have nsσ : (σ.1 a 27).toInt = (σ.1 a 27).toInt := rfl
  have fr_σ : q_ow [(12, 12), (12, 13), (12, 14), (12, 15), (12, 16), (12, 17), (12, 18), (34, 99)] [(12, 19)] X σ σ := q_ow.rf
  obtain ⟨out, hout⟩ : ∃ o, o = F_X12_readTest X σ a v1 := ⟨_, rfl⟩
  have hF := hout.symm
  unfold F_X12_readTest at hF
  refine lv_aload_n hx hb dX12_readTest_0 rfl (lv_at hl 0 rfl) ?_
  refine q_ci (q_rV11_0 (rest := []) E (hml.trans hl.1.symm) hI (c_X12_testWord l X σ a ha) kv_X12_178 ha ⟨Nat.le_of_ble_eq_true rfl, Nat.le_of_ble_eq_true rfl⟩ (Nat.le_of_ble_eq_true rfl) dX12_readTest_1) hI (Nat.le_of_ble_eq_true rfl) (fun r_1 σ_2 H locs hpσ_2 hkσ_2 hI => ?_)
  have ahpσ_2 := hpσ_2.1
  have bhpσ_2 := hpσ_2.2.1
  have chpσ_2 := hpσ_2.2.2
  clear hpσ_2
  replace hI := q_Irw ahpσ_2 hI
  replace hF := q_letX hF chpσ_2
  refine lv_istore_n (lv' := [(2, .int r_1), (0, .ref a), (1, .int v1)]) hx hb dX12_readTest_4 rfl hl (by decide) rfl (fun ls hl => ?_)
  refine lv_aload_n hx hb dX12_readTest_5 rfl (lv_at hl 1 rfl) ?_
  refine lv_iload_n hx hb dX12_readTest_6 rfl (lv_at hl 0 rfl) ?_
  have J_15_3 : ∀ (x_3 : Int32) (H : Heap) (locs : List Loc) (ls : Array Slot), (0 ≤ x_3.toInt ∧ x_3.toInt ≤ 1 ∧ x_3.toInt ≤ r_1.toInt + 1) → (F_X12_readTest_J15_1 X σ a v1 r_1 x_3 = out) → q_I X 1 σ s.heap locs σ H → lv_has ls 3 [(0, .ref a), (1, .int v1), (2, .int r_1)] → W p l e (q_rm 6 129) s m ([.ref a, .int v1] : List Value).toArray below meth c H locs 0 0 (MQ below QQ ([.ref a, .int v1] : List Value).toArray s 0 0 (q_reg X)) (F0 m 15 ls [.int x_3, .ref a]) := by
    clear hF
    intro x_3 H locs ls j15 hF hI hl
    unfold F_X12_readTest_J15_1 at hF
    refine q_cv (q_rV11_1 (rest := []) E (hml.trans hl.1.symm) hI (c_X12_must l X σ a x_3 ha (by first | exact sm_9 smσ | exact hs | omega) (by first | (clear hs hw hc2 smσ nsσ ahpσ_2 bhpσ_2 chpσ_2; omega) | omega)) kv_X12_216 ha ⟨Nat.le_of_ble_eq_true rfl, Nat.le_of_ble_eq_true rfl⟩ (Nat.le_of_ble_eq_true rfl) dX12_readTest_15) hI (Nat.le_of_ble_eq_true rfl) (fun σ_5 H locs hpσ_5 hkσ_5 hI => ?_)
    have ahpσ_5 := hpσ_5.1
    have bhpσ_5 := hpσ_5.2.1
    have chpσ_5 := hpσ_5.2.2.1
    have dhpσ_5 := hpσ_5.2.2.2.1
    have ehpσ_5 := hpσ_5.2.2.2.2
    clear hpσ_5
    have fr_σ_5 := fr_σ.call ehpσ_5 rfl rfl
    replace hF := q_letX hF dhpσ_5
    have mv27_σ_5 : (σ_5.1 a 27).toInt = (σ.1 a 27).toInt := congrArg Int32.toInt (ahpσ_5 a 27 (q_cl9 _ _) (fun h => absurd h.2.2 (by decide)))
    have mcσ_5 := m_cK hkσ_5 hI.1 ha (by decide)
    have kwσ_5 : ∀ j, 0 ≤ j → (j < v1.toInt + 1 ∨ v1.toInt + 8 ≤ j) → m_c X σ_5 a j = m_c X σ a j := fun j h0 h1 => (mcσ_5 j).trans (kwσ j h0 h1)
    have smσ_5 : 0 ≤ (σ_5.1 a 15).toInt ∧ (σ_5.1 a 15).toInt ≤ (σ_5.1 a 16).toInt ∧ (σ_5.1 a 16).toInt ≤ (σ_5.1 a 9).toInt ∧ (σ_5.1 a 9).toInt ≤ 900 ∧ 0 ≤ (σ_5.1 a 14).toInt ∧ (σ_5.1 a 14).toInt ≤ 4 ∧ (σ_5.1 a 14).toInt ≤ 4 * ((σ_5.1 a 16).toInt - (σ_5.1 a 15).toInt) ∧ (σ_5.1 a 14).toInt ≤ 4 * ((σ_5.1 a 9).toInt - (σ_5.1 a 15).toInt) ∧ 0 ≤ (σ_5.1 a 12).toInt ∧ (σ_5.1 a 9).toInt = (σ.1 a 9).toInt ∧ (σ.1 a 15).toInt ≤ (σ_5.1 a 15).toInt ∧ (σ.1 a 12).toInt ≤ (σ_5.1 a 12).toInt := (by first | exact sm_tr smσ bhpσ_5 | exact sm_tr smσ chpσ_5 | omega)
    have nsσ_5 : (σ_5.1 a 27).toInt = (σ.1 a 27).toInt := (by omega)
    have t5σ_5 : 0 ≤ r_1.toInt + (σ_5.1 a 12).toInt := (by first | (clear hs hw hc2 smσ nsσ ahpσ_2 bhpσ_2 chpσ_2 ahpσ_5 bhpσ_5 dhpσ_5 ehpσ_5 mv27_σ_5 smσ_5 nsσ_5; omega) | omega)
    clear mv27_σ_5 smσ nsσ bhpσ_5
    refine lv_aload_n hx hb dX12_readTest_18 rfl (lv_at hl 0 rfl) ?_
    refine gs_X12_35_12 E hI ha dX12_readTest_19 ?_
    refine lv_iload_n hx hb dX12_readTest_22 rfl (lv_at hl 1 rfl) ?_
    refine lv_bipush (v := 6) hx hb dX12_readTest_23 zkb_6 ?_
    refine lv_iadd hx hb dX12_readTest_25 ?_
    refine lv_topi (fun z_6 ez_6 => ?_)
    replace hF := q_letX hF ez_6
    have iz_6 := q_addI (A := v1.toInt) (B := 6) ez_6 rfl (by decide) (by first | (clear hs hc2 ahpσ_2 bhpσ_2 chpσ_2 j15 ahpσ_5 chpσ_5 dhpσ_5 ehpσ_5 smσ_5 nsσ_5 t5σ_5; omega) | omega) (by first | (clear hs hc2 ahpσ_2 bhpσ_2 chpσ_2 j15 ahpσ_5 chpσ_5 dhpσ_5 ehpσ_5 smσ_5 nsσ_5 t5σ_5; omega) | omega)
    refine lv_iload_n hx hb dX12_readTest_26 rfl (lv_at hl 2 rfl) ?_
    refine q_iastN E hI (q_tk (k' := 34) hI ha rfl (Nat.succ_ne_zero _)) ⟨by decide, rfl⟩ (by first | (clear hs hc2 ahpσ_2 bhpσ_2 chpσ_2 j15 ahpσ_5 chpσ_5 dhpσ_5 ehpσ_5 smσ_5 nsσ_5 t5σ_5; omega) | omega) (by rw [q_lnk (v := 4650) hI (q_tk (k' := 34) hI ha rfl (Nat.succ_ne_zero _)) rfl (by decide)]; omega) (show 1 < 2 by decide) (q_inU rfl) dX12_readTest_27 (fun H locs σ_7 hσ_7 hI => ?_)
    replace hF := q_letX hF hσ_7
    have fr_σ_7 := fr_σ_5.si hσ_7 (q_tk (k' := 34) hI ha rfl (Nat.succ_ne_zero _)) rfl
    have mv9_σ_7 : (σ_7.1 a 9).toInt = (σ_5.1 a 9).toInt := congrArg Int32.toInt (q_rdn hσ_7 (Or.inl (m_ne ha (q_tk (k' := 34) hI ha rfl (Nat.succ_ne_zero _)) (by decide))))
    have mv12_σ_7 : (σ_7.1 a 12).toInt = (σ_5.1 a 12).toInt := congrArg Int32.toInt (q_rdn hσ_7 (Or.inl (m_ne ha (q_tk (k' := 34) hI ha rfl (Nat.succ_ne_zero _)) (by decide))))
    have mv14_σ_7 : (σ_7.1 a 14).toInt = (σ_5.1 a 14).toInt := congrArg Int32.toInt (q_rdn hσ_7 (Or.inl (m_ne ha (q_tk (k' := 34) hI ha rfl (Nat.succ_ne_zero _)) (by decide))))
    have mv15_σ_7 : (σ_7.1 a 15).toInt = (σ_5.1 a 15).toInt := congrArg Int32.toInt (q_rdn hσ_7 (Or.inl (m_ne ha (q_tk (k' := 34) hI ha rfl (Nat.succ_ne_zero _)) (by decide))))
    have mv16_σ_7 : (σ_7.1 a 16).toInt = (σ_5.1 a 16).toInt := congrArg Int32.toInt (q_rdn hσ_7 (Or.inl (m_ne ha (q_tk (k' := 34) hI ha rfl (Nat.succ_ne_zero _)) (by decide))))
    have mv27_σ_7 : (σ_7.1 a 27).toInt = (σ_5.1 a 27).toInt := congrArg Int32.toInt (q_rdn hσ_7 (Or.inl (m_ne ha (q_tk (k' := 34) hI ha rfl (Nat.succ_ne_zero _)) (by decide))))
    have mcσ_7 := m_wr (v := r_1) (A := (v1.toInt + 6)) hσ_7 iz_6 (by first | (clear hs hc2 ahpσ_2 bhpσ_2 chpσ_2 j15 ahpσ_5 chpσ_5 dhpσ_5 ehpσ_5 smσ_5 nsσ_5 t5σ_5 mv9_σ_7 mv12_σ_7 mv14_σ_7 mv15_σ_7 mv16_σ_7 mv27_σ_7; omega) | omega)
    have kwσ_7 : ∀ j, 0 ≤ j → (j < v1.toInt + 1 ∨ v1.toInt + 8 ≤ j) → m_c X σ_7 a j = m_c X σ a j := fun j h0 h1 => by rw [mcσ_7 j h0, if_neg (by first | (clear hs hw hc2 ahpσ_2 bhpσ_2 chpσ_2 j15 ahpσ_5 chpσ_5 dhpσ_5 ehpσ_5 smσ_5 nsσ_5 t5σ_5 mv9_σ_7 mv12_σ_7 mv14_σ_7 mv15_σ_7 mv16_σ_7 mv27_σ_7; omega) | omega)]; exact kwσ_5 j h0 h1
    have smσ_7 : 0 ≤ (σ_7.1 a 15).toInt ∧ (σ_7.1 a 15).toInt ≤ (σ_7.1 a 16).toInt ∧ (σ_7.1 a 16).toInt ≤ (σ_7.1 a 9).toInt ∧ (σ_7.1 a 9).toInt ≤ 900 ∧ 0 ≤ (σ_7.1 a 14).toInt ∧ (σ_7.1 a 14).toInt ≤ 4 ∧ (σ_7.1 a 14).toInt ≤ 4 * ((σ_7.1 a 16).toInt - (σ_7.1 a 15).toInt) ∧ (σ_7.1 a 14).toInt ≤ 4 * ((σ_7.1 a 9).toInt - (σ_7.1 a 15).toInt) ∧ 0 ≤ (σ_7.1 a 12).toInt ∧ (σ_7.1 a 9).toInt = (σ.1 a 9).toInt ∧ (σ.1 a 15).toInt ≤ (σ_7.1 a 15).toInt ∧ (σ.1 a 12).toInt ≤ (σ_7.1 a 12).toInt := (by first | (rw [mv12_σ_7, mv14_σ_7, mv15_σ_7, mv16_σ_7, mv9_σ_7]; exact smσ_5) | omega)
    have nsσ_7 : (σ_7.1 a 27).toInt = (σ.1 a 27).toInt := (by first | (clear hs hw hc2 ahpσ_2 bhpσ_2 chpσ_2 j15 ahpσ_5 chpσ_5 dhpσ_5 ehpσ_5 smσ_5 t5σ_5 iz_6 mv9_σ_7 mv12_σ_7 mv14_σ_7 mv15_σ_7 mv16_σ_7 smσ_7; omega) | omega)
    have t5σ_7 : 0 ≤ r_1.toInt + (σ_7.1 a 12).toInt := (by first | (clear hs hw hc2 ahpσ_2 bhpσ_2 chpσ_2 j15 ahpσ_5 chpσ_5 dhpσ_5 ehpσ_5 smσ_5 nsσ_5 iz_6 mv9_σ_7 mv14_σ_7 mv15_σ_7 mv16_σ_7 mv27_σ_7 smσ_7 nsσ_7; omega) | omega)
    have t6σ_7 : m_c X σ_7 a (v1.toInt + 6) = r_1.toInt := (by rw [mcσ_7 (v1.toInt + 6) (by first | (clear hs hc2 ahpσ_2 bhpσ_2 chpσ_2 j15 ahpσ_5 chpσ_5 dhpσ_5 ehpσ_5 smσ_5 nsσ_5 t5σ_5 mv9_σ_7 mv12_σ_7 mv14_σ_7 mv15_σ_7 mv16_σ_7 mv27_σ_7 smσ_7 nsσ_7 t5σ_7; omega) | omega), if_pos rfl])
    clear mv9_σ_7 mv12_σ_7 mv14_σ_7 mv15_σ_7 mv16_σ_7 mv27_σ_7 smσ_5 nsσ_5 t5σ_5
    refine lv_iload_n hx hb dX12_readTest_28 rfl (lv_at hl 2 rfl) ?_
    have J_50_8 : ∀  (σ_8 : ST) (H : Heap) (locs : List Loc) (ls : Array Slot), (m_t1 (m_c X σ_8 a) v1.toInt) → (q_ow [(12, 12), (12, 13), (12, 14), (12, 15), (12, 16), (12, 17), (12, 18), (34, 99)] [(12, 19)] X σ σ_8) → (∀ j, 0 ≤ j → (j < v1.toInt + 1 ∨ v1.toInt + 8 ≤ j) → m_c X σ_8 a j = m_c X σ a j) → (0 ≤ (σ_8.1 a 15).toInt ∧ (σ_8.1 a 15).toInt ≤ (σ_8.1 a 16).toInt ∧ (σ_8.1 a 16).toInt ≤ (σ_8.1 a 9).toInt ∧ (σ_8.1 a 9).toInt ≤ 900 ∧ 0 ≤ (σ_8.1 a 14).toInt ∧ (σ_8.1 a 14).toInt ≤ 4 ∧ (σ_8.1 a 14).toInt ≤ 4 * ((σ_8.1 a 16).toInt - (σ_8.1 a 15).toInt) ∧ (σ_8.1 a 14).toInt ≤ 4 * ((σ_8.1 a 9).toInt - (σ_8.1 a 15).toInt) ∧ 0 ≤ (σ_8.1 a 12).toInt ∧ (σ_8.1 a 9).toInt = (σ.1 a 9).toInt ∧ (σ.1 a 15).toInt ≤ (σ_8.1 a 15).toInt ∧ (σ.1 a 12).toInt ≤ (σ_8.1 a 12).toInt) → ((σ_8.1 a 27).toInt = (σ.1 a 27).toInt) → (0 ≤ r_1.toInt + (σ_8.1 a 12).toInt) → (m_c X σ_8 a (v1.toInt + 6) = r_1.toInt) → (F_X12_readTest_J50_2 X a r_1 v1 σ_8 = out) → q_I X 1 σ s.heap locs σ_8 H → lv_has ls 3 [(0, .ref a), (1, .int v1), (2, .int r_1)] → W p l e (q_rm 6 129) s m ([.ref a, .int v1] : List Value).toArray below meth c H locs 0 0 (MQ below QQ ([.ref a, .int v1] : List Value).toArray s 0 0 (q_reg X)) (F0 m 50 ls []) := by
      clear hF
      intro σ_8 H locs ls t1σ_8 fr_σ_8 kwσ_8 smσ_8 nsσ_8 t5σ_8 t6σ_8 hF hI hl
      try clear kwσ; try clear fr_σ; try clear ahpσ_2; try clear ahpσ_5; try clear fr_σ_5; try clear mcσ_5; try clear kwσ_5; try clear fr_σ_7; try clear mcσ_7; try clear kwσ_7; try clear smσ_7; try clear nsσ_7
      unfold F_X12_readTest_J50_2 at hF
      refine lv_aload_n hx hb dX12_readTest_50 rfl (lv_at hl 0 rfl) ?_
      refine gs_X12_187_12 E hI ha dX12_readTest_51 ?_
      refine lv_topi (fun f_9 ef_9 => ?_)
      replace hF := q_letX hF ef_9
      have if_9 : f_9.toInt = (σ_8.1 a 12).toInt := congrArg Int32.toInt ef_9
      refine q_if_gt (A := f_9.toInt) E rfl (tgt := 62) dX12_readTest_54 (by decide) (fun c_10 => ?_) (fun c_10 => ?_)
      · skip
        replace hF := q_ifp hF c_10
        rewrite [hQQ]; exact q_retv E hr hlk hI ⟨kwσ_8, (by first | exact smσ_8 | omega), nsσ_8, (fun e => ⟨by rw [t6σ_8]; omega, t1σ_8⟩), (hF.trans hout), fr_σ_8⟩ dX12_readTest_62
      · skip
        replace hF := q_ifn hF (Int.not_lt.mpr c_10)
        refine lv_iload_n hx hb dX12_readTest_57 rfl (lv_at hl 2 rfl) ?_
        refine lv_iconst (v := 3) hx hb dX12_readTest_58 zki_3 ?_
        refine q_icmp_ne (A := r_1.toInt) (B := 3) E rfl (by decide) (tgt := 63) dX12_readTest_59 (by decide) (fun c_11 => ?_) (fun c_11 => ?_)
        · skip
          replace hF := q_ifn hF c_11
          refine lv_aload_n hx hb dX12_readTest_63 rfl (lv_at hl 0 rfl) ?_
          refine gs_X12_35_12 E hI ha dX12_readTest_64 ?_
          refine lv_iload_n hx hb dX12_readTest_67 rfl (lv_at hl 1 rfl) ?_
          refine lv_bipush (v := 7) hx hb dX12_readTest_68 zkb_7 ?_
          refine lv_iadd hx hb dX12_readTest_70 ?_
          refine lv_topi (fun z_12 ez_12 => ?_)
          replace hF := q_letX hF ez_12
          have iz_12 := q_addI (A := v1.toInt) (B := 7) ez_12 rfl (by decide) (by first | (clear hs hc2 bhpσ_2 chpσ_2 j15 chpσ_5 dhpσ_5 ehpσ_5 t5σ_7 t6σ_7 t1σ_8 smσ_8 nsσ_8 t5σ_8 t6σ_8 if_9 c_10 c_11; omega) | omega) (by first | (clear hs hc2 bhpσ_2 chpσ_2 j15 chpσ_5 dhpσ_5 ehpσ_5 t5σ_7 t6σ_7 t1σ_8 smσ_8 nsσ_8 t5σ_8 t6σ_8 if_9 c_10 c_11; omega) | omega)
          refine lv_aload_n hx hb dX12_readTest_71 rfl (lv_at hl 0 rfl) ?_
          refine gs_X12_110_12 E hI ha dX12_readTest_72 ?_
          refine lv_topi (fun f_13 ef_13 => ?_)
          replace hF := q_letX hF ef_13
          have if_13 : f_13.toInt = (σ_8.1 a 14).toInt := congrArg Int32.toInt ef_13
          refine lv_iconst (v := 3) hx hb dX12_readTest_75 zki_3 ?_
          refine q_icmp_ne (A := f_13.toInt) (B := 3) E rfl (by decide) (tgt := 86) dX12_readTest_76 (by decide) (fun c_14 => ?_) (fun c_14 => ?_)
          · skip
            replace hF := q_ifn hF c_14
            refine lv_iconst (v := 0) hx hb dX12_readTest_86 zki_0 ?_
            have kc_16 : (0 : Int32).toInt = 0 := zt_0
            refine q_iastN E hI (q_tk (k' := 34) hI ha rfl (Nat.succ_ne_zero _)) ⟨by decide, rfl⟩ (by first | (clear hs hc2 bhpσ_2 chpσ_2 j15 chpσ_5 dhpσ_5 ehpσ_5 t5σ_7 t6σ_7 t1σ_8 smσ_8 nsσ_8 t5σ_8 t6σ_8 if_9 c_10 c_11 if_13 c_14 kc_16; omega) | omega) (by rw [q_lnk (v := 4650) hI (q_tk (k' := 34) hI ha rfl (Nat.succ_ne_zero _)) rfl (by decide)]; omega) (show 1 < 2 by decide) (q_inU rfl) dX12_readTest_87 (fun H locs σ_15 hσ_15 hI => ?_)
            replace hF := q_letX hF hσ_15
            have fr_σ_15 := fr_σ_8.si hσ_15 (q_tk (k' := 34) hI ha rfl (Nat.succ_ne_zero _)) rfl
            have mv9_σ_15 : (σ_15.1 a 9).toInt = (σ_8.1 a 9).toInt := congrArg Int32.toInt (q_rdn hσ_15 (Or.inl (m_ne ha (q_tk (k' := 34) hI ha rfl (Nat.succ_ne_zero _)) (by decide))))
            have mv12_σ_15 : (σ_15.1 a 12).toInt = (σ_8.1 a 12).toInt := congrArg Int32.toInt (q_rdn hσ_15 (Or.inl (m_ne ha (q_tk (k' := 34) hI ha rfl (Nat.succ_ne_zero _)) (by decide))))
            have mv14_σ_15 : (σ_15.1 a 14).toInt = (σ_8.1 a 14).toInt := congrArg Int32.toInt (q_rdn hσ_15 (Or.inl (m_ne ha (q_tk (k' := 34) hI ha rfl (Nat.succ_ne_zero _)) (by decide))))
            have mv15_σ_15 : (σ_15.1 a 15).toInt = (σ_8.1 a 15).toInt := congrArg Int32.toInt (q_rdn hσ_15 (Or.inl (m_ne ha (q_tk (k' := 34) hI ha rfl (Nat.succ_ne_zero _)) (by decide))))
            have mv16_σ_15 : (σ_15.1 a 16).toInt = (σ_8.1 a 16).toInt := congrArg Int32.toInt (q_rdn hσ_15 (Or.inl (m_ne ha (q_tk (k' := 34) hI ha rfl (Nat.succ_ne_zero _)) (by decide))))
            have mv27_σ_15 : (σ_15.1 a 27).toInt = (σ_8.1 a 27).toInt := congrArg Int32.toInt (q_rdn hσ_15 (Or.inl (m_ne ha (q_tk (k' := 34) hI ha rfl (Nat.succ_ne_zero _)) (by decide))))
            have mcσ_15 := m_wr (v := (0 : Int32)) (A := (v1.toInt + 7)) hσ_15 iz_12 (by first | (clear hs hc2 bhpσ_2 chpσ_2 j15 chpσ_5 dhpσ_5 ehpσ_5 t5σ_7 t6σ_7 t1σ_8 smσ_8 nsσ_8 t5σ_8 t6σ_8 if_9 c_10 c_11 if_13 c_14 kc_16 mv9_σ_15 mv12_σ_15 mv14_σ_15 mv15_σ_15 mv16_σ_15 mv27_σ_15; omega) | omega)
            have kwσ_15 : ∀ j, 0 ≤ j → (j < v1.toInt + 1 ∨ v1.toInt + 8 ≤ j) → m_c X σ_15 a j = m_c X σ a j := fun j h0 h1 => by rw [mcσ_15 j h0, if_neg (by first | (clear hs hw hc2 bhpσ_2 chpσ_2 j15 chpσ_5 dhpσ_5 ehpσ_5 t5σ_7 t6σ_7 t1σ_8 smσ_8 nsσ_8 t5σ_8 t6σ_8 if_9 c_10 c_11 if_13 c_14 kc_16 mv9_σ_15 mv12_σ_15 mv14_σ_15 mv15_σ_15 mv16_σ_15 mv27_σ_15; omega) | omega)]; exact kwσ_8 j h0 h1
            have smσ_15 : 0 ≤ (σ_15.1 a 15).toInt ∧ (σ_15.1 a 15).toInt ≤ (σ_15.1 a 16).toInt ∧ (σ_15.1 a 16).toInt ≤ (σ_15.1 a 9).toInt ∧ (σ_15.1 a 9).toInt ≤ 900 ∧ 0 ≤ (σ_15.1 a 14).toInt ∧ (σ_15.1 a 14).toInt ≤ 4 ∧ (σ_15.1 a 14).toInt ≤ 4 * ((σ_15.1 a 16).toInt - (σ_15.1 a 15).toInt) ∧ (σ_15.1 a 14).toInt ≤ 4 * ((σ_15.1 a 9).toInt - (σ_15.1 a 15).toInt) ∧ 0 ≤ (σ_15.1 a 12).toInt ∧ (σ_15.1 a 9).toInt = (σ.1 a 9).toInt ∧ (σ.1 a 15).toInt ≤ (σ_15.1 a 15).toInt ∧ (σ.1 a 12).toInt ≤ (σ_15.1 a 12).toInt := (by first | (rw [mv12_σ_15, mv14_σ_15, mv15_σ_15, mv16_σ_15, mv9_σ_15]; exact smσ_8) | omega)
            have nsσ_15 : (σ_15.1 a 27).toInt = (σ.1 a 27).toInt := (by first | (clear hs hw hc2 bhpσ_2 chpσ_2 j15 chpσ_5 dhpσ_5 ehpσ_5 iz_6 t5σ_7 t6σ_7 t1σ_8 smσ_8 t5σ_8 t6σ_8 if_9 c_10 c_11 iz_12 if_13 c_14 kc_16 mv9_σ_15 mv12_σ_15 mv14_σ_15 mv15_σ_15 mv16_σ_15 smσ_15; omega) | omega)
            have t5σ_15 : 0 ≤ r_1.toInt + (σ_15.1 a 12).toInt := (by first | (clear hs hw hc2 bhpσ_2 chpσ_2 j15 chpσ_5 dhpσ_5 ehpσ_5 iz_6 t5σ_7 t1σ_8 nsσ_8 c_11 iz_12 if_13 c_14 kc_16 mv9_σ_15 mv14_σ_15 mv15_σ_15 mv16_σ_15 mv27_σ_15 smσ_15 nsσ_15; omega) | omega)
            have t6σ_15 : m_c X σ_15 a (v1.toInt + 6) = r_1.toInt := (by rw [mcσ_15 (v1.toInt + 6) (by first | (clear hs hc2 bhpσ_2 chpσ_2 j15 chpσ_5 dhpσ_5 ehpσ_5 t5σ_7 t6σ_7 t1σ_8 smσ_8 nsσ_8 t5σ_8 t6σ_8 if_9 c_10 c_11 if_13 c_14 kc_16 mv9_σ_15 mv12_σ_15 mv14_σ_15 mv15_σ_15 mv16_σ_15 mv27_σ_15 smσ_15 nsσ_15 t5σ_15; omega) | omega), if_neg (by first | (clear hs hw hc2 bhpσ_2 chpσ_2 j15 chpσ_5 dhpσ_5 ehpσ_5 iz_6 t5σ_7 t6σ_7 t1σ_8 smσ_8 nsσ_8 t5σ_8 t6σ_8 if_9 c_10 c_11 iz_12 if_13 c_14 kc_16 mv9_σ_15 mv12_σ_15 mv14_σ_15 mv15_σ_15 mv16_σ_15 mv27_σ_15 smσ_15 nsσ_15 t5σ_15; omega) | omega)]; exact t6σ_8)
            have t1σ_15 : m_t1 (m_c X σ_15 a) v1.toInt := m_t1.k t1σ_8 (by rw [mcσ_15 (v1.toInt + 6) (by first | (clear hs hc2 bhpσ_2 chpσ_2 j15 chpσ_5 dhpσ_5 ehpσ_5 t5σ_7 t6σ_7 t1σ_8 smσ_8 nsσ_8 t5σ_8 t6σ_8 if_9 c_10 c_11 if_13 c_14 kc_16 mv9_σ_15 mv12_σ_15 mv14_σ_15 mv15_σ_15 mv16_σ_15 mv27_σ_15 smσ_15 nsσ_15 t5σ_15 t6σ_15; omega) | omega), if_neg (by first | (clear hs hw hc2 bhpσ_2 chpσ_2 j15 chpσ_5 dhpσ_5 ehpσ_5 iz_6 t5σ_7 t6σ_7 t1σ_8 smσ_8 nsσ_8 t5σ_8 t6σ_8 if_9 c_10 c_11 iz_12 if_13 c_14 kc_16 mv9_σ_15 mv12_σ_15 mv14_σ_15 mv15_σ_15 mv16_σ_15 mv27_σ_15 smσ_15 nsσ_15 t5σ_15 t6σ_15; omega) | omega)]) (by rw [mcσ_15 (v1.toInt + 1) (by first | (clear hs hc2 bhpσ_2 chpσ_2 j15 chpσ_5 dhpσ_5 ehpσ_5 t5σ_7 t6σ_7 t1σ_8 smσ_8 nsσ_8 t5σ_8 t6σ_8 if_9 c_10 c_11 if_13 c_14 kc_16 mv9_σ_15 mv12_σ_15 mv14_σ_15 mv15_σ_15 mv16_σ_15 mv27_σ_15 smσ_15 nsσ_15 t5σ_15 t6σ_15; omega) | omega), if_neg (by first | (clear hs hw hc2 bhpσ_2 chpσ_2 j15 chpσ_5 dhpσ_5 ehpσ_5 iz_6 t5σ_7 t6σ_7 t1σ_8 smσ_8 nsσ_8 t5σ_8 t6σ_8 if_9 c_10 c_11 iz_12 if_13 c_14 kc_16 mv9_σ_15 mv12_σ_15 mv14_σ_15 mv15_σ_15 mv16_σ_15 mv27_σ_15 smσ_15 nsσ_15 t5σ_15 t6σ_15; omega) | omega)])
            clear mv9_σ_15 mv12_σ_15 mv14_σ_15 mv15_σ_15 mv16_σ_15 mv27_σ_15 smσ_8 nsσ_8 t5σ_8
            refine lv_aload_n hx hb dX12_readTest_88 rfl (lv_at hl 0 rfl) ?_
            refine lv_aload_n hx hb dX12_readTest_89 rfl (lv_at hl 0 rfl) ?_
            refine lv_bipush (v := 60) hx hb dX12_readTest_90 zkb_60 ?_
            have kc_17 : (60 : Int32).toInt = 60 := zt_60
            refine q_ci (q_rV11_1 (rest := [.ref a]) E (hml.trans hl.1.symm) hI (c_X12_isSign l X σ_15 a (60 : Int32) ha) kv_X12_243 ha ⟨Nat.le_of_ble_eq_true rfl, Nat.le_of_ble_eq_true rfl⟩ (Nat.le_of_ble_eq_true rfl) dX12_readTest_92) hI (Nat.le_of_ble_eq_true rfl) (fun r_18 σ_19 H locs hpσ_19 hkσ_19 hI => ?_)
            have ahpσ_19 := hpσ_19.1
            have bhpσ_19 := hpσ_19.2.1
            have chpσ_19 := hpσ_19.2.2
            clear hpσ_19
            replace hI := q_Irw ahpσ_19 hI
            replace hF := q_letX hF chpσ_19
            refine q_if_ne (A := r_18.toInt) E rfl (tgt := 116) dX12_readTest_95 (by decide) (fun c_20 => ?_) (fun c_20 => ?_)
            · skip
              replace hF := q_ifn hF c_20
              replace c_20 := q_ifOne bhpσ_19 c_20
              refine lv_iconst (v := 1) hx hb dX12_readTest_116 zki_1 ?_
              refine lv_goto (tgt := 121) hx hb dX12_readTest_117 (by decide) ?_
              have kc_21 : (1 : Int32).toInt = 1 := zt_1
              refine q_cv (q_rV11_1 (rest := []) E (hml.trans hl.1.symm) hI (c_X12_must l X σ_15 a (1 : Int32) ha (by first | exact sm_9 smσ_15 | exact hs | omega) (by first | (clear hs hw hc2 bhpσ_2 chpσ_2 j15 chpσ_5 dhpσ_5 ehpσ_5 iz_6 t5σ_7 t6σ_7 t1σ_8 t6σ_8 if_9 c_10 c_11 iz_12 if_13 c_14 kc_16 smσ_15 nsσ_15 t5σ_15 t6σ_15 t1σ_15 kc_17 ahpσ_19 bhpσ_19 chpσ_19 c_20; omega) | omega)) kv_X12_216 ha ⟨Nat.le_of_ble_eq_true rfl, Nat.le_of_ble_eq_true rfl⟩ (Nat.le_of_ble_eq_true rfl) dX12_readTest_121) hI (Nat.le_of_ble_eq_true rfl) (fun σ_23 H locs hpσ_23 hkσ_23 hI => ?_)
              have ahpσ_23 := hpσ_23.1
              have bhpσ_23 := hpσ_23.2.1
              have chpσ_23 := hpσ_23.2.2.1
              have dhpσ_23 := hpσ_23.2.2.2.1
              have ehpσ_23 := hpσ_23.2.2.2.2
              clear hpσ_23
              have fr_σ_23 := fr_σ_15.call ehpσ_23 rfl rfl
              replace hF := q_letX hF dhpσ_23
              have mv27_σ_23 : (σ_23.1 a 27).toInt = (σ_15.1 a 27).toInt := congrArg Int32.toInt (ahpσ_23 a 27 (q_cl9 _ _) (fun h => absurd h.2.2 (by decide)))
              have mcσ_23 := m_cK hkσ_23 hI.1 ha (by decide)
              have kwσ_23 : ∀ j, 0 ≤ j → (j < v1.toInt + 1 ∨ v1.toInt + 8 ≤ j) → m_c X σ_23 a j = m_c X σ a j := fun j h0 h1 => (mcσ_23 j).trans (kwσ_15 j h0 h1)
              have smσ_23 : 0 ≤ (σ_23.1 a 15).toInt ∧ (σ_23.1 a 15).toInt ≤ (σ_23.1 a 16).toInt ∧ (σ_23.1 a 16).toInt ≤ (σ_23.1 a 9).toInt ∧ (σ_23.1 a 9).toInt ≤ 900 ∧ 0 ≤ (σ_23.1 a 14).toInt ∧ (σ_23.1 a 14).toInt ≤ 4 ∧ (σ_23.1 a 14).toInt ≤ 4 * ((σ_23.1 a 16).toInt - (σ_23.1 a 15).toInt) ∧ (σ_23.1 a 14).toInt ≤ 4 * ((σ_23.1 a 9).toInt - (σ_23.1 a 15).toInt) ∧ 0 ≤ (σ_23.1 a 12).toInt ∧ (σ_23.1 a 9).toInt = (σ.1 a 9).toInt ∧ (σ.1 a 15).toInt ≤ (σ_23.1 a 15).toInt ∧ (σ.1 a 12).toInt ≤ (σ_23.1 a 12).toInt := (by first | exact sm_tr smσ_15 bhpσ_23 | exact sm_tr smσ_15 chpσ_23 | omega)
              have nsσ_23 : (σ_23.1 a 27).toInt = (σ.1 a 27).toInt := (by first | (clear hs hw hc2 bhpσ_2 chpσ_2 j15 chpσ_5 dhpσ_5 ehpσ_5 iz_6 t5σ_7 t6σ_7 t1σ_8 t6σ_8 if_9 c_10 c_11 iz_12 if_13 c_14 kc_16 smσ_15 t5σ_15 t6σ_15 t1σ_15 kc_17 ahpσ_19 bhpσ_19 chpσ_19 c_20 kc_21 ahpσ_23 bhpσ_23 chpσ_23 dhpσ_23 ehpσ_23 smσ_23; omega) | omega)
              have t5σ_23 : 0 ≤ r_1.toInt + (σ_23.1 a 12).toInt := (by first | (clear hs hw hc2 bhpσ_2 chpσ_2 j15 chpσ_5 dhpσ_5 ehpσ_5 iz_6 t5σ_7 t1σ_8 if_9 c_10 c_11 iz_12 if_13 c_14 kc_16 smσ_15 nsσ_15 t1σ_15 kc_17 ahpσ_19 bhpσ_19 chpσ_19 c_20 kc_21 ahpσ_23 chpσ_23 dhpσ_23 ehpσ_23 mv27_σ_23 smσ_23 nsσ_23; omega) | omega)
              have t6σ_23 : m_c X σ_23 a (v1.toInt + 6) = r_1.toInt := (mcσ_23 _).trans t6σ_15
              have t1σ_23 : m_t1 (m_c X σ_23 a) v1.toInt := m_t1.k t1σ_15 (mcσ_23 _) (mcσ_23 _)
              clear mv27_σ_23 smσ_15 nsσ_15 t5σ_15 bhpσ_23
              refine lv_aload_n hx hb dX12_readTest_124 rfl (lv_at hl 0 rfl) ?_
              refine gs_X12_35_12 E hI ha dX12_readTest_125 ?_
              refine lv_iload_n hx hb dX12_readTest_128 rfl (lv_at hl 1 rfl) ?_
              refine lv_iconst (v := 2) hx hb dX12_readTest_129 zki_2 ?_
              refine lv_iadd hx hb dX12_readTest_130 ?_
              refine lv_topi (fun z_24 ez_24 => ?_)
              replace hF := q_letX hF ez_24
              have iz_24 := q_addI (A := v1.toInt) (B := 2) ez_24 rfl (by decide) (by first | (clear hs hc2 bhpσ_2 chpσ_2 j15 chpσ_5 dhpσ_5 ehpσ_5 t5σ_7 t6σ_7 t1σ_8 t6σ_8 if_9 c_10 c_11 if_13 c_14 kc_16 t6σ_15 t1σ_15 kc_17 ahpσ_19 bhpσ_19 chpσ_19 c_20 kc_21 ahpσ_23 chpσ_23 dhpσ_23 ehpσ_23 smσ_23 nsσ_23 t5σ_23 t6σ_23 t1σ_23; omega) | omega) (by first | (clear hs hc2 bhpσ_2 chpσ_2 j15 chpσ_5 dhpσ_5 ehpσ_5 t5σ_7 t6σ_7 t1σ_8 t6σ_8 if_9 c_10 c_11 if_13 c_14 kc_16 t6σ_15 t1σ_15 kc_17 ahpσ_19 bhpσ_19 chpσ_19 c_20 kc_21 ahpσ_23 chpσ_23 dhpσ_23 ehpσ_23 smσ_23 nsσ_23 t5σ_23 t6σ_23 t1σ_23; omega) | omega)
              refine lv_aload_n hx hb dX12_readTest_131 rfl (lv_at hl 0 rfl) ?_
              refine lv_iconst (v := 0) hx hb dX12_readTest_132 zki_0 ?_
              refine lv_iload_n hx hb dX12_readTest_133 rfl (lv_at hl 2 rfl) ?_
              refine lv_iconst (v := 2) hx hb dX12_readTest_134 zki_2 ?_
              refine q_icmp_ne (A := r_1.toInt) (B := 2) E rfl (by decide) (tgt := 144) dX12_readTest_135 (by decide) (fun c_25 => ?_) (fun c_25 => ?_)
              · skip
                replace hF := q_ifn hF c_25
                refine lv_bipush (v := 80) hx hb dX12_readTest_144 zkb_80 ?_
                have kc_26 : (0 : Int32).toInt = 0 := zt_0
                have kc_27 : (80 : Int32).toInt = 80 := zt_80
                refine q_ci (q_rV11_2 (rest := [.int z_24, .ref (q_rf X a 20)]) E (hml.trans hl.1.symm) hI (c_X12_count l X σ_23 a (0 : Int32) (80 : Int32) ha (by first | exact sm_9 smσ_23 | exact hs | omega) (by first | (clear hs hw hc2 bhpσ_2 chpσ_2 j15 chpσ_5 dhpσ_5 ehpσ_5 iz_6 t5σ_7 t6σ_7 t1σ_8 t6σ_8 if_9 c_10 c_11 iz_12 if_13 c_14 t6σ_15 t1σ_15 kc_17 ahpσ_19 bhpσ_19 chpσ_19 c_20 kc_21 ahpσ_23 chpσ_23 dhpσ_23 ehpσ_23 smσ_23 nsσ_23 t5σ_23 t6σ_23 t1σ_23 iz_24 c_25 kc_26; omega) | omega)) kv_X12_223 ha ⟨Nat.le_of_ble_eq_true rfl, Nat.le_of_ble_eq_true rfl⟩ (Nat.le_of_ble_eq_true rfl) dX12_readTest_146) hI (Nat.le_of_ble_eq_true rfl) (fun r_28 σ_29 H locs hpσ_29 hkσ_29 hI => ?_)
                have ahpσ_29 := hpσ_29.1
                have bhpσ_29 := hpσ_29.2.1
                have chpσ_29 := hpσ_29.2.2.1
                have dhpσ_29 := hpσ_29.2.2.2.1
                have ehpσ_29 := hpσ_29.2.2.2.2
                clear hpσ_29
                have fr_σ_29 := fr_σ_23.call ehpσ_29 rfl rfl
                replace hF := q_biX hF dhpσ_29
                have mv27_σ_29 : (σ_29.1 a 27).toInt = (σ_23.1 a 27).toInt := congrArg Int32.toInt (ahpσ_29 a 27 (q_cl9 _ _) (fun h => absurd h.2.2 (by decide)))
                have mcσ_29 := m_cK hkσ_29 hI.1 ha (by decide)
                have kwσ_29 : ∀ j, 0 ≤ j → (j < v1.toInt + 1 ∨ v1.toInt + 8 ≤ j) → m_c X σ_29 a j = m_c X σ a j := fun j h0 h1 => (mcσ_29 j).trans (kwσ_23 j h0 h1)
                have smσ_29 : 0 ≤ (σ_29.1 a 15).toInt ∧ (σ_29.1 a 15).toInt ≤ (σ_29.1 a 16).toInt ∧ (σ_29.1 a 16).toInt ≤ (σ_29.1 a 9).toInt ∧ (σ_29.1 a 9).toInt ≤ 900 ∧ 0 ≤ (σ_29.1 a 14).toInt ∧ (σ_29.1 a 14).toInt ≤ 4 ∧ (σ_29.1 a 14).toInt ≤ 4 * ((σ_29.1 a 16).toInt - (σ_29.1 a 15).toInt) ∧ (σ_29.1 a 14).toInt ≤ 4 * ((σ_29.1 a 9).toInt - (σ_29.1 a 15).toInt) ∧ 0 ≤ (σ_29.1 a 12).toInt ∧ (σ_29.1 a 9).toInt = (σ.1 a 9).toInt ∧ (σ.1 a 15).toInt ≤ (σ_29.1 a 15).toInt ∧ (σ.1 a 12).toInt ≤ (σ_29.1 a 12).toInt := (by first | exact sm_tr smσ_23 bhpσ_29 | exact sm_tr smσ_23 chpσ_29 | omega)
                have nsσ_29 : (σ_29.1 a 27).toInt = (σ.1 a 27).toInt := (by first | (clear hs hw hc2 bhpσ_2 chpσ_2 j15 chpσ_5 dhpσ_5 ehpσ_5 iz_6 t5σ_7 t6σ_7 t1σ_8 t6σ_8 if_9 c_10 c_11 iz_12 if_13 c_14 kc_16 t6σ_15 t1σ_15 kc_17 ahpσ_19 bhpσ_19 chpσ_19 c_20 kc_21 ahpσ_23 chpσ_23 dhpσ_23 ehpσ_23 smσ_23 t5σ_23 t6σ_23 t1σ_23 iz_24 c_25 kc_26 kc_27 ahpσ_29 bhpσ_29 chpσ_29 dhpσ_29 ehpσ_29 smσ_29; omega) | omega)
                have t5σ_29 : 0 ≤ r_1.toInt + (σ_29.1 a 12).toInt := (by first | (clear hs hw hc2 bhpσ_2 chpσ_2 j15 chpσ_5 dhpσ_5 ehpσ_5 iz_6 t5σ_7 t1σ_8 if_9 c_10 c_11 iz_12 if_13 c_14 kc_16 t1σ_15 kc_17 ahpσ_19 bhpσ_19 chpσ_19 c_20 kc_21 ahpσ_23 chpσ_23 dhpσ_23 ehpσ_23 smσ_23 nsσ_23 t1σ_23 iz_24 c_25 kc_26 kc_27 ahpσ_29 chpσ_29 dhpσ_29 ehpσ_29 mv27_σ_29 smσ_29 nsσ_29; omega) | omega)
                have t6σ_29 : m_c X σ_29 a (v1.toInt + 6) = r_1.toInt := (mcσ_29 _).trans t6σ_23
                have t1σ_29 : m_t1 (m_c X σ_29 a) v1.toInt := m_t1.k t1σ_23 (mcσ_29 _) (mcσ_29 _)
                clear mv27_σ_29 smσ_23 nsσ_23 t5σ_23 bhpσ_29
                refine q_iastN E hI (q_tk (k' := 34) hI ha rfl (Nat.succ_ne_zero _)) ⟨by decide, rfl⟩ (by first | (clear hs hc2 bhpσ_2 chpσ_2 j15 chpσ_5 dhpσ_5 ehpσ_5 t5σ_7 t6σ_7 t1σ_8 t6σ_8 if_9 c_10 c_11 if_13 c_14 kc_16 t6σ_15 t1σ_15 kc_17 ahpσ_19 bhpσ_19 chpσ_19 c_20 kc_21 ahpσ_23 chpσ_23 dhpσ_23 ehpσ_23 t6σ_23 t1σ_23 c_25 kc_26 kc_27 ahpσ_29 chpσ_29 dhpσ_29 ehpσ_29 smσ_29 nsσ_29 t5σ_29 t6σ_29 t1σ_29; omega) | omega) (by rw [q_lnk (v := 4650) hI (q_tk (k' := 34) hI ha rfl (Nat.succ_ne_zero _)) rfl (by decide)]; omega) (show 1 < 2 by decide) (q_inU rfl) dX12_readTest_149 (fun H locs σ_30 hσ_30 hI => ?_)
                replace hF := q_letX hF hσ_30
                have fr_σ_30 := fr_σ_29.si hσ_30 (q_tk (k' := 34) hI ha rfl (Nat.succ_ne_zero _)) rfl
                have mv9_σ_30 : (σ_30.1 a 9).toInt = (σ_29.1 a 9).toInt := congrArg Int32.toInt (q_rdn hσ_30 (Or.inl (m_ne ha (q_tk (k' := 34) hI ha rfl (Nat.succ_ne_zero _)) (by decide))))
                have mv12_σ_30 : (σ_30.1 a 12).toInt = (σ_29.1 a 12).toInt := congrArg Int32.toInt (q_rdn hσ_30 (Or.inl (m_ne ha (q_tk (k' := 34) hI ha rfl (Nat.succ_ne_zero _)) (by decide))))
                have mv14_σ_30 : (σ_30.1 a 14).toInt = (σ_29.1 a 14).toInt := congrArg Int32.toInt (q_rdn hσ_30 (Or.inl (m_ne ha (q_tk (k' := 34) hI ha rfl (Nat.succ_ne_zero _)) (by decide))))
                have mv15_σ_30 : (σ_30.1 a 15).toInt = (σ_29.1 a 15).toInt := congrArg Int32.toInt (q_rdn hσ_30 (Or.inl (m_ne ha (q_tk (k' := 34) hI ha rfl (Nat.succ_ne_zero _)) (by decide))))
                have mv16_σ_30 : (σ_30.1 a 16).toInt = (σ_29.1 a 16).toInt := congrArg Int32.toInt (q_rdn hσ_30 (Or.inl (m_ne ha (q_tk (k' := 34) hI ha rfl (Nat.succ_ne_zero _)) (by decide))))
                have mv27_σ_30 : (σ_30.1 a 27).toInt = (σ_29.1 a 27).toInt := congrArg Int32.toInt (q_rdn hσ_30 (Or.inl (m_ne ha (q_tk (k' := 34) hI ha rfl (Nat.succ_ne_zero _)) (by decide))))
                have mcσ_30 := m_wr (v := r_28) (A := (v1.toInt + 2)) hσ_30 iz_24 (by first | (clear hs hc2 bhpσ_2 chpσ_2 j15 chpσ_5 dhpσ_5 ehpσ_5 t5σ_7 t6σ_7 t1σ_8 t6σ_8 if_9 c_10 c_11 if_13 c_14 kc_16 t6σ_15 t1σ_15 kc_17 ahpσ_19 bhpσ_19 chpσ_19 c_20 kc_21 ahpσ_23 chpσ_23 dhpσ_23 ehpσ_23 t6σ_23 t1σ_23 c_25 kc_26 kc_27 ahpσ_29 chpσ_29 dhpσ_29 ehpσ_29 smσ_29 nsσ_29 t5σ_29 t6σ_29 t1σ_29 mv9_σ_30 mv12_σ_30 mv14_σ_30 mv15_σ_30 mv16_σ_30 mv27_σ_30; omega) | omega)
                have kwσ_30 : ∀ j, 0 ≤ j → (j < v1.toInt + 1 ∨ v1.toInt + 8 ≤ j) → m_c X σ_30 a j = m_c X σ a j := fun j h0 h1 => by rw [mcσ_30 j h0, if_neg (by first | (clear hs hw hc2 bhpσ_2 chpσ_2 j15 chpσ_5 dhpσ_5 ehpσ_5 t5σ_7 t6σ_7 t1σ_8 t6σ_8 if_9 c_10 c_11 if_13 c_14 kc_16 t6σ_15 t1σ_15 kc_17 ahpσ_19 bhpσ_19 chpσ_19 c_20 kc_21 ahpσ_23 chpσ_23 dhpσ_23 ehpσ_23 t6σ_23 t1σ_23 c_25 kc_26 kc_27 ahpσ_29 chpσ_29 dhpσ_29 ehpσ_29 smσ_29 nsσ_29 t5σ_29 t6σ_29 t1σ_29 mv9_σ_30 mv12_σ_30 mv14_σ_30 mv15_σ_30 mv16_σ_30 mv27_σ_30; omega) | omega)]; exact kwσ_29 j h0 h1
                have smσ_30 : 0 ≤ (σ_30.1 a 15).toInt ∧ (σ_30.1 a 15).toInt ≤ (σ_30.1 a 16).toInt ∧ (σ_30.1 a 16).toInt ≤ (σ_30.1 a 9).toInt ∧ (σ_30.1 a 9).toInt ≤ 900 ∧ 0 ≤ (σ_30.1 a 14).toInt ∧ (σ_30.1 a 14).toInt ≤ 4 ∧ (σ_30.1 a 14).toInt ≤ 4 * ((σ_30.1 a 16).toInt - (σ_30.1 a 15).toInt) ∧ (σ_30.1 a 14).toInt ≤ 4 * ((σ_30.1 a 9).toInt - (σ_30.1 a 15).toInt) ∧ 0 ≤ (σ_30.1 a 12).toInt ∧ (σ_30.1 a 9).toInt = (σ.1 a 9).toInt ∧ (σ.1 a 15).toInt ≤ (σ_30.1 a 15).toInt ∧ (σ.1 a 12).toInt ≤ (σ_30.1 a 12).toInt := (by first | (rw [mv12_σ_30, mv14_σ_30, mv15_σ_30, mv16_σ_30, mv9_σ_30]; exact smσ_29) | omega)
                have nsσ_30 : (σ_30.1 a 27).toInt = (σ.1 a 27).toInt := (by first | (clear hs hw hc2 bhpσ_2 chpσ_2 j15 chpσ_5 dhpσ_5 ehpσ_5 iz_6 t5σ_7 t6σ_7 t1σ_8 t6σ_8 if_9 c_10 c_11 iz_12 if_13 c_14 kc_16 t6σ_15 t1σ_15 kc_17 ahpσ_19 bhpσ_19 chpσ_19 c_20 kc_21 ahpσ_23 chpσ_23 dhpσ_23 ehpσ_23 t6σ_23 t1σ_23 iz_24 c_25 kc_26 kc_27 ahpσ_29 chpσ_29 dhpσ_29 ehpσ_29 smσ_29 t5σ_29 t6σ_29 t1σ_29 mv9_σ_30 mv12_σ_30 mv14_σ_30 mv15_σ_30 mv16_σ_30 smσ_30; omega) | omega)
                have t5σ_30 : 0 ≤ r_1.toInt + (σ_30.1 a 12).toInt := (by first | (clear hs hw hc2 bhpσ_2 chpσ_2 j15 chpσ_5 dhpσ_5 ehpσ_5 iz_6 t5σ_7 t1σ_8 if_9 c_10 c_11 iz_12 if_13 c_14 kc_16 t1σ_15 kc_17 ahpσ_19 bhpσ_19 chpσ_19 c_20 kc_21 ahpσ_23 chpσ_23 dhpσ_23 ehpσ_23 t1σ_23 iz_24 c_25 kc_26 kc_27 ahpσ_29 chpσ_29 dhpσ_29 ehpσ_29 smσ_29 nsσ_29 t1σ_29 mv9_σ_30 mv14_σ_30 mv15_σ_30 mv16_σ_30 mv27_σ_30 smσ_30 nsσ_30; omega) | omega)
                have t6σ_30 : m_c X σ_30 a (v1.toInt + 6) = r_1.toInt := (by rw [mcσ_30 (v1.toInt + 6) (by first | (clear hs hc2 bhpσ_2 chpσ_2 j15 chpσ_5 dhpσ_5 ehpσ_5 t5σ_7 t6σ_7 t1σ_8 t6σ_8 if_9 c_10 c_11 if_13 c_14 kc_16 t6σ_15 t1σ_15 kc_17 ahpσ_19 bhpσ_19 chpσ_19 c_20 kc_21 ahpσ_23 chpσ_23 dhpσ_23 ehpσ_23 t6σ_23 t1σ_23 c_25 kc_26 kc_27 ahpσ_29 chpσ_29 dhpσ_29 ehpσ_29 smσ_29 nsσ_29 t5σ_29 t6σ_29 t1σ_29 mv9_σ_30 mv12_σ_30 mv14_σ_30 mv15_σ_30 mv16_σ_30 mv27_σ_30 smσ_30 nsσ_30 t5σ_30; omega) | omega), if_neg (by first | (clear hs hw hc2 bhpσ_2 chpσ_2 j15 chpσ_5 dhpσ_5 ehpσ_5 iz_6 t5σ_7 t6σ_7 t1σ_8 t6σ_8 if_9 c_10 c_11 iz_12 if_13 c_14 kc_16 t6σ_15 t1σ_15 kc_17 ahpσ_19 bhpσ_19 chpσ_19 c_20 kc_21 ahpσ_23 chpσ_23 dhpσ_23 ehpσ_23 t6σ_23 t1σ_23 iz_24 c_25 kc_26 kc_27 ahpσ_29 chpσ_29 dhpσ_29 ehpσ_29 smσ_29 nsσ_29 t5σ_29 t6σ_29 t1σ_29 mv9_σ_30 mv12_σ_30 mv14_σ_30 mv15_σ_30 mv16_σ_30 mv27_σ_30 smσ_30 nsσ_30 t5σ_30; omega) | omega)]; exact t6σ_29)
                have t1σ_30 : m_t1 (m_c X σ_30 a) v1.toInt := m_t1.k t1σ_29 (by rw [mcσ_30 (v1.toInt + 6) (by first | (clear hs hc2 bhpσ_2 chpσ_2 j15 chpσ_5 dhpσ_5 ehpσ_5 t5σ_7 t6σ_7 t1σ_8 t6σ_8 if_9 c_10 c_11 if_13 c_14 kc_16 t6σ_15 t1σ_15 kc_17 ahpσ_19 bhpσ_19 chpσ_19 c_20 kc_21 ahpσ_23 chpσ_23 dhpσ_23 ehpσ_23 t6σ_23 t1σ_23 c_25 kc_26 kc_27 ahpσ_29 chpσ_29 dhpσ_29 ehpσ_29 smσ_29 nsσ_29 t5σ_29 t6σ_29 t1σ_29 mv9_σ_30 mv12_σ_30 mv14_σ_30 mv15_σ_30 mv16_σ_30 mv27_σ_30 smσ_30 nsσ_30 t5σ_30 t6σ_30; omega) | omega), if_neg (by first | (clear hs hw hc2 bhpσ_2 chpσ_2 j15 chpσ_5 dhpσ_5 ehpσ_5 iz_6 t5σ_7 t6σ_7 t1σ_8 t6σ_8 if_9 c_10 c_11 iz_12 if_13 c_14 kc_16 t6σ_15 t1σ_15 kc_17 ahpσ_19 bhpσ_19 chpσ_19 c_20 kc_21 ahpσ_23 chpσ_23 dhpσ_23 ehpσ_23 t6σ_23 t1σ_23 iz_24 c_25 kc_26 kc_27 ahpσ_29 chpσ_29 dhpσ_29 ehpσ_29 smσ_29 nsσ_29 t5σ_29 t6σ_29 t1σ_29 mv9_σ_30 mv12_σ_30 mv14_σ_30 mv15_σ_30 mv16_σ_30 mv27_σ_30 smσ_30 nsσ_30 t5σ_30 t6σ_30; omega) | omega)]) (by rw [mcσ_30 (v1.toInt + 1) (by first | (clear hs hc2 bhpσ_2 chpσ_2 j15 chpσ_5 dhpσ_5 ehpσ_5 t5σ_7 t6σ_7 t1σ_8 t6σ_8 if_9 c_10 c_11 if_13 c_14 kc_16 t6σ_15 t1σ_15 kc_17 ahpσ_19 bhpσ_19 chpσ_19 c_20 kc_21 ahpσ_23 chpσ_23 dhpσ_23 ehpσ_23 t6σ_23 t1σ_23 c_25 kc_26 kc_27 ahpσ_29 chpσ_29 dhpσ_29 ehpσ_29 smσ_29 nsσ_29 t5σ_29 t6σ_29 t1σ_29 mv9_σ_30 mv12_σ_30 mv14_σ_30 mv15_σ_30 mv16_σ_30 mv27_σ_30 smσ_30 nsσ_30 t5σ_30 t6σ_30; omega) | omega), if_neg (by first | (clear hs hw hc2 bhpσ_2 chpσ_2 j15 chpσ_5 dhpσ_5 ehpσ_5 iz_6 t5σ_7 t6σ_7 t1σ_8 t6σ_8 if_9 c_10 c_11 iz_12 if_13 c_14 kc_16 t6σ_15 t1σ_15 kc_17 ahpσ_19 bhpσ_19 chpσ_19 c_20 kc_21 ahpσ_23 chpσ_23 dhpσ_23 ehpσ_23 t6σ_23 t1σ_23 iz_24 c_25 kc_26 kc_27 ahpσ_29 chpσ_29 dhpσ_29 ehpσ_29 smσ_29 nsσ_29 t5σ_29 t6σ_29 t1σ_29 mv9_σ_30 mv12_σ_30 mv14_σ_30 mv15_σ_30 mv16_σ_30 mv27_σ_30 smσ_30 nsσ_30 t5σ_30 t6σ_30; omega) | omega)])
                clear mv9_σ_30 mv12_σ_30 mv14_σ_30 mv15_σ_30 mv16_σ_30 mv27_σ_30 smσ_29 nsσ_29 t5σ_29
                rewrite [hQQ]; exact q_retv E hr hlk hI ⟨kwσ_30, (by first | exact smσ_30 | omega), nsσ_30, (fun e => ⟨by rw [t6σ_30]; omega, t1σ_30⟩), (hF.trans hout), fr_σ_30⟩ dX12_readTest_150
              · skip
                replace hF := q_ifp hF c_25
                refine lv_sipush (v := 999) hx hb dX12_readTest_138 zks_999 ?_
                refine lv_goto (tgt := 146) hx hb dX12_readTest_141 (by decide) ?_
                have kc_31 : (0 : Int32).toInt = 0 := zt_0
                have kc_32 : (999 : Int32).toInt = 999 := zt_999
                refine q_ci (q_rV11_2 (rest := [.int z_24, .ref (q_rf X a 20)]) E (hml.trans hl.1.symm) hI (c_X12_count l X σ_23 a (0 : Int32) (999 : Int32) ha (by first | exact sm_9 smσ_23 | exact hs | omega) (by first | (clear hs hw hc2 bhpσ_2 chpσ_2 j15 chpσ_5 dhpσ_5 ehpσ_5 iz_6 t5σ_7 t6σ_7 t1σ_8 t6σ_8 if_9 c_10 c_11 iz_12 if_13 c_14 t6σ_15 t1σ_15 kc_17 ahpσ_19 bhpσ_19 chpσ_19 c_20 kc_21 ahpσ_23 chpσ_23 dhpσ_23 ehpσ_23 t6σ_23 t1σ_23 iz_24 c_25 kc_31; omega) | omega)) kv_X12_223 ha ⟨Nat.le_of_ble_eq_true rfl, Nat.le_of_ble_eq_true rfl⟩ (Nat.le_of_ble_eq_true rfl) dX12_readTest_146) hI (Nat.le_of_ble_eq_true rfl) (fun r_33 σ_34 H locs hpσ_34 hkσ_34 hI => ?_)
                have ahpσ_34 := hpσ_34.1
                have bhpσ_34 := hpσ_34.2.1
                have chpσ_34 := hpσ_34.2.2.1
                have dhpσ_34 := hpσ_34.2.2.2.1
                have ehpσ_34 := hpσ_34.2.2.2.2
                clear hpσ_34
                have fr_σ_34 := fr_σ_23.call ehpσ_34 rfl rfl
                replace hF := q_biX hF dhpσ_34
                have mv27_σ_34 : (σ_34.1 a 27).toInt = (σ_23.1 a 27).toInt := congrArg Int32.toInt (ahpσ_34 a 27 (q_cl9 _ _) (fun h => absurd h.2.2 (by decide)))
                have mcσ_34 := m_cK hkσ_34 hI.1 ha (by decide)
                have kwσ_34 : ∀ j, 0 ≤ j → (j < v1.toInt + 1 ∨ v1.toInt + 8 ≤ j) → m_c X σ_34 a j = m_c X σ a j := fun j h0 h1 => (mcσ_34 j).trans (kwσ_23 j h0 h1)
                have smσ_34 : 0 ≤ (σ_34.1 a 15).toInt ∧ (σ_34.1 a 15).toInt ≤ (σ_34.1 a 16).toInt ∧ (σ_34.1 a 16).toInt ≤ (σ_34.1 a 9).toInt ∧ (σ_34.1 a 9).toInt ≤ 900 ∧ 0 ≤ (σ_34.1 a 14).toInt ∧ (σ_34.1 a 14).toInt ≤ 4 ∧ (σ_34.1 a 14).toInt ≤ 4 * ((σ_34.1 a 16).toInt - (σ_34.1 a 15).toInt) ∧ (σ_34.1 a 14).toInt ≤ 4 * ((σ_34.1 a 9).toInt - (σ_34.1 a 15).toInt) ∧ 0 ≤ (σ_34.1 a 12).toInt ∧ (σ_34.1 a 9).toInt = (σ.1 a 9).toInt ∧ (σ.1 a 15).toInt ≤ (σ_34.1 a 15).toInt ∧ (σ.1 a 12).toInt ≤ (σ_34.1 a 12).toInt := (by first | exact sm_tr smσ_23 bhpσ_34 | exact sm_tr smσ_23 chpσ_34 | omega)
                have nsσ_34 : (σ_34.1 a 27).toInt = (σ.1 a 27).toInt := (by first | (clear hs hw hc2 bhpσ_2 chpσ_2 j15 chpσ_5 dhpσ_5 ehpσ_5 iz_6 t5σ_7 t6σ_7 t1σ_8 t6σ_8 if_9 c_10 c_11 iz_12 if_13 c_14 kc_16 t6σ_15 t1σ_15 kc_17 ahpσ_19 bhpσ_19 chpσ_19 c_20 kc_21 ahpσ_23 chpσ_23 dhpσ_23 ehpσ_23 t6σ_23 t1σ_23 iz_24 c_25 kc_31 kc_32 ahpσ_34 bhpσ_34 chpσ_34 dhpσ_34 ehpσ_34 smσ_34; omega) | omega)
                have t5σ_34 : 0 ≤ r_1.toInt + (σ_34.1 a 12).toInt := (by first | (clear hs hw hc2 bhpσ_2 chpσ_2 j15 chpσ_5 dhpσ_5 ehpσ_5 iz_6 t5σ_7 t1σ_8 if_9 c_10 c_11 iz_12 if_13 c_14 kc_16 t1σ_15 kc_17 ahpσ_19 bhpσ_19 chpσ_19 c_20 kc_21 ahpσ_23 chpσ_23 dhpσ_23 ehpσ_23 t1σ_23 iz_24 kc_31 kc_32 ahpσ_34 chpσ_34 dhpσ_34 ehpσ_34 mv27_σ_34 smσ_34 nsσ_34; omega) | omega)
                have t6σ_34 : m_c X σ_34 a (v1.toInt + 6) = r_1.toInt := (mcσ_34 _).trans t6σ_23
                have t1σ_34 : m_t1 (m_c X σ_34 a) v1.toInt := m_t1.k t1σ_23 (mcσ_34 _) (mcσ_34 _)
                clear mv27_σ_34 smσ_23 nsσ_23 t5σ_23 bhpσ_34
                refine q_iastN E hI (q_tk (k' := 34) hI ha rfl (Nat.succ_ne_zero _)) ⟨by decide, rfl⟩ (by first | (clear hs hc2 bhpσ_2 chpσ_2 j15 chpσ_5 dhpσ_5 ehpσ_5 t5σ_7 t6σ_7 t1σ_8 t6σ_8 if_9 c_10 c_11 if_13 c_14 kc_16 t6σ_15 t1σ_15 kc_17 ahpσ_19 bhpσ_19 chpσ_19 c_20 kc_21 ahpσ_23 chpσ_23 dhpσ_23 ehpσ_23 t6σ_23 t1σ_23 c_25 kc_31 kc_32 ahpσ_34 chpσ_34 dhpσ_34 ehpσ_34 smσ_34 nsσ_34 t5σ_34 t6σ_34 t1σ_34; omega) | omega) (by rw [q_lnk (v := 4650) hI (q_tk (k' := 34) hI ha rfl (Nat.succ_ne_zero _)) rfl (by decide)]; omega) (show 1 < 2 by decide) (q_inU rfl) dX12_readTest_149 (fun H locs σ_35 hσ_35 hI => ?_)
                replace hF := q_letX hF hσ_35
                have fr_σ_35 := fr_σ_34.si hσ_35 (q_tk (k' := 34) hI ha rfl (Nat.succ_ne_zero _)) rfl
                have mv9_σ_35 : (σ_35.1 a 9).toInt = (σ_34.1 a 9).toInt := congrArg Int32.toInt (q_rdn hσ_35 (Or.inl (m_ne ha (q_tk (k' := 34) hI ha rfl (Nat.succ_ne_zero _)) (by decide))))
                have mv12_σ_35 : (σ_35.1 a 12).toInt = (σ_34.1 a 12).toInt := congrArg Int32.toInt (q_rdn hσ_35 (Or.inl (m_ne ha (q_tk (k' := 34) hI ha rfl (Nat.succ_ne_zero _)) (by decide))))
                have mv14_σ_35 : (σ_35.1 a 14).toInt = (σ_34.1 a 14).toInt := congrArg Int32.toInt (q_rdn hσ_35 (Or.inl (m_ne ha (q_tk (k' := 34) hI ha rfl (Nat.succ_ne_zero _)) (by decide))))
                have mv15_σ_35 : (σ_35.1 a 15).toInt = (σ_34.1 a 15).toInt := congrArg Int32.toInt (q_rdn hσ_35 (Or.inl (m_ne ha (q_tk (k' := 34) hI ha rfl (Nat.succ_ne_zero _)) (by decide))))
                have mv16_σ_35 : (σ_35.1 a 16).toInt = (σ_34.1 a 16).toInt := congrArg Int32.toInt (q_rdn hσ_35 (Or.inl (m_ne ha (q_tk (k' := 34) hI ha rfl (Nat.succ_ne_zero _)) (by decide))))
                have mv27_σ_35 : (σ_35.1 a 27).toInt = (σ_34.1 a 27).toInt := congrArg Int32.toInt (q_rdn hσ_35 (Or.inl (m_ne ha (q_tk (k' := 34) hI ha rfl (Nat.succ_ne_zero _)) (by decide))))
                have mcσ_35 := m_wr (v := r_33) (A := (v1.toInt + 2)) hσ_35 iz_24 (by first | (clear hs hc2 bhpσ_2 chpσ_2 j15 chpσ_5 dhpσ_5 ehpσ_5 t5σ_7 t6σ_7 t1σ_8 t6σ_8 if_9 c_10 c_11 if_13 c_14 kc_16 t6σ_15 t1σ_15 kc_17 ahpσ_19 bhpσ_19 chpσ_19 c_20 kc_21 ahpσ_23 chpσ_23 dhpσ_23 ehpσ_23 t6σ_23 t1σ_23 c_25 kc_31 kc_32 ahpσ_34 chpσ_34 dhpσ_34 ehpσ_34 smσ_34 nsσ_34 t5σ_34 t6σ_34 t1σ_34 mv9_σ_35 mv12_σ_35 mv14_σ_35 mv15_σ_35 mv16_σ_35 mv27_σ_35; omega) | omega)
                have kwσ_35 : ∀ j, 0 ≤ j → (j < v1.toInt + 1 ∨ v1.toInt + 8 ≤ j) → m_c X σ_35 a j = m_c X σ a j := fun j h0 h1 => by rw [mcσ_35 j h0, if_neg (by first | (clear hs hw hc2 bhpσ_2 chpσ_2 j15 chpσ_5 dhpσ_5 ehpσ_5 t5σ_7 t6σ_7 t1σ_8 t6σ_8 if_9 c_10 c_11 if_13 c_14 kc_16 t6σ_15 t1σ_15 kc_17 ahpσ_19 bhpσ_19 chpσ_19 c_20 kc_21 ahpσ_23 chpσ_23 dhpσ_23 ehpσ_23 t6σ_23 t1σ_23 c_25 kc_31 kc_32 ahpσ_34 chpσ_34 dhpσ_34 ehpσ_34 smσ_34 nsσ_34 t5σ_34 t6σ_34 t1σ_34 mv9_σ_35 mv12_σ_35 mv14_σ_35 mv15_σ_35 mv16_σ_35 mv27_σ_35; omega) | omega)]; exact kwσ_34 j h0 h1
                have smσ_35 : 0 ≤ (σ_35.1 a 15).toInt ∧ (σ_35.1 a 15).toInt ≤ (σ_35.1 a 16).toInt ∧ (σ_35.1 a 16).toInt ≤ (σ_35.1 a 9).toInt ∧ (σ_35.1 a 9).toInt ≤ 900 ∧ 0 ≤ (σ_35.1 a 14).toInt ∧ (σ_35.1 a 14).toInt ≤ 4 ∧ (σ_35.1 a 14).toInt ≤ 4 * ((σ_35.1 a 16).toInt - (σ_35.1 a 15).toInt) ∧ (σ_35.1 a 14).toInt ≤ 4 * ((σ_35.1 a 9).toInt - (σ_35.1 a 15).toInt) ∧ 0 ≤ (σ_35.1 a 12).toInt ∧ (σ_35.1 a 9).toInt = (σ.1 a 9).toInt ∧ (σ.1 a 15).toInt ≤ (σ_35.1 a 15).toInt ∧ (σ.1 a 12).toInt ≤ (σ_35.1 a 12).toInt := (by first | (rw [mv12_σ_35, mv14_σ_35, mv15_σ_35, mv16_σ_35, mv9_σ_35]; exact smσ_34) | omega)
                have nsσ_35 : (σ_35.1 a 27).toInt = (σ.1 a 27).toInt := (by first | (clear hs hw hc2 bhpσ_2 chpσ_2 j15 chpσ_5 dhpσ_5 ehpσ_5 iz_6 t5σ_7 t6σ_7 t1σ_8 t6σ_8 if_9 c_10 c_11 iz_12 if_13 c_14 kc_16 t6σ_15 t1σ_15 kc_17 ahpσ_19 bhpσ_19 chpσ_19 c_20 kc_21 ahpσ_23 chpσ_23 dhpσ_23 ehpσ_23 t6σ_23 t1σ_23 iz_24 c_25 kc_31 kc_32 ahpσ_34 chpσ_34 dhpσ_34 ehpσ_34 smσ_34 t5σ_34 t6σ_34 t1σ_34 mv9_σ_35 mv12_σ_35 mv14_σ_35 mv15_σ_35 mv16_σ_35 smσ_35; omega) | omega)
                have t5σ_35 : 0 ≤ r_1.toInt + (σ_35.1 a 12).toInt := (by first | (clear hs hw hc2 bhpσ_2 chpσ_2 j15 chpσ_5 dhpσ_5 ehpσ_5 iz_6 t5σ_7 t1σ_8 if_9 c_10 c_11 iz_12 if_13 c_14 kc_16 t1σ_15 kc_17 ahpσ_19 bhpσ_19 chpσ_19 c_20 kc_21 ahpσ_23 chpσ_23 dhpσ_23 ehpσ_23 t1σ_23 iz_24 kc_31 kc_32 ahpσ_34 chpσ_34 dhpσ_34 ehpσ_34 nsσ_34 t5σ_34 t6σ_34 t1σ_34 mv9_σ_35 mv14_σ_35 mv15_σ_35 mv16_σ_35 mv27_σ_35 smσ_35 nsσ_35; omega) | omega)
                have t6σ_35 : m_c X σ_35 a (v1.toInt + 6) = r_1.toInt := (by rw [mcσ_35 (v1.toInt + 6) (by first | (clear hs hc2 bhpσ_2 chpσ_2 j15 chpσ_5 dhpσ_5 ehpσ_5 t5σ_7 t6σ_7 t1σ_8 t6σ_8 if_9 c_10 c_11 if_13 c_14 kc_16 t6σ_15 t1σ_15 kc_17 ahpσ_19 bhpσ_19 chpσ_19 c_20 kc_21 ahpσ_23 chpσ_23 dhpσ_23 ehpσ_23 t6σ_23 t1σ_23 c_25 kc_31 kc_32 ahpσ_34 chpσ_34 dhpσ_34 ehpσ_34 smσ_34 nsσ_34 t5σ_34 t6σ_34 t1σ_34 mv9_σ_35 mv12_σ_35 mv14_σ_35 mv15_σ_35 mv16_σ_35 mv27_σ_35 smσ_35 nsσ_35 t5σ_35; omega) | omega), if_neg (by first | (clear hs hw hc2 bhpσ_2 chpσ_2 j15 chpσ_5 dhpσ_5 ehpσ_5 iz_6 t5σ_7 t6σ_7 t1σ_8 t6σ_8 if_9 c_10 c_11 iz_12 if_13 c_14 kc_16 t6σ_15 t1σ_15 kc_17 ahpσ_19 bhpσ_19 chpσ_19 c_20 kc_21 ahpσ_23 chpσ_23 dhpσ_23 ehpσ_23 t6σ_23 t1σ_23 iz_24 c_25 kc_31 kc_32 ahpσ_34 chpσ_34 dhpσ_34 ehpσ_34 smσ_34 nsσ_34 t5σ_34 t6σ_34 t1σ_34 mv9_σ_35 mv12_σ_35 mv14_σ_35 mv15_σ_35 mv16_σ_35 mv27_σ_35 smσ_35 nsσ_35 t5σ_35; omega) | omega)]; exact t6σ_34)
                have t1σ_35 : m_t1 (m_c X σ_35 a) v1.toInt := m_t1.k t1σ_34 (by rw [mcσ_35 (v1.toInt + 6) (by first | (clear hs hc2 bhpσ_2 chpσ_2 j15 chpσ_5 dhpσ_5 ehpσ_5 t5σ_7 t6σ_7 t1σ_8 t6σ_8 if_9 c_10 c_11 if_13 c_14 kc_16 t6σ_15 t1σ_15 kc_17 ahpσ_19 bhpσ_19 chpσ_19 c_20 kc_21 ahpσ_23 chpσ_23 dhpσ_23 ehpσ_23 t6σ_23 t1σ_23 c_25 kc_31 kc_32 ahpσ_34 chpσ_34 dhpσ_34 ehpσ_34 smσ_34 nsσ_34 t5σ_34 t6σ_34 t1σ_34 mv9_σ_35 mv12_σ_35 mv14_σ_35 mv15_σ_35 mv16_σ_35 mv27_σ_35 smσ_35 nsσ_35 t5σ_35 t6σ_35; omega) | omega), if_neg (by first | (clear hs hw hc2 bhpσ_2 chpσ_2 j15 chpσ_5 dhpσ_5 ehpσ_5 iz_6 t5σ_7 t6σ_7 t1σ_8 t6σ_8 if_9 c_10 c_11 iz_12 if_13 c_14 kc_16 t6σ_15 t1σ_15 kc_17 ahpσ_19 bhpσ_19 chpσ_19 c_20 kc_21 ahpσ_23 chpσ_23 dhpσ_23 ehpσ_23 t6σ_23 t1σ_23 iz_24 c_25 kc_31 kc_32 ahpσ_34 chpσ_34 dhpσ_34 ehpσ_34 smσ_34 nsσ_34 t5σ_34 t6σ_34 t1σ_34 mv9_σ_35 mv12_σ_35 mv14_σ_35 mv15_σ_35 mv16_σ_35 mv27_σ_35 smσ_35 nsσ_35 t5σ_35 t6σ_35; omega) | omega)]) (by rw [mcσ_35 (v1.toInt + 1) (by first | (clear hs hc2 bhpσ_2 chpσ_2 j15 chpσ_5 dhpσ_5 ehpσ_5 t5σ_7 t6σ_7 t1σ_8 t6σ_8 if_9 c_10 c_11 if_13 c_14 kc_16 t6σ_15 t1σ_15 kc_17 ahpσ_19 bhpσ_19 chpσ_19 c_20 kc_21 ahpσ_23 chpσ_23 dhpσ_23 ehpσ_23 t6σ_23 t1σ_23 c_25 kc_31 kc_32 ahpσ_34 chpσ_34 dhpσ_34 ehpσ_34 smσ_34 nsσ_34 t5σ_34 t6σ_34 t1σ_34 mv9_σ_35 mv12_σ_35 mv14_σ_35 mv15_σ_35 mv16_σ_35 mv27_σ_35 smσ_35 nsσ_35 t5σ_35 t6σ_35; omega) | omega), if_neg (by first | (clear hs hw hc2 bhpσ_2 chpσ_2 j15 chpσ_5 dhpσ_5 ehpσ_5 iz_6 t5σ_7 t6σ_7 t1σ_8 t6σ_8 if_9 c_10 c_11 iz_12 if_13 c_14 kc_16 t6σ_15 t1σ_15 kc_17 ahpσ_19 bhpσ_19 chpσ_19 c_20 kc_21 ahpσ_23 chpσ_23 dhpσ_23 ehpσ_23 t6σ_23 t1σ_23 iz_24 c_25 kc_31 kc_32 ahpσ_34 chpσ_34 dhpσ_34 ehpσ_34 smσ_34 nsσ_34 t5σ_34 t6σ_34 t1σ_34 mv9_σ_35 mv12_σ_35 mv14_σ_35 mv15_σ_35 mv16_σ_35 mv27_σ_35 smσ_35 nsσ_35 t5σ_35 t6σ_35; omega) | omega)])
                clear mv9_σ_35 mv12_σ_35 mv14_σ_35 mv15_σ_35 mv16_σ_35 mv27_σ_35 smσ_34 nsσ_34 t5σ_34
                rewrite [hQQ]; exact q_retv E hr hlk hI ⟨kwσ_35, (by first | exact smσ_35 | omega), nsσ_35, (fun e => ⟨by rw [t6σ_35]; omega, t1σ_35⟩), (hF.trans hout), fr_σ_35⟩ dX12_readTest_150
            · skip
              replace hF := q_ifp hF c_20
              refine lv_aload_n hx hb dX12_readTest_98 rfl (lv_at hl 0 rfl) ?_
              refine lv_bipush (v := 62) hx hb dX12_readTest_99 zkb_62 ?_
              have kc_36 : (62 : Int32).toInt = 62 := zt_62
              refine q_ci (q_rV11_1 (rest := [.ref a]) E (hml.trans hl.1.symm) hI (c_X12_isSign l X σ_15 a (62 : Int32) ha) kv_X12_243 ha ⟨Nat.le_of_ble_eq_true rfl, Nat.le_of_ble_eq_true rfl⟩ (Nat.le_of_ble_eq_true rfl) dX12_readTest_101) hI (Nat.le_of_ble_eq_true rfl) (fun r_37 σ_38 H locs hpσ_38 hkσ_38 hI => ?_)
              have ahpσ_38 := hpσ_38.1
              have bhpσ_38 := hpσ_38.2.1
              have chpσ_38 := hpσ_38.2.2
              clear hpσ_38
              replace hI := q_Irw ahpσ_38 hI
              replace hF := q_letX hF chpσ_38
              refine q_if_ne (A := r_37.toInt) E rfl (tgt := 116) dX12_readTest_104 (by decide) (fun c_39 => ?_) (fun c_39 => ?_)
              · skip
                replace hF := q_ifn hF c_39
                replace c_39 := q_ifOne bhpσ_38 c_39
                refine lv_iconst (v := 1) hx hb dX12_readTest_116 zki_1 ?_
                refine lv_goto (tgt := 121) hx hb dX12_readTest_117 (by decide) ?_
                have kc_40 : (1 : Int32).toInt = 1 := zt_1
                refine q_cv (q_rV11_1 (rest := []) E (hml.trans hl.1.symm) hI (c_X12_must l X σ_15 a (1 : Int32) ha (by first | exact sm_9 smσ_15 | exact hs | omega) (by first | (clear hs hw hc2 bhpσ_2 chpσ_2 j15 chpσ_5 dhpσ_5 ehpσ_5 iz_6 t5σ_7 t6σ_7 t1σ_8 t6σ_8 if_9 c_10 c_11 iz_12 if_13 c_14 kc_16 t6σ_15 t1σ_15 kc_17 ahpσ_19 bhpσ_19 chpσ_19 c_20 kc_36 ahpσ_38 bhpσ_38 chpσ_38 c_39; omega) | omega)) kv_X12_216 ha ⟨Nat.le_of_ble_eq_true rfl, Nat.le_of_ble_eq_true rfl⟩ (Nat.le_of_ble_eq_true rfl) dX12_readTest_121) hI (Nat.le_of_ble_eq_true rfl) (fun σ_42 H locs hpσ_42 hkσ_42 hI => ?_)
                have ahpσ_42 := hpσ_42.1
                have bhpσ_42 := hpσ_42.2.1
                have chpσ_42 := hpσ_42.2.2.1
                have dhpσ_42 := hpσ_42.2.2.2.1
                have ehpσ_42 := hpσ_42.2.2.2.2
                clear hpσ_42
                have fr_σ_42 := fr_σ_15.call ehpσ_42 rfl rfl
                replace hF := q_letX hF dhpσ_42
                have mv27_σ_42 : (σ_42.1 a 27).toInt = (σ_15.1 a 27).toInt := congrArg Int32.toInt (ahpσ_42 a 27 (q_cl9 _ _) (fun h => absurd h.2.2 (by decide)))
                have mcσ_42 := m_cK hkσ_42 hI.1 ha (by decide)
                have kwσ_42 : ∀ j, 0 ≤ j → (j < v1.toInt + 1 ∨ v1.toInt + 8 ≤ j) → m_c X σ_42 a j = m_c X σ a j := fun j h0 h1 => (mcσ_42 j).trans (kwσ_15 j h0 h1)
                have smσ_42 : 0 ≤ (σ_42.1 a 15).toInt ∧ (σ_42.1 a 15).toInt ≤ (σ_42.1 a 16).toInt ∧ (σ_42.1 a 16).toInt ≤ (σ_42.1 a 9).toInt ∧ (σ_42.1 a 9).toInt ≤ 900 ∧ 0 ≤ (σ_42.1 a 14).toInt ∧ (σ_42.1 a 14).toInt ≤ 4 ∧ (σ_42.1 a 14).toInt ≤ 4 * ((σ_42.1 a 16).toInt - (σ_42.1 a 15).toInt) ∧ (σ_42.1 a 14).toInt ≤ 4 * ((σ_42.1 a 9).toInt - (σ_42.1 a 15).toInt) ∧ 0 ≤ (σ_42.1 a 12).toInt ∧ (σ_42.1 a 9).toInt = (σ.1 a 9).toInt ∧ (σ.1 a 15).toInt ≤ (σ_42.1 a 15).toInt ∧ (σ.1 a 12).toInt ≤ (σ_42.1 a 12).toInt := (by first | exact sm_tr smσ_15 bhpσ_42 | exact sm_tr smσ_15 chpσ_42 | omega)
                have nsσ_42 : (σ_42.1 a 27).toInt = (σ.1 a 27).toInt := (by first | (clear hs hw hc2 bhpσ_2 chpσ_2 j15 chpσ_5 dhpσ_5 ehpσ_5 iz_6 t5σ_7 t6σ_7 t1σ_8 t6σ_8 if_9 c_10 c_11 iz_12 if_13 c_14 kc_16 t6σ_15 t1σ_15 kc_17 ahpσ_19 bhpσ_19 chpσ_19 c_20 kc_36 ahpσ_38 bhpσ_38 chpσ_38 c_39 kc_40 ahpσ_42 bhpσ_42 chpσ_42 dhpσ_42 ehpσ_42 smσ_42; omega) | omega)
                have t5σ_42 : 0 ≤ r_1.toInt + (σ_42.1 a 12).toInt := (by first | (clear hs hw hc2 bhpσ_2 chpσ_2 j15 chpσ_5 dhpσ_5 ehpσ_5 iz_6 t5σ_7 t1σ_8 if_9 c_10 c_11 iz_12 if_13 c_14 kc_16 t1σ_15 kc_17 ahpσ_19 bhpσ_19 chpσ_19 c_20 kc_36 ahpσ_38 bhpσ_38 chpσ_38 c_39 kc_40 ahpσ_42 chpσ_42 dhpσ_42 ehpσ_42 mv27_σ_42 smσ_42 nsσ_42; omega) | omega)
                have t6σ_42 : m_c X σ_42 a (v1.toInt + 6) = r_1.toInt := (mcσ_42 _).trans t6σ_15
                have t1σ_42 : m_t1 (m_c X σ_42 a) v1.toInt := m_t1.k t1σ_15 (mcσ_42 _) (mcσ_42 _)
                clear mv27_σ_42 smσ_15 nsσ_15 t5σ_15 bhpσ_42
                refine lv_aload_n hx hb dX12_readTest_124 rfl (lv_at hl 0 rfl) ?_
                refine gs_X12_35_12 E hI ha dX12_readTest_125 ?_
                refine lv_iload_n hx hb dX12_readTest_128 rfl (lv_at hl 1 rfl) ?_
                refine lv_iconst (v := 2) hx hb dX12_readTest_129 zki_2 ?_
                refine lv_iadd hx hb dX12_readTest_130 ?_
                refine lv_topi (fun z_43 ez_43 => ?_)
                replace hF := q_letX hF ez_43
                have iz_43 := q_addI (A := v1.toInt) (B := 2) ez_43 rfl (by decide) (by first | (clear hs hc2 bhpσ_2 chpσ_2 j15 chpσ_5 dhpσ_5 ehpσ_5 t5σ_7 t6σ_7 t1σ_8 t6σ_8 if_9 c_10 c_11 if_13 c_14 kc_16 t6σ_15 t1σ_15 kc_17 ahpσ_19 bhpσ_19 chpσ_19 c_20 kc_36 ahpσ_38 bhpσ_38 chpσ_38 c_39 kc_40 ahpσ_42 chpσ_42 dhpσ_42 ehpσ_42 smσ_42 nsσ_42 t5σ_42 t6σ_42 t1σ_42; omega) | omega) (by first | (clear hs hc2 bhpσ_2 chpσ_2 j15 chpσ_5 dhpσ_5 ehpσ_5 t5σ_7 t6σ_7 t1σ_8 t6σ_8 if_9 c_10 c_11 if_13 c_14 kc_16 t6σ_15 t1σ_15 kc_17 ahpσ_19 bhpσ_19 chpσ_19 c_20 kc_36 ahpσ_38 bhpσ_38 chpσ_38 c_39 kc_40 ahpσ_42 chpσ_42 dhpσ_42 ehpσ_42 smσ_42 nsσ_42 t5σ_42 t6σ_42 t1σ_42; omega) | omega)
                refine lv_aload_n hx hb dX12_readTest_131 rfl (lv_at hl 0 rfl) ?_
                refine lv_iconst (v := 0) hx hb dX12_readTest_132 zki_0 ?_
                refine lv_iload_n hx hb dX12_readTest_133 rfl (lv_at hl 2 rfl) ?_
                refine lv_iconst (v := 2) hx hb dX12_readTest_134 zki_2 ?_
                refine q_icmp_ne (A := r_1.toInt) (B := 2) E rfl (by decide) (tgt := 144) dX12_readTest_135 (by decide) (fun c_44 => ?_) (fun c_44 => ?_)
                · skip
                  replace hF := q_ifn hF c_44
                  refine lv_bipush (v := 80) hx hb dX12_readTest_144 zkb_80 ?_
                  have kc_45 : (0 : Int32).toInt = 0 := zt_0
                  have kc_46 : (80 : Int32).toInt = 80 := zt_80
                  refine q_ci (q_rV11_2 (rest := [.int z_43, .ref (q_rf X a 20)]) E (hml.trans hl.1.symm) hI (c_X12_count l X σ_42 a (0 : Int32) (80 : Int32) ha (by first | exact sm_9 smσ_42 | exact hs | omega) (by first | (clear hs hw hc2 bhpσ_2 chpσ_2 j15 chpσ_5 dhpσ_5 ehpσ_5 iz_6 t5σ_7 t6σ_7 t1σ_8 t6σ_8 if_9 c_10 c_11 iz_12 if_13 c_14 t6σ_15 t1σ_15 kc_17 ahpσ_19 bhpσ_19 chpσ_19 c_20 kc_36 ahpσ_38 bhpσ_38 chpσ_38 c_39 kc_40 ahpσ_42 chpσ_42 dhpσ_42 ehpσ_42 smσ_42 nsσ_42 t5σ_42 t6σ_42 t1σ_42 iz_43 c_44 kc_45; omega) | omega)) kv_X12_223 ha ⟨Nat.le_of_ble_eq_true rfl, Nat.le_of_ble_eq_true rfl⟩ (Nat.le_of_ble_eq_true rfl) dX12_readTest_146) hI (Nat.le_of_ble_eq_true rfl) (fun r_47 σ_48 H locs hpσ_48 hkσ_48 hI => ?_)
                  have ahpσ_48 := hpσ_48.1
                  have bhpσ_48 := hpσ_48.2.1
                  have chpσ_48 := hpσ_48.2.2.1
                  have dhpσ_48 := hpσ_48.2.2.2.1
                  have ehpσ_48 := hpσ_48.2.2.2.2
                  clear hpσ_48
                  have fr_σ_48 := fr_σ_42.call ehpσ_48 rfl rfl
                  replace hF := q_biX hF dhpσ_48
                  have mv27_σ_48 : (σ_48.1 a 27).toInt = (σ_42.1 a 27).toInt := congrArg Int32.toInt (ahpσ_48 a 27 (q_cl9 _ _) (fun h => absurd h.2.2 (by decide)))
                  have mcσ_48 := m_cK hkσ_48 hI.1 ha (by decide)
                  have kwσ_48 : ∀ j, 0 ≤ j → (j < v1.toInt + 1 ∨ v1.toInt + 8 ≤ j) → m_c X σ_48 a j = m_c X σ a j := fun j h0 h1 => (mcσ_48 j).trans (kwσ_42 j h0 h1)
                  have smσ_48 : 0 ≤ (σ_48.1 a 15).toInt ∧ (σ_48.1 a 15).toInt ≤ (σ_48.1 a 16).toInt ∧ (σ_48.1 a 16).toInt ≤ (σ_48.1 a 9).toInt ∧ (σ_48.1 a 9).toInt ≤ 900 ∧ 0 ≤ (σ_48.1 a 14).toInt ∧ (σ_48.1 a 14).toInt ≤ 4 ∧ (σ_48.1 a 14).toInt ≤ 4 * ((σ_48.1 a 16).toInt - (σ_48.1 a 15).toInt) ∧ (σ_48.1 a 14).toInt ≤ 4 * ((σ_48.1 a 9).toInt - (σ_48.1 a 15).toInt) ∧ 0 ≤ (σ_48.1 a 12).toInt ∧ (σ_48.1 a 9).toInt = (σ.1 a 9).toInt ∧ (σ.1 a 15).toInt ≤ (σ_48.1 a 15).toInt ∧ (σ.1 a 12).toInt ≤ (σ_48.1 a 12).toInt := (by first | exact sm_tr smσ_42 bhpσ_48 | exact sm_tr smσ_42 chpσ_48 | omega)
                  have nsσ_48 : (σ_48.1 a 27).toInt = (σ.1 a 27).toInt := (by first | (clear hs hw hc2 bhpσ_2 chpσ_2 j15 chpσ_5 dhpσ_5 ehpσ_5 iz_6 t5σ_7 t6σ_7 t1σ_8 t6σ_8 if_9 c_10 c_11 iz_12 if_13 c_14 kc_16 t6σ_15 t1σ_15 kc_17 ahpσ_19 bhpσ_19 chpσ_19 c_20 kc_36 ahpσ_38 bhpσ_38 chpσ_38 c_39 kc_40 ahpσ_42 chpσ_42 dhpσ_42 ehpσ_42 smσ_42 t5σ_42 t6σ_42 t1σ_42 iz_43 c_44 kc_45 kc_46 ahpσ_48 bhpσ_48 chpσ_48 dhpσ_48 ehpσ_48 smσ_48; omega) | omega)
                  have t5σ_48 : 0 ≤ r_1.toInt + (σ_48.1 a 12).toInt := (by first | (clear hs hw hc2 bhpσ_2 chpσ_2 j15 chpσ_5 dhpσ_5 ehpσ_5 iz_6 t5σ_7 t1σ_8 if_9 c_10 c_11 iz_12 if_13 c_14 kc_16 t1σ_15 kc_17 ahpσ_19 bhpσ_19 chpσ_19 c_20 kc_36 ahpσ_38 bhpσ_38 chpσ_38 c_39 kc_40 ahpσ_42 chpσ_42 dhpσ_42 ehpσ_42 smσ_42 nsσ_42 t1σ_42 iz_43 c_44 kc_45 kc_46 ahpσ_48 chpσ_48 dhpσ_48 ehpσ_48 mv27_σ_48 smσ_48 nsσ_48; omega) | omega)
                  have t6σ_48 : m_c X σ_48 a (v1.toInt + 6) = r_1.toInt := (mcσ_48 _).trans t6σ_42
                  have t1σ_48 : m_t1 (m_c X σ_48 a) v1.toInt := m_t1.k t1σ_42 (mcσ_48 _) (mcσ_48 _)
                  clear mv27_σ_48 smσ_42 nsσ_42 t5σ_42 bhpσ_48
                  refine q_iastN E hI (q_tk (k' := 34) hI ha rfl (Nat.succ_ne_zero _)) ⟨by decide, rfl⟩ (by first | (clear hs hc2 bhpσ_2 chpσ_2 j15 chpσ_5 dhpσ_5 ehpσ_5 t5σ_7 t6σ_7 t1σ_8 t6σ_8 if_9 c_10 c_11 if_13 c_14 kc_16 t6σ_15 t1σ_15 kc_17 ahpσ_19 bhpσ_19 chpσ_19 c_20 kc_36 ahpσ_38 bhpσ_38 chpσ_38 c_39 kc_40 ahpσ_42 chpσ_42 dhpσ_42 ehpσ_42 t6σ_42 t1σ_42 c_44 kc_45 kc_46 ahpσ_48 chpσ_48 dhpσ_48 ehpσ_48 smσ_48 nsσ_48 t5σ_48 t6σ_48 t1σ_48; omega) | omega) (by rw [q_lnk (v := 4650) hI (q_tk (k' := 34) hI ha rfl (Nat.succ_ne_zero _)) rfl (by decide)]; omega) (show 1 < 2 by decide) (q_inU rfl) dX12_readTest_149 (fun H locs σ_49 hσ_49 hI => ?_)
                  replace hF := q_letX hF hσ_49
                  have fr_σ_49 := fr_σ_48.si hσ_49 (q_tk (k' := 34) hI ha rfl (Nat.succ_ne_zero _)) rfl
                  have mv9_σ_49 : (σ_49.1 a 9).toInt = (σ_48.1 a 9).toInt := congrArg Int32.toInt (q_rdn hσ_49 (Or.inl (m_ne ha (q_tk (k' := 34) hI ha rfl (Nat.succ_ne_zero _)) (by decide))))
                  have mv12_σ_49 : (σ_49.1 a 12).toInt = (σ_48.1 a 12).toInt := congrArg Int32.toInt (q_rdn hσ_49 (Or.inl (m_ne ha (q_tk (k' := 34) hI ha rfl (Nat.succ_ne_zero _)) (by decide))))
                  have mv14_σ_49 : (σ_49.1 a 14).toInt = (σ_48.1 a 14).toInt := congrArg Int32.toInt (q_rdn hσ_49 (Or.inl (m_ne ha (q_tk (k' := 34) hI ha rfl (Nat.succ_ne_zero _)) (by decide))))
                  have mv15_σ_49 : (σ_49.1 a 15).toInt = (σ_48.1 a 15).toInt := congrArg Int32.toInt (q_rdn hσ_49 (Or.inl (m_ne ha (q_tk (k' := 34) hI ha rfl (Nat.succ_ne_zero _)) (by decide))))
                  have mv16_σ_49 : (σ_49.1 a 16).toInt = (σ_48.1 a 16).toInt := congrArg Int32.toInt (q_rdn hσ_49 (Or.inl (m_ne ha (q_tk (k' := 34) hI ha rfl (Nat.succ_ne_zero _)) (by decide))))
                  have mv27_σ_49 : (σ_49.1 a 27).toInt = (σ_48.1 a 27).toInt := congrArg Int32.toInt (q_rdn hσ_49 (Or.inl (m_ne ha (q_tk (k' := 34) hI ha rfl (Nat.succ_ne_zero _)) (by decide))))
                  have mcσ_49 := m_wr (v := r_47) (A := (v1.toInt + 2)) hσ_49 iz_43 (by first | (clear hs hc2 bhpσ_2 chpσ_2 j15 chpσ_5 dhpσ_5 ehpσ_5 t5σ_7 t6σ_7 t1σ_8 t6σ_8 if_9 c_10 c_11 if_13 c_14 kc_16 t6σ_15 t1σ_15 kc_17 ahpσ_19 bhpσ_19 chpσ_19 c_20 kc_36 ahpσ_38 bhpσ_38 chpσ_38 c_39 kc_40 ahpσ_42 chpσ_42 dhpσ_42 ehpσ_42 t6σ_42 t1σ_42 c_44 kc_45 kc_46 ahpσ_48 chpσ_48 dhpσ_48 ehpσ_48 smσ_48 nsσ_48 t5σ_48 t6σ_48 t1σ_48 mv9_σ_49 mv12_σ_49 mv14_σ_49 mv15_σ_49 mv16_σ_49 mv27_σ_49; omega) | omega)
                  have kwσ_49 : ∀ j, 0 ≤ j → (j < v1.toInt + 1 ∨ v1.toInt + 8 ≤ j) → m_c X σ_49 a j = m_c X σ a j := fun j h0 h1 => by rw [mcσ_49 j h0, if_neg (by first | (clear hs hw hc2 bhpσ_2 chpσ_2 j15 chpσ_5 dhpσ_5 ehpσ_5 t5σ_7 t6σ_7 t1σ_8 t6σ_8 if_9 c_10 c_11 if_13 c_14 kc_16 t6σ_15 t1σ_15 kc_17 ahpσ_19 bhpσ_19 chpσ_19 c_20 kc_36 ahpσ_38 bhpσ_38 chpσ_38 c_39 kc_40 ahpσ_42 chpσ_42 dhpσ_42 ehpσ_42 t6σ_42 t1σ_42 c_44 kc_45 kc_46 ahpσ_48 chpσ_48 dhpσ_48 ehpσ_48 smσ_48 nsσ_48 t5σ_48 t6σ_48 t1σ_48 mv9_σ_49 mv12_σ_49 mv14_σ_49 mv15_σ_49 mv16_σ_49 mv27_σ_49; omega) | omega)]; exact kwσ_48 j h0 h1
                  have smσ_49 : 0 ≤ (σ_49.1 a 15).toInt ∧ (σ_49.1 a 15).toInt ≤ (σ_49.1 a 16).toInt ∧ (σ_49.1 a 16).toInt ≤ (σ_49.1 a 9).toInt ∧ (σ_49.1 a 9).toInt ≤ 900 ∧ 0 ≤ (σ_49.1 a 14).toInt ∧ (σ_49.1 a 14).toInt ≤ 4 ∧ (σ_49.1 a 14).toInt ≤ 4 * ((σ_49.1 a 16).toInt - (σ_49.1 a 15).toInt) ∧ (σ_49.1 a 14).toInt ≤ 4 * ((σ_49.1 a 9).toInt - (σ_49.1 a 15).toInt) ∧ 0 ≤ (σ_49.1 a 12).toInt ∧ (σ_49.1 a 9).toInt = (σ.1 a 9).toInt ∧ (σ.1 a 15).toInt ≤ (σ_49.1 a 15).toInt ∧ (σ.1 a 12).toInt ≤ (σ_49.1 a 12).toInt := (by first | (rw [mv12_σ_49, mv14_σ_49, mv15_σ_49, mv16_σ_49, mv9_σ_49]; exact smσ_48) | omega)
                  have nsσ_49 : (σ_49.1 a 27).toInt = (σ.1 a 27).toInt := (by first | (clear hs hw hc2 bhpσ_2 chpσ_2 j15 chpσ_5 dhpσ_5 ehpσ_5 iz_6 t5σ_7 t6σ_7 t1σ_8 t6σ_8 if_9 c_10 c_11 iz_12 if_13 c_14 kc_16 t6σ_15 t1σ_15 kc_17 ahpσ_19 bhpσ_19 chpσ_19 c_20 kc_36 ahpσ_38 bhpσ_38 chpσ_38 c_39 kc_40 ahpσ_42 chpσ_42 dhpσ_42 ehpσ_42 t6σ_42 t1σ_42 iz_43 c_44 kc_45 kc_46 ahpσ_48 chpσ_48 dhpσ_48 ehpσ_48 smσ_48 t5σ_48 t6σ_48 t1σ_48 mv9_σ_49 mv12_σ_49 mv14_σ_49 mv15_σ_49 mv16_σ_49 smσ_49; omega) | omega)
                  have t5σ_49 : 0 ≤ r_1.toInt + (σ_49.1 a 12).toInt := (by first | (clear hs hw hc2 bhpσ_2 chpσ_2 j15 chpσ_5 dhpσ_5 ehpσ_5 iz_6 t5σ_7 t1σ_8 if_9 c_10 c_11 iz_12 if_13 c_14 kc_16 t1σ_15 kc_17 ahpσ_19 bhpσ_19 chpσ_19 c_20 kc_36 ahpσ_38 bhpσ_38 chpσ_38 c_39 kc_40 ahpσ_42 chpσ_42 dhpσ_42 ehpσ_42 t1σ_42 iz_43 c_44 kc_45 kc_46 ahpσ_48 chpσ_48 dhpσ_48 ehpσ_48 smσ_48 nsσ_48 t1σ_48 mv9_σ_49 mv14_σ_49 mv15_σ_49 mv16_σ_49 mv27_σ_49 smσ_49 nsσ_49; omega) | omega)
                  have t6σ_49 : m_c X σ_49 a (v1.toInt + 6) = r_1.toInt := (by rw [mcσ_49 (v1.toInt + 6) (by first | (clear hs hc2 bhpσ_2 chpσ_2 j15 chpσ_5 dhpσ_5 ehpσ_5 t5σ_7 t6σ_7 t1σ_8 t6σ_8 if_9 c_10 c_11 if_13 c_14 kc_16 t6σ_15 t1σ_15 kc_17 ahpσ_19 bhpσ_19 chpσ_19 c_20 kc_36 ahpσ_38 bhpσ_38 chpσ_38 c_39 kc_40 ahpσ_42 chpσ_42 dhpσ_42 ehpσ_42 t6σ_42 t1σ_42 c_44 kc_45 kc_46 ahpσ_48 chpσ_48 dhpσ_48 ehpσ_48 smσ_48 nsσ_48 t5σ_48 t6σ_48 t1σ_48 mv9_σ_49 mv12_σ_49 mv14_σ_49 mv15_σ_49 mv16_σ_49 mv27_σ_49 smσ_49 nsσ_49 t5σ_49; omega) | omega), if_neg (by first | (clear hs hw hc2 bhpσ_2 chpσ_2 j15 chpσ_5 dhpσ_5 ehpσ_5 iz_6 t5σ_7 t6σ_7 t1σ_8 t6σ_8 if_9 c_10 c_11 iz_12 if_13 c_14 kc_16 t6σ_15 t1σ_15 kc_17 ahpσ_19 bhpσ_19 chpσ_19 c_20 kc_36 ahpσ_38 bhpσ_38 chpσ_38 c_39 kc_40 ahpσ_42 chpσ_42 dhpσ_42 ehpσ_42 t6σ_42 t1σ_42 iz_43 c_44 kc_45 kc_46 ahpσ_48 chpσ_48 dhpσ_48 ehpσ_48 smσ_48 nsσ_48 t5σ_48 t6σ_48 t1σ_48 mv9_σ_49 mv12_σ_49 mv14_σ_49 mv15_σ_49 mv16_σ_49 mv27_σ_49 smσ_49 nsσ_49 t5σ_49; omega) | omega)]; exact t6σ_48)
                  have t1σ_49 : m_t1 (m_c X σ_49 a) v1.toInt := m_t1.k t1σ_48 (by rw [mcσ_49 (v1.toInt + 6) (by first | (clear hs hc2 bhpσ_2 chpσ_2 j15 chpσ_5 dhpσ_5 ehpσ_5 t5σ_7 t6σ_7 t1σ_8 t6σ_8 if_9 c_10 c_11 if_13 c_14 kc_16 t6σ_15 t1σ_15 kc_17 ahpσ_19 bhpσ_19 chpσ_19 c_20 kc_36 ahpσ_38 bhpσ_38 chpσ_38 c_39 kc_40 ahpσ_42 chpσ_42 dhpσ_42 ehpσ_42 t6σ_42 t1σ_42 c_44 kc_45 kc_46 ahpσ_48 chpσ_48 dhpσ_48 ehpσ_48 smσ_48 nsσ_48 t5σ_48 t6σ_48 t1σ_48 mv9_σ_49 mv12_σ_49 mv14_σ_49 mv15_σ_49 mv16_σ_49 mv27_σ_49 smσ_49 nsσ_49 t5σ_49 t6σ_49; omega) | omega), if_neg (by first | (clear hs hw hc2 bhpσ_2 chpσ_2 j15 chpσ_5 dhpσ_5 ehpσ_5 iz_6 t5σ_7 t6σ_7 t1σ_8 t6σ_8 if_9 c_10 c_11 iz_12 if_13 c_14 kc_16 t6σ_15 t1σ_15 kc_17 ahpσ_19 bhpσ_19 chpσ_19 c_20 kc_36 ahpσ_38 bhpσ_38 chpσ_38 c_39 kc_40 ahpσ_42 chpσ_42 dhpσ_42 ehpσ_42 t6σ_42 t1σ_42 iz_43 c_44 kc_45 kc_46 ahpσ_48 chpσ_48 dhpσ_48 ehpσ_48 smσ_48 nsσ_48 t5σ_48 t6σ_48 t1σ_48 mv9_σ_49 mv12_σ_49 mv14_σ_49 mv15_σ_49 mv16_σ_49 mv27_σ_49 smσ_49 nsσ_49 t5σ_49 t6σ_49; omega) | omega)]) (by rw [mcσ_49 (v1.toInt + 1) (by first | (clear hs hc2 bhpσ_2 chpσ_2 j15 chpσ_5 dhpσ_5 ehpσ_5 t5σ_7 t6σ_7 t1σ_8 t6σ_8 if_9 c_10 c_11 if_13 c_14 kc_16 t6σ_15 t1σ_15 kc_17 ahpσ_19 bhpσ_19 chpσ_19 c_20 kc_36 ahpσ_38 bhpσ_38 chpσ_38 c_39 kc_40 ahpσ_42 chpσ_42 dhpσ_42 ehpσ_42 t6σ_42 t1σ_42 c_44 kc_45 kc_46 ahpσ_48 chpσ_48 dhpσ_48 ehpσ_48 smσ_48 nsσ_48 t5σ_48 t6σ_48 t1σ_48 mv9_σ_49 mv12_σ_49 mv14_σ_49 mv15_σ_49 mv16_σ_49 mv27_σ_49 smσ_49 nsσ_49 t5σ_49 t6σ_49; omega) | omega), if_neg (by first | (clear hs hw hc2 bhpσ_2 chpσ_2 j15 chpσ_5 dhpσ_5 ehpσ_5 iz_6 t5σ_7 t6σ_7 t1σ_8 t6σ_8 if_9 c_10 c_11 iz_12 if_13 c_14 kc_16 t6σ_15 t1σ_15 kc_17 ahpσ_19 bhpσ_19 chpσ_19 c_20 kc_36 ahpσ_38 bhpσ_38 chpσ_38 c_39 kc_40 ahpσ_42 chpσ_42 dhpσ_42 ehpσ_42 t6σ_42 t1σ_42 iz_43 c_44 kc_45 kc_46 ahpσ_48 chpσ_48 dhpσ_48 ehpσ_48 smσ_48 nsσ_48 t5σ_48 t6σ_48 t1σ_48 mv9_σ_49 mv12_σ_49 mv14_σ_49 mv15_σ_49 mv16_σ_49 mv27_σ_49 smσ_49 nsσ_49 t5σ_49 t6σ_49; omega) | omega)])
                  clear mv9_σ_49 mv12_σ_49 mv14_σ_49 mv15_σ_49 mv16_σ_49 mv27_σ_49 smσ_48 nsσ_48 t5σ_48
                  rewrite [hQQ]; exact q_retv E hr hlk hI ⟨kwσ_49, (by first | exact smσ_49 | omega), nsσ_49, (fun e => ⟨by rw [t6σ_49]; omega, t1σ_49⟩), (hF.trans hout), fr_σ_49⟩ dX12_readTest_150
                · skip
                  replace hF := q_ifp hF c_44
                  refine lv_sipush (v := 999) hx hb dX12_readTest_138 zks_999 ?_
                  refine lv_goto (tgt := 146) hx hb dX12_readTest_141 (by decide) ?_
                  have kc_50 : (0 : Int32).toInt = 0 := zt_0
                  have kc_51 : (999 : Int32).toInt = 999 := zt_999
                  refine q_ci (q_rV11_2 (rest := [.int z_43, .ref (q_rf X a 20)]) E (hml.trans hl.1.symm) hI (c_X12_count l X σ_42 a (0 : Int32) (999 : Int32) ha (by first | exact sm_9 smσ_42 | exact hs | omega) (by first | (clear hs hw hc2 bhpσ_2 chpσ_2 j15 chpσ_5 dhpσ_5 ehpσ_5 iz_6 t5σ_7 t6σ_7 t1σ_8 t6σ_8 if_9 c_10 c_11 iz_12 if_13 c_14 t6σ_15 t1σ_15 kc_17 ahpσ_19 bhpσ_19 chpσ_19 c_20 kc_36 ahpσ_38 bhpσ_38 chpσ_38 c_39 kc_40 ahpσ_42 chpσ_42 dhpσ_42 ehpσ_42 t6σ_42 t1σ_42 iz_43 c_44 kc_50; omega) | omega)) kv_X12_223 ha ⟨Nat.le_of_ble_eq_true rfl, Nat.le_of_ble_eq_true rfl⟩ (Nat.le_of_ble_eq_true rfl) dX12_readTest_146) hI (Nat.le_of_ble_eq_true rfl) (fun r_52 σ_53 H locs hpσ_53 hkσ_53 hI => ?_)
                  have ahpσ_53 := hpσ_53.1
                  have bhpσ_53 := hpσ_53.2.1
                  have chpσ_53 := hpσ_53.2.2.1
                  have dhpσ_53 := hpσ_53.2.2.2.1
                  have ehpσ_53 := hpσ_53.2.2.2.2
                  clear hpσ_53
                  have fr_σ_53 := fr_σ_42.call ehpσ_53 rfl rfl
                  replace hF := q_biX hF dhpσ_53
                  have mv27_σ_53 : (σ_53.1 a 27).toInt = (σ_42.1 a 27).toInt := congrArg Int32.toInt (ahpσ_53 a 27 (q_cl9 _ _) (fun h => absurd h.2.2 (by decide)))
                  have mcσ_53 := m_cK hkσ_53 hI.1 ha (by decide)
                  have kwσ_53 : ∀ j, 0 ≤ j → (j < v1.toInt + 1 ∨ v1.toInt + 8 ≤ j) → m_c X σ_53 a j = m_c X σ a j := fun j h0 h1 => (mcσ_53 j).trans (kwσ_42 j h0 h1)
                  have smσ_53 : 0 ≤ (σ_53.1 a 15).toInt ∧ (σ_53.1 a 15).toInt ≤ (σ_53.1 a 16).toInt ∧ (σ_53.1 a 16).toInt ≤ (σ_53.1 a 9).toInt ∧ (σ_53.1 a 9).toInt ≤ 900 ∧ 0 ≤ (σ_53.1 a 14).toInt ∧ (σ_53.1 a 14).toInt ≤ 4 ∧ (σ_53.1 a 14).toInt ≤ 4 * ((σ_53.1 a 16).toInt - (σ_53.1 a 15).toInt) ∧ (σ_53.1 a 14).toInt ≤ 4 * ((σ_53.1 a 9).toInt - (σ_53.1 a 15).toInt) ∧ 0 ≤ (σ_53.1 a 12).toInt ∧ (σ_53.1 a 9).toInt = (σ.1 a 9).toInt ∧ (σ.1 a 15).toInt ≤ (σ_53.1 a 15).toInt ∧ (σ.1 a 12).toInt ≤ (σ_53.1 a 12).toInt := (by first | exact sm_tr smσ_42 bhpσ_53 | exact sm_tr smσ_42 chpσ_53 | omega)
                  have nsσ_53 : (σ_53.1 a 27).toInt = (σ.1 a 27).toInt := (by first | (clear hs hw hc2 bhpσ_2 chpσ_2 j15 chpσ_5 dhpσ_5 ehpσ_5 iz_6 t5σ_7 t6σ_7 t1σ_8 t6σ_8 if_9 c_10 c_11 iz_12 if_13 c_14 kc_16 t6σ_15 t1σ_15 kc_17 ahpσ_19 bhpσ_19 chpσ_19 c_20 kc_36 ahpσ_38 bhpσ_38 chpσ_38 c_39 kc_40 ahpσ_42 chpσ_42 dhpσ_42 ehpσ_42 t6σ_42 t1σ_42 iz_43 c_44 kc_50 kc_51 ahpσ_53 bhpσ_53 chpσ_53 dhpσ_53 ehpσ_53 smσ_53; omega) | omega)
                  have t5σ_53 : 0 ≤ r_1.toInt + (σ_53.1 a 12).toInt := (by first | (clear hs hw hc2 bhpσ_2 chpσ_2 j15 chpσ_5 dhpσ_5 ehpσ_5 iz_6 t5σ_7 t1σ_8 if_9 c_10 c_11 iz_12 if_13 c_14 kc_16 t1σ_15 kc_17 ahpσ_19 bhpσ_19 chpσ_19 c_20 kc_36 ahpσ_38 bhpσ_38 chpσ_38 c_39 kc_40 ahpσ_42 chpσ_42 dhpσ_42 ehpσ_42 t1σ_42 iz_43 kc_50 kc_51 ahpσ_53 chpσ_53 dhpσ_53 ehpσ_53 mv27_σ_53 smσ_53 nsσ_53; omega) | omega)
                  have t6σ_53 : m_c X σ_53 a (v1.toInt + 6) = r_1.toInt := (mcσ_53 _).trans t6σ_42
                  have t1σ_53 : m_t1 (m_c X σ_53 a) v1.toInt := m_t1.k t1σ_42 (mcσ_53 _) (mcσ_53 _)
                  clear mv27_σ_53 smσ_42 nsσ_42 t5σ_42 bhpσ_53
                  refine q_iastN E hI (q_tk (k' := 34) hI ha rfl (Nat.succ_ne_zero _)) ⟨by decide, rfl⟩ (by first | (clear hs hc2 bhpσ_2 chpσ_2 j15 chpσ_5 dhpσ_5 ehpσ_5 t5σ_7 t6σ_7 t1σ_8 t6σ_8 if_9 c_10 c_11 if_13 c_14 kc_16 t6σ_15 t1σ_15 kc_17 ahpσ_19 bhpσ_19 chpσ_19 c_20 kc_36 ahpσ_38 bhpσ_38 chpσ_38 c_39 kc_40 ahpσ_42 chpσ_42 dhpσ_42 ehpσ_42 t6σ_42 t1σ_42 c_44 kc_50 kc_51 ahpσ_53 chpσ_53 dhpσ_53 ehpσ_53 smσ_53 nsσ_53 t5σ_53 t6σ_53 t1σ_53; omega) | omega) (by rw [q_lnk (v := 4650) hI (q_tk (k' := 34) hI ha rfl (Nat.succ_ne_zero _)) rfl (by decide)]; omega) (show 1 < 2 by decide) (q_inU rfl) dX12_readTest_149 (fun H locs σ_54 hσ_54 hI => ?_)
                  replace hF := q_letX hF hσ_54
                  have fr_σ_54 := fr_σ_53.si hσ_54 (q_tk (k' := 34) hI ha rfl (Nat.succ_ne_zero _)) rfl
                  have mv9_σ_54 : (σ_54.1 a 9).toInt = (σ_53.1 a 9).toInt := congrArg Int32.toInt (q_rdn hσ_54 (Or.inl (m_ne ha (q_tk (k' := 34) hI ha rfl (Nat.succ_ne_zero _)) (by decide))))
                  have mv12_σ_54 : (σ_54.1 a 12).toInt = (σ_53.1 a 12).toInt := congrArg Int32.toInt (q_rdn hσ_54 (Or.inl (m_ne ha (q_tk (k' := 34) hI ha rfl (Nat.succ_ne_zero _)) (by decide))))
                  have mv14_σ_54 : (σ_54.1 a 14).toInt = (σ_53.1 a 14).toInt := congrArg Int32.toInt (q_rdn hσ_54 (Or.inl (m_ne ha (q_tk (k' := 34) hI ha rfl (Nat.succ_ne_zero _)) (by decide))))
                  have mv15_σ_54 : (σ_54.1 a 15).toInt = (σ_53.1 a 15).toInt := congrArg Int32.toInt (q_rdn hσ_54 (Or.inl (m_ne ha (q_tk (k' := 34) hI ha rfl (Nat.succ_ne_zero _)) (by decide))))
                  have mv16_σ_54 : (σ_54.1 a 16).toInt = (σ_53.1 a 16).toInt := congrArg Int32.toInt (q_rdn hσ_54 (Or.inl (m_ne ha (q_tk (k' := 34) hI ha rfl (Nat.succ_ne_zero _)) (by decide))))
                  have mv27_σ_54 : (σ_54.1 a 27).toInt = (σ_53.1 a 27).toInt := congrArg Int32.toInt (q_rdn hσ_54 (Or.inl (m_ne ha (q_tk (k' := 34) hI ha rfl (Nat.succ_ne_zero _)) (by decide))))
                  have mcσ_54 := m_wr (v := r_52) (A := (v1.toInt + 2)) hσ_54 iz_43 (by first | (clear hs hc2 bhpσ_2 chpσ_2 j15 chpσ_5 dhpσ_5 ehpσ_5 t5σ_7 t6σ_7 t1σ_8 t6σ_8 if_9 c_10 c_11 if_13 c_14 kc_16 t6σ_15 t1σ_15 kc_17 ahpσ_19 bhpσ_19 chpσ_19 c_20 kc_36 ahpσ_38 bhpσ_38 chpσ_38 c_39 kc_40 ahpσ_42 chpσ_42 dhpσ_42 ehpσ_42 t6σ_42 t1σ_42 c_44 kc_50 kc_51 ahpσ_53 chpσ_53 dhpσ_53 ehpσ_53 smσ_53 nsσ_53 t5σ_53 t6σ_53 t1σ_53 mv9_σ_54 mv12_σ_54 mv14_σ_54 mv15_σ_54 mv16_σ_54 mv27_σ_54; omega) | omega)
                  have kwσ_54 : ∀ j, 0 ≤ j → (j < v1.toInt + 1 ∨ v1.toInt + 8 ≤ j) → m_c X σ_54 a j = m_c X σ a j := fun j h0 h1 => by rw [mcσ_54 j h0, if_neg (by first | (clear hs hw hc2 bhpσ_2 chpσ_2 j15 chpσ_5 dhpσ_5 ehpσ_5 t5σ_7 t6σ_7 t1σ_8 t6σ_8 if_9 c_10 c_11 if_13 c_14 kc_16 t6σ_15 t1σ_15 kc_17 ahpσ_19 bhpσ_19 chpσ_19 c_20 kc_36 ahpσ_38 bhpσ_38 chpσ_38 c_39 kc_40 ahpσ_42 chpσ_42 dhpσ_42 ehpσ_42 t6σ_42 t1σ_42 c_44 kc_50 kc_51 ahpσ_53 chpσ_53 dhpσ_53 ehpσ_53 smσ_53 nsσ_53 t5σ_53 t6σ_53 t1σ_53 mv9_σ_54 mv12_σ_54 mv14_σ_54 mv15_σ_54 mv16_σ_54 mv27_σ_54; omega) | omega)]; exact kwσ_53 j h0 h1
                  have smσ_54 : 0 ≤ (σ_54.1 a 15).toInt ∧ (σ_54.1 a 15).toInt ≤ (σ_54.1 a 16).toInt ∧ (σ_54.1 a 16).toInt ≤ (σ_54.1 a 9).toInt ∧ (σ_54.1 a 9).toInt ≤ 900 ∧ 0 ≤ (σ_54.1 a 14).toInt ∧ (σ_54.1 a 14).toInt ≤ 4 ∧ (σ_54.1 a 14).toInt ≤ 4 * ((σ_54.1 a 16).toInt - (σ_54.1 a 15).toInt) ∧ (σ_54.1 a 14).toInt ≤ 4 * ((σ_54.1 a 9).toInt - (σ_54.1 a 15).toInt) ∧ 0 ≤ (σ_54.1 a 12).toInt ∧ (σ_54.1 a 9).toInt = (σ.1 a 9).toInt ∧ (σ.1 a 15).toInt ≤ (σ_54.1 a 15).toInt ∧ (σ.1 a 12).toInt ≤ (σ_54.1 a 12).toInt := (by first | (rw [mv12_σ_54, mv14_σ_54, mv15_σ_54, mv16_σ_54, mv9_σ_54]; exact smσ_53) | omega)
                  have nsσ_54 : (σ_54.1 a 27).toInt = (σ.1 a 27).toInt := (by first | (clear hs hw hc2 bhpσ_2 chpσ_2 j15 chpσ_5 dhpσ_5 ehpσ_5 iz_6 t5σ_7 t6σ_7 t1σ_8 t6σ_8 if_9 c_10 c_11 iz_12 if_13 c_14 kc_16 t6σ_15 t1σ_15 kc_17 ahpσ_19 bhpσ_19 chpσ_19 c_20 kc_36 ahpσ_38 bhpσ_38 chpσ_38 c_39 kc_40 ahpσ_42 chpσ_42 dhpσ_42 ehpσ_42 t6σ_42 t1σ_42 iz_43 c_44 kc_50 kc_51 ahpσ_53 chpσ_53 dhpσ_53 ehpσ_53 smσ_53 t5σ_53 t6σ_53 t1σ_53 mv9_σ_54 mv12_σ_54 mv14_σ_54 mv15_σ_54 mv16_σ_54 smσ_54; omega) | omega)
                  have t5σ_54 : 0 ≤ r_1.toInt + (σ_54.1 a 12).toInt := (by first | (clear hs hw hc2 bhpσ_2 chpσ_2 j15 chpσ_5 dhpσ_5 ehpσ_5 iz_6 t5σ_7 t1σ_8 if_9 c_10 c_11 iz_12 if_13 c_14 kc_16 t1σ_15 kc_17 ahpσ_19 bhpσ_19 chpσ_19 c_20 kc_36 ahpσ_38 bhpσ_38 chpσ_38 c_39 kc_40 ahpσ_42 chpσ_42 dhpσ_42 ehpσ_42 t1σ_42 iz_43 kc_50 kc_51 ahpσ_53 chpσ_53 dhpσ_53 ehpσ_53 nsσ_53 t5σ_53 t6σ_53 t1σ_53 mv9_σ_54 mv14_σ_54 mv15_σ_54 mv16_σ_54 mv27_σ_54 smσ_54 nsσ_54; omega) | omega)
                  have t6σ_54 : m_c X σ_54 a (v1.toInt + 6) = r_1.toInt := (by rw [mcσ_54 (v1.toInt + 6) (by first | (clear hs hc2 bhpσ_2 chpσ_2 j15 chpσ_5 dhpσ_5 ehpσ_5 t5σ_7 t6σ_7 t1σ_8 t6σ_8 if_9 c_10 c_11 if_13 c_14 kc_16 t6σ_15 t1σ_15 kc_17 ahpσ_19 bhpσ_19 chpσ_19 c_20 kc_36 ahpσ_38 bhpσ_38 chpσ_38 c_39 kc_40 ahpσ_42 chpσ_42 dhpσ_42 ehpσ_42 t6σ_42 t1σ_42 c_44 kc_50 kc_51 ahpσ_53 chpσ_53 dhpσ_53 ehpσ_53 smσ_53 nsσ_53 t5σ_53 t6σ_53 t1σ_53 mv9_σ_54 mv12_σ_54 mv14_σ_54 mv15_σ_54 mv16_σ_54 mv27_σ_54 smσ_54 nsσ_54 t5σ_54; omega) | omega), if_neg (by first | (clear hs hw hc2 bhpσ_2 chpσ_2 j15 chpσ_5 dhpσ_5 ehpσ_5 iz_6 t5σ_7 t6σ_7 t1σ_8 t6σ_8 if_9 c_10 c_11 iz_12 if_13 c_14 kc_16 t6σ_15 t1σ_15 kc_17 ahpσ_19 bhpσ_19 chpσ_19 c_20 kc_36 ahpσ_38 bhpσ_38 chpσ_38 c_39 kc_40 ahpσ_42 chpσ_42 dhpσ_42 ehpσ_42 t6σ_42 t1σ_42 iz_43 c_44 kc_50 kc_51 ahpσ_53 chpσ_53 dhpσ_53 ehpσ_53 smσ_53 nsσ_53 t5σ_53 t6σ_53 t1σ_53 mv9_σ_54 mv12_σ_54 mv14_σ_54 mv15_σ_54 mv16_σ_54 mv27_σ_54 smσ_54 nsσ_54 t5σ_54; omega) | omega)]; exact t6σ_53)
                  have t1σ_54 : m_t1 (m_c X σ_54 a) v1.toInt := m_t1.k t1σ_53 (by rw [mcσ_54 (v1.toInt + 6) (by first | (clear hs hc2 bhpσ_2 chpσ_2 j15 chpσ_5 dhpσ_5 ehpσ_5 t5σ_7 t6σ_7 t1σ_8 t6σ_8 if_9 c_10 c_11 if_13 c_14 kc_16 t6σ_15 t1σ_15 kc_17 ahpσ_19 bhpσ_19 chpσ_19 c_20 kc_36 ahpσ_38 bhpσ_38 chpσ_38 c_39 kc_40 ahpσ_42 chpσ_42 dhpσ_42 ehpσ_42 t6σ_42 t1σ_42 c_44 kc_50 kc_51 ahpσ_53 chpσ_53 dhpσ_53 ehpσ_53 smσ_53 nsσ_53 t5σ_53 t6σ_53 t1σ_53 mv9_σ_54 mv12_σ_54 mv14_σ_54 mv15_σ_54 mv16_σ_54 mv27_σ_54 smσ_54 nsσ_54 t5σ_54 t6σ_54; omega) | omega), if_neg (by first | (clear hs hw hc2 bhpσ_2 chpσ_2 j15 chpσ_5 dhpσ_5 ehpσ_5 iz_6 t5σ_7 t6σ_7 t1σ_8 t6σ_8 if_9 c_10 c_11 iz_12 if_13 c_14 kc_16 t6σ_15 t1σ_15 kc_17 ahpσ_19 bhpσ_19 chpσ_19 c_20 kc_36 ahpσ_38 bhpσ_38 chpσ_38 c_39 kc_40 ahpσ_42 chpσ_42 dhpσ_42 ehpσ_42 t6σ_42 t1σ_42 iz_43 c_44 kc_50 kc_51 ahpσ_53 chpσ_53 dhpσ_53 ehpσ_53 smσ_53 nsσ_53 t5σ_53 t6σ_53 t1σ_53 mv9_σ_54 mv12_σ_54 mv14_σ_54 mv15_σ_54 mv16_σ_54 mv27_σ_54 smσ_54 nsσ_54 t5σ_54 t6σ_54; omega) | omega)]) (by rw [mcσ_54 (v1.toInt + 1) (by first | (clear hs hc2 bhpσ_2 chpσ_2 j15 chpσ_5 dhpσ_5 ehpσ_5 t5σ_7 t6σ_7 t1σ_8 t6σ_8 if_9 c_10 c_11 if_13 c_14 kc_16 t6σ_15 t1σ_15 kc_17 ahpσ_19 bhpσ_19 chpσ_19 c_20 kc_36 ahpσ_38 bhpσ_38 chpσ_38 c_39 kc_40 ahpσ_42 chpσ_42 dhpσ_42 ehpσ_42 t6σ_42 t1σ_42 c_44 kc_50 kc_51 ahpσ_53 chpσ_53 dhpσ_53 ehpσ_53 smσ_53 nsσ_53 t5σ_53 t6σ_53 t1σ_53 mv9_σ_54 mv12_σ_54 mv14_σ_54 mv15_σ_54 mv16_σ_54 mv27_σ_54 smσ_54 nsσ_54 t5σ_54 t6σ_54; omega) | omega), if_neg (by first | (clear hs hw hc2 bhpσ_2 chpσ_2 j15 chpσ_5 dhpσ_5 ehpσ_5 iz_6 t5σ_7 t6σ_7 t1σ_8 t6σ_8 if_9 c_10 c_11 iz_12 if_13 c_14 kc_16 t6σ_15 t1σ_15 kc_17 ahpσ_19 bhpσ_19 chpσ_19 c_20 kc_36 ahpσ_38 bhpσ_38 chpσ_38 c_39 kc_40 ahpσ_42 chpσ_42 dhpσ_42 ehpσ_42 t6σ_42 t1σ_42 iz_43 c_44 kc_50 kc_51 ahpσ_53 chpσ_53 dhpσ_53 ehpσ_53 smσ_53 nsσ_53 t5σ_53 t6σ_53 t1σ_53 mv9_σ_54 mv12_σ_54 mv14_σ_54 mv15_σ_54 mv16_σ_54 mv27_σ_54 smσ_54 nsσ_54 t5σ_54 t6σ_54; omega) | omega)])
                  clear mv9_σ_54 mv12_σ_54 mv14_σ_54 mv15_σ_54 mv16_σ_54 mv27_σ_54 smσ_53 nsσ_53 t5σ_53
                  rewrite [hQQ]; exact q_retv E hr hlk hI ⟨kwσ_54, (by first | exact smσ_54 | omega), nsσ_54, (fun e => ⟨by rw [t6σ_54]; omega, t1σ_54⟩), (hF.trans hout), fr_σ_54⟩ dX12_readTest_150
              · skip
                replace hF := q_ifp hF c_39
                refine lv_aload_n hx hb dX12_readTest_107 rfl (lv_at hl 0 rfl) ?_
                refine lv_bipush (v := 61) hx hb dX12_readTest_108 zkb_61 ?_
                have kc_55 : (61 : Int32).toInt = 61 := zt_61
                refine q_ci (q_rV11_1 (rest := [.ref a]) E (hml.trans hl.1.symm) hI (c_X12_isSign l X σ_15 a (61 : Int32) ha) kv_X12_243 ha ⟨Nat.le_of_ble_eq_true rfl, Nat.le_of_ble_eq_true rfl⟩ (Nat.le_of_ble_eq_true rfl) dX12_readTest_110) hI (Nat.le_of_ble_eq_true rfl) (fun r_56 σ_57 H locs hpσ_57 hkσ_57 hI => ?_)
                have ahpσ_57 := hpσ_57.1
                have bhpσ_57 := hpσ_57.2.1
                have chpσ_57 := hpσ_57.2.2
                clear hpσ_57
                replace hI := q_Irw ahpσ_57 hI
                replace hF := q_letX hF chpσ_57
                refine q_if_eq (A := r_56.toInt) E rfl (tgt := 120) dX12_readTest_113 (by decide) (fun c_58 => ?_) (fun c_58 => ?_)
                · skip
                  replace hF := q_ifp hF c_58
                  refine lv_iconst (v := 0) hx hb dX12_readTest_120 zki_0 ?_
                  have kc_59 : (0 : Int32).toInt = 0 := zt_0
                  refine q_cv (q_rV11_1 (rest := []) E (hml.trans hl.1.symm) hI (c_X12_must l X σ_15 a (0 : Int32) ha (by first | exact sm_9 smσ_15 | exact hs | omega) (by first | (clear hs hw hc2 bhpσ_2 chpσ_2 j15 chpσ_5 dhpσ_5 ehpσ_5 iz_6 t5σ_7 t6σ_7 t1σ_8 t6σ_8 if_9 c_10 c_11 iz_12 if_13 c_14 t6σ_15 t1σ_15 kc_17 ahpσ_19 bhpσ_19 chpσ_19 c_20 kc_36 ahpσ_38 bhpσ_38 chpσ_38 c_39 kc_55 ahpσ_57 bhpσ_57 chpσ_57 c_58 kc_59; omega) | omega)) kv_X12_216 ha ⟨Nat.le_of_ble_eq_true rfl, Nat.le_of_ble_eq_true rfl⟩ (Nat.le_of_ble_eq_true rfl) dX12_readTest_121) hI (Nat.le_of_ble_eq_true rfl) (fun σ_61 H locs hpσ_61 hkσ_61 hI => ?_)
                  have ahpσ_61 := hpσ_61.1
                  have bhpσ_61 := hpσ_61.2.1
                  have chpσ_61 := hpσ_61.2.2.1
                  have dhpσ_61 := hpσ_61.2.2.2.1
                  have ehpσ_61 := hpσ_61.2.2.2.2
                  clear hpσ_61
                  have fr_σ_61 := fr_σ_15.call ehpσ_61 rfl rfl
                  replace hF := q_letX hF dhpσ_61
                  have mv27_σ_61 : (σ_61.1 a 27).toInt = (σ_15.1 a 27).toInt := congrArg Int32.toInt (ahpσ_61 a 27 (q_cl9 _ _) (fun h => absurd h.2.2 (by decide)))
                  have mcσ_61 := m_cK hkσ_61 hI.1 ha (by decide)
                  have kwσ_61 : ∀ j, 0 ≤ j → (j < v1.toInt + 1 ∨ v1.toInt + 8 ≤ j) → m_c X σ_61 a j = m_c X σ a j := fun j h0 h1 => (mcσ_61 j).trans (kwσ_15 j h0 h1)
                  have smσ_61 : 0 ≤ (σ_61.1 a 15).toInt ∧ (σ_61.1 a 15).toInt ≤ (σ_61.1 a 16).toInt ∧ (σ_61.1 a 16).toInt ≤ (σ_61.1 a 9).toInt ∧ (σ_61.1 a 9).toInt ≤ 900 ∧ 0 ≤ (σ_61.1 a 14).toInt ∧ (σ_61.1 a 14).toInt ≤ 4 ∧ (σ_61.1 a 14).toInt ≤ 4 * ((σ_61.1 a 16).toInt - (σ_61.1 a 15).toInt) ∧ (σ_61.1 a 14).toInt ≤ 4 * ((σ_61.1 a 9).toInt - (σ_61.1 a 15).toInt) ∧ 0 ≤ (σ_61.1 a 12).toInt ∧ (σ_61.1 a 9).toInt = (σ.1 a 9).toInt ∧ (σ.1 a 15).toInt ≤ (σ_61.1 a 15).toInt ∧ (σ.1 a 12).toInt ≤ (σ_61.1 a 12).toInt := (by first | exact sm_tr smσ_15 bhpσ_61 | exact sm_tr smσ_15 chpσ_61 | omega)
                  have nsσ_61 : (σ_61.1 a 27).toInt = (σ.1 a 27).toInt := (by first | (clear hs hw hc2 bhpσ_2 chpσ_2 j15 chpσ_5 dhpσ_5 ehpσ_5 iz_6 t5σ_7 t6σ_7 t1σ_8 t6σ_8 if_9 c_10 c_11 iz_12 if_13 c_14 kc_16 t6σ_15 t1σ_15 kc_17 ahpσ_19 bhpσ_19 chpσ_19 c_20 kc_36 ahpσ_38 bhpσ_38 chpσ_38 c_39 kc_55 ahpσ_57 bhpσ_57 chpσ_57 c_58 kc_59 ahpσ_61 bhpσ_61 chpσ_61 dhpσ_61 ehpσ_61 smσ_61; omega) | omega)
                  have t5σ_61 : 0 ≤ r_1.toInt + (σ_61.1 a 12).toInt := (by first | (clear hs hw hc2 bhpσ_2 chpσ_2 j15 chpσ_5 dhpσ_5 ehpσ_5 iz_6 t5σ_7 t1σ_8 if_9 c_10 c_11 iz_12 if_13 c_14 kc_16 t1σ_15 kc_17 ahpσ_19 bhpσ_19 chpσ_19 c_20 kc_36 ahpσ_38 bhpσ_38 chpσ_38 c_39 kc_55 ahpσ_57 bhpσ_57 chpσ_57 c_58 kc_59 ahpσ_61 chpσ_61 dhpσ_61 ehpσ_61 mv27_σ_61 smσ_61 nsσ_61; omega) | omega)
                  have t6σ_61 : m_c X σ_61 a (v1.toInt + 6) = r_1.toInt := (mcσ_61 _).trans t6σ_15
                  have t1σ_61 : m_t1 (m_c X σ_61 a) v1.toInt := m_t1.k t1σ_15 (mcσ_61 _) (mcσ_61 _)
                  clear mv27_σ_61 smσ_15 nsσ_15 t5σ_15 bhpσ_61
                  refine lv_aload_n hx hb dX12_readTest_124 rfl (lv_at hl 0 rfl) ?_
                  refine gs_X12_35_12 E hI ha dX12_readTest_125 ?_
                  refine lv_iload_n hx hb dX12_readTest_128 rfl (lv_at hl 1 rfl) ?_
                  refine lv_iconst (v := 2) hx hb dX12_readTest_129 zki_2 ?_
                  refine lv_iadd hx hb dX12_readTest_130 ?_
                  refine lv_topi (fun z_62 ez_62 => ?_)
                  replace hF := q_letX hF ez_62
                  have iz_62 := q_addI (A := v1.toInt) (B := 2) ez_62 rfl (by decide) (by first | (clear hs hc2 bhpσ_2 chpσ_2 j15 chpσ_5 dhpσ_5 ehpσ_5 t5σ_7 t6σ_7 t1σ_8 t6σ_8 if_9 c_10 c_11 if_13 c_14 kc_16 t6σ_15 t1σ_15 kc_17 ahpσ_19 bhpσ_19 chpσ_19 c_20 kc_36 ahpσ_38 bhpσ_38 chpσ_38 c_39 kc_55 ahpσ_57 bhpσ_57 chpσ_57 c_58 kc_59 ahpσ_61 chpσ_61 dhpσ_61 ehpσ_61 smσ_61 nsσ_61 t5σ_61 t6σ_61 t1σ_61; omega) | omega) (by first | (clear hs hc2 bhpσ_2 chpσ_2 j15 chpσ_5 dhpσ_5 ehpσ_5 t5σ_7 t6σ_7 t1σ_8 t6σ_8 if_9 c_10 c_11 if_13 c_14 kc_16 t6σ_15 t1σ_15 kc_17 ahpσ_19 bhpσ_19 chpσ_19 c_20 kc_36 ahpσ_38 bhpσ_38 chpσ_38 c_39 kc_55 ahpσ_57 bhpσ_57 chpσ_57 c_58 kc_59 ahpσ_61 chpσ_61 dhpσ_61 ehpσ_61 smσ_61 nsσ_61 t5σ_61 t6σ_61 t1σ_61; omega) | omega)
                  refine lv_aload_n hx hb dX12_readTest_131 rfl (lv_at hl 0 rfl) ?_
                  refine lv_iconst (v := 0) hx hb dX12_readTest_132 zki_0 ?_
                  refine lv_iload_n hx hb dX12_readTest_133 rfl (lv_at hl 2 rfl) ?_
                  refine lv_iconst (v := 2) hx hb dX12_readTest_134 zki_2 ?_
                  refine q_icmp_ne (A := r_1.toInt) (B := 2) E rfl (by decide) (tgt := 144) dX12_readTest_135 (by decide) (fun c_63 => ?_) (fun c_63 => ?_)
                  · skip
                    replace hF := q_ifn hF c_63
                    refine lv_bipush (v := 80) hx hb dX12_readTest_144 zkb_80 ?_
                    have kc_64 : (0 : Int32).toInt = 0 := zt_0
                    have kc_65 : (80 : Int32).toInt = 80 := zt_80
                    refine q_ci (q_rV11_2 (rest := [.int z_62, .ref (q_rf X a 20)]) E (hml.trans hl.1.symm) hI (c_X12_count l X σ_61 a (0 : Int32) (80 : Int32) ha (by first | exact sm_9 smσ_61 | exact hs | omega) (by first | (clear hs hw hc2 bhpσ_2 chpσ_2 j15 chpσ_5 dhpσ_5 ehpσ_5 iz_6 t5σ_7 t6σ_7 t1σ_8 t6σ_8 if_9 c_10 c_11 iz_12 if_13 c_14 t6σ_15 t1σ_15 kc_17 ahpσ_19 bhpσ_19 chpσ_19 c_20 kc_36 ahpσ_38 bhpσ_38 chpσ_38 c_39 kc_55 ahpσ_57 bhpσ_57 chpσ_57 c_58 kc_59 ahpσ_61 chpσ_61 dhpσ_61 ehpσ_61 smσ_61 nsσ_61 t5σ_61 t6σ_61 t1σ_61 iz_62 c_63 kc_64; omega) | omega)) kv_X12_223 ha ⟨Nat.le_of_ble_eq_true rfl, Nat.le_of_ble_eq_true rfl⟩ (Nat.le_of_ble_eq_true rfl) dX12_readTest_146) hI (Nat.le_of_ble_eq_true rfl) (fun r_66 σ_67 H locs hpσ_67 hkσ_67 hI => ?_)
                    have ahpσ_67 := hpσ_67.1
                    have bhpσ_67 := hpσ_67.2.1
                    have chpσ_67 := hpσ_67.2.2.1
                    have dhpσ_67 := hpσ_67.2.2.2.1
                    have ehpσ_67 := hpσ_67.2.2.2.2
                    clear hpσ_67
                    have fr_σ_67 := fr_σ_61.call ehpσ_67 rfl rfl
                    replace hF := q_biX hF dhpσ_67
                    have mv27_σ_67 : (σ_67.1 a 27).toInt = (σ_61.1 a 27).toInt := congrArg Int32.toInt (ahpσ_67 a 27 (q_cl9 _ _) (fun h => absurd h.2.2 (by decide)))
                    have mcσ_67 := m_cK hkσ_67 hI.1 ha (by decide)
                    have kwσ_67 : ∀ j, 0 ≤ j → (j < v1.toInt + 1 ∨ v1.toInt + 8 ≤ j) → m_c X σ_67 a j = m_c X σ a j := fun j h0 h1 => (mcσ_67 j).trans (kwσ_61 j h0 h1)
                    have smσ_67 : 0 ≤ (σ_67.1 a 15).toInt ∧ (σ_67.1 a 15).toInt ≤ (σ_67.1 a 16).toInt ∧ (σ_67.1 a 16).toInt ≤ (σ_67.1 a 9).toInt ∧ (σ_67.1 a 9).toInt ≤ 900 ∧ 0 ≤ (σ_67.1 a 14).toInt ∧ (σ_67.1 a 14).toInt ≤ 4 ∧ (σ_67.1 a 14).toInt ≤ 4 * ((σ_67.1 a 16).toInt - (σ_67.1 a 15).toInt) ∧ (σ_67.1 a 14).toInt ≤ 4 * ((σ_67.1 a 9).toInt - (σ_67.1 a 15).toInt) ∧ 0 ≤ (σ_67.1 a 12).toInt ∧ (σ_67.1 a 9).toInt = (σ.1 a 9).toInt ∧ (σ.1 a 15).toInt ≤ (σ_67.1 a 15).toInt ∧ (σ.1 a 12).toInt ≤ (σ_67.1 a 12).toInt := (by first | exact sm_tr smσ_61 bhpσ_67 | exact sm_tr smσ_61 chpσ_67 | omega)
                    have nsσ_67 : (σ_67.1 a 27).toInt = (σ.1 a 27).toInt := (by first | (clear hs hw hc2 bhpσ_2 chpσ_2 j15 chpσ_5 dhpσ_5 ehpσ_5 iz_6 t5σ_7 t6σ_7 t1σ_8 t6σ_8 if_9 c_10 c_11 iz_12 if_13 c_14 kc_16 t6σ_15 t1σ_15 kc_17 ahpσ_19 bhpσ_19 chpσ_19 c_20 kc_36 ahpσ_38 bhpσ_38 chpσ_38 c_39 kc_55 ahpσ_57 bhpσ_57 chpσ_57 c_58 kc_59 ahpσ_61 chpσ_61 dhpσ_61 ehpσ_61 smσ_61 t5σ_61 t6σ_61 t1σ_61 iz_62 c_63 kc_64 kc_65 ahpσ_67 bhpσ_67 chpσ_67 dhpσ_67 ehpσ_67 smσ_67; omega) | omega)
                    have t5σ_67 : 0 ≤ r_1.toInt + (σ_67.1 a 12).toInt := (by first | (clear hs hw hc2 bhpσ_2 chpσ_2 j15 chpσ_5 dhpσ_5 ehpσ_5 iz_6 t5σ_7 t1σ_8 if_9 c_10 c_11 iz_12 if_13 c_14 kc_16 t1σ_15 kc_17 ahpσ_19 bhpσ_19 chpσ_19 c_20 kc_36 ahpσ_38 bhpσ_38 chpσ_38 c_39 kc_55 ahpσ_57 bhpσ_57 chpσ_57 c_58 kc_59 ahpσ_61 chpσ_61 dhpσ_61 ehpσ_61 smσ_61 nsσ_61 t1σ_61 iz_62 c_63 kc_64 kc_65 ahpσ_67 chpσ_67 dhpσ_67 ehpσ_67 mv27_σ_67 smσ_67 nsσ_67; omega) | omega)
                    have t6σ_67 : m_c X σ_67 a (v1.toInt + 6) = r_1.toInt := (mcσ_67 _).trans t6σ_61
                    have t1σ_67 : m_t1 (m_c X σ_67 a) v1.toInt := m_t1.k t1σ_61 (mcσ_67 _) (mcσ_67 _)
                    clear mv27_σ_67 smσ_61 nsσ_61 t5σ_61 bhpσ_67
                    refine q_iastN E hI (q_tk (k' := 34) hI ha rfl (Nat.succ_ne_zero _)) ⟨by decide, rfl⟩ (by first | (clear hs hc2 bhpσ_2 chpσ_2 j15 chpσ_5 dhpσ_5 ehpσ_5 t5σ_7 t6σ_7 t1σ_8 t6σ_8 if_9 c_10 c_11 if_13 c_14 kc_16 t6σ_15 t1σ_15 kc_17 ahpσ_19 bhpσ_19 chpσ_19 c_20 kc_36 ahpσ_38 bhpσ_38 chpσ_38 c_39 kc_55 ahpσ_57 bhpσ_57 chpσ_57 c_58 kc_59 ahpσ_61 chpσ_61 dhpσ_61 ehpσ_61 t6σ_61 t1σ_61 c_63 kc_64 kc_65 ahpσ_67 chpσ_67 dhpσ_67 ehpσ_67 smσ_67 nsσ_67 t5σ_67 t6σ_67 t1σ_67; omega) | omega) (by rw [q_lnk (v := 4650) hI (q_tk (k' := 34) hI ha rfl (Nat.succ_ne_zero _)) rfl (by decide)]; omega) (show 1 < 2 by decide) (q_inU rfl) dX12_readTest_149 (fun H locs σ_68 hσ_68 hI => ?_)
                    replace hF := q_letX hF hσ_68
                    have fr_σ_68 := fr_σ_67.si hσ_68 (q_tk (k' := 34) hI ha rfl (Nat.succ_ne_zero _)) rfl
                    have mv9_σ_68 : (σ_68.1 a 9).toInt = (σ_67.1 a 9).toInt := congrArg Int32.toInt (q_rdn hσ_68 (Or.inl (m_ne ha (q_tk (k' := 34) hI ha rfl (Nat.succ_ne_zero _)) (by decide))))
                    have mv12_σ_68 : (σ_68.1 a 12).toInt = (σ_67.1 a 12).toInt := congrArg Int32.toInt (q_rdn hσ_68 (Or.inl (m_ne ha (q_tk (k' := 34) hI ha rfl (Nat.succ_ne_zero _)) (by decide))))
                    have mv14_σ_68 : (σ_68.1 a 14).toInt = (σ_67.1 a 14).toInt := congrArg Int32.toInt (q_rdn hσ_68 (Or.inl (m_ne ha (q_tk (k' := 34) hI ha rfl (Nat.succ_ne_zero _)) (by decide))))
                    have mv15_σ_68 : (σ_68.1 a 15).toInt = (σ_67.1 a 15).toInt := congrArg Int32.toInt (q_rdn hσ_68 (Or.inl (m_ne ha (q_tk (k' := 34) hI ha rfl (Nat.succ_ne_zero _)) (by decide))))
                    have mv16_σ_68 : (σ_68.1 a 16).toInt = (σ_67.1 a 16).toInt := congrArg Int32.toInt (q_rdn hσ_68 (Or.inl (m_ne ha (q_tk (k' := 34) hI ha rfl (Nat.succ_ne_zero _)) (by decide))))
                    have mv27_σ_68 : (σ_68.1 a 27).toInt = (σ_67.1 a 27).toInt := congrArg Int32.toInt (q_rdn hσ_68 (Or.inl (m_ne ha (q_tk (k' := 34) hI ha rfl (Nat.succ_ne_zero _)) (by decide))))
                    have mcσ_68 := m_wr (v := r_66) (A := (v1.toInt + 2)) hσ_68 iz_62 (by first | (clear hs hc2 bhpσ_2 chpσ_2 j15 chpσ_5 dhpσ_5 ehpσ_5 t5σ_7 t6σ_7 t1σ_8 t6σ_8 if_9 c_10 c_11 if_13 c_14 kc_16 t6σ_15 t1σ_15 kc_17 ahpσ_19 bhpσ_19 chpσ_19 c_20 kc_36 ahpσ_38 bhpσ_38 chpσ_38 c_39 kc_55 ahpσ_57 bhpσ_57 chpσ_57 c_58 kc_59 ahpσ_61 chpσ_61 dhpσ_61 ehpσ_61 t6σ_61 t1σ_61 c_63 kc_64 kc_65 ahpσ_67 chpσ_67 dhpσ_67 ehpσ_67 smσ_67 nsσ_67 t5σ_67 t6σ_67 t1σ_67 mv9_σ_68 mv12_σ_68 mv14_σ_68 mv15_σ_68 mv16_σ_68 mv27_σ_68; omega) | omega)
                    have kwσ_68 : ∀ j, 0 ≤ j → (j < v1.toInt + 1 ∨ v1.toInt + 8 ≤ j) → m_c X σ_68 a j = m_c X σ a j := fun j h0 h1 => by rw [mcσ_68 j h0, if_neg (by first | (clear hs hw hc2 bhpσ_2 chpσ_2 j15 chpσ_5 dhpσ_5 ehpσ_5 t5σ_7 t6σ_7 t1σ_8 t6σ_8 if_9 c_10 c_11 if_13 c_14 kc_16 t6σ_15 t1σ_15 kc_17 ahpσ_19 bhpσ_19 chpσ_19 c_20 kc_36 ahpσ_38 bhpσ_38 chpσ_38 c_39 kc_55 ahpσ_57 bhpσ_57 chpσ_57 c_58 kc_59 ahpσ_61 chpσ_61 dhpσ_61 ehpσ_61 t6σ_61 t1σ_61 c_63 kc_64 kc_65 ahpσ_67 chpσ_67 dhpσ_67 ehpσ_67 smσ_67 nsσ_67 t5σ_67 t6σ_67 t1σ_67 mv9_σ_68 mv12_σ_68 mv14_σ_68 mv15_σ_68 mv16_σ_68 mv27_σ_68; omega) | omega)]; exact kwσ_67 j h0 h1
                    have smσ_68 : 0 ≤ (σ_68.1 a 15).toInt ∧ (σ_68.1 a 15).toInt ≤ (σ_68.1 a 16).toInt ∧ (σ_68.1 a 16).toInt ≤ (σ_68.1 a 9).toInt ∧ (σ_68.1 a 9).toInt ≤ 900 ∧ 0 ≤ (σ_68.1 a 14).toInt ∧ (σ_68.1 a 14).toInt ≤ 4 ∧ (σ_68.1 a 14).toInt ≤ 4 * ((σ_68.1 a 16).toInt - (σ_68.1 a 15).toInt) ∧ (σ_68.1 a 14).toInt ≤ 4 * ((σ_68.1 a 9).toInt - (σ_68.1 a 15).toInt) ∧ 0 ≤ (σ_68.1 a 12).toInt ∧ (σ_68.1 a 9).toInt = (σ.1 a 9).toInt ∧ (σ.1 a 15).toInt ≤ (σ_68.1 a 15).toInt ∧ (σ.1 a 12).toInt ≤ (σ_68.1 a 12).toInt := (by first | (rw [mv12_σ_68, mv14_σ_68, mv15_σ_68, mv16_σ_68, mv9_σ_68]; exact smσ_67) | omega)
                    have nsσ_68 : (σ_68.1 a 27).toInt = (σ.1 a 27).toInt := (by first | (clear hs hw hc2 bhpσ_2 chpσ_2 j15 chpσ_5 dhpσ_5 ehpσ_5 iz_6 t5σ_7 t6σ_7 t1σ_8 t6σ_8 if_9 c_10 c_11 iz_12 if_13 c_14 kc_16 t6σ_15 t1σ_15 kc_17 ahpσ_19 bhpσ_19 chpσ_19 c_20 kc_36 ahpσ_38 bhpσ_38 chpσ_38 c_39 kc_55 ahpσ_57 bhpσ_57 chpσ_57 c_58 kc_59 ahpσ_61 chpσ_61 dhpσ_61 ehpσ_61 t6σ_61 t1σ_61 iz_62 c_63 kc_64 kc_65 ahpσ_67 chpσ_67 dhpσ_67 ehpσ_67 smσ_67 t5σ_67 t6σ_67 t1σ_67 mv9_σ_68 mv12_σ_68 mv14_σ_68 mv15_σ_68 mv16_σ_68 smσ_68; omega) | omega)
                    have t5σ_68 : 0 ≤ r_1.toInt + (σ_68.1 a 12).toInt := (by first | (clear hs hw hc2 bhpσ_2 chpσ_2 j15 chpσ_5 dhpσ_5 ehpσ_5 iz_6 t5σ_7 t1σ_8 if_9 c_10 c_11 iz_12 if_13 c_14 kc_16 t1σ_15 kc_17 ahpσ_19 bhpσ_19 chpσ_19 c_20 kc_36 ahpσ_38 bhpσ_38 chpσ_38 c_39 kc_55 ahpσ_57 bhpσ_57 chpσ_57 c_58 kc_59 ahpσ_61 chpσ_61 dhpσ_61 ehpσ_61 t1σ_61 iz_62 c_63 kc_64 kc_65 ahpσ_67 chpσ_67 dhpσ_67 ehpσ_67 smσ_67 nsσ_67 t1σ_67 mv9_σ_68 mv14_σ_68 mv15_σ_68 mv16_σ_68 mv27_σ_68 smσ_68 nsσ_68; omega) | omega)
                    have t6σ_68 : m_c X σ_68 a (v1.toInt + 6) = r_1.toInt := (by rw [mcσ_68 (v1.toInt + 6) (by first | (clear hs hc2 bhpσ_2 chpσ_2 j15 chpσ_5 dhpσ_5 ehpσ_5 t5σ_7 t6σ_7 t1σ_8 t6σ_8 if_9 c_10 c_11 if_13 c_14 kc_16 t6σ_15 t1σ_15 kc_17 ahpσ_19 bhpσ_19 chpσ_19 c_20 kc_36 ahpσ_38 bhpσ_38 chpσ_38 c_39 kc_55 ahpσ_57 bhpσ_57 chpσ_57 c_58 kc_59 ahpσ_61 chpσ_61 dhpσ_61 ehpσ_61 t6σ_61 t1σ_61 c_63 kc_64 kc_65 ahpσ_67 chpσ_67 dhpσ_67 ehpσ_67 smσ_67 nsσ_67 t5σ_67 t6σ_67 t1σ_67 mv9_σ_68 mv12_σ_68 mv14_σ_68 mv15_σ_68 mv16_σ_68 mv27_σ_68 smσ_68 nsσ_68 t5σ_68; omega) | omega), if_neg (by first | (clear hs hw hc2 bhpσ_2 chpσ_2 j15 chpσ_5 dhpσ_5 ehpσ_5 iz_6 t5σ_7 t6σ_7 t1σ_8 t6σ_8 if_9 c_10 c_11 iz_12 if_13 c_14 kc_16 t6σ_15 t1σ_15 kc_17 ahpσ_19 bhpσ_19 chpσ_19 c_20 kc_36 ahpσ_38 bhpσ_38 chpσ_38 c_39 kc_55 ahpσ_57 bhpσ_57 chpσ_57 c_58 kc_59 ahpσ_61 chpσ_61 dhpσ_61 ehpσ_61 t6σ_61 t1σ_61 iz_62 c_63 kc_64 kc_65 ahpσ_67 chpσ_67 dhpσ_67 ehpσ_67 smσ_67 nsσ_67 t5σ_67 t6σ_67 t1σ_67 mv9_σ_68 mv12_σ_68 mv14_σ_68 mv15_σ_68 mv16_σ_68 mv27_σ_68 smσ_68 nsσ_68 t5σ_68; omega) | omega)]; exact t6σ_67)
                    have t1σ_68 : m_t1 (m_c X σ_68 a) v1.toInt := m_t1.k t1σ_67 (by rw [mcσ_68 (v1.toInt + 6) (by first | (clear hs hc2 bhpσ_2 chpσ_2 j15 chpσ_5 dhpσ_5 ehpσ_5 t5σ_7 t6σ_7 t1σ_8 t6σ_8 if_9 c_10 c_11 if_13 c_14 kc_16 t6σ_15 t1σ_15 kc_17 ahpσ_19 bhpσ_19 chpσ_19 c_20 kc_36 ahpσ_38 bhpσ_38 chpσ_38 c_39 kc_55 ahpσ_57 bhpσ_57 chpσ_57 c_58 kc_59 ahpσ_61 chpσ_61 dhpσ_61 ehpσ_61 t6σ_61 t1σ_61 c_63 kc_64 kc_65 ahpσ_67 chpσ_67 dhpσ_67 ehpσ_67 smσ_67 nsσ_67 t5σ_67 t6σ_67 t1σ_67 mv9_σ_68 mv12_σ_68 mv14_σ_68 mv15_σ_68 mv16_σ_68 mv27_σ_68 smσ_68 nsσ_68 t5σ_68 t6σ_68; omega) | omega), if_neg (by first | (clear hs hw hc2 bhpσ_2 chpσ_2 j15 chpσ_5 dhpσ_5 ehpσ_5 iz_6 t5σ_7 t6σ_7 t1σ_8 t6σ_8 if_9 c_10 c_11 iz_12 if_13 c_14 kc_16 t6σ_15 t1σ_15 kc_17 ahpσ_19 bhpσ_19 chpσ_19 c_20 kc_36 ahpσ_38 bhpσ_38 chpσ_38 c_39 kc_55 ahpσ_57 bhpσ_57 chpσ_57 c_58 kc_59 ahpσ_61 chpσ_61 dhpσ_61 ehpσ_61 t6σ_61 t1σ_61 iz_62 c_63 kc_64 kc_65 ahpσ_67 chpσ_67 dhpσ_67 ehpσ_67 smσ_67 nsσ_67 t5σ_67 t6σ_67 t1σ_67 mv9_σ_68 mv12_σ_68 mv14_σ_68 mv15_σ_68 mv16_σ_68 mv27_σ_68 smσ_68 nsσ_68 t5σ_68 t6σ_68; omega) | omega)]) (by rw [mcσ_68 (v1.toInt + 1) (by first | (clear hs hc2 bhpσ_2 chpσ_2 j15 chpσ_5 dhpσ_5 ehpσ_5 t5σ_7 t6σ_7 t1σ_8 t6σ_8 if_9 c_10 c_11 if_13 c_14 kc_16 t6σ_15 t1σ_15 kc_17 ahpσ_19 bhpσ_19 chpσ_19 c_20 kc_36 ahpσ_38 bhpσ_38 chpσ_38 c_39 kc_55 ahpσ_57 bhpσ_57 chpσ_57 c_58 kc_59 ahpσ_61 chpσ_61 dhpσ_61 ehpσ_61 t6σ_61 t1σ_61 c_63 kc_64 kc_65 ahpσ_67 chpσ_67 dhpσ_67 ehpσ_67 smσ_67 nsσ_67 t5σ_67 t6σ_67 t1σ_67 mv9_σ_68 mv12_σ_68 mv14_σ_68 mv15_σ_68 mv16_σ_68 mv27_σ_68 smσ_68 nsσ_68 t5σ_68 t6σ_68; omega) | omega), if_neg (by first | (clear hs hw hc2 bhpσ_2 chpσ_2 j15 chpσ_5 dhpσ_5 ehpσ_5 iz_6 t5σ_7 t6σ_7 t1σ_8 t6σ_8 if_9 c_10 c_11 iz_12 if_13 c_14 kc_16 t6σ_15 t1σ_15 kc_17 ahpσ_19 bhpσ_19 chpσ_19 c_20 kc_36 ahpσ_38 bhpσ_38 chpσ_38 c_39 kc_55 ahpσ_57 bhpσ_57 chpσ_57 c_58 kc_59 ahpσ_61 chpσ_61 dhpσ_61 ehpσ_61 t6σ_61 t1σ_61 iz_62 c_63 kc_64 kc_65 ahpσ_67 chpσ_67 dhpσ_67 ehpσ_67 smσ_67 nsσ_67 t5σ_67 t6σ_67 t1σ_67 mv9_σ_68 mv12_σ_68 mv14_σ_68 mv15_σ_68 mv16_σ_68 mv27_σ_68 smσ_68 nsσ_68 t5σ_68 t6σ_68; omega) | omega)])
                    clear mv9_σ_68 mv12_σ_68 mv14_σ_68 mv15_σ_68 mv16_σ_68 mv27_σ_68 smσ_67 nsσ_67 t5σ_67
                    rewrite [hQQ]; exact q_retv E hr hlk hI ⟨kwσ_68, (by first | exact smσ_68 | omega), nsσ_68, (fun e => ⟨by rw [t6σ_68]; omega, t1σ_68⟩), (hF.trans hout), fr_σ_68⟩ dX12_readTest_150
                  · skip
                    replace hF := q_ifp hF c_63
                    refine lv_sipush (v := 999) hx hb dX12_readTest_138 zks_999 ?_
                    refine lv_goto (tgt := 146) hx hb dX12_readTest_141 (by decide) ?_
                    have kc_69 : (0 : Int32).toInt = 0 := zt_0
                    have kc_70 : (999 : Int32).toInt = 999 := zt_999
                    refine q_ci (q_rV11_2 (rest := [.int z_62, .ref (q_rf X a 20)]) E (hml.trans hl.1.symm) hI (c_X12_count l X σ_61 a (0 : Int32) (999 : Int32) ha (by first | exact sm_9 smσ_61 | exact hs | omega) (by first | (clear hs hw hc2 bhpσ_2 chpσ_2 j15 chpσ_5 dhpσ_5 ehpσ_5 iz_6 t5σ_7 t6σ_7 t1σ_8 t6σ_8 if_9 c_10 c_11 iz_12 if_13 c_14 t6σ_15 t1σ_15 kc_17 ahpσ_19 bhpσ_19 chpσ_19 c_20 kc_36 ahpσ_38 bhpσ_38 chpσ_38 c_39 kc_55 ahpσ_57 bhpσ_57 chpσ_57 c_58 kc_59 ahpσ_61 chpσ_61 dhpσ_61 ehpσ_61 t6σ_61 t1σ_61 iz_62 c_63 kc_69; omega) | omega)) kv_X12_223 ha ⟨Nat.le_of_ble_eq_true rfl, Nat.le_of_ble_eq_true rfl⟩ (Nat.le_of_ble_eq_true rfl) dX12_readTest_146) hI (Nat.le_of_ble_eq_true rfl) (fun r_71 σ_72 H locs hpσ_72 hkσ_72 hI => ?_)
                    have ahpσ_72 := hpσ_72.1
                    have bhpσ_72 := hpσ_72.2.1
                    have chpσ_72 := hpσ_72.2.2.1
                    have dhpσ_72 := hpσ_72.2.2.2.1
                    have ehpσ_72 := hpσ_72.2.2.2.2
                    clear hpσ_72
                    have fr_σ_72 := fr_σ_61.call ehpσ_72 rfl rfl
                    replace hF := q_biX hF dhpσ_72
                    have mv27_σ_72 : (σ_72.1 a 27).toInt = (σ_61.1 a 27).toInt := congrArg Int32.toInt (ahpσ_72 a 27 (q_cl9 _ _) (fun h => absurd h.2.2 (by decide)))
                    have mcσ_72 := m_cK hkσ_72 hI.1 ha (by decide)
                    have kwσ_72 : ∀ j, 0 ≤ j → (j < v1.toInt + 1 ∨ v1.toInt + 8 ≤ j) → m_c X σ_72 a j = m_c X σ a j := fun j h0 h1 => (mcσ_72 j).trans (kwσ_61 j h0 h1)
                    have smσ_72 : 0 ≤ (σ_72.1 a 15).toInt ∧ (σ_72.1 a 15).toInt ≤ (σ_72.1 a 16).toInt ∧ (σ_72.1 a 16).toInt ≤ (σ_72.1 a 9).toInt ∧ (σ_72.1 a 9).toInt ≤ 900 ∧ 0 ≤ (σ_72.1 a 14).toInt ∧ (σ_72.1 a 14).toInt ≤ 4 ∧ (σ_72.1 a 14).toInt ≤ 4 * ((σ_72.1 a 16).toInt - (σ_72.1 a 15).toInt) ∧ (σ_72.1 a 14).toInt ≤ 4 * ((σ_72.1 a 9).toInt - (σ_72.1 a 15).toInt) ∧ 0 ≤ (σ_72.1 a 12).toInt ∧ (σ_72.1 a 9).toInt = (σ.1 a 9).toInt ∧ (σ.1 a 15).toInt ≤ (σ_72.1 a 15).toInt ∧ (σ.1 a 12).toInt ≤ (σ_72.1 a 12).toInt := (by first | exact sm_tr smσ_61 bhpσ_72 | exact sm_tr smσ_61 chpσ_72 | omega)
                    have nsσ_72 : (σ_72.1 a 27).toInt = (σ.1 a 27).toInt := (by first | (clear hs hw hc2 bhpσ_2 chpσ_2 j15 chpσ_5 dhpσ_5 ehpσ_5 iz_6 t5σ_7 t6σ_7 t1σ_8 t6σ_8 if_9 c_10 c_11 iz_12 if_13 c_14 kc_16 t6σ_15 t1σ_15 kc_17 ahpσ_19 bhpσ_19 chpσ_19 c_20 kc_36 ahpσ_38 bhpσ_38 chpσ_38 c_39 kc_55 ahpσ_57 bhpσ_57 chpσ_57 c_58 kc_59 ahpσ_61 chpσ_61 dhpσ_61 ehpσ_61 t6σ_61 t1σ_61 iz_62 c_63 kc_69 kc_70 ahpσ_72 bhpσ_72 chpσ_72 dhpσ_72 ehpσ_72 smσ_72; omega) | omega)
                    have t5σ_72 : 0 ≤ r_1.toInt + (σ_72.1 a 12).toInt := (by first | (clear hs hw hc2 bhpσ_2 chpσ_2 j15 chpσ_5 dhpσ_5 ehpσ_5 iz_6 t5σ_7 t1σ_8 if_9 c_10 c_11 iz_12 if_13 c_14 kc_16 t1σ_15 kc_17 ahpσ_19 bhpσ_19 chpσ_19 c_20 kc_36 ahpσ_38 bhpσ_38 chpσ_38 c_39 kc_55 ahpσ_57 bhpσ_57 chpσ_57 c_58 kc_59 ahpσ_61 chpσ_61 dhpσ_61 ehpσ_61 t1σ_61 iz_62 kc_69 kc_70 ahpσ_72 chpσ_72 dhpσ_72 ehpσ_72 mv27_σ_72 smσ_72 nsσ_72; omega) | omega)
                    have t6σ_72 : m_c X σ_72 a (v1.toInt + 6) = r_1.toInt := (mcσ_72 _).trans t6σ_61
                    have t1σ_72 : m_t1 (m_c X σ_72 a) v1.toInt := m_t1.k t1σ_61 (mcσ_72 _) (mcσ_72 _)
                    clear mv27_σ_72 smσ_61 nsσ_61 t5σ_61 bhpσ_72
                    refine q_iastN E hI (q_tk (k' := 34) hI ha rfl (Nat.succ_ne_zero _)) ⟨by decide, rfl⟩ (by first | (clear hs hc2 bhpσ_2 chpσ_2 j15 chpσ_5 dhpσ_5 ehpσ_5 t5σ_7 t6σ_7 t1σ_8 t6σ_8 if_9 c_10 c_11 if_13 c_14 kc_16 t6σ_15 t1σ_15 kc_17 ahpσ_19 bhpσ_19 chpσ_19 c_20 kc_36 ahpσ_38 bhpσ_38 chpσ_38 c_39 kc_55 ahpσ_57 bhpσ_57 chpσ_57 c_58 kc_59 ahpσ_61 chpσ_61 dhpσ_61 ehpσ_61 t6σ_61 t1σ_61 c_63 kc_69 kc_70 ahpσ_72 chpσ_72 dhpσ_72 ehpσ_72 smσ_72 nsσ_72 t5σ_72 t6σ_72 t1σ_72; omega) | omega) (by rw [q_lnk (v := 4650) hI (q_tk (k' := 34) hI ha rfl (Nat.succ_ne_zero _)) rfl (by decide)]; omega) (show 1 < 2 by decide) (q_inU rfl) dX12_readTest_149 (fun H locs σ_73 hσ_73 hI => ?_)
                    replace hF := q_letX hF hσ_73
                    have fr_σ_73 := fr_σ_72.si hσ_73 (q_tk (k' := 34) hI ha rfl (Nat.succ_ne_zero _)) rfl
                    have mv9_σ_73 : (σ_73.1 a 9).toInt = (σ_72.1 a 9).toInt := congrArg Int32.toInt (q_rdn hσ_73 (Or.inl (m_ne ha (q_tk (k' := 34) hI ha rfl (Nat.succ_ne_zero _)) (by decide))))
                    have mv12_σ_73 : (σ_73.1 a 12).toInt = (σ_72.1 a 12).toInt := congrArg Int32.toInt (q_rdn hσ_73 (Or.inl (m_ne ha (q_tk (k' := 34) hI ha rfl (Nat.succ_ne_zero _)) (by decide))))
                    have mv14_σ_73 : (σ_73.1 a 14).toInt = (σ_72.1 a 14).toInt := congrArg Int32.toInt (q_rdn hσ_73 (Or.inl (m_ne ha (q_tk (k' := 34) hI ha rfl (Nat.succ_ne_zero _)) (by decide))))
                    have mv15_σ_73 : (σ_73.1 a 15).toInt = (σ_72.1 a 15).toInt := congrArg Int32.toInt (q_rdn hσ_73 (Or.inl (m_ne ha (q_tk (k' := 34) hI ha rfl (Nat.succ_ne_zero _)) (by decide))))
                    have mv16_σ_73 : (σ_73.1 a 16).toInt = (σ_72.1 a 16).toInt := congrArg Int32.toInt (q_rdn hσ_73 (Or.inl (m_ne ha (q_tk (k' := 34) hI ha rfl (Nat.succ_ne_zero _)) (by decide))))
                    have mv27_σ_73 : (σ_73.1 a 27).toInt = (σ_72.1 a 27).toInt := congrArg Int32.toInt (q_rdn hσ_73 (Or.inl (m_ne ha (q_tk (k' := 34) hI ha rfl (Nat.succ_ne_zero _)) (by decide))))
                    have mcσ_73 := m_wr (v := r_71) (A := (v1.toInt + 2)) hσ_73 iz_62 (by first | (clear hs hc2 bhpσ_2 chpσ_2 j15 chpσ_5 dhpσ_5 ehpσ_5 t5σ_7 t6σ_7 t1σ_8 t6σ_8 if_9 c_10 c_11 if_13 c_14 kc_16 t6σ_15 t1σ_15 kc_17 ahpσ_19 bhpσ_19 chpσ_19 c_20 kc_36 ahpσ_38 bhpσ_38 chpσ_38 c_39 kc_55 ahpσ_57 bhpσ_57 chpσ_57 c_58 kc_59 ahpσ_61 chpσ_61 dhpσ_61 ehpσ_61 t6σ_61 t1σ_61 c_63 kc_69 kc_70 ahpσ_72 chpσ_72 dhpσ_72 ehpσ_72 smσ_72 nsσ_72 t5σ_72 t6σ_72 t1σ_72 mv9_σ_73 mv12_σ_73 mv14_σ_73 mv15_σ_73 mv16_σ_73 mv27_σ_73; omega) | omega)
                    have kwσ_73 : ∀ j, 0 ≤ j → (j < v1.toInt + 1 ∨ v1.toInt + 8 ≤ j) → m_c X σ_73 a j = m_c X σ a j := fun j h0 h1 => by rw [mcσ_73 j h0, if_neg (by first | (clear hs hw hc2 bhpσ_2 chpσ_2 j15 chpσ_5 dhpσ_5 ehpσ_5 t5σ_7 t6σ_7 t1σ_8 t6σ_8 if_9 c_10 c_11 if_13 c_14 kc_16 t6σ_15 t1σ_15 kc_17 ahpσ_19 bhpσ_19 chpσ_19 c_20 kc_36 ahpσ_38 bhpσ_38 chpσ_38 c_39 kc_55 ahpσ_57 bhpσ_57 chpσ_57 c_58 kc_59 ahpσ_61 chpσ_61 dhpσ_61 ehpσ_61 t6σ_61 t1σ_61 c_63 kc_69 kc_70 ahpσ_72 chpσ_72 dhpσ_72 ehpσ_72 smσ_72 nsσ_72 t5σ_72 t6σ_72 t1σ_72 mv9_σ_73 mv12_σ_73 mv14_σ_73 mv15_σ_73 mv16_σ_73 mv27_σ_73; omega) | omega)]; exact kwσ_72 j h0 h1
                    have smσ_73 : 0 ≤ (σ_73.1 a 15).toInt ∧ (σ_73.1 a 15).toInt ≤ (σ_73.1 a 16).toInt ∧ (σ_73.1 a 16).toInt ≤ (σ_73.1 a 9).toInt ∧ (σ_73.1 a 9).toInt ≤ 900 ∧ 0 ≤ (σ_73.1 a 14).toInt ∧ (σ_73.1 a 14).toInt ≤ 4 ∧ (σ_73.1 a 14).toInt ≤ 4 * ((σ_73.1 a 16).toInt - (σ_73.1 a 15).toInt) ∧ (σ_73.1 a 14).toInt ≤ 4 * ((σ_73.1 a 9).toInt - (σ_73.1 a 15).toInt) ∧ 0 ≤ (σ_73.1 a 12).toInt ∧ (σ_73.1 a 9).toInt = (σ.1 a 9).toInt ∧ (σ.1 a 15).toInt ≤ (σ_73.1 a 15).toInt ∧ (σ.1 a 12).toInt ≤ (σ_73.1 a 12).toInt := (by first | (rw [mv12_σ_73, mv14_σ_73, mv15_σ_73, mv16_σ_73, mv9_σ_73]; exact smσ_72) | omega)
                    have nsσ_73 : (σ_73.1 a 27).toInt = (σ.1 a 27).toInt := (by first | (clear hs hw hc2 bhpσ_2 chpσ_2 j15 chpσ_5 dhpσ_5 ehpσ_5 iz_6 t5σ_7 t6σ_7 t1σ_8 t6σ_8 if_9 c_10 c_11 iz_12 if_13 c_14 kc_16 t6σ_15 t1σ_15 kc_17 ahpσ_19 bhpσ_19 chpσ_19 c_20 kc_36 ahpσ_38 bhpσ_38 chpσ_38 c_39 kc_55 ahpσ_57 bhpσ_57 chpσ_57 c_58 kc_59 ahpσ_61 chpσ_61 dhpσ_61 ehpσ_61 t6σ_61 t1σ_61 iz_62 c_63 kc_69 kc_70 ahpσ_72 chpσ_72 dhpσ_72 ehpσ_72 smσ_72 t5σ_72 t6σ_72 t1σ_72 mv9_σ_73 mv12_σ_73 mv14_σ_73 mv15_σ_73 mv16_σ_73 smσ_73; omega) | omega)
                    have t5σ_73 : 0 ≤ r_1.toInt + (σ_73.1 a 12).toInt := (by first | (clear hs hw hc2 bhpσ_2 chpσ_2 j15 chpσ_5 dhpσ_5 ehpσ_5 iz_6 t5σ_7 t1σ_8 if_9 c_10 c_11 iz_12 if_13 c_14 kc_16 t1σ_15 kc_17 ahpσ_19 bhpσ_19 chpσ_19 c_20 kc_36 ahpσ_38 bhpσ_38 chpσ_38 c_39 kc_55 ahpσ_57 bhpσ_57 chpσ_57 c_58 kc_59 ahpσ_61 chpσ_61 dhpσ_61 ehpσ_61 t1σ_61 iz_62 kc_69 kc_70 ahpσ_72 chpσ_72 dhpσ_72 ehpσ_72 nsσ_72 t5σ_72 t6σ_72 t1σ_72 mv9_σ_73 mv14_σ_73 mv15_σ_73 mv16_σ_73 mv27_σ_73 smσ_73 nsσ_73; omega) | omega)
                    have t6σ_73 : m_c X σ_73 a (v1.toInt + 6) = r_1.toInt := (by rw [mcσ_73 (v1.toInt + 6) (by first | (clear hs hc2 bhpσ_2 chpσ_2 j15 chpσ_5 dhpσ_5 ehpσ_5 t5σ_7 t6σ_7 t1σ_8 t6σ_8 if_9 c_10 c_11 if_13 c_14 kc_16 t6σ_15 t1σ_15 kc_17 ahpσ_19 bhpσ_19 chpσ_19 c_20 kc_36 ahpσ_38 bhpσ_38 chpσ_38 c_39 kc_55 ahpσ_57 bhpσ_57 chpσ_57 c_58 kc_59 ahpσ_61 chpσ_61 dhpσ_61 ehpσ_61 t6σ_61 t1σ_61 c_63 kc_69 kc_70 ahpσ_72 chpσ_72 dhpσ_72 ehpσ_72 smσ_72 nsσ_72 t5σ_72 t6σ_72 t1σ_72 mv9_σ_73 mv12_σ_73 mv14_σ_73 mv15_σ_73 mv16_σ_73 mv27_σ_73 smσ_73 nsσ_73 t5σ_73; omega) | omega), if_neg (by first | (clear hs hw hc2 bhpσ_2 chpσ_2 j15 chpσ_5 dhpσ_5 ehpσ_5 iz_6 t5σ_7 t6σ_7 t1σ_8 t6σ_8 if_9 c_10 c_11 iz_12 if_13 c_14 kc_16 t6σ_15 t1σ_15 kc_17 ahpσ_19 bhpσ_19 chpσ_19 c_20 kc_36 ahpσ_38 bhpσ_38 chpσ_38 c_39 kc_55 ahpσ_57 bhpσ_57 chpσ_57 c_58 kc_59 ahpσ_61 chpσ_61 dhpσ_61 ehpσ_61 t6σ_61 t1σ_61 iz_62 c_63 kc_69 kc_70 ahpσ_72 chpσ_72 dhpσ_72 ehpσ_72 smσ_72 nsσ_72 t5σ_72 t6σ_72 t1σ_72 mv9_σ_73 mv12_σ_73 mv14_σ_73 mv15_σ_73 mv16_σ_73 mv27_σ_73 smσ_73 nsσ_73 t5σ_73; omega) | omega)]; exact t6σ_72)
                    have t1σ_73 : m_t1 (m_c X σ_73 a) v1.toInt := m_t1.k t1σ_72 (by rw [mcσ_73 (v1.toInt + 6) (by first | (clear hs hc2 bhpσ_2 chpσ_2 j15 chpσ_5 dhpσ_5 ehpσ_5 t5σ_7 t6σ_7 t1σ_8 t6σ_8 if_9 c_10 c_11 if_13 c_14 kc_16 t6σ_15 t1σ_15 kc_17 ahpσ_19 bhpσ_19 chpσ_19 c_20 kc_36 ahpσ_38 bhpσ_38 chpσ_38 c_39 kc_55 ahpσ_57 bhpσ_57 chpσ_57 c_58 kc_59 ahpσ_61 chpσ_61 dhpσ_61 ehpσ_61 t6σ_61 t1σ_61 c_63 kc_69 kc_70 ahpσ_72 chpσ_72 dhpσ_72 ehpσ_72 smσ_72 nsσ_72 t5σ_72 t6σ_72 t1σ_72 mv9_σ_73 mv12_σ_73 mv14_σ_73 mv15_σ_73 mv16_σ_73 mv27_σ_73 smσ_73 nsσ_73 t5σ_73 t6σ_73; omega) | omega), if_neg (by first | (clear hs hw hc2 bhpσ_2 chpσ_2 j15 chpσ_5 dhpσ_5 ehpσ_5 iz_6 t5σ_7 t6σ_7 t1σ_8 t6σ_8 if_9 c_10 c_11 iz_12 if_13 c_14 kc_16 t6σ_15 t1σ_15 kc_17 ahpσ_19 bhpσ_19 chpσ_19 c_20 kc_36 ahpσ_38 bhpσ_38 chpσ_38 c_39 kc_55 ahpσ_57 bhpσ_57 chpσ_57 c_58 kc_59 ahpσ_61 chpσ_61 dhpσ_61 ehpσ_61 t6σ_61 t1σ_61 iz_62 c_63 kc_69 kc_70 ahpσ_72 chpσ_72 dhpσ_72 ehpσ_72 smσ_72 nsσ_72 t5σ_72 t6σ_72 t1σ_72 mv9_σ_73 mv12_σ_73 mv14_σ_73 mv15_σ_73 mv16_σ_73 mv27_σ_73 smσ_73 nsσ_73 t5σ_73 t6σ_73; omega) | omega)]) (by rw [mcσ_73 (v1.toInt + 1) (by first | (clear hs hc2 bhpσ_2 chpσ_2 j15 chpσ_5 dhpσ_5 ehpσ_5 t5σ_7 t6σ_7 t1σ_8 t6σ_8 if_9 c_10 c_11 if_13 c_14 kc_16 t6σ_15 t1σ_15 kc_17 ahpσ_19 bhpσ_19 chpσ_19 c_20 kc_36 ahpσ_38 bhpσ_38 chpσ_38 c_39 kc_55 ahpσ_57 bhpσ_57 chpσ_57 c_58 kc_59 ahpσ_61 chpσ_61 dhpσ_61 ehpσ_61 t6σ_61 t1σ_61 c_63 kc_69 kc_70 ahpσ_72 chpσ_72 dhpσ_72 ehpσ_72 smσ_72 nsσ_72 t5σ_72 t6σ_72 t1σ_72 mv9_σ_73 mv12_σ_73 mv14_σ_73 mv15_σ_73 mv16_σ_73 mv27_σ_73 smσ_73 nsσ_73 t5σ_73 t6σ_73; omega) | omega), if_neg (by first | (clear hs hw hc2 bhpσ_2 chpσ_2 j15 chpσ_5 dhpσ_5 ehpσ_5 iz_6 t5σ_7 t6σ_7 t1σ_8 t6σ_8 if_9 c_10 c_11 iz_12 if_13 c_14 kc_16 t6σ_15 t1σ_15 kc_17 ahpσ_19 bhpσ_19 chpσ_19 c_20 kc_36 ahpσ_38 bhpσ_38 chpσ_38 c_39 kc_55 ahpσ_57 bhpσ_57 chpσ_57 c_58 kc_59 ahpσ_61 chpσ_61 dhpσ_61 ehpσ_61 t6σ_61 t1σ_61 iz_62 c_63 kc_69 kc_70 ahpσ_72 chpσ_72 dhpσ_72 ehpσ_72 smσ_72 nsσ_72 t5σ_72 t6σ_72 t1σ_72 mv9_σ_73 mv12_σ_73 mv14_σ_73 mv15_σ_73 mv16_σ_73 mv27_σ_73 smσ_73 nsσ_73 t5σ_73 t6σ_73; omega) | omega)])
                    clear mv9_σ_73 mv12_σ_73 mv14_σ_73 mv15_σ_73 mv16_σ_73 mv27_σ_73 smσ_72 nsσ_72 t5σ_72
                    rewrite [hQQ]; exact q_retv E hr hlk hI ⟨kwσ_73, (by first | exact smσ_73 | omega), nsσ_73, (fun e => ⟨by rw [t6σ_73]; omega, t1σ_73⟩), (hF.trans hout), fr_σ_73⟩ dX12_readTest_150
                · skip
                  replace hF := q_ifn hF c_58
                  replace c_58 := q_ifOne bhpσ_57 c_58
                  refine lv_iconst (v := 1) hx hb dX12_readTest_116 zki_1 ?_
                  refine lv_goto (tgt := 121) hx hb dX12_readTest_117 (by decide) ?_
                  have kc_74 : (1 : Int32).toInt = 1 := zt_1
                  refine q_cv (q_rV11_1 (rest := []) E (hml.trans hl.1.symm) hI (c_X12_must l X σ_15 a (1 : Int32) ha (by first | exact sm_9 smσ_15 | exact hs | omega) (by first | (clear hs hw hc2 bhpσ_2 chpσ_2 j15 chpσ_5 dhpσ_5 ehpσ_5 iz_6 t5σ_7 t6σ_7 t1σ_8 t6σ_8 if_9 c_10 c_11 iz_12 if_13 c_14 kc_16 t6σ_15 t1σ_15 kc_17 ahpσ_19 bhpσ_19 chpσ_19 c_20 kc_36 ahpσ_38 bhpσ_38 chpσ_38 c_39 kc_55 ahpσ_57 bhpσ_57 chpσ_57 c_58; omega) | omega)) kv_X12_216 ha ⟨Nat.le_of_ble_eq_true rfl, Nat.le_of_ble_eq_true rfl⟩ (Nat.le_of_ble_eq_true rfl) dX12_readTest_121) hI (Nat.le_of_ble_eq_true rfl) (fun σ_76 H locs hpσ_76 hkσ_76 hI => ?_)
                  have ahpσ_76 := hpσ_76.1
                  have bhpσ_76 := hpσ_76.2.1
                  have chpσ_76 := hpσ_76.2.2.1
                  have dhpσ_76 := hpσ_76.2.2.2.1
                  have ehpσ_76 := hpσ_76.2.2.2.2
                  clear hpσ_76
                  have fr_σ_76 := fr_σ_15.call ehpσ_76 rfl rfl
                  replace hF := q_letX hF dhpσ_76
                  have mv27_σ_76 : (σ_76.1 a 27).toInt = (σ_15.1 a 27).toInt := congrArg Int32.toInt (ahpσ_76 a 27 (q_cl9 _ _) (fun h => absurd h.2.2 (by decide)))
                  have mcσ_76 := m_cK hkσ_76 hI.1 ha (by decide)
                  have kwσ_76 : ∀ j, 0 ≤ j → (j < v1.toInt + 1 ∨ v1.toInt + 8 ≤ j) → m_c X σ_76 a j = m_c X σ a j := fun j h0 h1 => (mcσ_76 j).trans (kwσ_15 j h0 h1)
                  have smσ_76 : 0 ≤ (σ_76.1 a 15).toInt ∧ (σ_76.1 a 15).toInt ≤ (σ_76.1 a 16).toInt ∧ (σ_76.1 a 16).toInt ≤ (σ_76.1 a 9).toInt ∧ (σ_76.1 a 9).toInt ≤ 900 ∧ 0 ≤ (σ_76.1 a 14).toInt ∧ (σ_76.1 a 14).toInt ≤ 4 ∧ (σ_76.1 a 14).toInt ≤ 4 * ((σ_76.1 a 16).toInt - (σ_76.1 a 15).toInt) ∧ (σ_76.1 a 14).toInt ≤ 4 * ((σ_76.1 a 9).toInt - (σ_76.1 a 15).toInt) ∧ 0 ≤ (σ_76.1 a 12).toInt ∧ (σ_76.1 a 9).toInt = (σ.1 a 9).toInt ∧ (σ.1 a 15).toInt ≤ (σ_76.1 a 15).toInt ∧ (σ.1 a 12).toInt ≤ (σ_76.1 a 12).toInt := (by first | exact sm_tr smσ_15 bhpσ_76 | exact sm_tr smσ_15 chpσ_76 | omega)
                  have nsσ_76 : (σ_76.1 a 27).toInt = (σ.1 a 27).toInt := (by first | (clear hs hw hc2 bhpσ_2 chpσ_2 j15 chpσ_5 dhpσ_5 ehpσ_5 iz_6 t5σ_7 t6σ_7 t1σ_8 t6σ_8 if_9 c_10 c_11 iz_12 if_13 c_14 kc_16 t6σ_15 t1σ_15 kc_17 ahpσ_19 bhpσ_19 chpσ_19 c_20 kc_36 ahpσ_38 bhpσ_38 chpσ_38 c_39 kc_55 ahpσ_57 bhpσ_57 chpσ_57 c_58 kc_74 ahpσ_76 bhpσ_76 chpσ_76 dhpσ_76 ehpσ_76 smσ_76; omega) | omega)
                  have t5σ_76 : 0 ≤ r_1.toInt + (σ_76.1 a 12).toInt := (by first | (clear hs hw hc2 bhpσ_2 chpσ_2 j15 chpσ_5 dhpσ_5 ehpσ_5 iz_6 t5σ_7 t1σ_8 if_9 c_10 c_11 iz_12 if_13 c_14 kc_16 t1σ_15 kc_17 ahpσ_19 bhpσ_19 chpσ_19 c_20 kc_36 ahpσ_38 bhpσ_38 chpσ_38 c_39 kc_55 ahpσ_57 bhpσ_57 chpσ_57 c_58 kc_74 ahpσ_76 chpσ_76 dhpσ_76 ehpσ_76 mv27_σ_76 smσ_76 nsσ_76; omega) | omega)
                  have t6σ_76 : m_c X σ_76 a (v1.toInt + 6) = r_1.toInt := (mcσ_76 _).trans t6σ_15
                  have t1σ_76 : m_t1 (m_c X σ_76 a) v1.toInt := m_t1.k t1σ_15 (mcσ_76 _) (mcσ_76 _)
                  clear mv27_σ_76 smσ_15 nsσ_15 t5σ_15 bhpσ_76
                  refine lv_aload_n hx hb dX12_readTest_124 rfl (lv_at hl 0 rfl) ?_
                  refine gs_X12_35_12 E hI ha dX12_readTest_125 ?_
                  refine lv_iload_n hx hb dX12_readTest_128 rfl (lv_at hl 1 rfl) ?_
                  refine lv_iconst (v := 2) hx hb dX12_readTest_129 zki_2 ?_
                  refine lv_iadd hx hb dX12_readTest_130 ?_
                  refine lv_topi (fun z_77 ez_77 => ?_)
                  replace hF := q_letX hF ez_77
                  have iz_77 := q_addI (A := v1.toInt) (B := 2) ez_77 rfl (by decide) (by first | (clear hs hc2 bhpσ_2 chpσ_2 j15 chpσ_5 dhpσ_5 ehpσ_5 t5σ_7 t6σ_7 t1σ_8 t6σ_8 if_9 c_10 c_11 if_13 c_14 kc_16 t6σ_15 t1σ_15 kc_17 ahpσ_19 bhpσ_19 chpσ_19 c_20 kc_36 ahpσ_38 bhpσ_38 chpσ_38 c_39 kc_55 ahpσ_57 bhpσ_57 chpσ_57 c_58 kc_74 ahpσ_76 chpσ_76 dhpσ_76 ehpσ_76 smσ_76 nsσ_76 t5σ_76 t6σ_76 t1σ_76; omega) | omega) (by first | (clear hs hc2 bhpσ_2 chpσ_2 j15 chpσ_5 dhpσ_5 ehpσ_5 t5σ_7 t6σ_7 t1σ_8 t6σ_8 if_9 c_10 c_11 if_13 c_14 kc_16 t6σ_15 t1σ_15 kc_17 ahpσ_19 bhpσ_19 chpσ_19 c_20 kc_36 ahpσ_38 bhpσ_38 chpσ_38 c_39 kc_55 ahpσ_57 bhpσ_57 chpσ_57 c_58 kc_74 ahpσ_76 chpσ_76 dhpσ_76 ehpσ_76 smσ_76 nsσ_76 t5σ_76 t6σ_76 t1σ_76; omega) | omega)
                  refine lv_aload_n hx hb dX12_readTest_131 rfl (lv_at hl 0 rfl) ?_
                  refine lv_iconst (v := 0) hx hb dX12_readTest_132 zki_0 ?_
                  refine lv_iload_n hx hb dX12_readTest_133 rfl (lv_at hl 2 rfl) ?_
                  refine lv_iconst (v := 2) hx hb dX12_readTest_134 zki_2 ?_
                  refine q_icmp_ne (A := r_1.toInt) (B := 2) E rfl (by decide) (tgt := 144) dX12_readTest_135 (by decide) (fun c_78 => ?_) (fun c_78 => ?_)
                  · skip
                    replace hF := q_ifn hF c_78
                    refine lv_bipush (v := 80) hx hb dX12_readTest_144 zkb_80 ?_
                    have kc_79 : (0 : Int32).toInt = 0 := zt_0
                    have kc_80 : (80 : Int32).toInt = 80 := zt_80
                    refine q_ci (q_rV11_2 (rest := [.int z_77, .ref (q_rf X a 20)]) E (hml.trans hl.1.symm) hI (c_X12_count l X σ_76 a (0 : Int32) (80 : Int32) ha (by first | exact sm_9 smσ_76 | exact hs | omega) (by first | (clear hs hw hc2 bhpσ_2 chpσ_2 j15 chpσ_5 dhpσ_5 ehpσ_5 iz_6 t5σ_7 t6σ_7 t1σ_8 t6σ_8 if_9 c_10 c_11 iz_12 if_13 c_14 t6σ_15 t1σ_15 kc_17 ahpσ_19 bhpσ_19 chpσ_19 c_20 kc_36 ahpσ_38 bhpσ_38 chpσ_38 c_39 kc_55 ahpσ_57 bhpσ_57 chpσ_57 c_58 kc_74 ahpσ_76 chpσ_76 dhpσ_76 ehpσ_76 smσ_76 nsσ_76 t5σ_76 t6σ_76 t1σ_76 iz_77 c_78 kc_79; omega) | omega)) kv_X12_223 ha ⟨Nat.le_of_ble_eq_true rfl, Nat.le_of_ble_eq_true rfl⟩ (Nat.le_of_ble_eq_true rfl) dX12_readTest_146) hI (Nat.le_of_ble_eq_true rfl) (fun r_81 σ_82 H locs hpσ_82 hkσ_82 hI => ?_)
                    have ahpσ_82 := hpσ_82.1
                    have bhpσ_82 := hpσ_82.2.1
                    have chpσ_82 := hpσ_82.2.2.1
                    have dhpσ_82 := hpσ_82.2.2.2.1
                    have ehpσ_82 := hpσ_82.2.2.2.2
                    clear hpσ_82
                    have fr_σ_82 := fr_σ_76.call ehpσ_82 rfl rfl
                    replace hF := q_biX hF dhpσ_82
                    have mv27_σ_82 : (σ_82.1 a 27).toInt = (σ_76.1 a 27).toInt := congrArg Int32.toInt (ahpσ_82 a 27 (q_cl9 _ _) (fun h => absurd h.2.2 (by decide)))
                    have mcσ_82 := m_cK hkσ_82 hI.1 ha (by decide)
                    have kwσ_82 : ∀ j, 0 ≤ j → (j < v1.toInt + 1 ∨ v1.toInt + 8 ≤ j) → m_c X σ_82 a j = m_c X σ a j := fun j h0 h1 => (mcσ_82 j).trans (kwσ_76 j h0 h1)
                    have smσ_82 : 0 ≤ (σ_82.1 a 15).toInt ∧ (σ_82.1 a 15).toInt ≤ (σ_82.1 a 16).toInt ∧ (σ_82.1 a 16).toInt ≤ (σ_82.1 a 9).toInt ∧ (σ_82.1 a 9).toInt ≤ 900 ∧ 0 ≤ (σ_82.1 a 14).toInt ∧ (σ_82.1 a 14).toInt ≤ 4 ∧ (σ_82.1 a 14).toInt ≤ 4 * ((σ_82.1 a 16).toInt - (σ_82.1 a 15).toInt) ∧ (σ_82.1 a 14).toInt ≤ 4 * ((σ_82.1 a 9).toInt - (σ_82.1 a 15).toInt) ∧ 0 ≤ (σ_82.1 a 12).toInt ∧ (σ_82.1 a 9).toInt = (σ.1 a 9).toInt ∧ (σ.1 a 15).toInt ≤ (σ_82.1 a 15).toInt ∧ (σ.1 a 12).toInt ≤ (σ_82.1 a 12).toInt := (by first | exact sm_tr smσ_76 bhpσ_82 | exact sm_tr smσ_76 chpσ_82 | omega)
                    have nsσ_82 : (σ_82.1 a 27).toInt = (σ.1 a 27).toInt := (by first | (clear hs hw hc2 bhpσ_2 chpσ_2 j15 chpσ_5 dhpσ_5 ehpσ_5 iz_6 t5σ_7 t6σ_7 t1σ_8 t6σ_8 if_9 c_10 c_11 iz_12 if_13 c_14 kc_16 t6σ_15 t1σ_15 kc_17 ahpσ_19 bhpσ_19 chpσ_19 c_20 kc_36 ahpσ_38 bhpσ_38 chpσ_38 c_39 kc_55 ahpσ_57 bhpσ_57 chpσ_57 c_58 kc_74 ahpσ_76 chpσ_76 dhpσ_76 ehpσ_76 smσ_76 t5σ_76 t6σ_76 t1σ_76 iz_77 c_78 kc_79 kc_80 ahpσ_82 bhpσ_82 chpσ_82 dhpσ_82 ehpσ_82 smσ_82; omega) | omega)
                    have t5σ_82 : 0 ≤ r_1.toInt + (σ_82.1 a 12).toInt := (by first | (clear hs hw hc2 bhpσ_2 chpσ_2 j15 chpσ_5 dhpσ_5 ehpσ_5 iz_6 t5σ_7 t1σ_8 if_9 c_10 c_11 iz_12 if_13 c_14 kc_16 t1σ_15 kc_17 ahpσ_19 bhpσ_19 chpσ_19 c_20 kc_36 ahpσ_38 bhpσ_38 chpσ_38 c_39 kc_55 ahpσ_57 bhpσ_57 chpσ_57 c_58 kc_74 ahpσ_76 chpσ_76 dhpσ_76 ehpσ_76 smσ_76 nsσ_76 t1σ_76 iz_77 c_78 kc_79 kc_80 ahpσ_82 chpσ_82 dhpσ_82 ehpσ_82 mv27_σ_82 smσ_82 nsσ_82; omega) | omega)
                    have t6σ_82 : m_c X σ_82 a (v1.toInt + 6) = r_1.toInt := (mcσ_82 _).trans t6σ_76
                    have t1σ_82 : m_t1 (m_c X σ_82 a) v1.toInt := m_t1.k t1σ_76 (mcσ_82 _) (mcσ_82 _)
                    clear mv27_σ_82 smσ_76 nsσ_76 t5σ_76 bhpσ_82
                    refine q_iastN E hI (q_tk (k' := 34) hI ha rfl (Nat.succ_ne_zero _)) ⟨by decide, rfl⟩ (by first | (clear hs hc2 bhpσ_2 chpσ_2 j15 chpσ_5 dhpσ_5 ehpσ_5 t5σ_7 t6σ_7 t1σ_8 t6σ_8 if_9 c_10 c_11 if_13 c_14 kc_16 t6σ_15 t1σ_15 kc_17 ahpσ_19 bhpσ_19 chpσ_19 c_20 kc_36 ahpσ_38 bhpσ_38 chpσ_38 c_39 kc_55 ahpσ_57 bhpσ_57 chpσ_57 c_58 kc_74 ahpσ_76 chpσ_76 dhpσ_76 ehpσ_76 t6σ_76 t1σ_76 c_78 kc_79 kc_80 ahpσ_82 chpσ_82 dhpσ_82 ehpσ_82 smσ_82 nsσ_82 t5σ_82 t6σ_82 t1σ_82; omega) | omega) (by rw [q_lnk (v := 4650) hI (q_tk (k' := 34) hI ha rfl (Nat.succ_ne_zero _)) rfl (by decide)]; omega) (show 1 < 2 by decide) (q_inU rfl) dX12_readTest_149 (fun H locs σ_83 hσ_83 hI => ?_)
                    replace hF := q_letX hF hσ_83
                    have fr_σ_83 := fr_σ_82.si hσ_83 (q_tk (k' := 34) hI ha rfl (Nat.succ_ne_zero _)) rfl
                    have mv9_σ_83 : (σ_83.1 a 9).toInt = (σ_82.1 a 9).toInt := congrArg Int32.toInt (q_rdn hσ_83 (Or.inl (m_ne ha (q_tk (k' := 34) hI ha rfl (Nat.succ_ne_zero _)) (by decide))))
                    have mv12_σ_83 : (σ_83.1 a 12).toInt = (σ_82.1 a 12).toInt := congrArg Int32.toInt (q_rdn hσ_83 (Or.inl (m_ne ha (q_tk (k' := 34) hI ha rfl (Nat.succ_ne_zero _)) (by decide))))
                    have mv14_σ_83 : (σ_83.1 a 14).toInt = (σ_82.1 a 14).toInt := congrArg Int32.toInt (q_rdn hσ_83 (Or.inl (m_ne ha (q_tk (k' := 34) hI ha rfl (Nat.succ_ne_zero _)) (by decide))))
                    have mv15_σ_83 : (σ_83.1 a 15).toInt = (σ_82.1 a 15).toInt := congrArg Int32.toInt (q_rdn hσ_83 (Or.inl (m_ne ha (q_tk (k' := 34) hI ha rfl (Nat.succ_ne_zero _)) (by decide))))
                    have mv16_σ_83 : (σ_83.1 a 16).toInt = (σ_82.1 a 16).toInt := congrArg Int32.toInt (q_rdn hσ_83 (Or.inl (m_ne ha (q_tk (k' := 34) hI ha rfl (Nat.succ_ne_zero _)) (by decide))))
                    have mv27_σ_83 : (σ_83.1 a 27).toInt = (σ_82.1 a 27).toInt := congrArg Int32.toInt (q_rdn hσ_83 (Or.inl (m_ne ha (q_tk (k' := 34) hI ha rfl (Nat.succ_ne_zero _)) (by decide))))
                    have mcσ_83 := m_wr (v := r_81) (A := (v1.toInt + 2)) hσ_83 iz_77 (by first | (clear hs hc2 bhpσ_2 chpσ_2 j15 chpσ_5 dhpσ_5 ehpσ_5 t5σ_7 t6σ_7 t1σ_8 t6σ_8 if_9 c_10 c_11 if_13 c_14 kc_16 t6σ_15 t1σ_15 kc_17 ahpσ_19 bhpσ_19 chpσ_19 c_20 kc_36 ahpσ_38 bhpσ_38 chpσ_38 c_39 kc_55 ahpσ_57 bhpσ_57 chpσ_57 c_58 kc_74 ahpσ_76 chpσ_76 dhpσ_76 ehpσ_76 t6σ_76 t1σ_76 c_78 kc_79 kc_80 ahpσ_82 chpσ_82 dhpσ_82 ehpσ_82 smσ_82 nsσ_82 t5σ_82 t6σ_82 t1σ_82 mv9_σ_83 mv12_σ_83 mv14_σ_83 mv15_σ_83 mv16_σ_83 mv27_σ_83; omega) | omega)
                    have kwσ_83 : ∀ j, 0 ≤ j → (j < v1.toInt + 1 ∨ v1.toInt + 8 ≤ j) → m_c X σ_83 a j = m_c X σ a j := fun j h0 h1 => by rw [mcσ_83 j h0, if_neg (by first | (clear hs hw hc2 bhpσ_2 chpσ_2 j15 chpσ_5 dhpσ_5 ehpσ_5 t5σ_7 t6σ_7 t1σ_8 t6σ_8 if_9 c_10 c_11 if_13 c_14 kc_16 t6σ_15 t1σ_15 kc_17 ahpσ_19 bhpσ_19 chpσ_19 c_20 kc_36 ahpσ_38 bhpσ_38 chpσ_38 c_39 kc_55 ahpσ_57 bhpσ_57 chpσ_57 c_58 kc_74 ahpσ_76 chpσ_76 dhpσ_76 ehpσ_76 t6σ_76 t1σ_76 c_78 kc_79 kc_80 ahpσ_82 chpσ_82 dhpσ_82 ehpσ_82 smσ_82 nsσ_82 t5σ_82 t6σ_82 t1σ_82 mv9_σ_83 mv12_σ_83 mv14_σ_83 mv15_σ_83 mv16_σ_83 mv27_σ_83; omega) | omega)]; exact kwσ_82 j h0 h1
                    have smσ_83 : 0 ≤ (σ_83.1 a 15).toInt ∧ (σ_83.1 a 15).toInt ≤ (σ_83.1 a 16).toInt ∧ (σ_83.1 a 16).toInt ≤ (σ_83.1 a 9).toInt ∧ (σ_83.1 a 9).toInt ≤ 900 ∧ 0 ≤ (σ_83.1 a 14).toInt ∧ (σ_83.1 a 14).toInt ≤ 4 ∧ (σ_83.1 a 14).toInt ≤ 4 * ((σ_83.1 a 16).toInt - (σ_83.1 a 15).toInt) ∧ (σ_83.1 a 14).toInt ≤ 4 * ((σ_83.1 a 9).toInt - (σ_83.1 a 15).toInt) ∧ 0 ≤ (σ_83.1 a 12).toInt ∧ (σ_83.1 a 9).toInt = (σ.1 a 9).toInt ∧ (σ.1 a 15).toInt ≤ (σ_83.1 a 15).toInt ∧ (σ.1 a 12).toInt ≤ (σ_83.1 a 12).toInt := (by first | (rw [mv12_σ_83, mv14_σ_83, mv15_σ_83, mv16_σ_83, mv9_σ_83]; exact smσ_82) | omega)
                    have nsσ_83 : (σ_83.1 a 27).toInt = (σ.1 a 27).toInt := (by first | (clear hs hw hc2 bhpσ_2 chpσ_2 j15 chpσ_5 dhpσ_5 ehpσ_5 iz_6 t5σ_7 t6σ_7 t1σ_8 t6σ_8 if_9 c_10 c_11 iz_12 if_13 c_14 kc_16 t6σ_15 t1σ_15 kc_17 ahpσ_19 bhpσ_19 chpσ_19 c_20 kc_36 ahpσ_38 bhpσ_38 chpσ_38 c_39 kc_55 ahpσ_57 bhpσ_57 chpσ_57 c_58 kc_74 ahpσ_76 chpσ_76 dhpσ_76 ehpσ_76 t6σ_76 t1σ_76 iz_77 c_78 kc_79 kc_80 ahpσ_82 chpσ_82 dhpσ_82 ehpσ_82 smσ_82 t5σ_82 t6σ_82 t1σ_82 mv9_σ_83 mv12_σ_83 mv14_σ_83 mv15_σ_83 mv16_σ_83 smσ_83; omega) | omega)
                    have t5σ_83 : 0 ≤ r_1.toInt + (σ_83.1 a 12).toInt := (by first | (clear hs hw hc2 bhpσ_2 chpσ_2 j15 chpσ_5 dhpσ_5 ehpσ_5 iz_6 t5σ_7 t1σ_8 if_9 c_10 c_11 iz_12 if_13 c_14 kc_16 t1σ_15 kc_17 ahpσ_19 bhpσ_19 chpσ_19 c_20 kc_36 ahpσ_38 bhpσ_38 chpσ_38 c_39 kc_55 ahpσ_57 bhpσ_57 chpσ_57 c_58 kc_74 ahpσ_76 chpσ_76 dhpσ_76 ehpσ_76 t1σ_76 iz_77 c_78 kc_79 kc_80 ahpσ_82 chpσ_82 dhpσ_82 ehpσ_82 smσ_82 nsσ_82 t1σ_82 mv9_σ_83 mv14_σ_83 mv15_σ_83 mv16_σ_83 mv27_σ_83 smσ_83 nsσ_83; omega) | omega)
                    have t6σ_83 : m_c X σ_83 a (v1.toInt + 6) = r_1.toInt := (by rw [mcσ_83 (v1.toInt + 6) (by first | (clear hs hc2 bhpσ_2 chpσ_2 j15 chpσ_5 dhpσ_5 ehpσ_5 t5σ_7 t6σ_7 t1σ_8 t6σ_8 if_9 c_10 c_11 if_13 c_14 kc_16 t6σ_15 t1σ_15 kc_17 ahpσ_19 bhpσ_19 chpσ_19 c_20 kc_36 ahpσ_38 bhpσ_38 chpσ_38 c_39 kc_55 ahpσ_57 bhpσ_57 chpσ_57 c_58 kc_74 ahpσ_76 chpσ_76 dhpσ_76 ehpσ_76 t6σ_76 t1σ_76 c_78 kc_79 kc_80 ahpσ_82 chpσ_82 dhpσ_82 ehpσ_82 smσ_82 nsσ_82 t5σ_82 t6σ_82 t1σ_82 mv9_σ_83 mv12_σ_83 mv14_σ_83 mv15_σ_83 mv16_σ_83 mv27_σ_83 smσ_83 nsσ_83 t5σ_83; omega) | omega), if_neg (by first | (clear hs hw hc2 bhpσ_2 chpσ_2 j15 chpσ_5 dhpσ_5 ehpσ_5 iz_6 t5σ_7 t6σ_7 t1σ_8 t6σ_8 if_9 c_10 c_11 iz_12 if_13 c_14 kc_16 t6σ_15 t1σ_15 kc_17 ahpσ_19 bhpσ_19 chpσ_19 c_20 kc_36 ahpσ_38 bhpσ_38 chpσ_38 c_39 kc_55 ahpσ_57 bhpσ_57 chpσ_57 c_58 kc_74 ahpσ_76 chpσ_76 dhpσ_76 ehpσ_76 t6σ_76 t1σ_76 iz_77 c_78 kc_79 kc_80 ahpσ_82 chpσ_82 dhpσ_82 ehpσ_82 smσ_82 nsσ_82 t5σ_82 t6σ_82 t1σ_82 mv9_σ_83 mv12_σ_83 mv14_σ_83 mv15_σ_83 mv16_σ_83 mv27_σ_83 smσ_83 nsσ_83 t5σ_83; omega) | omega)]; exact t6σ_82)
                    have t1σ_83 : m_t1 (m_c X σ_83 a) v1.toInt := m_t1.k t1σ_82 (by rw [mcσ_83 (v1.toInt + 6) (by first | (clear hs hc2 bhpσ_2 chpσ_2 j15 chpσ_5 dhpσ_5 ehpσ_5 t5σ_7 t6σ_7 t1σ_8 t6σ_8 if_9 c_10 c_11 if_13 c_14 kc_16 t6σ_15 t1σ_15 kc_17 ahpσ_19 bhpσ_19 chpσ_19 c_20 kc_36 ahpσ_38 bhpσ_38 chpσ_38 c_39 kc_55 ahpσ_57 bhpσ_57 chpσ_57 c_58 kc_74 ahpσ_76 chpσ_76 dhpσ_76 ehpσ_76 t6σ_76 t1σ_76 c_78 kc_79 kc_80 ahpσ_82 chpσ_82 dhpσ_82 ehpσ_82 smσ_82 nsσ_82 t5σ_82 t6σ_82 t1σ_82 mv9_σ_83 mv12_σ_83 mv14_σ_83 mv15_σ_83 mv16_σ_83 mv27_σ_83 smσ_83 nsσ_83 t5σ_83 t6σ_83; omega) | omega), if_neg (by first | (clear hs hw hc2 bhpσ_2 chpσ_2 j15 chpσ_5 dhpσ_5 ehpσ_5 iz_6 t5σ_7 t6σ_7 t1σ_8 t6σ_8 if_9 c_10 c_11 iz_12 if_13 c_14 kc_16 t6σ_15 t1σ_15 kc_17 ahpσ_19 bhpσ_19 chpσ_19 c_20 kc_36 ahpσ_38 bhpσ_38 chpσ_38 c_39 kc_55 ahpσ_57 bhpσ_57 chpσ_57 c_58 kc_74 ahpσ_76 chpσ_76 dhpσ_76 ehpσ_76 t6σ_76 t1σ_76 iz_77 c_78 kc_79 kc_80 ahpσ_82 chpσ_82 dhpσ_82 ehpσ_82 smσ_82 nsσ_82 t5σ_82 t6σ_82 t1σ_82 mv9_σ_83 mv12_σ_83 mv14_σ_83 mv15_σ_83 mv16_σ_83 mv27_σ_83 smσ_83 nsσ_83 t5σ_83 t6σ_83; omega) | omega)]) (by rw [mcσ_83 (v1.toInt + 1) (by first | (clear hs hc2 bhpσ_2 chpσ_2 j15 chpσ_5 dhpσ_5 ehpσ_5 t5σ_7 t6σ_7 t1σ_8 t6σ_8 if_9 c_10 c_11 if_13 c_14 kc_16 t6σ_15 t1σ_15 kc_17 ahpσ_19 bhpσ_19 chpσ_19 c_20 kc_36 ahpσ_38 bhpσ_38 chpσ_38 c_39 kc_55 ahpσ_57 bhpσ_57 chpσ_57 c_58 kc_74 ahpσ_76 chpσ_76 dhpσ_76 ehpσ_76 t6σ_76 t1σ_76 c_78 kc_79 kc_80 ahpσ_82 chpσ_82 dhpσ_82 ehpσ_82 smσ_82 nsσ_82 t5σ_82 t6σ_82 t1σ_82 mv9_σ_83 mv12_σ_83 mv14_σ_83 mv15_σ_83 mv16_σ_83 mv27_σ_83 smσ_83 nsσ_83 t5σ_83 t6σ_83; omega) | omega), if_neg (by first | (clear hs hw hc2 bhpσ_2 chpσ_2 j15 chpσ_5 dhpσ_5 ehpσ_5 iz_6 t5σ_7 t6σ_7 t1σ_8 t6σ_8 if_9 c_10 c_11 iz_12 if_13 c_14 kc_16 t6σ_15 t1σ_15 kc_17 ahpσ_19 bhpσ_19 chpσ_19 c_20 kc_36 ahpσ_38 bhpσ_38 chpσ_38 c_39 kc_55 ahpσ_57 bhpσ_57 chpσ_57 c_58 kc_74 ahpσ_76 chpσ_76 dhpσ_76 ehpσ_76 t6σ_76 t1σ_76 iz_77 c_78 kc_79 kc_80 ahpσ_82 chpσ_82 dhpσ_82 ehpσ_82 smσ_82 nsσ_82 t5σ_82 t6σ_82 t1σ_82 mv9_σ_83 mv12_σ_83 mv14_σ_83 mv15_σ_83 mv16_σ_83 mv27_σ_83 smσ_83 nsσ_83 t5σ_83 t6σ_83; omega) | omega)])
                    clear mv9_σ_83 mv12_σ_83 mv14_σ_83 mv15_σ_83 mv16_σ_83 mv27_σ_83 smσ_82 nsσ_82 t5σ_82
                    rewrite [hQQ]; exact q_retv E hr hlk hI ⟨kwσ_83, (by first | exact smσ_83 | omega), nsσ_83, (fun e => ⟨by rw [t6σ_83]; omega, t1σ_83⟩), (hF.trans hout), fr_σ_83⟩ dX12_readTest_150
                  · skip
                    replace hF := q_ifp hF c_78
                    refine lv_sipush (v := 999) hx hb dX12_readTest_138 zks_999 ?_
                    refine lv_goto (tgt := 146) hx hb dX12_readTest_141 (by decide) ?_
                    have kc_84 : (0 : Int32).toInt = 0 := zt_0
                    have kc_85 : (999 : Int32).toInt = 999 := zt_999
                    refine q_ci (q_rV11_2 (rest := [.int z_77, .ref (q_rf X a 20)]) E (hml.trans hl.1.symm) hI (c_X12_count l X σ_76 a (0 : Int32) (999 : Int32) ha (by first | exact sm_9 smσ_76 | exact hs | omega) (by first | (clear hs hw hc2 bhpσ_2 chpσ_2 j15 chpσ_5 dhpσ_5 ehpσ_5 iz_6 t5σ_7 t6σ_7 t1σ_8 t6σ_8 if_9 c_10 c_11 iz_12 if_13 c_14 t6σ_15 t1σ_15 kc_17 ahpσ_19 bhpσ_19 chpσ_19 c_20 kc_36 ahpσ_38 bhpσ_38 chpσ_38 c_39 kc_55 ahpσ_57 bhpσ_57 chpσ_57 c_58 kc_74 ahpσ_76 chpσ_76 dhpσ_76 ehpσ_76 t6σ_76 t1σ_76 iz_77 c_78 kc_84; omega) | omega)) kv_X12_223 ha ⟨Nat.le_of_ble_eq_true rfl, Nat.le_of_ble_eq_true rfl⟩ (Nat.le_of_ble_eq_true rfl) dX12_readTest_146) hI (Nat.le_of_ble_eq_true rfl) (fun r_86 σ_87 H locs hpσ_87 hkσ_87 hI => ?_)
                    have ahpσ_87 := hpσ_87.1
                    have bhpσ_87 := hpσ_87.2.1
                    have chpσ_87 := hpσ_87.2.2.1
                    have dhpσ_87 := hpσ_87.2.2.2.1
                    have ehpσ_87 := hpσ_87.2.2.2.2
                    clear hpσ_87
                    have fr_σ_87 := fr_σ_76.call ehpσ_87 rfl rfl
                    replace hF := q_biX hF dhpσ_87
                    have mv27_σ_87 : (σ_87.1 a 27).toInt = (σ_76.1 a 27).toInt := congrArg Int32.toInt (ahpσ_87 a 27 (q_cl9 _ _) (fun h => absurd h.2.2 (by decide)))
                    have mcσ_87 := m_cK hkσ_87 hI.1 ha (by decide)
                    have kwσ_87 : ∀ j, 0 ≤ j → (j < v1.toInt + 1 ∨ v1.toInt + 8 ≤ j) → m_c X σ_87 a j = m_c X σ a j := fun j h0 h1 => (mcσ_87 j).trans (kwσ_76 j h0 h1)
                    have smσ_87 : 0 ≤ (σ_87.1 a 15).toInt ∧ (σ_87.1 a 15).toInt ≤ (σ_87.1 a 16).toInt ∧ (σ_87.1 a 16).toInt ≤ (σ_87.1 a 9).toInt ∧ (σ_87.1 a 9).toInt ≤ 900 ∧ 0 ≤ (σ_87.1 a 14).toInt ∧ (σ_87.1 a 14).toInt ≤ 4 ∧ (σ_87.1 a 14).toInt ≤ 4 * ((σ_87.1 a 16).toInt - (σ_87.1 a 15).toInt) ∧ (σ_87.1 a 14).toInt ≤ 4 * ((σ_87.1 a 9).toInt - (σ_87.1 a 15).toInt) ∧ 0 ≤ (σ_87.1 a 12).toInt ∧ (σ_87.1 a 9).toInt = (σ.1 a 9).toInt ∧ (σ.1 a 15).toInt ≤ (σ_87.1 a 15).toInt ∧ (σ.1 a 12).toInt ≤ (σ_87.1 a 12).toInt := (by first | exact sm_tr smσ_76 bhpσ_87 | exact sm_tr smσ_76 chpσ_87 | omega)
                    have nsσ_87 : (σ_87.1 a 27).toInt = (σ.1 a 27).toInt := (by first | (clear hs hw hc2 bhpσ_2 chpσ_2 j15 chpσ_5 dhpσ_5 ehpσ_5 iz_6 t5σ_7 t6σ_7 t1σ_8 t6σ_8 if_9 c_10 c_11 iz_12 if_13 c_14 kc_16 t6σ_15 t1σ_15 kc_17 ahpσ_19 bhpσ_19 chpσ_19 c_20 kc_36 ahpσ_38 bhpσ_38 chpσ_38 c_39 kc_55 ahpσ_57 bhpσ_57 chpσ_57 c_58 kc_74 ahpσ_76 chpσ_76 dhpσ_76 ehpσ_76 t6σ_76 t1σ_76 iz_77 c_78 kc_84 kc_85 ahpσ_87 bhpσ_87 chpσ_87 dhpσ_87 ehpσ_87 smσ_87; omega) | omega)
                    have t5σ_87 : 0 ≤ r_1.toInt + (σ_87.1 a 12).toInt := (by first | (clear hs hw hc2 bhpσ_2 chpσ_2 j15 chpσ_5 dhpσ_5 ehpσ_5 iz_6 t5σ_7 t1σ_8 if_9 c_10 c_11 iz_12 if_13 c_14 kc_16 t1σ_15 kc_17 ahpσ_19 bhpσ_19 chpσ_19 c_20 kc_36 ahpσ_38 bhpσ_38 chpσ_38 c_39 kc_55 ahpσ_57 bhpσ_57 chpσ_57 c_58 kc_74 ahpσ_76 chpσ_76 dhpσ_76 ehpσ_76 t1σ_76 iz_77 kc_84 kc_85 ahpσ_87 chpσ_87 dhpσ_87 ehpσ_87 mv27_σ_87 smσ_87 nsσ_87; omega) | omega)
                    have t6σ_87 : m_c X σ_87 a (v1.toInt + 6) = r_1.toInt := (mcσ_87 _).trans t6σ_76
                    have t1σ_87 : m_t1 (m_c X σ_87 a) v1.toInt := m_t1.k t1σ_76 (mcσ_87 _) (mcσ_87 _)
                    clear mv27_σ_87 smσ_76 nsσ_76 t5σ_76 bhpσ_87
                    refine q_iastN E hI (q_tk (k' := 34) hI ha rfl (Nat.succ_ne_zero _)) ⟨by decide, rfl⟩ (by first | (clear hs hc2 bhpσ_2 chpσ_2 j15 chpσ_5 dhpσ_5 ehpσ_5 t5σ_7 t6σ_7 t1σ_8 t6σ_8 if_9 c_10 c_11 if_13 c_14 kc_16 t6σ_15 t1σ_15 kc_17 ahpσ_19 bhpσ_19 chpσ_19 c_20 kc_36 ahpσ_38 bhpσ_38 chpσ_38 c_39 kc_55 ahpσ_57 bhpσ_57 chpσ_57 c_58 kc_74 ahpσ_76 chpσ_76 dhpσ_76 ehpσ_76 t6σ_76 t1σ_76 c_78 kc_84 kc_85 ahpσ_87 chpσ_87 dhpσ_87 ehpσ_87 smσ_87 nsσ_87 t5σ_87 t6σ_87 t1σ_87; omega) | omega) (by rw [q_lnk (v := 4650) hI (q_tk (k' := 34) hI ha rfl (Nat.succ_ne_zero _)) rfl (by decide)]; omega) (show 1 < 2 by decide) (q_inU rfl) dX12_readTest_149 (fun H locs σ_88 hσ_88 hI => ?_)
                    replace hF := q_letX hF hσ_88
                    have fr_σ_88 := fr_σ_87.si hσ_88 (q_tk (k' := 34) hI ha rfl (Nat.succ_ne_zero _)) rfl
                    have mv9_σ_88 : (σ_88.1 a 9).toInt = (σ_87.1 a 9).toInt := congrArg Int32.toInt (q_rdn hσ_88 (Or.inl (m_ne ha (q_tk (k' := 34) hI ha rfl (Nat.succ_ne_zero _)) (by decide))))
                    have mv12_σ_88 : (σ_88.1 a 12).toInt = (σ_87.1 a 12).toInt := congrArg Int32.toInt (q_rdn hσ_88 (Or.inl (m_ne ha (q_tk (k' := 34) hI ha rfl (Nat.succ_ne_zero _)) (by decide))))
                    have mv14_σ_88 : (σ_88.1 a 14).toInt = (σ_87.1 a 14).toInt := congrArg Int32.toInt (q_rdn hσ_88 (Or.inl (m_ne ha (q_tk (k' := 34) hI ha rfl (Nat.succ_ne_zero _)) (by decide))))
                    have mv15_σ_88 : (σ_88.1 a 15).toInt = (σ_87.1 a 15).toInt := congrArg Int32.toInt (q_rdn hσ_88 (Or.inl (m_ne ha (q_tk (k' := 34) hI ha rfl (Nat.succ_ne_zero _)) (by decide))))
                    have mv16_σ_88 : (σ_88.1 a 16).toInt = (σ_87.1 a 16).toInt := congrArg Int32.toInt (q_rdn hσ_88 (Or.inl (m_ne ha (q_tk (k' := 34) hI ha rfl (Nat.succ_ne_zero _)) (by decide))))
                    have mv27_σ_88 : (σ_88.1 a 27).toInt = (σ_87.1 a 27).toInt := congrArg Int32.toInt (q_rdn hσ_88 (Or.inl (m_ne ha (q_tk (k' := 34) hI ha rfl (Nat.succ_ne_zero _)) (by decide))))
                    have mcσ_88 := m_wr (v := r_86) (A := (v1.toInt + 2)) hσ_88 iz_77 (by first | (clear hs hc2 bhpσ_2 chpσ_2 j15 chpσ_5 dhpσ_5 ehpσ_5 t5σ_7 t6σ_7 t1σ_8 t6σ_8 if_9 c_10 c_11 if_13 c_14 kc_16 t6σ_15 t1σ_15 kc_17 ahpσ_19 bhpσ_19 chpσ_19 c_20 kc_36 ahpσ_38 bhpσ_38 chpσ_38 c_39 kc_55 ahpσ_57 bhpσ_57 chpσ_57 c_58 kc_74 ahpσ_76 chpσ_76 dhpσ_76 ehpσ_76 t6σ_76 t1σ_76 c_78 kc_84 kc_85 ahpσ_87 chpσ_87 dhpσ_87 ehpσ_87 smσ_87 nsσ_87 t5σ_87 t6σ_87 t1σ_87 mv9_σ_88 mv12_σ_88 mv14_σ_88 mv15_σ_88 mv16_σ_88 mv27_σ_88; omega) | omega)
                    have kwσ_88 : ∀ j, 0 ≤ j → (j < v1.toInt + 1 ∨ v1.toInt + 8 ≤ j) → m_c X σ_88 a j = m_c X σ a j := fun j h0 h1 => by rw [mcσ_88 j h0, if_neg (by first | (clear hs hw hc2 bhpσ_2 chpσ_2 j15 chpσ_5 dhpσ_5 ehpσ_5 t5σ_7 t6σ_7 t1σ_8 t6σ_8 if_9 c_10 c_11 if_13 c_14 kc_16 t6σ_15 t1σ_15 kc_17 ahpσ_19 bhpσ_19 chpσ_19 c_20 kc_36 ahpσ_38 bhpσ_38 chpσ_38 c_39 kc_55 ahpσ_57 bhpσ_57 chpσ_57 c_58 kc_74 ahpσ_76 chpσ_76 dhpσ_76 ehpσ_76 t6σ_76 t1σ_76 c_78 kc_84 kc_85 ahpσ_87 chpσ_87 dhpσ_87 ehpσ_87 smσ_87 nsσ_87 t5σ_87 t6σ_87 t1σ_87 mv9_σ_88 mv12_σ_88 mv14_σ_88 mv15_σ_88 mv16_σ_88 mv27_σ_88; omega) | omega)]; exact kwσ_87 j h0 h1
                    have smσ_88 : 0 ≤ (σ_88.1 a 15).toInt ∧ (σ_88.1 a 15).toInt ≤ (σ_88.1 a 16).toInt ∧ (σ_88.1 a 16).toInt ≤ (σ_88.1 a 9).toInt ∧ (σ_88.1 a 9).toInt ≤ 900 ∧ 0 ≤ (σ_88.1 a 14).toInt ∧ (σ_88.1 a 14).toInt ≤ 4 ∧ (σ_88.1 a 14).toInt ≤ 4 * ((σ_88.1 a 16).toInt - (σ_88.1 a 15).toInt) ∧ (σ_88.1 a 14).toInt ≤ 4 * ((σ_88.1 a 9).toInt - (σ_88.1 a 15).toInt) ∧ 0 ≤ (σ_88.1 a 12).toInt ∧ (σ_88.1 a 9).toInt = (σ.1 a 9).toInt ∧ (σ.1 a 15).toInt ≤ (σ_88.1 a 15).toInt ∧ (σ.1 a 12).toInt ≤ (σ_88.1 a 12).toInt := (by first | (rw [mv12_σ_88, mv14_σ_88, mv15_σ_88, mv16_σ_88, mv9_σ_88]; exact smσ_87) | omega)
                    have nsσ_88 : (σ_88.1 a 27).toInt = (σ.1 a 27).toInt := (by first | (clear hs hw hc2 bhpσ_2 chpσ_2 j15 chpσ_5 dhpσ_5 ehpσ_5 iz_6 t5σ_7 t6σ_7 t1σ_8 t6σ_8 if_9 c_10 c_11 iz_12 if_13 c_14 kc_16 t6σ_15 t1σ_15 kc_17 ahpσ_19 bhpσ_19 chpσ_19 c_20 kc_36 ahpσ_38 bhpσ_38 chpσ_38 c_39 kc_55 ahpσ_57 bhpσ_57 chpσ_57 c_58 kc_74 ahpσ_76 chpσ_76 dhpσ_76 ehpσ_76 t6σ_76 t1σ_76 iz_77 c_78 kc_84 kc_85 ahpσ_87 chpσ_87 dhpσ_87 ehpσ_87 smσ_87 t5σ_87 t6σ_87 t1σ_87 mv9_σ_88 mv12_σ_88 mv14_σ_88 mv15_σ_88 mv16_σ_88 smσ_88; omega) | omega)
                    have t5σ_88 : 0 ≤ r_1.toInt + (σ_88.1 a 12).toInt := (by first | (clear hs hw hc2 bhpσ_2 chpσ_2 j15 chpσ_5 dhpσ_5 ehpσ_5 iz_6 t5σ_7 t1σ_8 if_9 c_10 c_11 iz_12 if_13 c_14 kc_16 t1σ_15 kc_17 ahpσ_19 bhpσ_19 chpσ_19 c_20 kc_36 ahpσ_38 bhpσ_38 chpσ_38 c_39 kc_55 ahpσ_57 bhpσ_57 chpσ_57 c_58 kc_74 ahpσ_76 chpσ_76 dhpσ_76 ehpσ_76 t1σ_76 iz_77 kc_84 kc_85 ahpσ_87 chpσ_87 dhpσ_87 ehpσ_87 nsσ_87 t5σ_87 t6σ_87 t1σ_87 mv9_σ_88 mv14_σ_88 mv15_σ_88 mv16_σ_88 mv27_σ_88 smσ_88 nsσ_88; omega) | omega)
                    have t6σ_88 : m_c X σ_88 a (v1.toInt + 6) = r_1.toInt := (by rw [mcσ_88 (v1.toInt + 6) (by first | (clear hs hc2 bhpσ_2 chpσ_2 j15 chpσ_5 dhpσ_5 ehpσ_5 t5σ_7 t6σ_7 t1σ_8 t6σ_8 if_9 c_10 c_11 if_13 c_14 kc_16 t6σ_15 t1σ_15 kc_17 ahpσ_19 bhpσ_19 chpσ_19 c_20 kc_36 ahpσ_38 bhpσ_38 chpσ_38 c_39 kc_55 ahpσ_57 bhpσ_57 chpσ_57 c_58 kc_74 ahpσ_76 chpσ_76 dhpσ_76 ehpσ_76 t6σ_76 t1σ_76 c_78 kc_84 kc_85 ahpσ_87 chpσ_87 dhpσ_87 ehpσ_87 smσ_87 nsσ_87 t5σ_87 t6σ_87 t1σ_87 mv9_σ_88 mv12_σ_88 mv14_σ_88 mv15_σ_88 mv16_σ_88 mv27_σ_88 smσ_88 nsσ_88 t5σ_88; omega) | omega), if_neg (by first | (clear hs hw hc2 bhpσ_2 chpσ_2 j15 chpσ_5 dhpσ_5 ehpσ_5 iz_6 t5σ_7 t6σ_7 t1σ_8 t6σ_8 if_9 c_10 c_11 iz_12 if_13 c_14 kc_16 t6σ_15 t1σ_15 kc_17 ahpσ_19 bhpσ_19 chpσ_19 c_20 kc_36 ahpσ_38 bhpσ_38 chpσ_38 c_39 kc_55 ahpσ_57 bhpσ_57 chpσ_57 c_58 kc_74 ahpσ_76 chpσ_76 dhpσ_76 ehpσ_76 t6σ_76 t1σ_76 iz_77 c_78 kc_84 kc_85 ahpσ_87 chpσ_87 dhpσ_87 ehpσ_87 smσ_87 nsσ_87 t5σ_87 t6σ_87 t1σ_87 mv9_σ_88 mv12_σ_88 mv14_σ_88 mv15_σ_88 mv16_σ_88 mv27_σ_88 smσ_88 nsσ_88 t5σ_88; omega) | omega)]; exact t6σ_87)
                    have t1σ_88 : m_t1 (m_c X σ_88 a) v1.toInt := m_t1.k t1σ_87 (by rw [mcσ_88 (v1.toInt + 6) (by first | (clear hs hc2 bhpσ_2 chpσ_2 j15 chpσ_5 dhpσ_5 ehpσ_5 t5σ_7 t6σ_7 t1σ_8 t6σ_8 if_9 c_10 c_11 if_13 c_14 kc_16 t6σ_15 t1σ_15 kc_17 ahpσ_19 bhpσ_19 chpσ_19 c_20 kc_36 ahpσ_38 bhpσ_38 chpσ_38 c_39 kc_55 ahpσ_57 bhpσ_57 chpσ_57 c_58 kc_74 ahpσ_76 chpσ_76 dhpσ_76 ehpσ_76 t6σ_76 t1σ_76 c_78 kc_84 kc_85 ahpσ_87 chpσ_87 dhpσ_87 ehpσ_87 smσ_87 nsσ_87 t5σ_87 t6σ_87 t1σ_87 mv9_σ_88 mv12_σ_88 mv14_σ_88 mv15_σ_88 mv16_σ_88 mv27_σ_88 smσ_88 nsσ_88 t5σ_88 t6σ_88; omega) | omega), if_neg (by first | (clear hs hw hc2 bhpσ_2 chpσ_2 j15 chpσ_5 dhpσ_5 ehpσ_5 iz_6 t5σ_7 t6σ_7 t1σ_8 t6σ_8 if_9 c_10 c_11 iz_12 if_13 c_14 kc_16 t6σ_15 t1σ_15 kc_17 ahpσ_19 bhpσ_19 chpσ_19 c_20 kc_36 ahpσ_38 bhpσ_38 chpσ_38 c_39 kc_55 ahpσ_57 bhpσ_57 chpσ_57 c_58 kc_74 ahpσ_76 chpσ_76 dhpσ_76 ehpσ_76 t6σ_76 t1σ_76 iz_77 c_78 kc_84 kc_85 ahpσ_87 chpσ_87 dhpσ_87 ehpσ_87 smσ_87 nsσ_87 t5σ_87 t6σ_87 t1σ_87 mv9_σ_88 mv12_σ_88 mv14_σ_88 mv15_σ_88 mv16_σ_88 mv27_σ_88 smσ_88 nsσ_88 t5σ_88 t6σ_88; omega) | omega)]) (by rw [mcσ_88 (v1.toInt + 1) (by first | (clear hs hc2 bhpσ_2 chpσ_2 j15 chpσ_5 dhpσ_5 ehpσ_5 t5σ_7 t6σ_7 t1σ_8 t6σ_8 if_9 c_10 c_11 if_13 c_14 kc_16 t6σ_15 t1σ_15 kc_17 ahpσ_19 bhpσ_19 chpσ_19 c_20 kc_36 ahpσ_38 bhpσ_38 chpσ_38 c_39 kc_55 ahpσ_57 bhpσ_57 chpσ_57 c_58 kc_74 ahpσ_76 chpσ_76 dhpσ_76 ehpσ_76 t6σ_76 t1σ_76 c_78 kc_84 kc_85 ahpσ_87 chpσ_87 dhpσ_87 ehpσ_87 smσ_87 nsσ_87 t5σ_87 t6σ_87 t1σ_87 mv9_σ_88 mv12_σ_88 mv14_σ_88 mv15_σ_88 mv16_σ_88 mv27_σ_88 smσ_88 nsσ_88 t5σ_88 t6σ_88; omega) | omega), if_neg (by first | (clear hs hw hc2 bhpσ_2 chpσ_2 j15 chpσ_5 dhpσ_5 ehpσ_5 iz_6 t5σ_7 t6σ_7 t1σ_8 t6σ_8 if_9 c_10 c_11 iz_12 if_13 c_14 kc_16 t6σ_15 t1σ_15 kc_17 ahpσ_19 bhpσ_19 chpσ_19 c_20 kc_36 ahpσ_38 bhpσ_38 chpσ_38 c_39 kc_55 ahpσ_57 bhpσ_57 chpσ_57 c_58 kc_74 ahpσ_76 chpσ_76 dhpσ_76 ehpσ_76 t6σ_76 t1σ_76 iz_77 c_78 kc_84 kc_85 ahpσ_87 chpσ_87 dhpσ_87 ehpσ_87 smσ_87 nsσ_87 t5σ_87 t6σ_87 t1σ_87 mv9_σ_88 mv12_σ_88 mv14_σ_88 mv15_σ_88 mv16_σ_88 mv27_σ_88 smσ_88 nsσ_88 t5σ_88 t6σ_88; omega) | omega)])
                    clear mv9_σ_88 mv12_σ_88 mv14_σ_88 mv15_σ_88 mv16_σ_88 mv27_σ_88 smσ_87 nsσ_87 t5σ_87
                    rewrite [hQQ]; exact q_retv E hr hlk hI ⟨kwσ_88, (by first | exact smσ_88 | omega), nsσ_88, (fun e => ⟨by rw [t6σ_88]; omega, t1σ_88⟩), (hF.trans hout), fr_σ_88⟩ dX12_readTest_150
          · skip
            replace hF := q_ifp hF c_14
            refine lv_aload_n hx hb dX12_readTest_79 rfl (lv_at hl 0 rfl) ?_
            refine gs_X12_129_12 E hI ha dX12_readTest_80 ?_
            refine lv_topi (fun f_89 ef_89 => ?_)
            replace hF := q_letX hF ef_89
            have if_89 : f_89.toInt = (σ_8.1 a 17).toInt := congrArg Int32.toInt ef_89
            refine lv_goto (tgt := 87) hx hb dX12_readTest_83 (by decide) ?_
            refine q_iastN E hI (q_tk (k' := 34) hI ha rfl (Nat.succ_ne_zero _)) ⟨by decide, rfl⟩ (by first | (clear hs hc2 bhpσ_2 chpσ_2 j15 chpσ_5 dhpσ_5 ehpσ_5 t5σ_7 t6σ_7 t1σ_8 t6σ_8 if_9 c_10 c_11 if_13 c_14 if_89; omega) | omega) (by rw [q_lnk (v := 4650) hI (q_tk (k' := 34) hI ha rfl (Nat.succ_ne_zero _)) rfl (by decide)]; omega) (show 1 < 2 by decide) (q_inU rfl) dX12_readTest_87 (fun H locs σ_90 hσ_90 hI => ?_)
            replace hF := q_letX hF hσ_90
            have fr_σ_90 := fr_σ_8.si hσ_90 (q_tk (k' := 34) hI ha rfl (Nat.succ_ne_zero _)) rfl
            have mv9_σ_90 : (σ_90.1 a 9).toInt = (σ_8.1 a 9).toInt := congrArg Int32.toInt (q_rdn hσ_90 (Or.inl (m_ne ha (q_tk (k' := 34) hI ha rfl (Nat.succ_ne_zero _)) (by decide))))
            have mv12_σ_90 : (σ_90.1 a 12).toInt = (σ_8.1 a 12).toInt := congrArg Int32.toInt (q_rdn hσ_90 (Or.inl (m_ne ha (q_tk (k' := 34) hI ha rfl (Nat.succ_ne_zero _)) (by decide))))
            have mv14_σ_90 : (σ_90.1 a 14).toInt = (σ_8.1 a 14).toInt := congrArg Int32.toInt (q_rdn hσ_90 (Or.inl (m_ne ha (q_tk (k' := 34) hI ha rfl (Nat.succ_ne_zero _)) (by decide))))
            have mv15_σ_90 : (σ_90.1 a 15).toInt = (σ_8.1 a 15).toInt := congrArg Int32.toInt (q_rdn hσ_90 (Or.inl (m_ne ha (q_tk (k' := 34) hI ha rfl (Nat.succ_ne_zero _)) (by decide))))
            have mv16_σ_90 : (σ_90.1 a 16).toInt = (σ_8.1 a 16).toInt := congrArg Int32.toInt (q_rdn hσ_90 (Or.inl (m_ne ha (q_tk (k' := 34) hI ha rfl (Nat.succ_ne_zero _)) (by decide))))
            have mv27_σ_90 : (σ_90.1 a 27).toInt = (σ_8.1 a 27).toInt := congrArg Int32.toInt (q_rdn hσ_90 (Or.inl (m_ne ha (q_tk (k' := 34) hI ha rfl (Nat.succ_ne_zero _)) (by decide))))
            have mcσ_90 := m_wr (v := f_89) (A := (v1.toInt + 7)) hσ_90 iz_12 (by first | (clear hs hc2 bhpσ_2 chpσ_2 j15 chpσ_5 dhpσ_5 ehpσ_5 t5σ_7 t6σ_7 t1σ_8 t6σ_8 if_9 c_10 c_11 if_13 c_14 if_89 mv9_σ_90 mv12_σ_90 mv14_σ_90 mv15_σ_90 mv16_σ_90 mv27_σ_90; omega) | omega)
            have kwσ_90 : ∀ j, 0 ≤ j → (j < v1.toInt + 1 ∨ v1.toInt + 8 ≤ j) → m_c X σ_90 a j = m_c X σ a j := fun j h0 h1 => by rw [mcσ_90 j h0, if_neg (by first | (clear hs hw hc2 bhpσ_2 chpσ_2 j15 chpσ_5 dhpσ_5 ehpσ_5 t5σ_7 t6σ_7 t1σ_8 t6σ_8 if_9 c_10 c_11 if_13 c_14 if_89 mv9_σ_90 mv12_σ_90 mv14_σ_90 mv15_σ_90 mv16_σ_90 mv27_σ_90; omega) | omega)]; exact kwσ_8 j h0 h1
            have smσ_90 : 0 ≤ (σ_90.1 a 15).toInt ∧ (σ_90.1 a 15).toInt ≤ (σ_90.1 a 16).toInt ∧ (σ_90.1 a 16).toInt ≤ (σ_90.1 a 9).toInt ∧ (σ_90.1 a 9).toInt ≤ 900 ∧ 0 ≤ (σ_90.1 a 14).toInt ∧ (σ_90.1 a 14).toInt ≤ 4 ∧ (σ_90.1 a 14).toInt ≤ 4 * ((σ_90.1 a 16).toInt - (σ_90.1 a 15).toInt) ∧ (σ_90.1 a 14).toInt ≤ 4 * ((σ_90.1 a 9).toInt - (σ_90.1 a 15).toInt) ∧ 0 ≤ (σ_90.1 a 12).toInt ∧ (σ_90.1 a 9).toInt = (σ.1 a 9).toInt ∧ (σ.1 a 15).toInt ≤ (σ_90.1 a 15).toInt ∧ (σ.1 a 12).toInt ≤ (σ_90.1 a 12).toInt := (by first | (rw [mv12_σ_90, mv14_σ_90, mv15_σ_90, mv16_σ_90, mv9_σ_90]; exact smσ_8) | omega)
            have nsσ_90 : (σ_90.1 a 27).toInt = (σ.1 a 27).toInt := (by first | (clear hs hw hc2 bhpσ_2 chpσ_2 j15 chpσ_5 dhpσ_5 ehpσ_5 iz_6 t5σ_7 t6σ_7 t1σ_8 t6σ_8 if_9 c_10 c_11 iz_12 if_13 c_14 if_89 mv9_σ_90 mv12_σ_90 mv14_σ_90 mv15_σ_90 mv16_σ_90 smσ_90; omega) | omega)
            have t5σ_90 : 0 ≤ r_1.toInt + (σ_90.1 a 12).toInt := (by first | (clear hs hw hc2 bhpσ_2 chpσ_2 j15 chpσ_5 dhpσ_5 ehpσ_5 iz_6 t5σ_7 t1σ_8 c_11 iz_12 if_13 c_14 if_89 mv9_σ_90 mv14_σ_90 mv15_σ_90 mv16_σ_90 mv27_σ_90 smσ_90 nsσ_90; omega) | omega)
            have t6σ_90 : m_c X σ_90 a (v1.toInt + 6) = r_1.toInt := (by rw [mcσ_90 (v1.toInt + 6) (by first | (clear hs hc2 bhpσ_2 chpσ_2 j15 chpσ_5 dhpσ_5 ehpσ_5 t5σ_7 t6σ_7 t1σ_8 t6σ_8 if_9 c_10 c_11 if_13 c_14 if_89 mv9_σ_90 mv12_σ_90 mv14_σ_90 mv15_σ_90 mv16_σ_90 mv27_σ_90 smσ_90 nsσ_90 t5σ_90; omega) | omega), if_neg (by first | (clear hs hw hc2 bhpσ_2 chpσ_2 j15 chpσ_5 dhpσ_5 ehpσ_5 iz_6 t5σ_7 t6σ_7 t1σ_8 t6σ_8 if_9 c_10 c_11 iz_12 if_13 c_14 if_89 mv9_σ_90 mv12_σ_90 mv14_σ_90 mv15_σ_90 mv16_σ_90 mv27_σ_90 smσ_90 nsσ_90 t5σ_90; omega) | omega)]; exact t6σ_8)
            have t1σ_90 : m_t1 (m_c X σ_90 a) v1.toInt := m_t1.k t1σ_8 (by rw [mcσ_90 (v1.toInt + 6) (by first | (clear hs hc2 bhpσ_2 chpσ_2 j15 chpσ_5 dhpσ_5 ehpσ_5 t5σ_7 t6σ_7 t1σ_8 t6σ_8 if_9 c_10 c_11 if_13 c_14 if_89 mv9_σ_90 mv12_σ_90 mv14_σ_90 mv15_σ_90 mv16_σ_90 mv27_σ_90 smσ_90 nsσ_90 t5σ_90 t6σ_90; omega) | omega), if_neg (by first | (clear hs hw hc2 bhpσ_2 chpσ_2 j15 chpσ_5 dhpσ_5 ehpσ_5 iz_6 t5σ_7 t6σ_7 t1σ_8 t6σ_8 if_9 c_10 c_11 iz_12 if_13 c_14 if_89 mv9_σ_90 mv12_σ_90 mv14_σ_90 mv15_σ_90 mv16_σ_90 mv27_σ_90 smσ_90 nsσ_90 t5σ_90 t6σ_90; omega) | omega)]) (by rw [mcσ_90 (v1.toInt + 1) (by first | (clear hs hc2 bhpσ_2 chpσ_2 j15 chpσ_5 dhpσ_5 ehpσ_5 t5σ_7 t6σ_7 t1σ_8 t6σ_8 if_9 c_10 c_11 if_13 c_14 if_89 mv9_σ_90 mv12_σ_90 mv14_σ_90 mv15_σ_90 mv16_σ_90 mv27_σ_90 smσ_90 nsσ_90 t5σ_90 t6σ_90; omega) | omega), if_neg (by first | (clear hs hw hc2 bhpσ_2 chpσ_2 j15 chpσ_5 dhpσ_5 ehpσ_5 iz_6 t5σ_7 t6σ_7 t1σ_8 t6σ_8 if_9 c_10 c_11 iz_12 if_13 c_14 if_89 mv9_σ_90 mv12_σ_90 mv14_σ_90 mv15_σ_90 mv16_σ_90 mv27_σ_90 smσ_90 nsσ_90 t5σ_90 t6σ_90; omega) | omega)])
            clear mv9_σ_90 mv12_σ_90 mv14_σ_90 mv15_σ_90 mv16_σ_90 mv27_σ_90 smσ_8 nsσ_8 t5σ_8
            refine lv_aload_n hx hb dX12_readTest_88 rfl (lv_at hl 0 rfl) ?_
            refine lv_aload_n hx hb dX12_readTest_89 rfl (lv_at hl 0 rfl) ?_
            refine lv_bipush (v := 60) hx hb dX12_readTest_90 zkb_60 ?_
            have kc_91 : (60 : Int32).toInt = 60 := zt_60
            refine q_ci (q_rV11_1 (rest := [.ref a]) E (hml.trans hl.1.symm) hI (c_X12_isSign l X σ_90 a (60 : Int32) ha) kv_X12_243 ha ⟨Nat.le_of_ble_eq_true rfl, Nat.le_of_ble_eq_true rfl⟩ (Nat.le_of_ble_eq_true rfl) dX12_readTest_92) hI (Nat.le_of_ble_eq_true rfl) (fun r_92 σ_93 H locs hpσ_93 hkσ_93 hI => ?_)
            have ahpσ_93 := hpσ_93.1
            have bhpσ_93 := hpσ_93.2.1
            have chpσ_93 := hpσ_93.2.2
            clear hpσ_93
            replace hI := q_Irw ahpσ_93 hI
            replace hF := q_letX hF chpσ_93
            refine q_if_ne (A := r_92.toInt) E rfl (tgt := 116) dX12_readTest_95 (by decide) (fun c_94 => ?_) (fun c_94 => ?_)
            · skip
              replace hF := q_ifn hF c_94
              replace c_94 := q_ifOne bhpσ_93 c_94
              refine lv_iconst (v := 1) hx hb dX12_readTest_116 zki_1 ?_
              refine lv_goto (tgt := 121) hx hb dX12_readTest_117 (by decide) ?_
              have kc_95 : (1 : Int32).toInt = 1 := zt_1
              refine q_cv (q_rV11_1 (rest := []) E (hml.trans hl.1.symm) hI (c_X12_must l X σ_90 a (1 : Int32) ha (by first | exact sm_9 smσ_90 | exact hs | omega) (by first | (clear hs hw hc2 bhpσ_2 chpσ_2 j15 chpσ_5 dhpσ_5 ehpσ_5 iz_6 t5σ_7 t6σ_7 t1σ_8 t6σ_8 if_9 c_10 c_11 iz_12 if_13 c_14 if_89 smσ_90 nsσ_90 t5σ_90 t6σ_90 t1σ_90 kc_91 ahpσ_93 bhpσ_93 chpσ_93 c_94; omega) | omega)) kv_X12_216 ha ⟨Nat.le_of_ble_eq_true rfl, Nat.le_of_ble_eq_true rfl⟩ (Nat.le_of_ble_eq_true rfl) dX12_readTest_121) hI (Nat.le_of_ble_eq_true rfl) (fun σ_97 H locs hpσ_97 hkσ_97 hI => ?_)
              have ahpσ_97 := hpσ_97.1
              have bhpσ_97 := hpσ_97.2.1
              have chpσ_97 := hpσ_97.2.2.1
              have dhpσ_97 := hpσ_97.2.2.2.1
              have ehpσ_97 := hpσ_97.2.2.2.2
              clear hpσ_97
              have fr_σ_97 := fr_σ_90.call ehpσ_97 rfl rfl
              replace hF := q_letX hF dhpσ_97
              have mv27_σ_97 : (σ_97.1 a 27).toInt = (σ_90.1 a 27).toInt := congrArg Int32.toInt (ahpσ_97 a 27 (q_cl9 _ _) (fun h => absurd h.2.2 (by decide)))
              have mcσ_97 := m_cK hkσ_97 hI.1 ha (by decide)
              have kwσ_97 : ∀ j, 0 ≤ j → (j < v1.toInt + 1 ∨ v1.toInt + 8 ≤ j) → m_c X σ_97 a j = m_c X σ a j := fun j h0 h1 => (mcσ_97 j).trans (kwσ_90 j h0 h1)
              have smσ_97 : 0 ≤ (σ_97.1 a 15).toInt ∧ (σ_97.1 a 15).toInt ≤ (σ_97.1 a 16).toInt ∧ (σ_97.1 a 16).toInt ≤ (σ_97.1 a 9).toInt ∧ (σ_97.1 a 9).toInt ≤ 900 ∧ 0 ≤ (σ_97.1 a 14).toInt ∧ (σ_97.1 a 14).toInt ≤ 4 ∧ (σ_97.1 a 14).toInt ≤ 4 * ((σ_97.1 a 16).toInt - (σ_97.1 a 15).toInt) ∧ (σ_97.1 a 14).toInt ≤ 4 * ((σ_97.1 a 9).toInt - (σ_97.1 a 15).toInt) ∧ 0 ≤ (σ_97.1 a 12).toInt ∧ (σ_97.1 a 9).toInt = (σ.1 a 9).toInt ∧ (σ.1 a 15).toInt ≤ (σ_97.1 a 15).toInt ∧ (σ.1 a 12).toInt ≤ (σ_97.1 a 12).toInt := (by first | exact sm_tr smσ_90 bhpσ_97 | exact sm_tr smσ_90 chpσ_97 | omega)
              have nsσ_97 : (σ_97.1 a 27).toInt = (σ.1 a 27).toInt := (by first | (clear hs hw hc2 bhpσ_2 chpσ_2 j15 chpσ_5 dhpσ_5 ehpσ_5 iz_6 t5σ_7 t6σ_7 t1σ_8 t6σ_8 if_9 c_10 c_11 iz_12 if_13 c_14 if_89 smσ_90 t5σ_90 t6σ_90 t1σ_90 kc_91 ahpσ_93 bhpσ_93 chpσ_93 c_94 kc_95 ahpσ_97 bhpσ_97 chpσ_97 dhpσ_97 ehpσ_97 smσ_97; omega) | omega)
              have t5σ_97 : 0 ≤ r_1.toInt + (σ_97.1 a 12).toInt := (by first | (clear hs hw hc2 bhpσ_2 chpσ_2 j15 chpσ_5 dhpσ_5 ehpσ_5 iz_6 t5σ_7 t1σ_8 if_9 c_10 c_11 iz_12 if_13 c_14 if_89 smσ_90 nsσ_90 t1σ_90 kc_91 ahpσ_93 bhpσ_93 chpσ_93 c_94 kc_95 ahpσ_97 chpσ_97 dhpσ_97 ehpσ_97 mv27_σ_97 smσ_97 nsσ_97; omega) | omega)
              have t6σ_97 : m_c X σ_97 a (v1.toInt + 6) = r_1.toInt := (mcσ_97 _).trans t6σ_90
              have t1σ_97 : m_t1 (m_c X σ_97 a) v1.toInt := m_t1.k t1σ_90 (mcσ_97 _) (mcσ_97 _)
              clear mv27_σ_97 smσ_90 nsσ_90 t5σ_90 bhpσ_97
              refine lv_aload_n hx hb dX12_readTest_124 rfl (lv_at hl 0 rfl) ?_
              refine gs_X12_35_12 E hI ha dX12_readTest_125 ?_
              refine lv_iload_n hx hb dX12_readTest_128 rfl (lv_at hl 1 rfl) ?_
              refine lv_iconst (v := 2) hx hb dX12_readTest_129 zki_2 ?_
              refine lv_iadd hx hb dX12_readTest_130 ?_
              refine lv_topi (fun z_98 ez_98 => ?_)
              replace hF := q_letX hF ez_98
              have iz_98 := q_addI (A := v1.toInt) (B := 2) ez_98 rfl (by decide) (by first | (clear hs hc2 bhpσ_2 chpσ_2 j15 chpσ_5 dhpσ_5 ehpσ_5 t5σ_7 t6σ_7 t1σ_8 t6σ_8 if_9 c_10 c_11 if_13 c_14 if_89 t6σ_90 t1σ_90 kc_91 ahpσ_93 bhpσ_93 chpσ_93 c_94 kc_95 ahpσ_97 chpσ_97 dhpσ_97 ehpσ_97 smσ_97 nsσ_97 t5σ_97 t6σ_97 t1σ_97; omega) | omega) (by first | (clear hs hc2 bhpσ_2 chpσ_2 j15 chpσ_5 dhpσ_5 ehpσ_5 t5σ_7 t6σ_7 t1σ_8 t6σ_8 if_9 c_10 c_11 if_13 c_14 if_89 t6σ_90 t1σ_90 kc_91 ahpσ_93 bhpσ_93 chpσ_93 c_94 kc_95 ahpσ_97 chpσ_97 dhpσ_97 ehpσ_97 smσ_97 nsσ_97 t5σ_97 t6σ_97 t1σ_97; omega) | omega)
              refine lv_aload_n hx hb dX12_readTest_131 rfl (lv_at hl 0 rfl) ?_
              refine lv_iconst (v := 0) hx hb dX12_readTest_132 zki_0 ?_
              refine lv_iload_n hx hb dX12_readTest_133 rfl (lv_at hl 2 rfl) ?_
              refine lv_iconst (v := 2) hx hb dX12_readTest_134 zki_2 ?_
              refine q_icmp_ne (A := r_1.toInt) (B := 2) E rfl (by decide) (tgt := 144) dX12_readTest_135 (by decide) (fun c_99 => ?_) (fun c_99 => ?_)
              · skip
                replace hF := q_ifn hF c_99
                refine lv_bipush (v := 80) hx hb dX12_readTest_144 zkb_80 ?_
                have kc_100 : (0 : Int32).toInt = 0 := zt_0
                have kc_101 : (80 : Int32).toInt = 80 := zt_80
                refine q_ci (q_rV11_2 (rest := [.int z_98, .ref (q_rf X a 20)]) E (hml.trans hl.1.symm) hI (c_X12_count l X σ_97 a (0 : Int32) (80 : Int32) ha (by first | exact sm_9 smσ_97 | exact hs | omega) (by first | (clear hs hw hc2 bhpσ_2 chpσ_2 j15 chpσ_5 dhpσ_5 ehpσ_5 iz_6 t5σ_7 t6σ_7 t1σ_8 t6σ_8 if_9 c_10 c_11 iz_12 if_13 c_14 if_89 t6σ_90 t1σ_90 kc_91 ahpσ_93 bhpσ_93 chpσ_93 c_94 kc_95 ahpσ_97 chpσ_97 dhpσ_97 ehpσ_97 smσ_97 nsσ_97 t5σ_97 t6σ_97 t1σ_97 iz_98 c_99; omega) | omega)) kv_X12_223 ha ⟨Nat.le_of_ble_eq_true rfl, Nat.le_of_ble_eq_true rfl⟩ (Nat.le_of_ble_eq_true rfl) dX12_readTest_146) hI (Nat.le_of_ble_eq_true rfl) (fun r_102 σ_103 H locs hpσ_103 hkσ_103 hI => ?_)
                have ahpσ_103 := hpσ_103.1
                have bhpσ_103 := hpσ_103.2.1
                have chpσ_103 := hpσ_103.2.2.1
                have dhpσ_103 := hpσ_103.2.2.2.1
                have ehpσ_103 := hpσ_103.2.2.2.2
                clear hpσ_103
                have fr_σ_103 := fr_σ_97.call ehpσ_103 rfl rfl
                replace hF := q_biX hF dhpσ_103
                have mv27_σ_103 : (σ_103.1 a 27).toInt = (σ_97.1 a 27).toInt := congrArg Int32.toInt (ahpσ_103 a 27 (q_cl9 _ _) (fun h => absurd h.2.2 (by decide)))
                have mcσ_103 := m_cK hkσ_103 hI.1 ha (by decide)
                have kwσ_103 : ∀ j, 0 ≤ j → (j < v1.toInt + 1 ∨ v1.toInt + 8 ≤ j) → m_c X σ_103 a j = m_c X σ a j := fun j h0 h1 => (mcσ_103 j).trans (kwσ_97 j h0 h1)
                have smσ_103 : 0 ≤ (σ_103.1 a 15).toInt ∧ (σ_103.1 a 15).toInt ≤ (σ_103.1 a 16).toInt ∧ (σ_103.1 a 16).toInt ≤ (σ_103.1 a 9).toInt ∧ (σ_103.1 a 9).toInt ≤ 900 ∧ 0 ≤ (σ_103.1 a 14).toInt ∧ (σ_103.1 a 14).toInt ≤ 4 ∧ (σ_103.1 a 14).toInt ≤ 4 * ((σ_103.1 a 16).toInt - (σ_103.1 a 15).toInt) ∧ (σ_103.1 a 14).toInt ≤ 4 * ((σ_103.1 a 9).toInt - (σ_103.1 a 15).toInt) ∧ 0 ≤ (σ_103.1 a 12).toInt ∧ (σ_103.1 a 9).toInt = (σ.1 a 9).toInt ∧ (σ.1 a 15).toInt ≤ (σ_103.1 a 15).toInt ∧ (σ.1 a 12).toInt ≤ (σ_103.1 a 12).toInt := (by first | exact sm_tr smσ_97 bhpσ_103 | exact sm_tr smσ_97 chpσ_103 | omega)
                have nsσ_103 : (σ_103.1 a 27).toInt = (σ.1 a 27).toInt := (by first | (clear hs hw hc2 bhpσ_2 chpσ_2 j15 chpσ_5 dhpσ_5 ehpσ_5 iz_6 t5σ_7 t6σ_7 t1σ_8 t6σ_8 if_9 c_10 c_11 iz_12 if_13 c_14 if_89 t6σ_90 t1σ_90 kc_91 ahpσ_93 bhpσ_93 chpσ_93 c_94 kc_95 ahpσ_97 chpσ_97 dhpσ_97 ehpσ_97 smσ_97 t5σ_97 t6σ_97 t1σ_97 iz_98 c_99 kc_100 kc_101 ahpσ_103 bhpσ_103 chpσ_103 dhpσ_103 ehpσ_103 smσ_103; omega) | omega)
                have t5σ_103 : 0 ≤ r_1.toInt + (σ_103.1 a 12).toInt := (by first | (clear hs hw hc2 bhpσ_2 chpσ_2 j15 chpσ_5 dhpσ_5 ehpσ_5 iz_6 t5σ_7 t1σ_8 if_9 c_10 c_11 iz_12 if_13 c_14 if_89 t1σ_90 kc_91 ahpσ_93 bhpσ_93 chpσ_93 c_94 kc_95 ahpσ_97 chpσ_97 dhpσ_97 ehpσ_97 smσ_97 nsσ_97 t1σ_97 iz_98 c_99 kc_100 kc_101 ahpσ_103 chpσ_103 dhpσ_103 ehpσ_103 mv27_σ_103 smσ_103 nsσ_103; omega) | omega)
                have t6σ_103 : m_c X σ_103 a (v1.toInt + 6) = r_1.toInt := (mcσ_103 _).trans t6σ_97
                have t1σ_103 : m_t1 (m_c X σ_103 a) v1.toInt := m_t1.k t1σ_97 (mcσ_103 _) (mcσ_103 _)
                clear mv27_σ_103 smσ_97 nsσ_97 t5σ_97 bhpσ_103
                refine q_iastN E hI (q_tk (k' := 34) hI ha rfl (Nat.succ_ne_zero _)) ⟨by decide, rfl⟩ (by first | (clear hs hc2 bhpσ_2 chpσ_2 j15 chpσ_5 dhpσ_5 ehpσ_5 t5σ_7 t6σ_7 t1σ_8 t6σ_8 if_9 c_10 c_11 if_13 c_14 if_89 t6σ_90 t1σ_90 kc_91 ahpσ_93 bhpσ_93 chpσ_93 c_94 kc_95 ahpσ_97 chpσ_97 dhpσ_97 ehpσ_97 t6σ_97 t1σ_97 c_99 kc_100 kc_101 ahpσ_103 chpσ_103 dhpσ_103 ehpσ_103 smσ_103 nsσ_103 t5σ_103 t6σ_103 t1σ_103; omega) | omega) (by rw [q_lnk (v := 4650) hI (q_tk (k' := 34) hI ha rfl (Nat.succ_ne_zero _)) rfl (by decide)]; omega) (show 1 < 2 by decide) (q_inU rfl) dX12_readTest_149 (fun H locs σ_104 hσ_104 hI => ?_)
                replace hF := q_letX hF hσ_104
                have fr_σ_104 := fr_σ_103.si hσ_104 (q_tk (k' := 34) hI ha rfl (Nat.succ_ne_zero _)) rfl
                have mv9_σ_104 : (σ_104.1 a 9).toInt = (σ_103.1 a 9).toInt := congrArg Int32.toInt (q_rdn hσ_104 (Or.inl (m_ne ha (q_tk (k' := 34) hI ha rfl (Nat.succ_ne_zero _)) (by decide))))
                have mv12_σ_104 : (σ_104.1 a 12).toInt = (σ_103.1 a 12).toInt := congrArg Int32.toInt (q_rdn hσ_104 (Or.inl (m_ne ha (q_tk (k' := 34) hI ha rfl (Nat.succ_ne_zero _)) (by decide))))
                have mv14_σ_104 : (σ_104.1 a 14).toInt = (σ_103.1 a 14).toInt := congrArg Int32.toInt (q_rdn hσ_104 (Or.inl (m_ne ha (q_tk (k' := 34) hI ha rfl (Nat.succ_ne_zero _)) (by decide))))
                have mv15_σ_104 : (σ_104.1 a 15).toInt = (σ_103.1 a 15).toInt := congrArg Int32.toInt (q_rdn hσ_104 (Or.inl (m_ne ha (q_tk (k' := 34) hI ha rfl (Nat.succ_ne_zero _)) (by decide))))
                have mv16_σ_104 : (σ_104.1 a 16).toInt = (σ_103.1 a 16).toInt := congrArg Int32.toInt (q_rdn hσ_104 (Or.inl (m_ne ha (q_tk (k' := 34) hI ha rfl (Nat.succ_ne_zero _)) (by decide))))
                have mv27_σ_104 : (σ_104.1 a 27).toInt = (σ_103.1 a 27).toInt := congrArg Int32.toInt (q_rdn hσ_104 (Or.inl (m_ne ha (q_tk (k' := 34) hI ha rfl (Nat.succ_ne_zero _)) (by decide))))
                have mcσ_104 := m_wr (v := r_102) (A := (v1.toInt + 2)) hσ_104 iz_98 (by first | (clear hs hc2 bhpσ_2 chpσ_2 j15 chpσ_5 dhpσ_5 ehpσ_5 t5σ_7 t6σ_7 t1σ_8 t6σ_8 if_9 c_10 c_11 if_13 c_14 if_89 t6σ_90 t1σ_90 kc_91 ahpσ_93 bhpσ_93 chpσ_93 c_94 kc_95 ahpσ_97 chpσ_97 dhpσ_97 ehpσ_97 t6σ_97 t1σ_97 c_99 kc_100 kc_101 ahpσ_103 chpσ_103 dhpσ_103 ehpσ_103 smσ_103 nsσ_103 t5σ_103 t6σ_103 t1σ_103 mv9_σ_104 mv12_σ_104 mv14_σ_104 mv15_σ_104 mv16_σ_104 mv27_σ_104; omega) | omega)
                have kwσ_104 : ∀ j, 0 ≤ j → (j < v1.toInt + 1 ∨ v1.toInt + 8 ≤ j) → m_c X σ_104 a j = m_c X σ a j := fun j h0 h1 => by rw [mcσ_104 j h0, if_neg (by first | (clear hs hw hc2 bhpσ_2 chpσ_2 j15 chpσ_5 dhpσ_5 ehpσ_5 t5σ_7 t6σ_7 t1σ_8 t6σ_8 if_9 c_10 c_11 if_13 c_14 if_89 t6σ_90 t1σ_90 kc_91 ahpσ_93 bhpσ_93 chpσ_93 c_94 kc_95 ahpσ_97 chpσ_97 dhpσ_97 ehpσ_97 t6σ_97 t1σ_97 c_99 kc_100 kc_101 ahpσ_103 chpσ_103 dhpσ_103 ehpσ_103 smσ_103 nsσ_103 t5σ_103 t6σ_103 t1σ_103 mv9_σ_104 mv12_σ_104 mv14_σ_104 mv15_σ_104 mv16_σ_104 mv27_σ_104; omega) | omega)]; exact kwσ_103 j h0 h1
                have smσ_104 : 0 ≤ (σ_104.1 a 15).toInt ∧ (σ_104.1 a 15).toInt ≤ (σ_104.1 a 16).toInt ∧ (σ_104.1 a 16).toInt ≤ (σ_104.1 a 9).toInt ∧ (σ_104.1 a 9).toInt ≤ 900 ∧ 0 ≤ (σ_104.1 a 14).toInt ∧ (σ_104.1 a 14).toInt ≤ 4 ∧ (σ_104.1 a 14).toInt ≤ 4 * ((σ_104.1 a 16).toInt - (σ_104.1 a 15).toInt) ∧ (σ_104.1 a 14).toInt ≤ 4 * ((σ_104.1 a 9).toInt - (σ_104.1 a 15).toInt) ∧ 0 ≤ (σ_104.1 a 12).toInt ∧ (σ_104.1 a 9).toInt = (σ.1 a 9).toInt ∧ (σ.1 a 15).toInt ≤ (σ_104.1 a 15).toInt ∧ (σ.1 a 12).toInt ≤ (σ_104.1 a 12).toInt := (by first | (rw [mv12_σ_104, mv14_σ_104, mv15_σ_104, mv16_σ_104, mv9_σ_104]; exact smσ_103) | omega)
                have nsσ_104 : (σ_104.1 a 27).toInt = (σ.1 a 27).toInt := (by first | (clear hs hw hc2 bhpσ_2 chpσ_2 j15 chpσ_5 dhpσ_5 ehpσ_5 iz_6 t5σ_7 t6σ_7 t1σ_8 t6σ_8 if_9 c_10 c_11 iz_12 if_13 c_14 if_89 t6σ_90 t1σ_90 kc_91 ahpσ_93 bhpσ_93 chpσ_93 c_94 kc_95 ahpσ_97 chpσ_97 dhpσ_97 ehpσ_97 t6σ_97 t1σ_97 iz_98 c_99 kc_100 kc_101 ahpσ_103 chpσ_103 dhpσ_103 ehpσ_103 smσ_103 t5σ_103 t6σ_103 t1σ_103 mv9_σ_104 mv12_σ_104 mv14_σ_104 mv15_σ_104 mv16_σ_104 smσ_104; omega) | omega)
                have t5σ_104 : 0 ≤ r_1.toInt + (σ_104.1 a 12).toInt := (by first | (clear hs hw hc2 bhpσ_2 chpσ_2 j15 chpσ_5 dhpσ_5 ehpσ_5 iz_6 t5σ_7 t1σ_8 if_9 c_10 c_11 iz_12 if_13 c_14 if_89 t1σ_90 kc_91 ahpσ_93 bhpσ_93 chpσ_93 c_94 kc_95 ahpσ_97 chpσ_97 dhpσ_97 ehpσ_97 t1σ_97 iz_98 c_99 kc_100 kc_101 ahpσ_103 chpσ_103 dhpσ_103 ehpσ_103 smσ_103 nsσ_103 t1σ_103 mv9_σ_104 mv14_σ_104 mv15_σ_104 mv16_σ_104 mv27_σ_104 smσ_104 nsσ_104; omega) | omega)
                have t6σ_104 : m_c X σ_104 a (v1.toInt + 6) = r_1.toInt := (by rw [mcσ_104 (v1.toInt + 6) (by first | (clear hs hc2 bhpσ_2 chpσ_2 j15 chpσ_5 dhpσ_5 ehpσ_5 t5σ_7 t6σ_7 t1σ_8 t6σ_8 if_9 c_10 c_11 if_13 c_14 if_89 t6σ_90 t1σ_90 kc_91 ahpσ_93 bhpσ_93 chpσ_93 c_94 kc_95 ahpσ_97 chpσ_97 dhpσ_97 ehpσ_97 t6σ_97 t1σ_97 c_99 kc_100 kc_101 ahpσ_103 chpσ_103 dhpσ_103 ehpσ_103 smσ_103 nsσ_103 t5σ_103 t6σ_103 t1σ_103 mv9_σ_104 mv12_σ_104 mv14_σ_104 mv15_σ_104 mv16_σ_104 mv27_σ_104 smσ_104 nsσ_104 t5σ_104; omega) | omega), if_neg (by first | (clear hs hw hc2 bhpσ_2 chpσ_2 j15 chpσ_5 dhpσ_5 ehpσ_5 iz_6 t5σ_7 t6σ_7 t1σ_8 t6σ_8 if_9 c_10 c_11 iz_12 if_13 c_14 if_89 t6σ_90 t1σ_90 kc_91 ahpσ_93 bhpσ_93 chpσ_93 c_94 kc_95 ahpσ_97 chpσ_97 dhpσ_97 ehpσ_97 t6σ_97 t1σ_97 iz_98 c_99 kc_100 kc_101 ahpσ_103 chpσ_103 dhpσ_103 ehpσ_103 smσ_103 nsσ_103 t5σ_103 t6σ_103 t1σ_103 mv9_σ_104 mv12_σ_104 mv14_σ_104 mv15_σ_104 mv16_σ_104 mv27_σ_104 smσ_104 nsσ_104 t5σ_104; omega) | omega)]; exact t6σ_103)
                have t1σ_104 : m_t1 (m_c X σ_104 a) v1.toInt := m_t1.k t1σ_103 (by rw [mcσ_104 (v1.toInt + 6) (by first | (clear hs hc2 bhpσ_2 chpσ_2 j15 chpσ_5 dhpσ_5 ehpσ_5 t5σ_7 t6σ_7 t1σ_8 t6σ_8 if_9 c_10 c_11 if_13 c_14 if_89 t6σ_90 t1σ_90 kc_91 ahpσ_93 bhpσ_93 chpσ_93 c_94 kc_95 ahpσ_97 chpσ_97 dhpσ_97 ehpσ_97 t6σ_97 t1σ_97 c_99 kc_100 kc_101 ahpσ_103 chpσ_103 dhpσ_103 ehpσ_103 smσ_103 nsσ_103 t5σ_103 t6σ_103 t1σ_103 mv9_σ_104 mv12_σ_104 mv14_σ_104 mv15_σ_104 mv16_σ_104 mv27_σ_104 smσ_104 nsσ_104 t5σ_104 t6σ_104; omega) | omega), if_neg (by first | (clear hs hw hc2 bhpσ_2 chpσ_2 j15 chpσ_5 dhpσ_5 ehpσ_5 iz_6 t5σ_7 t6σ_7 t1σ_8 t6σ_8 if_9 c_10 c_11 iz_12 if_13 c_14 if_89 t6σ_90 t1σ_90 kc_91 ahpσ_93 bhpσ_93 chpσ_93 c_94 kc_95 ahpσ_97 chpσ_97 dhpσ_97 ehpσ_97 t6σ_97 t1σ_97 iz_98 c_99 kc_100 kc_101 ahpσ_103 chpσ_103 dhpσ_103 ehpσ_103 smσ_103 nsσ_103 t5σ_103 t6σ_103 t1σ_103 mv9_σ_104 mv12_σ_104 mv14_σ_104 mv15_σ_104 mv16_σ_104 mv27_σ_104 smσ_104 nsσ_104 t5σ_104 t6σ_104; omega) | omega)]) (by rw [mcσ_104 (v1.toInt + 1) (by first | (clear hs hc2 bhpσ_2 chpσ_2 j15 chpσ_5 dhpσ_5 ehpσ_5 t5σ_7 t6σ_7 t1σ_8 t6σ_8 if_9 c_10 c_11 if_13 c_14 if_89 t6σ_90 t1σ_90 kc_91 ahpσ_93 bhpσ_93 chpσ_93 c_94 kc_95 ahpσ_97 chpσ_97 dhpσ_97 ehpσ_97 t6σ_97 t1σ_97 c_99 kc_100 kc_101 ahpσ_103 chpσ_103 dhpσ_103 ehpσ_103 smσ_103 nsσ_103 t5σ_103 t6σ_103 t1σ_103 mv9_σ_104 mv12_σ_104 mv14_σ_104 mv15_σ_104 mv16_σ_104 mv27_σ_104 smσ_104 nsσ_104 t5σ_104 t6σ_104; omega) | omega), if_neg (by first | (clear hs hw hc2 bhpσ_2 chpσ_2 j15 chpσ_5 dhpσ_5 ehpσ_5 iz_6 t5σ_7 t6σ_7 t1σ_8 t6σ_8 if_9 c_10 c_11 iz_12 if_13 c_14 if_89 t6σ_90 t1σ_90 kc_91 ahpσ_93 bhpσ_93 chpσ_93 c_94 kc_95 ahpσ_97 chpσ_97 dhpσ_97 ehpσ_97 t6σ_97 t1σ_97 iz_98 c_99 kc_100 kc_101 ahpσ_103 chpσ_103 dhpσ_103 ehpσ_103 smσ_103 nsσ_103 t5σ_103 t6σ_103 t1σ_103 mv9_σ_104 mv12_σ_104 mv14_σ_104 mv15_σ_104 mv16_σ_104 mv27_σ_104 smσ_104 nsσ_104 t5σ_104 t6σ_104; omega) | omega)])
                clear mv9_σ_104 mv12_σ_104 mv14_σ_104 mv15_σ_104 mv16_σ_104 mv27_σ_104 smσ_103 nsσ_103 t5σ_103
                rewrite [hQQ]; exact q_retv E hr hlk hI ⟨kwσ_104, (by first | exact smσ_104 | omega), nsσ_104, (fun e => ⟨by rw [t6σ_104]; omega, t1σ_104⟩), (hF.trans hout), fr_σ_104⟩ dX12_readTest_150
              · skip
                replace hF := q_ifp hF c_99
                refine lv_sipush (v := 999) hx hb dX12_readTest_138 zks_999 ?_
                refine lv_goto (tgt := 146) hx hb dX12_readTest_141 (by decide) ?_
                have kc_105 : (0 : Int32).toInt = 0 := zt_0
                have kc_106 : (999 : Int32).toInt = 999 := zt_999
                refine q_ci (q_rV11_2 (rest := [.int z_98, .ref (q_rf X a 20)]) E (hml.trans hl.1.symm) hI (c_X12_count l X σ_97 a (0 : Int32) (999 : Int32) ha (by first | exact sm_9 smσ_97 | exact hs | omega) (by first | (clear hs hw hc2 bhpσ_2 chpσ_2 j15 chpσ_5 dhpσ_5 ehpσ_5 iz_6 t5σ_7 t6σ_7 t1σ_8 t6σ_8 if_9 c_10 c_11 iz_12 if_13 c_14 if_89 t6σ_90 t1σ_90 kc_91 ahpσ_93 bhpσ_93 chpσ_93 c_94 kc_95 ahpσ_97 chpσ_97 dhpσ_97 ehpσ_97 t6σ_97 t1σ_97 iz_98 c_99; omega) | omega)) kv_X12_223 ha ⟨Nat.le_of_ble_eq_true rfl, Nat.le_of_ble_eq_true rfl⟩ (Nat.le_of_ble_eq_true rfl) dX12_readTest_146) hI (Nat.le_of_ble_eq_true rfl) (fun r_107 σ_108 H locs hpσ_108 hkσ_108 hI => ?_)
                have ahpσ_108 := hpσ_108.1
                have bhpσ_108 := hpσ_108.2.1
                have chpσ_108 := hpσ_108.2.2.1
                have dhpσ_108 := hpσ_108.2.2.2.1
                have ehpσ_108 := hpσ_108.2.2.2.2
                clear hpσ_108
                have fr_σ_108 := fr_σ_97.call ehpσ_108 rfl rfl
                replace hF := q_biX hF dhpσ_108
                have mv27_σ_108 : (σ_108.1 a 27).toInt = (σ_97.1 a 27).toInt := congrArg Int32.toInt (ahpσ_108 a 27 (q_cl9 _ _) (fun h => absurd h.2.2 (by decide)))
                have mcσ_108 := m_cK hkσ_108 hI.1 ha (by decide)
                have kwσ_108 : ∀ j, 0 ≤ j → (j < v1.toInt + 1 ∨ v1.toInt + 8 ≤ j) → m_c X σ_108 a j = m_c X σ a j := fun j h0 h1 => (mcσ_108 j).trans (kwσ_97 j h0 h1)
                have smσ_108 : 0 ≤ (σ_108.1 a 15).toInt ∧ (σ_108.1 a 15).toInt ≤ (σ_108.1 a 16).toInt ∧ (σ_108.1 a 16).toInt ≤ (σ_108.1 a 9).toInt ∧ (σ_108.1 a 9).toInt ≤ 900 ∧ 0 ≤ (σ_108.1 a 14).toInt ∧ (σ_108.1 a 14).toInt ≤ 4 ∧ (σ_108.1 a 14).toInt ≤ 4 * ((σ_108.1 a 16).toInt - (σ_108.1 a 15).toInt) ∧ (σ_108.1 a 14).toInt ≤ 4 * ((σ_108.1 a 9).toInt - (σ_108.1 a 15).toInt) ∧ 0 ≤ (σ_108.1 a 12).toInt ∧ (σ_108.1 a 9).toInt = (σ.1 a 9).toInt ∧ (σ.1 a 15).toInt ≤ (σ_108.1 a 15).toInt ∧ (σ.1 a 12).toInt ≤ (σ_108.1 a 12).toInt := (by first | exact sm_tr smσ_97 bhpσ_108 | exact sm_tr smσ_97 chpσ_108 | omega)
                have nsσ_108 : (σ_108.1 a 27).toInt = (σ.1 a 27).toInt := (by first | (clear hs hw hc2 bhpσ_2 chpσ_2 j15 chpσ_5 dhpσ_5 ehpσ_5 iz_6 t5σ_7 t6σ_7 t1σ_8 t6σ_8 if_9 c_10 c_11 iz_12 if_13 c_14 if_89 t6σ_90 t1σ_90 kc_91 ahpσ_93 bhpσ_93 chpσ_93 c_94 kc_95 ahpσ_97 chpσ_97 dhpσ_97 ehpσ_97 t6σ_97 t1σ_97 iz_98 c_99 kc_105 kc_106 ahpσ_108 bhpσ_108 chpσ_108 dhpσ_108 ehpσ_108 smσ_108; omega) | omega)
                have t5σ_108 : 0 ≤ r_1.toInt + (σ_108.1 a 12).toInt := (by first | (clear hs hw hc2 bhpσ_2 chpσ_2 j15 chpσ_5 dhpσ_5 ehpσ_5 iz_6 t5σ_7 t1σ_8 if_9 c_10 c_11 iz_12 if_13 c_14 if_89 t1σ_90 kc_91 ahpσ_93 bhpσ_93 chpσ_93 c_94 kc_95 ahpσ_97 chpσ_97 dhpσ_97 ehpσ_97 t1σ_97 iz_98 kc_105 kc_106 ahpσ_108 chpσ_108 dhpσ_108 ehpσ_108 mv27_σ_108 smσ_108 nsσ_108; omega) | omega)
                have t6σ_108 : m_c X σ_108 a (v1.toInt + 6) = r_1.toInt := (mcσ_108 _).trans t6σ_97
                have t1σ_108 : m_t1 (m_c X σ_108 a) v1.toInt := m_t1.k t1σ_97 (mcσ_108 _) (mcσ_108 _)
                clear mv27_σ_108 smσ_97 nsσ_97 t5σ_97 bhpσ_108
                refine q_iastN E hI (q_tk (k' := 34) hI ha rfl (Nat.succ_ne_zero _)) ⟨by decide, rfl⟩ (by first | (clear hs hc2 bhpσ_2 chpσ_2 j15 chpσ_5 dhpσ_5 ehpσ_5 t5σ_7 t6σ_7 t1σ_8 t6σ_8 if_9 c_10 c_11 if_13 c_14 if_89 t6σ_90 t1σ_90 kc_91 ahpσ_93 bhpσ_93 chpσ_93 c_94 kc_95 ahpσ_97 chpσ_97 dhpσ_97 ehpσ_97 t6σ_97 t1σ_97 c_99 kc_105 kc_106 ahpσ_108 chpσ_108 dhpσ_108 ehpσ_108 smσ_108 nsσ_108 t5σ_108 t6σ_108 t1σ_108; omega) | omega) (by rw [q_lnk (v := 4650) hI (q_tk (k' := 34) hI ha rfl (Nat.succ_ne_zero _)) rfl (by decide)]; omega) (show 1 < 2 by decide) (q_inU rfl) dX12_readTest_149 (fun H locs σ_109 hσ_109 hI => ?_)
                replace hF := q_letX hF hσ_109
                have fr_σ_109 := fr_σ_108.si hσ_109 (q_tk (k' := 34) hI ha rfl (Nat.succ_ne_zero _)) rfl
                have mv9_σ_109 : (σ_109.1 a 9).toInt = (σ_108.1 a 9).toInt := congrArg Int32.toInt (q_rdn hσ_109 (Or.inl (m_ne ha (q_tk (k' := 34) hI ha rfl (Nat.succ_ne_zero _)) (by decide))))
                have mv12_σ_109 : (σ_109.1 a 12).toInt = (σ_108.1 a 12).toInt := congrArg Int32.toInt (q_rdn hσ_109 (Or.inl (m_ne ha (q_tk (k' := 34) hI ha rfl (Nat.succ_ne_zero _)) (by decide))))
                have mv14_σ_109 : (σ_109.1 a 14).toInt = (σ_108.1 a 14).toInt := congrArg Int32.toInt (q_rdn hσ_109 (Or.inl (m_ne ha (q_tk (k' := 34) hI ha rfl (Nat.succ_ne_zero _)) (by decide))))
                have mv15_σ_109 : (σ_109.1 a 15).toInt = (σ_108.1 a 15).toInt := congrArg Int32.toInt (q_rdn hσ_109 (Or.inl (m_ne ha (q_tk (k' := 34) hI ha rfl (Nat.succ_ne_zero _)) (by decide))))
                have mv16_σ_109 : (σ_109.1 a 16).toInt = (σ_108.1 a 16).toInt := congrArg Int32.toInt (q_rdn hσ_109 (Or.inl (m_ne ha (q_tk (k' := 34) hI ha rfl (Nat.succ_ne_zero _)) (by decide))))
                have mv27_σ_109 : (σ_109.1 a 27).toInt = (σ_108.1 a 27).toInt := congrArg Int32.toInt (q_rdn hσ_109 (Or.inl (m_ne ha (q_tk (k' := 34) hI ha rfl (Nat.succ_ne_zero _)) (by decide))))
                have mcσ_109 := m_wr (v := r_107) (A := (v1.toInt + 2)) hσ_109 iz_98 (by first | (clear hs hc2 bhpσ_2 chpσ_2 j15 chpσ_5 dhpσ_5 ehpσ_5 t5σ_7 t6σ_7 t1σ_8 t6σ_8 if_9 c_10 c_11 if_13 c_14 if_89 t6σ_90 t1σ_90 kc_91 ahpσ_93 bhpσ_93 chpσ_93 c_94 kc_95 ahpσ_97 chpσ_97 dhpσ_97 ehpσ_97 t6σ_97 t1σ_97 c_99 kc_105 kc_106 ahpσ_108 chpσ_108 dhpσ_108 ehpσ_108 smσ_108 nsσ_108 t5σ_108 t6σ_108 t1σ_108 mv9_σ_109 mv12_σ_109 mv14_σ_109 mv15_σ_109 mv16_σ_109 mv27_σ_109; omega) | omega)
                have kwσ_109 : ∀ j, 0 ≤ j → (j < v1.toInt + 1 ∨ v1.toInt + 8 ≤ j) → m_c X σ_109 a j = m_c X σ a j := fun j h0 h1 => by rw [mcσ_109 j h0, if_neg (by first | (clear hs hw hc2 bhpσ_2 chpσ_2 j15 chpσ_5 dhpσ_5 ehpσ_5 t5σ_7 t6σ_7 t1σ_8 t6σ_8 if_9 c_10 c_11 if_13 c_14 if_89 t6σ_90 t1σ_90 kc_91 ahpσ_93 bhpσ_93 chpσ_93 c_94 kc_95 ahpσ_97 chpσ_97 dhpσ_97 ehpσ_97 t6σ_97 t1σ_97 c_99 kc_105 kc_106 ahpσ_108 chpσ_108 dhpσ_108 ehpσ_108 smσ_108 nsσ_108 t5σ_108 t6σ_108 t1σ_108 mv9_σ_109 mv12_σ_109 mv14_σ_109 mv15_σ_109 mv16_σ_109 mv27_σ_109; omega) | omega)]; exact kwσ_108 j h0 h1
                have smσ_109 : 0 ≤ (σ_109.1 a 15).toInt ∧ (σ_109.1 a 15).toInt ≤ (σ_109.1 a 16).toInt ∧ (σ_109.1 a 16).toInt ≤ (σ_109.1 a 9).toInt ∧ (σ_109.1 a 9).toInt ≤ 900 ∧ 0 ≤ (σ_109.1 a 14).toInt ∧ (σ_109.1 a 14).toInt ≤ 4 ∧ (σ_109.1 a 14).toInt ≤ 4 * ((σ_109.1 a 16).toInt - (σ_109.1 a 15).toInt) ∧ (σ_109.1 a 14).toInt ≤ 4 * ((σ_109.1 a 9).toInt - (σ_109.1 a 15).toInt) ∧ 0 ≤ (σ_109.1 a 12).toInt ∧ (σ_109.1 a 9).toInt = (σ.1 a 9).toInt ∧ (σ.1 a 15).toInt ≤ (σ_109.1 a 15).toInt ∧ (σ.1 a 12).toInt ≤ (σ_109.1 a 12).toInt := (by first | (rw [mv12_σ_109, mv14_σ_109, mv15_σ_109, mv16_σ_109, mv9_σ_109]; exact smσ_108) | omega)
                have nsσ_109 : (σ_109.1 a 27).toInt = (σ.1 a 27).toInt := (by first | (clear hs hw hc2 bhpσ_2 chpσ_2 j15 chpσ_5 dhpσ_5 ehpσ_5 iz_6 t5σ_7 t6σ_7 t1σ_8 t6σ_8 if_9 c_10 c_11 iz_12 if_13 c_14 if_89 t6σ_90 t1σ_90 kc_91 ahpσ_93 bhpσ_93 chpσ_93 c_94 kc_95 ahpσ_97 chpσ_97 dhpσ_97 ehpσ_97 t6σ_97 t1σ_97 iz_98 c_99 kc_105 kc_106 ahpσ_108 chpσ_108 dhpσ_108 ehpσ_108 smσ_108 t5σ_108 t6σ_108 t1σ_108 mv9_σ_109 mv12_σ_109 mv14_σ_109 mv15_σ_109 mv16_σ_109 smσ_109; omega) | omega)
                have t5σ_109 : 0 ≤ r_1.toInt + (σ_109.1 a 12).toInt := (by first | (clear hs hw hc2 bhpσ_2 chpσ_2 j15 chpσ_5 dhpσ_5 ehpσ_5 iz_6 t5σ_7 t1σ_8 if_9 c_10 c_11 iz_12 if_13 c_14 if_89 t1σ_90 kc_91 ahpσ_93 bhpσ_93 chpσ_93 c_94 kc_95 ahpσ_97 chpσ_97 dhpσ_97 ehpσ_97 t1σ_97 iz_98 kc_105 kc_106 ahpσ_108 chpσ_108 dhpσ_108 ehpσ_108 nsσ_108 t5σ_108 t6σ_108 t1σ_108 mv9_σ_109 mv14_σ_109 mv15_σ_109 mv16_σ_109 mv27_σ_109 smσ_109 nsσ_109; omega) | omega)
                have t6σ_109 : m_c X σ_109 a (v1.toInt + 6) = r_1.toInt := (by rw [mcσ_109 (v1.toInt + 6) (by first | (clear hs hc2 bhpσ_2 chpσ_2 j15 chpσ_5 dhpσ_5 ehpσ_5 t5σ_7 t6σ_7 t1σ_8 t6σ_8 if_9 c_10 c_11 if_13 c_14 if_89 t6σ_90 t1σ_90 kc_91 ahpσ_93 bhpσ_93 chpσ_93 c_94 kc_95 ahpσ_97 chpσ_97 dhpσ_97 ehpσ_97 t6σ_97 t1σ_97 c_99 kc_105 kc_106 ahpσ_108 chpσ_108 dhpσ_108 ehpσ_108 smσ_108 nsσ_108 t5σ_108 t6σ_108 t1σ_108 mv9_σ_109 mv12_σ_109 mv14_σ_109 mv15_σ_109 mv16_σ_109 mv27_σ_109 smσ_109 nsσ_109 t5σ_109; omega) | omega), if_neg (by first | (clear hs hw hc2 bhpσ_2 chpσ_2 j15 chpσ_5 dhpσ_5 ehpσ_5 iz_6 t5σ_7 t6σ_7 t1σ_8 t6σ_8 if_9 c_10 c_11 iz_12 if_13 c_14 if_89 t6σ_90 t1σ_90 kc_91 ahpσ_93 bhpσ_93 chpσ_93 c_94 kc_95 ahpσ_97 chpσ_97 dhpσ_97 ehpσ_97 t6σ_97 t1σ_97 iz_98 c_99 kc_105 kc_106 ahpσ_108 chpσ_108 dhpσ_108 ehpσ_108 smσ_108 nsσ_108 t5σ_108 t6σ_108 t1σ_108 mv9_σ_109 mv12_σ_109 mv14_σ_109 mv15_σ_109 mv16_σ_109 mv27_σ_109 smσ_109 nsσ_109 t5σ_109; omega) | omega)]; exact t6σ_108)
                have t1σ_109 : m_t1 (m_c X σ_109 a) v1.toInt := m_t1.k t1σ_108 (by rw [mcσ_109 (v1.toInt + 6) (by first | (clear hs hc2 bhpσ_2 chpσ_2 j15 chpσ_5 dhpσ_5 ehpσ_5 t5σ_7 t6σ_7 t1σ_8 t6σ_8 if_9 c_10 c_11 if_13 c_14 if_89 t6σ_90 t1σ_90 kc_91 ahpσ_93 bhpσ_93 chpσ_93 c_94 kc_95 ahpσ_97 chpσ_97 dhpσ_97 ehpσ_97 t6σ_97 t1σ_97 c_99 kc_105 kc_106 ahpσ_108 chpσ_108 dhpσ_108 ehpσ_108 smσ_108 nsσ_108 t5σ_108 t6σ_108 t1σ_108 mv9_σ_109 mv12_σ_109 mv14_σ_109 mv15_σ_109 mv16_σ_109 mv27_σ_109 smσ_109 nsσ_109 t5σ_109 t6σ_109; omega) | omega), if_neg (by first | (clear hs hw hc2 bhpσ_2 chpσ_2 j15 chpσ_5 dhpσ_5 ehpσ_5 iz_6 t5σ_7 t6σ_7 t1σ_8 t6σ_8 if_9 c_10 c_11 iz_12 if_13 c_14 if_89 t6σ_90 t1σ_90 kc_91 ahpσ_93 bhpσ_93 chpσ_93 c_94 kc_95 ahpσ_97 chpσ_97 dhpσ_97 ehpσ_97 t6σ_97 t1σ_97 iz_98 c_99 kc_105 kc_106 ahpσ_108 chpσ_108 dhpσ_108 ehpσ_108 smσ_108 nsσ_108 t5σ_108 t6σ_108 t1σ_108 mv9_σ_109 mv12_σ_109 mv14_σ_109 mv15_σ_109 mv16_σ_109 mv27_σ_109 smσ_109 nsσ_109 t5σ_109 t6σ_109; omega) | omega)]) (by rw [mcσ_109 (v1.toInt + 1) (by first | (clear hs hc2 bhpσ_2 chpσ_2 j15 chpσ_5 dhpσ_5 ehpσ_5 t5σ_7 t6σ_7 t1σ_8 t6σ_8 if_9 c_10 c_11 if_13 c_14 if_89 t6σ_90 t1σ_90 kc_91 ahpσ_93 bhpσ_93 chpσ_93 c_94 kc_95 ahpσ_97 chpσ_97 dhpσ_97 ehpσ_97 t6σ_97 t1σ_97 c_99 kc_105 kc_106 ahpσ_108 chpσ_108 dhpσ_108 ehpσ_108 smσ_108 nsσ_108 t5σ_108 t6σ_108 t1σ_108 mv9_σ_109 mv12_σ_109 mv14_σ_109 mv15_σ_109 mv16_σ_109 mv27_σ_109 smσ_109 nsσ_109 t5σ_109 t6σ_109; omega) | omega), if_neg (by first | (clear hs hw hc2 bhpσ_2 chpσ_2 j15 chpσ_5 dhpσ_5 ehpσ_5 iz_6 t5σ_7 t6σ_7 t1σ_8 t6σ_8 if_9 c_10 c_11 iz_12 if_13 c_14 if_89 t6σ_90 t1σ_90 kc_91 ahpσ_93 bhpσ_93 chpσ_93 c_94 kc_95 ahpσ_97 chpσ_97 dhpσ_97 ehpσ_97 t6σ_97 t1σ_97 iz_98 c_99 kc_105 kc_106 ahpσ_108 chpσ_108 dhpσ_108 ehpσ_108 smσ_108 nsσ_108 t5σ_108 t6σ_108 t1σ_108 mv9_σ_109 mv12_σ_109 mv14_σ_109 mv15_σ_109 mv16_σ_109 mv27_σ_109 smσ_109 nsσ_109 t5σ_109 t6σ_109; omega) | omega)])
                clear mv9_σ_109 mv12_σ_109 mv14_σ_109 mv15_σ_109 mv16_σ_109 mv27_σ_109 smσ_108 nsσ_108 t5σ_108
                rewrite [hQQ]; exact q_retv E hr hlk hI ⟨kwσ_109, (by first | exact smσ_109 | omega), nsσ_109, (fun e => ⟨by rw [t6σ_109]; omega, t1σ_109⟩), (hF.trans hout), fr_σ_109⟩ dX12_readTest_150
            · skip
              replace hF := q_ifp hF c_94
              refine lv_aload_n hx hb dX12_readTest_98 rfl (lv_at hl 0 rfl) ?_
              refine lv_bipush (v := 62) hx hb dX12_readTest_99 zkb_62 ?_
              have kc_110 : (62 : Int32).toInt = 62 := zt_62
              refine q_ci (q_rV11_1 (rest := [.ref a]) E (hml.trans hl.1.symm) hI (c_X12_isSign l X σ_90 a (62 : Int32) ha) kv_X12_243 ha ⟨Nat.le_of_ble_eq_true rfl, Nat.le_of_ble_eq_true rfl⟩ (Nat.le_of_ble_eq_true rfl) dX12_readTest_101) hI (Nat.le_of_ble_eq_true rfl) (fun r_111 σ_112 H locs hpσ_112 hkσ_112 hI => ?_)
              have ahpσ_112 := hpσ_112.1
              have bhpσ_112 := hpσ_112.2.1
              have chpσ_112 := hpσ_112.2.2
              clear hpσ_112
              replace hI := q_Irw ahpσ_112 hI
              replace hF := q_letX hF chpσ_112
              refine q_if_ne (A := r_111.toInt) E rfl (tgt := 116) dX12_readTest_104 (by decide) (fun c_113 => ?_) (fun c_113 => ?_)
              · skip
                replace hF := q_ifn hF c_113
                replace c_113 := q_ifOne bhpσ_112 c_113
                refine lv_iconst (v := 1) hx hb dX12_readTest_116 zki_1 ?_
                refine lv_goto (tgt := 121) hx hb dX12_readTest_117 (by decide) ?_
                have kc_114 : (1 : Int32).toInt = 1 := zt_1
                refine q_cv (q_rV11_1 (rest := []) E (hml.trans hl.1.symm) hI (c_X12_must l X σ_90 a (1 : Int32) ha (by first | exact sm_9 smσ_90 | exact hs | omega) (by first | (clear hs hw hc2 bhpσ_2 chpσ_2 j15 chpσ_5 dhpσ_5 ehpσ_5 iz_6 t5σ_7 t6σ_7 t1σ_8 t6σ_8 if_9 c_10 c_11 iz_12 if_13 c_14 if_89 t6σ_90 t1σ_90 kc_91 ahpσ_93 bhpσ_93 chpσ_93 c_94 kc_110 ahpσ_112 bhpσ_112 chpσ_112 c_113; omega) | omega)) kv_X12_216 ha ⟨Nat.le_of_ble_eq_true rfl, Nat.le_of_ble_eq_true rfl⟩ (Nat.le_of_ble_eq_true rfl) dX12_readTest_121) hI (Nat.le_of_ble_eq_true rfl) (fun σ_116 H locs hpσ_116 hkσ_116 hI => ?_)
                have ahpσ_116 := hpσ_116.1
                have bhpσ_116 := hpσ_116.2.1
                have chpσ_116 := hpσ_116.2.2.1
                have dhpσ_116 := hpσ_116.2.2.2.1
                have ehpσ_116 := hpσ_116.2.2.2.2
                clear hpσ_116
                have fr_σ_116 := fr_σ_90.call ehpσ_116 rfl rfl
                replace hF := q_letX hF dhpσ_116
                have mv27_σ_116 : (σ_116.1 a 27).toInt = (σ_90.1 a 27).toInt := congrArg Int32.toInt (ahpσ_116 a 27 (q_cl9 _ _) (fun h => absurd h.2.2 (by decide)))
                have mcσ_116 := m_cK hkσ_116 hI.1 ha (by decide)
                have kwσ_116 : ∀ j, 0 ≤ j → (j < v1.toInt + 1 ∨ v1.toInt + 8 ≤ j) → m_c X σ_116 a j = m_c X σ a j := fun j h0 h1 => (mcσ_116 j).trans (kwσ_90 j h0 h1)
                have smσ_116 : 0 ≤ (σ_116.1 a 15).toInt ∧ (σ_116.1 a 15).toInt ≤ (σ_116.1 a 16).toInt ∧ (σ_116.1 a 16).toInt ≤ (σ_116.1 a 9).toInt ∧ (σ_116.1 a 9).toInt ≤ 900 ∧ 0 ≤ (σ_116.1 a 14).toInt ∧ (σ_116.1 a 14).toInt ≤ 4 ∧ (σ_116.1 a 14).toInt ≤ 4 * ((σ_116.1 a 16).toInt - (σ_116.1 a 15).toInt) ∧ (σ_116.1 a 14).toInt ≤ 4 * ((σ_116.1 a 9).toInt - (σ_116.1 a 15).toInt) ∧ 0 ≤ (σ_116.1 a 12).toInt ∧ (σ_116.1 a 9).toInt = (σ.1 a 9).toInt ∧ (σ.1 a 15).toInt ≤ (σ_116.1 a 15).toInt ∧ (σ.1 a 12).toInt ≤ (σ_116.1 a 12).toInt := (by first | exact sm_tr smσ_90 bhpσ_116 | exact sm_tr smσ_90 chpσ_116 | omega)
                have nsσ_116 : (σ_116.1 a 27).toInt = (σ.1 a 27).toInt := (by first | (clear hs hw hc2 bhpσ_2 chpσ_2 j15 chpσ_5 dhpσ_5 ehpσ_5 iz_6 t5σ_7 t6σ_7 t1σ_8 t6σ_8 if_9 c_10 c_11 iz_12 if_13 c_14 if_89 t6σ_90 t1σ_90 kc_91 ahpσ_93 bhpσ_93 chpσ_93 c_94 kc_110 ahpσ_112 bhpσ_112 chpσ_112 c_113 kc_114 ahpσ_116 bhpσ_116 chpσ_116 dhpσ_116 ehpσ_116 smσ_116; omega) | omega)
                have t5σ_116 : 0 ≤ r_1.toInt + (σ_116.1 a 12).toInt := (by first | (clear hs hw hc2 bhpσ_2 chpσ_2 j15 chpσ_5 dhpσ_5 ehpσ_5 iz_6 t5σ_7 t1σ_8 if_9 c_10 c_11 iz_12 if_13 c_14 if_89 t1σ_90 kc_91 ahpσ_93 bhpσ_93 chpσ_93 c_94 kc_110 ahpσ_112 bhpσ_112 chpσ_112 c_113 kc_114 ahpσ_116 chpσ_116 dhpσ_116 ehpσ_116 mv27_σ_116 smσ_116 nsσ_116; omega) | omega)
                have t6σ_116 : m_c X σ_116 a (v1.toInt + 6) = r_1.toInt := (mcσ_116 _).trans t6σ_90
                have t1σ_116 : m_t1 (m_c X σ_116 a) v1.toInt := m_t1.k t1σ_90 (mcσ_116 _) (mcσ_116 _)
                clear mv27_σ_116 smσ_90 nsσ_90 t5σ_90 bhpσ_116
                refine lv_aload_n hx hb dX12_readTest_124 rfl (lv_at hl 0 rfl) ?_
                refine gs_X12_35_12 E hI ha dX12_readTest_125 ?_
                refine lv_iload_n hx hb dX12_readTest_128 rfl (lv_at hl 1 rfl) ?_
                refine lv_iconst (v := 2) hx hb dX12_readTest_129 zki_2 ?_
                refine lv_iadd hx hb dX12_readTest_130 ?_
                refine lv_topi (fun z_117 ez_117 => ?_)
                replace hF := q_letX hF ez_117
                have iz_117 := q_addI (A := v1.toInt) (B := 2) ez_117 rfl (by decide) (by first | (clear hs hc2 bhpσ_2 chpσ_2 j15 chpσ_5 dhpσ_5 ehpσ_5 t5σ_7 t6σ_7 t1σ_8 t6σ_8 if_9 c_10 c_11 if_13 c_14 if_89 t6σ_90 t1σ_90 kc_91 ahpσ_93 bhpσ_93 chpσ_93 c_94 kc_110 ahpσ_112 bhpσ_112 chpσ_112 c_113 kc_114 ahpσ_116 chpσ_116 dhpσ_116 ehpσ_116 smσ_116 nsσ_116 t5σ_116 t6σ_116 t1σ_116; omega) | omega) (by first | (clear hs hc2 bhpσ_2 chpσ_2 j15 chpσ_5 dhpσ_5 ehpσ_5 t5σ_7 t6σ_7 t1σ_8 t6σ_8 if_9 c_10 c_11 if_13 c_14 if_89 t6σ_90 t1σ_90 kc_91 ahpσ_93 bhpσ_93 chpσ_93 c_94 kc_110 ahpσ_112 bhpσ_112 chpσ_112 c_113 kc_114 ahpσ_116 chpσ_116 dhpσ_116 ehpσ_116 smσ_116 nsσ_116 t5σ_116 t6σ_116 t1σ_116; omega) | omega)
                refine lv_aload_n hx hb dX12_readTest_131 rfl (lv_at hl 0 rfl) ?_
                refine lv_iconst (v := 0) hx hb dX12_readTest_132 zki_0 ?_
                refine lv_iload_n hx hb dX12_readTest_133 rfl (lv_at hl 2 rfl) ?_
                refine lv_iconst (v := 2) hx hb dX12_readTest_134 zki_2 ?_
                refine q_icmp_ne (A := r_1.toInt) (B := 2) E rfl (by decide) (tgt := 144) dX12_readTest_135 (by decide) (fun c_118 => ?_) (fun c_118 => ?_)
                · skip
                  replace hF := q_ifn hF c_118
                  refine lv_bipush (v := 80) hx hb dX12_readTest_144 zkb_80 ?_
                  have kc_119 : (0 : Int32).toInt = 0 := zt_0
                  have kc_120 : (80 : Int32).toInt = 80 := zt_80
                  refine q_ci (q_rV11_2 (rest := [.int z_117, .ref (q_rf X a 20)]) E (hml.trans hl.1.symm) hI (c_X12_count l X σ_116 a (0 : Int32) (80 : Int32) ha (by first | exact sm_9 smσ_116 | exact hs | omega) (by first | (clear hs hw hc2 bhpσ_2 chpσ_2 j15 chpσ_5 dhpσ_5 ehpσ_5 iz_6 t5σ_7 t6σ_7 t1σ_8 t6σ_8 if_9 c_10 c_11 iz_12 if_13 c_14 if_89 t6σ_90 t1σ_90 kc_91 ahpσ_93 bhpσ_93 chpσ_93 c_94 kc_110 ahpσ_112 bhpσ_112 chpσ_112 c_113 kc_114 ahpσ_116 chpσ_116 dhpσ_116 ehpσ_116 smσ_116 nsσ_116 t5σ_116 t6σ_116 t1σ_116 iz_117 c_118; omega) | omega)) kv_X12_223 ha ⟨Nat.le_of_ble_eq_true rfl, Nat.le_of_ble_eq_true rfl⟩ (Nat.le_of_ble_eq_true rfl) dX12_readTest_146) hI (Nat.le_of_ble_eq_true rfl) (fun r_121 σ_122 H locs hpσ_122 hkσ_122 hI => ?_)
                  have ahpσ_122 := hpσ_122.1
                  have bhpσ_122 := hpσ_122.2.1
                  have chpσ_122 := hpσ_122.2.2.1
                  have dhpσ_122 := hpσ_122.2.2.2.1
                  have ehpσ_122 := hpσ_122.2.2.2.2
                  clear hpσ_122
                  have fr_σ_122 := fr_σ_116.call ehpσ_122 rfl rfl
                  replace hF := q_biX hF dhpσ_122
                  have mv27_σ_122 : (σ_122.1 a 27).toInt = (σ_116.1 a 27).toInt := congrArg Int32.toInt (ahpσ_122 a 27 (q_cl9 _ _) (fun h => absurd h.2.2 (by decide)))
                  have mcσ_122 := m_cK hkσ_122 hI.1 ha (by decide)
                  have kwσ_122 : ∀ j, 0 ≤ j → (j < v1.toInt + 1 ∨ v1.toInt + 8 ≤ j) → m_c X σ_122 a j = m_c X σ a j := fun j h0 h1 => (mcσ_122 j).trans (kwσ_116 j h0 h1)
                  have smσ_122 : 0 ≤ (σ_122.1 a 15).toInt ∧ (σ_122.1 a 15).toInt ≤ (σ_122.1 a 16).toInt ∧ (σ_122.1 a 16).toInt ≤ (σ_122.1 a 9).toInt ∧ (σ_122.1 a 9).toInt ≤ 900 ∧ 0 ≤ (σ_122.1 a 14).toInt ∧ (σ_122.1 a 14).toInt ≤ 4 ∧ (σ_122.1 a 14).toInt ≤ 4 * ((σ_122.1 a 16).toInt - (σ_122.1 a 15).toInt) ∧ (σ_122.1 a 14).toInt ≤ 4 * ((σ_122.1 a 9).toInt - (σ_122.1 a 15).toInt) ∧ 0 ≤ (σ_122.1 a 12).toInt ∧ (σ_122.1 a 9).toInt = (σ.1 a 9).toInt ∧ (σ.1 a 15).toInt ≤ (σ_122.1 a 15).toInt ∧ (σ.1 a 12).toInt ≤ (σ_122.1 a 12).toInt := (by first | exact sm_tr smσ_116 bhpσ_122 | exact sm_tr smσ_116 chpσ_122 | omega)
                  have nsσ_122 : (σ_122.1 a 27).toInt = (σ.1 a 27).toInt := (by first | (clear hs hw hc2 bhpσ_2 chpσ_2 j15 chpσ_5 dhpσ_5 ehpσ_5 iz_6 t5σ_7 t6σ_7 t1σ_8 t6σ_8 if_9 c_10 c_11 iz_12 if_13 c_14 if_89 t6σ_90 t1σ_90 kc_91 ahpσ_93 bhpσ_93 chpσ_93 c_94 kc_110 ahpσ_112 bhpσ_112 chpσ_112 c_113 kc_114 ahpσ_116 chpσ_116 dhpσ_116 ehpσ_116 smσ_116 t5σ_116 t6σ_116 t1σ_116 iz_117 c_118 kc_119 kc_120 ahpσ_122 bhpσ_122 chpσ_122 dhpσ_122 ehpσ_122 smσ_122; omega) | omega)
                  have t5σ_122 : 0 ≤ r_1.toInt + (σ_122.1 a 12).toInt := (by first | (clear hs hw hc2 bhpσ_2 chpσ_2 j15 chpσ_5 dhpσ_5 ehpσ_5 iz_6 t5σ_7 t1σ_8 if_9 c_10 c_11 iz_12 if_13 c_14 if_89 t1σ_90 kc_91 ahpσ_93 bhpσ_93 chpσ_93 c_94 kc_110 ahpσ_112 bhpσ_112 chpσ_112 c_113 kc_114 ahpσ_116 chpσ_116 dhpσ_116 ehpσ_116 smσ_116 nsσ_116 t1σ_116 iz_117 c_118 kc_119 kc_120 ahpσ_122 chpσ_122 dhpσ_122 ehpσ_122 mv27_σ_122 smσ_122 nsσ_122; omega) | omega)
                  have t6σ_122 : m_c X σ_122 a (v1.toInt + 6) = r_1.toInt := (mcσ_122 _).trans t6σ_116
                  have t1σ_122 : m_t1 (m_c X σ_122 a) v1.toInt := m_t1.k t1σ_116 (mcσ_122 _) (mcσ_122 _)
                  clear mv27_σ_122 smσ_116 nsσ_116 t5σ_116 bhpσ_122
                  refine q_iastN E hI (q_tk (k' := 34) hI ha rfl (Nat.succ_ne_zero _)) ⟨by decide, rfl⟩ (by first | (clear hs hc2 bhpσ_2 chpσ_2 j15 chpσ_5 dhpσ_5 ehpσ_5 t5σ_7 t6σ_7 t1σ_8 t6σ_8 if_9 c_10 c_11 if_13 c_14 if_89 t6σ_90 t1σ_90 kc_91 ahpσ_93 bhpσ_93 chpσ_93 c_94 kc_110 ahpσ_112 bhpσ_112 chpσ_112 c_113 kc_114 ahpσ_116 chpσ_116 dhpσ_116 ehpσ_116 t6σ_116 t1σ_116 c_118 kc_119 kc_120 ahpσ_122 chpσ_122 dhpσ_122 ehpσ_122 smσ_122 nsσ_122 t5σ_122 t6σ_122 t1σ_122; omega) | omega) (by rw [q_lnk (v := 4650) hI (q_tk (k' := 34) hI ha rfl (Nat.succ_ne_zero _)) rfl (by decide)]; omega) (show 1 < 2 by decide) (q_inU rfl) dX12_readTest_149 (fun H locs σ_123 hσ_123 hI => ?_)
                  replace hF := q_letX hF hσ_123
                  have fr_σ_123 := fr_σ_122.si hσ_123 (q_tk (k' := 34) hI ha rfl (Nat.succ_ne_zero _)) rfl
                  have mv9_σ_123 : (σ_123.1 a 9).toInt = (σ_122.1 a 9).toInt := congrArg Int32.toInt (q_rdn hσ_123 (Or.inl (m_ne ha (q_tk (k' := 34) hI ha rfl (Nat.succ_ne_zero _)) (by decide))))
                  have mv12_σ_123 : (σ_123.1 a 12).toInt = (σ_122.1 a 12).toInt := congrArg Int32.toInt (q_rdn hσ_123 (Or.inl (m_ne ha (q_tk (k' := 34) hI ha rfl (Nat.succ_ne_zero _)) (by decide))))
                  have mv14_σ_123 : (σ_123.1 a 14).toInt = (σ_122.1 a 14).toInt := congrArg Int32.toInt (q_rdn hσ_123 (Or.inl (m_ne ha (q_tk (k' := 34) hI ha rfl (Nat.succ_ne_zero _)) (by decide))))
                  have mv15_σ_123 : (σ_123.1 a 15).toInt = (σ_122.1 a 15).toInt := congrArg Int32.toInt (q_rdn hσ_123 (Or.inl (m_ne ha (q_tk (k' := 34) hI ha rfl (Nat.succ_ne_zero _)) (by decide))))
                  have mv16_σ_123 : (σ_123.1 a 16).toInt = (σ_122.1 a 16).toInt := congrArg Int32.toInt (q_rdn hσ_123 (Or.inl (m_ne ha (q_tk (k' := 34) hI ha rfl (Nat.succ_ne_zero _)) (by decide))))
                  have mv27_σ_123 : (σ_123.1 a 27).toInt = (σ_122.1 a 27).toInt := congrArg Int32.toInt (q_rdn hσ_123 (Or.inl (m_ne ha (q_tk (k' := 34) hI ha rfl (Nat.succ_ne_zero _)) (by decide))))
                  have mcσ_123 := m_wr (v := r_121) (A := (v1.toInt + 2)) hσ_123 iz_117 (by first | (clear hs hc2 bhpσ_2 chpσ_2 j15 chpσ_5 dhpσ_5 ehpσ_5 t5σ_7 t6σ_7 t1σ_8 t6σ_8 if_9 c_10 c_11 if_13 c_14 if_89 t6σ_90 t1σ_90 kc_91 ahpσ_93 bhpσ_93 chpσ_93 c_94 kc_110 ahpσ_112 bhpσ_112 chpσ_112 c_113 kc_114 ahpσ_116 chpσ_116 dhpσ_116 ehpσ_116 t6σ_116 t1σ_116 c_118 kc_119 kc_120 ahpσ_122 chpσ_122 dhpσ_122 ehpσ_122 smσ_122 nsσ_122 t5σ_122 t6σ_122 t1σ_122 mv9_σ_123 mv12_σ_123 mv14_σ_123 mv15_σ_123 mv16_σ_123 mv27_σ_123; omega) | omega)
                  have kwσ_123 : ∀ j, 0 ≤ j → (j < v1.toInt + 1 ∨ v1.toInt + 8 ≤ j) → m_c X σ_123 a j = m_c X σ a j := fun j h0 h1 => by rw [mcσ_123 j h0, if_neg (by first | (clear hs hw hc2 bhpσ_2 chpσ_2 j15 chpσ_5 dhpσ_5 ehpσ_5 t5σ_7 t6σ_7 t1σ_8 t6σ_8 if_9 c_10 c_11 if_13 c_14 if_89 t6σ_90 t1σ_90 kc_91 ahpσ_93 bhpσ_93 chpσ_93 c_94 kc_110 ahpσ_112 bhpσ_112 chpσ_112 c_113 kc_114 ahpσ_116 chpσ_116 dhpσ_116 ehpσ_116 t6σ_116 t1σ_116 c_118 kc_119 kc_120 ahpσ_122 chpσ_122 dhpσ_122 ehpσ_122 smσ_122 nsσ_122 t5σ_122 t6σ_122 t1σ_122 mv9_σ_123 mv12_σ_123 mv14_σ_123 mv15_σ_123 mv16_σ_123 mv27_σ_123; omega) | omega)]; exact kwσ_122 j h0 h1
                  have smσ_123 : 0 ≤ (σ_123.1 a 15).toInt ∧ (σ_123.1 a 15).toInt ≤ (σ_123.1 a 16).toInt ∧ (σ_123.1 a 16).toInt ≤ (σ_123.1 a 9).toInt ∧ (σ_123.1 a 9).toInt ≤ 900 ∧ 0 ≤ (σ_123.1 a 14).toInt ∧ (σ_123.1 a 14).toInt ≤ 4 ∧ (σ_123.1 a 14).toInt ≤ 4 * ((σ_123.1 a 16).toInt - (σ_123.1 a 15).toInt) ∧ (σ_123.1 a 14).toInt ≤ 4 * ((σ_123.1 a 9).toInt - (σ_123.1 a 15).toInt) ∧ 0 ≤ (σ_123.1 a 12).toInt ∧ (σ_123.1 a 9).toInt = (σ.1 a 9).toInt ∧ (σ.1 a 15).toInt ≤ (σ_123.1 a 15).toInt ∧ (σ.1 a 12).toInt ≤ (σ_123.1 a 12).toInt := (by first | (rw [mv12_σ_123, mv14_σ_123, mv15_σ_123, mv16_σ_123, mv9_σ_123]; exact smσ_122) | omega)
                  have nsσ_123 : (σ_123.1 a 27).toInt = (σ.1 a 27).toInt := (by first | (clear hs hw hc2 bhpσ_2 chpσ_2 j15 chpσ_5 dhpσ_5 ehpσ_5 iz_6 t5σ_7 t6σ_7 t1σ_8 t6σ_8 if_9 c_10 c_11 iz_12 if_13 c_14 if_89 t6σ_90 t1σ_90 kc_91 ahpσ_93 bhpσ_93 chpσ_93 c_94 kc_110 ahpσ_112 bhpσ_112 chpσ_112 c_113 kc_114 ahpσ_116 chpσ_116 dhpσ_116 ehpσ_116 t6σ_116 t1σ_116 iz_117 c_118 kc_119 kc_120 ahpσ_122 chpσ_122 dhpσ_122 ehpσ_122 smσ_122 t5σ_122 t6σ_122 t1σ_122 mv9_σ_123 mv12_σ_123 mv14_σ_123 mv15_σ_123 mv16_σ_123 smσ_123; omega) | omega)
                  have t5σ_123 : 0 ≤ r_1.toInt + (σ_123.1 a 12).toInt := (by first | (clear hs hw hc2 bhpσ_2 chpσ_2 j15 chpσ_5 dhpσ_5 ehpσ_5 iz_6 t5σ_7 t1σ_8 if_9 c_10 c_11 iz_12 if_13 c_14 if_89 t1σ_90 kc_91 ahpσ_93 bhpσ_93 chpσ_93 c_94 kc_110 ahpσ_112 bhpσ_112 chpσ_112 c_113 kc_114 ahpσ_116 chpσ_116 dhpσ_116 ehpσ_116 t1σ_116 iz_117 c_118 kc_119 kc_120 ahpσ_122 chpσ_122 dhpσ_122 ehpσ_122 smσ_122 nsσ_122 t1σ_122 mv9_σ_123 mv14_σ_123 mv15_σ_123 mv16_σ_123 mv27_σ_123 smσ_123 nsσ_123; omega) | omega)
                  have t6σ_123 : m_c X σ_123 a (v1.toInt + 6) = r_1.toInt := (by rw [mcσ_123 (v1.toInt + 6) (by first | (clear hs hc2 bhpσ_2 chpσ_2 j15 chpσ_5 dhpσ_5 ehpσ_5 t5σ_7 t6σ_7 t1σ_8 t6σ_8 if_9 c_10 c_11 if_13 c_14 if_89 t6σ_90 t1σ_90 kc_91 ahpσ_93 bhpσ_93 chpσ_93 c_94 kc_110 ahpσ_112 bhpσ_112 chpσ_112 c_113 kc_114 ahpσ_116 chpσ_116 dhpσ_116 ehpσ_116 t6σ_116 t1σ_116 c_118 kc_119 kc_120 ahpσ_122 chpσ_122 dhpσ_122 ehpσ_122 smσ_122 nsσ_122 t5σ_122 t6σ_122 t1σ_122 mv9_σ_123 mv12_σ_123 mv14_σ_123 mv15_σ_123 mv16_σ_123 mv27_σ_123 smσ_123 nsσ_123 t5σ_123; omega) | omega), if_neg (by first | (clear hs hw hc2 bhpσ_2 chpσ_2 j15 chpσ_5 dhpσ_5 ehpσ_5 iz_6 t5σ_7 t6σ_7 t1σ_8 t6σ_8 if_9 c_10 c_11 iz_12 if_13 c_14 if_89 t6σ_90 t1σ_90 kc_91 ahpσ_93 bhpσ_93 chpσ_93 c_94 kc_110 ahpσ_112 bhpσ_112 chpσ_112 c_113 kc_114 ahpσ_116 chpσ_116 dhpσ_116 ehpσ_116 t6σ_116 t1σ_116 iz_117 c_118 kc_119 kc_120 ahpσ_122 chpσ_122 dhpσ_122 ehpσ_122 smσ_122 nsσ_122 t5σ_122 t6σ_122 t1σ_122 mv9_σ_123 mv12_σ_123 mv14_σ_123 mv15_σ_123 mv16_σ_123 mv27_σ_123 smσ_123 nsσ_123 t5σ_123; omega) | omega)]; exact t6σ_122)
                  have t1σ_123 : m_t1 (m_c X σ_123 a) v1.toInt := m_t1.k t1σ_122 (by rw [mcσ_123 (v1.toInt + 6) (by first | (clear hs hc2 bhpσ_2 chpσ_2 j15 chpσ_5 dhpσ_5 ehpσ_5 t5σ_7 t6σ_7 t1σ_8 t6σ_8 if_9 c_10 c_11 if_13 c_14 if_89 t6σ_90 t1σ_90 kc_91 ahpσ_93 bhpσ_93 chpσ_93 c_94 kc_110 ahpσ_112 bhpσ_112 chpσ_112 c_113 kc_114 ahpσ_116 chpσ_116 dhpσ_116 ehpσ_116 t6σ_116 t1σ_116 c_118 kc_119 kc_120 ahpσ_122 chpσ_122 dhpσ_122 ehpσ_122 smσ_122 nsσ_122 t5σ_122 t6σ_122 t1σ_122 mv9_σ_123 mv12_σ_123 mv14_σ_123 mv15_σ_123 mv16_σ_123 mv27_σ_123 smσ_123 nsσ_123 t5σ_123 t6σ_123; omega) | omega), if_neg (by first | (clear hs hw hc2 bhpσ_2 chpσ_2 j15 chpσ_5 dhpσ_5 ehpσ_5 iz_6 t5σ_7 t6σ_7 t1σ_8 t6σ_8 if_9 c_10 c_11 iz_12 if_13 c_14 if_89 t6σ_90 t1σ_90 kc_91 ahpσ_93 bhpσ_93 chpσ_93 c_94 kc_110 ahpσ_112 bhpσ_112 chpσ_112 c_113 kc_114 ahpσ_116 chpσ_116 dhpσ_116 ehpσ_116 t6σ_116 t1σ_116 iz_117 c_118 kc_119 kc_120 ahpσ_122 chpσ_122 dhpσ_122 ehpσ_122 smσ_122 nsσ_122 t5σ_122 t6σ_122 t1σ_122 mv9_σ_123 mv12_σ_123 mv14_σ_123 mv15_σ_123 mv16_σ_123 mv27_σ_123 smσ_123 nsσ_123 t5σ_123 t6σ_123; omega) | omega)]) (by rw [mcσ_123 (v1.toInt + 1) (by first | (clear hs hc2 bhpσ_2 chpσ_2 j15 chpσ_5 dhpσ_5 ehpσ_5 t5σ_7 t6σ_7 t1σ_8 t6σ_8 if_9 c_10 c_11 if_13 c_14 if_89 t6σ_90 t1σ_90 kc_91 ahpσ_93 bhpσ_93 chpσ_93 c_94 kc_110 ahpσ_112 bhpσ_112 chpσ_112 c_113 kc_114 ahpσ_116 chpσ_116 dhpσ_116 ehpσ_116 t6σ_116 t1σ_116 c_118 kc_119 kc_120 ahpσ_122 chpσ_122 dhpσ_122 ehpσ_122 smσ_122 nsσ_122 t5σ_122 t6σ_122 t1σ_122 mv9_σ_123 mv12_σ_123 mv14_σ_123 mv15_σ_123 mv16_σ_123 mv27_σ_123 smσ_123 nsσ_123 t5σ_123 t6σ_123; omega) | omega), if_neg (by first | (clear hs hw hc2 bhpσ_2 chpσ_2 j15 chpσ_5 dhpσ_5 ehpσ_5 iz_6 t5σ_7 t6σ_7 t1σ_8 t6σ_8 if_9 c_10 c_11 iz_12 if_13 c_14 if_89 t6σ_90 t1σ_90 kc_91 ahpσ_93 bhpσ_93 chpσ_93 c_94 kc_110 ahpσ_112 bhpσ_112 chpσ_112 c_113 kc_114 ahpσ_116 chpσ_116 dhpσ_116 ehpσ_116 t6σ_116 t1σ_116 iz_117 c_118 kc_119 kc_120 ahpσ_122 chpσ_122 dhpσ_122 ehpσ_122 smσ_122 nsσ_122 t5σ_122 t6σ_122 t1σ_122 mv9_σ_123 mv12_σ_123 mv14_σ_123 mv15_σ_123 mv16_σ_123 mv27_σ_123 smσ_123 nsσ_123 t5σ_123 t6σ_123; omega) | omega)])
                  clear mv9_σ_123 mv12_σ_123 mv14_σ_123 mv15_σ_123 mv16_σ_123 mv27_σ_123 smσ_122 nsσ_122 t5σ_122
                  rewrite [hQQ]; exact q_retv E hr hlk hI ⟨kwσ_123, (by first | exact smσ_123 | omega), nsσ_123, (fun e => ⟨by rw [t6σ_123]; omega, t1σ_123⟩), (hF.trans hout), fr_σ_123⟩ dX12_readTest_150
                · skip
                  replace hF := q_ifp hF c_118
                  refine lv_sipush (v := 999) hx hb dX12_readTest_138 zks_999 ?_
                  refine lv_goto (tgt := 146) hx hb dX12_readTest_141 (by decide) ?_
                  have kc_124 : (0 : Int32).toInt = 0 := zt_0
                  have kc_125 : (999 : Int32).toInt = 999 := zt_999
                  refine q_ci (q_rV11_2 (rest := [.int z_117, .ref (q_rf X a 20)]) E (hml.trans hl.1.symm) hI (c_X12_count l X σ_116 a (0 : Int32) (999 : Int32) ha (by first | exact sm_9 smσ_116 | exact hs | omega) (by first | (clear hs hw hc2 bhpσ_2 chpσ_2 j15 chpσ_5 dhpσ_5 ehpσ_5 iz_6 t5σ_7 t6σ_7 t1σ_8 t6σ_8 if_9 c_10 c_11 iz_12 if_13 c_14 if_89 t6σ_90 t1σ_90 kc_91 ahpσ_93 bhpσ_93 chpσ_93 c_94 kc_110 ahpσ_112 bhpσ_112 chpσ_112 c_113 kc_114 ahpσ_116 chpσ_116 dhpσ_116 ehpσ_116 t6σ_116 t1σ_116 iz_117 c_118; omega) | omega)) kv_X12_223 ha ⟨Nat.le_of_ble_eq_true rfl, Nat.le_of_ble_eq_true rfl⟩ (Nat.le_of_ble_eq_true rfl) dX12_readTest_146) hI (Nat.le_of_ble_eq_true rfl) (fun r_126 σ_127 H locs hpσ_127 hkσ_127 hI => ?_)
                  have ahpσ_127 := hpσ_127.1
                  have bhpσ_127 := hpσ_127.2.1
                  have chpσ_127 := hpσ_127.2.2.1
                  have dhpσ_127 := hpσ_127.2.2.2.1
                  have ehpσ_127 := hpσ_127.2.2.2.2
                  clear hpσ_127
                  have fr_σ_127 := fr_σ_116.call ehpσ_127 rfl rfl
                  replace hF := q_biX hF dhpσ_127
                  have mv27_σ_127 : (σ_127.1 a 27).toInt = (σ_116.1 a 27).toInt := congrArg Int32.toInt (ahpσ_127 a 27 (q_cl9 _ _) (fun h => absurd h.2.2 (by decide)))
                  have mcσ_127 := m_cK hkσ_127 hI.1 ha (by decide)
                  have kwσ_127 : ∀ j, 0 ≤ j → (j < v1.toInt + 1 ∨ v1.toInt + 8 ≤ j) → m_c X σ_127 a j = m_c X σ a j := fun j h0 h1 => (mcσ_127 j).trans (kwσ_116 j h0 h1)
                  have smσ_127 : 0 ≤ (σ_127.1 a 15).toInt ∧ (σ_127.1 a 15).toInt ≤ (σ_127.1 a 16).toInt ∧ (σ_127.1 a 16).toInt ≤ (σ_127.1 a 9).toInt ∧ (σ_127.1 a 9).toInt ≤ 900 ∧ 0 ≤ (σ_127.1 a 14).toInt ∧ (σ_127.1 a 14).toInt ≤ 4 ∧ (σ_127.1 a 14).toInt ≤ 4 * ((σ_127.1 a 16).toInt - (σ_127.1 a 15).toInt) ∧ (σ_127.1 a 14).toInt ≤ 4 * ((σ_127.1 a 9).toInt - (σ_127.1 a 15).toInt) ∧ 0 ≤ (σ_127.1 a 12).toInt ∧ (σ_127.1 a 9).toInt = (σ.1 a 9).toInt ∧ (σ.1 a 15).toInt ≤ (σ_127.1 a 15).toInt ∧ (σ.1 a 12).toInt ≤ (σ_127.1 a 12).toInt := (by first | exact sm_tr smσ_116 bhpσ_127 | exact sm_tr smσ_116 chpσ_127 | omega)
                  have nsσ_127 : (σ_127.1 a 27).toInt = (σ.1 a 27).toInt := (by first | (clear hs hw hc2 bhpσ_2 chpσ_2 j15 chpσ_5 dhpσ_5 ehpσ_5 iz_6 t5σ_7 t6σ_7 t1σ_8 t6σ_8 if_9 c_10 c_11 iz_12 if_13 c_14 if_89 t6σ_90 t1σ_90 kc_91 ahpσ_93 bhpσ_93 chpσ_93 c_94 kc_110 ahpσ_112 bhpσ_112 chpσ_112 c_113 kc_114 ahpσ_116 chpσ_116 dhpσ_116 ehpσ_116 t6σ_116 t1σ_116 iz_117 c_118 kc_124 kc_125 ahpσ_127 bhpσ_127 chpσ_127 dhpσ_127 ehpσ_127 smσ_127; omega) | omega)
                  have t5σ_127 : 0 ≤ r_1.toInt + (σ_127.1 a 12).toInt := (by first | (clear hs hw hc2 bhpσ_2 chpσ_2 j15 chpσ_5 dhpσ_5 ehpσ_5 iz_6 t5σ_7 t1σ_8 if_9 c_10 c_11 iz_12 if_13 c_14 if_89 t1σ_90 kc_91 ahpσ_93 bhpσ_93 chpσ_93 c_94 kc_110 ahpσ_112 bhpσ_112 chpσ_112 c_113 kc_114 ahpσ_116 chpσ_116 dhpσ_116 ehpσ_116 t1σ_116 iz_117 kc_124 kc_125 ahpσ_127 chpσ_127 dhpσ_127 ehpσ_127 mv27_σ_127 smσ_127 nsσ_127; omega) | omega)
                  have t6σ_127 : m_c X σ_127 a (v1.toInt + 6) = r_1.toInt := (mcσ_127 _).trans t6σ_116
                  have t1σ_127 : m_t1 (m_c X σ_127 a) v1.toInt := m_t1.k t1σ_116 (mcσ_127 _) (mcσ_127 _)
                  clear mv27_σ_127 smσ_116 nsσ_116 t5σ_116 bhpσ_127
                  refine q_iastN E hI (q_tk (k' := 34) hI ha rfl (Nat.succ_ne_zero _)) ⟨by decide, rfl⟩ (by first | (clear hs hc2 bhpσ_2 chpσ_2 j15 chpσ_5 dhpσ_5 ehpσ_5 t5σ_7 t6σ_7 t1σ_8 t6σ_8 if_9 c_10 c_11 if_13 c_14 if_89 t6σ_90 t1σ_90 kc_91 ahpσ_93 bhpσ_93 chpσ_93 c_94 kc_110 ahpσ_112 bhpσ_112 chpσ_112 c_113 kc_114 ahpσ_116 chpσ_116 dhpσ_116 ehpσ_116 t6σ_116 t1σ_116 c_118 kc_124 kc_125 ahpσ_127 chpσ_127 dhpσ_127 ehpσ_127 smσ_127 nsσ_127 t5σ_127 t6σ_127 t1σ_127; omega) | omega) (by rw [q_lnk (v := 4650) hI (q_tk (k' := 34) hI ha rfl (Nat.succ_ne_zero _)) rfl (by decide)]; omega) (show 1 < 2 by decide) (q_inU rfl) dX12_readTest_149 (fun H locs σ_128 hσ_128 hI => ?_)
                  replace hF := q_letX hF hσ_128
                  have fr_σ_128 := fr_σ_127.si hσ_128 (q_tk (k' := 34) hI ha rfl (Nat.succ_ne_zero _)) rfl
                  have mv9_σ_128 : (σ_128.1 a 9).toInt = (σ_127.1 a 9).toInt := congrArg Int32.toInt (q_rdn hσ_128 (Or.inl (m_ne ha (q_tk (k' := 34) hI ha rfl (Nat.succ_ne_zero _)) (by decide))))
                  have mv12_σ_128 : (σ_128.1 a 12).toInt = (σ_127.1 a 12).toInt := congrArg Int32.toInt (q_rdn hσ_128 (Or.inl (m_ne ha (q_tk (k' := 34) hI ha rfl (Nat.succ_ne_zero _)) (by decide))))
                  have mv14_σ_128 : (σ_128.1 a 14).toInt = (σ_127.1 a 14).toInt := congrArg Int32.toInt (q_rdn hσ_128 (Or.inl (m_ne ha (q_tk (k' := 34) hI ha rfl (Nat.succ_ne_zero _)) (by decide))))
                  have mv15_σ_128 : (σ_128.1 a 15).toInt = (σ_127.1 a 15).toInt := congrArg Int32.toInt (q_rdn hσ_128 (Or.inl (m_ne ha (q_tk (k' := 34) hI ha rfl (Nat.succ_ne_zero _)) (by decide))))
                  have mv16_σ_128 : (σ_128.1 a 16).toInt = (σ_127.1 a 16).toInt := congrArg Int32.toInt (q_rdn hσ_128 (Or.inl (m_ne ha (q_tk (k' := 34) hI ha rfl (Nat.succ_ne_zero _)) (by decide))))
                  have mv27_σ_128 : (σ_128.1 a 27).toInt = (σ_127.1 a 27).toInt := congrArg Int32.toInt (q_rdn hσ_128 (Or.inl (m_ne ha (q_tk (k' := 34) hI ha rfl (Nat.succ_ne_zero _)) (by decide))))
                  have mcσ_128 := m_wr (v := r_126) (A := (v1.toInt + 2)) hσ_128 iz_117 (by first | (clear hs hc2 bhpσ_2 chpσ_2 j15 chpσ_5 dhpσ_5 ehpσ_5 t5σ_7 t6σ_7 t1σ_8 t6σ_8 if_9 c_10 c_11 if_13 c_14 if_89 t6σ_90 t1σ_90 kc_91 ahpσ_93 bhpσ_93 chpσ_93 c_94 kc_110 ahpσ_112 bhpσ_112 chpσ_112 c_113 kc_114 ahpσ_116 chpσ_116 dhpσ_116 ehpσ_116 t6σ_116 t1σ_116 c_118 kc_124 kc_125 ahpσ_127 chpσ_127 dhpσ_127 ehpσ_127 smσ_127 nsσ_127 t5σ_127 t6σ_127 t1σ_127 mv9_σ_128 mv12_σ_128 mv14_σ_128 mv15_σ_128 mv16_σ_128 mv27_σ_128; omega) | omega)
                  have kwσ_128 : ∀ j, 0 ≤ j → (j < v1.toInt + 1 ∨ v1.toInt + 8 ≤ j) → m_c X σ_128 a j = m_c X σ a j := fun j h0 h1 => by rw [mcσ_128 j h0, if_neg (by first | (clear hs hw hc2 bhpσ_2 chpσ_2 j15 chpσ_5 dhpσ_5 ehpσ_5 t5σ_7 t6σ_7 t1σ_8 t6σ_8 if_9 c_10 c_11 if_13 c_14 if_89 t6σ_90 t1σ_90 kc_91 ahpσ_93 bhpσ_93 chpσ_93 c_94 kc_110 ahpσ_112 bhpσ_112 chpσ_112 c_113 kc_114 ahpσ_116 chpσ_116 dhpσ_116 ehpσ_116 t6σ_116 t1σ_116 c_118 kc_124 kc_125 ahpσ_127 chpσ_127 dhpσ_127 ehpσ_127 smσ_127 nsσ_127 t5σ_127 t6σ_127 t1σ_127 mv9_σ_128 mv12_σ_128 mv14_σ_128 mv15_σ_128 mv16_σ_128 mv27_σ_128; omega) | omega)]; exact kwσ_127 j h0 h1
                  have smσ_128 : 0 ≤ (σ_128.1 a 15).toInt ∧ (σ_128.1 a 15).toInt ≤ (σ_128.1 a 16).toInt ∧ (σ_128.1 a 16).toInt ≤ (σ_128.1 a 9).toInt ∧ (σ_128.1 a 9).toInt ≤ 900 ∧ 0 ≤ (σ_128.1 a 14).toInt ∧ (σ_128.1 a 14).toInt ≤ 4 ∧ (σ_128.1 a 14).toInt ≤ 4 * ((σ_128.1 a 16).toInt - (σ_128.1 a 15).toInt) ∧ (σ_128.1 a 14).toInt ≤ 4 * ((σ_128.1 a 9).toInt - (σ_128.1 a 15).toInt) ∧ 0 ≤ (σ_128.1 a 12).toInt ∧ (σ_128.1 a 9).toInt = (σ.1 a 9).toInt ∧ (σ.1 a 15).toInt ≤ (σ_128.1 a 15).toInt ∧ (σ.1 a 12).toInt ≤ (σ_128.1 a 12).toInt := (by first | (rw [mv12_σ_128, mv14_σ_128, mv15_σ_128, mv16_σ_128, mv9_σ_128]; exact smσ_127) | omega)
                  have nsσ_128 : (σ_128.1 a 27).toInt = (σ.1 a 27).toInt := (by first | (clear hs hw hc2 bhpσ_2 chpσ_2 j15 chpσ_5 dhpσ_5 ehpσ_5 iz_6 t5σ_7 t6σ_7 t1σ_8 t6σ_8 if_9 c_10 c_11 iz_12 if_13 c_14 if_89 t6σ_90 t1σ_90 kc_91 ahpσ_93 bhpσ_93 chpσ_93 c_94 kc_110 ahpσ_112 bhpσ_112 chpσ_112 c_113 kc_114 ahpσ_116 chpσ_116 dhpσ_116 ehpσ_116 t6σ_116 t1σ_116 iz_117 c_118 kc_124 kc_125 ahpσ_127 chpσ_127 dhpσ_127 ehpσ_127 smσ_127 t5σ_127 t6σ_127 t1σ_127 mv9_σ_128 mv12_σ_128 mv14_σ_128 mv15_σ_128 mv16_σ_128 smσ_128; omega) | omega)
                  have t5σ_128 : 0 ≤ r_1.toInt + (σ_128.1 a 12).toInt := (by first | (clear hs hw hc2 bhpσ_2 chpσ_2 j15 chpσ_5 dhpσ_5 ehpσ_5 iz_6 t5σ_7 t1σ_8 if_9 c_10 c_11 iz_12 if_13 c_14 if_89 t1σ_90 kc_91 ahpσ_93 bhpσ_93 chpσ_93 c_94 kc_110 ahpσ_112 bhpσ_112 chpσ_112 c_113 kc_114 ahpσ_116 chpσ_116 dhpσ_116 ehpσ_116 t1σ_116 iz_117 kc_124 kc_125 ahpσ_127 chpσ_127 dhpσ_127 ehpσ_127 nsσ_127 t5σ_127 t6σ_127 t1σ_127 mv9_σ_128 mv14_σ_128 mv15_σ_128 mv16_σ_128 mv27_σ_128 smσ_128 nsσ_128; omega) | omega)
                  have t6σ_128 : m_c X σ_128 a (v1.toInt + 6) = r_1.toInt := (by rw [mcσ_128 (v1.toInt + 6) (by first | (clear hs hc2 bhpσ_2 chpσ_2 j15 chpσ_5 dhpσ_5 ehpσ_5 t5σ_7 t6σ_7 t1σ_8 t6σ_8 if_9 c_10 c_11 if_13 c_14 if_89 t6σ_90 t1σ_90 kc_91 ahpσ_93 bhpσ_93 chpσ_93 c_94 kc_110 ahpσ_112 bhpσ_112 chpσ_112 c_113 kc_114 ahpσ_116 chpσ_116 dhpσ_116 ehpσ_116 t6σ_116 t1σ_116 c_118 kc_124 kc_125 ahpσ_127 chpσ_127 dhpσ_127 ehpσ_127 smσ_127 nsσ_127 t5σ_127 t6σ_127 t1σ_127 mv9_σ_128 mv12_σ_128 mv14_σ_128 mv15_σ_128 mv16_σ_128 mv27_σ_128 smσ_128 nsσ_128 t5σ_128; omega) | omega), if_neg (by first | (clear hs hw hc2 bhpσ_2 chpσ_2 j15 chpσ_5 dhpσ_5 ehpσ_5 iz_6 t5σ_7 t6σ_7 t1σ_8 t6σ_8 if_9 c_10 c_11 iz_12 if_13 c_14 if_89 t6σ_90 t1σ_90 kc_91 ahpσ_93 bhpσ_93 chpσ_93 c_94 kc_110 ahpσ_112 bhpσ_112 chpσ_112 c_113 kc_114 ahpσ_116 chpσ_116 dhpσ_116 ehpσ_116 t6σ_116 t1σ_116 iz_117 c_118 kc_124 kc_125 ahpσ_127 chpσ_127 dhpσ_127 ehpσ_127 smσ_127 nsσ_127 t5σ_127 t6σ_127 t1σ_127 mv9_σ_128 mv12_σ_128 mv14_σ_128 mv15_σ_128 mv16_σ_128 mv27_σ_128 smσ_128 nsσ_128 t5σ_128; omega) | omega)]; exact t6σ_127)
                  have t1σ_128 : m_t1 (m_c X σ_128 a) v1.toInt := m_t1.k t1σ_127 (by rw [mcσ_128 (v1.toInt + 6) (by first | (clear hs hc2 bhpσ_2 chpσ_2 j15 chpσ_5 dhpσ_5 ehpσ_5 t5σ_7 t6σ_7 t1σ_8 t6σ_8 if_9 c_10 c_11 if_13 c_14 if_89 t6σ_90 t1σ_90 kc_91 ahpσ_93 bhpσ_93 chpσ_93 c_94 kc_110 ahpσ_112 bhpσ_112 chpσ_112 c_113 kc_114 ahpσ_116 chpσ_116 dhpσ_116 ehpσ_116 t6σ_116 t1σ_116 c_118 kc_124 kc_125 ahpσ_127 chpσ_127 dhpσ_127 ehpσ_127 smσ_127 nsσ_127 t5σ_127 t6σ_127 t1σ_127 mv9_σ_128 mv12_σ_128 mv14_σ_128 mv15_σ_128 mv16_σ_128 mv27_σ_128 smσ_128 nsσ_128 t5σ_128 t6σ_128; omega) | omega), if_neg (by first | (clear hs hw hc2 bhpσ_2 chpσ_2 j15 chpσ_5 dhpσ_5 ehpσ_5 iz_6 t5σ_7 t6σ_7 t1σ_8 t6σ_8 if_9 c_10 c_11 iz_12 if_13 c_14 if_89 t6σ_90 t1σ_90 kc_91 ahpσ_93 bhpσ_93 chpσ_93 c_94 kc_110 ahpσ_112 bhpσ_112 chpσ_112 c_113 kc_114 ahpσ_116 chpσ_116 dhpσ_116 ehpσ_116 t6σ_116 t1σ_116 iz_117 c_118 kc_124 kc_125 ahpσ_127 chpσ_127 dhpσ_127 ehpσ_127 smσ_127 nsσ_127 t5σ_127 t6σ_127 t1σ_127 mv9_σ_128 mv12_σ_128 mv14_σ_128 mv15_σ_128 mv16_σ_128 mv27_σ_128 smσ_128 nsσ_128 t5σ_128 t6σ_128; omega) | omega)]) (by rw [mcσ_128 (v1.toInt + 1) (by first | (clear hs hc2 bhpσ_2 chpσ_2 j15 chpσ_5 dhpσ_5 ehpσ_5 t5σ_7 t6σ_7 t1σ_8 t6σ_8 if_9 c_10 c_11 if_13 c_14 if_89 t6σ_90 t1σ_90 kc_91 ahpσ_93 bhpσ_93 chpσ_93 c_94 kc_110 ahpσ_112 bhpσ_112 chpσ_112 c_113 kc_114 ahpσ_116 chpσ_116 dhpσ_116 ehpσ_116 t6σ_116 t1σ_116 c_118 kc_124 kc_125 ahpσ_127 chpσ_127 dhpσ_127 ehpσ_127 smσ_127 nsσ_127 t5σ_127 t6σ_127 t1σ_127 mv9_σ_128 mv12_σ_128 mv14_σ_128 mv15_σ_128 mv16_σ_128 mv27_σ_128 smσ_128 nsσ_128 t5σ_128 t6σ_128; omega) | omega), if_neg (by first | (clear hs hw hc2 bhpσ_2 chpσ_2 j15 chpσ_5 dhpσ_5 ehpσ_5 iz_6 t5σ_7 t6σ_7 t1σ_8 t6σ_8 if_9 c_10 c_11 iz_12 if_13 c_14 if_89 t6σ_90 t1σ_90 kc_91 ahpσ_93 bhpσ_93 chpσ_93 c_94 kc_110 ahpσ_112 bhpσ_112 chpσ_112 c_113 kc_114 ahpσ_116 chpσ_116 dhpσ_116 ehpσ_116 t6σ_116 t1σ_116 iz_117 c_118 kc_124 kc_125 ahpσ_127 chpσ_127 dhpσ_127 ehpσ_127 smσ_127 nsσ_127 t5σ_127 t6σ_127 t1σ_127 mv9_σ_128 mv12_σ_128 mv14_σ_128 mv15_σ_128 mv16_σ_128 mv27_σ_128 smσ_128 nsσ_128 t5σ_128 t6σ_128; omega) | omega)])
                  clear mv9_σ_128 mv12_σ_128 mv14_σ_128 mv15_σ_128 mv16_σ_128 mv27_σ_128 smσ_127 nsσ_127 t5σ_127
                  rewrite [hQQ]; exact q_retv E hr hlk hI ⟨kwσ_128, (by first | exact smσ_128 | omega), nsσ_128, (fun e => ⟨by rw [t6σ_128]; omega, t1σ_128⟩), (hF.trans hout), fr_σ_128⟩ dX12_readTest_150
              · skip
                replace hF := q_ifp hF c_113
                refine lv_aload_n hx hb dX12_readTest_107 rfl (lv_at hl 0 rfl) ?_
                refine lv_bipush (v := 61) hx hb dX12_readTest_108 zkb_61 ?_
                have kc_129 : (61 : Int32).toInt = 61 := zt_61
                refine q_ci (q_rV11_1 (rest := [.ref a]) E (hml.trans hl.1.symm) hI (c_X12_isSign l X σ_90 a (61 : Int32) ha) kv_X12_243 ha ⟨Nat.le_of_ble_eq_true rfl, Nat.le_of_ble_eq_true rfl⟩ (Nat.le_of_ble_eq_true rfl) dX12_readTest_110) hI (Nat.le_of_ble_eq_true rfl) (fun r_130 σ_131 H locs hpσ_131 hkσ_131 hI => ?_)
                have ahpσ_131 := hpσ_131.1
                have bhpσ_131 := hpσ_131.2.1
                have chpσ_131 := hpσ_131.2.2
                clear hpσ_131
                replace hI := q_Irw ahpσ_131 hI
                replace hF := q_letX hF chpσ_131
                refine q_if_eq (A := r_130.toInt) E rfl (tgt := 120) dX12_readTest_113 (by decide) (fun c_132 => ?_) (fun c_132 => ?_)
                · skip
                  replace hF := q_ifp hF c_132
                  refine lv_iconst (v := 0) hx hb dX12_readTest_120 zki_0 ?_
                  have kc_133 : (0 : Int32).toInt = 0 := zt_0
                  refine q_cv (q_rV11_1 (rest := []) E (hml.trans hl.1.symm) hI (c_X12_must l X σ_90 a (0 : Int32) ha (by first | exact sm_9 smσ_90 | exact hs | omega) (by first | (clear hs hw hc2 bhpσ_2 chpσ_2 j15 chpσ_5 dhpσ_5 ehpσ_5 iz_6 t5σ_7 t6σ_7 t1σ_8 t6σ_8 if_9 c_10 c_11 iz_12 if_13 c_14 if_89 t6σ_90 t1σ_90 kc_91 ahpσ_93 bhpσ_93 chpσ_93 c_94 kc_110 ahpσ_112 bhpσ_112 chpσ_112 c_113 kc_129 ahpσ_131 bhpσ_131 chpσ_131 c_132; omega) | omega)) kv_X12_216 ha ⟨Nat.le_of_ble_eq_true rfl, Nat.le_of_ble_eq_true rfl⟩ (Nat.le_of_ble_eq_true rfl) dX12_readTest_121) hI (Nat.le_of_ble_eq_true rfl) (fun σ_135 H locs hpσ_135 hkσ_135 hI => ?_)
                  have ahpσ_135 := hpσ_135.1
                  have bhpσ_135 := hpσ_135.2.1
                  have chpσ_135 := hpσ_135.2.2.1
                  have dhpσ_135 := hpσ_135.2.2.2.1
                  have ehpσ_135 := hpσ_135.2.2.2.2
                  clear hpσ_135
                  have fr_σ_135 := fr_σ_90.call ehpσ_135 rfl rfl
                  replace hF := q_letX hF dhpσ_135
                  have mv27_σ_135 : (σ_135.1 a 27).toInt = (σ_90.1 a 27).toInt := congrArg Int32.toInt (ahpσ_135 a 27 (q_cl9 _ _) (fun h => absurd h.2.2 (by decide)))
                  have mcσ_135 := m_cK hkσ_135 hI.1 ha (by decide)
                  have kwσ_135 : ∀ j, 0 ≤ j → (j < v1.toInt + 1 ∨ v1.toInt + 8 ≤ j) → m_c X σ_135 a j = m_c X σ a j := fun j h0 h1 => (mcσ_135 j).trans (kwσ_90 j h0 h1)
                  have smσ_135 : 0 ≤ (σ_135.1 a 15).toInt ∧ (σ_135.1 a 15).toInt ≤ (σ_135.1 a 16).toInt ∧ (σ_135.1 a 16).toInt ≤ (σ_135.1 a 9).toInt ∧ (σ_135.1 a 9).toInt ≤ 900 ∧ 0 ≤ (σ_135.1 a 14).toInt ∧ (σ_135.1 a 14).toInt ≤ 4 ∧ (σ_135.1 a 14).toInt ≤ 4 * ((σ_135.1 a 16).toInt - (σ_135.1 a 15).toInt) ∧ (σ_135.1 a 14).toInt ≤ 4 * ((σ_135.1 a 9).toInt - (σ_135.1 a 15).toInt) ∧ 0 ≤ (σ_135.1 a 12).toInt ∧ (σ_135.1 a 9).toInt = (σ.1 a 9).toInt ∧ (σ.1 a 15).toInt ≤ (σ_135.1 a 15).toInt ∧ (σ.1 a 12).toInt ≤ (σ_135.1 a 12).toInt := (by first | exact sm_tr smσ_90 bhpσ_135 | exact sm_tr smσ_90 chpσ_135 | omega)
                  have nsσ_135 : (σ_135.1 a 27).toInt = (σ.1 a 27).toInt := (by first | (clear hs hw hc2 bhpσ_2 chpσ_2 j15 chpσ_5 dhpσ_5 ehpσ_5 iz_6 t5σ_7 t6σ_7 t1σ_8 t6σ_8 if_9 c_10 c_11 iz_12 if_13 c_14 if_89 t6σ_90 t1σ_90 kc_91 ahpσ_93 bhpσ_93 chpσ_93 c_94 kc_110 ahpσ_112 bhpσ_112 chpσ_112 c_113 kc_129 ahpσ_131 bhpσ_131 chpσ_131 c_132 kc_133 ahpσ_135 bhpσ_135 chpσ_135 dhpσ_135 ehpσ_135 smσ_135; omega) | omega)
                  have t5σ_135 : 0 ≤ r_1.toInt + (σ_135.1 a 12).toInt := (by first | (clear hs hw hc2 bhpσ_2 chpσ_2 j15 chpσ_5 dhpσ_5 ehpσ_5 iz_6 t5σ_7 t1σ_8 if_9 c_10 c_11 iz_12 if_13 c_14 if_89 t1σ_90 kc_91 ahpσ_93 bhpσ_93 chpσ_93 c_94 kc_110 ahpσ_112 bhpσ_112 chpσ_112 c_113 kc_129 ahpσ_131 bhpσ_131 chpσ_131 c_132 kc_133 ahpσ_135 chpσ_135 dhpσ_135 ehpσ_135 mv27_σ_135 smσ_135 nsσ_135; omega) | omega)
                  have t6σ_135 : m_c X σ_135 a (v1.toInt + 6) = r_1.toInt := (mcσ_135 _).trans t6σ_90
                  have t1σ_135 : m_t1 (m_c X σ_135 a) v1.toInt := m_t1.k t1σ_90 (mcσ_135 _) (mcσ_135 _)
                  clear mv27_σ_135 smσ_90 nsσ_90 t5σ_90 bhpσ_135
                  refine lv_aload_n hx hb dX12_readTest_124 rfl (lv_at hl 0 rfl) ?_
                  refine gs_X12_35_12 E hI ha dX12_readTest_125 ?_
                  refine lv_iload_n hx hb dX12_readTest_128 rfl (lv_at hl 1 rfl) ?_
                  refine lv_iconst (v := 2) hx hb dX12_readTest_129 zki_2 ?_
                  refine lv_iadd hx hb dX12_readTest_130 ?_
                  refine lv_topi (fun z_136 ez_136 => ?_)
                  replace hF := q_letX hF ez_136
                  have iz_136 := q_addI (A := v1.toInt) (B := 2) ez_136 rfl (by decide) (by first | (clear hs hc2 bhpσ_2 chpσ_2 j15 chpσ_5 dhpσ_5 ehpσ_5 t5σ_7 t6σ_7 t1σ_8 t6σ_8 if_9 c_10 c_11 if_13 c_14 if_89 t6σ_90 t1σ_90 kc_91 ahpσ_93 bhpσ_93 chpσ_93 c_94 kc_110 ahpσ_112 bhpσ_112 chpσ_112 c_113 kc_129 ahpσ_131 bhpσ_131 chpσ_131 c_132 kc_133 ahpσ_135 chpσ_135 dhpσ_135 ehpσ_135 smσ_135 nsσ_135 t5σ_135 t6σ_135 t1σ_135; omega) | omega) (by first | (clear hs hc2 bhpσ_2 chpσ_2 j15 chpσ_5 dhpσ_5 ehpσ_5 t5σ_7 t6σ_7 t1σ_8 t6σ_8 if_9 c_10 c_11 if_13 c_14 if_89 t6σ_90 t1σ_90 kc_91 ahpσ_93 bhpσ_93 chpσ_93 c_94 kc_110 ahpσ_112 bhpσ_112 chpσ_112 c_113 kc_129 ahpσ_131 bhpσ_131 chpσ_131 c_132 kc_133 ahpσ_135 chpσ_135 dhpσ_135 ehpσ_135 smσ_135 nsσ_135 t5σ_135 t6σ_135 t1σ_135; omega) | omega)
                  refine lv_aload_n hx hb dX12_readTest_131 rfl (lv_at hl 0 rfl) ?_
                  refine lv_iconst (v := 0) hx hb dX12_readTest_132 zki_0 ?_
                  refine lv_iload_n hx hb dX12_readTest_133 rfl (lv_at hl 2 rfl) ?_
                  refine lv_iconst (v := 2) hx hb dX12_readTest_134 zki_2 ?_
                  refine q_icmp_ne (A := r_1.toInt) (B := 2) E rfl (by decide) (tgt := 144) dX12_readTest_135 (by decide) (fun c_137 => ?_) (fun c_137 => ?_)
                  · skip
                    replace hF := q_ifn hF c_137
                    refine lv_bipush (v := 80) hx hb dX12_readTest_144 zkb_80 ?_
                    have kc_138 : (0 : Int32).toInt = 0 := zt_0
                    have kc_139 : (80 : Int32).toInt = 80 := zt_80
                    refine q_ci (q_rV11_2 (rest := [.int z_136, .ref (q_rf X a 20)]) E (hml.trans hl.1.symm) hI (c_X12_count l X σ_135 a (0 : Int32) (80 : Int32) ha (by first | exact sm_9 smσ_135 | exact hs | omega) (by first | (clear hs hw hc2 bhpσ_2 chpσ_2 j15 chpσ_5 dhpσ_5 ehpσ_5 iz_6 t5σ_7 t6σ_7 t1σ_8 t6σ_8 if_9 c_10 c_11 iz_12 if_13 c_14 if_89 t6σ_90 t1σ_90 kc_91 ahpσ_93 bhpσ_93 chpσ_93 c_94 kc_110 ahpσ_112 bhpσ_112 chpσ_112 c_113 kc_129 ahpσ_131 bhpσ_131 chpσ_131 c_132 ahpσ_135 chpσ_135 dhpσ_135 ehpσ_135 smσ_135 nsσ_135 t5σ_135 t6σ_135 t1σ_135 iz_136 c_137 kc_138; omega) | omega)) kv_X12_223 ha ⟨Nat.le_of_ble_eq_true rfl, Nat.le_of_ble_eq_true rfl⟩ (Nat.le_of_ble_eq_true rfl) dX12_readTest_146) hI (Nat.le_of_ble_eq_true rfl) (fun r_140 σ_141 H locs hpσ_141 hkσ_141 hI => ?_)
                    have ahpσ_141 := hpσ_141.1
                    have bhpσ_141 := hpσ_141.2.1
                    have chpσ_141 := hpσ_141.2.2.1
                    have dhpσ_141 := hpσ_141.2.2.2.1
                    have ehpσ_141 := hpσ_141.2.2.2.2
                    clear hpσ_141
                    have fr_σ_141 := fr_σ_135.call ehpσ_141 rfl rfl
                    replace hF := q_biX hF dhpσ_141
                    have mv27_σ_141 : (σ_141.1 a 27).toInt = (σ_135.1 a 27).toInt := congrArg Int32.toInt (ahpσ_141 a 27 (q_cl9 _ _) (fun h => absurd h.2.2 (by decide)))
                    have mcσ_141 := m_cK hkσ_141 hI.1 ha (by decide)
                    have kwσ_141 : ∀ j, 0 ≤ j → (j < v1.toInt + 1 ∨ v1.toInt + 8 ≤ j) → m_c X σ_141 a j = m_c X σ a j := fun j h0 h1 => (mcσ_141 j).trans (kwσ_135 j h0 h1)
                    have smσ_141 : 0 ≤ (σ_141.1 a 15).toInt ∧ (σ_141.1 a 15).toInt ≤ (σ_141.1 a 16).toInt ∧ (σ_141.1 a 16).toInt ≤ (σ_141.1 a 9).toInt ∧ (σ_141.1 a 9).toInt ≤ 900 ∧ 0 ≤ (σ_141.1 a 14).toInt ∧ (σ_141.1 a 14).toInt ≤ 4 ∧ (σ_141.1 a 14).toInt ≤ 4 * ((σ_141.1 a 16).toInt - (σ_141.1 a 15).toInt) ∧ (σ_141.1 a 14).toInt ≤ 4 * ((σ_141.1 a 9).toInt - (σ_141.1 a 15).toInt) ∧ 0 ≤ (σ_141.1 a 12).toInt ∧ (σ_141.1 a 9).toInt = (σ.1 a 9).toInt ∧ (σ.1 a 15).toInt ≤ (σ_141.1 a 15).toInt ∧ (σ.1 a 12).toInt ≤ (σ_141.1 a 12).toInt := (by first | exact sm_tr smσ_135 bhpσ_141 | exact sm_tr smσ_135 chpσ_141 | omega)
                    have nsσ_141 : (σ_141.1 a 27).toInt = (σ.1 a 27).toInt := (by first | (clear hs hw hc2 bhpσ_2 chpσ_2 j15 chpσ_5 dhpσ_5 ehpσ_5 iz_6 t5σ_7 t6σ_7 t1σ_8 t6σ_8 if_9 c_10 c_11 iz_12 if_13 c_14 if_89 t6σ_90 t1σ_90 kc_91 ahpσ_93 bhpσ_93 chpσ_93 c_94 kc_110 ahpσ_112 bhpσ_112 chpσ_112 c_113 kc_129 ahpσ_131 bhpσ_131 chpσ_131 c_132 kc_133 ahpσ_135 chpσ_135 dhpσ_135 ehpσ_135 smσ_135 t5σ_135 t6σ_135 t1σ_135 iz_136 c_137 kc_138 kc_139 ahpσ_141 bhpσ_141 chpσ_141 dhpσ_141 ehpσ_141 smσ_141; omega) | omega)
                    have t5σ_141 : 0 ≤ r_1.toInt + (σ_141.1 a 12).toInt := (by first | (clear hs hw hc2 bhpσ_2 chpσ_2 j15 chpσ_5 dhpσ_5 ehpσ_5 iz_6 t5σ_7 t1σ_8 if_9 c_10 c_11 iz_12 if_13 c_14 if_89 t1σ_90 kc_91 ahpσ_93 bhpσ_93 chpσ_93 c_94 kc_110 ahpσ_112 bhpσ_112 chpσ_112 c_113 kc_129 ahpσ_131 bhpσ_131 chpσ_131 c_132 kc_133 ahpσ_135 chpσ_135 dhpσ_135 ehpσ_135 smσ_135 nsσ_135 t1σ_135 iz_136 c_137 kc_138 kc_139 ahpσ_141 chpσ_141 dhpσ_141 ehpσ_141 mv27_σ_141 smσ_141 nsσ_141; omega) | omega)
                    have t6σ_141 : m_c X σ_141 a (v1.toInt + 6) = r_1.toInt := (mcσ_141 _).trans t6σ_135
                    have t1σ_141 : m_t1 (m_c X σ_141 a) v1.toInt := m_t1.k t1σ_135 (mcσ_141 _) (mcσ_141 _)
                    clear mv27_σ_141 smσ_135 nsσ_135 t5σ_135 bhpσ_141
                    refine q_iastN E hI (q_tk (k' := 34) hI ha rfl (Nat.succ_ne_zero _)) ⟨by decide, rfl⟩ (by first | (clear hs hc2 bhpσ_2 chpσ_2 j15 chpσ_5 dhpσ_5 ehpσ_5 t5σ_7 t6σ_7 t1σ_8 t6σ_8 if_9 c_10 c_11 if_13 c_14 if_89 t6σ_90 t1σ_90 kc_91 ahpσ_93 bhpσ_93 chpσ_93 c_94 kc_110 ahpσ_112 bhpσ_112 chpσ_112 c_113 kc_129 ahpσ_131 bhpσ_131 chpσ_131 c_132 kc_133 ahpσ_135 chpσ_135 dhpσ_135 ehpσ_135 t6σ_135 t1σ_135 c_137 kc_138 kc_139 ahpσ_141 chpσ_141 dhpσ_141 ehpσ_141 smσ_141 nsσ_141 t5σ_141 t6σ_141 t1σ_141; omega) | omega) (by rw [q_lnk (v := 4650) hI (q_tk (k' := 34) hI ha rfl (Nat.succ_ne_zero _)) rfl (by decide)]; omega) (show 1 < 2 by decide) (q_inU rfl) dX12_readTest_149 (fun H locs σ_142 hσ_142 hI => ?_)
                    replace hF := q_letX hF hσ_142
                    have fr_σ_142 := fr_σ_141.si hσ_142 (q_tk (k' := 34) hI ha rfl (Nat.succ_ne_zero _)) rfl
                    have mv9_σ_142 : (σ_142.1 a 9).toInt = (σ_141.1 a 9).toInt := congrArg Int32.toInt (q_rdn hσ_142 (Or.inl (m_ne ha (q_tk (k' := 34) hI ha rfl (Nat.succ_ne_zero _)) (by decide))))
                    have mv12_σ_142 : (σ_142.1 a 12).toInt = (σ_141.1 a 12).toInt := congrArg Int32.toInt (q_rdn hσ_142 (Or.inl (m_ne ha (q_tk (k' := 34) hI ha rfl (Nat.succ_ne_zero _)) (by decide))))
                    have mv14_σ_142 : (σ_142.1 a 14).toInt = (σ_141.1 a 14).toInt := congrArg Int32.toInt (q_rdn hσ_142 (Or.inl (m_ne ha (q_tk (k' := 34) hI ha rfl (Nat.succ_ne_zero _)) (by decide))))
                    have mv15_σ_142 : (σ_142.1 a 15).toInt = (σ_141.1 a 15).toInt := congrArg Int32.toInt (q_rdn hσ_142 (Or.inl (m_ne ha (q_tk (k' := 34) hI ha rfl (Nat.succ_ne_zero _)) (by decide))))
                    have mv16_σ_142 : (σ_142.1 a 16).toInt = (σ_141.1 a 16).toInt := congrArg Int32.toInt (q_rdn hσ_142 (Or.inl (m_ne ha (q_tk (k' := 34) hI ha rfl (Nat.succ_ne_zero _)) (by decide))))
                    have mv27_σ_142 : (σ_142.1 a 27).toInt = (σ_141.1 a 27).toInt := congrArg Int32.toInt (q_rdn hσ_142 (Or.inl (m_ne ha (q_tk (k' := 34) hI ha rfl (Nat.succ_ne_zero _)) (by decide))))
                    have mcσ_142 := m_wr (v := r_140) (A := (v1.toInt + 2)) hσ_142 iz_136 (by first | (clear hs hc2 bhpσ_2 chpσ_2 j15 chpσ_5 dhpσ_5 ehpσ_5 t5σ_7 t6σ_7 t1σ_8 t6σ_8 if_9 c_10 c_11 if_13 c_14 if_89 t6σ_90 t1σ_90 kc_91 ahpσ_93 bhpσ_93 chpσ_93 c_94 kc_110 ahpσ_112 bhpσ_112 chpσ_112 c_113 kc_129 ahpσ_131 bhpσ_131 chpσ_131 c_132 kc_133 ahpσ_135 chpσ_135 dhpσ_135 ehpσ_135 t6σ_135 t1σ_135 c_137 kc_138 kc_139 ahpσ_141 chpσ_141 dhpσ_141 ehpσ_141 smσ_141 nsσ_141 t5σ_141 t6σ_141 t1σ_141 mv9_σ_142 mv12_σ_142 mv14_σ_142 mv15_σ_142 mv16_σ_142 mv27_σ_142; omega) | omega)
                    have kwσ_142 : ∀ j, 0 ≤ j → (j < v1.toInt + 1 ∨ v1.toInt + 8 ≤ j) → m_c X σ_142 a j = m_c X σ a j := fun j h0 h1 => by rw [mcσ_142 j h0, if_neg (by first | (clear hs hw hc2 bhpσ_2 chpσ_2 j15 chpσ_5 dhpσ_5 ehpσ_5 t5σ_7 t6σ_7 t1σ_8 t6σ_8 if_9 c_10 c_11 if_13 c_14 if_89 t6σ_90 t1σ_90 kc_91 ahpσ_93 bhpσ_93 chpσ_93 c_94 kc_110 ahpσ_112 bhpσ_112 chpσ_112 c_113 kc_129 ahpσ_131 bhpσ_131 chpσ_131 c_132 kc_133 ahpσ_135 chpσ_135 dhpσ_135 ehpσ_135 t6σ_135 t1σ_135 c_137 kc_138 kc_139 ahpσ_141 chpσ_141 dhpσ_141 ehpσ_141 smσ_141 nsσ_141 t5σ_141 t6σ_141 t1σ_141 mv9_σ_142 mv12_σ_142 mv14_σ_142 mv15_σ_142 mv16_σ_142 mv27_σ_142; omega) | omega)]; exact kwσ_141 j h0 h1
                    have smσ_142 : 0 ≤ (σ_142.1 a 15).toInt ∧ (σ_142.1 a 15).toInt ≤ (σ_142.1 a 16).toInt ∧ (σ_142.1 a 16).toInt ≤ (σ_142.1 a 9).toInt ∧ (σ_142.1 a 9).toInt ≤ 900 ∧ 0 ≤ (σ_142.1 a 14).toInt ∧ (σ_142.1 a 14).toInt ≤ 4 ∧ (σ_142.1 a 14).toInt ≤ 4 * ((σ_142.1 a 16).toInt - (σ_142.1 a 15).toInt) ∧ (σ_142.1 a 14).toInt ≤ 4 * ((σ_142.1 a 9).toInt - (σ_142.1 a 15).toInt) ∧ 0 ≤ (σ_142.1 a 12).toInt ∧ (σ_142.1 a 9).toInt = (σ.1 a 9).toInt ∧ (σ.1 a 15).toInt ≤ (σ_142.1 a 15).toInt ∧ (σ.1 a 12).toInt ≤ (σ_142.1 a 12).toInt := (by first | (rw [mv12_σ_142, mv14_σ_142, mv15_σ_142, mv16_σ_142, mv9_σ_142]; exact smσ_141) | omega)
                    have nsσ_142 : (σ_142.1 a 27).toInt = (σ.1 a 27).toInt := (by first | (clear hs hw hc2 bhpσ_2 chpσ_2 j15 chpσ_5 dhpσ_5 ehpσ_5 iz_6 t5σ_7 t6σ_7 t1σ_8 t6σ_8 if_9 c_10 c_11 iz_12 if_13 c_14 if_89 t6σ_90 t1σ_90 kc_91 ahpσ_93 bhpσ_93 chpσ_93 c_94 kc_110 ahpσ_112 bhpσ_112 chpσ_112 c_113 kc_129 ahpσ_131 bhpσ_131 chpσ_131 c_132 kc_133 ahpσ_135 chpσ_135 dhpσ_135 ehpσ_135 t6σ_135 t1σ_135 iz_136 c_137 kc_138 kc_139 ahpσ_141 chpσ_141 dhpσ_141 ehpσ_141 smσ_141 t5σ_141 t6σ_141 t1σ_141 mv9_σ_142 mv12_σ_142 mv14_σ_142 mv15_σ_142 mv16_σ_142 smσ_142; omega) | omega)
                    have t5σ_142 : 0 ≤ r_1.toInt + (σ_142.1 a 12).toInt := (by first | (clear hs hw hc2 bhpσ_2 chpσ_2 j15 chpσ_5 dhpσ_5 ehpσ_5 iz_6 t5σ_7 t1σ_8 if_9 c_10 c_11 iz_12 if_13 c_14 if_89 t1σ_90 kc_91 ahpσ_93 bhpσ_93 chpσ_93 c_94 kc_110 ahpσ_112 bhpσ_112 chpσ_112 c_113 kc_129 ahpσ_131 bhpσ_131 chpσ_131 c_132 kc_133 ahpσ_135 chpσ_135 dhpσ_135 ehpσ_135 t1σ_135 iz_136 c_137 kc_138 kc_139 ahpσ_141 chpσ_141 dhpσ_141 ehpσ_141 smσ_141 nsσ_141 t1σ_141 mv9_σ_142 mv14_σ_142 mv15_σ_142 mv16_σ_142 mv27_σ_142 smσ_142 nsσ_142; omega) | omega)
                    have t6σ_142 : m_c X σ_142 a (v1.toInt + 6) = r_1.toInt := (by rw [mcσ_142 (v1.toInt + 6) (by first | (clear hs hc2 bhpσ_2 chpσ_2 j15 chpσ_5 dhpσ_5 ehpσ_5 t5σ_7 t6σ_7 t1σ_8 t6σ_8 if_9 c_10 c_11 if_13 c_14 if_89 t6σ_90 t1σ_90 kc_91 ahpσ_93 bhpσ_93 chpσ_93 c_94 kc_110 ahpσ_112 bhpσ_112 chpσ_112 c_113 kc_129 ahpσ_131 bhpσ_131 chpσ_131 c_132 kc_133 ahpσ_135 chpσ_135 dhpσ_135 ehpσ_135 t6σ_135 t1σ_135 c_137 kc_138 kc_139 ahpσ_141 chpσ_141 dhpσ_141 ehpσ_141 smσ_141 nsσ_141 t5σ_141 t6σ_141 t1σ_141 mv9_σ_142 mv12_σ_142 mv14_σ_142 mv15_σ_142 mv16_σ_142 mv27_σ_142 smσ_142 nsσ_142 t5σ_142; omega) | omega), if_neg (by first | (clear hs hw hc2 bhpσ_2 chpσ_2 j15 chpσ_5 dhpσ_5 ehpσ_5 iz_6 t5σ_7 t6σ_7 t1σ_8 t6σ_8 if_9 c_10 c_11 iz_12 if_13 c_14 if_89 t6σ_90 t1σ_90 kc_91 ahpσ_93 bhpσ_93 chpσ_93 c_94 kc_110 ahpσ_112 bhpσ_112 chpσ_112 c_113 kc_129 ahpσ_131 bhpσ_131 chpσ_131 c_132 kc_133 ahpσ_135 chpσ_135 dhpσ_135 ehpσ_135 t6σ_135 t1σ_135 iz_136 c_137 kc_138 kc_139 ahpσ_141 chpσ_141 dhpσ_141 ehpσ_141 smσ_141 nsσ_141 t5σ_141 t6σ_141 t1σ_141 mv9_σ_142 mv12_σ_142 mv14_σ_142 mv15_σ_142 mv16_σ_142 mv27_σ_142 smσ_142 nsσ_142 t5σ_142; omega) | omega)]; exact t6σ_141)
                    have t1σ_142 : m_t1 (m_c X σ_142 a) v1.toInt := m_t1.k t1σ_141 (by rw [mcσ_142 (v1.toInt + 6) (by first | (clear hs hc2 bhpσ_2 chpσ_2 j15 chpσ_5 dhpσ_5 ehpσ_5 t5σ_7 t6σ_7 t1σ_8 t6σ_8 if_9 c_10 c_11 if_13 c_14 if_89 t6σ_90 t1σ_90 kc_91 ahpσ_93 bhpσ_93 chpσ_93 c_94 kc_110 ahpσ_112 bhpσ_112 chpσ_112 c_113 kc_129 ahpσ_131 bhpσ_131 chpσ_131 c_132 kc_133 ahpσ_135 chpσ_135 dhpσ_135 ehpσ_135 t6σ_135 t1σ_135 c_137 kc_138 kc_139 ahpσ_141 chpσ_141 dhpσ_141 ehpσ_141 smσ_141 nsσ_141 t5σ_141 t6σ_141 t1σ_141 mv9_σ_142 mv12_σ_142 mv14_σ_142 mv15_σ_142 mv16_σ_142 mv27_σ_142 smσ_142 nsσ_142 t5σ_142 t6σ_142; omega) | omega), if_neg (by first | (clear hs hw hc2 bhpσ_2 chpσ_2 j15 chpσ_5 dhpσ_5 ehpσ_5 iz_6 t5σ_7 t6σ_7 t1σ_8 t6σ_8 if_9 c_10 c_11 iz_12 if_13 c_14 if_89 t6σ_90 t1σ_90 kc_91 ahpσ_93 bhpσ_93 chpσ_93 c_94 kc_110 ahpσ_112 bhpσ_112 chpσ_112 c_113 kc_129 ahpσ_131 bhpσ_131 chpσ_131 c_132 kc_133 ahpσ_135 chpσ_135 dhpσ_135 ehpσ_135 t6σ_135 t1σ_135 iz_136 c_137 kc_138 kc_139 ahpσ_141 chpσ_141 dhpσ_141 ehpσ_141 smσ_141 nsσ_141 t5σ_141 t6σ_141 t1σ_141 mv9_σ_142 mv12_σ_142 mv14_σ_142 mv15_σ_142 mv16_σ_142 mv27_σ_142 smσ_142 nsσ_142 t5σ_142 t6σ_142; omega) | omega)]) (by rw [mcσ_142 (v1.toInt + 1) (by first | (clear hs hc2 bhpσ_2 chpσ_2 j15 chpσ_5 dhpσ_5 ehpσ_5 t5σ_7 t6σ_7 t1σ_8 t6σ_8 if_9 c_10 c_11 if_13 c_14 if_89 t6σ_90 t1σ_90 kc_91 ahpσ_93 bhpσ_93 chpσ_93 c_94 kc_110 ahpσ_112 bhpσ_112 chpσ_112 c_113 kc_129 ahpσ_131 bhpσ_131 chpσ_131 c_132 kc_133 ahpσ_135 chpσ_135 dhpσ_135 ehpσ_135 t6σ_135 t1σ_135 c_137 kc_138 kc_139 ahpσ_141 chpσ_141 dhpσ_141 ehpσ_141 smσ_141 nsσ_141 t5σ_141 t6σ_141 t1σ_141 mv9_σ_142 mv12_σ_142 mv14_σ_142 mv15_σ_142 mv16_σ_142 mv27_σ_142 smσ_142 nsσ_142 t5σ_142 t6σ_142; omega) | omega), if_neg (by first | (clear hs hw hc2 bhpσ_2 chpσ_2 j15 chpσ_5 dhpσ_5 ehpσ_5 iz_6 t5σ_7 t6σ_7 t1σ_8 t6σ_8 if_9 c_10 c_11 iz_12 if_13 c_14 if_89 t6σ_90 t1σ_90 kc_91 ahpσ_93 bhpσ_93 chpσ_93 c_94 kc_110 ahpσ_112 bhpσ_112 chpσ_112 c_113 kc_129 ahpσ_131 bhpσ_131 chpσ_131 c_132 kc_133 ahpσ_135 chpσ_135 dhpσ_135 ehpσ_135 t6σ_135 t1σ_135 iz_136 c_137 kc_138 kc_139 ahpσ_141 chpσ_141 dhpσ_141 ehpσ_141 smσ_141 nsσ_141 t5σ_141 t6σ_141 t1σ_141 mv9_σ_142 mv12_σ_142 mv14_σ_142 mv15_σ_142 mv16_σ_142 mv27_σ_142 smσ_142 nsσ_142 t5σ_142 t6σ_142; omega) | omega)])
                    clear mv9_σ_142 mv12_σ_142 mv14_σ_142 mv15_σ_142 mv16_σ_142 mv27_σ_142 smσ_141 nsσ_141 t5σ_141
                    rewrite [hQQ]; exact q_retv E hr hlk hI ⟨kwσ_142, (by first | exact smσ_142 | omega), nsσ_142, (fun e => ⟨by rw [t6σ_142]; omega, t1σ_142⟩), (hF.trans hout), fr_σ_142⟩ dX12_readTest_150
                  · skip
                    replace hF := q_ifp hF c_137
                    refine lv_sipush (v := 999) hx hb dX12_readTest_138 zks_999 ?_
                    refine lv_goto (tgt := 146) hx hb dX12_readTest_141 (by decide) ?_
                    have kc_143 : (0 : Int32).toInt = 0 := zt_0
                    have kc_144 : (999 : Int32).toInt = 999 := zt_999
                    refine q_ci (q_rV11_2 (rest := [.int z_136, .ref (q_rf X a 20)]) E (hml.trans hl.1.symm) hI (c_X12_count l X σ_135 a (0 : Int32) (999 : Int32) ha (by first | exact sm_9 smσ_135 | exact hs | omega) (by first | (clear hs hw hc2 bhpσ_2 chpσ_2 j15 chpσ_5 dhpσ_5 ehpσ_5 iz_6 t5σ_7 t6σ_7 t1σ_8 t6σ_8 if_9 c_10 c_11 iz_12 if_13 c_14 if_89 t6σ_90 t1σ_90 kc_91 ahpσ_93 bhpσ_93 chpσ_93 c_94 kc_110 ahpσ_112 bhpσ_112 chpσ_112 c_113 kc_129 ahpσ_131 bhpσ_131 chpσ_131 c_132 ahpσ_135 chpσ_135 dhpσ_135 ehpσ_135 t6σ_135 t1σ_135 iz_136 c_137 kc_143; omega) | omega)) kv_X12_223 ha ⟨Nat.le_of_ble_eq_true rfl, Nat.le_of_ble_eq_true rfl⟩ (Nat.le_of_ble_eq_true rfl) dX12_readTest_146) hI (Nat.le_of_ble_eq_true rfl) (fun r_145 σ_146 H locs hpσ_146 hkσ_146 hI => ?_)
                    have ahpσ_146 := hpσ_146.1
                    have bhpσ_146 := hpσ_146.2.1
                    have chpσ_146 := hpσ_146.2.2.1
                    have dhpσ_146 := hpσ_146.2.2.2.1
                    have ehpσ_146 := hpσ_146.2.2.2.2
                    clear hpσ_146
                    have fr_σ_146 := fr_σ_135.call ehpσ_146 rfl rfl
                    replace hF := q_biX hF dhpσ_146
                    have mv27_σ_146 : (σ_146.1 a 27).toInt = (σ_135.1 a 27).toInt := congrArg Int32.toInt (ahpσ_146 a 27 (q_cl9 _ _) (fun h => absurd h.2.2 (by decide)))
                    have mcσ_146 := m_cK hkσ_146 hI.1 ha (by decide)
                    have kwσ_146 : ∀ j, 0 ≤ j → (j < v1.toInt + 1 ∨ v1.toInt + 8 ≤ j) → m_c X σ_146 a j = m_c X σ a j := fun j h0 h1 => (mcσ_146 j).trans (kwσ_135 j h0 h1)
                    have smσ_146 : 0 ≤ (σ_146.1 a 15).toInt ∧ (σ_146.1 a 15).toInt ≤ (σ_146.1 a 16).toInt ∧ (σ_146.1 a 16).toInt ≤ (σ_146.1 a 9).toInt ∧ (σ_146.1 a 9).toInt ≤ 900 ∧ 0 ≤ (σ_146.1 a 14).toInt ∧ (σ_146.1 a 14).toInt ≤ 4 ∧ (σ_146.1 a 14).toInt ≤ 4 * ((σ_146.1 a 16).toInt - (σ_146.1 a 15).toInt) ∧ (σ_146.1 a 14).toInt ≤ 4 * ((σ_146.1 a 9).toInt - (σ_146.1 a 15).toInt) ∧ 0 ≤ (σ_146.1 a 12).toInt ∧ (σ_146.1 a 9).toInt = (σ.1 a 9).toInt ∧ (σ.1 a 15).toInt ≤ (σ_146.1 a 15).toInt ∧ (σ.1 a 12).toInt ≤ (σ_146.1 a 12).toInt := (by first | exact sm_tr smσ_135 bhpσ_146 | exact sm_tr smσ_135 chpσ_146 | omega)
                    have nsσ_146 : (σ_146.1 a 27).toInt = (σ.1 a 27).toInt := (by first | (clear hs hw hc2 bhpσ_2 chpσ_2 j15 chpσ_5 dhpσ_5 ehpσ_5 iz_6 t5σ_7 t6σ_7 t1σ_8 t6σ_8 if_9 c_10 c_11 iz_12 if_13 c_14 if_89 t6σ_90 t1σ_90 kc_91 ahpσ_93 bhpσ_93 chpσ_93 c_94 kc_110 ahpσ_112 bhpσ_112 chpσ_112 c_113 kc_129 ahpσ_131 bhpσ_131 chpσ_131 c_132 kc_133 ahpσ_135 chpσ_135 dhpσ_135 ehpσ_135 t6σ_135 t1σ_135 iz_136 c_137 kc_143 kc_144 ahpσ_146 bhpσ_146 chpσ_146 dhpσ_146 ehpσ_146 smσ_146; omega) | omega)
                    have t5σ_146 : 0 ≤ r_1.toInt + (σ_146.1 a 12).toInt := (by first | (clear hs hw hc2 bhpσ_2 chpσ_2 j15 chpσ_5 dhpσ_5 ehpσ_5 iz_6 t5σ_7 t1σ_8 if_9 c_10 c_11 iz_12 if_13 c_14 if_89 t1σ_90 kc_91 ahpσ_93 bhpσ_93 chpσ_93 c_94 kc_110 ahpσ_112 bhpσ_112 chpσ_112 c_113 kc_129 ahpσ_131 bhpσ_131 chpσ_131 c_132 kc_133 ahpσ_135 chpσ_135 dhpσ_135 ehpσ_135 t1σ_135 iz_136 kc_143 kc_144 ahpσ_146 chpσ_146 dhpσ_146 ehpσ_146 mv27_σ_146 smσ_146 nsσ_146; omega) | omega)
                    have t6σ_146 : m_c X σ_146 a (v1.toInt + 6) = r_1.toInt := (mcσ_146 _).trans t6σ_135
                    have t1σ_146 : m_t1 (m_c X σ_146 a) v1.toInt := m_t1.k t1σ_135 (mcσ_146 _) (mcσ_146 _)
                    clear mv27_σ_146 smσ_135 nsσ_135 t5σ_135 bhpσ_146
                    refine q_iastN E hI (q_tk (k' := 34) hI ha rfl (Nat.succ_ne_zero _)) ⟨by decide, rfl⟩ (by first | (clear hs hc2 bhpσ_2 chpσ_2 j15 chpσ_5 dhpσ_5 ehpσ_5 t5σ_7 t6σ_7 t1σ_8 t6σ_8 if_9 c_10 c_11 if_13 c_14 if_89 t6σ_90 t1σ_90 kc_91 ahpσ_93 bhpσ_93 chpσ_93 c_94 kc_110 ahpσ_112 bhpσ_112 chpσ_112 c_113 kc_129 ahpσ_131 bhpσ_131 chpσ_131 c_132 kc_133 ahpσ_135 chpσ_135 dhpσ_135 ehpσ_135 t6σ_135 t1σ_135 c_137 kc_143 kc_144 ahpσ_146 chpσ_146 dhpσ_146 ehpσ_146 smσ_146 nsσ_146 t5σ_146 t6σ_146 t1σ_146; omega) | omega) (by rw [q_lnk (v := 4650) hI (q_tk (k' := 34) hI ha rfl (Nat.succ_ne_zero _)) rfl (by decide)]; omega) (show 1 < 2 by decide) (q_inU rfl) dX12_readTest_149 (fun H locs σ_147 hσ_147 hI => ?_)
                    replace hF := q_letX hF hσ_147
                    have fr_σ_147 := fr_σ_146.si hσ_147 (q_tk (k' := 34) hI ha rfl (Nat.succ_ne_zero _)) rfl
                    have mv9_σ_147 : (σ_147.1 a 9).toInt = (σ_146.1 a 9).toInt := congrArg Int32.toInt (q_rdn hσ_147 (Or.inl (m_ne ha (q_tk (k' := 34) hI ha rfl (Nat.succ_ne_zero _)) (by decide))))
                    have mv12_σ_147 : (σ_147.1 a 12).toInt = (σ_146.1 a 12).toInt := congrArg Int32.toInt (q_rdn hσ_147 (Or.inl (m_ne ha (q_tk (k' := 34) hI ha rfl (Nat.succ_ne_zero _)) (by decide))))
                    have mv14_σ_147 : (σ_147.1 a 14).toInt = (σ_146.1 a 14).toInt := congrArg Int32.toInt (q_rdn hσ_147 (Or.inl (m_ne ha (q_tk (k' := 34) hI ha rfl (Nat.succ_ne_zero _)) (by decide))))
                    have mv15_σ_147 : (σ_147.1 a 15).toInt = (σ_146.1 a 15).toInt := congrArg Int32.toInt (q_rdn hσ_147 (Or.inl (m_ne ha (q_tk (k' := 34) hI ha rfl (Nat.succ_ne_zero _)) (by decide))))
                    have mv16_σ_147 : (σ_147.1 a 16).toInt = (σ_146.1 a 16).toInt := congrArg Int32.toInt (q_rdn hσ_147 (Or.inl (m_ne ha (q_tk (k' := 34) hI ha rfl (Nat.succ_ne_zero _)) (by decide))))
                    have mv27_σ_147 : (σ_147.1 a 27).toInt = (σ_146.1 a 27).toInt := congrArg Int32.toInt (q_rdn hσ_147 (Or.inl (m_ne ha (q_tk (k' := 34) hI ha rfl (Nat.succ_ne_zero _)) (by decide))))
                    have mcσ_147 := m_wr (v := r_145) (A := (v1.toInt + 2)) hσ_147 iz_136 (by first | (clear hs hc2 bhpσ_2 chpσ_2 j15 chpσ_5 dhpσ_5 ehpσ_5 t5σ_7 t6σ_7 t1σ_8 t6σ_8 if_9 c_10 c_11 if_13 c_14 if_89 t6σ_90 t1σ_90 kc_91 ahpσ_93 bhpσ_93 chpσ_93 c_94 kc_110 ahpσ_112 bhpσ_112 chpσ_112 c_113 kc_129 ahpσ_131 bhpσ_131 chpσ_131 c_132 kc_133 ahpσ_135 chpσ_135 dhpσ_135 ehpσ_135 t6σ_135 t1σ_135 c_137 kc_143 kc_144 ahpσ_146 chpσ_146 dhpσ_146 ehpσ_146 smσ_146 nsσ_146 t5σ_146 t6σ_146 t1σ_146 mv9_σ_147 mv12_σ_147 mv14_σ_147 mv15_σ_147 mv16_σ_147 mv27_σ_147; omega) | omega)
                    have kwσ_147 : ∀ j, 0 ≤ j → (j < v1.toInt + 1 ∨ v1.toInt + 8 ≤ j) → m_c X σ_147 a j = m_c X σ a j := fun j h0 h1 => by rw [mcσ_147 j h0, if_neg (by first | (clear hs hw hc2 bhpσ_2 chpσ_2 j15 chpσ_5 dhpσ_5 ehpσ_5 t5σ_7 t6σ_7 t1σ_8 t6σ_8 if_9 c_10 c_11 if_13 c_14 if_89 t6σ_90 t1σ_90 kc_91 ahpσ_93 bhpσ_93 chpσ_93 c_94 kc_110 ahpσ_112 bhpσ_112 chpσ_112 c_113 kc_129 ahpσ_131 bhpσ_131 chpσ_131 c_132 kc_133 ahpσ_135 chpσ_135 dhpσ_135 ehpσ_135 t6σ_135 t1σ_135 c_137 kc_143 kc_144 ahpσ_146 chpσ_146 dhpσ_146 ehpσ_146 smσ_146 nsσ_146 t5σ_146 t6σ_146 t1σ_146 mv9_σ_147 mv12_σ_147 mv14_σ_147 mv15_σ_147 mv16_σ_147 mv27_σ_147; omega) | omega)]; exact kwσ_146 j h0 h1
                    have smσ_147 : 0 ≤ (σ_147.1 a 15).toInt ∧ (σ_147.1 a 15).toInt ≤ (σ_147.1 a 16).toInt ∧ (σ_147.1 a 16).toInt ≤ (σ_147.1 a 9).toInt ∧ (σ_147.1 a 9).toInt ≤ 900 ∧ 0 ≤ (σ_147.1 a 14).toInt ∧ (σ_147.1 a 14).toInt ≤ 4 ∧ (σ_147.1 a 14).toInt ≤ 4 * ((σ_147.1 a 16).toInt - (σ_147.1 a 15).toInt) ∧ (σ_147.1 a 14).toInt ≤ 4 * ((σ_147.1 a 9).toInt - (σ_147.1 a 15).toInt) ∧ 0 ≤ (σ_147.1 a 12).toInt ∧ (σ_147.1 a 9).toInt = (σ.1 a 9).toInt ∧ (σ.1 a 15).toInt ≤ (σ_147.1 a 15).toInt ∧ (σ.1 a 12).toInt ≤ (σ_147.1 a 12).toInt := (by first | (rw [mv12_σ_147, mv14_σ_147, mv15_σ_147, mv16_σ_147, mv9_σ_147]; exact smσ_146) | omega)
                    have nsσ_147 : (σ_147.1 a 27).toInt = (σ.1 a 27).toInt := (by first | (clear hs hw hc2 bhpσ_2 chpσ_2 j15 chpσ_5 dhpσ_5 ehpσ_5 iz_6 t5σ_7 t6σ_7 t1σ_8 t6σ_8 if_9 c_10 c_11 iz_12 if_13 c_14 if_89 t6σ_90 t1σ_90 kc_91 ahpσ_93 bhpσ_93 chpσ_93 c_94 kc_110 ahpσ_112 bhpσ_112 chpσ_112 c_113 kc_129 ahpσ_131 bhpσ_131 chpσ_131 c_132 kc_133 ahpσ_135 chpσ_135 dhpσ_135 ehpσ_135 t6σ_135 t1σ_135 iz_136 c_137 kc_143 kc_144 ahpσ_146 chpσ_146 dhpσ_146 ehpσ_146 smσ_146 t5σ_146 t6σ_146 t1σ_146 mv9_σ_147 mv12_σ_147 mv14_σ_147 mv15_σ_147 mv16_σ_147 smσ_147; omega) | omega)
                    have t5σ_147 : 0 ≤ r_1.toInt + (σ_147.1 a 12).toInt := (by first | (clear hs hw hc2 bhpσ_2 chpσ_2 j15 chpσ_5 dhpσ_5 ehpσ_5 iz_6 t5σ_7 t1σ_8 if_9 c_10 c_11 iz_12 if_13 c_14 if_89 t1σ_90 kc_91 ahpσ_93 bhpσ_93 chpσ_93 c_94 kc_110 ahpσ_112 bhpσ_112 chpσ_112 c_113 kc_129 ahpσ_131 bhpσ_131 chpσ_131 c_132 kc_133 ahpσ_135 chpσ_135 dhpσ_135 ehpσ_135 t1σ_135 iz_136 kc_143 kc_144 ahpσ_146 chpσ_146 dhpσ_146 ehpσ_146 nsσ_146 t5σ_146 t6σ_146 t1σ_146 mv9_σ_147 mv14_σ_147 mv15_σ_147 mv16_σ_147 mv27_σ_147 smσ_147 nsσ_147; omega) | omega)
                    have t6σ_147 : m_c X σ_147 a (v1.toInt + 6) = r_1.toInt := (by rw [mcσ_147 (v1.toInt + 6) (by first | (clear hs hc2 bhpσ_2 chpσ_2 j15 chpσ_5 dhpσ_5 ehpσ_5 t5σ_7 t6σ_7 t1σ_8 t6σ_8 if_9 c_10 c_11 if_13 c_14 if_89 t6σ_90 t1σ_90 kc_91 ahpσ_93 bhpσ_93 chpσ_93 c_94 kc_110 ahpσ_112 bhpσ_112 chpσ_112 c_113 kc_129 ahpσ_131 bhpσ_131 chpσ_131 c_132 kc_133 ahpσ_135 chpσ_135 dhpσ_135 ehpσ_135 t6σ_135 t1σ_135 c_137 kc_143 kc_144 ahpσ_146 chpσ_146 dhpσ_146 ehpσ_146 smσ_146 nsσ_146 t5σ_146 t6σ_146 t1σ_146 mv9_σ_147 mv12_σ_147 mv14_σ_147 mv15_σ_147 mv16_σ_147 mv27_σ_147 smσ_147 nsσ_147 t5σ_147; omega) | omega), if_neg (by first | (clear hs hw hc2 bhpσ_2 chpσ_2 j15 chpσ_5 dhpσ_5 ehpσ_5 iz_6 t5σ_7 t6σ_7 t1σ_8 t6σ_8 if_9 c_10 c_11 iz_12 if_13 c_14 if_89 t6σ_90 t1σ_90 kc_91 ahpσ_93 bhpσ_93 chpσ_93 c_94 kc_110 ahpσ_112 bhpσ_112 chpσ_112 c_113 kc_129 ahpσ_131 bhpσ_131 chpσ_131 c_132 kc_133 ahpσ_135 chpσ_135 dhpσ_135 ehpσ_135 t6σ_135 t1σ_135 iz_136 c_137 kc_143 kc_144 ahpσ_146 chpσ_146 dhpσ_146 ehpσ_146 smσ_146 nsσ_146 t5σ_146 t6σ_146 t1σ_146 mv9_σ_147 mv12_σ_147 mv14_σ_147 mv15_σ_147 mv16_σ_147 mv27_σ_147 smσ_147 nsσ_147 t5σ_147; omega) | omega)]; exact t6σ_146)
                    have t1σ_147 : m_t1 (m_c X σ_147 a) v1.toInt := m_t1.k t1σ_146 (by rw [mcσ_147 (v1.toInt + 6) (by first | (clear hs hc2 bhpσ_2 chpσ_2 j15 chpσ_5 dhpσ_5 ehpσ_5 t5σ_7 t6σ_7 t1σ_8 t6σ_8 if_9 c_10 c_11 if_13 c_14 if_89 t6σ_90 t1σ_90 kc_91 ahpσ_93 bhpσ_93 chpσ_93 c_94 kc_110 ahpσ_112 bhpσ_112 chpσ_112 c_113 kc_129 ahpσ_131 bhpσ_131 chpσ_131 c_132 kc_133 ahpσ_135 chpσ_135 dhpσ_135 ehpσ_135 t6σ_135 t1σ_135 c_137 kc_143 kc_144 ahpσ_146 chpσ_146 dhpσ_146 ehpσ_146 smσ_146 nsσ_146 t5σ_146 t6σ_146 t1σ_146 mv9_σ_147 mv12_σ_147 mv14_σ_147 mv15_σ_147 mv16_σ_147 mv27_σ_147 smσ_147 nsσ_147 t5σ_147 t6σ_147; omega) | omega), if_neg (by first | (clear hs hw hc2 bhpσ_2 chpσ_2 j15 chpσ_5 dhpσ_5 ehpσ_5 iz_6 t5σ_7 t6σ_7 t1σ_8 t6σ_8 if_9 c_10 c_11 iz_12 if_13 c_14 if_89 t6σ_90 t1σ_90 kc_91 ahpσ_93 bhpσ_93 chpσ_93 c_94 kc_110 ahpσ_112 bhpσ_112 chpσ_112 c_113 kc_129 ahpσ_131 bhpσ_131 chpσ_131 c_132 kc_133 ahpσ_135 chpσ_135 dhpσ_135 ehpσ_135 t6σ_135 t1σ_135 iz_136 c_137 kc_143 kc_144 ahpσ_146 chpσ_146 dhpσ_146 ehpσ_146 smσ_146 nsσ_146 t5σ_146 t6σ_146 t1σ_146 mv9_σ_147 mv12_σ_147 mv14_σ_147 mv15_σ_147 mv16_σ_147 mv27_σ_147 smσ_147 nsσ_147 t5σ_147 t6σ_147; omega) | omega)]) (by rw [mcσ_147 (v1.toInt + 1) (by first | (clear hs hc2 bhpσ_2 chpσ_2 j15 chpσ_5 dhpσ_5 ehpσ_5 t5σ_7 t6σ_7 t1σ_8 t6σ_8 if_9 c_10 c_11 if_13 c_14 if_89 t6σ_90 t1σ_90 kc_91 ahpσ_93 bhpσ_93 chpσ_93 c_94 kc_110 ahpσ_112 bhpσ_112 chpσ_112 c_113 kc_129 ahpσ_131 bhpσ_131 chpσ_131 c_132 kc_133 ahpσ_135 chpσ_135 dhpσ_135 ehpσ_135 t6σ_135 t1σ_135 c_137 kc_143 kc_144 ahpσ_146 chpσ_146 dhpσ_146 ehpσ_146 smσ_146 nsσ_146 t5σ_146 t6σ_146 t1σ_146 mv9_σ_147 mv12_σ_147 mv14_σ_147 mv15_σ_147 mv16_σ_147 mv27_σ_147 smσ_147 nsσ_147 t5σ_147 t6σ_147; omega) | omega), if_neg (by first | (clear hs hw hc2 bhpσ_2 chpσ_2 j15 chpσ_5 dhpσ_5 ehpσ_5 iz_6 t5σ_7 t6σ_7 t1σ_8 t6σ_8 if_9 c_10 c_11 iz_12 if_13 c_14 if_89 t6σ_90 t1σ_90 kc_91 ahpσ_93 bhpσ_93 chpσ_93 c_94 kc_110 ahpσ_112 bhpσ_112 chpσ_112 c_113 kc_129 ahpσ_131 bhpσ_131 chpσ_131 c_132 kc_133 ahpσ_135 chpσ_135 dhpσ_135 ehpσ_135 t6σ_135 t1σ_135 iz_136 c_137 kc_143 kc_144 ahpσ_146 chpσ_146 dhpσ_146 ehpσ_146 smσ_146 nsσ_146 t5σ_146 t6σ_146 t1σ_146 mv9_σ_147 mv12_σ_147 mv14_σ_147 mv15_σ_147 mv16_σ_147 mv27_σ_147 smσ_147 nsσ_147 t5σ_147 t6σ_147; omega) | omega)])
                    clear mv9_σ_147 mv12_σ_147 mv14_σ_147 mv15_σ_147 mv16_σ_147 mv27_σ_147 smσ_146 nsσ_146 t5σ_146
                    rewrite [hQQ]; exact q_retv E hr hlk hI ⟨kwσ_147, (by first | exact smσ_147 | omega), nsσ_147, (fun e => ⟨by rw [t6σ_147]; omega, t1σ_147⟩), (hF.trans hout), fr_σ_147⟩ dX12_readTest_150
                · skip
                  replace hF := q_ifn hF c_132
                  replace c_132 := q_ifOne bhpσ_131 c_132
                  refine lv_iconst (v := 1) hx hb dX12_readTest_116 zki_1 ?_
                  refine lv_goto (tgt := 121) hx hb dX12_readTest_117 (by decide) ?_
                  have kc_148 : (1 : Int32).toInt = 1 := zt_1
                  refine q_cv (q_rV11_1 (rest := []) E (hml.trans hl.1.symm) hI (c_X12_must l X σ_90 a (1 : Int32) ha (by first | exact sm_9 smσ_90 | exact hs | omega) (by first | (clear hs hw hc2 bhpσ_2 chpσ_2 j15 chpσ_5 dhpσ_5 ehpσ_5 iz_6 t5σ_7 t6σ_7 t1σ_8 t6σ_8 if_9 c_10 c_11 iz_12 if_13 c_14 if_89 t6σ_90 t1σ_90 kc_91 ahpσ_93 bhpσ_93 chpσ_93 c_94 kc_110 ahpσ_112 bhpσ_112 chpσ_112 c_113 kc_129 ahpσ_131 bhpσ_131 chpσ_131 c_132; omega) | omega)) kv_X12_216 ha ⟨Nat.le_of_ble_eq_true rfl, Nat.le_of_ble_eq_true rfl⟩ (Nat.le_of_ble_eq_true rfl) dX12_readTest_121) hI (Nat.le_of_ble_eq_true rfl) (fun σ_150 H locs hpσ_150 hkσ_150 hI => ?_)
                  have ahpσ_150 := hpσ_150.1
                  have bhpσ_150 := hpσ_150.2.1
                  have chpσ_150 := hpσ_150.2.2.1
                  have dhpσ_150 := hpσ_150.2.2.2.1
                  have ehpσ_150 := hpσ_150.2.2.2.2
                  clear hpσ_150
                  have fr_σ_150 := fr_σ_90.call ehpσ_150 rfl rfl
                  replace hF := q_letX hF dhpσ_150
                  have mv27_σ_150 : (σ_150.1 a 27).toInt = (σ_90.1 a 27).toInt := congrArg Int32.toInt (ahpσ_150 a 27 (q_cl9 _ _) (fun h => absurd h.2.2 (by decide)))
                  have mcσ_150 := m_cK hkσ_150 hI.1 ha (by decide)
                  have kwσ_150 : ∀ j, 0 ≤ j → (j < v1.toInt + 1 ∨ v1.toInt + 8 ≤ j) → m_c X σ_150 a j = m_c X σ a j := fun j h0 h1 => (mcσ_150 j).trans (kwσ_90 j h0 h1)
                  have smσ_150 : 0 ≤ (σ_150.1 a 15).toInt ∧ (σ_150.1 a 15).toInt ≤ (σ_150.1 a 16).toInt ∧ (σ_150.1 a 16).toInt ≤ (σ_150.1 a 9).toInt ∧ (σ_150.1 a 9).toInt ≤ 900 ∧ 0 ≤ (σ_150.1 a 14).toInt ∧ (σ_150.1 a 14).toInt ≤ 4 ∧ (σ_150.1 a 14).toInt ≤ 4 * ((σ_150.1 a 16).toInt - (σ_150.1 a 15).toInt) ∧ (σ_150.1 a 14).toInt ≤ 4 * ((σ_150.1 a 9).toInt - (σ_150.1 a 15).toInt) ∧ 0 ≤ (σ_150.1 a 12).toInt ∧ (σ_150.1 a 9).toInt = (σ.1 a 9).toInt ∧ (σ.1 a 15).toInt ≤ (σ_150.1 a 15).toInt ∧ (σ.1 a 12).toInt ≤ (σ_150.1 a 12).toInt := (by first | exact sm_tr smσ_90 bhpσ_150 | exact sm_tr smσ_90 chpσ_150 | omega)
                  have nsσ_150 : (σ_150.1 a 27).toInt = (σ.1 a 27).toInt := (by first | (clear hs hw hc2 bhpσ_2 chpσ_2 j15 chpσ_5 dhpσ_5 ehpσ_5 iz_6 t5σ_7 t6σ_7 t1σ_8 t6σ_8 if_9 c_10 c_11 iz_12 if_13 c_14 if_89 t6σ_90 t1σ_90 kc_91 ahpσ_93 bhpσ_93 chpσ_93 c_94 kc_110 ahpσ_112 bhpσ_112 chpσ_112 c_113 kc_129 ahpσ_131 bhpσ_131 chpσ_131 c_132 kc_148 ahpσ_150 bhpσ_150 chpσ_150 dhpσ_150 ehpσ_150 smσ_150; omega) | omega)
                  have t5σ_150 : 0 ≤ r_1.toInt + (σ_150.1 a 12).toInt := (by first | (clear hs hw hc2 bhpσ_2 chpσ_2 j15 chpσ_5 dhpσ_5 ehpσ_5 iz_6 t5σ_7 t1σ_8 if_9 c_10 c_11 iz_12 if_13 c_14 if_89 t1σ_90 kc_91 ahpσ_93 bhpσ_93 chpσ_93 c_94 kc_110 ahpσ_112 bhpσ_112 chpσ_112 c_113 kc_129 ahpσ_131 bhpσ_131 chpσ_131 c_132 kc_148 ahpσ_150 chpσ_150 dhpσ_150 ehpσ_150 mv27_σ_150 smσ_150 nsσ_150; omega) | omega)
                  have t6σ_150 : m_c X σ_150 a (v1.toInt + 6) = r_1.toInt := (mcσ_150 _).trans t6σ_90
                  have t1σ_150 : m_t1 (m_c X σ_150 a) v1.toInt := m_t1.k t1σ_90 (mcσ_150 _) (mcσ_150 _)
                  clear mv27_σ_150 smσ_90 nsσ_90 t5σ_90 bhpσ_150
                  refine lv_aload_n hx hb dX12_readTest_124 rfl (lv_at hl 0 rfl) ?_
                  refine gs_X12_35_12 E hI ha dX12_readTest_125 ?_
                  refine lv_iload_n hx hb dX12_readTest_128 rfl (lv_at hl 1 rfl) ?_
                  refine lv_iconst (v := 2) hx hb dX12_readTest_129 zki_2 ?_
                  refine lv_iadd hx hb dX12_readTest_130 ?_
                  refine lv_topi (fun z_151 ez_151 => ?_)
                  replace hF := q_letX hF ez_151
                  have iz_151 := q_addI (A := v1.toInt) (B := 2) ez_151 rfl (by decide) (by first | (clear hs hc2 bhpσ_2 chpσ_2 j15 chpσ_5 dhpσ_5 ehpσ_5 t5σ_7 t6σ_7 t1σ_8 t6σ_8 if_9 c_10 c_11 if_13 c_14 if_89 t6σ_90 t1σ_90 kc_91 ahpσ_93 bhpσ_93 chpσ_93 c_94 kc_110 ahpσ_112 bhpσ_112 chpσ_112 c_113 kc_129 ahpσ_131 bhpσ_131 chpσ_131 c_132 kc_148 ahpσ_150 chpσ_150 dhpσ_150 ehpσ_150 smσ_150 nsσ_150 t5σ_150 t6σ_150 t1σ_150; omega) | omega) (by first | (clear hs hc2 bhpσ_2 chpσ_2 j15 chpσ_5 dhpσ_5 ehpσ_5 t5σ_7 t6σ_7 t1σ_8 t6σ_8 if_9 c_10 c_11 if_13 c_14 if_89 t6σ_90 t1σ_90 kc_91 ahpσ_93 bhpσ_93 chpσ_93 c_94 kc_110 ahpσ_112 bhpσ_112 chpσ_112 c_113 kc_129 ahpσ_131 bhpσ_131 chpσ_131 c_132 kc_148 ahpσ_150 chpσ_150 dhpσ_150 ehpσ_150 smσ_150 nsσ_150 t5σ_150 t6σ_150 t1σ_150; omega) | omega)
                  refine lv_aload_n hx hb dX12_readTest_131 rfl (lv_at hl 0 rfl) ?_
                  refine lv_iconst (v := 0) hx hb dX12_readTest_132 zki_0 ?_
                  refine lv_iload_n hx hb dX12_readTest_133 rfl (lv_at hl 2 rfl) ?_
                  refine lv_iconst (v := 2) hx hb dX12_readTest_134 zki_2 ?_
                  refine q_icmp_ne (A := r_1.toInt) (B := 2) E rfl (by decide) (tgt := 144) dX12_readTest_135 (by decide) (fun c_152 => ?_) (fun c_152 => ?_)
                  · skip
                    replace hF := q_ifn hF c_152
                    refine lv_bipush (v := 80) hx hb dX12_readTest_144 zkb_80 ?_
                    have kc_153 : (0 : Int32).toInt = 0 := zt_0
                    have kc_154 : (80 : Int32).toInt = 80 := zt_80
                    refine q_ci (q_rV11_2 (rest := [.int z_151, .ref (q_rf X a 20)]) E (hml.trans hl.1.symm) hI (c_X12_count l X σ_150 a (0 : Int32) (80 : Int32) ha (by first | exact sm_9 smσ_150 | exact hs | omega) (by first | (clear hs hw hc2 bhpσ_2 chpσ_2 j15 chpσ_5 dhpσ_5 ehpσ_5 iz_6 t5σ_7 t6σ_7 t1σ_8 t6σ_8 if_9 c_10 c_11 iz_12 if_13 c_14 if_89 t6σ_90 t1σ_90 kc_91 ahpσ_93 bhpσ_93 chpσ_93 c_94 kc_110 ahpσ_112 bhpσ_112 chpσ_112 c_113 kc_129 ahpσ_131 bhpσ_131 chpσ_131 c_132 kc_148 ahpσ_150 chpσ_150 dhpσ_150 ehpσ_150 smσ_150 nsσ_150 t5σ_150 t6σ_150 t1σ_150 iz_151 c_152; omega) | omega)) kv_X12_223 ha ⟨Nat.le_of_ble_eq_true rfl, Nat.le_of_ble_eq_true rfl⟩ (Nat.le_of_ble_eq_true rfl) dX12_readTest_146) hI (Nat.le_of_ble_eq_true rfl) (fun r_155 σ_156 H locs hpσ_156 hkσ_156 hI => ?_)
                    have ahpσ_156 := hpσ_156.1
                    have bhpσ_156 := hpσ_156.2.1
                    have chpσ_156 := hpσ_156.2.2.1
                    have dhpσ_156 := hpσ_156.2.2.2.1
                    have ehpσ_156 := hpσ_156.2.2.2.2
                    clear hpσ_156
                    have fr_σ_156 := fr_σ_150.call ehpσ_156 rfl rfl
                    replace hF := q_biX hF dhpσ_156
                    have mv27_σ_156 : (σ_156.1 a 27).toInt = (σ_150.1 a 27).toInt := congrArg Int32.toInt (ahpσ_156 a 27 (q_cl9 _ _) (fun h => absurd h.2.2 (by decide)))
                    have mcσ_156 := m_cK hkσ_156 hI.1 ha (by decide)
                    have kwσ_156 : ∀ j, 0 ≤ j → (j < v1.toInt + 1 ∨ v1.toInt + 8 ≤ j) → m_c X σ_156 a j = m_c X σ a j := fun j h0 h1 => (mcσ_156 j).trans (kwσ_150 j h0 h1)
                    have smσ_156 : 0 ≤ (σ_156.1 a 15).toInt ∧ (σ_156.1 a 15).toInt ≤ (σ_156.1 a 16).toInt ∧ (σ_156.1 a 16).toInt ≤ (σ_156.1 a 9).toInt ∧ (σ_156.1 a 9).toInt ≤ 900 ∧ 0 ≤ (σ_156.1 a 14).toInt ∧ (σ_156.1 a 14).toInt ≤ 4 ∧ (σ_156.1 a 14).toInt ≤ 4 * ((σ_156.1 a 16).toInt - (σ_156.1 a 15).toInt) ∧ (σ_156.1 a 14).toInt ≤ 4 * ((σ_156.1 a 9).toInt - (σ_156.1 a 15).toInt) ∧ 0 ≤ (σ_156.1 a 12).toInt ∧ (σ_156.1 a 9).toInt = (σ.1 a 9).toInt ∧ (σ.1 a 15).toInt ≤ (σ_156.1 a 15).toInt ∧ (σ.1 a 12).toInt ≤ (σ_156.1 a 12).toInt := (by first | exact sm_tr smσ_150 bhpσ_156 | exact sm_tr smσ_150 chpσ_156 | omega)
                    have nsσ_156 : (σ_156.1 a 27).toInt = (σ.1 a 27).toInt := (by first | (clear hs hw hc2 bhpσ_2 chpσ_2 j15 chpσ_5 dhpσ_5 ehpσ_5 iz_6 t5σ_7 t6σ_7 t1σ_8 t6σ_8 if_9 c_10 c_11 iz_12 if_13 c_14 if_89 t6σ_90 t1σ_90 kc_91 ahpσ_93 bhpσ_93 chpσ_93 c_94 kc_110 ahpσ_112 bhpσ_112 chpσ_112 c_113 kc_129 ahpσ_131 bhpσ_131 chpσ_131 c_132 kc_148 ahpσ_150 chpσ_150 dhpσ_150 ehpσ_150 smσ_150 t5σ_150 t6σ_150 t1σ_150 iz_151 c_152 kc_153 kc_154 ahpσ_156 bhpσ_156 chpσ_156 dhpσ_156 ehpσ_156 smσ_156; omega) | omega)
                    have t5σ_156 : 0 ≤ r_1.toInt + (σ_156.1 a 12).toInt := (by first | (clear hs hw hc2 bhpσ_2 chpσ_2 j15 chpσ_5 dhpσ_5 ehpσ_5 iz_6 t5σ_7 t1σ_8 if_9 c_10 c_11 iz_12 if_13 c_14 if_89 t1σ_90 kc_91 ahpσ_93 bhpσ_93 chpσ_93 c_94 kc_110 ahpσ_112 bhpσ_112 chpσ_112 c_113 kc_129 ahpσ_131 bhpσ_131 chpσ_131 c_132 kc_148 ahpσ_150 chpσ_150 dhpσ_150 ehpσ_150 smσ_150 nsσ_150 t1σ_150 iz_151 c_152 kc_153 kc_154 ahpσ_156 chpσ_156 dhpσ_156 ehpσ_156 mv27_σ_156 smσ_156 nsσ_156; omega) | omega)
                    have t6σ_156 : m_c X σ_156 a (v1.toInt + 6) = r_1.toInt := (mcσ_156 _).trans t6σ_150
                    have t1σ_156 : m_t1 (m_c X σ_156 a) v1.toInt := m_t1.k t1σ_150 (mcσ_156 _) (mcσ_156 _)
                    clear mv27_σ_156 smσ_150 nsσ_150 t5σ_150 bhpσ_156
                    refine q_iastN E hI (q_tk (k' := 34) hI ha rfl (Nat.succ_ne_zero _)) ⟨by decide, rfl⟩ (by first | (clear hs hc2 bhpσ_2 chpσ_2 j15 chpσ_5 dhpσ_5 ehpσ_5 t5σ_7 t6σ_7 t1σ_8 t6σ_8 if_9 c_10 c_11 if_13 c_14 if_89 t6σ_90 t1σ_90 kc_91 ahpσ_93 bhpσ_93 chpσ_93 c_94 kc_110 ahpσ_112 bhpσ_112 chpσ_112 c_113 kc_129 ahpσ_131 bhpσ_131 chpσ_131 c_132 kc_148 ahpσ_150 chpσ_150 dhpσ_150 ehpσ_150 t6σ_150 t1σ_150 c_152 kc_153 kc_154 ahpσ_156 chpσ_156 dhpσ_156 ehpσ_156 smσ_156 nsσ_156 t5σ_156 t6σ_156 t1σ_156; omega) | omega) (by rw [q_lnk (v := 4650) hI (q_tk (k' := 34) hI ha rfl (Nat.succ_ne_zero _)) rfl (by decide)]; omega) (show 1 < 2 by decide) (q_inU rfl) dX12_readTest_149 (fun H locs σ_157 hσ_157 hI => ?_)
                    replace hF := q_letX hF hσ_157
                    have fr_σ_157 := fr_σ_156.si hσ_157 (q_tk (k' := 34) hI ha rfl (Nat.succ_ne_zero _)) rfl
                    have mv9_σ_157 : (σ_157.1 a 9).toInt = (σ_156.1 a 9).toInt := congrArg Int32.toInt (q_rdn hσ_157 (Or.inl (m_ne ha (q_tk (k' := 34) hI ha rfl (Nat.succ_ne_zero _)) (by decide))))
                    have mv12_σ_157 : (σ_157.1 a 12).toInt = (σ_156.1 a 12).toInt := congrArg Int32.toInt (q_rdn hσ_157 (Or.inl (m_ne ha (q_tk (k' := 34) hI ha rfl (Nat.succ_ne_zero _)) (by decide))))
                    have mv14_σ_157 : (σ_157.1 a 14).toInt = (σ_156.1 a 14).toInt := congrArg Int32.toInt (q_rdn hσ_157 (Or.inl (m_ne ha (q_tk (k' := 34) hI ha rfl (Nat.succ_ne_zero _)) (by decide))))
                    have mv15_σ_157 : (σ_157.1 a 15).toInt = (σ_156.1 a 15).toInt := congrArg Int32.toInt (q_rdn hσ_157 (Or.inl (m_ne ha (q_tk (k' := 34) hI ha rfl (Nat.succ_ne_zero _)) (by decide))))
                    have mv16_σ_157 : (σ_157.1 a 16).toInt = (σ_156.1 a 16).toInt := congrArg Int32.toInt (q_rdn hσ_157 (Or.inl (m_ne ha (q_tk (k' := 34) hI ha rfl (Nat.succ_ne_zero _)) (by decide))))
                    have mv27_σ_157 : (σ_157.1 a 27).toInt = (σ_156.1 a 27).toInt := congrArg Int32.toInt (q_rdn hσ_157 (Or.inl (m_ne ha (q_tk (k' := 34) hI ha rfl (Nat.succ_ne_zero _)) (by decide))))
                    have mcσ_157 := m_wr (v := r_155) (A := (v1.toInt + 2)) hσ_157 iz_151 (by first | (clear hs hc2 bhpσ_2 chpσ_2 j15 chpσ_5 dhpσ_5 ehpσ_5 t5σ_7 t6σ_7 t1σ_8 t6σ_8 if_9 c_10 c_11 if_13 c_14 if_89 t6σ_90 t1σ_90 kc_91 ahpσ_93 bhpσ_93 chpσ_93 c_94 kc_110 ahpσ_112 bhpσ_112 chpσ_112 c_113 kc_129 ahpσ_131 bhpσ_131 chpσ_131 c_132 kc_148 ahpσ_150 chpσ_150 dhpσ_150 ehpσ_150 t6σ_150 t1σ_150 c_152 kc_153 kc_154 ahpσ_156 chpσ_156 dhpσ_156 ehpσ_156 smσ_156 nsσ_156 t5σ_156 t6σ_156 t1σ_156 mv9_σ_157 mv12_σ_157 mv14_σ_157 mv15_σ_157 mv16_σ_157 mv27_σ_157; omega) | omega)
                    have kwσ_157 : ∀ j, 0 ≤ j → (j < v1.toInt + 1 ∨ v1.toInt + 8 ≤ j) → m_c X σ_157 a j = m_c X σ a j := fun j h0 h1 => by rw [mcσ_157 j h0, if_neg (by first | (clear hs hw hc2 bhpσ_2 chpσ_2 j15 chpσ_5 dhpσ_5 ehpσ_5 t5σ_7 t6σ_7 t1σ_8 t6σ_8 if_9 c_10 c_11 if_13 c_14 if_89 t6σ_90 t1σ_90 kc_91 ahpσ_93 bhpσ_93 chpσ_93 c_94 kc_110 ahpσ_112 bhpσ_112 chpσ_112 c_113 kc_129 ahpσ_131 bhpσ_131 chpσ_131 c_132 kc_148 ahpσ_150 chpσ_150 dhpσ_150 ehpσ_150 t6σ_150 t1σ_150 c_152 kc_153 kc_154 ahpσ_156 chpσ_156 dhpσ_156 ehpσ_156 smσ_156 nsσ_156 t5σ_156 t6σ_156 t1σ_156 mv9_σ_157 mv12_σ_157 mv14_σ_157 mv15_σ_157 mv16_σ_157 mv27_σ_157; omega) | omega)]; exact kwσ_156 j h0 h1
                    have smσ_157 : 0 ≤ (σ_157.1 a 15).toInt ∧ (σ_157.1 a 15).toInt ≤ (σ_157.1 a 16).toInt ∧ (σ_157.1 a 16).toInt ≤ (σ_157.1 a 9).toInt ∧ (σ_157.1 a 9).toInt ≤ 900 ∧ 0 ≤ (σ_157.1 a 14).toInt ∧ (σ_157.1 a 14).toInt ≤ 4 ∧ (σ_157.1 a 14).toInt ≤ 4 * ((σ_157.1 a 16).toInt - (σ_157.1 a 15).toInt) ∧ (σ_157.1 a 14).toInt ≤ 4 * ((σ_157.1 a 9).toInt - (σ_157.1 a 15).toInt) ∧ 0 ≤ (σ_157.1 a 12).toInt ∧ (σ_157.1 a 9).toInt = (σ.1 a 9).toInt ∧ (σ.1 a 15).toInt ≤ (σ_157.1 a 15).toInt ∧ (σ.1 a 12).toInt ≤ (σ_157.1 a 12).toInt := (by first | (rw [mv12_σ_157, mv14_σ_157, mv15_σ_157, mv16_σ_157, mv9_σ_157]; exact smσ_156) | omega)
                    have nsσ_157 : (σ_157.1 a 27).toInt = (σ.1 a 27).toInt := (by first | (clear hs hw hc2 bhpσ_2 chpσ_2 j15 chpσ_5 dhpσ_5 ehpσ_5 iz_6 t5σ_7 t6σ_7 t1σ_8 t6σ_8 if_9 c_10 c_11 iz_12 if_13 c_14 if_89 t6σ_90 t1σ_90 kc_91 ahpσ_93 bhpσ_93 chpσ_93 c_94 kc_110 ahpσ_112 bhpσ_112 chpσ_112 c_113 kc_129 ahpσ_131 bhpσ_131 chpσ_131 c_132 kc_148 ahpσ_150 chpσ_150 dhpσ_150 ehpσ_150 t6σ_150 t1σ_150 iz_151 c_152 kc_153 kc_154 ahpσ_156 chpσ_156 dhpσ_156 ehpσ_156 smσ_156 t5σ_156 t6σ_156 t1σ_156 mv9_σ_157 mv12_σ_157 mv14_σ_157 mv15_σ_157 mv16_σ_157 smσ_157; omega) | omega)
                    have t5σ_157 : 0 ≤ r_1.toInt + (σ_157.1 a 12).toInt := (by first | (clear hs hw hc2 bhpσ_2 chpσ_2 j15 chpσ_5 dhpσ_5 ehpσ_5 iz_6 t5σ_7 t1σ_8 if_9 c_10 c_11 iz_12 if_13 c_14 if_89 t1σ_90 kc_91 ahpσ_93 bhpσ_93 chpσ_93 c_94 kc_110 ahpσ_112 bhpσ_112 chpσ_112 c_113 kc_129 ahpσ_131 bhpσ_131 chpσ_131 c_132 kc_148 ahpσ_150 chpσ_150 dhpσ_150 ehpσ_150 t1σ_150 iz_151 c_152 kc_153 kc_154 ahpσ_156 chpσ_156 dhpσ_156 ehpσ_156 smσ_156 nsσ_156 t1σ_156 mv9_σ_157 mv14_σ_157 mv15_σ_157 mv16_σ_157 mv27_σ_157 smσ_157 nsσ_157; omega) | omega)
                    have t6σ_157 : m_c X σ_157 a (v1.toInt + 6) = r_1.toInt := (by rw [mcσ_157 (v1.toInt + 6) (by first | (clear hs hc2 bhpσ_2 chpσ_2 j15 chpσ_5 dhpσ_5 ehpσ_5 t5σ_7 t6σ_7 t1σ_8 t6σ_8 if_9 c_10 c_11 if_13 c_14 if_89 t6σ_90 t1σ_90 kc_91 ahpσ_93 bhpσ_93 chpσ_93 c_94 kc_110 ahpσ_112 bhpσ_112 chpσ_112 c_113 kc_129 ahpσ_131 bhpσ_131 chpσ_131 c_132 kc_148 ahpσ_150 chpσ_150 dhpσ_150 ehpσ_150 t6σ_150 t1σ_150 c_152 kc_153 kc_154 ahpσ_156 chpσ_156 dhpσ_156 ehpσ_156 smσ_156 nsσ_156 t5σ_156 t6σ_156 t1σ_156 mv9_σ_157 mv12_σ_157 mv14_σ_157 mv15_σ_157 mv16_σ_157 mv27_σ_157 smσ_157 nsσ_157 t5σ_157; omega) | omega), if_neg (by first | (clear hs hw hc2 bhpσ_2 chpσ_2 j15 chpσ_5 dhpσ_5 ehpσ_5 iz_6 t5σ_7 t6σ_7 t1σ_8 t6σ_8 if_9 c_10 c_11 iz_12 if_13 c_14 if_89 t6σ_90 t1σ_90 kc_91 ahpσ_93 bhpσ_93 chpσ_93 c_94 kc_110 ahpσ_112 bhpσ_112 chpσ_112 c_113 kc_129 ahpσ_131 bhpσ_131 chpσ_131 c_132 kc_148 ahpσ_150 chpσ_150 dhpσ_150 ehpσ_150 t6σ_150 t1σ_150 iz_151 c_152 kc_153 kc_154 ahpσ_156 chpσ_156 dhpσ_156 ehpσ_156 smσ_156 nsσ_156 t5σ_156 t6σ_156 t1σ_156 mv9_σ_157 mv12_σ_157 mv14_σ_157 mv15_σ_157 mv16_σ_157 mv27_σ_157 smσ_157 nsσ_157 t5σ_157; omega) | omega)]; exact t6σ_156)
                    have t1σ_157 : m_t1 (m_c X σ_157 a) v1.toInt := m_t1.k t1σ_156 (by rw [mcσ_157 (v1.toInt + 6) (by first | (clear hs hc2 bhpσ_2 chpσ_2 j15 chpσ_5 dhpσ_5 ehpσ_5 t5σ_7 t6σ_7 t1σ_8 t6σ_8 if_9 c_10 c_11 if_13 c_14 if_89 t6σ_90 t1σ_90 kc_91 ahpσ_93 bhpσ_93 chpσ_93 c_94 kc_110 ahpσ_112 bhpσ_112 chpσ_112 c_113 kc_129 ahpσ_131 bhpσ_131 chpσ_131 c_132 kc_148 ahpσ_150 chpσ_150 dhpσ_150 ehpσ_150 t6σ_150 t1σ_150 c_152 kc_153 kc_154 ahpσ_156 chpσ_156 dhpσ_156 ehpσ_156 smσ_156 nsσ_156 t5σ_156 t6σ_156 t1σ_156 mv9_σ_157 mv12_σ_157 mv14_σ_157 mv15_σ_157 mv16_σ_157 mv27_σ_157 smσ_157 nsσ_157 t5σ_157 t6σ_157; omega) | omega), if_neg (by first | (clear hs hw hc2 bhpσ_2 chpσ_2 j15 chpσ_5 dhpσ_5 ehpσ_5 iz_6 t5σ_7 t6σ_7 t1σ_8 t6σ_8 if_9 c_10 c_11 iz_12 if_13 c_14 if_89 t6σ_90 t1σ_90 kc_91 ahpσ_93 bhpσ_93 chpσ_93 c_94 kc_110 ahpσ_112 bhpσ_112 chpσ_112 c_113 kc_129 ahpσ_131 bhpσ_131 chpσ_131 c_132 kc_148 ahpσ_150 chpσ_150 dhpσ_150 ehpσ_150 t6σ_150 t1σ_150 iz_151 c_152 kc_153 kc_154 ahpσ_156 chpσ_156 dhpσ_156 ehpσ_156 smσ_156 nsσ_156 t5σ_156 t6σ_156 t1σ_156 mv9_σ_157 mv12_σ_157 mv14_σ_157 mv15_σ_157 mv16_σ_157 mv27_σ_157 smσ_157 nsσ_157 t5σ_157 t6σ_157; omega) | omega)]) (by rw [mcσ_157 (v1.toInt + 1) (by first | (clear hs hc2 bhpσ_2 chpσ_2 j15 chpσ_5 dhpσ_5 ehpσ_5 t5σ_7 t6σ_7 t1σ_8 t6σ_8 if_9 c_10 c_11 if_13 c_14 if_89 t6σ_90 t1σ_90 kc_91 ahpσ_93 bhpσ_93 chpσ_93 c_94 kc_110 ahpσ_112 bhpσ_112 chpσ_112 c_113 kc_129 ahpσ_131 bhpσ_131 chpσ_131 c_132 kc_148 ahpσ_150 chpσ_150 dhpσ_150 ehpσ_150 t6σ_150 t1σ_150 c_152 kc_153 kc_154 ahpσ_156 chpσ_156 dhpσ_156 ehpσ_156 smσ_156 nsσ_156 t5σ_156 t6σ_156 t1σ_156 mv9_σ_157 mv12_σ_157 mv14_σ_157 mv15_σ_157 mv16_σ_157 mv27_σ_157 smσ_157 nsσ_157 t5σ_157 t6σ_157; omega) | omega), if_neg (by first | (clear hs hw hc2 bhpσ_2 chpσ_2 j15 chpσ_5 dhpσ_5 ehpσ_5 iz_6 t5σ_7 t6σ_7 t1σ_8 t6σ_8 if_9 c_10 c_11 iz_12 if_13 c_14 if_89 t6σ_90 t1σ_90 kc_91 ahpσ_93 bhpσ_93 chpσ_93 c_94 kc_110 ahpσ_112 bhpσ_112 chpσ_112 c_113 kc_129 ahpσ_131 bhpσ_131 chpσ_131 c_132 kc_148 ahpσ_150 chpσ_150 dhpσ_150 ehpσ_150 t6σ_150 t1σ_150 iz_151 c_152 kc_153 kc_154 ahpσ_156 chpσ_156 dhpσ_156 ehpσ_156 smσ_156 nsσ_156 t5σ_156 t6σ_156 t1σ_156 mv9_σ_157 mv12_σ_157 mv14_σ_157 mv15_σ_157 mv16_σ_157 mv27_σ_157 smσ_157 nsσ_157 t5σ_157 t6σ_157; omega) | omega)])
                    clear mv9_σ_157 mv12_σ_157 mv14_σ_157 mv15_σ_157 mv16_σ_157 mv27_σ_157 smσ_156 nsσ_156 t5σ_156
                    rewrite [hQQ]; exact q_retv E hr hlk hI ⟨kwσ_157, (by first | exact smσ_157 | omega), nsσ_157, (fun e => ⟨by rw [t6σ_157]; omega, t1σ_157⟩), (hF.trans hout), fr_σ_157⟩ dX12_readTest_150
                  · skip
                    replace hF := q_ifp hF c_152
                    refine lv_sipush (v := 999) hx hb dX12_readTest_138 zks_999 ?_
                    refine lv_goto (tgt := 146) hx hb dX12_readTest_141 (by decide) ?_
                    have kc_158 : (0 : Int32).toInt = 0 := zt_0
                    have kc_159 : (999 : Int32).toInt = 999 := zt_999
                    refine q_ci (q_rV11_2 (rest := [.int z_151, .ref (q_rf X a 20)]) E (hml.trans hl.1.symm) hI (c_X12_count l X σ_150 a (0 : Int32) (999 : Int32) ha (by first | exact sm_9 smσ_150 | exact hs | omega) (by first | (clear hs hw hc2 bhpσ_2 chpσ_2 j15 chpσ_5 dhpσ_5 ehpσ_5 iz_6 t5σ_7 t6σ_7 t1σ_8 t6σ_8 if_9 c_10 c_11 iz_12 if_13 c_14 if_89 t6σ_90 t1σ_90 kc_91 ahpσ_93 bhpσ_93 chpσ_93 c_94 kc_110 ahpσ_112 bhpσ_112 chpσ_112 c_113 kc_129 ahpσ_131 bhpσ_131 chpσ_131 c_132 kc_148 ahpσ_150 chpσ_150 dhpσ_150 ehpσ_150 t6σ_150 t1σ_150 iz_151 c_152; omega) | omega)) kv_X12_223 ha ⟨Nat.le_of_ble_eq_true rfl, Nat.le_of_ble_eq_true rfl⟩ (Nat.le_of_ble_eq_true rfl) dX12_readTest_146) hI (Nat.le_of_ble_eq_true rfl) (fun r_160 σ_161 H locs hpσ_161 hkσ_161 hI => ?_)
                    have ahpσ_161 := hpσ_161.1
                    have bhpσ_161 := hpσ_161.2.1
                    have chpσ_161 := hpσ_161.2.2.1
                    have dhpσ_161 := hpσ_161.2.2.2.1
                    have ehpσ_161 := hpσ_161.2.2.2.2
                    clear hpσ_161
                    have fr_σ_161 := fr_σ_150.call ehpσ_161 rfl rfl
                    replace hF := q_biX hF dhpσ_161
                    have mv27_σ_161 : (σ_161.1 a 27).toInt = (σ_150.1 a 27).toInt := congrArg Int32.toInt (ahpσ_161 a 27 (q_cl9 _ _) (fun h => absurd h.2.2 (by decide)))
                    have mcσ_161 := m_cK hkσ_161 hI.1 ha (by decide)
                    have kwσ_161 : ∀ j, 0 ≤ j → (j < v1.toInt + 1 ∨ v1.toInt + 8 ≤ j) → m_c X σ_161 a j = m_c X σ a j := fun j h0 h1 => (mcσ_161 j).trans (kwσ_150 j h0 h1)
                    have smσ_161 : 0 ≤ (σ_161.1 a 15).toInt ∧ (σ_161.1 a 15).toInt ≤ (σ_161.1 a 16).toInt ∧ (σ_161.1 a 16).toInt ≤ (σ_161.1 a 9).toInt ∧ (σ_161.1 a 9).toInt ≤ 900 ∧ 0 ≤ (σ_161.1 a 14).toInt ∧ (σ_161.1 a 14).toInt ≤ 4 ∧ (σ_161.1 a 14).toInt ≤ 4 * ((σ_161.1 a 16).toInt - (σ_161.1 a 15).toInt) ∧ (σ_161.1 a 14).toInt ≤ 4 * ((σ_161.1 a 9).toInt - (σ_161.1 a 15).toInt) ∧ 0 ≤ (σ_161.1 a 12).toInt ∧ (σ_161.1 a 9).toInt = (σ.1 a 9).toInt ∧ (σ.1 a 15).toInt ≤ (σ_161.1 a 15).toInt ∧ (σ.1 a 12).toInt ≤ (σ_161.1 a 12).toInt := (by first | exact sm_tr smσ_150 bhpσ_161 | exact sm_tr smσ_150 chpσ_161 | omega)
                    have nsσ_161 : (σ_161.1 a 27).toInt = (σ.1 a 27).toInt := (by first | (clear hs hw hc2 bhpσ_2 chpσ_2 j15 chpσ_5 dhpσ_5 ehpσ_5 iz_6 t5σ_7 t6σ_7 t1σ_8 t6σ_8 if_9 c_10 c_11 iz_12 if_13 c_14 if_89 t6σ_90 t1σ_90 kc_91 ahpσ_93 bhpσ_93 chpσ_93 c_94 kc_110 ahpσ_112 bhpσ_112 chpσ_112 c_113 kc_129 ahpσ_131 bhpσ_131 chpσ_131 c_132 kc_148 ahpσ_150 chpσ_150 dhpσ_150 ehpσ_150 t6σ_150 t1σ_150 iz_151 c_152 kc_158 kc_159 ahpσ_161 bhpσ_161 chpσ_161 dhpσ_161 ehpσ_161 smσ_161; omega) | omega)
                    have t5σ_161 : 0 ≤ r_1.toInt + (σ_161.1 a 12).toInt := (by first | (clear hs hw hc2 bhpσ_2 chpσ_2 j15 chpσ_5 dhpσ_5 ehpσ_5 iz_6 t5σ_7 t1σ_8 if_9 c_10 c_11 iz_12 if_13 c_14 if_89 t1σ_90 kc_91 ahpσ_93 bhpσ_93 chpσ_93 c_94 kc_110 ahpσ_112 bhpσ_112 chpσ_112 c_113 kc_129 ahpσ_131 bhpσ_131 chpσ_131 c_132 kc_148 ahpσ_150 chpσ_150 dhpσ_150 ehpσ_150 t1σ_150 iz_151 kc_158 kc_159 ahpσ_161 chpσ_161 dhpσ_161 ehpσ_161 mv27_σ_161 smσ_161 nsσ_161; omega) | omega)
                    have t6σ_161 : m_c X σ_161 a (v1.toInt + 6) = r_1.toInt := (mcσ_161 _).trans t6σ_150
                    have t1σ_161 : m_t1 (m_c X σ_161 a) v1.toInt := m_t1.k t1σ_150 (mcσ_161 _) (mcσ_161 _)
                    clear mv27_σ_161 smσ_150 nsσ_150 t5σ_150 bhpσ_161
                    refine q_iastN E hI (q_tk (k' := 34) hI ha rfl (Nat.succ_ne_zero _)) ⟨by decide, rfl⟩ (by first | (clear hs hc2 bhpσ_2 chpσ_2 j15 chpσ_5 dhpσ_5 ehpσ_5 t5σ_7 t6σ_7 t1σ_8 t6σ_8 if_9 c_10 c_11 if_13 c_14 if_89 t6σ_90 t1σ_90 kc_91 ahpσ_93 bhpσ_93 chpσ_93 c_94 kc_110 ahpσ_112 bhpσ_112 chpσ_112 c_113 kc_129 ahpσ_131 bhpσ_131 chpσ_131 c_132 kc_148 ahpσ_150 chpσ_150 dhpσ_150 ehpσ_150 t6σ_150 t1σ_150 c_152 kc_158 kc_159 ahpσ_161 chpσ_161 dhpσ_161 ehpσ_161 smσ_161 nsσ_161 t5σ_161 t6σ_161 t1σ_161; omega) | omega) (by rw [q_lnk (v := 4650) hI (q_tk (k' := 34) hI ha rfl (Nat.succ_ne_zero _)) rfl (by decide)]; omega) (show 1 < 2 by decide) (q_inU rfl) dX12_readTest_149 (fun H locs σ_162 hσ_162 hI => ?_)
                    replace hF := q_letX hF hσ_162
                    have fr_σ_162 := fr_σ_161.si hσ_162 (q_tk (k' := 34) hI ha rfl (Nat.succ_ne_zero _)) rfl
                    have mv9_σ_162 : (σ_162.1 a 9).toInt = (σ_161.1 a 9).toInt := congrArg Int32.toInt (q_rdn hσ_162 (Or.inl (m_ne ha (q_tk (k' := 34) hI ha rfl (Nat.succ_ne_zero _)) (by decide))))
                    have mv12_σ_162 : (σ_162.1 a 12).toInt = (σ_161.1 a 12).toInt := congrArg Int32.toInt (q_rdn hσ_162 (Or.inl (m_ne ha (q_tk (k' := 34) hI ha rfl (Nat.succ_ne_zero _)) (by decide))))
                    have mv14_σ_162 : (σ_162.1 a 14).toInt = (σ_161.1 a 14).toInt := congrArg Int32.toInt (q_rdn hσ_162 (Or.inl (m_ne ha (q_tk (k' := 34) hI ha rfl (Nat.succ_ne_zero _)) (by decide))))
                    have mv15_σ_162 : (σ_162.1 a 15).toInt = (σ_161.1 a 15).toInt := congrArg Int32.toInt (q_rdn hσ_162 (Or.inl (m_ne ha (q_tk (k' := 34) hI ha rfl (Nat.succ_ne_zero _)) (by decide))))
                    have mv16_σ_162 : (σ_162.1 a 16).toInt = (σ_161.1 a 16).toInt := congrArg Int32.toInt (q_rdn hσ_162 (Or.inl (m_ne ha (q_tk (k' := 34) hI ha rfl (Nat.succ_ne_zero _)) (by decide))))
                    have mv27_σ_162 : (σ_162.1 a 27).toInt = (σ_161.1 a 27).toInt := congrArg Int32.toInt (q_rdn hσ_162 (Or.inl (m_ne ha (q_tk (k' := 34) hI ha rfl (Nat.succ_ne_zero _)) (by decide))))
                    have mcσ_162 := m_wr (v := r_160) (A := (v1.toInt + 2)) hσ_162 iz_151 (by first | (clear hs hc2 bhpσ_2 chpσ_2 j15 chpσ_5 dhpσ_5 ehpσ_5 t5σ_7 t6σ_7 t1σ_8 t6σ_8 if_9 c_10 c_11 if_13 c_14 if_89 t6σ_90 t1σ_90 kc_91 ahpσ_93 bhpσ_93 chpσ_93 c_94 kc_110 ahpσ_112 bhpσ_112 chpσ_112 c_113 kc_129 ahpσ_131 bhpσ_131 chpσ_131 c_132 kc_148 ahpσ_150 chpσ_150 dhpσ_150 ehpσ_150 t6σ_150 t1σ_150 c_152 kc_158 kc_159 ahpσ_161 chpσ_161 dhpσ_161 ehpσ_161 smσ_161 nsσ_161 t5σ_161 t6σ_161 t1σ_161 mv9_σ_162 mv12_σ_162 mv14_σ_162 mv15_σ_162 mv16_σ_162 mv27_σ_162; omega) | omega)
                    have kwσ_162 : ∀ j, 0 ≤ j → (j < v1.toInt + 1 ∨ v1.toInt + 8 ≤ j) → m_c X σ_162 a j = m_c X σ a j := fun j h0 h1 => by rw [mcσ_162 j h0, if_neg (by first | (clear hs hw hc2 bhpσ_2 chpσ_2 j15 chpσ_5 dhpσ_5 ehpσ_5 t5σ_7 t6σ_7 t1σ_8 t6σ_8 if_9 c_10 c_11 if_13 c_14 if_89 t6σ_90 t1σ_90 kc_91 ahpσ_93 bhpσ_93 chpσ_93 c_94 kc_110 ahpσ_112 bhpσ_112 chpσ_112 c_113 kc_129 ahpσ_131 bhpσ_131 chpσ_131 c_132 kc_148 ahpσ_150 chpσ_150 dhpσ_150 ehpσ_150 t6σ_150 t1σ_150 c_152 kc_158 kc_159 ahpσ_161 chpσ_161 dhpσ_161 ehpσ_161 smσ_161 nsσ_161 t5σ_161 t6σ_161 t1σ_161 mv9_σ_162 mv12_σ_162 mv14_σ_162 mv15_σ_162 mv16_σ_162 mv27_σ_162; omega) | omega)]; exact kwσ_161 j h0 h1
                    have smσ_162 : 0 ≤ (σ_162.1 a 15).toInt ∧ (σ_162.1 a 15).toInt ≤ (σ_162.1 a 16).toInt ∧ (σ_162.1 a 16).toInt ≤ (σ_162.1 a 9).toInt ∧ (σ_162.1 a 9).toInt ≤ 900 ∧ 0 ≤ (σ_162.1 a 14).toInt ∧ (σ_162.1 a 14).toInt ≤ 4 ∧ (σ_162.1 a 14).toInt ≤ 4 * ((σ_162.1 a 16).toInt - (σ_162.1 a 15).toInt) ∧ (σ_162.1 a 14).toInt ≤ 4 * ((σ_162.1 a 9).toInt - (σ_162.1 a 15).toInt) ∧ 0 ≤ (σ_162.1 a 12).toInt ∧ (σ_162.1 a 9).toInt = (σ.1 a 9).toInt ∧ (σ.1 a 15).toInt ≤ (σ_162.1 a 15).toInt ∧ (σ.1 a 12).toInt ≤ (σ_162.1 a 12).toInt := (by first | (rw [mv12_σ_162, mv14_σ_162, mv15_σ_162, mv16_σ_162, mv9_σ_162]; exact smσ_161) | omega)
                    have nsσ_162 : (σ_162.1 a 27).toInt = (σ.1 a 27).toInt := (by first | (clear hs hw hc2 bhpσ_2 chpσ_2 j15 chpσ_5 dhpσ_5 ehpσ_5 iz_6 t5σ_7 t6σ_7 t1σ_8 t6σ_8 if_9 c_10 c_11 iz_12 if_13 c_14 if_89 t6σ_90 t1σ_90 kc_91 ahpσ_93 bhpσ_93 chpσ_93 c_94 kc_110 ahpσ_112 bhpσ_112 chpσ_112 c_113 kc_129 ahpσ_131 bhpσ_131 chpσ_131 c_132 kc_148 ahpσ_150 chpσ_150 dhpσ_150 ehpσ_150 t6σ_150 t1σ_150 iz_151 c_152 kc_158 kc_159 ahpσ_161 chpσ_161 dhpσ_161 ehpσ_161 smσ_161 t5σ_161 t6σ_161 t1σ_161 mv9_σ_162 mv12_σ_162 mv14_σ_162 mv15_σ_162 mv16_σ_162 smσ_162; omega) | omega)
                    have t5σ_162 : 0 ≤ r_1.toInt + (σ_162.1 a 12).toInt := (by first | (clear hs hw hc2 bhpσ_2 chpσ_2 j15 chpσ_5 dhpσ_5 ehpσ_5 iz_6 t5σ_7 t1σ_8 if_9 c_10 c_11 iz_12 if_13 c_14 if_89 t1σ_90 kc_91 ahpσ_93 bhpσ_93 chpσ_93 c_94 kc_110 ahpσ_112 bhpσ_112 chpσ_112 c_113 kc_129 ahpσ_131 bhpσ_131 chpσ_131 c_132 kc_148 ahpσ_150 chpσ_150 dhpσ_150 ehpσ_150 t1σ_150 iz_151 kc_158 kc_159 ahpσ_161 chpσ_161 dhpσ_161 ehpσ_161 nsσ_161 t5σ_161 t6σ_161 t1σ_161 mv9_σ_162 mv14_σ_162 mv15_σ_162 mv16_σ_162 mv27_σ_162 smσ_162 nsσ_162; omega) | omega)
                    have t6σ_162 : m_c X σ_162 a (v1.toInt + 6) = r_1.toInt := (by rw [mcσ_162 (v1.toInt + 6) (by first | (clear hs hc2 bhpσ_2 chpσ_2 j15 chpσ_5 dhpσ_5 ehpσ_5 t5σ_7 t6σ_7 t1σ_8 t6σ_8 if_9 c_10 c_11 if_13 c_14 if_89 t6σ_90 t1σ_90 kc_91 ahpσ_93 bhpσ_93 chpσ_93 c_94 kc_110 ahpσ_112 bhpσ_112 chpσ_112 c_113 kc_129 ahpσ_131 bhpσ_131 chpσ_131 c_132 kc_148 ahpσ_150 chpσ_150 dhpσ_150 ehpσ_150 t6σ_150 t1σ_150 c_152 kc_158 kc_159 ahpσ_161 chpσ_161 dhpσ_161 ehpσ_161 smσ_161 nsσ_161 t5σ_161 t6σ_161 t1σ_161 mv9_σ_162 mv12_σ_162 mv14_σ_162 mv15_σ_162 mv16_σ_162 mv27_σ_162 smσ_162 nsσ_162 t5σ_162; omega) | omega), if_neg (by first | (clear hs hw hc2 bhpσ_2 chpσ_2 j15 chpσ_5 dhpσ_5 ehpσ_5 iz_6 t5σ_7 t6σ_7 t1σ_8 t6σ_8 if_9 c_10 c_11 iz_12 if_13 c_14 if_89 t6σ_90 t1σ_90 kc_91 ahpσ_93 bhpσ_93 chpσ_93 c_94 kc_110 ahpσ_112 bhpσ_112 chpσ_112 c_113 kc_129 ahpσ_131 bhpσ_131 chpσ_131 c_132 kc_148 ahpσ_150 chpσ_150 dhpσ_150 ehpσ_150 t6σ_150 t1σ_150 iz_151 c_152 kc_158 kc_159 ahpσ_161 chpσ_161 dhpσ_161 ehpσ_161 smσ_161 nsσ_161 t5σ_161 t6σ_161 t1σ_161 mv9_σ_162 mv12_σ_162 mv14_σ_162 mv15_σ_162 mv16_σ_162 mv27_σ_162 smσ_162 nsσ_162 t5σ_162; omega) | omega)]; exact t6σ_161)
                    have t1σ_162 : m_t1 (m_c X σ_162 a) v1.toInt := m_t1.k t1σ_161 (by rw [mcσ_162 (v1.toInt + 6) (by first | (clear hs hc2 bhpσ_2 chpσ_2 j15 chpσ_5 dhpσ_5 ehpσ_5 t5σ_7 t6σ_7 t1σ_8 t6σ_8 if_9 c_10 c_11 if_13 c_14 if_89 t6σ_90 t1σ_90 kc_91 ahpσ_93 bhpσ_93 chpσ_93 c_94 kc_110 ahpσ_112 bhpσ_112 chpσ_112 c_113 kc_129 ahpσ_131 bhpσ_131 chpσ_131 c_132 kc_148 ahpσ_150 chpσ_150 dhpσ_150 ehpσ_150 t6σ_150 t1σ_150 c_152 kc_158 kc_159 ahpσ_161 chpσ_161 dhpσ_161 ehpσ_161 smσ_161 nsσ_161 t5σ_161 t6σ_161 t1σ_161 mv9_σ_162 mv12_σ_162 mv14_σ_162 mv15_σ_162 mv16_σ_162 mv27_σ_162 smσ_162 nsσ_162 t5σ_162 t6σ_162; omega) | omega), if_neg (by first | (clear hs hw hc2 bhpσ_2 chpσ_2 j15 chpσ_5 dhpσ_5 ehpσ_5 iz_6 t5σ_7 t6σ_7 t1σ_8 t6σ_8 if_9 c_10 c_11 iz_12 if_13 c_14 if_89 t6σ_90 t1σ_90 kc_91 ahpσ_93 bhpσ_93 chpσ_93 c_94 kc_110 ahpσ_112 bhpσ_112 chpσ_112 c_113 kc_129 ahpσ_131 bhpσ_131 chpσ_131 c_132 kc_148 ahpσ_150 chpσ_150 dhpσ_150 ehpσ_150 t6σ_150 t1σ_150 iz_151 c_152 kc_158 kc_159 ahpσ_161 chpσ_161 dhpσ_161 ehpσ_161 smσ_161 nsσ_161 t5σ_161 t6σ_161 t1σ_161 mv9_σ_162 mv12_σ_162 mv14_σ_162 mv15_σ_162 mv16_σ_162 mv27_σ_162 smσ_162 nsσ_162 t5σ_162 t6σ_162; omega) | omega)]) (by rw [mcσ_162 (v1.toInt + 1) (by first | (clear hs hc2 bhpσ_2 chpσ_2 j15 chpσ_5 dhpσ_5 ehpσ_5 t5σ_7 t6σ_7 t1σ_8 t6σ_8 if_9 c_10 c_11 if_13 c_14 if_89 t6σ_90 t1σ_90 kc_91 ahpσ_93 bhpσ_93 chpσ_93 c_94 kc_110 ahpσ_112 bhpσ_112 chpσ_112 c_113 kc_129 ahpσ_131 bhpσ_131 chpσ_131 c_132 kc_148 ahpσ_150 chpσ_150 dhpσ_150 ehpσ_150 t6σ_150 t1σ_150 c_152 kc_158 kc_159 ahpσ_161 chpσ_161 dhpσ_161 ehpσ_161 smσ_161 nsσ_161 t5σ_161 t6σ_161 t1σ_161 mv9_σ_162 mv12_σ_162 mv14_σ_162 mv15_σ_162 mv16_σ_162 mv27_σ_162 smσ_162 nsσ_162 t5σ_162 t6σ_162; omega) | omega), if_neg (by first | (clear hs hw hc2 bhpσ_2 chpσ_2 j15 chpσ_5 dhpσ_5 ehpσ_5 iz_6 t5σ_7 t6σ_7 t1σ_8 t6σ_8 if_9 c_10 c_11 iz_12 if_13 c_14 if_89 t6σ_90 t1σ_90 kc_91 ahpσ_93 bhpσ_93 chpσ_93 c_94 kc_110 ahpσ_112 bhpσ_112 chpσ_112 c_113 kc_129 ahpσ_131 bhpσ_131 chpσ_131 c_132 kc_148 ahpσ_150 chpσ_150 dhpσ_150 ehpσ_150 t6σ_150 t1σ_150 iz_151 c_152 kc_158 kc_159 ahpσ_161 chpσ_161 dhpσ_161 ehpσ_161 smσ_161 nsσ_161 t5σ_161 t6σ_161 t1σ_161 mv9_σ_162 mv12_σ_162 mv14_σ_162 mv15_σ_162 mv16_σ_162 mv27_σ_162 smσ_162 nsσ_162 t5σ_162 t6σ_162; omega) | omega)])
                    clear mv9_σ_162 mv12_σ_162 mv14_σ_162 mv15_σ_162 mv16_σ_162 mv27_σ_162 smσ_161 nsσ_161 t5σ_161
                    rewrite [hQQ]; exact q_retv E hr hlk hI ⟨kwσ_162, (by first | exact smσ_162 | omega), nsσ_162, (fun e => ⟨by rw [t6σ_162]; omega, t1σ_162⟩), (hF.trans hout), fr_σ_162⟩ dX12_readTest_150
        · skip
          replace hF := q_ifp hF c_11
          rewrite [hQQ]; exact q_retv E hr hlk hI ⟨kwσ_8, (by first | exact smσ_8 | omega), nsσ_8, (fun e => ⟨by rw [t6σ_8]; omega, t1σ_8⟩), (hF.trans hout), fr_σ_8⟩ dX12_readTest_62
    refine q_if_eq (A := r_1.toInt) E rfl (tgt := 37) dX12_readTest_29 (by decide) (fun c_163 => ?_) (fun c_163 => ?_)
    · skip
      replace hF := q_ifp hF c_163
      refine lv_aload_n hx hb dX12_readTest_37 rfl (lv_at hl 0 rfl) ?_
      refine gs_X12_35_12 E hI ha dX12_readTest_38 ?_
      refine lv_iload_n hx hb dX12_readTest_41 rfl (lv_at hl 1 rfl) ?_
      refine lv_iconst (v := 1) hx hb dX12_readTest_42 zki_1 ?_
      refine lv_iadd hx hb dX12_readTest_43 ?_
      refine lv_topi (fun z_164 ez_164 => ?_)
      replace hF := q_letX hF ez_164
      have iz_164 := q_addI (A := v1.toInt) (B := 1) ez_164 rfl (by decide) (by first | (clear hs hc2 bhpσ_2 chpσ_2 j15 chpσ_5 dhpσ_5 ehpσ_5 t5σ_7 t6σ_7 c_163; omega) | omega) (by first | (clear hs hc2 bhpσ_2 chpσ_2 j15 chpσ_5 dhpσ_5 ehpσ_5 t5σ_7 t6σ_7 c_163; omega) | omega)
      refine lv_aload_n hx hb dX12_readTest_44 rfl (lv_at hl 0 rfl) ?_
      refine lv_iconst (v := 0) hx hb dX12_readTest_45 zki_0 ?_
      have kc_165 : (0 : Int32).toInt = 0 := zt_0
      refine q_ci (q_rV11_1 (rest := [.int z_164, .ref (q_rf X a 20)]) E (hml.trans hl.1.symm) hI (c_X12_readTold l X σ_7 a (0 : Int32) ha (by first | exact sm_9 smσ_7 | exact hs | omega) (Or.inl rfl) (by show m_c X σ_7 a 2 ≤ 6; rw [kwσ_7 2 (by decide) (Or.inl (by first | (clear hs hc2 bhpσ_2 chpσ_2 j15 chpσ_5 dhpσ_5 ehpσ_5 t5σ_7 t6σ_7 c_163 kc_165; omega) | omega))]; exact hc2)) kv_X12_226 ha ⟨Nat.le_of_ble_eq_true rfl, Nat.le_of_ble_eq_true rfl⟩ (Nat.le_of_ble_eq_true rfl) dX12_readTest_46) hI (Nat.le_of_ble_eq_true rfl) (fun r_166 σ_167 H locs hpσ_167 hkσ_167 hI => ?_)
      have ahpσ_167 := hpσ_167.1
      have bhpσ_167 := hpσ_167.2.1
      have chpσ_167 := hpσ_167.2.2.1
      have dhpσ_167 := hpσ_167.2.2.2.1
      have ehpσ_167 := hpσ_167.2.2.2.2
      clear hpσ_167
      have fr_σ_167 := fr_σ_7.call ehpσ_167 rfl rfl
      replace hF := q_biX hF dhpσ_167
      have mv27_σ_167 : (σ_167.1 a 27).toInt = (σ_7.1 a 27).toInt := congrArg Int32.toInt (ahpσ_167 a 27 (q_cl9 _ _) (fun h => absurd h.2.2 (by decide)))
      have mcσ_167 := m_cK hkσ_167 hI.1 ha (by decide)
      have kwσ_167 : ∀ j, 0 ≤ j → (j < v1.toInt + 1 ∨ v1.toInt + 8 ≤ j) → m_c X σ_167 a j = m_c X σ a j := fun j h0 h1 => (mcσ_167 j).trans (kwσ_7 j h0 h1)
      have smσ_167 : 0 ≤ (σ_167.1 a 15).toInt ∧ (σ_167.1 a 15).toInt ≤ (σ_167.1 a 16).toInt ∧ (σ_167.1 a 16).toInt ≤ (σ_167.1 a 9).toInt ∧ (σ_167.1 a 9).toInt ≤ 900 ∧ 0 ≤ (σ_167.1 a 14).toInt ∧ (σ_167.1 a 14).toInt ≤ 4 ∧ (σ_167.1 a 14).toInt ≤ 4 * ((σ_167.1 a 16).toInt - (σ_167.1 a 15).toInt) ∧ (σ_167.1 a 14).toInt ≤ 4 * ((σ_167.1 a 9).toInt - (σ_167.1 a 15).toInt) ∧ 0 ≤ (σ_167.1 a 12).toInt ∧ (σ_167.1 a 9).toInt = (σ.1 a 9).toInt ∧ (σ.1 a 15).toInt ≤ (σ_167.1 a 15).toInt ∧ (σ.1 a 12).toInt ≤ (σ_167.1 a 12).toInt := (by first | exact sm_tr smσ_7 bhpσ_167 | exact sm_tr smσ_7 chpσ_167 | omega)
      have nsσ_167 : (σ_167.1 a 27).toInt = (σ.1 a 27).toInt := (by first | (clear hs hw hc2 bhpσ_2 chpσ_2 j15 chpσ_5 dhpσ_5 ehpσ_5 iz_6 t5σ_7 t6σ_7 c_163 iz_164 kc_165 ahpσ_167 bhpσ_167 chpσ_167 dhpσ_167 ehpσ_167 smσ_167; omega) | omega)
      have t5σ_167 : 0 ≤ r_1.toInt + (σ_167.1 a 12).toInt := (by first | (clear hs hw hc2 bhpσ_2 chpσ_2 j15 chpσ_5 dhpσ_5 ehpσ_5 iz_6 t5σ_7 iz_164 kc_165 ahpσ_167 chpσ_167 dhpσ_167 ehpσ_167 mv27_σ_167 smσ_167 nsσ_167; omega) | omega)
      have t6σ_167 : m_c X σ_167 a (v1.toInt + 6) = r_1.toInt := (mcσ_167 _).trans t6σ_7
      clear mv27_σ_167 smσ_7 nsσ_7 t5σ_7 bhpσ_167
      refine q_iastN E hI (q_tk (k' := 34) hI ha rfl (Nat.succ_ne_zero _)) ⟨by decide, rfl⟩ (by first | (clear hs hc2 bhpσ_2 chpσ_2 j15 chpσ_5 dhpσ_5 ehpσ_5 t6σ_7 c_163 kc_165 ahpσ_167 chpσ_167 dhpσ_167 ehpσ_167 smσ_167 nsσ_167 t5σ_167 t6σ_167; omega) | omega) (by rw [q_lnk (v := 4650) hI (q_tk (k' := 34) hI ha rfl (Nat.succ_ne_zero _)) rfl (by decide)]; omega) (show 1 < 2 by decide) (q_inU rfl) dX12_readTest_49 (fun H locs σ_168 hσ_168 hI => ?_)
      replace hF := q_letX hF hσ_168
      have fr_σ_168 := fr_σ_167.si hσ_168 (q_tk (k' := 34) hI ha rfl (Nat.succ_ne_zero _)) rfl
      have mv9_σ_168 : (σ_168.1 a 9).toInt = (σ_167.1 a 9).toInt := congrArg Int32.toInt (q_rdn hσ_168 (Or.inl (m_ne ha (q_tk (k' := 34) hI ha rfl (Nat.succ_ne_zero _)) (by decide))))
      have mv12_σ_168 : (σ_168.1 a 12).toInt = (σ_167.1 a 12).toInt := congrArg Int32.toInt (q_rdn hσ_168 (Or.inl (m_ne ha (q_tk (k' := 34) hI ha rfl (Nat.succ_ne_zero _)) (by decide))))
      have mv14_σ_168 : (σ_168.1 a 14).toInt = (σ_167.1 a 14).toInt := congrArg Int32.toInt (q_rdn hσ_168 (Or.inl (m_ne ha (q_tk (k' := 34) hI ha rfl (Nat.succ_ne_zero _)) (by decide))))
      have mv15_σ_168 : (σ_168.1 a 15).toInt = (σ_167.1 a 15).toInt := congrArg Int32.toInt (q_rdn hσ_168 (Or.inl (m_ne ha (q_tk (k' := 34) hI ha rfl (Nat.succ_ne_zero _)) (by decide))))
      have mv16_σ_168 : (σ_168.1 a 16).toInt = (σ_167.1 a 16).toInt := congrArg Int32.toInt (q_rdn hσ_168 (Or.inl (m_ne ha (q_tk (k' := 34) hI ha rfl (Nat.succ_ne_zero _)) (by decide))))
      have mv27_σ_168 : (σ_168.1 a 27).toInt = (σ_167.1 a 27).toInt := congrArg Int32.toInt (q_rdn hσ_168 (Or.inl (m_ne ha (q_tk (k' := 34) hI ha rfl (Nat.succ_ne_zero _)) (by decide))))
      have mcσ_168 := m_wr (v := r_166) (A := (v1.toInt + 1)) hσ_168 iz_164 (by first | (clear hs hc2 bhpσ_2 chpσ_2 j15 chpσ_5 dhpσ_5 ehpσ_5 t6σ_7 c_163 kc_165 ahpσ_167 chpσ_167 dhpσ_167 ehpσ_167 smσ_167 nsσ_167 t5σ_167 t6σ_167 mv9_σ_168 mv12_σ_168 mv14_σ_168 mv15_σ_168 mv16_σ_168 mv27_σ_168; omega) | omega)
      have kwσ_168 : ∀ j, 0 ≤ j → (j < v1.toInt + 1 ∨ v1.toInt + 8 ≤ j) → m_c X σ_168 a j = m_c X σ a j := fun j h0 h1 => by rw [mcσ_168 j h0, if_neg (by first | (clear hs hw hc2 bhpσ_2 chpσ_2 j15 chpσ_5 dhpσ_5 ehpσ_5 t6σ_7 c_163 kc_165 ahpσ_167 chpσ_167 dhpσ_167 ehpσ_167 smσ_167 nsσ_167 t5σ_167 t6σ_167 mv9_σ_168 mv12_σ_168 mv14_σ_168 mv15_σ_168 mv16_σ_168 mv27_σ_168; omega) | omega)]; exact kwσ_167 j h0 h1
      have smσ_168 : 0 ≤ (σ_168.1 a 15).toInt ∧ (σ_168.1 a 15).toInt ≤ (σ_168.1 a 16).toInt ∧ (σ_168.1 a 16).toInt ≤ (σ_168.1 a 9).toInt ∧ (σ_168.1 a 9).toInt ≤ 900 ∧ 0 ≤ (σ_168.1 a 14).toInt ∧ (σ_168.1 a 14).toInt ≤ 4 ∧ (σ_168.1 a 14).toInt ≤ 4 * ((σ_168.1 a 16).toInt - (σ_168.1 a 15).toInt) ∧ (σ_168.1 a 14).toInt ≤ 4 * ((σ_168.1 a 9).toInt - (σ_168.1 a 15).toInt) ∧ 0 ≤ (σ_168.1 a 12).toInt ∧ (σ_168.1 a 9).toInt = (σ.1 a 9).toInt ∧ (σ.1 a 15).toInt ≤ (σ_168.1 a 15).toInt ∧ (σ.1 a 12).toInt ≤ (σ_168.1 a 12).toInt := (by first | (rw [mv12_σ_168, mv14_σ_168, mv15_σ_168, mv16_σ_168, mv9_σ_168]; exact smσ_167) | omega)
      have nsσ_168 : (σ_168.1 a 27).toInt = (σ.1 a 27).toInt := (by first | (clear hs hw hc2 bhpσ_2 chpσ_2 j15 chpσ_5 dhpσ_5 ehpσ_5 iz_6 t6σ_7 c_163 iz_164 kc_165 ahpσ_167 chpσ_167 dhpσ_167 ehpσ_167 smσ_167 t5σ_167 t6σ_167 mv9_σ_168 mv12_σ_168 mv14_σ_168 mv15_σ_168 mv16_σ_168 smσ_168; omega) | omega)
      have t5σ_168 : 0 ≤ r_1.toInt + (σ_168.1 a 12).toInt := (by first | (clear hs hw hc2 bhpσ_2 chpσ_2 j15 chpσ_5 dhpσ_5 ehpσ_5 iz_6 iz_164 kc_165 ahpσ_167 chpσ_167 dhpσ_167 ehpσ_167 nsσ_167 t5σ_167 t6σ_167 mv9_σ_168 mv14_σ_168 mv15_σ_168 mv16_σ_168 mv27_σ_168 smσ_168 nsσ_168; omega) | omega)
      have t6σ_168 : m_c X σ_168 a (v1.toInt + 6) = r_1.toInt := (by rw [mcσ_168 (v1.toInt + 6) (by first | (clear hs hc2 bhpσ_2 chpσ_2 j15 chpσ_5 dhpσ_5 ehpσ_5 t6σ_7 c_163 kc_165 ahpσ_167 chpσ_167 dhpσ_167 ehpσ_167 smσ_167 nsσ_167 t5σ_167 t6σ_167 mv9_σ_168 mv12_σ_168 mv14_σ_168 mv15_σ_168 mv16_σ_168 mv27_σ_168 smσ_168 nsσ_168 t5σ_168; omega) | omega), if_neg (by first | (clear hs hw hc2 bhpσ_2 chpσ_2 j15 chpσ_5 dhpσ_5 ehpσ_5 iz_6 t6σ_7 c_163 iz_164 kc_165 ahpσ_167 chpσ_167 dhpσ_167 ehpσ_167 smσ_167 nsσ_167 t5σ_167 t6σ_167 mv9_σ_168 mv12_σ_168 mv14_σ_168 mv15_σ_168 mv16_σ_168 mv27_σ_168 smσ_168 nsσ_168 t5σ_168; omega) | omega)]; exact t6σ_167)
      clear mv9_σ_168 mv12_σ_168 mv14_σ_168 mv15_σ_168 mv16_σ_168 mv27_σ_168 smσ_167 nsσ_167 t5σ_167
      have t1xσ_168 : m_t1 (m_c X σ_168 a) v1.toInt := m_t1.yes (by have := mcσ_168 (v1.toInt + 1) (by first | (clear hs hc2 bhpσ_2 chpσ_2 j15 chpσ_5 dhpσ_5 ehpσ_5 t6σ_7 c_163 kc_165 ahpσ_167 chpσ_167 dhpσ_167 ehpσ_167 t6σ_167 smσ_168 nsσ_168 t5σ_168 t6σ_168; omega) | omega); rw [if_pos rfl] at this; omega)
      exact J_50_8 σ_168 _ _ ls (by first | exact t1xσ_168 | exact m_t1.no (by rw [t6σ_168]; omega) (by rw [t6σ_168]; omega)) fr_σ_168 kwσ_168 smσ_168 nsσ_168 t5σ_168 t6σ_168 hF hI (lv_sub hl [0, 1, 2] rfl)
    · skip
      replace hF := q_ifn hF c_163
      refine lv_iload_n hx hb dX12_readTest_32 rfl (lv_at hl 2 rfl) ?_
      refine lv_iconst (v := 2) hx hb dX12_readTest_33 zki_2 ?_
      refine q_icmp_ne (A := r_1.toInt) (B := 2) E rfl (by decide) (tgt := 50) dX12_readTest_34 (by decide) (fun c_169 => ?_) (fun c_169 => ?_)
      · skip
        replace hF := q_ifn hF c_169
        exact J_50_8 σ_7 _ _ ls (by first | exact t1xσ_7 | exact m_t1.no (by rw [t6σ_7]; omega) (by rw [t6σ_7]; omega)) fr_σ_7 kwσ_7 smσ_7 nsσ_7 t5σ_7 t6σ_7 hF hI (lv_sub hl [0, 1, 2] rfl)
      · skip
        replace hF := q_ifp hF c_169
        refine lv_aload_n hx hb dX12_readTest_37 rfl (lv_at hl 0 rfl) ?_
        refine gs_X12_35_12 E hI ha dX12_readTest_38 ?_
        refine lv_iload_n hx hb dX12_readTest_41 rfl (lv_at hl 1 rfl) ?_
        refine lv_iconst (v := 1) hx hb dX12_readTest_42 zki_1 ?_
        refine lv_iadd hx hb dX12_readTest_43 ?_
        refine lv_topi (fun z_170 ez_170 => ?_)
        replace hF := q_letX hF ez_170
        have iz_170 := q_addI (A := v1.toInt) (B := 1) ez_170 rfl (by decide) (by first | (clear hs hc2 bhpσ_2 chpσ_2 j15 chpσ_5 dhpσ_5 ehpσ_5 t6σ_7 c_163 c_169; omega) | omega) (by first | (clear hs hc2 bhpσ_2 chpσ_2 j15 chpσ_5 dhpσ_5 ehpσ_5 t6σ_7 c_163 c_169; omega) | omega)
        refine lv_aload_n hx hb dX12_readTest_44 rfl (lv_at hl 0 rfl) ?_
        refine lv_iconst (v := 0) hx hb dX12_readTest_45 zki_0 ?_
        have kc_171 : (0 : Int32).toInt = 0 := zt_0
        refine q_ci (q_rV11_1 (rest := [.int z_170, .ref (q_rf X a 20)]) E (hml.trans hl.1.symm) hI (c_X12_readTold l X σ_7 a (0 : Int32) ha (by first | exact sm_9 smσ_7 | exact hs | omega) (Or.inl rfl) (by show m_c X σ_7 a 2 ≤ 6; rw [kwσ_7 2 (by decide) (Or.inl (by first | (clear hs hc2 bhpσ_2 chpσ_2 j15 chpσ_5 dhpσ_5 ehpσ_5 t6σ_7 c_163 c_169 kc_171; omega) | omega))]; exact hc2)) kv_X12_226 ha ⟨Nat.le_of_ble_eq_true rfl, Nat.le_of_ble_eq_true rfl⟩ (Nat.le_of_ble_eq_true rfl) dX12_readTest_46) hI (Nat.le_of_ble_eq_true rfl) (fun r_172 σ_173 H locs hpσ_173 hkσ_173 hI => ?_)
        have ahpσ_173 := hpσ_173.1
        have bhpσ_173 := hpσ_173.2.1
        have chpσ_173 := hpσ_173.2.2.1
        have dhpσ_173 := hpσ_173.2.2.2.1
        have ehpσ_173 := hpσ_173.2.2.2.2
        clear hpσ_173
        have fr_σ_173 := fr_σ_7.call ehpσ_173 rfl rfl
        replace hF := q_biX hF dhpσ_173
        have mv27_σ_173 : (σ_173.1 a 27).toInt = (σ_7.1 a 27).toInt := congrArg Int32.toInt (ahpσ_173 a 27 (q_cl9 _ _) (fun h => absurd h.2.2 (by decide)))
        have mcσ_173 := m_cK hkσ_173 hI.1 ha (by decide)
        have kwσ_173 : ∀ j, 0 ≤ j → (j < v1.toInt + 1 ∨ v1.toInt + 8 ≤ j) → m_c X σ_173 a j = m_c X σ a j := fun j h0 h1 => (mcσ_173 j).trans (kwσ_7 j h0 h1)
        have smσ_173 : 0 ≤ (σ_173.1 a 15).toInt ∧ (σ_173.1 a 15).toInt ≤ (σ_173.1 a 16).toInt ∧ (σ_173.1 a 16).toInt ≤ (σ_173.1 a 9).toInt ∧ (σ_173.1 a 9).toInt ≤ 900 ∧ 0 ≤ (σ_173.1 a 14).toInt ∧ (σ_173.1 a 14).toInt ≤ 4 ∧ (σ_173.1 a 14).toInt ≤ 4 * ((σ_173.1 a 16).toInt - (σ_173.1 a 15).toInt) ∧ (σ_173.1 a 14).toInt ≤ 4 * ((σ_173.1 a 9).toInt - (σ_173.1 a 15).toInt) ∧ 0 ≤ (σ_173.1 a 12).toInt ∧ (σ_173.1 a 9).toInt = (σ.1 a 9).toInt ∧ (σ.1 a 15).toInt ≤ (σ_173.1 a 15).toInt ∧ (σ.1 a 12).toInt ≤ (σ_173.1 a 12).toInt := (by first | exact sm_tr smσ_7 bhpσ_173 | exact sm_tr smσ_7 chpσ_173 | omega)
        have nsσ_173 : (σ_173.1 a 27).toInt = (σ.1 a 27).toInt := (by first | (clear hs hw hc2 bhpσ_2 chpσ_2 j15 chpσ_5 dhpσ_5 ehpσ_5 iz_6 t6σ_7 c_163 c_169 iz_170 kc_171 ahpσ_173 bhpσ_173 chpσ_173 dhpσ_173 ehpσ_173 smσ_173; omega) | omega)
        have t5σ_173 : 0 ≤ r_1.toInt + (σ_173.1 a 12).toInt := (by first | (clear hs hw hc2 bhpσ_2 chpσ_2 j15 chpσ_5 dhpσ_5 ehpσ_5 iz_6 c_163 iz_170 kc_171 ahpσ_173 chpσ_173 dhpσ_173 ehpσ_173 mv27_σ_173 smσ_173 nsσ_173; omega) | omega)
        have t6σ_173 : m_c X σ_173 a (v1.toInt + 6) = r_1.toInt := (mcσ_173 _).trans t6σ_7
        clear mv27_σ_173 smσ_7 nsσ_7 t5σ_7 bhpσ_173
        refine q_iastN E hI (q_tk (k' := 34) hI ha rfl (Nat.succ_ne_zero _)) ⟨by decide, rfl⟩ (by first | (clear hs hc2 bhpσ_2 chpσ_2 j15 chpσ_5 dhpσ_5 ehpσ_5 t6σ_7 c_163 c_169 kc_171 ahpσ_173 chpσ_173 dhpσ_173 ehpσ_173 smσ_173 nsσ_173 t5σ_173 t6σ_173; omega) | omega) (by rw [q_lnk (v := 4650) hI (q_tk (k' := 34) hI ha rfl (Nat.succ_ne_zero _)) rfl (by decide)]; omega) (show 1 < 2 by decide) (q_inU rfl) dX12_readTest_49 (fun H locs σ_174 hσ_174 hI => ?_)
        replace hF := q_letX hF hσ_174
        have fr_σ_174 := fr_σ_173.si hσ_174 (q_tk (k' := 34) hI ha rfl (Nat.succ_ne_zero _)) rfl
        have mv9_σ_174 : (σ_174.1 a 9).toInt = (σ_173.1 a 9).toInt := congrArg Int32.toInt (q_rdn hσ_174 (Or.inl (m_ne ha (q_tk (k' := 34) hI ha rfl (Nat.succ_ne_zero _)) (by decide))))
        have mv12_σ_174 : (σ_174.1 a 12).toInt = (σ_173.1 a 12).toInt := congrArg Int32.toInt (q_rdn hσ_174 (Or.inl (m_ne ha (q_tk (k' := 34) hI ha rfl (Nat.succ_ne_zero _)) (by decide))))
        have mv14_σ_174 : (σ_174.1 a 14).toInt = (σ_173.1 a 14).toInt := congrArg Int32.toInt (q_rdn hσ_174 (Or.inl (m_ne ha (q_tk (k' := 34) hI ha rfl (Nat.succ_ne_zero _)) (by decide))))
        have mv15_σ_174 : (σ_174.1 a 15).toInt = (σ_173.1 a 15).toInt := congrArg Int32.toInt (q_rdn hσ_174 (Or.inl (m_ne ha (q_tk (k' := 34) hI ha rfl (Nat.succ_ne_zero _)) (by decide))))
        have mv16_σ_174 : (σ_174.1 a 16).toInt = (σ_173.1 a 16).toInt := congrArg Int32.toInt (q_rdn hσ_174 (Or.inl (m_ne ha (q_tk (k' := 34) hI ha rfl (Nat.succ_ne_zero _)) (by decide))))
        have mv27_σ_174 : (σ_174.1 a 27).toInt = (σ_173.1 a 27).toInt := congrArg Int32.toInt (q_rdn hσ_174 (Or.inl (m_ne ha (q_tk (k' := 34) hI ha rfl (Nat.succ_ne_zero _)) (by decide))))
        have mcσ_174 := m_wr (v := r_172) (A := (v1.toInt + 1)) hσ_174 iz_170 (by first | (clear hs hc2 bhpσ_2 chpσ_2 j15 chpσ_5 dhpσ_5 ehpσ_5 t6σ_7 c_163 c_169 kc_171 ahpσ_173 chpσ_173 dhpσ_173 ehpσ_173 smσ_173 nsσ_173 t5σ_173 t6σ_173 mv9_σ_174 mv12_σ_174 mv14_σ_174 mv15_σ_174 mv16_σ_174 mv27_σ_174; omega) | omega)
        have kwσ_174 : ∀ j, 0 ≤ j → (j < v1.toInt + 1 ∨ v1.toInt + 8 ≤ j) → m_c X σ_174 a j = m_c X σ a j := fun j h0 h1 => by rw [mcσ_174 j h0, if_neg (by first | (clear hs hw hc2 bhpσ_2 chpσ_2 j15 chpσ_5 dhpσ_5 ehpσ_5 t6σ_7 c_163 c_169 kc_171 ahpσ_173 chpσ_173 dhpσ_173 ehpσ_173 smσ_173 nsσ_173 t5σ_173 t6σ_173 mv9_σ_174 mv12_σ_174 mv14_σ_174 mv15_σ_174 mv16_σ_174 mv27_σ_174; omega) | omega)]; exact kwσ_173 j h0 h1
        have smσ_174 : 0 ≤ (σ_174.1 a 15).toInt ∧ (σ_174.1 a 15).toInt ≤ (σ_174.1 a 16).toInt ∧ (σ_174.1 a 16).toInt ≤ (σ_174.1 a 9).toInt ∧ (σ_174.1 a 9).toInt ≤ 900 ∧ 0 ≤ (σ_174.1 a 14).toInt ∧ (σ_174.1 a 14).toInt ≤ 4 ∧ (σ_174.1 a 14).toInt ≤ 4 * ((σ_174.1 a 16).toInt - (σ_174.1 a 15).toInt) ∧ (σ_174.1 a 14).toInt ≤ 4 * ((σ_174.1 a 9).toInt - (σ_174.1 a 15).toInt) ∧ 0 ≤ (σ_174.1 a 12).toInt ∧ (σ_174.1 a 9).toInt = (σ.1 a 9).toInt ∧ (σ.1 a 15).toInt ≤ (σ_174.1 a 15).toInt ∧ (σ.1 a 12).toInt ≤ (σ_174.1 a 12).toInt := (by first | (rw [mv12_σ_174, mv14_σ_174, mv15_σ_174, mv16_σ_174, mv9_σ_174]; exact smσ_173) | omega)
        have nsσ_174 : (σ_174.1 a 27).toInt = (σ.1 a 27).toInt := (by first | (clear hs hw hc2 bhpσ_2 chpσ_2 j15 chpσ_5 dhpσ_5 ehpσ_5 iz_6 t6σ_7 c_163 c_169 iz_170 kc_171 ahpσ_173 chpσ_173 dhpσ_173 ehpσ_173 smσ_173 t5σ_173 t6σ_173 mv9_σ_174 mv12_σ_174 mv14_σ_174 mv15_σ_174 mv16_σ_174 smσ_174; omega) | omega)
        have t5σ_174 : 0 ≤ r_1.toInt + (σ_174.1 a 12).toInt := (by first | (clear hs hw hc2 bhpσ_2 chpσ_2 j15 chpσ_5 dhpσ_5 ehpσ_5 iz_6 c_163 iz_170 kc_171 ahpσ_173 chpσ_173 dhpσ_173 ehpσ_173 nsσ_173 t5σ_173 t6σ_173 mv9_σ_174 mv14_σ_174 mv15_σ_174 mv16_σ_174 mv27_σ_174 smσ_174 nsσ_174; omega) | omega)
        have t6σ_174 : m_c X σ_174 a (v1.toInt + 6) = r_1.toInt := (by rw [mcσ_174 (v1.toInt + 6) (by first | (clear hs hc2 bhpσ_2 chpσ_2 j15 chpσ_5 dhpσ_5 ehpσ_5 t6σ_7 c_163 c_169 kc_171 ahpσ_173 chpσ_173 dhpσ_173 ehpσ_173 smσ_173 nsσ_173 t5σ_173 t6σ_173 mv9_σ_174 mv12_σ_174 mv14_σ_174 mv15_σ_174 mv16_σ_174 mv27_σ_174 smσ_174 nsσ_174 t5σ_174; omega) | omega), if_neg (by first | (clear hs hw hc2 bhpσ_2 chpσ_2 j15 chpσ_5 dhpσ_5 ehpσ_5 iz_6 t6σ_7 c_163 c_169 iz_170 kc_171 ahpσ_173 chpσ_173 dhpσ_173 ehpσ_173 smσ_173 nsσ_173 t5σ_173 t6σ_173 mv9_σ_174 mv12_σ_174 mv14_σ_174 mv15_σ_174 mv16_σ_174 mv27_σ_174 smσ_174 nsσ_174 t5σ_174; omega) | omega)]; exact t6σ_173)
        clear mv9_σ_174 mv12_σ_174 mv14_σ_174 mv15_σ_174 mv16_σ_174 mv27_σ_174 smσ_173 nsσ_173 t5σ_173
        have t1xσ_174 : m_t1 (m_c X σ_174 a) v1.toInt := m_t1.yes (by have := mcσ_174 (v1.toInt + 1) (by first | (clear hs hc2 bhpσ_2 chpσ_2 j15 chpσ_5 dhpσ_5 ehpσ_5 t6σ_7 c_163 c_169 kc_171 ahpσ_173 chpσ_173 dhpσ_173 ehpσ_173 t6σ_173 smσ_174 nsσ_174 t5σ_174 t6σ_174; omega) | omega); rw [if_pos rfl] at this; omega)
        exact J_50_8 σ_174 _ _ ls (by first | exact t1xσ_174 | exact m_t1.no (by rw [t6σ_174]; omega) (by rw [t6σ_174]; omega)) fr_σ_174 kwσ_174 smσ_174 nsσ_174 t5σ_174 t6σ_174 hF hI (lv_sub hl [0, 1, 2] rfl)
  refine q_if_lt (A := r_1.toInt) E rfl (tgt := 14) dX12_readTest_7 (by decide) (fun c_175 => ?_) (fun c_175 => ?_)
  · skip
    replace hF := q_ifp hF c_175
    refine lv_iconst (v := 0) hx hb dX12_readTest_14 zki_0 ?_
    have kc_176 : (0 : Int32).toInt = 0 := zt_0
    exact J_15_3 0 _ _ ls (by first | (clear hs hw hc2 chpσ_2; omega) | omega) hF hI (lv_sub hl [1, 2, 0] rfl)
  · skip
    replace hF := q_ifn hF (Int.not_lt.mpr c_175)
    refine lv_iconst (v := 1) hx hb dX12_readTest_10 zki_1 ?_
    refine lv_goto (tgt := 15) hx hb dX12_readTest_11 (by decide) ?_
    have kc_177 : (1 : Int32).toInt = 1 := zt_1
    exact J_15_3 1 _ _ ls (by first | (clear hs hw hc2 chpσ_2; omega) | omega) hF hI (lv_sub hl [1, 2, 0] rfl)

set_option maxRecDepth 100000 in
set_option maxHeartbeats 4000000 in
theorem c_X12_readRest (l : Launch) (X : XW) (σ : ST) (a : Nat) (v1 : Int32) (ha : q_kd X a = 12) (hs : 0 ≤ (σ.1 a 15).toInt ∧ (σ.1 a 15).toInt ≤ (σ.1 a 16).toInt ∧ (σ.1 a 16).toInt ≤ (σ.1 a 9).toInt ∧ (σ.1 a 9).toInt ≤ 900 ∧ 0 ≤ (σ.1 a 14).toInt ∧ (σ.1 a 14).toInt ≤ 4 ∧ (σ.1 a 14).toInt ≤ 4 * ((σ.1 a 16).toInt - (σ.1 a 15).toInt) ∧ (σ.1 a 14).toInt ≤ 4 * ((σ.1 a 9).toInt - (σ.1 a 15).toInt) ∧ 0 ≤ (σ.1 a 12).toInt) (hw : 4376 ≤ v1.toInt ∧ v1.toInt ≤ 4637) (hc2 : m_c X σ a 2 ≤ 6) : Met l yX12_readRest (q_ws yX12_readRest cX12_readRest 3 none) (q_rm 7 151) (q_P X σ [.ref a, .int v1]) (q_Qv X 1 σ (fun (σ' : ST) => (∀ j, 0 ≤ j → (j < v1.toInt + 1 ∨ v1.toInt + 8 ≤ j) → m_c X σ' a j = m_c X σ a j) ∧ (0 ≤ (σ'.1 a 15).toInt ∧ (σ'.1 a 15).toInt ≤ (σ'.1 a 16).toInt ∧ (σ'.1 a 16).toInt ≤ (σ'.1 a 9).toInt ∧ (σ'.1 a 9).toInt ≤ 900 ∧ 0 ≤ (σ'.1 a 14).toInt ∧ (σ'.1 a 14).toInt ≤ 4 ∧ (σ'.1 a 14).toInt ≤ 4 * ((σ'.1 a 16).toInt - (σ'.1 a 15).toInt) ∧ (σ'.1 a 14).toInt ≤ 4 * ((σ'.1 a 9).toInt - (σ'.1 a 15).toInt) ∧ 0 ≤ (σ'.1 a 12).toInt ∧ (σ'.1 a 9).toInt = (σ.1 a 9).toInt ∧ (σ.1 a 15).toInt ≤ (σ'.1 a 15).toInt ∧ (σ.1 a 12).toInt ≤ (σ'.1 a 12).toInt) ∧ ((σ'.1 a 27).toInt = (σ.1 a 27).toInt) ∧ (m_oz (σ'.1 a 12).toInt (m_rst (m_c X σ' a) v1.toInt)) ∧ σ' = F_X12_readRest X σ a v1 ∧ q_ow [(12, 12), (12, 13), (12, 14), (12, 15), (12, 16), (12, 17), (12, 18), (34, 99)] [(12, 19)] X σ σ')) 0 0 (q_reg X) := by
  refine q_metQ 1 (by first | exact rfl | decide +kernel) rfl (Nat.le_of_ble_eq_true rfl) (fun QQ hQQ p e s m below meth c E hml hr hlk hI ls hl => ?_)
  have hx := E.1
  have hb := E.2.1
  have hl : lv_has ls 3 [(0, .ref a), (1, .int v1)] := hl
  have kwσ : ∀ j, 0 ≤ j → (j < v1.toInt + 1 ∨ v1.toInt + 8 ≤ j) → m_c X σ a j = m_c X σ a j := fun _ _ _ => rfl
  have smσ : 0 ≤ (σ.1 a 15).toInt ∧ (σ.1 a 15).toInt ≤ (σ.1 a 16).toInt ∧ (σ.1 a 16).toInt ≤ (σ.1 a 9).toInt ∧ (σ.1 a 9).toInt ≤ 900 ∧ 0 ≤ (σ.1 a 14).toInt ∧ (σ.1 a 14).toInt ≤ 4 ∧ (σ.1 a 14).toInt ≤ 4 * ((σ.1 a 16).toInt - (σ.1 a 15).toInt) ∧ (σ.1 a 14).toInt ≤ 4 * ((σ.1 a 9).toInt - (σ.1 a 15).toInt) ∧ 0 ≤ (σ.1 a 12).toInt ∧ (σ.1 a 9).toInt = (σ.1 a 9).toInt ∧ (σ.1 a 15).toInt ≤ (σ.1 a 15).toInt ∧ (σ.1 a 12).toInt ≤ (σ.1 a 12).toInt := (by omega)
  have nsσ : (σ.1 a 27).toInt = (σ.1 a 27).toInt := rfl
  have fr_σ : q_ow [(12, 12), (12, 13), (12, 14), (12, 15), (12, 16), (12, 17), (12, 18), (34, 99)] [(12, 19)] X σ σ := q_ow.rf
  obtain ⟨out, hout⟩ : ∃ o, o = F_X12_readRest X σ a v1 := ⟨_, rfl⟩
  have hF := hout.symm
  unfold F_X12_readRest at hF
  refine lv_aload_n hx hb dX12_readRest_0 rfl (lv_at hl 0 rfl) ?_
  refine gs_X12_35_12 E hI ha dX12_readRest_1 ?_
  refine lv_iload_n hx hb dX12_readRest_4 rfl (lv_at hl 1 rfl) ?_
  refine q_iald E hI (q_tk (k' := 34) hI ha rfl (Nat.succ_ne_zero _)) ⟨by decide, rfl⟩ (by first | (clear hs hc2 smσ nsσ; omega) | omega) (by rw [q_lnk (v := 4650) hI (q_tk (k' := 34) hI ha rfl (Nat.succ_ne_zero _)) rfl (by decide)]; omega) dX12_readRest_5 ?_
  refine lv_topi (fun f_1 ef_1 => ?_)
  replace hF := q_letX hF ef_1
  have if_1 : f_1.toInt = m_c X σ a v1.toInt := m_rd ef_1 rfl
  refine lv_istore_n (lv' := [(2, .int f_1), (0, .ref a), (1, .int v1)]) hx hb dX12_readRest_6 rfl hl (by decide) rfl (fun ls hl => ?_)
  refine lv_iload_n hx hb dX12_readRest_7 rfl (lv_at hl 0 rfl) ?_
  refine lv_iconst (v := 1) hx hb dX12_readRest_8 zki_1 ?_
  refine q_icmp_eq (A := f_1.toInt) (B := 1) E rfl (by decide) (tgt := 17) dX12_readRest_9 (by decide) (fun c_2 => ?_) (fun c_2 => ?_)
  · skip
    replace hF := q_ifp hF c_2
    refine lv_aload_n hx hb dX12_readRest_17 rfl (lv_at hl 1 rfl) ?_
    refine gs_X12_35_12 E hI ha dX12_readRest_18 ?_
    refine lv_iload_n hx hb dX12_readRest_21 rfl (lv_at hl 2 rfl) ?_
    refine lv_iconst (v := 1) hx hb dX12_readRest_22 zki_1 ?_
    refine lv_iadd hx hb dX12_readRest_23 ?_
    refine lv_topi (fun z_3 ez_3 => ?_)
    replace hF := q_letX hF ez_3
    have iz_3 := q_addI (A := v1.toInt) (B := 1) ez_3 rfl (by decide) (by first | (clear hs hc2 smσ nsσ if_1 c_2; omega) | omega) (by first | (clear hs hc2 smσ nsσ if_1 c_2; omega) | omega)
    refine lv_aload_n hx hb dX12_readRest_24 rfl (lv_at hl 1 rfl) ?_
    refine lv_iconst (v := 0) hx hb dX12_readRest_25 zki_0 ?_
    have kc_4 : (0 : Int32).toInt = 0 := zt_0
    refine q_ci (q_rV11_1 (rest := [.int z_3, .ref (q_rf X a 20)]) E (hml.trans hl.1.symm) hI (c_X12_readTold l X σ a (0 : Int32) ha (by first | exact sm_9 smσ | exact hs | omega) (Or.inl rfl) (by show m_c X σ a 2 ≤ 6; rw [kwσ 2 (by decide) (Or.inl (by first | (clear hs hc2 smσ nsσ if_1 c_2 kc_4; omega) | omega))]; exact hc2)) kv_X12_226 ha ⟨Nat.le_of_ble_eq_true rfl, Nat.le_of_ble_eq_true rfl⟩ (Nat.le_of_ble_eq_true rfl) dX12_readRest_26) hI (Nat.le_of_ble_eq_true rfl) (fun r_5 σ_6 H locs hpσ_6 hkσ_6 hI => ?_)
    have ahpσ_6 := hpσ_6.1
    have bhpσ_6 := hpσ_6.2.1
    have chpσ_6 := hpσ_6.2.2.1
    have dhpσ_6 := hpσ_6.2.2.2.1
    have ehpσ_6 := hpσ_6.2.2.2.2
    clear hpσ_6
    have fr_σ_6 := fr_σ.call ehpσ_6 rfl rfl
    replace hF := q_biX hF dhpσ_6
    have mv27_σ_6 : (σ_6.1 a 27).toInt = (σ.1 a 27).toInt := congrArg Int32.toInt (ahpσ_6 a 27 (q_cl9 _ _) (fun h => absurd h.2.2 (by decide)))
    have mcσ_6 := m_cK hkσ_6 hI.1 ha (by decide)
    have kwσ_6 : ∀ j, 0 ≤ j → (j < v1.toInt + 1 ∨ v1.toInt + 8 ≤ j) → m_c X σ_6 a j = m_c X σ a j := fun j h0 h1 => (mcσ_6 j).trans (kwσ j h0 h1)
    have smσ_6 : 0 ≤ (σ_6.1 a 15).toInt ∧ (σ_6.1 a 15).toInt ≤ (σ_6.1 a 16).toInt ∧ (σ_6.1 a 16).toInt ≤ (σ_6.1 a 9).toInt ∧ (σ_6.1 a 9).toInt ≤ 900 ∧ 0 ≤ (σ_6.1 a 14).toInt ∧ (σ_6.1 a 14).toInt ≤ 4 ∧ (σ_6.1 a 14).toInt ≤ 4 * ((σ_6.1 a 16).toInt - (σ_6.1 a 15).toInt) ∧ (σ_6.1 a 14).toInt ≤ 4 * ((σ_6.1 a 9).toInt - (σ_6.1 a 15).toInt) ∧ 0 ≤ (σ_6.1 a 12).toInt ∧ (σ_6.1 a 9).toInt = (σ.1 a 9).toInt ∧ (σ.1 a 15).toInt ≤ (σ_6.1 a 15).toInt ∧ (σ.1 a 12).toInt ≤ (σ_6.1 a 12).toInt := (by first | exact sm_tr smσ bhpσ_6 | exact sm_tr smσ chpσ_6 | omega)
    have nsσ_6 : (σ_6.1 a 27).toInt = (σ.1 a 27).toInt := (by omega)
    clear mv27_σ_6 smσ nsσ bhpσ_6
    refine q_iastN E hI (q_tk (k' := 34) hI ha rfl (Nat.succ_ne_zero _)) ⟨by decide, rfl⟩ (by first | (clear hs hc2 if_1 c_2 kc_4 ahpσ_6 chpσ_6 dhpσ_6 ehpσ_6 smσ_6 nsσ_6; omega) | omega) (by rw [q_lnk (v := 4650) hI (q_tk (k' := 34) hI ha rfl (Nat.succ_ne_zero _)) rfl (by decide)]; omega) (show 1 < 2 by decide) (q_inU rfl) dX12_readRest_29 (fun H locs σ_7 hσ_7 hI => ?_)
    replace hF := q_letX hF hσ_7
    have fr_σ_7 := fr_σ_6.si hσ_7 (q_tk (k' := 34) hI ha rfl (Nat.succ_ne_zero _)) rfl
    have mv9_σ_7 : (σ_7.1 a 9).toInt = (σ_6.1 a 9).toInt := congrArg Int32.toInt (q_rdn hσ_7 (Or.inl (m_ne ha (q_tk (k' := 34) hI ha rfl (Nat.succ_ne_zero _)) (by decide))))
    have mv12_σ_7 : (σ_7.1 a 12).toInt = (σ_6.1 a 12).toInt := congrArg Int32.toInt (q_rdn hσ_7 (Or.inl (m_ne ha (q_tk (k' := 34) hI ha rfl (Nat.succ_ne_zero _)) (by decide))))
    have mv14_σ_7 : (σ_7.1 a 14).toInt = (σ_6.1 a 14).toInt := congrArg Int32.toInt (q_rdn hσ_7 (Or.inl (m_ne ha (q_tk (k' := 34) hI ha rfl (Nat.succ_ne_zero _)) (by decide))))
    have mv15_σ_7 : (σ_7.1 a 15).toInt = (σ_6.1 a 15).toInt := congrArg Int32.toInt (q_rdn hσ_7 (Or.inl (m_ne ha (q_tk (k' := 34) hI ha rfl (Nat.succ_ne_zero _)) (by decide))))
    have mv16_σ_7 : (σ_7.1 a 16).toInt = (σ_6.1 a 16).toInt := congrArg Int32.toInt (q_rdn hσ_7 (Or.inl (m_ne ha (q_tk (k' := 34) hI ha rfl (Nat.succ_ne_zero _)) (by decide))))
    have mv27_σ_7 : (σ_7.1 a 27).toInt = (σ_6.1 a 27).toInt := congrArg Int32.toInt (q_rdn hσ_7 (Or.inl (m_ne ha (q_tk (k' := 34) hI ha rfl (Nat.succ_ne_zero _)) (by decide))))
    have mcσ_7 := m_wr (v := r_5) (A := (v1.toInt + 1)) hσ_7 iz_3 (by first | (clear hs hc2 if_1 c_2 kc_4 ahpσ_6 chpσ_6 dhpσ_6 ehpσ_6 smσ_6 nsσ_6 mv9_σ_7 mv12_σ_7 mv14_σ_7 mv15_σ_7 mv16_σ_7 mv27_σ_7; omega) | omega)
    have kwσ_7 : ∀ j, 0 ≤ j → (j < v1.toInt + 1 ∨ v1.toInt + 8 ≤ j) → m_c X σ_7 a j = m_c X σ a j := fun j h0 h1 => by rw [mcσ_7 j h0, if_neg (by first | (clear hs hw hc2 if_1 c_2 kc_4 ahpσ_6 chpσ_6 dhpσ_6 ehpσ_6 smσ_6 nsσ_6 mv9_σ_7 mv12_σ_7 mv14_σ_7 mv15_σ_7 mv16_σ_7 mv27_σ_7; omega) | omega)]; exact kwσ_6 j h0 h1
    have smσ_7 : 0 ≤ (σ_7.1 a 15).toInt ∧ (σ_7.1 a 15).toInt ≤ (σ_7.1 a 16).toInt ∧ (σ_7.1 a 16).toInt ≤ (σ_7.1 a 9).toInt ∧ (σ_7.1 a 9).toInt ≤ 900 ∧ 0 ≤ (σ_7.1 a 14).toInt ∧ (σ_7.1 a 14).toInt ≤ 4 ∧ (σ_7.1 a 14).toInt ≤ 4 * ((σ_7.1 a 16).toInt - (σ_7.1 a 15).toInt) ∧ (σ_7.1 a 14).toInt ≤ 4 * ((σ_7.1 a 9).toInt - (σ_7.1 a 15).toInt) ∧ 0 ≤ (σ_7.1 a 12).toInt ∧ (σ_7.1 a 9).toInt = (σ.1 a 9).toInt ∧ (σ.1 a 15).toInt ≤ (σ_7.1 a 15).toInt ∧ (σ.1 a 12).toInt ≤ (σ_7.1 a 12).toInt := (by first | (rw [mv12_σ_7, mv14_σ_7, mv15_σ_7, mv16_σ_7, mv9_σ_7]; exact smσ_6) | omega)
    have nsσ_7 : (σ_7.1 a 27).toInt = (σ.1 a 27).toInt := (by first | (clear hs hw hc2 if_1 c_2 iz_3 kc_4 ahpσ_6 chpσ_6 dhpσ_6 ehpσ_6 smσ_6 mv9_σ_7 mv12_σ_7 mv14_σ_7 mv15_σ_7 mv16_σ_7 smσ_7; omega) | omega)
    have p1σ_7 : 0 ≤ m_c X σ_7 a (v1.toInt + 1) ∧ m_c X σ_7 a (v1.toInt + 1) ≤ 5 := (by have := mcσ_7 (v1.toInt + 1) (by first | (clear hs hc2 if_1 c_2 kc_4 ahpσ_6 chpσ_6 dhpσ_6 ehpσ_6 smσ_6 nsσ_6 mv9_σ_7 mv12_σ_7 mv14_σ_7 mv15_σ_7 mv16_σ_7 mv27_σ_7 smσ_7 nsσ_7; omega) | omega); rw [if_pos rfl] at this; omega)
    clear mv9_σ_7 mv12_σ_7 mv14_σ_7 mv15_σ_7 mv16_σ_7 mv27_σ_7 smσ_6 nsσ_6
    refine lv_aload_n hx hb dX12_readRest_30 rfl (lv_at hl 1 rfl) ?_
    refine gs_X12_35_12 E hI ha dX12_readRest_31 ?_
    refine lv_iload_n hx hb dX12_readRest_34 rfl (lv_at hl 2 rfl) ?_
    refine lv_iconst (v := 2) hx hb dX12_readRest_35 zki_2 ?_
    refine lv_iadd hx hb dX12_readRest_36 ?_
    refine lv_topi (fun z_8 ez_8 => ?_)
    replace hF := q_letX hF ez_8
    have iz_8 := q_addI (A := v1.toInt) (B := 2) ez_8 rfl (by decide) (by first | (clear hs hc2 if_1 c_2 kc_4 ahpσ_6 chpσ_6 dhpσ_6 ehpσ_6 smσ_7 nsσ_7 p1σ_7; omega) | omega) (by first | (clear hs hc2 if_1 c_2 kc_4 ahpσ_6 chpσ_6 dhpσ_6 ehpσ_6 smσ_7 nsσ_7 p1σ_7; omega) | omega)
    refine lv_aload_n hx hb dX12_readRest_37 rfl (lv_at hl 1 rfl) ?_
    refine lv_iconst (v := 0) hx hb dX12_readRest_38 zki_0 ?_
    refine lv_bipush (v := 16) hx hb dX12_readRest_39 zkb_16 ?_
    have kc_9 : (0 : Int32).toInt = 0 := zt_0
    have kc_10 : (16 : Int32).toInt = 16 := zt_16
    refine q_ci (q_rV11_2 (rest := [.int z_8, .ref (q_rf X a 20)]) E (hml.trans hl.1.symm) hI (c_X12_count l X σ_7 a (0 : Int32) (16 : Int32) ha (by first | exact sm_9 smσ_7 | exact hs | omega) (by first | (clear hs hw hc2 if_1 c_2 iz_3 ahpσ_6 chpσ_6 dhpσ_6 ehpσ_6 smσ_7 nsσ_7 p1σ_7 iz_8 kc_9; omega) | omega)) kv_X12_223 ha ⟨Nat.le_of_ble_eq_true rfl, Nat.le_of_ble_eq_true rfl⟩ (Nat.le_of_ble_eq_true rfl) dX12_readRest_41) hI (Nat.le_of_ble_eq_true rfl) (fun r_11 σ_12 H locs hpσ_12 hkσ_12 hI => ?_)
    have ahpσ_12 := hpσ_12.1
    have bhpσ_12 := hpσ_12.2.1
    have chpσ_12 := hpσ_12.2.2.1
    have dhpσ_12 := hpσ_12.2.2.2.1
    have ehpσ_12 := hpσ_12.2.2.2.2
    clear hpσ_12
    have fr_σ_12 := fr_σ_7.call ehpσ_12 rfl rfl
    replace hF := q_biX hF dhpσ_12
    have mv27_σ_12 : (σ_12.1 a 27).toInt = (σ_7.1 a 27).toInt := congrArg Int32.toInt (ahpσ_12 a 27 (q_cl9 _ _) (fun h => absurd h.2.2 (by decide)))
    have mcσ_12 := m_cK hkσ_12 hI.1 ha (by decide)
    have kwσ_12 : ∀ j, 0 ≤ j → (j < v1.toInt + 1 ∨ v1.toInt + 8 ≤ j) → m_c X σ_12 a j = m_c X σ a j := fun j h0 h1 => (mcσ_12 j).trans (kwσ_7 j h0 h1)
    have smσ_12 : 0 ≤ (σ_12.1 a 15).toInt ∧ (σ_12.1 a 15).toInt ≤ (σ_12.1 a 16).toInt ∧ (σ_12.1 a 16).toInt ≤ (σ_12.1 a 9).toInt ∧ (σ_12.1 a 9).toInt ≤ 900 ∧ 0 ≤ (σ_12.1 a 14).toInt ∧ (σ_12.1 a 14).toInt ≤ 4 ∧ (σ_12.1 a 14).toInt ≤ 4 * ((σ_12.1 a 16).toInt - (σ_12.1 a 15).toInt) ∧ (σ_12.1 a 14).toInt ≤ 4 * ((σ_12.1 a 9).toInt - (σ_12.1 a 15).toInt) ∧ 0 ≤ (σ_12.1 a 12).toInt ∧ (σ_12.1 a 9).toInt = (σ.1 a 9).toInt ∧ (σ.1 a 15).toInt ≤ (σ_12.1 a 15).toInt ∧ (σ.1 a 12).toInt ≤ (σ_12.1 a 12).toInt := (by first | exact sm_tr smσ_7 bhpσ_12 | exact sm_tr smσ_7 chpσ_12 | omega)
    have nsσ_12 : (σ_12.1 a 27).toInt = (σ.1 a 27).toInt := (by first | (clear hs hw hc2 if_1 c_2 iz_3 kc_4 ahpσ_6 chpσ_6 dhpσ_6 ehpσ_6 smσ_7 p1σ_7 iz_8 kc_9 kc_10 ahpσ_12 bhpσ_12 chpσ_12 dhpσ_12 ehpσ_12 smσ_12; omega) | omega)
    have p1σ_12 : 0 ≤ m_c X σ_12 a (v1.toInt + 1) ∧ m_c X σ_12 a (v1.toInt + 1) ≤ 5 := (by have := mcσ_12 (v1.toInt + 1); omega)
    clear mv27_σ_12 smσ_7 nsσ_7 bhpσ_12
    refine q_iastN E hI (q_tk (k' := 34) hI ha rfl (Nat.succ_ne_zero _)) ⟨by decide, rfl⟩ (by first | (clear hs hc2 if_1 c_2 kc_4 ahpσ_6 chpσ_6 dhpσ_6 ehpσ_6 p1σ_7 kc_9 kc_10 ahpσ_12 chpσ_12 dhpσ_12 ehpσ_12 smσ_12 nsσ_12 p1σ_12; omega) | omega) (by rw [q_lnk (v := 4650) hI (q_tk (k' := 34) hI ha rfl (Nat.succ_ne_zero _)) rfl (by decide)]; omega) (show 1 < 2 by decide) (q_inU rfl) dX12_readRest_44 (fun H locs σ_13 hσ_13 hI => ?_)
    replace hF := q_letX hF hσ_13
    have fr_σ_13 := fr_σ_12.si hσ_13 (q_tk (k' := 34) hI ha rfl (Nat.succ_ne_zero _)) rfl
    have mv9_σ_13 : (σ_13.1 a 9).toInt = (σ_12.1 a 9).toInt := congrArg Int32.toInt (q_rdn hσ_13 (Or.inl (m_ne ha (q_tk (k' := 34) hI ha rfl (Nat.succ_ne_zero _)) (by decide))))
    have mv12_σ_13 : (σ_13.1 a 12).toInt = (σ_12.1 a 12).toInt := congrArg Int32.toInt (q_rdn hσ_13 (Or.inl (m_ne ha (q_tk (k' := 34) hI ha rfl (Nat.succ_ne_zero _)) (by decide))))
    have mv14_σ_13 : (σ_13.1 a 14).toInt = (σ_12.1 a 14).toInt := congrArg Int32.toInt (q_rdn hσ_13 (Or.inl (m_ne ha (q_tk (k' := 34) hI ha rfl (Nat.succ_ne_zero _)) (by decide))))
    have mv15_σ_13 : (σ_13.1 a 15).toInt = (σ_12.1 a 15).toInt := congrArg Int32.toInt (q_rdn hσ_13 (Or.inl (m_ne ha (q_tk (k' := 34) hI ha rfl (Nat.succ_ne_zero _)) (by decide))))
    have mv16_σ_13 : (σ_13.1 a 16).toInt = (σ_12.1 a 16).toInt := congrArg Int32.toInt (q_rdn hσ_13 (Or.inl (m_ne ha (q_tk (k' := 34) hI ha rfl (Nat.succ_ne_zero _)) (by decide))))
    have mv27_σ_13 : (σ_13.1 a 27).toInt = (σ_12.1 a 27).toInt := congrArg Int32.toInt (q_rdn hσ_13 (Or.inl (m_ne ha (q_tk (k' := 34) hI ha rfl (Nat.succ_ne_zero _)) (by decide))))
    have mcσ_13 := m_wr (v := r_11) (A := (v1.toInt + 2)) hσ_13 iz_8 (by first | (clear hs hc2 if_1 c_2 kc_4 ahpσ_6 chpσ_6 dhpσ_6 ehpσ_6 p1σ_7 kc_9 kc_10 ahpσ_12 chpσ_12 dhpσ_12 ehpσ_12 smσ_12 nsσ_12 p1σ_12 mv9_σ_13 mv12_σ_13 mv14_σ_13 mv15_σ_13 mv16_σ_13 mv27_σ_13; omega) | omega)
    have kwσ_13 : ∀ j, 0 ≤ j → (j < v1.toInt + 1 ∨ v1.toInt + 8 ≤ j) → m_c X σ_13 a j = m_c X σ a j := fun j h0 h1 => by rw [mcσ_13 j h0, if_neg (by first | (clear hs hw hc2 if_1 c_2 kc_4 ahpσ_6 chpσ_6 dhpσ_6 ehpσ_6 p1σ_7 kc_9 kc_10 ahpσ_12 chpσ_12 dhpσ_12 ehpσ_12 smσ_12 nsσ_12 p1σ_12 mv9_σ_13 mv12_σ_13 mv14_σ_13 mv15_σ_13 mv16_σ_13 mv27_σ_13; omega) | omega)]; exact kwσ_12 j h0 h1
    have smσ_13 : 0 ≤ (σ_13.1 a 15).toInt ∧ (σ_13.1 a 15).toInt ≤ (σ_13.1 a 16).toInt ∧ (σ_13.1 a 16).toInt ≤ (σ_13.1 a 9).toInt ∧ (σ_13.1 a 9).toInt ≤ 900 ∧ 0 ≤ (σ_13.1 a 14).toInt ∧ (σ_13.1 a 14).toInt ≤ 4 ∧ (σ_13.1 a 14).toInt ≤ 4 * ((σ_13.1 a 16).toInt - (σ_13.1 a 15).toInt) ∧ (σ_13.1 a 14).toInt ≤ 4 * ((σ_13.1 a 9).toInt - (σ_13.1 a 15).toInt) ∧ 0 ≤ (σ_13.1 a 12).toInt ∧ (σ_13.1 a 9).toInt = (σ.1 a 9).toInt ∧ (σ.1 a 15).toInt ≤ (σ_13.1 a 15).toInt ∧ (σ.1 a 12).toInt ≤ (σ_13.1 a 12).toInt := (by first | (rw [mv12_σ_13, mv14_σ_13, mv15_σ_13, mv16_σ_13, mv9_σ_13]; exact smσ_12) | omega)
    have nsσ_13 : (σ_13.1 a 27).toInt = (σ.1 a 27).toInt := (by first | (clear hs hw hc2 if_1 c_2 iz_3 kc_4 ahpσ_6 chpσ_6 dhpσ_6 ehpσ_6 p1σ_7 iz_8 kc_9 kc_10 ahpσ_12 chpσ_12 dhpσ_12 ehpσ_12 smσ_12 p1σ_12 mv9_σ_13 mv12_σ_13 mv14_σ_13 mv15_σ_13 mv16_σ_13 smσ_13; omega) | omega)
    have p1σ_13 : 0 ≤ m_c X σ_13 a (v1.toInt + 1) ∧ m_c X σ_13 a (v1.toInt + 1) ≤ 5 := (by have := mcσ_13 (v1.toInt + 1) (by first | (clear hs hc2 if_1 c_2 kc_4 ahpσ_6 chpσ_6 dhpσ_6 ehpσ_6 p1σ_7 kc_9 kc_10 ahpσ_12 chpσ_12 dhpσ_12 ehpσ_12 smσ_12 nsσ_12 p1σ_12 mv9_σ_13 mv12_σ_13 mv14_σ_13 mv15_σ_13 mv16_σ_13 mv27_σ_13 smσ_13 nsσ_13; omega) | omega); rw [if_neg (by first | (clear hs hw hc2 if_1 c_2 iz_3 kc_4 ahpσ_6 chpσ_6 dhpσ_6 ehpσ_6 p1σ_7 iz_8 kc_9 kc_10 ahpσ_12 chpσ_12 dhpσ_12 ehpσ_12 smσ_12 nsσ_12 p1σ_12 mv9_σ_13 mv12_σ_13 mv14_σ_13 mv15_σ_13 mv16_σ_13 mv27_σ_13 smσ_13 nsσ_13; omega) | omega)] at this; omega)
    clear mv9_σ_13 mv12_σ_13 mv14_σ_13 mv15_σ_13 mv16_σ_13 mv27_σ_13 smσ_12 nsσ_12
    refine lv_goto (tgt := 81) hx hb dX12_readRest_45 (by decide) ?_
    have kz := kwσ_13 v1.toInt (by first | (clear hs hc2 if_1 c_2 kc_4 ahpσ_6 chpσ_6 dhpσ_6 ehpσ_6 p1σ_7 kc_9 kc_10 ahpσ_12 chpσ_12 dhpσ_12 ehpσ_12 p1σ_12 smσ_13 nsσ_13 p1σ_13; omega) | omega) (Or.inl (by first | (clear hs hw hc2 if_1 c_2 iz_3 kc_4 ahpσ_6 chpσ_6 dhpσ_6 ehpσ_6 p1σ_7 iz_8 kc_9 kc_10 ahpσ_12 chpσ_12 dhpσ_12 ehpσ_12 p1σ_12 smσ_13 nsσ_13 p1σ_13; omega) | omega))
    rewrite [hQQ]; exact q_retv E hr hlk hI ⟨kwσ_13, (by first | exact smσ_13 | omega), nsσ_13, (by first | exact rsσ_13 | exact fun e => m_rst.m1 (by first | exact smσ_13 | omega) p1σ_13 | exact fun e => m_rst.m0 (by first | exact smσ_13 | omega) (by first | exact smσ_13 | omega) (by first | exact smσ_13 | omega)), (hF.trans hout), fr_σ_13⟩ dX12_readRest_81
  · skip
    replace hF := q_ifn hF c_2
    refine lv_iload_n hx hb dX12_readRest_12 rfl (lv_at hl 0 rfl) ?_
    refine lv_iconst (v := 2) hx hb dX12_readRest_13 zki_2 ?_
    refine q_icmp_ne (A := f_1.toInt) (B := 2) E rfl (by decide) (tgt := 48) dX12_readRest_14 (by decide) (fun c_14 => ?_) (fun c_14 => ?_)
    · skip
      replace hF := q_ifn hF c_14
      refine lv_iload_n hx hb dX12_readRest_48 rfl (lv_at hl 0 rfl) ?_
      refine lv_iconst (v := 3) hx hb dX12_readRest_49 zki_3 ?_
      refine q_icmp_ne (A := f_1.toInt) (B := 3) E rfl (by decide) (tgt := 61) dX12_readRest_50 (by decide) (fun c_15 => ?_) (fun c_15 => ?_)
      · skip
        replace hF := q_ifn hF c_15
        refine lv_iload_n hx hb dX12_readRest_61 rfl (lv_at hl 0 rfl) ?_
        refine lv_iconst (v := 4) hx hb dX12_readRest_62 zki_4 ?_
        refine q_icmp_ne (A := f_1.toInt) (B := 4) E rfl (by decide) (tgt := 81) dX12_readRest_63 (by decide) (fun c_16 => ?_) (fun c_16 => ?_)
        · skip
          replace hF := q_ifn hF c_16
          have kz := kwσ v1.toInt (by first | (clear hs hc2 if_1 c_2 c_14 c_15 c_16; omega) | omega) (Or.inl (by first | (clear hs hw hc2 if_1 c_2 c_14 c_15 c_16; omega) | omega))
          rewrite [hQQ]; exact q_retv E hr hlk hI ⟨kwσ, (by first | exact smσ | omega), nsσ, (by first | exact rsσ | exact fun e => m_rst.m1 (by first | exact smσ | omega) p1σ | exact fun e => m_rst.m0 (by first | exact smσ | omega) (by first | exact smσ | omega) (by first | exact smσ | omega)), (hF.trans hout), fr_σ⟩ dX12_readRest_81
        · skip
          replace hF := q_ifp hF c_16
          refine lv_aload_n hx hb dX12_readRest_66 rfl (lv_at hl 1 rfl) ?_
          refine gs_X12_35_12 E hI ha dX12_readRest_67 ?_
          refine lv_iload_n hx hb dX12_readRest_70 rfl (lv_at hl 2 rfl) ?_
          refine lv_iconst (v := 1) hx hb dX12_readRest_71 zki_1 ?_
          refine lv_iadd hx hb dX12_readRest_72 ?_
          refine lv_topi (fun z_17 ez_17 => ?_)
          replace hF := q_letX hF ez_17
          have iz_17 := q_addI (A := v1.toInt) (B := 1) ez_17 rfl (by decide) (by first | (clear hs hc2 if_1 c_2 c_14 c_15 c_16; omega) | omega) (by first | (clear hs hc2 if_1 c_2 c_14 c_15 c_16; omega) | omega)
          refine lv_aload_n hx hb dX12_readRest_73 rfl (lv_at hl 1 rfl) ?_
          refine lv_iconst (v := 1) hx hb dX12_readRest_74 zki_1 ?_
          refine lv_bipush (v := 99) hx hb dX12_readRest_75 zkb_99 ?_
          have kc_18 : (1 : Int32).toInt = 1 := zt_1
          have kc_19 : (99 : Int32).toInt = 99 := zt_99
          refine q_ci (q_rV11_2 (rest := [.int z_17, .ref (q_rf X a 20)]) E (hml.trans hl.1.symm) hI (c_X12_count l X σ a (1 : Int32) (99 : Int32) ha (by first | exact sm_9 smσ | exact hs | omega) (by first | (clear hs hw hc2 if_1 c_2 c_14 c_15 c_16 iz_17; omega) | omega)) kv_X12_223 ha ⟨Nat.le_of_ble_eq_true rfl, Nat.le_of_ble_eq_true rfl⟩ (Nat.le_of_ble_eq_true rfl) dX12_readRest_77) hI (Nat.le_of_ble_eq_true rfl) (fun r_20 σ_21 H locs hpσ_21 hkσ_21 hI => ?_)
          have ahpσ_21 := hpσ_21.1
          have bhpσ_21 := hpσ_21.2.1
          have chpσ_21 := hpσ_21.2.2.1
          have dhpσ_21 := hpσ_21.2.2.2.1
          have ehpσ_21 := hpσ_21.2.2.2.2
          clear hpσ_21
          have fr_σ_21 := fr_σ.call ehpσ_21 rfl rfl
          replace hF := q_biX hF dhpσ_21
          have mv27_σ_21 : (σ_21.1 a 27).toInt = (σ.1 a 27).toInt := congrArg Int32.toInt (ahpσ_21 a 27 (q_cl9 _ _) (fun h => absurd h.2.2 (by decide)))
          have mcσ_21 := m_cK hkσ_21 hI.1 ha (by decide)
          have kwσ_21 : ∀ j, 0 ≤ j → (j < v1.toInt + 1 ∨ v1.toInt + 8 ≤ j) → m_c X σ_21 a j = m_c X σ a j := fun j h0 h1 => (mcσ_21 j).trans (kwσ j h0 h1)
          have smσ_21 : 0 ≤ (σ_21.1 a 15).toInt ∧ (σ_21.1 a 15).toInt ≤ (σ_21.1 a 16).toInt ∧ (σ_21.1 a 16).toInt ≤ (σ_21.1 a 9).toInt ∧ (σ_21.1 a 9).toInt ≤ 900 ∧ 0 ≤ (σ_21.1 a 14).toInt ∧ (σ_21.1 a 14).toInt ≤ 4 ∧ (σ_21.1 a 14).toInt ≤ 4 * ((σ_21.1 a 16).toInt - (σ_21.1 a 15).toInt) ∧ (σ_21.1 a 14).toInt ≤ 4 * ((σ_21.1 a 9).toInt - (σ_21.1 a 15).toInt) ∧ 0 ≤ (σ_21.1 a 12).toInt ∧ (σ_21.1 a 9).toInt = (σ.1 a 9).toInt ∧ (σ.1 a 15).toInt ≤ (σ_21.1 a 15).toInt ∧ (σ.1 a 12).toInt ≤ (σ_21.1 a 12).toInt := (by first | exact sm_tr smσ bhpσ_21 | exact sm_tr smσ chpσ_21 | omega)
          have nsσ_21 : (σ_21.1 a 27).toInt = (σ.1 a 27).toInt := (by omega)
          clear mv27_σ_21 smσ nsσ bhpσ_21
          refine q_iastN E hI (q_tk (k' := 34) hI ha rfl (Nat.succ_ne_zero _)) ⟨by decide, rfl⟩ (by first | (clear hs hc2 if_1 c_2 c_14 c_15 c_16 kc_18 kc_19 ahpσ_21 chpσ_21 dhpσ_21 ehpσ_21 smσ_21 nsσ_21; omega) | omega) (by rw [q_lnk (v := 4650) hI (q_tk (k' := 34) hI ha rfl (Nat.succ_ne_zero _)) rfl (by decide)]; omega) (show 1 < 2 by decide) (q_inU rfl) dX12_readRest_80 (fun H locs σ_22 hσ_22 hI => ?_)
          replace hF := q_letX hF hσ_22
          have fr_σ_22 := fr_σ_21.si hσ_22 (q_tk (k' := 34) hI ha rfl (Nat.succ_ne_zero _)) rfl
          have mv9_σ_22 : (σ_22.1 a 9).toInt = (σ_21.1 a 9).toInt := congrArg Int32.toInt (q_rdn hσ_22 (Or.inl (m_ne ha (q_tk (k' := 34) hI ha rfl (Nat.succ_ne_zero _)) (by decide))))
          have mv12_σ_22 : (σ_22.1 a 12).toInt = (σ_21.1 a 12).toInt := congrArg Int32.toInt (q_rdn hσ_22 (Or.inl (m_ne ha (q_tk (k' := 34) hI ha rfl (Nat.succ_ne_zero _)) (by decide))))
          have mv14_σ_22 : (σ_22.1 a 14).toInt = (σ_21.1 a 14).toInt := congrArg Int32.toInt (q_rdn hσ_22 (Or.inl (m_ne ha (q_tk (k' := 34) hI ha rfl (Nat.succ_ne_zero _)) (by decide))))
          have mv15_σ_22 : (σ_22.1 a 15).toInt = (σ_21.1 a 15).toInt := congrArg Int32.toInt (q_rdn hσ_22 (Or.inl (m_ne ha (q_tk (k' := 34) hI ha rfl (Nat.succ_ne_zero _)) (by decide))))
          have mv16_σ_22 : (σ_22.1 a 16).toInt = (σ_21.1 a 16).toInt := congrArg Int32.toInt (q_rdn hσ_22 (Or.inl (m_ne ha (q_tk (k' := 34) hI ha rfl (Nat.succ_ne_zero _)) (by decide))))
          have mv27_σ_22 : (σ_22.1 a 27).toInt = (σ_21.1 a 27).toInt := congrArg Int32.toInt (q_rdn hσ_22 (Or.inl (m_ne ha (q_tk (k' := 34) hI ha rfl (Nat.succ_ne_zero _)) (by decide))))
          have mcσ_22 := m_wr (v := r_20) (A := (v1.toInt + 1)) hσ_22 iz_17 (by first | (clear hs hc2 if_1 c_2 c_14 c_15 c_16 kc_18 kc_19 ahpσ_21 chpσ_21 dhpσ_21 ehpσ_21 smσ_21 nsσ_21 mv9_σ_22 mv12_σ_22 mv14_σ_22 mv15_σ_22 mv16_σ_22 mv27_σ_22; omega) | omega)
          have kwσ_22 : ∀ j, 0 ≤ j → (j < v1.toInt + 1 ∨ v1.toInt + 8 ≤ j) → m_c X σ_22 a j = m_c X σ a j := fun j h0 h1 => by rw [mcσ_22 j h0, if_neg (by first | (clear hs hw hc2 if_1 c_2 c_14 c_15 c_16 kc_18 kc_19 ahpσ_21 chpσ_21 dhpσ_21 ehpσ_21 smσ_21 nsσ_21 mv9_σ_22 mv12_σ_22 mv14_σ_22 mv15_σ_22 mv16_σ_22 mv27_σ_22; omega) | omega)]; exact kwσ_21 j h0 h1
          have smσ_22 : 0 ≤ (σ_22.1 a 15).toInt ∧ (σ_22.1 a 15).toInt ≤ (σ_22.1 a 16).toInt ∧ (σ_22.1 a 16).toInt ≤ (σ_22.1 a 9).toInt ∧ (σ_22.1 a 9).toInt ≤ 900 ∧ 0 ≤ (σ_22.1 a 14).toInt ∧ (σ_22.1 a 14).toInt ≤ 4 ∧ (σ_22.1 a 14).toInt ≤ 4 * ((σ_22.1 a 16).toInt - (σ_22.1 a 15).toInt) ∧ (σ_22.1 a 14).toInt ≤ 4 * ((σ_22.1 a 9).toInt - (σ_22.1 a 15).toInt) ∧ 0 ≤ (σ_22.1 a 12).toInt ∧ (σ_22.1 a 9).toInt = (σ.1 a 9).toInt ∧ (σ.1 a 15).toInt ≤ (σ_22.1 a 15).toInt ∧ (σ.1 a 12).toInt ≤ (σ_22.1 a 12).toInt := (by first | (rw [mv12_σ_22, mv14_σ_22, mv15_σ_22, mv16_σ_22, mv9_σ_22]; exact smσ_21) | omega)
          have nsσ_22 : (σ_22.1 a 27).toInt = (σ.1 a 27).toInt := (by first | (clear hs hw hc2 if_1 c_2 c_14 c_15 c_16 iz_17 kc_18 kc_19 ahpσ_21 chpσ_21 dhpσ_21 ehpσ_21 smσ_21 mv9_σ_22 mv12_σ_22 mv14_σ_22 mv15_σ_22 mv16_σ_22 smσ_22; omega) | omega)
          clear mv9_σ_22 mv12_σ_22 mv14_σ_22 mv15_σ_22 mv16_σ_22 mv27_σ_22 smσ_21 nsσ_21
          have kz := kwσ_22 v1.toInt (by first | (clear hs hc2 if_1 c_2 c_14 c_15 c_16 kc_18 kc_19 ahpσ_21 chpσ_21 dhpσ_21 ehpσ_21 smσ_22 nsσ_22; omega) | omega) (Or.inl (by first | (clear hs hw hc2 if_1 c_2 c_14 c_15 c_16 iz_17 kc_18 kc_19 ahpσ_21 chpσ_21 dhpσ_21 ehpσ_21 smσ_22 nsσ_22; omega) | omega))
          rewrite [hQQ]; exact q_retv E hr hlk hI ⟨kwσ_22, (by first | exact smσ_22 | omega), nsσ_22, (by first | exact rsσ_22 | exact fun e => m_rst.m1 (by first | exact smσ_22 | omega) p1σ_22 | exact fun e => m_rst.m0 (by first | exact smσ_22 | omega) (by first | exact smσ_22 | omega) (by first | exact smσ_22 | omega)), (hF.trans hout), fr_σ_22⟩ dX12_readRest_81
      · skip
        replace hF := q_ifp hF c_15
        refine lv_aload_n hx hb dX12_readRest_53 rfl (lv_at hl 1 rfl) ?_
        refine lv_iload_n hx hb dX12_readRest_54 rfl (lv_at hl 2 rfl) ?_
        refine q_cv (q_rV11_1 (rest := []) E (hml.trans hl.1.symm) hI (c_X12_readTest l X σ a v1 ha (by first | exact sm_9 smσ | exact hs | omega) hw (by rw [kwσ 2 (by decide) (Or.inl (by first | (clear hs hc2 if_1 c_2 c_14 c_15; omega) | omega))]; exact hc2)) kv_X12_264 ha ⟨Nat.le_of_ble_eq_true rfl, Nat.le_of_ble_eq_true rfl⟩ (Nat.le_of_ble_eq_true rfl) dX12_readRest_55) hI (Nat.le_of_ble_eq_true rfl) (fun σ_24 H locs hpσ_24 hkσ_24 hI => ?_)
        have ahpσ_24 := hpσ_24.1
        have bhpσ_24 := hpσ_24.2.1
        have chpσ_24 := hpσ_24.2.2.1
        have dhpσ_24 := hpσ_24.2.2.2.1
        have ehpσ_24 := hpσ_24.2.2.2.2.1
        have fhpσ_24 := hpσ_24.2.2.2.2.2
        clear hpσ_24
        have fr_σ_24 := fr_σ.call fhpσ_24 rfl rfl
        replace hF := q_letX hF ehpσ_24
        have kwσ_24 : ∀ j, 0 ≤ j → (j < v1.toInt + 1 ∨ v1.toInt + 8 ≤ j) → m_c X σ_24 a j = m_c X σ a j := (fun j h0 h1 => (ahpσ_24 j h0 h1).trans (kwσ j h0 h1))
        have smσ_24 : 0 ≤ (σ_24.1 a 15).toInt ∧ (σ_24.1 a 15).toInt ≤ (σ_24.1 a 16).toInt ∧ (σ_24.1 a 16).toInt ≤ (σ_24.1 a 9).toInt ∧ (σ_24.1 a 9).toInt ≤ 900 ∧ 0 ≤ (σ_24.1 a 14).toInt ∧ (σ_24.1 a 14).toInt ≤ 4 ∧ (σ_24.1 a 14).toInt ≤ 4 * ((σ_24.1 a 16).toInt - (σ_24.1 a 15).toInt) ∧ (σ_24.1 a 14).toInt ≤ 4 * ((σ_24.1 a 9).toInt - (σ_24.1 a 15).toInt) ∧ 0 ≤ (σ_24.1 a 12).toInt ∧ (σ_24.1 a 9).toInt = (σ.1 a 9).toInt ∧ (σ.1 a 15).toInt ≤ (σ_24.1 a 15).toInt ∧ (σ.1 a 12).toInt ≤ (σ_24.1 a 12).toInt := (by first | exact sm_tr smσ bhpσ_24 | exact sm_tr smσ chpσ_24 | omega)
        have nsσ_24 : (σ_24.1 a 27).toInt = (σ.1 a 27).toInt := (by omega)
        clear smσ nsσ bhpσ_24 chpσ_24
        have rsσ_24 : m_oz (σ_24.1 a 12).toInt (m_rst (m_c X σ_24 a) v1.toInt) := fun e => m_rst.m3 (by have := ahpσ_24 v1.toInt (by first | (clear hs hc2 if_1 c_2 c_14 c_15 ahpσ_24 dhpσ_24 ehpσ_24 fhpσ_24 smσ_24 nsσ_24; omega) | omega) (Or.inl (by first | (clear hs hw hc2 if_1 c_2 c_14 c_15 ahpσ_24 dhpσ_24 ehpσ_24 fhpσ_24 smσ_24 nsσ_24; omega) | omega)); omega) (dhpσ_24 e)
        refine lv_goto (tgt := 81) hx hb dX12_readRest_58 (by decide) ?_
        have kz := kwσ_24 v1.toInt (by first | (clear hs hc2 if_1 c_2 c_14 c_15 ahpσ_24 dhpσ_24 ehpσ_24 fhpσ_24 smσ_24 nsσ_24; omega) | omega) (Or.inl (by first | (clear hs hw hc2 if_1 c_2 c_14 c_15 ahpσ_24 dhpσ_24 ehpσ_24 fhpσ_24 smσ_24 nsσ_24; omega) | omega))
        rewrite [hQQ]; exact q_retv E hr hlk hI ⟨kwσ_24, (by first | exact smσ_24 | omega), nsσ_24, (by first | exact rsσ_24 | exact fun e => m_rst.m1 (by first | exact smσ_24 | omega) p1σ_24 | exact fun e => m_rst.m0 (by first | exact smσ_24 | omega) (by first | exact smσ_24 | omega) (by first | exact smσ_24 | omega)), (hF.trans hout), fr_σ_24⟩ dX12_readRest_81
    · skip
      replace hF := q_ifp hF c_14
      refine lv_aload_n hx hb dX12_readRest_17 rfl (lv_at hl 1 rfl) ?_
      refine gs_X12_35_12 E hI ha dX12_readRest_18 ?_
      refine lv_iload_n hx hb dX12_readRest_21 rfl (lv_at hl 2 rfl) ?_
      refine lv_iconst (v := 1) hx hb dX12_readRest_22 zki_1 ?_
      refine lv_iadd hx hb dX12_readRest_23 ?_
      refine lv_topi (fun z_25 ez_25 => ?_)
      replace hF := q_letX hF ez_25
      have iz_25 := q_addI (A := v1.toInt) (B := 1) ez_25 rfl (by decide) (by first | (clear hs hc2 if_1 c_2 c_14; omega) | omega) (by first | (clear hs hc2 if_1 c_2 c_14; omega) | omega)
      refine lv_aload_n hx hb dX12_readRest_24 rfl (lv_at hl 1 rfl) ?_
      refine lv_iconst (v := 0) hx hb dX12_readRest_25 zki_0 ?_
      have kc_26 : (0 : Int32).toInt = 0 := zt_0
      refine q_ci (q_rV11_1 (rest := [.int z_25, .ref (q_rf X a 20)]) E (hml.trans hl.1.symm) hI (c_X12_readTold l X σ a (0 : Int32) ha (by first | exact sm_9 smσ | exact hs | omega) (Or.inl rfl) (by show m_c X σ a 2 ≤ 6; rw [kwσ 2 (by decide) (Or.inl (by first | (clear hs hc2 if_1 c_2 c_14 kc_26; omega) | omega))]; exact hc2)) kv_X12_226 ha ⟨Nat.le_of_ble_eq_true rfl, Nat.le_of_ble_eq_true rfl⟩ (Nat.le_of_ble_eq_true rfl) dX12_readRest_26) hI (Nat.le_of_ble_eq_true rfl) (fun r_27 σ_28 H locs hpσ_28 hkσ_28 hI => ?_)
      have ahpσ_28 := hpσ_28.1
      have bhpσ_28 := hpσ_28.2.1
      have chpσ_28 := hpσ_28.2.2.1
      have dhpσ_28 := hpσ_28.2.2.2.1
      have ehpσ_28 := hpσ_28.2.2.2.2
      clear hpσ_28
      have fr_σ_28 := fr_σ.call ehpσ_28 rfl rfl
      replace hF := q_biX hF dhpσ_28
      have mv27_σ_28 : (σ_28.1 a 27).toInt = (σ.1 a 27).toInt := congrArg Int32.toInt (ahpσ_28 a 27 (q_cl9 _ _) (fun h => absurd h.2.2 (by decide)))
      have mcσ_28 := m_cK hkσ_28 hI.1 ha (by decide)
      have kwσ_28 : ∀ j, 0 ≤ j → (j < v1.toInt + 1 ∨ v1.toInt + 8 ≤ j) → m_c X σ_28 a j = m_c X σ a j := fun j h0 h1 => (mcσ_28 j).trans (kwσ j h0 h1)
      have smσ_28 : 0 ≤ (σ_28.1 a 15).toInt ∧ (σ_28.1 a 15).toInt ≤ (σ_28.1 a 16).toInt ∧ (σ_28.1 a 16).toInt ≤ (σ_28.1 a 9).toInt ∧ (σ_28.1 a 9).toInt ≤ 900 ∧ 0 ≤ (σ_28.1 a 14).toInt ∧ (σ_28.1 a 14).toInt ≤ 4 ∧ (σ_28.1 a 14).toInt ≤ 4 * ((σ_28.1 a 16).toInt - (σ_28.1 a 15).toInt) ∧ (σ_28.1 a 14).toInt ≤ 4 * ((σ_28.1 a 9).toInt - (σ_28.1 a 15).toInt) ∧ 0 ≤ (σ_28.1 a 12).toInt ∧ (σ_28.1 a 9).toInt = (σ.1 a 9).toInt ∧ (σ.1 a 15).toInt ≤ (σ_28.1 a 15).toInt ∧ (σ.1 a 12).toInt ≤ (σ_28.1 a 12).toInt := (by first | exact sm_tr smσ bhpσ_28 | exact sm_tr smσ chpσ_28 | omega)
      have nsσ_28 : (σ_28.1 a 27).toInt = (σ.1 a 27).toInt := (by omega)
      clear mv27_σ_28 smσ nsσ bhpσ_28
      refine q_iastN E hI (q_tk (k' := 34) hI ha rfl (Nat.succ_ne_zero _)) ⟨by decide, rfl⟩ (by first | (clear hs hc2 if_1 c_2 c_14 kc_26 ahpσ_28 chpσ_28 dhpσ_28 ehpσ_28 smσ_28 nsσ_28; omega) | omega) (by rw [q_lnk (v := 4650) hI (q_tk (k' := 34) hI ha rfl (Nat.succ_ne_zero _)) rfl (by decide)]; omega) (show 1 < 2 by decide) (q_inU rfl) dX12_readRest_29 (fun H locs σ_29 hσ_29 hI => ?_)
      replace hF := q_letX hF hσ_29
      have fr_σ_29 := fr_σ_28.si hσ_29 (q_tk (k' := 34) hI ha rfl (Nat.succ_ne_zero _)) rfl
      have mv9_σ_29 : (σ_29.1 a 9).toInt = (σ_28.1 a 9).toInt := congrArg Int32.toInt (q_rdn hσ_29 (Or.inl (m_ne ha (q_tk (k' := 34) hI ha rfl (Nat.succ_ne_zero _)) (by decide))))
      have mv12_σ_29 : (σ_29.1 a 12).toInt = (σ_28.1 a 12).toInt := congrArg Int32.toInt (q_rdn hσ_29 (Or.inl (m_ne ha (q_tk (k' := 34) hI ha rfl (Nat.succ_ne_zero _)) (by decide))))
      have mv14_σ_29 : (σ_29.1 a 14).toInt = (σ_28.1 a 14).toInt := congrArg Int32.toInt (q_rdn hσ_29 (Or.inl (m_ne ha (q_tk (k' := 34) hI ha rfl (Nat.succ_ne_zero _)) (by decide))))
      have mv15_σ_29 : (σ_29.1 a 15).toInt = (σ_28.1 a 15).toInt := congrArg Int32.toInt (q_rdn hσ_29 (Or.inl (m_ne ha (q_tk (k' := 34) hI ha rfl (Nat.succ_ne_zero _)) (by decide))))
      have mv16_σ_29 : (σ_29.1 a 16).toInt = (σ_28.1 a 16).toInt := congrArg Int32.toInt (q_rdn hσ_29 (Or.inl (m_ne ha (q_tk (k' := 34) hI ha rfl (Nat.succ_ne_zero _)) (by decide))))
      have mv27_σ_29 : (σ_29.1 a 27).toInt = (σ_28.1 a 27).toInt := congrArg Int32.toInt (q_rdn hσ_29 (Or.inl (m_ne ha (q_tk (k' := 34) hI ha rfl (Nat.succ_ne_zero _)) (by decide))))
      have mcσ_29 := m_wr (v := r_27) (A := (v1.toInt + 1)) hσ_29 iz_25 (by first | (clear hs hc2 if_1 c_2 c_14 kc_26 ahpσ_28 chpσ_28 dhpσ_28 ehpσ_28 smσ_28 nsσ_28 mv9_σ_29 mv12_σ_29 mv14_σ_29 mv15_σ_29 mv16_σ_29 mv27_σ_29; omega) | omega)
      have kwσ_29 : ∀ j, 0 ≤ j → (j < v1.toInt + 1 ∨ v1.toInt + 8 ≤ j) → m_c X σ_29 a j = m_c X σ a j := fun j h0 h1 => by rw [mcσ_29 j h0, if_neg (by first | (clear hs hw hc2 if_1 c_2 c_14 kc_26 ahpσ_28 chpσ_28 dhpσ_28 ehpσ_28 smσ_28 nsσ_28 mv9_σ_29 mv12_σ_29 mv14_σ_29 mv15_σ_29 mv16_σ_29 mv27_σ_29; omega) | omega)]; exact kwσ_28 j h0 h1
      have smσ_29 : 0 ≤ (σ_29.1 a 15).toInt ∧ (σ_29.1 a 15).toInt ≤ (σ_29.1 a 16).toInt ∧ (σ_29.1 a 16).toInt ≤ (σ_29.1 a 9).toInt ∧ (σ_29.1 a 9).toInt ≤ 900 ∧ 0 ≤ (σ_29.1 a 14).toInt ∧ (σ_29.1 a 14).toInt ≤ 4 ∧ (σ_29.1 a 14).toInt ≤ 4 * ((σ_29.1 a 16).toInt - (σ_29.1 a 15).toInt) ∧ (σ_29.1 a 14).toInt ≤ 4 * ((σ_29.1 a 9).toInt - (σ_29.1 a 15).toInt) ∧ 0 ≤ (σ_29.1 a 12).toInt ∧ (σ_29.1 a 9).toInt = (σ.1 a 9).toInt ∧ (σ.1 a 15).toInt ≤ (σ_29.1 a 15).toInt ∧ (σ.1 a 12).toInt ≤ (σ_29.1 a 12).toInt := (by first | (rw [mv12_σ_29, mv14_σ_29, mv15_σ_29, mv16_σ_29, mv9_σ_29]; exact smσ_28) | omega)
      have nsσ_29 : (σ_29.1 a 27).toInt = (σ.1 a 27).toInt := (by first | (clear hs hw hc2 if_1 c_2 c_14 iz_25 kc_26 ahpσ_28 chpσ_28 dhpσ_28 ehpσ_28 smσ_28 mv9_σ_29 mv12_σ_29 mv14_σ_29 mv15_σ_29 mv16_σ_29 smσ_29; omega) | omega)
      have p1σ_29 : 0 ≤ m_c X σ_29 a (v1.toInt + 1) ∧ m_c X σ_29 a (v1.toInt + 1) ≤ 5 := (by have := mcσ_29 (v1.toInt + 1) (by first | (clear hs hc2 if_1 c_2 c_14 kc_26 ahpσ_28 chpσ_28 dhpσ_28 ehpσ_28 smσ_28 nsσ_28 mv9_σ_29 mv12_σ_29 mv14_σ_29 mv15_σ_29 mv16_σ_29 mv27_σ_29 smσ_29 nsσ_29; omega) | omega); rw [if_pos rfl] at this; omega)
      clear mv9_σ_29 mv12_σ_29 mv14_σ_29 mv15_σ_29 mv16_σ_29 mv27_σ_29 smσ_28 nsσ_28
      refine lv_aload_n hx hb dX12_readRest_30 rfl (lv_at hl 1 rfl) ?_
      refine gs_X12_35_12 E hI ha dX12_readRest_31 ?_
      refine lv_iload_n hx hb dX12_readRest_34 rfl (lv_at hl 2 rfl) ?_
      refine lv_iconst (v := 2) hx hb dX12_readRest_35 zki_2 ?_
      refine lv_iadd hx hb dX12_readRest_36 ?_
      refine lv_topi (fun z_30 ez_30 => ?_)
      replace hF := q_letX hF ez_30
      have iz_30 := q_addI (A := v1.toInt) (B := 2) ez_30 rfl (by decide) (by first | (clear hs hc2 if_1 c_2 c_14 kc_26 ahpσ_28 chpσ_28 dhpσ_28 ehpσ_28 smσ_29 nsσ_29 p1σ_29; omega) | omega) (by first | (clear hs hc2 if_1 c_2 c_14 kc_26 ahpσ_28 chpσ_28 dhpσ_28 ehpσ_28 smσ_29 nsσ_29 p1σ_29; omega) | omega)
      refine lv_aload_n hx hb dX12_readRest_37 rfl (lv_at hl 1 rfl) ?_
      refine lv_iconst (v := 0) hx hb dX12_readRest_38 zki_0 ?_
      refine lv_bipush (v := 16) hx hb dX12_readRest_39 zkb_16 ?_
      have kc_31 : (0 : Int32).toInt = 0 := zt_0
      have kc_32 : (16 : Int32).toInt = 16 := zt_16
      refine q_ci (q_rV11_2 (rest := [.int z_30, .ref (q_rf X a 20)]) E (hml.trans hl.1.symm) hI (c_X12_count l X σ_29 a (0 : Int32) (16 : Int32) ha (by first | exact sm_9 smσ_29 | exact hs | omega) (by first | (clear hs hw hc2 if_1 c_2 c_14 iz_25 ahpσ_28 chpσ_28 dhpσ_28 ehpσ_28 smσ_29 nsσ_29 p1σ_29 iz_30 kc_31; omega) | omega)) kv_X12_223 ha ⟨Nat.le_of_ble_eq_true rfl, Nat.le_of_ble_eq_true rfl⟩ (Nat.le_of_ble_eq_true rfl) dX12_readRest_41) hI (Nat.le_of_ble_eq_true rfl) (fun r_33 σ_34 H locs hpσ_34 hkσ_34 hI => ?_)
      have ahpσ_34 := hpσ_34.1
      have bhpσ_34 := hpσ_34.2.1
      have chpσ_34 := hpσ_34.2.2.1
      have dhpσ_34 := hpσ_34.2.2.2.1
      have ehpσ_34 := hpσ_34.2.2.2.2
      clear hpσ_34
      have fr_σ_34 := fr_σ_29.call ehpσ_34 rfl rfl
      replace hF := q_biX hF dhpσ_34
      have mv27_σ_34 : (σ_34.1 a 27).toInt = (σ_29.1 a 27).toInt := congrArg Int32.toInt (ahpσ_34 a 27 (q_cl9 _ _) (fun h => absurd h.2.2 (by decide)))
      have mcσ_34 := m_cK hkσ_34 hI.1 ha (by decide)
      have kwσ_34 : ∀ j, 0 ≤ j → (j < v1.toInt + 1 ∨ v1.toInt + 8 ≤ j) → m_c X σ_34 a j = m_c X σ a j := fun j h0 h1 => (mcσ_34 j).trans (kwσ_29 j h0 h1)
      have smσ_34 : 0 ≤ (σ_34.1 a 15).toInt ∧ (σ_34.1 a 15).toInt ≤ (σ_34.1 a 16).toInt ∧ (σ_34.1 a 16).toInt ≤ (σ_34.1 a 9).toInt ∧ (σ_34.1 a 9).toInt ≤ 900 ∧ 0 ≤ (σ_34.1 a 14).toInt ∧ (σ_34.1 a 14).toInt ≤ 4 ∧ (σ_34.1 a 14).toInt ≤ 4 * ((σ_34.1 a 16).toInt - (σ_34.1 a 15).toInt) ∧ (σ_34.1 a 14).toInt ≤ 4 * ((σ_34.1 a 9).toInt - (σ_34.1 a 15).toInt) ∧ 0 ≤ (σ_34.1 a 12).toInt ∧ (σ_34.1 a 9).toInt = (σ.1 a 9).toInt ∧ (σ.1 a 15).toInt ≤ (σ_34.1 a 15).toInt ∧ (σ.1 a 12).toInt ≤ (σ_34.1 a 12).toInt := (by first | exact sm_tr smσ_29 bhpσ_34 | exact sm_tr smσ_29 chpσ_34 | omega)
      have nsσ_34 : (σ_34.1 a 27).toInt = (σ.1 a 27).toInt := (by first | (clear hs hw hc2 if_1 c_2 c_14 iz_25 kc_26 ahpσ_28 chpσ_28 dhpσ_28 ehpσ_28 smσ_29 p1σ_29 iz_30 kc_31 kc_32 ahpσ_34 bhpσ_34 chpσ_34 dhpσ_34 ehpσ_34 smσ_34; omega) | omega)
      have p1σ_34 : 0 ≤ m_c X σ_34 a (v1.toInt + 1) ∧ m_c X σ_34 a (v1.toInt + 1) ≤ 5 := (by have := mcσ_34 (v1.toInt + 1); omega)
      clear mv27_σ_34 smσ_29 nsσ_29 bhpσ_34
      refine q_iastN E hI (q_tk (k' := 34) hI ha rfl (Nat.succ_ne_zero _)) ⟨by decide, rfl⟩ (by first | (clear hs hc2 if_1 c_2 c_14 kc_26 ahpσ_28 chpσ_28 dhpσ_28 ehpσ_28 p1σ_29 kc_31 kc_32 ahpσ_34 chpσ_34 dhpσ_34 ehpσ_34 smσ_34 nsσ_34 p1σ_34; omega) | omega) (by rw [q_lnk (v := 4650) hI (q_tk (k' := 34) hI ha rfl (Nat.succ_ne_zero _)) rfl (by decide)]; omega) (show 1 < 2 by decide) (q_inU rfl) dX12_readRest_44 (fun H locs σ_35 hσ_35 hI => ?_)
      replace hF := q_letX hF hσ_35
      have fr_σ_35 := fr_σ_34.si hσ_35 (q_tk (k' := 34) hI ha rfl (Nat.succ_ne_zero _)) rfl
      have mv9_σ_35 : (σ_35.1 a 9).toInt = (σ_34.1 a 9).toInt := congrArg Int32.toInt (q_rdn hσ_35 (Or.inl (m_ne ha (q_tk (k' := 34) hI ha rfl (Nat.succ_ne_zero _)) (by decide))))
      have mv12_σ_35 : (σ_35.1 a 12).toInt = (σ_34.1 a 12).toInt := congrArg Int32.toInt (q_rdn hσ_35 (Or.inl (m_ne ha (q_tk (k' := 34) hI ha rfl (Nat.succ_ne_zero _)) (by decide))))
      have mv14_σ_35 : (σ_35.1 a 14).toInt = (σ_34.1 a 14).toInt := congrArg Int32.toInt (q_rdn hσ_35 (Or.inl (m_ne ha (q_tk (k' := 34) hI ha rfl (Nat.succ_ne_zero _)) (by decide))))
      have mv15_σ_35 : (σ_35.1 a 15).toInt = (σ_34.1 a 15).toInt := congrArg Int32.toInt (q_rdn hσ_35 (Or.inl (m_ne ha (q_tk (k' := 34) hI ha rfl (Nat.succ_ne_zero _)) (by decide))))
      have mv16_σ_35 : (σ_35.1 a 16).toInt = (σ_34.1 a 16).toInt := congrArg Int32.toInt (q_rdn hσ_35 (Or.inl (m_ne ha (q_tk (k' := 34) hI ha rfl (Nat.succ_ne_zero _)) (by decide))))
      have mv27_σ_35 : (σ_35.1 a 27).toInt = (σ_34.1 a 27).toInt := congrArg Int32.toInt (q_rdn hσ_35 (Or.inl (m_ne ha (q_tk (k' := 34) hI ha rfl (Nat.succ_ne_zero _)) (by decide))))
      have mcσ_35 := m_wr (v := r_33) (A := (v1.toInt + 2)) hσ_35 iz_30 (by first | (clear hs hc2 if_1 c_2 c_14 kc_26 ahpσ_28 chpσ_28 dhpσ_28 ehpσ_28 p1σ_29 kc_31 kc_32 ahpσ_34 chpσ_34 dhpσ_34 ehpσ_34 smσ_34 nsσ_34 p1σ_34 mv9_σ_35 mv12_σ_35 mv14_σ_35 mv15_σ_35 mv16_σ_35 mv27_σ_35; omega) | omega)
      have kwσ_35 : ∀ j, 0 ≤ j → (j < v1.toInt + 1 ∨ v1.toInt + 8 ≤ j) → m_c X σ_35 a j = m_c X σ a j := fun j h0 h1 => by rw [mcσ_35 j h0, if_neg (by first | (clear hs hw hc2 if_1 c_2 c_14 kc_26 ahpσ_28 chpσ_28 dhpσ_28 ehpσ_28 p1σ_29 kc_31 kc_32 ahpσ_34 chpσ_34 dhpσ_34 ehpσ_34 smσ_34 nsσ_34 p1σ_34 mv9_σ_35 mv12_σ_35 mv14_σ_35 mv15_σ_35 mv16_σ_35 mv27_σ_35; omega) | omega)]; exact kwσ_34 j h0 h1
      have smσ_35 : 0 ≤ (σ_35.1 a 15).toInt ∧ (σ_35.1 a 15).toInt ≤ (σ_35.1 a 16).toInt ∧ (σ_35.1 a 16).toInt ≤ (σ_35.1 a 9).toInt ∧ (σ_35.1 a 9).toInt ≤ 900 ∧ 0 ≤ (σ_35.1 a 14).toInt ∧ (σ_35.1 a 14).toInt ≤ 4 ∧ (σ_35.1 a 14).toInt ≤ 4 * ((σ_35.1 a 16).toInt - (σ_35.1 a 15).toInt) ∧ (σ_35.1 a 14).toInt ≤ 4 * ((σ_35.1 a 9).toInt - (σ_35.1 a 15).toInt) ∧ 0 ≤ (σ_35.1 a 12).toInt ∧ (σ_35.1 a 9).toInt = (σ.1 a 9).toInt ∧ (σ.1 a 15).toInt ≤ (σ_35.1 a 15).toInt ∧ (σ.1 a 12).toInt ≤ (σ_35.1 a 12).toInt := (by first | (rw [mv12_σ_35, mv14_σ_35, mv15_σ_35, mv16_σ_35, mv9_σ_35]; exact smσ_34) | omega)
      have nsσ_35 : (σ_35.1 a 27).toInt = (σ.1 a 27).toInt := (by first | (clear hs hw hc2 if_1 c_2 c_14 iz_25 kc_26 ahpσ_28 chpσ_28 dhpσ_28 ehpσ_28 p1σ_29 iz_30 kc_31 kc_32 ahpσ_34 chpσ_34 dhpσ_34 ehpσ_34 smσ_34 p1σ_34 mv9_σ_35 mv12_σ_35 mv14_σ_35 mv15_σ_35 mv16_σ_35 smσ_35; omega) | omega)
      have p1σ_35 : 0 ≤ m_c X σ_35 a (v1.toInt + 1) ∧ m_c X σ_35 a (v1.toInt + 1) ≤ 5 := (by have := mcσ_35 (v1.toInt + 1) (by first | (clear hs hc2 if_1 c_2 c_14 kc_26 ahpσ_28 chpσ_28 dhpσ_28 ehpσ_28 p1σ_29 kc_31 kc_32 ahpσ_34 chpσ_34 dhpσ_34 ehpσ_34 smσ_34 nsσ_34 p1σ_34 mv9_σ_35 mv12_σ_35 mv14_σ_35 mv15_σ_35 mv16_σ_35 mv27_σ_35 smσ_35 nsσ_35; omega) | omega); rw [if_neg (by first | (clear hs hw hc2 if_1 c_2 c_14 iz_25 kc_26 ahpσ_28 chpσ_28 dhpσ_28 ehpσ_28 p1σ_29 iz_30 kc_31 kc_32 ahpσ_34 chpσ_34 dhpσ_34 ehpσ_34 smσ_34 nsσ_34 p1σ_34 mv9_σ_35 mv12_σ_35 mv14_σ_35 mv15_σ_35 mv16_σ_35 mv27_σ_35 smσ_35 nsσ_35; omega) | omega)] at this; omega)
      clear mv9_σ_35 mv12_σ_35 mv14_σ_35 mv15_σ_35 mv16_σ_35 mv27_σ_35 smσ_34 nsσ_34
      refine lv_goto (tgt := 81) hx hb dX12_readRest_45 (by decide) ?_
      have kz := kwσ_35 v1.toInt (by first | (clear hs hc2 if_1 c_2 c_14 kc_26 ahpσ_28 chpσ_28 dhpσ_28 ehpσ_28 p1σ_29 kc_31 kc_32 ahpσ_34 chpσ_34 dhpσ_34 ehpσ_34 p1σ_34 smσ_35 nsσ_35 p1σ_35; omega) | omega) (Or.inl (by first | (clear hs hw hc2 if_1 c_2 c_14 iz_25 kc_26 ahpσ_28 chpσ_28 dhpσ_28 ehpσ_28 p1σ_29 iz_30 kc_31 kc_32 ahpσ_34 chpσ_34 dhpσ_34 ehpσ_34 p1σ_34 smσ_35 nsσ_35 p1σ_35; omega) | omega))
      rewrite [hQQ]; exact q_retv E hr hlk hI ⟨kwσ_35, (by first | exact smσ_35 | omega), nsσ_35, (by first | exact rsσ_35 | exact fun e => m_rst.m1 (by first | exact smσ_35 | omega) p1σ_35 | exact fun e => m_rst.m0 (by first | exact smσ_35 | omega) (by first | exact smσ_35 | omega) (by first | exact smσ_35 | omega)), (hF.trans hout), fr_σ_35⟩ dX12_readRest_81

set_option maxRecDepth 100000 in
set_option maxHeartbeats 4000000 in
theorem c_X12_readStep_d0 (l : Launch) (X : XW) (σ : ST) (a : Nat) (v1 : Int32) (ha : q_kd X a = 12) (hs : 0 ≤ (σ.1 a 15).toInt ∧ (σ.1 a 15).toInt ≤ (σ.1 a 16).toInt ∧ (σ.1 a 16).toInt ≤ (σ.1 a 9).toInt ∧ (σ.1 a 9).toInt ≤ 900 ∧ 0 ≤ (σ.1 a 14).toInt ∧ (σ.1 a 14).toInt ≤ 4 ∧ (σ.1 a 14).toInt ≤ 4 * ((σ.1 a 16).toInt - (σ.1 a 15).toInt) ∧ (σ.1 a 14).toInt ≤ 4 * ((σ.1 a 9).toInt - (σ.1 a 15).toInt) ∧ 0 ≤ (σ.1 a 12).toInt) (hz : (σ.1 a 12).toInt = 0) (hc2 : m_c X σ a 2 ≤ 6) (hn : 0 ≤ (σ.1 a 27).toInt ∧ (σ.1 a 27).toInt ≤ 30) (hd : v1.toInt = 3) : Met l yX12_readStep (q_ws yX12_readStep cX12_readStep 5 none) (q_rm 9 197) (q_P X σ [.ref a, .int v1]) (q_Qv X 1 σ (fun (σ' : ST) => (∀ j, 0 ≤ j → j < 4376 + 9 * (σ.1 a 27).toInt → m_c X σ' a j = m_c X σ a j) ∧ (0 ≤ (σ'.1 a 15).toInt ∧ (σ'.1 a 15).toInt ≤ (σ'.1 a 16).toInt ∧ (σ'.1 a 16).toInt ≤ (σ'.1 a 9).toInt ∧ (σ'.1 a 9).toInt ≤ 900 ∧ 0 ≤ (σ'.1 a 14).toInt ∧ (σ'.1 a 14).toInt ≤ 4 ∧ (σ'.1 a 14).toInt ≤ 4 * ((σ'.1 a 16).toInt - (σ'.1 a 15).toInt) ∧ (σ'.1 a 14).toInt ≤ 4 * ((σ'.1 a 9).toInt - (σ'.1 a 15).toInt) ∧ 0 ≤ (σ'.1 a 12).toInt ∧ (σ'.1 a 9).toInt = (σ.1 a 9).toInt ∧ (σ.1 a 15).toInt ≤ (σ'.1 a 15).toInt ∧ (σ.1 a 12).toInt ≤ (σ'.1 a 12).toInt) ∧ ((σ.1 a 15).toInt + 1 ≤ (σ'.1 a 15).toInt + 1000 * (σ'.1 a 12).toInt) ∧ ((σ.1 a 27).toInt ≤ (σ'.1 a 27).toInt ∧ (σ'.1 a 27).toInt ≤ 30) ∧ (m_oz (σ'.1 a 12).toInt (∀ t, (σ.1 a 27).toInt ≤ t → t < (σ'.1 a 27).toInt → m_stp (m_c X σ' a) (4376 + 9 * t) t (σ'.1 a 27).toInt)) ∧ σ' = F_X12_readStep_d0 X σ a v1 ∧ q_ow [(12, 12), (12, 13), (12, 14), (12, 15), (12, 16), (12, 17), (12, 18), (12, 27), (34, 99)] [(12, 19)] X σ σ')) 0 0 (q_reg X) := by
  refine q_metQ 1 (by first | exact rfl | decide +kernel) rfl (Nat.le_of_ble_eq_true rfl) (fun QQ hQQ p e s m below meth c E hml hr hlk hI ls hl => ?_)
  have hx := E.1
  have hb := E.2.1
  have hl : lv_has ls 5 [(0, .ref a), (1, .int v1)] := hl
  have klσ : ∀ j, 0 ≤ j → j < 4376 + 9 * (σ.1 a 27).toInt → m_c X σ a j = m_c X σ a j := fun _ _ _ => rfl
  have smσ : 0 ≤ (σ.1 a 15).toInt ∧ (σ.1 a 15).toInt ≤ (σ.1 a 16).toInt ∧ (σ.1 a 16).toInt ≤ (σ.1 a 9).toInt ∧ (σ.1 a 9).toInt ≤ 900 ∧ 0 ≤ (σ.1 a 14).toInt ∧ (σ.1 a 14).toInt ≤ 4 ∧ (σ.1 a 14).toInt ≤ 4 * ((σ.1 a 16).toInt - (σ.1 a 15).toInt) ∧ (σ.1 a 14).toInt ≤ 4 * ((σ.1 a 9).toInt - (σ.1 a 15).toInt) ∧ 0 ≤ (σ.1 a 12).toInt ∧ (σ.1 a 9).toInt = (σ.1 a 9).toInt ∧ (σ.1 a 15).toInt ≤ (σ.1 a 15).toInt ∧ (σ.1 a 12).toInt ≤ (σ.1 a 12).toInt := (by first | (clear hc2 hn hd; omega) | omega)
  have beσ : (σ.1 a 16).toInt = (σ.1 a 16).toInt := rfl
  have nsσ : (σ.1 a 27).toInt = (σ.1 a 27).toInt := rfl
  have fr_σ : q_ow [(12, 12), (12, 13), (12, 14), (12, 15), (12, 16), (12, 17), (12, 18), (12, 27), (34, 99)] [(12, 19)] X σ σ := q_ow.rf
  obtain ⟨out, hout⟩ : ∃ o, o = F_X12_readStep_d0 X σ a v1 := ⟨_, rfl⟩
  have hF := hout.symm
  unfold F_X12_readStep_d0 at hF
  refine lv_aload_n hx hb dX12_readStep_0 rfl (lv_at hl 0 rfl) ?_
  refine q_ci (q_rV11_0 (rest := []) E (hml.trans hl.1.symm) hI (c_X12_stepWord l X σ a ha (by first | (clear hz hc2 hn hd smσ beσ nsσ; omega) | omega)) kv_X12_175 ha ⟨Nat.le_of_ble_eq_true rfl, Nat.le_of_ble_eq_true rfl⟩ (Nat.le_of_ble_eq_true rfl) dX12_readStep_1) hI (Nat.le_of_ble_eq_true rfl) (fun r_1 σ_2 H locs hpσ_2 hkσ_2 hI => ?_)
  have ahpσ_2 := hpσ_2.1
  have bhpσ_2 := hpσ_2.2.1
  have chpσ_2 := hpσ_2.2.2.1
  have dhpσ_2 := hpσ_2.2.2.2
  clear hpσ_2
  replace hI := q_Irw ahpσ_2 hI
  replace hF := q_letX hF dhpσ_2
  refine lv_istore_n (lv' := [(2, .int r_1), (0, .ref a), (1, .int v1)]) hx hb dX12_readStep_4 rfl hl (by decide) rfl (fun ls hl => ?_)
  refine lv_iload_n hx hb dX12_readStep_5 rfl (lv_at hl 0 rfl) ?_
  refine lv_iconst (v := 3) hx hb dX12_readStep_6 zki_3 ?_
  have J_20_3 : ∀ (x_3 : Int32) (H : Heap) (locs : List Loc) (ls : Array Slot), (0 ≤ x_3.toInt ∧ x_3.toInt ≤ 1) → (F_X12_readStep_d0_J20_1 X r_1 σ a v1 x_3 = out) → q_I X 1 σ s.heap locs σ H → lv_has ls 5 [(0, .ref a), (1, .int v1), (2, .int r_1)] → W p l e (q_rm 9 197) s m ([.ref a, .int v1] : List Value).toArray below meth c H locs 0 0 (MQ below QQ ([.ref a, .int v1] : List Value).toArray s 0 0 (q_reg X)) (F0 m 20 ls [.int x_3]) := by
    clear hF
    intro x_3 H locs ls j20 hF hI hl
    unfold F_X12_readStep_d0_J20_1 at hF
    refine lv_istore_n (lv' := [(3, .int x_3), (0, .ref a), (1, .int v1), (2, .int r_1)]) hx hb dX12_readStep_20 rfl hl (by decide) rfl (fun ls hl => ?_)
    refine lv_iload_n hx hb dX12_readStep_21 rfl (lv_at hl 3 rfl) ?_
    have J_29_4 : ∀  (σ_4 : ST) (H : Heap) (locs : List Loc) (ls : Array Slot), (0 ≤ r_1.toInt + (σ_4.1 a 12).toInt) → (q_ow [(12, 12), (12, 13), (12, 14), (12, 15), (12, 16), (12, 17), (12, 18), (12, 27), (34, 99)] [(12, 19)] X σ σ_4) → (∀ j, 0 ≤ j → j < 4376 + 9 * (σ.1 a 27).toInt → m_c X σ_4 a j = m_c X σ a j) → (0 ≤ (σ_4.1 a 15).toInt ∧ (σ_4.1 a 15).toInt ≤ (σ_4.1 a 16).toInt ∧ (σ_4.1 a 16).toInt ≤ (σ_4.1 a 9).toInt ∧ (σ_4.1 a 9).toInt ≤ 900 ∧ 0 ≤ (σ_4.1 a 14).toInt ∧ (σ_4.1 a 14).toInt ≤ 4 ∧ (σ_4.1 a 14).toInt ≤ 4 * ((σ_4.1 a 16).toInt - (σ_4.1 a 15).toInt) ∧ (σ_4.1 a 14).toInt ≤ 4 * ((σ_4.1 a 9).toInt - (σ_4.1 a 15).toInt) ∧ 0 ≤ (σ_4.1 a 12).toInt ∧ (σ_4.1 a 9).toInt = (σ.1 a 9).toInt ∧ (σ.1 a 15).toInt ≤ (σ_4.1 a 15).toInt ∧ (σ.1 a 12).toInt ≤ (σ_4.1 a 12).toInt) → ((σ_4.1 a 16).toInt = (σ.1 a 16).toInt) → ((σ_4.1 a 27).toInt = (σ.1 a 27).toInt) → (F_X12_readStep_d0_J29_2 X a x_3 r_1 v1 σ_4 = out) → q_I X 1 σ s.heap locs σ_4 H → lv_has ls 5 [(0, .ref a), (1, .int v1), (2, .int r_1), (3, .int x_3)] → W p l e (q_rm 9 197) s m ([.ref a, .int v1] : List Value).toArray below meth c H locs 0 0 (MQ below QQ ([.ref a, .int v1] : List Value).toArray s 0 0 (q_reg X)) (F0 m 29 ls []) := by
      clear hF
      intro σ_4 H locs ls taσ_4 fr_σ_4 klσ_4 smσ_4 beσ_4 nsσ_4 hF hI hl
      try clear klσ; try clear smσ; try clear beσ; try clear nsσ; try clear fr_σ; try clear ahpσ_2
      unfold F_X12_readStep_d0_J29_2 at hF
      refine lv_aload_n hx hb dX12_readStep_29 rfl (lv_at hl 0 rfl) ?_
      refine gs_X12_187_12 E hI ha dX12_readStep_30 ?_
      refine lv_topi (fun f_5 ef_5 => ?_)
      replace hF := q_letX hF ef_5
      have if_5 : f_5.toInt = (σ_4.1 a 12).toInt := congrArg Int32.toInt ef_5
      have J_55_6 : ∀  (σ_6 : ST) (H : Heap) (locs : List Loc) (ls : Array Slot), ((σ.1 a 27).toInt ≤ 29 + (σ_6.1 a 12).toInt) → (q_ow [(12, 12), (12, 13), (12, 14), (12, 15), (12, 16), (12, 17), (12, 18), (12, 27), (34, 99)] [(12, 19)] X σ σ_6) → (∀ j, 0 ≤ j → j < 4376 + 9 * (σ.1 a 27).toInt → m_c X σ_6 a j = m_c X σ a j) → (0 ≤ (σ_6.1 a 15).toInt ∧ (σ_6.1 a 15).toInt ≤ (σ_6.1 a 16).toInt ∧ (σ_6.1 a 16).toInt ≤ (σ_6.1 a 9).toInt ∧ (σ_6.1 a 9).toInt ≤ 900 ∧ 0 ≤ (σ_6.1 a 14).toInt ∧ (σ_6.1 a 14).toInt ≤ 4 ∧ (σ_6.1 a 14).toInt ≤ 4 * ((σ_6.1 a 16).toInt - (σ_6.1 a 15).toInt) ∧ (σ_6.1 a 14).toInt ≤ 4 * ((σ_6.1 a 9).toInt - (σ_6.1 a 15).toInt) ∧ 0 ≤ (σ_6.1 a 12).toInt ∧ (σ_6.1 a 9).toInt = (σ.1 a 9).toInt ∧ (σ.1 a 15).toInt ≤ (σ_6.1 a 15).toInt ∧ (σ.1 a 12).toInt ≤ (σ_6.1 a 12).toInt) → ((σ_6.1 a 16).toInt = (σ.1 a 16).toInt) → ((σ_6.1 a 27).toInt = (σ.1 a 27).toInt) → (0 ≤ r_1.toInt + (σ_6.1 a 12).toInt) → (F_X12_readStep_d0_J55_3 X a x_3 r_1 v1 σ_6 = out) → q_I X 1 σ s.heap locs σ_6 H → lv_has ls 5 [(0, .ref a), (1, .int v1), (2, .int r_1), (3, .int x_3)] → W p l e (q_rm 9 197) s m ([.ref a, .int v1] : List Value).toArray below meth c H locs 0 0 (MQ below QQ ([.ref a, .int v1] : List Value).toArray s 0 0 (q_reg X)) (F0 m 55 ls []) := by
        clear hF
        intro σ_6 H locs ls tbσ_6 fr_σ_6 klσ_6 smσ_6 beσ_6 nsσ_6 taσ_6 hF hI hl
        try clear taσ_4; try clear fr_σ_4; try clear klσ_4; try clear smσ_4; try clear beσ_4; try clear nsσ_4
        unfold F_X12_readStep_d0_J55_3 at hF
        refine lv_aload_n hx hb dX12_readStep_55 rfl (lv_at hl 0 rfl) ?_
        refine gs_X12_187_12 E hI ha dX12_readStep_56 ?_
        refine lv_topi (fun f_7 ef_7 => ?_)
        replace hF := q_letX hF ef_7
        have if_7 : f_7.toInt = (σ_6.1 a 12).toInt := congrArg Int32.toInt ef_7
        have J_81_8 : ∀  (σ_8 : ST) (H : Heap) (locs : List Loc) (ls : Array Slot), (x_3.toInt ≤ (σ_8.1 a 12).toInt) → (q_ow [(12, 12), (12, 13), (12, 14), (12, 15), (12, 16), (12, 17), (12, 18), (12, 27), (34, 99)] [(12, 19)] X σ σ_8) → (∀ j, 0 ≤ j → j < 4376 + 9 * (σ.1 a 27).toInt → m_c X σ_8 a j = m_c X σ a j) → (0 ≤ (σ_8.1 a 15).toInt ∧ (σ_8.1 a 15).toInt ≤ (σ_8.1 a 16).toInt ∧ (σ_8.1 a 16).toInt ≤ (σ_8.1 a 9).toInt ∧ (σ_8.1 a 9).toInt ≤ 900 ∧ 0 ≤ (σ_8.1 a 14).toInt ∧ (σ_8.1 a 14).toInt ≤ 4 ∧ (σ_8.1 a 14).toInt ≤ 4 * ((σ_8.1 a 16).toInt - (σ_8.1 a 15).toInt) ∧ (σ_8.1 a 14).toInt ≤ 4 * ((σ_8.1 a 9).toInt - (σ_8.1 a 15).toInt) ∧ 0 ≤ (σ_8.1 a 12).toInt ∧ (σ_8.1 a 9).toInt = (σ.1 a 9).toInt ∧ (σ.1 a 15).toInt ≤ (σ_8.1 a 15).toInt ∧ (σ.1 a 12).toInt ≤ (σ_8.1 a 12).toInt) → ((σ_8.1 a 16).toInt = (σ.1 a 16).toInt) → ((σ_8.1 a 27).toInt = (σ.1 a 27).toInt) → (0 ≤ r_1.toInt + (σ_8.1 a 12).toInt) → ((σ.1 a 27).toInt ≤ 29 + (σ_8.1 a 12).toInt) → (F_X12_readStep_d0_J81_4 X a r_1 x_3 σ_8 = out) → q_I X 1 σ s.heap locs σ_8 H → lv_has ls 5 [(0, .ref a), (1, .int v1), (2, .int r_1), (3, .int x_3)] → W p l e (q_rm 9 197) s m ([.ref a, .int v1] : List Value).toArray below meth c H locs 0 0 (MQ below QQ ([.ref a, .int v1] : List Value).toArray s 0 0 (q_reg X)) (F0 m 81 ls []) := by
          clear hF
          intro σ_8 H locs ls tcσ_8 fr_σ_8 klσ_8 smσ_8 beσ_8 nsσ_8 taσ_8 tbσ_8 hF hI hl
          try clear tbσ_6; try clear fr_σ_6; try clear klσ_6; try clear smσ_6; try clear beσ_6; try clear nsσ_6; try clear taσ_6
          unfold F_X12_readStep_d0_J81_4 at hF
          refine lv_aload_n hx hb dX12_readStep_81 rfl (lv_at hl 0 rfl) ?_
          refine gs_X12_187_12 E hI ha dX12_readStep_82 ?_
          refine lv_topi (fun f_9 ef_9 => ?_)
          replace hF := q_letX hF ef_9
          have if_9 : f_9.toInt = (σ_8.1 a 12).toInt := congrArg Int32.toInt ef_9
          refine q_if_le (A := f_9.toInt) E rfl (tgt := 89) dX12_readStep_85 (by decide) (fun c_10 => ?_) (fun c_10 => ?_)
          · skip
            replace hF := q_ifn hF (Int.not_lt.mpr c_10)
            have kk0 : 0 ≤ r_1.toInt ∧ (σ.1 a 27).toInt ≤ 29 ∧ (σ_8.1 a 12).toInt = 0 ∧ x_3.toInt ≤ 0 := (by first | (clear hs hz hc2 hd chpσ_2 dhpσ_2 if_5 if_7 beσ_8; omega) | omega)
            refine lv_sipush (v := 4376) hx hb dX12_readStep_89 zks_4376 ?_
            refine lv_bipush (v := 9) hx hb dX12_readStep_92 zkb_9 ?_
            refine lv_aload_n hx hb dX12_readStep_94 rfl (lv_at hl 0 rfl) ?_
            refine gs_X12_267_12 E hI ha dX12_readStep_95 ?_
            refine lv_topi (fun f_11 ef_11 => ?_)
            replace hF := q_letX hF ef_11
            have if_11 : f_11.toInt = (σ_8.1 a 27).toInt := congrArg Int32.toInt ef_11
            refine lv_imul hx hb dX12_readStep_98 ?_
            refine lv_topi (fun z_12 ez_12 => ?_)
            replace hF := q_letX hF ez_12
            have iz_12 := q_mulI (A := 9) (B := f_11.toInt) ez_12 (by decide) rfl (by first | (clear hs hz hc2 hd bhpσ_2 chpσ_2 dhpσ_2 j20 if_5 if_7 tcσ_8 smσ_8 beσ_8 taσ_8 tbσ_8 if_9 c_10; omega) | omega) (by first | (clear hs hz hc2 hd bhpσ_2 chpσ_2 dhpσ_2 j20 if_5 if_7 tcσ_8 smσ_8 beσ_8 taσ_8 tbσ_8 if_9 c_10; omega) | omega)
            refine lv_iadd hx hb dX12_readStep_99 ?_
            refine lv_topi (fun z_13 ez_13 => ?_)
            replace hF := q_letX hF ez_13
            have iz_13 := q_addI (A := 4376) (B := (9 * f_11.toInt)) ez_13 (by decide) iz_12 (by first | (clear hs hz hc2 hd bhpσ_2 chpσ_2 dhpσ_2 j20 if_5 if_7 tcσ_8 smσ_8 beσ_8 taσ_8 tbσ_8 if_9 c_10 iz_12; omega) | omega) (by first | (clear hs hz hc2 hd bhpσ_2 chpσ_2 dhpσ_2 j20 if_5 if_7 tcσ_8 smσ_8 beσ_8 taσ_8 tbσ_8 if_9 c_10 iz_12; omega) | omega)
            refine lv_istore (lv' := [(4, .int z_13), (0, .ref a), (1, .int v1), (2, .int r_1), (3, .int x_3)]) hx hb dX12_readStep_100 hl (by decide) rfl (fun ls hl => ?_)
            refine lv_aload_n hx hb dX12_readStep_102 rfl (lv_at hl 1 rfl) ?_
            refine lv_dup hx hb dX12_readStep_103 rfl ?_
            refine gs_X12_267_12 E hI ha dX12_readStep_104 ?_
            refine lv_topi (fun f_14 ef_14 => ?_)
            replace hF := q_letX hF ef_14
            have if_14 : f_14.toInt = (σ_8.1 a 27).toInt := congrArg Int32.toInt ef_14
            refine lv_iconst (v := 1) hx hb dX12_readStep_107 zki_1 ?_
            refine lv_iadd hx hb dX12_readStep_108 ?_
            refine lv_topi (fun z_15 ez_15 => ?_)
            replace hF := q_letX hF ez_15
            have iz_15 := q_addI (A := f_14.toInt) (B := 1) ez_15 rfl (by decide) (by first | (clear hs hz hc2 hd bhpσ_2 chpσ_2 dhpσ_2 j20 if_5 if_7 tcσ_8 smσ_8 beσ_8 taσ_8 tbσ_8 if_9 c_10 iz_12 iz_13; omega) | omega) (by first | (clear hs hz hc2 hd bhpσ_2 chpσ_2 dhpσ_2 j20 if_5 if_7 tcσ_8 smσ_8 beσ_8 taσ_8 tbσ_8 if_9 c_10 iz_12 iz_13; omega) | omega)
            refine ps_X12_267_12 E hI ha (by decide) dX12_readStep_109 (fun H locs σ_16 hσ_16 hI => ?_)
            replace hF := q_letX hF hσ_16
            have fr_σ_16 := fr_σ_8.si hσ_16 ha rfl
            have mv9_σ_16 : (σ_16.1 a 9).toInt = (σ_8.1 a 9).toInt := congrArg Int32.toInt (q_rdn hσ_16 (Or.inr (by decide)))
            have mv12_σ_16 : (σ_16.1 a 12).toInt = (σ_8.1 a 12).toInt := congrArg Int32.toInt (q_rdn hσ_16 (Or.inr (by decide)))
            have mv14_σ_16 : (σ_16.1 a 14).toInt = (σ_8.1 a 14).toInt := congrArg Int32.toInt (q_rdn hσ_16 (Or.inr (by decide)))
            have mv15_σ_16 : (σ_16.1 a 15).toInt = (σ_8.1 a 15).toInt := congrArg Int32.toInt (q_rdn hσ_16 (Or.inr (by decide)))
            have mv16_σ_16 : (σ_16.1 a 16).toInt = (σ_8.1 a 16).toInt := congrArg Int32.toInt (q_rdn hσ_16 (Or.inr (by decide)))
            have mv27_σ_16 : (σ_16.1 a 27).toInt = z_15.toInt := congrArg Int32.toInt (q_rd hσ_16)
            have mcσ_16 := m_wo hσ_16 (m_ne ha (q_tk (f := 20) (k' := 34) hI ha rfl (by decide)) (by decide))
            have klσ_16 : ∀ j, 0 ≤ j → j < 4376 + 9 * (σ.1 a 27).toInt → m_c X σ_16 a j = m_c X σ a j := fun j h0 h1 => (mcσ_16 j).trans (klσ_8 j h0 h1)
            have smσ_16 : 0 ≤ (σ_16.1 a 15).toInt ∧ (σ_16.1 a 15).toInt ≤ (σ_16.1 a 16).toInt ∧ (σ_16.1 a 16).toInt ≤ (σ_16.1 a 9).toInt ∧ (σ_16.1 a 9).toInt ≤ 900 ∧ 0 ≤ (σ_16.1 a 14).toInt ∧ (σ_16.1 a 14).toInt ≤ 4 ∧ (σ_16.1 a 14).toInt ≤ 4 * ((σ_16.1 a 16).toInt - (σ_16.1 a 15).toInt) ∧ (σ_16.1 a 14).toInt ≤ 4 * ((σ_16.1 a 9).toInt - (σ_16.1 a 15).toInt) ∧ 0 ≤ (σ_16.1 a 12).toInt ∧ (σ_16.1 a 9).toInt = (σ.1 a 9).toInt ∧ (σ.1 a 15).toInt ≤ (σ_16.1 a 15).toInt ∧ (σ.1 a 12).toInt ≤ (σ_16.1 a 12).toInt := (by first | (rw [mv12_σ_16, mv14_σ_16, mv15_σ_16, mv16_σ_16, mv9_σ_16]; exact smσ_8) | omega)
            have beσ_16 : (σ_16.1 a 16).toInt = (σ.1 a 16).toInt := (by first | (clear hs hz hc2 hn hd bhpσ_2 chpσ_2 dhpσ_2 j20 if_5 if_7 tcσ_8 smσ_8 nsσ_8 taσ_8 tbσ_8 if_9 c_10 kk0 if_11 iz_12 iz_13 if_14 iz_15 mv9_σ_16 mv12_σ_16 mv14_σ_16 mv15_σ_16 mv27_σ_16 smσ_16; omega) | omega)
            have nbσ_16 : (σ_16.1 a 27).toInt = (σ.1 a 27).toInt + 1 := (by first | (clear hs hz hc2 hn hd bhpσ_2 chpσ_2 dhpσ_2 j20 if_5 if_7 tcσ_8 smσ_8 beσ_8 taσ_8 tbσ_8 if_9 c_10 kk0 iz_12 iz_13 mv9_σ_16 mv12_σ_16 mv14_σ_16 mv15_σ_16 mv16_σ_16 smσ_16 beσ_16; omega) | omega)
            clear mv9_σ_16 mv12_σ_16 mv14_σ_16 mv15_σ_16 mv16_σ_16 mv27_σ_16 smσ_8 beσ_8
            refine lv_aload_n hx hb dX12_readStep_112 rfl (lv_at hl 1 rfl) ?_
            refine q_cv (q_rV11_0 (rest := []) E (hml.trans hl.1.symm) hI (c_X12_next l X σ_16 a ha (by first | (clear hz hc2 hn hd bhpσ_2 chpσ_2 dhpσ_2 j20 if_5 if_7 tcσ_8 nsσ_8 taσ_8 tbσ_8 if_9 c_10 kk0 if_11 iz_12 iz_13 if_14 iz_15 smσ_16 nbσ_16; omega) | omega) (by first | (clear hz hc2 hn hd bhpσ_2 chpσ_2 dhpσ_2 j20 if_5 if_7 tcσ_8 nsσ_8 taσ_8 tbσ_8 if_9 c_10 kk0 if_11 iz_12 iz_13 if_14 iz_15 nbσ_16; omega) | omega) (by first | (clear hz hc2 hn hd bhpσ_2 chpσ_2 dhpσ_2 j20 if_5 if_7 tcσ_8 nsσ_8 taσ_8 tbσ_8 if_9 c_10 kk0 if_11 iz_12 iz_13 if_14 iz_15 beσ_16 nbσ_16; omega) | omega)) kv_X12_197 ha ⟨Nat.le_of_ble_eq_true rfl, Nat.le_of_ble_eq_true rfl⟩ (Nat.le_of_ble_eq_true rfl) dX12_readStep_113) hI (Nat.le_of_ble_eq_true rfl) (fun σ_18 H locs hpσ_18 hkσ_18 hI => ?_)
            have ahpσ_18 := hpσ_18.1
            have bhpσ_18 := hpσ_18.2.1
            have chpσ_18 := hpσ_18.2.2.1
            have dhpσ_18 := hpσ_18.2.2.2.1
            have ehpσ_18 := hpσ_18.2.2.2.2
            clear hpσ_18
            have fr_σ_18 := fr_σ_16.call ehpσ_18 rfl rfl
            replace hF := q_letX hF dhpσ_18
            have mv27_σ_18 : (σ_18.1 a 27).toInt = (σ_16.1 a 27).toInt := congrArg Int32.toInt (ahpσ_18 a 27 (q_cl9 _ _) (fun h => absurd h.2.2 (by decide)))
            have mcσ_18 := m_cK hkσ_18 hI.1 ha (by decide)
            have klσ_18 : ∀ j, 0 ≤ j → j < 4376 + 9 * (σ.1 a 27).toInt → m_c X σ_18 a j = m_c X σ a j := fun j h0 h1 => (mcσ_18 j).trans (klσ_16 j h0 h1)
            have smσ_18 : 0 ≤ (σ_18.1 a 15).toInt ∧ (σ_18.1 a 15).toInt ≤ (σ_18.1 a 16).toInt ∧ (σ_18.1 a 16).toInt ≤ (σ_18.1 a 9).toInt ∧ (σ_18.1 a 9).toInt ≤ 900 ∧ 0 ≤ (σ_18.1 a 14).toInt ∧ (σ_18.1 a 14).toInt ≤ 4 ∧ (σ_18.1 a 14).toInt ≤ 4 * ((σ_18.1 a 16).toInt - (σ_18.1 a 15).toInt) ∧ (σ_18.1 a 14).toInt ≤ 4 * ((σ_18.1 a 9).toInt - (σ_18.1 a 15).toInt) ∧ 0 ≤ (σ_18.1 a 12).toInt ∧ (σ_18.1 a 9).toInt = (σ.1 a 9).toInt ∧ (σ.1 a 15).toInt ≤ (σ_18.1 a 15).toInt ∧ (σ.1 a 12).toInt ≤ (σ_18.1 a 12).toInt := (by first | exact sm_nx smσ_16 bhpσ_18 chpσ_18 | omega)
            have nbσ_18 : (σ_18.1 a 27).toInt = (σ.1 a 27).toInt + 1 := (by first | (clear hs hz hc2 hn hd bhpσ_2 chpσ_2 dhpσ_2 j20 if_5 if_7 tcσ_8 taσ_8 tbσ_8 if_9 c_10 kk0 iz_12 iz_13 smσ_16 beσ_16 ahpσ_18 bhpσ_18 chpσ_18 dhpσ_18 ehpσ_18 smσ_18; omega) | omega)
            have oxσ_18 : (σ.1 a 15).toInt + 1 ≤ (σ_18.1 a 15).toInt := (by first | (clear hz hc2 hn hd bhpσ_2 dhpσ_2 j20 if_5 if_7 tcσ_8 nsσ_8 tbσ_8 c_10 if_11 iz_12 iz_13 if_14 iz_15 smσ_16 nbσ_16 ahpσ_18 bhpσ_18 dhpσ_18 ehpσ_18 mv27_σ_18 nbσ_18; omega) | omega)
            clear mv27_σ_18 smσ_16 nbσ_16 bhpσ_18 chpσ_18
            refine lv_aload_n hx hb dX12_readStep_116 rfl (lv_at hl 1 rfl) ?_
            refine gs_X12_35_12 E hI ha dX12_readStep_117 ?_
            refine lv_iload hx hb dX12_readStep_120 (lv_at hl 0 rfl) ?_
            refine lv_iload_n hx hb dX12_readStep_122 rfl (lv_at hl 3 rfl) ?_
            refine q_iastN E hI (q_tk (k' := 34) hI ha rfl (Nat.succ_ne_zero _)) ⟨by decide, rfl⟩ (by first | (clear hs hz hc2 hd bhpσ_2 chpσ_2 dhpσ_2 j20 if_5 if_7 tcσ_8 taσ_8 tbσ_8 if_9 c_10 iz_12 beσ_16 ahpσ_18 dhpσ_18 ehpσ_18 smσ_18 oxσ_18; omega) | omega) (by rw [q_lnk (v := 4650) hI (q_tk (k' := 34) hI ha rfl (Nat.succ_ne_zero _)) rfl (by decide)]; omega) (show 1 < 2 by decide) (q_inU rfl) dX12_readStep_123 (fun H locs σ_19 hσ_19 hI => ?_)
            replace hF := q_letX hF hσ_19
            have fr_σ_19 := fr_σ_18.si hσ_19 (q_tk (k' := 34) hI ha rfl (Nat.succ_ne_zero _)) rfl
            have mv9_σ_19 : (σ_19.1 a 9).toInt = (σ_18.1 a 9).toInt := congrArg Int32.toInt (q_rdn hσ_19 (Or.inl (m_ne ha (q_tk (k' := 34) hI ha rfl (Nat.succ_ne_zero _)) (by decide))))
            have mv12_σ_19 : (σ_19.1 a 12).toInt = (σ_18.1 a 12).toInt := congrArg Int32.toInt (q_rdn hσ_19 (Or.inl (m_ne ha (q_tk (k' := 34) hI ha rfl (Nat.succ_ne_zero _)) (by decide))))
            have mv14_σ_19 : (σ_19.1 a 14).toInt = (σ_18.1 a 14).toInt := congrArg Int32.toInt (q_rdn hσ_19 (Or.inl (m_ne ha (q_tk (k' := 34) hI ha rfl (Nat.succ_ne_zero _)) (by decide))))
            have mv15_σ_19 : (σ_19.1 a 15).toInt = (σ_18.1 a 15).toInt := congrArg Int32.toInt (q_rdn hσ_19 (Or.inl (m_ne ha (q_tk (k' := 34) hI ha rfl (Nat.succ_ne_zero _)) (by decide))))
            have mv16_σ_19 : (σ_19.1 a 16).toInt = (σ_18.1 a 16).toInt := congrArg Int32.toInt (q_rdn hσ_19 (Or.inl (m_ne ha (q_tk (k' := 34) hI ha rfl (Nat.succ_ne_zero _)) (by decide))))
            have mv27_σ_19 : (σ_19.1 a 27).toInt = (σ_18.1 a 27).toInt := congrArg Int32.toInt (q_rdn hσ_19 (Or.inl (m_ne ha (q_tk (k' := 34) hI ha rfl (Nat.succ_ne_zero _)) (by decide))))
            have mcσ_19 := m_wr (v := r_1) (A := (4376 + (9 * f_11.toInt))) hσ_19 iz_13 (by first | (clear hs hz hc2 hd bhpσ_2 chpσ_2 dhpσ_2 j20 if_5 if_7 tcσ_8 taσ_8 tbσ_8 if_9 c_10 iz_12 iz_13 beσ_16 ahpσ_18 dhpσ_18 ehpσ_18 smσ_18 oxσ_18 mv9_σ_19 mv12_σ_19 mv14_σ_19 mv15_σ_19 mv16_σ_19; omega) | omega)
            have klσ_19 : ∀ j, 0 ≤ j → j < 4376 + 9 * (σ.1 a 27).toInt → m_c X σ_19 a j = m_c X σ a j := fun j h0 h1 => by rw [mcσ_19 j h0, if_neg (by first | (clear hs hz hc2 hn hd bhpσ_2 chpσ_2 dhpσ_2 j20 if_5 if_7 tcσ_8 taσ_8 tbσ_8 if_9 c_10 kk0 iz_12 iz_13 beσ_16 ahpσ_18 dhpσ_18 ehpσ_18 smσ_18 oxσ_18 mv9_σ_19 mv12_σ_19 mv14_σ_19 mv15_σ_19 mv16_σ_19; omega) | omega)]; exact klσ_18 j h0 h1
            have smσ_19 : 0 ≤ (σ_19.1 a 15).toInt ∧ (σ_19.1 a 15).toInt ≤ (σ_19.1 a 16).toInt ∧ (σ_19.1 a 16).toInt ≤ (σ_19.1 a 9).toInt ∧ (σ_19.1 a 9).toInt ≤ 900 ∧ 0 ≤ (σ_19.1 a 14).toInt ∧ (σ_19.1 a 14).toInt ≤ 4 ∧ (σ_19.1 a 14).toInt ≤ 4 * ((σ_19.1 a 16).toInt - (σ_19.1 a 15).toInt) ∧ (σ_19.1 a 14).toInt ≤ 4 * ((σ_19.1 a 9).toInt - (σ_19.1 a 15).toInt) ∧ 0 ≤ (σ_19.1 a 12).toInt ∧ (σ_19.1 a 9).toInt = (σ.1 a 9).toInt ∧ (σ.1 a 15).toInt ≤ (σ_19.1 a 15).toInt ∧ (σ.1 a 12).toInt ≤ (σ_19.1 a 12).toInt := (by first | (rw [mv12_σ_19, mv14_σ_19, mv15_σ_19, mv16_σ_19, mv9_σ_19]; exact smσ_18) | omega)
            have nbσ_19 : (σ_19.1 a 27).toInt = (σ.1 a 27).toInt + 1 := (by first | (clear hs hz hc2 hn hd bhpσ_2 chpσ_2 dhpσ_2 j20 if_5 if_7 tcσ_8 taσ_8 tbσ_8 if_9 c_10 kk0 iz_12 iz_13 beσ_16 ahpσ_18 dhpσ_18 ehpσ_18 smσ_18 oxσ_18 mv9_σ_19 mv12_σ_19 mv14_σ_19 mv15_σ_19 mv16_σ_19 smσ_19; omega) | omega)
            have oxσ_19 : (σ.1 a 15).toInt + 1 ≤ (σ_19.1 a 15).toInt := (by first | (clear hs hz hc2 hn hd bhpσ_2 chpσ_2 dhpσ_2 j20 if_5 if_7 tcσ_8 nsσ_8 taσ_8 tbσ_8 if_9 c_10 kk0 if_11 iz_12 iz_13 if_14 iz_15 beσ_16 ahpσ_18 dhpσ_18 ehpσ_18 smσ_18 nbσ_18 mv9_σ_19 mv12_σ_19 mv14_σ_19 mv16_σ_19 mv27_σ_19 smσ_19 nbσ_19; omega) | omega)
            have cwσ_19 : m_c X σ_19 a z_13.toInt = r_1.toInt := (by rw [mcσ_19 z_13.toInt (by first | (clear hs hz hc2 hd bhpσ_2 chpσ_2 dhpσ_2 j20 if_5 if_7 tcσ_8 taσ_8 tbσ_8 if_9 c_10 iz_12 beσ_16 ahpσ_18 dhpσ_18 ehpσ_18 smσ_18 oxσ_18 mv9_σ_19 mv12_σ_19 mv14_σ_19 mv15_σ_19 mv16_σ_19 smσ_19 nbσ_19 oxσ_19; omega) | omega), if_pos (by omega)])
            clear mv9_σ_19 mv12_σ_19 mv14_σ_19 mv15_σ_19 mv16_σ_19 mv27_σ_19 smσ_18 nbσ_18 oxσ_18
            refine lv_aload_n hx hb dX12_readStep_124 rfl (lv_at hl 1 rfl) ?_
            refine lv_iload hx hb dX12_readStep_125 (lv_at hl 0 rfl) ?_
            refine q_cv (q_rV11_1 (rest := []) E (hml.trans hl.1.symm) hI (c_X12_readRest l X σ_19 a z_13 ha (by first | exact sm_9 smσ_19 | exact hs | omega) (by first | (clear hs hz hc2 hd bhpσ_2 chpσ_2 dhpσ_2 j20 if_5 if_7 tcσ_8 taσ_8 tbσ_8 if_9 c_10 iz_12 beσ_16 ahpσ_18 dhpσ_18 ehpσ_18 smσ_19 oxσ_19 cwσ_19; omega) | omega) (by rw [klσ_19 2 (by decide) (by first | (clear hs hz hc2 hd bhpσ_2 chpσ_2 dhpσ_2 j20 if_5 if_7 tcσ_8 taσ_8 tbσ_8 if_9 c_10 iz_12 iz_13 beσ_16 ahpσ_18 dhpσ_18 ehpσ_18 smσ_19 oxσ_19 cwσ_19; omega) | omega)]; exact hc2)) kv_X12_270 ha ⟨Nat.le_of_ble_eq_true rfl, Nat.le_of_ble_eq_true rfl⟩ (Nat.le_of_ble_eq_true rfl) dX12_readStep_127) hI (Nat.le_of_ble_eq_true rfl) (fun σ_21 H locs hpσ_21 hkσ_21 hI => ?_)
            have ahpσ_21 := hpσ_21.1
            have bhpσ_21 := hpσ_21.2.1
            have chpσ_21 := hpσ_21.2.2.1
            have dhpσ_21 := hpσ_21.2.2.2.1
            have ehpσ_21 := hpσ_21.2.2.2.2.1
            have fhpσ_21 := hpσ_21.2.2.2.2.2
            clear hpσ_21
            have fr_σ_21 := fr_σ_19.call fhpσ_21 rfl rfl
            replace hF := q_letX hF ehpσ_21
            have klσ_21 : ∀ j, 0 ≤ j → j < 4376 + 9 * (σ.1 a 27).toInt → m_c X σ_21 a j = m_c X σ a j := (fun j h0 h1 => (ahpσ_21 j h0 (Or.inl (by first | (clear hs hz hc2 hn hd bhpσ_2 chpσ_2 dhpσ_2 j20 if_5 if_7 tcσ_8 taσ_8 tbσ_8 if_9 c_10 kk0 iz_12 beσ_16 ahpσ_18 dhpσ_18 ehpσ_18 smσ_19 oxσ_19 cwσ_19 ahpσ_21 bhpσ_21 dhpσ_21 ehpσ_21 fhpσ_21; omega) | omega))).trans (klσ_19 j h0 h1))
            have smσ_21 : 0 ≤ (σ_21.1 a 15).toInt ∧ (σ_21.1 a 15).toInt ≤ (σ_21.1 a 16).toInt ∧ (σ_21.1 a 16).toInt ≤ (σ_21.1 a 9).toInt ∧ (σ_21.1 a 9).toInt ≤ 900 ∧ 0 ≤ (σ_21.1 a 14).toInt ∧ (σ_21.1 a 14).toInt ≤ 4 ∧ (σ_21.1 a 14).toInt ≤ 4 * ((σ_21.1 a 16).toInt - (σ_21.1 a 15).toInt) ∧ (σ_21.1 a 14).toInt ≤ 4 * ((σ_21.1 a 9).toInt - (σ_21.1 a 15).toInt) ∧ 0 ≤ (σ_21.1 a 12).toInt ∧ (σ_21.1 a 9).toInt = (σ.1 a 9).toInt ∧ (σ.1 a 15).toInt ≤ (σ_21.1 a 15).toInt ∧ (σ.1 a 12).toInt ≤ (σ_21.1 a 12).toInt := (by first | exact sm_tr smσ_19 bhpσ_21 | exact sm_tr smσ_19 chpσ_21 | omega)
            have nbσ_21 : (σ_21.1 a 27).toInt = (σ.1 a 27).toInt + 1 := (by first | (clear hs hz hc2 hn hd bhpσ_2 chpσ_2 dhpσ_2 j20 if_5 if_7 tcσ_8 taσ_8 tbσ_8 if_9 c_10 kk0 iz_12 iz_13 beσ_16 ahpσ_18 dhpσ_18 ehpσ_18 smσ_19 oxσ_19 cwσ_19 ahpσ_21 bhpσ_21 dhpσ_21 ehpσ_21 fhpσ_21 smσ_21; omega) | omega)
            have oxσ_21 : (σ.1 a 15).toInt + 1 ≤ (σ_21.1 a 15).toInt := (by first | (clear hs hz hc2 hn hd bhpσ_2 chpσ_2 dhpσ_2 j20 if_5 if_7 tcσ_8 nsσ_8 taσ_8 tbσ_8 if_9 c_10 kk0 if_11 iz_12 iz_13 if_14 iz_15 beσ_16 ahpσ_18 dhpσ_18 ehpσ_18 smσ_19 nbσ_19 cwσ_19 ahpσ_21 chpσ_21 dhpσ_21 ehpσ_21 fhpσ_21 nbσ_21; omega) | omega)
            have cwσ_21 : m_c X σ_21 a z_13.toInt = r_1.toInt := ((ahpσ_21 z_13.toInt (by first | (clear hs hz hc2 hd bhpσ_2 chpσ_2 dhpσ_2 j20 if_5 if_7 tcσ_8 taσ_8 tbσ_8 if_9 c_10 iz_12 beσ_16 ahpσ_18 dhpσ_18 ehpσ_18 smσ_19 oxσ_19 cwσ_19 ahpσ_21 bhpσ_21 dhpσ_21 ehpσ_21 fhpσ_21 smσ_21 nbσ_21 oxσ_21; omega) | omega) (Or.inl (by first | (clear hs hz hc2 hn hd bhpσ_2 chpσ_2 dhpσ_2 j20 if_5 if_7 tcσ_8 nsσ_8 taσ_8 tbσ_8 if_9 c_10 kk0 if_11 iz_12 iz_13 if_14 iz_15 beσ_16 ahpσ_18 dhpσ_18 ehpσ_18 smσ_19 nbσ_19 oxσ_19 cwσ_19 ahpσ_21 bhpσ_21 chpσ_21 dhpσ_21 ehpσ_21 fhpσ_21 smσ_21 nbσ_21 oxσ_21; omega) | omega))).trans cwσ_19)
            have rrσ_21 : m_oz (σ_21.1 a 12).toInt (m_rst (m_c X σ_21 a) z_13.toInt) := dhpσ_21
            clear smσ_19 nbσ_19 oxσ_19 bhpσ_21 chpσ_21
            refine lv_aload_n hx hb dX12_readStep_130 rfl (lv_at hl 1 rfl) ?_
            refine lv_aload_n hx hb dX12_readStep_131 rfl (lv_at hl 1 rfl) ?_
            refine lv_bipush (v := 59) hx hb dX12_readStep_132 zkb_59 ?_
            have kc_22 : (59 : Int32).toInt = 59 := zt_59
            refine q_ci (q_rV11_1 (rest := [.ref a]) E (hml.trans hl.1.symm) hI (c_X12_isSign l X σ_21 a (59 : Int32) ha) kv_X12_243 ha ⟨Nat.le_of_ble_eq_true rfl, Nat.le_of_ble_eq_true rfl⟩ (Nat.le_of_ble_eq_true rfl) dX12_readStep_134) hI (Nat.le_of_ble_eq_true rfl) (fun r_23 σ_24 H locs hpσ_24 hkσ_24 hI => ?_)
            have ahpσ_24 := hpσ_24.1
            have bhpσ_24 := hpσ_24.2.1
            have chpσ_24 := hpσ_24.2.2
            clear hpσ_24
            replace hI := q_Irw ahpσ_24 hI
            replace hF := q_letX hF chpσ_24
            refine q_cv (q_rV11_1 (rest := []) E (hml.trans hl.1.symm) hI (c_X12_must l X σ_21 a r_23 ha (by first | exact sm_9 smσ_21 | exact hs | omega) (by first | (clear hs hz hc2 hn hd bhpσ_2 chpσ_2 dhpσ_2 j20 if_5 if_7 tcσ_8 nsσ_8 taσ_8 tbσ_8 if_9 c_10 kk0 if_11 iz_12 iz_13 if_14 iz_15 beσ_16 ahpσ_18 dhpσ_18 ehpσ_18 cwσ_19 ahpσ_21 dhpσ_21 ehpσ_21 fhpσ_21 smσ_21 nbσ_21 oxσ_21 cwσ_21 kc_22 ahpσ_24 chpσ_24; omega) | omega)) kv_X12_216 ha ⟨Nat.le_of_ble_eq_true rfl, Nat.le_of_ble_eq_true rfl⟩ (Nat.le_of_ble_eq_true rfl) dX12_readStep_137) hI (Nat.le_of_ble_eq_true rfl) (fun σ_26 H locs hpσ_26 hkσ_26 hI => ?_)
            have ahpσ_26 := hpσ_26.1
            have bhpσ_26 := hpσ_26.2.1
            have chpσ_26 := hpσ_26.2.2.1
            have dhpσ_26 := hpσ_26.2.2.2.1
            have ehpσ_26 := hpσ_26.2.2.2.2
            clear hpσ_26
            have fr_σ_26 := fr_σ_21.call ehpσ_26 rfl rfl
            replace hF := q_letX hF dhpσ_26
            have mv27_σ_26 : (σ_26.1 a 27).toInt = (σ_21.1 a 27).toInt := congrArg Int32.toInt (ahpσ_26 a 27 (q_cl9 _ _) (fun h => absurd h.2.2 (by decide)))
            have mcσ_26 := m_cK hkσ_26 hI.1 ha (by decide)
            have klσ_26 : ∀ j, 0 ≤ j → j < 4376 + 9 * (σ.1 a 27).toInt → m_c X σ_26 a j = m_c X σ a j := fun j h0 h1 => (mcσ_26 j).trans (klσ_21 j h0 h1)
            have smσ_26 : 0 ≤ (σ_26.1 a 15).toInt ∧ (σ_26.1 a 15).toInt ≤ (σ_26.1 a 16).toInt ∧ (σ_26.1 a 16).toInt ≤ (σ_26.1 a 9).toInt ∧ (σ_26.1 a 9).toInt ≤ 900 ∧ 0 ≤ (σ_26.1 a 14).toInt ∧ (σ_26.1 a 14).toInt ≤ 4 ∧ (σ_26.1 a 14).toInt ≤ 4 * ((σ_26.1 a 16).toInt - (σ_26.1 a 15).toInt) ∧ (σ_26.1 a 14).toInt ≤ 4 * ((σ_26.1 a 9).toInt - (σ_26.1 a 15).toInt) ∧ 0 ≤ (σ_26.1 a 12).toInt ∧ (σ_26.1 a 9).toInt = (σ.1 a 9).toInt ∧ (σ.1 a 15).toInt ≤ (σ_26.1 a 15).toInt ∧ (σ.1 a 12).toInt ≤ (σ_26.1 a 12).toInt := (by first | exact sm_tr smσ_21 bhpσ_26 | exact sm_tr smσ_21 chpσ_26 | omega)
            have nbσ_26 : (σ_26.1 a 27).toInt = (σ.1 a 27).toInt + 1 := (by first | (clear hs hz hc2 hn hd bhpσ_2 chpσ_2 dhpσ_2 j20 if_5 if_7 tcσ_8 taσ_8 tbσ_8 if_9 c_10 kk0 iz_12 iz_13 beσ_16 ahpσ_18 dhpσ_18 ehpσ_18 cwσ_19 ahpσ_21 dhpσ_21 ehpσ_21 fhpσ_21 smσ_21 oxσ_21 cwσ_21 kc_22 ahpσ_24 bhpσ_24 chpσ_24 ahpσ_26 bhpσ_26 chpσ_26 dhpσ_26 ehpσ_26 smσ_26; omega) | omega)
            have oxσ_26 : (σ.1 a 15).toInt + 1 ≤ (σ_26.1 a 15).toInt := (by first | (clear hs hz hc2 hn hd bhpσ_2 chpσ_2 dhpσ_2 j20 if_5 if_7 tcσ_8 nsσ_8 taσ_8 tbσ_8 if_9 c_10 kk0 if_11 iz_12 iz_13 if_14 iz_15 beσ_16 ahpσ_18 dhpσ_18 ehpσ_18 cwσ_19 ahpσ_21 dhpσ_21 ehpσ_21 fhpσ_21 smσ_21 nbσ_21 cwσ_21 kc_22 ahpσ_24 bhpσ_24 chpσ_24 ahpσ_26 chpσ_26 dhpσ_26 ehpσ_26 mv27_σ_26 nbσ_26; omega) | omega)
            have cwσ_26 : m_c X σ_26 a z_13.toInt = r_1.toInt := (mcσ_26 _).trans cwσ_21
            have rrσ_26 : m_oz (σ_26.1 a 12).toInt (m_rst (m_c X σ_26 a) z_13.toInt) := (m_oz.mono rrσ_21 (by first | (clear hs hz hc2 hn hd bhpσ_2 chpσ_2 dhpσ_2 j20 if_5 if_7 tcσ_8 nsσ_8 taσ_8 tbσ_8 if_9 c_10 kk0 if_11 iz_12 iz_13 if_14 iz_15 beσ_16 ahpσ_18 dhpσ_18 ehpσ_18 cwσ_19 ahpσ_21 dhpσ_21 ehpσ_21 fhpσ_21 nbσ_21 oxσ_21 cwσ_21 kc_22 ahpσ_24 bhpσ_24 chpσ_24 ahpσ_26 bhpσ_26 chpσ_26 dhpσ_26 ehpσ_26 mv27_σ_26 smσ_26 nbσ_26 oxσ_26 cwσ_26; omega) | omega) (by first | (clear hs hz hc2 hn hd bhpσ_2 chpσ_2 dhpσ_2 j20 if_5 if_7 tcσ_8 nsσ_8 taσ_8 tbσ_8 if_9 c_10 kk0 if_11 iz_12 iz_13 if_14 iz_15 beσ_16 ahpσ_18 dhpσ_18 ehpσ_18 cwσ_19 ahpσ_21 dhpσ_21 ehpσ_21 fhpσ_21 smσ_21 nbσ_21 oxσ_21 cwσ_21 kc_22 ahpσ_24 bhpσ_24 chpσ_24 ahpσ_26 chpσ_26 dhpσ_26 ehpσ_26 mv27_σ_26 smσ_26 nbσ_26 oxσ_26 cwσ_26; omega) | omega) (fun h => m_rst.ext h (fun j => mcσ_26 j)))
            clear mv27_σ_26 smσ_21 nbσ_21 oxσ_21 bhpσ_26
            have L_140_28 : ∀ (k_28 : Nat)  (σ_27 : ST) (H : Heap) (locs : List Loc) (ls : Array Slot), (901 - (σ_27.1 a 15).toInt).toNat + (1 - (σ_27.1 a 12).toInt).toNat < k_28 → ((σ.1 a 27).toInt + 1 ≤ (σ_27.1 a 27).toInt ∧ (σ_27.1 a 27).toInt ≤ 30) → (m_oz (σ_27.1 a 12).toInt (m_lp (m_c X σ_27 a) z_13.toInt (σ.1 a 27).toInt (σ_27.1 a 27).toInt)) → (q_ow [(12, 12), (12, 13), (12, 14), (12, 15), (12, 16), (12, 17), (12, 18), (12, 27), (34, 99)] [(12, 19)] X σ σ_27) → (∀ j, 0 ≤ j → j < 4376 + 9 * (σ.1 a 27).toInt → m_c X σ_27 a j = m_c X σ a j) → (0 ≤ (σ_27.1 a 15).toInt ∧ (σ_27.1 a 15).toInt ≤ (σ_27.1 a 16).toInt ∧ (σ_27.1 a 16).toInt ≤ (σ_27.1 a 9).toInt ∧ (σ_27.1 a 9).toInt ≤ 900 ∧ 0 ≤ (σ_27.1 a 14).toInt ∧ (σ_27.1 a 14).toInt ≤ 4 ∧ (σ_27.1 a 14).toInt ≤ 4 * ((σ_27.1 a 16).toInt - (σ_27.1 a 15).toInt) ∧ (σ_27.1 a 14).toInt ≤ 4 * ((σ_27.1 a 9).toInt - (σ_27.1 a 15).toInt) ∧ 0 ≤ (σ_27.1 a 12).toInt ∧ (σ_27.1 a 9).toInt = (σ.1 a 9).toInt ∧ (σ.1 a 15).toInt ≤ (σ_27.1 a 15).toInt ∧ (σ.1 a 12).toInt ≤ (σ_27.1 a 12).toInt) → ((σ.1 a 15).toInt + 1 ≤ (σ_27.1 a 15).toInt) → (F_X12_readStep_d0_L140_5 X x_3 z_13 a k_28 σ_27 = out) → q_I X 1 σ s.heap locs σ_27 H → lv_has ls 5 [(0, .ref a), (1, .int v1), (2, .int r_1), (3, .int x_3), (4, .int z_13)] → W p l e (q_rm 9 197) s m ([.ref a, .int v1] : List Value).toArray below meth c H locs 0 0 (MQ below QQ ([.ref a, .int v1] : List Value).toArray s 0 0 (q_reg X)) (F0 m 140 ls []) := by
              clear hF
              intro k_28
              induction k_28 with
              | zero =>
                intro σ_27 H locs ls hms
                try clear fr_σ_16; try clear mcσ_16; try clear klσ_16; try clear beσ_16; try clear ahpσ_18; try clear fr_σ_18; try clear mcσ_18; try clear klσ_18; try clear fr_σ_19; try clear mcσ_19; try clear klσ_19; try clear cwσ_19; try clear ahpσ_21; try clear fr_σ_21; try clear klσ_21; try clear cwσ_21; try clear rrσ_21; try clear ahpσ_24; try clear ahpσ_26; try clear fr_σ_26; try clear mcσ_26; try clear klσ_26; try clear smσ_26; try clear nbσ_26; try clear oxσ_26; try clear cwσ_26; try clear rrσ_26
                exact absurd hms (Nat.not_lt_zero _)
              | succ k_28 ih140 =>
                intro σ_27 H locs ls hm140 nrσ_27 lpσ_27 fr_σ_27 klσ_27 smσ_27 oxσ_27 hF hI hl
                replace hF := (F_X12_readStep_d0_L140_5_s).symm.trans hF
                unfold F_X12_readStep_d0_B140_5 at hF
                refine lv_iload_n hx hb dX12_readStep_140 rfl (lv_at hl 3 rfl) ?_
                refine q_if_eq (A := x_3.toInt) E rfl (tgt := 168) dX12_readStep_141 (by decide) (fun c_29 => ?_) (fun c_29 => ?_)
                · skip
                  replace hF := q_ifp hF c_29
                  unfold F_X12_readStep_d0_E168_6 at hF
                  refine lv_iload_n hx hb dX12_readStep_168 rfl (lv_at hl 3 rfl) ?_
                  refine q_if_eq (A := x_3.toInt) E rfl (tgt := 190) dX12_readStep_169 (by decide) (fun c_30 => ?_) (fun c_30 => ?_)
                  · skip
                    replace hF := q_ifp hF c_30
                    refine lv_aload_n hx hb dX12_readStep_190 rfl (lv_at hl 0 rfl) ?_
                    refine gs_X12_35_12 E hI ha dX12_readStep_191 ?_
                    refine lv_iload hx hb dX12_readStep_194 (lv_at hl 4 rfl) ?_
                    refine lv_bipush (v := 8) hx hb dX12_readStep_196 zkb_8 ?_
                    refine lv_iadd hx hb dX12_readStep_198 ?_
                    refine lv_topi (fun z_31 ez_31 => ?_)
                    replace hF := q_letX hF ez_31
                    have iz_31 := q_addI (A := (4376 + (9 * f_11.toInt))) (B := 8) ez_31 iz_13 (by decide) (by first | (clear hs hz hc2 hd bhpσ_2 chpσ_2 dhpσ_2 j20 if_5 if_7 tcσ_8 taσ_8 tbσ_8 if_9 c_10 iz_12 iz_13 dhpσ_18 ehpσ_18 dhpσ_21 ehpσ_21 fhpσ_21 kc_22 bhpσ_24 chpσ_24 chpσ_26 dhpσ_26 ehpσ_26 hm140 nrσ_27 smσ_27 oxσ_27 c_29 c_30; omega) | omega) (by first | (clear hs hz hc2 hd bhpσ_2 chpσ_2 dhpσ_2 j20 if_5 if_7 tcσ_8 taσ_8 tbσ_8 if_9 c_10 iz_12 iz_13 dhpσ_18 ehpσ_18 dhpσ_21 ehpσ_21 fhpσ_21 kc_22 bhpσ_24 chpσ_24 chpσ_26 dhpσ_26 ehpσ_26 hm140 nrσ_27 smσ_27 oxσ_27 c_29 c_30; omega) | omega)
                    refine lv_aload_n hx hb dX12_readStep_199 rfl (lv_at hl 0 rfl) ?_
                    refine gs_X12_267_12 E hI ha dX12_readStep_200 ?_
                    refine lv_topi (fun f_32 ef_32 => ?_)
                    replace hF := q_letX hF ef_32
                    have if_32 : f_32.toInt = (σ_27.1 a 27).toInt := congrArg Int32.toInt ef_32
                    refine q_iastN E hI (q_tk (k' := 34) hI ha rfl (Nat.succ_ne_zero _)) ⟨by decide, rfl⟩ (by first | (clear hs hz hc2 hd bhpσ_2 chpσ_2 dhpσ_2 j20 if_5 if_7 tcσ_8 taσ_8 tbσ_8 if_9 c_10 iz_12 iz_13 dhpσ_18 ehpσ_18 dhpσ_21 ehpσ_21 fhpσ_21 kc_22 bhpσ_24 chpσ_24 chpσ_26 dhpσ_26 ehpσ_26 hm140 nrσ_27 smσ_27 oxσ_27 c_29 c_30 if_32; omega) | omega) (by rw [q_lnk (v := 4650) hI (q_tk (k' := 34) hI ha rfl (Nat.succ_ne_zero _)) rfl (by decide)]; omega) (show 1 < 2 by decide) (q_inU rfl) dX12_readStep_203 (fun H locs σ_33 hσ_33 hI => ?_)
                    replace hF := q_letX hF hσ_33
                    have fr_σ_33 := fr_σ_27.si hσ_33 (q_tk (k' := 34) hI ha rfl (Nat.succ_ne_zero _)) rfl
                    have mv9_σ_33 : (σ_33.1 a 9).toInt = (σ_27.1 a 9).toInt := congrArg Int32.toInt (q_rdn hσ_33 (Or.inl (m_ne ha (q_tk (k' := 34) hI ha rfl (Nat.succ_ne_zero _)) (by decide))))
                    have mv12_σ_33 : (σ_33.1 a 12).toInt = (σ_27.1 a 12).toInt := congrArg Int32.toInt (q_rdn hσ_33 (Or.inl (m_ne ha (q_tk (k' := 34) hI ha rfl (Nat.succ_ne_zero _)) (by decide))))
                    have mv14_σ_33 : (σ_33.1 a 14).toInt = (σ_27.1 a 14).toInt := congrArg Int32.toInt (q_rdn hσ_33 (Or.inl (m_ne ha (q_tk (k' := 34) hI ha rfl (Nat.succ_ne_zero _)) (by decide))))
                    have mv15_σ_33 : (σ_33.1 a 15).toInt = (σ_27.1 a 15).toInt := congrArg Int32.toInt (q_rdn hσ_33 (Or.inl (m_ne ha (q_tk (k' := 34) hI ha rfl (Nat.succ_ne_zero _)) (by decide))))
                    have mv16_σ_33 : (σ_33.1 a 16).toInt = (σ_27.1 a 16).toInt := congrArg Int32.toInt (q_rdn hσ_33 (Or.inl (m_ne ha (q_tk (k' := 34) hI ha rfl (Nat.succ_ne_zero _)) (by decide))))
                    have mv27_σ_33 : (σ_33.1 a 27).toInt = (σ_27.1 a 27).toInt := congrArg Int32.toInt (q_rdn hσ_33 (Or.inl (m_ne ha (q_tk (k' := 34) hI ha rfl (Nat.succ_ne_zero _)) (by decide))))
                    have mcσ_33 := m_wr (v := f_32) (A := ((4376 + (9 * f_11.toInt)) + 8)) hσ_33 iz_31 (by first | (clear hs hz hc2 hd bhpσ_2 chpσ_2 dhpσ_2 j20 if_5 if_7 tcσ_8 taσ_8 tbσ_8 if_9 c_10 iz_12 iz_13 dhpσ_18 ehpσ_18 dhpσ_21 ehpσ_21 fhpσ_21 kc_22 bhpσ_24 chpσ_24 chpσ_26 dhpσ_26 ehpσ_26 hm140 nrσ_27 smσ_27 oxσ_27 c_29 c_30 iz_31 if_32 mv9_σ_33 mv12_σ_33 mv14_σ_33 mv15_σ_33 mv16_σ_33 mv27_σ_33; omega) | omega)
                    have klσ_33 : ∀ j, 0 ≤ j → j < 4376 + 9 * (σ.1 a 27).toInt → m_c X σ_33 a j = m_c X σ a j := fun j h0 h1 => by rw [mcσ_33 j h0, if_neg (by first | (clear hs hz hc2 hn hd bhpσ_2 chpσ_2 dhpσ_2 j20 if_5 if_7 tcσ_8 taσ_8 tbσ_8 if_9 c_10 kk0 iz_12 iz_13 dhpσ_18 ehpσ_18 dhpσ_21 ehpσ_21 fhpσ_21 kc_22 bhpσ_24 chpσ_24 chpσ_26 dhpσ_26 ehpσ_26 hm140 nrσ_27 smσ_27 oxσ_27 c_29 c_30 iz_31 if_32 mv9_σ_33 mv12_σ_33 mv14_σ_33 mv15_σ_33 mv16_σ_33 mv27_σ_33; omega) | omega)]; exact klσ_27 j h0 h1
                    have smσ_33 : 0 ≤ (σ_33.1 a 15).toInt ∧ (σ_33.1 a 15).toInt ≤ (σ_33.1 a 16).toInt ∧ (σ_33.1 a 16).toInt ≤ (σ_33.1 a 9).toInt ∧ (σ_33.1 a 9).toInt ≤ 900 ∧ 0 ≤ (σ_33.1 a 14).toInt ∧ (σ_33.1 a 14).toInt ≤ 4 ∧ (σ_33.1 a 14).toInt ≤ 4 * ((σ_33.1 a 16).toInt - (σ_33.1 a 15).toInt) ∧ (σ_33.1 a 14).toInt ≤ 4 * ((σ_33.1 a 9).toInt - (σ_33.1 a 15).toInt) ∧ 0 ≤ (σ_33.1 a 12).toInt ∧ (σ_33.1 a 9).toInt = (σ.1 a 9).toInt ∧ (σ.1 a 15).toInt ≤ (σ_33.1 a 15).toInt ∧ (σ.1 a 12).toInt ≤ (σ_33.1 a 12).toInt := (by first | (rw [mv12_σ_33, mv14_σ_33, mv15_σ_33, mv16_σ_33, mv9_σ_33]; exact smσ_27) | omega)
                    have oxσ_33 : (σ.1 a 15).toInt + 1 ≤ (σ_33.1 a 15).toInt := (by first | (clear hs hz hc2 hn hd bhpσ_2 chpσ_2 dhpσ_2 j20 if_5 if_7 tcσ_8 nsσ_8 taσ_8 tbσ_8 if_9 c_10 kk0 if_11 iz_12 iz_13 if_14 iz_15 dhpσ_18 ehpσ_18 dhpσ_21 ehpσ_21 fhpσ_21 kc_22 bhpσ_24 chpσ_24 chpσ_26 dhpσ_26 ehpσ_26 hm140 nrσ_27 smσ_27 c_29 c_30 iz_31 if_32 mv9_σ_33 mv12_σ_33 mv14_σ_33 mv16_σ_33 mv27_σ_33 smσ_33; omega) | omega)
                    have nrσ_33 : (σ.1 a 27).toInt + 1 ≤ (σ_33.1 a 27).toInt ∧ (σ_33.1 a 27).toInt ≤ 30 := (by first | (clear hs hz hc2 hn hd bhpσ_2 chpσ_2 dhpσ_2 j20 if_5 if_7 tcσ_8 taσ_8 tbσ_8 if_9 c_10 kk0 iz_12 iz_13 dhpσ_18 ehpσ_18 dhpσ_21 ehpσ_21 fhpσ_21 kc_22 bhpσ_24 chpσ_24 chpσ_26 dhpσ_26 ehpσ_26 hm140 smσ_27 oxσ_27 c_29 c_30 iz_31 mv9_σ_33 mv12_σ_33 mv14_σ_33 mv15_σ_33 mv16_σ_33 smσ_33 oxσ_33; omega) | omega)
                    have fiσ_33 : m_oz (σ_33.1 a 12).toInt (∀ t, (σ.1 a 27).toInt ≤ t → t < (σ_33.1 a 27).toInt → m_stp (m_c X σ_33 a) (4376 + 9 * t) t (σ_33.1 a 27).toInt) := (m_oz.mono lpσ_27 (by first | (clear hs hz hc2 hn hd bhpσ_2 chpσ_2 dhpσ_2 j20 if_5 if_7 tcσ_8 nsσ_8 taσ_8 tbσ_8 if_9 c_10 kk0 if_11 iz_12 iz_13 if_14 iz_15 dhpσ_18 ehpσ_18 dhpσ_21 ehpσ_21 fhpσ_21 kc_22 bhpσ_24 chpσ_24 chpσ_26 dhpσ_26 ehpσ_26 hm140 nrσ_27 oxσ_27 c_29 c_30 iz_31 if_32 mv9_σ_33 mv14_σ_33 mv15_σ_33 mv16_σ_33 mv27_σ_33 smσ_33 oxσ_33 nrσ_33; omega) | omega) (by first | (clear hs hz hc2 hn hd bhpσ_2 chpσ_2 dhpσ_2 j20 if_5 if_7 tcσ_8 nsσ_8 taσ_8 tbσ_8 if_9 c_10 kk0 if_11 iz_12 iz_13 if_14 iz_15 dhpσ_18 ehpσ_18 dhpσ_21 ehpσ_21 fhpσ_21 kc_22 bhpσ_24 chpσ_24 chpσ_26 dhpσ_26 ehpσ_26 hm140 nrσ_27 smσ_27 oxσ_27 c_29 c_30 iz_31 if_32 mv9_σ_33 mv14_σ_33 mv15_σ_33 mv16_σ_33 mv27_σ_33 smσ_33 oxσ_33 nrσ_33; omega) | omega) (fun h => by have en : (σ_33.1 a 27).toInt = (σ_27.1 a 27).toInt := (by omega); rw [en]; exact m_lp.done h (fun j hj => by rw [mcσ_33 j hj, iz_13]) (by omega) (by first | (clear hs hz hc2 hn hd bhpσ_2 chpσ_2 dhpσ_2 j20 if_5 if_7 tcσ_8 taσ_8 tbσ_8 if_9 c_10 kk0 iz_12 if_14 iz_15 dhpσ_18 ehpσ_18 dhpσ_21 ehpσ_21 fhpσ_21 kc_22 bhpσ_24 chpσ_24 chpσ_26 dhpσ_26 ehpσ_26 hm140 nrσ_27 smσ_27 oxσ_27 c_29 c_30 iz_31 if_32 mv9_σ_33 mv12_σ_33 mv14_σ_33 mv15_σ_33 mv16_σ_33 mv27_σ_33 smσ_33 oxσ_33 nrσ_33; omega) | omega) (by first | (clear hs hz hc2 hd bhpσ_2 chpσ_2 dhpσ_2 j20 if_5 if_7 tcσ_8 taσ_8 tbσ_8 if_9 c_10 iz_12 iz_13 dhpσ_18 ehpσ_18 dhpσ_21 ehpσ_21 fhpσ_21 kc_22 bhpσ_24 chpσ_24 chpσ_26 dhpσ_26 ehpσ_26 hm140 smσ_27 oxσ_27 c_29 c_30 iz_31 mv9_σ_33 mv12_σ_33 mv14_σ_33 mv15_σ_33 mv16_σ_33 smσ_33 oxσ_33 nrσ_33; omega) | omega)))
                    clear mv9_σ_33 mv12_σ_33 mv14_σ_33 mv15_σ_33 mv16_σ_33 mv27_σ_33 smσ_27 oxσ_27 nrσ_27
                    rewrite [hQQ]; exact q_retv E hr hlk hI ⟨klσ_33, (by first | exact smσ_33 | omega), (by first | exact smσ_33 | omega), (by first | exact smσ_33 | omega), fiσ_33, (hF.trans hout), fr_σ_33⟩ dX12_readStep_204
                  · skip
                    replace hF := q_ifn hF c_30
                    refine lv_aload_n hx hb dX12_readStep_172 rfl (lv_at hl 0 rfl) ?_
                    refine lv_aload_n hx hb dX12_readStep_173 rfl (lv_at hl 0 rfl) ?_
                    refine q_ci (q_rV11_0 (rest := [.ref a]) E (hml.trans hl.1.symm) hI (c_X12_isEnd l X σ_27 a ha) kv_X12_181 ha ⟨Nat.le_of_ble_eq_true rfl, Nat.le_of_ble_eq_true rfl⟩ (Nat.le_of_ble_eq_true rfl) dX12_readStep_174) hI (Nat.le_of_ble_eq_true rfl) (fun r_34 σ_35 H locs hpσ_35 hkσ_35 hI => ?_)
                    have ahpσ_35 := hpσ_35.1
                    have bhpσ_35 := hpσ_35.2.1
                    have chpσ_35 := hpσ_35.2.2
                    clear hpσ_35
                    replace hI := q_Irw ahpσ_35 hI
                    replace hF := q_letX hF chpσ_35
                    refine q_cv (q_rV11_1 (rest := []) E (hml.trans hl.1.symm) hI (c_X12_must l X σ_27 a r_34 ha (by first | exact sm_9 smσ_27 | exact hs | omega) (by first | (clear hs hz hc2 hn hd bhpσ_2 chpσ_2 dhpσ_2 j20 if_5 if_7 tcσ_8 nsσ_8 taσ_8 tbσ_8 if_9 c_10 kk0 if_11 iz_12 iz_13 if_14 iz_15 dhpσ_18 ehpσ_18 dhpσ_21 ehpσ_21 fhpσ_21 kc_22 bhpσ_24 chpσ_24 chpσ_26 dhpσ_26 ehpσ_26 hm140 c_29 c_30 ahpσ_35 chpσ_35; omega) | omega)) kv_X12_216 ha ⟨Nat.le_of_ble_eq_true rfl, Nat.le_of_ble_eq_true rfl⟩ (Nat.le_of_ble_eq_true rfl) dX12_readStep_177) hI (Nat.le_of_ble_eq_true rfl) (fun σ_37 H locs hpσ_37 hkσ_37 hI => ?_)
                    have ahpσ_37 := hpσ_37.1
                    have bhpσ_37 := hpσ_37.2.1
                    have chpσ_37 := hpσ_37.2.2.1
                    have dhpσ_37 := hpσ_37.2.2.2.1
                    have ehpσ_37 := hpσ_37.2.2.2.2
                    clear hpσ_37
                    have fr_σ_37 := fr_σ_27.call ehpσ_37 rfl rfl
                    replace hF := q_letX hF dhpσ_37
                    have mv27_σ_37 : (σ_37.1 a 27).toInt = (σ_27.1 a 27).toInt := congrArg Int32.toInt (ahpσ_37 a 27 (q_cl9 _ _) (fun h => absurd h.2.2 (by decide)))
                    have mcσ_37 := m_cK hkσ_37 hI.1 ha (by decide)
                    have klσ_37 : ∀ j, 0 ≤ j → j < 4376 + 9 * (σ.1 a 27).toInt → m_c X σ_37 a j = m_c X σ a j := fun j h0 h1 => (mcσ_37 j).trans (klσ_27 j h0 h1)
                    have smσ_37 : 0 ≤ (σ_37.1 a 15).toInt ∧ (σ_37.1 a 15).toInt ≤ (σ_37.1 a 16).toInt ∧ (σ_37.1 a 16).toInt ≤ (σ_37.1 a 9).toInt ∧ (σ_37.1 a 9).toInt ≤ 900 ∧ 0 ≤ (σ_37.1 a 14).toInt ∧ (σ_37.1 a 14).toInt ≤ 4 ∧ (σ_37.1 a 14).toInt ≤ 4 * ((σ_37.1 a 16).toInt - (σ_37.1 a 15).toInt) ∧ (σ_37.1 a 14).toInt ≤ 4 * ((σ_37.1 a 9).toInt - (σ_37.1 a 15).toInt) ∧ 0 ≤ (σ_37.1 a 12).toInt ∧ (σ_37.1 a 9).toInt = (σ.1 a 9).toInt ∧ (σ.1 a 15).toInt ≤ (σ_37.1 a 15).toInt ∧ (σ.1 a 12).toInt ≤ (σ_37.1 a 12).toInt := (by first | exact sm_tr smσ_27 bhpσ_37 | exact sm_tr smσ_27 chpσ_37 | omega)
                    have oxσ_37 : (σ.1 a 15).toInt + 1 ≤ (σ_37.1 a 15).toInt := (by first | (clear hs hz hc2 hn hd bhpσ_2 chpσ_2 dhpσ_2 j20 if_5 if_7 tcσ_8 nsσ_8 taσ_8 tbσ_8 if_9 c_10 kk0 if_11 iz_12 iz_13 if_14 iz_15 dhpσ_18 ehpσ_18 dhpσ_21 ehpσ_21 fhpσ_21 kc_22 bhpσ_24 chpσ_24 chpσ_26 dhpσ_26 ehpσ_26 hm140 c_29 c_30 ahpσ_35 bhpσ_35 chpσ_35 ahpσ_37 chpσ_37 dhpσ_37 ehpσ_37 mv27_σ_37; omega) | omega)
                    have nrσ_37 : (σ.1 a 27).toInt + 1 ≤ (σ_37.1 a 27).toInt ∧ (σ_37.1 a 27).toInt ≤ 30 := (by first | (clear hs hz hc2 hn hd bhpσ_2 chpσ_2 dhpσ_2 j20 if_5 if_7 tcσ_8 taσ_8 tbσ_8 if_9 c_10 kk0 iz_12 iz_13 dhpσ_18 ehpσ_18 dhpσ_21 ehpσ_21 fhpσ_21 kc_22 bhpσ_24 chpσ_24 chpσ_26 dhpσ_26 ehpσ_26 hm140 c_29 c_30 ahpσ_35 bhpσ_35 chpσ_35 ahpσ_37 bhpσ_37 chpσ_37 dhpσ_37 ehpσ_37 smσ_37 oxσ_37; omega) | omega)
                    have lpσ_37 : m_oz (σ_37.1 a 12).toInt (m_lp (m_c X σ_37 a) z_13.toInt (σ.1 a 27).toInt (σ_37.1 a 27).toInt) := (m_oz.mono lpσ_27 (by first | (clear hs hz hc2 hn hd bhpσ_2 chpσ_2 dhpσ_2 j20 if_5 if_7 tcσ_8 nsσ_8 taσ_8 tbσ_8 if_9 c_10 kk0 if_11 iz_12 iz_13 if_14 iz_15 dhpσ_18 ehpσ_18 dhpσ_21 ehpσ_21 fhpσ_21 kc_22 bhpσ_24 chpσ_24 chpσ_26 dhpσ_26 ehpσ_26 hm140 c_29 c_30 ahpσ_35 bhpσ_35 chpσ_35 ahpσ_37 bhpσ_37 chpσ_37 dhpσ_37 ehpσ_37 mv27_σ_37 smσ_37 oxσ_37 nrσ_37; omega) | omega) (by first | (clear hs hz hc2 hn hd bhpσ_2 chpσ_2 dhpσ_2 j20 if_5 if_7 tcσ_8 nsσ_8 taσ_8 tbσ_8 if_9 c_10 kk0 if_11 iz_12 iz_13 if_14 iz_15 dhpσ_18 ehpσ_18 dhpσ_21 ehpσ_21 fhpσ_21 kc_22 bhpσ_24 chpσ_24 chpσ_26 dhpσ_26 ehpσ_26 hm140 c_29 c_30 ahpσ_35 bhpσ_35 chpσ_35 ahpσ_37 chpσ_37 dhpσ_37 ehpσ_37 mv27_σ_37 smσ_37 oxσ_37 nrσ_37; omega) | omega) (fun h => m_lp.ext h (fun j => mcσ_37 j) (by omega)))
                    clear mv27_σ_37 smσ_27 oxσ_27 nrσ_27 bhpσ_37
                    refine lv_aload_n hx hb dX12_readStep_180 rfl (lv_at hl 0 rfl) ?_
                    refine lv_aload_n hx hb dX12_readStep_181 rfl (lv_at hl 0 rfl) ?_
                    refine lv_bipush (v := 59) hx hb dX12_readStep_182 zkb_59 ?_
                    have kc_38 : (59 : Int32).toInt = 59 := zt_59
                    refine q_ci (q_rV11_1 (rest := [.ref a]) E (hml.trans hl.1.symm) hI (c_X12_isSign l X σ_37 a (59 : Int32) ha) kv_X12_243 ha ⟨Nat.le_of_ble_eq_true rfl, Nat.le_of_ble_eq_true rfl⟩ (Nat.le_of_ble_eq_true rfl) dX12_readStep_184) hI (Nat.le_of_ble_eq_true rfl) (fun r_39 σ_40 H locs hpσ_40 hkσ_40 hI => ?_)
                    have ahpσ_40 := hpσ_40.1
                    have bhpσ_40 := hpσ_40.2.1
                    have chpσ_40 := hpσ_40.2.2
                    clear hpσ_40
                    replace hI := q_Irw ahpσ_40 hI
                    replace hF := q_letX hF chpσ_40
                    refine q_cv (q_rV11_1 (rest := []) E (hml.trans hl.1.symm) hI (c_X12_must l X σ_37 a r_39 ha (by first | exact sm_9 smσ_37 | exact hs | omega) (by first | (clear hs hz hc2 hn hd bhpσ_2 chpσ_2 dhpσ_2 j20 if_5 if_7 tcσ_8 nsσ_8 taσ_8 tbσ_8 if_9 c_10 kk0 if_11 iz_12 iz_13 if_14 iz_15 dhpσ_18 ehpσ_18 dhpσ_21 ehpσ_21 fhpσ_21 kc_22 bhpσ_24 chpσ_24 chpσ_26 dhpσ_26 ehpσ_26 hm140 c_29 c_30 ahpσ_35 bhpσ_35 chpσ_35 ahpσ_37 chpσ_37 dhpσ_37 ehpσ_37 smσ_37 oxσ_37 nrσ_37 kc_38 ahpσ_40 chpσ_40; omega) | omega)) kv_X12_216 ha ⟨Nat.le_of_ble_eq_true rfl, Nat.le_of_ble_eq_true rfl⟩ (Nat.le_of_ble_eq_true rfl) dX12_readStep_187) hI (Nat.le_of_ble_eq_true rfl) (fun σ_42 H locs hpσ_42 hkσ_42 hI => ?_)
                    have ahpσ_42 := hpσ_42.1
                    have bhpσ_42 := hpσ_42.2.1
                    have chpσ_42 := hpσ_42.2.2.1
                    have dhpσ_42 := hpσ_42.2.2.2.1
                    have ehpσ_42 := hpσ_42.2.2.2.2
                    clear hpσ_42
                    have fr_σ_42 := fr_σ_37.call ehpσ_42 rfl rfl
                    replace hF := q_letX hF dhpσ_42
                    have mv27_σ_42 : (σ_42.1 a 27).toInt = (σ_37.1 a 27).toInt := congrArg Int32.toInt (ahpσ_42 a 27 (q_cl9 _ _) (fun h => absurd h.2.2 (by decide)))
                    have mcσ_42 := m_cK hkσ_42 hI.1 ha (by decide)
                    have klσ_42 : ∀ j, 0 ≤ j → j < 4376 + 9 * (σ.1 a 27).toInt → m_c X σ_42 a j = m_c X σ a j := fun j h0 h1 => (mcσ_42 j).trans (klσ_37 j h0 h1)
                    have smσ_42 : 0 ≤ (σ_42.1 a 15).toInt ∧ (σ_42.1 a 15).toInt ≤ (σ_42.1 a 16).toInt ∧ (σ_42.1 a 16).toInt ≤ (σ_42.1 a 9).toInt ∧ (σ_42.1 a 9).toInt ≤ 900 ∧ 0 ≤ (σ_42.1 a 14).toInt ∧ (σ_42.1 a 14).toInt ≤ 4 ∧ (σ_42.1 a 14).toInt ≤ 4 * ((σ_42.1 a 16).toInt - (σ_42.1 a 15).toInt) ∧ (σ_42.1 a 14).toInt ≤ 4 * ((σ_42.1 a 9).toInt - (σ_42.1 a 15).toInt) ∧ 0 ≤ (σ_42.1 a 12).toInt ∧ (σ_42.1 a 9).toInt = (σ.1 a 9).toInt ∧ (σ.1 a 15).toInt ≤ (σ_42.1 a 15).toInt ∧ (σ.1 a 12).toInt ≤ (σ_42.1 a 12).toInt := (by first | exact sm_tr smσ_37 bhpσ_42 | exact sm_tr smσ_37 chpσ_42 | omega)
                    have oxσ_42 : (σ.1 a 15).toInt + 1 ≤ (σ_42.1 a 15).toInt := (by first | (clear hs hz hc2 hn hd bhpσ_2 chpσ_2 dhpσ_2 j20 if_5 if_7 tcσ_8 nsσ_8 taσ_8 tbσ_8 if_9 c_10 kk0 if_11 iz_12 iz_13 if_14 iz_15 dhpσ_18 ehpσ_18 dhpσ_21 ehpσ_21 fhpσ_21 kc_22 bhpσ_24 chpσ_24 chpσ_26 dhpσ_26 ehpσ_26 hm140 c_29 c_30 ahpσ_35 bhpσ_35 chpσ_35 ahpσ_37 chpσ_37 dhpσ_37 ehpσ_37 smσ_37 nrσ_37 kc_38 ahpσ_40 bhpσ_40 chpσ_40 ahpσ_42 chpσ_42 dhpσ_42 ehpσ_42 mv27_σ_42; omega) | omega)
                    have nrσ_42 : (σ.1 a 27).toInt + 1 ≤ (σ_42.1 a 27).toInt ∧ (σ_42.1 a 27).toInt ≤ 30 := (by first | (clear hs hz hc2 hn hd bhpσ_2 chpσ_2 dhpσ_2 j20 if_5 if_7 tcσ_8 taσ_8 tbσ_8 if_9 c_10 kk0 iz_12 iz_13 dhpσ_18 ehpσ_18 dhpσ_21 ehpσ_21 fhpσ_21 kc_22 bhpσ_24 chpσ_24 chpσ_26 dhpσ_26 ehpσ_26 hm140 c_29 c_30 ahpσ_35 bhpσ_35 chpσ_35 ahpσ_37 chpσ_37 dhpσ_37 ehpσ_37 smσ_37 oxσ_37 kc_38 ahpσ_40 bhpσ_40 chpσ_40 ahpσ_42 bhpσ_42 chpσ_42 dhpσ_42 ehpσ_42 smσ_42 oxσ_42; omega) | omega)
                    have lpσ_42 : m_oz (σ_42.1 a 12).toInt (m_lp (m_c X σ_42 a) z_13.toInt (σ.1 a 27).toInt (σ_42.1 a 27).toInt) := (m_oz.mono lpσ_37 (by first | (clear hs hz hc2 hn hd bhpσ_2 chpσ_2 dhpσ_2 j20 if_5 if_7 tcσ_8 nsσ_8 taσ_8 tbσ_8 if_9 c_10 kk0 if_11 iz_12 iz_13 if_14 iz_15 dhpσ_18 ehpσ_18 dhpσ_21 ehpσ_21 fhpσ_21 kc_22 bhpσ_24 chpσ_24 chpσ_26 dhpσ_26 ehpσ_26 hm140 c_29 c_30 ahpσ_35 bhpσ_35 chpσ_35 ahpσ_37 chpσ_37 dhpσ_37 ehpσ_37 oxσ_37 nrσ_37 kc_38 ahpσ_40 bhpσ_40 chpσ_40 ahpσ_42 bhpσ_42 chpσ_42 dhpσ_42 ehpσ_42 mv27_σ_42 smσ_42 oxσ_42 nrσ_42; omega) | omega) (by first | (clear hs hz hc2 hn hd bhpσ_2 chpσ_2 dhpσ_2 j20 if_5 if_7 tcσ_8 nsσ_8 taσ_8 tbσ_8 if_9 c_10 kk0 if_11 iz_12 iz_13 if_14 iz_15 dhpσ_18 ehpσ_18 dhpσ_21 ehpσ_21 fhpσ_21 kc_22 bhpσ_24 chpσ_24 chpσ_26 dhpσ_26 ehpσ_26 hm140 c_29 c_30 ahpσ_35 bhpσ_35 chpσ_35 ahpσ_37 chpσ_37 dhpσ_37 ehpσ_37 smσ_37 oxσ_37 nrσ_37 kc_38 ahpσ_40 bhpσ_40 chpσ_40 ahpσ_42 chpσ_42 dhpσ_42 ehpσ_42 mv27_σ_42 smσ_42 oxσ_42 nrσ_42; omega) | omega) (fun h => m_lp.ext h (fun j => mcσ_42 j) (by omega)))
                    clear mv27_σ_42 smσ_37 oxσ_37 nrσ_37 bhpσ_42
                    refine lv_aload_n hx hb dX12_readStep_190 rfl (lv_at hl 0 rfl) ?_
                    refine gs_X12_35_12 E hI ha dX12_readStep_191 ?_
                    refine lv_iload hx hb dX12_readStep_194 (lv_at hl 4 rfl) ?_
                    refine lv_bipush (v := 8) hx hb dX12_readStep_196 zkb_8 ?_
                    refine lv_iadd hx hb dX12_readStep_198 ?_
                    refine lv_topi (fun z_43 ez_43 => ?_)
                    replace hF := q_letX hF ez_43
                    have iz_43 := q_addI (A := (4376 + (9 * f_11.toInt))) (B := 8) ez_43 iz_13 (by decide) (by first | (clear hs hz hc2 hd bhpσ_2 chpσ_2 dhpσ_2 j20 if_5 if_7 tcσ_8 taσ_8 tbσ_8 if_9 c_10 iz_12 iz_13 dhpσ_18 ehpσ_18 dhpσ_21 ehpσ_21 fhpσ_21 kc_22 bhpσ_24 chpσ_24 chpσ_26 dhpσ_26 ehpσ_26 hm140 c_29 c_30 ahpσ_35 bhpσ_35 chpσ_35 ahpσ_37 chpσ_37 dhpσ_37 ehpσ_37 kc_38 ahpσ_40 bhpσ_40 chpσ_40 ahpσ_42 chpσ_42 dhpσ_42 ehpσ_42 smσ_42 oxσ_42 nrσ_42; omega) | omega) (by first | (clear hs hz hc2 hd bhpσ_2 chpσ_2 dhpσ_2 j20 if_5 if_7 tcσ_8 taσ_8 tbσ_8 if_9 c_10 iz_12 iz_13 dhpσ_18 ehpσ_18 dhpσ_21 ehpσ_21 fhpσ_21 kc_22 bhpσ_24 chpσ_24 chpσ_26 dhpσ_26 ehpσ_26 hm140 c_29 c_30 ahpσ_35 bhpσ_35 chpσ_35 ahpσ_37 chpσ_37 dhpσ_37 ehpσ_37 kc_38 ahpσ_40 bhpσ_40 chpσ_40 ahpσ_42 chpσ_42 dhpσ_42 ehpσ_42 smσ_42 oxσ_42 nrσ_42; omega) | omega)
                    refine lv_aload_n hx hb dX12_readStep_199 rfl (lv_at hl 0 rfl) ?_
                    refine gs_X12_267_12 E hI ha dX12_readStep_200 ?_
                    refine lv_topi (fun f_44 ef_44 => ?_)
                    replace hF := q_letX hF ef_44
                    have if_44 : f_44.toInt = (σ_42.1 a 27).toInt := congrArg Int32.toInt ef_44
                    refine q_iastN E hI (q_tk (k' := 34) hI ha rfl (Nat.succ_ne_zero _)) ⟨by decide, rfl⟩ (by first | (clear hs hz hc2 hd bhpσ_2 chpσ_2 dhpσ_2 j20 if_5 if_7 tcσ_8 taσ_8 tbσ_8 if_9 c_10 iz_12 iz_13 dhpσ_18 ehpσ_18 dhpσ_21 ehpσ_21 fhpσ_21 kc_22 bhpσ_24 chpσ_24 chpσ_26 dhpσ_26 ehpσ_26 hm140 c_29 c_30 ahpσ_35 bhpσ_35 chpσ_35 ahpσ_37 chpσ_37 dhpσ_37 ehpσ_37 kc_38 ahpσ_40 bhpσ_40 chpσ_40 ahpσ_42 chpσ_42 dhpσ_42 ehpσ_42 smσ_42 oxσ_42 nrσ_42 if_44; omega) | omega) (by rw [q_lnk (v := 4650) hI (q_tk (k' := 34) hI ha rfl (Nat.succ_ne_zero _)) rfl (by decide)]; omega) (show 1 < 2 by decide) (q_inU rfl) dX12_readStep_203 (fun H locs σ_45 hσ_45 hI => ?_)
                    replace hF := q_letX hF hσ_45
                    have fr_σ_45 := fr_σ_42.si hσ_45 (q_tk (k' := 34) hI ha rfl (Nat.succ_ne_zero _)) rfl
                    have mv9_σ_45 : (σ_45.1 a 9).toInt = (σ_42.1 a 9).toInt := congrArg Int32.toInt (q_rdn hσ_45 (Or.inl (m_ne ha (q_tk (k' := 34) hI ha rfl (Nat.succ_ne_zero _)) (by decide))))
                    have mv12_σ_45 : (σ_45.1 a 12).toInt = (σ_42.1 a 12).toInt := congrArg Int32.toInt (q_rdn hσ_45 (Or.inl (m_ne ha (q_tk (k' := 34) hI ha rfl (Nat.succ_ne_zero _)) (by decide))))
                    have mv14_σ_45 : (σ_45.1 a 14).toInt = (σ_42.1 a 14).toInt := congrArg Int32.toInt (q_rdn hσ_45 (Or.inl (m_ne ha (q_tk (k' := 34) hI ha rfl (Nat.succ_ne_zero _)) (by decide))))
                    have mv15_σ_45 : (σ_45.1 a 15).toInt = (σ_42.1 a 15).toInt := congrArg Int32.toInt (q_rdn hσ_45 (Or.inl (m_ne ha (q_tk (k' := 34) hI ha rfl (Nat.succ_ne_zero _)) (by decide))))
                    have mv16_σ_45 : (σ_45.1 a 16).toInt = (σ_42.1 a 16).toInt := congrArg Int32.toInt (q_rdn hσ_45 (Or.inl (m_ne ha (q_tk (k' := 34) hI ha rfl (Nat.succ_ne_zero _)) (by decide))))
                    have mv27_σ_45 : (σ_45.1 a 27).toInt = (σ_42.1 a 27).toInt := congrArg Int32.toInt (q_rdn hσ_45 (Or.inl (m_ne ha (q_tk (k' := 34) hI ha rfl (Nat.succ_ne_zero _)) (by decide))))
                    have mcσ_45 := m_wr (v := f_44) (A := ((4376 + (9 * f_11.toInt)) + 8)) hσ_45 iz_43 (by first | (clear hs hz hc2 hd bhpσ_2 chpσ_2 dhpσ_2 j20 if_5 if_7 tcσ_8 taσ_8 tbσ_8 if_9 c_10 iz_12 iz_13 dhpσ_18 ehpσ_18 dhpσ_21 ehpσ_21 fhpσ_21 kc_22 bhpσ_24 chpσ_24 chpσ_26 dhpσ_26 ehpσ_26 hm140 c_29 c_30 ahpσ_35 bhpσ_35 chpσ_35 ahpσ_37 chpσ_37 dhpσ_37 ehpσ_37 kc_38 ahpσ_40 bhpσ_40 chpσ_40 ahpσ_42 chpσ_42 dhpσ_42 ehpσ_42 smσ_42 oxσ_42 nrσ_42 iz_43 if_44 mv9_σ_45 mv12_σ_45 mv14_σ_45 mv15_σ_45 mv16_σ_45 mv27_σ_45; omega) | omega)
                    have klσ_45 : ∀ j, 0 ≤ j → j < 4376 + 9 * (σ.1 a 27).toInt → m_c X σ_45 a j = m_c X σ a j := fun j h0 h1 => by rw [mcσ_45 j h0, if_neg (by first | (clear hs hz hc2 hn hd bhpσ_2 chpσ_2 dhpσ_2 j20 if_5 if_7 tcσ_8 taσ_8 tbσ_8 if_9 c_10 kk0 iz_12 iz_13 dhpσ_18 ehpσ_18 dhpσ_21 ehpσ_21 fhpσ_21 kc_22 bhpσ_24 chpσ_24 chpσ_26 dhpσ_26 ehpσ_26 hm140 c_29 c_30 ahpσ_35 bhpσ_35 chpσ_35 ahpσ_37 chpσ_37 dhpσ_37 ehpσ_37 kc_38 ahpσ_40 bhpσ_40 chpσ_40 ahpσ_42 chpσ_42 dhpσ_42 ehpσ_42 smσ_42 oxσ_42 nrσ_42 iz_43 if_44 mv9_σ_45 mv12_σ_45 mv14_σ_45 mv15_σ_45 mv16_σ_45 mv27_σ_45; omega) | omega)]; exact klσ_42 j h0 h1
                    have smσ_45 : 0 ≤ (σ_45.1 a 15).toInt ∧ (σ_45.1 a 15).toInt ≤ (σ_45.1 a 16).toInt ∧ (σ_45.1 a 16).toInt ≤ (σ_45.1 a 9).toInt ∧ (σ_45.1 a 9).toInt ≤ 900 ∧ 0 ≤ (σ_45.1 a 14).toInt ∧ (σ_45.1 a 14).toInt ≤ 4 ∧ (σ_45.1 a 14).toInt ≤ 4 * ((σ_45.1 a 16).toInt - (σ_45.1 a 15).toInt) ∧ (σ_45.1 a 14).toInt ≤ 4 * ((σ_45.1 a 9).toInt - (σ_45.1 a 15).toInt) ∧ 0 ≤ (σ_45.1 a 12).toInt ∧ (σ_45.1 a 9).toInt = (σ.1 a 9).toInt ∧ (σ.1 a 15).toInt ≤ (σ_45.1 a 15).toInt ∧ (σ.1 a 12).toInt ≤ (σ_45.1 a 12).toInt := (by first | (rw [mv12_σ_45, mv14_σ_45, mv15_σ_45, mv16_σ_45, mv9_σ_45]; exact smσ_42) | omega)
                    have oxσ_45 : (σ.1 a 15).toInt + 1 ≤ (σ_45.1 a 15).toInt := (by first | (clear hs hz hc2 hn hd bhpσ_2 chpσ_2 dhpσ_2 j20 if_5 if_7 tcσ_8 nsσ_8 taσ_8 tbσ_8 if_9 c_10 kk0 if_11 iz_12 iz_13 if_14 iz_15 dhpσ_18 ehpσ_18 dhpσ_21 ehpσ_21 fhpσ_21 kc_22 bhpσ_24 chpσ_24 chpσ_26 dhpσ_26 ehpσ_26 hm140 c_29 c_30 ahpσ_35 bhpσ_35 chpσ_35 ahpσ_37 chpσ_37 dhpσ_37 ehpσ_37 kc_38 ahpσ_40 bhpσ_40 chpσ_40 ahpσ_42 chpσ_42 dhpσ_42 ehpσ_42 smσ_42 nrσ_42 iz_43 if_44 mv9_σ_45 mv12_σ_45 mv14_σ_45 mv16_σ_45 mv27_σ_45 smσ_45; omega) | omega)
                    have nrσ_45 : (σ.1 a 27).toInt + 1 ≤ (σ_45.1 a 27).toInt ∧ (σ_45.1 a 27).toInt ≤ 30 := (by first | (clear hs hz hc2 hn hd bhpσ_2 chpσ_2 dhpσ_2 j20 if_5 if_7 tcσ_8 taσ_8 tbσ_8 if_9 c_10 kk0 iz_12 iz_13 dhpσ_18 ehpσ_18 dhpσ_21 ehpσ_21 fhpσ_21 kc_22 bhpσ_24 chpσ_24 chpσ_26 dhpσ_26 ehpσ_26 hm140 c_29 c_30 ahpσ_35 bhpσ_35 chpσ_35 ahpσ_37 chpσ_37 dhpσ_37 ehpσ_37 kc_38 ahpσ_40 bhpσ_40 chpσ_40 ahpσ_42 chpσ_42 dhpσ_42 ehpσ_42 smσ_42 oxσ_42 iz_43 mv9_σ_45 mv12_σ_45 mv14_σ_45 mv15_σ_45 mv16_σ_45 smσ_45 oxσ_45; omega) | omega)
                    have fiσ_45 : m_oz (σ_45.1 a 12).toInt (∀ t, (σ.1 a 27).toInt ≤ t → t < (σ_45.1 a 27).toInt → m_stp (m_c X σ_45 a) (4376 + 9 * t) t (σ_45.1 a 27).toInt) := (m_oz.mono lpσ_42 (by first | (clear hs hz hc2 hn hd bhpσ_2 chpσ_2 dhpσ_2 j20 if_5 if_7 tcσ_8 nsσ_8 taσ_8 tbσ_8 if_9 c_10 kk0 if_11 iz_12 iz_13 if_14 iz_15 dhpσ_18 ehpσ_18 dhpσ_21 ehpσ_21 fhpσ_21 kc_22 bhpσ_24 chpσ_24 chpσ_26 dhpσ_26 ehpσ_26 hm140 c_29 c_30 ahpσ_35 bhpσ_35 chpσ_35 ahpσ_37 chpσ_37 dhpσ_37 ehpσ_37 kc_38 ahpσ_40 bhpσ_40 chpσ_40 ahpσ_42 chpσ_42 dhpσ_42 ehpσ_42 oxσ_42 nrσ_42 iz_43 if_44 mv9_σ_45 mv14_σ_45 mv15_σ_45 mv16_σ_45 mv27_σ_45 smσ_45 oxσ_45 nrσ_45; omega) | omega) (by first | (clear hs hz hc2 hn hd bhpσ_2 chpσ_2 dhpσ_2 j20 if_5 if_7 tcσ_8 nsσ_8 taσ_8 tbσ_8 if_9 c_10 kk0 if_11 iz_12 iz_13 if_14 iz_15 dhpσ_18 ehpσ_18 dhpσ_21 ehpσ_21 fhpσ_21 kc_22 bhpσ_24 chpσ_24 chpσ_26 dhpσ_26 ehpσ_26 hm140 c_29 c_30 ahpσ_35 bhpσ_35 chpσ_35 ahpσ_37 chpσ_37 dhpσ_37 ehpσ_37 kc_38 ahpσ_40 bhpσ_40 chpσ_40 ahpσ_42 chpσ_42 dhpσ_42 ehpσ_42 smσ_42 oxσ_42 nrσ_42 iz_43 if_44 mv9_σ_45 mv14_σ_45 mv15_σ_45 mv16_σ_45 mv27_σ_45 smσ_45 oxσ_45 nrσ_45; omega) | omega) (fun h => by have en : (σ_45.1 a 27).toInt = (σ_42.1 a 27).toInt := (by omega); rw [en]; exact m_lp.done h (fun j hj => by rw [mcσ_45 j hj, iz_13]) (by omega) (by first | (clear hs hz hc2 hn hd bhpσ_2 chpσ_2 dhpσ_2 j20 if_5 if_7 tcσ_8 taσ_8 tbσ_8 if_9 c_10 kk0 iz_12 if_14 iz_15 dhpσ_18 ehpσ_18 dhpσ_21 ehpσ_21 fhpσ_21 kc_22 bhpσ_24 chpσ_24 chpσ_26 dhpσ_26 ehpσ_26 hm140 c_29 c_30 ahpσ_35 bhpσ_35 chpσ_35 ahpσ_37 chpσ_37 dhpσ_37 ehpσ_37 kc_38 ahpσ_40 bhpσ_40 chpσ_40 ahpσ_42 chpσ_42 dhpσ_42 ehpσ_42 smσ_42 oxσ_42 nrσ_42 iz_43 if_44 mv9_σ_45 mv12_σ_45 mv14_σ_45 mv15_σ_45 mv16_σ_45 mv27_σ_45 smσ_45 oxσ_45 nrσ_45; omega) | omega) (by first | (clear hs hz hc2 hd bhpσ_2 chpσ_2 dhpσ_2 j20 if_5 if_7 tcσ_8 taσ_8 tbσ_8 if_9 c_10 iz_12 iz_13 dhpσ_18 ehpσ_18 dhpσ_21 ehpσ_21 fhpσ_21 kc_22 bhpσ_24 chpσ_24 chpσ_26 dhpσ_26 ehpσ_26 hm140 c_29 c_30 ahpσ_35 bhpσ_35 chpσ_35 ahpσ_37 chpσ_37 dhpσ_37 ehpσ_37 kc_38 ahpσ_40 bhpσ_40 chpσ_40 ahpσ_42 chpσ_42 dhpσ_42 ehpσ_42 smσ_42 oxσ_42 iz_43 mv9_σ_45 mv12_σ_45 mv14_σ_45 mv15_σ_45 mv16_σ_45 smσ_45 oxσ_45 nrσ_45; omega) | omega)))
                    clear mv9_σ_45 mv12_σ_45 mv14_σ_45 mv15_σ_45 mv16_σ_45 mv27_σ_45 smσ_42 oxσ_42 nrσ_42
                    rewrite [hQQ]; exact q_retv E hr hlk hI ⟨klσ_45, (by first | exact smσ_45 | omega), (by first | exact smσ_45 | omega), (by first | exact smσ_45 | omega), fiσ_45, (hF.trans hout), fr_σ_45⟩ dX12_readStep_204
                · skip
                  replace hF := q_ifn hF c_29
                  exact absurd c_29 (by first | (clear hs hz hc2 hn hd bhpσ_2 chpσ_2 dhpσ_2 if_5 if_7 tcσ_8 nsσ_8 taσ_8 tbσ_8 if_9 c_10 if_11 iz_12 iz_13 if_14 iz_15 dhpσ_18 ehpσ_18 dhpσ_21 ehpσ_21 fhpσ_21 kc_22 bhpσ_24 chpσ_24 chpσ_26 dhpσ_26 ehpσ_26 hm140 c_29; omega) | omega)
            exact L_140_28 ((901 - (σ_26.1 a 15).toInt).toNat + (1 - (σ_26.1 a 12).toInt).toNat + 1) σ_26 _ _ ls (Nat.lt_succ_self _) (by first | (clear hs hz hc2 hd bhpσ_2 chpσ_2 dhpσ_2 j20 if_5 if_7 tcσ_8 taσ_8 tbσ_8 if_9 c_10 iz_12 iz_13 dhpσ_18 ehpσ_18 dhpσ_21 ehpσ_21 fhpσ_21 kc_22 bhpσ_24 chpσ_24 chpσ_26 dhpσ_26 ehpσ_26; omega) | omega) (m_oz.mono rrσ_26 (by first | (clear hs hz hc2 hn hd bhpσ_2 chpσ_2 dhpσ_2 j20 if_5 if_7 tcσ_8 nsσ_8 taσ_8 tbσ_8 if_9 c_10 kk0 if_11 iz_12 iz_13 if_14 iz_15 dhpσ_18 ehpσ_18 dhpσ_21 ehpσ_21 fhpσ_21 kc_22 bhpσ_24 chpσ_24 chpσ_26 dhpσ_26 ehpσ_26; omega) | omega) (Int.le_refl _) (fun h => m_lp.mk h (by rw [cwσ_26]; omega) (by omega))) fr_σ_26 klσ_26 smσ_26 oxσ_26 hF hI (lv_sub hl [1, 2, 3, 4, 0] rfl)
          · skip
            replace hF := q_ifp hF c_10
            rewrite [hQQ]; exact q_retv E hr hlk hI ⟨klσ_8, (by first | exact smσ_8 | omega), (by first | exact smσ_8 | omega), (by first | exact smσ_8 | omega), (fun e => absurd e (by first | exact smσ_8 | omega)), (hF.trans hout), fr_σ_8⟩ dX12_readStep_88
        refine q_if_ne (A := f_7.toInt) E rfl (tgt := 81) dX12_readStep_59 (by decide) (fun c_46 => ?_) (fun c_46 => ?_)
        · skip
          replace hF := q_ifn hF c_46
          exact J_81_8 σ_6 _ _ ls (by first | (clear hs hz hc2 hn hd bhpσ_2 chpσ_2 dhpσ_2 if_5; omega) | omega) fr_σ_6 klσ_6 smσ_6 beσ_6 nsσ_6 taσ_6 tbσ_6 hF hI (lv_sub hl [0, 1, 2, 3] rfl)
        · skip
          replace hF := q_ifp hF c_46
          refine lv_iload_n hx hb dX12_readStep_62 rfl (lv_at hl 3 rfl) ?_
          refine q_if_eq (A := x_3.toInt) E rfl (tgt := 81) dX12_readStep_63 (by decide) (fun c_47 => ?_) (fun c_47 => ?_)
          · skip
            replace hF := q_ifp hF c_47
            exact J_81_8 σ_6 _ _ ls (by first | (clear hs hz hc2 hn hd bhpσ_2 chpσ_2 dhpσ_2 j20 if_5; omega) | omega) fr_σ_6 klσ_6 smσ_6 beσ_6 nsσ_6 taσ_6 tbσ_6 hF hI (lv_sub hl [0, 1, 2, 3] rfl)
          · skip
            replace hF := q_ifn hF c_47
            refine lv_iload_n hx hb dX12_readStep_66 rfl (lv_at hl 1 rfl) ?_
            refine lv_iconst (v := 3) hx hb dX12_readStep_67 zki_3 ?_
            have gc_48_v1 := q_rng v1
            refine q_icmp_ne (A := v1.toInt) (B := 3) E rfl (by decide) (tgt := 81) dX12_readStep_68 (by decide) (fun c_48 => ?_) (fun c_48 => ?_)
            · skip
              replace hF := q_ifn hF c_48
              exact J_81_8 σ_6 _ _ ls (by first | (clear hs hz hc2 hn bhpσ_2 chpσ_2 dhpσ_2 j20 if_5 if_7 c_46 c_47 gc_48_v1; omega) | omega) fr_σ_6 klσ_6 smσ_6 beσ_6 nsσ_6 taσ_6 tbσ_6 hF hI (lv_sub hl [0, 1, 2, 3] rfl)
            · skip
              replace hF := q_ifp hF c_48
              refine lv_aload_n hx hb dX12_readStep_71 rfl (lv_at hl 0 rfl) ?_
              refine lv_bipush (v := 7) hx hb dX12_readStep_72 zkb_7 ?_
              refine lv_aload_n hx hb dX12_readStep_74 rfl (lv_at hl 0 rfl) ?_
              refine gs_X12_104_12 E hI ha dX12_readStep_75 ?_
              refine lv_topi (fun f_49 ef_49 => ?_)
              replace hF := q_letX hF ef_49
              have if_49 : f_49.toInt = (σ_6.1 a 15).toInt := congrArg Int32.toInt ef_49
              have kc_50 : (7 : Int32).toInt = 7 := zt_7
              refine q_cv (q_rV11_2 (rest := []) E (hml.trans hl.1.symm) hI (c_X12_fail l X σ_6 a (7 : Int32) f_49 ha (by first | (clear hs hz hc2 hn hd bhpσ_2 chpσ_2 dhpσ_2 j20 if_5 c_47 gc_48_v1 c_48 if_49 kc_50; omega) | omega) (by first | (clear hs hz hc2 hn hd bhpσ_2 chpσ_2 dhpσ_2 j20 if_5 if_7 c_46 c_47 gc_48_v1 c_48 if_49; omega) | omega)) kv_X12_193 ha ⟨Nat.le_of_ble_eq_true rfl, Nat.le_of_ble_eq_true rfl⟩ (Nat.le_of_ble_eq_true rfl) dX12_readStep_78) hI (Nat.le_of_ble_eq_true rfl) (fun σ_52 H locs hpσ_52 hkσ_52 hI => ?_)
              have ahpσ_52 := hpσ_52.1
              have bhpσ_52 := hpσ_52.2.1
              have chpσ_52 := hpσ_52.2.2.1
              have dhpσ_52 := hpσ_52.2.2.2.1
              have ehpσ_52 := hpσ_52.2.2.2.2
              clear hpσ_52
              have fr_σ_52 := fr_σ_6.call ehpσ_52 rfl rfl
              replace hF := q_letX hF dhpσ_52
              have mv27_σ_52 : (σ_52.1 a 27).toInt = (σ_6.1 a 27).toInt := congrArg Int32.toInt (ahpσ_52 a 27 (q_cl9 _ _) (fun h => absurd h.2.2 (by decide)))
              have mcσ_52 := m_cK hkσ_52 hI.1 ha (by decide)
              have klσ_52 : ∀ j, 0 ≤ j → j < 4376 + 9 * (σ.1 a 27).toInt → m_c X σ_52 a j = m_c X σ a j := fun j h0 h1 => (mcσ_52 j).trans (klσ_6 j h0 h1)
              have smσ_52 : 0 ≤ (σ_52.1 a 15).toInt ∧ (σ_52.1 a 15).toInt ≤ (σ_52.1 a 16).toInt ∧ (σ_52.1 a 16).toInt ≤ (σ_52.1 a 9).toInt ∧ (σ_52.1 a 9).toInt ≤ 900 ∧ 0 ≤ (σ_52.1 a 14).toInt ∧ (σ_52.1 a 14).toInt ≤ 4 ∧ (σ_52.1 a 14).toInt ≤ 4 * ((σ_52.1 a 16).toInt - (σ_52.1 a 15).toInt) ∧ (σ_52.1 a 14).toInt ≤ 4 * ((σ_52.1 a 9).toInt - (σ_52.1 a 15).toInt) ∧ 0 ≤ (σ_52.1 a 12).toInt ∧ (σ_52.1 a 9).toInt = (σ.1 a 9).toInt ∧ (σ.1 a 15).toInt ≤ (σ_52.1 a 15).toInt ∧ (σ.1 a 12).toInt ≤ (σ_52.1 a 12).toInt := (by first | exact sm_fl smσ_6 bhpσ_52 chpσ_52 | omega)
              have beσ_52 : (σ_52.1 a 16).toInt = (σ.1 a 16).toInt := (by first | (clear hs hz hc2 hn hd bhpσ_2 chpσ_2 dhpσ_2 j20 if_5 if_7 c_46 c_47 gc_48_v1 c_48 if_49 kc_50 ahpσ_52 chpσ_52 dhpσ_52 ehpσ_52 mv27_σ_52 smσ_52; omega) | omega)
              have nsσ_52 : (σ_52.1 a 27).toInt = (σ.1 a 27).toInt := (by omega)
              have taσ_52 : 0 ≤ r_1.toInt + (σ_52.1 a 12).toInt := (by first | (clear hs hz hc2 hn hd bhpσ_2 chpσ_2 dhpσ_2 j20 if_5 c_47 gc_48_v1 c_48 if_49 kc_50 ahpσ_52 bhpσ_52 dhpσ_52 ehpσ_52 mv27_σ_52 smσ_52 beσ_52 nsσ_52; omega) | omega)
              have tbσ_52 : (σ.1 a 27).toInt ≤ 29 + (σ_52.1 a 12).toInt := (by first | (clear hs hz hc2 hd bhpσ_2 chpσ_2 dhpσ_2 j20 if_5 c_47 gc_48_v1 c_48 if_49 kc_50 ahpσ_52 bhpσ_52 dhpσ_52 ehpσ_52 smσ_52 beσ_52 nsσ_52 taσ_52; omega) | omega)
              clear mv27_σ_52 smσ_6 beσ_6 nsσ_6 taσ_6 tbσ_6 bhpσ_52
              exact J_81_8 σ_52 _ _ ls (by first | (clear hs hz hc2 hn hd bhpσ_2 chpσ_2 dhpσ_2 if_5 if_7 c_46 c_47 gc_48_v1 c_48 if_49 kc_50 ahpσ_52 dhpσ_52 ehpσ_52 smσ_52 beσ_52 nsσ_52 taσ_52 tbσ_52; omega) | omega) fr_σ_52 klσ_52 smσ_52 beσ_52 nsσ_52 taσ_52 tbσ_52 hF hI (lv_sub hl [0, 1, 2, 3] rfl)
      refine q_if_ne (A := f_5.toInt) E rfl (tgt := 55) dX12_readStep_33 (by decide) (fun c_53 => ?_) (fun c_53 => ?_)
      · skip
        replace hF := q_ifn hF c_53
        exact J_55_6 σ_4 _ _ ls (by first | (clear hs hz hc2 hd bhpσ_2 chpσ_2 dhpσ_2 j20; omega) | omega) fr_σ_4 klσ_4 smσ_4 beσ_4 nsσ_4 taσ_4 hF hI (lv_sub hl [0, 1, 2, 3] rfl)
      · skip
        replace hF := q_ifp hF c_53
        refine lv_aload_n hx hb dX12_readStep_36 rfl (lv_at hl 0 rfl) ?_
        refine gs_X12_267_12 E hI ha dX12_readStep_37 ?_
        refine lv_topi (fun f_54 ef_54 => ?_)
        replace hF := q_letX hF ef_54
        have if_54 : f_54.toInt = (σ_4.1 a 27).toInt := congrArg Int32.toInt ef_54
        refine lv_bipush (v := 30) hx hb dX12_readStep_40 zkb_30 ?_
        have gc_55_f_54 := q_rng f_54
        refine q_icmp_ne (A := f_54.toInt) (B := 30) E rfl (by decide) (tgt := 55) dX12_readStep_42 (by decide) (fun c_55 => ?_) (fun c_55 => ?_)
        · skip
          replace hF := q_ifn hF c_55
          exact J_55_6 σ_4 _ _ ls (by first | (clear hs hz hc2 hd bhpσ_2 chpσ_2 dhpσ_2 j20 gc_55_f_54; omega) | omega) fr_σ_4 klσ_4 smσ_4 beσ_4 nsσ_4 taσ_4 hF hI (lv_sub hl [0, 1, 2, 3] rfl)
        · skip
          replace hF := q_ifp hF c_55
          refine lv_aload_n hx hb dX12_readStep_45 rfl (lv_at hl 0 rfl) ?_
          refine lv_bipush (v := 6) hx hb dX12_readStep_46 zkb_6 ?_
          refine lv_aload_n hx hb dX12_readStep_48 rfl (lv_at hl 0 rfl) ?_
          refine gs_X12_104_12 E hI ha dX12_readStep_49 ?_
          refine lv_topi (fun f_56 ef_56 => ?_)
          replace hF := q_letX hF ef_56
          have if_56 : f_56.toInt = (σ_4.1 a 15).toInt := congrArg Int32.toInt ef_56
          have kc_57 : (6 : Int32).toInt = 6 := zt_6
          refine q_cv (q_rV11_2 (rest := []) E (hml.trans hl.1.symm) hI (c_X12_fail l X σ_4 a (6 : Int32) f_56 ha (by first | (clear hs hz hc2 hn hd bhpσ_2 chpσ_2 dhpσ_2 j20 if_54 gc_55_f_54 c_55 if_56 kc_57; omega) | omega) (by first | (clear hs hz hc2 hn hd bhpσ_2 chpσ_2 dhpσ_2 j20 if_5 c_53 if_54 gc_55_f_54 c_55 if_56; omega) | omega)) kv_X12_193 ha ⟨Nat.le_of_ble_eq_true rfl, Nat.le_of_ble_eq_true rfl⟩ (Nat.le_of_ble_eq_true rfl) dX12_readStep_52) hI (Nat.le_of_ble_eq_true rfl) (fun σ_59 H locs hpσ_59 hkσ_59 hI => ?_)
          have ahpσ_59 := hpσ_59.1
          have bhpσ_59 := hpσ_59.2.1
          have chpσ_59 := hpσ_59.2.2.1
          have dhpσ_59 := hpσ_59.2.2.2.1
          have ehpσ_59 := hpσ_59.2.2.2.2
          clear hpσ_59
          have fr_σ_59 := fr_σ_4.call ehpσ_59 rfl rfl
          replace hF := q_letX hF dhpσ_59
          have mv27_σ_59 : (σ_59.1 a 27).toInt = (σ_4.1 a 27).toInt := congrArg Int32.toInt (ahpσ_59 a 27 (q_cl9 _ _) (fun h => absurd h.2.2 (by decide)))
          have mcσ_59 := m_cK hkσ_59 hI.1 ha (by decide)
          have klσ_59 : ∀ j, 0 ≤ j → j < 4376 + 9 * (σ.1 a 27).toInt → m_c X σ_59 a j = m_c X σ a j := fun j h0 h1 => (mcσ_59 j).trans (klσ_4 j h0 h1)
          have smσ_59 : 0 ≤ (σ_59.1 a 15).toInt ∧ (σ_59.1 a 15).toInt ≤ (σ_59.1 a 16).toInt ∧ (σ_59.1 a 16).toInt ≤ (σ_59.1 a 9).toInt ∧ (σ_59.1 a 9).toInt ≤ 900 ∧ 0 ≤ (σ_59.1 a 14).toInt ∧ (σ_59.1 a 14).toInt ≤ 4 ∧ (σ_59.1 a 14).toInt ≤ 4 * ((σ_59.1 a 16).toInt - (σ_59.1 a 15).toInt) ∧ (σ_59.1 a 14).toInt ≤ 4 * ((σ_59.1 a 9).toInt - (σ_59.1 a 15).toInt) ∧ 0 ≤ (σ_59.1 a 12).toInt ∧ (σ_59.1 a 9).toInt = (σ.1 a 9).toInt ∧ (σ.1 a 15).toInt ≤ (σ_59.1 a 15).toInt ∧ (σ.1 a 12).toInt ≤ (σ_59.1 a 12).toInt := (by first | exact sm_fl smσ_4 bhpσ_59 chpσ_59 | omega)
          have beσ_59 : (σ_59.1 a 16).toInt = (σ.1 a 16).toInt := (by first | (clear hs hz hc2 hn hd bhpσ_2 chpσ_2 dhpσ_2 j20 if_5 c_53 if_54 gc_55_f_54 c_55 if_56 kc_57 ahpσ_59 chpσ_59 dhpσ_59 ehpσ_59 mv27_σ_59 smσ_59; omega) | omega)
          have nsσ_59 : (σ_59.1 a 27).toInt = (σ.1 a 27).toInt := (by first | (clear hs hz hc2 hn hd bhpσ_2 chpσ_2 dhpσ_2 j20 if_5 c_53 gc_55_f_54 if_56 kc_57 ahpσ_59 bhpσ_59 chpσ_59 dhpσ_59 ehpσ_59 smσ_59 beσ_59; omega) | omega)
          have taσ_59 : 0 ≤ r_1.toInt + (σ_59.1 a 12).toInt := (by first | (clear hs hz hc2 hn hd bhpσ_2 chpσ_2 dhpσ_2 j20 if_54 gc_55_f_54 c_55 if_56 kc_57 ahpσ_59 bhpσ_59 dhpσ_59 ehpσ_59 mv27_σ_59 smσ_59 beσ_59 nsσ_59; omega) | omega)
          clear mv27_σ_59 smσ_4 beσ_4 nsσ_4 taσ_4 bhpσ_59
          exact J_55_6 σ_59 _ _ ls (by first | (clear hs hz hc2 hd bhpσ_2 chpσ_2 dhpσ_2 j20 if_5 c_53 if_54 gc_55_f_54 c_55 if_56 kc_57 ahpσ_59 dhpσ_59 ehpσ_59 smσ_59 beσ_59 taσ_59; omega) | omega) fr_σ_59 klσ_59 smσ_59 beσ_59 nsσ_59 taσ_59 hF hI (lv_sub hl [0, 1, 2, 3] rfl)
    refine q_if_ge (A := r_1.toInt) E rfl (tgt := 29) dX12_readStep_22 (by decide) (fun c_60 => ?_) (fun c_60 => ?_)
    · skip
      replace hF := q_ifn hF (Int.not_lt.mpr c_60)
      exact J_29_4 σ _ _ ls (by first | (clear hs hc2 hn hd chpσ_2 dhpσ_2 j20; omega) | omega) fr_σ klσ smσ beσ nsσ hF hI (lv_sub hl [1, 2, 3, 0] rfl)
    · skip
      replace hF := q_ifp hF c_60
      refine lv_aload_n hx hb dX12_readStep_25 rfl (lv_at hl 1 rfl) ?_
      refine q_cv (q_rV11_0 (rest := []) E (hml.trans hl.1.symm) hI (c_X12_wrong l X σ a ha (by first | (clear hs hc2 hn hd bhpσ_2 chpσ_2 dhpσ_2 j20 c_60; omega) | omega)) kv_X12_200 ha ⟨Nat.le_of_ble_eq_true rfl, Nat.le_of_ble_eq_true rfl⟩ (Nat.le_of_ble_eq_true rfl) dX12_readStep_26) hI (Nat.le_of_ble_eq_true rfl) (fun σ_62 H locs hpσ_62 hkσ_62 hI => ?_)
      have ahpσ_62 := hpσ_62.1
      have bhpσ_62 := hpσ_62.2.1
      have chpσ_62 := hpσ_62.2.2.1
      have dhpσ_62 := hpσ_62.2.2.2.1
      have ehpσ_62 := hpσ_62.2.2.2.2
      clear hpσ_62
      have fr_σ_62 := fr_σ.call ehpσ_62 rfl rfl
      replace hF := q_letX hF dhpσ_62
      have mv27_σ_62 : (σ_62.1 a 27).toInt = (σ.1 a 27).toInt := congrArg Int32.toInt (ahpσ_62 a 27 (q_cl9 _ _) (fun h => absurd h.2.2 (by decide)))
      have mcσ_62 := m_cK hkσ_62 hI.1 ha (by decide)
      have klσ_62 : ∀ j, 0 ≤ j → j < 4376 + 9 * (σ.1 a 27).toInt → m_c X σ_62 a j = m_c X σ a j := fun j h0 h1 => (mcσ_62 j).trans (klσ j h0 h1)
      have smσ_62 : 0 ≤ (σ_62.1 a 15).toInt ∧ (σ_62.1 a 15).toInt ≤ (σ_62.1 a 16).toInt ∧ (σ_62.1 a 16).toInt ≤ (σ_62.1 a 9).toInt ∧ (σ_62.1 a 9).toInt ≤ 900 ∧ 0 ≤ (σ_62.1 a 14).toInt ∧ (σ_62.1 a 14).toInt ≤ 4 ∧ (σ_62.1 a 14).toInt ≤ 4 * ((σ_62.1 a 16).toInt - (σ_62.1 a 15).toInt) ∧ (σ_62.1 a 14).toInt ≤ 4 * ((σ_62.1 a 9).toInt - (σ_62.1 a 15).toInt) ∧ 0 ≤ (σ_62.1 a 12).toInt ∧ (σ_62.1 a 9).toInt = (σ.1 a 9).toInt ∧ (σ.1 a 15).toInt ≤ (σ_62.1 a 15).toInt ∧ (σ.1 a 12).toInt ≤ (σ_62.1 a 12).toInt := (by first | exact sm_fl smσ bhpσ_62 chpσ_62 | omega)
      have beσ_62 : (σ_62.1 a 16).toInt = (σ.1 a 16).toInt := (by first | (clear hs hz hc2 hn hd bhpσ_2 chpσ_2 dhpσ_2 j20 c_60 ahpσ_62 chpσ_62 dhpσ_62 ehpσ_62 mv27_σ_62 smσ_62; omega) | omega)
      have nsσ_62 : (σ_62.1 a 27).toInt = (σ.1 a 27).toInt := (by omega)
      clear mv27_σ_62 smσ beσ nsσ bhpσ_62
      exact J_29_4 σ_62 _ _ ls (by first | (clear hs hz hc2 hn hd chpσ_2 dhpσ_2 j20 ahpσ_62 dhpσ_62 ehpσ_62 smσ_62 beσ_62 nsσ_62; omega) | omega) fr_σ_62 klσ_62 smσ_62 beσ_62 nsσ_62 hF hI (lv_sub hl [1, 2, 3, 0] rfl)
  have gc_63_r_1 := q_rng r_1
  refine q_icmp_eq (A := r_1.toInt) (B := 3) E rfl (by decide) (tgt := 15) dX12_readStep_7 (by decide) (fun c_63 => ?_) (fun c_63 => ?_)
  · skip
    replace hF := q_ifp hF c_63
    refine lv_iconst (v := 1) hx hb dX12_readStep_15 zki_1 ?_
    refine lv_goto (tgt := 20) hx hb dX12_readStep_16 (by decide) ?_
    have kc_64 : (1 : Int32).toInt = 1 := zt_1
    exact J_20_3 1 _ _ ls (by first | (clear hs hz hc2 hn hd bhpσ_2 chpσ_2 dhpσ_2 gc_63_r_1 c_63; omega) | omega) hF hI (lv_sub hl [1, 2, 0] rfl)
  · skip
    replace hF := q_ifn hF c_63
    refine lv_iload_n hx hb dX12_readStep_10 rfl (lv_at hl 0 rfl) ?_
    refine lv_iconst (v := 4) hx hb dX12_readStep_11 zki_4 ?_
    have gc_65_r_1 := q_rng r_1
    refine q_icmp_ne (A := r_1.toInt) (B := 4) E rfl (by decide) (tgt := 19) dX12_readStep_12 (by decide) (fun c_65 => ?_) (fun c_65 => ?_)
    · skip
      replace hF := q_ifn hF c_65
      refine lv_iconst (v := 0) hx hb dX12_readStep_19 zki_0 ?_
      have kc_66 : (0 : Int32).toInt = 0 := zt_0
      exact J_20_3 0 _ _ ls (by first | (clear hs hz hc2 hn hd bhpσ_2 chpσ_2 dhpσ_2 gc_63_r_1 c_63 gc_65_r_1 c_65; omega) | omega) hF hI (lv_sub hl [1, 2, 0] rfl)
    · skip
      replace hF := q_ifp hF c_65
      refine lv_iconst (v := 1) hx hb dX12_readStep_15 zki_1 ?_
      refine lv_goto (tgt := 20) hx hb dX12_readStep_16 (by decide) ?_
      have kc_67 : (1 : Int32).toInt = 1 := zt_1
      exact J_20_3 1 _ _ ls (by first | (clear hs hz hc2 hn hd bhpσ_2 chpσ_2 dhpσ_2 gc_63_r_1 c_63 gc_65_r_1 c_65; omega) | omega) hF hI (lv_sub hl [1, 2, 0] rfl)

theorem rm_f {x f w : Nat} (h : 9 ≤ f) (k : x ≤ 10) : x ≤ (q_rm (f + 1) (24 + w)).frames := Nat.le_trans k (Nat.succ_le_succ h)
theorem rm_w {x f w : Nat} (h : 197 ≤ w) (k : x ≤ 221) : x ≤ (q_rm (f + 1) (24 + w)).locals := Nat.le_trans k (Nat.add_le_add_left h 24)
set_option maxRecDepth 100000 in
set_option maxHeartbeats 4000000 in
theorem c_X12_readStep_g (l : Launch) (X : XW) (a : Nat) (ha : q_kd X a = 12) (rmf rmw : Nat) (hrf : 9 ≤ rmf) (hrw : 197 ≤ rmw) (kd : Int) (hkd : 0 ≤ kd ∧ kd ≤ 2) (G_D : XW → ST → Nat → Int32 → ST) (G_E168_6 : XW → Int32 → Int32 → ST → Nat → ST) (G_E168_7 : XW → Int32 → Int32 → ST → Nat → ST) (G_E168_8 : XW → Int32 → Int32 → ST → Nat → ST) (G_B140_5 : XW → Int32 → Int32 → Nat → Int32 → (ST → ST) → ST → ST) (G_L140_5 : XW → Int32 → Int32 → Nat → Int32 → Nat → ST → ST) (G_J81_4 : XW → Nat → Int32 → Int32 → Int32 → ST → ST) (G_J55_3 : XW → Nat → Int32 → Int32 → Int32 → ST → ST) (G_J29_2 : XW → Nat → Int32 → Int32 → Int32 → ST → ST) (G_J20_1 : XW → Int32 → ST → Nat → Int32 → Int32 → ST) (G_F : XW → ST → Nat → Int32 → ST) (eG_E168_6 : ∀ (X : XW) (x_3 : Int32) (z_13 : Int32) (σ_27 : ST) (a : Nat), G_E168_6 X x_3 z_13 σ_27 a = if x_3.toInt = 0 then q_let (z_13 + (8 : Int32) : Int32) (fun z_31 => q_let (σ_27.1 a 27 : Int32) (fun f_32 => q_let (q_si σ_27 (q_rf X a 20) z_31.toNatClampNeg f_32 : ST) (fun σ_33 => σ_33))) else q_let (F_X12_isEnd X σ_27 a : Int32) (fun r_34 => q_let (F_X12_must X σ_27 a r_34 : ST) (fun σ_37 => q_let (F_X12_isSign X σ_37 a (59 : Int32) : Int32) (fun r_39 => q_let (F_X12_must X σ_37 a r_39 : ST) (fun σ_42 => q_let (z_13 + (8 : Int32) : Int32) (fun z_43 => q_let (σ_42.1 a 27 : Int32) (fun f_44 => q_let (q_si σ_42 (q_rf X a 20) z_43.toNatClampNeg f_44 : ST) (fun σ_45 => σ_45)))))))) (eG_E168_7 : ∀ (X : XW) (x_3 : Int32) (z_13 : Int32) (σ_27 : ST) (a : Nat), G_E168_7 X x_3 z_13 σ_27 a = if x_3.toInt = 0 then q_let (z_13 + (8 : Int32) : Int32) (fun z_49 => q_let (σ_27.1 a 27 : Int32) (fun f_50 => q_let (q_si σ_27 (q_rf X a 20) z_49.toNatClampNeg f_50 : ST) (fun σ_51 => σ_51))) else q_let (F_X12_isEnd X σ_27 a : Int32) (fun r_52 => q_let (F_X12_must X σ_27 a r_52 : ST) (fun σ_55 => q_let (F_X12_isSign X σ_55 a (59 : Int32) : Int32) (fun r_57 => q_let (F_X12_must X σ_55 a r_57 : ST) (fun σ_60 => q_let (z_13 + (8 : Int32) : Int32) (fun z_61 => q_let (σ_60.1 a 27 : Int32) (fun f_62 => q_let (q_si σ_60 (q_rf X a 20) z_61.toNatClampNeg f_62 : ST) (fun σ_63 => σ_63)))))))) (eG_E168_8 : ∀ (X : XW) (x_3 : Int32) (z_13 : Int32) (σ_27 : ST) (a : Nat), G_E168_8 X x_3 z_13 σ_27 a = if x_3.toInt = 0 then q_let (z_13 + (8 : Int32) : Int32) (fun z_68 => q_let (σ_27.1 a 27 : Int32) (fun f_69 => q_let (q_si σ_27 (q_rf X a 20) z_68.toNatClampNeg f_69 : ST) (fun σ_70 => σ_70))) else q_let (F_X12_isEnd X σ_27 a : Int32) (fun r_71 => q_let (F_X12_must X σ_27 a r_71 : ST) (fun σ_74 => q_let (F_X12_isSign X σ_74 a (59 : Int32) : Int32) (fun r_76 => q_let (F_X12_must X σ_74 a r_76 : ST) (fun σ_79 => q_let (z_13 + (8 : Int32) : Int32) (fun z_80 => q_let (σ_79.1 a 27 : Int32) (fun f_81 => q_let (q_si σ_79 (q_rf X a 20) z_80.toNatClampNeg f_81 : ST) (fun σ_82 => σ_82)))))))) (eG_B140_5 : ∀ (X : XW) (x_3 : Int32) (z_13 : Int32) (a : Nat) (v1 : Int32) (B140_5 : ST → ST) (σ_27 : ST), G_B140_5 X x_3 z_13 a v1 B140_5 σ_27 = if x_3.toInt = 0 then G_E168_6 X x_3 z_13 σ_27 a else q_let (σ_27.1 a 12 : Int32) (fun f_46 => if f_46.toInt = 0 then q_let (F_X12_isEnd X σ_27 a : Int32) (fun r_64 => if r_64.toInt = 0 then q_let (v1 + (1 : Int32) : Int32) (fun z_83 => q_let (G_D X σ_27 a z_83 : ST) (fun σ_85 => B140_5 σ_85)) else G_E168_8 X x_3 z_13 σ_27 a) else G_E168_7 X x_3 z_13 σ_27 a)) (eG_L140_5_s : ∀ (X : XW) (x_3 : Int32) (z_13 : Int32) (a : Nat) (v1 : Int32) (k_ : Nat) (σ_27 : ST), G_L140_5 X x_3 z_13 a v1 (k_ + 1) σ_27 = G_B140_5 X x_3 z_13 a v1 (G_L140_5 X x_3 z_13 a v1 k_) σ_27) (eG_J81_4 : ∀ (X : XW) (a : Nat) (r_1 : Int32) (x_3 : Int32) (v1 : Int32) (σ_8 : ST), G_J81_4 X a r_1 x_3 v1 σ_8 = q_let (σ_8.1 a 12 : Int32) (fun f_9 => if 0 < f_9.toInt then σ_8 else q_let (σ_8.1 a 27 : Int32) (fun f_11 => q_let ((9 : Int32) * f_11 : Int32) (fun z_12 => q_let ((4376 : Int32) + z_12 : Int32) (fun z_13 => q_let (σ_8.1 a 27 : Int32) (fun f_14 => q_let (f_14 + (1 : Int32) : Int32) (fun z_15 => q_let (q_si σ_8 a 27 z_15 : ST) (fun σ_16 => q_let (F_X12_next X σ_16 a : ST) (fun σ_18 => q_let (q_si σ_18 (q_rf X a 20) z_13.toNatClampNeg r_1 : ST) (fun σ_19 => q_let (F_X12_readRest X σ_19 a z_13 : ST) (fun σ_21 => q_let (F_X12_isSign X σ_21 a (59 : Int32) : Int32) (fun r_23 => q_let (F_X12_must X σ_21 a r_23 : ST) (fun σ_26 => G_L140_5 X x_3 z_13 a v1 ((901 - (σ_26.1 a 15).toInt).toNat + (1 - (σ_26.1 a 12).toInt).toNat + 1) σ_26))))))))))))) (eG_J55_3 : ∀ (X : XW) (a : Nat) (x_3 : Int32) (r_1 : Int32) (v1 : Int32) (σ_6 : ST), G_J55_3 X a x_3 r_1 v1 σ_6 = q_let (σ_6.1 a 12 : Int32) (fun f_7 => if f_7.toInt = 0 then if x_3.toInt = 0 then G_J81_4 X a r_1 x_3 v1 σ_6 else if v1.toInt = 3 then q_let (σ_6.1 a 15 : Int32) (fun f_89 => q_let (F_X12_fail X σ_6 a (7 : Int32) f_89 : ST) (fun σ_92 => G_J81_4 X a r_1 x_3 v1 σ_92)) else G_J81_4 X a r_1 x_3 v1 σ_6 else G_J81_4 X a r_1 x_3 v1 σ_6)) (eG_J29_2 : ∀ (X : XW) (a : Nat) (x_3 : Int32) (r_1 : Int32) (v1 : Int32) (σ_4 : ST), G_J29_2 X a x_3 r_1 v1 σ_4 = q_let (σ_4.1 a 12 : Int32) (fun f_5 => if f_5.toInt = 0 then q_let (σ_4.1 a 27 : Int32) (fun f_94 => if f_94.toInt = 30 then q_let (σ_4.1 a 15 : Int32) (fun f_96 => q_let (F_X12_fail X σ_4 a (6 : Int32) f_96 : ST) (fun σ_99 => G_J55_3 X a x_3 r_1 v1 σ_99)) else G_J55_3 X a x_3 r_1 v1 σ_4) else G_J55_3 X a x_3 r_1 v1 σ_4)) (eG_J20_1 : ∀ (X : XW) (r_1 : Int32) (σ : ST) (a : Nat) (v1 : Int32) (x_3 : Int32), G_J20_1 X r_1 σ a v1 x_3 = if r_1.toInt < 0 then q_let (F_X12_wrong X σ a : ST) (fun σ_102 => G_J29_2 X a x_3 r_1 v1 σ_102) else G_J29_2 X a x_3 r_1 v1 σ) (eG_F : ∀ (X : XW) (σ : ST) (a : Nat) (v1 : Int32), G_F X σ a v1 = q_let (F_X12_stepWord X σ a : Int32) (fun r_1 => if r_1.toInt = 3 then G_J20_1 X r_1 σ a v1 (1 : Int32) else if r_1.toInt = 4 then G_J20_1 X r_1 σ a v1 (1 : Int32) else G_J20_1 X r_1 σ a v1 (0 : Int32))) (hC : ∀ (σ : ST) (v1 : Int32) (hs : 0 ≤ (σ.1 a 15).toInt ∧ (σ.1 a 15).toInt ≤ (σ.1 a 16).toInt ∧ (σ.1 a 16).toInt ≤ (σ.1 a 9).toInt ∧ (σ.1 a 9).toInt ≤ 900 ∧ 0 ≤ (σ.1 a 14).toInt ∧ (σ.1 a 14).toInt ≤ 4 ∧ (σ.1 a 14).toInt ≤ 4 * ((σ.1 a 16).toInt - (σ.1 a 15).toInt) ∧ (σ.1 a 14).toInt ≤ 4 * ((σ.1 a 9).toInt - (σ.1 a 15).toInt) ∧ 0 ≤ (σ.1 a 12).toInt) (hz : (σ.1 a 12).toInt = 0) (hc2 : m_c X σ a 2 ≤ 6) (hn : 0 ≤ (σ.1 a 27).toInt ∧ (σ.1 a 27).toInt ≤ 30) (hd : v1.toInt = kd + 1), Met l yX12_readStep (q_ws yX12_readStep cX12_readStep 5 none) (q_rm rmf rmw) (q_P X σ [.ref a, .int v1]) (q_Qv X 1 σ (fun (σ' : ST) => (∀ j, 0 ≤ j → j < 4376 + 9 * (σ.1 a 27).toInt → m_c X σ' a j = m_c X σ a j) ∧ (0 ≤ (σ'.1 a 15).toInt ∧ (σ'.1 a 15).toInt ≤ (σ'.1 a 16).toInt ∧ (σ'.1 a 16).toInt ≤ (σ'.1 a 9).toInt ∧ (σ'.1 a 9).toInt ≤ 900 ∧ 0 ≤ (σ'.1 a 14).toInt ∧ (σ'.1 a 14).toInt ≤ 4 ∧ (σ'.1 a 14).toInt ≤ 4 * ((σ'.1 a 16).toInt - (σ'.1 a 15).toInt) ∧ (σ'.1 a 14).toInt ≤ 4 * ((σ'.1 a 9).toInt - (σ'.1 a 15).toInt) ∧ 0 ≤ (σ'.1 a 12).toInt ∧ (σ'.1 a 9).toInt = (σ.1 a 9).toInt ∧ (σ.1 a 15).toInt ≤ (σ'.1 a 15).toInt ∧ (σ.1 a 12).toInt ≤ (σ'.1 a 12).toInt) ∧ ((σ.1 a 15).toInt + 1 ≤ (σ'.1 a 15).toInt + 1000 * (σ'.1 a 12).toInt) ∧ ((σ.1 a 27).toInt ≤ (σ'.1 a 27).toInt ∧ (σ'.1 a 27).toInt ≤ 30) ∧ (m_oz (σ'.1 a 12).toInt (∀ t, (σ.1 a 27).toInt ≤ t → t < (σ'.1 a 27).toInt → m_stp (m_c X σ' a) (4376 + 9 * t) t (σ'.1 a 27).toInt)) ∧ σ' = G_D X σ a v1 ∧ q_ow [(12, 12), (12, 13), (12, 14), (12, 15), (12, 16), (12, 17), (12, 18), (12, 27), (34, 99)] [(12, 19)] X σ σ')) 0 0 (q_reg X)) (σ : ST) (v1 : Int32) (hs : 0 ≤ (σ.1 a 15).toInt ∧ (σ.1 a 15).toInt ≤ (σ.1 a 16).toInt ∧ (σ.1 a 16).toInt ≤ (σ.1 a 9).toInt ∧ (σ.1 a 9).toInt ≤ 900 ∧ 0 ≤ (σ.1 a 14).toInt ∧ (σ.1 a 14).toInt ≤ 4 ∧ (σ.1 a 14).toInt ≤ 4 * ((σ.1 a 16).toInt - (σ.1 a 15).toInt) ∧ (σ.1 a 14).toInt ≤ 4 * ((σ.1 a 9).toInt - (σ.1 a 15).toInt) ∧ 0 ≤ (σ.1 a 12).toInt) (hz : (σ.1 a 12).toInt = 0) (hc2 : m_c X σ a 2 ≤ 6) (hn : 0 ≤ (σ.1 a 27).toInt ∧ (σ.1 a 27).toInt ≤ 30) (hd : v1.toInt = kd) : Met l yX12_readStep (q_ws yX12_readStep cX12_readStep 5 none) (q_rm (rmf + 1) (24 + rmw)) (q_P X σ [.ref a, .int v1]) (q_Qv X 1 σ (fun (σ' : ST) => (∀ j, 0 ≤ j → j < 4376 + 9 * (σ.1 a 27).toInt → m_c X σ' a j = m_c X σ a j) ∧ (0 ≤ (σ'.1 a 15).toInt ∧ (σ'.1 a 15).toInt ≤ (σ'.1 a 16).toInt ∧ (σ'.1 a 16).toInt ≤ (σ'.1 a 9).toInt ∧ (σ'.1 a 9).toInt ≤ 900 ∧ 0 ≤ (σ'.1 a 14).toInt ∧ (σ'.1 a 14).toInt ≤ 4 ∧ (σ'.1 a 14).toInt ≤ 4 * ((σ'.1 a 16).toInt - (σ'.1 a 15).toInt) ∧ (σ'.1 a 14).toInt ≤ 4 * ((σ'.1 a 9).toInt - (σ'.1 a 15).toInt) ∧ 0 ≤ (σ'.1 a 12).toInt ∧ (σ'.1 a 9).toInt = (σ.1 a 9).toInt ∧ (σ.1 a 15).toInt ≤ (σ'.1 a 15).toInt ∧ (σ.1 a 12).toInt ≤ (σ'.1 a 12).toInt) ∧ ((σ.1 a 15).toInt + 1 ≤ (σ'.1 a 15).toInt + 1000 * (σ'.1 a 12).toInt) ∧ ((σ.1 a 27).toInt ≤ (σ'.1 a 27).toInt ∧ (σ'.1 a 27).toInt ≤ 30) ∧ (m_oz (σ'.1 a 12).toInt (∀ t, (σ.1 a 27).toInt ≤ t → t < (σ'.1 a 27).toInt → m_stp (m_c X σ' a) (4376 + 9 * t) t (σ'.1 a 27).toInt)) ∧ σ' = G_F X σ a v1 ∧ q_ow [(12, 12), (12, 13), (12, 14), (12, 15), (12, 16), (12, 17), (12, 18), (12, 27), (34, 99)] [(12, 19)] X σ σ')) 0 0 (q_reg X) := by
  refine q_metQ 1 (by first | exact rfl | decide +kernel) rfl (Nat.le_of_ble_eq_true rfl) (fun QQ hQQ p e s m below meth c E hml hr hlk hI ls hl => ?_)
  have hx := E.1
  have hb := E.2.1
  have hl : lv_has ls 5 [(0, .ref a), (1, .int v1)] := hl
  have klσ : ∀ j, 0 ≤ j → j < 4376 + 9 * (σ.1 a 27).toInt → m_c X σ a j = m_c X σ a j := fun _ _ _ => rfl
  have smσ : 0 ≤ (σ.1 a 15).toInt ∧ (σ.1 a 15).toInt ≤ (σ.1 a 16).toInt ∧ (σ.1 a 16).toInt ≤ (σ.1 a 9).toInt ∧ (σ.1 a 9).toInt ≤ 900 ∧ 0 ≤ (σ.1 a 14).toInt ∧ (σ.1 a 14).toInt ≤ 4 ∧ (σ.1 a 14).toInt ≤ 4 * ((σ.1 a 16).toInt - (σ.1 a 15).toInt) ∧ (σ.1 a 14).toInt ≤ 4 * ((σ.1 a 9).toInt - (σ.1 a 15).toInt) ∧ 0 ≤ (σ.1 a 12).toInt ∧ (σ.1 a 9).toInt = (σ.1 a 9).toInt ∧ (σ.1 a 15).toInt ≤ (σ.1 a 15).toInt ∧ (σ.1 a 12).toInt ≤ (σ.1 a 12).toInt := (by first | (clear hkd hc2 hn hd; omega) | omega)
  have beσ : (σ.1 a 16).toInt = (σ.1 a 16).toInt := rfl
  have nsσ : (σ.1 a 27).toInt = (σ.1 a 27).toInt := rfl
  have fr_σ : q_ow [(12, 12), (12, 13), (12, 14), (12, 15), (12, 16), (12, 17), (12, 18), (12, 27), (34, 99)] [(12, 19)] X σ σ := q_ow.rf
  obtain ⟨out, hout⟩ : ∃ o, o = G_F X σ a v1 := ⟨_, rfl⟩
  have hF := hout.symm
  rewrite [eG_F] at hF
  refine lv_aload_n hx hb dX12_readStep_0 rfl (lv_at hl 0 rfl) ?_
  refine q_ci (q_runV (As := []) (rest := []) E (hml.trans hl.1.symm) hI (c_X12_stepWord l X σ a ha (by first | (clear hkd hz hc2 hn hd smσ beσ nsσ; omega) | omega)) kv_X12_175 ha ⟨rfl, by decide⟩ (show vwCl[11]? = some (RX12, TX12, 46) from rfl) rfl ⟨rm_f hrf (Nat.le_of_ble_eq_true rfl), rm_w hrw (Nat.le_of_ble_eq_true rfl)⟩ ⟨Nat.le_refl _, Nat.le_refl _⟩ rfl (Nat.le_of_ble_eq_true rfl) dX12_readStep_1) hI (Nat.le_of_ble_eq_true rfl) (fun r_1 σ_2 H locs hpσ_2 hkσ_2 hI => ?_)
  have ahpσ_2 := hpσ_2.1
  have bhpσ_2 := hpσ_2.2.1
  have chpσ_2 := hpσ_2.2.2.1
  have dhpσ_2 := hpσ_2.2.2.2
  clear hpσ_2
  replace hI := q_Irw ahpσ_2 hI
  replace hF := q_letX hF dhpσ_2
  refine lv_istore_n (lv' := [(2, .int r_1), (0, .ref a), (1, .int v1)]) hx hb dX12_readStep_4 rfl hl (by decide) rfl (fun ls hl => ?_)
  refine lv_iload_n hx hb dX12_readStep_5 rfl (lv_at hl 0 rfl) ?_
  refine lv_iconst (v := 3) hx hb dX12_readStep_6 zki_3 ?_
  have J_20_3 : ∀ (x_3 : Int32) (H : Heap) (locs : List Loc) (ls : Array Slot), (0 ≤ x_3.toInt ∧ x_3.toInt ≤ 1) → (G_J20_1 X r_1 σ a v1 x_3 = out) → q_I X 1 σ s.heap locs σ H → lv_has ls 5 [(0, .ref a), (1, .int v1), (2, .int r_1)] → W p l e (q_rm (rmf + 1) (24 + rmw)) s m ([.ref a, .int v1] : List Value).toArray below meth c H locs 0 0 (MQ below QQ ([.ref a, .int v1] : List Value).toArray s 0 0 (q_reg X)) (F0 m 20 ls [.int x_3]) := by
    clear hF
    intro x_3 H locs ls j20 hF hI hl
    rewrite [eG_J20_1] at hF
    refine lv_istore_n (lv' := [(3, .int x_3), (0, .ref a), (1, .int v1), (2, .int r_1)]) hx hb dX12_readStep_20 rfl hl (by decide) rfl (fun ls hl => ?_)
    refine lv_iload_n hx hb dX12_readStep_21 rfl (lv_at hl 3 rfl) ?_
    have J_29_4 : ∀  (σ_4 : ST) (H : Heap) (locs : List Loc) (ls : Array Slot), (0 ≤ r_1.toInt + (σ_4.1 a 12).toInt) → (q_ow [(12, 12), (12, 13), (12, 14), (12, 15), (12, 16), (12, 17), (12, 18), (12, 27), (34, 99)] [(12, 19)] X σ σ_4) → (∀ j, 0 ≤ j → j < 4376 + 9 * (σ.1 a 27).toInt → m_c X σ_4 a j = m_c X σ a j) → (0 ≤ (σ_4.1 a 15).toInt ∧ (σ_4.1 a 15).toInt ≤ (σ_4.1 a 16).toInt ∧ (σ_4.1 a 16).toInt ≤ (σ_4.1 a 9).toInt ∧ (σ_4.1 a 9).toInt ≤ 900 ∧ 0 ≤ (σ_4.1 a 14).toInt ∧ (σ_4.1 a 14).toInt ≤ 4 ∧ (σ_4.1 a 14).toInt ≤ 4 * ((σ_4.1 a 16).toInt - (σ_4.1 a 15).toInt) ∧ (σ_4.1 a 14).toInt ≤ 4 * ((σ_4.1 a 9).toInt - (σ_4.1 a 15).toInt) ∧ 0 ≤ (σ_4.1 a 12).toInt ∧ (σ_4.1 a 9).toInt = (σ.1 a 9).toInt ∧ (σ.1 a 15).toInt ≤ (σ_4.1 a 15).toInt ∧ (σ.1 a 12).toInt ≤ (σ_4.1 a 12).toInt) → ((σ_4.1 a 16).toInt = (σ.1 a 16).toInt) → ((σ_4.1 a 27).toInt = (σ.1 a 27).toInt) → (G_J29_2 X a x_3 r_1 v1 σ_4 = out) → q_I X 1 σ s.heap locs σ_4 H → lv_has ls 5 [(0, .ref a), (1, .int v1), (2, .int r_1), (3, .int x_3)] → W p l e (q_rm (rmf + 1) (24 + rmw)) s m ([.ref a, .int v1] : List Value).toArray below meth c H locs 0 0 (MQ below QQ ([.ref a, .int v1] : List Value).toArray s 0 0 (q_reg X)) (F0 m 29 ls []) := by
      clear hF
      intro σ_4 H locs ls taσ_4 fr_σ_4 klσ_4 smσ_4 beσ_4 nsσ_4 hF hI hl
      try clear klσ; try clear smσ; try clear beσ; try clear nsσ; try clear fr_σ; try clear ahpσ_2
      rewrite [eG_J29_2] at hF
      refine lv_aload_n hx hb dX12_readStep_29 rfl (lv_at hl 0 rfl) ?_
      refine gs_X12_187_12 E hI ha dX12_readStep_30 ?_
      refine lv_topi (fun f_5 ef_5 => ?_)
      replace hF := q_letX hF ef_5
      have if_5 : f_5.toInt = (σ_4.1 a 12).toInt := congrArg Int32.toInt ef_5
      have J_55_6 : ∀  (σ_6 : ST) (H : Heap) (locs : List Loc) (ls : Array Slot), ((σ.1 a 27).toInt ≤ 29 + (σ_6.1 a 12).toInt) → (q_ow [(12, 12), (12, 13), (12, 14), (12, 15), (12, 16), (12, 17), (12, 18), (12, 27), (34, 99)] [(12, 19)] X σ σ_6) → (∀ j, 0 ≤ j → j < 4376 + 9 * (σ.1 a 27).toInt → m_c X σ_6 a j = m_c X σ a j) → (0 ≤ (σ_6.1 a 15).toInt ∧ (σ_6.1 a 15).toInt ≤ (σ_6.1 a 16).toInt ∧ (σ_6.1 a 16).toInt ≤ (σ_6.1 a 9).toInt ∧ (σ_6.1 a 9).toInt ≤ 900 ∧ 0 ≤ (σ_6.1 a 14).toInt ∧ (σ_6.1 a 14).toInt ≤ 4 ∧ (σ_6.1 a 14).toInt ≤ 4 * ((σ_6.1 a 16).toInt - (σ_6.1 a 15).toInt) ∧ (σ_6.1 a 14).toInt ≤ 4 * ((σ_6.1 a 9).toInt - (σ_6.1 a 15).toInt) ∧ 0 ≤ (σ_6.1 a 12).toInt ∧ (σ_6.1 a 9).toInt = (σ.1 a 9).toInt ∧ (σ.1 a 15).toInt ≤ (σ_6.1 a 15).toInt ∧ (σ.1 a 12).toInt ≤ (σ_6.1 a 12).toInt) → ((σ_6.1 a 16).toInt = (σ.1 a 16).toInt) → ((σ_6.1 a 27).toInt = (σ.1 a 27).toInt) → (0 ≤ r_1.toInt + (σ_6.1 a 12).toInt) → (G_J55_3 X a x_3 r_1 v1 σ_6 = out) → q_I X 1 σ s.heap locs σ_6 H → lv_has ls 5 [(0, .ref a), (1, .int v1), (2, .int r_1), (3, .int x_3)] → W p l e (q_rm (rmf + 1) (24 + rmw)) s m ([.ref a, .int v1] : List Value).toArray below meth c H locs 0 0 (MQ below QQ ([.ref a, .int v1] : List Value).toArray s 0 0 (q_reg X)) (F0 m 55 ls []) := by
        clear hF
        intro σ_6 H locs ls tbσ_6 fr_σ_6 klσ_6 smσ_6 beσ_6 nsσ_6 taσ_6 hF hI hl
        try clear taσ_4; try clear fr_σ_4; try clear klσ_4; try clear smσ_4; try clear beσ_4; try clear nsσ_4
        rewrite [eG_J55_3] at hF
        refine lv_aload_n hx hb dX12_readStep_55 rfl (lv_at hl 0 rfl) ?_
        refine gs_X12_187_12 E hI ha dX12_readStep_56 ?_
        refine lv_topi (fun f_7 ef_7 => ?_)
        replace hF := q_letX hF ef_7
        have if_7 : f_7.toInt = (σ_6.1 a 12).toInt := congrArg Int32.toInt ef_7
        have J_81_8 : ∀  (σ_8 : ST) (H : Heap) (locs : List Loc) (ls : Array Slot), (q_ow [(12, 12), (12, 13), (12, 14), (12, 15), (12, 16), (12, 17), (12, 18), (12, 27), (34, 99)] [(12, 19)] X σ σ_8) → (∀ j, 0 ≤ j → j < 4376 + 9 * (σ.1 a 27).toInt → m_c X σ_8 a j = m_c X σ a j) → (0 ≤ (σ_8.1 a 15).toInt ∧ (σ_8.1 a 15).toInt ≤ (σ_8.1 a 16).toInt ∧ (σ_8.1 a 16).toInt ≤ (σ_8.1 a 9).toInt ∧ (σ_8.1 a 9).toInt ≤ 900 ∧ 0 ≤ (σ_8.1 a 14).toInt ∧ (σ_8.1 a 14).toInt ≤ 4 ∧ (σ_8.1 a 14).toInt ≤ 4 * ((σ_8.1 a 16).toInt - (σ_8.1 a 15).toInt) ∧ (σ_8.1 a 14).toInt ≤ 4 * ((σ_8.1 a 9).toInt - (σ_8.1 a 15).toInt) ∧ 0 ≤ (σ_8.1 a 12).toInt ∧ (σ_8.1 a 9).toInt = (σ.1 a 9).toInt ∧ (σ.1 a 15).toInt ≤ (σ_8.1 a 15).toInt ∧ (σ.1 a 12).toInt ≤ (σ_8.1 a 12).toInt) → ((σ_8.1 a 16).toInt = (σ.1 a 16).toInt) → ((σ_8.1 a 27).toInt = (σ.1 a 27).toInt) → (0 ≤ r_1.toInt + (σ_8.1 a 12).toInt) → ((σ.1 a 27).toInt ≤ 29 + (σ_8.1 a 12).toInt) → (G_J81_4 X a r_1 x_3 v1 σ_8 = out) → q_I X 1 σ s.heap locs σ_8 H → lv_has ls 5 [(0, .ref a), (1, .int v1), (2, .int r_1), (3, .int x_3)] → W p l e (q_rm (rmf + 1) (24 + rmw)) s m ([.ref a, .int v1] : List Value).toArray below meth c H locs 0 0 (MQ below QQ ([.ref a, .int v1] : List Value).toArray s 0 0 (q_reg X)) (F0 m 81 ls []) := by
          clear hF
          intro σ_8 H locs ls fr_σ_8 klσ_8 smσ_8 beσ_8 nsσ_8 taσ_8 tbσ_8 hF hI hl
          try clear tbσ_6; try clear fr_σ_6; try clear klσ_6; try clear smσ_6; try clear beσ_6; try clear nsσ_6; try clear taσ_6
          rewrite [eG_J81_4] at hF
          refine lv_aload_n hx hb dX12_readStep_81 rfl (lv_at hl 0 rfl) ?_
          refine gs_X12_187_12 E hI ha dX12_readStep_82 ?_
          refine lv_topi (fun f_9 ef_9 => ?_)
          replace hF := q_letX hF ef_9
          have if_9 : f_9.toInt = (σ_8.1 a 12).toInt := congrArg Int32.toInt ef_9
          refine q_if_le (A := f_9.toInt) E rfl (tgt := 89) dX12_readStep_85 (by decide) (fun c_10 => ?_) (fun c_10 => ?_)
          · skip
            replace hF := q_ifn hF (Int.not_lt.mpr c_10)
            have kk0 : 0 ≤ r_1.toInt ∧ (σ.1 a 27).toInt ≤ 29 ∧ (σ_8.1 a 12).toInt = 0 := (by first | (clear hkd hs hz hc2 hd chpσ_2 dhpσ_2 j20 if_5 if_7 beσ_8; omega) | omega)
            refine lv_sipush (v := 4376) hx hb dX12_readStep_89 zks_4376 ?_
            refine lv_bipush (v := 9) hx hb dX12_readStep_92 zkb_9 ?_
            refine lv_aload_n hx hb dX12_readStep_94 rfl (lv_at hl 0 rfl) ?_
            refine gs_X12_267_12 E hI ha dX12_readStep_95 ?_
            refine lv_topi (fun f_11 ef_11 => ?_)
            replace hF := q_letX hF ef_11
            have if_11 : f_11.toInt = (σ_8.1 a 27).toInt := congrArg Int32.toInt ef_11
            refine lv_imul hx hb dX12_readStep_98 ?_
            refine lv_topi (fun z_12 ez_12 => ?_)
            replace hF := q_letX hF ez_12
            have iz_12 := q_mulI (A := 9) (B := f_11.toInt) ez_12 (by decide) rfl (by first | (clear hkd hs hz hc2 hd bhpσ_2 chpσ_2 dhpσ_2 j20 if_5 if_7 smσ_8 beσ_8 taσ_8 tbσ_8 if_9 c_10; omega) | omega) (by first | (clear hkd hs hz hc2 hd bhpσ_2 chpσ_2 dhpσ_2 j20 if_5 if_7 smσ_8 beσ_8 taσ_8 tbσ_8 if_9 c_10; omega) | omega)
            refine lv_iadd hx hb dX12_readStep_99 ?_
            refine lv_topi (fun z_13 ez_13 => ?_)
            replace hF := q_letX hF ez_13
            have iz_13 := q_addI (A := 4376) (B := (9 * f_11.toInt)) ez_13 (by decide) iz_12 (by first | (clear hkd hs hz hc2 hd bhpσ_2 chpσ_2 dhpσ_2 j20 if_5 if_7 smσ_8 beσ_8 taσ_8 tbσ_8 if_9 c_10 iz_12; omega) | omega) (by first | (clear hkd hs hz hc2 hd bhpσ_2 chpσ_2 dhpσ_2 j20 if_5 if_7 smσ_8 beσ_8 taσ_8 tbσ_8 if_9 c_10 iz_12; omega) | omega)
            refine lv_istore (lv' := [(4, .int z_13), (0, .ref a), (1, .int v1), (2, .int r_1), (3, .int x_3)]) hx hb dX12_readStep_100 hl (by decide) rfl (fun ls hl => ?_)
            refine lv_aload_n hx hb dX12_readStep_102 rfl (lv_at hl 1 rfl) ?_
            refine lv_dup hx hb dX12_readStep_103 rfl ?_
            refine gs_X12_267_12 E hI ha dX12_readStep_104 ?_
            refine lv_topi (fun f_14 ef_14 => ?_)
            replace hF := q_letX hF ef_14
            have if_14 : f_14.toInt = (σ_8.1 a 27).toInt := congrArg Int32.toInt ef_14
            refine lv_iconst (v := 1) hx hb dX12_readStep_107 zki_1 ?_
            refine lv_iadd hx hb dX12_readStep_108 ?_
            refine lv_topi (fun z_15 ez_15 => ?_)
            replace hF := q_letX hF ez_15
            have iz_15 := q_addI (A := f_14.toInt) (B := 1) ez_15 rfl (by decide) (by first | (clear hkd hs hz hc2 hd bhpσ_2 chpσ_2 dhpσ_2 j20 if_5 if_7 smσ_8 beσ_8 taσ_8 tbσ_8 if_9 c_10 iz_12 iz_13; omega) | omega) (by first | (clear hkd hs hz hc2 hd bhpσ_2 chpσ_2 dhpσ_2 j20 if_5 if_7 smσ_8 beσ_8 taσ_8 tbσ_8 if_9 c_10 iz_12 iz_13; omega) | omega)
            refine ps_X12_267_12 E hI ha (by decide) dX12_readStep_109 (fun H locs σ_16 hσ_16 hI => ?_)
            replace hF := q_letX hF hσ_16
            have fr_σ_16 := fr_σ_8.si hσ_16 ha rfl
            have mv9_σ_16 : (σ_16.1 a 9).toInt = (σ_8.1 a 9).toInt := congrArg Int32.toInt (q_rdn hσ_16 (Or.inr (by decide)))
            have mv12_σ_16 : (σ_16.1 a 12).toInt = (σ_8.1 a 12).toInt := congrArg Int32.toInt (q_rdn hσ_16 (Or.inr (by decide)))
            have mv14_σ_16 : (σ_16.1 a 14).toInt = (σ_8.1 a 14).toInt := congrArg Int32.toInt (q_rdn hσ_16 (Or.inr (by decide)))
            have mv15_σ_16 : (σ_16.1 a 15).toInt = (σ_8.1 a 15).toInt := congrArg Int32.toInt (q_rdn hσ_16 (Or.inr (by decide)))
            have mv16_σ_16 : (σ_16.1 a 16).toInt = (σ_8.1 a 16).toInt := congrArg Int32.toInt (q_rdn hσ_16 (Or.inr (by decide)))
            have mv27_σ_16 : (σ_16.1 a 27).toInt = z_15.toInt := congrArg Int32.toInt (q_rd hσ_16)
            have mcσ_16 := m_wo hσ_16 (m_ne ha (q_tk (f := 20) (k' := 34) hI ha rfl (by decide)) (by decide))
            have klσ_16 : ∀ j, 0 ≤ j → j < 4376 + 9 * (σ.1 a 27).toInt → m_c X σ_16 a j = m_c X σ a j := fun j h0 h1 => (mcσ_16 j).trans (klσ_8 j h0 h1)
            have smσ_16 : 0 ≤ (σ_16.1 a 15).toInt ∧ (σ_16.1 a 15).toInt ≤ (σ_16.1 a 16).toInt ∧ (σ_16.1 a 16).toInt ≤ (σ_16.1 a 9).toInt ∧ (σ_16.1 a 9).toInt ≤ 900 ∧ 0 ≤ (σ_16.1 a 14).toInt ∧ (σ_16.1 a 14).toInt ≤ 4 ∧ (σ_16.1 a 14).toInt ≤ 4 * ((σ_16.1 a 16).toInt - (σ_16.1 a 15).toInt) ∧ (σ_16.1 a 14).toInt ≤ 4 * ((σ_16.1 a 9).toInt - (σ_16.1 a 15).toInt) ∧ 0 ≤ (σ_16.1 a 12).toInt ∧ (σ_16.1 a 9).toInt = (σ.1 a 9).toInt ∧ (σ.1 a 15).toInt ≤ (σ_16.1 a 15).toInt ∧ (σ.1 a 12).toInt ≤ (σ_16.1 a 12).toInt := (by first | (rw [mv12_σ_16, mv14_σ_16, mv15_σ_16, mv16_σ_16, mv9_σ_16]; exact smσ_8) | omega)
            have beσ_16 : (σ_16.1 a 16).toInt = (σ.1 a 16).toInt := (by first | (clear hkd hs hz hc2 hn hd bhpσ_2 chpσ_2 dhpσ_2 j20 if_5 if_7 smσ_8 nsσ_8 taσ_8 tbσ_8 if_9 c_10 kk0 if_11 iz_12 iz_13 if_14 iz_15 mv9_σ_16 mv12_σ_16 mv14_σ_16 mv15_σ_16 mv27_σ_16 smσ_16; omega) | omega)
            have nbσ_16 : (σ_16.1 a 27).toInt = (σ.1 a 27).toInt + 1 := (by first | (clear hkd hs hz hc2 hn hd bhpσ_2 chpσ_2 dhpσ_2 j20 if_5 if_7 smσ_8 beσ_8 taσ_8 tbσ_8 if_9 c_10 kk0 iz_12 iz_13 mv9_σ_16 mv12_σ_16 mv14_σ_16 mv15_σ_16 mv16_σ_16 smσ_16 beσ_16; omega) | omega)
            clear mv9_σ_16 mv12_σ_16 mv14_σ_16 mv15_σ_16 mv16_σ_16 mv27_σ_16 smσ_8 beσ_8
            refine lv_aload_n hx hb dX12_readStep_112 rfl (lv_at hl 1 rfl) ?_
            refine q_cv (q_runV (As := []) (rest := []) E (hml.trans hl.1.symm) hI (c_X12_next l X σ_16 a ha (by first | (clear hkd hz hc2 hn hd bhpσ_2 chpσ_2 dhpσ_2 j20 if_5 if_7 nsσ_8 taσ_8 tbσ_8 if_9 c_10 kk0 if_11 iz_12 iz_13 if_14 iz_15 smσ_16 nbσ_16; omega) | omega) (by first | (clear hkd hs hz hc2 hn hd bhpσ_2 chpσ_2 dhpσ_2 j20 if_5 if_7 nsσ_8 taσ_8 tbσ_8 if_9 c_10 kk0 if_11 iz_12 iz_13 if_14 iz_15 beσ_16 nbσ_16; omega) | omega) (by first | (clear hkd hz hc2 hn hd bhpσ_2 chpσ_2 dhpσ_2 j20 if_5 if_7 nsσ_8 taσ_8 tbσ_8 if_9 c_10 kk0 if_11 iz_12 iz_13 if_14 iz_15 beσ_16 nbσ_16; omega) | omega)) kv_X12_197 ha ⟨rfl, by decide⟩ (show vwCl[11]? = some (RX12, TX12, 46) from rfl) rfl ⟨rm_f hrf (Nat.le_of_ble_eq_true rfl), rm_w hrw (Nat.le_of_ble_eq_true rfl)⟩ ⟨Nat.le_refl _, Nat.le_refl _⟩ rfl (Nat.le_of_ble_eq_true rfl) dX12_readStep_113) hI (Nat.le_of_ble_eq_true rfl) (fun σ_18 H locs hpσ_18 hkσ_18 hI => ?_)
            have ahpσ_18 := hpσ_18.1
            have bhpσ_18 := hpσ_18.2.1
            have chpσ_18 := hpσ_18.2.2.1
            have dhpσ_18 := hpσ_18.2.2.2.1
            have ehpσ_18 := hpσ_18.2.2.2.2
            clear hpσ_18
            have fr_σ_18 := fr_σ_16.call ehpσ_18 rfl rfl
            replace hF := q_letX hF dhpσ_18
            have mv27_σ_18 : (σ_18.1 a 27).toInt = (σ_16.1 a 27).toInt := congrArg Int32.toInt (ahpσ_18 a 27 (q_cl9 _ _) (fun h => absurd h.2.2 (by decide)))
            have mcσ_18 := m_cK hkσ_18 hI.1 ha (by decide)
            have klσ_18 : ∀ j, 0 ≤ j → j < 4376 + 9 * (σ.1 a 27).toInt → m_c X σ_18 a j = m_c X σ a j := fun j h0 h1 => (mcσ_18 j).trans (klσ_16 j h0 h1)
            have smσ_18 : 0 ≤ (σ_18.1 a 15).toInt ∧ (σ_18.1 a 15).toInt ≤ (σ_18.1 a 16).toInt ∧ (σ_18.1 a 16).toInt ≤ (σ_18.1 a 9).toInt ∧ (σ_18.1 a 9).toInt ≤ 900 ∧ 0 ≤ (σ_18.1 a 14).toInt ∧ (σ_18.1 a 14).toInt ≤ 4 ∧ (σ_18.1 a 14).toInt ≤ 4 * ((σ_18.1 a 16).toInt - (σ_18.1 a 15).toInt) ∧ (σ_18.1 a 14).toInt ≤ 4 * ((σ_18.1 a 9).toInt - (σ_18.1 a 15).toInt) ∧ 0 ≤ (σ_18.1 a 12).toInt ∧ (σ_18.1 a 9).toInt = (σ.1 a 9).toInt ∧ (σ.1 a 15).toInt ≤ (σ_18.1 a 15).toInt ∧ (σ.1 a 12).toInt ≤ (σ_18.1 a 12).toInt := (by first | exact sm_nx smσ_16 bhpσ_18 chpσ_18 | omega)
            have nbσ_18 : (σ_18.1 a 27).toInt = (σ.1 a 27).toInt + 1 := (by first | (clear hkd hs hz hc2 hn hd bhpσ_2 chpσ_2 dhpσ_2 j20 if_5 if_7 taσ_8 tbσ_8 if_9 c_10 kk0 iz_12 iz_13 smσ_16 beσ_16 ahpσ_18 bhpσ_18 chpσ_18 dhpσ_18 ehpσ_18 smσ_18; omega) | omega)
            have oxσ_18 : (σ.1 a 15).toInt + 1 ≤ (σ_18.1 a 15).toInt := (by first | (clear hkd hz hc2 hn hd bhpσ_2 dhpσ_2 j20 if_5 if_7 nsσ_8 tbσ_8 c_10 if_11 iz_12 iz_13 if_14 iz_15 smσ_16 nbσ_16 ahpσ_18 bhpσ_18 dhpσ_18 ehpσ_18 mv27_σ_18 nbσ_18; omega) | omega)
            clear mv27_σ_18 smσ_16 nbσ_16 bhpσ_18 chpσ_18
            refine lv_aload_n hx hb dX12_readStep_116 rfl (lv_at hl 1 rfl) ?_
            refine gs_X12_35_12 E hI ha dX12_readStep_117 ?_
            refine lv_iload hx hb dX12_readStep_120 (lv_at hl 0 rfl) ?_
            refine lv_iload_n hx hb dX12_readStep_122 rfl (lv_at hl 3 rfl) ?_
            refine q_iastN E hI (q_tk (k' := 34) hI ha rfl (Nat.succ_ne_zero _)) ⟨by decide, rfl⟩ (by first | (clear hkd hs hz hc2 hd bhpσ_2 chpσ_2 dhpσ_2 j20 if_5 if_7 taσ_8 tbσ_8 if_9 c_10 iz_12 beσ_16 ahpσ_18 dhpσ_18 ehpσ_18 smσ_18 oxσ_18; omega) | omega) (by rw [q_lnk (v := 4650) hI (q_tk (k' := 34) hI ha rfl (Nat.succ_ne_zero _)) rfl (by decide)]; omega) (show 1 < 2 by decide) (q_inU rfl) dX12_readStep_123 (fun H locs σ_19 hσ_19 hI => ?_)
            replace hF := q_letX hF hσ_19
            have fr_σ_19 := fr_σ_18.si hσ_19 (q_tk (k' := 34) hI ha rfl (Nat.succ_ne_zero _)) rfl
            have mv9_σ_19 : (σ_19.1 a 9).toInt = (σ_18.1 a 9).toInt := congrArg Int32.toInt (q_rdn hσ_19 (Or.inl (m_ne ha (q_tk (k' := 34) hI ha rfl (Nat.succ_ne_zero _)) (by decide))))
            have mv12_σ_19 : (σ_19.1 a 12).toInt = (σ_18.1 a 12).toInt := congrArg Int32.toInt (q_rdn hσ_19 (Or.inl (m_ne ha (q_tk (k' := 34) hI ha rfl (Nat.succ_ne_zero _)) (by decide))))
            have mv14_σ_19 : (σ_19.1 a 14).toInt = (σ_18.1 a 14).toInt := congrArg Int32.toInt (q_rdn hσ_19 (Or.inl (m_ne ha (q_tk (k' := 34) hI ha rfl (Nat.succ_ne_zero _)) (by decide))))
            have mv15_σ_19 : (σ_19.1 a 15).toInt = (σ_18.1 a 15).toInt := congrArg Int32.toInt (q_rdn hσ_19 (Or.inl (m_ne ha (q_tk (k' := 34) hI ha rfl (Nat.succ_ne_zero _)) (by decide))))
            have mv16_σ_19 : (σ_19.1 a 16).toInt = (σ_18.1 a 16).toInt := congrArg Int32.toInt (q_rdn hσ_19 (Or.inl (m_ne ha (q_tk (k' := 34) hI ha rfl (Nat.succ_ne_zero _)) (by decide))))
            have mv27_σ_19 : (σ_19.1 a 27).toInt = (σ_18.1 a 27).toInt := congrArg Int32.toInt (q_rdn hσ_19 (Or.inl (m_ne ha (q_tk (k' := 34) hI ha rfl (Nat.succ_ne_zero _)) (by decide))))
            have mcσ_19 := m_wr (v := r_1) (A := (4376 + (9 * f_11.toInt))) hσ_19 iz_13 (by first | (clear hkd hs hz hc2 hd bhpσ_2 chpσ_2 dhpσ_2 j20 if_5 if_7 taσ_8 tbσ_8 if_9 c_10 iz_12 iz_13 beσ_16 ahpσ_18 dhpσ_18 ehpσ_18 smσ_18 oxσ_18 mv9_σ_19 mv12_σ_19 mv14_σ_19 mv15_σ_19 mv16_σ_19; omega) | omega)
            have klσ_19 : ∀ j, 0 ≤ j → j < 4376 + 9 * (σ.1 a 27).toInt → m_c X σ_19 a j = m_c X σ a j := fun j h0 h1 => by rw [mcσ_19 j h0, if_neg (by first | (clear hkd hs hz hc2 hn hd bhpσ_2 chpσ_2 dhpσ_2 j20 if_5 if_7 taσ_8 tbσ_8 if_9 c_10 kk0 iz_12 iz_13 beσ_16 ahpσ_18 dhpσ_18 ehpσ_18 smσ_18 oxσ_18 mv9_σ_19 mv12_σ_19 mv14_σ_19 mv15_σ_19 mv16_σ_19; omega) | omega)]; exact klσ_18 j h0 h1
            have smσ_19 : 0 ≤ (σ_19.1 a 15).toInt ∧ (σ_19.1 a 15).toInt ≤ (σ_19.1 a 16).toInt ∧ (σ_19.1 a 16).toInt ≤ (σ_19.1 a 9).toInt ∧ (σ_19.1 a 9).toInt ≤ 900 ∧ 0 ≤ (σ_19.1 a 14).toInt ∧ (σ_19.1 a 14).toInt ≤ 4 ∧ (σ_19.1 a 14).toInt ≤ 4 * ((σ_19.1 a 16).toInt - (σ_19.1 a 15).toInt) ∧ (σ_19.1 a 14).toInt ≤ 4 * ((σ_19.1 a 9).toInt - (σ_19.1 a 15).toInt) ∧ 0 ≤ (σ_19.1 a 12).toInt ∧ (σ_19.1 a 9).toInt = (σ.1 a 9).toInt ∧ (σ.1 a 15).toInt ≤ (σ_19.1 a 15).toInt ∧ (σ.1 a 12).toInt ≤ (σ_19.1 a 12).toInt := (by first | (rw [mv12_σ_19, mv14_σ_19, mv15_σ_19, mv16_σ_19, mv9_σ_19]; exact smσ_18) | omega)
            have nbσ_19 : (σ_19.1 a 27).toInt = (σ.1 a 27).toInt + 1 := (by first | (clear hkd hs hz hc2 hn hd bhpσ_2 chpσ_2 dhpσ_2 j20 if_5 if_7 taσ_8 tbσ_8 if_9 c_10 kk0 iz_12 iz_13 beσ_16 ahpσ_18 dhpσ_18 ehpσ_18 smσ_18 oxσ_18 mv9_σ_19 mv12_σ_19 mv14_σ_19 mv15_σ_19 mv16_σ_19 smσ_19; omega) | omega)
            have oxσ_19 : (σ.1 a 15).toInt + 1 ≤ (σ_19.1 a 15).toInt := (by first | (clear hkd hs hz hc2 hn hd bhpσ_2 chpσ_2 dhpσ_2 j20 if_5 if_7 nsσ_8 taσ_8 tbσ_8 if_9 c_10 kk0 if_11 iz_12 iz_13 if_14 iz_15 beσ_16 ahpσ_18 dhpσ_18 ehpσ_18 smσ_18 nbσ_18 mv9_σ_19 mv12_σ_19 mv14_σ_19 mv16_σ_19 mv27_σ_19 smσ_19 nbσ_19; omega) | omega)
            have cwσ_19 : m_c X σ_19 a z_13.toInt = r_1.toInt := (by rw [mcσ_19 z_13.toInt (by first | (clear hkd hs hz hc2 hd bhpσ_2 chpσ_2 dhpσ_2 j20 if_5 if_7 taσ_8 tbσ_8 if_9 c_10 iz_12 beσ_16 ahpσ_18 dhpσ_18 ehpσ_18 smσ_18 oxσ_18 mv9_σ_19 mv12_σ_19 mv14_σ_19 mv15_σ_19 mv16_σ_19 smσ_19 nbσ_19 oxσ_19; omega) | omega), if_pos (by omega)])
            clear mv9_σ_19 mv12_σ_19 mv14_σ_19 mv15_σ_19 mv16_σ_19 mv27_σ_19 smσ_18 nbσ_18 oxσ_18
            refine lv_aload_n hx hb dX12_readStep_124 rfl (lv_at hl 1 rfl) ?_
            refine lv_iload hx hb dX12_readStep_125 (lv_at hl 0 rfl) ?_
            refine q_cv (q_runV (As := [.int z_13]) (rest := []) E (hml.trans hl.1.symm) hI (c_X12_readRest l X σ_19 a z_13 ha (by first | exact sm_9 smσ_19 | exact hs | omega) (by first | (clear hkd hs hz hc2 hd bhpσ_2 chpσ_2 dhpσ_2 j20 if_5 if_7 taσ_8 tbσ_8 if_9 c_10 iz_12 beσ_16 ahpσ_18 dhpσ_18 ehpσ_18 smσ_19 oxσ_19 cwσ_19; omega) | omega) (by rw [klσ_19 2 (by decide) (by first | (clear hkd hs hz hc2 hd bhpσ_2 chpσ_2 dhpσ_2 j20 if_5 if_7 taσ_8 tbσ_8 if_9 c_10 iz_12 iz_13 beσ_16 ahpσ_18 dhpσ_18 ehpσ_18 smσ_19 oxσ_19 cwσ_19; omega) | omega)]; exact hc2)) kv_X12_270 ha ⟨rfl, by decide⟩ (show vwCl[11]? = some (RX12, TX12, 46) from rfl) rfl ⟨rm_f hrf (Nat.le_of_ble_eq_true rfl), rm_w hrw (Nat.le_of_ble_eq_true rfl)⟩ ⟨Nat.le_refl _, Nat.le_refl _⟩ rfl (Nat.le_of_ble_eq_true rfl) dX12_readStep_127) hI (Nat.le_of_ble_eq_true rfl) (fun σ_21 H locs hpσ_21 hkσ_21 hI => ?_)
            have ahpσ_21 := hpσ_21.1
            have bhpσ_21 := hpσ_21.2.1
            have chpσ_21 := hpσ_21.2.2.1
            have dhpσ_21 := hpσ_21.2.2.2.1
            have ehpσ_21 := hpσ_21.2.2.2.2.1
            have fhpσ_21 := hpσ_21.2.2.2.2.2
            clear hpσ_21
            have fr_σ_21 := fr_σ_19.call fhpσ_21 rfl rfl
            replace hF := q_letX hF ehpσ_21
            have klσ_21 : ∀ j, 0 ≤ j → j < 4376 + 9 * (σ.1 a 27).toInt → m_c X σ_21 a j = m_c X σ a j := (fun j h0 h1 => (ahpσ_21 j h0 (Or.inl (by first | (clear hkd hs hz hc2 hn hd bhpσ_2 chpσ_2 dhpσ_2 j20 if_5 if_7 taσ_8 tbσ_8 if_9 c_10 kk0 iz_12 beσ_16 ahpσ_18 dhpσ_18 ehpσ_18 smσ_19 oxσ_19 cwσ_19 ahpσ_21 bhpσ_21 dhpσ_21 ehpσ_21 fhpσ_21; omega) | omega))).trans (klσ_19 j h0 h1))
            have smσ_21 : 0 ≤ (σ_21.1 a 15).toInt ∧ (σ_21.1 a 15).toInt ≤ (σ_21.1 a 16).toInt ∧ (σ_21.1 a 16).toInt ≤ (σ_21.1 a 9).toInt ∧ (σ_21.1 a 9).toInt ≤ 900 ∧ 0 ≤ (σ_21.1 a 14).toInt ∧ (σ_21.1 a 14).toInt ≤ 4 ∧ (σ_21.1 a 14).toInt ≤ 4 * ((σ_21.1 a 16).toInt - (σ_21.1 a 15).toInt) ∧ (σ_21.1 a 14).toInt ≤ 4 * ((σ_21.1 a 9).toInt - (σ_21.1 a 15).toInt) ∧ 0 ≤ (σ_21.1 a 12).toInt ∧ (σ_21.1 a 9).toInt = (σ.1 a 9).toInt ∧ (σ.1 a 15).toInt ≤ (σ_21.1 a 15).toInt ∧ (σ.1 a 12).toInt ≤ (σ_21.1 a 12).toInt := (by first | exact sm_tr smσ_19 bhpσ_21 | exact sm_tr smσ_19 chpσ_21 | omega)
            have nbσ_21 : (σ_21.1 a 27).toInt = (σ.1 a 27).toInt + 1 := (by first | (clear hkd hs hz hc2 hn hd bhpσ_2 chpσ_2 dhpσ_2 j20 if_5 if_7 taσ_8 tbσ_8 if_9 c_10 kk0 iz_12 iz_13 beσ_16 ahpσ_18 dhpσ_18 ehpσ_18 smσ_19 oxσ_19 cwσ_19 ahpσ_21 bhpσ_21 dhpσ_21 ehpσ_21 fhpσ_21 smσ_21; omega) | omega)
            have oxσ_21 : (σ.1 a 15).toInt + 1 ≤ (σ_21.1 a 15).toInt := (by first | (clear hkd hs hz hc2 hn hd bhpσ_2 chpσ_2 dhpσ_2 j20 if_5 if_7 nsσ_8 taσ_8 tbσ_8 if_9 c_10 kk0 if_11 iz_12 iz_13 if_14 iz_15 beσ_16 ahpσ_18 dhpσ_18 ehpσ_18 smσ_19 nbσ_19 cwσ_19 ahpσ_21 chpσ_21 dhpσ_21 ehpσ_21 fhpσ_21 nbσ_21; omega) | omega)
            have cwσ_21 : m_c X σ_21 a z_13.toInt = r_1.toInt := ((ahpσ_21 z_13.toInt (by first | (clear hkd hs hz hc2 hd bhpσ_2 chpσ_2 dhpσ_2 j20 if_5 if_7 taσ_8 tbσ_8 if_9 c_10 iz_12 beσ_16 ahpσ_18 dhpσ_18 ehpσ_18 smσ_19 oxσ_19 cwσ_19 ahpσ_21 bhpσ_21 dhpσ_21 ehpσ_21 fhpσ_21 smσ_21 nbσ_21 oxσ_21; omega) | omega) (Or.inl (by first | (clear hkd hs hz hc2 hn hd bhpσ_2 chpσ_2 dhpσ_2 j20 if_5 if_7 nsσ_8 taσ_8 tbσ_8 if_9 c_10 kk0 if_11 iz_12 iz_13 if_14 iz_15 beσ_16 ahpσ_18 dhpσ_18 ehpσ_18 smσ_19 nbσ_19 oxσ_19 cwσ_19 ahpσ_21 bhpσ_21 chpσ_21 dhpσ_21 ehpσ_21 fhpσ_21 smσ_21 nbσ_21 oxσ_21; omega) | omega))).trans cwσ_19)
            have rrσ_21 : m_oz (σ_21.1 a 12).toInt (m_rst (m_c X σ_21 a) z_13.toInt) := dhpσ_21
            clear smσ_19 nbσ_19 oxσ_19 bhpσ_21 chpσ_21
            refine lv_aload_n hx hb dX12_readStep_130 rfl (lv_at hl 1 rfl) ?_
            refine lv_aload_n hx hb dX12_readStep_131 rfl (lv_at hl 1 rfl) ?_
            refine lv_bipush (v := 59) hx hb dX12_readStep_132 zkb_59 ?_
            have kc_22 : (59 : Int32).toInt = 59 := zt_59
            refine q_ci (q_runV (As := [.int 59]) (rest := [.ref a]) E (hml.trans hl.1.symm) hI (c_X12_isSign l X σ_21 a (59 : Int32) ha) kv_X12_243 ha ⟨rfl, by decide⟩ (show vwCl[11]? = some (RX12, TX12, 46) from rfl) rfl ⟨rm_f hrf (Nat.le_of_ble_eq_true rfl), rm_w hrw (Nat.le_of_ble_eq_true rfl)⟩ ⟨Nat.le_refl _, Nat.le_refl _⟩ rfl (Nat.le_of_ble_eq_true rfl) dX12_readStep_134) hI (Nat.le_of_ble_eq_true rfl) (fun r_23 σ_24 H locs hpσ_24 hkσ_24 hI => ?_)
            have ahpσ_24 := hpσ_24.1
            have bhpσ_24 := hpσ_24.2.1
            have chpσ_24 := hpσ_24.2.2
            clear hpσ_24
            replace hI := q_Irw ahpσ_24 hI
            replace hF := q_letX hF chpσ_24
            refine q_cv (q_runV (As := [.int r_23]) (rest := []) E (hml.trans hl.1.symm) hI (c_X12_must l X σ_21 a r_23 ha (by first | exact sm_9 smσ_21 | exact hs | omega) (by first | (clear hkd hs hz hc2 hn hd bhpσ_2 chpσ_2 dhpσ_2 j20 if_5 if_7 nsσ_8 taσ_8 tbσ_8 if_9 c_10 kk0 if_11 iz_12 iz_13 if_14 iz_15 beσ_16 ahpσ_18 dhpσ_18 ehpσ_18 cwσ_19 ahpσ_21 dhpσ_21 ehpσ_21 fhpσ_21 smσ_21 nbσ_21 oxσ_21 cwσ_21 kc_22 ahpσ_24 chpσ_24; omega) | omega)) kv_X12_216 ha ⟨rfl, by decide⟩ (show vwCl[11]? = some (RX12, TX12, 46) from rfl) rfl ⟨rm_f hrf (Nat.le_of_ble_eq_true rfl), rm_w hrw (Nat.le_of_ble_eq_true rfl)⟩ ⟨Nat.le_refl _, Nat.le_refl _⟩ rfl (Nat.le_of_ble_eq_true rfl) dX12_readStep_137) hI (Nat.le_of_ble_eq_true rfl) (fun σ_26 H locs hpσ_26 hkσ_26 hI => ?_)
            have ahpσ_26 := hpσ_26.1
            have bhpσ_26 := hpσ_26.2.1
            have chpσ_26 := hpσ_26.2.2.1
            have dhpσ_26 := hpσ_26.2.2.2.1
            have ehpσ_26 := hpσ_26.2.2.2.2
            clear hpσ_26
            have fr_σ_26 := fr_σ_21.call ehpσ_26 rfl rfl
            replace hF := q_letX hF dhpσ_26
            have mv27_σ_26 : (σ_26.1 a 27).toInt = (σ_21.1 a 27).toInt := congrArg Int32.toInt (ahpσ_26 a 27 (q_cl9 _ _) (fun h => absurd h.2.2 (by decide)))
            have mcσ_26 := m_cK hkσ_26 hI.1 ha (by decide)
            have klσ_26 : ∀ j, 0 ≤ j → j < 4376 + 9 * (σ.1 a 27).toInt → m_c X σ_26 a j = m_c X σ a j := fun j h0 h1 => (mcσ_26 j).trans (klσ_21 j h0 h1)
            have smσ_26 : 0 ≤ (σ_26.1 a 15).toInt ∧ (σ_26.1 a 15).toInt ≤ (σ_26.1 a 16).toInt ∧ (σ_26.1 a 16).toInt ≤ (σ_26.1 a 9).toInt ∧ (σ_26.1 a 9).toInt ≤ 900 ∧ 0 ≤ (σ_26.1 a 14).toInt ∧ (σ_26.1 a 14).toInt ≤ 4 ∧ (σ_26.1 a 14).toInt ≤ 4 * ((σ_26.1 a 16).toInt - (σ_26.1 a 15).toInt) ∧ (σ_26.1 a 14).toInt ≤ 4 * ((σ_26.1 a 9).toInt - (σ_26.1 a 15).toInt) ∧ 0 ≤ (σ_26.1 a 12).toInt ∧ (σ_26.1 a 9).toInt = (σ.1 a 9).toInt ∧ (σ.1 a 15).toInt ≤ (σ_26.1 a 15).toInt ∧ (σ.1 a 12).toInt ≤ (σ_26.1 a 12).toInt := (by first | exact sm_tr smσ_21 bhpσ_26 | exact sm_tr smσ_21 chpσ_26 | omega)
            have nbσ_26 : (σ_26.1 a 27).toInt = (σ.1 a 27).toInt + 1 := (by first | (clear hkd hs hz hc2 hn hd bhpσ_2 chpσ_2 dhpσ_2 j20 if_5 if_7 taσ_8 tbσ_8 if_9 c_10 kk0 iz_12 iz_13 beσ_16 ahpσ_18 dhpσ_18 ehpσ_18 cwσ_19 ahpσ_21 dhpσ_21 ehpσ_21 fhpσ_21 smσ_21 oxσ_21 cwσ_21 kc_22 ahpσ_24 bhpσ_24 chpσ_24 ahpσ_26 bhpσ_26 chpσ_26 dhpσ_26 ehpσ_26 smσ_26; omega) | omega)
            have oxσ_26 : (σ.1 a 15).toInt + 1 ≤ (σ_26.1 a 15).toInt := (by first | (clear hkd hs hz hc2 hn hd bhpσ_2 chpσ_2 dhpσ_2 j20 if_5 if_7 nsσ_8 taσ_8 tbσ_8 if_9 c_10 kk0 if_11 iz_12 iz_13 if_14 iz_15 beσ_16 ahpσ_18 dhpσ_18 ehpσ_18 cwσ_19 ahpσ_21 dhpσ_21 ehpσ_21 fhpσ_21 smσ_21 nbσ_21 cwσ_21 kc_22 ahpσ_24 bhpσ_24 chpσ_24 ahpσ_26 chpσ_26 dhpσ_26 ehpσ_26 mv27_σ_26 nbσ_26; omega) | omega)
            have cwσ_26 : m_c X σ_26 a z_13.toInt = r_1.toInt := (mcσ_26 _).trans cwσ_21
            have rrσ_26 : m_oz (σ_26.1 a 12).toInt (m_rst (m_c X σ_26 a) z_13.toInt) := (m_oz.mono rrσ_21 (by first | (clear hkd hs hz hc2 hn hd bhpσ_2 chpσ_2 dhpσ_2 j20 if_5 if_7 nsσ_8 taσ_8 tbσ_8 if_9 c_10 kk0 if_11 iz_12 iz_13 if_14 iz_15 beσ_16 ahpσ_18 dhpσ_18 ehpσ_18 cwσ_19 ahpσ_21 dhpσ_21 ehpσ_21 fhpσ_21 nbσ_21 oxσ_21 cwσ_21 kc_22 ahpσ_24 bhpσ_24 chpσ_24 ahpσ_26 bhpσ_26 chpσ_26 dhpσ_26 ehpσ_26 mv27_σ_26 smσ_26 nbσ_26 oxσ_26 cwσ_26; omega) | omega) (by first | (clear hkd hs hz hc2 hn hd bhpσ_2 chpσ_2 dhpσ_2 j20 if_5 if_7 nsσ_8 taσ_8 tbσ_8 if_9 c_10 kk0 if_11 iz_12 iz_13 if_14 iz_15 beσ_16 ahpσ_18 dhpσ_18 ehpσ_18 cwσ_19 ahpσ_21 dhpσ_21 ehpσ_21 fhpσ_21 smσ_21 nbσ_21 oxσ_21 cwσ_21 kc_22 ahpσ_24 bhpσ_24 chpσ_24 ahpσ_26 chpσ_26 dhpσ_26 ehpσ_26 mv27_σ_26 smσ_26 nbσ_26 oxσ_26 cwσ_26; omega) | omega) (fun h => m_rst.ext h (fun j => mcσ_26 j)))
            clear mv27_σ_26 smσ_21 nbσ_21 oxσ_21 bhpσ_26
            have L_140_28 : ∀ (k_28 : Nat)  (σ_27 : ST) (H : Heap) (locs : List Loc) (ls : Array Slot), (901 - (σ_27.1 a 15).toInt).toNat + (1 - (σ_27.1 a 12).toInt).toNat < k_28 → ((σ.1 a 27).toInt + 1 ≤ (σ_27.1 a 27).toInt ∧ (σ_27.1 a 27).toInt ≤ 30) → (m_oz (σ_27.1 a 12).toInt (m_lp (m_c X σ_27 a) z_13.toInt (σ.1 a 27).toInt (σ_27.1 a 27).toInt)) → (q_ow [(12, 12), (12, 13), (12, 14), (12, 15), (12, 16), (12, 17), (12, 18), (12, 27), (34, 99)] [(12, 19)] X σ σ_27) → (∀ j, 0 ≤ j → j < 4376 + 9 * (σ.1 a 27).toInt → m_c X σ_27 a j = m_c X σ a j) → (0 ≤ (σ_27.1 a 15).toInt ∧ (σ_27.1 a 15).toInt ≤ (σ_27.1 a 16).toInt ∧ (σ_27.1 a 16).toInt ≤ (σ_27.1 a 9).toInt ∧ (σ_27.1 a 9).toInt ≤ 900 ∧ 0 ≤ (σ_27.1 a 14).toInt ∧ (σ_27.1 a 14).toInt ≤ 4 ∧ (σ_27.1 a 14).toInt ≤ 4 * ((σ_27.1 a 16).toInt - (σ_27.1 a 15).toInt) ∧ (σ_27.1 a 14).toInt ≤ 4 * ((σ_27.1 a 9).toInt - (σ_27.1 a 15).toInt) ∧ 0 ≤ (σ_27.1 a 12).toInt ∧ (σ_27.1 a 9).toInt = (σ.1 a 9).toInt ∧ (σ.1 a 15).toInt ≤ (σ_27.1 a 15).toInt ∧ (σ.1 a 12).toInt ≤ (σ_27.1 a 12).toInt) → ((σ.1 a 15).toInt + 1 ≤ (σ_27.1 a 15).toInt) → (G_L140_5 X x_3 z_13 a v1 k_28 σ_27 = out) → q_I X 1 σ s.heap locs σ_27 H → lv_has ls 5 [(0, .ref a), (1, .int v1), (2, .int r_1), (3, .int x_3), (4, .int z_13)] → W p l e (q_rm (rmf + 1) (24 + rmw)) s m ([.ref a, .int v1] : List Value).toArray below meth c H locs 0 0 (MQ below QQ ([.ref a, .int v1] : List Value).toArray s 0 0 (q_reg X)) (F0 m 140 ls []) := by
              clear hF
              intro k_28
              induction k_28 with
              | zero =>
                intro σ_27 H locs ls hms
                try clear fr_σ_16; try clear mcσ_16; try clear klσ_16; try clear beσ_16; try clear ahpσ_18; try clear fr_σ_18; try clear mcσ_18; try clear klσ_18; try clear fr_σ_19; try clear mcσ_19; try clear klσ_19; try clear cwσ_19; try clear ahpσ_21; try clear fr_σ_21; try clear klσ_21; try clear cwσ_21; try clear rrσ_21; try clear ahpσ_24; try clear ahpσ_26; try clear fr_σ_26; try clear mcσ_26; try clear klσ_26; try clear smσ_26; try clear nbσ_26; try clear oxσ_26; try clear cwσ_26; try clear rrσ_26
                exact absurd hms (Nat.not_lt_zero _)
              | succ k_28 ih140 =>
                intro σ_27 H locs ls hm140 nrσ_27 lpσ_27 fr_σ_27 klσ_27 smσ_27 oxσ_27 hF hI hl
                replace hF := (eG_L140_5_s _ _ _ _ _ _ _).symm.trans hF
                rewrite [eG_B140_5] at hF
                refine lv_iload_n hx hb dX12_readStep_140 rfl (lv_at hl 3 rfl) ?_
                refine q_if_eq (A := x_3.toInt) E rfl (tgt := 168) dX12_readStep_141 (by decide) (fun c_29 => ?_) (fun c_29 => ?_)
                · skip
                  replace hF := q_ifp hF c_29
                  rewrite [eG_E168_6] at hF
                  refine lv_iload_n hx hb dX12_readStep_168 rfl (lv_at hl 3 rfl) ?_
                  refine q_if_eq (A := x_3.toInt) E rfl (tgt := 190) dX12_readStep_169 (by decide) (fun c_30 => ?_) (fun c_30 => ?_)
                  · skip
                    replace hF := q_ifp hF c_30
                    refine lv_aload_n hx hb dX12_readStep_190 rfl (lv_at hl 0 rfl) ?_
                    refine gs_X12_35_12 E hI ha dX12_readStep_191 ?_
                    refine lv_iload hx hb dX12_readStep_194 (lv_at hl 4 rfl) ?_
                    refine lv_bipush (v := 8) hx hb dX12_readStep_196 zkb_8 ?_
                    refine lv_iadd hx hb dX12_readStep_198 ?_
                    refine lv_topi (fun z_31 ez_31 => ?_)
                    replace hF := q_letX hF ez_31
                    have iz_31 := q_addI (A := (4376 + (9 * f_11.toInt))) (B := 8) ez_31 iz_13 (by decide) (by first | (clear hkd hs hz hc2 hd bhpσ_2 chpσ_2 dhpσ_2 j20 if_5 if_7 taσ_8 tbσ_8 if_9 c_10 iz_12 iz_13 dhpσ_18 ehpσ_18 dhpσ_21 ehpσ_21 fhpσ_21 kc_22 bhpσ_24 chpσ_24 chpσ_26 dhpσ_26 ehpσ_26 hm140 nrσ_27 smσ_27 oxσ_27 c_29 c_30; omega) | omega) (by first | (clear hkd hs hz hc2 hd bhpσ_2 chpσ_2 dhpσ_2 j20 if_5 if_7 taσ_8 tbσ_8 if_9 c_10 iz_12 iz_13 dhpσ_18 ehpσ_18 dhpσ_21 ehpσ_21 fhpσ_21 kc_22 bhpσ_24 chpσ_24 chpσ_26 dhpσ_26 ehpσ_26 hm140 nrσ_27 smσ_27 oxσ_27 c_29 c_30; omega) | omega)
                    refine lv_aload_n hx hb dX12_readStep_199 rfl (lv_at hl 0 rfl) ?_
                    refine gs_X12_267_12 E hI ha dX12_readStep_200 ?_
                    refine lv_topi (fun f_32 ef_32 => ?_)
                    replace hF := q_letX hF ef_32
                    have if_32 : f_32.toInt = (σ_27.1 a 27).toInt := congrArg Int32.toInt ef_32
                    refine q_iastN E hI (q_tk (k' := 34) hI ha rfl (Nat.succ_ne_zero _)) ⟨by decide, rfl⟩ (by first | (clear hkd hs hz hc2 hd bhpσ_2 chpσ_2 dhpσ_2 j20 if_5 if_7 taσ_8 tbσ_8 if_9 c_10 iz_12 iz_13 dhpσ_18 ehpσ_18 dhpσ_21 ehpσ_21 fhpσ_21 kc_22 bhpσ_24 chpσ_24 chpσ_26 dhpσ_26 ehpσ_26 hm140 nrσ_27 smσ_27 oxσ_27 c_29 c_30 if_32; omega) | omega) (by rw [q_lnk (v := 4650) hI (q_tk (k' := 34) hI ha rfl (Nat.succ_ne_zero _)) rfl (by decide)]; omega) (show 1 < 2 by decide) (q_inU rfl) dX12_readStep_203 (fun H locs σ_33 hσ_33 hI => ?_)
                    replace hF := q_letX hF hσ_33
                    have fr_σ_33 := fr_σ_27.si hσ_33 (q_tk (k' := 34) hI ha rfl (Nat.succ_ne_zero _)) rfl
                    have mv9_σ_33 : (σ_33.1 a 9).toInt = (σ_27.1 a 9).toInt := congrArg Int32.toInt (q_rdn hσ_33 (Or.inl (m_ne ha (q_tk (k' := 34) hI ha rfl (Nat.succ_ne_zero _)) (by decide))))
                    have mv12_σ_33 : (σ_33.1 a 12).toInt = (σ_27.1 a 12).toInt := congrArg Int32.toInt (q_rdn hσ_33 (Or.inl (m_ne ha (q_tk (k' := 34) hI ha rfl (Nat.succ_ne_zero _)) (by decide))))
                    have mv14_σ_33 : (σ_33.1 a 14).toInt = (σ_27.1 a 14).toInt := congrArg Int32.toInt (q_rdn hσ_33 (Or.inl (m_ne ha (q_tk (k' := 34) hI ha rfl (Nat.succ_ne_zero _)) (by decide))))
                    have mv15_σ_33 : (σ_33.1 a 15).toInt = (σ_27.1 a 15).toInt := congrArg Int32.toInt (q_rdn hσ_33 (Or.inl (m_ne ha (q_tk (k' := 34) hI ha rfl (Nat.succ_ne_zero _)) (by decide))))
                    have mv16_σ_33 : (σ_33.1 a 16).toInt = (σ_27.1 a 16).toInt := congrArg Int32.toInt (q_rdn hσ_33 (Or.inl (m_ne ha (q_tk (k' := 34) hI ha rfl (Nat.succ_ne_zero _)) (by decide))))
                    have mv27_σ_33 : (σ_33.1 a 27).toInt = (σ_27.1 a 27).toInt := congrArg Int32.toInt (q_rdn hσ_33 (Or.inl (m_ne ha (q_tk (k' := 34) hI ha rfl (Nat.succ_ne_zero _)) (by decide))))
                    have mcσ_33 := m_wr (v := f_32) (A := ((4376 + (9 * f_11.toInt)) + 8)) hσ_33 iz_31 (by first | (clear hkd hs hz hc2 hd bhpσ_2 chpσ_2 dhpσ_2 j20 if_5 if_7 taσ_8 tbσ_8 if_9 c_10 iz_12 iz_13 dhpσ_18 ehpσ_18 dhpσ_21 ehpσ_21 fhpσ_21 kc_22 bhpσ_24 chpσ_24 chpσ_26 dhpσ_26 ehpσ_26 hm140 nrσ_27 smσ_27 oxσ_27 c_29 c_30 iz_31 if_32 mv9_σ_33 mv12_σ_33 mv14_σ_33 mv15_σ_33 mv16_σ_33 mv27_σ_33; omega) | omega)
                    have klσ_33 : ∀ j, 0 ≤ j → j < 4376 + 9 * (σ.1 a 27).toInt → m_c X σ_33 a j = m_c X σ a j := fun j h0 h1 => by rw [mcσ_33 j h0, if_neg (by first | (clear hkd hs hz hc2 hn hd bhpσ_2 chpσ_2 dhpσ_2 j20 if_5 if_7 taσ_8 tbσ_8 if_9 c_10 kk0 iz_12 iz_13 dhpσ_18 ehpσ_18 dhpσ_21 ehpσ_21 fhpσ_21 kc_22 bhpσ_24 chpσ_24 chpσ_26 dhpσ_26 ehpσ_26 hm140 nrσ_27 smσ_27 oxσ_27 c_29 c_30 iz_31 if_32 mv9_σ_33 mv12_σ_33 mv14_σ_33 mv15_σ_33 mv16_σ_33 mv27_σ_33; omega) | omega)]; exact klσ_27 j h0 h1
                    have smσ_33 : 0 ≤ (σ_33.1 a 15).toInt ∧ (σ_33.1 a 15).toInt ≤ (σ_33.1 a 16).toInt ∧ (σ_33.1 a 16).toInt ≤ (σ_33.1 a 9).toInt ∧ (σ_33.1 a 9).toInt ≤ 900 ∧ 0 ≤ (σ_33.1 a 14).toInt ∧ (σ_33.1 a 14).toInt ≤ 4 ∧ (σ_33.1 a 14).toInt ≤ 4 * ((σ_33.1 a 16).toInt - (σ_33.1 a 15).toInt) ∧ (σ_33.1 a 14).toInt ≤ 4 * ((σ_33.1 a 9).toInt - (σ_33.1 a 15).toInt) ∧ 0 ≤ (σ_33.1 a 12).toInt ∧ (σ_33.1 a 9).toInt = (σ.1 a 9).toInt ∧ (σ.1 a 15).toInt ≤ (σ_33.1 a 15).toInt ∧ (σ.1 a 12).toInt ≤ (σ_33.1 a 12).toInt := (by first | (rw [mv12_σ_33, mv14_σ_33, mv15_σ_33, mv16_σ_33, mv9_σ_33]; exact smσ_27) | omega)
                    have oxσ_33 : (σ.1 a 15).toInt + 1 ≤ (σ_33.1 a 15).toInt := (by first | (clear hkd hs hz hc2 hn hd bhpσ_2 chpσ_2 dhpσ_2 j20 if_5 if_7 nsσ_8 taσ_8 tbσ_8 if_9 c_10 kk0 if_11 iz_12 iz_13 if_14 iz_15 dhpσ_18 ehpσ_18 dhpσ_21 ehpσ_21 fhpσ_21 kc_22 bhpσ_24 chpσ_24 chpσ_26 dhpσ_26 ehpσ_26 hm140 nrσ_27 smσ_27 c_29 c_30 iz_31 if_32 mv9_σ_33 mv12_σ_33 mv14_σ_33 mv16_σ_33 mv27_σ_33 smσ_33; omega) | omega)
                    have nrσ_33 : (σ.1 a 27).toInt + 1 ≤ (σ_33.1 a 27).toInt ∧ (σ_33.1 a 27).toInt ≤ 30 := (by first | (clear hkd hs hz hc2 hn hd bhpσ_2 chpσ_2 dhpσ_2 j20 if_5 if_7 taσ_8 tbσ_8 if_9 c_10 kk0 iz_12 iz_13 dhpσ_18 ehpσ_18 dhpσ_21 ehpσ_21 fhpσ_21 kc_22 bhpσ_24 chpσ_24 chpσ_26 dhpσ_26 ehpσ_26 hm140 smσ_27 oxσ_27 c_29 c_30 iz_31 mv9_σ_33 mv12_σ_33 mv14_σ_33 mv15_σ_33 mv16_σ_33 smσ_33 oxσ_33; omega) | omega)
                    have fiσ_33 : m_oz (σ_33.1 a 12).toInt (∀ t, (σ.1 a 27).toInt ≤ t → t < (σ_33.1 a 27).toInt → m_stp (m_c X σ_33 a) (4376 + 9 * t) t (σ_33.1 a 27).toInt) := (m_oz.mono lpσ_27 (by first | (clear hkd hs hz hc2 hn hd bhpσ_2 chpσ_2 dhpσ_2 j20 if_5 if_7 nsσ_8 taσ_8 tbσ_8 if_9 c_10 kk0 if_11 iz_12 iz_13 if_14 iz_15 dhpσ_18 ehpσ_18 dhpσ_21 ehpσ_21 fhpσ_21 kc_22 bhpσ_24 chpσ_24 chpσ_26 dhpσ_26 ehpσ_26 hm140 nrσ_27 oxσ_27 c_29 c_30 iz_31 if_32 mv9_σ_33 mv14_σ_33 mv15_σ_33 mv16_σ_33 mv27_σ_33 smσ_33 oxσ_33 nrσ_33; omega) | omega) (by first | (clear hkd hs hz hc2 hn hd bhpσ_2 chpσ_2 dhpσ_2 j20 if_5 if_7 nsσ_8 taσ_8 tbσ_8 if_9 c_10 kk0 if_11 iz_12 iz_13 if_14 iz_15 dhpσ_18 ehpσ_18 dhpσ_21 ehpσ_21 fhpσ_21 kc_22 bhpσ_24 chpσ_24 chpσ_26 dhpσ_26 ehpσ_26 hm140 nrσ_27 smσ_27 oxσ_27 c_29 c_30 iz_31 if_32 mv9_σ_33 mv14_σ_33 mv15_σ_33 mv16_σ_33 mv27_σ_33 smσ_33 oxσ_33 nrσ_33; omega) | omega) (fun h => by have en : (σ_33.1 a 27).toInt = (σ_27.1 a 27).toInt := (by omega); rw [en]; exact m_lp.done h (fun j hj => by rw [mcσ_33 j hj, iz_13]) (by omega) (by first | (clear hkd hs hz hc2 hn hd bhpσ_2 chpσ_2 dhpσ_2 j20 if_5 if_7 taσ_8 tbσ_8 if_9 c_10 kk0 iz_12 if_14 iz_15 dhpσ_18 ehpσ_18 dhpσ_21 ehpσ_21 fhpσ_21 kc_22 bhpσ_24 chpσ_24 chpσ_26 dhpσ_26 ehpσ_26 hm140 nrσ_27 smσ_27 oxσ_27 c_29 c_30 iz_31 if_32 mv9_σ_33 mv12_σ_33 mv14_σ_33 mv15_σ_33 mv16_σ_33 mv27_σ_33 smσ_33 oxσ_33 nrσ_33; omega) | omega) (by first | (clear hkd hs hz hc2 hd bhpσ_2 chpσ_2 dhpσ_2 j20 if_5 if_7 taσ_8 tbσ_8 if_9 c_10 iz_12 iz_13 dhpσ_18 ehpσ_18 dhpσ_21 ehpσ_21 fhpσ_21 kc_22 bhpσ_24 chpσ_24 chpσ_26 dhpσ_26 ehpσ_26 hm140 smσ_27 oxσ_27 c_29 c_30 iz_31 mv9_σ_33 mv12_σ_33 mv14_σ_33 mv15_σ_33 mv16_σ_33 smσ_33 oxσ_33 nrσ_33; omega) | omega)))
                    clear mv9_σ_33 mv12_σ_33 mv14_σ_33 mv15_σ_33 mv16_σ_33 mv27_σ_33 smσ_27 oxσ_27 nrσ_27
                    rewrite [hQQ]; exact q_retv E hr hlk hI ⟨klσ_33, (by first | exact smσ_33 | omega), (by first | exact smσ_33 | omega), (by first | exact smσ_33 | omega), fiσ_33, (hF.trans hout), fr_σ_33⟩ dX12_readStep_204
                  · skip
                    replace hF := q_ifn hF c_30
                    refine lv_aload_n hx hb dX12_readStep_172 rfl (lv_at hl 0 rfl) ?_
                    refine lv_aload_n hx hb dX12_readStep_173 rfl (lv_at hl 0 rfl) ?_
                    refine q_ci (q_runV (As := []) (rest := [.ref a]) E (hml.trans hl.1.symm) hI (c_X12_isEnd l X σ_27 a ha) kv_X12_181 ha ⟨rfl, by decide⟩ (show vwCl[11]? = some (RX12, TX12, 46) from rfl) rfl ⟨rm_f hrf (Nat.le_of_ble_eq_true rfl), rm_w hrw (Nat.le_of_ble_eq_true rfl)⟩ ⟨Nat.le_refl _, Nat.le_refl _⟩ rfl (Nat.le_of_ble_eq_true rfl) dX12_readStep_174) hI (Nat.le_of_ble_eq_true rfl) (fun r_34 σ_35 H locs hpσ_35 hkσ_35 hI => ?_)
                    have ahpσ_35 := hpσ_35.1
                    have bhpσ_35 := hpσ_35.2.1
                    have chpσ_35 := hpσ_35.2.2
                    clear hpσ_35
                    replace hI := q_Irw ahpσ_35 hI
                    replace hF := q_letX hF chpσ_35
                    refine q_cv (q_runV (As := [.int r_34]) (rest := []) E (hml.trans hl.1.symm) hI (c_X12_must l X σ_27 a r_34 ha (by first | exact sm_9 smσ_27 | exact hs | omega) (by first | (clear hkd hs hz hc2 hn hd bhpσ_2 chpσ_2 dhpσ_2 j20 if_5 if_7 nsσ_8 taσ_8 tbσ_8 if_9 c_10 kk0 if_11 iz_12 iz_13 if_14 iz_15 dhpσ_18 ehpσ_18 dhpσ_21 ehpσ_21 fhpσ_21 kc_22 bhpσ_24 chpσ_24 chpσ_26 dhpσ_26 ehpσ_26 hm140 c_29 c_30 ahpσ_35 chpσ_35; omega) | omega)) kv_X12_216 ha ⟨rfl, by decide⟩ (show vwCl[11]? = some (RX12, TX12, 46) from rfl) rfl ⟨rm_f hrf (Nat.le_of_ble_eq_true rfl), rm_w hrw (Nat.le_of_ble_eq_true rfl)⟩ ⟨Nat.le_refl _, Nat.le_refl _⟩ rfl (Nat.le_of_ble_eq_true rfl) dX12_readStep_177) hI (Nat.le_of_ble_eq_true rfl) (fun σ_37 H locs hpσ_37 hkσ_37 hI => ?_)
                    have ahpσ_37 := hpσ_37.1
                    have bhpσ_37 := hpσ_37.2.1
                    have chpσ_37 := hpσ_37.2.2.1
                    have dhpσ_37 := hpσ_37.2.2.2.1
                    have ehpσ_37 := hpσ_37.2.2.2.2
                    clear hpσ_37
                    have fr_σ_37 := fr_σ_27.call ehpσ_37 rfl rfl
                    replace hF := q_letX hF dhpσ_37
                    have mv27_σ_37 : (σ_37.1 a 27).toInt = (σ_27.1 a 27).toInt := congrArg Int32.toInt (ahpσ_37 a 27 (q_cl9 _ _) (fun h => absurd h.2.2 (by decide)))
                    have mcσ_37 := m_cK hkσ_37 hI.1 ha (by decide)
                    have klσ_37 : ∀ j, 0 ≤ j → j < 4376 + 9 * (σ.1 a 27).toInt → m_c X σ_37 a j = m_c X σ a j := fun j h0 h1 => (mcσ_37 j).trans (klσ_27 j h0 h1)
                    have smσ_37 : 0 ≤ (σ_37.1 a 15).toInt ∧ (σ_37.1 a 15).toInt ≤ (σ_37.1 a 16).toInt ∧ (σ_37.1 a 16).toInt ≤ (σ_37.1 a 9).toInt ∧ (σ_37.1 a 9).toInt ≤ 900 ∧ 0 ≤ (σ_37.1 a 14).toInt ∧ (σ_37.1 a 14).toInt ≤ 4 ∧ (σ_37.1 a 14).toInt ≤ 4 * ((σ_37.1 a 16).toInt - (σ_37.1 a 15).toInt) ∧ (σ_37.1 a 14).toInt ≤ 4 * ((σ_37.1 a 9).toInt - (σ_37.1 a 15).toInt) ∧ 0 ≤ (σ_37.1 a 12).toInt ∧ (σ_37.1 a 9).toInt = (σ.1 a 9).toInt ∧ (σ.1 a 15).toInt ≤ (σ_37.1 a 15).toInt ∧ (σ.1 a 12).toInt ≤ (σ_37.1 a 12).toInt := (by first | exact sm_tr smσ_27 bhpσ_37 | exact sm_tr smσ_27 chpσ_37 | omega)
                    have oxσ_37 : (σ.1 a 15).toInt + 1 ≤ (σ_37.1 a 15).toInt := (by first | (clear hkd hs hz hc2 hn hd bhpσ_2 chpσ_2 dhpσ_2 j20 if_5 if_7 nsσ_8 taσ_8 tbσ_8 if_9 c_10 kk0 if_11 iz_12 iz_13 if_14 iz_15 dhpσ_18 ehpσ_18 dhpσ_21 ehpσ_21 fhpσ_21 kc_22 bhpσ_24 chpσ_24 chpσ_26 dhpσ_26 ehpσ_26 hm140 c_29 c_30 ahpσ_35 bhpσ_35 chpσ_35 ahpσ_37 chpσ_37 dhpσ_37 ehpσ_37 mv27_σ_37; omega) | omega)
                    have nrσ_37 : (σ.1 a 27).toInt + 1 ≤ (σ_37.1 a 27).toInt ∧ (σ_37.1 a 27).toInt ≤ 30 := (by first | (clear hkd hs hz hc2 hn hd bhpσ_2 chpσ_2 dhpσ_2 j20 if_5 if_7 taσ_8 tbσ_8 if_9 c_10 kk0 iz_12 iz_13 dhpσ_18 ehpσ_18 dhpσ_21 ehpσ_21 fhpσ_21 kc_22 bhpσ_24 chpσ_24 chpσ_26 dhpσ_26 ehpσ_26 hm140 c_29 c_30 ahpσ_35 bhpσ_35 chpσ_35 ahpσ_37 bhpσ_37 chpσ_37 dhpσ_37 ehpσ_37 smσ_37 oxσ_37; omega) | omega)
                    have lpσ_37 : m_oz (σ_37.1 a 12).toInt (m_lp (m_c X σ_37 a) z_13.toInt (σ.1 a 27).toInt (σ_37.1 a 27).toInt) := (m_oz.mono lpσ_27 (by first | (clear hkd hs hz hc2 hn hd bhpσ_2 chpσ_2 dhpσ_2 j20 if_5 if_7 nsσ_8 taσ_8 tbσ_8 if_9 c_10 kk0 if_11 iz_12 iz_13 if_14 iz_15 dhpσ_18 ehpσ_18 dhpσ_21 ehpσ_21 fhpσ_21 kc_22 bhpσ_24 chpσ_24 chpσ_26 dhpσ_26 ehpσ_26 hm140 c_29 c_30 ahpσ_35 bhpσ_35 chpσ_35 ahpσ_37 bhpσ_37 chpσ_37 dhpσ_37 ehpσ_37 mv27_σ_37 smσ_37 oxσ_37 nrσ_37; omega) | omega) (by first | (clear hkd hs hz hc2 hn hd bhpσ_2 chpσ_2 dhpσ_2 j20 if_5 if_7 nsσ_8 taσ_8 tbσ_8 if_9 c_10 kk0 if_11 iz_12 iz_13 if_14 iz_15 dhpσ_18 ehpσ_18 dhpσ_21 ehpσ_21 fhpσ_21 kc_22 bhpσ_24 chpσ_24 chpσ_26 dhpσ_26 ehpσ_26 hm140 c_29 c_30 ahpσ_35 bhpσ_35 chpσ_35 ahpσ_37 chpσ_37 dhpσ_37 ehpσ_37 mv27_σ_37 smσ_37 oxσ_37 nrσ_37; omega) | omega) (fun h => m_lp.ext h (fun j => mcσ_37 j) (by omega)))
                    clear mv27_σ_37 smσ_27 oxσ_27 nrσ_27 bhpσ_37
                    refine lv_aload_n hx hb dX12_readStep_180 rfl (lv_at hl 0 rfl) ?_
                    refine lv_aload_n hx hb dX12_readStep_181 rfl (lv_at hl 0 rfl) ?_
                    refine lv_bipush (v := 59) hx hb dX12_readStep_182 zkb_59 ?_
                    have kc_38 : (59 : Int32).toInt = 59 := zt_59
                    refine q_ci (q_runV (As := [.int 59]) (rest := [.ref a]) E (hml.trans hl.1.symm) hI (c_X12_isSign l X σ_37 a (59 : Int32) ha) kv_X12_243 ha ⟨rfl, by decide⟩ (show vwCl[11]? = some (RX12, TX12, 46) from rfl) rfl ⟨rm_f hrf (Nat.le_of_ble_eq_true rfl), rm_w hrw (Nat.le_of_ble_eq_true rfl)⟩ ⟨Nat.le_refl _, Nat.le_refl _⟩ rfl (Nat.le_of_ble_eq_true rfl) dX12_readStep_184) hI (Nat.le_of_ble_eq_true rfl) (fun r_39 σ_40 H locs hpσ_40 hkσ_40 hI => ?_)
                    have ahpσ_40 := hpσ_40.1
                    have bhpσ_40 := hpσ_40.2.1
                    have chpσ_40 := hpσ_40.2.2
                    clear hpσ_40
                    replace hI := q_Irw ahpσ_40 hI
                    replace hF := q_letX hF chpσ_40
                    refine q_cv (q_runV (As := [.int r_39]) (rest := []) E (hml.trans hl.1.symm) hI (c_X12_must l X σ_37 a r_39 ha (by first | exact sm_9 smσ_37 | exact hs | omega) (by first | (clear hkd hs hz hc2 hn hd bhpσ_2 chpσ_2 dhpσ_2 j20 if_5 if_7 nsσ_8 taσ_8 tbσ_8 if_9 c_10 kk0 if_11 iz_12 iz_13 if_14 iz_15 dhpσ_18 ehpσ_18 dhpσ_21 ehpσ_21 fhpσ_21 kc_22 bhpσ_24 chpσ_24 chpσ_26 dhpσ_26 ehpσ_26 hm140 c_29 c_30 ahpσ_35 bhpσ_35 chpσ_35 ahpσ_37 chpσ_37 dhpσ_37 ehpσ_37 smσ_37 oxσ_37 nrσ_37 kc_38 ahpσ_40 chpσ_40; omega) | omega)) kv_X12_216 ha ⟨rfl, by decide⟩ (show vwCl[11]? = some (RX12, TX12, 46) from rfl) rfl ⟨rm_f hrf (Nat.le_of_ble_eq_true rfl), rm_w hrw (Nat.le_of_ble_eq_true rfl)⟩ ⟨Nat.le_refl _, Nat.le_refl _⟩ rfl (Nat.le_of_ble_eq_true rfl) dX12_readStep_187) hI (Nat.le_of_ble_eq_true rfl) (fun σ_42 H locs hpσ_42 hkσ_42 hI => ?_)
                    have ahpσ_42 := hpσ_42.1
                    have bhpσ_42 := hpσ_42.2.1
                    have chpσ_42 := hpσ_42.2.2.1
                    have dhpσ_42 := hpσ_42.2.2.2.1
                    have ehpσ_42 := hpσ_42.2.2.2.2
                    clear hpσ_42
                    have fr_σ_42 := fr_σ_37.call ehpσ_42 rfl rfl
                    replace hF := q_letX hF dhpσ_42
                    have mv27_σ_42 : (σ_42.1 a 27).toInt = (σ_37.1 a 27).toInt := congrArg Int32.toInt (ahpσ_42 a 27 (q_cl9 _ _) (fun h => absurd h.2.2 (by decide)))
                    have mcσ_42 := m_cK hkσ_42 hI.1 ha (by decide)
                    have klσ_42 : ∀ j, 0 ≤ j → j < 4376 + 9 * (σ.1 a 27).toInt → m_c X σ_42 a j = m_c X σ a j := fun j h0 h1 => (mcσ_42 j).trans (klσ_37 j h0 h1)
                    have smσ_42 : 0 ≤ (σ_42.1 a 15).toInt ∧ (σ_42.1 a 15).toInt ≤ (σ_42.1 a 16).toInt ∧ (σ_42.1 a 16).toInt ≤ (σ_42.1 a 9).toInt ∧ (σ_42.1 a 9).toInt ≤ 900 ∧ 0 ≤ (σ_42.1 a 14).toInt ∧ (σ_42.1 a 14).toInt ≤ 4 ∧ (σ_42.1 a 14).toInt ≤ 4 * ((σ_42.1 a 16).toInt - (σ_42.1 a 15).toInt) ∧ (σ_42.1 a 14).toInt ≤ 4 * ((σ_42.1 a 9).toInt - (σ_42.1 a 15).toInt) ∧ 0 ≤ (σ_42.1 a 12).toInt ∧ (σ_42.1 a 9).toInt = (σ.1 a 9).toInt ∧ (σ.1 a 15).toInt ≤ (σ_42.1 a 15).toInt ∧ (σ.1 a 12).toInt ≤ (σ_42.1 a 12).toInt := (by first | exact sm_tr smσ_37 bhpσ_42 | exact sm_tr smσ_37 chpσ_42 | omega)
                    have oxσ_42 : (σ.1 a 15).toInt + 1 ≤ (σ_42.1 a 15).toInt := (by first | (clear hkd hs hz hc2 hn hd bhpσ_2 chpσ_2 dhpσ_2 j20 if_5 if_7 nsσ_8 taσ_8 tbσ_8 if_9 c_10 kk0 if_11 iz_12 iz_13 if_14 iz_15 dhpσ_18 ehpσ_18 dhpσ_21 ehpσ_21 fhpσ_21 kc_22 bhpσ_24 chpσ_24 chpσ_26 dhpσ_26 ehpσ_26 hm140 c_29 c_30 ahpσ_35 bhpσ_35 chpσ_35 ahpσ_37 chpσ_37 dhpσ_37 ehpσ_37 smσ_37 nrσ_37 kc_38 ahpσ_40 bhpσ_40 chpσ_40 ahpσ_42 chpσ_42 dhpσ_42 ehpσ_42 mv27_σ_42; omega) | omega)
                    have nrσ_42 : (σ.1 a 27).toInt + 1 ≤ (σ_42.1 a 27).toInt ∧ (σ_42.1 a 27).toInt ≤ 30 := (by first | (clear hkd hs hz hc2 hn hd bhpσ_2 chpσ_2 dhpσ_2 j20 if_5 if_7 taσ_8 tbσ_8 if_9 c_10 kk0 iz_12 iz_13 dhpσ_18 ehpσ_18 dhpσ_21 ehpσ_21 fhpσ_21 kc_22 bhpσ_24 chpσ_24 chpσ_26 dhpσ_26 ehpσ_26 hm140 c_29 c_30 ahpσ_35 bhpσ_35 chpσ_35 ahpσ_37 chpσ_37 dhpσ_37 ehpσ_37 smσ_37 oxσ_37 kc_38 ahpσ_40 bhpσ_40 chpσ_40 ahpσ_42 bhpσ_42 chpσ_42 dhpσ_42 ehpσ_42 smσ_42 oxσ_42; omega) | omega)
                    have lpσ_42 : m_oz (σ_42.1 a 12).toInt (m_lp (m_c X σ_42 a) z_13.toInt (σ.1 a 27).toInt (σ_42.1 a 27).toInt) := (m_oz.mono lpσ_37 (by first | (clear hkd hs hz hc2 hn hd bhpσ_2 chpσ_2 dhpσ_2 j20 if_5 if_7 nsσ_8 taσ_8 tbσ_8 if_9 c_10 kk0 if_11 iz_12 iz_13 if_14 iz_15 dhpσ_18 ehpσ_18 dhpσ_21 ehpσ_21 fhpσ_21 kc_22 bhpσ_24 chpσ_24 chpσ_26 dhpσ_26 ehpσ_26 hm140 c_29 c_30 ahpσ_35 bhpσ_35 chpσ_35 ahpσ_37 chpσ_37 dhpσ_37 ehpσ_37 oxσ_37 nrσ_37 kc_38 ahpσ_40 bhpσ_40 chpσ_40 ahpσ_42 bhpσ_42 chpσ_42 dhpσ_42 ehpσ_42 mv27_σ_42 smσ_42 oxσ_42 nrσ_42; omega) | omega) (by first | (clear hkd hs hz hc2 hn hd bhpσ_2 chpσ_2 dhpσ_2 j20 if_5 if_7 nsσ_8 taσ_8 tbσ_8 if_9 c_10 kk0 if_11 iz_12 iz_13 if_14 iz_15 dhpσ_18 ehpσ_18 dhpσ_21 ehpσ_21 fhpσ_21 kc_22 bhpσ_24 chpσ_24 chpσ_26 dhpσ_26 ehpσ_26 hm140 c_29 c_30 ahpσ_35 bhpσ_35 chpσ_35 ahpσ_37 chpσ_37 dhpσ_37 ehpσ_37 smσ_37 oxσ_37 nrσ_37 kc_38 ahpσ_40 bhpσ_40 chpσ_40 ahpσ_42 chpσ_42 dhpσ_42 ehpσ_42 mv27_σ_42 smσ_42 oxσ_42 nrσ_42; omega) | omega) (fun h => m_lp.ext h (fun j => mcσ_42 j) (by omega)))
                    clear mv27_σ_42 smσ_37 oxσ_37 nrσ_37 bhpσ_42
                    refine lv_aload_n hx hb dX12_readStep_190 rfl (lv_at hl 0 rfl) ?_
                    refine gs_X12_35_12 E hI ha dX12_readStep_191 ?_
                    refine lv_iload hx hb dX12_readStep_194 (lv_at hl 4 rfl) ?_
                    refine lv_bipush (v := 8) hx hb dX12_readStep_196 zkb_8 ?_
                    refine lv_iadd hx hb dX12_readStep_198 ?_
                    refine lv_topi (fun z_43 ez_43 => ?_)
                    replace hF := q_letX hF ez_43
                    have iz_43 := q_addI (A := (4376 + (9 * f_11.toInt))) (B := 8) ez_43 iz_13 (by decide) (by first | (clear hkd hs hz hc2 hd bhpσ_2 chpσ_2 dhpσ_2 j20 if_5 if_7 taσ_8 tbσ_8 if_9 c_10 iz_12 iz_13 dhpσ_18 ehpσ_18 dhpσ_21 ehpσ_21 fhpσ_21 kc_22 bhpσ_24 chpσ_24 chpσ_26 dhpσ_26 ehpσ_26 hm140 c_29 c_30 ahpσ_35 bhpσ_35 chpσ_35 ahpσ_37 chpσ_37 dhpσ_37 ehpσ_37 kc_38 ahpσ_40 bhpσ_40 chpσ_40 ahpσ_42 chpσ_42 dhpσ_42 ehpσ_42 smσ_42 oxσ_42 nrσ_42; omega) | omega) (by first | (clear hkd hs hz hc2 hd bhpσ_2 chpσ_2 dhpσ_2 j20 if_5 if_7 taσ_8 tbσ_8 if_9 c_10 iz_12 iz_13 dhpσ_18 ehpσ_18 dhpσ_21 ehpσ_21 fhpσ_21 kc_22 bhpσ_24 chpσ_24 chpσ_26 dhpσ_26 ehpσ_26 hm140 c_29 c_30 ahpσ_35 bhpσ_35 chpσ_35 ahpσ_37 chpσ_37 dhpσ_37 ehpσ_37 kc_38 ahpσ_40 bhpσ_40 chpσ_40 ahpσ_42 chpσ_42 dhpσ_42 ehpσ_42 smσ_42 oxσ_42 nrσ_42; omega) | omega)
                    refine lv_aload_n hx hb dX12_readStep_199 rfl (lv_at hl 0 rfl) ?_
                    refine gs_X12_267_12 E hI ha dX12_readStep_200 ?_
                    refine lv_topi (fun f_44 ef_44 => ?_)
                    replace hF := q_letX hF ef_44
                    have if_44 : f_44.toInt = (σ_42.1 a 27).toInt := congrArg Int32.toInt ef_44
                    refine q_iastN E hI (q_tk (k' := 34) hI ha rfl (Nat.succ_ne_zero _)) ⟨by decide, rfl⟩ (by first | (clear hkd hs hz hc2 hd bhpσ_2 chpσ_2 dhpσ_2 j20 if_5 if_7 taσ_8 tbσ_8 if_9 c_10 iz_12 iz_13 dhpσ_18 ehpσ_18 dhpσ_21 ehpσ_21 fhpσ_21 kc_22 bhpσ_24 chpσ_24 chpσ_26 dhpσ_26 ehpσ_26 hm140 c_29 c_30 ahpσ_35 bhpσ_35 chpσ_35 ahpσ_37 chpσ_37 dhpσ_37 ehpσ_37 kc_38 ahpσ_40 bhpσ_40 chpσ_40 ahpσ_42 chpσ_42 dhpσ_42 ehpσ_42 smσ_42 oxσ_42 nrσ_42 if_44; omega) | omega) (by rw [q_lnk (v := 4650) hI (q_tk (k' := 34) hI ha rfl (Nat.succ_ne_zero _)) rfl (by decide)]; omega) (show 1 < 2 by decide) (q_inU rfl) dX12_readStep_203 (fun H locs σ_45 hσ_45 hI => ?_)
                    replace hF := q_letX hF hσ_45
                    have fr_σ_45 := fr_σ_42.si hσ_45 (q_tk (k' := 34) hI ha rfl (Nat.succ_ne_zero _)) rfl
                    have mv9_σ_45 : (σ_45.1 a 9).toInt = (σ_42.1 a 9).toInt := congrArg Int32.toInt (q_rdn hσ_45 (Or.inl (m_ne ha (q_tk (k' := 34) hI ha rfl (Nat.succ_ne_zero _)) (by decide))))
                    have mv12_σ_45 : (σ_45.1 a 12).toInt = (σ_42.1 a 12).toInt := congrArg Int32.toInt (q_rdn hσ_45 (Or.inl (m_ne ha (q_tk (k' := 34) hI ha rfl (Nat.succ_ne_zero _)) (by decide))))
                    have mv14_σ_45 : (σ_45.1 a 14).toInt = (σ_42.1 a 14).toInt := congrArg Int32.toInt (q_rdn hσ_45 (Or.inl (m_ne ha (q_tk (k' := 34) hI ha rfl (Nat.succ_ne_zero _)) (by decide))))
                    have mv15_σ_45 : (σ_45.1 a 15).toInt = (σ_42.1 a 15).toInt := congrArg Int32.toInt (q_rdn hσ_45 (Or.inl (m_ne ha (q_tk (k' := 34) hI ha rfl (Nat.succ_ne_zero _)) (by decide))))
                    have mv16_σ_45 : (σ_45.1 a 16).toInt = (σ_42.1 a 16).toInt := congrArg Int32.toInt (q_rdn hσ_45 (Or.inl (m_ne ha (q_tk (k' := 34) hI ha rfl (Nat.succ_ne_zero _)) (by decide))))
                    have mv27_σ_45 : (σ_45.1 a 27).toInt = (σ_42.1 a 27).toInt := congrArg Int32.toInt (q_rdn hσ_45 (Or.inl (m_ne ha (q_tk (k' := 34) hI ha rfl (Nat.succ_ne_zero _)) (by decide))))
                    have mcσ_45 := m_wr (v := f_44) (A := ((4376 + (9 * f_11.toInt)) + 8)) hσ_45 iz_43 (by first | (clear hkd hs hz hc2 hd bhpσ_2 chpσ_2 dhpσ_2 j20 if_5 if_7 taσ_8 tbσ_8 if_9 c_10 iz_12 iz_13 dhpσ_18 ehpσ_18 dhpσ_21 ehpσ_21 fhpσ_21 kc_22 bhpσ_24 chpσ_24 chpσ_26 dhpσ_26 ehpσ_26 hm140 c_29 c_30 ahpσ_35 bhpσ_35 chpσ_35 ahpσ_37 chpσ_37 dhpσ_37 ehpσ_37 kc_38 ahpσ_40 bhpσ_40 chpσ_40 ahpσ_42 chpσ_42 dhpσ_42 ehpσ_42 smσ_42 oxσ_42 nrσ_42 iz_43 if_44 mv9_σ_45 mv12_σ_45 mv14_σ_45 mv15_σ_45 mv16_σ_45 mv27_σ_45; omega) | omega)
                    have klσ_45 : ∀ j, 0 ≤ j → j < 4376 + 9 * (σ.1 a 27).toInt → m_c X σ_45 a j = m_c X σ a j := fun j h0 h1 => by rw [mcσ_45 j h0, if_neg (by first | (clear hkd hs hz hc2 hn hd bhpσ_2 chpσ_2 dhpσ_2 j20 if_5 if_7 taσ_8 tbσ_8 if_9 c_10 kk0 iz_12 iz_13 dhpσ_18 ehpσ_18 dhpσ_21 ehpσ_21 fhpσ_21 kc_22 bhpσ_24 chpσ_24 chpσ_26 dhpσ_26 ehpσ_26 hm140 c_29 c_30 ahpσ_35 bhpσ_35 chpσ_35 ahpσ_37 chpσ_37 dhpσ_37 ehpσ_37 kc_38 ahpσ_40 bhpσ_40 chpσ_40 ahpσ_42 chpσ_42 dhpσ_42 ehpσ_42 smσ_42 oxσ_42 nrσ_42 iz_43 if_44 mv9_σ_45 mv12_σ_45 mv14_σ_45 mv15_σ_45 mv16_σ_45 mv27_σ_45; omega) | omega)]; exact klσ_42 j h0 h1
                    have smσ_45 : 0 ≤ (σ_45.1 a 15).toInt ∧ (σ_45.1 a 15).toInt ≤ (σ_45.1 a 16).toInt ∧ (σ_45.1 a 16).toInt ≤ (σ_45.1 a 9).toInt ∧ (σ_45.1 a 9).toInt ≤ 900 ∧ 0 ≤ (σ_45.1 a 14).toInt ∧ (σ_45.1 a 14).toInt ≤ 4 ∧ (σ_45.1 a 14).toInt ≤ 4 * ((σ_45.1 a 16).toInt - (σ_45.1 a 15).toInt) ∧ (σ_45.1 a 14).toInt ≤ 4 * ((σ_45.1 a 9).toInt - (σ_45.1 a 15).toInt) ∧ 0 ≤ (σ_45.1 a 12).toInt ∧ (σ_45.1 a 9).toInt = (σ.1 a 9).toInt ∧ (σ.1 a 15).toInt ≤ (σ_45.1 a 15).toInt ∧ (σ.1 a 12).toInt ≤ (σ_45.1 a 12).toInt := (by first | (rw [mv12_σ_45, mv14_σ_45, mv15_σ_45, mv16_σ_45, mv9_σ_45]; exact smσ_42) | omega)
                    have oxσ_45 : (σ.1 a 15).toInt + 1 ≤ (σ_45.1 a 15).toInt := (by first | (clear hkd hs hz hc2 hn hd bhpσ_2 chpσ_2 dhpσ_2 j20 if_5 if_7 nsσ_8 taσ_8 tbσ_8 if_9 c_10 kk0 if_11 iz_12 iz_13 if_14 iz_15 dhpσ_18 ehpσ_18 dhpσ_21 ehpσ_21 fhpσ_21 kc_22 bhpσ_24 chpσ_24 chpσ_26 dhpσ_26 ehpσ_26 hm140 c_29 c_30 ahpσ_35 bhpσ_35 chpσ_35 ahpσ_37 chpσ_37 dhpσ_37 ehpσ_37 kc_38 ahpσ_40 bhpσ_40 chpσ_40 ahpσ_42 chpσ_42 dhpσ_42 ehpσ_42 smσ_42 nrσ_42 iz_43 if_44 mv9_σ_45 mv12_σ_45 mv14_σ_45 mv16_σ_45 mv27_σ_45 smσ_45; omega) | omega)
                    have nrσ_45 : (σ.1 a 27).toInt + 1 ≤ (σ_45.1 a 27).toInt ∧ (σ_45.1 a 27).toInt ≤ 30 := (by first | (clear hkd hs hz hc2 hn hd bhpσ_2 chpσ_2 dhpσ_2 j20 if_5 if_7 taσ_8 tbσ_8 if_9 c_10 kk0 iz_12 iz_13 dhpσ_18 ehpσ_18 dhpσ_21 ehpσ_21 fhpσ_21 kc_22 bhpσ_24 chpσ_24 chpσ_26 dhpσ_26 ehpσ_26 hm140 c_29 c_30 ahpσ_35 bhpσ_35 chpσ_35 ahpσ_37 chpσ_37 dhpσ_37 ehpσ_37 kc_38 ahpσ_40 bhpσ_40 chpσ_40 ahpσ_42 chpσ_42 dhpσ_42 ehpσ_42 smσ_42 oxσ_42 iz_43 mv9_σ_45 mv12_σ_45 mv14_σ_45 mv15_σ_45 mv16_σ_45 smσ_45 oxσ_45; omega) | omega)
                    have fiσ_45 : m_oz (σ_45.1 a 12).toInt (∀ t, (σ.1 a 27).toInt ≤ t → t < (σ_45.1 a 27).toInt → m_stp (m_c X σ_45 a) (4376 + 9 * t) t (σ_45.1 a 27).toInt) := (m_oz.mono lpσ_42 (by first | (clear hkd hs hz hc2 hn hd bhpσ_2 chpσ_2 dhpσ_2 j20 if_5 if_7 nsσ_8 taσ_8 tbσ_8 if_9 c_10 kk0 if_11 iz_12 iz_13 if_14 iz_15 dhpσ_18 ehpσ_18 dhpσ_21 ehpσ_21 fhpσ_21 kc_22 bhpσ_24 chpσ_24 chpσ_26 dhpσ_26 ehpσ_26 hm140 c_29 c_30 ahpσ_35 bhpσ_35 chpσ_35 ahpσ_37 chpσ_37 dhpσ_37 ehpσ_37 kc_38 ahpσ_40 bhpσ_40 chpσ_40 ahpσ_42 chpσ_42 dhpσ_42 ehpσ_42 oxσ_42 nrσ_42 iz_43 if_44 mv9_σ_45 mv14_σ_45 mv15_σ_45 mv16_σ_45 mv27_σ_45 smσ_45 oxσ_45 nrσ_45; omega) | omega) (by first | (clear hkd hs hz hc2 hn hd bhpσ_2 chpσ_2 dhpσ_2 j20 if_5 if_7 nsσ_8 taσ_8 tbσ_8 if_9 c_10 kk0 if_11 iz_12 iz_13 if_14 iz_15 dhpσ_18 ehpσ_18 dhpσ_21 ehpσ_21 fhpσ_21 kc_22 bhpσ_24 chpσ_24 chpσ_26 dhpσ_26 ehpσ_26 hm140 c_29 c_30 ahpσ_35 bhpσ_35 chpσ_35 ahpσ_37 chpσ_37 dhpσ_37 ehpσ_37 kc_38 ahpσ_40 bhpσ_40 chpσ_40 ahpσ_42 chpσ_42 dhpσ_42 ehpσ_42 smσ_42 oxσ_42 nrσ_42 iz_43 if_44 mv9_σ_45 mv14_σ_45 mv15_σ_45 mv16_σ_45 mv27_σ_45 smσ_45 oxσ_45 nrσ_45; omega) | omega) (fun h => by have en : (σ_45.1 a 27).toInt = (σ_42.1 a 27).toInt := (by omega); rw [en]; exact m_lp.done h (fun j hj => by rw [mcσ_45 j hj, iz_13]) (by omega) (by first | (clear hkd hs hz hc2 hn hd bhpσ_2 chpσ_2 dhpσ_2 j20 if_5 if_7 taσ_8 tbσ_8 if_9 c_10 kk0 iz_12 if_14 iz_15 dhpσ_18 ehpσ_18 dhpσ_21 ehpσ_21 fhpσ_21 kc_22 bhpσ_24 chpσ_24 chpσ_26 dhpσ_26 ehpσ_26 hm140 c_29 c_30 ahpσ_35 bhpσ_35 chpσ_35 ahpσ_37 chpσ_37 dhpσ_37 ehpσ_37 kc_38 ahpσ_40 bhpσ_40 chpσ_40 ahpσ_42 chpσ_42 dhpσ_42 ehpσ_42 smσ_42 oxσ_42 nrσ_42 iz_43 if_44 mv9_σ_45 mv12_σ_45 mv14_σ_45 mv15_σ_45 mv16_σ_45 mv27_σ_45 smσ_45 oxσ_45 nrσ_45; omega) | omega) (by first | (clear hkd hs hz hc2 hd bhpσ_2 chpσ_2 dhpσ_2 j20 if_5 if_7 taσ_8 tbσ_8 if_9 c_10 iz_12 iz_13 dhpσ_18 ehpσ_18 dhpσ_21 ehpσ_21 fhpσ_21 kc_22 bhpσ_24 chpσ_24 chpσ_26 dhpσ_26 ehpσ_26 hm140 c_29 c_30 ahpσ_35 bhpσ_35 chpσ_35 ahpσ_37 chpσ_37 dhpσ_37 ehpσ_37 kc_38 ahpσ_40 bhpσ_40 chpσ_40 ahpσ_42 chpσ_42 dhpσ_42 ehpσ_42 smσ_42 oxσ_42 iz_43 mv9_σ_45 mv12_σ_45 mv14_σ_45 mv15_σ_45 mv16_σ_45 smσ_45 oxσ_45 nrσ_45; omega) | omega)))
                    clear mv9_σ_45 mv12_σ_45 mv14_σ_45 mv15_σ_45 mv16_σ_45 mv27_σ_45 smσ_42 oxσ_42 nrσ_42
                    rewrite [hQQ]; exact q_retv E hr hlk hI ⟨klσ_45, (by first | exact smσ_45 | omega), (by first | exact smσ_45 | omega), (by first | exact smσ_45 | omega), fiσ_45, (hF.trans hout), fr_σ_45⟩ dX12_readStep_204
                · skip
                  replace hF := q_ifn hF c_29
                  refine lv_aload_n hx hb dX12_readStep_144 rfl (lv_at hl 0 rfl) ?_
                  refine gs_X12_187_12 E hI ha dX12_readStep_145 ?_
                  refine lv_topi (fun f_46 ef_46 => ?_)
                  replace hF := q_letX hF ef_46
                  have if_46 : f_46.toInt = (σ_27.1 a 12).toInt := congrArg Int32.toInt ef_46
                  refine q_if_ne (A := f_46.toInt) E rfl (tgt := 168) dX12_readStep_148 (by decide) (fun c_47 => ?_) (fun c_47 => ?_)
                  · skip
                    replace hF := q_ifn hF c_47
                    rewrite [eG_E168_7] at hF
                    refine lv_iload_n hx hb dX12_readStep_168 rfl (lv_at hl 3 rfl) ?_
                    refine q_if_eq (A := x_3.toInt) E rfl (tgt := 190) dX12_readStep_169 (by decide) (fun c_48 => ?_) (fun c_48 => ?_)
                    · skip
                      replace hF := q_ifp hF c_48
                      refine lv_aload_n hx hb dX12_readStep_190 rfl (lv_at hl 0 rfl) ?_
                      refine gs_X12_35_12 E hI ha dX12_readStep_191 ?_
                      refine lv_iload hx hb dX12_readStep_194 (lv_at hl 4 rfl) ?_
                      refine lv_bipush (v := 8) hx hb dX12_readStep_196 zkb_8 ?_
                      refine lv_iadd hx hb dX12_readStep_198 ?_
                      refine lv_topi (fun z_49 ez_49 => ?_)
                      replace hF := q_letX hF ez_49
                      have iz_49 := q_addI (A := (4376 + (9 * f_11.toInt))) (B := 8) ez_49 iz_13 (by decide) (by first | (clear hkd hs hz hc2 hd bhpσ_2 chpσ_2 dhpσ_2 j20 if_5 if_7 taσ_8 tbσ_8 if_9 c_10 iz_12 iz_13 dhpσ_18 ehpσ_18 dhpσ_21 ehpσ_21 fhpσ_21 kc_22 bhpσ_24 chpσ_24 chpσ_26 dhpσ_26 ehpσ_26 hm140 c_29 if_46 c_47 c_48; omega) | omega) (by first | (clear hkd hs hz hc2 hd bhpσ_2 chpσ_2 dhpσ_2 j20 if_5 if_7 taσ_8 tbσ_8 if_9 c_10 iz_12 iz_13 dhpσ_18 ehpσ_18 dhpσ_21 ehpσ_21 fhpσ_21 kc_22 bhpσ_24 chpσ_24 chpσ_26 dhpσ_26 ehpσ_26 hm140 c_29 if_46 c_47 c_48; omega) | omega)
                      refine lv_aload_n hx hb dX12_readStep_199 rfl (lv_at hl 0 rfl) ?_
                      refine gs_X12_267_12 E hI ha dX12_readStep_200 ?_
                      refine lv_topi (fun f_50 ef_50 => ?_)
                      replace hF := q_letX hF ef_50
                      have if_50 : f_50.toInt = (σ_27.1 a 27).toInt := congrArg Int32.toInt ef_50
                      refine q_iastN E hI (q_tk (k' := 34) hI ha rfl (Nat.succ_ne_zero _)) ⟨by decide, rfl⟩ (by first | (clear hkd hs hz hc2 hd bhpσ_2 chpσ_2 dhpσ_2 j20 if_5 if_7 taσ_8 tbσ_8 if_9 c_10 iz_12 iz_13 dhpσ_18 ehpσ_18 dhpσ_21 ehpσ_21 fhpσ_21 kc_22 bhpσ_24 chpσ_24 chpσ_26 dhpσ_26 ehpσ_26 hm140 c_29 if_46 c_47 c_48 if_50; omega) | omega) (by rw [q_lnk (v := 4650) hI (q_tk (k' := 34) hI ha rfl (Nat.succ_ne_zero _)) rfl (by decide)]; omega) (show 1 < 2 by decide) (q_inU rfl) dX12_readStep_203 (fun H locs σ_51 hσ_51 hI => ?_)
                      replace hF := q_letX hF hσ_51
                      have fr_σ_51 := fr_σ_27.si hσ_51 (q_tk (k' := 34) hI ha rfl (Nat.succ_ne_zero _)) rfl
                      have mv9_σ_51 : (σ_51.1 a 9).toInt = (σ_27.1 a 9).toInt := congrArg Int32.toInt (q_rdn hσ_51 (Or.inl (m_ne ha (q_tk (k' := 34) hI ha rfl (Nat.succ_ne_zero _)) (by decide))))
                      have mv12_σ_51 : (σ_51.1 a 12).toInt = (σ_27.1 a 12).toInt := congrArg Int32.toInt (q_rdn hσ_51 (Or.inl (m_ne ha (q_tk (k' := 34) hI ha rfl (Nat.succ_ne_zero _)) (by decide))))
                      have mv14_σ_51 : (σ_51.1 a 14).toInt = (σ_27.1 a 14).toInt := congrArg Int32.toInt (q_rdn hσ_51 (Or.inl (m_ne ha (q_tk (k' := 34) hI ha rfl (Nat.succ_ne_zero _)) (by decide))))
                      have mv15_σ_51 : (σ_51.1 a 15).toInt = (σ_27.1 a 15).toInt := congrArg Int32.toInt (q_rdn hσ_51 (Or.inl (m_ne ha (q_tk (k' := 34) hI ha rfl (Nat.succ_ne_zero _)) (by decide))))
                      have mv16_σ_51 : (σ_51.1 a 16).toInt = (σ_27.1 a 16).toInt := congrArg Int32.toInt (q_rdn hσ_51 (Or.inl (m_ne ha (q_tk (k' := 34) hI ha rfl (Nat.succ_ne_zero _)) (by decide))))
                      have mv27_σ_51 : (σ_51.1 a 27).toInt = (σ_27.1 a 27).toInt := congrArg Int32.toInt (q_rdn hσ_51 (Or.inl (m_ne ha (q_tk (k' := 34) hI ha rfl (Nat.succ_ne_zero _)) (by decide))))
                      have mcσ_51 := m_wr (v := f_50) (A := ((4376 + (9 * f_11.toInt)) + 8)) hσ_51 iz_49 (by first | (clear hkd hs hz hc2 hd bhpσ_2 chpσ_2 dhpσ_2 j20 if_5 if_7 taσ_8 tbσ_8 if_9 c_10 iz_12 iz_13 dhpσ_18 ehpσ_18 dhpσ_21 ehpσ_21 fhpσ_21 kc_22 bhpσ_24 chpσ_24 chpσ_26 dhpσ_26 ehpσ_26 hm140 c_29 if_46 c_47 c_48 iz_49 if_50 mv9_σ_51 mv12_σ_51 mv14_σ_51 mv15_σ_51 mv16_σ_51 mv27_σ_51; omega) | omega)
                      have klσ_51 : ∀ j, 0 ≤ j → j < 4376 + 9 * (σ.1 a 27).toInt → m_c X σ_51 a j = m_c X σ a j := fun j h0 h1 => by rw [mcσ_51 j h0, if_neg (by first | (clear hkd hs hz hc2 hn hd bhpσ_2 chpσ_2 dhpσ_2 j20 if_5 if_7 taσ_8 tbσ_8 if_9 c_10 kk0 iz_12 iz_13 dhpσ_18 ehpσ_18 dhpσ_21 ehpσ_21 fhpσ_21 kc_22 bhpσ_24 chpσ_24 chpσ_26 dhpσ_26 ehpσ_26 hm140 c_29 if_46 c_47 c_48 iz_49 if_50 mv9_σ_51 mv12_σ_51 mv14_σ_51 mv15_σ_51 mv16_σ_51 mv27_σ_51; omega) | omega)]; exact klσ_27 j h0 h1
                      have smσ_51 : 0 ≤ (σ_51.1 a 15).toInt ∧ (σ_51.1 a 15).toInt ≤ (σ_51.1 a 16).toInt ∧ (σ_51.1 a 16).toInt ≤ (σ_51.1 a 9).toInt ∧ (σ_51.1 a 9).toInt ≤ 900 ∧ 0 ≤ (σ_51.1 a 14).toInt ∧ (σ_51.1 a 14).toInt ≤ 4 ∧ (σ_51.1 a 14).toInt ≤ 4 * ((σ_51.1 a 16).toInt - (σ_51.1 a 15).toInt) ∧ (σ_51.1 a 14).toInt ≤ 4 * ((σ_51.1 a 9).toInt - (σ_51.1 a 15).toInt) ∧ 0 ≤ (σ_51.1 a 12).toInt ∧ (σ_51.1 a 9).toInt = (σ.1 a 9).toInt ∧ (σ.1 a 15).toInt ≤ (σ_51.1 a 15).toInt ∧ (σ.1 a 12).toInt ≤ (σ_51.1 a 12).toInt := (by first | (rw [mv12_σ_51, mv14_σ_51, mv15_σ_51, mv16_σ_51, mv9_σ_51]; exact smσ_27) | omega)
                      have oxσ_51 : (σ.1 a 15).toInt + 1 ≤ (σ_51.1 a 15).toInt := (by first | (clear hkd hs hz hc2 hn hd bhpσ_2 chpσ_2 dhpσ_2 j20 if_5 if_7 nsσ_8 taσ_8 tbσ_8 if_9 c_10 kk0 if_11 iz_12 iz_13 if_14 iz_15 dhpσ_18 ehpσ_18 dhpσ_21 ehpσ_21 fhpσ_21 kc_22 bhpσ_24 chpσ_24 chpσ_26 dhpσ_26 ehpσ_26 hm140 c_29 if_46 c_47 c_48 iz_49 if_50 mv9_σ_51 mv12_σ_51 mv14_σ_51 mv16_σ_51 mv27_σ_51 smσ_51; omega) | omega)
                      have nrσ_51 : (σ.1 a 27).toInt + 1 ≤ (σ_51.1 a 27).toInt ∧ (σ_51.1 a 27).toInt ≤ 30 := (by first | (clear hkd hs hz hc2 hn hd bhpσ_2 chpσ_2 dhpσ_2 j20 if_5 if_7 taσ_8 tbσ_8 if_9 c_10 kk0 iz_12 iz_13 dhpσ_18 ehpσ_18 dhpσ_21 ehpσ_21 fhpσ_21 kc_22 bhpσ_24 chpσ_24 chpσ_26 dhpσ_26 ehpσ_26 hm140 c_29 if_46 c_47 c_48 iz_49 mv9_σ_51 mv12_σ_51 mv14_σ_51 mv15_σ_51 mv16_σ_51 smσ_51 oxσ_51; omega) | omega)
                      have fiσ_51 : m_oz (σ_51.1 a 12).toInt (∀ t, (σ.1 a 27).toInt ≤ t → t < (σ_51.1 a 27).toInt → m_stp (m_c X σ_51 a) (4376 + 9 * t) t (σ_51.1 a 27).toInt) := (m_oz.mono lpσ_27 (by first | (clear hkd hs hz hc2 hn hd bhpσ_2 chpσ_2 dhpσ_2 j20 if_5 if_7 nsσ_8 taσ_8 tbσ_8 if_9 c_10 kk0 if_11 iz_12 iz_13 if_14 iz_15 dhpσ_18 ehpσ_18 dhpσ_21 ehpσ_21 fhpσ_21 kc_22 bhpσ_24 chpσ_24 chpσ_26 dhpσ_26 ehpσ_26 hm140 c_29 c_47 c_48 iz_49 if_50 mv9_σ_51 mv14_σ_51 mv15_σ_51 mv16_σ_51 mv27_σ_51 smσ_51 oxσ_51 nrσ_51; omega) | omega) (by first | (clear hkd hs hz hc2 hn hd bhpσ_2 chpσ_2 dhpσ_2 j20 if_5 if_7 nsσ_8 taσ_8 tbσ_8 if_9 c_10 kk0 if_11 iz_12 iz_13 if_14 iz_15 dhpσ_18 ehpσ_18 dhpσ_21 ehpσ_21 fhpσ_21 kc_22 bhpσ_24 chpσ_24 chpσ_26 dhpσ_26 ehpσ_26 hm140 c_29 c_47 c_48 iz_49 if_50 mv9_σ_51 mv14_σ_51 mv15_σ_51 mv16_σ_51 mv27_σ_51 smσ_51 oxσ_51 nrσ_51; omega) | omega) (fun h => by have en : (σ_51.1 a 27).toInt = (σ_27.1 a 27).toInt := (by omega); rw [en]; exact m_lp.done h (fun j hj => by rw [mcσ_51 j hj, iz_13]) (by omega) (by first | (clear hkd hs hz hc2 hn hd bhpσ_2 chpσ_2 dhpσ_2 j20 if_5 if_7 taσ_8 tbσ_8 if_9 c_10 kk0 iz_12 if_14 iz_15 dhpσ_18 ehpσ_18 dhpσ_21 ehpσ_21 fhpσ_21 kc_22 bhpσ_24 chpσ_24 chpσ_26 dhpσ_26 ehpσ_26 hm140 c_29 if_46 c_47 c_48 iz_49 if_50 mv9_σ_51 mv12_σ_51 mv14_σ_51 mv15_σ_51 mv16_σ_51 mv27_σ_51 smσ_51 oxσ_51 nrσ_51; omega) | omega) (by first | (clear hkd hs hz hc2 hd bhpσ_2 chpσ_2 dhpσ_2 j20 if_5 if_7 taσ_8 tbσ_8 if_9 c_10 iz_12 iz_13 dhpσ_18 ehpσ_18 dhpσ_21 ehpσ_21 fhpσ_21 kc_22 bhpσ_24 chpσ_24 chpσ_26 dhpσ_26 ehpσ_26 hm140 c_29 if_46 c_47 c_48 iz_49 mv9_σ_51 mv12_σ_51 mv14_σ_51 mv15_σ_51 mv16_σ_51 smσ_51 oxσ_51 nrσ_51; omega) | omega)))
                      clear mv9_σ_51 mv12_σ_51 mv14_σ_51 mv15_σ_51 mv16_σ_51 mv27_σ_51 smσ_27 oxσ_27 nrσ_27
                      rewrite [hQQ]; exact q_retv E hr hlk hI ⟨klσ_51, (by first | exact smσ_51 | omega), (by first | exact smσ_51 | omega), (by first | exact smσ_51 | omega), fiσ_51, (hF.trans hout), fr_σ_51⟩ dX12_readStep_204
                    · skip
                      replace hF := q_ifn hF c_48
                      refine lv_aload_n hx hb dX12_readStep_172 rfl (lv_at hl 0 rfl) ?_
                      refine lv_aload_n hx hb dX12_readStep_173 rfl (lv_at hl 0 rfl) ?_
                      refine q_ci (q_runV (As := []) (rest := [.ref a]) E (hml.trans hl.1.symm) hI (c_X12_isEnd l X σ_27 a ha) kv_X12_181 ha ⟨rfl, by decide⟩ (show vwCl[11]? = some (RX12, TX12, 46) from rfl) rfl ⟨rm_f hrf (Nat.le_of_ble_eq_true rfl), rm_w hrw (Nat.le_of_ble_eq_true rfl)⟩ ⟨Nat.le_refl _, Nat.le_refl _⟩ rfl (Nat.le_of_ble_eq_true rfl) dX12_readStep_174) hI (Nat.le_of_ble_eq_true rfl) (fun r_52 σ_53 H locs hpσ_53 hkσ_53 hI => ?_)
                      have ahpσ_53 := hpσ_53.1
                      have bhpσ_53 := hpσ_53.2.1
                      have chpσ_53 := hpσ_53.2.2
                      clear hpσ_53
                      replace hI := q_Irw ahpσ_53 hI
                      replace hF := q_letX hF chpσ_53
                      refine q_cv (q_runV (As := [.int r_52]) (rest := []) E (hml.trans hl.1.symm) hI (c_X12_must l X σ_27 a r_52 ha (by first | exact sm_9 smσ_27 | exact hs | omega) (by first | (clear hkd hs hz hc2 hn hd bhpσ_2 chpσ_2 dhpσ_2 j20 if_5 if_7 nsσ_8 taσ_8 tbσ_8 if_9 c_10 kk0 if_11 iz_12 iz_13 if_14 iz_15 dhpσ_18 ehpσ_18 dhpσ_21 ehpσ_21 fhpσ_21 kc_22 bhpσ_24 chpσ_24 chpσ_26 dhpσ_26 ehpσ_26 hm140 c_29 if_46 c_47 c_48 ahpσ_53 chpσ_53; omega) | omega)) kv_X12_216 ha ⟨rfl, by decide⟩ (show vwCl[11]? = some (RX12, TX12, 46) from rfl) rfl ⟨rm_f hrf (Nat.le_of_ble_eq_true rfl), rm_w hrw (Nat.le_of_ble_eq_true rfl)⟩ ⟨Nat.le_refl _, Nat.le_refl _⟩ rfl (Nat.le_of_ble_eq_true rfl) dX12_readStep_177) hI (Nat.le_of_ble_eq_true rfl) (fun σ_55 H locs hpσ_55 hkσ_55 hI => ?_)
                      have ahpσ_55 := hpσ_55.1
                      have bhpσ_55 := hpσ_55.2.1
                      have chpσ_55 := hpσ_55.2.2.1
                      have dhpσ_55 := hpσ_55.2.2.2.1
                      have ehpσ_55 := hpσ_55.2.2.2.2
                      clear hpσ_55
                      have fr_σ_55 := fr_σ_27.call ehpσ_55 rfl rfl
                      replace hF := q_letX hF dhpσ_55
                      have mv27_σ_55 : (σ_55.1 a 27).toInt = (σ_27.1 a 27).toInt := congrArg Int32.toInt (ahpσ_55 a 27 (q_cl9 _ _) (fun h => absurd h.2.2 (by decide)))
                      have mcσ_55 := m_cK hkσ_55 hI.1 ha (by decide)
                      have klσ_55 : ∀ j, 0 ≤ j → j < 4376 + 9 * (σ.1 a 27).toInt → m_c X σ_55 a j = m_c X σ a j := fun j h0 h1 => (mcσ_55 j).trans (klσ_27 j h0 h1)
                      have smσ_55 : 0 ≤ (σ_55.1 a 15).toInt ∧ (σ_55.1 a 15).toInt ≤ (σ_55.1 a 16).toInt ∧ (σ_55.1 a 16).toInt ≤ (σ_55.1 a 9).toInt ∧ (σ_55.1 a 9).toInt ≤ 900 ∧ 0 ≤ (σ_55.1 a 14).toInt ∧ (σ_55.1 a 14).toInt ≤ 4 ∧ (σ_55.1 a 14).toInt ≤ 4 * ((σ_55.1 a 16).toInt - (σ_55.1 a 15).toInt) ∧ (σ_55.1 a 14).toInt ≤ 4 * ((σ_55.1 a 9).toInt - (σ_55.1 a 15).toInt) ∧ 0 ≤ (σ_55.1 a 12).toInt ∧ (σ_55.1 a 9).toInt = (σ.1 a 9).toInt ∧ (σ.1 a 15).toInt ≤ (σ_55.1 a 15).toInt ∧ (σ.1 a 12).toInt ≤ (σ_55.1 a 12).toInt := (by first | exact sm_tr smσ_27 bhpσ_55 | exact sm_tr smσ_27 chpσ_55 | omega)
                      have oxσ_55 : (σ.1 a 15).toInt + 1 ≤ (σ_55.1 a 15).toInt := (by first | (clear hkd hs hz hc2 hn hd bhpσ_2 chpσ_2 dhpσ_2 j20 if_5 if_7 nsσ_8 taσ_8 tbσ_8 if_9 c_10 kk0 if_11 iz_12 iz_13 if_14 iz_15 dhpσ_18 ehpσ_18 dhpσ_21 ehpσ_21 fhpσ_21 kc_22 bhpσ_24 chpσ_24 chpσ_26 dhpσ_26 ehpσ_26 hm140 c_29 if_46 c_47 c_48 ahpσ_53 bhpσ_53 chpσ_53 ahpσ_55 chpσ_55 dhpσ_55 ehpσ_55 mv27_σ_55; omega) | omega)
                      have nrσ_55 : (σ.1 a 27).toInt + 1 ≤ (σ_55.1 a 27).toInt ∧ (σ_55.1 a 27).toInt ≤ 30 := (by first | (clear hkd hs hz hc2 hn hd bhpσ_2 chpσ_2 dhpσ_2 j20 if_5 if_7 taσ_8 tbσ_8 if_9 c_10 kk0 iz_12 iz_13 dhpσ_18 ehpσ_18 dhpσ_21 ehpσ_21 fhpσ_21 kc_22 bhpσ_24 chpσ_24 chpσ_26 dhpσ_26 ehpσ_26 hm140 c_29 if_46 c_47 c_48 ahpσ_53 bhpσ_53 chpσ_53 ahpσ_55 bhpσ_55 chpσ_55 dhpσ_55 ehpσ_55 smσ_55 oxσ_55; omega) | omega)
                      have lpσ_55 : m_oz (σ_55.1 a 12).toInt (m_lp (m_c X σ_55 a) z_13.toInt (σ.1 a 27).toInt (σ_55.1 a 27).toInt) := (m_oz.mono lpσ_27 (by first | (clear hkd hs hz hc2 hn hd bhpσ_2 chpσ_2 dhpσ_2 j20 if_5 if_7 nsσ_8 taσ_8 tbσ_8 if_9 c_10 kk0 if_11 iz_12 iz_13 if_14 iz_15 dhpσ_18 ehpσ_18 dhpσ_21 ehpσ_21 fhpσ_21 kc_22 bhpσ_24 chpσ_24 chpσ_26 dhpσ_26 ehpσ_26 hm140 c_29 c_47 c_48 ahpσ_53 bhpσ_53 chpσ_53 ahpσ_55 bhpσ_55 chpσ_55 dhpσ_55 ehpσ_55 mv27_σ_55 smσ_55 oxσ_55 nrσ_55; omega) | omega) (by first | (clear hkd hs hz hc2 hn hd bhpσ_2 chpσ_2 dhpσ_2 j20 if_5 if_7 nsσ_8 taσ_8 tbσ_8 if_9 c_10 kk0 if_11 iz_12 iz_13 if_14 iz_15 dhpσ_18 ehpσ_18 dhpσ_21 ehpσ_21 fhpσ_21 kc_22 bhpσ_24 chpσ_24 chpσ_26 dhpσ_26 ehpσ_26 hm140 c_29 c_47 c_48 ahpσ_53 bhpσ_53 chpσ_53 ahpσ_55 chpσ_55 dhpσ_55 ehpσ_55 mv27_σ_55 smσ_55 oxσ_55 nrσ_55; omega) | omega) (fun h => m_lp.ext h (fun j => mcσ_55 j) (by omega)))
                      clear mv27_σ_55 smσ_27 oxσ_27 nrσ_27 bhpσ_55
                      refine lv_aload_n hx hb dX12_readStep_180 rfl (lv_at hl 0 rfl) ?_
                      refine lv_aload_n hx hb dX12_readStep_181 rfl (lv_at hl 0 rfl) ?_
                      refine lv_bipush (v := 59) hx hb dX12_readStep_182 zkb_59 ?_
                      have kc_56 : (59 : Int32).toInt = 59 := zt_59
                      refine q_ci (q_runV (As := [.int 59]) (rest := [.ref a]) E (hml.trans hl.1.symm) hI (c_X12_isSign l X σ_55 a (59 : Int32) ha) kv_X12_243 ha ⟨rfl, by decide⟩ (show vwCl[11]? = some (RX12, TX12, 46) from rfl) rfl ⟨rm_f hrf (Nat.le_of_ble_eq_true rfl), rm_w hrw (Nat.le_of_ble_eq_true rfl)⟩ ⟨Nat.le_refl _, Nat.le_refl _⟩ rfl (Nat.le_of_ble_eq_true rfl) dX12_readStep_184) hI (Nat.le_of_ble_eq_true rfl) (fun r_57 σ_58 H locs hpσ_58 hkσ_58 hI => ?_)
                      have ahpσ_58 := hpσ_58.1
                      have bhpσ_58 := hpσ_58.2.1
                      have chpσ_58 := hpσ_58.2.2
                      clear hpσ_58
                      replace hI := q_Irw ahpσ_58 hI
                      replace hF := q_letX hF chpσ_58
                      refine q_cv (q_runV (As := [.int r_57]) (rest := []) E (hml.trans hl.1.symm) hI (c_X12_must l X σ_55 a r_57 ha (by first | exact sm_9 smσ_55 | exact hs | omega) (by first | (clear hkd hs hz hc2 hn hd bhpσ_2 chpσ_2 dhpσ_2 j20 if_5 if_7 nsσ_8 taσ_8 tbσ_8 if_9 c_10 kk0 if_11 iz_12 iz_13 if_14 iz_15 dhpσ_18 ehpσ_18 dhpσ_21 ehpσ_21 fhpσ_21 kc_22 bhpσ_24 chpσ_24 chpσ_26 dhpσ_26 ehpσ_26 hm140 c_29 if_46 c_47 c_48 ahpσ_53 bhpσ_53 chpσ_53 ahpσ_55 chpσ_55 dhpσ_55 ehpσ_55 smσ_55 oxσ_55 nrσ_55 kc_56 ahpσ_58 chpσ_58; omega) | omega)) kv_X12_216 ha ⟨rfl, by decide⟩ (show vwCl[11]? = some (RX12, TX12, 46) from rfl) rfl ⟨rm_f hrf (Nat.le_of_ble_eq_true rfl), rm_w hrw (Nat.le_of_ble_eq_true rfl)⟩ ⟨Nat.le_refl _, Nat.le_refl _⟩ rfl (Nat.le_of_ble_eq_true rfl) dX12_readStep_187) hI (Nat.le_of_ble_eq_true rfl) (fun σ_60 H locs hpσ_60 hkσ_60 hI => ?_)
                      have ahpσ_60 := hpσ_60.1
                      have bhpσ_60 := hpσ_60.2.1
                      have chpσ_60 := hpσ_60.2.2.1
                      have dhpσ_60 := hpσ_60.2.2.2.1
                      have ehpσ_60 := hpσ_60.2.2.2.2
                      clear hpσ_60
                      have fr_σ_60 := fr_σ_55.call ehpσ_60 rfl rfl
                      replace hF := q_letX hF dhpσ_60
                      have mv27_σ_60 : (σ_60.1 a 27).toInt = (σ_55.1 a 27).toInt := congrArg Int32.toInt (ahpσ_60 a 27 (q_cl9 _ _) (fun h => absurd h.2.2 (by decide)))
                      have mcσ_60 := m_cK hkσ_60 hI.1 ha (by decide)
                      have klσ_60 : ∀ j, 0 ≤ j → j < 4376 + 9 * (σ.1 a 27).toInt → m_c X σ_60 a j = m_c X σ a j := fun j h0 h1 => (mcσ_60 j).trans (klσ_55 j h0 h1)
                      have smσ_60 : 0 ≤ (σ_60.1 a 15).toInt ∧ (σ_60.1 a 15).toInt ≤ (σ_60.1 a 16).toInt ∧ (σ_60.1 a 16).toInt ≤ (σ_60.1 a 9).toInt ∧ (σ_60.1 a 9).toInt ≤ 900 ∧ 0 ≤ (σ_60.1 a 14).toInt ∧ (σ_60.1 a 14).toInt ≤ 4 ∧ (σ_60.1 a 14).toInt ≤ 4 * ((σ_60.1 a 16).toInt - (σ_60.1 a 15).toInt) ∧ (σ_60.1 a 14).toInt ≤ 4 * ((σ_60.1 a 9).toInt - (σ_60.1 a 15).toInt) ∧ 0 ≤ (σ_60.1 a 12).toInt ∧ (σ_60.1 a 9).toInt = (σ.1 a 9).toInt ∧ (σ.1 a 15).toInt ≤ (σ_60.1 a 15).toInt ∧ (σ.1 a 12).toInt ≤ (σ_60.1 a 12).toInt := (by first | exact sm_tr smσ_55 bhpσ_60 | exact sm_tr smσ_55 chpσ_60 | omega)
                      have oxσ_60 : (σ.1 a 15).toInt + 1 ≤ (σ_60.1 a 15).toInt := (by first | (clear hkd hs hz hc2 hn hd bhpσ_2 chpσ_2 dhpσ_2 j20 if_5 if_7 nsσ_8 taσ_8 tbσ_8 if_9 c_10 kk0 if_11 iz_12 iz_13 if_14 iz_15 dhpσ_18 ehpσ_18 dhpσ_21 ehpσ_21 fhpσ_21 kc_22 bhpσ_24 chpσ_24 chpσ_26 dhpσ_26 ehpσ_26 hm140 c_29 if_46 c_47 c_48 ahpσ_53 bhpσ_53 chpσ_53 ahpσ_55 chpσ_55 dhpσ_55 ehpσ_55 smσ_55 nrσ_55 kc_56 ahpσ_58 bhpσ_58 chpσ_58 ahpσ_60 chpσ_60 dhpσ_60 ehpσ_60 mv27_σ_60; omega) | omega)
                      have nrσ_60 : (σ.1 a 27).toInt + 1 ≤ (σ_60.1 a 27).toInt ∧ (σ_60.1 a 27).toInt ≤ 30 := (by first | (clear hkd hs hz hc2 hn hd bhpσ_2 chpσ_2 dhpσ_2 j20 if_5 if_7 taσ_8 tbσ_8 if_9 c_10 kk0 iz_12 iz_13 dhpσ_18 ehpσ_18 dhpσ_21 ehpσ_21 fhpσ_21 kc_22 bhpσ_24 chpσ_24 chpσ_26 dhpσ_26 ehpσ_26 hm140 c_29 if_46 c_47 c_48 ahpσ_53 bhpσ_53 chpσ_53 ahpσ_55 chpσ_55 dhpσ_55 ehpσ_55 smσ_55 oxσ_55 kc_56 ahpσ_58 bhpσ_58 chpσ_58 ahpσ_60 bhpσ_60 chpσ_60 dhpσ_60 ehpσ_60 smσ_60 oxσ_60; omega) | omega)
                      have lpσ_60 : m_oz (σ_60.1 a 12).toInt (m_lp (m_c X σ_60 a) z_13.toInt (σ.1 a 27).toInt (σ_60.1 a 27).toInt) := (m_oz.mono lpσ_55 (by first | (clear hkd hs hz hc2 hn hd bhpσ_2 chpσ_2 dhpσ_2 j20 if_5 if_7 nsσ_8 taσ_8 tbσ_8 if_9 c_10 kk0 if_11 iz_12 iz_13 if_14 iz_15 dhpσ_18 ehpσ_18 dhpσ_21 ehpσ_21 fhpσ_21 kc_22 bhpσ_24 chpσ_24 chpσ_26 dhpσ_26 ehpσ_26 hm140 c_29 if_46 c_47 c_48 ahpσ_53 bhpσ_53 chpσ_53 ahpσ_55 chpσ_55 dhpσ_55 ehpσ_55 oxσ_55 nrσ_55 kc_56 ahpσ_58 bhpσ_58 chpσ_58 ahpσ_60 bhpσ_60 chpσ_60 dhpσ_60 ehpσ_60 mv27_σ_60 smσ_60 oxσ_60 nrσ_60; omega) | omega) (by first | (clear hkd hs hz hc2 hn hd bhpσ_2 chpσ_2 dhpσ_2 j20 if_5 if_7 nsσ_8 taσ_8 tbσ_8 if_9 c_10 kk0 if_11 iz_12 iz_13 if_14 iz_15 dhpσ_18 ehpσ_18 dhpσ_21 ehpσ_21 fhpσ_21 kc_22 bhpσ_24 chpσ_24 chpσ_26 dhpσ_26 ehpσ_26 hm140 c_29 if_46 c_47 c_48 ahpσ_53 bhpσ_53 chpσ_53 ahpσ_55 chpσ_55 dhpσ_55 ehpσ_55 smσ_55 oxσ_55 nrσ_55 kc_56 ahpσ_58 bhpσ_58 chpσ_58 ahpσ_60 chpσ_60 dhpσ_60 ehpσ_60 mv27_σ_60 smσ_60 oxσ_60 nrσ_60; omega) | omega) (fun h => m_lp.ext h (fun j => mcσ_60 j) (by omega)))
                      clear mv27_σ_60 smσ_55 oxσ_55 nrσ_55 bhpσ_60
                      refine lv_aload_n hx hb dX12_readStep_190 rfl (lv_at hl 0 rfl) ?_
                      refine gs_X12_35_12 E hI ha dX12_readStep_191 ?_
                      refine lv_iload hx hb dX12_readStep_194 (lv_at hl 4 rfl) ?_
                      refine lv_bipush (v := 8) hx hb dX12_readStep_196 zkb_8 ?_
                      refine lv_iadd hx hb dX12_readStep_198 ?_
                      refine lv_topi (fun z_61 ez_61 => ?_)
                      replace hF := q_letX hF ez_61
                      have iz_61 := q_addI (A := (4376 + (9 * f_11.toInt))) (B := 8) ez_61 iz_13 (by decide) (by first | (clear hkd hs hz hc2 hd bhpσ_2 chpσ_2 dhpσ_2 j20 if_5 if_7 taσ_8 tbσ_8 if_9 c_10 iz_12 iz_13 dhpσ_18 ehpσ_18 dhpσ_21 ehpσ_21 fhpσ_21 kc_22 bhpσ_24 chpσ_24 chpσ_26 dhpσ_26 ehpσ_26 hm140 c_29 if_46 c_47 c_48 ahpσ_53 bhpσ_53 chpσ_53 ahpσ_55 chpσ_55 dhpσ_55 ehpσ_55 kc_56 ahpσ_58 bhpσ_58 chpσ_58 ahpσ_60 chpσ_60 dhpσ_60 ehpσ_60 smσ_60 oxσ_60 nrσ_60; omega) | omega) (by first | (clear hkd hs hz hc2 hd bhpσ_2 chpσ_2 dhpσ_2 j20 if_5 if_7 taσ_8 tbσ_8 if_9 c_10 iz_12 iz_13 dhpσ_18 ehpσ_18 dhpσ_21 ehpσ_21 fhpσ_21 kc_22 bhpσ_24 chpσ_24 chpσ_26 dhpσ_26 ehpσ_26 hm140 c_29 if_46 c_47 c_48 ahpσ_53 bhpσ_53 chpσ_53 ahpσ_55 chpσ_55 dhpσ_55 ehpσ_55 kc_56 ahpσ_58 bhpσ_58 chpσ_58 ahpσ_60 chpσ_60 dhpσ_60 ehpσ_60 smσ_60 oxσ_60 nrσ_60; omega) | omega)
                      refine lv_aload_n hx hb dX12_readStep_199 rfl (lv_at hl 0 rfl) ?_
                      refine gs_X12_267_12 E hI ha dX12_readStep_200 ?_
                      refine lv_topi (fun f_62 ef_62 => ?_)
                      replace hF := q_letX hF ef_62
                      have if_62 : f_62.toInt = (σ_60.1 a 27).toInt := congrArg Int32.toInt ef_62
                      refine q_iastN E hI (q_tk (k' := 34) hI ha rfl (Nat.succ_ne_zero _)) ⟨by decide, rfl⟩ (by first | (clear hkd hs hz hc2 hd bhpσ_2 chpσ_2 dhpσ_2 j20 if_5 if_7 taσ_8 tbσ_8 if_9 c_10 iz_12 iz_13 dhpσ_18 ehpσ_18 dhpσ_21 ehpσ_21 fhpσ_21 kc_22 bhpσ_24 chpσ_24 chpσ_26 dhpσ_26 ehpσ_26 hm140 c_29 if_46 c_47 c_48 ahpσ_53 bhpσ_53 chpσ_53 ahpσ_55 chpσ_55 dhpσ_55 ehpσ_55 kc_56 ahpσ_58 bhpσ_58 chpσ_58 ahpσ_60 chpσ_60 dhpσ_60 ehpσ_60 smσ_60 oxσ_60 nrσ_60 if_62; omega) | omega) (by rw [q_lnk (v := 4650) hI (q_tk (k' := 34) hI ha rfl (Nat.succ_ne_zero _)) rfl (by decide)]; omega) (show 1 < 2 by decide) (q_inU rfl) dX12_readStep_203 (fun H locs σ_63 hσ_63 hI => ?_)
                      replace hF := q_letX hF hσ_63
                      have fr_σ_63 := fr_σ_60.si hσ_63 (q_tk (k' := 34) hI ha rfl (Nat.succ_ne_zero _)) rfl
                      have mv9_σ_63 : (σ_63.1 a 9).toInt = (σ_60.1 a 9).toInt := congrArg Int32.toInt (q_rdn hσ_63 (Or.inl (m_ne ha (q_tk (k' := 34) hI ha rfl (Nat.succ_ne_zero _)) (by decide))))
                      have mv12_σ_63 : (σ_63.1 a 12).toInt = (σ_60.1 a 12).toInt := congrArg Int32.toInt (q_rdn hσ_63 (Or.inl (m_ne ha (q_tk (k' := 34) hI ha rfl (Nat.succ_ne_zero _)) (by decide))))
                      have mv14_σ_63 : (σ_63.1 a 14).toInt = (σ_60.1 a 14).toInt := congrArg Int32.toInt (q_rdn hσ_63 (Or.inl (m_ne ha (q_tk (k' := 34) hI ha rfl (Nat.succ_ne_zero _)) (by decide))))
                      have mv15_σ_63 : (σ_63.1 a 15).toInt = (σ_60.1 a 15).toInt := congrArg Int32.toInt (q_rdn hσ_63 (Or.inl (m_ne ha (q_tk (k' := 34) hI ha rfl (Nat.succ_ne_zero _)) (by decide))))
                      have mv16_σ_63 : (σ_63.1 a 16).toInt = (σ_60.1 a 16).toInt := congrArg Int32.toInt (q_rdn hσ_63 (Or.inl (m_ne ha (q_tk (k' := 34) hI ha rfl (Nat.succ_ne_zero _)) (by decide))))
                      have mv27_σ_63 : (σ_63.1 a 27).toInt = (σ_60.1 a 27).toInt := congrArg Int32.toInt (q_rdn hσ_63 (Or.inl (m_ne ha (q_tk (k' := 34) hI ha rfl (Nat.succ_ne_zero _)) (by decide))))
                      have mcσ_63 := m_wr (v := f_62) (A := ((4376 + (9 * f_11.toInt)) + 8)) hσ_63 iz_61 (by first | (clear hkd hs hz hc2 hd bhpσ_2 chpσ_2 dhpσ_2 j20 if_5 if_7 taσ_8 tbσ_8 if_9 c_10 iz_12 iz_13 dhpσ_18 ehpσ_18 dhpσ_21 ehpσ_21 fhpσ_21 kc_22 bhpσ_24 chpσ_24 chpσ_26 dhpσ_26 ehpσ_26 hm140 c_29 if_46 c_47 c_48 ahpσ_53 bhpσ_53 chpσ_53 ahpσ_55 chpσ_55 dhpσ_55 ehpσ_55 kc_56 ahpσ_58 bhpσ_58 chpσ_58 ahpσ_60 chpσ_60 dhpσ_60 ehpσ_60 smσ_60 oxσ_60 nrσ_60 iz_61 if_62 mv9_σ_63 mv12_σ_63 mv14_σ_63 mv15_σ_63 mv16_σ_63 mv27_σ_63; omega) | omega)
                      have klσ_63 : ∀ j, 0 ≤ j → j < 4376 + 9 * (σ.1 a 27).toInt → m_c X σ_63 a j = m_c X σ a j := fun j h0 h1 => by rw [mcσ_63 j h0, if_neg (by first | (clear hkd hs hz hc2 hn hd bhpσ_2 chpσ_2 dhpσ_2 j20 if_5 if_7 taσ_8 tbσ_8 if_9 c_10 kk0 iz_12 iz_13 dhpσ_18 ehpσ_18 dhpσ_21 ehpσ_21 fhpσ_21 kc_22 bhpσ_24 chpσ_24 chpσ_26 dhpσ_26 ehpσ_26 hm140 c_29 if_46 c_47 c_48 ahpσ_53 bhpσ_53 chpσ_53 ahpσ_55 chpσ_55 dhpσ_55 ehpσ_55 kc_56 ahpσ_58 bhpσ_58 chpσ_58 ahpσ_60 chpσ_60 dhpσ_60 ehpσ_60 smσ_60 oxσ_60 nrσ_60 iz_61 if_62 mv9_σ_63 mv12_σ_63 mv14_σ_63 mv15_σ_63 mv16_σ_63 mv27_σ_63; omega) | omega)]; exact klσ_60 j h0 h1
                      have smσ_63 : 0 ≤ (σ_63.1 a 15).toInt ∧ (σ_63.1 a 15).toInt ≤ (σ_63.1 a 16).toInt ∧ (σ_63.1 a 16).toInt ≤ (σ_63.1 a 9).toInt ∧ (σ_63.1 a 9).toInt ≤ 900 ∧ 0 ≤ (σ_63.1 a 14).toInt ∧ (σ_63.1 a 14).toInt ≤ 4 ∧ (σ_63.1 a 14).toInt ≤ 4 * ((σ_63.1 a 16).toInt - (σ_63.1 a 15).toInt) ∧ (σ_63.1 a 14).toInt ≤ 4 * ((σ_63.1 a 9).toInt - (σ_63.1 a 15).toInt) ∧ 0 ≤ (σ_63.1 a 12).toInt ∧ (σ_63.1 a 9).toInt = (σ.1 a 9).toInt ∧ (σ.1 a 15).toInt ≤ (σ_63.1 a 15).toInt ∧ (σ.1 a 12).toInt ≤ (σ_63.1 a 12).toInt := (by first | (rw [mv12_σ_63, mv14_σ_63, mv15_σ_63, mv16_σ_63, mv9_σ_63]; exact smσ_60) | omega)
                      have oxσ_63 : (σ.1 a 15).toInt + 1 ≤ (σ_63.1 a 15).toInt := (by first | (clear hkd hs hz hc2 hn hd bhpσ_2 chpσ_2 dhpσ_2 j20 if_5 if_7 nsσ_8 taσ_8 tbσ_8 if_9 c_10 kk0 if_11 iz_12 iz_13 if_14 iz_15 dhpσ_18 ehpσ_18 dhpσ_21 ehpσ_21 fhpσ_21 kc_22 bhpσ_24 chpσ_24 chpσ_26 dhpσ_26 ehpσ_26 hm140 c_29 if_46 c_47 c_48 ahpσ_53 bhpσ_53 chpσ_53 ahpσ_55 chpσ_55 dhpσ_55 ehpσ_55 kc_56 ahpσ_58 bhpσ_58 chpσ_58 ahpσ_60 chpσ_60 dhpσ_60 ehpσ_60 smσ_60 nrσ_60 iz_61 if_62 mv9_σ_63 mv12_σ_63 mv14_σ_63 mv16_σ_63 mv27_σ_63 smσ_63; omega) | omega)
                      have nrσ_63 : (σ.1 a 27).toInt + 1 ≤ (σ_63.1 a 27).toInt ∧ (σ_63.1 a 27).toInt ≤ 30 := (by first | (clear hkd hs hz hc2 hn hd bhpσ_2 chpσ_2 dhpσ_2 j20 if_5 if_7 taσ_8 tbσ_8 if_9 c_10 kk0 iz_12 iz_13 dhpσ_18 ehpσ_18 dhpσ_21 ehpσ_21 fhpσ_21 kc_22 bhpσ_24 chpσ_24 chpσ_26 dhpσ_26 ehpσ_26 hm140 c_29 if_46 c_47 c_48 ahpσ_53 bhpσ_53 chpσ_53 ahpσ_55 chpσ_55 dhpσ_55 ehpσ_55 kc_56 ahpσ_58 bhpσ_58 chpσ_58 ahpσ_60 chpσ_60 dhpσ_60 ehpσ_60 smσ_60 oxσ_60 iz_61 mv9_σ_63 mv12_σ_63 mv14_σ_63 mv15_σ_63 mv16_σ_63 smσ_63 oxσ_63; omega) | omega)
                      have fiσ_63 : m_oz (σ_63.1 a 12).toInt (∀ t, (σ.1 a 27).toInt ≤ t → t < (σ_63.1 a 27).toInt → m_stp (m_c X σ_63 a) (4376 + 9 * t) t (σ_63.1 a 27).toInt) := (m_oz.mono lpσ_60 (by first | (clear hkd hs hz hc2 hn hd bhpσ_2 chpσ_2 dhpσ_2 j20 if_5 if_7 nsσ_8 taσ_8 tbσ_8 if_9 c_10 kk0 if_11 iz_12 iz_13 if_14 iz_15 dhpσ_18 ehpσ_18 dhpσ_21 ehpσ_21 fhpσ_21 kc_22 bhpσ_24 chpσ_24 chpσ_26 dhpσ_26 ehpσ_26 hm140 c_29 if_46 c_47 c_48 ahpσ_53 bhpσ_53 chpσ_53 ahpσ_55 chpσ_55 dhpσ_55 ehpσ_55 kc_56 ahpσ_58 bhpσ_58 chpσ_58 ahpσ_60 chpσ_60 dhpσ_60 ehpσ_60 oxσ_60 nrσ_60 iz_61 if_62 mv9_σ_63 mv14_σ_63 mv15_σ_63 mv16_σ_63 mv27_σ_63 smσ_63 oxσ_63 nrσ_63; omega) | omega) (by first | (clear hkd hs hz hc2 hn hd bhpσ_2 chpσ_2 dhpσ_2 j20 if_5 if_7 nsσ_8 taσ_8 tbσ_8 if_9 c_10 kk0 if_11 iz_12 iz_13 if_14 iz_15 dhpσ_18 ehpσ_18 dhpσ_21 ehpσ_21 fhpσ_21 kc_22 bhpσ_24 chpσ_24 chpσ_26 dhpσ_26 ehpσ_26 hm140 c_29 if_46 c_47 c_48 ahpσ_53 bhpσ_53 chpσ_53 ahpσ_55 chpσ_55 dhpσ_55 ehpσ_55 kc_56 ahpσ_58 bhpσ_58 chpσ_58 ahpσ_60 chpσ_60 dhpσ_60 ehpσ_60 smσ_60 oxσ_60 nrσ_60 iz_61 if_62 mv9_σ_63 mv14_σ_63 mv15_σ_63 mv16_σ_63 mv27_σ_63 smσ_63 oxσ_63 nrσ_63; omega) | omega) (fun h => by have en : (σ_63.1 a 27).toInt = (σ_60.1 a 27).toInt := (by omega); rw [en]; exact m_lp.done h (fun j hj => by rw [mcσ_63 j hj, iz_13]) (by omega) (by first | (clear hkd hs hz hc2 hn hd bhpσ_2 chpσ_2 dhpσ_2 j20 if_5 if_7 taσ_8 tbσ_8 if_9 c_10 kk0 iz_12 if_14 iz_15 dhpσ_18 ehpσ_18 dhpσ_21 ehpσ_21 fhpσ_21 kc_22 bhpσ_24 chpσ_24 chpσ_26 dhpσ_26 ehpσ_26 hm140 c_29 if_46 c_47 c_48 ahpσ_53 bhpσ_53 chpσ_53 ahpσ_55 chpσ_55 dhpσ_55 ehpσ_55 kc_56 ahpσ_58 bhpσ_58 chpσ_58 ahpσ_60 chpσ_60 dhpσ_60 ehpσ_60 smσ_60 oxσ_60 nrσ_60 iz_61 if_62 mv9_σ_63 mv12_σ_63 mv14_σ_63 mv15_σ_63 mv16_σ_63 mv27_σ_63 smσ_63 oxσ_63 nrσ_63; omega) | omega) (by first | (clear hkd hs hz hc2 hd bhpσ_2 chpσ_2 dhpσ_2 j20 if_5 if_7 taσ_8 tbσ_8 if_9 c_10 iz_12 iz_13 dhpσ_18 ehpσ_18 dhpσ_21 ehpσ_21 fhpσ_21 kc_22 bhpσ_24 chpσ_24 chpσ_26 dhpσ_26 ehpσ_26 hm140 c_29 if_46 c_47 c_48 ahpσ_53 bhpσ_53 chpσ_53 ahpσ_55 chpσ_55 dhpσ_55 ehpσ_55 kc_56 ahpσ_58 bhpσ_58 chpσ_58 ahpσ_60 chpσ_60 dhpσ_60 ehpσ_60 smσ_60 oxσ_60 iz_61 mv9_σ_63 mv12_σ_63 mv14_σ_63 mv15_σ_63 mv16_σ_63 smσ_63 oxσ_63 nrσ_63; omega) | omega)))
                      clear mv9_σ_63 mv12_σ_63 mv14_σ_63 mv15_σ_63 mv16_σ_63 mv27_σ_63 smσ_60 oxσ_60 nrσ_60
                      rewrite [hQQ]; exact q_retv E hr hlk hI ⟨klσ_63, (by first | exact smσ_63 | omega), (by first | exact smσ_63 | omega), (by first | exact smσ_63 | omega), fiσ_63, (hF.trans hout), fr_σ_63⟩ dX12_readStep_204
                  · skip
                    replace hF := q_ifp hF c_47
                    refine lv_aload_n hx hb dX12_readStep_151 rfl (lv_at hl 0 rfl) ?_
                    refine q_ci (q_runV (As := []) (rest := []) E (hml.trans hl.1.symm) hI (c_X12_isEnd l X σ_27 a ha) kv_X12_181 ha ⟨rfl, by decide⟩ (show vwCl[11]? = some (RX12, TX12, 46) from rfl) rfl ⟨rm_f hrf (Nat.le_of_ble_eq_true rfl), rm_w hrw (Nat.le_of_ble_eq_true rfl)⟩ ⟨Nat.le_refl _, Nat.le_refl _⟩ rfl (Nat.le_of_ble_eq_true rfl) dX12_readStep_152) hI (Nat.le_of_ble_eq_true rfl) (fun r_64 σ_65 H locs hpσ_65 hkσ_65 hI => ?_)
                    have ahpσ_65 := hpσ_65.1
                    have bhpσ_65 := hpσ_65.2.1
                    have chpσ_65 := hpσ_65.2.2
                    clear hpσ_65
                    replace hI := q_Irw ahpσ_65 hI
                    replace hF := q_letX hF chpσ_65
                    refine q_if_ne (A := r_64.toInt) E rfl (tgt := 168) dX12_readStep_155 (by decide) (fun c_66 => ?_) (fun c_66 => ?_)
                    · skip
                      replace hF := q_ifn hF c_66
                      replace c_66 := q_ifOne bhpσ_65 c_66
                      rewrite [eG_E168_8] at hF
                      refine lv_iload_n hx hb dX12_readStep_168 rfl (lv_at hl 3 rfl) ?_
                      refine q_if_eq (A := x_3.toInt) E rfl (tgt := 190) dX12_readStep_169 (by decide) (fun c_67 => ?_) (fun c_67 => ?_)
                      · skip
                        replace hF := q_ifp hF c_67
                        refine lv_aload_n hx hb dX12_readStep_190 rfl (lv_at hl 0 rfl) ?_
                        refine gs_X12_35_12 E hI ha dX12_readStep_191 ?_
                        refine lv_iload hx hb dX12_readStep_194 (lv_at hl 4 rfl) ?_
                        refine lv_bipush (v := 8) hx hb dX12_readStep_196 zkb_8 ?_
                        refine lv_iadd hx hb dX12_readStep_198 ?_
                        refine lv_topi (fun z_68 ez_68 => ?_)
                        replace hF := q_letX hF ez_68
                        have iz_68 := q_addI (A := (4376 + (9 * f_11.toInt))) (B := 8) ez_68 iz_13 (by decide) (by first | (clear hkd hs hz hc2 hd bhpσ_2 chpσ_2 dhpσ_2 j20 if_5 if_7 taσ_8 tbσ_8 if_9 c_10 iz_12 iz_13 dhpσ_18 ehpσ_18 dhpσ_21 ehpσ_21 fhpσ_21 kc_22 bhpσ_24 chpσ_24 chpσ_26 dhpσ_26 ehpσ_26 hm140 c_29 if_46 c_47 ahpσ_65 bhpσ_65 chpσ_65 c_66 c_67; omega) | omega) (by first | (clear hkd hs hz hc2 hd bhpσ_2 chpσ_2 dhpσ_2 j20 if_5 if_7 taσ_8 tbσ_8 if_9 c_10 iz_12 iz_13 dhpσ_18 ehpσ_18 dhpσ_21 ehpσ_21 fhpσ_21 kc_22 bhpσ_24 chpσ_24 chpσ_26 dhpσ_26 ehpσ_26 hm140 c_29 if_46 c_47 ahpσ_65 bhpσ_65 chpσ_65 c_66 c_67; omega) | omega)
                        refine lv_aload_n hx hb dX12_readStep_199 rfl (lv_at hl 0 rfl) ?_
                        refine gs_X12_267_12 E hI ha dX12_readStep_200 ?_
                        refine lv_topi (fun f_69 ef_69 => ?_)
                        replace hF := q_letX hF ef_69
                        have if_69 : f_69.toInt = (σ_27.1 a 27).toInt := congrArg Int32.toInt ef_69
                        refine q_iastN E hI (q_tk (k' := 34) hI ha rfl (Nat.succ_ne_zero _)) ⟨by decide, rfl⟩ (by first | (clear hkd hs hz hc2 hd bhpσ_2 chpσ_2 dhpσ_2 j20 if_5 if_7 taσ_8 tbσ_8 if_9 c_10 iz_12 iz_13 dhpσ_18 ehpσ_18 dhpσ_21 ehpσ_21 fhpσ_21 kc_22 bhpσ_24 chpσ_24 chpσ_26 dhpσ_26 ehpσ_26 hm140 c_29 if_46 c_47 ahpσ_65 bhpσ_65 chpσ_65 c_66 c_67 if_69; omega) | omega) (by rw [q_lnk (v := 4650) hI (q_tk (k' := 34) hI ha rfl (Nat.succ_ne_zero _)) rfl (by decide)]; omega) (show 1 < 2 by decide) (q_inU rfl) dX12_readStep_203 (fun H locs σ_70 hσ_70 hI => ?_)
                        replace hF := q_letX hF hσ_70
                        have fr_σ_70 := fr_σ_27.si hσ_70 (q_tk (k' := 34) hI ha rfl (Nat.succ_ne_zero _)) rfl
                        have mv9_σ_70 : (σ_70.1 a 9).toInt = (σ_27.1 a 9).toInt := congrArg Int32.toInt (q_rdn hσ_70 (Or.inl (m_ne ha (q_tk (k' := 34) hI ha rfl (Nat.succ_ne_zero _)) (by decide))))
                        have mv12_σ_70 : (σ_70.1 a 12).toInt = (σ_27.1 a 12).toInt := congrArg Int32.toInt (q_rdn hσ_70 (Or.inl (m_ne ha (q_tk (k' := 34) hI ha rfl (Nat.succ_ne_zero _)) (by decide))))
                        have mv14_σ_70 : (σ_70.1 a 14).toInt = (σ_27.1 a 14).toInt := congrArg Int32.toInt (q_rdn hσ_70 (Or.inl (m_ne ha (q_tk (k' := 34) hI ha rfl (Nat.succ_ne_zero _)) (by decide))))
                        have mv15_σ_70 : (σ_70.1 a 15).toInt = (σ_27.1 a 15).toInt := congrArg Int32.toInt (q_rdn hσ_70 (Or.inl (m_ne ha (q_tk (k' := 34) hI ha rfl (Nat.succ_ne_zero _)) (by decide))))
                        have mv16_σ_70 : (σ_70.1 a 16).toInt = (σ_27.1 a 16).toInt := congrArg Int32.toInt (q_rdn hσ_70 (Or.inl (m_ne ha (q_tk (k' := 34) hI ha rfl (Nat.succ_ne_zero _)) (by decide))))
                        have mv27_σ_70 : (σ_70.1 a 27).toInt = (σ_27.1 a 27).toInt := congrArg Int32.toInt (q_rdn hσ_70 (Or.inl (m_ne ha (q_tk (k' := 34) hI ha rfl (Nat.succ_ne_zero _)) (by decide))))
                        have mcσ_70 := m_wr (v := f_69) (A := ((4376 + (9 * f_11.toInt)) + 8)) hσ_70 iz_68 (by first | (clear hkd hs hz hc2 hd bhpσ_2 chpσ_2 dhpσ_2 j20 if_5 if_7 taσ_8 tbσ_8 if_9 c_10 iz_12 iz_13 dhpσ_18 ehpσ_18 dhpσ_21 ehpσ_21 fhpσ_21 kc_22 bhpσ_24 chpσ_24 chpσ_26 dhpσ_26 ehpσ_26 hm140 c_29 if_46 c_47 ahpσ_65 bhpσ_65 chpσ_65 c_66 c_67 iz_68 if_69 mv9_σ_70 mv12_σ_70 mv14_σ_70 mv15_σ_70 mv16_σ_70 mv27_σ_70; omega) | omega)
                        have klσ_70 : ∀ j, 0 ≤ j → j < 4376 + 9 * (σ.1 a 27).toInt → m_c X σ_70 a j = m_c X σ a j := fun j h0 h1 => by rw [mcσ_70 j h0, if_neg (by first | (clear hkd hs hz hc2 hn hd bhpσ_2 chpσ_2 dhpσ_2 j20 if_5 if_7 taσ_8 tbσ_8 if_9 c_10 kk0 iz_12 iz_13 dhpσ_18 ehpσ_18 dhpσ_21 ehpσ_21 fhpσ_21 kc_22 bhpσ_24 chpσ_24 chpσ_26 dhpσ_26 ehpσ_26 hm140 c_29 if_46 c_47 ahpσ_65 bhpσ_65 chpσ_65 c_66 c_67 iz_68 if_69 mv9_σ_70 mv12_σ_70 mv14_σ_70 mv15_σ_70 mv16_σ_70 mv27_σ_70; omega) | omega)]; exact klσ_27 j h0 h1
                        have smσ_70 : 0 ≤ (σ_70.1 a 15).toInt ∧ (σ_70.1 a 15).toInt ≤ (σ_70.1 a 16).toInt ∧ (σ_70.1 a 16).toInt ≤ (σ_70.1 a 9).toInt ∧ (σ_70.1 a 9).toInt ≤ 900 ∧ 0 ≤ (σ_70.1 a 14).toInt ∧ (σ_70.1 a 14).toInt ≤ 4 ∧ (σ_70.1 a 14).toInt ≤ 4 * ((σ_70.1 a 16).toInt - (σ_70.1 a 15).toInt) ∧ (σ_70.1 a 14).toInt ≤ 4 * ((σ_70.1 a 9).toInt - (σ_70.1 a 15).toInt) ∧ 0 ≤ (σ_70.1 a 12).toInt ∧ (σ_70.1 a 9).toInt = (σ.1 a 9).toInt ∧ (σ.1 a 15).toInt ≤ (σ_70.1 a 15).toInt ∧ (σ.1 a 12).toInt ≤ (σ_70.1 a 12).toInt := (by first | (rw [mv12_σ_70, mv14_σ_70, mv15_σ_70, mv16_σ_70, mv9_σ_70]; exact smσ_27) | omega)
                        have oxσ_70 : (σ.1 a 15).toInt + 1 ≤ (σ_70.1 a 15).toInt := (by first | (clear hkd hs hz hc2 hn hd bhpσ_2 chpσ_2 dhpσ_2 j20 if_5 if_7 nsσ_8 taσ_8 tbσ_8 if_9 c_10 kk0 if_11 iz_12 iz_13 if_14 iz_15 dhpσ_18 ehpσ_18 dhpσ_21 ehpσ_21 fhpσ_21 kc_22 bhpσ_24 chpσ_24 chpσ_26 dhpσ_26 ehpσ_26 hm140 c_29 if_46 c_47 ahpσ_65 bhpσ_65 chpσ_65 c_66 c_67 iz_68 if_69 mv9_σ_70 mv12_σ_70 mv14_σ_70 mv16_σ_70 mv27_σ_70 smσ_70; omega) | omega)
                        have nrσ_70 : (σ.1 a 27).toInt + 1 ≤ (σ_70.1 a 27).toInt ∧ (σ_70.1 a 27).toInt ≤ 30 := (by first | (clear hkd hs hz hc2 hn hd bhpσ_2 chpσ_2 dhpσ_2 j20 if_5 if_7 taσ_8 tbσ_8 if_9 c_10 kk0 iz_12 iz_13 dhpσ_18 ehpσ_18 dhpσ_21 ehpσ_21 fhpσ_21 kc_22 bhpσ_24 chpσ_24 chpσ_26 dhpσ_26 ehpσ_26 hm140 c_29 if_46 c_47 ahpσ_65 bhpσ_65 chpσ_65 c_66 c_67 iz_68 mv9_σ_70 mv12_σ_70 mv14_σ_70 mv15_σ_70 mv16_σ_70 smσ_70 oxσ_70; omega) | omega)
                        have fiσ_70 : m_oz (σ_70.1 a 12).toInt (∀ t, (σ.1 a 27).toInt ≤ t → t < (σ_70.1 a 27).toInt → m_stp (m_c X σ_70 a) (4376 + 9 * t) t (σ_70.1 a 27).toInt) := (m_oz.mono lpσ_27 (by first | (clear hkd hs hz hc2 hn hd bhpσ_2 chpσ_2 dhpσ_2 j20 if_5 if_7 nsσ_8 taσ_8 tbσ_8 if_9 c_10 kk0 if_11 iz_12 iz_13 if_14 iz_15 dhpσ_18 ehpσ_18 dhpσ_21 ehpσ_21 fhpσ_21 kc_22 bhpσ_24 chpσ_24 chpσ_26 dhpσ_26 ehpσ_26 hm140 c_29 ahpσ_65 bhpσ_65 chpσ_65 c_66 c_67 iz_68 if_69 mv9_σ_70 mv12_σ_70 mv14_σ_70 mv15_σ_70 mv16_σ_70 mv27_σ_70 smσ_70 oxσ_70 nrσ_70; omega) | omega) (by first | (clear hkd hs hz hc2 hn hd bhpσ_2 chpσ_2 dhpσ_2 j20 if_5 if_7 nsσ_8 taσ_8 tbσ_8 if_9 c_10 kk0 if_11 iz_12 iz_13 if_14 iz_15 dhpσ_18 ehpσ_18 dhpσ_21 ehpσ_21 fhpσ_21 kc_22 bhpσ_24 chpσ_24 chpσ_26 dhpσ_26 ehpσ_26 hm140 c_29 ahpσ_65 bhpσ_65 chpσ_65 c_66 c_67 iz_68 if_69 mv9_σ_70 mv14_σ_70 mv15_σ_70 mv16_σ_70 mv27_σ_70 smσ_70 oxσ_70 nrσ_70; omega) | omega) (fun h => by have en : (σ_70.1 a 27).toInt = (σ_27.1 a 27).toInt := (by omega); rw [en]; exact m_lp.done h (fun j hj => by rw [mcσ_70 j hj, iz_13]) (by omega) (by first | (clear hkd hs hz hc2 hn hd bhpσ_2 chpσ_2 dhpσ_2 j20 if_5 if_7 taσ_8 tbσ_8 if_9 c_10 kk0 iz_12 if_14 iz_15 dhpσ_18 ehpσ_18 dhpσ_21 ehpσ_21 fhpσ_21 kc_22 bhpσ_24 chpσ_24 chpσ_26 dhpσ_26 ehpσ_26 hm140 c_29 if_46 c_47 ahpσ_65 bhpσ_65 chpσ_65 c_66 c_67 iz_68 if_69 mv9_σ_70 mv12_σ_70 mv14_σ_70 mv15_σ_70 mv16_σ_70 mv27_σ_70 smσ_70 oxσ_70 nrσ_70; omega) | omega) (by first | (clear hkd hs hz hc2 hd bhpσ_2 chpσ_2 dhpσ_2 j20 if_5 if_7 taσ_8 tbσ_8 if_9 c_10 iz_12 iz_13 dhpσ_18 ehpσ_18 dhpσ_21 ehpσ_21 fhpσ_21 kc_22 bhpσ_24 chpσ_24 chpσ_26 dhpσ_26 ehpσ_26 hm140 c_29 if_46 c_47 ahpσ_65 bhpσ_65 chpσ_65 c_66 c_67 iz_68 mv9_σ_70 mv12_σ_70 mv14_σ_70 mv15_σ_70 mv16_σ_70 smσ_70 oxσ_70 nrσ_70; omega) | omega)))
                        clear mv9_σ_70 mv12_σ_70 mv14_σ_70 mv15_σ_70 mv16_σ_70 mv27_σ_70 smσ_27 oxσ_27 nrσ_27
                        rewrite [hQQ]; exact q_retv E hr hlk hI ⟨klσ_70, (by first | exact smσ_70 | omega), (by first | exact smσ_70 | omega), (by first | exact smσ_70 | omega), fiσ_70, (hF.trans hout), fr_σ_70⟩ dX12_readStep_204
                      · skip
                        replace hF := q_ifn hF c_67
                        refine lv_aload_n hx hb dX12_readStep_172 rfl (lv_at hl 0 rfl) ?_
                        refine lv_aload_n hx hb dX12_readStep_173 rfl (lv_at hl 0 rfl) ?_
                        refine q_ci (q_runV (As := []) (rest := [.ref a]) E (hml.trans hl.1.symm) hI (c_X12_isEnd l X σ_27 a ha) kv_X12_181 ha ⟨rfl, by decide⟩ (show vwCl[11]? = some (RX12, TX12, 46) from rfl) rfl ⟨rm_f hrf (Nat.le_of_ble_eq_true rfl), rm_w hrw (Nat.le_of_ble_eq_true rfl)⟩ ⟨Nat.le_refl _, Nat.le_refl _⟩ rfl (Nat.le_of_ble_eq_true rfl) dX12_readStep_174) hI (Nat.le_of_ble_eq_true rfl) (fun r_71 σ_72 H locs hpσ_72 hkσ_72 hI => ?_)
                        have ahpσ_72 := hpσ_72.1
                        have bhpσ_72 := hpσ_72.2.1
                        have chpσ_72 := hpσ_72.2.2
                        clear hpσ_72
                        replace hI := q_Irw ahpσ_72 hI
                        replace hF := q_letX hF chpσ_72
                        refine q_cv (q_runV (As := [.int r_71]) (rest := []) E (hml.trans hl.1.symm) hI (c_X12_must l X σ_27 a r_71 ha (by first | exact sm_9 smσ_27 | exact hs | omega) (by first | (clear hkd hs hz hc2 hn hd bhpσ_2 chpσ_2 dhpσ_2 j20 if_5 if_7 nsσ_8 taσ_8 tbσ_8 if_9 c_10 kk0 if_11 iz_12 iz_13 if_14 iz_15 dhpσ_18 ehpσ_18 dhpσ_21 ehpσ_21 fhpσ_21 kc_22 bhpσ_24 chpσ_24 chpσ_26 dhpσ_26 ehpσ_26 hm140 c_29 if_46 c_47 ahpσ_65 bhpσ_65 chpσ_65 c_66 c_67 ahpσ_72 chpσ_72; omega) | omega)) kv_X12_216 ha ⟨rfl, by decide⟩ (show vwCl[11]? = some (RX12, TX12, 46) from rfl) rfl ⟨rm_f hrf (Nat.le_of_ble_eq_true rfl), rm_w hrw (Nat.le_of_ble_eq_true rfl)⟩ ⟨Nat.le_refl _, Nat.le_refl _⟩ rfl (Nat.le_of_ble_eq_true rfl) dX12_readStep_177) hI (Nat.le_of_ble_eq_true rfl) (fun σ_74 H locs hpσ_74 hkσ_74 hI => ?_)
                        have ahpσ_74 := hpσ_74.1
                        have bhpσ_74 := hpσ_74.2.1
                        have chpσ_74 := hpσ_74.2.2.1
                        have dhpσ_74 := hpσ_74.2.2.2.1
                        have ehpσ_74 := hpσ_74.2.2.2.2
                        clear hpσ_74
                        have fr_σ_74 := fr_σ_27.call ehpσ_74 rfl rfl
                        replace hF := q_letX hF dhpσ_74
                        have mv27_σ_74 : (σ_74.1 a 27).toInt = (σ_27.1 a 27).toInt := congrArg Int32.toInt (ahpσ_74 a 27 (q_cl9 _ _) (fun h => absurd h.2.2 (by decide)))
                        have mcσ_74 := m_cK hkσ_74 hI.1 ha (by decide)
                        have klσ_74 : ∀ j, 0 ≤ j → j < 4376 + 9 * (σ.1 a 27).toInt → m_c X σ_74 a j = m_c X σ a j := fun j h0 h1 => (mcσ_74 j).trans (klσ_27 j h0 h1)
                        have smσ_74 : 0 ≤ (σ_74.1 a 15).toInt ∧ (σ_74.1 a 15).toInt ≤ (σ_74.1 a 16).toInt ∧ (σ_74.1 a 16).toInt ≤ (σ_74.1 a 9).toInt ∧ (σ_74.1 a 9).toInt ≤ 900 ∧ 0 ≤ (σ_74.1 a 14).toInt ∧ (σ_74.1 a 14).toInt ≤ 4 ∧ (σ_74.1 a 14).toInt ≤ 4 * ((σ_74.1 a 16).toInt - (σ_74.1 a 15).toInt) ∧ (σ_74.1 a 14).toInt ≤ 4 * ((σ_74.1 a 9).toInt - (σ_74.1 a 15).toInt) ∧ 0 ≤ (σ_74.1 a 12).toInt ∧ (σ_74.1 a 9).toInt = (σ.1 a 9).toInt ∧ (σ.1 a 15).toInt ≤ (σ_74.1 a 15).toInt ∧ (σ.1 a 12).toInt ≤ (σ_74.1 a 12).toInt := (by first | exact sm_tr smσ_27 bhpσ_74 | exact sm_tr smσ_27 chpσ_74 | omega)
                        have oxσ_74 : (σ.1 a 15).toInt + 1 ≤ (σ_74.1 a 15).toInt := (by first | (clear hkd hs hz hc2 hn hd bhpσ_2 chpσ_2 dhpσ_2 j20 if_5 if_7 nsσ_8 taσ_8 tbσ_8 if_9 c_10 kk0 if_11 iz_12 iz_13 if_14 iz_15 dhpσ_18 ehpσ_18 dhpσ_21 ehpσ_21 fhpσ_21 kc_22 bhpσ_24 chpσ_24 chpσ_26 dhpσ_26 ehpσ_26 hm140 c_29 if_46 c_47 ahpσ_65 bhpσ_65 chpσ_65 c_66 c_67 ahpσ_72 bhpσ_72 chpσ_72 ahpσ_74 chpσ_74 dhpσ_74 ehpσ_74 mv27_σ_74; omega) | omega)
                        have nrσ_74 : (σ.1 a 27).toInt + 1 ≤ (σ_74.1 a 27).toInt ∧ (σ_74.1 a 27).toInt ≤ 30 := (by first | (clear hkd hs hz hc2 hn hd bhpσ_2 chpσ_2 dhpσ_2 j20 if_5 if_7 taσ_8 tbσ_8 if_9 c_10 kk0 iz_12 iz_13 dhpσ_18 ehpσ_18 dhpσ_21 ehpσ_21 fhpσ_21 kc_22 bhpσ_24 chpσ_24 chpσ_26 dhpσ_26 ehpσ_26 hm140 c_29 if_46 c_47 ahpσ_65 bhpσ_65 chpσ_65 c_66 c_67 ahpσ_72 bhpσ_72 chpσ_72 ahpσ_74 bhpσ_74 chpσ_74 dhpσ_74 ehpσ_74 smσ_74 oxσ_74; omega) | omega)
                        have lpσ_74 : m_oz (σ_74.1 a 12).toInt (m_lp (m_c X σ_74 a) z_13.toInt (σ.1 a 27).toInt (σ_74.1 a 27).toInt) := (m_oz.mono lpσ_27 (by first | (clear hkd hs hz hc2 hn hd bhpσ_2 chpσ_2 dhpσ_2 j20 if_5 if_7 nsσ_8 taσ_8 tbσ_8 if_9 c_10 kk0 if_11 iz_12 iz_13 if_14 iz_15 dhpσ_18 ehpσ_18 dhpσ_21 ehpσ_21 fhpσ_21 kc_22 bhpσ_24 chpσ_24 chpσ_26 dhpσ_26 ehpσ_26 hm140 c_29 ahpσ_65 bhpσ_65 chpσ_65 c_66 c_67 ahpσ_72 bhpσ_72 chpσ_72 ahpσ_74 bhpσ_74 chpσ_74 dhpσ_74 ehpσ_74 mv27_σ_74 smσ_74 oxσ_74 nrσ_74; omega) | omega) (by first | (clear hkd hs hz hc2 hn hd bhpσ_2 chpσ_2 dhpσ_2 j20 if_5 if_7 nsσ_8 taσ_8 tbσ_8 if_9 c_10 kk0 if_11 iz_12 iz_13 if_14 iz_15 dhpσ_18 ehpσ_18 dhpσ_21 ehpσ_21 fhpσ_21 kc_22 bhpσ_24 chpσ_24 chpσ_26 dhpσ_26 ehpσ_26 hm140 c_29 ahpσ_65 bhpσ_65 chpσ_65 c_66 c_67 ahpσ_72 bhpσ_72 chpσ_72 ahpσ_74 chpσ_74 dhpσ_74 ehpσ_74 mv27_σ_74 smσ_74 oxσ_74 nrσ_74; omega) | omega) (fun h => m_lp.ext h (fun j => mcσ_74 j) (by omega)))
                        clear mv27_σ_74 smσ_27 oxσ_27 nrσ_27 bhpσ_74
                        refine lv_aload_n hx hb dX12_readStep_180 rfl (lv_at hl 0 rfl) ?_
                        refine lv_aload_n hx hb dX12_readStep_181 rfl (lv_at hl 0 rfl) ?_
                        refine lv_bipush (v := 59) hx hb dX12_readStep_182 zkb_59 ?_
                        have kc_75 : (59 : Int32).toInt = 59 := zt_59
                        refine q_ci (q_runV (As := [.int 59]) (rest := [.ref a]) E (hml.trans hl.1.symm) hI (c_X12_isSign l X σ_74 a (59 : Int32) ha) kv_X12_243 ha ⟨rfl, by decide⟩ (show vwCl[11]? = some (RX12, TX12, 46) from rfl) rfl ⟨rm_f hrf (Nat.le_of_ble_eq_true rfl), rm_w hrw (Nat.le_of_ble_eq_true rfl)⟩ ⟨Nat.le_refl _, Nat.le_refl _⟩ rfl (Nat.le_of_ble_eq_true rfl) dX12_readStep_184) hI (Nat.le_of_ble_eq_true rfl) (fun r_76 σ_77 H locs hpσ_77 hkσ_77 hI => ?_)
                        have ahpσ_77 := hpσ_77.1
                        have bhpσ_77 := hpσ_77.2.1
                        have chpσ_77 := hpσ_77.2.2
                        clear hpσ_77
                        replace hI := q_Irw ahpσ_77 hI
                        replace hF := q_letX hF chpσ_77
                        refine q_cv (q_runV (As := [.int r_76]) (rest := []) E (hml.trans hl.1.symm) hI (c_X12_must l X σ_74 a r_76 ha (by first | exact sm_9 smσ_74 | exact hs | omega) (by first | (clear hkd hs hz hc2 hn hd bhpσ_2 chpσ_2 dhpσ_2 j20 if_5 if_7 nsσ_8 taσ_8 tbσ_8 if_9 c_10 kk0 if_11 iz_12 iz_13 if_14 iz_15 dhpσ_18 ehpσ_18 dhpσ_21 ehpσ_21 fhpσ_21 kc_22 bhpσ_24 chpσ_24 chpσ_26 dhpσ_26 ehpσ_26 hm140 c_29 if_46 c_47 ahpσ_65 bhpσ_65 chpσ_65 c_66 c_67 ahpσ_72 bhpσ_72 chpσ_72 ahpσ_74 chpσ_74 dhpσ_74 ehpσ_74 smσ_74 oxσ_74 nrσ_74 kc_75 ahpσ_77 chpσ_77; omega) | omega)) kv_X12_216 ha ⟨rfl, by decide⟩ (show vwCl[11]? = some (RX12, TX12, 46) from rfl) rfl ⟨rm_f hrf (Nat.le_of_ble_eq_true rfl), rm_w hrw (Nat.le_of_ble_eq_true rfl)⟩ ⟨Nat.le_refl _, Nat.le_refl _⟩ rfl (Nat.le_of_ble_eq_true rfl) dX12_readStep_187) hI (Nat.le_of_ble_eq_true rfl) (fun σ_79 H locs hpσ_79 hkσ_79 hI => ?_)
                        have ahpσ_79 := hpσ_79.1
                        have bhpσ_79 := hpσ_79.2.1
                        have chpσ_79 := hpσ_79.2.2.1
                        have dhpσ_79 := hpσ_79.2.2.2.1
                        have ehpσ_79 := hpσ_79.2.2.2.2
                        clear hpσ_79
                        have fr_σ_79 := fr_σ_74.call ehpσ_79 rfl rfl
                        replace hF := q_letX hF dhpσ_79
                        have mv27_σ_79 : (σ_79.1 a 27).toInt = (σ_74.1 a 27).toInt := congrArg Int32.toInt (ahpσ_79 a 27 (q_cl9 _ _) (fun h => absurd h.2.2 (by decide)))
                        have mcσ_79 := m_cK hkσ_79 hI.1 ha (by decide)
                        have klσ_79 : ∀ j, 0 ≤ j → j < 4376 + 9 * (σ.1 a 27).toInt → m_c X σ_79 a j = m_c X σ a j := fun j h0 h1 => (mcσ_79 j).trans (klσ_74 j h0 h1)
                        have smσ_79 : 0 ≤ (σ_79.1 a 15).toInt ∧ (σ_79.1 a 15).toInt ≤ (σ_79.1 a 16).toInt ∧ (σ_79.1 a 16).toInt ≤ (σ_79.1 a 9).toInt ∧ (σ_79.1 a 9).toInt ≤ 900 ∧ 0 ≤ (σ_79.1 a 14).toInt ∧ (σ_79.1 a 14).toInt ≤ 4 ∧ (σ_79.1 a 14).toInt ≤ 4 * ((σ_79.1 a 16).toInt - (σ_79.1 a 15).toInt) ∧ (σ_79.1 a 14).toInt ≤ 4 * ((σ_79.1 a 9).toInt - (σ_79.1 a 15).toInt) ∧ 0 ≤ (σ_79.1 a 12).toInt ∧ (σ_79.1 a 9).toInt = (σ.1 a 9).toInt ∧ (σ.1 a 15).toInt ≤ (σ_79.1 a 15).toInt ∧ (σ.1 a 12).toInt ≤ (σ_79.1 a 12).toInt := (by first | exact sm_tr smσ_74 bhpσ_79 | exact sm_tr smσ_74 chpσ_79 | omega)
                        have oxσ_79 : (σ.1 a 15).toInt + 1 ≤ (σ_79.1 a 15).toInt := (by first | (clear hkd hs hz hc2 hn hd bhpσ_2 chpσ_2 dhpσ_2 j20 if_5 if_7 nsσ_8 taσ_8 tbσ_8 if_9 c_10 kk0 if_11 iz_12 iz_13 if_14 iz_15 dhpσ_18 ehpσ_18 dhpσ_21 ehpσ_21 fhpσ_21 kc_22 bhpσ_24 chpσ_24 chpσ_26 dhpσ_26 ehpσ_26 hm140 c_29 if_46 c_47 ahpσ_65 bhpσ_65 chpσ_65 c_66 c_67 ahpσ_72 bhpσ_72 chpσ_72 ahpσ_74 chpσ_74 dhpσ_74 ehpσ_74 smσ_74 nrσ_74 kc_75 ahpσ_77 bhpσ_77 chpσ_77 ahpσ_79 chpσ_79 dhpσ_79 ehpσ_79 mv27_σ_79; omega) | omega)
                        have nrσ_79 : (σ.1 a 27).toInt + 1 ≤ (σ_79.1 a 27).toInt ∧ (σ_79.1 a 27).toInt ≤ 30 := (by first | (clear hkd hs hz hc2 hn hd bhpσ_2 chpσ_2 dhpσ_2 j20 if_5 if_7 taσ_8 tbσ_8 if_9 c_10 kk0 iz_12 iz_13 dhpσ_18 ehpσ_18 dhpσ_21 ehpσ_21 fhpσ_21 kc_22 bhpσ_24 chpσ_24 chpσ_26 dhpσ_26 ehpσ_26 hm140 c_29 if_46 c_47 ahpσ_65 bhpσ_65 chpσ_65 c_66 c_67 ahpσ_72 bhpσ_72 chpσ_72 ahpσ_74 chpσ_74 dhpσ_74 ehpσ_74 smσ_74 oxσ_74 kc_75 ahpσ_77 bhpσ_77 chpσ_77 ahpσ_79 bhpσ_79 chpσ_79 dhpσ_79 ehpσ_79 smσ_79 oxσ_79; omega) | omega)
                        have lpσ_79 : m_oz (σ_79.1 a 12).toInt (m_lp (m_c X σ_79 a) z_13.toInt (σ.1 a 27).toInt (σ_79.1 a 27).toInt) := (m_oz.mono lpσ_74 (by first | (clear hkd hs hz hc2 hn hd bhpσ_2 chpσ_2 dhpσ_2 j20 if_5 if_7 nsσ_8 taσ_8 tbσ_8 if_9 c_10 kk0 if_11 iz_12 iz_13 if_14 iz_15 dhpσ_18 ehpσ_18 dhpσ_21 ehpσ_21 fhpσ_21 kc_22 bhpσ_24 chpσ_24 chpσ_26 dhpσ_26 ehpσ_26 hm140 c_29 if_46 c_47 ahpσ_65 bhpσ_65 chpσ_65 c_66 c_67 ahpσ_72 bhpσ_72 chpσ_72 ahpσ_74 chpσ_74 dhpσ_74 ehpσ_74 oxσ_74 nrσ_74 kc_75 ahpσ_77 bhpσ_77 chpσ_77 ahpσ_79 bhpσ_79 chpσ_79 dhpσ_79 ehpσ_79 mv27_σ_79 smσ_79 oxσ_79 nrσ_79; omega) | omega) (by first | (clear hkd hs hz hc2 hn hd bhpσ_2 chpσ_2 dhpσ_2 j20 if_5 if_7 nsσ_8 taσ_8 tbσ_8 if_9 c_10 kk0 if_11 iz_12 iz_13 if_14 iz_15 dhpσ_18 ehpσ_18 dhpσ_21 ehpσ_21 fhpσ_21 kc_22 bhpσ_24 chpσ_24 chpσ_26 dhpσ_26 ehpσ_26 hm140 c_29 if_46 c_47 ahpσ_65 bhpσ_65 chpσ_65 c_66 c_67 ahpσ_72 bhpσ_72 chpσ_72 ahpσ_74 chpσ_74 dhpσ_74 ehpσ_74 smσ_74 oxσ_74 nrσ_74 kc_75 ahpσ_77 bhpσ_77 chpσ_77 ahpσ_79 chpσ_79 dhpσ_79 ehpσ_79 mv27_σ_79 smσ_79 oxσ_79 nrσ_79; omega) | omega) (fun h => m_lp.ext h (fun j => mcσ_79 j) (by omega)))
                        clear mv27_σ_79 smσ_74 oxσ_74 nrσ_74 bhpσ_79
                        refine lv_aload_n hx hb dX12_readStep_190 rfl (lv_at hl 0 rfl) ?_
                        refine gs_X12_35_12 E hI ha dX12_readStep_191 ?_
                        refine lv_iload hx hb dX12_readStep_194 (lv_at hl 4 rfl) ?_
                        refine lv_bipush (v := 8) hx hb dX12_readStep_196 zkb_8 ?_
                        refine lv_iadd hx hb dX12_readStep_198 ?_
                        refine lv_topi (fun z_80 ez_80 => ?_)
                        replace hF := q_letX hF ez_80
                        have iz_80 := q_addI (A := (4376 + (9 * f_11.toInt))) (B := 8) ez_80 iz_13 (by decide) (by first | (clear hkd hs hz hc2 hd bhpσ_2 chpσ_2 dhpσ_2 j20 if_5 if_7 taσ_8 tbσ_8 if_9 c_10 iz_12 iz_13 dhpσ_18 ehpσ_18 dhpσ_21 ehpσ_21 fhpσ_21 kc_22 bhpσ_24 chpσ_24 chpσ_26 dhpσ_26 ehpσ_26 hm140 c_29 if_46 c_47 ahpσ_65 bhpσ_65 chpσ_65 c_66 c_67 ahpσ_72 bhpσ_72 chpσ_72 ahpσ_74 chpσ_74 dhpσ_74 ehpσ_74 kc_75 ahpσ_77 bhpσ_77 chpσ_77 ahpσ_79 chpσ_79 dhpσ_79 ehpσ_79 smσ_79 oxσ_79 nrσ_79; omega) | omega) (by first | (clear hkd hs hz hc2 hd bhpσ_2 chpσ_2 dhpσ_2 j20 if_5 if_7 taσ_8 tbσ_8 if_9 c_10 iz_12 iz_13 dhpσ_18 ehpσ_18 dhpσ_21 ehpσ_21 fhpσ_21 kc_22 bhpσ_24 chpσ_24 chpσ_26 dhpσ_26 ehpσ_26 hm140 c_29 if_46 c_47 ahpσ_65 bhpσ_65 chpσ_65 c_66 c_67 ahpσ_72 bhpσ_72 chpσ_72 ahpσ_74 chpσ_74 dhpσ_74 ehpσ_74 kc_75 ahpσ_77 bhpσ_77 chpσ_77 ahpσ_79 chpσ_79 dhpσ_79 ehpσ_79 smσ_79 oxσ_79 nrσ_79; omega) | omega)
                        refine lv_aload_n hx hb dX12_readStep_199 rfl (lv_at hl 0 rfl) ?_
                        refine gs_X12_267_12 E hI ha dX12_readStep_200 ?_
                        refine lv_topi (fun f_81 ef_81 => ?_)
                        replace hF := q_letX hF ef_81
                        have if_81 : f_81.toInt = (σ_79.1 a 27).toInt := congrArg Int32.toInt ef_81
                        refine q_iastN E hI (q_tk (k' := 34) hI ha rfl (Nat.succ_ne_zero _)) ⟨by decide, rfl⟩ (by first | (clear hkd hs hz hc2 hd bhpσ_2 chpσ_2 dhpσ_2 j20 if_5 if_7 taσ_8 tbσ_8 if_9 c_10 iz_12 iz_13 dhpσ_18 ehpσ_18 dhpσ_21 ehpσ_21 fhpσ_21 kc_22 bhpσ_24 chpσ_24 chpσ_26 dhpσ_26 ehpσ_26 hm140 c_29 if_46 c_47 ahpσ_65 bhpσ_65 chpσ_65 c_66 c_67 ahpσ_72 bhpσ_72 chpσ_72 ahpσ_74 chpσ_74 dhpσ_74 ehpσ_74 kc_75 ahpσ_77 bhpσ_77 chpσ_77 ahpσ_79 chpσ_79 dhpσ_79 ehpσ_79 smσ_79 oxσ_79 nrσ_79 if_81; omega) | omega) (by rw [q_lnk (v := 4650) hI (q_tk (k' := 34) hI ha rfl (Nat.succ_ne_zero _)) rfl (by decide)]; omega) (show 1 < 2 by decide) (q_inU rfl) dX12_readStep_203 (fun H locs σ_82 hσ_82 hI => ?_)
                        replace hF := q_letX hF hσ_82
                        have fr_σ_82 := fr_σ_79.si hσ_82 (q_tk (k' := 34) hI ha rfl (Nat.succ_ne_zero _)) rfl
                        have mv9_σ_82 : (σ_82.1 a 9).toInt = (σ_79.1 a 9).toInt := congrArg Int32.toInt (q_rdn hσ_82 (Or.inl (m_ne ha (q_tk (k' := 34) hI ha rfl (Nat.succ_ne_zero _)) (by decide))))
                        have mv12_σ_82 : (σ_82.1 a 12).toInt = (σ_79.1 a 12).toInt := congrArg Int32.toInt (q_rdn hσ_82 (Or.inl (m_ne ha (q_tk (k' := 34) hI ha rfl (Nat.succ_ne_zero _)) (by decide))))
                        have mv14_σ_82 : (σ_82.1 a 14).toInt = (σ_79.1 a 14).toInt := congrArg Int32.toInt (q_rdn hσ_82 (Or.inl (m_ne ha (q_tk (k' := 34) hI ha rfl (Nat.succ_ne_zero _)) (by decide))))
                        have mv15_σ_82 : (σ_82.1 a 15).toInt = (σ_79.1 a 15).toInt := congrArg Int32.toInt (q_rdn hσ_82 (Or.inl (m_ne ha (q_tk (k' := 34) hI ha rfl (Nat.succ_ne_zero _)) (by decide))))
                        have mv16_σ_82 : (σ_82.1 a 16).toInt = (σ_79.1 a 16).toInt := congrArg Int32.toInt (q_rdn hσ_82 (Or.inl (m_ne ha (q_tk (k' := 34) hI ha rfl (Nat.succ_ne_zero _)) (by decide))))
                        have mv27_σ_82 : (σ_82.1 a 27).toInt = (σ_79.1 a 27).toInt := congrArg Int32.toInt (q_rdn hσ_82 (Or.inl (m_ne ha (q_tk (k' := 34) hI ha rfl (Nat.succ_ne_zero _)) (by decide))))
                        have mcσ_82 := m_wr (v := f_81) (A := ((4376 + (9 * f_11.toInt)) + 8)) hσ_82 iz_80 (by first | (clear hkd hs hz hc2 hd bhpσ_2 chpσ_2 dhpσ_2 j20 if_5 if_7 taσ_8 tbσ_8 if_9 c_10 iz_12 iz_13 dhpσ_18 ehpσ_18 dhpσ_21 ehpσ_21 fhpσ_21 kc_22 bhpσ_24 chpσ_24 chpσ_26 dhpσ_26 ehpσ_26 hm140 c_29 if_46 c_47 ahpσ_65 bhpσ_65 chpσ_65 c_66 c_67 ahpσ_72 bhpσ_72 chpσ_72 ahpσ_74 chpσ_74 dhpσ_74 ehpσ_74 kc_75 ahpσ_77 bhpσ_77 chpσ_77 ahpσ_79 chpσ_79 dhpσ_79 ehpσ_79 smσ_79 oxσ_79 nrσ_79 iz_80 if_81 mv9_σ_82 mv12_σ_82 mv14_σ_82 mv15_σ_82 mv16_σ_82 mv27_σ_82; omega) | omega)
                        have klσ_82 : ∀ j, 0 ≤ j → j < 4376 + 9 * (σ.1 a 27).toInt → m_c X σ_82 a j = m_c X σ a j := fun j h0 h1 => by rw [mcσ_82 j h0, if_neg (by first | (clear hkd hs hz hc2 hn hd bhpσ_2 chpσ_2 dhpσ_2 j20 if_5 if_7 taσ_8 tbσ_8 if_9 c_10 kk0 iz_12 iz_13 dhpσ_18 ehpσ_18 dhpσ_21 ehpσ_21 fhpσ_21 kc_22 bhpσ_24 chpσ_24 chpσ_26 dhpσ_26 ehpσ_26 hm140 c_29 if_46 c_47 ahpσ_65 bhpσ_65 chpσ_65 c_66 c_67 ahpσ_72 bhpσ_72 chpσ_72 ahpσ_74 chpσ_74 dhpσ_74 ehpσ_74 kc_75 ahpσ_77 bhpσ_77 chpσ_77 ahpσ_79 chpσ_79 dhpσ_79 ehpσ_79 smσ_79 oxσ_79 nrσ_79 iz_80 if_81 mv9_σ_82 mv12_σ_82 mv14_σ_82 mv15_σ_82 mv16_σ_82 mv27_σ_82; omega) | omega)]; exact klσ_79 j h0 h1
                        have smσ_82 : 0 ≤ (σ_82.1 a 15).toInt ∧ (σ_82.1 a 15).toInt ≤ (σ_82.1 a 16).toInt ∧ (σ_82.1 a 16).toInt ≤ (σ_82.1 a 9).toInt ∧ (σ_82.1 a 9).toInt ≤ 900 ∧ 0 ≤ (σ_82.1 a 14).toInt ∧ (σ_82.1 a 14).toInt ≤ 4 ∧ (σ_82.1 a 14).toInt ≤ 4 * ((σ_82.1 a 16).toInt - (σ_82.1 a 15).toInt) ∧ (σ_82.1 a 14).toInt ≤ 4 * ((σ_82.1 a 9).toInt - (σ_82.1 a 15).toInt) ∧ 0 ≤ (σ_82.1 a 12).toInt ∧ (σ_82.1 a 9).toInt = (σ.1 a 9).toInt ∧ (σ.1 a 15).toInt ≤ (σ_82.1 a 15).toInt ∧ (σ.1 a 12).toInt ≤ (σ_82.1 a 12).toInt := (by first | (rw [mv12_σ_82, mv14_σ_82, mv15_σ_82, mv16_σ_82, mv9_σ_82]; exact smσ_79) | omega)
                        have oxσ_82 : (σ.1 a 15).toInt + 1 ≤ (σ_82.1 a 15).toInt := (by first | (clear hkd hs hz hc2 hn hd bhpσ_2 chpσ_2 dhpσ_2 j20 if_5 if_7 nsσ_8 taσ_8 tbσ_8 if_9 c_10 kk0 if_11 iz_12 iz_13 if_14 iz_15 dhpσ_18 ehpσ_18 dhpσ_21 ehpσ_21 fhpσ_21 kc_22 bhpσ_24 chpσ_24 chpσ_26 dhpσ_26 ehpσ_26 hm140 c_29 if_46 c_47 ahpσ_65 bhpσ_65 chpσ_65 c_66 c_67 ahpσ_72 bhpσ_72 chpσ_72 ahpσ_74 chpσ_74 dhpσ_74 ehpσ_74 kc_75 ahpσ_77 bhpσ_77 chpσ_77 ahpσ_79 chpσ_79 dhpσ_79 ehpσ_79 smσ_79 nrσ_79 iz_80 if_81 mv9_σ_82 mv12_σ_82 mv14_σ_82 mv16_σ_82 mv27_σ_82 smσ_82; omega) | omega)
                        have nrσ_82 : (σ.1 a 27).toInt + 1 ≤ (σ_82.1 a 27).toInt ∧ (σ_82.1 a 27).toInt ≤ 30 := (by first | (clear hkd hs hz hc2 hn hd bhpσ_2 chpσ_2 dhpσ_2 j20 if_5 if_7 taσ_8 tbσ_8 if_9 c_10 kk0 iz_12 iz_13 dhpσ_18 ehpσ_18 dhpσ_21 ehpσ_21 fhpσ_21 kc_22 bhpσ_24 chpσ_24 chpσ_26 dhpσ_26 ehpσ_26 hm140 c_29 if_46 c_47 ahpσ_65 bhpσ_65 chpσ_65 c_66 c_67 ahpσ_72 bhpσ_72 chpσ_72 ahpσ_74 chpσ_74 dhpσ_74 ehpσ_74 kc_75 ahpσ_77 bhpσ_77 chpσ_77 ahpσ_79 chpσ_79 dhpσ_79 ehpσ_79 smσ_79 oxσ_79 iz_80 mv9_σ_82 mv12_σ_82 mv14_σ_82 mv15_σ_82 mv16_σ_82 smσ_82 oxσ_82; omega) | omega)
                        have fiσ_82 : m_oz (σ_82.1 a 12).toInt (∀ t, (σ.1 a 27).toInt ≤ t → t < (σ_82.1 a 27).toInt → m_stp (m_c X σ_82 a) (4376 + 9 * t) t (σ_82.1 a 27).toInt) := (m_oz.mono lpσ_79 (by first | (clear hkd hs hz hc2 hn hd bhpσ_2 chpσ_2 dhpσ_2 j20 if_5 if_7 nsσ_8 taσ_8 tbσ_8 if_9 c_10 kk0 if_11 iz_12 iz_13 if_14 iz_15 dhpσ_18 ehpσ_18 dhpσ_21 ehpσ_21 fhpσ_21 kc_22 bhpσ_24 chpσ_24 chpσ_26 dhpσ_26 ehpσ_26 hm140 c_29 if_46 c_47 ahpσ_65 bhpσ_65 chpσ_65 c_66 c_67 ahpσ_72 bhpσ_72 chpσ_72 ahpσ_74 chpσ_74 dhpσ_74 ehpσ_74 kc_75 ahpσ_77 bhpσ_77 chpσ_77 ahpσ_79 chpσ_79 dhpσ_79 ehpσ_79 oxσ_79 nrσ_79 iz_80 if_81 mv9_σ_82 mv14_σ_82 mv15_σ_82 mv16_σ_82 mv27_σ_82 smσ_82 oxσ_82 nrσ_82; omega) | omega) (by first | (clear hkd hs hz hc2 hn hd bhpσ_2 chpσ_2 dhpσ_2 j20 if_5 if_7 nsσ_8 taσ_8 tbσ_8 if_9 c_10 kk0 if_11 iz_12 iz_13 if_14 iz_15 dhpσ_18 ehpσ_18 dhpσ_21 ehpσ_21 fhpσ_21 kc_22 bhpσ_24 chpσ_24 chpσ_26 dhpσ_26 ehpσ_26 hm140 c_29 if_46 c_47 ahpσ_65 bhpσ_65 chpσ_65 c_66 c_67 ahpσ_72 bhpσ_72 chpσ_72 ahpσ_74 chpσ_74 dhpσ_74 ehpσ_74 kc_75 ahpσ_77 bhpσ_77 chpσ_77 ahpσ_79 chpσ_79 dhpσ_79 ehpσ_79 smσ_79 oxσ_79 nrσ_79 iz_80 if_81 mv9_σ_82 mv14_σ_82 mv15_σ_82 mv16_σ_82 mv27_σ_82 smσ_82 oxσ_82 nrσ_82; omega) | omega) (fun h => by have en : (σ_82.1 a 27).toInt = (σ_79.1 a 27).toInt := (by omega); rw [en]; exact m_lp.done h (fun j hj => by rw [mcσ_82 j hj, iz_13]) (by omega) (by first | (clear hkd hs hz hc2 hn hd bhpσ_2 chpσ_2 dhpσ_2 j20 if_5 if_7 taσ_8 tbσ_8 if_9 c_10 kk0 iz_12 if_14 iz_15 dhpσ_18 ehpσ_18 dhpσ_21 ehpσ_21 fhpσ_21 kc_22 bhpσ_24 chpσ_24 chpσ_26 dhpσ_26 ehpσ_26 hm140 c_29 if_46 c_47 ahpσ_65 bhpσ_65 chpσ_65 c_66 c_67 ahpσ_72 bhpσ_72 chpσ_72 ahpσ_74 chpσ_74 dhpσ_74 ehpσ_74 kc_75 ahpσ_77 bhpσ_77 chpσ_77 ahpσ_79 chpσ_79 dhpσ_79 ehpσ_79 smσ_79 oxσ_79 nrσ_79 iz_80 if_81 mv9_σ_82 mv12_σ_82 mv14_σ_82 mv15_σ_82 mv16_σ_82 mv27_σ_82 smσ_82 oxσ_82 nrσ_82; omega) | omega) (by first | (clear hkd hs hz hc2 hd bhpσ_2 chpσ_2 dhpσ_2 j20 if_5 if_7 taσ_8 tbσ_8 if_9 c_10 iz_12 iz_13 dhpσ_18 ehpσ_18 dhpσ_21 ehpσ_21 fhpσ_21 kc_22 bhpσ_24 chpσ_24 chpσ_26 dhpσ_26 ehpσ_26 hm140 c_29 if_46 c_47 ahpσ_65 bhpσ_65 chpσ_65 c_66 c_67 ahpσ_72 bhpσ_72 chpσ_72 ahpσ_74 chpσ_74 dhpσ_74 ehpσ_74 kc_75 ahpσ_77 bhpσ_77 chpσ_77 ahpσ_79 chpσ_79 dhpσ_79 ehpσ_79 smσ_79 oxσ_79 iz_80 mv9_σ_82 mv12_σ_82 mv14_σ_82 mv15_σ_82 mv16_σ_82 smσ_82 oxσ_82 nrσ_82; omega) | omega)))
                        clear mv9_σ_82 mv12_σ_82 mv14_σ_82 mv15_σ_82 mv16_σ_82 mv27_σ_82 smσ_79 oxσ_79 nrσ_79
                        rewrite [hQQ]; exact q_retv E hr hlk hI ⟨klσ_82, (by first | exact smσ_82 | omega), (by first | exact smσ_82 | omega), (by first | exact smσ_82 | omega), fiσ_82, (hF.trans hout), fr_σ_82⟩ dX12_readStep_204
                    · skip
                      replace hF := q_ifp hF c_66
                      refine lv_aload_n hx hb dX12_readStep_158 rfl (lv_at hl 0 rfl) ?_
                      refine lv_iload_n hx hb dX12_readStep_159 rfl (lv_at hl 1 rfl) ?_
                      refine lv_iconst (v := 1) hx hb dX12_readStep_160 zki_1 ?_
                      refine lv_iadd hx hb dX12_readStep_161 ?_
                      refine lv_topi (fun z_83 ez_83 => ?_)
                      replace hF := q_letX hF ez_83
                      have iz_83 := q_addI (A := v1.toInt) (B := 1) ez_83 rfl (by decide) (by first | (clear hs hz hc2 hn bhpσ_2 chpσ_2 dhpσ_2 j20 if_5 if_7 nsσ_8 taσ_8 tbσ_8 if_9 c_10 kk0 if_11 iz_12 iz_13 if_14 iz_15 dhpσ_18 ehpσ_18 dhpσ_21 ehpσ_21 fhpσ_21 kc_22 bhpσ_24 chpσ_24 chpσ_26 dhpσ_26 ehpσ_26 hm140 c_29 if_46 c_47 ahpσ_65 bhpσ_65 chpσ_65 c_66; omega) | omega) (by first | (clear hs hz hc2 hn bhpσ_2 chpσ_2 dhpσ_2 j20 if_5 if_7 nsσ_8 taσ_8 tbσ_8 if_9 c_10 kk0 if_11 iz_12 iz_13 if_14 iz_15 dhpσ_18 ehpσ_18 dhpσ_21 ehpσ_21 fhpσ_21 kc_22 bhpσ_24 chpσ_24 chpσ_26 dhpσ_26 ehpσ_26 hm140 c_29 if_46 c_47 ahpσ_65 bhpσ_65 chpσ_65 c_66; omega) | omega)
                      refine q_cv (q_runV (As := [.int z_83]) (rest := []) E (hml.trans hl.1.symm) hI (hC σ_27 z_83 (by first | exact sm_9 smσ_27 | exact hs | omega) (by first | (clear hkd hs hz hc2 hn hd bhpσ_2 chpσ_2 dhpσ_2 j20 if_5 if_7 nsσ_8 taσ_8 tbσ_8 if_9 c_10 kk0 if_11 iz_12 iz_13 if_14 iz_15 dhpσ_18 ehpσ_18 dhpσ_21 ehpσ_21 fhpσ_21 kc_22 bhpσ_24 chpσ_24 chpσ_26 dhpσ_26 ehpσ_26 hm140 c_29 ahpσ_65 bhpσ_65 chpσ_65 c_66 iz_83; omega) | omega) (by rw [klσ_27 2 (by decide) (by first | (clear hkd hs hz hc2 hd bhpσ_2 chpσ_2 dhpσ_2 j20 if_5 if_7 taσ_8 tbσ_8 if_9 c_10 iz_12 iz_13 dhpσ_18 ehpσ_18 dhpσ_21 ehpσ_21 fhpσ_21 kc_22 bhpσ_24 chpσ_24 chpσ_26 dhpσ_26 ehpσ_26 hm140 c_29 if_46 c_47 ahpσ_65 bhpσ_65 chpσ_65 c_66 iz_83; omega) | omega)]; exact hc2) (by first | (clear hkd hs hz hc2 hd bhpσ_2 chpσ_2 dhpσ_2 j20 if_5 if_7 taσ_8 tbσ_8 if_9 c_10 iz_12 iz_13 dhpσ_18 ehpσ_18 dhpσ_21 ehpσ_21 fhpσ_21 kc_22 bhpσ_24 chpσ_24 chpσ_26 dhpσ_26 ehpσ_26 hm140 c_29 if_46 c_47 ahpσ_65 bhpσ_65 chpσ_65 c_66 iz_83; omega) | omega) (by first | (clear hkd hs hz hc2 hn bhpσ_2 chpσ_2 dhpσ_2 j20 if_5 if_7 nsσ_8 taσ_8 tbσ_8 if_9 c_10 kk0 if_11 iz_12 iz_13 if_14 iz_15 dhpσ_18 ehpσ_18 dhpσ_21 ehpσ_21 fhpσ_21 kc_22 bhpσ_24 chpσ_24 chpσ_26 dhpσ_26 ehpσ_26 hm140 c_29 if_46 c_47 ahpσ_65 bhpσ_65 chpσ_65 c_66; omega) | omega)) kv_X12_273 ha ⟨rfl, by decide⟩ (show vwCl[11]? = some (RX12, TX12, 46) from rfl) rfl ⟨Nat.le_refl _, Nat.le_refl _⟩ ⟨Nat.le_refl _, Nat.le_refl _⟩ rfl (Nat.le_of_ble_eq_true rfl) dX12_readStep_162) hI (Nat.le_of_ble_eq_true rfl) (fun σ_85 H locs hpσ_85 hkσ_85 hI => ?_)
                      have ahpσ_85 := hpσ_85.1
                      have bhpσ_85 := hpσ_85.2.1
                      have chpσ_85 := hpσ_85.2.2.1
                      have dhpσ_85 := hpσ_85.2.2.2.1
                      have ehpσ_85 := hpσ_85.2.2.2.2.1
                      have fhpσ_85 := hpσ_85.2.2.2.2.2.1
                      have ghpσ_85 := hpσ_85.2.2.2.2.2.2
                      clear hpσ_85
                      have fr_σ_85 := fr_σ_27.call ghpσ_85 rfl rfl
                      replace hF := q_letX hF fhpσ_85
                      have klσ_85 : ∀ j, 0 ≤ j → j < 4376 + 9 * (σ.1 a 27).toInt → m_c X σ_85 a j = m_c X σ a j := (fun j h0 h1 => (ahpσ_85 j h0 (by first | (clear hkd hs hz hc2 hn hd bhpσ_2 chpσ_2 dhpσ_2 j20 if_5 if_7 taσ_8 tbσ_8 if_9 c_10 kk0 iz_12 iz_13 dhpσ_18 ehpσ_18 dhpσ_21 ehpσ_21 fhpσ_21 kc_22 bhpσ_24 chpσ_24 chpσ_26 dhpσ_26 ehpσ_26 hm140 c_29 if_46 c_47 ahpσ_65 bhpσ_65 chpσ_65 c_66 iz_83 ahpσ_85 bhpσ_85 chpσ_85 dhpσ_85 ehpσ_85 fhpσ_85; omega) | omega)).trans (klσ_27 j h0 h1))
                      have smσ_85 : 0 ≤ (σ_85.1 a 15).toInt ∧ (σ_85.1 a 15).toInt ≤ (σ_85.1 a 16).toInt ∧ (σ_85.1 a 16).toInt ≤ (σ_85.1 a 9).toInt ∧ (σ_85.1 a 9).toInt ≤ 900 ∧ 0 ≤ (σ_85.1 a 14).toInt ∧ (σ_85.1 a 14).toInt ≤ 4 ∧ (σ_85.1 a 14).toInt ≤ 4 * ((σ_85.1 a 16).toInt - (σ_85.1 a 15).toInt) ∧ (σ_85.1 a 14).toInt ≤ 4 * ((σ_85.1 a 9).toInt - (σ_85.1 a 15).toInt) ∧ 0 ≤ (σ_85.1 a 12).toInt ∧ (σ_85.1 a 9).toInt = (σ.1 a 9).toInt ∧ (σ.1 a 15).toInt ≤ (σ_85.1 a 15).toInt ∧ (σ.1 a 12).toInt ≤ (σ_85.1 a 12).toInt := (by first | exact sm_tr smσ_27 bhpσ_85 | exact sm_tr smσ_27 chpσ_85 | omega)
                      have oxσ_85 : (σ.1 a 15).toInt + 1 ≤ (σ_85.1 a 15).toInt := (by first | (clear hkd hs hz hc2 hn hd bhpσ_2 chpσ_2 dhpσ_2 j20 if_5 if_7 nsσ_8 taσ_8 tbσ_8 if_9 c_10 kk0 if_11 iz_12 iz_13 if_14 iz_15 dhpσ_18 ehpσ_18 dhpσ_21 ehpσ_21 fhpσ_21 kc_22 bhpσ_24 chpσ_24 chpσ_26 dhpσ_26 ehpσ_26 hm140 c_29 if_46 c_47 ahpσ_65 bhpσ_65 chpσ_65 c_66 iz_83 ahpσ_85 chpσ_85 dhpσ_85 ehpσ_85 fhpσ_85; omega) | omega)
                      have nrσ_85 : (σ.1 a 27).toInt + 1 ≤ (σ_85.1 a 27).toInt ∧ (σ_85.1 a 27).toInt ≤ 30 := (by first | (clear hkd hs hz hc2 hn hd bhpσ_2 chpσ_2 dhpσ_2 j20 if_5 if_7 taσ_8 tbσ_8 if_9 c_10 kk0 iz_12 iz_13 dhpσ_18 ehpσ_18 dhpσ_21 ehpσ_21 fhpσ_21 kc_22 bhpσ_24 chpσ_24 chpσ_26 dhpσ_26 ehpσ_26 hm140 c_29 if_46 c_47 ahpσ_65 bhpσ_65 chpσ_65 c_66 iz_83 ahpσ_85 bhpσ_85 chpσ_85 ehpσ_85 fhpσ_85 smσ_85 oxσ_85; omega) | omega)
                      have lpσ_85 : m_oz (σ_85.1 a 12).toInt (m_lp (m_c X σ_85 a) z_13.toInt (σ.1 a 27).toInt (σ_85.1 a 27).toInt) := (fun e => m_lp.step (lpσ_27 (by first | (clear hkd hs hz hc2 hn hd bhpσ_2 chpσ_2 dhpσ_2 j20 if_5 if_7 nsσ_8 taσ_8 tbσ_8 if_9 c_10 kk0 if_11 iz_12 iz_13 if_14 iz_15 dhpσ_18 ehpσ_18 dhpσ_21 ehpσ_21 fhpσ_21 kc_22 bhpσ_24 chpσ_24 chpσ_26 dhpσ_26 ehpσ_26 hm140 c_29 ahpσ_65 bhpσ_65 chpσ_65 c_66 iz_83 ahpσ_85 bhpσ_85 chpσ_85 dhpσ_85 ehpσ_85 fhpσ_85 smσ_85 oxσ_85 nrσ_85; omega) | omega)) ahpσ_85 (ehpσ_85 e) (by first | (clear hkd hs hz hc2 hn hd bhpσ_2 chpσ_2 dhpσ_2 j20 if_5 if_7 nsσ_8 taσ_8 tbσ_8 if_9 c_10 kk0 if_11 iz_12 iz_13 if_14 iz_15 dhpσ_18 ehpσ_18 dhpσ_21 ehpσ_21 fhpσ_21 kc_22 bhpσ_24 chpσ_24 chpσ_26 dhpσ_26 ehpσ_26 hm140 c_29 if_46 c_47 ahpσ_65 bhpσ_65 chpσ_65 c_66 iz_83 ahpσ_85 bhpσ_85 chpσ_85 ehpσ_85 fhpσ_85 smσ_85 oxσ_85 nrσ_85; omega) | omega) (by first | (clear hkd hs hz hc2 hn hd bhpσ_2 chpσ_2 dhpσ_2 j20 if_5 if_7 taσ_8 tbσ_8 if_9 c_10 kk0 iz_12 if_14 iz_15 dhpσ_18 ehpσ_18 dhpσ_21 ehpσ_21 fhpσ_21 kc_22 bhpσ_24 chpσ_24 chpσ_26 dhpσ_26 ehpσ_26 hm140 c_29 if_46 c_47 ahpσ_65 bhpσ_65 chpσ_65 c_66 iz_83 ahpσ_85 bhpσ_85 chpσ_85 dhpσ_85 ehpσ_85 fhpσ_85 smσ_85 oxσ_85 nrσ_85; omega) | omega) (by first | (clear hkd hs hz hc2 hd bhpσ_2 chpσ_2 dhpσ_2 j20 if_5 if_7 taσ_8 tbσ_8 if_9 c_10 iz_12 iz_13 dhpσ_18 ehpσ_18 dhpσ_21 ehpσ_21 fhpσ_21 kc_22 bhpσ_24 chpσ_24 chpσ_26 dhpσ_26 ehpσ_26 hm140 c_29 if_46 c_47 ahpσ_65 bhpσ_65 chpσ_65 c_66 iz_83 ahpσ_85 bhpσ_85 chpσ_85 dhpσ_85 ehpσ_85 fhpσ_85 smσ_85 oxσ_85 nrσ_85; omega) | omega))
                      refine lv_goto (tgt := 140) hx hb dX12_readStep_165 (by decide) ?_
                      exact ih140 σ_85 _ _ ls (by first | (clear hkd hz hc2 hn hd bhpσ_2 chpσ_2 dhpσ_2 if_5 if_7 nsσ_8 taσ_8 tbσ_8 if_9 c_10 kk0 if_11 iz_12 iz_13 if_14 iz_15 dhpσ_18 ehpσ_18 dhpσ_21 ehpσ_21 fhpσ_21 kc_22 bhpσ_24 chpσ_24 chpσ_26 dhpσ_26 ehpσ_26 ahpσ_65 bhpσ_65 chpσ_65 c_66 iz_83 ahpσ_85 dhpσ_85 ehpσ_85 fhpσ_85 smσ_85 oxσ_85 nrσ_85; omega) | omega) (by omega) lpσ_85 fr_σ_85 klσ_85 smσ_85 oxσ_85 hF hI (lv_sub hl [0, 1, 2, 3, 4] rfl)
            exact L_140_28 ((901 - (σ_26.1 a 15).toInt).toNat + (1 - (σ_26.1 a 12).toInt).toNat + 1) σ_26 _ _ ls (Nat.lt_succ_self _) (by first | (clear hkd hs hz hc2 hd bhpσ_2 chpσ_2 dhpσ_2 j20 if_5 if_7 taσ_8 tbσ_8 if_9 c_10 iz_12 iz_13 dhpσ_18 ehpσ_18 dhpσ_21 ehpσ_21 fhpσ_21 kc_22 bhpσ_24 chpσ_24 chpσ_26 dhpσ_26 ehpσ_26; omega) | omega) (m_oz.mono rrσ_26 (by first | (clear hkd hs hz hc2 hn hd bhpσ_2 chpσ_2 dhpσ_2 j20 if_5 if_7 nsσ_8 taσ_8 tbσ_8 if_9 c_10 kk0 if_11 iz_12 iz_13 if_14 iz_15 dhpσ_18 ehpσ_18 dhpσ_21 ehpσ_21 fhpσ_21 kc_22 bhpσ_24 chpσ_24 chpσ_26 dhpσ_26 ehpσ_26; omega) | omega) (Int.le_refl _) (fun h => m_lp.mk h (by rw [cwσ_26]; omega) (by omega))) fr_σ_26 klσ_26 smσ_26 oxσ_26 hF hI (lv_sub hl [1, 2, 3, 4, 0] rfl)
          · skip
            replace hF := q_ifp hF c_10
            rewrite [hQQ]; exact q_retv E hr hlk hI ⟨klσ_8, (by first | exact smσ_8 | omega), (by first | exact smσ_8 | omega), (by first | exact smσ_8 | omega), (fun e => absurd e (by first | exact smσ_8 | omega)), (hF.trans hout), fr_σ_8⟩ dX12_readStep_88
        refine q_if_ne (A := f_7.toInt) E rfl (tgt := 81) dX12_readStep_59 (by decide) (fun c_86 => ?_) (fun c_86 => ?_)
        · skip
          replace hF := q_ifn hF c_86
          exact J_81_8 σ_6 _ _ ls fr_σ_6 klσ_6 smσ_6 beσ_6 nsσ_6 taσ_6 tbσ_6 hF hI (lv_sub hl [0, 1, 2, 3] rfl)
        · skip
          replace hF := q_ifp hF c_86
          refine lv_iload_n hx hb dX12_readStep_62 rfl (lv_at hl 3 rfl) ?_
          refine q_if_eq (A := x_3.toInt) E rfl (tgt := 81) dX12_readStep_63 (by decide) (fun c_87 => ?_) (fun c_87 => ?_)
          · skip
            replace hF := q_ifp hF c_87
            exact J_81_8 σ_6 _ _ ls fr_σ_6 klσ_6 smσ_6 beσ_6 nsσ_6 taσ_6 tbσ_6 hF hI (lv_sub hl [0, 1, 2, 3] rfl)
          · skip
            replace hF := q_ifn hF c_87
            refine lv_iload_n hx hb dX12_readStep_66 rfl (lv_at hl 1 rfl) ?_
            refine lv_iconst (v := 3) hx hb dX12_readStep_67 zki_3 ?_
            have gc_88_v1 := q_rng v1
            refine q_icmp_ne (A := v1.toInt) (B := 3) E rfl (by decide) (tgt := 81) dX12_readStep_68 (by decide) (fun c_88 => ?_) (fun c_88 => ?_)
            · skip
              replace hF := q_ifn hF c_88
              exact J_81_8 σ_6 _ _ ls fr_σ_6 klσ_6 smσ_6 beσ_6 nsσ_6 taσ_6 tbσ_6 hF hI (lv_sub hl [0, 1, 2, 3] rfl)
            · skip
              replace hF := q_ifp hF c_88
              refine lv_aload_n hx hb dX12_readStep_71 rfl (lv_at hl 0 rfl) ?_
              refine lv_bipush (v := 7) hx hb dX12_readStep_72 zkb_7 ?_
              refine lv_aload_n hx hb dX12_readStep_74 rfl (lv_at hl 0 rfl) ?_
              refine gs_X12_104_12 E hI ha dX12_readStep_75 ?_
              refine lv_topi (fun f_89 ef_89 => ?_)
              replace hF := q_letX hF ef_89
              have if_89 : f_89.toInt = (σ_6.1 a 15).toInt := congrArg Int32.toInt ef_89
              have kc_90 : (7 : Int32).toInt = 7 := zt_7
              refine q_cv (q_runV (As := [.int 7, .int f_89]) (rest := []) E (hml.trans hl.1.symm) hI (c_X12_fail l X σ_6 a (7 : Int32) f_89 ha (by first | (clear hs hz hc2 hn bhpσ_2 chpσ_2 dhpσ_2 j20 if_5 if_7 c_86 c_87 gc_88_v1 if_89 kc_90; omega) | omega) (by first | (clear hs hz hc2 hn bhpσ_2 chpσ_2 dhpσ_2 j20 if_5 if_7 c_86 c_87 gc_88_v1 if_89 kc_90; omega) | omega)) kv_X12_193 ha ⟨rfl, by decide⟩ (show vwCl[11]? = some (RX12, TX12, 46) from rfl) rfl ⟨rm_f hrf (Nat.le_of_ble_eq_true rfl), rm_w hrw (Nat.le_of_ble_eq_true rfl)⟩ ⟨Nat.le_refl _, Nat.le_refl _⟩ rfl (Nat.le_of_ble_eq_true rfl) dX12_readStep_78) hI (Nat.le_of_ble_eq_true rfl) (fun σ_92 H locs hpσ_92 hkσ_92 hI => ?_)
              have ahpσ_92 := hpσ_92.1
              have bhpσ_92 := hpσ_92.2.1
              have chpσ_92 := hpσ_92.2.2.1
              have dhpσ_92 := hpσ_92.2.2.2.1
              have ehpσ_92 := hpσ_92.2.2.2.2
              clear hpσ_92
              have fr_σ_92 := fr_σ_6.call ehpσ_92 rfl rfl
              replace hF := q_letX hF dhpσ_92
              have mv27_σ_92 : (σ_92.1 a 27).toInt = (σ_6.1 a 27).toInt := congrArg Int32.toInt (ahpσ_92 a 27 (q_cl9 _ _) (fun h => absurd h.2.2 (by decide)))
              have mcσ_92 := m_cK hkσ_92 hI.1 ha (by decide)
              have klσ_92 : ∀ j, 0 ≤ j → j < 4376 + 9 * (σ.1 a 27).toInt → m_c X σ_92 a j = m_c X σ a j := fun j h0 h1 => (mcσ_92 j).trans (klσ_6 j h0 h1)
              have smσ_92 : 0 ≤ (σ_92.1 a 15).toInt ∧ (σ_92.1 a 15).toInt ≤ (σ_92.1 a 16).toInt ∧ (σ_92.1 a 16).toInt ≤ (σ_92.1 a 9).toInt ∧ (σ_92.1 a 9).toInt ≤ 900 ∧ 0 ≤ (σ_92.1 a 14).toInt ∧ (σ_92.1 a 14).toInt ≤ 4 ∧ (σ_92.1 a 14).toInt ≤ 4 * ((σ_92.1 a 16).toInt - (σ_92.1 a 15).toInt) ∧ (σ_92.1 a 14).toInt ≤ 4 * ((σ_92.1 a 9).toInt - (σ_92.1 a 15).toInt) ∧ 0 ≤ (σ_92.1 a 12).toInt ∧ (σ_92.1 a 9).toInt = (σ.1 a 9).toInt ∧ (σ.1 a 15).toInt ≤ (σ_92.1 a 15).toInt ∧ (σ.1 a 12).toInt ≤ (σ_92.1 a 12).toInt := (by first | exact sm_fl smσ_6 bhpσ_92 chpσ_92 | omega)
              have beσ_92 : (σ_92.1 a 16).toInt = (σ.1 a 16).toInt := (by first | (clear hs hz hc2 hn bhpσ_2 chpσ_2 dhpσ_2 j20 if_5 if_7 c_86 c_87 gc_88_v1 if_89 kc_90 ahpσ_92 bhpσ_92 chpσ_92 dhpσ_92 ehpσ_92 mv27_σ_92 smσ_92; omega) | omega)
              have nsσ_92 : (σ_92.1 a 27).toInt = (σ.1 a 27).toInt := (by first | (clear hs hz hc2 hn bhpσ_2 chpσ_2 dhpσ_2 j20 if_5 if_7 c_86 c_87 gc_88_v1 if_89 kc_90 ahpσ_92 bhpσ_92 chpσ_92 dhpσ_92 ehpσ_92 mv27_σ_92 smσ_92 beσ_92; omega) | omega)
              have taσ_92 : 0 ≤ r_1.toInt + (σ_92.1 a 12).toInt := (by first | (clear hs hz hc2 hn bhpσ_2 chpσ_2 dhpσ_2 j20 if_5 if_7 c_86 c_87 gc_88_v1 if_89 kc_90 ahpσ_92 bhpσ_92 chpσ_92 dhpσ_92 ehpσ_92 mv27_σ_92 smσ_92 beσ_92 nsσ_92; omega) | omega)
              have tbσ_92 : (σ.1 a 27).toInt ≤ 29 + (σ_92.1 a 12).toInt := (by first | (clear hs hz hc2 hn bhpσ_2 chpσ_2 dhpσ_2 j20 if_5 if_7 c_86 c_87 gc_88_v1 if_89 kc_90 ahpσ_92 bhpσ_92 chpσ_92 dhpσ_92 ehpσ_92 mv27_σ_92 smσ_92 beσ_92 nsσ_92 taσ_92; omega) | omega)
              clear mv27_σ_92 smσ_6 beσ_6 nsσ_6 taσ_6 tbσ_6 bhpσ_92
              exact J_81_8 σ_92 _ _ ls fr_σ_92 klσ_92 smσ_92 beσ_92 nsσ_92 taσ_92 tbσ_92 hF hI (lv_sub hl [0, 1, 2, 3] rfl)
      refine q_if_ne (A := f_5.toInt) E rfl (tgt := 55) dX12_readStep_33 (by decide) (fun c_93 => ?_) (fun c_93 => ?_)
      · skip
        replace hF := q_ifn hF c_93
        exact J_55_6 σ_4 _ _ ls (by first | (clear hkd hs hz hc2 hd bhpσ_2 chpσ_2 dhpσ_2 j20; omega) | omega) fr_σ_4 klσ_4 smσ_4 beσ_4 nsσ_4 taσ_4 hF hI (lv_sub hl [0, 1, 2, 3] rfl)
      · skip
        replace hF := q_ifp hF c_93
        refine lv_aload_n hx hb dX12_readStep_36 rfl (lv_at hl 0 rfl) ?_
        refine gs_X12_267_12 E hI ha dX12_readStep_37 ?_
        refine lv_topi (fun f_94 ef_94 => ?_)
        replace hF := q_letX hF ef_94
        have if_94 : f_94.toInt = (σ_4.1 a 27).toInt := congrArg Int32.toInt ef_94
        refine lv_bipush (v := 30) hx hb dX12_readStep_40 zkb_30 ?_
        have gc_95_f_94 := q_rng f_94
        refine q_icmp_ne (A := f_94.toInt) (B := 30) E rfl (by decide) (tgt := 55) dX12_readStep_42 (by decide) (fun c_95 => ?_) (fun c_95 => ?_)
        · skip
          replace hF := q_ifn hF c_95
          exact J_55_6 σ_4 _ _ ls (by first | (clear hkd hs hz hc2 hd bhpσ_2 chpσ_2 dhpσ_2 j20 gc_95_f_94; omega) | omega) fr_σ_4 klσ_4 smσ_4 beσ_4 nsσ_4 taσ_4 hF hI (lv_sub hl [0, 1, 2, 3] rfl)
        · skip
          replace hF := q_ifp hF c_95
          refine lv_aload_n hx hb dX12_readStep_45 rfl (lv_at hl 0 rfl) ?_
          refine lv_bipush (v := 6) hx hb dX12_readStep_46 zkb_6 ?_
          refine lv_aload_n hx hb dX12_readStep_48 rfl (lv_at hl 0 rfl) ?_
          refine gs_X12_104_12 E hI ha dX12_readStep_49 ?_
          refine lv_topi (fun f_96 ef_96 => ?_)
          replace hF := q_letX hF ef_96
          have if_96 : f_96.toInt = (σ_4.1 a 15).toInt := congrArg Int32.toInt ef_96
          have kc_97 : (6 : Int32).toInt = 6 := zt_6
          refine q_cv (q_runV (As := [.int 6, .int f_96]) (rest := []) E (hml.trans hl.1.symm) hI (c_X12_fail l X σ_4 a (6 : Int32) f_96 ha (by first | (clear hkd hs hz hc2 hn hd bhpσ_2 chpσ_2 dhpσ_2 j20 if_94 gc_95_f_94 c_95 if_96 kc_97; omega) | omega) (by first | (clear hkd hs hz hc2 hn hd bhpσ_2 chpσ_2 dhpσ_2 j20 if_5 c_93 if_94 gc_95_f_94 c_95 if_96; omega) | omega)) kv_X12_193 ha ⟨rfl, by decide⟩ (show vwCl[11]? = some (RX12, TX12, 46) from rfl) rfl ⟨rm_f hrf (Nat.le_of_ble_eq_true rfl), rm_w hrw (Nat.le_of_ble_eq_true rfl)⟩ ⟨Nat.le_refl _, Nat.le_refl _⟩ rfl (Nat.le_of_ble_eq_true rfl) dX12_readStep_52) hI (Nat.le_of_ble_eq_true rfl) (fun σ_99 H locs hpσ_99 hkσ_99 hI => ?_)
          have ahpσ_99 := hpσ_99.1
          have bhpσ_99 := hpσ_99.2.1
          have chpσ_99 := hpσ_99.2.2.1
          have dhpσ_99 := hpσ_99.2.2.2.1
          have ehpσ_99 := hpσ_99.2.2.2.2
          clear hpσ_99
          have fr_σ_99 := fr_σ_4.call ehpσ_99 rfl rfl
          replace hF := q_letX hF dhpσ_99
          have mv27_σ_99 : (σ_99.1 a 27).toInt = (σ_4.1 a 27).toInt := congrArg Int32.toInt (ahpσ_99 a 27 (q_cl9 _ _) (fun h => absurd h.2.2 (by decide)))
          have mcσ_99 := m_cK hkσ_99 hI.1 ha (by decide)
          have klσ_99 : ∀ j, 0 ≤ j → j < 4376 + 9 * (σ.1 a 27).toInt → m_c X σ_99 a j = m_c X σ a j := fun j h0 h1 => (mcσ_99 j).trans (klσ_4 j h0 h1)
          have smσ_99 : 0 ≤ (σ_99.1 a 15).toInt ∧ (σ_99.1 a 15).toInt ≤ (σ_99.1 a 16).toInt ∧ (σ_99.1 a 16).toInt ≤ (σ_99.1 a 9).toInt ∧ (σ_99.1 a 9).toInt ≤ 900 ∧ 0 ≤ (σ_99.1 a 14).toInt ∧ (σ_99.1 a 14).toInt ≤ 4 ∧ (σ_99.1 a 14).toInt ≤ 4 * ((σ_99.1 a 16).toInt - (σ_99.1 a 15).toInt) ∧ (σ_99.1 a 14).toInt ≤ 4 * ((σ_99.1 a 9).toInt - (σ_99.1 a 15).toInt) ∧ 0 ≤ (σ_99.1 a 12).toInt ∧ (σ_99.1 a 9).toInt = (σ.1 a 9).toInt ∧ (σ.1 a 15).toInt ≤ (σ_99.1 a 15).toInt ∧ (σ.1 a 12).toInt ≤ (σ_99.1 a 12).toInt := (by first | exact sm_fl smσ_4 bhpσ_99 chpσ_99 | omega)
          have beσ_99 : (σ_99.1 a 16).toInt = (σ.1 a 16).toInt := (by first | (clear hkd hs hz hc2 hn hd bhpσ_2 chpσ_2 dhpσ_2 j20 if_5 c_93 if_94 gc_95_f_94 c_95 if_96 kc_97 ahpσ_99 chpσ_99 dhpσ_99 ehpσ_99 mv27_σ_99 smσ_99; omega) | omega)
          have nsσ_99 : (σ_99.1 a 27).toInt = (σ.1 a 27).toInt := (by first | (clear hkd hs hz hc2 hn hd bhpσ_2 chpσ_2 dhpσ_2 j20 if_5 c_93 gc_95_f_94 if_96 kc_97 ahpσ_99 bhpσ_99 chpσ_99 dhpσ_99 ehpσ_99 smσ_99 beσ_99; omega) | omega)
          have taσ_99 : 0 ≤ r_1.toInt + (σ_99.1 a 12).toInt := (by first | (clear hkd hs hz hc2 hn hd chpσ_2 dhpσ_2 j20 if_5 c_93 if_94 gc_95_f_94 c_95 if_96 kc_97 ahpσ_99 bhpσ_99 dhpσ_99 ehpσ_99 mv27_σ_99 smσ_99 beσ_99 nsσ_99; omega) | omega)
          clear mv27_σ_99 smσ_4 beσ_4 nsσ_4 taσ_4 bhpσ_99
          exact J_55_6 σ_99 _ _ ls (by first | (clear hkd hs hz hc2 hd bhpσ_2 chpσ_2 dhpσ_2 j20 if_5 c_93 if_94 gc_95_f_94 c_95 if_96 kc_97 ahpσ_99 dhpσ_99 ehpσ_99 smσ_99 beσ_99 taσ_99; omega) | omega) fr_σ_99 klσ_99 smσ_99 beσ_99 nsσ_99 taσ_99 hF hI (lv_sub hl [0, 1, 2, 3] rfl)
    refine q_if_ge (A := r_1.toInt) E rfl (tgt := 29) dX12_readStep_22 (by decide) (fun c_100 => ?_) (fun c_100 => ?_)
    · skip
      replace hF := q_ifn hF (Int.not_lt.mpr c_100)
      exact J_29_4 σ _ _ ls (by first | (clear hkd hs hc2 hn hd chpσ_2 dhpσ_2 j20; omega) | omega) fr_σ klσ smσ beσ nsσ hF hI (lv_sub hl [1, 2, 3, 0] rfl)
    · skip
      replace hF := q_ifp hF c_100
      refine lv_aload_n hx hb dX12_readStep_25 rfl (lv_at hl 1 rfl) ?_
      refine q_cv (q_runV (As := []) (rest := []) E (hml.trans hl.1.symm) hI (c_X12_wrong l X σ a ha (by first | (clear hkd hs hc2 hn hd bhpσ_2 chpσ_2 dhpσ_2 j20 c_100; omega) | omega)) kv_X12_200 ha ⟨rfl, by decide⟩ (show vwCl[11]? = some (RX12, TX12, 46) from rfl) rfl ⟨rm_f hrf (Nat.le_of_ble_eq_true rfl), rm_w hrw (Nat.le_of_ble_eq_true rfl)⟩ ⟨Nat.le_refl _, Nat.le_refl _⟩ rfl (Nat.le_of_ble_eq_true rfl) dX12_readStep_26) hI (Nat.le_of_ble_eq_true rfl) (fun σ_102 H locs hpσ_102 hkσ_102 hI => ?_)
      have ahpσ_102 := hpσ_102.1
      have bhpσ_102 := hpσ_102.2.1
      have chpσ_102 := hpσ_102.2.2.1
      have dhpσ_102 := hpσ_102.2.2.2.1
      have ehpσ_102 := hpσ_102.2.2.2.2
      clear hpσ_102
      have fr_σ_102 := fr_σ.call ehpσ_102 rfl rfl
      replace hF := q_letX hF dhpσ_102
      have mv27_σ_102 : (σ_102.1 a 27).toInt = (σ.1 a 27).toInt := congrArg Int32.toInt (ahpσ_102 a 27 (q_cl9 _ _) (fun h => absurd h.2.2 (by decide)))
      have mcσ_102 := m_cK hkσ_102 hI.1 ha (by decide)
      have klσ_102 : ∀ j, 0 ≤ j → j < 4376 + 9 * (σ.1 a 27).toInt → m_c X σ_102 a j = m_c X σ a j := fun j h0 h1 => (mcσ_102 j).trans (klσ j h0 h1)
      have smσ_102 : 0 ≤ (σ_102.1 a 15).toInt ∧ (σ_102.1 a 15).toInt ≤ (σ_102.1 a 16).toInt ∧ (σ_102.1 a 16).toInt ≤ (σ_102.1 a 9).toInt ∧ (σ_102.1 a 9).toInt ≤ 900 ∧ 0 ≤ (σ_102.1 a 14).toInt ∧ (σ_102.1 a 14).toInt ≤ 4 ∧ (σ_102.1 a 14).toInt ≤ 4 * ((σ_102.1 a 16).toInt - (σ_102.1 a 15).toInt) ∧ (σ_102.1 a 14).toInt ≤ 4 * ((σ_102.1 a 9).toInt - (σ_102.1 a 15).toInt) ∧ 0 ≤ (σ_102.1 a 12).toInt ∧ (σ_102.1 a 9).toInt = (σ.1 a 9).toInt ∧ (σ.1 a 15).toInt ≤ (σ_102.1 a 15).toInt ∧ (σ.1 a 12).toInt ≤ (σ_102.1 a 12).toInt := (by first | exact sm_fl smσ bhpσ_102 chpσ_102 | omega)
      have beσ_102 : (σ_102.1 a 16).toInt = (σ.1 a 16).toInt := (by first | (clear hkd hs hz hc2 hn hd bhpσ_2 chpσ_2 dhpσ_2 j20 c_100 ahpσ_102 chpσ_102 dhpσ_102 ehpσ_102 mv27_σ_102 smσ_102; omega) | omega)
      have nsσ_102 : (σ_102.1 a 27).toInt = (σ.1 a 27).toInt := (by omega)
      clear mv27_σ_102 smσ beσ nsσ bhpσ_102
      exact J_29_4 σ_102 _ _ ls (by first | (clear hkd hs hz hc2 hn hd chpσ_2 dhpσ_2 j20 ahpσ_102 dhpσ_102 ehpσ_102 smσ_102 beσ_102 nsσ_102; omega) | omega) fr_σ_102 klσ_102 smσ_102 beσ_102 nsσ_102 hF hI (lv_sub hl [1, 2, 3, 0] rfl)
  have gc_103_r_1 := q_rng r_1
  refine q_icmp_eq (A := r_1.toInt) (B := 3) E rfl (by decide) (tgt := 15) dX12_readStep_7 (by decide) (fun c_103 => ?_) (fun c_103 => ?_)
  · skip
    replace hF := q_ifp hF c_103
    refine lv_iconst (v := 1) hx hb dX12_readStep_15 zki_1 ?_
    refine lv_goto (tgt := 20) hx hb dX12_readStep_16 (by decide) ?_
    have kc_104 : (1 : Int32).toInt = 1 := zt_1
    exact J_20_3 1 _ _ ls (by first | (clear hkd hs hz hc2 hn hd bhpσ_2 chpσ_2 dhpσ_2 gc_103_r_1 c_103; omega) | omega) hF hI (lv_sub hl [1, 2, 0] rfl)
  · skip
    replace hF := q_ifn hF c_103
    refine lv_iload_n hx hb dX12_readStep_10 rfl (lv_at hl 0 rfl) ?_
    refine lv_iconst (v := 4) hx hb dX12_readStep_11 zki_4 ?_
    have gc_105_r_1 := q_rng r_1
    refine q_icmp_ne (A := r_1.toInt) (B := 4) E rfl (by decide) (tgt := 19) dX12_readStep_12 (by decide) (fun c_105 => ?_) (fun c_105 => ?_)
    · skip
      replace hF := q_ifn hF c_105
      refine lv_iconst (v := 0) hx hb dX12_readStep_19 zki_0 ?_
      have kc_106 : (0 : Int32).toInt = 0 := zt_0
      exact J_20_3 0 _ _ ls (by first | (clear hkd hs hz hc2 hn hd bhpσ_2 chpσ_2 dhpσ_2 gc_103_r_1 c_103 gc_105_r_1 c_105; omega) | omega) hF hI (lv_sub hl [1, 2, 0] rfl)
    · skip
      replace hF := q_ifp hF c_105
      refine lv_iconst (v := 1) hx hb dX12_readStep_15 zki_1 ?_
      refine lv_goto (tgt := 20) hx hb dX12_readStep_16 (by decide) ?_
      have kc_107 : (1 : Int32).toInt = 1 := zt_1
      exact J_20_3 1 _ _ ls (by first | (clear hkd hs hz hc2 hn hd bhpσ_2 chpσ_2 dhpσ_2 gc_103_r_1 c_103 gc_105_r_1 c_105; omega) | omega) hF hI (lv_sub hl [1, 2, 0] rfl)
set_option maxRecDepth 100000 in
theorem c_X12_readStep_d1 (l : Launch) (X : XW) (σ : ST) (a : Nat) (v1 : Int32) (ha : q_kd X a = 12) (hs : 0 ≤ (σ.1 a 15).toInt ∧ (σ.1 a 15).toInt ≤ (σ.1 a 16).toInt ∧ (σ.1 a 16).toInt ≤ (σ.1 a 9).toInt ∧ (σ.1 a 9).toInt ≤ 900 ∧ 0 ≤ (σ.1 a 14).toInt ∧ (σ.1 a 14).toInt ≤ 4 ∧ (σ.1 a 14).toInt ≤ 4 * ((σ.1 a 16).toInt - (σ.1 a 15).toInt) ∧ (σ.1 a 14).toInt ≤ 4 * ((σ.1 a 9).toInt - (σ.1 a 15).toInt) ∧ 0 ≤ (σ.1 a 12).toInt) (hz : (σ.1 a 12).toInt = 0) (hc2 : m_c X σ a 2 ≤ 6) (hn : 0 ≤ (σ.1 a 27).toInt ∧ (σ.1 a 27).toInt ≤ 30) (hd : v1.toInt = 2) : Met l yX12_readStep (q_ws yX12_readStep cX12_readStep 5 none) (q_rm 10 221) (q_P X σ [.ref a, .int v1]) (q_Qv X 1 σ (fun (σ' : ST) => (∀ j, 0 ≤ j → j < 4376 + 9 * (σ.1 a 27).toInt → m_c X σ' a j = m_c X σ a j) ∧ (0 ≤ (σ'.1 a 15).toInt ∧ (σ'.1 a 15).toInt ≤ (σ'.1 a 16).toInt ∧ (σ'.1 a 16).toInt ≤ (σ'.1 a 9).toInt ∧ (σ'.1 a 9).toInt ≤ 900 ∧ 0 ≤ (σ'.1 a 14).toInt ∧ (σ'.1 a 14).toInt ≤ 4 ∧ (σ'.1 a 14).toInt ≤ 4 * ((σ'.1 a 16).toInt - (σ'.1 a 15).toInt) ∧ (σ'.1 a 14).toInt ≤ 4 * ((σ'.1 a 9).toInt - (σ'.1 a 15).toInt) ∧ 0 ≤ (σ'.1 a 12).toInt ∧ (σ'.1 a 9).toInt = (σ.1 a 9).toInt ∧ (σ.1 a 15).toInt ≤ (σ'.1 a 15).toInt ∧ (σ.1 a 12).toInt ≤ (σ'.1 a 12).toInt) ∧ ((σ.1 a 15).toInt + 1 ≤ (σ'.1 a 15).toInt + 1000 * (σ'.1 a 12).toInt) ∧ ((σ.1 a 27).toInt ≤ (σ'.1 a 27).toInt ∧ (σ'.1 a 27).toInt ≤ 30) ∧ (m_oz (σ'.1 a 12).toInt (∀ t, (σ.1 a 27).toInt ≤ t → t < (σ'.1 a 27).toInt → m_stp (m_c X σ' a) (4376 + 9 * t) t (σ'.1 a 27).toInt)) ∧ σ' = F_X12_readStep_d1 X σ a v1 ∧ q_ow [(12, 12), (12, 13), (12, 14), (12, 15), (12, 16), (12, 17), (12, 18), (12, 27), (34, 99)] [(12, 19)] X σ σ')) 0 0 (q_reg X) :=
  c_X12_readStep_g l X a ha 9 197 (by decide) (by decide) 2 (by decide) F_X12_readStep_d0 F_X12_readStep_d1_E168_6 F_X12_readStep_d1_E168_7 F_X12_readStep_d1_E168_8 F_X12_readStep_d1_B140_5 F_X12_readStep_d1_L140_5 F_X12_readStep_d1_J81_4 F_X12_readStep_d1_J55_3 F_X12_readStep_d1_J29_2 F_X12_readStep_d1_J20_1 F_X12_readStep_d1 (fun _ _ _ _ _ => rfl) (fun _ _ _ _ _ => rfl) (fun _ _ _ _ _ => rfl) (fun _ _ _ _ _ _ _ => rfl) (fun _ _ _ _ _ _ _ => F_X12_readStep_d1_L140_5_s) (fun _ _ _ _ _ _ => rfl) (fun _ _ _ _ _ _ => rfl) (fun _ _ _ _ _ _ => rfl) (fun _ _ _ _ _ _ => rfl) (fun _ _ _ _ => rfl) (fun σ v1 hs hz hc2 hn hd => c_X12_readStep_d0 l X σ a v1 ha hs hz hc2 hn (by first | (clear hs hz hc2 hn; omega) | omega)) σ v1 hs hz hc2 hn hd
set_option maxRecDepth 100000 in
theorem c_X12_readStep_d2 (l : Launch) (X : XW) (σ : ST) (a : Nat) (v1 : Int32) (ha : q_kd X a = 12) (hs : 0 ≤ (σ.1 a 15).toInt ∧ (σ.1 a 15).toInt ≤ (σ.1 a 16).toInt ∧ (σ.1 a 16).toInt ≤ (σ.1 a 9).toInt ∧ (σ.1 a 9).toInt ≤ 900 ∧ 0 ≤ (σ.1 a 14).toInt ∧ (σ.1 a 14).toInt ≤ 4 ∧ (σ.1 a 14).toInt ≤ 4 * ((σ.1 a 16).toInt - (σ.1 a 15).toInt) ∧ (σ.1 a 14).toInt ≤ 4 * ((σ.1 a 9).toInt - (σ.1 a 15).toInt) ∧ 0 ≤ (σ.1 a 12).toInt) (hz : (σ.1 a 12).toInt = 0) (hc2 : m_c X σ a 2 ≤ 6) (hn : 0 ≤ (σ.1 a 27).toInt ∧ (σ.1 a 27).toInt ≤ 30) (hd : v1.toInt = 1) : Met l yX12_readStep (q_ws yX12_readStep cX12_readStep 5 none) (q_rm 11 245) (q_P X σ [.ref a, .int v1]) (q_Qv X 1 σ (fun (σ' : ST) => (∀ j, 0 ≤ j → j < 4376 + 9 * (σ.1 a 27).toInt → m_c X σ' a j = m_c X σ a j) ∧ (0 ≤ (σ'.1 a 15).toInt ∧ (σ'.1 a 15).toInt ≤ (σ'.1 a 16).toInt ∧ (σ'.1 a 16).toInt ≤ (σ'.1 a 9).toInt ∧ (σ'.1 a 9).toInt ≤ 900 ∧ 0 ≤ (σ'.1 a 14).toInt ∧ (σ'.1 a 14).toInt ≤ 4 ∧ (σ'.1 a 14).toInt ≤ 4 * ((σ'.1 a 16).toInt - (σ'.1 a 15).toInt) ∧ (σ'.1 a 14).toInt ≤ 4 * ((σ'.1 a 9).toInt - (σ'.1 a 15).toInt) ∧ 0 ≤ (σ'.1 a 12).toInt ∧ (σ'.1 a 9).toInt = (σ.1 a 9).toInt ∧ (σ.1 a 15).toInt ≤ (σ'.1 a 15).toInt ∧ (σ.1 a 12).toInt ≤ (σ'.1 a 12).toInt) ∧ ((σ.1 a 15).toInt + 1 ≤ (σ'.1 a 15).toInt + 1000 * (σ'.1 a 12).toInt) ∧ ((σ.1 a 27).toInt ≤ (σ'.1 a 27).toInt ∧ (σ'.1 a 27).toInt ≤ 30) ∧ (m_oz (σ'.1 a 12).toInt (∀ t, (σ.1 a 27).toInt ≤ t → t < (σ'.1 a 27).toInt → m_stp (m_c X σ' a) (4376 + 9 * t) t (σ'.1 a 27).toInt)) ∧ σ' = F_X12_readStep_d2 X σ a v1 ∧ q_ow [(12, 12), (12, 13), (12, 14), (12, 15), (12, 16), (12, 17), (12, 18), (12, 27), (34, 99)] [(12, 19)] X σ σ')) 0 0 (q_reg X) :=
  c_X12_readStep_g l X a ha 10 221 (by decide) (by decide) 1 (by decide) F_X12_readStep_d1 F_X12_readStep_d2_E168_6 F_X12_readStep_d2_E168_7 F_X12_readStep_d2_E168_8 F_X12_readStep_d2_B140_5 F_X12_readStep_d2_L140_5 F_X12_readStep_d2_J81_4 F_X12_readStep_d2_J55_3 F_X12_readStep_d2_J29_2 F_X12_readStep_d2_J20_1 F_X12_readStep_d2 (fun _ _ _ _ _ => rfl) (fun _ _ _ _ _ => rfl) (fun _ _ _ _ _ => rfl) (fun _ _ _ _ _ _ _ => rfl) (fun _ _ _ _ _ _ _ => F_X12_readStep_d2_L140_5_s) (fun _ _ _ _ _ _ => rfl) (fun _ _ _ _ _ _ => rfl) (fun _ _ _ _ _ _ => rfl) (fun _ _ _ _ _ _ => rfl) (fun _ _ _ _ => rfl) (fun σ v1 hs hz hc2 hn hd => c_X12_readStep_d1 l X σ a v1 ha hs hz hc2 hn (by first | (clear hs hz hc2 hn; omega) | omega)) σ v1 hs hz hc2 hn hd
set_option maxRecDepth 100000 in
theorem c_X12_readStep_d3 (l : Launch) (X : XW) (σ : ST) (a : Nat) (v1 : Int32) (ha : q_kd X a = 12) (hs : 0 ≤ (σ.1 a 15).toInt ∧ (σ.1 a 15).toInt ≤ (σ.1 a 16).toInt ∧ (σ.1 a 16).toInt ≤ (σ.1 a 9).toInt ∧ (σ.1 a 9).toInt ≤ 900 ∧ 0 ≤ (σ.1 a 14).toInt ∧ (σ.1 a 14).toInt ≤ 4 ∧ (σ.1 a 14).toInt ≤ 4 * ((σ.1 a 16).toInt - (σ.1 a 15).toInt) ∧ (σ.1 a 14).toInt ≤ 4 * ((σ.1 a 9).toInt - (σ.1 a 15).toInt) ∧ 0 ≤ (σ.1 a 12).toInt) (hz : (σ.1 a 12).toInt = 0) (hc2 : m_c X σ a 2 ≤ 6) (hn : 0 ≤ (σ.1 a 27).toInt ∧ (σ.1 a 27).toInt ≤ 30) (hd : v1.toInt = 0) : Met l yX12_readStep (q_ws yX12_readStep cX12_readStep 5 none) (q_rm 12 269) (q_P X σ [.ref a, .int v1]) (q_Qv X 1 σ (fun (σ' : ST) => (∀ j, 0 ≤ j → j < 4376 + 9 * (σ.1 a 27).toInt → m_c X σ' a j = m_c X σ a j) ∧ (0 ≤ (σ'.1 a 15).toInt ∧ (σ'.1 a 15).toInt ≤ (σ'.1 a 16).toInt ∧ (σ'.1 a 16).toInt ≤ (σ'.1 a 9).toInt ∧ (σ'.1 a 9).toInt ≤ 900 ∧ 0 ≤ (σ'.1 a 14).toInt ∧ (σ'.1 a 14).toInt ≤ 4 ∧ (σ'.1 a 14).toInt ≤ 4 * ((σ'.1 a 16).toInt - (σ'.1 a 15).toInt) ∧ (σ'.1 a 14).toInt ≤ 4 * ((σ'.1 a 9).toInt - (σ'.1 a 15).toInt) ∧ 0 ≤ (σ'.1 a 12).toInt ∧ (σ'.1 a 9).toInt = (σ.1 a 9).toInt ∧ (σ.1 a 15).toInt ≤ (σ'.1 a 15).toInt ∧ (σ.1 a 12).toInt ≤ (σ'.1 a 12).toInt) ∧ ((σ.1 a 15).toInt + 1 ≤ (σ'.1 a 15).toInt + 1000 * (σ'.1 a 12).toInt) ∧ ((σ.1 a 27).toInt ≤ (σ'.1 a 27).toInt ∧ (σ'.1 a 27).toInt ≤ 30) ∧ (m_oz (σ'.1 a 12).toInt (∀ t, (σ.1 a 27).toInt ≤ t → t < (σ'.1 a 27).toInt → m_stp (m_c X σ' a) (4376 + 9 * t) t (σ'.1 a 27).toInt)) ∧ σ' = F_X12_readStep_d3 X σ a v1 ∧ q_ow [(12, 12), (12, 13), (12, 14), (12, 15), (12, 16), (12, 17), (12, 18), (12, 27), (34, 99)] [(12, 19)] X σ σ')) 0 0 (q_reg X) :=
  c_X12_readStep_g l X a ha 11 245 (by decide) (by decide) 0 (by decide) F_X12_readStep_d2 F_X12_readStep_d3_E168_6 F_X12_readStep_d3_E168_7 F_X12_readStep_d3_E168_8 F_X12_readStep_d3_B140_5 F_X12_readStep_d3_L140_5 F_X12_readStep_d3_J81_4 F_X12_readStep_d3_J55_3 F_X12_readStep_d3_J29_2 F_X12_readStep_d3_J20_1 F_X12_readStep_d3 (fun _ _ _ _ _ => rfl) (fun _ _ _ _ _ => rfl) (fun _ _ _ _ _ => rfl) (fun _ _ _ _ _ _ _ => rfl) (fun _ _ _ _ _ _ _ => F_X12_readStep_d3_L140_5_s) (fun _ _ _ _ _ _ => rfl) (fun _ _ _ _ _ _ => rfl) (fun _ _ _ _ _ _ => rfl) (fun _ _ _ _ _ _ => rfl) (fun _ _ _ _ => rfl) (fun σ v1 hs hz hc2 hn hd => c_X12_readStep_d2 l X σ a v1 ha hs hz hc2 hn (by first | (clear hs hz hc2 hn; omega) | omega)) σ v1 hs hz hc2 hn hd
set_option maxRecDepth 100000 in
set_option maxHeartbeats 4000000 in
theorem c_X12_round (l : Launch) (X : XW) (σ : ST) (a : Nat) (v1 : Int32) (n : Int) (ha : q_kd X a = 12) (hG : m_G (m_c X σ a)) (hW : m_W (m_c X σ a) n) (hn : 0 ≤ n) : Met l yX12_round (q_ws yX12_round cX12_round 3 (some .int)) (q_rm 13 293) (q_P X σ [.ref a, .int v1]) (q_Qi X 0 σ (fun (r : Int32) (σ' : ST) => (q_KS (fun b g => b = a ∧ 8 ≤ g ∧ g ≤ 18) 1 X σ σ') ∧ (m_G (m_c X σ' a)) ∧ (m_W (m_c X σ' a) n) ∧ (∀ j, 930 ≤ j → j < 3720 → m_c X σ' a j = m_c X σ a j) ∧ ((v1.toInt < 0 ∨ (σ.1 a 8).toInt < v1.toInt ∨ 300 < v1.toInt) → (σ'.1 a 8).toInt = (σ.1 a 8).toInt) ∧ ((0 ≤ v1.toInt ∧ v1.toInt ≤ (σ.1 a 8).toInt ∧ v1.toInt ≤ 300) → (σ'.1 a 8).toInt = 0) ∧ (r, σ') = F_X12_round X σ a v1 ∧ q_ow [(12, 0), (12, 1), (12, 8), (12, 9), (12, 10), (12, 11), (12, 12), (12, 13), (12, 14), (12, 15), (12, 16), (12, 17), (12, 18), (12, 27), (34, 99)] [(12, 19)] X σ σ')) 0 0 (q_reg X) := by
  refine q_metQ 0 (by first | exact rfl | decide +kernel) rfl (Nat.le_of_ble_eq_true rfl) (fun QQ hQQ p e s m below meth c E hml hr hlk hI ls hl => ?_)
  have hx := E.1
  have hb := E.2.1
  have hl : lv_has ls 3 [(0, .ref a), (1, .int v1)] := hl
  have ks_σ : q_KS (fun b g => b = a ∧ 8 ≤ g ∧ g ≤ 18) 1 X σ σ := q_KS.rf
  have kpσ : ∀ j, 0 ≤ j → j < 3720 → m_c X σ a j = m_c X σ a j := fun _ _ _ => rfl
  have fr_σ : q_ow [(12, 0), (12, 1), (12, 8), (12, 9), (12, 10), (12, 11), (12, 12), (12, 13), (12, 14), (12, 15), (12, 16), (12, 17), (12, 18), (12, 27), (34, 99)] [(12, 19)] X σ σ := q_ow.rf
  obtain ⟨out, hout⟩ : ∃ o, o = F_X12_round X σ a v1 := ⟨_, rfl⟩
  have hF := hout.symm
  unfold F_X12_round at hF
  refine lv_aload_n hx hb dX12_round_0 rfl (lv_at hl 0 rfl) ?_
  refine lv_iconst (v := 0) hx hb dX12_round_1 zki_0 ?_
  refine ps_X12_59_12 E hI ha (by decide) dX12_round_2 (fun H locs σ_1 hσ_1 hI => ?_)
  replace hF := q_letX hF hσ_1
  have fr_σ_1 := fr_σ.si hσ_1 ha rfl
  have ks_σ_1 : q_KS (fun b g => b = a ∧ 8 ≤ g ∧ g ≤ 18) 1 X σ σ_1 := ks_σ.si hσ_1 ha (show 1 < 9 by decide)
  have mv9_σ_1 : (σ_1.1 a 9).toInt = (σ.1 a 9).toInt := congrArg Int32.toInt (q_rdn hσ_1 (Or.inr (by decide)))
  have mv12_σ_1 : (σ_1.1 a 12).toInt = (σ.1 a 12).toInt := congrArg Int32.toInt (q_rdn hσ_1 (Or.inr (by decide)))
  have mv14_σ_1 : (σ_1.1 a 14).toInt = (σ.1 a 14).toInt := congrArg Int32.toInt (q_rdn hσ_1 (Or.inr (by decide)))
  have mv15_σ_1 : (σ_1.1 a 15).toInt = (σ.1 a 15).toInt := congrArg Int32.toInt (q_rdn hσ_1 (Or.inr (by decide)))
  have mv16_σ_1 : (σ_1.1 a 16).toInt = (σ.1 a 16).toInt := congrArg Int32.toInt (q_rdn hσ_1 (Or.inr (by decide)))
  have mv8_σ_1 : (σ_1.1 a 8).toInt = (σ.1 a 8).toInt := congrArg Int32.toInt (q_rdn hσ_1 (Or.inr (by decide)))
  have mv27_σ_1 : (σ_1.1 a 27).toInt = (σ.1 a 27).toInt := congrArg Int32.toInt (q_rdn hσ_1 (Or.inr (by decide)))
  have mcσ_1 := m_wo hσ_1 (m_ne ha (q_tk (f := 20) (k' := 34) hI ha rfl (by decide)) (by decide))
  have kpσ_1 : ∀ j, 0 ≤ j → j < 3720 → m_c X σ_1 a j = m_c X σ a j := fun j h0 h1 => (mcσ_1 j).trans (kpσ j h0 h1)
  refine lv_aload_n hx hb dX12_round_5 rfl (lv_at hl 0 rfl) ?_
  refine lv_iconst (v := 0) hx hb dX12_round_6 zki_0 ?_
  refine ps_X12_62_12 E hI ha (by decide) dX12_round_7 (fun H locs σ_2 hσ_2 hI => ?_)
  replace hF := q_letX hF hσ_2
  have fr_σ_2 := fr_σ_1.si hσ_2 ha rfl
  have ks_σ_2 : q_KS (fun b g => b = a ∧ 8 ≤ g ∧ g ≤ 18) 1 X σ σ_2 := ks_σ_1.si hσ_2 ha (show 1 < 9 by decide)
  have mv9_σ_2 : (σ_2.1 a 9).toInt = (σ_1.1 a 9).toInt := congrArg Int32.toInt (q_rdn hσ_2 (Or.inr (by decide)))
  have mv12_σ_2 : (σ_2.1 a 12).toInt = (σ_1.1 a 12).toInt := congrArg Int32.toInt (q_rdn hσ_2 (Or.inr (by decide)))
  have mv14_σ_2 : (σ_2.1 a 14).toInt = (σ_1.1 a 14).toInt := congrArg Int32.toInt (q_rdn hσ_2 (Or.inr (by decide)))
  have mv15_σ_2 : (σ_2.1 a 15).toInt = (σ_1.1 a 15).toInt := congrArg Int32.toInt (q_rdn hσ_2 (Or.inr (by decide)))
  have mv16_σ_2 : (σ_2.1 a 16).toInt = (σ_1.1 a 16).toInt := congrArg Int32.toInt (q_rdn hσ_2 (Or.inr (by decide)))
  have mv8_σ_2 : (σ_2.1 a 8).toInt = (σ_1.1 a 8).toInt := congrArg Int32.toInt (q_rdn hσ_2 (Or.inr (by decide)))
  have mv27_σ_2 : (σ_2.1 a 27).toInt = (σ_1.1 a 27).toInt := congrArg Int32.toInt (q_rdn hσ_2 (Or.inr (by decide)))
  have mcσ_2 := m_wo hσ_2 (m_ne ha (q_tk (f := 20) (k' := 34) hI ha rfl (by decide)) (by decide))
  have kpσ_2 : ∀ j, 0 ≤ j → j < 3720 → m_c X σ_2 a j = m_c X σ a j := fun j h0 h1 => (mcσ_2 j).trans (kpσ_1 j h0 h1)
  refine lv_aload_n hx hb dX12_round_10 rfl (lv_at hl 0 rfl) ?_
  refine lv_iload_n hx hb dX12_round_11 rfl (lv_at hl 1 rfl) ?_
  refine lv_sipush (v := 300) hx hb dX12_round_12 zks_300 ?_
  have kc_3 : (300 : Int32).toInt = 300 := zt_300
  refine q_ci (q_rV11_2 (rest := []) E (hml.trans hl.1.symm) hI (c_X12_opens l X σ_2 a v1 (300 : Int32) ha (by decide)) kv_X12_239 ha ⟨Nat.le_of_ble_eq_true rfl, Nat.le_of_ble_eq_true rfl⟩ (Nat.le_of_ble_eq_true rfl) dX12_round_15) hI (Nat.le_of_ble_eq_true rfl) (fun r_4 σ_5 H locs hpσ_5 hkσ_5 hI => ?_)
  have ahpσ_5 := hpσ_5.1
  have bhpσ_5 := hpσ_5.2.1
  have chpσ_5 := hpσ_5.2.2.1
  have dhpσ_5 := hpσ_5.2.2.2.1
  have ehpσ_5 := hpσ_5.2.2.2.2.1
  have fhpσ_5 := hpσ_5.2.2.2.2.2.1
  have ghpσ_5 := hpσ_5.2.2.2.2.2.2
  clear hpσ_5
  have fr_σ_5 := fr_σ_2.call ghpσ_5 rfl rfl
  replace hF := q_biX hF fhpσ_5
  have mcσ_5 := ehpσ_5
  have kpσ_5 : ∀ j, 0 ≤ j → j < 3720 → m_c X σ_5 a j = m_c X σ a j := fun j h0 h1 => (mcσ_5 j).trans (kpσ_2 j h0 h1)
  have ks_σ_5 : q_KS (fun b g => b = a ∧ 8 ≤ g ∧ g ≤ 18) 1 X σ σ_5 := ks_σ_2.KS bhpσ_5 (by decide) (fun b g h => ⟨h.1, by have := h.2; omega⟩)
  have so := chpσ_5
  have sf := dhpσ_5
  clear chpσ_5 dhpσ_5
  refine q_if_ne (A := r_4.toInt) E rfl (tgt := 23) dX12_round_18 (by decide) (fun c_6 => ?_) (fun c_6 => ?_)
  · skip
    replace hF := q_ifn hF c_6
    replace c_6 := q_ifOne ahpσ_5 c_6
    replace so := so (by omega)
    clear sf
    have smσ_5 : 0 ≤ (σ_5.1 a 15).toInt ∧ (σ_5.1 a 15).toInt ≤ (σ_5.1 a 16).toInt ∧ (σ_5.1 a 16).toInt ≤ (σ_5.1 a 9).toInt ∧ (σ_5.1 a 9).toInt ≤ 900 ∧ 0 ≤ (σ_5.1 a 14).toInt ∧ (σ_5.1 a 14).toInt ≤ 4 ∧ (σ_5.1 a 14).toInt ≤ 4 * ((σ_5.1 a 16).toInt - (σ_5.1 a 15).toInt) ∧ (σ_5.1 a 14).toInt ≤ 4 * ((σ_5.1 a 9).toInt - (σ_5.1 a 15).toInt) ∧ 0 ≤ (σ_5.1 a 12).toInt ∧ (σ_5.1 a 8).toInt = 0 := (by first | (clear hn mv9_σ_1 mv12_σ_1 mv14_σ_1 mv15_σ_1 mv16_σ_1 mv8_σ_1 mv27_σ_1 mv9_σ_2 mv12_σ_2 mv14_σ_2 mv15_σ_2 mv16_σ_2 mv8_σ_2 mv27_σ_2 kc_3 ahpσ_5 bhpσ_5 ehpσ_5 fhpσ_5 c_6; omega) | omega)
    have sv : 0 ≤ v1.toInt ∧ v1.toInt ≤ (σ.1 a 8).toInt ∧ v1.toInt ≤ 300 := (by first | (clear hn mv9_σ_1 mv12_σ_1 mv14_σ_1 mv15_σ_1 mv16_σ_1 mv27_σ_1 mv9_σ_2 mv12_σ_2 mv14_σ_2 mv15_σ_2 mv16_σ_2 mv27_σ_2 ahpσ_5 bhpσ_5 ehpσ_5 fhpσ_5 c_6 smσ_5; omega) | omega)
    clear so
    refine lv_aload_n hx hb dX12_round_23 rfl (lv_at hl 0 rfl) ?_
    refine lv_iconst (v := 0) hx hb dX12_round_24 zki_0 ?_
    refine ps_X12_267_12 E hI ha (by decide) dX12_round_25 (fun H locs σ_7 hσ_7 hI => ?_)
    replace hF := q_letX hF hσ_7
    have fr_σ_7 := fr_σ_5.si hσ_7 ha rfl
    have ks_σ_7 : q_KS (fun b g => b = a ∧ 8 ≤ g ∧ g ≤ 18) 1 X σ σ_7 := ks_σ_5.si hσ_7 ha (show 1 < 3 by decide)
    have mv9_σ_7 : (σ_7.1 a 9).toInt = (σ_5.1 a 9).toInt := congrArg Int32.toInt (q_rdn hσ_7 (Or.inr (by decide)))
    have mv12_σ_7 : (σ_7.1 a 12).toInt = (σ_5.1 a 12).toInt := congrArg Int32.toInt (q_rdn hσ_7 (Or.inr (by decide)))
    have mv14_σ_7 : (σ_7.1 a 14).toInt = (σ_5.1 a 14).toInt := congrArg Int32.toInt (q_rdn hσ_7 (Or.inr (by decide)))
    have mv15_σ_7 : (σ_7.1 a 15).toInt = (σ_5.1 a 15).toInt := congrArg Int32.toInt (q_rdn hσ_7 (Or.inr (by decide)))
    have mv16_σ_7 : (σ_7.1 a 16).toInt = (σ_5.1 a 16).toInt := congrArg Int32.toInt (q_rdn hσ_7 (Or.inr (by decide)))
    have mv8_σ_7 : (σ_7.1 a 8).toInt = (σ_5.1 a 8).toInt := congrArg Int32.toInt (q_rdn hσ_7 (Or.inr (by decide)))
    have mv27_σ_7 : (σ_7.1 a 27).toInt = 0 := by rw [q_rd hσ_7]; rfl
    have mcσ_7 := m_wo hσ_7 (m_ne ha (q_tk (f := 20) (k' := 34) hI ha rfl (by decide)) (by decide))
    have kpσ_7 : ∀ j, 0 ≤ j → j < 3720 → m_c X σ_7 a j = m_c X σ a j := fun j h0 h1 => (mcσ_7 j).trans (kpσ_5 j h0 h1)
    have smσ_7 : 0 ≤ (σ_7.1 a 15).toInt ∧ (σ_7.1 a 15).toInt ≤ (σ_7.1 a 16).toInt ∧ (σ_7.1 a 16).toInt ≤ (σ_7.1 a 9).toInt ∧ (σ_7.1 a 9).toInt ≤ 900 ∧ 0 ≤ (σ_7.1 a 14).toInt ∧ (σ_7.1 a 14).toInt ≤ 4 ∧ (σ_7.1 a 14).toInt ≤ 4 * ((σ_7.1 a 16).toInt - (σ_7.1 a 15).toInt) ∧ (σ_7.1 a 14).toInt ≤ 4 * ((σ_7.1 a 9).toInt - (σ_7.1 a 15).toInt) ∧ 0 ≤ (σ_7.1 a 12).toInt ∧ (σ_7.1 a 8).toInt = 0 := (by first | (rw [mv12_σ_7, mv14_σ_7, mv15_σ_7, mv16_σ_7, mv8_σ_7, mv9_σ_7]; exact smσ_5) | omega)
    have nrσ_7 : 0 ≤ (σ_7.1 a 27).toInt ∧ (σ_7.1 a 27).toInt ≤ 30 := (by first | (clear hn mv9_σ_1 mv12_σ_1 mv14_σ_1 mv15_σ_1 mv16_σ_1 mv8_σ_1 mv27_σ_1 mv9_σ_2 mv12_σ_2 mv14_σ_2 mv15_σ_2 mv16_σ_2 mv8_σ_2 mv27_σ_2 kc_3 ahpσ_5 bhpσ_5 ehpσ_5 fhpσ_5 c_6 smσ_5 sv mv9_σ_7 mv12_σ_7 mv14_σ_7 mv15_σ_7 mv16_σ_7 mv8_σ_7 smσ_7; omega) | omega)
    have L_28_9 : ∀ (k_9 : Nat)  (σ_8 : ST) (H : Heap) (locs : List Loc) (ls : Array Slot), (901 - (σ_8.1 a 15).toInt).toNat + (1 - (σ_8.1 a 12).toInt).toNat < k_9 → (m_oz (σ_8.1 a 12).toInt (m_rs (m_c X σ_8 a) (σ_8.1 a 27).toInt)) → (q_KS (fun b g => b = a ∧ 8 ≤ g ∧ g ≤ 18) 1 X σ σ_8) → (q_ow [(12, 0), (12, 1), (12, 8), (12, 9), (12, 10), (12, 11), (12, 12), (12, 13), (12, 14), (12, 15), (12, 16), (12, 17), (12, 18), (12, 27), (34, 99)] [(12, 19)] X σ σ_8) → (∀ j, 0 ≤ j → j < 3720 → m_c X σ_8 a j = m_c X σ a j) → (0 ≤ (σ_8.1 a 15).toInt ∧ (σ_8.1 a 15).toInt ≤ (σ_8.1 a 16).toInt ∧ (σ_8.1 a 16).toInt ≤ (σ_8.1 a 9).toInt ∧ (σ_8.1 a 9).toInt ≤ 900 ∧ 0 ≤ (σ_8.1 a 14).toInt ∧ (σ_8.1 a 14).toInt ≤ 4 ∧ (σ_8.1 a 14).toInt ≤ 4 * ((σ_8.1 a 16).toInt - (σ_8.1 a 15).toInt) ∧ (σ_8.1 a 14).toInt ≤ 4 * ((σ_8.1 a 9).toInt - (σ_8.1 a 15).toInt) ∧ 0 ≤ (σ_8.1 a 12).toInt ∧ (σ_8.1 a 8).toInt = 0) → (0 ≤ (σ_8.1 a 27).toInt ∧ (σ_8.1 a 27).toInt ≤ 30) → (F_X12_round_L28_1 X a k_9 σ_8 = out) → q_I X 0 σ s.heap locs σ_8 H → lv_has ls 3 [(0, .ref a), (1, .int v1)] → W p l e (q_rm 13 293) s m ([.ref a, .int v1] : List Value).toArray below meth c H locs 0 0 (MQ below QQ ([.ref a, .int v1] : List Value).toArray s 0 0 (q_reg X)) (F0 m 28 ls []) := by
      clear hF
      intro k_9
      induction k_9 with
      | zero =>
        intro σ_8 H locs ls hms
        try clear smσ_5; try clear fr_σ_7; try clear mv9_σ_7; try clear mv12_σ_7; try clear mv14_σ_7; try clear mv15_σ_7; try clear mv16_σ_7; try clear mv8_σ_7; try clear mv27_σ_7; try clear mcσ_7; try clear kpσ_7; try clear smσ_7; try clear nrσ_7
        exact absurd hms (Nat.not_lt_zero _)
      | succ k_9 ih28 =>
        intro σ_8 H locs ls hm28 stσ_8 ks_σ_8 fr_σ_8 kpσ_8 smσ_8 nrσ_8 hF hI hl
        replace hF := (F_X12_round_L28_1_s).symm.trans hF
        unfold F_X12_round_B28_1 at hF
        refine lv_aload_n hx hb dX12_round_28 rfl (lv_at hl 0 rfl) ?_
        refine gs_X12_187_12 E hI ha dX12_round_29 ?_
        refine lv_topi (fun f_10 ef_10 => ?_)
        replace hF := q_letX hF ef_10
        have if_10 : f_10.toInt = (σ_8.1 a 12).toInt := congrArg Int32.toInt ef_10
        have J_50_10 : ∀  (H : Heap) (locs : List Loc) (ls : Array Slot), (F_X12_round_J50_2 X σ_8 a = out) → q_I X 0 σ s.heap locs σ_8 H → lv_has ls 3 [(0, .ref a), (1, .int v1)] → W p l e (q_rm 13 293) s m ([.ref a, .int v1] : List Value).toArray below meth c H locs 0 0 (MQ below QQ ([.ref a, .int v1] : List Value).toArray s 0 0 (q_reg X)) (F0 m 50 ls []) := by
          clear hF
          intro  H locs ls  hF hI hl
          unfold F_X12_round_J50_2 at hF
          refine lv_aload_n hx hb dX12_round_50 rfl (lv_at hl 0 rfl) ?_
          refine q_ci (q_rV11_0 (rest := []) E (hml.trans hl.1.symm) hI (c_X12_isWell l X σ_8 a ha) kv_X12_258 ha ⟨Nat.le_of_ble_eq_true rfl, Nat.le_of_ble_eq_true rfl⟩ (Nat.le_of_ble_eq_true rfl) dX12_round_51) hI (Nat.le_of_ble_eq_true rfl) (fun r_11 σ_12 H locs hpσ_12 hkσ_12 hI => ?_)
          have ahpσ_12 := hpσ_12.1
          have bhpσ_12 := hpσ_12.2.1
          have chpσ_12 := hpσ_12.2.2.1
          have dhpσ_12 := hpσ_12.2.2.2
          clear hpσ_12
          have fr_σ_12 := fr_σ_8.call dhpσ_12 rfl rfl
          replace hF := q_biX hF chpσ_12
          have mv9_σ_12 : (σ_12.1 a 9).toInt = (σ_8.1 a 9).toInt := congrArg Int32.toInt ((q_K.le hkσ_12 (by decide) : q_K 8 X σ_8 σ_12) a 9 (by rw [ha]; decide))
          have mv12_σ_12 : (σ_12.1 a 12).toInt = (σ_8.1 a 12).toInt := congrArg Int32.toInt ((q_K.le hkσ_12 (by decide) : q_K 8 X σ_8 σ_12) a 12 (by rw [ha]; decide))
          have mv14_σ_12 : (σ_12.1 a 14).toInt = (σ_8.1 a 14).toInt := congrArg Int32.toInt ((q_K.le hkσ_12 (by decide) : q_K 8 X σ_8 σ_12) a 14 (by rw [ha]; decide))
          have mv15_σ_12 : (σ_12.1 a 15).toInt = (σ_8.1 a 15).toInt := congrArg Int32.toInt ((q_K.le hkσ_12 (by decide) : q_K 8 X σ_8 σ_12) a 15 (by rw [ha]; decide))
          have mv16_σ_12 : (σ_12.1 a 16).toInt = (σ_8.1 a 16).toInt := congrArg Int32.toInt ((q_K.le hkσ_12 (by decide) : q_K 8 X σ_8 σ_12) a 16 (by rw [ha]; decide))
          have mv8_σ_12 : (σ_12.1 a 8).toInt = (σ_8.1 a 8).toInt := congrArg Int32.toInt ((q_K.le hkσ_12 (by decide) : q_K 8 X σ_8 σ_12) a 8 (by rw [ha]; decide))
          have mv27_σ_12 : (σ_12.1 a 27).toInt = (σ_8.1 a 27).toInt := congrArg Int32.toInt ((q_K.le hkσ_12 (by decide) : q_K 8 X σ_8 σ_12) a 27 (by rw [ha]; decide))
          have mcσ_12 := m_cK hkσ_12 hI.1 ha (by decide)
          have kpσ_12 : ∀ j, 0 ≤ j → j < 3720 → m_c X σ_12 a j = m_c X σ a j := fun j h0 h1 => (mcσ_12 j).trans (kpσ_8 j h0 h1)
          have smσ_12 : 0 ≤ (σ_12.1 a 15).toInt ∧ (σ_12.1 a 15).toInt ≤ (σ_12.1 a 16).toInt ∧ (σ_12.1 a 16).toInt ≤ (σ_12.1 a 9).toInt ∧ (σ_12.1 a 9).toInt ≤ 900 ∧ 0 ≤ (σ_12.1 a 14).toInt ∧ (σ_12.1 a 14).toInt ≤ 4 ∧ (σ_12.1 a 14).toInt ≤ 4 * ((σ_12.1 a 16).toInt - (σ_12.1 a 15).toInt) ∧ (σ_12.1 a 14).toInt ≤ 4 * ((σ_12.1 a 9).toInt - (σ_12.1 a 15).toInt) ∧ 0 ≤ (σ_12.1 a 12).toInt ∧ (σ_12.1 a 8).toInt = 0 := (by first | (rw [mv12_σ_12, mv14_σ_12, mv15_σ_12, mv16_σ_12, mv8_σ_12, mv9_σ_12]; exact smσ_8) | omega)
          have nrσ_12 : 0 ≤ (σ_12.1 a 27).toInt ∧ (σ_12.1 a 27).toInt ≤ 30 := (by first | (clear hn mv9_σ_1 mv12_σ_1 mv14_σ_1 mv15_σ_1 mv16_σ_1 mv8_σ_1 mv27_σ_1 mv9_σ_2 mv12_σ_2 mv14_σ_2 mv15_σ_2 mv16_σ_2 mv8_σ_2 mv27_σ_2 kc_3 ahpσ_5 bhpσ_5 ehpσ_5 fhpσ_5 c_6 sv hm28 smσ_8 if_10 ahpσ_12 bhpσ_12 chpσ_12 dhpσ_12 mv9_σ_12 mv12_σ_12 mv14_σ_12 mv15_σ_12 mv16_σ_12 mv8_σ_12 smσ_12; omega) | omega)
          have stσ_12 : m_oz (σ_12.1 a 12).toInt (m_rs (m_c X σ_12 a) (σ_12.1 a 27).toInt) := (m_oz.mono stσ_8 (by first | (clear hn mv9_σ_1 mv12_σ_1 mv14_σ_1 mv15_σ_1 mv16_σ_1 mv8_σ_1 mv27_σ_1 mv9_σ_2 mv12_σ_2 mv14_σ_2 mv15_σ_2 mv16_σ_2 mv8_σ_2 mv27_σ_2 kc_3 ahpσ_5 bhpσ_5 ehpσ_5 fhpσ_5 c_6 sv hm28 nrσ_8 ahpσ_12 bhpσ_12 chpσ_12 dhpσ_12 mv9_σ_12 mv14_σ_12 mv15_σ_12 mv16_σ_12 mv8_σ_12 mv27_σ_12 smσ_12 nrσ_12; omega) | omega) (by first | (clear hn mv9_σ_1 mv12_σ_1 mv14_σ_1 mv15_σ_1 mv16_σ_1 mv8_σ_1 mv27_σ_1 mv9_σ_2 mv12_σ_2 mv14_σ_2 mv15_σ_2 mv16_σ_2 mv8_σ_2 mv27_σ_2 kc_3 ahpσ_5 bhpσ_5 ehpσ_5 fhpσ_5 c_6 sv hm28 smσ_8 nrσ_8 ahpσ_12 bhpσ_12 chpσ_12 dhpσ_12 mv9_σ_12 mv14_σ_12 mv15_σ_12 mv16_σ_12 mv8_σ_12 mv27_σ_12 smσ_12 nrσ_12; omega) | omega) (fun h => m_rs.ext h (fun j h0 => mcσ_12 j) (by omega)))
          have ks_σ_12 : q_KS (fun b g => b = a ∧ 8 ≤ g ∧ g ≤ 18) 1 X σ σ_12 := ks_σ_8.K hkσ_12 (by decide)
          refine q_if_ne (A := r_11.toInt) E rfl (tgt := 59) dX12_round_54 (by decide) (fun c_13 => ?_) (fun c_13 => ?_)
          · skip
            replace hF := q_ifn hF c_13
            replace c_13 := q_ifOne ahpσ_12 c_13
            replace bhpσ_12 := bhpσ_12 c_13
            refine lv_aload_n hx hb dX12_round_59 rfl (lv_at hl 0 rfl) ?_
            refine gs_X12_35_12 E hI ha dX12_round_60 ?_
            refine lv_sipush (v := 654) hx hb dX12_round_63 zks_654 ?_
            refine lv_iconst (v := 1) hx hb dX12_round_66 zki_1 ?_
            have kc_15 : (1 : Int32).toInt = 1 := zt_1
            refine q_iastN E hI (q_tk (k' := 34) hI ha rfl (Nat.succ_ne_zero _)) ⟨by decide, rfl⟩ (by decide) (by rw [q_lnk (v := 4650) hI (q_tk (k' := 34) hI ha rfl (Nat.succ_ne_zero _)) rfl (by decide)]; decide) (show 0 < 2 by decide) (q_inU rfl) dX12_round_67 (fun H locs σ_14 hσ_14 hI => ?_)
            replace hF := q_letX hF hσ_14
            have fr_σ_14 := fr_σ_12.si hσ_14 (q_tk (k' := 34) hI ha rfl (Nat.succ_ne_zero _)) rfl
            have mv9_σ_14 : (σ_14.1 a 9).toInt = (σ_12.1 a 9).toInt := congrArg Int32.toInt (q_rdn hσ_14 (Or.inl (m_ne ha (q_tk (k' := 34) hI ha rfl (Nat.succ_ne_zero _)) (by decide))))
            have mv12_σ_14 : (σ_14.1 a 12).toInt = (σ_12.1 a 12).toInt := congrArg Int32.toInt (q_rdn hσ_14 (Or.inl (m_ne ha (q_tk (k' := 34) hI ha rfl (Nat.succ_ne_zero _)) (by decide))))
            have mv14_σ_14 : (σ_14.1 a 14).toInt = (σ_12.1 a 14).toInt := congrArg Int32.toInt (q_rdn hσ_14 (Or.inl (m_ne ha (q_tk (k' := 34) hI ha rfl (Nat.succ_ne_zero _)) (by decide))))
            have mv15_σ_14 : (σ_14.1 a 15).toInt = (σ_12.1 a 15).toInt := congrArg Int32.toInt (q_rdn hσ_14 (Or.inl (m_ne ha (q_tk (k' := 34) hI ha rfl (Nat.succ_ne_zero _)) (by decide))))
            have mv16_σ_14 : (σ_14.1 a 16).toInt = (σ_12.1 a 16).toInt := congrArg Int32.toInt (q_rdn hσ_14 (Or.inl (m_ne ha (q_tk (k' := 34) hI ha rfl (Nat.succ_ne_zero _)) (by decide))))
            have mv8_σ_14 : (σ_14.1 a 8).toInt = (σ_12.1 a 8).toInt := congrArg Int32.toInt (q_rdn hσ_14 (Or.inl (m_ne ha (q_tk (k' := 34) hI ha rfl (Nat.succ_ne_zero _)) (by decide))))
            have mv27_σ_14 : (σ_14.1 a 27).toInt = (σ_12.1 a 27).toInt := congrArg Int32.toInt (q_rdn hσ_14 (Or.inl (m_ne ha (q_tk (k' := 34) hI ha rfl (Nat.succ_ne_zero _)) (by decide))))
            have ks_σ_14 : q_KS (fun b g => b = a ∧ 8 ≤ g ∧ g ≤ 18) 1 X σ σ_14 := ks_σ_12.si hσ_14 (q_tk (k' := 34) hI ha rfl (Nat.succ_ne_zero _)) (show 1 < 2 by decide)
            have mcσ_14 := m_wr (v := (1 : Int32)) (A := 654) hσ_14 (by decide) (by decide)
            have smσ_14 : 0 ≤ (σ_14.1 a 15).toInt ∧ (σ_14.1 a 15).toInt ≤ (σ_14.1 a 16).toInt ∧ (σ_14.1 a 16).toInt ≤ (σ_14.1 a 9).toInt ∧ (σ_14.1 a 9).toInt ≤ 900 ∧ 0 ≤ (σ_14.1 a 14).toInt ∧ (σ_14.1 a 14).toInt ≤ 4 ∧ (σ_14.1 a 14).toInt ≤ 4 * ((σ_14.1 a 16).toInt - (σ_14.1 a 15).toInt) ∧ (σ_14.1 a 14).toInt ≤ 4 * ((σ_14.1 a 9).toInt - (σ_14.1 a 15).toInt) ∧ 0 ≤ (σ_14.1 a 12).toInt ∧ (σ_14.1 a 8).toInt = 0 := (by first | (rw [mv12_σ_14, mv14_σ_14, mv15_σ_14, mv16_σ_14, mv8_σ_14, mv9_σ_14]; exact smσ_12) | omega)
            have nrσ_14 : 0 ≤ (σ_14.1 a 27).toInt ∧ (σ_14.1 a 27).toInt ≤ 30 := (by first | (clear hn mv9_σ_1 mv12_σ_1 mv14_σ_1 mv15_σ_1 mv16_σ_1 mv8_σ_1 mv27_σ_1 mv9_σ_2 mv12_σ_2 mv14_σ_2 mv15_σ_2 mv16_σ_2 mv8_σ_2 mv27_σ_2 kc_3 ahpσ_5 bhpσ_5 ehpσ_5 fhpσ_5 c_6 sv hm28 smσ_8 if_10 ahpσ_12 chpσ_12 dhpσ_12 mv9_σ_12 mv12_σ_12 mv14_σ_12 mv15_σ_12 mv16_σ_12 mv8_σ_12 smσ_12 nrσ_12 c_13 bhpσ_12 kc_15 mv9_σ_14 mv12_σ_14 mv14_σ_14 mv15_σ_14 mv16_σ_14 mv8_σ_14 smσ_14; omega) | omega)
            have stσ_14 : m_oz (σ_14.1 a 12).toInt (m_rs (m_c X σ_14 a) (σ_14.1 a 27).toInt) := (m_oz.mono stσ_12 (by first | (clear hn mv9_σ_1 mv12_σ_1 mv14_σ_1 mv15_σ_1 mv16_σ_1 mv8_σ_1 mv27_σ_1 mv9_σ_2 mv12_σ_2 mv14_σ_2 mv15_σ_2 mv16_σ_2 mv8_σ_2 mv27_σ_2 kc_3 ahpσ_5 bhpσ_5 ehpσ_5 fhpσ_5 c_6 sv hm28 smσ_8 nrσ_8 ahpσ_12 chpσ_12 dhpσ_12 mv9_σ_12 mv14_σ_12 mv15_σ_12 mv16_σ_12 mv8_σ_12 mv27_σ_12 smσ_12 nrσ_12 c_13 kc_15 mv9_σ_14 mv12_σ_14 mv14_σ_14 mv15_σ_14 mv16_σ_14 mv8_σ_14 mv27_σ_14 smσ_14 nrσ_14; omega) | omega) (by first | (clear hn mv9_σ_1 mv12_σ_1 mv14_σ_1 mv15_σ_1 mv16_σ_1 mv8_σ_1 mv27_σ_1 mv9_σ_2 mv12_σ_2 mv14_σ_2 mv15_σ_2 mv16_σ_2 mv8_σ_2 mv27_σ_2 kc_3 ahpσ_5 bhpσ_5 ehpσ_5 fhpσ_5 c_6 sv hm28 smσ_8 nrσ_8 ahpσ_12 chpσ_12 dhpσ_12 mv9_σ_12 mv14_σ_12 mv15_σ_12 mv16_σ_12 mv8_σ_12 mv27_σ_12 smσ_12 nrσ_12 c_13 kc_15 mv9_σ_14 mv14_σ_14 mv15_σ_14 mv16_σ_14 mv8_σ_14 mv27_σ_14 smσ_14 nrσ_14; omega) | omega) (fun h => m_rs.ext h (fun j h0 => by rw [mcσ_14 j (by first | (clear hn mv9_σ_1 mv12_σ_1 mv14_σ_1 mv15_σ_1 mv16_σ_1 mv8_σ_1 mv27_σ_1 mv9_σ_2 mv12_σ_2 mv14_σ_2 mv15_σ_2 mv16_σ_2 mv8_σ_2 mv27_σ_2 kc_3 ahpσ_5 bhpσ_5 ehpσ_5 fhpσ_5 c_6 sv hm28 smσ_8 nrσ_8 if_10 ahpσ_12 chpσ_12 dhpσ_12 mv9_σ_12 mv12_σ_12 mv14_σ_12 mv15_σ_12 mv16_σ_12 mv8_σ_12 mv27_σ_12 smσ_12 nrσ_12 c_13 bhpσ_12 kc_15 mv9_σ_14 mv12_σ_14 mv14_σ_14 mv15_σ_14 mv16_σ_14 mv8_σ_14 mv27_σ_14 smσ_14 nrσ_14; omega) | omega), if_neg (by first | (clear hn mv9_σ_1 mv12_σ_1 mv14_σ_1 mv15_σ_1 mv16_σ_1 mv8_σ_1 mv27_σ_1 mv9_σ_2 mv12_σ_2 mv14_σ_2 mv15_σ_2 mv16_σ_2 mv8_σ_2 mv27_σ_2 kc_3 ahpσ_5 bhpσ_5 ehpσ_5 fhpσ_5 c_6 sv hm28 smσ_8 nrσ_8 if_10 ahpσ_12 chpσ_12 dhpσ_12 mv9_σ_12 mv12_σ_12 mv14_σ_12 mv15_σ_12 mv16_σ_12 mv8_σ_12 mv27_σ_12 smσ_12 nrσ_12 c_13 bhpσ_12 kc_15 mv9_σ_14 mv12_σ_14 mv14_σ_14 mv15_σ_14 mv16_σ_14 mv8_σ_14 mv27_σ_14 smσ_14 nrσ_14; omega) | omega)]) (by omega)))
            have gσ_14 : m_G (m_c X σ_14 a) := (m_G.wr (m_G.ext (fun j a b => kpσ_12 j a (by first | (clear hn mv9_σ_1 mv12_σ_1 mv14_σ_1 mv15_σ_1 mv16_σ_1 mv8_σ_1 mv27_σ_1 mv9_σ_2 mv12_σ_2 mv14_σ_2 mv15_σ_2 mv16_σ_2 mv8_σ_2 mv27_σ_2 kc_3 ahpσ_5 bhpσ_5 ehpσ_5 fhpσ_5 c_6 sv hm28 smσ_8 nrσ_8 if_10 ahpσ_12 chpσ_12 dhpσ_12 mv9_σ_12 mv12_σ_12 mv14_σ_12 mv15_σ_12 mv16_σ_12 mv8_σ_12 mv27_σ_12 smσ_12 nrσ_12 c_13 bhpσ_12 kc_15 mv9_σ_14 mv12_σ_14 mv14_σ_14 mv15_σ_14 mv16_σ_14 mv8_σ_14 mv27_σ_14 smσ_14 nrσ_14; omega) | omega)) hG) mcσ_14 (by first | (clear hn mv9_σ_1 mv12_σ_1 mv14_σ_1 mv15_σ_1 mv16_σ_1 mv8_σ_1 mv27_σ_1 mv9_σ_2 mv12_σ_2 mv14_σ_2 mv15_σ_2 mv16_σ_2 mv8_σ_2 mv27_σ_2 kc_3 ahpσ_5 bhpσ_5 ehpσ_5 fhpσ_5 c_6 sv hm28 smσ_8 nrσ_8 if_10 ahpσ_12 chpσ_12 dhpσ_12 mv9_σ_12 mv12_σ_12 mv14_σ_12 mv15_σ_12 mv16_σ_12 mv8_σ_12 mv27_σ_12 smσ_12 nrσ_12 c_13 bhpσ_12 kc_15 mv9_σ_14 mv12_σ_14 mv14_σ_14 mv15_σ_14 mv16_σ_14 mv8_σ_14 mv27_σ_14 smσ_14 nrσ_14; omega) | omega))
            have kzσ_14 : ∀ j, 0 ≤ j → j < 3720 → j ≠ 654 → m_c X σ_14 a j = m_c X σ a j := fun j h0 h1 h2 => by rw [mcσ_14 j h0, if_neg (by omega)]; exact kpσ_12 j h0 h1
            refine lv_aload_n hx hb dX12_round_68 rfl (lv_at hl 0 rfl) ?_
            refine gs_X12_35_12 E hI ha dX12_round_69 ?_
            refine lv_sipush (v := 655) hx hb dX12_round_72 zks_655 ?_
            refine lv_aload_n hx hb dX12_round_75 rfl (lv_at hl 0 rfl) ?_
            refine gs_X12_267_12 E hI ha dX12_round_76 ?_
            refine lv_topi (fun f_16 ef_16 => ?_)
            replace hF := q_letX hF ef_16
            have if_16 : f_16.toInt = (σ_14.1 a 27).toInt := congrArg Int32.toInt ef_16
            refine q_iastN E hI (q_tk (k' := 34) hI ha rfl (Nat.succ_ne_zero _)) ⟨by decide, rfl⟩ (by decide) (by rw [q_lnk (v := 4650) hI (q_tk (k' := 34) hI ha rfl (Nat.succ_ne_zero _)) rfl (by decide)]; decide) (show 0 < 2 by decide) (q_inU rfl) dX12_round_79 (fun H locs σ_17 hσ_17 hI => ?_)
            replace hF := q_letX hF hσ_17
            have fr_σ_17 := fr_σ_14.si hσ_17 (q_tk (k' := 34) hI ha rfl (Nat.succ_ne_zero _)) rfl
            have mv9_σ_17 : (σ_17.1 a 9).toInt = (σ_14.1 a 9).toInt := congrArg Int32.toInt (q_rdn hσ_17 (Or.inl (m_ne ha (q_tk (k' := 34) hI ha rfl (Nat.succ_ne_zero _)) (by decide))))
            have mv12_σ_17 : (σ_17.1 a 12).toInt = (σ_14.1 a 12).toInt := congrArg Int32.toInt (q_rdn hσ_17 (Or.inl (m_ne ha (q_tk (k' := 34) hI ha rfl (Nat.succ_ne_zero _)) (by decide))))
            have mv14_σ_17 : (σ_17.1 a 14).toInt = (σ_14.1 a 14).toInt := congrArg Int32.toInt (q_rdn hσ_17 (Or.inl (m_ne ha (q_tk (k' := 34) hI ha rfl (Nat.succ_ne_zero _)) (by decide))))
            have mv15_σ_17 : (σ_17.1 a 15).toInt = (σ_14.1 a 15).toInt := congrArg Int32.toInt (q_rdn hσ_17 (Or.inl (m_ne ha (q_tk (k' := 34) hI ha rfl (Nat.succ_ne_zero _)) (by decide))))
            have mv16_σ_17 : (σ_17.1 a 16).toInt = (σ_14.1 a 16).toInt := congrArg Int32.toInt (q_rdn hσ_17 (Or.inl (m_ne ha (q_tk (k' := 34) hI ha rfl (Nat.succ_ne_zero _)) (by decide))))
            have mv8_σ_17 : (σ_17.1 a 8).toInt = (σ_14.1 a 8).toInt := congrArg Int32.toInt (q_rdn hσ_17 (Or.inl (m_ne ha (q_tk (k' := 34) hI ha rfl (Nat.succ_ne_zero _)) (by decide))))
            have mv27_σ_17 : (σ_17.1 a 27).toInt = (σ_14.1 a 27).toInt := congrArg Int32.toInt (q_rdn hσ_17 (Or.inl (m_ne ha (q_tk (k' := 34) hI ha rfl (Nat.succ_ne_zero _)) (by decide))))
            have ks_σ_17 : q_KS (fun b g => b = a ∧ 8 ≤ g ∧ g ≤ 18) 1 X σ σ_17 := ks_σ_14.si hσ_17 (q_tk (k' := 34) hI ha rfl (Nat.succ_ne_zero _)) (show 1 < 2 by decide)
            have mcσ_17 := m_wr (v := f_16) (A := 655) hσ_17 (by decide) (by decide)
            have smσ_17 : 0 ≤ (σ_17.1 a 15).toInt ∧ (σ_17.1 a 15).toInt ≤ (σ_17.1 a 16).toInt ∧ (σ_17.1 a 16).toInt ≤ (σ_17.1 a 9).toInt ∧ (σ_17.1 a 9).toInt ≤ 900 ∧ 0 ≤ (σ_17.1 a 14).toInt ∧ (σ_17.1 a 14).toInt ≤ 4 ∧ (σ_17.1 a 14).toInt ≤ 4 * ((σ_17.1 a 16).toInt - (σ_17.1 a 15).toInt) ∧ (σ_17.1 a 14).toInt ≤ 4 * ((σ_17.1 a 9).toInt - (σ_17.1 a 15).toInt) ∧ 0 ≤ (σ_17.1 a 12).toInt ∧ (σ_17.1 a 8).toInt = 0 := (by first | (rw [mv12_σ_17, mv14_σ_17, mv15_σ_17, mv16_σ_17, mv8_σ_17, mv9_σ_17]; exact smσ_14) | omega)
            obtain ⟨cA, hA⟩ : ∃ f : Int → Int, f = m_c X σ_14 a := ⟨_, rfl⟩
            obtain ⟨cB, hB⟩ : ∃ f : Int → Int, f = m_c X σ_17 a := ⟨_, rfl⟩
            obtain ⟨nB, hnB⟩ : ∃ y : Int, y = (σ_14.1 a 27).toInt := ⟨_, rfl⟩
            have bN : 0 ≤ nB ∧ nB ≤ 30 := by omega
            have vN : (f_16).toInt = nB := by omega
            have e1 : ∀ j : Int, 0 ≤ j → cB j = if j = 655 then nB else cA j := by rw [hA, hB, ← vN]; exact mcσ_17
            have gA : m_G cA := by rw [hA]; exact gσ_14
            have sA : m_rs cA nB := by rw [hA, hnB]; exact stσ_14 (by first | (clear hn mv9_σ_1 mv12_σ_1 mv14_σ_1 mv15_σ_1 mv16_σ_1 mv8_σ_1 mv27_σ_1 mv9_σ_2 mv12_σ_2 mv14_σ_2 mv15_σ_2 mv16_σ_2 mv8_σ_2 mv27_σ_2 kc_3 ahpσ_5 bhpσ_5 ehpσ_5 fhpσ_5 c_6 sv hm28 smσ_8 nrσ_8 ahpσ_12 chpσ_12 dhpσ_12 mv9_σ_12 mv14_σ_12 mv15_σ_12 mv16_σ_12 mv8_σ_12 mv27_σ_12 smσ_12 nrσ_12 c_13 kc_15 mv9_σ_14 mv14_σ_14 mv15_σ_14 mv16_σ_14 mv8_σ_14 mv27_σ_14 smσ_14 nrσ_14 gσ_14 kzσ_14 if_16 mv9_σ_17 mv12_σ_17 mv14_σ_17 mv15_σ_17 mv16_σ_17 mv8_σ_17 mv27_σ_17 smσ_17 hnB; omega) | omega)
            have kA : ∀ j, 0 ≤ j → j < 3720 → j ≠ 654 → cA j = m_c X σ a j := by rw [hA]; exact kzσ_14
            refine lv_iconst (v := 0) hx hb dX12_round_80 zki_0 ?_
            refine lv_istore_n (lv' := [(2, .int 0), (0, .ref a), (1, .int v1)]) hx hb dX12_round_81 rfl hl (by decide) rfl (fun ls hl => ?_)
            have L_82_20 : ∀ (k_20 : Nat) (x_18 : Int32) (σ_19 : ST) (H : Heap) (locs : List Loc) (ls : Array Slot), (2147483647 - x_18.toInt).toNat < k_20 → (0 ≤ x_18.toInt ∧ x_18.toInt ≤ 9 * nB) → ((σ_19.1 a 27).toInt = nB) → (∀ j : Int, 0 ≤ j → m_c X σ_19 a j = if 656 ≤ j ∧ j < 656 + x_18.toInt then cB (4376 + (j - 656)) else cB j) → (q_KS (fun b g => b = a ∧ 8 ≤ g ∧ g ≤ 18) 1 X σ σ_19) → (q_ow [(12, 0), (12, 1), (12, 8), (12, 9), (12, 10), (12, 11), (12, 12), (12, 13), (12, 14), (12, 15), (12, 16), (12, 17), (12, 18), (12, 27), (34, 99)] [(12, 19)] X σ σ_19) → (0 ≤ (σ_19.1 a 15).toInt ∧ (σ_19.1 a 15).toInt ≤ (σ_19.1 a 16).toInt ∧ (σ_19.1 a 16).toInt ≤ (σ_19.1 a 9).toInt ∧ (σ_19.1 a 9).toInt ≤ 900 ∧ 0 ≤ (σ_19.1 a 14).toInt ∧ (σ_19.1 a 14).toInt ≤ 4 ∧ (σ_19.1 a 14).toInt ≤ 4 * ((σ_19.1 a 16).toInt - (σ_19.1 a 15).toInt) ∧ (σ_19.1 a 14).toInt ≤ 4 * ((σ_19.1 a 9).toInt - (σ_19.1 a 15).toInt) ∧ 0 ≤ (σ_19.1 a 12).toInt ∧ (σ_19.1 a 8).toInt = 0) → (F_X12_round_L82_3 X a k_20 x_18 σ_19 = out) → q_I X 0 σ s.heap locs σ_19 H → lv_has ls 3 [(0, .ref a), (1, .int v1), (2, .int x_18)] → W p l e (q_rm 13 293) s m ([.ref a, .int v1] : List Value).toArray below meth c H locs 0 0 (MQ below QQ ([.ref a, .int v1] : List Value).toArray s 0 0 (q_reg X)) (F0 m 82 ls []) := by
              clear hF
              intro k_20
              induction k_20 with
              | zero =>
                intro x_18 σ_19 H locs ls hms
                try clear stσ_8; try clear fr_σ_8; try clear kpσ_8; try clear smσ_8; try clear nrσ_8; try clear fr_σ_14; try clear mv9_σ_14; try clear mv12_σ_14; try clear mv14_σ_14; try clear mv15_σ_14; try clear mv16_σ_14; try clear mv8_σ_14; try clear mv27_σ_14; try clear mcσ_14; try clear smσ_14; try clear nrσ_14; try clear stσ_14; try clear kzσ_14; try clear fr_σ_17; try clear mv9_σ_17; try clear mv12_σ_17; try clear mv14_σ_17; try clear mv15_σ_17; try clear mv16_σ_17; try clear mv8_σ_17; try clear mv27_σ_17; try clear mcσ_17; try clear smσ_17
                exact absurd hms (Nat.not_lt_zero _)
              | succ k_20 ih82 =>
                intro x_18 σ_19 H locs ls hm82 hge82 hn82 cpσ_19 ks_σ_19 fr_σ_19 smσ_19 hF hI hl
                replace hF := (F_X12_round_L82_3_s).symm.trans hF
                unfold F_X12_round_B82_3 at hF
                refine lv_iload_n hx hb dX12_round_82 rfl (lv_at hl 2 rfl) ?_
                refine lv_bipush (v := 9) hx hb dX12_round_83 zkb_9 ?_
                refine lv_aload_n hx hb dX12_round_85 rfl (lv_at hl 0 rfl) ?_
                refine gs_X12_267_12 E hI ha dX12_round_86 ?_
                refine lv_topi (fun f_21 ef_21 => ?_)
                replace hF := q_letX hF ef_21
                have if_21 : f_21.toInt = (σ_19.1 a 27).toInt := congrArg Int32.toInt ef_21
                refine lv_imul hx hb dX12_round_89 ?_
                refine lv_topi (fun z_22 ez_22 => ?_)
                replace hF := q_letX hF ez_22
                have iz_22 := q_mulI (A := 9) (B := f_21.toInt) ez_22 (by decide) rfl (by first | (clear hn mv9_σ_1 mv12_σ_1 mv14_σ_1 mv15_σ_1 mv16_σ_1 mv8_σ_1 mv27_σ_1 mv9_σ_2 mv12_σ_2 mv14_σ_2 mv15_σ_2 mv16_σ_2 mv8_σ_2 mv27_σ_2 kc_3 ahpσ_5 bhpσ_5 ehpσ_5 fhpσ_5 c_6 sv hm28 if_10 ahpσ_12 chpσ_12 dhpσ_12 mv9_σ_12 mv12_σ_12 mv14_σ_12 mv15_σ_12 mv16_σ_12 mv8_σ_12 smσ_12 nrσ_12 c_13 bhpσ_12 kc_15 gσ_14 hm82 hge82 smσ_19; omega) | omega) (by first | (clear hn mv9_σ_1 mv12_σ_1 mv14_σ_1 mv15_σ_1 mv16_σ_1 mv8_σ_1 mv27_σ_1 mv9_σ_2 mv12_σ_2 mv14_σ_2 mv15_σ_2 mv16_σ_2 mv8_σ_2 mv27_σ_2 kc_3 ahpσ_5 bhpσ_5 ehpσ_5 fhpσ_5 c_6 sv hm28 if_10 ahpσ_12 chpσ_12 dhpσ_12 mv9_σ_12 mv12_σ_12 mv14_σ_12 mv15_σ_12 mv16_σ_12 mv8_σ_12 smσ_12 nrσ_12 c_13 bhpσ_12 kc_15 gσ_14 hm82 hge82 smσ_19; omega) | omega)
                have gc_23_x_18 := q_rng x_18
                have gc_23_z_22 := q_rng z_22
                refine q_icmp_ge (A := x_18.toInt) (B := z_22.toInt) E rfl rfl (tgt := 119) dX12_round_90 (by decide) (fun c_23 => ?_) (fun c_23 => ?_)
                · skip
                  replace hF := q_ifn hF (Int.not_lt.mpr c_23)
                  unfold F_X12_round_E119_4 at hF
                  have rd := m_rd_done cpσ_19 e1 (by first | (clear hn mv9_σ_1 mv12_σ_1 mv14_σ_1 mv15_σ_1 mv16_σ_1 mv8_σ_1 mv27_σ_1 mv9_σ_2 mv12_σ_2 mv14_σ_2 mv15_σ_2 mv16_σ_2 mv8_σ_2 mv27_σ_2 kc_3 ahpσ_5 bhpσ_5 ehpσ_5 fhpσ_5 c_6 sv hm28 if_10 ahpσ_12 chpσ_12 dhpσ_12 mv9_σ_12 mv12_σ_12 mv14_σ_12 mv15_σ_12 mv16_σ_12 mv8_σ_12 mv27_σ_12 smσ_12 nrσ_12 c_13 bhpσ_12 kc_15 gσ_14 if_16 hnB hm82 smσ_19 gc_23_x_18 gc_23_z_22; omega) | omega)
                  have kf : ∀ j, 0 ≤ j → j < 3720 → j < 654 ∨ 930 ≤ j → m_c X σ_19 a j = m_c X σ a j := fun j h0 h1 h2 => by rw [rd j h0, if_neg (by first | (clear hn mv9_σ_1 mv12_σ_1 mv14_σ_1 mv15_σ_1 mv16_σ_1 mv8_σ_1 mv27_σ_1 mv9_σ_2 mv12_σ_2 mv14_σ_2 mv15_σ_2 mv16_σ_2 mv8_σ_2 mv27_σ_2 kc_3 ahpσ_5 bhpσ_5 ehpσ_5 fhpσ_5 c_6 sv hm28 if_10 ahpσ_12 chpσ_12 dhpσ_12 mv9_σ_12 mv12_σ_12 mv14_σ_12 mv15_σ_12 mv16_σ_12 mv8_σ_12 smσ_12 nrσ_12 c_13 bhpσ_12 kc_15 gσ_14 hm82 hge82 smσ_19 iz_22 gc_23_x_18 gc_23_z_22 c_23; omega) | omega), if_neg (by first | (clear hn mv9_σ_1 mv12_σ_1 mv14_σ_1 mv15_σ_1 mv16_σ_1 mv8_σ_1 mv27_σ_1 mv9_σ_2 mv12_σ_2 mv14_σ_2 mv15_σ_2 mv16_σ_2 mv8_σ_2 mv27_σ_2 kc_3 ahpσ_5 bhpσ_5 ehpσ_5 fhpσ_5 c_6 sv hm28 if_10 ahpσ_12 chpσ_12 dhpσ_12 mv9_σ_12 mv12_σ_12 mv14_σ_12 mv15_σ_12 mv16_σ_12 mv8_σ_12 mv27_σ_12 smσ_12 nrσ_12 c_13 bhpσ_12 kc_15 gσ_14 if_16 hnB hm82 hge82 hn82 smσ_19 if_21 iz_22 gc_23_x_18 gc_23_z_22 c_23; omega) | omega)]; exact kA j h0 h1 (by first | (clear hn mv9_σ_1 mv12_σ_1 mv14_σ_1 mv15_σ_1 mv16_σ_1 mv8_σ_1 mv27_σ_1 mv9_σ_2 mv12_σ_2 mv14_σ_2 mv15_σ_2 mv16_σ_2 mv8_σ_2 mv27_σ_2 kc_3 ahpσ_5 bhpσ_5 ehpσ_5 fhpσ_5 c_6 sv hm28 if_10 ahpσ_12 chpσ_12 dhpσ_12 mv9_σ_12 mv12_σ_12 mv14_σ_12 mv15_σ_12 mv16_σ_12 mv8_σ_12 mv27_σ_12 smσ_12 nrσ_12 c_13 bhpσ_12 kc_15 gσ_14 if_16 hnB hm82 hge82 hn82 smσ_19 if_21 iz_22 gc_23_x_18 gc_23_z_22 c_23; omega) | omega)
                  refine lv_aload_n hx hb dX12_round_119 rfl (lv_at hl 0 rfl) ?_
                  refine gs_X12_267_12 E hI ha dX12_round_120 ?_
                  refine lv_topi (fun f_24 ef_24 => ?_)
                  replace hF := q_letX hF ef_24
                  have if_24 : f_24.toInt = (σ_19.1 a 27).toInt := congrArg Int32.toInt ef_24
                  rewrite [hQQ]; exact q_reti E hr hlk hI ⟨ks_σ_19, (m_G.round gA sA bN rd), (m_W.ext (fun j a b => kf j (by first | exact smσ_19 | omega) (by first | exact smσ_19 | omega) (by first | exact smσ_19 | omega)) hW), (fun j a b => kf j (by first | exact smσ_19 | omega) b (by first | exact smσ_19 | omega)), (by first | exact smσ_19 | omega), (by first | exact smσ_19 | omega), (hF.trans hout), fr_σ_19⟩ dX12_round_123
                · skip
                  replace hF := q_ifp hF c_23
                  refine lv_aload_n hx hb dX12_round_93 rfl (lv_at hl 0 rfl) ?_
                  refine gs_X12_35_12 E hI ha dX12_round_94 ?_
                  refine lv_sipush (v := 656) hx hb dX12_round_97 zks_656 ?_
                  refine lv_iload_n hx hb dX12_round_100 rfl (lv_at hl 2 rfl) ?_
                  refine lv_iadd hx hb dX12_round_101 ?_
                  refine lv_topi (fun z_25 ez_25 => ?_)
                  replace hF := q_letX hF ez_25
                  have iz_25 := q_addI (A := 656) (B := x_18.toInt) ez_25 (by decide) rfl (by first | (clear hn mv9_σ_1 mv12_σ_1 mv14_σ_1 mv15_σ_1 mv16_σ_1 mv8_σ_1 mv27_σ_1 mv9_σ_2 mv12_σ_2 mv14_σ_2 mv15_σ_2 mv16_σ_2 mv8_σ_2 mv27_σ_2 kc_3 ahpσ_5 bhpσ_5 ehpσ_5 fhpσ_5 c_6 sv hm28 if_10 ahpσ_12 chpσ_12 dhpσ_12 mv9_σ_12 mv12_σ_12 mv14_σ_12 mv15_σ_12 mv16_σ_12 mv8_σ_12 mv27_σ_12 smσ_12 nrσ_12 c_13 bhpσ_12 kc_15 gσ_14 if_16 hnB hm82 hn82 smσ_19 if_21 iz_22 gc_23_z_22 c_23; omega) | omega) (by first | (clear hn mv9_σ_1 mv12_σ_1 mv14_σ_1 mv15_σ_1 mv16_σ_1 mv8_σ_1 mv27_σ_1 mv9_σ_2 mv12_σ_2 mv14_σ_2 mv15_σ_2 mv16_σ_2 mv8_σ_2 mv27_σ_2 kc_3 ahpσ_5 bhpσ_5 ehpσ_5 fhpσ_5 c_6 sv hm28 if_10 ahpσ_12 chpσ_12 dhpσ_12 mv9_σ_12 mv12_σ_12 mv14_σ_12 mv15_σ_12 mv16_σ_12 mv8_σ_12 smσ_12 nrσ_12 c_13 bhpσ_12 kc_15 gσ_14 hm82 smσ_19 iz_22 gc_23_z_22 c_23; omega) | omega)
                  refine lv_aload_n hx hb dX12_round_102 rfl (lv_at hl 0 rfl) ?_
                  refine gs_X12_35_12 E hI ha dX12_round_103 ?_
                  refine lv_sipush (v := 4376) hx hb dX12_round_106 zks_4376 ?_
                  refine lv_iload_n hx hb dX12_round_109 rfl (lv_at hl 2 rfl) ?_
                  refine lv_iadd hx hb dX12_round_110 ?_
                  refine lv_topi (fun z_26 ez_26 => ?_)
                  replace hF := q_letX hF ez_26
                  have iz_26 := q_addI (A := 4376) (B := x_18.toInt) ez_26 (by decide) rfl (by first | (clear hn mv9_σ_1 mv12_σ_1 mv14_σ_1 mv15_σ_1 mv16_σ_1 mv8_σ_1 mv27_σ_1 mv9_σ_2 mv12_σ_2 mv14_σ_2 mv15_σ_2 mv16_σ_2 mv8_σ_2 mv27_σ_2 kc_3 ahpσ_5 bhpσ_5 ehpσ_5 fhpσ_5 c_6 sv hm28 if_10 ahpσ_12 chpσ_12 dhpσ_12 mv9_σ_12 mv12_σ_12 mv14_σ_12 mv15_σ_12 mv16_σ_12 mv8_σ_12 mv27_σ_12 smσ_12 nrσ_12 c_13 bhpσ_12 kc_15 gσ_14 if_16 hnB hm82 hn82 smσ_19 if_21 iz_22 gc_23_z_22 c_23; omega) | omega) (by first | (clear hn mv9_σ_1 mv12_σ_1 mv14_σ_1 mv15_σ_1 mv16_σ_1 mv8_σ_1 mv27_σ_1 mv9_σ_2 mv12_σ_2 mv14_σ_2 mv15_σ_2 mv16_σ_2 mv8_σ_2 mv27_σ_2 kc_3 ahpσ_5 bhpσ_5 ehpσ_5 fhpσ_5 c_6 sv hm28 if_10 ahpσ_12 chpσ_12 dhpσ_12 mv9_σ_12 mv12_σ_12 mv14_σ_12 mv15_σ_12 mv16_σ_12 mv8_σ_12 smσ_12 nrσ_12 c_13 bhpσ_12 kc_15 gσ_14 hm82 smσ_19 gc_23_z_22; omega) | omega)
                  refine q_iald E hI (q_tk (k' := 34) hI ha rfl (Nat.succ_ne_zero _)) ⟨by decide, rfl⟩ (by first | (clear hn mv9_σ_1 mv12_σ_1 mv14_σ_1 mv15_σ_1 mv16_σ_1 mv8_σ_1 mv27_σ_1 mv9_σ_2 mv12_σ_2 mv14_σ_2 mv15_σ_2 mv16_σ_2 mv8_σ_2 mv27_σ_2 kc_3 ahpσ_5 bhpσ_5 ehpσ_5 fhpσ_5 c_6 sv hm28 if_10 ahpσ_12 chpσ_12 dhpσ_12 mv9_σ_12 mv12_σ_12 mv14_σ_12 mv15_σ_12 mv16_σ_12 mv8_σ_12 mv27_σ_12 smσ_12 nrσ_12 c_13 bhpσ_12 kc_15 gσ_14 if_16 hnB hm82 hn82 smσ_19 if_21 iz_22 gc_23_z_22 c_23; omega) | omega) (by rw [q_lnk (v := 4650) hI (q_tk (k' := 34) hI ha rfl (Nat.succ_ne_zero _)) rfl (by decide)]; omega) dX12_round_111 ?_
                  refine lv_topi (fun f_27 ef_27 => ?_)
                  replace hF := q_letX hF ef_27
                  have if_27 : f_27.toInt = m_c X σ_19 a (4376 + x_18.toInt) := m_rd ef_27 iz_26
                  refine q_iastN E hI (q_tk (k' := 34) hI ha rfl (Nat.succ_ne_zero _)) ⟨by decide, rfl⟩ (by first | (clear hn mv9_σ_1 mv12_σ_1 mv14_σ_1 mv15_σ_1 mv16_σ_1 mv8_σ_1 mv27_σ_1 mv9_σ_2 mv12_σ_2 mv14_σ_2 mv15_σ_2 mv16_σ_2 mv8_σ_2 mv27_σ_2 kc_3 ahpσ_5 bhpσ_5 ehpσ_5 fhpσ_5 c_6 sv hm28 if_10 ahpσ_12 chpσ_12 dhpσ_12 mv9_σ_12 mv12_σ_12 mv14_σ_12 mv15_σ_12 mv16_σ_12 mv8_σ_12 mv27_σ_12 smσ_12 nrσ_12 c_13 bhpσ_12 kc_15 gσ_14 if_16 hnB hm82 hn82 smσ_19 if_21 iz_22 gc_23_z_22 c_23 if_27; omega) | omega) (by rw [q_lnk (v := 4650) hI (q_tk (k' := 34) hI ha rfl (Nat.succ_ne_zero _)) rfl (by decide)]; omega) (show 0 < 2 by decide) (q_inU rfl) dX12_round_112 (fun H locs σ_28 hσ_28 hI => ?_)
                  replace hF := q_letX hF hσ_28
                  have fr_σ_28 := fr_σ_19.si hσ_28 (q_tk (k' := 34) hI ha rfl (Nat.succ_ne_zero _)) rfl
                  have mv9_σ_28 : (σ_28.1 a 9).toInt = (σ_19.1 a 9).toInt := congrArg Int32.toInt (q_rdn hσ_28 (Or.inl (m_ne ha (q_tk (k' := 34) hI ha rfl (Nat.succ_ne_zero _)) (by decide))))
                  have mv12_σ_28 : (σ_28.1 a 12).toInt = (σ_19.1 a 12).toInt := congrArg Int32.toInt (q_rdn hσ_28 (Or.inl (m_ne ha (q_tk (k' := 34) hI ha rfl (Nat.succ_ne_zero _)) (by decide))))
                  have mv14_σ_28 : (σ_28.1 a 14).toInt = (σ_19.1 a 14).toInt := congrArg Int32.toInt (q_rdn hσ_28 (Or.inl (m_ne ha (q_tk (k' := 34) hI ha rfl (Nat.succ_ne_zero _)) (by decide))))
                  have mv15_σ_28 : (σ_28.1 a 15).toInt = (σ_19.1 a 15).toInt := congrArg Int32.toInt (q_rdn hσ_28 (Or.inl (m_ne ha (q_tk (k' := 34) hI ha rfl (Nat.succ_ne_zero _)) (by decide))))
                  have mv16_σ_28 : (σ_28.1 a 16).toInt = (σ_19.1 a 16).toInt := congrArg Int32.toInt (q_rdn hσ_28 (Or.inl (m_ne ha (q_tk (k' := 34) hI ha rfl (Nat.succ_ne_zero _)) (by decide))))
                  have mv8_σ_28 : (σ_28.1 a 8).toInt = (σ_19.1 a 8).toInt := congrArg Int32.toInt (q_rdn hσ_28 (Or.inl (m_ne ha (q_tk (k' := 34) hI ha rfl (Nat.succ_ne_zero _)) (by decide))))
                  have mv27_σ_28 : (σ_28.1 a 27).toInt = (σ_19.1 a 27).toInt := congrArg Int32.toInt (q_rdn hσ_28 (Or.inl (m_ne ha (q_tk (k' := 34) hI ha rfl (Nat.succ_ne_zero _)) (by decide))))
                  have ks_σ_28 : q_KS (fun b g => b = a ∧ 8 ≤ g ∧ g ≤ 18) 1 X σ σ_28 := ks_σ_19.si hσ_28 (q_tk (k' := 34) hI ha rfl (Nat.succ_ne_zero _)) (show 1 < 2 by decide)
                  have mcσ_28 := m_wr (v := f_27) (A := (656 + x_18.toInt)) hσ_28 iz_25 (by first | (clear hn mv9_σ_1 mv12_σ_1 mv14_σ_1 mv15_σ_1 mv16_σ_1 mv8_σ_1 mv27_σ_1 mv9_σ_2 mv12_σ_2 mv14_σ_2 mv15_σ_2 mv16_σ_2 mv8_σ_2 mv27_σ_2 kc_3 ahpσ_5 bhpσ_5 ehpσ_5 fhpσ_5 c_6 sv hm28 if_10 ahpσ_12 chpσ_12 dhpσ_12 mv9_σ_12 mv12_σ_12 mv14_σ_12 mv15_σ_12 mv16_σ_12 mv8_σ_12 mv27_σ_12 smσ_12 nrσ_12 c_13 bhpσ_12 kc_15 gσ_14 if_16 hnB hm82 hn82 smσ_19 if_21 iz_22 gc_23_z_22 c_23 if_27 mv9_σ_28 mv12_σ_28 mv14_σ_28 mv15_σ_28 mv16_σ_28 mv8_σ_28 mv27_σ_28; omega) | omega)
                  have smσ_28 : 0 ≤ (σ_28.1 a 15).toInt ∧ (σ_28.1 a 15).toInt ≤ (σ_28.1 a 16).toInt ∧ (σ_28.1 a 16).toInt ≤ (σ_28.1 a 9).toInt ∧ (σ_28.1 a 9).toInt ≤ 900 ∧ 0 ≤ (σ_28.1 a 14).toInt ∧ (σ_28.1 a 14).toInt ≤ 4 ∧ (σ_28.1 a 14).toInt ≤ 4 * ((σ_28.1 a 16).toInt - (σ_28.1 a 15).toInt) ∧ (σ_28.1 a 14).toInt ≤ 4 * ((σ_28.1 a 9).toInt - (σ_28.1 a 15).toInt) ∧ 0 ≤ (σ_28.1 a 12).toInt ∧ (σ_28.1 a 8).toInt = 0 := (by first | (rw [mv12_σ_28, mv14_σ_28, mv15_σ_28, mv16_σ_28, mv8_σ_28, mv9_σ_28]; exact smσ_19) | omega)
                  have cpσ_28 := m_cpy (D := 656) (B := 4376) (n := 270) cpσ_19 mcσ_28 if_27 (by first | (clear hn mv9_σ_1 mv12_σ_1 mv14_σ_1 mv15_σ_1 mv16_σ_1 mv8_σ_1 mv27_σ_1 mv9_σ_2 mv12_σ_2 mv14_σ_2 mv15_σ_2 mv16_σ_2 mv8_σ_2 mv27_σ_2 kc_3 ahpσ_5 bhpσ_5 ehpσ_5 fhpσ_5 c_6 sv hm28 if_10 ahpσ_12 chpσ_12 dhpσ_12 mv9_σ_12 mv12_σ_12 mv14_σ_12 mv15_σ_12 mv16_σ_12 mv8_σ_12 smσ_12 nrσ_12 c_13 bhpσ_12 kc_15 gσ_14 hm82 smσ_19 gc_23_z_22 if_27 mv9_σ_28 mv12_σ_28 mv14_σ_28 mv15_σ_28 mv16_σ_28 mv8_σ_28 smσ_28; omega) | omega) (by decide) (by decide)
                  obtain ⟨z_29, ez_29⟩ : ∃ y : Int32, y = x_18 + 1 := ⟨_, rfl⟩
                  replace hF := q_letX hF ez_29
                  refine lv_iinc (v := z_29) (lv' := [(2, .int z_29), (0, .ref a), (1, .int v1)]) hx hb dX12_round_113 hl (k := 2) rfl (by rw [ez_29]; rfl) (by decide) rfl (fun ls hl => ?_)
                  have iz_29 : z_29.toInt = x_18.toInt + 1 := q_inc ez_29 (by first | (clear hn mv9_σ_1 mv12_σ_1 mv14_σ_1 mv15_σ_1 mv16_σ_1 mv8_σ_1 mv27_σ_1 mv9_σ_2 mv12_σ_2 mv14_σ_2 mv15_σ_2 mv16_σ_2 mv8_σ_2 mv27_σ_2 kc_3 ahpσ_5 bhpσ_5 ehpσ_5 fhpσ_5 c_6 sv hm28 if_10 ahpσ_12 chpσ_12 dhpσ_12 mv9_σ_12 mv12_σ_12 mv14_σ_12 mv15_σ_12 mv16_σ_12 mv8_σ_12 smσ_12 nrσ_12 c_13 bhpσ_12 kc_15 gσ_14 hm82 smσ_19 gc_23_z_22 if_27 mv9_σ_28 mv12_σ_28 mv14_σ_28 mv15_σ_28 mv16_σ_28 mv8_σ_28 smσ_28; omega) | omega)
                  refine lv_goto (tgt := 82) hx hb dX12_round_116 (by decide) ?_
                  exact ih82 z_29 σ_28 _ _ ls (by first | (clear hn mv9_σ_1 mv12_σ_1 mv14_σ_1 mv15_σ_1 mv16_σ_1 mv8_σ_1 mv27_σ_1 mv9_σ_2 mv12_σ_2 mv14_σ_2 mv15_σ_2 mv16_σ_2 mv8_σ_2 mv27_σ_2 kc_3 ahpσ_5 bhpσ_5 ehpσ_5 fhpσ_5 c_6 sv hm28 if_10 ahpσ_12 chpσ_12 dhpσ_12 mv9_σ_12 mv12_σ_12 mv14_σ_12 mv15_σ_12 mv16_σ_12 mv8_σ_12 smσ_12 nrσ_12 c_13 bhpσ_12 kc_15 gσ_14 smσ_19 gc_23_z_22 if_27 mv9_σ_28 mv12_σ_28 mv14_σ_28 mv15_σ_28 mv16_σ_28 mv8_σ_28 smσ_28; omega) | omega) (by first | (clear hn mv9_σ_1 mv12_σ_1 mv14_σ_1 mv15_σ_1 mv16_σ_1 mv8_σ_1 mv27_σ_1 mv9_σ_2 mv12_σ_2 mv14_σ_2 mv15_σ_2 mv16_σ_2 mv8_σ_2 mv27_σ_2 kc_3 ahpσ_5 bhpσ_5 ehpσ_5 fhpσ_5 c_6 sv hm28 if_10 ahpσ_12 chpσ_12 dhpσ_12 mv9_σ_12 mv12_σ_12 mv14_σ_12 mv15_σ_12 mv16_σ_12 mv8_σ_12 mv27_σ_12 smσ_12 nrσ_12 c_13 bhpσ_12 kc_15 gσ_14 if_16 hnB hm82 smσ_19 gc_23_z_22 if_27 mv9_σ_28 mv12_σ_28 mv14_σ_28 mv15_σ_28 mv16_σ_28 mv8_σ_28 smσ_28; omega) | omega) (by first | (clear hn mv9_σ_1 mv12_σ_1 mv14_σ_1 mv15_σ_1 mv16_σ_1 mv8_σ_1 mv27_σ_1 mv9_σ_2 mv12_σ_2 mv14_σ_2 mv15_σ_2 mv16_σ_2 mv8_σ_2 mv27_σ_2 kc_3 ahpσ_5 bhpσ_5 ehpσ_5 fhpσ_5 c_6 sv hm28 if_10 ahpσ_12 chpσ_12 dhpσ_12 mv9_σ_12 mv12_σ_12 mv14_σ_12 mv15_σ_12 mv16_σ_12 mv8_σ_12 mv27_σ_12 smσ_12 nrσ_12 c_13 bhpσ_12 kc_15 gσ_14 if_16 hnB hm82 hge82 smσ_19 iz_22 gc_23_x_18 gc_23_z_22 c_23 iz_25 iz_26 if_27 mv9_σ_28 mv12_σ_28 mv14_σ_28 mv15_σ_28 mv16_σ_28 mv8_σ_28 smσ_28 iz_29; omega) | omega) (by rw [iz_29]; exact cpσ_28) ks_σ_28 fr_σ_28 smσ_28 hF hI (lv_sub hl [1, 2, 0] rfl)
            have kc_30 : (0 : Int32).toInt = 0 := zt_0
            exact L_82_20 ((2147483647 - (0 : Int32).toInt).toNat + 1) 0 σ_17 _ _ ls (Nat.lt_succ_self _) (by have q : (0 : Int32).toInt = 0 := rfl; omega) (by first | (clear hn mv9_σ_1 mv12_σ_1 mv14_σ_1 mv15_σ_1 mv16_σ_1 mv8_σ_1 mv27_σ_1 mv9_σ_2 mv12_σ_2 mv14_σ_2 mv15_σ_2 mv16_σ_2 mv8_σ_2 mv27_σ_2 kc_3 ahpσ_5 bhpσ_5 ehpσ_5 fhpσ_5 c_6 sv hm28 if_10 ahpσ_12 chpσ_12 dhpσ_12 mv9_σ_12 mv12_σ_12 mv14_σ_12 mv15_σ_12 mv16_σ_12 mv8_σ_12 mv27_σ_12 smσ_12 nrσ_12 c_13 bhpσ_12 kc_15 gσ_14 kc_30; omega) | omega) (fun j hj => by rw [if_neg (by have q : (0 : Int32).toInt = 0 := rfl; omega), hB]) ks_σ_17 fr_σ_17 smσ_17 hF hI (lv_sub hl [1, 2, 0] rfl)
          · skip
            replace hF := q_ifp hF c_13
            clear bhpσ_12
            refine lv_iconst (v := (-1)) hx hb dX12_round_57 zki_m1 ?_
            have hrv : ((-1) : Int32).toInt = (-1) := zt_m1
            rewrite [hQQ]; exact q_reti E hr hlk hI ⟨ks_σ_12, (m_G.ext (fun j a b => kpσ_12 j a (by first | exact smσ_12 | omega)) hG), (m_W.ext (fun j a b => kpσ_12 j (by first | exact smσ_12 | omega) (by first | exact smσ_12 | omega)) hW), (fun j a b => kpσ_12 j (by first | exact smσ_12 | omega) b), (by first | exact smσ_12 | omega), (by first | exact smσ_12 | omega), (hF.trans hout), fr_σ_12⟩ dX12_round_58
        refine q_if_ne (A := f_10.toInt) E rfl (tgt := 50) dX12_round_32 (by decide) (fun c_31 => ?_) (fun c_31 => ?_)
        · skip
          replace hF := q_ifn hF c_31
          exact J_50_10 _ _ ls hF hI (lv_sub hl [0, 1] rfl)
        · skip
          replace hF := q_ifp hF c_31
          refine lv_aload_n hx hb dX12_round_35 rfl (lv_at hl 0 rfl) ?_
          refine gs_X12_110_12 E hI ha dX12_round_36 ?_
          refine lv_topi (fun f_32 ef_32 => ?_)
          replace hF := q_letX hF ef_32
          have if_32 : f_32.toInt = (σ_8.1 a 14).toInt := congrArg Int32.toInt ef_32
          refine q_if_eq (A := f_32.toInt) E rfl (tgt := 50) dX12_round_39 (by decide) (fun c_33 => ?_) (fun c_33 => ?_)
          · skip
            replace hF := q_ifp hF c_33
            exact J_50_10 _ _ ls hF hI (lv_sub hl [0, 1] rfl)
          · skip
            replace hF := q_ifn hF c_33
            refine lv_aload_n hx hb dX12_round_42 rfl (lv_at hl 0 rfl) ?_
            refine lv_iconst (v := 0) hx hb dX12_round_43 zki_0 ?_
            have kc_34 : (0 : Int32).toInt = 0 := zt_0
            refine q_cv (q_rV11_1 (rest := []) E (hml.trans hl.1.symm) hI (c_X12_readStep_d3 l X σ_8 a (0 : Int32) ha (by first | exact sm_9 smσ_8 | exact hs | omega) (by first | (clear hn mv9_σ_1 mv12_σ_1 mv14_σ_1 mv15_σ_1 mv16_σ_1 mv8_σ_1 mv27_σ_1 mv9_σ_2 mv12_σ_2 mv14_σ_2 mv15_σ_2 mv16_σ_2 mv8_σ_2 mv27_σ_2 kc_3 ahpσ_5 bhpσ_5 ehpσ_5 fhpσ_5 c_6 sv hm28 if_32 c_33 kc_34; omega) | omega) (by rw [kpσ_8 2 (by decide) (by decide)]; exact hG.hd.2.1.2) (by omega) (by decide)) kv_X12_273 ha ⟨Nat.le_of_ble_eq_true rfl, Nat.le_of_ble_eq_true rfl⟩ (Nat.le_of_ble_eq_true rfl) dX12_round_44) hI (Nat.le_of_ble_eq_true rfl) (fun σ_36 H locs hpσ_36 hkσ_36 hI => ?_)
            have ahpσ_36 := hpσ_36.1
            have bhpσ_36 := hpσ_36.2.1
            have chpσ_36 := hpσ_36.2.2.1
            have dhpσ_36 := hpσ_36.2.2.2.1
            have ehpσ_36 := hpσ_36.2.2.2.2.1
            have fhpσ_36 := hpσ_36.2.2.2.2.2.1
            have ghpσ_36 := hpσ_36.2.2.2.2.2.2
            clear hpσ_36
            have fr_σ_36 := fr_σ_8.call ghpσ_36 rfl rfl
            replace hF := q_letX hF fhpσ_36
            have mv8_σ_36 : (σ_36.1 a 8).toInt = (σ_8.1 a 8).toInt := congrArg Int32.toInt (hkσ_36 a 8 (by rw [ha]; decide))
            have kpσ_36 : ∀ j, 0 ≤ j → j < 3720 → m_c X σ_36 a j = m_c X σ a j := (fun j h0 h1 => (ahpσ_36 j h0 (by first | (clear hn mv9_σ_1 mv12_σ_1 mv14_σ_1 mv15_σ_1 mv16_σ_1 mv8_σ_1 mv27_σ_1 mv9_σ_2 mv12_σ_2 mv14_σ_2 mv15_σ_2 mv16_σ_2 mv8_σ_2 mv27_σ_2 kc_3 ahpσ_5 bhpσ_5 ehpσ_5 fhpσ_5 c_6 sv hm28 if_10 c_31 if_32 c_33 kc_34 ahpσ_36 bhpσ_36 chpσ_36 dhpσ_36 ehpσ_36 fhpσ_36 mv8_σ_36; omega) | omega)).trans (kpσ_8 j h0 h1))
            have smσ_36 : 0 ≤ (σ_36.1 a 15).toInt ∧ (σ_36.1 a 15).toInt ≤ (σ_36.1 a 16).toInt ∧ (σ_36.1 a 16).toInt ≤ (σ_36.1 a 9).toInt ∧ (σ_36.1 a 9).toInt ≤ 900 ∧ 0 ≤ (σ_36.1 a 14).toInt ∧ (σ_36.1 a 14).toInt ≤ 4 ∧ (σ_36.1 a 14).toInt ≤ 4 * ((σ_36.1 a 16).toInt - (σ_36.1 a 15).toInt) ∧ (σ_36.1 a 14).toInt ≤ 4 * ((σ_36.1 a 9).toInt - (σ_36.1 a 15).toInt) ∧ 0 ≤ (σ_36.1 a 12).toInt ∧ (σ_36.1 a 8).toInt = 0 := (by first | (clear hn mv9_σ_1 mv12_σ_1 mv14_σ_1 mv15_σ_1 mv16_σ_1 mv8_σ_1 mv27_σ_1 mv9_σ_2 mv12_σ_2 mv14_σ_2 mv15_σ_2 mv16_σ_2 mv8_σ_2 mv27_σ_2 kc_3 ahpσ_5 bhpσ_5 ehpσ_5 fhpσ_5 c_6 sv hm28 if_10 c_31 if_32 c_33 kc_34 ahpσ_36 chpσ_36 dhpσ_36 ehpσ_36 fhpσ_36; omega) | omega)
            have nrσ_36 : 0 ≤ (σ_36.1 a 27).toInt ∧ (σ_36.1 a 27).toInt ≤ 30 := (by first | (clear hn mv9_σ_1 mv12_σ_1 mv14_σ_1 mv15_σ_1 mv16_σ_1 mv8_σ_1 mv27_σ_1 mv9_σ_2 mv12_σ_2 mv14_σ_2 mv15_σ_2 mv16_σ_2 mv8_σ_2 mv27_σ_2 kc_3 ahpσ_5 bhpσ_5 ehpσ_5 fhpσ_5 c_6 sv hm28 if_10 c_31 if_32 c_33 kc_34 ahpσ_36 bhpσ_36 chpσ_36 ehpσ_36 fhpσ_36 mv8_σ_36 smσ_36; omega) | omega)
            have stσ_36 : m_oz (σ_36.1 a 12).toInt (m_rs (m_c X σ_36 a) (σ_36.1 a 27).toInt) := (fun e => m_rs.step (stσ_8 (by first | (clear hn mv9_σ_1 mv12_σ_1 mv14_σ_1 mv15_σ_1 mv16_σ_1 mv8_σ_1 mv27_σ_1 mv9_σ_2 mv12_σ_2 mv14_σ_2 mv15_σ_2 mv16_σ_2 mv8_σ_2 mv27_σ_2 kc_3 ahpσ_5 bhpσ_5 ehpσ_5 fhpσ_5 c_6 sv hm28 if_32 c_33 kc_34 ahpσ_36 bhpσ_36 chpσ_36 dhpσ_36 ehpσ_36 fhpσ_36 mv8_σ_36 smσ_36 nrσ_36; omega) | omega)) ahpσ_36 (ehpσ_36 e) (by first | (clear hn mv9_σ_1 mv12_σ_1 mv14_σ_1 mv15_σ_1 mv16_σ_1 mv8_σ_1 mv27_σ_1 mv9_σ_2 mv12_σ_2 mv14_σ_2 mv15_σ_2 mv16_σ_2 mv8_σ_2 mv27_σ_2 kc_3 ahpσ_5 bhpσ_5 ehpσ_5 fhpσ_5 c_6 sv hm28 if_10 c_31 if_32 c_33 kc_34 ahpσ_36 bhpσ_36 chpσ_36 ehpσ_36 fhpσ_36 mv8_σ_36 smσ_36 nrσ_36; omega) | omega))
            have ks_σ_36 : q_KS (fun b g => b = a ∧ 8 ≤ g ∧ g ≤ 18) 1 X σ σ_36 := ks_σ_8.K hkσ_36 (by decide)
            refine lv_goto (tgt := 28) hx hb dX12_round_47 (by decide) ?_
            exact ih28 σ_36 _ _ ls (by first | (clear hn mv9_σ_1 mv12_σ_1 mv14_σ_1 mv15_σ_1 mv16_σ_1 mv8_σ_1 mv27_σ_1 mv9_σ_2 mv12_σ_2 mv14_σ_2 mv15_σ_2 mv16_σ_2 mv8_σ_2 mv27_σ_2 kc_3 ahpσ_5 bhpσ_5 ehpσ_5 fhpσ_5 c_6 sv kc_34 ahpσ_36 dhpσ_36 ehpσ_36 fhpσ_36 mv8_σ_36 smσ_36 nrσ_36; omega) | omega) stσ_36 ks_σ_36 fr_σ_36 kpσ_36 smσ_36 nrσ_36 hF hI (lv_sub hl [0, 1] rfl)
    exact L_28_9 ((901 - (σ_7.1 a 15).toInt).toNat + (1 - (σ_7.1 a 12).toInt).toNat + 1) σ_7 _ _ ls (Nat.lt_succ_self _) (fun e s h0 h1 => by omega) ks_σ_7 fr_σ_7 kpσ_7 smσ_7 nrσ_7 hF hI (lv_sub hl [0, 1] rfl)
  · skip
    replace hF := q_ifp hF c_6
    replace sf := sf (by omega)
    clear so
    refine lv_iconst (v := (-1)) hx hb dX12_round_21 zki_m1 ?_
    have hrv : ((-1) : Int32).toInt = (-1) := zt_m1
    rewrite [hQQ]; exact q_reti E hr hlk hI ⟨ks_σ_5, (m_G.ext (fun j a b => kpσ_5 j a (by first | exact smσ_5 | omega)) hG), (m_W.ext (fun j a b => kpσ_5 j (by first | exact smσ_5 | omega) (by first | exact smσ_5 | omega)) hW), (fun j a b => kpσ_5 j (by first | exact smσ_5 | omega) b), (by first | exact smσ_5 | omega), (by first | exact smσ_5 | omega), (hF.trans hout), fr_σ_5⟩ dX12_round_22
end
/-! FROM 39y.moves.lean.txt -/
section
/-! cards laid, taken; another kind -/
theorem m_S_sub {c' c f : Int → Int} {b : Int} {n : Nat} (h : ∀ t : Int, 0 ≤ t → t < (n : Int) → c' (b + t) = c (b + t) - f t) : m_S c' b n = m_S c b n - m_S f 0 n := by
  induction n with
  | zero => rfl
  | succ n ih =>
    show m_S c' b n + c' (b + (n : Int)) = m_S c b n + c (b + (n : Int)) - (m_S f 0 n + f (0 + (n : Int)))
    rw [ih (fun t a b => h t a (by omega)), h (n : Int) (by omega) (by omega), Int.zero_add]
    omega
def m_lo (c0 f : Int → Int) (p : Int) : Prop := m_G c0 ∧ (0 ≤ p ∧ p < 6) ∧ (∀ k : Int, 0 ≤ k → k < 10 → 0 ≤ f k ∧ f k ≤ c0 (34 + 10 * p + k)) ∧ (1 ≤ m_S f 0 10 ∧ m_S f 0 10 ≤ 4)
theorem m_lo.part {c0 f : Int → Int} {p : Int} (h : m_lo c0 f p) (n : Nat) (hn : n ≤ 10) : 0 ≤ m_S f 0 n ∧ m_S f 0 n ≤ m_S f 0 10 := by
  have a : ∀ b : Int, 0 ≤ b → ∀ m : Nat, b + (m : Int) ≤ 10 → 0 ≤ m_S f b m := fun b hb m hm => m_S_nn (fun j x y => (h.2.2.1 j (by omega) (by omega)).1)
  have w := m_S_add f 0 n (10 - n)
  have e : n + (10 - n) = 10 := by omega
  rw [e] at w
  have z := a (0 + (n : Int)) (by omega) (10 - n) (by omega)
  have z2 := a 0 (by omega) n (by omega)
  omega
theorem m_lo.c9 {c0 f : Int → Int} {p : Int} (h : m_lo c0 f p) : 0 ≤ c0 9 ∧ c0 9 ≤ 79 := by
  have g := h.1
  have b := g.hd.2.2.2.2.2.2.1
  have t := g.tot
  have l := (g.Lle (c0 9).toNat (by omega)).1
  have s := g.Shand h.2.1.1 h.2.1.2 (n := 10) (by omega)
  have q : m_S f 0 10 ≤ m_S c0 (34 + 10 * p) 10 := by
    have d := m_S_sub (c' := fun j => c0 j - f (j - (34 + 10 * p))) (c := c0) (f := f) (b := 34 + 10 * p) (n := 10) (fun t a b => by
      have e : 34 + 10 * p + t - (34 + 10 * p) = t := by omega
      show c0 (34 + 10 * p + t) - f (34 + 10 * p + t - (34 + 10 * p)) = _
      rw [e])
    have z : 0 ≤ m_S (fun j => c0 j - f (j - (34 + 10 * p))) (34 + 10 * p) 10 := m_S_nn (fun j x y => by
      have w := h.2.2.1 (j - (34 + 10 * p)) (by omega) (by omega)
      have e : 34 + 10 * p + (j - (34 + 10 * p)) = j := by omega
      rw [e] at w
      show 0 ≤ c0 j - f (j - (34 + 10 * p))
      omega)
    omega
  have u := h.2.2.2.1
  omega
theorem m_lo.kind {c0 f : Int → Int} {p k : Int} (h : m_lo c0 f p) (h0 : 0 ≤ k) (h1 : k < 10) (h2 : 0 < f k) : k < c0 0 := by
  have a := h.2.2.1 k h0 h1
  have b := (h.1.2.1 p k h.2.1.1 h.2.1.2 h0 h1).2
  by_cases q : c0 0 ≤ k
  · have := b q
    omega
  · omega
def m_ld (c0 c f : Int → Int) (p k i : Int) : Prop :=
  (∀ j : Int, 0 ≤ j → ¬ (34 + 10 * p ≤ j ∧ j < 34 + 10 * p + k) → ¬ (94 + 7 * c0 9 ≤ j ∧ j < 101 + 7 * c0 9) → c j = c0 j) ∧ (∀ t : Int, 0 ≤ t → t < k → c (34 + 10 * p + t) = c0 (34 + 10 * p + t) - f t) ∧ c (94 + 7 * c0 9) = p ∧ ∀ t : Int, 0 ≤ t → t < m_S f 0 k.toNat + i → 0 ≤ c (94 + 7 * c0 9 + 3 + t) ∧ c (94 + 7 * c0 9 + 3 + t) < c0 0
theorem m_ld.start {c0 c1 c f : Int → Int} {p v w : Int} (h : m_lo c0 f p) (e1 : ∀ j : Int, 0 ≤ j → c1 j = if j = 94 + 7 * c0 9 then w else c0 j) (hw : w = p) (e : ∀ j : Int, 0 ≤ j → c j = if j = 94 + 7 * c0 9 + 1 then v else c1 j) : m_ld c0 c f p 0 0 := by
  have b := h.c9
  refine ⟨fun j h0 h1 h2 => ?_, fun t h0 h1 => by omega, ?_, fun t h0 h1 => ?_⟩
  · rw [e j h0, if_neg (by omega), e1 j h0, if_neg (by omega)]
  · rw [e _ (by omega), if_neg (by omega), e1 _ (by omega), if_pos rfl, hw]
  · have z : m_S f 0 (0 : Int).toNat = 0 := rfl
    omega
theorem m_ld.card {c0 c c' f : Int → Int} {p k i n v : Int} (h : m_ld c0 c f p k i) (hl : m_lo c0 f p) (hk : 0 ≤ k ∧ k < 10) (hi : 0 ≤ i ∧ i < f k) (e : ∀ j : Int, 0 ≤ j → c' j = if j = 94 + 7 * c0 9 + 3 + n then v else c j) (hv : v = k) (hn : n = m_S f 0 k.toNat + i) : m_ld c0 c' f p k (i + 1) := by
  have b := hl.c9
  have u := hl.part k.toNat (by omega)
  have u2 := hl.part (k + 1).toNat (by omega)
  rw [m_S_succ _ _ _ hk.1, Int.zero_add] at u2
  have u3 := hl.2.2.2
  have kc := hl.kind hk.1 hk.2 (by omega)
  obtain ⟨h1, h2, h3, h4⟩ := h
  refine ⟨fun j a0 a1 a2 => ?_, fun t a0 a1 => ?_, ?_, fun t a0 a1 => ?_⟩
  · rw [e j a0, if_neg (by omega)]; exact h1 j a0 a1 a2
  · rw [e _ (by have := hl.2.1; omega), if_neg (by have := hl.2.1; omega)]; exact h2 t a0 a1
  · rw [e _ (by omega), if_neg (by omega)]; exact h3
  · rw [e _ (by omega)]
    by_cases q : t = n
    · rw [if_pos (by omega), hv]
      exact ⟨hk.1, kc⟩
    · rw [if_neg (by omega)]
      exact h4 t a0 (by omega)
theorem m_ld.hand {c0 c c' f : Int → Int} {p k i v : Int} (h : m_ld c0 c f p k i) (hl : m_lo c0 f p) (hk : 0 ≤ k ∧ k < 10) (hi : i = f k) (e : ∀ j : Int, 0 ≤ j → c' j = if j = 34 + 10 * p + k then v else c j) (hv : v = c (34 + 10 * p + k) - f k) : m_ld c0 c' f p (k + 1) 0 := by
  have b := hl.c9
  have hp := hl.2.1
  obtain ⟨h1, h2, h3, h4⟩ := h
  refine ⟨fun j a0 a1 a2 => ?_, fun t a0 a1 => ?_, ?_, fun t a0 a1 => ?_⟩
  · rw [e j a0, if_neg (by omega)]; exact h1 j a0 (by omega) a2
  · rw [e _ (by omega)]
    by_cases q : t = k
    · subst q
      rw [if_pos rfl, hv, h1 _ (by omega) (by omega) (by omega)]
    · rw [if_neg (by omega)]; exact h2 t a0 (by omega)
  · rw [e _ (by omega), if_neg (by omega)]; exact h3
  · rw [e _ (by omega), if_neg (by omega)]
    rw [m_S_succ _ _ _ hk.1, Int.zero_add] at a1
    exact h4 t a0 (by omega)
theorem m_ld.done {c0 c c1 c2 c' f : Int → Int} {p T v9 v7 : Int} (h : m_ld c0 c f p 10 0) (hl : m_lo c0 f p) (h6 : c0 6 = p) (hT : T = m_S f 0 10) (e1 : ∀ j : Int, 0 ≤ j → c1 j = if j = 94 + 7 * c0 9 + 2 then T else c j) (e2 : ∀ j : Int, 0 ≤ j → c2 j = if j = 9 then v9 else c1 j) (h9 : v9 = c0 9 + 1) (e : ∀ j : Int, 0 ≤ j → c' j = if j = 7 then v7 else c2 j) (h7 : v7 = 1) :
    m_G c' ∧ (∀ j : Int, 0 ≤ j → (j < 7 ∨ j = 8 ∨ (10 ≤ j ∧ j < 34) ∨ 654 ≤ j) → c' j = c0 j) ∧ c' 9 = c0 9 + 1 ∧ c' 7 = 1 ∧ c' 6 = p := by
  have b := hl.c9
  have hp := hl.2.1
  have ho := hl.2.2.1
  have hs := hl.2.2.2
  have g := hl.1
  have hd := g.hd
  obtain ⟨h1, h2, h3, h4⟩ := h
  have q : ∀ j : Int, 0 ≤ j → j ≠ 7 → j ≠ 9 → ¬ (34 + 10 * p ≤ j ∧ j < 44 + 10 * p) → ¬ (94 + 7 * c0 9 ≤ j ∧ j < 101 + 7 * c0 9) → c' j = c0 j := by
    intro j a0 a1 a2 a3 a4
    rw [e j a0, if_neg a1, e2 j a0, if_neg a2, e1 j a0, if_neg (by omega)]
    exact h1 j a0 (by omega) a4
  have qw : ∀ j : Int, 0 ≤ j → j ≠ 7 → j ≠ 9 → j ≠ 94 + 7 * c0 9 + 2 → c' j = c j := by
    intro j a0 a1 a2 a3
    rw [e j a0, if_neg a1, e2 j a0, if_neg a2, e1 j a0, if_neg a3]
  have qh : ∀ t : Int, 0 ≤ t → t < 10 → c' (34 + 10 * p + t) = c0 (34 + 10 * p + t) - f t := by
    intro t a0 a1
    rw [qw _ (by omega) (by omega) (by omega) (by omega)]
    exact h2 t a0 a1
  have e9 : c' 9 = c0 9 + 1 := by rw [e 9 (by decide), if_neg (by decide), e2 9 (by decide), if_pos rfl, h9]
  have e7 : c' 7 = 1 := by rw [e 7 (by decide), if_pos rfl, h7]
  have eT : c' (94 + 7 * c0 9 + 2) = T := by rw [e _ (by omega), if_neg (by omega), e2 _ (by omega), if_neg (by omega), e1 _ (by omega), if_pos rfl]
  have eb : c' (94 + 7 * c0 9) = p := by rw [qw _ (by omega) (by omega) (by omega) (by omega)]; exact h3
  have r : ∀ j : Int, 0 ≤ j → (j < 7 ∨ j = 8 ∨ (10 ≤ j ∧ j < 34) ∨ 654 ≤ j) → c' j = c0 j := fun j a0 a1 => q j a0 (by omega) (by omega) (by omega) (by omega)
  have e0 : c' 0 = c0 0 := r 0 (by decide) (by decide)
  have e6 : c' 6 = c0 6 := r 6 (by decide) (by decide)
  obtain ⟨gH, gD, gY, gT, gO, gQ⟩ := g
  refine ⟨⟨?_, ?_, ?_, ?_, ?_, ?_⟩, r, e9, e7, e6.trans h6⟩
  · unfold m_H
    rw [e0, r 2 (by decide) (by decide), r 4 (by decide) (by decide), r 5 (by decide) (by decide), e6, e7, e9]
    omega
  · intro p' k a0 a1 a2 a3
    rw [e0]
    by_cases w : p' = p
    · subst w
      have z := gD p' k a0 a1 a2 a3
      have o := ho k a2 a3
      rw [qh k a2 a3]
      refine ⟨by omega, fun y => ?_⟩
      have := z.2 y
      omega
    · rw [q _ (by omega) (by omega) (by omega) (by omega) (by omega)]
      exact gD p' k a0 a1 a2 a3
  · intro i a0 a1
    rw [e9] at a1
    rw [e0]
    by_cases w : i = c0 9
    · subst w
      rw [eT]
      refine ⟨by omega, fun t t0 t1 => ?_⟩
      rw [qw _ (by omega) (by omega) (by omega) (by omega)]
      have z : m_S f 0 (10 : Int).toNat = m_S f 0 10 := rfl
      exact h4 t t0 (by omega)
    · have y := gY i a0 (by omega)
      rw [q (94 + 7 * i + 2) (by omega) (by omega) (by omega) (by omega) (by omega)]
      refine ⟨y.1, fun t t0 t1 => ?_⟩
      rw [q (94 + 7 * i + 3 + t) (by omega) (by omega) (by omega) (by omega) (by omega)]
      exact y.2 t t0 t1
  · unfold m_T at gT ⊢
    have s := m_S_hand (c := c0) (c' := c') hp (fun j a0 a1 a2 => q j (by omega) (by omega) (by omega) (by omega) (by omega))
    have s2 := m_S_sub (c' := c') (c := c0) (f := f) (b := 34 + 10 * p) (n := 10) (fun t a0 a1 => qh t a0 (by omega))
    rw [e9, m_L_succ _ _ b.1, eT, m_L_ext (c := c0) (c' := c') (fun i a0 a1 => q _ (by omega) (by omega) (by omega) (by omega) (by omega))]
    omega
  · intro _
    rw [e9, e6]
    have z : (94 : Int) + 7 * (c0 9 + 1 - 1) = 94 + 7 * c0 9 := by omega
    rw [z, eb, h6]
  · have e5 : c' 655 = c0 655 := r 655 (by decide) (by decide)
    have b5 := gQ.1
    refine ⟨by rw [e5]; exact gQ.1, fun s a0 a1 => ?_⟩
    rw [e5] at a1 ⊢
    exact (gQ.2 s a0 a1).ext (fun j x y => r j (by omega) (by omega))
/-! taking the heap -/
def m_tk (c0 c : Int → Int) (p k i : Int) : Prop :=
  (∀ j : Int, 0 ≤ j → ¬ (34 + 10 * p ≤ j ∧ j < 44 + 10 * p) → c j = c0 j) ∧ (∀ t : Int, 0 ≤ t → t < 10 → 0 ≤ c (34 + 10 * p + t) ∧ (c0 0 ≤ t → c (34 + 10 * p + t) = 0)) ∧ m_S c (34 + 10 * p) 10 = m_S c0 (34 + 10 * p) 10 + m_L c0 k.toNat + i
theorem m_tk.start {c0 : Int → Int} {p : Int} (g : m_G c0) (hp : 0 ≤ p ∧ p < 6) : m_tk c0 c0 p 0 0 := by
  refine ⟨fun _ _ _ => rfl, fun t a b => g.2.1 p t hp.1 hp.2 a b, ?_⟩
  have z : m_L c0 (0 : Int).toNat = 0 := rfl
  omega
theorem m_tk.card {c0 c c' : Int → Int} {p k i d v : Int} (h : m_tk c0 c p k i) (hp : 0 ≤ p ∧ p < 6) (hd : 0 ≤ d ∧ d < c0 0) (h10 : c0 0 ≤ 10) (e : ∀ j : Int, 0 ≤ j → c' j = if j = 34 + 10 * p + d then v else c j) (hv : v = c (34 + 10 * p + d) + 1) : m_tk c0 c' p k (i + 1) := by
  obtain ⟨h1, h2, h3⟩ := h
  refine ⟨fun j a0 a1 => ?_, fun t a0 a1 => ?_, ?_⟩
  · rw [e j a0, if_neg (by omega)]; exact h1 j a0 a1
  · rw [e _ (by omega)]
    have z := h2 t a0 a1
    by_cases q : t = d
    · subst q
      rw [if_pos rfl, hv]
      exact ⟨by omega, fun y => by omega⟩
    · rw [if_neg (by omega)]; exact z
  · rw [m_S_upd (c := c) (c' := c') (A := 34 + 10 * p + d) (v := v) (fun j a0 a1 => e j (by omega)) (by omega) (by omega), h3, hv]
    omega
theorem m_tk.lay {c0 c : Int → Int} {p k i : Int} (h : m_tk c0 c p k i) (hk : 0 ≤ k) (hi : i = c0 (94 + 7 * k + 2)) : m_tk c0 c p (k + 1) 0 := by
  obtain ⟨h1, h2, h3⟩ := h
  refine ⟨h1, h2, ?_⟩
  rw [h3, m_L_succ _ _ hk, hi]
  omega
theorem m_tk.done {c0 c c' : Int → Int} {p v : Int} (h : m_tk c0 c p (c0 9) 0) (g : m_G c0) (hp : 0 ≤ p ∧ p < 6) (h7 : c0 7 = 0) (e : ∀ j : Int, 0 ≤ j → c' j = if j = 9 then v else c j) (hv : v = 0) :
    m_G c' ∧ (∀ j : Int, 0 ≤ j → (j < 9 ∨ (10 ≤ j ∧ j < 34) ∨ 654 ≤ j) → c' j = c0 j) ∧ c' 9 = 0 := by
  have hd := g.hd
  obtain ⟨h1, h2, h3⟩ := h
  have q : ∀ j : Int, 0 ≤ j → j ≠ 9 → ¬ (34 + 10 * p ≤ j ∧ j < 44 + 10 * p) → c' j = c0 j := by
    intro j a0 a1 a2
    rw [e j a0, if_neg a1]; exact h1 j a0 a2
  have e9 : c' 9 = 0 := by rw [e 9 (by decide), if_pos rfl, hv]
  have r : ∀ j : Int, 0 ≤ j → (j < 9 ∨ (10 ≤ j ∧ j < 34) ∨ 654 ≤ j) → c' j = c0 j := fun j a0 a1 => q j a0 (by omega) (by omega)
  have e0 : c' 0 = c0 0 := r 0 (by decide) (by decide)
  obtain ⟨gH, gD, gY, gT, gO, gQ⟩ := g
  refine ⟨⟨?_, ?_, ?_, ?_, ?_, ?_⟩, r, e9⟩
  · unfold m_H
    rw [e0, r 2 (by decide) (by decide), r 4 (by decide) (by decide), r 5 (by decide) (by decide), r 6 (by decide) (by decide), r 7 (by decide) (by decide), e9]
    omega
  · intro p' k a0 a1 a2 a3
    rw [e0]
    by_cases w : p' = p
    · subst w
      rw [e _ (by omega), if_neg (by omega)]
      exact h2 k a2 a3
    · rw [q _ (by omega) (by omega) (by omega)]
      exact gD p' k a0 a1 a2 a3
  · intro i a0 a1
    rw [e9] at a1
    omega
  · unfold m_T at gT ⊢
    have s := m_S_hand (c := c0) (c' := c') hp (fun j a0 a1 a2 => q j (by omega) (by omega) (by omega))
    have s2 : m_S c' (34 + 10 * p) 10 = m_S c (34 + 10 * p) 10 := m_S_ext (fun j a0 a1 => by rw [e j (by omega), if_neg (by omega)])
    have z : m_L c' (0 : Int).toNat = 0 := rfl
    rw [e9, z]
    omega
  · intro w
    rw [r 7 (by decide) (by decide)] at w
    omega
  · have e5 : c' 655 = c0 655 := r 655 (by decide) (by decide)
    have b5 := gQ.1
    refine ⟨by rw [e5]; exact gQ.1, fun s a0 a1 => ?_⟩
    rw [e5] at a1 ⊢
    exact (gQ.2 s a0 a1).ext (fun j x y => r j (by omega) (by omega))
/-! another kind: b the best of the kinds below k -/
def m_ok (c : Int → Int) (p b k : Int) : Prop := (b = -1 ∧ ∀ t : Int, 0 ≤ t → t < k → t ≠ c 5 → c (34 + 10 * p + t) ≤ 0) ∨ (0 ≤ b ∧ b < k ∧ b ≠ c 5 ∧ 1 ≤ c (34 + 10 * p + b))
theorem m_ok.start (c : Int → Int) (p : Int) : m_ok c p (-1) 0 := Or.inl ⟨rfl, fun t a b => by omega⟩
theorem m_ok.skip {c : Int → Int} {p b k : Int} (h : m_ok c p b k) (hk : k = c 5 ∨ c (34 + 10 * p + k) ≤ 0) : m_ok c p b (k + 1) := by
  rcases h with ⟨h1, h2⟩ | ⟨h1, h2, h3, h4⟩
  · refine Or.inl ⟨h1, fun t a0 a1 a2 => ?_⟩
    by_cases q : t = k
    · subst q
      rcases hk with w | w
      · exact absurd w a2
      · exact w
    · exact h2 t a0 (by omega) a2
  · exact Or.inr ⟨h1, by omega, h3, h4⟩
theorem m_ok.old {c : Int → Int} {p b k : Int} (h : m_ok c p b k) (hb : 0 ≤ b) : m_ok c p b (k + 1) := by
  rcases h with ⟨h1, h2⟩ | ⟨h1, h2, h3, h4⟩
  · omega
  · exact Or.inr ⟨h1, by omega, h3, h4⟩
theorem m_ok.set {c : Int → Int} {p k : Int} (h0 : 0 ≤ k) (h5 : k ≠ c 5) (h1 : 1 ≤ c (34 + 10 * p + k)) : m_ok c p k (k + 1) := Or.inr ⟨h0, by omega, h5, h1⟩
/-- with cards, but none of the kind to be said, there is another kind -/
theorem m_ok.some {c : Int → Int} {p b : Int} (h : m_ok c p b (c 0)) (g : m_G c) (hp : 0 ≤ p ∧ p < 6) (hs : m_S c (34 + 10 * p) 10 ≠ 0) (h5 : c (34 + 10 * p + c 5) ≤ 0) : 0 ≤ b := by
  rcases h with ⟨h1, h2⟩ | ⟨h1, h2⟩
  · exfalso
    refine hs ?_
    have z : ∀ t : Int, 0 ≤ t → t < 10 → c (34 + 10 * p + t) = 0 := by
      intro t a0 a1
      have d := g.2.1 p t hp.1 hp.2 a0 a1
      by_cases q : c 0 ≤ t
      · exact d.2 q
      · by_cases w : t = c 5
        · subst w
          omega
        · have := h2 t a0 (by omega) w
          omega
    have y : ∀ n : Nat, n ≤ 10 → m_S c (34 + 10 * p) n = 0 := by
      intro n hn
      induction n with
      | zero => rfl
      | succ n ih =>
        show m_S c (34 + 10 * p) n + c (34 + 10 * p + (n : Int)) = 0
        rw [ih (by omega), z _ (by omega) (by omega)]
        rfl
    exact y 10 (by omega)
  · exact h1
theorem m_tk.le {c0 c : Int → Int} {p k i : Int} (h : m_tk c0 c p k i) (g : m_G c0) (hp : 0 ≤ p ∧ p < 6) (hk : 0 ≤ k ∧ k ≤ c0 9) (hi : 0 ≤ i ∧ i ≤ 4) (j : Int) (h0 : 34 + 10 * p ≤ j) (h1 : j < 44 + 10 * p) : 0 ≤ c j ∧ c j ≤ 84 := by
  obtain ⟨_, h2, h3⟩ := h
  have nn : ∀ j : Int, 34 + 10 * p ≤ j → j < 44 + 10 * p → 0 ≤ c j := by
    intro j a b
    have z := (h2 (j - (34 + 10 * p)) (by omega) (by omega)).1
    have e : 34 + 10 * p + (j - (34 + 10 * p)) = j := by omega
    rw [e] at z
    exact z
  have a := m_S_ge (c := c) (b := 34 + 10 * p) (A := j) (n := 10) (fun j a b => nn j a (by omega)) h0 (by omega)
  have l := g.Lall hk.1 hk.2
  have s := g.Shand hp.1 hp.2 (n := 10) (by omega)
  have t := g.tot
  have z := nn j h0 h1
  omega
/-- the array of cards to be laid -/
def m_of (σ : ST) (r : Nat) (j : Int) : Int := (σ.1 r j.toNat).toInt
theorem m_ofw {σ σ' : ST} {r : Nat} {i v : Int32} {A : Int} (e : σ' = q_si σ r i.toNatClampNeg v) (h : i.toInt = A) (h0 : 0 ≤ A) : ∀ j : Int, 0 ≤ j → m_of σ' r j = if j = A then v.toInt else m_of σ r j := by
  subst h
  intro j hj
  unfold m_of
  by_cases q : j = i.toInt
  · subst q
    rw [if_pos rfl]
    exact congrArg Int32.toInt (q_rd e)
  · rw [if_neg q]
    refine congrArg Int32.toInt (q_rdn e (Or.inr ?_))
    show j.toNat ≠ i.toInt.toNat
    omega
theorem m_ofo {σ σ' : ST} {r b f : Nat} {v : Int32} (e : σ' = q_si σ b f v) (h : r ≠ b) (j : Int) : m_of σ' r j = m_of σ r j := congrArg Int32.toInt (q_rdn e (Or.inl h))
/-- one kind laid -/
def m_l1 (f : Int → Int) (k n : Int) : Prop := ∀ j : Int, 0 ≤ j → j < 10 → f j = if j = k then n else 0
theorem m_l1.mk {f0 f : Int → Int} {k n v : Int} (z : ∀ j : Int, 0 ≤ j → j < 10 → f0 j = 0) (e : ∀ j : Int, 0 ≤ j → f j = if j = k then v else f0 j) (hv : v = n) : m_l1 f k n := by
  intro j a b
  rw [e j a, z j a b, hv]
theorem m_l1.ext {f f' : Int → Int} {k n : Int} (h : m_l1 f k n) (e : ∀ j : Int, f' j = f j) : m_l1 f' k n := fun j a b => by rw [e j]; exact h j a b
theorem m_S_zero {f : Int → Int} {n : Nat} (h : ∀ j : Int, 0 ≤ j → j < (n : Int) → f j = 0) : m_S f 0 n = 0 := by
  induction n with
  | zero => rfl
  | succ n ih =>
    show m_S f 0 n + f (0 + (n : Int)) = 0
    rw [ih (fun j a b => h j a (by omega)), h _ (by omega) (by omega)]
    rfl
theorem m_l1.sum {f : Int → Int} {k n : Int} (h : m_l1 f k n) (hk : 0 ≤ k ∧ k < 10) : m_S f 0 10 = n := by
  have w := m_S_upd (c := fun _ => 0) (c' := f) (b := 0) (A := k) (v := n) (n := 10) (fun j a b => h j a (by omega)) hk.1 (by omega)
  rw [m_S_zero (f := fun _ => (0 : Int)) (fun _ _ _ => rfl)] at w
  omega
theorem m_lo.one {c f : Int → Int} {p n : Int} (g : m_G c) (hp : 0 ≤ p ∧ p < 6) (h : m_l1 f (c 5) n) (hn : 1 ≤ n ∧ n ≤ 4) (hh : n ≤ c (34 + 10 * p + c 5)) : m_lo c f p := by
  have b := g.hd
  refine ⟨g, hp, fun k a0 a1 => ?_, by rw [h.sum (by omega)]; exact hn⟩
  have z := g.hand0 (j := 34 + 10 * p + k) (by omega) (by omega)
  rw [h k a0 a1]
  by_cases q : k = c 5
  · rw [if_pos q, q]
    omega
  · rw [if_neg q]
    omega
theorem m_lo.two {c f f2 : Int → Int} {p n o v : Int} (g : m_G c) (hp : 0 ≤ p ∧ p < 6) (h : m_l1 f (c 5) n) (e : ∀ j : Int, 0 ≤ j → f2 j = if j = o then v else f j) (hv : v = f o + 1) (hn : 0 ≤ n ∧ n ≤ 3) (hh : n ≤ c (34 + 10 * p + c 5)) (ho : 0 ≤ o ∧ o < 10) (h5 : o ≠ c 5) (h1 : 1 ≤ c (34 + 10 * p + o)) : m_lo c f2 p := by
  have b := g.hd
  have fo : f o = 0 := by rw [h o ho.1 ho.2, if_neg h5]
  have w := m_S_upd (c := f) (c' := f2) (b := 0) (A := o) (v := v) (n := 10) (fun j a b => e j a) ho.1 (by omega)
  rw [h.sum (by omega)] at w
  refine ⟨g, hp, fun k a0 a1 => ?_, by omega⟩
  have z := g.hand0 (j := 34 + 10 * p + k) (by omega) (by omega)
  rw [e k a0]
  by_cases q : k = o
  · rw [if_pos q, q]
    omega
  · rw [if_neg q, h k a0 a1]
    by_cases y : k = c 5
    · rw [if_pos y, y]
      omega
    · rw [if_neg y]
      omega
theorem m_W.shown {c c' : Int → Int} {n q v : Int} (h : m_W c n) (e : ∀ j : Int, 0 ≤ j → c' j = if j = 22 + q then v else c j) (hq : 0 ≤ q ∧ q < 6) (hv : v = c (22 + q) + 1) : m_W c' (n + 1) := by
  intro p h0 h1
  have w := h p h0 h1
  rw [e (28 + p) (by omega), if_neg (by omega), e (22 + p) (by omega)]
  by_cases z : p = q
  · subst z
    rw [if_pos rfl]
    omega
  · rw [if_neg (by omega)]
    omega
theorem m_W.lied {c c' : Int → Int} {n q v : Int} (h : m_W c n) (e : ∀ j : Int, 0 ≤ j → c' j = if j = 28 + q then v else c j) (hq : 0 ≤ q ∧ q < 6) (hv : 0 ≤ v ∧ v ≤ c (22 + q)) : m_W c' n := by
  intro p h0 h1
  have w := h p h0 h1
  rw [e (28 + p) (by omega), e (22 + p) (by omega), if_neg (by omega : ¬ 22 + p = 28 + q)]
  by_cases z : p = q
  · subst z
    rw [if_pos rfl]
    omega
  · rw [if_neg (by omega)]
    omega
end
/-! FROM 39z.nums.lean.txt -/
section
/-! numbers of the game: quotients, rests, products -/
theorem m_mulI {a b A B : Int} (h0 : 0 ≤ a) (h1 : a ≤ A) (h2 : 0 ≤ b) (h3 : b ≤ B) : 0 ≤ a * b ∧ a * b ≤ A * B ∧ a * b ≤ A * b ∧ a * b ≤ a * B :=
  ⟨Int.mul_nonneg h0 h2, Int.mul_le_mul h1 h3 h2 (by omega), Int.mul_le_mul_of_nonneg_right h1 h2, Int.mul_le_mul_of_nonneg_left h3 h0⟩
theorem m_div {x y z : Int32} (e : z = x / y) (hx : 0 ≤ x.toInt) (hy : 0 < y.toInt) : 0 ≤ z.toInt ∧ z.toInt ≤ x.toInt ∧ z.toInt = x.toInt / y.toInt := by
  have hr := q_rng x
  have h : z.toInt = x.toInt / y.toInt := by
    rw [e, Int32.toInt_div, Int.tdiv_eq_ediv_of_nonneg hx]
    have h1 := Int.ediv_nonneg hx (by omega : 0 ≤ y.toInt)
    have h2 := Int.ediv_le_self y.toInt hx
    exact Int.bmod_eq_of_le (by omega) (by omega)
  rw [h]
  exact ⟨Int.ediv_nonneg hx (by omega), Int.ediv_le_self _ hx, rfl⟩
theorem m_rem {x y z : Int32} (e : z = x - x / y * y) (hx : 0 ≤ x.toInt) (hy : 0 < y.toInt) : 0 ≤ z.toInt ∧ z.toInt < y.toInt ∧ z.toInt ≤ x.toInt ∧ (x.toInt < y.toInt → z.toInt = x.toInt) ∧ (x.toInt = y.toInt → z.toInt = 0) := by
  have hr := q_rng x
  have hd := m_div (x := x) (y := y) rfl hx hy
  have k1 := Int.emod_nonneg x.toInt (by omega : y.toInt ≠ 0)
  have k2 := Int.emod_lt_of_pos x.toInt hy
  have k3 : x.toInt / y.toInt * y.toInt = x.toInt - x.toInt % y.toInt := by
    have := Int.mul_ediv_add_emod x.toInt y.toInt
    rw [Int.mul_comm] at this
    omega
  have k4 : x.toInt % y.toInt ≤ x.toInt := by
    by_cases q : x.toInt < y.toInt
    · rw [Int.emod_eq_of_lt hx q]; exact Int.le_refl _
    · omega
  have hm : (x / y * y).toInt = x.toInt - x.toInt % y.toInt := by
    rw [Int32.toInt_mul, hd.2.2, k3]
    exact Int.bmod_eq_of_le (by omega) (by omega)
  have h : z.toInt = x.toInt % y.toInt := by
    rw [e, Int32.toInt_sub, hm]
    have w : x.toInt - (x.toInt - x.toInt % y.toInt) = x.toInt % y.toInt := by omega
    rw [w]
    exact Int.bmod_eq_of_le (by omega) (by omega)
  rw [h]
  exact ⟨k1, k2, k4, fun q => Int.emod_eq_of_lt hx q, fun q => by rw [q, Int.emod_self]⟩
/-- a step of the ways to choose -/
theorem m_chs {x y z : Int64} {a b i : Int} (e : z = x / y) (hx : x.toInt = a * b) (hy : y.toInt = i) (ha : 1 ≤ a) (hi : 1 ≤ i) (hib : i ≤ b) (hb : b ≤ 800) (hs : a ≤ 512000000) : a ≤ z.toInt ∧ z.toInt ≤ 800 * a := by
  have hm := m_mulI (a := a) (A := 512000000) (b := b) (B := 800) (by omega) hs (by omega) hb
  have hd0 : 0 ≤ a * b / i := Int.ediv_nonneg hm.1 (by omega)
  have hd1 : a * b / i ≤ a * b := Int.ediv_le_self _ hm.1
  have h : z.toInt = a * b / i := by
    rw [e, Int64.toInt_div, hx, hy, Int.tdiv_eq_ediv_of_nonneg hm.1]
    exact Int.bmod_eq_of_le (by omega) (by omega)
  rw [h]
  refine ⟨?_, by omega⟩
  rw [Int.le_ediv_iff_mul_le (by omega)]
  exact Int.mul_le_mul_of_nonneg_left hib (by omega)
theorem m_remabs {x y z : Int64} (e : z = x - x / y * y) (hy : y.toInt ≠ 0) : z.toInt.natAbs < y.toInt.natAbs := by
  have hl := Int64.le_toInt y
  have hu := Int64.toInt_lt y
  have h0 : (x.toInt.tmod y.toInt).natAbs < y.toInt.natAbs := by
    rw [Int.natAbs_tmod]
    exact Nat.mod_lt _ (by omega)
  have h : z.toInt = x.toInt.tmod y.toInt := by
    rw [e, Int64.toInt_sub, Int64.toInt_mul, Int64.toInt_div]
    rw [Int.sub_bmod_bmod, ← Int.sub_bmod_bmod, Int.bmod_mul_bmod, Int.sub_bmod_bmod]
    have w : x.toInt - x.toInt.tdiv y.toInt * y.toInt = x.toInt.tmod y.toInt := by
      have := Int.mul_tdiv_add_tmod x.toInt y.toInt
      rw [Int.mul_comm] at this
      omega
    rw [w]
    exact Int.bmod_eq_of_le (by omega) (by omega)
  rw [h]
  exact h0
theorem m_neg0 {x z : Int64} (e : z = -x) (h : z.toInt = 0) : x.toInt = 0 := by
  have h1 : z = 0 := Int64.toInt_inj.mp (by rw [h]; rfl)
  rw [h1] at e
  have h2 : x = 0 := by
    have := congrArg (fun w => -w) e
    simpa using this.symm
  rw [h2]
  rfl
theorem m_ll {σ σ' : ST} {a f : Nat} {v : Int64} (e : σ' = q_sl σ a f v) : σ'.2.1 a f = v := by
  rw [e]
  show (if a = a ∧ f = f then v else _) = v
  rw [if_pos ⟨rfl, rfl⟩]
theorem m_lln {σ σ' : ST} {a b f g : Nat} {v : Int64} (e : σ' = q_sl σ a f v) (h : b ≠ a ∨ g ≠ f) : σ'.2.1 b g = σ.2.1 b g := by
  rw [e]
  show (if b = a ∧ g = f then v else σ.2.1 b g) = _
  rw [if_neg]
  rintro ⟨h1, h2⟩
  rcases h with h | h
  · exact h h1
  · exact h h2
theorem m_lsi {σ σ' : ST} {a b f g : Nat} {v : Int32} (e : σ' = q_si σ a f v) : σ'.2.1 b g = σ.2.1 b g := by rw [e]; rfl
/-! what a game's method keeps beside: what was kept, and how many steps were done (field d) -/
def m_KD (d : Nat) (X : XW) (σ σ' : ST) : Prop := ∀ b g, (q_kd X b = 35 ∨ (q_kd X b = 12 ∧ g = d)) → σ'.1 b g = σ.1 b g
theorem m_KD.rf {d : Nat} {X : XW} {σ : ST} : m_KD d X σ σ := fun _ _ _ => rfl
theorem m_KD.tr {d : Nat} {X : XW} {σ σ' σ'' : ST} (h : m_KD d X σ σ') (h2 : m_KD d X σ' σ'') : m_KD d X σ σ'' := fun b g q => (h2 b g q).trans (h b g q)
theorem m_KD.si {d : Nat} {X : XW} {σ τ τ' : ST} {a f k : Nat} {v : Int32} (h : m_KD d X σ τ) (e : τ' = q_si τ a f v) (ha : q_kd X a = k) (hk : ¬ (k = 35 ∨ (k = 12 ∧ f = d))) : m_KD d X σ τ' := by
  intro b g q
  rw [q_rdn e, h b g q]
  by_cases w : b = a
  · subst w
    refine Or.inr (fun w2 => hk ?_)
    rw [ha, w2] at q
    exact q
  · exact Or.inl w
theorem m_KD.ar {d : Nat} {X : XW} {σ τ τ' : ST} {a f k : Nat} {v : Int32} (h : m_KD d X σ τ) (e : τ' = q_si τ a f v) (ha : q_kd X a = k) (h1 : k ≠ 35) (h2 : k ≠ 12) : m_KD d X σ τ' := h.si e ha (by rintro (q | q) <;> omega)
theorem m_KD.sl {d : Nat} {X : XW} {σ τ τ' : ST} {a f : Nat} {v : Int64} (h : m_KD d X σ τ) (e : τ' = q_sl τ a f v) : m_KD d X σ τ' := fun b g q => (q_rdl e).trans (h b g q)
theorem m_KD.no {d : Nat} {X : XW} {σ σ' : ST} (h : m_KD d X σ σ') (d' : Nat) (hd : ∀ b, q_kd X b = 12 → σ'.1 b d' = σ.1 b d') : m_KD d' X σ σ' := fun b g q => by
  rcases q with q | q
  · exact h b g (Or.inl q)
  · rw [q.2]; exact hd b q.1
theorem m_mulS {a b A B : Int} (h0 : -A ≤ a) (h1 : a ≤ A) (h2 : 0 ≤ b) (h3 : b ≤ B) : -(A * B) ≤ a * b ∧ a * b ≤ A * B ∧ (a = 0 → a * b = 0) ∧ (1 ≤ a → 1 ≤ b → 1 ≤ a * b) := by
  have hA : 0 ≤ A := by omega
  have e1 : A * b ≤ A * B := Int.mul_le_mul_of_nonneg_left h3 hA
  have e2 : a * b ≤ A * b := Int.mul_le_mul_of_nonneg_right h1 h2
  have e3 : (-A) * b ≤ a * b := Int.mul_le_mul_of_nonneg_right h0 h2
  have e4 : (-A) * b = -(A * b) := Int.neg_mul _ _
  refine ⟨by omega, by omega, fun q => by rw [q, Int.zero_mul], fun p q => ?_⟩
  have z : 1 * 1 ≤ a * b := Int.mul_le_mul p q (by decide) (by omega)
  omega
end
/-! FROM 40.look.a.lean.txt -/
section
section QS
variable {p : Program} {l : Launch} {e : Env} {R : Room} {s : State} {m : MethodId} {args : Array Value} {below : List Frame} {meth : Method} {c : Code} {H : Heap} {locs : List Loc} {cells slots : Nat} {Q : State → Prop} {cc : ByteArray} {X : XW} {n : Nat} {σ0 σ : ST} {H0 : Heap} {pc : Nat} {ls : Array Slot} {rest : List Value} {a : Nat}
theorem kv_X12_276 : q_okV RX12 276 RX12 yX12_handOf cX12_handOf 3 (some .int) 2 := ⟨(q_in_t8 (i := 139) (by first | rfl | decide +kernel) rfl), (q_in_t8 (i := 141) (by first | rfl | decide +kernel) rfl), (q_in_p (i := 82) (by decide +kernel) rfl), (q_in_t1 (i := 14) (by first | rfl | decide +kernel) rfl), (q_in_t8 (i := 142) (by first | rfl | decide +kernel) rfl), ⟨rfl, by decide, by decide, rfl⟩⟩
theorem ks_X12_279 : q_okS RX12 279 yX12_laid cX12_laid 1 (some .int) 1 := ⟨(q_in_t8 (i := 124) (by first | rfl | decide +kernel) rfl), (q_in_t8 (i := 125) (by first | rfl | decide +kernel) rfl), (q_in_t1 (i := 14) (by first | rfl | decide +kernel) rfl), (q_in_t8 (i := 126) (by first | rfl | decide +kernel) rfl), ⟨by decide, by decide, rfl⟩⟩
theorem kv_X12_296 : q_okV RX12 296 RX12 yX12_laidOf cX12_laidOf 7 (some .int) 2 := ⟨(q_in_t8 (i := 143) (by first | rfl | decide +kernel) rfl), (q_in_t8 (i := 145) (by first | rfl | decide +kernel) rfl), (q_in_p (i := 83) (by decide +kernel) rfl), (q_in_t1 (i := 14) (by first | rfl | decide +kernel) rfl), (q_in_t8 (i := 146) (by first | rfl | decide +kernel) rfl), ⟨rfl, by decide, by decide, rfl⟩⟩
end QS
end
