section
set_option maxRecDepth 100000 in
set_option maxHeartbeats 4000000 in
theorem c_X12_readTest (l : Launch) (X : XW) (σ : ST) (a : Nat) (v1 : Int32) (ha : q_kd X a = 12) (hs : 0 ≤ (σ.1 a 15).toInt ∧ (σ.1 a 15).toInt ≤ (σ.1 a 16).toInt ∧ (σ.1 a 16).toInt ≤ (σ.1 a 9).toInt ∧ (σ.1 a 9).toInt ≤ 900 ∧ 0 ≤ (σ.1 a 14).toInt ∧ (σ.1 a 14).toInt ≤ 4 ∧ (σ.1 a 14).toInt ≤ 4 * ((σ.1 a 16).toInt - (σ.1 a 15).toInt) ∧ (σ.1 a 14).toInt ≤ 4 * ((σ.1 a 9).toInt - (σ.1 a 15).toInt) ∧ 0 ≤ (σ.1 a 12).toInt) (hw : 4376 ≤ v1.toInt ∧ v1.toInt ≤ 4637) (hc2 : m_c X σ a 2 ≤ 6) : Met l yX12_readTest (q_ws yX12_readTest cX12_readTest 3 none) (q_rm 6 129) (q_P X σ [.ref a, .int v1]) (q_Qv X 1 σ (fun (σ' : ST) => (∀ j, 0 ≤ j → (j < v1.toInt + 1 ∨ v1.toInt + 8 ≤ j) → m_c X σ' a j = m_c X σ a j) ∧ (0 ≤ (σ'.1 a 15).toInt ∧ (σ'.1 a 15).toInt ≤ (σ'.1 a 16).toInt ∧ (σ'.1 a 16).toInt ≤ (σ'.1 a 9).toInt ∧ (σ'.1 a 9).toInt ≤ 900 ∧ 0 ≤ (σ'.1 a 14).toInt ∧ (σ'.1 a 14).toInt ≤ 4 ∧ (σ'.1 a 14).toInt ≤ 4 * ((σ'.1 a 16).toInt - (σ'.1 a 15).toInt) ∧ (σ'.1 a 14).toInt ≤ 4 * ((σ'.1 a 9).toInt - (σ'.1 a 15).toInt) ∧ 0 ≤ (σ'.1 a 12).toInt ∧ (σ'.1 a 9).toInt = (σ.1 a 9).toInt ∧ (σ.1 a 15).toInt ≤ (σ'.1 a 15).toInt ∧ (σ.1 a 12).toInt ≤ (σ'.1 a 12).toInt) ∧ ((σ'.1 a 27).toInt = (σ.1 a 27).toInt) ∧ (m_oz (σ'.1 a 12).toInt (m_tst (m_c X σ' a) v1.toInt)) ∧ σ' = F_X12_readTest X σ a v1 ∧ q_ow [(12, 12), (12, 13), (12, 14), (12, 15), (12, 16), (12, 17), (12, 18), (34, 99)] [(12, 19)] X σ σ')) 0 0 (q_reg X) := by
  refine q_metQ 1 (by first | exact rfl | decide +kernel) rfl (Nat.le_of_ble_eq_true rfl) (fun QQ hQQ p e s m below meth c E hml hr hlk hI ls hl => ?_)
  have hx := E.1
  have hb := E.2.1
  have hl : lv_has ls 3 [(0, .ref a), (1, .int v1)] := hl
  have kwσ : ∀ j, 0 ≤ j → (j < v1.toInt + 1 ∨ v1.toInt + 8 ≤ j) → m_c X σ a j = m_c X σ a j := fun _ _ _ => rfl
  have smσ : 0 ≤ (σ.1 a 15).toInt ∧ (σ.1 a 15).toInt ≤ (σ.1 a 16).toInt ∧ (σ.1 a 16).toInt ≤ (σ.1 a 9).toInt ∧ (σ.1 a 9).toInt ≤ 900 ∧ 0 ≤ (σ.1 a 14).toInt ∧ (σ.1 a 14).toInt ≤ 4 ∧ (σ.1 a 14).toInt ≤ 4 * ((σ.1 a 16).toInt - (σ.1 a 15).toInt) ∧ (σ.1 a 14).toInt ≤ 4 * ((σ.1 a 9).toInt - (σ.1 a 15).toInt) ∧ 0 ≤ (σ.1 a 12).toInt ∧ (σ.1 a 9).toInt = (σ.1 a 9).toInt ∧ (σ.1 a 15).toInt ≤ (σ.1 a 15).toInt ∧ (σ.1 a 12).toInt ≤ (σ.1 a 12).toInt := (by omega)
  have nsσ : (σ.1 a 27).toInt = (σ.1 a 27).toInt := rfl
  have fr_σ : q_ow [(12, 12), (12, 13), (12, 14), (12, 15), (12, 16), (12, 17), (12, 18), (34, 99)] [(12, 19)] X σ σ := q_ow.rf
  obtain ⟨out, hout⟩ : ∃ o, o = F_X12_readTest X σ a v1 := ⟨_, rfl⟩
  have hF := hout.symm
  unfold F_X12_readTest at hF
  refine lv_aload_n hx hb dX12_readTest_0 rfl (lv_at hl 0 rfl) ?_
  refine q_ci (q_runV (As := []) (rest := []) E (hml.trans hl.1.symm) hI (c_X12_testWord l X σ a ha) kv_X12_178 ha ⟨rfl, by decide⟩ (show vwCl[11]? = some (RX12, TX12, 46) from rfl) rfl ⟨Nat.le_of_ble_eq_true rfl, Nat.le_of_ble_eq_true rfl⟩ ⟨Nat.le_refl _, Nat.le_refl _⟩ rfl (Nat.le_of_ble_eq_true rfl) dX12_readTest_1) hI (by decide) (fun r_1 σ_2 H locs hpσ_2 hkσ_2 hI => ?_)
  obtain ⟨ahpσ_2, bhpσ_2, chpσ_2⟩ := hpσ_2
  rw [ahpσ_2] at hI
  replace hF := q_letX hF chpσ_2
  refine lv_istore_n (lv' := [(2, .int r_1), (0, .ref a), (1, .int v1)]) hx hb dX12_readTest_4 rfl hl (by decide) rfl (fun ls hl => ?_)
  refine lv_aload_n hx hb dX12_readTest_5 rfl (lv_at hl 1 rfl) ?_
  refine lv_iload_n hx hb dX12_readTest_6 rfl (lv_at hl 0 rfl) ?_
  have J_15_3 : ∀ (x_3 : Int32) (H : Heap) (locs : List Loc) (ls : Array Slot), (0 ≤ x_3.toInt ∧ x_3.toInt ≤ 1 ∧ x_3.toInt ≤ r_1.toInt + 1) → (F_X12_readTest_J15_1 X σ a v1 r_1 x_3 = out) → q_I X 1 σ s.heap locs σ H → lv_has ls 3 [(0, .ref a), (1, .int v1), (2, .int r_1)] → W p l e (q_rm 6 129) s m ([.ref a, .int v1] : List Value).toArray below meth c H locs 0 0 (MQ below QQ ([.ref a, .int v1] : List Value).toArray s 0 0 (q_reg X)) (F0 m 15 ls [.int x_3, .ref a]) := by
    clear hF
    intro x_3 H locs ls j15 hF hI hl
    unfold F_X12_readTest_J15_1 at hF
    refine q_cv (q_runV (As := [.int x_3]) (rest := []) E (hml.trans hl.1.symm) hI (c_X12_must l X σ a x_3 ha (by first | exact sm_9 smσ | exact hs | omega) (by omega)) kv_X12_216 ha ⟨rfl, by decide⟩ (show vwCl[11]? = some (RX12, TX12, 46) from rfl) rfl ⟨Nat.le_of_ble_eq_true rfl, Nat.le_of_ble_eq_true rfl⟩ ⟨Nat.le_refl _, Nat.le_refl _⟩ rfl (Nat.le_of_ble_eq_true rfl) dX12_readTest_15) hI (by decide) (fun σ_5 H locs hpσ_5 hkσ_5 hI => ?_)
    obtain ⟨ahpσ_5, bhpσ_5, chpσ_5, dhpσ_5, ehpσ_5⟩ := hpσ_5
    have fr_σ_5 := fr_σ.call ehpσ_5 rfl rfl
    replace hF := q_letX hF dhpσ_5
    have mv27_σ_5 : (σ_5.1 a 27).toInt = (σ.1 a 27).toInt := congrArg Int32.toInt (ahpσ_5 a 27 (q_cl9 _ _) (fun h => absurd h.2.2 (by decide)))
    have mcσ_5 := m_cK hkσ_5 hI.1 ha (by decide)
    have kwσ_5 : ∀ j, 0 ≤ j → (j < v1.toInt + 1 ∨ v1.toInt + 8 ≤ j) → m_c X σ_5 a j = m_c X σ a j := fun j h0 h1 => (mcσ_5 j).trans (kwσ j h0 h1)
    have smσ_5 : 0 ≤ (σ_5.1 a 15).toInt ∧ (σ_5.1 a 15).toInt ≤ (σ_5.1 a 16).toInt ∧ (σ_5.1 a 16).toInt ≤ (σ_5.1 a 9).toInt ∧ (σ_5.1 a 9).toInt ≤ 900 ∧ 0 ≤ (σ_5.1 a 14).toInt ∧ (σ_5.1 a 14).toInt ≤ 4 ∧ (σ_5.1 a 14).toInt ≤ 4 * ((σ_5.1 a 16).toInt - (σ_5.1 a 15).toInt) ∧ (σ_5.1 a 14).toInt ≤ 4 * ((σ_5.1 a 9).toInt - (σ_5.1 a 15).toInt) ∧ 0 ≤ (σ_5.1 a 12).toInt ∧ (σ_5.1 a 9).toInt = (σ.1 a 9).toInt ∧ (σ.1 a 15).toInt ≤ (σ_5.1 a 15).toInt ∧ (σ.1 a 12).toInt ≤ (σ_5.1 a 12).toInt := (by first | exact sm_tr smσ bhpσ_5 | exact sm_tr smσ chpσ_5 | omega)
    have nsσ_5 : (σ_5.1 a 27).toInt = (σ.1 a 27).toInt := (by omega)
    have t5σ_5 : 0 ≤ r_1.toInt + (σ_5.1 a 12).toInt := (by omega)
    clear mv27_σ_5 smσ nsσ bhpσ_5
    refine lv_aload_n hx hb dX12_readTest_18 rfl (lv_at hl 0 rfl) ?_
    refine gs_X12_35_12 E hI ha dX12_readTest_19 ?_
    refine lv_iload_n hx hb dX12_readTest_22 rfl (lv_at hl 1 rfl) ?_
    refine lv_bipush (v := 6) hx hb dX12_readTest_23 (by decide) ?_
    refine lv_iadd hx hb dX12_readTest_25 ?_
    refine lv_topi (fun z_6 ez_6 => ?_)
    replace hF := q_letX hF ez_6
    have iz_6 := q_addI (A := v1.toInt) (B := 6) ez_6 rfl (by decide) (by omega) (by omega)
    refine lv_iload_n hx hb dX12_readTest_26 rfl (lv_at hl 2 rfl) ?_
    refine q_iastN E hI (q_tk (k' := 34) hI ha rfl (by decide)) ⟨by decide, rfl⟩ (by omega) (by rw [q_lnk (v := 4650) hI (q_tk (k' := 34) hI ha rfl (by decide)) rfl (by decide)]; omega) (show 1 < 2 by decide) (q_inU rfl) dX12_readTest_27 (fun H locs σ_7 hσ_7 hI => ?_)
    replace hF := q_letX hF hσ_7
    have fr_σ_7 := fr_σ_5.si hσ_7 (q_tk (k' := 34) hI ha rfl (by decide)) rfl
    have mv9_σ_7 : (σ_7.1 a 9).toInt = (σ_5.1 a 9).toInt := congrArg Int32.toInt (q_rdn hσ_7 (Or.inl (m_ne ha (q_tk (k' := 34) hI ha rfl (by decide)) (by decide))))
    have mv12_σ_7 : (σ_7.1 a 12).toInt = (σ_5.1 a 12).toInt := congrArg Int32.toInt (q_rdn hσ_7 (Or.inl (m_ne ha (q_tk (k' := 34) hI ha rfl (by decide)) (by decide))))
    have mv14_σ_7 : (σ_7.1 a 14).toInt = (σ_5.1 a 14).toInt := congrArg Int32.toInt (q_rdn hσ_7 (Or.inl (m_ne ha (q_tk (k' := 34) hI ha rfl (by decide)) (by decide))))
    have mv15_σ_7 : (σ_7.1 a 15).toInt = (σ_5.1 a 15).toInt := congrArg Int32.toInt (q_rdn hσ_7 (Or.inl (m_ne ha (q_tk (k' := 34) hI ha rfl (by decide)) (by decide))))
    have mv16_σ_7 : (σ_7.1 a 16).toInt = (σ_5.1 a 16).toInt := congrArg Int32.toInt (q_rdn hσ_7 (Or.inl (m_ne ha (q_tk (k' := 34) hI ha rfl (by decide)) (by decide))))
    have mv27_σ_7 : (σ_7.1 a 27).toInt = (σ_5.1 a 27).toInt := congrArg Int32.toInt (q_rdn hσ_7 (Or.inl (m_ne ha (q_tk (k' := 34) hI ha rfl (by decide)) (by decide))))
    have mcσ_7 := m_wr (v := r_1) (A := (v1.toInt + 6)) hσ_7 iz_6 (by omega)
    have kwσ_7 : ∀ j, 0 ≤ j → (j < v1.toInt + 1 ∨ v1.toInt + 8 ≤ j) → m_c X σ_7 a j = m_c X σ a j := fun j h0 h1 => by rw [mcσ_7 j h0, if_neg (by omega)]; exact kwσ_5 j h0 h1
    have smσ_7 : 0 ≤ (σ_7.1 a 15).toInt ∧ (σ_7.1 a 15).toInt ≤ (σ_7.1 a 16).toInt ∧ (σ_7.1 a 16).toInt ≤ (σ_7.1 a 9).toInt ∧ (σ_7.1 a 9).toInt ≤ 900 ∧ 0 ≤ (σ_7.1 a 14).toInt ∧ (σ_7.1 a 14).toInt ≤ 4 ∧ (σ_7.1 a 14).toInt ≤ 4 * ((σ_7.1 a 16).toInt - (σ_7.1 a 15).toInt) ∧ (σ_7.1 a 14).toInt ≤ 4 * ((σ_7.1 a 9).toInt - (σ_7.1 a 15).toInt) ∧ 0 ≤ (σ_7.1 a 12).toInt ∧ (σ_7.1 a 9).toInt = (σ.1 a 9).toInt ∧ (σ.1 a 15).toInt ≤ (σ_7.1 a 15).toInt ∧ (σ.1 a 12).toInt ≤ (σ_7.1 a 12).toInt := (by first | (rw [mv12_σ_7, mv14_σ_7, mv15_σ_7, mv16_σ_7, mv9_σ_7]; exact smσ_5) | omega)
    have nsσ_7 : (σ_7.1 a 27).toInt = (σ.1 a 27).toInt := (by omega)
    have t5σ_7 : 0 ≤ r_1.toInt + (σ_7.1 a 12).toInt := (by omega)
    have t6σ_7 : m_c X σ_7 a (v1.toInt + 6) = r_1.toInt := (by rw [mcσ_7 (v1.toInt + 6) (by omega), if_pos rfl])
    clear mv9_σ_7 mv12_σ_7 mv14_σ_7 mv15_σ_7 mv16_σ_7 mv27_σ_7 smσ_5 nsσ_5 t5σ_5
    refine lv_iload_n hx hb dX12_readTest_28 rfl (lv_at hl 2 rfl) ?_
    have J_50_8 : ∀  (σ_8 : ST) (H : Heap) (locs : List Loc) (ls : Array Slot), (m_t1 (m_c X σ_8 a) v1.toInt) → (q_ow [(12, 12), (12, 13), (12, 14), (12, 15), (12, 16), (12, 17), (12, 18), (34, 99)] [(12, 19)] X σ σ_8) → (∀ j, 0 ≤ j → (j < v1.toInt + 1 ∨ v1.toInt + 8 ≤ j) → m_c X σ_8 a j = m_c X σ a j) → (0 ≤ (σ_8.1 a 15).toInt ∧ (σ_8.1 a 15).toInt ≤ (σ_8.1 a 16).toInt ∧ (σ_8.1 a 16).toInt ≤ (σ_8.1 a 9).toInt ∧ (σ_8.1 a 9).toInt ≤ 900 ∧ 0 ≤ (σ_8.1 a 14).toInt ∧ (σ_8.1 a 14).toInt ≤ 4 ∧ (σ_8.1 a 14).toInt ≤ 4 * ((σ_8.1 a 16).toInt - (σ_8.1 a 15).toInt) ∧ (σ_8.1 a 14).toInt ≤ 4 * ((σ_8.1 a 9).toInt - (σ_8.1 a 15).toInt) ∧ 0 ≤ (σ_8.1 a 12).toInt ∧ (σ_8.1 a 9).toInt = (σ.1 a 9).toInt ∧ (σ.1 a 15).toInt ≤ (σ_8.1 a 15).toInt ∧ (σ.1 a 12).toInt ≤ (σ_8.1 a 12).toInt) → ((σ_8.1 a 27).toInt = (σ.1 a 27).toInt) → (0 ≤ r_1.toInt + (σ_8.1 a 12).toInt) → (m_c X σ_8 a (v1.toInt + 6) = r_1.toInt) → (F_X12_readTest_J50_2 X a r_1 v1 σ_8 = out) → q_I X 1 σ s.heap locs σ_8 H → lv_has ls 3 [(0, .ref a), (1, .int v1), (2, .int r_1)] → W p l e (q_rm 6 129) s m ([.ref a, .int v1] : List Value).toArray below meth c H locs 0 0 (MQ below QQ ([.ref a, .int v1] : List Value).toArray s 0 0 (q_reg X)) (F0 m 50 ls []) := by
      clear hF
      intro σ_8 H locs ls t1σ_8 fr_σ_8 kwσ_8 smσ_8 nsσ_8 t5σ_8 t6σ_8 hF hI hl
      try clear kwσ; try clear fr_σ; try clear ahpσ_2; try clear ahpσ_5; try clear fr_σ_5; try clear mcσ_5; try clear kwσ_5; try clear fr_σ_7; try clear mcσ_7; try clear kwσ_7; try clear smσ_7; try clear nsσ_7
      unfold F_X12_readTest_J50_2 at hF
      refine lv_aload_n hx hb dX12_readTest_50 rfl (lv_at hl 0 rfl) ?_
      refine gs_X12_187_12 E hI ha dX12_readTest_51 ?_
      refine lv_topi (fun f_9 ef_9 => ?_)
      replace hF := q_letX hF ef_9
      have if_9 : f_9.toInt = (σ_8.1 a 12).toInt := congrArg Int32.toInt ef_9
      refine q_if_gt (A := f_9.toInt) E rfl (tgt := 62) dX12_readTest_54 (by decide) (fun c_10 => ?_) (fun c_10 => ?_)
      · skip
        replace hF := q_ifp hF c_10
        rewrite [hQQ]; exact q_retv E hr hlk hI ⟨kwσ_8, (by first | exact smσ_8 | omega), nsσ_8, (fun e => ⟨by rw [t6σ_8]; omega, t1σ_8⟩), (hF.trans hout), fr_σ_8⟩ dX12_readTest_62
      · skip
        replace hF := q_ifn hF (Int.not_lt.mpr c_10)
        refine lv_iload_n hx hb dX12_readTest_57 rfl (lv_at hl 2 rfl) ?_
        refine lv_iconst (v := 3) hx hb dX12_readTest_58 (by decide) ?_
        refine q_icmp_ne (A := r_1.toInt) (B := 3) E rfl (by decide) (tgt := 63) dX12_readTest_59 (by decide) (fun c_11 => ?_) (fun c_11 => ?_)
        · skip
          replace hF := q_ifn hF c_11
          refine lv_aload_n hx hb dX12_readTest_63 rfl (lv_at hl 0 rfl) ?_
          refine gs_X12_35_12 E hI ha dX12_readTest_64 ?_
          refine lv_iload_n hx hb dX12_readTest_67 rfl (lv_at hl 1 rfl) ?_
          refine lv_bipush (v := 7) hx hb dX12_readTest_68 (by decide) ?_
          refine lv_iadd hx hb dX12_readTest_70 ?_
          refine lv_topi (fun z_12 ez_12 => ?_)
          replace hF := q_letX hF ez_12
          have iz_12 := q_addI (A := v1.toInt) (B := 7) ez_12 rfl (by decide) (by omega) (by omega)
          refine lv_aload_n hx hb dX12_readTest_71 rfl (lv_at hl 0 rfl) ?_
          refine gs_X12_110_12 E hI ha dX12_readTest_72 ?_
          refine lv_topi (fun f_13 ef_13 => ?_)
          replace hF := q_letX hF ef_13
          have if_13 : f_13.toInt = (σ_8.1 a 14).toInt := congrArg Int32.toInt ef_13
          refine lv_iconst (v := 3) hx hb dX12_readTest_75 (by decide) ?_
          refine q_icmp_ne (A := f_13.toInt) (B := 3) E rfl (by decide) (tgt := 86) dX12_readTest_76 (by decide) (fun c_14 => ?_) (fun c_14 => ?_)
          · skip
            replace hF := q_ifn hF c_14
            refine lv_iconst (v := 0) hx hb dX12_readTest_86 (by decide) ?_
            have kc_16 : (0 : Int32).toInt = 0 := rfl
            refine q_iastN E hI (q_tk (k' := 34) hI ha rfl (by decide)) ⟨by decide, rfl⟩ (by omega) (by rw [q_lnk (v := 4650) hI (q_tk (k' := 34) hI ha rfl (by decide)) rfl (by decide)]; omega) (show 1 < 2 by decide) (q_inU rfl) dX12_readTest_87 (fun H locs σ_15 hσ_15 hI => ?_)
            replace hF := q_letX hF hσ_15
            have fr_σ_15 := fr_σ_8.si hσ_15 (q_tk (k' := 34) hI ha rfl (by decide)) rfl
            have mv9_σ_15 : (σ_15.1 a 9).toInt = (σ_8.1 a 9).toInt := congrArg Int32.toInt (q_rdn hσ_15 (Or.inl (m_ne ha (q_tk (k' := 34) hI ha rfl (by decide)) (by decide))))
            have mv12_σ_15 : (σ_15.1 a 12).toInt = (σ_8.1 a 12).toInt := congrArg Int32.toInt (q_rdn hσ_15 (Or.inl (m_ne ha (q_tk (k' := 34) hI ha rfl (by decide)) (by decide))))
            have mv14_σ_15 : (σ_15.1 a 14).toInt = (σ_8.1 a 14).toInt := congrArg Int32.toInt (q_rdn hσ_15 (Or.inl (m_ne ha (q_tk (k' := 34) hI ha rfl (by decide)) (by decide))))
            have mv15_σ_15 : (σ_15.1 a 15).toInt = (σ_8.1 a 15).toInt := congrArg Int32.toInt (q_rdn hσ_15 (Or.inl (m_ne ha (q_tk (k' := 34) hI ha rfl (by decide)) (by decide))))
            have mv16_σ_15 : (σ_15.1 a 16).toInt = (σ_8.1 a 16).toInt := congrArg Int32.toInt (q_rdn hσ_15 (Or.inl (m_ne ha (q_tk (k' := 34) hI ha rfl (by decide)) (by decide))))
            have mv27_σ_15 : (σ_15.1 a 27).toInt = (σ_8.1 a 27).toInt := congrArg Int32.toInt (q_rdn hσ_15 (Or.inl (m_ne ha (q_tk (k' := 34) hI ha rfl (by decide)) (by decide))))
            have mcσ_15 := m_wr (v := (0 : Int32)) (A := (v1.toInt + 7)) hσ_15 iz_12 (by omega)
            have kwσ_15 : ∀ j, 0 ≤ j → (j < v1.toInt + 1 ∨ v1.toInt + 8 ≤ j) → m_c X σ_15 a j = m_c X σ a j := fun j h0 h1 => by rw [mcσ_15 j h0, if_neg (by omega)]; exact kwσ_8 j h0 h1
            have smσ_15 : 0 ≤ (σ_15.1 a 15).toInt ∧ (σ_15.1 a 15).toInt ≤ (σ_15.1 a 16).toInt ∧ (σ_15.1 a 16).toInt ≤ (σ_15.1 a 9).toInt ∧ (σ_15.1 a 9).toInt ≤ 900 ∧ 0 ≤ (σ_15.1 a 14).toInt ∧ (σ_15.1 a 14).toInt ≤ 4 ∧ (σ_15.1 a 14).toInt ≤ 4 * ((σ_15.1 a 16).toInt - (σ_15.1 a 15).toInt) ∧ (σ_15.1 a 14).toInt ≤ 4 * ((σ_15.1 a 9).toInt - (σ_15.1 a 15).toInt) ∧ 0 ≤ (σ_15.1 a 12).toInt ∧ (σ_15.1 a 9).toInt = (σ.1 a 9).toInt ∧ (σ.1 a 15).toInt ≤ (σ_15.1 a 15).toInt ∧ (σ.1 a 12).toInt ≤ (σ_15.1 a 12).toInt := (by first | (rw [mv12_σ_15, mv14_σ_15, mv15_σ_15, mv16_σ_15, mv9_σ_15]; exact smσ_8) | omega)
            have nsσ_15 : (σ_15.1 a 27).toInt = (σ.1 a 27).toInt := (by omega)
            have t5σ_15 : 0 ≤ r_1.toInt + (σ_15.1 a 12).toInt := (by omega)
            have t6σ_15 : m_c X σ_15 a (v1.toInt + 6) = r_1.toInt := (by rw [mcσ_15 (v1.toInt + 6) (by omega), if_neg (by omega)]; exact t6σ_8)
            have t1σ_15 : m_t1 (m_c X σ_15 a) v1.toInt := m_t1.k t1σ_8 (by rw [mcσ_15 (v1.toInt + 6) (by omega), if_neg (by omega)]) (by rw [mcσ_15 (v1.toInt + 1) (by omega), if_neg (by omega)])
            clear mv9_σ_15 mv12_σ_15 mv14_σ_15 mv15_σ_15 mv16_σ_15 mv27_σ_15 smσ_8 nsσ_8 t5σ_8
            refine lv_aload_n hx hb dX12_readTest_88 rfl (lv_at hl 0 rfl) ?_
            refine lv_aload_n hx hb dX12_readTest_89 rfl (lv_at hl 0 rfl) ?_
            refine lv_bipush (v := 60) hx hb dX12_readTest_90 (by decide) ?_
            have kc_17 : (60 : Int32).toInt = 60 := rfl
            refine q_ci (q_runV (As := [.int 60]) (rest := [.ref a]) E (hml.trans hl.1.symm) hI (c_X12_isSign l X σ_15 a (60 : Int32) ha) kv_X12_243 ha ⟨rfl, by decide⟩ (show vwCl[11]? = some (RX12, TX12, 46) from rfl) rfl ⟨Nat.le_of_ble_eq_true rfl, Nat.le_of_ble_eq_true rfl⟩ ⟨Nat.le_refl _, Nat.le_refl _⟩ rfl (Nat.le_of_ble_eq_true rfl) dX12_readTest_92) hI (by decide) (fun r_18 σ_19 H locs hpσ_19 hkσ_19 hI => ?_)
            obtain ⟨ahpσ_19, bhpσ_19, chpσ_19⟩ := hpσ_19
            rw [ahpσ_19] at hI
            replace hF := q_letX hF chpσ_19
            refine q_if_ne (A := r_18.toInt) E rfl (tgt := 116) dX12_readTest_95 (by decide) (fun c_20 => ?_) (fun c_20 => ?_)
            · skip
              replace hF := q_ifn hF c_20
              refine lv_iconst (v := 1) hx hb dX12_readTest_116 (by decide) ?_
              refine lv_goto (tgt := 121) hx hb dX12_readTest_117 (by decide) ?_
              have kc_21 : (1 : Int32).toInt = 1 := rfl
              refine q_cv (q_runV (As := [.int 1]) (rest := []) E (hml.trans hl.1.symm) hI (c_X12_must l X σ_15 a (1 : Int32) ha (by first | exact sm_9 smσ_15 | exact hs | omega) (by omega)) kv_X12_216 ha ⟨rfl, by decide⟩ (show vwCl[11]? = some (RX12, TX12, 46) from rfl) rfl ⟨Nat.le_of_ble_eq_true rfl, Nat.le_of_ble_eq_true rfl⟩ ⟨Nat.le_refl _, Nat.le_refl _⟩ rfl (Nat.le_of_ble_eq_true rfl) dX12_readTest_121) hI (by decide) (fun σ_23 H locs hpσ_23 hkσ_23 hI => ?_)
              obtain ⟨ahpσ_23, bhpσ_23, chpσ_23, dhpσ_23, ehpσ_23⟩ := hpσ_23
              have fr_σ_23 := fr_σ_15.call ehpσ_23 rfl rfl
              replace hF := q_letX hF dhpσ_23
              have mv27_σ_23 : (σ_23.1 a 27).toInt = (σ_15.1 a 27).toInt := congrArg Int32.toInt (ahpσ_23 a 27 (q_cl9 _ _) (fun h => absurd h.2.2 (by decide)))
              have mcσ_23 := m_cK hkσ_23 hI.1 ha (by decide)
              have kwσ_23 : ∀ j, 0 ≤ j → (j < v1.toInt + 1 ∨ v1.toInt + 8 ≤ j) → m_c X σ_23 a j = m_c X σ a j := fun j h0 h1 => (mcσ_23 j).trans (kwσ_15 j h0 h1)
              have smσ_23 : 0 ≤ (σ_23.1 a 15).toInt ∧ (σ_23.1 a 15).toInt ≤ (σ_23.1 a 16).toInt ∧ (σ_23.1 a 16).toInt ≤ (σ_23.1 a 9).toInt ∧ (σ_23.1 a 9).toInt ≤ 900 ∧ 0 ≤ (σ_23.1 a 14).toInt ∧ (σ_23.1 a 14).toInt ≤ 4 ∧ (σ_23.1 a 14).toInt ≤ 4 * ((σ_23.1 a 16).toInt - (σ_23.1 a 15).toInt) ∧ (σ_23.1 a 14).toInt ≤ 4 * ((σ_23.1 a 9).toInt - (σ_23.1 a 15).toInt) ∧ 0 ≤ (σ_23.1 a 12).toInt ∧ (σ_23.1 a 9).toInt = (σ.1 a 9).toInt ∧ (σ.1 a 15).toInt ≤ (σ_23.1 a 15).toInt ∧ (σ.1 a 12).toInt ≤ (σ_23.1 a 12).toInt := (by first | exact sm_tr smσ_15 bhpσ_23 | exact sm_tr smσ_15 chpσ_23 | omega)
              have nsσ_23 : (σ_23.1 a 27).toInt = (σ.1 a 27).toInt := (by omega)
              have t5σ_23 : 0 ≤ r_1.toInt + (σ_23.1 a 12).toInt := (by omega)
              have t6σ_23 : m_c X σ_23 a (v1.toInt + 6) = r_1.toInt := (mcσ_23 _).trans t6σ_15
              have t1σ_23 : m_t1 (m_c X σ_23 a) v1.toInt := m_t1.k t1σ_15 (mcσ_23 _) (mcσ_23 _)
              clear mv27_σ_23 smσ_15 nsσ_15 t5σ_15 bhpσ_23
              refine lv_aload_n hx hb dX12_readTest_124 rfl (lv_at hl 0 rfl) ?_
              refine gs_X12_35_12 E hI ha dX12_readTest_125 ?_
              refine lv_iload_n hx hb dX12_readTest_128 rfl (lv_at hl 1 rfl) ?_
              refine lv_iconst (v := 2) hx hb dX12_readTest_129 (by decide) ?_
              refine lv_iadd hx hb dX12_readTest_130 ?_
              refine lv_topi (fun z_24 ez_24 => ?_)
              replace hF := q_letX hF ez_24
              have iz_24 := q_addI (A := v1.toInt) (B := 2) ez_24 rfl (by decide) (by omega) (by omega)
              refine lv_aload_n hx hb dX12_readTest_131 rfl (lv_at hl 0 rfl) ?_
              refine lv_iconst (v := 0) hx hb dX12_readTest_132 (by decide) ?_
              refine lv_iload_n hx hb dX12_readTest_133 rfl (lv_at hl 2 rfl) ?_
              refine lv_iconst (v := 2) hx hb dX12_readTest_134 (by decide) ?_
              refine q_icmp_ne (A := r_1.toInt) (B := 2) E rfl (by decide) (tgt := 144) dX12_readTest_135 (by decide) (fun c_25 => ?_) (fun c_25 => ?_)
              · skip
                replace hF := q_ifn hF c_25
                refine lv_bipush (v := 80) hx hb dX12_readTest_144 (by decide) ?_
                have kc_26 : (0 : Int32).toInt = 0 := rfl
                have kc_27 : (80 : Int32).toInt = 80 := rfl
                refine q_ci (q_runV (As := [.int 0, .int 80]) (rest := [.int z_24, .ref (q_rf X a 20)]) E (hml.trans hl.1.symm) hI (c_X12_count l X σ_23 a (0 : Int32) (80 : Int32) ha (by first | exact sm_9 smσ_23 | exact hs | omega) (by omega)) kv_X12_223 ha ⟨rfl, by decide⟩ (show vwCl[11]? = some (RX12, TX12, 46) from rfl) rfl ⟨Nat.le_of_ble_eq_true rfl, Nat.le_of_ble_eq_true rfl⟩ ⟨Nat.le_refl _, Nat.le_refl _⟩ rfl (Nat.le_of_ble_eq_true rfl) dX12_readTest_146) hI (by decide) (fun r_28 σ_29 H locs hpσ_29 hkσ_29 hI => ?_)
                obtain ⟨ahpσ_29, bhpσ_29, chpσ_29, dhpσ_29, ehpσ_29⟩ := hpσ_29
                have fr_σ_29 := fr_σ_23.call ehpσ_29 rfl rfl
                replace hF := q_biX hF dhpσ_29
                have mv27_σ_29 : (σ_29.1 a 27).toInt = (σ_23.1 a 27).toInt := congrArg Int32.toInt (ahpσ_29 a 27 (q_cl9 _ _) (fun h => absurd h.2.2 (by decide)))
                have mcσ_29 := m_cK hkσ_29 hI.1 ha (by decide)
                have kwσ_29 : ∀ j, 0 ≤ j → (j < v1.toInt + 1 ∨ v1.toInt + 8 ≤ j) → m_c X σ_29 a j = m_c X σ a j := fun j h0 h1 => (mcσ_29 j).trans (kwσ_23 j h0 h1)
                have smσ_29 : 0 ≤ (σ_29.1 a 15).toInt ∧ (σ_29.1 a 15).toInt ≤ (σ_29.1 a 16).toInt ∧ (σ_29.1 a 16).toInt ≤ (σ_29.1 a 9).toInt ∧ (σ_29.1 a 9).toInt ≤ 900 ∧ 0 ≤ (σ_29.1 a 14).toInt ∧ (σ_29.1 a 14).toInt ≤ 4 ∧ (σ_29.1 a 14).toInt ≤ 4 * ((σ_29.1 a 16).toInt - (σ_29.1 a 15).toInt) ∧ (σ_29.1 a 14).toInt ≤ 4 * ((σ_29.1 a 9).toInt - (σ_29.1 a 15).toInt) ∧ 0 ≤ (σ_29.1 a 12).toInt ∧ (σ_29.1 a 9).toInt = (σ.1 a 9).toInt ∧ (σ.1 a 15).toInt ≤ (σ_29.1 a 15).toInt ∧ (σ.1 a 12).toInt ≤ (σ_29.1 a 12).toInt := (by first | exact sm_tr smσ_23 bhpσ_29 | exact sm_tr smσ_23 chpσ_29 | omega)
                have nsσ_29 : (σ_29.1 a 27).toInt = (σ.1 a 27).toInt := (by omega)
                have t5σ_29 : 0 ≤ r_1.toInt + (σ_29.1 a 12).toInt := (by omega)
                have t6σ_29 : m_c X σ_29 a (v1.toInt + 6) = r_1.toInt := (mcσ_29 _).trans t6σ_23
                have t1σ_29 : m_t1 (m_c X σ_29 a) v1.toInt := m_t1.k t1σ_23 (mcσ_29 _) (mcσ_29 _)
                clear mv27_σ_29 smσ_23 nsσ_23 t5σ_23 bhpσ_29
                refine q_iastN E hI (q_tk (k' := 34) hI ha rfl (by decide)) ⟨by decide, rfl⟩ (by omega) (by rw [q_lnk (v := 4650) hI (q_tk (k' := 34) hI ha rfl (by decide)) rfl (by decide)]; omega) (show 1 < 2 by decide) (q_inU rfl) dX12_readTest_149 (fun H locs σ_30 hσ_30 hI => ?_)
                replace hF := q_letX hF hσ_30
                have fr_σ_30 := fr_σ_29.si hσ_30 (q_tk (k' := 34) hI ha rfl (by decide)) rfl
                have mv9_σ_30 : (σ_30.1 a 9).toInt = (σ_29.1 a 9).toInt := congrArg Int32.toInt (q_rdn hσ_30 (Or.inl (m_ne ha (q_tk (k' := 34) hI ha rfl (by decide)) (by decide))))
                have mv12_σ_30 : (σ_30.1 a 12).toInt = (σ_29.1 a 12).toInt := congrArg Int32.toInt (q_rdn hσ_30 (Or.inl (m_ne ha (q_tk (k' := 34) hI ha rfl (by decide)) (by decide))))
                have mv14_σ_30 : (σ_30.1 a 14).toInt = (σ_29.1 a 14).toInt := congrArg Int32.toInt (q_rdn hσ_30 (Or.inl (m_ne ha (q_tk (k' := 34) hI ha rfl (by decide)) (by decide))))
                have mv15_σ_30 : (σ_30.1 a 15).toInt = (σ_29.1 a 15).toInt := congrArg Int32.toInt (q_rdn hσ_30 (Or.inl (m_ne ha (q_tk (k' := 34) hI ha rfl (by decide)) (by decide))))
                have mv16_σ_30 : (σ_30.1 a 16).toInt = (σ_29.1 a 16).toInt := congrArg Int32.toInt (q_rdn hσ_30 (Or.inl (m_ne ha (q_tk (k' := 34) hI ha rfl (by decide)) (by decide))))
                have mv27_σ_30 : (σ_30.1 a 27).toInt = (σ_29.1 a 27).toInt := congrArg Int32.toInt (q_rdn hσ_30 (Or.inl (m_ne ha (q_tk (k' := 34) hI ha rfl (by decide)) (by decide))))
                have mcσ_30 := m_wr (v := r_28) (A := (v1.toInt + 2)) hσ_30 iz_24 (by omega)
                have kwσ_30 : ∀ j, 0 ≤ j → (j < v1.toInt + 1 ∨ v1.toInt + 8 ≤ j) → m_c X σ_30 a j = m_c X σ a j := fun j h0 h1 => by rw [mcσ_30 j h0, if_neg (by omega)]; exact kwσ_29 j h0 h1
                have smσ_30 : 0 ≤ (σ_30.1 a 15).toInt ∧ (σ_30.1 a 15).toInt ≤ (σ_30.1 a 16).toInt ∧ (σ_30.1 a 16).toInt ≤ (σ_30.1 a 9).toInt ∧ (σ_30.1 a 9).toInt ≤ 900 ∧ 0 ≤ (σ_30.1 a 14).toInt ∧ (σ_30.1 a 14).toInt ≤ 4 ∧ (σ_30.1 a 14).toInt ≤ 4 * ((σ_30.1 a 16).toInt - (σ_30.1 a 15).toInt) ∧ (σ_30.1 a 14).toInt ≤ 4 * ((σ_30.1 a 9).toInt - (σ_30.1 a 15).toInt) ∧ 0 ≤ (σ_30.1 a 12).toInt ∧ (σ_30.1 a 9).toInt = (σ.1 a 9).toInt ∧ (σ.1 a 15).toInt ≤ (σ_30.1 a 15).toInt ∧ (σ.1 a 12).toInt ≤ (σ_30.1 a 12).toInt := (by first | (rw [mv12_σ_30, mv14_σ_30, mv15_σ_30, mv16_σ_30, mv9_σ_30]; exact smσ_29) | omega)
                have nsσ_30 : (σ_30.1 a 27).toInt = (σ.1 a 27).toInt := (by omega)
                have t5σ_30 : 0 ≤ r_1.toInt + (σ_30.1 a 12).toInt := (by omega)
                have t6σ_30 : m_c X σ_30 a (v1.toInt + 6) = r_1.toInt := (by rw [mcσ_30 (v1.toInt + 6) (by omega), if_neg (by omega)]; exact t6σ_29)
                have t1σ_30 : m_t1 (m_c X σ_30 a) v1.toInt := m_t1.k t1σ_29 (by rw [mcσ_30 (v1.toInt + 6) (by omega), if_neg (by omega)]) (by rw [mcσ_30 (v1.toInt + 1) (by omega), if_neg (by omega)])
                clear mv9_σ_30 mv12_σ_30 mv14_σ_30 mv15_σ_30 mv16_σ_30 mv27_σ_30 smσ_29 nsσ_29 t5σ_29
                rewrite [hQQ]; exact q_retv E hr hlk hI ⟨kwσ_30, (by first | exact smσ_30 | omega), nsσ_30, (fun e => ⟨by rw [t6σ_30]; omega, t1σ_30⟩), (hF.trans hout), fr_σ_30⟩ dX12_readTest_150
              · skip
                replace hF := q_ifp hF c_25
                refine lv_sipush (v := 999) hx hb dX12_readTest_138 (by decide) ?_
                refine lv_goto (tgt := 146) hx hb dX12_readTest_141 (by decide) ?_
                have kc_31 : (0 : Int32).toInt = 0 := rfl
                have kc_32 : (999 : Int32).toInt = 999 := rfl
                refine q_ci (q_runV (As := [.int 0, .int 999]) (rest := [.int z_24, .ref (q_rf X a 20)]) E (hml.trans hl.1.symm) hI (c_X12_count l X σ_23 a (0 : Int32) (999 : Int32) ha (by first | exact sm_9 smσ_23 | exact hs | omega) (by omega)) kv_X12_223 ha ⟨rfl, by decide⟩ (show vwCl[11]? = some (RX12, TX12, 46) from rfl) rfl ⟨Nat.le_of_ble_eq_true rfl, Nat.le_of_ble_eq_true rfl⟩ ⟨Nat.le_refl _, Nat.le_refl _⟩ rfl (Nat.le_of_ble_eq_true rfl) dX12_readTest_146) hI (by decide) (fun r_33 σ_34 H locs hpσ_34 hkσ_34 hI => ?_)
                obtain ⟨ahpσ_34, bhpσ_34, chpσ_34, dhpσ_34, ehpσ_34⟩ := hpσ_34
                have fr_σ_34 := fr_σ_23.call ehpσ_34 rfl rfl
                replace hF := q_biX hF dhpσ_34
                have mv27_σ_34 : (σ_34.1 a 27).toInt = (σ_23.1 a 27).toInt := congrArg Int32.toInt (ahpσ_34 a 27 (q_cl9 _ _) (fun h => absurd h.2.2 (by decide)))
                have mcσ_34 := m_cK hkσ_34 hI.1 ha (by decide)
                have kwσ_34 : ∀ j, 0 ≤ j → (j < v1.toInt + 1 ∨ v1.toInt + 8 ≤ j) → m_c X σ_34 a j = m_c X σ a j := fun j h0 h1 => (mcσ_34 j).trans (kwσ_23 j h0 h1)
                have smσ_34 : 0 ≤ (σ_34.1 a 15).toInt ∧ (σ_34.1 a 15).toInt ≤ (σ_34.1 a 16).toInt ∧ (σ_34.1 a 16).toInt ≤ (σ_34.1 a 9).toInt ∧ (σ_34.1 a 9).toInt ≤ 900 ∧ 0 ≤ (σ_34.1 a 14).toInt ∧ (σ_34.1 a 14).toInt ≤ 4 ∧ (σ_34.1 a 14).toInt ≤ 4 * ((σ_34.1 a 16).toInt - (σ_34.1 a 15).toInt) ∧ (σ_34.1 a 14).toInt ≤ 4 * ((σ_34.1 a 9).toInt - (σ_34.1 a 15).toInt) ∧ 0 ≤ (σ_34.1 a 12).toInt ∧ (σ_34.1 a 9).toInt = (σ.1 a 9).toInt ∧ (σ.1 a 15).toInt ≤ (σ_34.1 a 15).toInt ∧ (σ.1 a 12).toInt ≤ (σ_34.1 a 12).toInt := (by first | exact sm_tr smσ_23 bhpσ_34 | exact sm_tr smσ_23 chpσ_34 | omega)
                have nsσ_34 : (σ_34.1 a 27).toInt = (σ.1 a 27).toInt := (by omega)
                have t5σ_34 : 0 ≤ r_1.toInt + (σ_34.1 a 12).toInt := (by omega)
                have t6σ_34 : m_c X σ_34 a (v1.toInt + 6) = r_1.toInt := (mcσ_34 _).trans t6σ_23
                have t1σ_34 : m_t1 (m_c X σ_34 a) v1.toInt := m_t1.k t1σ_23 (mcσ_34 _) (mcσ_34 _)
                clear mv27_σ_34 smσ_23 nsσ_23 t5σ_23 bhpσ_34
                refine q_iastN E hI (q_tk (k' := 34) hI ha rfl (by decide)) ⟨by decide, rfl⟩ (by omega) (by rw [q_lnk (v := 4650) hI (q_tk (k' := 34) hI ha rfl (by decide)) rfl (by decide)]; omega) (show 1 < 2 by decide) (q_inU rfl) dX12_readTest_149 (fun H locs σ_35 hσ_35 hI => ?_)
                replace hF := q_letX hF hσ_35
                have fr_σ_35 := fr_σ_34.si hσ_35 (q_tk (k' := 34) hI ha rfl (by decide)) rfl
                have mv9_σ_35 : (σ_35.1 a 9).toInt = (σ_34.1 a 9).toInt := congrArg Int32.toInt (q_rdn hσ_35 (Or.inl (m_ne ha (q_tk (k' := 34) hI ha rfl (by decide)) (by decide))))
                have mv12_σ_35 : (σ_35.1 a 12).toInt = (σ_34.1 a 12).toInt := congrArg Int32.toInt (q_rdn hσ_35 (Or.inl (m_ne ha (q_tk (k' := 34) hI ha rfl (by decide)) (by decide))))
                have mv14_σ_35 : (σ_35.1 a 14).toInt = (σ_34.1 a 14).toInt := congrArg Int32.toInt (q_rdn hσ_35 (Or.inl (m_ne ha (q_tk (k' := 34) hI ha rfl (by decide)) (by decide))))
                have mv15_σ_35 : (σ_35.1 a 15).toInt = (σ_34.1 a 15).toInt := congrArg Int32.toInt (q_rdn hσ_35 (Or.inl (m_ne ha (q_tk (k' := 34) hI ha rfl (by decide)) (by decide))))
                have mv16_σ_35 : (σ_35.1 a 16).toInt = (σ_34.1 a 16).toInt := congrArg Int32.toInt (q_rdn hσ_35 (Or.inl (m_ne ha (q_tk (k' := 34) hI ha rfl (by decide)) (by decide))))
                have mv27_σ_35 : (σ_35.1 a 27).toInt = (σ_34.1 a 27).toInt := congrArg Int32.toInt (q_rdn hσ_35 (Or.inl (m_ne ha (q_tk (k' := 34) hI ha rfl (by decide)) (by decide))))
                have mcσ_35 := m_wr (v := r_33) (A := (v1.toInt + 2)) hσ_35 iz_24 (by omega)
                have kwσ_35 : ∀ j, 0 ≤ j → (j < v1.toInt + 1 ∨ v1.toInt + 8 ≤ j) → m_c X σ_35 a j = m_c X σ a j := fun j h0 h1 => by rw [mcσ_35 j h0, if_neg (by omega)]; exact kwσ_34 j h0 h1
                have smσ_35 : 0 ≤ (σ_35.1 a 15).toInt ∧ (σ_35.1 a 15).toInt ≤ (σ_35.1 a 16).toInt ∧ (σ_35.1 a 16).toInt ≤ (σ_35.1 a 9).toInt ∧ (σ_35.1 a 9).toInt ≤ 900 ∧ 0 ≤ (σ_35.1 a 14).toInt ∧ (σ_35.1 a 14).toInt ≤ 4 ∧ (σ_35.1 a 14).toInt ≤ 4 * ((σ_35.1 a 16).toInt - (σ_35.1 a 15).toInt) ∧ (σ_35.1 a 14).toInt ≤ 4 * ((σ_35.1 a 9).toInt - (σ_35.1 a 15).toInt) ∧ 0 ≤ (σ_35.1 a 12).toInt ∧ (σ_35.1 a 9).toInt = (σ.1 a 9).toInt ∧ (σ.1 a 15).toInt ≤ (σ_35.1 a 15).toInt ∧ (σ.1 a 12).toInt ≤ (σ_35.1 a 12).toInt := (by first | (rw [mv12_σ_35, mv14_σ_35, mv15_σ_35, mv16_σ_35, mv9_σ_35]; exact smσ_34) | omega)
                have nsσ_35 : (σ_35.1 a 27).toInt = (σ.1 a 27).toInt := (by omega)
                have t5σ_35 : 0 ≤ r_1.toInt + (σ_35.1 a 12).toInt := (by omega)
                have t6σ_35 : m_c X σ_35 a (v1.toInt + 6) = r_1.toInt := (by rw [mcσ_35 (v1.toInt + 6) (by omega), if_neg (by omega)]; exact t6σ_34)
                have t1σ_35 : m_t1 (m_c X σ_35 a) v1.toInt := m_t1.k t1σ_34 (by rw [mcσ_35 (v1.toInt + 6) (by omega), if_neg (by omega)]) (by rw [mcσ_35 (v1.toInt + 1) (by omega), if_neg (by omega)])
                clear mv9_σ_35 mv12_σ_35 mv14_σ_35 mv15_σ_35 mv16_σ_35 mv27_σ_35 smσ_34 nsσ_34 t5σ_34
                rewrite [hQQ]; exact q_retv E hr hlk hI ⟨kwσ_35, (by first | exact smσ_35 | omega), nsσ_35, (fun e => ⟨by rw [t6σ_35]; omega, t1σ_35⟩), (hF.trans hout), fr_σ_35⟩ dX12_readTest_150
            · skip
              replace hF := q_ifp hF c_20
              refine lv_aload_n hx hb dX12_readTest_98 rfl (lv_at hl 0 rfl) ?_
              refine lv_bipush (v := 62) hx hb dX12_readTest_99 (by decide) ?_
              have kc_36 : (62 : Int32).toInt = 62 := rfl
              refine q_ci (q_runV (As := [.int 62]) (rest := [.ref a]) E (hml.trans hl.1.symm) hI (c_X12_isSign l X σ_15 a (62 : Int32) ha) kv_X12_243 ha ⟨rfl, by decide⟩ (show vwCl[11]? = some (RX12, TX12, 46) from rfl) rfl ⟨Nat.le_of_ble_eq_true rfl, Nat.le_of_ble_eq_true rfl⟩ ⟨Nat.le_refl _, Nat.le_refl _⟩ rfl (Nat.le_of_ble_eq_true rfl) dX12_readTest_101) hI (by decide) (fun r_37 σ_38 H locs hpσ_38 hkσ_38 hI => ?_)
              obtain ⟨ahpσ_38, bhpσ_38, chpσ_38⟩ := hpσ_38
              rw [ahpσ_38] at hI
              replace hF := q_letX hF chpσ_38
              refine q_if_ne (A := r_37.toInt) E rfl (tgt := 116) dX12_readTest_104 (by decide) (fun c_39 => ?_) (fun c_39 => ?_)
              · skip
                replace hF := q_ifn hF c_39
                refine lv_iconst (v := 1) hx hb dX12_readTest_116 (by decide) ?_
                refine lv_goto (tgt := 121) hx hb dX12_readTest_117 (by decide) ?_
                have kc_40 : (1 : Int32).toInt = 1 := rfl
                refine q_cv (q_runV (As := [.int 1]) (rest := []) E (hml.trans hl.1.symm) hI (c_X12_must l X σ_15 a (1 : Int32) ha (by first | exact sm_9 smσ_15 | exact hs | omega) (by omega)) kv_X12_216 ha ⟨rfl, by decide⟩ (show vwCl[11]? = some (RX12, TX12, 46) from rfl) rfl ⟨Nat.le_of_ble_eq_true rfl, Nat.le_of_ble_eq_true rfl⟩ ⟨Nat.le_refl _, Nat.le_refl _⟩ rfl (Nat.le_of_ble_eq_true rfl) dX12_readTest_121) hI (by decide) (fun σ_42 H locs hpσ_42 hkσ_42 hI => ?_)
                obtain ⟨ahpσ_42, bhpσ_42, chpσ_42, dhpσ_42, ehpσ_42⟩ := hpσ_42
                have fr_σ_42 := fr_σ_15.call ehpσ_42 rfl rfl
                replace hF := q_letX hF dhpσ_42
                have mv27_σ_42 : (σ_42.1 a 27).toInt = (σ_15.1 a 27).toInt := congrArg Int32.toInt (ahpσ_42 a 27 (q_cl9 _ _) (fun h => absurd h.2.2 (by decide)))
                have mcσ_42 := m_cK hkσ_42 hI.1 ha (by decide)
                have kwσ_42 : ∀ j, 0 ≤ j → (j < v1.toInt + 1 ∨ v1.toInt + 8 ≤ j) → m_c X σ_42 a j = m_c X σ a j := fun j h0 h1 => (mcσ_42 j).trans (kwσ_15 j h0 h1)
                have smσ_42 : 0 ≤ (σ_42.1 a 15).toInt ∧ (σ_42.1 a 15).toInt ≤ (σ_42.1 a 16).toInt ∧ (σ_42.1 a 16).toInt ≤ (σ_42.1 a 9).toInt ∧ (σ_42.1 a 9).toInt ≤ 900 ∧ 0 ≤ (σ_42.1 a 14).toInt ∧ (σ_42.1 a 14).toInt ≤ 4 ∧ (σ_42.1 a 14).toInt ≤ 4 * ((σ_42.1 a 16).toInt - (σ_42.1 a 15).toInt) ∧ (σ_42.1 a 14).toInt ≤ 4 * ((σ_42.1 a 9).toInt - (σ_42.1 a 15).toInt) ∧ 0 ≤ (σ_42.1 a 12).toInt ∧ (σ_42.1 a 9).toInt = (σ.1 a 9).toInt ∧ (σ.1 a 15).toInt ≤ (σ_42.1 a 15).toInt ∧ (σ.1 a 12).toInt ≤ (σ_42.1 a 12).toInt := (by first | exact sm_tr smσ_15 bhpσ_42 | exact sm_tr smσ_15 chpσ_42 | omega)
                have nsσ_42 : (σ_42.1 a 27).toInt = (σ.1 a 27).toInt := (by omega)
                have t5σ_42 : 0 ≤ r_1.toInt + (σ_42.1 a 12).toInt := (by omega)
                have t6σ_42 : m_c X σ_42 a (v1.toInt + 6) = r_1.toInt := (mcσ_42 _).trans t6σ_15
                have t1σ_42 : m_t1 (m_c X σ_42 a) v1.toInt := m_t1.k t1σ_15 (mcσ_42 _) (mcσ_42 _)
                clear mv27_σ_42 smσ_15 nsσ_15 t5σ_15 bhpσ_42
                refine lv_aload_n hx hb dX12_readTest_124 rfl (lv_at hl 0 rfl) ?_
                refine gs_X12_35_12 E hI ha dX12_readTest_125 ?_
                refine lv_iload_n hx hb dX12_readTest_128 rfl (lv_at hl 1 rfl) ?_
                refine lv_iconst (v := 2) hx hb dX12_readTest_129 (by decide) ?_
                refine lv_iadd hx hb dX12_readTest_130 ?_
                refine lv_topi (fun z_43 ez_43 => ?_)
                replace hF := q_letX hF ez_43
                have iz_43 := q_addI (A := v1.toInt) (B := 2) ez_43 rfl (by decide) (by omega) (by omega)
                refine lv_aload_n hx hb dX12_readTest_131 rfl (lv_at hl 0 rfl) ?_
                refine lv_iconst (v := 0) hx hb dX12_readTest_132 (by decide) ?_
                refine lv_iload_n hx hb dX12_readTest_133 rfl (lv_at hl 2 rfl) ?_
                refine lv_iconst (v := 2) hx hb dX12_readTest_134 (by decide) ?_
                refine q_icmp_ne (A := r_1.toInt) (B := 2) E rfl (by decide) (tgt := 144) dX12_readTest_135 (by decide) (fun c_44 => ?_) (fun c_44 => ?_)
                · skip
                  replace hF := q_ifn hF c_44
                  refine lv_bipush (v := 80) hx hb dX12_readTest_144 (by decide) ?_
                  have kc_45 : (0 : Int32).toInt = 0 := rfl
                  have kc_46 : (80 : Int32).toInt = 80 := rfl
                  refine q_ci (q_runV (As := [.int 0, .int 80]) (rest := [.int z_43, .ref (q_rf X a 20)]) E (hml.trans hl.1.symm) hI (c_X12_count l X σ_42 a (0 : Int32) (80 : Int32) ha (by first | exact sm_9 smσ_42 | exact hs | omega) (by omega)) kv_X12_223 ha ⟨rfl, by decide⟩ (show vwCl[11]? = some (RX12, TX12, 46) from rfl) rfl ⟨Nat.le_of_ble_eq_true rfl, Nat.le_of_ble_eq_true rfl⟩ ⟨Nat.le_refl _, Nat.le_refl _⟩ rfl (Nat.le_of_ble_eq_true rfl) dX12_readTest_146) hI (by decide) (fun r_47 σ_48 H locs hpσ_48 hkσ_48 hI => ?_)
                  obtain ⟨ahpσ_48, bhpσ_48, chpσ_48, dhpσ_48, ehpσ_48⟩ := hpσ_48
                  have fr_σ_48 := fr_σ_42.call ehpσ_48 rfl rfl
                  replace hF := q_biX hF dhpσ_48
                  have mv27_σ_48 : (σ_48.1 a 27).toInt = (σ_42.1 a 27).toInt := congrArg Int32.toInt (ahpσ_48 a 27 (q_cl9 _ _) (fun h => absurd h.2.2 (by decide)))
                  have mcσ_48 := m_cK hkσ_48 hI.1 ha (by decide)
                  have kwσ_48 : ∀ j, 0 ≤ j → (j < v1.toInt + 1 ∨ v1.toInt + 8 ≤ j) → m_c X σ_48 a j = m_c X σ a j := fun j h0 h1 => (mcσ_48 j).trans (kwσ_42 j h0 h1)
                  have smσ_48 : 0 ≤ (σ_48.1 a 15).toInt ∧ (σ_48.1 a 15).toInt ≤ (σ_48.1 a 16).toInt ∧ (σ_48.1 a 16).toInt ≤ (σ_48.1 a 9).toInt ∧ (σ_48.1 a 9).toInt ≤ 900 ∧ 0 ≤ (σ_48.1 a 14).toInt ∧ (σ_48.1 a 14).toInt ≤ 4 ∧ (σ_48.1 a 14).toInt ≤ 4 * ((σ_48.1 a 16).toInt - (σ_48.1 a 15).toInt) ∧ (σ_48.1 a 14).toInt ≤ 4 * ((σ_48.1 a 9).toInt - (σ_48.1 a 15).toInt) ∧ 0 ≤ (σ_48.1 a 12).toInt ∧ (σ_48.1 a 9).toInt = (σ.1 a 9).toInt ∧ (σ.1 a 15).toInt ≤ (σ_48.1 a 15).toInt ∧ (σ.1 a 12).toInt ≤ (σ_48.1 a 12).toInt := (by first | exact sm_tr smσ_42 bhpσ_48 | exact sm_tr smσ_42 chpσ_48 | omega)
                  have nsσ_48 : (σ_48.1 a 27).toInt = (σ.1 a 27).toInt := (by omega)
                  have t5σ_48 : 0 ≤ r_1.toInt + (σ_48.1 a 12).toInt := (by omega)
                  have t6σ_48 : m_c X σ_48 a (v1.toInt + 6) = r_1.toInt := (mcσ_48 _).trans t6σ_42
                  have t1σ_48 : m_t1 (m_c X σ_48 a) v1.toInt := m_t1.k t1σ_42 (mcσ_48 _) (mcσ_48 _)
                  clear mv27_σ_48 smσ_42 nsσ_42 t5σ_42 bhpσ_48
                  refine q_iastN E hI (q_tk (k' := 34) hI ha rfl (by decide)) ⟨by decide, rfl⟩ (by omega) (by rw [q_lnk (v := 4650) hI (q_tk (k' := 34) hI ha rfl (by decide)) rfl (by decide)]; omega) (show 1 < 2 by decide) (q_inU rfl) dX12_readTest_149 (fun H locs σ_49 hσ_49 hI => ?_)
                  replace hF := q_letX hF hσ_49
                  have fr_σ_49 := fr_σ_48.si hσ_49 (q_tk (k' := 34) hI ha rfl (by decide)) rfl
                  have mv9_σ_49 : (σ_49.1 a 9).toInt = (σ_48.1 a 9).toInt := congrArg Int32.toInt (q_rdn hσ_49 (Or.inl (m_ne ha (q_tk (k' := 34) hI ha rfl (by decide)) (by decide))))
                  have mv12_σ_49 : (σ_49.1 a 12).toInt = (σ_48.1 a 12).toInt := congrArg Int32.toInt (q_rdn hσ_49 (Or.inl (m_ne ha (q_tk (k' := 34) hI ha rfl (by decide)) (by decide))))
                  have mv14_σ_49 : (σ_49.1 a 14).toInt = (σ_48.1 a 14).toInt := congrArg Int32.toInt (q_rdn hσ_49 (Or.inl (m_ne ha (q_tk (k' := 34) hI ha rfl (by decide)) (by decide))))
                  have mv15_σ_49 : (σ_49.1 a 15).toInt = (σ_48.1 a 15).toInt := congrArg Int32.toInt (q_rdn hσ_49 (Or.inl (m_ne ha (q_tk (k' := 34) hI ha rfl (by decide)) (by decide))))
                  have mv16_σ_49 : (σ_49.1 a 16).toInt = (σ_48.1 a 16).toInt := congrArg Int32.toInt (q_rdn hσ_49 (Or.inl (m_ne ha (q_tk (k' := 34) hI ha rfl (by decide)) (by decide))))
                  have mv27_σ_49 : (σ_49.1 a 27).toInt = (σ_48.1 a 27).toInt := congrArg Int32.toInt (q_rdn hσ_49 (Or.inl (m_ne ha (q_tk (k' := 34) hI ha rfl (by decide)) (by decide))))
                  have mcσ_49 := m_wr (v := r_47) (A := (v1.toInt + 2)) hσ_49 iz_43 (by omega)
                  have kwσ_49 : ∀ j, 0 ≤ j → (j < v1.toInt + 1 ∨ v1.toInt + 8 ≤ j) → m_c X σ_49 a j = m_c X σ a j := fun j h0 h1 => by rw [mcσ_49 j h0, if_neg (by omega)]; exact kwσ_48 j h0 h1
                  have smσ_49 : 0 ≤ (σ_49.1 a 15).toInt ∧ (σ_49.1 a 15).toInt ≤ (σ_49.1 a 16).toInt ∧ (σ_49.1 a 16).toInt ≤ (σ_49.1 a 9).toInt ∧ (σ_49.1 a 9).toInt ≤ 900 ∧ 0 ≤ (σ_49.1 a 14).toInt ∧ (σ_49.1 a 14).toInt ≤ 4 ∧ (σ_49.1 a 14).toInt ≤ 4 * ((σ_49.1 a 16).toInt - (σ_49.1 a 15).toInt) ∧ (σ_49.1 a 14).toInt ≤ 4 * ((σ_49.1 a 9).toInt - (σ_49.1 a 15).toInt) ∧ 0 ≤ (σ_49.1 a 12).toInt ∧ (σ_49.1 a 9).toInt = (σ.1 a 9).toInt ∧ (σ.1 a 15).toInt ≤ (σ_49.1 a 15).toInt ∧ (σ.1 a 12).toInt ≤ (σ_49.1 a 12).toInt := (by first | (rw [mv12_σ_49, mv14_σ_49, mv15_σ_49, mv16_σ_49, mv9_σ_49]; exact smσ_48) | omega)
                  have nsσ_49 : (σ_49.1 a 27).toInt = (σ.1 a 27).toInt := (by omega)
                  have t5σ_49 : 0 ≤ r_1.toInt + (σ_49.1 a 12).toInt := (by omega)
                  have t6σ_49 : m_c X σ_49 a (v1.toInt + 6) = r_1.toInt := (by rw [mcσ_49 (v1.toInt + 6) (by omega), if_neg (by omega)]; exact t6σ_48)
                  have t1σ_49 : m_t1 (m_c X σ_49 a) v1.toInt := m_t1.k t1σ_48 (by rw [mcσ_49 (v1.toInt + 6) (by omega), if_neg (by omega)]) (by rw [mcσ_49 (v1.toInt + 1) (by omega), if_neg (by omega)])
                  clear mv9_σ_49 mv12_σ_49 mv14_σ_49 mv15_σ_49 mv16_σ_49 mv27_σ_49 smσ_48 nsσ_48 t5σ_48
                  rewrite [hQQ]; exact q_retv E hr hlk hI ⟨kwσ_49, (by first | exact smσ_49 | omega), nsσ_49, (fun e => ⟨by rw [t6σ_49]; omega, t1σ_49⟩), (hF.trans hout), fr_σ_49⟩ dX12_readTest_150
                · skip
                  replace hF := q_ifp hF c_44
                  refine lv_sipush (v := 999) hx hb dX12_readTest_138 (by decide) ?_
                  refine lv_goto (tgt := 146) hx hb dX12_readTest_141 (by decide) ?_
                  have kc_50 : (0 : Int32).toInt = 0 := rfl
                  have kc_51 : (999 : Int32).toInt = 999 := rfl
                  refine q_ci (q_runV (As := [.int 0, .int 999]) (rest := [.int z_43, .ref (q_rf X a 20)]) E (hml.trans hl.1.symm) hI (c_X12_count l X σ_42 a (0 : Int32) (999 : Int32) ha (by first | exact sm_9 smσ_42 | exact hs | omega) (by omega)) kv_X12_223 ha ⟨rfl, by decide⟩ (show vwCl[11]? = some (RX12, TX12, 46) from rfl) rfl ⟨Nat.le_of_ble_eq_true rfl, Nat.le_of_ble_eq_true rfl⟩ ⟨Nat.le_refl _, Nat.le_refl _⟩ rfl (Nat.le_of_ble_eq_true rfl) dX12_readTest_146) hI (by decide) (fun r_52 σ_53 H locs hpσ_53 hkσ_53 hI => ?_)
                  obtain ⟨ahpσ_53, bhpσ_53, chpσ_53, dhpσ_53, ehpσ_53⟩ := hpσ_53
                  have fr_σ_53 := fr_σ_42.call ehpσ_53 rfl rfl
                  replace hF := q_biX hF dhpσ_53
                  have mv27_σ_53 : (σ_53.1 a 27).toInt = (σ_42.1 a 27).toInt := congrArg Int32.toInt (ahpσ_53 a 27 (q_cl9 _ _) (fun h => absurd h.2.2 (by decide)))
                  have mcσ_53 := m_cK hkσ_53 hI.1 ha (by decide)
                  have kwσ_53 : ∀ j, 0 ≤ j → (j < v1.toInt + 1 ∨ v1.toInt + 8 ≤ j) → m_c X σ_53 a j = m_c X σ a j := fun j h0 h1 => (mcσ_53 j).trans (kwσ_42 j h0 h1)
                  have smσ_53 : 0 ≤ (σ_53.1 a 15).toInt ∧ (σ_53.1 a 15).toInt ≤ (σ_53.1 a 16).toInt ∧ (σ_53.1 a 16).toInt ≤ (σ_53.1 a 9).toInt ∧ (σ_53.1 a 9).toInt ≤ 900 ∧ 0 ≤ (σ_53.1 a 14).toInt ∧ (σ_53.1 a 14).toInt ≤ 4 ∧ (σ_53.1 a 14).toInt ≤ 4 * ((σ_53.1 a 16).toInt - (σ_53.1 a 15).toInt) ∧ (σ_53.1 a 14).toInt ≤ 4 * ((σ_53.1 a 9).toInt - (σ_53.1 a 15).toInt) ∧ 0 ≤ (σ_53.1 a 12).toInt ∧ (σ_53.1 a 9).toInt = (σ.1 a 9).toInt ∧ (σ.1 a 15).toInt ≤ (σ_53.1 a 15).toInt ∧ (σ.1 a 12).toInt ≤ (σ_53.1 a 12).toInt := (by first | exact sm_tr smσ_42 bhpσ_53 | exact sm_tr smσ_42 chpσ_53 | omega)
                  have nsσ_53 : (σ_53.1 a 27).toInt = (σ.1 a 27).toInt := (by omega)
                  have t5σ_53 : 0 ≤ r_1.toInt + (σ_53.1 a 12).toInt := (by omega)
                  have t6σ_53 : m_c X σ_53 a (v1.toInt + 6) = r_1.toInt := (mcσ_53 _).trans t6σ_42
                  have t1σ_53 : m_t1 (m_c X σ_53 a) v1.toInt := m_t1.k t1σ_42 (mcσ_53 _) (mcσ_53 _)
                  clear mv27_σ_53 smσ_42 nsσ_42 t5σ_42 bhpσ_53
                  refine q_iastN E hI (q_tk (k' := 34) hI ha rfl (by decide)) ⟨by decide, rfl⟩ (by omega) (by rw [q_lnk (v := 4650) hI (q_tk (k' := 34) hI ha rfl (by decide)) rfl (by decide)]; omega) (show 1 < 2 by decide) (q_inU rfl) dX12_readTest_149 (fun H locs σ_54 hσ_54 hI => ?_)
                  replace hF := q_letX hF hσ_54
                  have fr_σ_54 := fr_σ_53.si hσ_54 (q_tk (k' := 34) hI ha rfl (by decide)) rfl
                  have mv9_σ_54 : (σ_54.1 a 9).toInt = (σ_53.1 a 9).toInt := congrArg Int32.toInt (q_rdn hσ_54 (Or.inl (m_ne ha (q_tk (k' := 34) hI ha rfl (by decide)) (by decide))))
                  have mv12_σ_54 : (σ_54.1 a 12).toInt = (σ_53.1 a 12).toInt := congrArg Int32.toInt (q_rdn hσ_54 (Or.inl (m_ne ha (q_tk (k' := 34) hI ha rfl (by decide)) (by decide))))
                  have mv14_σ_54 : (σ_54.1 a 14).toInt = (σ_53.1 a 14).toInt := congrArg Int32.toInt (q_rdn hσ_54 (Or.inl (m_ne ha (q_tk (k' := 34) hI ha rfl (by decide)) (by decide))))
                  have mv15_σ_54 : (σ_54.1 a 15).toInt = (σ_53.1 a 15).toInt := congrArg Int32.toInt (q_rdn hσ_54 (Or.inl (m_ne ha (q_tk (k' := 34) hI ha rfl (by decide)) (by decide))))
                  have mv16_σ_54 : (σ_54.1 a 16).toInt = (σ_53.1 a 16).toInt := congrArg Int32.toInt (q_rdn hσ_54 (Or.inl (m_ne ha (q_tk (k' := 34) hI ha rfl (by decide)) (by decide))))
                  have mv27_σ_54 : (σ_54.1 a 27).toInt = (σ_53.1 a 27).toInt := congrArg Int32.toInt (q_rdn hσ_54 (Or.inl (m_ne ha (q_tk (k' := 34) hI ha rfl (by decide)) (by decide))))
                  have mcσ_54 := m_wr (v := r_52) (A := (v1.toInt + 2)) hσ_54 iz_43 (by omega)
                  have kwσ_54 : ∀ j, 0 ≤ j → (j < v1.toInt + 1 ∨ v1.toInt + 8 ≤ j) → m_c X σ_54 a j = m_c X σ a j := fun j h0 h1 => by rw [mcσ_54 j h0, if_neg (by omega)]; exact kwσ_53 j h0 h1
                  have smσ_54 : 0 ≤ (σ_54.1 a 15).toInt ∧ (σ_54.1 a 15).toInt ≤ (σ_54.1 a 16).toInt ∧ (σ_54.1 a 16).toInt ≤ (σ_54.1 a 9).toInt ∧ (σ_54.1 a 9).toInt ≤ 900 ∧ 0 ≤ (σ_54.1 a 14).toInt ∧ (σ_54.1 a 14).toInt ≤ 4 ∧ (σ_54.1 a 14).toInt ≤ 4 * ((σ_54.1 a 16).toInt - (σ_54.1 a 15).toInt) ∧ (σ_54.1 a 14).toInt ≤ 4 * ((σ_54.1 a 9).toInt - (σ_54.1 a 15).toInt) ∧ 0 ≤ (σ_54.1 a 12).toInt ∧ (σ_54.1 a 9).toInt = (σ.1 a 9).toInt ∧ (σ.1 a 15).toInt ≤ (σ_54.1 a 15).toInt ∧ (σ.1 a 12).toInt ≤ (σ_54.1 a 12).toInt := (by first | (rw [mv12_σ_54, mv14_σ_54, mv15_σ_54, mv16_σ_54, mv9_σ_54]; exact smσ_53) | omega)
                  have nsσ_54 : (σ_54.1 a 27).toInt = (σ.1 a 27).toInt := (by omega)
                  have t5σ_54 : 0 ≤ r_1.toInt + (σ_54.1 a 12).toInt := (by omega)
                  have t6σ_54 : m_c X σ_54 a (v1.toInt + 6) = r_1.toInt := (by rw [mcσ_54 (v1.toInt + 6) (by omega), if_neg (by omega)]; exact t6σ_53)
                  have t1σ_54 : m_t1 (m_c X σ_54 a) v1.toInt := m_t1.k t1σ_53 (by rw [mcσ_54 (v1.toInt + 6) (by omega), if_neg (by omega)]) (by rw [mcσ_54 (v1.toInt + 1) (by omega), if_neg (by omega)])
                  clear mv9_σ_54 mv12_σ_54 mv14_σ_54 mv15_σ_54 mv16_σ_54 mv27_σ_54 smσ_53 nsσ_53 t5σ_53
                  rewrite [hQQ]; exact q_retv E hr hlk hI ⟨kwσ_54, (by first | exact smσ_54 | omega), nsσ_54, (fun e => ⟨by rw [t6σ_54]; omega, t1σ_54⟩), (hF.trans hout), fr_σ_54⟩ dX12_readTest_150
              · skip
                replace hF := q_ifp hF c_39
                refine lv_aload_n hx hb dX12_readTest_107 rfl (lv_at hl 0 rfl) ?_
                refine lv_bipush (v := 61) hx hb dX12_readTest_108 (by decide) ?_
                have kc_55 : (61 : Int32).toInt = 61 := rfl
                refine q_ci (q_runV (As := [.int 61]) (rest := [.ref a]) E (hml.trans hl.1.symm) hI (c_X12_isSign l X σ_15 a (61 : Int32) ha) kv_X12_243 ha ⟨rfl, by decide⟩ (show vwCl[11]? = some (RX12, TX12, 46) from rfl) rfl ⟨Nat.le_of_ble_eq_true rfl, Nat.le_of_ble_eq_true rfl⟩ ⟨Nat.le_refl _, Nat.le_refl _⟩ rfl (Nat.le_of_ble_eq_true rfl) dX12_readTest_110) hI (by decide) (fun r_56 σ_57 H locs hpσ_57 hkσ_57 hI => ?_)
                obtain ⟨ahpσ_57, bhpσ_57, chpσ_57⟩ := hpσ_57
                rw [ahpσ_57] at hI
                replace hF := q_letX hF chpσ_57
                refine q_if_eq (A := r_56.toInt) E rfl (tgt := 120) dX12_readTest_113 (by decide) (fun c_58 => ?_) (fun c_58 => ?_)
                · skip
                  replace hF := q_ifp hF c_58
                  refine lv_iconst (v := 0) hx hb dX12_readTest_120 (by decide) ?_
                  have kc_59 : (0 : Int32).toInt = 0 := rfl
                  refine q_cv (q_runV (As := [.int 0]) (rest := []) E (hml.trans hl.1.symm) hI (c_X12_must l X σ_15 a (0 : Int32) ha (by first | exact sm_9 smσ_15 | exact hs | omega) (by omega)) kv_X12_216 ha ⟨rfl, by decide⟩ (show vwCl[11]? = some (RX12, TX12, 46) from rfl) rfl ⟨Nat.le_of_ble_eq_true rfl, Nat.le_of_ble_eq_true rfl⟩ ⟨Nat.le_refl _, Nat.le_refl _⟩ rfl (Nat.le_of_ble_eq_true rfl) dX12_readTest_121) hI (by decide) (fun σ_61 H locs hpσ_61 hkσ_61 hI => ?_)
                  obtain ⟨ahpσ_61, bhpσ_61, chpσ_61, dhpσ_61, ehpσ_61⟩ := hpσ_61
                  have fr_σ_61 := fr_σ_15.call ehpσ_61 rfl rfl
                  replace hF := q_letX hF dhpσ_61
                  have mv27_σ_61 : (σ_61.1 a 27).toInt = (σ_15.1 a 27).toInt := congrArg Int32.toInt (ahpσ_61 a 27 (q_cl9 _ _) (fun h => absurd h.2.2 (by decide)))
                  have mcσ_61 := m_cK hkσ_61 hI.1 ha (by decide)
                  have kwσ_61 : ∀ j, 0 ≤ j → (j < v1.toInt + 1 ∨ v1.toInt + 8 ≤ j) → m_c X σ_61 a j = m_c X σ a j := fun j h0 h1 => (mcσ_61 j).trans (kwσ_15 j h0 h1)
                  have smσ_61 : 0 ≤ (σ_61.1 a 15).toInt ∧ (σ_61.1 a 15).toInt ≤ (σ_61.1 a 16).toInt ∧ (σ_61.1 a 16).toInt ≤ (σ_61.1 a 9).toInt ∧ (σ_61.1 a 9).toInt ≤ 900 ∧ 0 ≤ (σ_61.1 a 14).toInt ∧ (σ_61.1 a 14).toInt ≤ 4 ∧ (σ_61.1 a 14).toInt ≤ 4 * ((σ_61.1 a 16).toInt - (σ_61.1 a 15).toInt) ∧ (σ_61.1 a 14).toInt ≤ 4 * ((σ_61.1 a 9).toInt - (σ_61.1 a 15).toInt) ∧ 0 ≤ (σ_61.1 a 12).toInt ∧ (σ_61.1 a 9).toInt = (σ.1 a 9).toInt ∧ (σ.1 a 15).toInt ≤ (σ_61.1 a 15).toInt ∧ (σ.1 a 12).toInt ≤ (σ_61.1 a 12).toInt := (by first | exact sm_tr smσ_15 bhpσ_61 | exact sm_tr smσ_15 chpσ_61 | omega)
                  have nsσ_61 : (σ_61.1 a 27).toInt = (σ.1 a 27).toInt := (by omega)
                  have t5σ_61 : 0 ≤ r_1.toInt + (σ_61.1 a 12).toInt := (by omega)
                  have t6σ_61 : m_c X σ_61 a (v1.toInt + 6) = r_1.toInt := (mcσ_61 _).trans t6σ_15
                  have t1σ_61 : m_t1 (m_c X σ_61 a) v1.toInt := m_t1.k t1σ_15 (mcσ_61 _) (mcσ_61 _)
                  clear mv27_σ_61 smσ_15 nsσ_15 t5σ_15 bhpσ_61
                  refine lv_aload_n hx hb dX12_readTest_124 rfl (lv_at hl 0 rfl) ?_
                  refine gs_X12_35_12 E hI ha dX12_readTest_125 ?_
                  refine lv_iload_n hx hb dX12_readTest_128 rfl (lv_at hl 1 rfl) ?_
                  refine lv_iconst (v := 2) hx hb dX12_readTest_129 (by decide) ?_
                  refine lv_iadd hx hb dX12_readTest_130 ?_
                  refine lv_topi (fun z_62 ez_62 => ?_)
                  replace hF := q_letX hF ez_62
                  have iz_62 := q_addI (A := v1.toInt) (B := 2) ez_62 rfl (by decide) (by omega) (by omega)
                  refine lv_aload_n hx hb dX12_readTest_131 rfl (lv_at hl 0 rfl) ?_
                  refine lv_iconst (v := 0) hx hb dX12_readTest_132 (by decide) ?_
                  refine lv_iload_n hx hb dX12_readTest_133 rfl (lv_at hl 2 rfl) ?_
                  refine lv_iconst (v := 2) hx hb dX12_readTest_134 (by decide) ?_
                  refine q_icmp_ne (A := r_1.toInt) (B := 2) E rfl (by decide) (tgt := 144) dX12_readTest_135 (by decide) (fun c_63 => ?_) (fun c_63 => ?_)
                  · skip
                    replace hF := q_ifn hF c_63
                    refine lv_bipush (v := 80) hx hb dX12_readTest_144 (by decide) ?_
                    have kc_64 : (0 : Int32).toInt = 0 := rfl
                    have kc_65 : (80 : Int32).toInt = 80 := rfl
                    refine q_ci (q_runV (As := [.int 0, .int 80]) (rest := [.int z_62, .ref (q_rf X a 20)]) E (hml.trans hl.1.symm) hI (c_X12_count l X σ_61 a (0 : Int32) (80 : Int32) ha (by first | exact sm_9 smσ_61 | exact hs | omega) (by omega)) kv_X12_223 ha ⟨rfl, by decide⟩ (show vwCl[11]? = some (RX12, TX12, 46) from rfl) rfl ⟨Nat.le_of_ble_eq_true rfl, Nat.le_of_ble_eq_true rfl⟩ ⟨Nat.le_refl _, Nat.le_refl _⟩ rfl (Nat.le_of_ble_eq_true rfl) dX12_readTest_146) hI (by decide) (fun r_66 σ_67 H locs hpσ_67 hkσ_67 hI => ?_)
                    obtain ⟨ahpσ_67, bhpσ_67, chpσ_67, dhpσ_67, ehpσ_67⟩ := hpσ_67
                    have fr_σ_67 := fr_σ_61.call ehpσ_67 rfl rfl
                    replace hF := q_biX hF dhpσ_67
                    have mv27_σ_67 : (σ_67.1 a 27).toInt = (σ_61.1 a 27).toInt := congrArg Int32.toInt (ahpσ_67 a 27 (q_cl9 _ _) (fun h => absurd h.2.2 (by decide)))
                    have mcσ_67 := m_cK hkσ_67 hI.1 ha (by decide)
                    have kwσ_67 : ∀ j, 0 ≤ j → (j < v1.toInt + 1 ∨ v1.toInt + 8 ≤ j) → m_c X σ_67 a j = m_c X σ a j := fun j h0 h1 => (mcσ_67 j).trans (kwσ_61 j h0 h1)
                    have smσ_67 : 0 ≤ (σ_67.1 a 15).toInt ∧ (σ_67.1 a 15).toInt ≤ (σ_67.1 a 16).toInt ∧ (σ_67.1 a 16).toInt ≤ (σ_67.1 a 9).toInt ∧ (σ_67.1 a 9).toInt ≤ 900 ∧ 0 ≤ (σ_67.1 a 14).toInt ∧ (σ_67.1 a 14).toInt ≤ 4 ∧ (σ_67.1 a 14).toInt ≤ 4 * ((σ_67.1 a 16).toInt - (σ_67.1 a 15).toInt) ∧ (σ_67.1 a 14).toInt ≤ 4 * ((σ_67.1 a 9).toInt - (σ_67.1 a 15).toInt) ∧ 0 ≤ (σ_67.1 a 12).toInt ∧ (σ_67.1 a 9).toInt = (σ.1 a 9).toInt ∧ (σ.1 a 15).toInt ≤ (σ_67.1 a 15).toInt ∧ (σ.1 a 12).toInt ≤ (σ_67.1 a 12).toInt := (by first | exact sm_tr smσ_61 bhpσ_67 | exact sm_tr smσ_61 chpσ_67 | omega)
                    have nsσ_67 : (σ_67.1 a 27).toInt = (σ.1 a 27).toInt := (by omega)
                    have t5σ_67 : 0 ≤ r_1.toInt + (σ_67.1 a 12).toInt := (by omega)
                    have t6σ_67 : m_c X σ_67 a (v1.toInt + 6) = r_1.toInt := (mcσ_67 _).trans t6σ_61
                    have t1σ_67 : m_t1 (m_c X σ_67 a) v1.toInt := m_t1.k t1σ_61 (mcσ_67 _) (mcσ_67 _)
                    clear mv27_σ_67 smσ_61 nsσ_61 t5σ_61 bhpσ_67
                    refine q_iastN E hI (q_tk (k' := 34) hI ha rfl (by decide)) ⟨by decide, rfl⟩ (by omega) (by rw [q_lnk (v := 4650) hI (q_tk (k' := 34) hI ha rfl (by decide)) rfl (by decide)]; omega) (show 1 < 2 by decide) (q_inU rfl) dX12_readTest_149 (fun H locs σ_68 hσ_68 hI => ?_)
                    replace hF := q_letX hF hσ_68
                    have fr_σ_68 := fr_σ_67.si hσ_68 (q_tk (k' := 34) hI ha rfl (by decide)) rfl
                    have mv9_σ_68 : (σ_68.1 a 9).toInt = (σ_67.1 a 9).toInt := congrArg Int32.toInt (q_rdn hσ_68 (Or.inl (m_ne ha (q_tk (k' := 34) hI ha rfl (by decide)) (by decide))))
                    have mv12_σ_68 : (σ_68.1 a 12).toInt = (σ_67.1 a 12).toInt := congrArg Int32.toInt (q_rdn hσ_68 (Or.inl (m_ne ha (q_tk (k' := 34) hI ha rfl (by decide)) (by decide))))
                    have mv14_σ_68 : (σ_68.1 a 14).toInt = (σ_67.1 a 14).toInt := congrArg Int32.toInt (q_rdn hσ_68 (Or.inl (m_ne ha (q_tk (k' := 34) hI ha rfl (by decide)) (by decide))))
                    have mv15_σ_68 : (σ_68.1 a 15).toInt = (σ_67.1 a 15).toInt := congrArg Int32.toInt (q_rdn hσ_68 (Or.inl (m_ne ha (q_tk (k' := 34) hI ha rfl (by decide)) (by decide))))
                    have mv16_σ_68 : (σ_68.1 a 16).toInt = (σ_67.1 a 16).toInt := congrArg Int32.toInt (q_rdn hσ_68 (Or.inl (m_ne ha (q_tk (k' := 34) hI ha rfl (by decide)) (by decide))))
                    have mv27_σ_68 : (σ_68.1 a 27).toInt = (σ_67.1 a 27).toInt := congrArg Int32.toInt (q_rdn hσ_68 (Or.inl (m_ne ha (q_tk (k' := 34) hI ha rfl (by decide)) (by decide))))
                    have mcσ_68 := m_wr (v := r_66) (A := (v1.toInt + 2)) hσ_68 iz_62 (by omega)
                    have kwσ_68 : ∀ j, 0 ≤ j → (j < v1.toInt + 1 ∨ v1.toInt + 8 ≤ j) → m_c X σ_68 a j = m_c X σ a j := fun j h0 h1 => by rw [mcσ_68 j h0, if_neg (by omega)]; exact kwσ_67 j h0 h1
                    have smσ_68 : 0 ≤ (σ_68.1 a 15).toInt ∧ (σ_68.1 a 15).toInt ≤ (σ_68.1 a 16).toInt ∧ (σ_68.1 a 16).toInt ≤ (σ_68.1 a 9).toInt ∧ (σ_68.1 a 9).toInt ≤ 900 ∧ 0 ≤ (σ_68.1 a 14).toInt ∧ (σ_68.1 a 14).toInt ≤ 4 ∧ (σ_68.1 a 14).toInt ≤ 4 * ((σ_68.1 a 16).toInt - (σ_68.1 a 15).toInt) ∧ (σ_68.1 a 14).toInt ≤ 4 * ((σ_68.1 a 9).toInt - (σ_68.1 a 15).toInt) ∧ 0 ≤ (σ_68.1 a 12).toInt ∧ (σ_68.1 a 9).toInt = (σ.1 a 9).toInt ∧ (σ.1 a 15).toInt ≤ (σ_68.1 a 15).toInt ∧ (σ.1 a 12).toInt ≤ (σ_68.1 a 12).toInt := (by first | (rw [mv12_σ_68, mv14_σ_68, mv15_σ_68, mv16_σ_68, mv9_σ_68]; exact smσ_67) | omega)
                    have nsσ_68 : (σ_68.1 a 27).toInt = (σ.1 a 27).toInt := (by omega)
                    have t5σ_68 : 0 ≤ r_1.toInt + (σ_68.1 a 12).toInt := (by omega)
                    have t6σ_68 : m_c X σ_68 a (v1.toInt + 6) = r_1.toInt := (by rw [mcσ_68 (v1.toInt + 6) (by omega), if_neg (by omega)]; exact t6σ_67)
                    have t1σ_68 : m_t1 (m_c X σ_68 a) v1.toInt := m_t1.k t1σ_67 (by rw [mcσ_68 (v1.toInt + 6) (by omega), if_neg (by omega)]) (by rw [mcσ_68 (v1.toInt + 1) (by omega), if_neg (by omega)])
                    clear mv9_σ_68 mv12_σ_68 mv14_σ_68 mv15_σ_68 mv16_σ_68 mv27_σ_68 smσ_67 nsσ_67 t5σ_67
                    rewrite [hQQ]; exact q_retv E hr hlk hI ⟨kwσ_68, (by first | exact smσ_68 | omega), nsσ_68, (fun e => ⟨by rw [t6σ_68]; omega, t1σ_68⟩), (hF.trans hout), fr_σ_68⟩ dX12_readTest_150
                  · skip
                    replace hF := q_ifp hF c_63
                    refine lv_sipush (v := 999) hx hb dX12_readTest_138 (by decide) ?_
                    refine lv_goto (tgt := 146) hx hb dX12_readTest_141 (by decide) ?_
                    have kc_69 : (0 : Int32).toInt = 0 := rfl
                    have kc_70 : (999 : Int32).toInt = 999 := rfl
                    refine q_ci (q_runV (As := [.int 0, .int 999]) (rest := [.int z_62, .ref (q_rf X a 20)]) E (hml.trans hl.1.symm) hI (c_X12_count l X σ_61 a (0 : Int32) (999 : Int32) ha (by first | exact sm_9 smσ_61 | exact hs | omega) (by omega)) kv_X12_223 ha ⟨rfl, by decide⟩ (show vwCl[11]? = some (RX12, TX12, 46) from rfl) rfl ⟨Nat.le_of_ble_eq_true rfl, Nat.le_of_ble_eq_true rfl⟩ ⟨Nat.le_refl _, Nat.le_refl _⟩ rfl (Nat.le_of_ble_eq_true rfl) dX12_readTest_146) hI (by decide) (fun r_71 σ_72 H locs hpσ_72 hkσ_72 hI => ?_)
                    obtain ⟨ahpσ_72, bhpσ_72, chpσ_72, dhpσ_72, ehpσ_72⟩ := hpσ_72
                    have fr_σ_72 := fr_σ_61.call ehpσ_72 rfl rfl
                    replace hF := q_biX hF dhpσ_72
                    have mv27_σ_72 : (σ_72.1 a 27).toInt = (σ_61.1 a 27).toInt := congrArg Int32.toInt (ahpσ_72 a 27 (q_cl9 _ _) (fun h => absurd h.2.2 (by decide)))
                    have mcσ_72 := m_cK hkσ_72 hI.1 ha (by decide)
                    have kwσ_72 : ∀ j, 0 ≤ j → (j < v1.toInt + 1 ∨ v1.toInt + 8 ≤ j) → m_c X σ_72 a j = m_c X σ a j := fun j h0 h1 => (mcσ_72 j).trans (kwσ_61 j h0 h1)
                    have smσ_72 : 0 ≤ (σ_72.1 a 15).toInt ∧ (σ_72.1 a 15).toInt ≤ (σ_72.1 a 16).toInt ∧ (σ_72.1 a 16).toInt ≤ (σ_72.1 a 9).toInt ∧ (σ_72.1 a 9).toInt ≤ 900 ∧ 0 ≤ (σ_72.1 a 14).toInt ∧ (σ_72.1 a 14).toInt ≤ 4 ∧ (σ_72.1 a 14).toInt ≤ 4 * ((σ_72.1 a 16).toInt - (σ_72.1 a 15).toInt) ∧ (σ_72.1 a 14).toInt ≤ 4 * ((σ_72.1 a 9).toInt - (σ_72.1 a 15).toInt) ∧ 0 ≤ (σ_72.1 a 12).toInt ∧ (σ_72.1 a 9).toInt = (σ.1 a 9).toInt ∧ (σ.1 a 15).toInt ≤ (σ_72.1 a 15).toInt ∧ (σ.1 a 12).toInt ≤ (σ_72.1 a 12).toInt := (by first | exact sm_tr smσ_61 bhpσ_72 | exact sm_tr smσ_61 chpσ_72 | omega)
                    have nsσ_72 : (σ_72.1 a 27).toInt = (σ.1 a 27).toInt := (by omega)
                    have t5σ_72 : 0 ≤ r_1.toInt + (σ_72.1 a 12).toInt := (by omega)
                    have t6σ_72 : m_c X σ_72 a (v1.toInt + 6) = r_1.toInt := (mcσ_72 _).trans t6σ_61
                    have t1σ_72 : m_t1 (m_c X σ_72 a) v1.toInt := m_t1.k t1σ_61 (mcσ_72 _) (mcσ_72 _)
                    clear mv27_σ_72 smσ_61 nsσ_61 t5σ_61 bhpσ_72
                    refine q_iastN E hI (q_tk (k' := 34) hI ha rfl (by decide)) ⟨by decide, rfl⟩ (by omega) (by rw [q_lnk (v := 4650) hI (q_tk (k' := 34) hI ha rfl (by decide)) rfl (by decide)]; omega) (show 1 < 2 by decide) (q_inU rfl) dX12_readTest_149 (fun H locs σ_73 hσ_73 hI => ?_)
                    replace hF := q_letX hF hσ_73
                    have fr_σ_73 := fr_σ_72.si hσ_73 (q_tk (k' := 34) hI ha rfl (by decide)) rfl
                    have mv9_σ_73 : (σ_73.1 a 9).toInt = (σ_72.1 a 9).toInt := congrArg Int32.toInt (q_rdn hσ_73 (Or.inl (m_ne ha (q_tk (k' := 34) hI ha rfl (by decide)) (by decide))))
                    have mv12_σ_73 : (σ_73.1 a 12).toInt = (σ_72.1 a 12).toInt := congrArg Int32.toInt (q_rdn hσ_73 (Or.inl (m_ne ha (q_tk (k' := 34) hI ha rfl (by decide)) (by decide))))
                    have mv14_σ_73 : (σ_73.1 a 14).toInt = (σ_72.1 a 14).toInt := congrArg Int32.toInt (q_rdn hσ_73 (Or.inl (m_ne ha (q_tk (k' := 34) hI ha rfl (by decide)) (by decide))))
                    have mv15_σ_73 : (σ_73.1 a 15).toInt = (σ_72.1 a 15).toInt := congrArg Int32.toInt (q_rdn hσ_73 (Or.inl (m_ne ha (q_tk (k' := 34) hI ha rfl (by decide)) (by decide))))
                    have mv16_σ_73 : (σ_73.1 a 16).toInt = (σ_72.1 a 16).toInt := congrArg Int32.toInt (q_rdn hσ_73 (Or.inl (m_ne ha (q_tk (k' := 34) hI ha rfl (by decide)) (by decide))))
                    have mv27_σ_73 : (σ_73.1 a 27).toInt = (σ_72.1 a 27).toInt := congrArg Int32.toInt (q_rdn hσ_73 (Or.inl (m_ne ha (q_tk (k' := 34) hI ha rfl (by decide)) (by decide))))
                    have mcσ_73 := m_wr (v := r_71) (A := (v1.toInt + 2)) hσ_73 iz_62 (by omega)
                    have kwσ_73 : ∀ j, 0 ≤ j → (j < v1.toInt + 1 ∨ v1.toInt + 8 ≤ j) → m_c X σ_73 a j = m_c X σ a j := fun j h0 h1 => by rw [mcσ_73 j h0, if_neg (by omega)]; exact kwσ_72 j h0 h1
                    have smσ_73 : 0 ≤ (σ_73.1 a 15).toInt ∧ (σ_73.1 a 15).toInt ≤ (σ_73.1 a 16).toInt ∧ (σ_73.1 a 16).toInt ≤ (σ_73.1 a 9).toInt ∧ (σ_73.1 a 9).toInt ≤ 900 ∧ 0 ≤ (σ_73.1 a 14).toInt ∧ (σ_73.1 a 14).toInt ≤ 4 ∧ (σ_73.1 a 14).toInt ≤ 4 * ((σ_73.1 a 16).toInt - (σ_73.1 a 15).toInt) ∧ (σ_73.1 a 14).toInt ≤ 4 * ((σ_73.1 a 9).toInt - (σ_73.1 a 15).toInt) ∧ 0 ≤ (σ_73.1 a 12).toInt ∧ (σ_73.1 a 9).toInt = (σ.1 a 9).toInt ∧ (σ.1 a 15).toInt ≤ (σ_73.1 a 15).toInt ∧ (σ.1 a 12).toInt ≤ (σ_73.1 a 12).toInt := (by first | (rw [mv12_σ_73, mv14_σ_73, mv15_σ_73, mv16_σ_73, mv9_σ_73]; exact smσ_72) | omega)
                    have nsσ_73 : (σ_73.1 a 27).toInt = (σ.1 a 27).toInt := (by omega)
                    have t5σ_73 : 0 ≤ r_1.toInt + (σ_73.1 a 12).toInt := (by omega)
                    have t6σ_73 : m_c X σ_73 a (v1.toInt + 6) = r_1.toInt := (by rw [mcσ_73 (v1.toInt + 6) (by omega), if_neg (by omega)]; exact t6σ_72)
                    have t1σ_73 : m_t1 (m_c X σ_73 a) v1.toInt := m_t1.k t1σ_72 (by rw [mcσ_73 (v1.toInt + 6) (by omega), if_neg (by omega)]) (by rw [mcσ_73 (v1.toInt + 1) (by omega), if_neg (by omega)])
                    clear mv9_σ_73 mv12_σ_73 mv14_σ_73 mv15_σ_73 mv16_σ_73 mv27_σ_73 smσ_72 nsσ_72 t5σ_72
                    rewrite [hQQ]; exact q_retv E hr hlk hI ⟨kwσ_73, (by first | exact smσ_73 | omega), nsσ_73, (fun e => ⟨by rw [t6σ_73]; omega, t1σ_73⟩), (hF.trans hout), fr_σ_73⟩ dX12_readTest_150
                · skip
                  replace hF := q_ifn hF c_58
                  refine lv_iconst (v := 1) hx hb dX12_readTest_116 (by decide) ?_
                  refine lv_goto (tgt := 121) hx hb dX12_readTest_117 (by decide) ?_
                  have kc_74 : (1 : Int32).toInt = 1 := rfl
                  refine q_cv (q_runV (As := [.int 1]) (rest := []) E (hml.trans hl.1.symm) hI (c_X12_must l X σ_15 a (1 : Int32) ha (by first | exact sm_9 smσ_15 | exact hs | omega) (by omega)) kv_X12_216 ha ⟨rfl, by decide⟩ (show vwCl[11]? = some (RX12, TX12, 46) from rfl) rfl ⟨Nat.le_of_ble_eq_true rfl, Nat.le_of_ble_eq_true rfl⟩ ⟨Nat.le_refl _, Nat.le_refl _⟩ rfl (Nat.le_of_ble_eq_true rfl) dX12_readTest_121) hI (by decide) (fun σ_76 H locs hpσ_76 hkσ_76 hI => ?_)
                  obtain ⟨ahpσ_76, bhpσ_76, chpσ_76, dhpσ_76, ehpσ_76⟩ := hpσ_76
                  have fr_σ_76 := fr_σ_15.call ehpσ_76 rfl rfl
                  replace hF := q_letX hF dhpσ_76
                  have mv27_σ_76 : (σ_76.1 a 27).toInt = (σ_15.1 a 27).toInt := congrArg Int32.toInt (ahpσ_76 a 27 (q_cl9 _ _) (fun h => absurd h.2.2 (by decide)))
                  have mcσ_76 := m_cK hkσ_76 hI.1 ha (by decide)
                  have kwσ_76 : ∀ j, 0 ≤ j → (j < v1.toInt + 1 ∨ v1.toInt + 8 ≤ j) → m_c X σ_76 a j = m_c X σ a j := fun j h0 h1 => (mcσ_76 j).trans (kwσ_15 j h0 h1)
                  have smσ_76 : 0 ≤ (σ_76.1 a 15).toInt ∧ (σ_76.1 a 15).toInt ≤ (σ_76.1 a 16).toInt ∧ (σ_76.1 a 16).toInt ≤ (σ_76.1 a 9).toInt ∧ (σ_76.1 a 9).toInt ≤ 900 ∧ 0 ≤ (σ_76.1 a 14).toInt ∧ (σ_76.1 a 14).toInt ≤ 4 ∧ (σ_76.1 a 14).toInt ≤ 4 * ((σ_76.1 a 16).toInt - (σ_76.1 a 15).toInt) ∧ (σ_76.1 a 14).toInt ≤ 4 * ((σ_76.1 a 9).toInt - (σ_76.1 a 15).toInt) ∧ 0 ≤ (σ_76.1 a 12).toInt ∧ (σ_76.1 a 9).toInt = (σ.1 a 9).toInt ∧ (σ.1 a 15).toInt ≤ (σ_76.1 a 15).toInt ∧ (σ.1 a 12).toInt ≤ (σ_76.1 a 12).toInt := (by first | exact sm_tr smσ_15 bhpσ_76 | exact sm_tr smσ_15 chpσ_76 | omega)
                  have nsσ_76 : (σ_76.1 a 27).toInt = (σ.1 a 27).toInt := (by omega)
                  have t5σ_76 : 0 ≤ r_1.toInt + (σ_76.1 a 12).toInt := (by omega)
                  have t6σ_76 : m_c X σ_76 a (v1.toInt + 6) = r_1.toInt := (mcσ_76 _).trans t6σ_15
                  have t1σ_76 : m_t1 (m_c X σ_76 a) v1.toInt := m_t1.k t1σ_15 (mcσ_76 _) (mcσ_76 _)
                  clear mv27_σ_76 smσ_15 nsσ_15 t5σ_15 bhpσ_76
                  refine lv_aload_n hx hb dX12_readTest_124 rfl (lv_at hl 0 rfl) ?_
                  refine gs_X12_35_12 E hI ha dX12_readTest_125 ?_
                  refine lv_iload_n hx hb dX12_readTest_128 rfl (lv_at hl 1 rfl) ?_
                  refine lv_iconst (v := 2) hx hb dX12_readTest_129 (by decide) ?_
                  refine lv_iadd hx hb dX12_readTest_130 ?_
                  refine lv_topi (fun z_77 ez_77 => ?_)
                  replace hF := q_letX hF ez_77
                  have iz_77 := q_addI (A := v1.toInt) (B := 2) ez_77 rfl (by decide) (by omega) (by omega)
                  refine lv_aload_n hx hb dX12_readTest_131 rfl (lv_at hl 0 rfl) ?_
                  refine lv_iconst (v := 0) hx hb dX12_readTest_132 (by decide) ?_
                  refine lv_iload_n hx hb dX12_readTest_133 rfl (lv_at hl 2 rfl) ?_
                  refine lv_iconst (v := 2) hx hb dX12_readTest_134 (by decide) ?_
                  refine q_icmp_ne (A := r_1.toInt) (B := 2) E rfl (by decide) (tgt := 144) dX12_readTest_135 (by decide) (fun c_78 => ?_) (fun c_78 => ?_)
                  · skip
                    replace hF := q_ifn hF c_78
                    refine lv_bipush (v := 80) hx hb dX12_readTest_144 (by decide) ?_
                    have kc_79 : (0 : Int32).toInt = 0 := rfl
                    have kc_80 : (80 : Int32).toInt = 80 := rfl
                    refine q_ci (q_runV (As := [.int 0, .int 80]) (rest := [.int z_77, .ref (q_rf X a 20)]) E (hml.trans hl.1.symm) hI (c_X12_count l X σ_76 a (0 : Int32) (80 : Int32) ha (by first | exact sm_9 smσ_76 | exact hs | omega) (by omega)) kv_X12_223 ha ⟨rfl, by decide⟩ (show vwCl[11]? = some (RX12, TX12, 46) from rfl) rfl ⟨Nat.le_of_ble_eq_true rfl, Nat.le_of_ble_eq_true rfl⟩ ⟨Nat.le_refl _, Nat.le_refl _⟩ rfl (Nat.le_of_ble_eq_true rfl) dX12_readTest_146) hI (by decide) (fun r_81 σ_82 H locs hpσ_82 hkσ_82 hI => ?_)
                    obtain ⟨ahpσ_82, bhpσ_82, chpσ_82, dhpσ_82, ehpσ_82⟩ := hpσ_82
                    have fr_σ_82 := fr_σ_76.call ehpσ_82 rfl rfl
                    replace hF := q_biX hF dhpσ_82
                    have mv27_σ_82 : (σ_82.1 a 27).toInt = (σ_76.1 a 27).toInt := congrArg Int32.toInt (ahpσ_82 a 27 (q_cl9 _ _) (fun h => absurd h.2.2 (by decide)))
                    have mcσ_82 := m_cK hkσ_82 hI.1 ha (by decide)
                    have kwσ_82 : ∀ j, 0 ≤ j → (j < v1.toInt + 1 ∨ v1.toInt + 8 ≤ j) → m_c X σ_82 a j = m_c X σ a j := fun j h0 h1 => (mcσ_82 j).trans (kwσ_76 j h0 h1)
                    have smσ_82 : 0 ≤ (σ_82.1 a 15).toInt ∧ (σ_82.1 a 15).toInt ≤ (σ_82.1 a 16).toInt ∧ (σ_82.1 a 16).toInt ≤ (σ_82.1 a 9).toInt ∧ (σ_82.1 a 9).toInt ≤ 900 ∧ 0 ≤ (σ_82.1 a 14).toInt ∧ (σ_82.1 a 14).toInt ≤ 4 ∧ (σ_82.1 a 14).toInt ≤ 4 * ((σ_82.1 a 16).toInt - (σ_82.1 a 15).toInt) ∧ (σ_82.1 a 14).toInt ≤ 4 * ((σ_82.1 a 9).toInt - (σ_82.1 a 15).toInt) ∧ 0 ≤ (σ_82.1 a 12).toInt ∧ (σ_82.1 a 9).toInt = (σ.1 a 9).toInt ∧ (σ.1 a 15).toInt ≤ (σ_82.1 a 15).toInt ∧ (σ.1 a 12).toInt ≤ (σ_82.1 a 12).toInt := (by first | exact sm_tr smσ_76 bhpσ_82 | exact sm_tr smσ_76 chpσ_82 | omega)
                    have nsσ_82 : (σ_82.1 a 27).toInt = (σ.1 a 27).toInt := (by omega)
                    have t5σ_82 : 0 ≤ r_1.toInt + (σ_82.1 a 12).toInt := (by omega)
                    have t6σ_82 : m_c X σ_82 a (v1.toInt + 6) = r_1.toInt := (mcσ_82 _).trans t6σ_76
                    have t1σ_82 : m_t1 (m_c X σ_82 a) v1.toInt := m_t1.k t1σ_76 (mcσ_82 _) (mcσ_82 _)
                    clear mv27_σ_82 smσ_76 nsσ_76 t5σ_76 bhpσ_82
                    refine q_iastN E hI (q_tk (k' := 34) hI ha rfl (by decide)) ⟨by decide, rfl⟩ (by omega) (by rw [q_lnk (v := 4650) hI (q_tk (k' := 34) hI ha rfl (by decide)) rfl (by decide)]; omega) (show 1 < 2 by decide) (q_inU rfl) dX12_readTest_149 (fun H locs σ_83 hσ_83 hI => ?_)
                    replace hF := q_letX hF hσ_83
                    have fr_σ_83 := fr_σ_82.si hσ_83 (q_tk (k' := 34) hI ha rfl (by decide)) rfl
                    have mv9_σ_83 : (σ_83.1 a 9).toInt = (σ_82.1 a 9).toInt := congrArg Int32.toInt (q_rdn hσ_83 (Or.inl (m_ne ha (q_tk (k' := 34) hI ha rfl (by decide)) (by decide))))
                    have mv12_σ_83 : (σ_83.1 a 12).toInt = (σ_82.1 a 12).toInt := congrArg Int32.toInt (q_rdn hσ_83 (Or.inl (m_ne ha (q_tk (k' := 34) hI ha rfl (by decide)) (by decide))))
                    have mv14_σ_83 : (σ_83.1 a 14).toInt = (σ_82.1 a 14).toInt := congrArg Int32.toInt (q_rdn hσ_83 (Or.inl (m_ne ha (q_tk (k' := 34) hI ha rfl (by decide)) (by decide))))
                    have mv15_σ_83 : (σ_83.1 a 15).toInt = (σ_82.1 a 15).toInt := congrArg Int32.toInt (q_rdn hσ_83 (Or.inl (m_ne ha (q_tk (k' := 34) hI ha rfl (by decide)) (by decide))))
                    have mv16_σ_83 : (σ_83.1 a 16).toInt = (σ_82.1 a 16).toInt := congrArg Int32.toInt (q_rdn hσ_83 (Or.inl (m_ne ha (q_tk (k' := 34) hI ha rfl (by decide)) (by decide))))
                    have mv27_σ_83 : (σ_83.1 a 27).toInt = (σ_82.1 a 27).toInt := congrArg Int32.toInt (q_rdn hσ_83 (Or.inl (m_ne ha (q_tk (k' := 34) hI ha rfl (by decide)) (by decide))))
                    have mcσ_83 := m_wr (v := r_81) (A := (v1.toInt + 2)) hσ_83 iz_77 (by omega)
                    have kwσ_83 : ∀ j, 0 ≤ j → (j < v1.toInt + 1 ∨ v1.toInt + 8 ≤ j) → m_c X σ_83 a j = m_c X σ a j := fun j h0 h1 => by rw [mcσ_83 j h0, if_neg (by omega)]; exact kwσ_82 j h0 h1
                    have smσ_83 : 0 ≤ (σ_83.1 a 15).toInt ∧ (σ_83.1 a 15).toInt ≤ (σ_83.1 a 16).toInt ∧ (σ_83.1 a 16).toInt ≤ (σ_83.1 a 9).toInt ∧ (σ_83.1 a 9).toInt ≤ 900 ∧ 0 ≤ (σ_83.1 a 14).toInt ∧ (σ_83.1 a 14).toInt ≤ 4 ∧ (σ_83.1 a 14).toInt ≤ 4 * ((σ_83.1 a 16).toInt - (σ_83.1 a 15).toInt) ∧ (σ_83.1 a 14).toInt ≤ 4 * ((σ_83.1 a 9).toInt - (σ_83.1 a 15).toInt) ∧ 0 ≤ (σ_83.1 a 12).toInt ∧ (σ_83.1 a 9).toInt = (σ.1 a 9).toInt ∧ (σ.1 a 15).toInt ≤ (σ_83.1 a 15).toInt ∧ (σ.1 a 12).toInt ≤ (σ_83.1 a 12).toInt := (by first | (rw [mv12_σ_83, mv14_σ_83, mv15_σ_83, mv16_σ_83, mv9_σ_83]; exact smσ_82) | omega)
                    have nsσ_83 : (σ_83.1 a 27).toInt = (σ.1 a 27).toInt := (by omega)
                    have t5σ_83 : 0 ≤ r_1.toInt + (σ_83.1 a 12).toInt := (by omega)
                    have t6σ_83 : m_c X σ_83 a (v1.toInt + 6) = r_1.toInt := (by rw [mcσ_83 (v1.toInt + 6) (by omega), if_neg (by omega)]; exact t6σ_82)
                    have t1σ_83 : m_t1 (m_c X σ_83 a) v1.toInt := m_t1.k t1σ_82 (by rw [mcσ_83 (v1.toInt + 6) (by omega), if_neg (by omega)]) (by rw [mcσ_83 (v1.toInt + 1) (by omega), if_neg (by omega)])
                    clear mv9_σ_83 mv12_σ_83 mv14_σ_83 mv15_σ_83 mv16_σ_83 mv27_σ_83 smσ_82 nsσ_82 t5σ_82
                    rewrite [hQQ]; exact q_retv E hr hlk hI ⟨kwσ_83, (by first | exact smσ_83 | omega), nsσ_83, (fun e => ⟨by rw [t6σ_83]; omega, t1σ_83⟩), (hF.trans hout), fr_σ_83⟩ dX12_readTest_150
                  · skip
                    replace hF := q_ifp hF c_78
                    refine lv_sipush (v := 999) hx hb dX12_readTest_138 (by decide) ?_
                    refine lv_goto (tgt := 146) hx hb dX12_readTest_141 (by decide) ?_
                    have kc_84 : (0 : Int32).toInt = 0 := rfl
                    have kc_85 : (999 : Int32).toInt = 999 := rfl
                    refine q_ci (q_runV (As := [.int 0, .int 999]) (rest := [.int z_77, .ref (q_rf X a 20)]) E (hml.trans hl.1.symm) hI (c_X12_count l X σ_76 a (0 : Int32) (999 : Int32) ha (by first | exact sm_9 smσ_76 | exact hs | omega) (by omega)) kv_X12_223 ha ⟨rfl, by decide⟩ (show vwCl[11]? = some (RX12, TX12, 46) from rfl) rfl ⟨Nat.le_of_ble_eq_true rfl, Nat.le_of_ble_eq_true rfl⟩ ⟨Nat.le_refl _, Nat.le_refl _⟩ rfl (Nat.le_of_ble_eq_true rfl) dX12_readTest_146) hI (by decide) (fun r_86 σ_87 H locs hpσ_87 hkσ_87 hI => ?_)
                    obtain ⟨ahpσ_87, bhpσ_87, chpσ_87, dhpσ_87, ehpσ_87⟩ := hpσ_87
                    have fr_σ_87 := fr_σ_76.call ehpσ_87 rfl rfl
                    replace hF := q_biX hF dhpσ_87
                    have mv27_σ_87 : (σ_87.1 a 27).toInt = (σ_76.1 a 27).toInt := congrArg Int32.toInt (ahpσ_87 a 27 (q_cl9 _ _) (fun h => absurd h.2.2 (by decide)))
                    have mcσ_87 := m_cK hkσ_87 hI.1 ha (by decide)
                    have kwσ_87 : ∀ j, 0 ≤ j → (j < v1.toInt + 1 ∨ v1.toInt + 8 ≤ j) → m_c X σ_87 a j = m_c X σ a j := fun j h0 h1 => (mcσ_87 j).trans (kwσ_76 j h0 h1)
                    have smσ_87 : 0 ≤ (σ_87.1 a 15).toInt ∧ (σ_87.1 a 15).toInt ≤ (σ_87.1 a 16).toInt ∧ (σ_87.1 a 16).toInt ≤ (σ_87.1 a 9).toInt ∧ (σ_87.1 a 9).toInt ≤ 900 ∧ 0 ≤ (σ_87.1 a 14).toInt ∧ (σ_87.1 a 14).toInt ≤ 4 ∧ (σ_87.1 a 14).toInt ≤ 4 * ((σ_87.1 a 16).toInt - (σ_87.1 a 15).toInt) ∧ (σ_87.1 a 14).toInt ≤ 4 * ((σ_87.1 a 9).toInt - (σ_87.1 a 15).toInt) ∧ 0 ≤ (σ_87.1 a 12).toInt ∧ (σ_87.1 a 9).toInt = (σ.1 a 9).toInt ∧ (σ.1 a 15).toInt ≤ (σ_87.1 a 15).toInt ∧ (σ.1 a 12).toInt ≤ (σ_87.1 a 12).toInt := (by first | exact sm_tr smσ_76 bhpσ_87 | exact sm_tr smσ_76 chpσ_87 | omega)
                    have nsσ_87 : (σ_87.1 a 27).toInt = (σ.1 a 27).toInt := (by omega)
                    have t5σ_87 : 0 ≤ r_1.toInt + (σ_87.1 a 12).toInt := (by omega)
                    have t6σ_87 : m_c X σ_87 a (v1.toInt + 6) = r_1.toInt := (mcσ_87 _).trans t6σ_76
                    have t1σ_87 : m_t1 (m_c X σ_87 a) v1.toInt := m_t1.k t1σ_76 (mcσ_87 _) (mcσ_87 _)
                    clear mv27_σ_87 smσ_76 nsσ_76 t5σ_76 bhpσ_87
                    refine q_iastN E hI (q_tk (k' := 34) hI ha rfl (by decide)) ⟨by decide, rfl⟩ (by omega) (by rw [q_lnk (v := 4650) hI (q_tk (k' := 34) hI ha rfl (by decide)) rfl (by decide)]; omega) (show 1 < 2 by decide) (q_inU rfl) dX12_readTest_149 (fun H locs σ_88 hσ_88 hI => ?_)
                    replace hF := q_letX hF hσ_88
                    have fr_σ_88 := fr_σ_87.si hσ_88 (q_tk (k' := 34) hI ha rfl (by decide)) rfl
                    have mv9_σ_88 : (σ_88.1 a 9).toInt = (σ_87.1 a 9).toInt := congrArg Int32.toInt (q_rdn hσ_88 (Or.inl (m_ne ha (q_tk (k' := 34) hI ha rfl (by decide)) (by decide))))
                    have mv12_σ_88 : (σ_88.1 a 12).toInt = (σ_87.1 a 12).toInt := congrArg Int32.toInt (q_rdn hσ_88 (Or.inl (m_ne ha (q_tk (k' := 34) hI ha rfl (by decide)) (by decide))))
                    have mv14_σ_88 : (σ_88.1 a 14).toInt = (σ_87.1 a 14).toInt := congrArg Int32.toInt (q_rdn hσ_88 (Or.inl (m_ne ha (q_tk (k' := 34) hI ha rfl (by decide)) (by decide))))
                    have mv15_σ_88 : (σ_88.1 a 15).toInt = (σ_87.1 a 15).toInt := congrArg Int32.toInt (q_rdn hσ_88 (Or.inl (m_ne ha (q_tk (k' := 34) hI ha rfl (by decide)) (by decide))))
                    have mv16_σ_88 : (σ_88.1 a 16).toInt = (σ_87.1 a 16).toInt := congrArg Int32.toInt (q_rdn hσ_88 (Or.inl (m_ne ha (q_tk (k' := 34) hI ha rfl (by decide)) (by decide))))
                    have mv27_σ_88 : (σ_88.1 a 27).toInt = (σ_87.1 a 27).toInt := congrArg Int32.toInt (q_rdn hσ_88 (Or.inl (m_ne ha (q_tk (k' := 34) hI ha rfl (by decide)) (by decide))))
                    have mcσ_88 := m_wr (v := r_86) (A := (v1.toInt + 2)) hσ_88 iz_77 (by omega)
                    have kwσ_88 : ∀ j, 0 ≤ j → (j < v1.toInt + 1 ∨ v1.toInt + 8 ≤ j) → m_c X σ_88 a j = m_c X σ a j := fun j h0 h1 => by rw [mcσ_88 j h0, if_neg (by omega)]; exact kwσ_87 j h0 h1
                    have smσ_88 : 0 ≤ (σ_88.1 a 15).toInt ∧ (σ_88.1 a 15).toInt ≤ (σ_88.1 a 16).toInt ∧ (σ_88.1 a 16).toInt ≤ (σ_88.1 a 9).toInt ∧ (σ_88.1 a 9).toInt ≤ 900 ∧ 0 ≤ (σ_88.1 a 14).toInt ∧ (σ_88.1 a 14).toInt ≤ 4 ∧ (σ_88.1 a 14).toInt ≤ 4 * ((σ_88.1 a 16).toInt - (σ_88.1 a 15).toInt) ∧ (σ_88.1 a 14).toInt ≤ 4 * ((σ_88.1 a 9).toInt - (σ_88.1 a 15).toInt) ∧ 0 ≤ (σ_88.1 a 12).toInt ∧ (σ_88.1 a 9).toInt = (σ.1 a 9).toInt ∧ (σ.1 a 15).toInt ≤ (σ_88.1 a 15).toInt ∧ (σ.1 a 12).toInt ≤ (σ_88.1 a 12).toInt := (by first | (rw [mv12_σ_88, mv14_σ_88, mv15_σ_88, mv16_σ_88, mv9_σ_88]; exact smσ_87) | omega)
                    have nsσ_88 : (σ_88.1 a 27).toInt = (σ.1 a 27).toInt := (by omega)
                    have t5σ_88 : 0 ≤ r_1.toInt + (σ_88.1 a 12).toInt := (by omega)
                    have t6σ_88 : m_c X σ_88 a (v1.toInt + 6) = r_1.toInt := (by rw [mcσ_88 (v1.toInt + 6) (by omega), if_neg (by omega)]; exact t6σ_87)
                    have t1σ_88 : m_t1 (m_c X σ_88 a) v1.toInt := m_t1.k t1σ_87 (by rw [mcσ_88 (v1.toInt + 6) (by omega), if_neg (by omega)]) (by rw [mcσ_88 (v1.toInt + 1) (by omega), if_neg (by omega)])
                    clear mv9_σ_88 mv12_σ_88 mv14_σ_88 mv15_σ_88 mv16_σ_88 mv27_σ_88 smσ_87 nsσ_87 t5σ_87
                    rewrite [hQQ]; exact q_retv E hr hlk hI ⟨kwσ_88, (by first | exact smσ_88 | omega), nsσ_88, (fun e => ⟨by rw [t6σ_88]; omega, t1σ_88⟩), (hF.trans hout), fr_σ_88⟩ dX12_readTest_150
          · skip
            replace hF := q_ifp hF c_14
            refine lv_aload_n hx hb dX12_readTest_79 rfl (lv_at hl 0 rfl) ?_
            refine gs_X12_129_12 E hI ha dX12_readTest_80 ?_
            refine lv_topi (fun f_89 ef_89 => ?_)
            replace hF := q_letX hF ef_89
            have if_89 : f_89.toInt = (σ_8.1 a 17).toInt := congrArg Int32.toInt ef_89
            refine lv_goto (tgt := 87) hx hb dX12_readTest_83 (by decide) ?_
            refine q_iastN E hI (q_tk (k' := 34) hI ha rfl (by decide)) ⟨by decide, rfl⟩ (by omega) (by rw [q_lnk (v := 4650) hI (q_tk (k' := 34) hI ha rfl (by decide)) rfl (by decide)]; omega) (show 1 < 2 by decide) (q_inU rfl) dX12_readTest_87 (fun H locs σ_90 hσ_90 hI => ?_)
            replace hF := q_letX hF hσ_90
            have fr_σ_90 := fr_σ_8.si hσ_90 (q_tk (k' := 34) hI ha rfl (by decide)) rfl
            have mv9_σ_90 : (σ_90.1 a 9).toInt = (σ_8.1 a 9).toInt := congrArg Int32.toInt (q_rdn hσ_90 (Or.inl (m_ne ha (q_tk (k' := 34) hI ha rfl (by decide)) (by decide))))
            have mv12_σ_90 : (σ_90.1 a 12).toInt = (σ_8.1 a 12).toInt := congrArg Int32.toInt (q_rdn hσ_90 (Or.inl (m_ne ha (q_tk (k' := 34) hI ha rfl (by decide)) (by decide))))
            have mv14_σ_90 : (σ_90.1 a 14).toInt = (σ_8.1 a 14).toInt := congrArg Int32.toInt (q_rdn hσ_90 (Or.inl (m_ne ha (q_tk (k' := 34) hI ha rfl (by decide)) (by decide))))
            have mv15_σ_90 : (σ_90.1 a 15).toInt = (σ_8.1 a 15).toInt := congrArg Int32.toInt (q_rdn hσ_90 (Or.inl (m_ne ha (q_tk (k' := 34) hI ha rfl (by decide)) (by decide))))
            have mv16_σ_90 : (σ_90.1 a 16).toInt = (σ_8.1 a 16).toInt := congrArg Int32.toInt (q_rdn hσ_90 (Or.inl (m_ne ha (q_tk (k' := 34) hI ha rfl (by decide)) (by decide))))
            have mv27_σ_90 : (σ_90.1 a 27).toInt = (σ_8.1 a 27).toInt := congrArg Int32.toInt (q_rdn hσ_90 (Or.inl (m_ne ha (q_tk (k' := 34) hI ha rfl (by decide)) (by decide))))
            have mcσ_90 := m_wr (v := f_89) (A := (v1.toInt + 7)) hσ_90 iz_12 (by omega)
            have kwσ_90 : ∀ j, 0 ≤ j → (j < v1.toInt + 1 ∨ v1.toInt + 8 ≤ j) → m_c X σ_90 a j = m_c X σ a j := fun j h0 h1 => by rw [mcσ_90 j h0, if_neg (by omega)]; exact kwσ_8 j h0 h1
            have smσ_90 : 0 ≤ (σ_90.1 a 15).toInt ∧ (σ_90.1 a 15).toInt ≤ (σ_90.1 a 16).toInt ∧ (σ_90.1 a 16).toInt ≤ (σ_90.1 a 9).toInt ∧ (σ_90.1 a 9).toInt ≤ 900 ∧ 0 ≤ (σ_90.1 a 14).toInt ∧ (σ_90.1 a 14).toInt ≤ 4 ∧ (σ_90.1 a 14).toInt ≤ 4 * ((σ_90.1 a 16).toInt - (σ_90.1 a 15).toInt) ∧ (σ_90.1 a 14).toInt ≤ 4 * ((σ_90.1 a 9).toInt - (σ_90.1 a 15).toInt) ∧ 0 ≤ (σ_90.1 a 12).toInt ∧ (σ_90.1 a 9).toInt = (σ.1 a 9).toInt ∧ (σ.1 a 15).toInt ≤ (σ_90.1 a 15).toInt ∧ (σ.1 a 12).toInt ≤ (σ_90.1 a 12).toInt := (by first | (rw [mv12_σ_90, mv14_σ_90, mv15_σ_90, mv16_σ_90, mv9_σ_90]; exact smσ_8) | omega)
            have nsσ_90 : (σ_90.1 a 27).toInt = (σ.1 a 27).toInt := (by omega)
            have t5σ_90 : 0 ≤ r_1.toInt + (σ_90.1 a 12).toInt := (by omega)
            have t6σ_90 : m_c X σ_90 a (v1.toInt + 6) = r_1.toInt := (by rw [mcσ_90 (v1.toInt + 6) (by omega), if_neg (by omega)]; exact t6σ_8)
            have t1σ_90 : m_t1 (m_c X σ_90 a) v1.toInt := m_t1.k t1σ_8 (by rw [mcσ_90 (v1.toInt + 6) (by omega), if_neg (by omega)]) (by rw [mcσ_90 (v1.toInt + 1) (by omega), if_neg (by omega)])
            clear mv9_σ_90 mv12_σ_90 mv14_σ_90 mv15_σ_90 mv16_σ_90 mv27_σ_90 smσ_8 nsσ_8 t5σ_8
            refine lv_aload_n hx hb dX12_readTest_88 rfl (lv_at hl 0 rfl) ?_
            refine lv_aload_n hx hb dX12_readTest_89 rfl (lv_at hl 0 rfl) ?_
            refine lv_bipush (v := 60) hx hb dX12_readTest_90 (by decide) ?_
            have kc_91 : (60 : Int32).toInt = 60 := rfl
            refine q_ci (q_runV (As := [.int 60]) (rest := [.ref a]) E (hml.trans hl.1.symm) hI (c_X12_isSign l X σ_90 a (60 : Int32) ha) kv_X12_243 ha ⟨rfl, by decide⟩ (show vwCl[11]? = some (RX12, TX12, 46) from rfl) rfl ⟨Nat.le_of_ble_eq_true rfl, Nat.le_of_ble_eq_true rfl⟩ ⟨Nat.le_refl _, Nat.le_refl _⟩ rfl (Nat.le_of_ble_eq_true rfl) dX12_readTest_92) hI (by decide) (fun r_92 σ_93 H locs hpσ_93 hkσ_93 hI => ?_)
            obtain ⟨ahpσ_93, bhpσ_93, chpσ_93⟩ := hpσ_93
            rw [ahpσ_93] at hI
            replace hF := q_letX hF chpσ_93
            refine q_if_ne (A := r_92.toInt) E rfl (tgt := 116) dX12_readTest_95 (by decide) (fun c_94 => ?_) (fun c_94 => ?_)
            · skip
              replace hF := q_ifn hF c_94
              refine lv_iconst (v := 1) hx hb dX12_readTest_116 (by decide) ?_
              refine lv_goto (tgt := 121) hx hb dX12_readTest_117 (by decide) ?_
              have kc_95 : (1 : Int32).toInt = 1 := rfl
              refine q_cv (q_runV (As := [.int 1]) (rest := []) E (hml.trans hl.1.symm) hI (c_X12_must l X σ_90 a (1 : Int32) ha (by first | exact sm_9 smσ_90 | exact hs | omega) (by omega)) kv_X12_216 ha ⟨rfl, by decide⟩ (show vwCl[11]? = some (RX12, TX12, 46) from rfl) rfl ⟨Nat.le_of_ble_eq_true rfl, Nat.le_of_ble_eq_true rfl⟩ ⟨Nat.le_refl _, Nat.le_refl _⟩ rfl (Nat.le_of_ble_eq_true rfl) dX12_readTest_121) hI (by decide) (fun σ_97 H locs hpσ_97 hkσ_97 hI => ?_)
              obtain ⟨ahpσ_97, bhpσ_97, chpσ_97, dhpσ_97, ehpσ_97⟩ := hpσ_97
              have fr_σ_97 := fr_σ_90.call ehpσ_97 rfl rfl
              replace hF := q_letX hF dhpσ_97
              have mv27_σ_97 : (σ_97.1 a 27).toInt = (σ_90.1 a 27).toInt := congrArg Int32.toInt (ahpσ_97 a 27 (q_cl9 _ _) (fun h => absurd h.2.2 (by decide)))
              have mcσ_97 := m_cK hkσ_97 hI.1 ha (by decide)
              have kwσ_97 : ∀ j, 0 ≤ j → (j < v1.toInt + 1 ∨ v1.toInt + 8 ≤ j) → m_c X σ_97 a j = m_c X σ a j := fun j h0 h1 => (mcσ_97 j).trans (kwσ_90 j h0 h1)
              have smσ_97 : 0 ≤ (σ_97.1 a 15).toInt ∧ (σ_97.1 a 15).toInt ≤ (σ_97.1 a 16).toInt ∧ (σ_97.1 a 16).toInt ≤ (σ_97.1 a 9).toInt ∧ (σ_97.1 a 9).toInt ≤ 900 ∧ 0 ≤ (σ_97.1 a 14).toInt ∧ (σ_97.1 a 14).toInt ≤ 4 ∧ (σ_97.1 a 14).toInt ≤ 4 * ((σ_97.1 a 16).toInt - (σ_97.1 a 15).toInt) ∧ (σ_97.1 a 14).toInt ≤ 4 * ((σ_97.1 a 9).toInt - (σ_97.1 a 15).toInt) ∧ 0 ≤ (σ_97.1 a 12).toInt ∧ (σ_97.1 a 9).toInt = (σ.1 a 9).toInt ∧ (σ.1 a 15).toInt ≤ (σ_97.1 a 15).toInt ∧ (σ.1 a 12).toInt ≤ (σ_97.1 a 12).toInt := (by first | exact sm_tr smσ_90 bhpσ_97 | exact sm_tr smσ_90 chpσ_97 | omega)
              have nsσ_97 : (σ_97.1 a 27).toInt = (σ.1 a 27).toInt := (by omega)
              have t5σ_97 : 0 ≤ r_1.toInt + (σ_97.1 a 12).toInt := (by omega)
              have t6σ_97 : m_c X σ_97 a (v1.toInt + 6) = r_1.toInt := (mcσ_97 _).trans t6σ_90
              have t1σ_97 : m_t1 (m_c X σ_97 a) v1.toInt := m_t1.k t1σ_90 (mcσ_97 _) (mcσ_97 _)
              clear mv27_σ_97 smσ_90 nsσ_90 t5σ_90 bhpσ_97
              refine lv_aload_n hx hb dX12_readTest_124 rfl (lv_at hl 0 rfl) ?_
              refine gs_X12_35_12 E hI ha dX12_readTest_125 ?_
              refine lv_iload_n hx hb dX12_readTest_128 rfl (lv_at hl 1 rfl) ?_
              refine lv_iconst (v := 2) hx hb dX12_readTest_129 (by decide) ?_
              refine lv_iadd hx hb dX12_readTest_130 ?_
              refine lv_topi (fun z_98 ez_98 => ?_)
              replace hF := q_letX hF ez_98
              have iz_98 := q_addI (A := v1.toInt) (B := 2) ez_98 rfl (by decide) (by omega) (by omega)
              refine lv_aload_n hx hb dX12_readTest_131 rfl (lv_at hl 0 rfl) ?_
              refine lv_iconst (v := 0) hx hb dX12_readTest_132 (by decide) ?_
              refine lv_iload_n hx hb dX12_readTest_133 rfl (lv_at hl 2 rfl) ?_
              refine lv_iconst (v := 2) hx hb dX12_readTest_134 (by decide) ?_
              refine q_icmp_ne (A := r_1.toInt) (B := 2) E rfl (by decide) (tgt := 144) dX12_readTest_135 (by decide) (fun c_99 => ?_) (fun c_99 => ?_)
              · skip
                replace hF := q_ifn hF c_99
                refine lv_bipush (v := 80) hx hb dX12_readTest_144 (by decide) ?_
                have kc_100 : (0 : Int32).toInt = 0 := rfl
                have kc_101 : (80 : Int32).toInt = 80 := rfl
                refine q_ci (q_runV (As := [.int 0, .int 80]) (rest := [.int z_98, .ref (q_rf X a 20)]) E (hml.trans hl.1.symm) hI (c_X12_count l X σ_97 a (0 : Int32) (80 : Int32) ha (by first | exact sm_9 smσ_97 | exact hs | omega) (by omega)) kv_X12_223 ha ⟨rfl, by decide⟩ (show vwCl[11]? = some (RX12, TX12, 46) from rfl) rfl ⟨Nat.le_of_ble_eq_true rfl, Nat.le_of_ble_eq_true rfl⟩ ⟨Nat.le_refl _, Nat.le_refl _⟩ rfl (Nat.le_of_ble_eq_true rfl) dX12_readTest_146) hI (by decide) (fun r_102 σ_103 H locs hpσ_103 hkσ_103 hI => ?_)
                obtain ⟨ahpσ_103, bhpσ_103, chpσ_103, dhpσ_103, ehpσ_103⟩ := hpσ_103
                have fr_σ_103 := fr_σ_97.call ehpσ_103 rfl rfl
                replace hF := q_biX hF dhpσ_103
                have mv27_σ_103 : (σ_103.1 a 27).toInt = (σ_97.1 a 27).toInt := congrArg Int32.toInt (ahpσ_103 a 27 (q_cl9 _ _) (fun h => absurd h.2.2 (by decide)))
                have mcσ_103 := m_cK hkσ_103 hI.1 ha (by decide)
                have kwσ_103 : ∀ j, 0 ≤ j → (j < v1.toInt + 1 ∨ v1.toInt + 8 ≤ j) → m_c X σ_103 a j = m_c X σ a j := fun j h0 h1 => (mcσ_103 j).trans (kwσ_97 j h0 h1)
                have smσ_103 : 0 ≤ (σ_103.1 a 15).toInt ∧ (σ_103.1 a 15).toInt ≤ (σ_103.1 a 16).toInt ∧ (σ_103.1 a 16).toInt ≤ (σ_103.1 a 9).toInt ∧ (σ_103.1 a 9).toInt ≤ 900 ∧ 0 ≤ (σ_103.1 a 14).toInt ∧ (σ_103.1 a 14).toInt ≤ 4 ∧ (σ_103.1 a 14).toInt ≤ 4 * ((σ_103.1 a 16).toInt - (σ_103.1 a 15).toInt) ∧ (σ_103.1 a 14).toInt ≤ 4 * ((σ_103.1 a 9).toInt - (σ_103.1 a 15).toInt) ∧ 0 ≤ (σ_103.1 a 12).toInt ∧ (σ_103.1 a 9).toInt = (σ.1 a 9).toInt ∧ (σ.1 a 15).toInt ≤ (σ_103.1 a 15).toInt ∧ (σ.1 a 12).toInt ≤ (σ_103.1 a 12).toInt := (by first | exact sm_tr smσ_97 bhpσ_103 | exact sm_tr smσ_97 chpσ_103 | omega)
                have nsσ_103 : (σ_103.1 a 27).toInt = (σ.1 a 27).toInt := (by omega)
                have t5σ_103 : 0 ≤ r_1.toInt + (σ_103.1 a 12).toInt := (by omega)
                have t6σ_103 : m_c X σ_103 a (v1.toInt + 6) = r_1.toInt := (mcσ_103 _).trans t6σ_97
                have t1σ_103 : m_t1 (m_c X σ_103 a) v1.toInt := m_t1.k t1σ_97 (mcσ_103 _) (mcσ_103 _)
                clear mv27_σ_103 smσ_97 nsσ_97 t5σ_97 bhpσ_103
                refine q_iastN E hI (q_tk (k' := 34) hI ha rfl (by decide)) ⟨by decide, rfl⟩ (by omega) (by rw [q_lnk (v := 4650) hI (q_tk (k' := 34) hI ha rfl (by decide)) rfl (by decide)]; omega) (show 1 < 2 by decide) (q_inU rfl) dX12_readTest_149 (fun H locs σ_104 hσ_104 hI => ?_)
                replace hF := q_letX hF hσ_104
                have fr_σ_104 := fr_σ_103.si hσ_104 (q_tk (k' := 34) hI ha rfl (by decide)) rfl
                have mv9_σ_104 : (σ_104.1 a 9).toInt = (σ_103.1 a 9).toInt := congrArg Int32.toInt (q_rdn hσ_104 (Or.inl (m_ne ha (q_tk (k' := 34) hI ha rfl (by decide)) (by decide))))
                have mv12_σ_104 : (σ_104.1 a 12).toInt = (σ_103.1 a 12).toInt := congrArg Int32.toInt (q_rdn hσ_104 (Or.inl (m_ne ha (q_tk (k' := 34) hI ha rfl (by decide)) (by decide))))
                have mv14_σ_104 : (σ_104.1 a 14).toInt = (σ_103.1 a 14).toInt := congrArg Int32.toInt (q_rdn hσ_104 (Or.inl (m_ne ha (q_tk (k' := 34) hI ha rfl (by decide)) (by decide))))
                have mv15_σ_104 : (σ_104.1 a 15).toInt = (σ_103.1 a 15).toInt := congrArg Int32.toInt (q_rdn hσ_104 (Or.inl (m_ne ha (q_tk (k' := 34) hI ha rfl (by decide)) (by decide))))
                have mv16_σ_104 : (σ_104.1 a 16).toInt = (σ_103.1 a 16).toInt := congrArg Int32.toInt (q_rdn hσ_104 (Or.inl (m_ne ha (q_tk (k' := 34) hI ha rfl (by decide)) (by decide))))
                have mv27_σ_104 : (σ_104.1 a 27).toInt = (σ_103.1 a 27).toInt := congrArg Int32.toInt (q_rdn hσ_104 (Or.inl (m_ne ha (q_tk (k' := 34) hI ha rfl (by decide)) (by decide))))
                have mcσ_104 := m_wr (v := r_102) (A := (v1.toInt + 2)) hσ_104 iz_98 (by omega)
                have kwσ_104 : ∀ j, 0 ≤ j → (j < v1.toInt + 1 ∨ v1.toInt + 8 ≤ j) → m_c X σ_104 a j = m_c X σ a j := fun j h0 h1 => by rw [mcσ_104 j h0, if_neg (by omega)]; exact kwσ_103 j h0 h1
                have smσ_104 : 0 ≤ (σ_104.1 a 15).toInt ∧ (σ_104.1 a 15).toInt ≤ (σ_104.1 a 16).toInt ∧ (σ_104.1 a 16).toInt ≤ (σ_104.1 a 9).toInt ∧ (σ_104.1 a 9).toInt ≤ 900 ∧ 0 ≤ (σ_104.1 a 14).toInt ∧ (σ_104.1 a 14).toInt ≤ 4 ∧ (σ_104.1 a 14).toInt ≤ 4 * ((σ_104.1 a 16).toInt - (σ_104.1 a 15).toInt) ∧ (σ_104.1 a 14).toInt ≤ 4 * ((σ_104.1 a 9).toInt - (σ_104.1 a 15).toInt) ∧ 0 ≤ (σ_104.1 a 12).toInt ∧ (σ_104.1 a 9).toInt = (σ.1 a 9).toInt ∧ (σ.1 a 15).toInt ≤ (σ_104.1 a 15).toInt ∧ (σ.1 a 12).toInt ≤ (σ_104.1 a 12).toInt := (by first | (rw [mv12_σ_104, mv14_σ_104, mv15_σ_104, mv16_σ_104, mv9_σ_104]; exact smσ_103) | omega)
                have nsσ_104 : (σ_104.1 a 27).toInt = (σ.1 a 27).toInt := (by omega)
                have t5σ_104 : 0 ≤ r_1.toInt + (σ_104.1 a 12).toInt := (by omega)
                have t6σ_104 : m_c X σ_104 a (v1.toInt + 6) = r_1.toInt := (by rw [mcσ_104 (v1.toInt + 6) (by omega), if_neg (by omega)]; exact t6σ_103)
                have t1σ_104 : m_t1 (m_c X σ_104 a) v1.toInt := m_t1.k t1σ_103 (by rw [mcσ_104 (v1.toInt + 6) (by omega), if_neg (by omega)]) (by rw [mcσ_104 (v1.toInt + 1) (by omega), if_neg (by omega)])
                clear mv9_σ_104 mv12_σ_104 mv14_σ_104 mv15_σ_104 mv16_σ_104 mv27_σ_104 smσ_103 nsσ_103 t5σ_103
                rewrite [hQQ]; exact q_retv E hr hlk hI ⟨kwσ_104, (by first | exact smσ_104 | omega), nsσ_104, (fun e => ⟨by rw [t6σ_104]; omega, t1σ_104⟩), (hF.trans hout), fr_σ_104⟩ dX12_readTest_150
              · skip
                replace hF := q_ifp hF c_99
                refine lv_sipush (v := 999) hx hb dX12_readTest_138 (by decide) ?_
                refine lv_goto (tgt := 146) hx hb dX12_readTest_141 (by decide) ?_
                have kc_105 : (0 : Int32).toInt = 0 := rfl
                have kc_106 : (999 : Int32).toInt = 999 := rfl
                refine q_ci (q_runV (As := [.int 0, .int 999]) (rest := [.int z_98, .ref (q_rf X a 20)]) E (hml.trans hl.1.symm) hI (c_X12_count l X σ_97 a (0 : Int32) (999 : Int32) ha (by first | exact sm_9 smσ_97 | exact hs | omega) (by omega)) kv_X12_223 ha ⟨rfl, by decide⟩ (show vwCl[11]? = some (RX12, TX12, 46) from rfl) rfl ⟨Nat.le_of_ble_eq_true rfl, Nat.le_of_ble_eq_true rfl⟩ ⟨Nat.le_refl _, Nat.le_refl _⟩ rfl (Nat.le_of_ble_eq_true rfl) dX12_readTest_146) hI (by decide) (fun r_107 σ_108 H locs hpσ_108 hkσ_108 hI => ?_)
                obtain ⟨ahpσ_108, bhpσ_108, chpσ_108, dhpσ_108, ehpσ_108⟩ := hpσ_108
                have fr_σ_108 := fr_σ_97.call ehpσ_108 rfl rfl
                replace hF := q_biX hF dhpσ_108
                have mv27_σ_108 : (σ_108.1 a 27).toInt = (σ_97.1 a 27).toInt := congrArg Int32.toInt (ahpσ_108 a 27 (q_cl9 _ _) (fun h => absurd h.2.2 (by decide)))
                have mcσ_108 := m_cK hkσ_108 hI.1 ha (by decide)
                have kwσ_108 : ∀ j, 0 ≤ j → (j < v1.toInt + 1 ∨ v1.toInt + 8 ≤ j) → m_c X σ_108 a j = m_c X σ a j := fun j h0 h1 => (mcσ_108 j).trans (kwσ_97 j h0 h1)
                have smσ_108 : 0 ≤ (σ_108.1 a 15).toInt ∧ (σ_108.1 a 15).toInt ≤ (σ_108.1 a 16).toInt ∧ (σ_108.1 a 16).toInt ≤ (σ_108.1 a 9).toInt ∧ (σ_108.1 a 9).toInt ≤ 900 ∧ 0 ≤ (σ_108.1 a 14).toInt ∧ (σ_108.1 a 14).toInt ≤ 4 ∧ (σ_108.1 a 14).toInt ≤ 4 * ((σ_108.1 a 16).toInt - (σ_108.1 a 15).toInt) ∧ (σ_108.1 a 14).toInt ≤ 4 * ((σ_108.1 a 9).toInt - (σ_108.1 a 15).toInt) ∧ 0 ≤ (σ_108.1 a 12).toInt ∧ (σ_108.1 a 9).toInt = (σ.1 a 9).toInt ∧ (σ.1 a 15).toInt ≤ (σ_108.1 a 15).toInt ∧ (σ.1 a 12).toInt ≤ (σ_108.1 a 12).toInt := (by first | exact sm_tr smσ_97 bhpσ_108 | exact sm_tr smσ_97 chpσ_108 | omega)
                have nsσ_108 : (σ_108.1 a 27).toInt = (σ.1 a 27).toInt := (by omega)
                have t5σ_108 : 0 ≤ r_1.toInt + (σ_108.1 a 12).toInt := (by omega)
                have t6σ_108 : m_c X σ_108 a (v1.toInt + 6) = r_1.toInt := (mcσ_108 _).trans t6σ_97
                have t1σ_108 : m_t1 (m_c X σ_108 a) v1.toInt := m_t1.k t1σ_97 (mcσ_108 _) (mcσ_108 _)
                clear mv27_σ_108 smσ_97 nsσ_97 t5σ_97 bhpσ_108
                refine q_iastN E hI (q_tk (k' := 34) hI ha rfl (by decide)) ⟨by decide, rfl⟩ (by omega) (by rw [q_lnk (v := 4650) hI (q_tk (k' := 34) hI ha rfl (by decide)) rfl (by decide)]; omega) (show 1 < 2 by decide) (q_inU rfl) dX12_readTest_149 (fun H locs σ_109 hσ_109 hI => ?_)
                replace hF := q_letX hF hσ_109
                have fr_σ_109 := fr_σ_108.si hσ_109 (q_tk (k' := 34) hI ha rfl (by decide)) rfl
                have mv9_σ_109 : (σ_109.1 a 9).toInt = (σ_108.1 a 9).toInt := congrArg Int32.toInt (q_rdn hσ_109 (Or.inl (m_ne ha (q_tk (k' := 34) hI ha rfl (by decide)) (by decide))))
                have mv12_σ_109 : (σ_109.1 a 12).toInt = (σ_108.1 a 12).toInt := congrArg Int32.toInt (q_rdn hσ_109 (Or.inl (m_ne ha (q_tk (k' := 34) hI ha rfl (by decide)) (by decide))))
                have mv14_σ_109 : (σ_109.1 a 14).toInt = (σ_108.1 a 14).toInt := congrArg Int32.toInt (q_rdn hσ_109 (Or.inl (m_ne ha (q_tk (k' := 34) hI ha rfl (by decide)) (by decide))))
                have mv15_σ_109 : (σ_109.1 a 15).toInt = (σ_108.1 a 15).toInt := congrArg Int32.toInt (q_rdn hσ_109 (Or.inl (m_ne ha (q_tk (k' := 34) hI ha rfl (by decide)) (by decide))))
                have mv16_σ_109 : (σ_109.1 a 16).toInt = (σ_108.1 a 16).toInt := congrArg Int32.toInt (q_rdn hσ_109 (Or.inl (m_ne ha (q_tk (k' := 34) hI ha rfl (by decide)) (by decide))))
                have mv27_σ_109 : (σ_109.1 a 27).toInt = (σ_108.1 a 27).toInt := congrArg Int32.toInt (q_rdn hσ_109 (Or.inl (m_ne ha (q_tk (k' := 34) hI ha rfl (by decide)) (by decide))))
                have mcσ_109 := m_wr (v := r_107) (A := (v1.toInt + 2)) hσ_109 iz_98 (by omega)
                have kwσ_109 : ∀ j, 0 ≤ j → (j < v1.toInt + 1 ∨ v1.toInt + 8 ≤ j) → m_c X σ_109 a j = m_c X σ a j := fun j h0 h1 => by rw [mcσ_109 j h0, if_neg (by omega)]; exact kwσ_108 j h0 h1
                have smσ_109 : 0 ≤ (σ_109.1 a 15).toInt ∧ (σ_109.1 a 15).toInt ≤ (σ_109.1 a 16).toInt ∧ (σ_109.1 a 16).toInt ≤ (σ_109.1 a 9).toInt ∧ (σ_109.1 a 9).toInt ≤ 900 ∧ 0 ≤ (σ_109.1 a 14).toInt ∧ (σ_109.1 a 14).toInt ≤ 4 ∧ (σ_109.1 a 14).toInt ≤ 4 * ((σ_109.1 a 16).toInt - (σ_109.1 a 15).toInt) ∧ (σ_109.1 a 14).toInt ≤ 4 * ((σ_109.1 a 9).toInt - (σ_109.1 a 15).toInt) ∧ 0 ≤ (σ_109.1 a 12).toInt ∧ (σ_109.1 a 9).toInt = (σ.1 a 9).toInt ∧ (σ.1 a 15).toInt ≤ (σ_109.1 a 15).toInt ∧ (σ.1 a 12).toInt ≤ (σ_109.1 a 12).toInt := (by first | (rw [mv12_σ_109, mv14_σ_109, mv15_σ_109, mv16_σ_109, mv9_σ_109]; exact smσ_108) | omega)
                have nsσ_109 : (σ_109.1 a 27).toInt = (σ.1 a 27).toInt := (by omega)
                have t5σ_109 : 0 ≤ r_1.toInt + (σ_109.1 a 12).toInt := (by omega)
                have t6σ_109 : m_c X σ_109 a (v1.toInt + 6) = r_1.toInt := (by rw [mcσ_109 (v1.toInt + 6) (by omega), if_neg (by omega)]; exact t6σ_108)
                have t1σ_109 : m_t1 (m_c X σ_109 a) v1.toInt := m_t1.k t1σ_108 (by rw [mcσ_109 (v1.toInt + 6) (by omega), if_neg (by omega)]) (by rw [mcσ_109 (v1.toInt + 1) (by omega), if_neg (by omega)])
                clear mv9_σ_109 mv12_σ_109 mv14_σ_109 mv15_σ_109 mv16_σ_109 mv27_σ_109 smσ_108 nsσ_108 t5σ_108
                rewrite [hQQ]; exact q_retv E hr hlk hI ⟨kwσ_109, (by first | exact smσ_109 | omega), nsσ_109, (fun e => ⟨by rw [t6σ_109]; omega, t1σ_109⟩), (hF.trans hout), fr_σ_109⟩ dX12_readTest_150
            · skip
              replace hF := q_ifp hF c_94
              refine lv_aload_n hx hb dX12_readTest_98 rfl (lv_at hl 0 rfl) ?_
              refine lv_bipush (v := 62) hx hb dX12_readTest_99 (by decide) ?_
              have kc_110 : (62 : Int32).toInt = 62 := rfl
              refine q_ci (q_runV (As := [.int 62]) (rest := [.ref a]) E (hml.trans hl.1.symm) hI (c_X12_isSign l X σ_90 a (62 : Int32) ha) kv_X12_243 ha ⟨rfl, by decide⟩ (show vwCl[11]? = some (RX12, TX12, 46) from rfl) rfl ⟨Nat.le_of_ble_eq_true rfl, Nat.le_of_ble_eq_true rfl⟩ ⟨Nat.le_refl _, Nat.le_refl _⟩ rfl (Nat.le_of_ble_eq_true rfl) dX12_readTest_101) hI (by decide) (fun r_111 σ_112 H locs hpσ_112 hkσ_112 hI => ?_)
              obtain ⟨ahpσ_112, bhpσ_112, chpσ_112⟩ := hpσ_112
              rw [ahpσ_112] at hI
              replace hF := q_letX hF chpσ_112
              refine q_if_ne (A := r_111.toInt) E rfl (tgt := 116) dX12_readTest_104 (by decide) (fun c_113 => ?_) (fun c_113 => ?_)
              · skip
                replace hF := q_ifn hF c_113
                refine lv_iconst (v := 1) hx hb dX12_readTest_116 (by decide) ?_
                refine lv_goto (tgt := 121) hx hb dX12_readTest_117 (by decide) ?_
                have kc_114 : (1 : Int32).toInt = 1 := rfl
                refine q_cv (q_runV (As := [.int 1]) (rest := []) E (hml.trans hl.1.symm) hI (c_X12_must l X σ_90 a (1 : Int32) ha (by first | exact sm_9 smσ_90 | exact hs | omega) (by omega)) kv_X12_216 ha ⟨rfl, by decide⟩ (show vwCl[11]? = some (RX12, TX12, 46) from rfl) rfl ⟨Nat.le_of_ble_eq_true rfl, Nat.le_of_ble_eq_true rfl⟩ ⟨Nat.le_refl _, Nat.le_refl _⟩ rfl (Nat.le_of_ble_eq_true rfl) dX12_readTest_121) hI (by decide) (fun σ_116 H locs hpσ_116 hkσ_116 hI => ?_)
                obtain ⟨ahpσ_116, bhpσ_116, chpσ_116, dhpσ_116, ehpσ_116⟩ := hpσ_116
                have fr_σ_116 := fr_σ_90.call ehpσ_116 rfl rfl
                replace hF := q_letX hF dhpσ_116
                have mv27_σ_116 : (σ_116.1 a 27).toInt = (σ_90.1 a 27).toInt := congrArg Int32.toInt (ahpσ_116 a 27 (q_cl9 _ _) (fun h => absurd h.2.2 (by decide)))
                have mcσ_116 := m_cK hkσ_116 hI.1 ha (by decide)
                have kwσ_116 : ∀ j, 0 ≤ j → (j < v1.toInt + 1 ∨ v1.toInt + 8 ≤ j) → m_c X σ_116 a j = m_c X σ a j := fun j h0 h1 => (mcσ_116 j).trans (kwσ_90 j h0 h1)
                have smσ_116 : 0 ≤ (σ_116.1 a 15).toInt ∧ (σ_116.1 a 15).toInt ≤ (σ_116.1 a 16).toInt ∧ (σ_116.1 a 16).toInt ≤ (σ_116.1 a 9).toInt ∧ (σ_116.1 a 9).toInt ≤ 900 ∧ 0 ≤ (σ_116.1 a 14).toInt ∧ (σ_116.1 a 14).toInt ≤ 4 ∧ (σ_116.1 a 14).toInt ≤ 4 * ((σ_116.1 a 16).toInt - (σ_116.1 a 15).toInt) ∧ (σ_116.1 a 14).toInt ≤ 4 * ((σ_116.1 a 9).toInt - (σ_116.1 a 15).toInt) ∧ 0 ≤ (σ_116.1 a 12).toInt ∧ (σ_116.1 a 9).toInt = (σ.1 a 9).toInt ∧ (σ.1 a 15).toInt ≤ (σ_116.1 a 15).toInt ∧ (σ.1 a 12).toInt ≤ (σ_116.1 a 12).toInt := (by first | exact sm_tr smσ_90 bhpσ_116 | exact sm_tr smσ_90 chpσ_116 | omega)
                have nsσ_116 : (σ_116.1 a 27).toInt = (σ.1 a 27).toInt := (by omega)
                have t5σ_116 : 0 ≤ r_1.toInt + (σ_116.1 a 12).toInt := (by omega)
                have t6σ_116 : m_c X σ_116 a (v1.toInt + 6) = r_1.toInt := (mcσ_116 _).trans t6σ_90
                have t1σ_116 : m_t1 (m_c X σ_116 a) v1.toInt := m_t1.k t1σ_90 (mcσ_116 _) (mcσ_116 _)
                clear mv27_σ_116 smσ_90 nsσ_90 t5σ_90 bhpσ_116
                refine lv_aload_n hx hb dX12_readTest_124 rfl (lv_at hl 0 rfl) ?_
                refine gs_X12_35_12 E hI ha dX12_readTest_125 ?_
                refine lv_iload_n hx hb dX12_readTest_128 rfl (lv_at hl 1 rfl) ?_
                refine lv_iconst (v := 2) hx hb dX12_readTest_129 (by decide) ?_
                refine lv_iadd hx hb dX12_readTest_130 ?_
                refine lv_topi (fun z_117 ez_117 => ?_)
                replace hF := q_letX hF ez_117
                have iz_117 := q_addI (A := v1.toInt) (B := 2) ez_117 rfl (by decide) (by omega) (by omega)
                refine lv_aload_n hx hb dX12_readTest_131 rfl (lv_at hl 0 rfl) ?_
                refine lv_iconst (v := 0) hx hb dX12_readTest_132 (by decide) ?_
                refine lv_iload_n hx hb dX12_readTest_133 rfl (lv_at hl 2 rfl) ?_
                refine lv_iconst (v := 2) hx hb dX12_readTest_134 (by decide) ?_
                refine q_icmp_ne (A := r_1.toInt) (B := 2) E rfl (by decide) (tgt := 144) dX12_readTest_135 (by decide) (fun c_118 => ?_) (fun c_118 => ?_)
                · skip
                  replace hF := q_ifn hF c_118
                  refine lv_bipush (v := 80) hx hb dX12_readTest_144 (by decide) ?_
                  have kc_119 : (0 : Int32).toInt = 0 := rfl
                  have kc_120 : (80 : Int32).toInt = 80 := rfl
                  refine q_ci (q_runV (As := [.int 0, .int 80]) (rest := [.int z_117, .ref (q_rf X a 20)]) E (hml.trans hl.1.symm) hI (c_X12_count l X σ_116 a (0 : Int32) (80 : Int32) ha (by first | exact sm_9 smσ_116 | exact hs | omega) (by omega)) kv_X12_223 ha ⟨rfl, by decide⟩ (show vwCl[11]? = some (RX12, TX12, 46) from rfl) rfl ⟨Nat.le_of_ble_eq_true rfl, Nat.le_of_ble_eq_true rfl⟩ ⟨Nat.le_refl _, Nat.le_refl _⟩ rfl (Nat.le_of_ble_eq_true rfl) dX12_readTest_146) hI (by decide) (fun r_121 σ_122 H locs hpσ_122 hkσ_122 hI => ?_)
                  obtain ⟨ahpσ_122, bhpσ_122, chpσ_122, dhpσ_122, ehpσ_122⟩ := hpσ_122
                  have fr_σ_122 := fr_σ_116.call ehpσ_122 rfl rfl
                  replace hF := q_biX hF dhpσ_122
                  have mv27_σ_122 : (σ_122.1 a 27).toInt = (σ_116.1 a 27).toInt := congrArg Int32.toInt (ahpσ_122 a 27 (q_cl9 _ _) (fun h => absurd h.2.2 (by decide)))
                  have mcσ_122 := m_cK hkσ_122 hI.1 ha (by decide)
                  have kwσ_122 : ∀ j, 0 ≤ j → (j < v1.toInt + 1 ∨ v1.toInt + 8 ≤ j) → m_c X σ_122 a j = m_c X σ a j := fun j h0 h1 => (mcσ_122 j).trans (kwσ_116 j h0 h1)
                  have smσ_122 : 0 ≤ (σ_122.1 a 15).toInt ∧ (σ_122.1 a 15).toInt ≤ (σ_122.1 a 16).toInt ∧ (σ_122.1 a 16).toInt ≤ (σ_122.1 a 9).toInt ∧ (σ_122.1 a 9).toInt ≤ 900 ∧ 0 ≤ (σ_122.1 a 14).toInt ∧ (σ_122.1 a 14).toInt ≤ 4 ∧ (σ_122.1 a 14).toInt ≤ 4 * ((σ_122.1 a 16).toInt - (σ_122.1 a 15).toInt) ∧ (σ_122.1 a 14).toInt ≤ 4 * ((σ_122.1 a 9).toInt - (σ_122.1 a 15).toInt) ∧ 0 ≤ (σ_122.1 a 12).toInt ∧ (σ_122.1 a 9).toInt = (σ.1 a 9).toInt ∧ (σ.1 a 15).toInt ≤ (σ_122.1 a 15).toInt ∧ (σ.1 a 12).toInt ≤ (σ_122.1 a 12).toInt := (by first | exact sm_tr smσ_116 bhpσ_122 | exact sm_tr smσ_116 chpσ_122 | omega)
                  have nsσ_122 : (σ_122.1 a 27).toInt = (σ.1 a 27).toInt := (by omega)
                  have t5σ_122 : 0 ≤ r_1.toInt + (σ_122.1 a 12).toInt := (by omega)
                  have t6σ_122 : m_c X σ_122 a (v1.toInt + 6) = r_1.toInt := (mcσ_122 _).trans t6σ_116
                  have t1σ_122 : m_t1 (m_c X σ_122 a) v1.toInt := m_t1.k t1σ_116 (mcσ_122 _) (mcσ_122 _)
                  clear mv27_σ_122 smσ_116 nsσ_116 t5σ_116 bhpσ_122
                  refine q_iastN E hI (q_tk (k' := 34) hI ha rfl (by decide)) ⟨by decide, rfl⟩ (by omega) (by rw [q_lnk (v := 4650) hI (q_tk (k' := 34) hI ha rfl (by decide)) rfl (by decide)]; omega) (show 1 < 2 by decide) (q_inU rfl) dX12_readTest_149 (fun H locs σ_123 hσ_123 hI => ?_)
                  replace hF := q_letX hF hσ_123
                  have fr_σ_123 := fr_σ_122.si hσ_123 (q_tk (k' := 34) hI ha rfl (by decide)) rfl
                  have mv9_σ_123 : (σ_123.1 a 9).toInt = (σ_122.1 a 9).toInt := congrArg Int32.toInt (q_rdn hσ_123 (Or.inl (m_ne ha (q_tk (k' := 34) hI ha rfl (by decide)) (by decide))))
                  have mv12_σ_123 : (σ_123.1 a 12).toInt = (σ_122.1 a 12).toInt := congrArg Int32.toInt (q_rdn hσ_123 (Or.inl (m_ne ha (q_tk (k' := 34) hI ha rfl (by decide)) (by decide))))
                  have mv14_σ_123 : (σ_123.1 a 14).toInt = (σ_122.1 a 14).toInt := congrArg Int32.toInt (q_rdn hσ_123 (Or.inl (m_ne ha (q_tk (k' := 34) hI ha rfl (by decide)) (by decide))))
                  have mv15_σ_123 : (σ_123.1 a 15).toInt = (σ_122.1 a 15).toInt := congrArg Int32.toInt (q_rdn hσ_123 (Or.inl (m_ne ha (q_tk (k' := 34) hI ha rfl (by decide)) (by decide))))
                  have mv16_σ_123 : (σ_123.1 a 16).toInt = (σ_122.1 a 16).toInt := congrArg Int32.toInt (q_rdn hσ_123 (Or.inl (m_ne ha (q_tk (k' := 34) hI ha rfl (by decide)) (by decide))))
                  have mv27_σ_123 : (σ_123.1 a 27).toInt = (σ_122.1 a 27).toInt := congrArg Int32.toInt (q_rdn hσ_123 (Or.inl (m_ne ha (q_tk (k' := 34) hI ha rfl (by decide)) (by decide))))
                  have mcσ_123 := m_wr (v := r_121) (A := (v1.toInt + 2)) hσ_123 iz_117 (by omega)
                  have kwσ_123 : ∀ j, 0 ≤ j → (j < v1.toInt + 1 ∨ v1.toInt + 8 ≤ j) → m_c X σ_123 a j = m_c X σ a j := fun j h0 h1 => by rw [mcσ_123 j h0, if_neg (by omega)]; exact kwσ_122 j h0 h1
                  have smσ_123 : 0 ≤ (σ_123.1 a 15).toInt ∧ (σ_123.1 a 15).toInt ≤ (σ_123.1 a 16).toInt ∧ (σ_123.1 a 16).toInt ≤ (σ_123.1 a 9).toInt ∧ (σ_123.1 a 9).toInt ≤ 900 ∧ 0 ≤ (σ_123.1 a 14).toInt ∧ (σ_123.1 a 14).toInt ≤ 4 ∧ (σ_123.1 a 14).toInt ≤ 4 * ((σ_123.1 a 16).toInt - (σ_123.1 a 15).toInt) ∧ (σ_123.1 a 14).toInt ≤ 4 * ((σ_123.1 a 9).toInt - (σ_123.1 a 15).toInt) ∧ 0 ≤ (σ_123.1 a 12).toInt ∧ (σ_123.1 a 9).toInt = (σ.1 a 9).toInt ∧ (σ.1 a 15).toInt ≤ (σ_123.1 a 15).toInt ∧ (σ.1 a 12).toInt ≤ (σ_123.1 a 12).toInt := (by first | (rw [mv12_σ_123, mv14_σ_123, mv15_σ_123, mv16_σ_123, mv9_σ_123]; exact smσ_122) | omega)
                  have nsσ_123 : (σ_123.1 a 27).toInt = (σ.1 a 27).toInt := (by omega)
                  have t5σ_123 : 0 ≤ r_1.toInt + (σ_123.1 a 12).toInt := (by omega)
                  have t6σ_123 : m_c X σ_123 a (v1.toInt + 6) = r_1.toInt := (by rw [mcσ_123 (v1.toInt + 6) (by omega), if_neg (by omega)]; exact t6σ_122)
                  have t1σ_123 : m_t1 (m_c X σ_123 a) v1.toInt := m_t1.k t1σ_122 (by rw [mcσ_123 (v1.toInt + 6) (by omega), if_neg (by omega)]) (by rw [mcσ_123 (v1.toInt + 1) (by omega), if_neg (by omega)])
                  clear mv9_σ_123 mv12_σ_123 mv14_σ_123 mv15_σ_123 mv16_σ_123 mv27_σ_123 smσ_122 nsσ_122 t5σ_122
                  rewrite [hQQ]; exact q_retv E hr hlk hI ⟨kwσ_123, (by first | exact smσ_123 | omega), nsσ_123, (fun e => ⟨by rw [t6σ_123]; omega, t1σ_123⟩), (hF.trans hout), fr_σ_123⟩ dX12_readTest_150
                · skip
                  replace hF := q_ifp hF c_118
                  refine lv_sipush (v := 999) hx hb dX12_readTest_138 (by decide) ?_
                  refine lv_goto (tgt := 146) hx hb dX12_readTest_141 (by decide) ?_
                  have kc_124 : (0 : Int32).toInt = 0 := rfl
                  have kc_125 : (999 : Int32).toInt = 999 := rfl
                  refine q_ci (q_runV (As := [.int 0, .int 999]) (rest := [.int z_117, .ref (q_rf X a 20)]) E (hml.trans hl.1.symm) hI (c_X12_count l X σ_116 a (0 : Int32) (999 : Int32) ha (by first | exact sm_9 smσ_116 | exact hs | omega) (by omega)) kv_X12_223 ha ⟨rfl, by decide⟩ (show vwCl[11]? = some (RX12, TX12, 46) from rfl) rfl ⟨Nat.le_of_ble_eq_true rfl, Nat.le_of_ble_eq_true rfl⟩ ⟨Nat.le_refl _, Nat.le_refl _⟩ rfl (Nat.le_of_ble_eq_true rfl) dX12_readTest_146) hI (by decide) (fun r_126 σ_127 H locs hpσ_127 hkσ_127 hI => ?_)
                  obtain ⟨ahpσ_127, bhpσ_127, chpσ_127, dhpσ_127, ehpσ_127⟩ := hpσ_127
                  have fr_σ_127 := fr_σ_116.call ehpσ_127 rfl rfl
                  replace hF := q_biX hF dhpσ_127
                  have mv27_σ_127 : (σ_127.1 a 27).toInt = (σ_116.1 a 27).toInt := congrArg Int32.toInt (ahpσ_127 a 27 (q_cl9 _ _) (fun h => absurd h.2.2 (by decide)))
                  have mcσ_127 := m_cK hkσ_127 hI.1 ha (by decide)
                  have kwσ_127 : ∀ j, 0 ≤ j → (j < v1.toInt + 1 ∨ v1.toInt + 8 ≤ j) → m_c X σ_127 a j = m_c X σ a j := fun j h0 h1 => (mcσ_127 j).trans (kwσ_116 j h0 h1)
                  have smσ_127 : 0 ≤ (σ_127.1 a 15).toInt ∧ (σ_127.1 a 15).toInt ≤ (σ_127.1 a 16).toInt ∧ (σ_127.1 a 16).toInt ≤ (σ_127.1 a 9).toInt ∧ (σ_127.1 a 9).toInt ≤ 900 ∧ 0 ≤ (σ_127.1 a 14).toInt ∧ (σ_127.1 a 14).toInt ≤ 4 ∧ (σ_127.1 a 14).toInt ≤ 4 * ((σ_127.1 a 16).toInt - (σ_127.1 a 15).toInt) ∧ (σ_127.1 a 14).toInt ≤ 4 * ((σ_127.1 a 9).toInt - (σ_127.1 a 15).toInt) ∧ 0 ≤ (σ_127.1 a 12).toInt ∧ (σ_127.1 a 9).toInt = (σ.1 a 9).toInt ∧ (σ.1 a 15).toInt ≤ (σ_127.1 a 15).toInt ∧ (σ.1 a 12).toInt ≤ (σ_127.1 a 12).toInt := (by first | exact sm_tr smσ_116 bhpσ_127 | exact sm_tr smσ_116 chpσ_127 | omega)
                  have nsσ_127 : (σ_127.1 a 27).toInt = (σ.1 a 27).toInt := (by omega)
                  have t5σ_127 : 0 ≤ r_1.toInt + (σ_127.1 a 12).toInt := (by omega)
                  have t6σ_127 : m_c X σ_127 a (v1.toInt + 6) = r_1.toInt := (mcσ_127 _).trans t6σ_116
                  have t1σ_127 : m_t1 (m_c X σ_127 a) v1.toInt := m_t1.k t1σ_116 (mcσ_127 _) (mcσ_127 _)
                  clear mv27_σ_127 smσ_116 nsσ_116 t5σ_116 bhpσ_127
                  refine q_iastN E hI (q_tk (k' := 34) hI ha rfl (by decide)) ⟨by decide, rfl⟩ (by omega) (by rw [q_lnk (v := 4650) hI (q_tk (k' := 34) hI ha rfl (by decide)) rfl (by decide)]; omega) (show 1 < 2 by decide) (q_inU rfl) dX12_readTest_149 (fun H locs σ_128 hσ_128 hI => ?_)
                  replace hF := q_letX hF hσ_128
                  have fr_σ_128 := fr_σ_127.si hσ_128 (q_tk (k' := 34) hI ha rfl (by decide)) rfl
                  have mv9_σ_128 : (σ_128.1 a 9).toInt = (σ_127.1 a 9).toInt := congrArg Int32.toInt (q_rdn hσ_128 (Or.inl (m_ne ha (q_tk (k' := 34) hI ha rfl (by decide)) (by decide))))
                  have mv12_σ_128 : (σ_128.1 a 12).toInt = (σ_127.1 a 12).toInt := congrArg Int32.toInt (q_rdn hσ_128 (Or.inl (m_ne ha (q_tk (k' := 34) hI ha rfl (by decide)) (by decide))))
                  have mv14_σ_128 : (σ_128.1 a 14).toInt = (σ_127.1 a 14).toInt := congrArg Int32.toInt (q_rdn hσ_128 (Or.inl (m_ne ha (q_tk (k' := 34) hI ha rfl (by decide)) (by decide))))
                  have mv15_σ_128 : (σ_128.1 a 15).toInt = (σ_127.1 a 15).toInt := congrArg Int32.toInt (q_rdn hσ_128 (Or.inl (m_ne ha (q_tk (k' := 34) hI ha rfl (by decide)) (by decide))))
                  have mv16_σ_128 : (σ_128.1 a 16).toInt = (σ_127.1 a 16).toInt := congrArg Int32.toInt (q_rdn hσ_128 (Or.inl (m_ne ha (q_tk (k' := 34) hI ha rfl (by decide)) (by decide))))
                  have mv27_σ_128 : (σ_128.1 a 27).toInt = (σ_127.1 a 27).toInt := congrArg Int32.toInt (q_rdn hσ_128 (Or.inl (m_ne ha (q_tk (k' := 34) hI ha rfl (by decide)) (by decide))))
                  have mcσ_128 := m_wr (v := r_126) (A := (v1.toInt + 2)) hσ_128 iz_117 (by omega)
                  have kwσ_128 : ∀ j, 0 ≤ j → (j < v1.toInt + 1 ∨ v1.toInt + 8 ≤ j) → m_c X σ_128 a j = m_c X σ a j := fun j h0 h1 => by rw [mcσ_128 j h0, if_neg (by omega)]; exact kwσ_127 j h0 h1
                  have smσ_128 : 0 ≤ (σ_128.1 a 15).toInt ∧ (σ_128.1 a 15).toInt ≤ (σ_128.1 a 16).toInt ∧ (σ_128.1 a 16).toInt ≤ (σ_128.1 a 9).toInt ∧ (σ_128.1 a 9).toInt ≤ 900 ∧ 0 ≤ (σ_128.1 a 14).toInt ∧ (σ_128.1 a 14).toInt ≤ 4 ∧ (σ_128.1 a 14).toInt ≤ 4 * ((σ_128.1 a 16).toInt - (σ_128.1 a 15).toInt) ∧ (σ_128.1 a 14).toInt ≤ 4 * ((σ_128.1 a 9).toInt - (σ_128.1 a 15).toInt) ∧ 0 ≤ (σ_128.1 a 12).toInt ∧ (σ_128.1 a 9).toInt = (σ.1 a 9).toInt ∧ (σ.1 a 15).toInt ≤ (σ_128.1 a 15).toInt ∧ (σ.1 a 12).toInt ≤ (σ_128.1 a 12).toInt := (by first | (rw [mv12_σ_128, mv14_σ_128, mv15_σ_128, mv16_σ_128, mv9_σ_128]; exact smσ_127) | omega)
                  have nsσ_128 : (σ_128.1 a 27).toInt = (σ.1 a 27).toInt := (by omega)
                  have t5σ_128 : 0 ≤ r_1.toInt + (σ_128.1 a 12).toInt := (by omega)
                  have t6σ_128 : m_c X σ_128 a (v1.toInt + 6) = r_1.toInt := (by rw [mcσ_128 (v1.toInt + 6) (by omega), if_neg (by omega)]; exact t6σ_127)
                  have t1σ_128 : m_t1 (m_c X σ_128 a) v1.toInt := m_t1.k t1σ_127 (by rw [mcσ_128 (v1.toInt + 6) (by omega), if_neg (by omega)]) (by rw [mcσ_128 (v1.toInt + 1) (by omega), if_neg (by omega)])
                  clear mv9_σ_128 mv12_σ_128 mv14_σ_128 mv15_σ_128 mv16_σ_128 mv27_σ_128 smσ_127 nsσ_127 t5σ_127
                  rewrite [hQQ]; exact q_retv E hr hlk hI ⟨kwσ_128, (by first | exact smσ_128 | omega), nsσ_128, (fun e => ⟨by rw [t6σ_128]; omega, t1σ_128⟩), (hF.trans hout), fr_σ_128⟩ dX12_readTest_150
              · skip
                replace hF := q_ifp hF c_113
                refine lv_aload_n hx hb dX12_readTest_107 rfl (lv_at hl 0 rfl) ?_
                refine lv_bipush (v := 61) hx hb dX12_readTest_108 (by decide) ?_
                have kc_129 : (61 : Int32).toInt = 61 := rfl
                refine q_ci (q_runV (As := [.int 61]) (rest := [.ref a]) E (hml.trans hl.1.symm) hI (c_X12_isSign l X σ_90 a (61 : Int32) ha) kv_X12_243 ha ⟨rfl, by decide⟩ (show vwCl[11]? = some (RX12, TX12, 46) from rfl) rfl ⟨Nat.le_of_ble_eq_true rfl, Nat.le_of_ble_eq_true rfl⟩ ⟨Nat.le_refl _, Nat.le_refl _⟩ rfl (Nat.le_of_ble_eq_true rfl) dX12_readTest_110) hI (by decide) (fun r_130 σ_131 H locs hpσ_131 hkσ_131 hI => ?_)
                obtain ⟨ahpσ_131, bhpσ_131, chpσ_131⟩ := hpσ_131
                rw [ahpσ_131] at hI
                replace hF := q_letX hF chpσ_131
                refine q_if_eq (A := r_130.toInt) E rfl (tgt := 120) dX12_readTest_113 (by decide) (fun c_132 => ?_) (fun c_132 => ?_)
                · skip
                  replace hF := q_ifp hF c_132
                  refine lv_iconst (v := 0) hx hb dX12_readTest_120 (by decide) ?_
                  have kc_133 : (0 : Int32).toInt = 0 := rfl
                  refine q_cv (q_runV (As := [.int 0]) (rest := []) E (hml.trans hl.1.symm) hI (c_X12_must l X σ_90 a (0 : Int32) ha (by first | exact sm_9 smσ_90 | exact hs | omega) (by omega)) kv_X12_216 ha ⟨rfl, by decide⟩ (show vwCl[11]? = some (RX12, TX12, 46) from rfl) rfl ⟨Nat.le_of_ble_eq_true rfl, Nat.le_of_ble_eq_true rfl⟩ ⟨Nat.le_refl _, Nat.le_refl _⟩ rfl (Nat.le_of_ble_eq_true rfl) dX12_readTest_121) hI (by decide) (fun σ_135 H locs hpσ_135 hkσ_135 hI => ?_)
                  obtain ⟨ahpσ_135, bhpσ_135, chpσ_135, dhpσ_135, ehpσ_135⟩ := hpσ_135
                  have fr_σ_135 := fr_σ_90.call ehpσ_135 rfl rfl
                  replace hF := q_letX hF dhpσ_135
                  have mv27_σ_135 : (σ_135.1 a 27).toInt = (σ_90.1 a 27).toInt := congrArg Int32.toInt (ahpσ_135 a 27 (q_cl9 _ _) (fun h => absurd h.2.2 (by decide)))
                  have mcσ_135 := m_cK hkσ_135 hI.1 ha (by decide)
                  have kwσ_135 : ∀ j, 0 ≤ j → (j < v1.toInt + 1 ∨ v1.toInt + 8 ≤ j) → m_c X σ_135 a j = m_c X σ a j := fun j h0 h1 => (mcσ_135 j).trans (kwσ_90 j h0 h1)
                  have smσ_135 : 0 ≤ (σ_135.1 a 15).toInt ∧ (σ_135.1 a 15).toInt ≤ (σ_135.1 a 16).toInt ∧ (σ_135.1 a 16).toInt ≤ (σ_135.1 a 9).toInt ∧ (σ_135.1 a 9).toInt ≤ 900 ∧ 0 ≤ (σ_135.1 a 14).toInt ∧ (σ_135.1 a 14).toInt ≤ 4 ∧ (σ_135.1 a 14).toInt ≤ 4 * ((σ_135.1 a 16).toInt - (σ_135.1 a 15).toInt) ∧ (σ_135.1 a 14).toInt ≤ 4 * ((σ_135.1 a 9).toInt - (σ_135.1 a 15).toInt) ∧ 0 ≤ (σ_135.1 a 12).toInt ∧ (σ_135.1 a 9).toInt = (σ.1 a 9).toInt ∧ (σ.1 a 15).toInt ≤ (σ_135.1 a 15).toInt ∧ (σ.1 a 12).toInt ≤ (σ_135.1 a 12).toInt := (by first | exact sm_tr smσ_90 bhpσ_135 | exact sm_tr smσ_90 chpσ_135 | omega)
                  have nsσ_135 : (σ_135.1 a 27).toInt = (σ.1 a 27).toInt := (by omega)
                  have t5σ_135 : 0 ≤ r_1.toInt + (σ_135.1 a 12).toInt := (by omega)
                  have t6σ_135 : m_c X σ_135 a (v1.toInt + 6) = r_1.toInt := (mcσ_135 _).trans t6σ_90
                  have t1σ_135 : m_t1 (m_c X σ_135 a) v1.toInt := m_t1.k t1σ_90 (mcσ_135 _) (mcσ_135 _)
                  clear mv27_σ_135 smσ_90 nsσ_90 t5σ_90 bhpσ_135
                  refine lv_aload_n hx hb dX12_readTest_124 rfl (lv_at hl 0 rfl) ?_
                  refine gs_X12_35_12 E hI ha dX12_readTest_125 ?_
                  refine lv_iload_n hx hb dX12_readTest_128 rfl (lv_at hl 1 rfl) ?_
                  refine lv_iconst (v := 2) hx hb dX12_readTest_129 (by decide) ?_
                  refine lv_iadd hx hb dX12_readTest_130 ?_
                  refine lv_topi (fun z_136 ez_136 => ?_)
                  replace hF := q_letX hF ez_136
                  have iz_136 := q_addI (A := v1.toInt) (B := 2) ez_136 rfl (by decide) (by omega) (by omega)
                  refine lv_aload_n hx hb dX12_readTest_131 rfl (lv_at hl 0 rfl) ?_
                  refine lv_iconst (v := 0) hx hb dX12_readTest_132 (by decide) ?_
                  refine lv_iload_n hx hb dX12_readTest_133 rfl (lv_at hl 2 rfl) ?_
                  refine lv_iconst (v := 2) hx hb dX12_readTest_134 (by decide) ?_
                  refine q_icmp_ne (A := r_1.toInt) (B := 2) E rfl (by decide) (tgt := 144) dX12_readTest_135 (by decide) (fun c_137 => ?_) (fun c_137 => ?_)
                  · skip
                    replace hF := q_ifn hF c_137
                    refine lv_bipush (v := 80) hx hb dX12_readTest_144 (by decide) ?_
                    have kc_138 : (0 : Int32).toInt = 0 := rfl
                    have kc_139 : (80 : Int32).toInt = 80 := rfl
                    refine q_ci (q_runV (As := [.int 0, .int 80]) (rest := [.int z_136, .ref (q_rf X a 20)]) E (hml.trans hl.1.symm) hI (c_X12_count l X σ_135 a (0 : Int32) (80 : Int32) ha (by first | exact sm_9 smσ_135 | exact hs | omega) (by omega)) kv_X12_223 ha ⟨rfl, by decide⟩ (show vwCl[11]? = some (RX12, TX12, 46) from rfl) rfl ⟨Nat.le_of_ble_eq_true rfl, Nat.le_of_ble_eq_true rfl⟩ ⟨Nat.le_refl _, Nat.le_refl _⟩ rfl (Nat.le_of_ble_eq_true rfl) dX12_readTest_146) hI (by decide) (fun r_140 σ_141 H locs hpσ_141 hkσ_141 hI => ?_)
                    obtain ⟨ahpσ_141, bhpσ_141, chpσ_141, dhpσ_141, ehpσ_141⟩ := hpσ_141
                    have fr_σ_141 := fr_σ_135.call ehpσ_141 rfl rfl
                    replace hF := q_biX hF dhpσ_141
                    have mv27_σ_141 : (σ_141.1 a 27).toInt = (σ_135.1 a 27).toInt := congrArg Int32.toInt (ahpσ_141 a 27 (q_cl9 _ _) (fun h => absurd h.2.2 (by decide)))
                    have mcσ_141 := m_cK hkσ_141 hI.1 ha (by decide)
                    have kwσ_141 : ∀ j, 0 ≤ j → (j < v1.toInt + 1 ∨ v1.toInt + 8 ≤ j) → m_c X σ_141 a j = m_c X σ a j := fun j h0 h1 => (mcσ_141 j).trans (kwσ_135 j h0 h1)
                    have smσ_141 : 0 ≤ (σ_141.1 a 15).toInt ∧ (σ_141.1 a 15).toInt ≤ (σ_141.1 a 16).toInt ∧ (σ_141.1 a 16).toInt ≤ (σ_141.1 a 9).toInt ∧ (σ_141.1 a 9).toInt ≤ 900 ∧ 0 ≤ (σ_141.1 a 14).toInt ∧ (σ_141.1 a 14).toInt ≤ 4 ∧ (σ_141.1 a 14).toInt ≤ 4 * ((σ_141.1 a 16).toInt - (σ_141.1 a 15).toInt) ∧ (σ_141.1 a 14).toInt ≤ 4 * ((σ_141.1 a 9).toInt - (σ_141.1 a 15).toInt) ∧ 0 ≤ (σ_141.1 a 12).toInt ∧ (σ_141.1 a 9).toInt = (σ.1 a 9).toInt ∧ (σ.1 a 15).toInt ≤ (σ_141.1 a 15).toInt ∧ (σ.1 a 12).toInt ≤ (σ_141.1 a 12).toInt := (by first | exact sm_tr smσ_135 bhpσ_141 | exact sm_tr smσ_135 chpσ_141 | omega)
                    have nsσ_141 : (σ_141.1 a 27).toInt = (σ.1 a 27).toInt := (by omega)
                    have t5σ_141 : 0 ≤ r_1.toInt + (σ_141.1 a 12).toInt := (by omega)
                    have t6σ_141 : m_c X σ_141 a (v1.toInt + 6) = r_1.toInt := (mcσ_141 _).trans t6σ_135
                    have t1σ_141 : m_t1 (m_c X σ_141 a) v1.toInt := m_t1.k t1σ_135 (mcσ_141 _) (mcσ_141 _)
                    clear mv27_σ_141 smσ_135 nsσ_135 t5σ_135 bhpσ_141
                    refine q_iastN E hI (q_tk (k' := 34) hI ha rfl (by decide)) ⟨by decide, rfl⟩ (by omega) (by rw [q_lnk (v := 4650) hI (q_tk (k' := 34) hI ha rfl (by decide)) rfl (by decide)]; omega) (show 1 < 2 by decide) (q_inU rfl) dX12_readTest_149 (fun H locs σ_142 hσ_142 hI => ?_)
                    replace hF := q_letX hF hσ_142
                    have fr_σ_142 := fr_σ_141.si hσ_142 (q_tk (k' := 34) hI ha rfl (by decide)) rfl
                    have mv9_σ_142 : (σ_142.1 a 9).toInt = (σ_141.1 a 9).toInt := congrArg Int32.toInt (q_rdn hσ_142 (Or.inl (m_ne ha (q_tk (k' := 34) hI ha rfl (by decide)) (by decide))))
                    have mv12_σ_142 : (σ_142.1 a 12).toInt = (σ_141.1 a 12).toInt := congrArg Int32.toInt (q_rdn hσ_142 (Or.inl (m_ne ha (q_tk (k' := 34) hI ha rfl (by decide)) (by decide))))
                    have mv14_σ_142 : (σ_142.1 a 14).toInt = (σ_141.1 a 14).toInt := congrArg Int32.toInt (q_rdn hσ_142 (Or.inl (m_ne ha (q_tk (k' := 34) hI ha rfl (by decide)) (by decide))))
                    have mv15_σ_142 : (σ_142.1 a 15).toInt = (σ_141.1 a 15).toInt := congrArg Int32.toInt (q_rdn hσ_142 (Or.inl (m_ne ha (q_tk (k' := 34) hI ha rfl (by decide)) (by decide))))
                    have mv16_σ_142 : (σ_142.1 a 16).toInt = (σ_141.1 a 16).toInt := congrArg Int32.toInt (q_rdn hσ_142 (Or.inl (m_ne ha (q_tk (k' := 34) hI ha rfl (by decide)) (by decide))))
                    have mv27_σ_142 : (σ_142.1 a 27).toInt = (σ_141.1 a 27).toInt := congrArg Int32.toInt (q_rdn hσ_142 (Or.inl (m_ne ha (q_tk (k' := 34) hI ha rfl (by decide)) (by decide))))
                    have mcσ_142 := m_wr (v := r_140) (A := (v1.toInt + 2)) hσ_142 iz_136 (by omega)
                    have kwσ_142 : ∀ j, 0 ≤ j → (j < v1.toInt + 1 ∨ v1.toInt + 8 ≤ j) → m_c X σ_142 a j = m_c X σ a j := fun j h0 h1 => by rw [mcσ_142 j h0, if_neg (by omega)]; exact kwσ_141 j h0 h1
                    have smσ_142 : 0 ≤ (σ_142.1 a 15).toInt ∧ (σ_142.1 a 15).toInt ≤ (σ_142.1 a 16).toInt ∧ (σ_142.1 a 16).toInt ≤ (σ_142.1 a 9).toInt ∧ (σ_142.1 a 9).toInt ≤ 900 ∧ 0 ≤ (σ_142.1 a 14).toInt ∧ (σ_142.1 a 14).toInt ≤ 4 ∧ (σ_142.1 a 14).toInt ≤ 4 * ((σ_142.1 a 16).toInt - (σ_142.1 a 15).toInt) ∧ (σ_142.1 a 14).toInt ≤ 4 * ((σ_142.1 a 9).toInt - (σ_142.1 a 15).toInt) ∧ 0 ≤ (σ_142.1 a 12).toInt ∧ (σ_142.1 a 9).toInt = (σ.1 a 9).toInt ∧ (σ.1 a 15).toInt ≤ (σ_142.1 a 15).toInt ∧ (σ.1 a 12).toInt ≤ (σ_142.1 a 12).toInt := (by first | (rw [mv12_σ_142, mv14_σ_142, mv15_σ_142, mv16_σ_142, mv9_σ_142]; exact smσ_141) | omega)
                    have nsσ_142 : (σ_142.1 a 27).toInt = (σ.1 a 27).toInt := (by omega)
                    have t5σ_142 : 0 ≤ r_1.toInt + (σ_142.1 a 12).toInt := (by omega)
                    have t6σ_142 : m_c X σ_142 a (v1.toInt + 6) = r_1.toInt := (by rw [mcσ_142 (v1.toInt + 6) (by omega), if_neg (by omega)]; exact t6σ_141)
                    have t1σ_142 : m_t1 (m_c X σ_142 a) v1.toInt := m_t1.k t1σ_141 (by rw [mcσ_142 (v1.toInt + 6) (by omega), if_neg (by omega)]) (by rw [mcσ_142 (v1.toInt + 1) (by omega), if_neg (by omega)])
                    clear mv9_σ_142 mv12_σ_142 mv14_σ_142 mv15_σ_142 mv16_σ_142 mv27_σ_142 smσ_141 nsσ_141 t5σ_141
                    rewrite [hQQ]; exact q_retv E hr hlk hI ⟨kwσ_142, (by first | exact smσ_142 | omega), nsσ_142, (fun e => ⟨by rw [t6σ_142]; omega, t1σ_142⟩), (hF.trans hout), fr_σ_142⟩ dX12_readTest_150
                  · skip
                    replace hF := q_ifp hF c_137
                    refine lv_sipush (v := 999) hx hb dX12_readTest_138 (by decide) ?_
                    refine lv_goto (tgt := 146) hx hb dX12_readTest_141 (by decide) ?_
                    have kc_143 : (0 : Int32).toInt = 0 := rfl
                    have kc_144 : (999 : Int32).toInt = 999 := rfl
                    refine q_ci (q_runV (As := [.int 0, .int 999]) (rest := [.int z_136, .ref (q_rf X a 20)]) E (hml.trans hl.1.symm) hI (c_X12_count l X σ_135 a (0 : Int32) (999 : Int32) ha (by first | exact sm_9 smσ_135 | exact hs | omega) (by omega)) kv_X12_223 ha ⟨rfl, by decide⟩ (show vwCl[11]? = some (RX12, TX12, 46) from rfl) rfl ⟨Nat.le_of_ble_eq_true rfl, Nat.le_of_ble_eq_true rfl⟩ ⟨Nat.le_refl _, Nat.le_refl _⟩ rfl (Nat.le_of_ble_eq_true rfl) dX12_readTest_146) hI (by decide) (fun r_145 σ_146 H locs hpσ_146 hkσ_146 hI => ?_)
                    obtain ⟨ahpσ_146, bhpσ_146, chpσ_146, dhpσ_146, ehpσ_146⟩ := hpσ_146
                    have fr_σ_146 := fr_σ_135.call ehpσ_146 rfl rfl
                    replace hF := q_biX hF dhpσ_146
                    have mv27_σ_146 : (σ_146.1 a 27).toInt = (σ_135.1 a 27).toInt := congrArg Int32.toInt (ahpσ_146 a 27 (q_cl9 _ _) (fun h => absurd h.2.2 (by decide)))
                    have mcσ_146 := m_cK hkσ_146 hI.1 ha (by decide)
                    have kwσ_146 : ∀ j, 0 ≤ j → (j < v1.toInt + 1 ∨ v1.toInt + 8 ≤ j) → m_c X σ_146 a j = m_c X σ a j := fun j h0 h1 => (mcσ_146 j).trans (kwσ_135 j h0 h1)
                    have smσ_146 : 0 ≤ (σ_146.1 a 15).toInt ∧ (σ_146.1 a 15).toInt ≤ (σ_146.1 a 16).toInt ∧ (σ_146.1 a 16).toInt ≤ (σ_146.1 a 9).toInt ∧ (σ_146.1 a 9).toInt ≤ 900 ∧ 0 ≤ (σ_146.1 a 14).toInt ∧ (σ_146.1 a 14).toInt ≤ 4 ∧ (σ_146.1 a 14).toInt ≤ 4 * ((σ_146.1 a 16).toInt - (σ_146.1 a 15).toInt) ∧ (σ_146.1 a 14).toInt ≤ 4 * ((σ_146.1 a 9).toInt - (σ_146.1 a 15).toInt) ∧ 0 ≤ (σ_146.1 a 12).toInt ∧ (σ_146.1 a 9).toInt = (σ.1 a 9).toInt ∧ (σ.1 a 15).toInt ≤ (σ_146.1 a 15).toInt ∧ (σ.1 a 12).toInt ≤ (σ_146.1 a 12).toInt := (by first | exact sm_tr smσ_135 bhpσ_146 | exact sm_tr smσ_135 chpσ_146 | omega)
                    have nsσ_146 : (σ_146.1 a 27).toInt = (σ.1 a 27).toInt := (by omega)
                    have t5σ_146 : 0 ≤ r_1.toInt + (σ_146.1 a 12).toInt := (by omega)
                    have t6σ_146 : m_c X σ_146 a (v1.toInt + 6) = r_1.toInt := (mcσ_146 _).trans t6σ_135
                    have t1σ_146 : m_t1 (m_c X σ_146 a) v1.toInt := m_t1.k t1σ_135 (mcσ_146 _) (mcσ_146 _)
                    clear mv27_σ_146 smσ_135 nsσ_135 t5σ_135 bhpσ_146
                    refine q_iastN E hI (q_tk (k' := 34) hI ha rfl (by decide)) ⟨by decide, rfl⟩ (by omega) (by rw [q_lnk (v := 4650) hI (q_tk (k' := 34) hI ha rfl (by decide)) rfl (by decide)]; omega) (show 1 < 2 by decide) (q_inU rfl) dX12_readTest_149 (fun H locs σ_147 hσ_147 hI => ?_)
                    replace hF := q_letX hF hσ_147
                    have fr_σ_147 := fr_σ_146.si hσ_147 (q_tk (k' := 34) hI ha rfl (by decide)) rfl
                    have mv9_σ_147 : (σ_147.1 a 9).toInt = (σ_146.1 a 9).toInt := congrArg Int32.toInt (q_rdn hσ_147 (Or.inl (m_ne ha (q_tk (k' := 34) hI ha rfl (by decide)) (by decide))))
                    have mv12_σ_147 : (σ_147.1 a 12).toInt = (σ_146.1 a 12).toInt := congrArg Int32.toInt (q_rdn hσ_147 (Or.inl (m_ne ha (q_tk (k' := 34) hI ha rfl (by decide)) (by decide))))
                    have mv14_σ_147 : (σ_147.1 a 14).toInt = (σ_146.1 a 14).toInt := congrArg Int32.toInt (q_rdn hσ_147 (Or.inl (m_ne ha (q_tk (k' := 34) hI ha rfl (by decide)) (by decide))))
                    have mv15_σ_147 : (σ_147.1 a 15).toInt = (σ_146.1 a 15).toInt := congrArg Int32.toInt (q_rdn hσ_147 (Or.inl (m_ne ha (q_tk (k' := 34) hI ha rfl (by decide)) (by decide))))
                    have mv16_σ_147 : (σ_147.1 a 16).toInt = (σ_146.1 a 16).toInt := congrArg Int32.toInt (q_rdn hσ_147 (Or.inl (m_ne ha (q_tk (k' := 34) hI ha rfl (by decide)) (by decide))))
                    have mv27_σ_147 : (σ_147.1 a 27).toInt = (σ_146.1 a 27).toInt := congrArg Int32.toInt (q_rdn hσ_147 (Or.inl (m_ne ha (q_tk (k' := 34) hI ha rfl (by decide)) (by decide))))
                    have mcσ_147 := m_wr (v := r_145) (A := (v1.toInt + 2)) hσ_147 iz_136 (by omega)
                    have kwσ_147 : ∀ j, 0 ≤ j → (j < v1.toInt + 1 ∨ v1.toInt + 8 ≤ j) → m_c X σ_147 a j = m_c X σ a j := fun j h0 h1 => by rw [mcσ_147 j h0, if_neg (by omega)]; exact kwσ_146 j h0 h1
                    have smσ_147 : 0 ≤ (σ_147.1 a 15).toInt ∧ (σ_147.1 a 15).toInt ≤ (σ_147.1 a 16).toInt ∧ (σ_147.1 a 16).toInt ≤ (σ_147.1 a 9).toInt ∧ (σ_147.1 a 9).toInt ≤ 900 ∧ 0 ≤ (σ_147.1 a 14).toInt ∧ (σ_147.1 a 14).toInt ≤ 4 ∧ (σ_147.1 a 14).toInt ≤ 4 * ((σ_147.1 a 16).toInt - (σ_147.1 a 15).toInt) ∧ (σ_147.1 a 14).toInt ≤ 4 * ((σ_147.1 a 9).toInt - (σ_147.1 a 15).toInt) ∧ 0 ≤ (σ_147.1 a 12).toInt ∧ (σ_147.1 a 9).toInt = (σ.1 a 9).toInt ∧ (σ.1 a 15).toInt ≤ (σ_147.1 a 15).toInt ∧ (σ.1 a 12).toInt ≤ (σ_147.1 a 12).toInt := (by first | (rw [mv12_σ_147, mv14_σ_147, mv15_σ_147, mv16_σ_147, mv9_σ_147]; exact smσ_146) | omega)
                    have nsσ_147 : (σ_147.1 a 27).toInt = (σ.1 a 27).toInt := (by omega)
                    have t5σ_147 : 0 ≤ r_1.toInt + (σ_147.1 a 12).toInt := (by omega)
                    have t6σ_147 : m_c X σ_147 a (v1.toInt + 6) = r_1.toInt := (by rw [mcσ_147 (v1.toInt + 6) (by omega), if_neg (by omega)]; exact t6σ_146)
                    have t1σ_147 : m_t1 (m_c X σ_147 a) v1.toInt := m_t1.k t1σ_146 (by rw [mcσ_147 (v1.toInt + 6) (by omega), if_neg (by omega)]) (by rw [mcσ_147 (v1.toInt + 1) (by omega), if_neg (by omega)])
                    clear mv9_σ_147 mv12_σ_147 mv14_σ_147 mv15_σ_147 mv16_σ_147 mv27_σ_147 smσ_146 nsσ_146 t5σ_146
                    rewrite [hQQ]; exact q_retv E hr hlk hI ⟨kwσ_147, (by first | exact smσ_147 | omega), nsσ_147, (fun e => ⟨by rw [t6σ_147]; omega, t1σ_147⟩), (hF.trans hout), fr_σ_147⟩ dX12_readTest_150
                · skip
                  replace hF := q_ifn hF c_132
                  refine lv_iconst (v := 1) hx hb dX12_readTest_116 (by decide) ?_
                  refine lv_goto (tgt := 121) hx hb dX12_readTest_117 (by decide) ?_
                  have kc_148 : (1 : Int32).toInt = 1 := rfl
                  refine q_cv (q_runV (As := [.int 1]) (rest := []) E (hml.trans hl.1.symm) hI (c_X12_must l X σ_90 a (1 : Int32) ha (by first | exact sm_9 smσ_90 | exact hs | omega) (by omega)) kv_X12_216 ha ⟨rfl, by decide⟩ (show vwCl[11]? = some (RX12, TX12, 46) from rfl) rfl ⟨Nat.le_of_ble_eq_true rfl, Nat.le_of_ble_eq_true rfl⟩ ⟨Nat.le_refl _, Nat.le_refl _⟩ rfl (Nat.le_of_ble_eq_true rfl) dX12_readTest_121) hI (by decide) (fun σ_150 H locs hpσ_150 hkσ_150 hI => ?_)
                  obtain ⟨ahpσ_150, bhpσ_150, chpσ_150, dhpσ_150, ehpσ_150⟩ := hpσ_150
                  have fr_σ_150 := fr_σ_90.call ehpσ_150 rfl rfl
                  replace hF := q_letX hF dhpσ_150
                  have mv27_σ_150 : (σ_150.1 a 27).toInt = (σ_90.1 a 27).toInt := congrArg Int32.toInt (ahpσ_150 a 27 (q_cl9 _ _) (fun h => absurd h.2.2 (by decide)))
                  have mcσ_150 := m_cK hkσ_150 hI.1 ha (by decide)
                  have kwσ_150 : ∀ j, 0 ≤ j → (j < v1.toInt + 1 ∨ v1.toInt + 8 ≤ j) → m_c X σ_150 a j = m_c X σ a j := fun j h0 h1 => (mcσ_150 j).trans (kwσ_90 j h0 h1)
                  have smσ_150 : 0 ≤ (σ_150.1 a 15).toInt ∧ (σ_150.1 a 15).toInt ≤ (σ_150.1 a 16).toInt ∧ (σ_150.1 a 16).toInt ≤ (σ_150.1 a 9).toInt ∧ (σ_150.1 a 9).toInt ≤ 900 ∧ 0 ≤ (σ_150.1 a 14).toInt ∧ (σ_150.1 a 14).toInt ≤ 4 ∧ (σ_150.1 a 14).toInt ≤ 4 * ((σ_150.1 a 16).toInt - (σ_150.1 a 15).toInt) ∧ (σ_150.1 a 14).toInt ≤ 4 * ((σ_150.1 a 9).toInt - (σ_150.1 a 15).toInt) ∧ 0 ≤ (σ_150.1 a 12).toInt ∧ (σ_150.1 a 9).toInt = (σ.1 a 9).toInt ∧ (σ.1 a 15).toInt ≤ (σ_150.1 a 15).toInt ∧ (σ.1 a 12).toInt ≤ (σ_150.1 a 12).toInt := (by first | exact sm_tr smσ_90 bhpσ_150 | exact sm_tr smσ_90 chpσ_150 | omega)
                  have nsσ_150 : (σ_150.1 a 27).toInt = (σ.1 a 27).toInt := (by omega)
                  have t5σ_150 : 0 ≤ r_1.toInt + (σ_150.1 a 12).toInt := (by omega)
                  have t6σ_150 : m_c X σ_150 a (v1.toInt + 6) = r_1.toInt := (mcσ_150 _).trans t6σ_90
                  have t1σ_150 : m_t1 (m_c X σ_150 a) v1.toInt := m_t1.k t1σ_90 (mcσ_150 _) (mcσ_150 _)
                  clear mv27_σ_150 smσ_90 nsσ_90 t5σ_90 bhpσ_150
                  refine lv_aload_n hx hb dX12_readTest_124 rfl (lv_at hl 0 rfl) ?_
                  refine gs_X12_35_12 E hI ha dX12_readTest_125 ?_
                  refine lv_iload_n hx hb dX12_readTest_128 rfl (lv_at hl 1 rfl) ?_
                  refine lv_iconst (v := 2) hx hb dX12_readTest_129 (by decide) ?_
                  refine lv_iadd hx hb dX12_readTest_130 ?_
                  refine lv_topi (fun z_151 ez_151 => ?_)
                  replace hF := q_letX hF ez_151
                  have iz_151 := q_addI (A := v1.toInt) (B := 2) ez_151 rfl (by decide) (by omega) (by omega)
                  refine lv_aload_n hx hb dX12_readTest_131 rfl (lv_at hl 0 rfl) ?_
                  refine lv_iconst (v := 0) hx hb dX12_readTest_132 (by decide) ?_
                  refine lv_iload_n hx hb dX12_readTest_133 rfl (lv_at hl 2 rfl) ?_
                  refine lv_iconst (v := 2) hx hb dX12_readTest_134 (by decide) ?_
                  refine q_icmp_ne (A := r_1.toInt) (B := 2) E rfl (by decide) (tgt := 144) dX12_readTest_135 (by decide) (fun c_152 => ?_) (fun c_152 => ?_)
                  · skip
                    replace hF := q_ifn hF c_152
                    refine lv_bipush (v := 80) hx hb dX12_readTest_144 (by decide) ?_
                    have kc_153 : (0 : Int32).toInt = 0 := rfl
                    have kc_154 : (80 : Int32).toInt = 80 := rfl
                    refine q_ci (q_runV (As := [.int 0, .int 80]) (rest := [.int z_151, .ref (q_rf X a 20)]) E (hml.trans hl.1.symm) hI (c_X12_count l X σ_150 a (0 : Int32) (80 : Int32) ha (by first | exact sm_9 smσ_150 | exact hs | omega) (by omega)) kv_X12_223 ha ⟨rfl, by decide⟩ (show vwCl[11]? = some (RX12, TX12, 46) from rfl) rfl ⟨Nat.le_of_ble_eq_true rfl, Nat.le_of_ble_eq_true rfl⟩ ⟨Nat.le_refl _, Nat.le_refl _⟩ rfl (Nat.le_of_ble_eq_true rfl) dX12_readTest_146) hI (by decide) (fun r_155 σ_156 H locs hpσ_156 hkσ_156 hI => ?_)
                    obtain ⟨ahpσ_156, bhpσ_156, chpσ_156, dhpσ_156, ehpσ_156⟩ := hpσ_156
                    have fr_σ_156 := fr_σ_150.call ehpσ_156 rfl rfl
                    replace hF := q_biX hF dhpσ_156
                    have mv27_σ_156 : (σ_156.1 a 27).toInt = (σ_150.1 a 27).toInt := congrArg Int32.toInt (ahpσ_156 a 27 (q_cl9 _ _) (fun h => absurd h.2.2 (by decide)))
                    have mcσ_156 := m_cK hkσ_156 hI.1 ha (by decide)
                    have kwσ_156 : ∀ j, 0 ≤ j → (j < v1.toInt + 1 ∨ v1.toInt + 8 ≤ j) → m_c X σ_156 a j = m_c X σ a j := fun j h0 h1 => (mcσ_156 j).trans (kwσ_150 j h0 h1)
                    have smσ_156 : 0 ≤ (σ_156.1 a 15).toInt ∧ (σ_156.1 a 15).toInt ≤ (σ_156.1 a 16).toInt ∧ (σ_156.1 a 16).toInt ≤ (σ_156.1 a 9).toInt ∧ (σ_156.1 a 9).toInt ≤ 900 ∧ 0 ≤ (σ_156.1 a 14).toInt ∧ (σ_156.1 a 14).toInt ≤ 4 ∧ (σ_156.1 a 14).toInt ≤ 4 * ((σ_156.1 a 16).toInt - (σ_156.1 a 15).toInt) ∧ (σ_156.1 a 14).toInt ≤ 4 * ((σ_156.1 a 9).toInt - (σ_156.1 a 15).toInt) ∧ 0 ≤ (σ_156.1 a 12).toInt ∧ (σ_156.1 a 9).toInt = (σ.1 a 9).toInt ∧ (σ.1 a 15).toInt ≤ (σ_156.1 a 15).toInt ∧ (σ.1 a 12).toInt ≤ (σ_156.1 a 12).toInt := (by first | exact sm_tr smσ_150 bhpσ_156 | exact sm_tr smσ_150 chpσ_156 | omega)
                    have nsσ_156 : (σ_156.1 a 27).toInt = (σ.1 a 27).toInt := (by omega)
                    have t5σ_156 : 0 ≤ r_1.toInt + (σ_156.1 a 12).toInt := (by omega)
                    have t6σ_156 : m_c X σ_156 a (v1.toInt + 6) = r_1.toInt := (mcσ_156 _).trans t6σ_150
                    have t1σ_156 : m_t1 (m_c X σ_156 a) v1.toInt := m_t1.k t1σ_150 (mcσ_156 _) (mcσ_156 _)
                    clear mv27_σ_156 smσ_150 nsσ_150 t5σ_150 bhpσ_156
                    refine q_iastN E hI (q_tk (k' := 34) hI ha rfl (by decide)) ⟨by decide, rfl⟩ (by omega) (by rw [q_lnk (v := 4650) hI (q_tk (k' := 34) hI ha rfl (by decide)) rfl (by decide)]; omega) (show 1 < 2 by decide) (q_inU rfl) dX12_readTest_149 (fun H locs σ_157 hσ_157 hI => ?_)
                    replace hF := q_letX hF hσ_157
                    have fr_σ_157 := fr_σ_156.si hσ_157 (q_tk (k' := 34) hI ha rfl (by decide)) rfl
                    have mv9_σ_157 : (σ_157.1 a 9).toInt = (σ_156.1 a 9).toInt := congrArg Int32.toInt (q_rdn hσ_157 (Or.inl (m_ne ha (q_tk (k' := 34) hI ha rfl (by decide)) (by decide))))
                    have mv12_σ_157 : (σ_157.1 a 12).toInt = (σ_156.1 a 12).toInt := congrArg Int32.toInt (q_rdn hσ_157 (Or.inl (m_ne ha (q_tk (k' := 34) hI ha rfl (by decide)) (by decide))))
                    have mv14_σ_157 : (σ_157.1 a 14).toInt = (σ_156.1 a 14).toInt := congrArg Int32.toInt (q_rdn hσ_157 (Or.inl (m_ne ha (q_tk (k' := 34) hI ha rfl (by decide)) (by decide))))
                    have mv15_σ_157 : (σ_157.1 a 15).toInt = (σ_156.1 a 15).toInt := congrArg Int32.toInt (q_rdn hσ_157 (Or.inl (m_ne ha (q_tk (k' := 34) hI ha rfl (by decide)) (by decide))))
                    have mv16_σ_157 : (σ_157.1 a 16).toInt = (σ_156.1 a 16).toInt := congrArg Int32.toInt (q_rdn hσ_157 (Or.inl (m_ne ha (q_tk (k' := 34) hI ha rfl (by decide)) (by decide))))
                    have mv27_σ_157 : (σ_157.1 a 27).toInt = (σ_156.1 a 27).toInt := congrArg Int32.toInt (q_rdn hσ_157 (Or.inl (m_ne ha (q_tk (k' := 34) hI ha rfl (by decide)) (by decide))))
                    have mcσ_157 := m_wr (v := r_155) (A := (v1.toInt + 2)) hσ_157 iz_151 (by omega)
                    have kwσ_157 : ∀ j, 0 ≤ j → (j < v1.toInt + 1 ∨ v1.toInt + 8 ≤ j) → m_c X σ_157 a j = m_c X σ a j := fun j h0 h1 => by rw [mcσ_157 j h0, if_neg (by omega)]; exact kwσ_156 j h0 h1
                    have smσ_157 : 0 ≤ (σ_157.1 a 15).toInt ∧ (σ_157.1 a 15).toInt ≤ (σ_157.1 a 16).toInt ∧ (σ_157.1 a 16).toInt ≤ (σ_157.1 a 9).toInt ∧ (σ_157.1 a 9).toInt ≤ 900 ∧ 0 ≤ (σ_157.1 a 14).toInt ∧ (σ_157.1 a 14).toInt ≤ 4 ∧ (σ_157.1 a 14).toInt ≤ 4 * ((σ_157.1 a 16).toInt - (σ_157.1 a 15).toInt) ∧ (σ_157.1 a 14).toInt ≤ 4 * ((σ_157.1 a 9).toInt - (σ_157.1 a 15).toInt) ∧ 0 ≤ (σ_157.1 a 12).toInt ∧ (σ_157.1 a 9).toInt = (σ.1 a 9).toInt ∧ (σ.1 a 15).toInt ≤ (σ_157.1 a 15).toInt ∧ (σ.1 a 12).toInt ≤ (σ_157.1 a 12).toInt := (by first | (rw [mv12_σ_157, mv14_σ_157, mv15_σ_157, mv16_σ_157, mv9_σ_157]; exact smσ_156) | omega)
                    have nsσ_157 : (σ_157.1 a 27).toInt = (σ.1 a 27).toInt := (by omega)
                    have t5σ_157 : 0 ≤ r_1.toInt + (σ_157.1 a 12).toInt := (by omega)
                    have t6σ_157 : m_c X σ_157 a (v1.toInt + 6) = r_1.toInt := (by rw [mcσ_157 (v1.toInt + 6) (by omega), if_neg (by omega)]; exact t6σ_156)
                    have t1σ_157 : m_t1 (m_c X σ_157 a) v1.toInt := m_t1.k t1σ_156 (by rw [mcσ_157 (v1.toInt + 6) (by omega), if_neg (by omega)]) (by rw [mcσ_157 (v1.toInt + 1) (by omega), if_neg (by omega)])
                    clear mv9_σ_157 mv12_σ_157 mv14_σ_157 mv15_σ_157 mv16_σ_157 mv27_σ_157 smσ_156 nsσ_156 t5σ_156
                    rewrite [hQQ]; exact q_retv E hr hlk hI ⟨kwσ_157, (by first | exact smσ_157 | omega), nsσ_157, (fun e => ⟨by rw [t6σ_157]; omega, t1σ_157⟩), (hF.trans hout), fr_σ_157⟩ dX12_readTest_150
                  · skip
                    replace hF := q_ifp hF c_152
                    refine lv_sipush (v := 999) hx hb dX12_readTest_138 (by decide) ?_
                    refine lv_goto (tgt := 146) hx hb dX12_readTest_141 (by decide) ?_
                    have kc_158 : (0 : Int32).toInt = 0 := rfl
                    have kc_159 : (999 : Int32).toInt = 999 := rfl
                    refine q_ci (q_runV (As := [.int 0, .int 999]) (rest := [.int z_151, .ref (q_rf X a 20)]) E (hml.trans hl.1.symm) hI (c_X12_count l X σ_150 a (0 : Int32) (999 : Int32) ha (by first | exact sm_9 smσ_150 | exact hs | omega) (by omega)) kv_X12_223 ha ⟨rfl, by decide⟩ (show vwCl[11]? = some (RX12, TX12, 46) from rfl) rfl ⟨Nat.le_of_ble_eq_true rfl, Nat.le_of_ble_eq_true rfl⟩ ⟨Nat.le_refl _, Nat.le_refl _⟩ rfl (Nat.le_of_ble_eq_true rfl) dX12_readTest_146) hI (by decide) (fun r_160 σ_161 H locs hpσ_161 hkσ_161 hI => ?_)
                    obtain ⟨ahpσ_161, bhpσ_161, chpσ_161, dhpσ_161, ehpσ_161⟩ := hpσ_161
                    have fr_σ_161 := fr_σ_150.call ehpσ_161 rfl rfl
                    replace hF := q_biX hF dhpσ_161
                    have mv27_σ_161 : (σ_161.1 a 27).toInt = (σ_150.1 a 27).toInt := congrArg Int32.toInt (ahpσ_161 a 27 (q_cl9 _ _) (fun h => absurd h.2.2 (by decide)))
                    have mcσ_161 := m_cK hkσ_161 hI.1 ha (by decide)
                    have kwσ_161 : ∀ j, 0 ≤ j → (j < v1.toInt + 1 ∨ v1.toInt + 8 ≤ j) → m_c X σ_161 a j = m_c X σ a j := fun j h0 h1 => (mcσ_161 j).trans (kwσ_150 j h0 h1)
                    have smσ_161 : 0 ≤ (σ_161.1 a 15).toInt ∧ (σ_161.1 a 15).toInt ≤ (σ_161.1 a 16).toInt ∧ (σ_161.1 a 16).toInt ≤ (σ_161.1 a 9).toInt ∧ (σ_161.1 a 9).toInt ≤ 900 ∧ 0 ≤ (σ_161.1 a 14).toInt ∧ (σ_161.1 a 14).toInt ≤ 4 ∧ (σ_161.1 a 14).toInt ≤ 4 * ((σ_161.1 a 16).toInt - (σ_161.1 a 15).toInt) ∧ (σ_161.1 a 14).toInt ≤ 4 * ((σ_161.1 a 9).toInt - (σ_161.1 a 15).toInt) ∧ 0 ≤ (σ_161.1 a 12).toInt ∧ (σ_161.1 a 9).toInt = (σ.1 a 9).toInt ∧ (σ.1 a 15).toInt ≤ (σ_161.1 a 15).toInt ∧ (σ.1 a 12).toInt ≤ (σ_161.1 a 12).toInt := (by first | exact sm_tr smσ_150 bhpσ_161 | exact sm_tr smσ_150 chpσ_161 | omega)
                    have nsσ_161 : (σ_161.1 a 27).toInt = (σ.1 a 27).toInt := (by omega)
                    have t5σ_161 : 0 ≤ r_1.toInt + (σ_161.1 a 12).toInt := (by omega)
                    have t6σ_161 : m_c X σ_161 a (v1.toInt + 6) = r_1.toInt := (mcσ_161 _).trans t6σ_150
                    have t1σ_161 : m_t1 (m_c X σ_161 a) v1.toInt := m_t1.k t1σ_150 (mcσ_161 _) (mcσ_161 _)
                    clear mv27_σ_161 smσ_150 nsσ_150 t5σ_150 bhpσ_161
                    refine q_iastN E hI (q_tk (k' := 34) hI ha rfl (by decide)) ⟨by decide, rfl⟩ (by omega) (by rw [q_lnk (v := 4650) hI (q_tk (k' := 34) hI ha rfl (by decide)) rfl (by decide)]; omega) (show 1 < 2 by decide) (q_inU rfl) dX12_readTest_149 (fun H locs σ_162 hσ_162 hI => ?_)
                    replace hF := q_letX hF hσ_162
                    have fr_σ_162 := fr_σ_161.si hσ_162 (q_tk (k' := 34) hI ha rfl (by decide)) rfl
                    have mv9_σ_162 : (σ_162.1 a 9).toInt = (σ_161.1 a 9).toInt := congrArg Int32.toInt (q_rdn hσ_162 (Or.inl (m_ne ha (q_tk (k' := 34) hI ha rfl (by decide)) (by decide))))
                    have mv12_σ_162 : (σ_162.1 a 12).toInt = (σ_161.1 a 12).toInt := congrArg Int32.toInt (q_rdn hσ_162 (Or.inl (m_ne ha (q_tk (k' := 34) hI ha rfl (by decide)) (by decide))))
                    have mv14_σ_162 : (σ_162.1 a 14).toInt = (σ_161.1 a 14).toInt := congrArg Int32.toInt (q_rdn hσ_162 (Or.inl (m_ne ha (q_tk (k' := 34) hI ha rfl (by decide)) (by decide))))
                    have mv15_σ_162 : (σ_162.1 a 15).toInt = (σ_161.1 a 15).toInt := congrArg Int32.toInt (q_rdn hσ_162 (Or.inl (m_ne ha (q_tk (k' := 34) hI ha rfl (by decide)) (by decide))))
                    have mv16_σ_162 : (σ_162.1 a 16).toInt = (σ_161.1 a 16).toInt := congrArg Int32.toInt (q_rdn hσ_162 (Or.inl (m_ne ha (q_tk (k' := 34) hI ha rfl (by decide)) (by decide))))
                    have mv27_σ_162 : (σ_162.1 a 27).toInt = (σ_161.1 a 27).toInt := congrArg Int32.toInt (q_rdn hσ_162 (Or.inl (m_ne ha (q_tk (k' := 34) hI ha rfl (by decide)) (by decide))))
                    have mcσ_162 := m_wr (v := r_160) (A := (v1.toInt + 2)) hσ_162 iz_151 (by omega)
                    have kwσ_162 : ∀ j, 0 ≤ j → (j < v1.toInt + 1 ∨ v1.toInt + 8 ≤ j) → m_c X σ_162 a j = m_c X σ a j := fun j h0 h1 => by rw [mcσ_162 j h0, if_neg (by omega)]; exact kwσ_161 j h0 h1
                    have smσ_162 : 0 ≤ (σ_162.1 a 15).toInt ∧ (σ_162.1 a 15).toInt ≤ (σ_162.1 a 16).toInt ∧ (σ_162.1 a 16).toInt ≤ (σ_162.1 a 9).toInt ∧ (σ_162.1 a 9).toInt ≤ 900 ∧ 0 ≤ (σ_162.1 a 14).toInt ∧ (σ_162.1 a 14).toInt ≤ 4 ∧ (σ_162.1 a 14).toInt ≤ 4 * ((σ_162.1 a 16).toInt - (σ_162.1 a 15).toInt) ∧ (σ_162.1 a 14).toInt ≤ 4 * ((σ_162.1 a 9).toInt - (σ_162.1 a 15).toInt) ∧ 0 ≤ (σ_162.1 a 12).toInt ∧ (σ_162.1 a 9).toInt = (σ.1 a 9).toInt ∧ (σ.1 a 15).toInt ≤ (σ_162.1 a 15).toInt ∧ (σ.1 a 12).toInt ≤ (σ_162.1 a 12).toInt := (by first | (rw [mv12_σ_162, mv14_σ_162, mv15_σ_162, mv16_σ_162, mv9_σ_162]; exact smσ_161) | omega)
                    have nsσ_162 : (σ_162.1 a 27).toInt = (σ.1 a 27).toInt := (by omega)
                    have t5σ_162 : 0 ≤ r_1.toInt + (σ_162.1 a 12).toInt := (by omega)
                    have t6σ_162 : m_c X σ_162 a (v1.toInt + 6) = r_1.toInt := (by rw [mcσ_162 (v1.toInt + 6) (by omega), if_neg (by omega)]; exact t6σ_161)
                    have t1σ_162 : m_t1 (m_c X σ_162 a) v1.toInt := m_t1.k t1σ_161 (by rw [mcσ_162 (v1.toInt + 6) (by omega), if_neg (by omega)]) (by rw [mcσ_162 (v1.toInt + 1) (by omega), if_neg (by omega)])
                    clear mv9_σ_162 mv12_σ_162 mv14_σ_162 mv15_σ_162 mv16_σ_162 mv27_σ_162 smσ_161 nsσ_161 t5σ_161
                    rewrite [hQQ]; exact q_retv E hr hlk hI ⟨kwσ_162, (by first | exact smσ_162 | omega), nsσ_162, (fun e => ⟨by rw [t6σ_162]; omega, t1σ_162⟩), (hF.trans hout), fr_σ_162⟩ dX12_readTest_150
        · skip
          replace hF := q_ifp hF c_11
          rewrite [hQQ]; exact q_retv E hr hlk hI ⟨kwσ_8, (by first | exact smσ_8 | omega), nsσ_8, (fun e => ⟨by rw [t6σ_8]; omega, t1σ_8⟩), (hF.trans hout), fr_σ_8⟩ dX12_readTest_62
    refine q_if_eq (A := r_1.toInt) E rfl (tgt := 37) dX12_readTest_29 (by decide) (fun c_163 => ?_) (fun c_163 => ?_)
    · skip
      replace hF := q_ifp hF c_163
      refine lv_aload_n hx hb dX12_readTest_37 rfl (lv_at hl 0 rfl) ?_
      refine gs_X12_35_12 E hI ha dX12_readTest_38 ?_
      refine lv_iload_n hx hb dX12_readTest_41 rfl (lv_at hl 1 rfl) ?_
      refine lv_iconst (v := 1) hx hb dX12_readTest_42 (by decide) ?_
      refine lv_iadd hx hb dX12_readTest_43 ?_
      refine lv_topi (fun z_164 ez_164 => ?_)
      replace hF := q_letX hF ez_164
      have iz_164 := q_addI (A := v1.toInt) (B := 1) ez_164 rfl (by decide) (by omega) (by omega)
      refine lv_aload_n hx hb dX12_readTest_44 rfl (lv_at hl 0 rfl) ?_
      refine lv_iconst (v := 0) hx hb dX12_readTest_45 (by decide) ?_
      have kc_165 : (0 : Int32).toInt = 0 := rfl
      refine q_ci (q_runV (As := [.int 0]) (rest := [.int z_164, .ref (q_rf X a 20)]) E (hml.trans hl.1.symm) hI (c_X12_readTold l X σ_7 a (0 : Int32) ha (by first | exact sm_9 smσ_7 | exact hs | omega) (Or.inl rfl) (by show m_c X σ_7 a 2 ≤ 6; rw [kwσ_7 2 (by decide) (Or.inl (by omega))]; exact hc2)) kv_X12_226 ha ⟨rfl, by decide⟩ (show vwCl[11]? = some (RX12, TX12, 46) from rfl) rfl ⟨Nat.le_of_ble_eq_true rfl, Nat.le_of_ble_eq_true rfl⟩ ⟨Nat.le_refl _, Nat.le_refl _⟩ rfl (Nat.le_of_ble_eq_true rfl) dX12_readTest_46) hI (by decide) (fun r_166 σ_167 H locs hpσ_167 hkσ_167 hI => ?_)
      obtain ⟨ahpσ_167, bhpσ_167, chpσ_167, dhpσ_167, ehpσ_167⟩ := hpσ_167
      have fr_σ_167 := fr_σ_7.call ehpσ_167 rfl rfl
      replace hF := q_biX hF dhpσ_167
      have mv27_σ_167 : (σ_167.1 a 27).toInt = (σ_7.1 a 27).toInt := congrArg Int32.toInt (ahpσ_167 a 27 (q_cl9 _ _) (fun h => absurd h.2.2 (by decide)))
      have mcσ_167 := m_cK hkσ_167 hI.1 ha (by decide)
      have kwσ_167 : ∀ j, 0 ≤ j → (j < v1.toInt + 1 ∨ v1.toInt + 8 ≤ j) → m_c X σ_167 a j = m_c X σ a j := fun j h0 h1 => (mcσ_167 j).trans (kwσ_7 j h0 h1)
      have smσ_167 : 0 ≤ (σ_167.1 a 15).toInt ∧ (σ_167.1 a 15).toInt ≤ (σ_167.1 a 16).toInt ∧ (σ_167.1 a 16).toInt ≤ (σ_167.1 a 9).toInt ∧ (σ_167.1 a 9).toInt ≤ 900 ∧ 0 ≤ (σ_167.1 a 14).toInt ∧ (σ_167.1 a 14).toInt ≤ 4 ∧ (σ_167.1 a 14).toInt ≤ 4 * ((σ_167.1 a 16).toInt - (σ_167.1 a 15).toInt) ∧ (σ_167.1 a 14).toInt ≤ 4 * ((σ_167.1 a 9).toInt - (σ_167.1 a 15).toInt) ∧ 0 ≤ (σ_167.1 a 12).toInt ∧ (σ_167.1 a 9).toInt = (σ.1 a 9).toInt ∧ (σ.1 a 15).toInt ≤ (σ_167.1 a 15).toInt ∧ (σ.1 a 12).toInt ≤ (σ_167.1 a 12).toInt := (by first | exact sm_tr smσ_7 bhpσ_167 | exact sm_tr smσ_7 chpσ_167 | omega)
      have nsσ_167 : (σ_167.1 a 27).toInt = (σ.1 a 27).toInt := (by omega)
      have t5σ_167 : 0 ≤ r_1.toInt + (σ_167.1 a 12).toInt := (by omega)
      have t6σ_167 : m_c X σ_167 a (v1.toInt + 6) = r_1.toInt := (mcσ_167 _).trans t6σ_7
      clear mv27_σ_167 smσ_7 nsσ_7 t5σ_7 bhpσ_167
      refine q_iastN E hI (q_tk (k' := 34) hI ha rfl (by decide)) ⟨by decide, rfl⟩ (by omega) (by rw [q_lnk (v := 4650) hI (q_tk (k' := 34) hI ha rfl (by decide)) rfl (by decide)]; omega) (show 1 < 2 by decide) (q_inU rfl) dX12_readTest_49 (fun H locs σ_168 hσ_168 hI => ?_)
      replace hF := q_letX hF hσ_168
      have fr_σ_168 := fr_σ_167.si hσ_168 (q_tk (k' := 34) hI ha rfl (by decide)) rfl
      have mv9_σ_168 : (σ_168.1 a 9).toInt = (σ_167.1 a 9).toInt := congrArg Int32.toInt (q_rdn hσ_168 (Or.inl (m_ne ha (q_tk (k' := 34) hI ha rfl (by decide)) (by decide))))
      have mv12_σ_168 : (σ_168.1 a 12).toInt = (σ_167.1 a 12).toInt := congrArg Int32.toInt (q_rdn hσ_168 (Or.inl (m_ne ha (q_tk (k' := 34) hI ha rfl (by decide)) (by decide))))
      have mv14_σ_168 : (σ_168.1 a 14).toInt = (σ_167.1 a 14).toInt := congrArg Int32.toInt (q_rdn hσ_168 (Or.inl (m_ne ha (q_tk (k' := 34) hI ha rfl (by decide)) (by decide))))
      have mv15_σ_168 : (σ_168.1 a 15).toInt = (σ_167.1 a 15).toInt := congrArg Int32.toInt (q_rdn hσ_168 (Or.inl (m_ne ha (q_tk (k' := 34) hI ha rfl (by decide)) (by decide))))
      have mv16_σ_168 : (σ_168.1 a 16).toInt = (σ_167.1 a 16).toInt := congrArg Int32.toInt (q_rdn hσ_168 (Or.inl (m_ne ha (q_tk (k' := 34) hI ha rfl (by decide)) (by decide))))
      have mv27_σ_168 : (σ_168.1 a 27).toInt = (σ_167.1 a 27).toInt := congrArg Int32.toInt (q_rdn hσ_168 (Or.inl (m_ne ha (q_tk (k' := 34) hI ha rfl (by decide)) (by decide))))
      have mcσ_168 := m_wr (v := r_166) (A := (v1.toInt + 1)) hσ_168 iz_164 (by omega)
      have kwσ_168 : ∀ j, 0 ≤ j → (j < v1.toInt + 1 ∨ v1.toInt + 8 ≤ j) → m_c X σ_168 a j = m_c X σ a j := fun j h0 h1 => by rw [mcσ_168 j h0, if_neg (by omega)]; exact kwσ_167 j h0 h1
      have smσ_168 : 0 ≤ (σ_168.1 a 15).toInt ∧ (σ_168.1 a 15).toInt ≤ (σ_168.1 a 16).toInt ∧ (σ_168.1 a 16).toInt ≤ (σ_168.1 a 9).toInt ∧ (σ_168.1 a 9).toInt ≤ 900 ∧ 0 ≤ (σ_168.1 a 14).toInt ∧ (σ_168.1 a 14).toInt ≤ 4 ∧ (σ_168.1 a 14).toInt ≤ 4 * ((σ_168.1 a 16).toInt - (σ_168.1 a 15).toInt) ∧ (σ_168.1 a 14).toInt ≤ 4 * ((σ_168.1 a 9).toInt - (σ_168.1 a 15).toInt) ∧ 0 ≤ (σ_168.1 a 12).toInt ∧ (σ_168.1 a 9).toInt = (σ.1 a 9).toInt ∧ (σ.1 a 15).toInt ≤ (σ_168.1 a 15).toInt ∧ (σ.1 a 12).toInt ≤ (σ_168.1 a 12).toInt := (by first | (rw [mv12_σ_168, mv14_σ_168, mv15_σ_168, mv16_σ_168, mv9_σ_168]; exact smσ_167) | omega)
      have nsσ_168 : (σ_168.1 a 27).toInt = (σ.1 a 27).toInt := (by omega)
      have t5σ_168 : 0 ≤ r_1.toInt + (σ_168.1 a 12).toInt := (by omega)
      have t6σ_168 : m_c X σ_168 a (v1.toInt + 6) = r_1.toInt := (by rw [mcσ_168 (v1.toInt + 6) (by omega), if_neg (by omega)]; exact t6σ_167)
      clear mv9_σ_168 mv12_σ_168 mv14_σ_168 mv15_σ_168 mv16_σ_168 mv27_σ_168 smσ_167 nsσ_167 t5σ_167
      have t1xσ_168 : m_t1 (m_c X σ_168 a) v1.toInt := m_t1.yes (by have := mcσ_168 (v1.toInt + 1) (by omega); rw [if_pos rfl] at this; omega)
      exact J_50_8 σ_168 _ _ ls (by first | exact t1xσ_168 | exact m_t1.no (by rw [t6σ_168]; omega) (by rw [t6σ_168]; omega)) fr_σ_168 kwσ_168 smσ_168 nsσ_168 t5σ_168 t6σ_168 hF hI (lv_sub hl [0, 1, 2] rfl)
    · skip
      replace hF := q_ifn hF c_163
      refine lv_iload_n hx hb dX12_readTest_32 rfl (lv_at hl 2 rfl) ?_
      refine lv_iconst (v := 2) hx hb dX12_readTest_33 (by decide) ?_
      refine q_icmp_ne (A := r_1.toInt) (B := 2) E rfl (by decide) (tgt := 50) dX12_readTest_34 (by decide) (fun c_169 => ?_) (fun c_169 => ?_)
      · skip
        replace hF := q_ifn hF c_169
        exact J_50_8 σ_7 _ _ ls (by first | exact t1xσ_7 | exact m_t1.no (by rw [t6σ_7]; omega) (by rw [t6σ_7]; omega)) fr_σ_7 kwσ_7 smσ_7 nsσ_7 t5σ_7 t6σ_7 hF hI (lv_sub hl [0, 1, 2] rfl)
      · skip
        replace hF := q_ifp hF c_169
        refine lv_aload_n hx hb dX12_readTest_37 rfl (lv_at hl 0 rfl) ?_
        refine gs_X12_35_12 E hI ha dX12_readTest_38 ?_
        refine lv_iload_n hx hb dX12_readTest_41 rfl (lv_at hl 1 rfl) ?_
        refine lv_iconst (v := 1) hx hb dX12_readTest_42 (by decide) ?_
        refine lv_iadd hx hb dX12_readTest_43 ?_
        refine lv_topi (fun z_170 ez_170 => ?_)
        replace hF := q_letX hF ez_170
        have iz_170 := q_addI (A := v1.toInt) (B := 1) ez_170 rfl (by decide) (by omega) (by omega)
        refine lv_aload_n hx hb dX12_readTest_44 rfl (lv_at hl 0 rfl) ?_
        refine lv_iconst (v := 0) hx hb dX12_readTest_45 (by decide) ?_
        have kc_171 : (0 : Int32).toInt = 0 := rfl
        refine q_ci (q_runV (As := [.int 0]) (rest := [.int z_170, .ref (q_rf X a 20)]) E (hml.trans hl.1.symm) hI (c_X12_readTold l X σ_7 a (0 : Int32) ha (by first | exact sm_9 smσ_7 | exact hs | omega) (Or.inl rfl) (by show m_c X σ_7 a 2 ≤ 6; rw [kwσ_7 2 (by decide) (Or.inl (by omega))]; exact hc2)) kv_X12_226 ha ⟨rfl, by decide⟩ (show vwCl[11]? = some (RX12, TX12, 46) from rfl) rfl ⟨Nat.le_of_ble_eq_true rfl, Nat.le_of_ble_eq_true rfl⟩ ⟨Nat.le_refl _, Nat.le_refl _⟩ rfl (Nat.le_of_ble_eq_true rfl) dX12_readTest_46) hI (by decide) (fun r_172 σ_173 H locs hpσ_173 hkσ_173 hI => ?_)
        obtain ⟨ahpσ_173, bhpσ_173, chpσ_173, dhpσ_173, ehpσ_173⟩ := hpσ_173
        have fr_σ_173 := fr_σ_7.call ehpσ_173 rfl rfl
        replace hF := q_biX hF dhpσ_173
        have mv27_σ_173 : (σ_173.1 a 27).toInt = (σ_7.1 a 27).toInt := congrArg Int32.toInt (ahpσ_173 a 27 (q_cl9 _ _) (fun h => absurd h.2.2 (by decide)))
        have mcσ_173 := m_cK hkσ_173 hI.1 ha (by decide)
        have kwσ_173 : ∀ j, 0 ≤ j → (j < v1.toInt + 1 ∨ v1.toInt + 8 ≤ j) → m_c X σ_173 a j = m_c X σ a j := fun j h0 h1 => (mcσ_173 j).trans (kwσ_7 j h0 h1)
        have smσ_173 : 0 ≤ (σ_173.1 a 15).toInt ∧ (σ_173.1 a 15).toInt ≤ (σ_173.1 a 16).toInt ∧ (σ_173.1 a 16).toInt ≤ (σ_173.1 a 9).toInt ∧ (σ_173.1 a 9).toInt ≤ 900 ∧ 0 ≤ (σ_173.1 a 14).toInt ∧ (σ_173.1 a 14).toInt ≤ 4 ∧ (σ_173.1 a 14).toInt ≤ 4 * ((σ_173.1 a 16).toInt - (σ_173.1 a 15).toInt) ∧ (σ_173.1 a 14).toInt ≤ 4 * ((σ_173.1 a 9).toInt - (σ_173.1 a 15).toInt) ∧ 0 ≤ (σ_173.1 a 12).toInt ∧ (σ_173.1 a 9).toInt = (σ.1 a 9).toInt ∧ (σ.1 a 15).toInt ≤ (σ_173.1 a 15).toInt ∧ (σ.1 a 12).toInt ≤ (σ_173.1 a 12).toInt := (by first | exact sm_tr smσ_7 bhpσ_173 | exact sm_tr smσ_7 chpσ_173 | omega)
        have nsσ_173 : (σ_173.1 a 27).toInt = (σ.1 a 27).toInt := (by omega)
        have t5σ_173 : 0 ≤ r_1.toInt + (σ_173.1 a 12).toInt := (by omega)
        have t6σ_173 : m_c X σ_173 a (v1.toInt + 6) = r_1.toInt := (mcσ_173 _).trans t6σ_7
        clear mv27_σ_173 smσ_7 nsσ_7 t5σ_7 bhpσ_173
        refine q_iastN E hI (q_tk (k' := 34) hI ha rfl (by decide)) ⟨by decide, rfl⟩ (by omega) (by rw [q_lnk (v := 4650) hI (q_tk (k' := 34) hI ha rfl (by decide)) rfl (by decide)]; omega) (show 1 < 2 by decide) (q_inU rfl) dX12_readTest_49 (fun H locs σ_174 hσ_174 hI => ?_)
        replace hF := q_letX hF hσ_174
        have fr_σ_174 := fr_σ_173.si hσ_174 (q_tk (k' := 34) hI ha rfl (by decide)) rfl
        have mv9_σ_174 : (σ_174.1 a 9).toInt = (σ_173.1 a 9).toInt := congrArg Int32.toInt (q_rdn hσ_174 (Or.inl (m_ne ha (q_tk (k' := 34) hI ha rfl (by decide)) (by decide))))
        have mv12_σ_174 : (σ_174.1 a 12).toInt = (σ_173.1 a 12).toInt := congrArg Int32.toInt (q_rdn hσ_174 (Or.inl (m_ne ha (q_tk (k' := 34) hI ha rfl (by decide)) (by decide))))
        have mv14_σ_174 : (σ_174.1 a 14).toInt = (σ_173.1 a 14).toInt := congrArg Int32.toInt (q_rdn hσ_174 (Or.inl (m_ne ha (q_tk (k' := 34) hI ha rfl (by decide)) (by decide))))
        have mv15_σ_174 : (σ_174.1 a 15).toInt = (σ_173.1 a 15).toInt := congrArg Int32.toInt (q_rdn hσ_174 (Or.inl (m_ne ha (q_tk (k' := 34) hI ha rfl (by decide)) (by decide))))
        have mv16_σ_174 : (σ_174.1 a 16).toInt = (σ_173.1 a 16).toInt := congrArg Int32.toInt (q_rdn hσ_174 (Or.inl (m_ne ha (q_tk (k' := 34) hI ha rfl (by decide)) (by decide))))
        have mv27_σ_174 : (σ_174.1 a 27).toInt = (σ_173.1 a 27).toInt := congrArg Int32.toInt (q_rdn hσ_174 (Or.inl (m_ne ha (q_tk (k' := 34) hI ha rfl (by decide)) (by decide))))
        have mcσ_174 := m_wr (v := r_172) (A := (v1.toInt + 1)) hσ_174 iz_170 (by omega)
        have kwσ_174 : ∀ j, 0 ≤ j → (j < v1.toInt + 1 ∨ v1.toInt + 8 ≤ j) → m_c X σ_174 a j = m_c X σ a j := fun j h0 h1 => by rw [mcσ_174 j h0, if_neg (by omega)]; exact kwσ_173 j h0 h1
        have smσ_174 : 0 ≤ (σ_174.1 a 15).toInt ∧ (σ_174.1 a 15).toInt ≤ (σ_174.1 a 16).toInt ∧ (σ_174.1 a 16).toInt ≤ (σ_174.1 a 9).toInt ∧ (σ_174.1 a 9).toInt ≤ 900 ∧ 0 ≤ (σ_174.1 a 14).toInt ∧ (σ_174.1 a 14).toInt ≤ 4 ∧ (σ_174.1 a 14).toInt ≤ 4 * ((σ_174.1 a 16).toInt - (σ_174.1 a 15).toInt) ∧ (σ_174.1 a 14).toInt ≤ 4 * ((σ_174.1 a 9).toInt - (σ_174.1 a 15).toInt) ∧ 0 ≤ (σ_174.1 a 12).toInt ∧ (σ_174.1 a 9).toInt = (σ.1 a 9).toInt ∧ (σ.1 a 15).toInt ≤ (σ_174.1 a 15).toInt ∧ (σ.1 a 12).toInt ≤ (σ_174.1 a 12).toInt := (by first | (rw [mv12_σ_174, mv14_σ_174, mv15_σ_174, mv16_σ_174, mv9_σ_174]; exact smσ_173) | omega)
        have nsσ_174 : (σ_174.1 a 27).toInt = (σ.1 a 27).toInt := (by omega)
        have t5σ_174 : 0 ≤ r_1.toInt + (σ_174.1 a 12).toInt := (by omega)
        have t6σ_174 : m_c X σ_174 a (v1.toInt + 6) = r_1.toInt := (by rw [mcσ_174 (v1.toInt + 6) (by omega), if_neg (by omega)]; exact t6σ_173)
        clear mv9_σ_174 mv12_σ_174 mv14_σ_174 mv15_σ_174 mv16_σ_174 mv27_σ_174 smσ_173 nsσ_173 t5σ_173
        have t1xσ_174 : m_t1 (m_c X σ_174 a) v1.toInt := m_t1.yes (by have := mcσ_174 (v1.toInt + 1) (by omega); rw [if_pos rfl] at this; omega)
        exact J_50_8 σ_174 _ _ ls (by first | exact t1xσ_174 | exact m_t1.no (by rw [t6σ_174]; omega) (by rw [t6σ_174]; omega)) fr_σ_174 kwσ_174 smσ_174 nsσ_174 t5σ_174 t6σ_174 hF hI (lv_sub hl [0, 1, 2] rfl)
  refine q_if_lt (A := r_1.toInt) E rfl (tgt := 14) dX12_readTest_7 (by decide) (fun c_175 => ?_) (fun c_175 => ?_)
  · skip
    replace hF := q_ifp hF c_175
    refine lv_iconst (v := 0) hx hb dX12_readTest_14 (by decide) ?_
    have kc_176 : (0 : Int32).toInt = 0 := rfl
    exact J_15_3 0 _ _ ls (by omega) hF hI (lv_sub hl [1, 2, 0] rfl)
  · skip
    replace hF := q_ifn hF (Int.not_lt.mpr c_175)
    refine lv_iconst (v := 1) hx hb dX12_readTest_10 (by decide) ?_
    refine lv_goto (tgt := 15) hx hb dX12_readTest_11 (by decide) ?_
    have kc_177 : (1 : Int32).toInt = 1 := rfl
    exact J_15_3 1 _ _ ls (by omega) hF hI (lv_sub hl [1, 2, 0] rfl)
end
