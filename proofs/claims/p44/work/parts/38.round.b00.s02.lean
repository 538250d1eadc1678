section
set_option maxRecDepth 100000 in
set_option maxHeartbeats 4000000 in
theorem c_X12_readStep_d0 (l : Launch) (X : XW) (σ : ST) (a : Nat) (v1 : Int32) (ha : q_kd X a = 12) (hs : 0 ≤ (σ.1 a 15).toInt ∧ (σ.1 a 15).toInt ≤ (σ.1 a 16).toInt ∧ (σ.1 a 16).toInt ≤ (σ.1 a 9).toInt ∧ (σ.1 a 9).toInt ≤ 900 ∧ 0 ≤ (σ.1 a 14).toInt ∧ (σ.1 a 14).toInt ≤ 4 ∧ (σ.1 a 14).toInt ≤ 4 * ((σ.1 a 16).toInt - (σ.1 a 15).toInt) ∧ (σ.1 a 14).toInt ≤ 4 * ((σ.1 a 9).toInt - (σ.1 a 15).toInt) ∧ 0 ≤ (σ.1 a 12).toInt) (hz : (σ.1 a 12).toInt = 0) (hc2 : m_c X σ a 2 ≤ 6) (hn : 0 ≤ (σ.1 a 27).toInt ∧ (σ.1 a 27).toInt ≤ 30) (hd : v1.toInt = 3) : Met l yX12_readStep (q_ws yX12_readStep cX12_readStep 5 none) (q_rm 9 197) (q_P X σ [.ref a, .int v1]) (q_Qv X 1 σ (fun (σ' : ST) => (∀ j, 0 ≤ j → j < 4376 + 9 * (σ.1 a 27).toInt → m_c X σ' a j = m_c X σ a j) ∧ (0 ≤ (σ'.1 a 15).toInt ∧ (σ'.1 a 15).toInt ≤ (σ'.1 a 16).toInt ∧ (σ'.1 a 16).toInt ≤ (σ'.1 a 9).toInt ∧ (σ'.1 a 9).toInt ≤ 900 ∧ 0 ≤ (σ'.1 a 14).toInt ∧ (σ'.1 a 14).toInt ≤ 4 ∧ (σ'.1 a 14).toInt ≤ 4 * ((σ'.1 a 16).toInt - (σ'.1 a 15).toInt) ∧ (σ'.1 a 14).toInt ≤ 4 * ((σ'.1 a 9).toInt - (σ'.1 a 15).toInt) ∧ 0 ≤ (σ'.1 a 12).toInt ∧ (σ'.1 a 9).toInt = (σ.1 a 9).toInt ∧ (σ.1 a 15).toInt ≤ (σ'.1 a 15).toInt ∧ (σ.1 a 12).toInt ≤ (σ'.1 a 12).toInt) ∧ ((σ.1 a 15).toInt + 1 ≤ (σ'.1 a 15).toInt + 1000 * (σ'.1 a 12).toInt) ∧ ((σ.1 a 27).toInt ≤ (σ'.1 a 27).toInt ∧ (σ'.1 a 27).toInt ≤ 30) ∧ (m_oz (σ'.1 a 12).toInt (∀ t, (σ.1 a 27).toInt ≤ t → t < (σ'.1 a 27).toInt → m_stp (m_c X σ' a) (4376 + 9 * t) t (σ'.1 a 27).toInt)) ∧ σ' = F_X12_readStep_d0 X σ a v1 ∧ q_ow [(12, 12), (12, 13), (12, 14), (12, 15), (12, 16), (12, 17), (12, 18), (12, 27), (34, 99)] [(12, 19)] X σ σ')) 0 0 (q_reg X) := by
  refine q_metQ 1 (by first | exact rfl | decide +kernel) rfl (Nat.le_of_ble_eq_true rfl) (fun QQ hQQ p e s m below meth c E hml hr hlk hI ls hl => ?_)
  have hx := E.1
  have hb := E.2.1
  have hl : lv_has ls 5 [(0, .ref a), (1, .int v1)] := hl
  have klσ : ∀ j, 0 ≤ j → j < 4376 + 9 * (σ.1 a 27).toInt → m_c X σ a j = m_c X σ a j := fun _ _ _ => rfl
  have smσ : 0 ≤ (σ.1 a 15).toInt ∧ (σ.1 a 15).toInt ≤ (σ.1 a 16).toInt ∧ (σ.1 a 16).toInt ≤ (σ.1 a 9).toInt ∧ (σ.1 a 9).toInt ≤ 900 ∧ 0 ≤ (σ.1 a 14).toInt ∧ (σ.1 a 14).toInt ≤ 4 ∧ (σ.1 a 14).toInt ≤ 4 * ((σ.1 a 16).toInt - (σ.1 a 15).toInt) ∧ (σ.1 a 14).toInt ≤ 4 * ((σ.1 a 9).toInt - (σ.1 a 15).toInt) ∧ 0 ≤ (σ.1 a 12).toInt ∧ (σ.1 a 9).toInt = (σ.1 a 9).toInt ∧ (σ.1 a 15).toInt ≤ (σ.1 a 15).toInt ∧ (σ.1 a 12).toInt ≤ (σ.1 a 12).toInt := (by omega)
  have beσ : (σ.1 a 16).toInt = (σ.1 a 16).toInt := rfl
  have nsσ : (σ.1 a 27).toInt = (σ.1 a 27).toInt := rfl
  have fr_σ : q_ow [(12, 12), (12, 13), (12, 14), (12, 15), (12, 16), (12, 17), (12, 18), (12, 27), (34, 99)] [(12, 19)] X σ σ := q_ow.rf
  obtain ⟨out, hout⟩ : ∃ o, o = F_X12_readStep_d0 X σ a v1 := ⟨_, rfl⟩
  have hF := hout.symm
  unfold F_X12_readStep_d0 at hF
  refine lv_aload_n hx hb dX12_readStep_0 rfl (lv_at hl 0 rfl) ?_
  refine q_ci (q_runV (As := []) (rest := []) E (hml.trans hl.1.symm) hI (c_X12_stepWord l X σ a ha (by omega)) kv_X12_175 ha ⟨rfl, by decide⟩ (show vwCl[11]? = some (RX12, TX12, 46) from rfl) rfl ⟨Nat.le_of_ble_eq_true rfl, Nat.le_of_ble_eq_true rfl⟩ ⟨Nat.le_refl _, Nat.le_refl _⟩ rfl (Nat.le_of_ble_eq_true rfl) dX12_readStep_1) hI (by decide) (fun r_1 σ_2 H locs hpσ_2 hkσ_2 hI => ?_)
  obtain ⟨ahpσ_2, bhpσ_2, chpσ_2, dhpσ_2⟩ := hpσ_2
  rw [ahpσ_2] at hI
  replace hF := q_letX hF dhpσ_2
  refine lv_istore_n (lv' := [(2, .int r_1), (0, .ref a), (1, .int v1)]) hx hb dX12_readStep_4 rfl hl (by decide) rfl (fun ls hl => ?_)
  refine lv_iload_n hx hb dX12_readStep_5 rfl (lv_at hl 0 rfl) ?_
  refine lv_iconst (v := 3) hx hb dX12_readStep_6 (by decide) ?_
  have J_20_3 : ∀ (x_3 : Int32) (H : Heap) (locs : List Loc) (ls : Array Slot), (0 ≤ x_3.toInt ∧ x_3.toInt ≤ 1) → (F_X12_readStep_d0_J20_1 X r_1 σ a v1 x_3 = out) → q_I X 1 σ s.heap locs σ H → lv_has ls 5 [(0, .ref a), (1, .int v1), (2, .int r_1)] → W p l e (q_rm 9 197) s m ([.ref a, .int v1] : List Value).toArray below meth c H locs 0 0 (MQ below QQ ([.ref a, .int v1] : List Value).toArray s 0 0 (q_reg X)) (F0 m 20 ls [.int x_3]) := by
    clear hF
    intro x_3 H locs ls j20 hF hI hl
    unfold F_X12_readStep_d0_J20_1 at hF
    refine lv_istore_n (lv' := [(3, .int x_3), (0, .ref a), (1, .int v1), (2, .int r_1)]) hx hb dX12_readStep_20 rfl hl (by decide) rfl (fun ls hl => ?_)
    refine lv_iload_n hx hb dX12_readStep_21 rfl (lv_at hl 3 rfl) ?_
    have J_29_4 : ∀  (σ_4 : ST) (H : Heap) (locs : List Loc) (ls : Array Slot), (0 ≤ r_1.toInt + (σ_4.1 a 12).toInt) → (q_ow [(12, 12), (12, 13), (12, 14), (12, 15), (12, 16), (12, 17), (12, 18), (12, 27), (34, 99)] [(12, 19)] X σ σ_4) → (∀ j, 0 ≤ j → j < 4376 + 9 * (σ.1 a 27).toInt → m_c X σ_4 a j = m_c X σ a j) → (0 ≤ (σ_4.1 a 15).toInt ∧ (σ_4.1 a 15).toInt ≤ (σ_4.1 a 16).toInt ∧ (σ_4.1 a 16).toInt ≤ (σ_4.1 a 9).toInt ∧ (σ_4.1 a 9).toInt ≤ 900 ∧ 0 ≤ (σ_4.1 a 14).toInt ∧ (σ_4.1 a 14).toInt ≤ 4 ∧ (σ_4.1 a 14).toInt ≤ 4 * ((σ_4.1 a 16).toInt - (σ_4.1 a 15).toInt) ∧ (σ_4.1 a 14).toInt ≤ 4 * ((σ_4.1 a 9).toInt - (σ_4.1 a 15).toInt) ∧ 0 ≤ (σ_4.1 a 12).toInt ∧ (σ_4.1 a 9).toInt = (σ.1 a 9).toInt ∧ (σ.1 a 15).toInt ≤ (σ_4.1 a 15).toInt ∧ (σ.1 a 12).toInt ≤ (σ_4.1 a 12).toInt) → ((σ_4.1 a 16).toInt = (σ.1 a 16).toInt) → ((σ_4.1 a 27).toInt = (σ.1 a 27).toInt) → (F_X12_readStep_d0_J29_2 X a x_3 r_1 v1 σ_4 = out) → q_I X 1 σ s.heap locs σ_4 H → lv_has ls 5 [(0, .ref a), (1, .int v1), (2, .int r_1), (3, .int x_3)] → W p l e (q_rm 9 197) s m ([.ref a, .int v1] : List Value).toArray below meth c H locs 0 0 (MQ below QQ ([.ref a, .int v1] : List Value).toArray s 0 0 (q_reg X)) (F0 m 29 ls []) := by
      clear hF
      intro σ_4 H locs ls taσ_4 fr_σ_4 klσ_4 smσ_4 beσ_4 nsσ_4 hF hI hl
      try clear klσ; try clear smσ; try clear beσ; try clear nsσ; try clear fr_σ; try clear ahpσ_2
      unfold F_X12_readStep_d0_J29_2 at hF
      refine lv_aload_n hx hb dX12_readStep_29 rfl (lv_at hl 0 rfl) ?_
      refine gs_X12_187_12 E hI ha dX12_readStep_30 ?_
      refine lv_topi (fun f_5 ef_5 => ?_)
      replace hF := q_letX hF ef_5
      have if_5 : f_5.toInt = (σ_4.1 a 12).toInt := congrArg Int32.toInt ef_5
      have J_55_6 : ∀  (σ_6 : ST) (H : Heap) (locs : List Loc) (ls : Array Slot), ((σ.1 a 27).toInt ≤ 29 + (σ_6.1 a 12).toInt) → (q_ow [(12, 12), (12, 13), (12, 14), (12, 15), (12, 16), (12, 17), (12, 18), (12, 27), (34, 99)] [(12, 19)] X σ σ_6) → (∀ j, 0 ≤ j → j < 4376 + 9 * (σ.1 a 27).toInt → m_c X σ_6 a j = m_c X σ a j) → (0 ≤ (σ_6.1 a 15).toInt ∧ (σ_6.1 a 15).toInt ≤ (σ_6.1 a 16).toInt ∧ (σ_6.1 a 16).toInt ≤ (σ_6.1 a 9).toInt ∧ (σ_6.1 a 9).toInt ≤ 900 ∧ 0 ≤ (σ_6.1 a 14).toInt ∧ (σ_6.1 a 14).toInt ≤ 4 ∧ (σ_6.1 a 14).toInt ≤ 4 * ((σ_6.1 a 16).toInt - (σ_6.1 a 15).toInt) ∧ (σ_6.1 a 14).toInt ≤ 4 * ((σ_6.1 a 9).toInt - (σ_6.1 a 15).toInt) ∧ 0 ≤ (σ_6.1 a 12).toInt ∧ (σ_6.1 a 9).toInt = (σ.1 a 9).toInt ∧ (σ.1 a 15).toInt ≤ (σ_6.1 a 15).toInt ∧ (σ.1 a 12).toInt ≤ (σ_6.1 a 12).toInt) → ((σ_6.1 a 16).toInt = (σ.1 a 16).toInt) → ((σ_6.1 a 27).toInt = (σ.1 a 27).toInt) → (0 ≤ r_1.toInt + (σ_6.1 a 12).toInt) → (F_X12_readStep_d0_J55_3 X a x_3 r_1 v1 σ_6 = out) → q_I X 1 σ s.heap locs σ_6 H → lv_has ls 5 [(0, .ref a), (1, .int v1), (2, .int r_1), (3, .int x_3)] → W p l e (q_rm 9 197) s m ([.ref a, .int v1] : List Value).toArray below meth c H locs 0 0 (MQ below QQ ([.ref a, .int v1] : List Value).toArray s 0 0 (q_reg X)) (F0 m 55 ls []) := by
        clear hF
        intro σ_6 H locs ls tbσ_6 fr_σ_6 klσ_6 smσ_6 beσ_6 nsσ_6 taσ_6 hF hI hl
        try clear taσ_4; try clear fr_σ_4; try clear klσ_4; try clear smσ_4; try clear beσ_4; try clear nsσ_4
        unfold F_X12_readStep_d0_J55_3 at hF
        refine lv_aload_n hx hb dX12_readStep_55 rfl (lv_at hl 0 rfl) ?_
        refine gs_X12_187_12 E hI ha dX12_readStep_56 ?_
        refine lv_topi (fun f_7 ef_7 => ?_)
        replace hF := q_letX hF ef_7
        have if_7 : f_7.toInt = (σ_6.1 a 12).toInt := congrArg Int32.toInt ef_7
        have J_81_8 : ∀  (σ_8 : ST) (H : Heap) (locs : List Loc) (ls : Array Slot), (x_3.toInt ≤ (σ_8.1 a 12).toInt) → (q_ow [(12, 12), (12, 13), (12, 14), (12, 15), (12, 16), (12, 17), (12, 18), (12, 27), (34, 99)] [(12, 19)] X σ σ_8) → (∀ j, 0 ≤ j → j < 4376 + 9 * (σ.1 a 27).toInt → m_c X σ_8 a j = m_c X σ a j) → (0 ≤ (σ_8.1 a 15).toInt ∧ (σ_8.1 a 15).toInt ≤ (σ_8.1 a 16).toInt ∧ (σ_8.1 a 16).toInt ≤ (σ_8.1 a 9).toInt ∧ (σ_8.1 a 9).toInt ≤ 900 ∧ 0 ≤ (σ_8.1 a 14).toInt ∧ (σ_8.1 a 14).toInt ≤ 4 ∧ (σ_8.1 a 14).toInt ≤ 4 * ((σ_8.1 a 16).toInt - (σ_8.1 a 15).toInt) ∧ (σ_8.1 a 14).toInt ≤ 4 * ((σ_8.1 a 9).toInt - (σ_8.1 a 15).toInt) ∧ 0 ≤ (σ_8.1 a 12).toInt ∧ (σ_8.1 a 9).toInt = (σ.1 a 9).toInt ∧ (σ.1 a 15).toInt ≤ (σ_8.1 a 15).toInt ∧ (σ.1 a 12).toInt ≤ (σ_8.1 a 12).toInt) → ((σ_8.1 a 16).toInt = (σ.1 a 16).toInt) → ((σ_8.1 a 27).toInt = (σ.1 a 27).toInt) → (0 ≤ r_1.toInt + (σ_8.1 a 12).toInt) → ((σ.1 a 27).toInt ≤ 29 + (σ_8.1 a 12).toInt) → (F_X12_readStep_d0_J81_4 X a r_1 x_3 σ_8 = out) → q_I X 1 σ s.heap locs σ_8 H → lv_has ls 5 [(0, .ref a), (1, .int v1), (2, .int r_1), (3, .int x_3)] → W p l e (q_rm 9 197) s m ([.ref a, .int v1] : List Value).toArray below meth c H locs 0 0 (MQ below QQ ([.ref a, .int v1] : List Value).toArray s 0 0 (q_reg X)) (F0 m 81 ls []) := by
          clear hF
          intro σ_8 H locs ls tcσ_8 fr_σ_8 klσ_8 smσ_8 beσ_8 nsσ_8 taσ_8 tbσ_8 hF hI hl
          try clear tbσ_6; try clear fr_σ_6; try clear klσ_6; try clear smσ_6; try clear beσ_6; try clear nsσ_6; try clear taσ_6
          unfold F_X12_readStep_d0_J81_4 at hF
          refine lv_aload_n hx hb dX12_readStep_81 rfl (lv_at hl 0 rfl) ?_
          refine gs_X12_187_12 E hI ha dX12_readStep_82 ?_
          refine lv_topi (fun f_9 ef_9 => ?_)
          replace hF := q_letX hF ef_9
          have if_9 : f_9.toInt = (σ_8.1 a 12).toInt := congrArg Int32.toInt ef_9
          refine q_if_le (A := f_9.toInt) E rfl (tgt := 89) dX12_readStep_85 (by decide) (fun c_10 => ?_) (fun c_10 => ?_)
          · skip
            replace hF := q_ifn hF (Int.not_lt.mpr c_10)
            have kk0 : 0 ≤ r_1.toInt ∧ (σ.1 a 27).toInt ≤ 29 ∧ (σ_8.1 a 12).toInt = 0 ∧ x_3.toInt ≤ 0 := (by omega)
            refine lv_sipush (v := 4376) hx hb dX12_readStep_89 (by decide) ?_
            refine lv_bipush (v := 9) hx hb dX12_readStep_92 (by decide) ?_
            refine lv_aload_n hx hb dX12_readStep_94 rfl (lv_at hl 0 rfl) ?_
            refine gs_X12_267_12 E hI ha dX12_readStep_95 ?_
            refine lv_topi (fun f_11 ef_11 => ?_)
            replace hF := q_letX hF ef_11
            have if_11 : f_11.toInt = (σ_8.1 a 27).toInt := congrArg Int32.toInt ef_11
            refine lv_imul hx hb dX12_readStep_98 ?_
            refine lv_topi (fun z_12 ez_12 => ?_)
            replace hF := q_letX hF ez_12
            have iz_12 := q_mulI (A := 9) (B := f_11.toInt) ez_12 (by decide) rfl (by omega) (by omega)
            refine lv_iadd hx hb dX12_readStep_99 ?_
            refine lv_topi (fun z_13 ez_13 => ?_)
            replace hF := q_letX hF ez_13
            have iz_13 := q_addI (A := 4376) (B := (9 * f_11.toInt)) ez_13 (by decide) iz_12 (by omega) (by omega)
            refine lv_istore (lv' := [(4, .int z_13), (0, .ref a), (1, .int v1), (2, .int r_1), (3, .int x_3)]) hx hb dX12_readStep_100 hl (by decide) rfl (fun ls hl => ?_)
            refine lv_aload_n hx hb dX12_readStep_102 rfl (lv_at hl 1 rfl) ?_
            refine lv_dup hx hb dX12_readStep_103 rfl ?_
            refine gs_X12_267_12 E hI ha dX12_readStep_104 ?_
            refine lv_topi (fun f_14 ef_14 => ?_)
            replace hF := q_letX hF ef_14
            have if_14 : f_14.toInt = (σ_8.1 a 27).toInt := congrArg Int32.toInt ef_14
            refine lv_iconst (v := 1) hx hb dX12_readStep_107 (by decide) ?_
            refine lv_iadd hx hb dX12_readStep_108 ?_
            refine lv_topi (fun z_15 ez_15 => ?_)
            replace hF := q_letX hF ez_15
            have iz_15 := q_addI (A := f_14.toInt) (B := 1) ez_15 rfl (by decide) (by omega) (by omega)
            refine ps_X12_267_12 E hI ha (by decide) dX12_readStep_109 (fun H locs σ_16 hσ_16 hI => ?_)
            replace hF := q_letX hF hσ_16
            have fr_σ_16 := fr_σ_8.si hσ_16 ha rfl
            have mv9_σ_16 : (σ_16.1 a 9).toInt = (σ_8.1 a 9).toInt := congrArg Int32.toInt (q_rdn hσ_16 (Or.inr (by decide)))
            have mv12_σ_16 : (σ_16.1 a 12).toInt = (σ_8.1 a 12).toInt := congrArg Int32.toInt (q_rdn hσ_16 (Or.inr (by decide)))
            have mv14_σ_16 : (σ_16.1 a 14).toInt = (σ_8.1 a 14).toInt := congrArg Int32.toInt (q_rdn hσ_16 (Or.inr (by decide)))
            have mv15_σ_16 : (σ_16.1 a 15).toInt = (σ_8.1 a 15).toInt := congrArg Int32.toInt (q_rdn hσ_16 (Or.inr (by decide)))
            have mv16_σ_16 : (σ_16.1 a 16).toInt = (σ_8.1 a 16).toInt := congrArg Int32.toInt (q_rdn hσ_16 (Or.inr (by decide)))
            have mv27_σ_16 : (σ_16.1 a 27).toInt = z_15.toInt := congrArg Int32.toInt (q_rd hσ_16)
            have mcσ_16 := m_wo hσ_16 (m_ne ha (q_tk (f := 20) (k' := 34) hI ha rfl (by decide)) (by decide))
            have klσ_16 : ∀ j, 0 ≤ j → j < 4376 + 9 * (σ.1 a 27).toInt → m_c X σ_16 a j = m_c X σ a j := fun j h0 h1 => (mcσ_16 j).trans (klσ_8 j h0 h1)
            have smσ_16 : 0 ≤ (σ_16.1 a 15).toInt ∧ (σ_16.1 a 15).toInt ≤ (σ_16.1 a 16).toInt ∧ (σ_16.1 a 16).toInt ≤ (σ_16.1 a 9).toInt ∧ (σ_16.1 a 9).toInt ≤ 900 ∧ 0 ≤ (σ_16.1 a 14).toInt ∧ (σ_16.1 a 14).toInt ≤ 4 ∧ (σ_16.1 a 14).toInt ≤ 4 * ((σ_16.1 a 16).toInt - (σ_16.1 a 15).toInt) ∧ (σ_16.1 a 14).toInt ≤ 4 * ((σ_16.1 a 9).toInt - (σ_16.1 a 15).toInt) ∧ 0 ≤ (σ_16.1 a 12).toInt ∧ (σ_16.1 a 9).toInt = (σ.1 a 9).toInt ∧ (σ.1 a 15).toInt ≤ (σ_16.1 a 15).toInt ∧ (σ.1 a 12).toInt ≤ (σ_16.1 a 12).toInt := (by first | (rw [mv12_σ_16, mv14_σ_16, mv15_σ_16, mv16_σ_16, mv9_σ_16]; exact smσ_8) | omega)
            have beσ_16 : (σ_16.1 a 16).toInt = (σ.1 a 16).toInt := (by omega)
            have nbσ_16 : (σ_16.1 a 27).toInt = (σ.1 a 27).toInt + 1 := (by omega)
            clear mv9_σ_16 mv12_σ_16 mv14_σ_16 mv15_σ_16 mv16_σ_16 mv27_σ_16 smσ_8 beσ_8
            refine lv_aload_n hx hb dX12_readStep_112 rfl (lv_at hl 1 rfl) ?_
            refine q_cv (q_runV (As := []) (rest := []) E (hml.trans hl.1.symm) hI (c_X12_next l X σ_16 a ha (by omega) (by omega) (by omega)) kv_X12_197 ha ⟨rfl, by decide⟩ (show vwCl[11]? = some (RX12, TX12, 46) from rfl) rfl ⟨Nat.le_of_ble_eq_true rfl, Nat.le_of_ble_eq_true rfl⟩ ⟨Nat.le_refl _, Nat.le_refl _⟩ rfl (Nat.le_of_ble_eq_true rfl) dX12_readStep_113) hI (by decide) (fun σ_18 H locs hpσ_18 hkσ_18 hI => ?_)
            obtain ⟨ahpσ_18, bhpσ_18, chpσ_18, dhpσ_18, ehpσ_18⟩ := hpσ_18
            have fr_σ_18 := fr_σ_16.call ehpσ_18 rfl rfl
            replace hF := q_letX hF dhpσ_18
            have mv27_σ_18 : (σ_18.1 a 27).toInt = (σ_16.1 a 27).toInt := congrArg Int32.toInt (ahpσ_18 a 27 (q_cl9 _ _) (fun h => absurd h.2.2 (by decide)))
            have mcσ_18 := m_cK hkσ_18 hI.1 ha (by decide)
            have klσ_18 : ∀ j, 0 ≤ j → j < 4376 + 9 * (σ.1 a 27).toInt → m_c X σ_18 a j = m_c X σ a j := fun j h0 h1 => (mcσ_18 j).trans (klσ_16 j h0 h1)
            have smσ_18 : 0 ≤ (σ_18.1 a 15).toInt ∧ (σ_18.1 a 15).toInt ≤ (σ_18.1 a 16).toInt ∧ (σ_18.1 a 16).toInt ≤ (σ_18.1 a 9).toInt ∧ (σ_18.1 a 9).toInt ≤ 900 ∧ 0 ≤ (σ_18.1 a 14).toInt ∧ (σ_18.1 a 14).toInt ≤ 4 ∧ (σ_18.1 a 14).toInt ≤ 4 * ((σ_18.1 a 16).toInt - (σ_18.1 a 15).toInt) ∧ (σ_18.1 a 14).toInt ≤ 4 * ((σ_18.1 a 9).toInt - (σ_18.1 a 15).toInt) ∧ 0 ≤ (σ_18.1 a 12).toInt ∧ (σ_18.1 a 9).toInt = (σ.1 a 9).toInt ∧ (σ.1 a 15).toInt ≤ (σ_18.1 a 15).toInt ∧ (σ.1 a 12).toInt ≤ (σ_18.1 a 12).toInt := (by first | exact sm_nx smσ_16 bhpσ_18 chpσ_18 | omega)
            have nbσ_18 : (σ_18.1 a 27).toInt = (σ.1 a 27).toInt + 1 := (by omega)
            have oxσ_18 : (σ.1 a 15).toInt + 1 ≤ (σ_18.1 a 15).toInt := (by omega)
            clear mv27_σ_18 smσ_16 nbσ_16 bhpσ_18 chpσ_18
            refine lv_aload_n hx hb dX12_readStep_116 rfl (lv_at hl 1 rfl) ?_
            refine gs_X12_35_12 E hI ha dX12_readStep_117 ?_
            refine lv_iload hx hb dX12_readStep_120 (lv_at hl 0 rfl) ?_
            refine lv_iload_n hx hb dX12_readStep_122 rfl (lv_at hl 3 rfl) ?_
            refine q_iastN E hI (q_tk (k' := 34) hI ha rfl (by decide)) ⟨by decide, rfl⟩ (by omega) (by rw [q_lnk (v := 4650) hI (q_tk (k' := 34) hI ha rfl (by decide)) rfl (by decide)]; omega) (show 1 < 2 by decide) (q_inU rfl) dX12_readStep_123 (fun H locs σ_19 hσ_19 hI => ?_)
            replace hF := q_letX hF hσ_19
            have fr_σ_19 := fr_σ_18.si hσ_19 (q_tk (k' := 34) hI ha rfl (by decide)) rfl
            have mv9_σ_19 : (σ_19.1 a 9).toInt = (σ_18.1 a 9).toInt := congrArg Int32.toInt (q_rdn hσ_19 (Or.inl (m_ne ha (q_tk (k' := 34) hI ha rfl (by decide)) (by decide))))
            have mv12_σ_19 : (σ_19.1 a 12).toInt = (σ_18.1 a 12).toInt := congrArg Int32.toInt (q_rdn hσ_19 (Or.inl (m_ne ha (q_tk (k' := 34) hI ha rfl (by decide)) (by decide))))
            have mv14_σ_19 : (σ_19.1 a 14).toInt = (σ_18.1 a 14).toInt := congrArg Int32.toInt (q_rdn hσ_19 (Or.inl (m_ne ha (q_tk (k' := 34) hI ha rfl (by decide)) (by decide))))
            have mv15_σ_19 : (σ_19.1 a 15).toInt = (σ_18.1 a 15).toInt := congrArg Int32.toInt (q_rdn hσ_19 (Or.inl (m_ne ha (q_tk (k' := 34) hI ha rfl (by decide)) (by decide))))
            have mv16_σ_19 : (σ_19.1 a 16).toInt = (σ_18.1 a 16).toInt := congrArg Int32.toInt (q_rdn hσ_19 (Or.inl (m_ne ha (q_tk (k' := 34) hI ha rfl (by decide)) (by decide))))
            have mv27_σ_19 : (σ_19.1 a 27).toInt = (σ_18.1 a 27).toInt := congrArg Int32.toInt (q_rdn hσ_19 (Or.inl (m_ne ha (q_tk (k' := 34) hI ha rfl (by decide)) (by decide))))
            have mcσ_19 := m_wr (v := r_1) (A := (4376 + (9 * f_11.toInt))) hσ_19 iz_13 (by omega)
            have klσ_19 : ∀ j, 0 ≤ j → j < 4376 + 9 * (σ.1 a 27).toInt → m_c X σ_19 a j = m_c X σ a j := fun j h0 h1 => by rw [mcσ_19 j h0, if_neg (by omega)]; exact klσ_18 j h0 h1
            have smσ_19 : 0 ≤ (σ_19.1 a 15).toInt ∧ (σ_19.1 a 15).toInt ≤ (σ_19.1 a 16).toInt ∧ (σ_19.1 a 16).toInt ≤ (σ_19.1 a 9).toInt ∧ (σ_19.1 a 9).toInt ≤ 900 ∧ 0 ≤ (σ_19.1 a 14).toInt ∧ (σ_19.1 a 14).toInt ≤ 4 ∧ (σ_19.1 a 14).toInt ≤ 4 * ((σ_19.1 a 16).toInt - (σ_19.1 a 15).toInt) ∧ (σ_19.1 a 14).toInt ≤ 4 * ((σ_19.1 a 9).toInt - (σ_19.1 a 15).toInt) ∧ 0 ≤ (σ_19.1 a 12).toInt ∧ (σ_19.1 a 9).toInt = (σ.1 a 9).toInt ∧ (σ.1 a 15).toInt ≤ (σ_19.1 a 15).toInt ∧ (σ.1 a 12).toInt ≤ (σ_19.1 a 12).toInt := (by first | (rw [mv12_σ_19, mv14_σ_19, mv15_σ_19, mv16_σ_19, mv9_σ_19]; exact smσ_18) | omega)
            have nbσ_19 : (σ_19.1 a 27).toInt = (σ.1 a 27).toInt + 1 := (by omega)
            have oxσ_19 : (σ.1 a 15).toInt + 1 ≤ (σ_19.1 a 15).toInt := (by omega)
            have cwσ_19 : m_c X σ_19 a z_13.toInt = r_1.toInt := (by rw [mcσ_19 z_13.toInt (by omega), if_pos (by omega)])
            clear mv9_σ_19 mv12_σ_19 mv14_σ_19 mv15_σ_19 mv16_σ_19 mv27_σ_19 smσ_18 nbσ_18 oxσ_18
            refine lv_aload_n hx hb dX12_readStep_124 rfl (lv_at hl 1 rfl) ?_
            refine lv_iload hx hb dX12_readStep_125 (lv_at hl 0 rfl) ?_
            refine q_cv (q_runV (As := [.int z_13]) (rest := []) E (hml.trans hl.1.symm) hI (c_X12_readRest l X σ_19 a z_13 ha (by first | exact sm_9 smσ_19 | exact hs | omega) (by omega) (by rw [klσ_19 2 (by decide) (by omega)]; exact hc2)) kv_X12_270 ha ⟨rfl, by decide⟩ (show vwCl[11]? = some (RX12, TX12, 46) from rfl) rfl ⟨Nat.le_of_ble_eq_true rfl, Nat.le_of_ble_eq_true rfl⟩ ⟨Nat.le_refl _, Nat.le_refl _⟩ rfl (Nat.le_of_ble_eq_true rfl) dX12_readStep_127) hI (by decide) (fun σ_21 H locs hpσ_21 hkσ_21 hI => ?_)
            obtain ⟨ahpσ_21, bhpσ_21, chpσ_21, dhpσ_21, ehpσ_21, fhpσ_21⟩ := hpσ_21
            have fr_σ_21 := fr_σ_19.call fhpσ_21 rfl rfl
            replace hF := q_letX hF ehpσ_21
            have klσ_21 : ∀ j, 0 ≤ j → j < 4376 + 9 * (σ.1 a 27).toInt → m_c X σ_21 a j = m_c X σ a j := (fun j h0 h1 => (ahpσ_21 j h0 (Or.inl (by omega))).trans (klσ_19 j h0 h1))
            have smσ_21 : 0 ≤ (σ_21.1 a 15).toInt ∧ (σ_21.1 a 15).toInt ≤ (σ_21.1 a 16).toInt ∧ (σ_21.1 a 16).toInt ≤ (σ_21.1 a 9).toInt ∧ (σ_21.1 a 9).toInt ≤ 900 ∧ 0 ≤ (σ_21.1 a 14).toInt ∧ (σ_21.1 a 14).toInt ≤ 4 ∧ (σ_21.1 a 14).toInt ≤ 4 * ((σ_21.1 a 16).toInt - (σ_21.1 a 15).toInt) ∧ (σ_21.1 a 14).toInt ≤ 4 * ((σ_21.1 a 9).toInt - (σ_21.1 a 15).toInt) ∧ 0 ≤ (σ_21.1 a 12).toInt ∧ (σ_21.1 a 9).toInt = (σ.1 a 9).toInt ∧ (σ.1 a 15).toInt ≤ (σ_21.1 a 15).toInt ∧ (σ.1 a 12).toInt ≤ (σ_21.1 a 12).toInt := (by first | exact sm_tr smσ_19 bhpσ_21 | exact sm_tr smσ_19 chpσ_21 | omega)
            have nbσ_21 : (σ_21.1 a 27).toInt = (σ.1 a 27).toInt + 1 := (by omega)
            have oxσ_21 : (σ.1 a 15).toInt + 1 ≤ (σ_21.1 a 15).toInt := (by omega)
            have cwσ_21 : m_c X σ_21 a z_13.toInt = r_1.toInt := ((ahpσ_21 z_13.toInt (by omega) (Or.inl (by omega))).trans cwσ_19)
            have rrσ_21 : m_oz (σ_21.1 a 12).toInt (m_rst (m_c X σ_21 a) z_13.toInt) := dhpσ_21
            clear smσ_19 nbσ_19 oxσ_19 bhpσ_21 chpσ_21
            refine lv_aload_n hx hb dX12_readStep_130 rfl (lv_at hl 1 rfl) ?_
            refine lv_aload_n hx hb dX12_readStep_131 rfl (lv_at hl 1 rfl) ?_
            refine lv_bipush (v := 59) hx hb dX12_readStep_132 (by decide) ?_
            have kc_22 : (59 : Int32).toInt = 59 := rfl
            refine q_ci (q_runV (As := [.int 59]) (rest := [.ref a]) E (hml.trans hl.1.symm) hI (c_X12_isSign l X σ_21 a (59 : Int32) ha) kv_X12_243 ha ⟨rfl, by decide⟩ (show vwCl[11]? = some (RX12, TX12, 46) from rfl) rfl ⟨Nat.le_of_ble_eq_true rfl, Nat.le_of_ble_eq_true rfl⟩ ⟨Nat.le_refl _, Nat.le_refl _⟩ rfl (Nat.le_of_ble_eq_true rfl) dX12_readStep_134) hI (by decide) (fun r_23 σ_24 H locs hpσ_24 hkσ_24 hI => ?_)
            obtain ⟨ahpσ_24, bhpσ_24, chpσ_24⟩ := hpσ_24
            rw [ahpσ_24] at hI
            replace hF := q_letX hF chpσ_24
            refine q_cv (q_runV (As := [.int r_23]) (rest := []) E (hml.trans hl.1.symm) hI (c_X12_must l X σ_21 a r_23 ha (by first | exact sm_9 smσ_21 | exact hs | omega) (by omega)) kv_X12_216 ha ⟨rfl, by decide⟩ (show vwCl[11]? = some (RX12, TX12, 46) from rfl) rfl ⟨Nat.le_of_ble_eq_true rfl, Nat.le_of_ble_eq_true rfl⟩ ⟨Nat.le_refl _, Nat.le_refl _⟩ rfl (Nat.le_of_ble_eq_true rfl) dX12_readStep_137) hI (by decide) (fun σ_26 H locs hpσ_26 hkσ_26 hI => ?_)
            obtain ⟨ahpσ_26, bhpσ_26, chpσ_26, dhpσ_26, ehpσ_26⟩ := hpσ_26
            have fr_σ_26 := fr_σ_21.call ehpσ_26 rfl rfl
            replace hF := q_letX hF dhpσ_26
            have mv27_σ_26 : (σ_26.1 a 27).toInt = (σ_21.1 a 27).toInt := congrArg Int32.toInt (ahpσ_26 a 27 (q_cl9 _ _) (fun h => absurd h.2.2 (by decide)))
            have mcσ_26 := m_cK hkσ_26 hI.1 ha (by decide)
            have klσ_26 : ∀ j, 0 ≤ j → j < 4376 + 9 * (σ.1 a 27).toInt → m_c X σ_26 a j = m_c X σ a j := fun j h0 h1 => (mcσ_26 j).trans (klσ_21 j h0 h1)
            have smσ_26 : 0 ≤ (σ_26.1 a 15).toInt ∧ (σ_26.1 a 15).toInt ≤ (σ_26.1 a 16).toInt ∧ (σ_26.1 a 16).toInt ≤ (σ_26.1 a 9).toInt ∧ (σ_26.1 a 9).toInt ≤ 900 ∧ 0 ≤ (σ_26.1 a 14).toInt ∧ (σ_26.1 a 14).toInt ≤ 4 ∧ (σ_26.1 a 14).toInt ≤ 4 * ((σ_26.1 a 16).toInt - (σ_26.1 a 15).toInt) ∧ (σ_26.1 a 14).toInt ≤ 4 * ((σ_26.1 a 9).toInt - (σ_26.1 a 15).toInt) ∧ 0 ≤ (σ_26.1 a 12).toInt ∧ (σ_26.1 a 9).toInt = (σ.1 a 9).toInt ∧ (σ.1 a 15).toInt ≤ (σ_26.1 a 15).toInt ∧ (σ.1 a 12).toInt ≤ (σ_26.1 a 12).toInt := (by first | exact sm_tr smσ_21 bhpσ_26 | exact sm_tr smσ_21 chpσ_26 | omega)
            have nbσ_26 : (σ_26.1 a 27).toInt = (σ.1 a 27).toInt + 1 := (by omega)
            have oxσ_26 : (σ.1 a 15).toInt + 1 ≤ (σ_26.1 a 15).toInt := (by omega)
            have cwσ_26 : m_c X σ_26 a z_13.toInt = r_1.toInt := (mcσ_26 _).trans cwσ_21
            have rrσ_26 : m_oz (σ_26.1 a 12).toInt (m_rst (m_c X σ_26 a) z_13.toInt) := (m_oz.mono rrσ_21 (by omega) (by omega) (fun h => m_rst.ext h (fun j => mcσ_26 j)))
            clear mv27_σ_26 smσ_21 nbσ_21 oxσ_21 bhpσ_26
            have L_140_28 : ∀ (k_28 : Nat)  (σ_27 : ST) (H : Heap) (locs : List Loc) (ls : Array Slot), (901 - (σ_27.1 a 15).toInt).toNat + (1 - (σ_27.1 a 12).toInt).toNat < k_28 → ((σ.1 a 27).toInt + 1 ≤ (σ_27.1 a 27).toInt ∧ (σ_27.1 a 27).toInt ≤ 30) → (m_oz (σ_27.1 a 12).toInt (m_lp (m_c X σ_27 a) z_13.toInt (σ.1 a 27).toInt (σ_27.1 a 27).toInt)) → (q_ow [(12, 12), (12, 13), (12, 14), (12, 15), (12, 16), (12, 17), (12, 18), (12, 27), (34, 99)] [(12, 19)] X σ σ_27) → (∀ j, 0 ≤ j → j < 4376 + 9 * (σ.1 a 27).toInt → m_c X σ_27 a j = m_c X σ a j) → (0 ≤ (σ_27.1 a 15).toInt ∧ (σ_27.1 a 15).toInt ≤ (σ_27.1 a 16).toInt ∧ (σ_27.1 a 16).toInt ≤ (σ_27.1 a 9).toInt ∧ (σ_27.1 a 9).toInt ≤ 900 ∧ 0 ≤ (σ_27.1 a 14).toInt ∧ (σ_27.1 a 14).toInt ≤ 4 ∧ (σ_27.1 a 14).toInt ≤ 4 * ((σ_27.1 a 16).toInt - (σ_27.1 a 15).toInt) ∧ (σ_27.1 a 14).toInt ≤ 4 * ((σ_27.1 a 9).toInt - (σ_27.1 a 15).toInt) ∧ 0 ≤ (σ_27.1 a 12).toInt ∧ (σ_27.1 a 9).toInt = (σ.1 a 9).toInt ∧ (σ.1 a 15).toInt ≤ (σ_27.1 a 15).toInt ∧ (σ.1 a 12).toInt ≤ (σ_27.1 a 12).toInt) → ((σ.1 a 15).toInt + 1 ≤ (σ_27.1 a 15).toInt) → (F_X12_readStep_d0_L140_5 X x_3 z_13 a k_28 σ_27 = out) → q_I X 1 σ s.heap locs σ_27 H → lv_has ls 5 [(0, .ref a), (1, .int v1), (2, .int r_1), (3, .int x_3), (4, .int z_13)] → W p l e (q_rm 9 197) s m ([.ref a, .int v1] : List Value).toArray below meth c H locs 0 0 (MQ below QQ ([.ref a, .int v1] : List Value).toArray s 0 0 (q_reg X)) (F0 m 140 ls []) := by
              clear hF
              intro k_28
              induction k_28 with
              | zero =>
                intro σ_27 H locs ls hms
                try clear fr_σ_16; try clear mcσ_16; try clear klσ_16; try clear beσ_16; try clear ahpσ_18; try clear fr_σ_18; try clear mcσ_18; try clear klσ_18; try clear fr_σ_19; try clear mcσ_19; try clear klσ_19; try clear cwσ_19; try clear ahpσ_21; try clear fr_σ_21; try clear klσ_21; try clear cwσ_21; try clear rrσ_21; try clear ahpσ_24; try clear ahpσ_26; try clear fr_σ_26; try clear mcσ_26; try clear klσ_26; try clear smσ_26; try clear nbσ_26; try clear oxσ_26; try clear cwσ_26; try clear rrσ_26
                exact absurd hms (Nat.not_lt_zero _)
              | succ k_28 ih140 =>
                intro σ_27 H locs ls hm140 nrσ_27 lpσ_27 fr_σ_27 klσ_27 smσ_27 oxσ_27 hF hI hl
                replace hF := (F_X12_readStep_d0_L140_5_s).symm.trans hF
                unfold F_X12_readStep_d0_B140_5 at hF
                refine lv_iload_n hx hb dX12_readStep_140 rfl (lv_at hl 3 rfl) ?_
                refine q_if_eq (A := x_3.toInt) E rfl (tgt := 168) dX12_readStep_141 (by decide) (fun c_29 => ?_) (fun c_29 => ?_)
                · skip
                  replace hF := q_ifp hF c_29
                  unfold F_X12_readStep_d0_E168_6 at hF
                  refine lv_iload_n hx hb dX12_readStep_168 rfl (lv_at hl 3 rfl) ?_
                  refine q_if_eq (A := x_3.toInt) E rfl (tgt := 190) dX12_readStep_169 (by decide) (fun c_30 => ?_) (fun c_30 => ?_)
                  · skip
                    replace hF := q_ifp hF c_30
                    refine lv_aload_n hx hb dX12_readStep_190 rfl (lv_at hl 0 rfl) ?_
                    refine gs_X12_35_12 E hI ha dX12_readStep_191 ?_
                    refine lv_iload hx hb dX12_readStep_194 (lv_at hl 4 rfl) ?_
                    refine lv_bipush (v := 8) hx hb dX12_readStep_196 (by decide) ?_
                    refine lv_iadd hx hb dX12_readStep_198 ?_
                    refine lv_topi (fun z_31 ez_31 => ?_)
                    replace hF := q_letX hF ez_31
                    have iz_31 := q_addI (A := (4376 + (9 * f_11.toInt))) (B := 8) ez_31 iz_13 (by decide) (by omega) (by omega)
                    refine lv_aload_n hx hb dX12_readStep_199 rfl (lv_at hl 0 rfl) ?_
                    refine gs_X12_267_12 E hI ha dX12_readStep_200 ?_
                    refine lv_topi (fun f_32 ef_32 => ?_)
                    replace hF := q_letX hF ef_32
                    have if_32 : f_32.toInt = (σ_27.1 a 27).toInt := congrArg Int32.toInt ef_32
                    refine q_iastN E hI (q_tk (k' := 34) hI ha rfl (by decide)) ⟨by decide, rfl⟩ (by omega) (by rw [q_lnk (v := 4650) hI (q_tk (k' := 34) hI ha rfl (by decide)) rfl (by decide)]; omega) (show 1 < 2 by decide) (q_inU rfl) dX12_readStep_203 (fun H locs σ_33 hσ_33 hI => ?_)
                    replace hF := q_letX hF hσ_33
                    have fr_σ_33 := fr_σ_27.si hσ_33 (q_tk (k' := 34) hI ha rfl (by decide)) rfl
                    have mv9_σ_33 : (σ_33.1 a 9).toInt = (σ_27.1 a 9).toInt := congrArg Int32.toInt (q_rdn hσ_33 (Or.inl (m_ne ha (q_tk (k' := 34) hI ha rfl (by decide)) (by decide))))
                    have mv12_σ_33 : (σ_33.1 a 12).toInt = (σ_27.1 a 12).toInt := congrArg Int32.toInt (q_rdn hσ_33 (Or.inl (m_ne ha (q_tk (k' := 34) hI ha rfl (by decide)) (by decide))))
                    have mv14_σ_33 : (σ_33.1 a 14).toInt = (σ_27.1 a 14).toInt := congrArg Int32.toInt (q_rdn hσ_33 (Or.inl (m_ne ha (q_tk (k' := 34) hI ha rfl (by decide)) (by decide))))
                    have mv15_σ_33 : (σ_33.1 a 15).toInt = (σ_27.1 a 15).toInt := congrArg Int32.toInt (q_rdn hσ_33 (Or.inl (m_ne ha (q_tk (k' := 34) hI ha rfl (by decide)) (by decide))))
                    have mv16_σ_33 : (σ_33.1 a 16).toInt = (σ_27.1 a 16).toInt := congrArg Int32.toInt (q_rdn hσ_33 (Or.inl (m_ne ha (q_tk (k' := 34) hI ha rfl (by decide)) (by decide))))
                    have mv27_σ_33 : (σ_33.1 a 27).toInt = (σ_27.1 a 27).toInt := congrArg Int32.toInt (q_rdn hσ_33 (Or.inl (m_ne ha (q_tk (k' := 34) hI ha rfl (by decide)) (by decide))))
                    have mcσ_33 := m_wr (v := f_32) (A := ((4376 + (9 * f_11.toInt)) + 8)) hσ_33 iz_31 (by omega)
                    have klσ_33 : ∀ j, 0 ≤ j → j < 4376 + 9 * (σ.1 a 27).toInt → m_c X σ_33 a j = m_c X σ a j := fun j h0 h1 => by rw [mcσ_33 j h0, if_neg (by omega)]; exact klσ_27 j h0 h1
                    have smσ_33 : 0 ≤ (σ_33.1 a 15).toInt ∧ (σ_33.1 a 15).toInt ≤ (σ_33.1 a 16).toInt ∧ (σ_33.1 a 16).toInt ≤ (σ_33.1 a 9).toInt ∧ (σ_33.1 a 9).toInt ≤ 900 ∧ 0 ≤ (σ_33.1 a 14).toInt ∧ (σ_33.1 a 14).toInt ≤ 4 ∧ (σ_33.1 a 14).toInt ≤ 4 * ((σ_33.1 a 16).toInt - (σ_33.1 a 15).toInt) ∧ (σ_33.1 a 14).toInt ≤ 4 * ((σ_33.1 a 9).toInt - (σ_33.1 a 15).toInt) ∧ 0 ≤ (σ_33.1 a 12).toInt ∧ (σ_33.1 a 9).toInt = (σ.1 a 9).toInt ∧ (σ.1 a 15).toInt ≤ (σ_33.1 a 15).toInt ∧ (σ.1 a 12).toInt ≤ (σ_33.1 a 12).toInt := (by first | (rw [mv12_σ_33, mv14_σ_33, mv15_σ_33, mv16_σ_33, mv9_σ_33]; exact smσ_27) | omega)
                    have oxσ_33 : (σ.1 a 15).toInt + 1 ≤ (σ_33.1 a 15).toInt := (by omega)
                    have nrσ_33 : (σ.1 a 27).toInt + 1 ≤ (σ_33.1 a 27).toInt ∧ (σ_33.1 a 27).toInt ≤ 30 := (by omega)
                    have fiσ_33 : m_oz (σ_33.1 a 12).toInt (∀ t, (σ.1 a 27).toInt ≤ t → t < (σ_33.1 a 27).toInt → m_stp (m_c X σ_33 a) (4376 + 9 * t) t (σ_33.1 a 27).toInt) := (m_oz.mono lpσ_27 (by omega) (by omega) (fun h => by have en : (σ_33.1 a 27).toInt = (σ_27.1 a 27).toInt := (by omega); rw [en]; exact m_lp.done h (fun j hj => by rw [mcσ_33 j hj, iz_13]) (by omega) (by omega) (by omega)))
                    clear mv9_σ_33 mv12_σ_33 mv14_σ_33 mv15_σ_33 mv16_σ_33 mv27_σ_33 smσ_27 oxσ_27 nrσ_27
                    rewrite [hQQ]; exact q_retv E hr hlk hI ⟨klσ_33, (by first | exact smσ_33 | omega), (by first | exact smσ_33 | omega), (by first | exact smσ_33 | omega), fiσ_33, (hF.trans hout), fr_σ_33⟩ dX12_readStep_204
                  · skip
                    replace hF := q_ifn hF c_30
                    refine lv_aload_n hx hb dX12_readStep_172 rfl (lv_at hl 0 rfl) ?_
                    refine lv_aload_n hx hb dX12_readStep_173 rfl (lv_at hl 0 rfl) ?_
                    refine q_ci (q_runV (As := []) (rest := [.ref a]) E (hml.trans hl.1.symm) hI (c_X12_isEnd l X σ_27 a ha) kv_X12_181 ha ⟨rfl, by decide⟩ (show vwCl[11]? = some (RX12, TX12, 46) from rfl) rfl ⟨Nat.le_of_ble_eq_true rfl, Nat.le_of_ble_eq_true rfl⟩ ⟨Nat.le_refl _, Nat.le_refl _⟩ rfl (Nat.le_of_ble_eq_true rfl) dX12_readStep_174) hI (by decide) (fun r_34 σ_35 H locs hpσ_35 hkσ_35 hI => ?_)
                    obtain ⟨ahpσ_35, bhpσ_35, chpσ_35⟩ := hpσ_35
                    rw [ahpσ_35] at hI
                    replace hF := q_letX hF chpσ_35
                    refine q_cv (q_runV (As := [.int r_34]) (rest := []) E (hml.trans hl.1.symm) hI (c_X12_must l X σ_27 a r_34 ha (by first | exact sm_9 smσ_27 | exact hs | omega) (by omega)) kv_X12_216 ha ⟨rfl, by decide⟩ (show vwCl[11]? = some (RX12, TX12, 46) from rfl) rfl ⟨Nat.le_of_ble_eq_true rfl, Nat.le_of_ble_eq_true rfl⟩ ⟨Nat.le_refl _, Nat.le_refl _⟩ rfl (Nat.le_of_ble_eq_true rfl) dX12_readStep_177) hI (by decide) (fun σ_37 H locs hpσ_37 hkσ_37 hI => ?_)
                    obtain ⟨ahpσ_37, bhpσ_37, chpσ_37, dhpσ_37, ehpσ_37⟩ := hpσ_37
                    have fr_σ_37 := fr_σ_27.call ehpσ_37 rfl rfl
                    replace hF := q_letX hF dhpσ_37
                    have mv27_σ_37 : (σ_37.1 a 27).toInt = (σ_27.1 a 27).toInt := congrArg Int32.toInt (ahpσ_37 a 27 (q_cl9 _ _) (fun h => absurd h.2.2 (by decide)))
                    have mcσ_37 := m_cK hkσ_37 hI.1 ha (by decide)
                    have klσ_37 : ∀ j, 0 ≤ j → j < 4376 + 9 * (σ.1 a 27).toInt → m_c X σ_37 a j = m_c X σ a j := fun j h0 h1 => (mcσ_37 j).trans (klσ_27 j h0 h1)
                    have smσ_37 : 0 ≤ (σ_37.1 a 15).toInt ∧ (σ_37.1 a 15).toInt ≤ (σ_37.1 a 16).toInt ∧ (σ_37.1 a 16).toInt ≤ (σ_37.1 a 9).toInt ∧ (σ_37.1 a 9).toInt ≤ 900 ∧ 0 ≤ (σ_37.1 a 14).toInt ∧ (σ_37.1 a 14).toInt ≤ 4 ∧ (σ_37.1 a 14).toInt ≤ 4 * ((σ_37.1 a 16).toInt - (σ_37.1 a 15).toInt) ∧ (σ_37.1 a 14).toInt ≤ 4 * ((σ_37.1 a 9).toInt - (σ_37.1 a 15).toInt) ∧ 0 ≤ (σ_37.1 a 12).toInt ∧ (σ_37.1 a 9).toInt = (σ.1 a 9).toInt ∧ (σ.1 a 15).toInt ≤ (σ_37.1 a 15).toInt ∧ (σ.1 a 12).toInt ≤ (σ_37.1 a 12).toInt := (by first | exact sm_tr smσ_27 bhpσ_37 | exact sm_tr smσ_27 chpσ_37 | omega)
                    have oxσ_37 : (σ.1 a 15).toInt + 1 ≤ (σ_37.1 a 15).toInt := (by omega)
                    have nrσ_37 : (σ.1 a 27).toInt + 1 ≤ (σ_37.1 a 27).toInt ∧ (σ_37.1 a 27).toInt ≤ 30 := (by omega)
                    have lpσ_37 : m_oz (σ_37.1 a 12).toInt (m_lp (m_c X σ_37 a) z_13.toInt (σ.1 a 27).toInt (σ_37.1 a 27).toInt) := (m_oz.mono lpσ_27 (by omega) (by omega) (fun h => m_lp.ext h (fun j => mcσ_37 j) (by omega)))
                    clear mv27_σ_37 smσ_27 oxσ_27 nrσ_27 bhpσ_37
                    refine lv_aload_n hx hb dX12_readStep_180 rfl (lv_at hl 0 rfl) ?_
                    refine lv_aload_n hx hb dX12_readStep_181 rfl (lv_at hl 0 rfl) ?_
                    refine lv_bipush (v := 59) hx hb dX12_readStep_182 (by decide) ?_
                    have kc_38 : (59 : Int32).toInt = 59 := rfl
                    refine q_ci (q_runV (As := [.int 59]) (rest := [.ref a]) E (hml.trans hl.1.symm) hI (c_X12_isSign l X σ_37 a (59 : Int32) ha) kv_X12_243 ha ⟨rfl, by decide⟩ (show vwCl[11]? = some (RX12, TX12, 46) from rfl) rfl ⟨Nat.le_of_ble_eq_true rfl, Nat.le_of_ble_eq_true rfl⟩ ⟨Nat.le_refl _, Nat.le_refl _⟩ rfl (Nat.le_of_ble_eq_true rfl) dX12_readStep_184) hI (by decide) (fun r_39 σ_40 H locs hpσ_40 hkσ_40 hI => ?_)
                    obtain ⟨ahpσ_40, bhpσ_40, chpσ_40⟩ := hpσ_40
                    rw [ahpσ_40] at hI
                    replace hF := q_letX hF chpσ_40
                    refine q_cv (q_runV (As := [.int r_39]) (rest := []) E (hml.trans hl.1.symm) hI (c_X12_must l X σ_37 a r_39 ha (by first | exact sm_9 smσ_37 | exact hs | omega) (by omega)) kv_X12_216 ha ⟨rfl, by decide⟩ (show vwCl[11]? = some (RX12, TX12, 46) from rfl) rfl ⟨Nat.le_of_ble_eq_true rfl, Nat.le_of_ble_eq_true rfl⟩ ⟨Nat.le_refl _, Nat.le_refl _⟩ rfl (Nat.le_of_ble_eq_true rfl) dX12_readStep_187) hI (by decide) (fun σ_42 H locs hpσ_42 hkσ_42 hI => ?_)
                    obtain ⟨ahpσ_42, bhpσ_42, chpσ_42, dhpσ_42, ehpσ_42⟩ := hpσ_42
                    have fr_σ_42 := fr_σ_37.call ehpσ_42 rfl rfl
                    replace hF := q_letX hF dhpσ_42
                    have mv27_σ_42 : (σ_42.1 a 27).toInt = (σ_37.1 a 27).toInt := congrArg Int32.toInt (ahpσ_42 a 27 (q_cl9 _ _) (fun h => absurd h.2.2 (by decide)))
                    have mcσ_42 := m_cK hkσ_42 hI.1 ha (by decide)
                    have klσ_42 : ∀ j, 0 ≤ j → j < 4376 + 9 * (σ.1 a 27).toInt → m_c X σ_42 a j = m_c X σ a j := fun j h0 h1 => (mcσ_42 j).trans (klσ_37 j h0 h1)
                    have smσ_42 : 0 ≤ (σ_42.1 a 15).toInt ∧ (σ_42.1 a 15).toInt ≤ (σ_42.1 a 16).toInt ∧ (σ_42.1 a 16).toInt ≤ (σ_42.1 a 9).toInt ∧ (σ_42.1 a 9).toInt ≤ 900 ∧ 0 ≤ (σ_42.1 a 14).toInt ∧ (σ_42.1 a 14).toInt ≤ 4 ∧ (σ_42.1 a 14).toInt ≤ 4 * ((σ_42.1 a 16).toInt - (σ_42.1 a 15).toInt) ∧ (σ_42.1 a 14).toInt ≤ 4 * ((σ_42.1 a 9).toInt - (σ_42.1 a 15).toInt) ∧ 0 ≤ (σ_42.1 a 12).toInt ∧ (σ_42.1 a 9).toInt = (σ.1 a 9).toInt ∧ (σ.1 a 15).toInt ≤ (σ_42.1 a 15).toInt ∧ (σ.1 a 12).toInt ≤ (σ_42.1 a 12).toInt := (by first | exact sm_tr smσ_37 bhpσ_42 | exact sm_tr smσ_37 chpσ_42 | omega)
                    have oxσ_42 : (σ.1 a 15).toInt + 1 ≤ (σ_42.1 a 15).toInt := (by omega)
                    have nrσ_42 : (σ.1 a 27).toInt + 1 ≤ (σ_42.1 a 27).toInt ∧ (σ_42.1 a 27).toInt ≤ 30 := (by omega)
                    have lpσ_42 : m_oz (σ_42.1 a 12).toInt (m_lp (m_c X σ_42 a) z_13.toInt (σ.1 a 27).toInt (σ_42.1 a 27).toInt) := (m_oz.mono lpσ_37 (by omega) (by omega) (fun h => m_lp.ext h (fun j => mcσ_42 j) (by omega)))
                    clear mv27_σ_42 smσ_37 oxσ_37 nrσ_37 bhpσ_42
                    refine lv_aload_n hx hb dX12_readStep_190 rfl (lv_at hl 0 rfl) ?_
                    refine gs_X12_35_12 E hI ha dX12_readStep_191 ?_
                    refine lv_iload hx hb dX12_readStep_194 (lv_at hl 4 rfl) ?_
                    refine lv_bipush (v := 8) hx hb dX12_readStep_196 (by decide) ?_
                    refine lv_iadd hx hb dX12_readStep_198 ?_
                    refine lv_topi (fun z_43 ez_43 => ?_)
                    replace hF := q_letX hF ez_43
                    have iz_43 := q_addI (A := (4376 + (9 * f_11.toInt))) (B := 8) ez_43 iz_13 (by decide) (by omega) (by omega)
                    refine lv_aload_n hx hb dX12_readStep_199 rfl (lv_at hl 0 rfl) ?_
                    refine gs_X12_267_12 E hI ha dX12_readStep_200 ?_
                    refine lv_topi (fun f_44 ef_44 => ?_)
                    replace hF := q_letX hF ef_44
                    have if_44 : f_44.toInt = (σ_42.1 a 27).toInt := congrArg Int32.toInt ef_44
                    refine q_iastN E hI (q_tk (k' := 34) hI ha rfl (by decide)) ⟨by decide, rfl⟩ (by omega) (by rw [q_lnk (v := 4650) hI (q_tk (k' := 34) hI ha rfl (by decide)) rfl (by decide)]; omega) (show 1 < 2 by decide) (q_inU rfl) dX12_readStep_203 (fun H locs σ_45 hσ_45 hI => ?_)
                    replace hF := q_letX hF hσ_45
                    have fr_σ_45 := fr_σ_42.si hσ_45 (q_tk (k' := 34) hI ha rfl (by decide)) rfl
                    have mv9_σ_45 : (σ_45.1 a 9).toInt = (σ_42.1 a 9).toInt := congrArg Int32.toInt (q_rdn hσ_45 (Or.inl (m_ne ha (q_tk (k' := 34) hI ha rfl (by decide)) (by decide))))
                    have mv12_σ_45 : (σ_45.1 a 12).toInt = (σ_42.1 a 12).toInt := congrArg Int32.toInt (q_rdn hσ_45 (Or.inl (m_ne ha (q_tk (k' := 34) hI ha rfl (by decide)) (by decide))))
                    have mv14_σ_45 : (σ_45.1 a 14).toInt = (σ_42.1 a 14).toInt := congrArg Int32.toInt (q_rdn hσ_45 (Or.inl (m_ne ha (q_tk (k' := 34) hI ha rfl (by decide)) (by decide))))
                    have mv15_σ_45 : (σ_45.1 a 15).toInt = (σ_42.1 a 15).toInt := congrArg Int32.toInt (q_rdn hσ_45 (Or.inl (m_ne ha (q_tk (k' := 34) hI ha rfl (by decide)) (by decide))))
                    have mv16_σ_45 : (σ_45.1 a 16).toInt = (σ_42.1 a 16).toInt := congrArg Int32.toInt (q_rdn hσ_45 (Or.inl (m_ne ha (q_tk (k' := 34) hI ha rfl (by decide)) (by decide))))
                    have mv27_σ_45 : (σ_45.1 a 27).toInt = (σ_42.1 a 27).toInt := congrArg Int32.toInt (q_rdn hσ_45 (Or.inl (m_ne ha (q_tk (k' := 34) hI ha rfl (by decide)) (by decide))))
                    have mcσ_45 := m_wr (v := f_44) (A := ((4376 + (9 * f_11.toInt)) + 8)) hσ_45 iz_43 (by omega)
                    have klσ_45 : ∀ j, 0 ≤ j → j < 4376 + 9 * (σ.1 a 27).toInt → m_c X σ_45 a j = m_c X σ a j := fun j h0 h1 => by rw [mcσ_45 j h0, if_neg (by omega)]; exact klσ_42 j h0 h1
                    have smσ_45 : 0 ≤ (σ_45.1 a 15).toInt ∧ (σ_45.1 a 15).toInt ≤ (σ_45.1 a 16).toInt ∧ (σ_45.1 a 16).toInt ≤ (σ_45.1 a 9).toInt ∧ (σ_45.1 a 9).toInt ≤ 900 ∧ 0 ≤ (σ_45.1 a 14).toInt ∧ (σ_45.1 a 14).toInt ≤ 4 ∧ (σ_45.1 a 14).toInt ≤ 4 * ((σ_45.1 a 16).toInt - (σ_45.1 a 15).toInt) ∧ (σ_45.1 a 14).toInt ≤ 4 * ((σ_45.1 a 9).toInt - (σ_45.1 a 15).toInt) ∧ 0 ≤ (σ_45.1 a 12).toInt ∧ (σ_45.1 a 9).toInt = (σ.1 a 9).toInt ∧ (σ.1 a 15).toInt ≤ (σ_45.1 a 15).toInt ∧ (σ.1 a 12).toInt ≤ (σ_45.1 a 12).toInt := (by first | (rw [mv12_σ_45, mv14_σ_45, mv15_σ_45, mv16_σ_45, mv9_σ_45]; exact smσ_42) | omega)
                    have oxσ_45 : (σ.1 a 15).toInt + 1 ≤ (σ_45.1 a 15).toInt := (by omega)
                    have nrσ_45 : (σ.1 a 27).toInt + 1 ≤ (σ_45.1 a 27).toInt ∧ (σ_45.1 a 27).toInt ≤ 30 := (by omega)
                    have fiσ_45 : m_oz (σ_45.1 a 12).toInt (∀ t, (σ.1 a 27).toInt ≤ t → t < (σ_45.1 a 27).toInt → m_stp (m_c X σ_45 a) (4376 + 9 * t) t (σ_45.1 a 27).toInt) := (m_oz.mono lpσ_42 (by omega) (by omega) (fun h => by have en : (σ_45.1 a 27).toInt = (σ_42.1 a 27).toInt := (by omega); rw [en]; exact m_lp.done h (fun j hj => by rw [mcσ_45 j hj, iz_13]) (by omega) (by omega) (by omega)))
                    clear mv9_σ_45 mv12_σ_45 mv14_σ_45 mv15_σ_45 mv16_σ_45 mv27_σ_45 smσ_42 oxσ_42 nrσ_42
                    rewrite [hQQ]; exact q_retv E hr hlk hI ⟨klσ_45, (by first | exact smσ_45 | omega), (by first | exact smσ_45 | omega), (by first | exact smσ_45 | omega), fiσ_45, (hF.trans hout), fr_σ_45⟩ dX12_readStep_204
                · skip
                  replace hF := q_ifn hF c_29
                  exact absurd c_29 (by omega)
            exact L_140_28 ((901 - (σ_26.1 a 15).toInt).toNat + (1 - (σ_26.1 a 12).toInt).toNat + 1) σ_26 _ _ ls (Nat.lt_succ_self _) (by omega) (m_oz.mono rrσ_26 (by omega) (Int.le_refl _) (fun h => m_lp.mk h (by rw [cwσ_26]; omega) (by omega))) fr_σ_26 klσ_26 smσ_26 oxσ_26 hF hI (lv_sub hl [1, 2, 3, 4, 0] rfl)
          · skip
            replace hF := q_ifp hF c_10
            rewrite [hQQ]; exact q_retv E hr hlk hI ⟨klσ_8, (by first | exact smσ_8 | omega), (by first | exact smσ_8 | omega), (by first | exact smσ_8 | omega), (fun e => absurd e (by first | exact smσ_8 | omega)), (hF.trans hout), fr_σ_8⟩ dX12_readStep_88
        refine q_if_ne (A := f_7.toInt) E rfl (tgt := 81) dX12_readStep_59 (by decide) (fun c_46 => ?_) (fun c_46 => ?_)
        · skip
          replace hF := q_ifn hF c_46
          exact J_81_8 σ_6 _ _ ls (by omega) fr_σ_6 klσ_6 smσ_6 beσ_6 nsσ_6 taσ_6 tbσ_6 hF hI (lv_sub hl [0, 1, 2, 3] rfl)
        · skip
          replace hF := q_ifp hF c_46
          refine lv_iload_n hx hb dX12_readStep_62 rfl (lv_at hl 3 rfl) ?_
          refine q_if_eq (A := x_3.toInt) E rfl (tgt := 81) dX12_readStep_63 (by decide) (fun c_47 => ?_) (fun c_47 => ?_)
          · skip
            replace hF := q_ifp hF c_47
            exact J_81_8 σ_6 _ _ ls (by omega) fr_σ_6 klσ_6 smσ_6 beσ_6 nsσ_6 taσ_6 tbσ_6 hF hI (lv_sub hl [0, 1, 2, 3] rfl)
          · skip
            replace hF := q_ifn hF c_47
            refine lv_iload_n hx hb dX12_readStep_66 rfl (lv_at hl 1 rfl) ?_
            refine lv_iconst (v := 3) hx hb dX12_readStep_67 (by decide) ?_
            have gc_48_v1 := q_rng v1
            refine q_icmp_ne (A := v1.toInt) (B := 3) E rfl (by decide) (tgt := 81) dX12_readStep_68 (by decide) (fun c_48 => ?_) (fun c_48 => ?_)
            · skip
              replace hF := q_ifn hF c_48
              exact J_81_8 σ_6 _ _ ls (by omega) fr_σ_6 klσ_6 smσ_6 beσ_6 nsσ_6 taσ_6 tbσ_6 hF hI (lv_sub hl [0, 1, 2, 3] rfl)
            · skip
              replace hF := q_ifp hF c_48
              refine lv_aload_n hx hb dX12_readStep_71 rfl (lv_at hl 0 rfl) ?_
              refine lv_bipush (v := 7) hx hb dX12_readStep_72 (by decide) ?_
              refine lv_aload_n hx hb dX12_readStep_74 rfl (lv_at hl 0 rfl) ?_
              refine gs_X12_104_12 E hI ha dX12_readStep_75 ?_
              refine lv_topi (fun f_49 ef_49 => ?_)
              replace hF := q_letX hF ef_49
              have if_49 : f_49.toInt = (σ_6.1 a 15).toInt := congrArg Int32.toInt ef_49
              have kc_50 : (7 : Int32).toInt = 7 := rfl
              refine q_cv (q_runV (As := [.int 7, .int f_49]) (rest := []) E (hml.trans hl.1.symm) hI (c_X12_fail l X σ_6 a (7 : Int32) f_49 ha (by omega) (by omega)) kv_X12_193 ha ⟨rfl, by decide⟩ (show vwCl[11]? = some (RX12, TX12, 46) from rfl) rfl ⟨Nat.le_of_ble_eq_true rfl, Nat.le_of_ble_eq_true rfl⟩ ⟨Nat.le_refl _, Nat.le_refl _⟩ rfl (Nat.le_of_ble_eq_true rfl) dX12_readStep_78) hI (by decide) (fun σ_52 H locs hpσ_52 hkσ_52 hI => ?_)
              obtain ⟨ahpσ_52, bhpσ_52, chpσ_52, dhpσ_52, ehpσ_52⟩ := hpσ_52
              have fr_σ_52 := fr_σ_6.call ehpσ_52 rfl rfl
              replace hF := q_letX hF dhpσ_52
              have mv27_σ_52 : (σ_52.1 a 27).toInt = (σ_6.1 a 27).toInt := congrArg Int32.toInt (ahpσ_52 a 27 (q_cl9 _ _) (fun h => absurd h.2.2 (by decide)))
              have mcσ_52 := m_cK hkσ_52 hI.1 ha (by decide)
              have klσ_52 : ∀ j, 0 ≤ j → j < 4376 + 9 * (σ.1 a 27).toInt → m_c X σ_52 a j = m_c X σ a j := fun j h0 h1 => (mcσ_52 j).trans (klσ_6 j h0 h1)
              have smσ_52 : 0 ≤ (σ_52.1 a 15).toInt ∧ (σ_52.1 a 15).toInt ≤ (σ_52.1 a 16).toInt ∧ (σ_52.1 a 16).toInt ≤ (σ_52.1 a 9).toInt ∧ (σ_52.1 a 9).toInt ≤ 900 ∧ 0 ≤ (σ_52.1 a 14).toInt ∧ (σ_52.1 a 14).toInt ≤ 4 ∧ (σ_52.1 a 14).toInt ≤ 4 * ((σ_52.1 a 16).toInt - (σ_52.1 a 15).toInt) ∧ (σ_52.1 a 14).toInt ≤ 4 * ((σ_52.1 a 9).toInt - (σ_52.1 a 15).toInt) ∧ 0 ≤ (σ_52.1 a 12).toInt ∧ (σ_52.1 a 9).toInt = (σ.1 a 9).toInt ∧ (σ.1 a 15).toInt ≤ (σ_52.1 a 15).toInt ∧ (σ.1 a 12).toInt ≤ (σ_52.1 a 12).toInt := (by first | exact sm_fl smσ_6 bhpσ_52 chpσ_52 | omega)
              have beσ_52 : (σ_52.1 a 16).toInt = (σ.1 a 16).toInt := (by omega)
              have nsσ_52 : (σ_52.1 a 27).toInt = (σ.1 a 27).toInt := (by omega)
              have taσ_52 : 0 ≤ r_1.toInt + (σ_52.1 a 12).toInt := (by omega)
              have tbσ_52 : (σ.1 a 27).toInt ≤ 29 + (σ_52.1 a 12).toInt := (by omega)
              clear mv27_σ_52 smσ_6 beσ_6 nsσ_6 taσ_6 tbσ_6 bhpσ_52
              exact J_81_8 σ_52 _ _ ls (by omega) fr_σ_52 klσ_52 smσ_52 beσ_52 nsσ_52 taσ_52 tbσ_52 hF hI (lv_sub hl [0, 1, 2, 3] rfl)
      refine q_if_ne (A := f_5.toInt) E rfl (tgt := 55) dX12_readStep_33 (by decide) (fun c_53 => ?_) (fun c_53 => ?_)
      · skip
        replace hF := q_ifn hF c_53
        exact J_55_6 σ_4 _ _ ls (by omega) fr_σ_4 klσ_4 smσ_4 beσ_4 nsσ_4 taσ_4 hF hI (lv_sub hl [0, 1, 2, 3] rfl)
      · skip
        replace hF := q_ifp hF c_53
        refine lv_aload_n hx hb dX12_readStep_36 rfl (lv_at hl 0 rfl) ?_
        refine gs_X12_267_12 E hI ha dX12_readStep_37 ?_
        refine lv_topi (fun f_54 ef_54 => ?_)
        replace hF := q_letX hF ef_54
        have if_54 : f_54.toInt = (σ_4.1 a 27).toInt := congrArg Int32.toInt ef_54
        refine lv_bipush (v := 30) hx hb dX12_readStep_40 (by decide) ?_
        have gc_55_f_54 := q_rng f_54
        refine q_icmp_ne (A := f_54.toInt) (B := 30) E rfl (by decide) (tgt := 55) dX12_readStep_42 (by decide) (fun c_55 => ?_) (fun c_55 => ?_)
        · skip
          replace hF := q_ifn hF c_55
          exact J_55_6 σ_4 _ _ ls (by omega) fr_σ_4 klσ_4 smσ_4 beσ_4 nsσ_4 taσ_4 hF hI (lv_sub hl [0, 1, 2, 3] rfl)
        · skip
          replace hF := q_ifp hF c_55
          refine lv_aload_n hx hb dX12_readStep_45 rfl (lv_at hl 0 rfl) ?_
          refine lv_bipush (v := 6) hx hb dX12_readStep_46 (by decide) ?_
          refine lv_aload_n hx hb dX12_readStep_48 rfl (lv_at hl 0 rfl) ?_
          refine gs_X12_104_12 E hI ha dX12_readStep_49 ?_
          refine lv_topi (fun f_56 ef_56 => ?_)
          replace hF := q_letX hF ef_56
          have if_56 : f_56.toInt = (σ_4.1 a 15).toInt := congrArg Int32.toInt ef_56
          have kc_57 : (6 : Int32).toInt = 6 := rfl
          refine q_cv (q_runV (As := [.int 6, .int f_56]) (rest := []) E (hml.trans hl.1.symm) hI (c_X12_fail l X σ_4 a (6 : Int32) f_56 ha (by omega) (by omega)) kv_X12_193 ha ⟨rfl, by decide⟩ (show vwCl[11]? = some (RX12, TX12, 46) from rfl) rfl ⟨Nat.le_of_ble_eq_true rfl, Nat.le_of_ble_eq_true rfl⟩ ⟨Nat.le_refl _, Nat.le_refl _⟩ rfl (Nat.le_of_ble_eq_true rfl) dX12_readStep_52) hI (by decide) (fun σ_59 H locs hpσ_59 hkσ_59 hI => ?_)
          obtain ⟨ahpσ_59, bhpσ_59, chpσ_59, dhpσ_59, ehpσ_59⟩ := hpσ_59
          have fr_σ_59 := fr_σ_4.call ehpσ_59 rfl rfl
          replace hF := q_letX hF dhpσ_59
          have mv27_σ_59 : (σ_59.1 a 27).toInt = (σ_4.1 a 27).toInt := congrArg Int32.toInt (ahpσ_59 a 27 (q_cl9 _ _) (fun h => absurd h.2.2 (by decide)))
          have mcσ_59 := m_cK hkσ_59 hI.1 ha (by decide)
          have klσ_59 : ∀ j, 0 ≤ j → j < 4376 + 9 * (σ.1 a 27).toInt → m_c X σ_59 a j = m_c X σ a j := fun j h0 h1 => (mcσ_59 j).trans (klσ_4 j h0 h1)
          have smσ_59 : 0 ≤ (σ_59.1 a 15).toInt ∧ (σ_59.1 a 15).toInt ≤ (σ_59.1 a 16).toInt ∧ (σ_59.1 a 16).toInt ≤ (σ_59.1 a 9).toInt ∧ (σ_59.1 a 9).toInt ≤ 900 ∧ 0 ≤ (σ_59.1 a 14).toInt ∧ (σ_59.1 a 14).toInt ≤ 4 ∧ (σ_59.1 a 14).toInt ≤ 4 * ((σ_59.1 a 16).toInt - (σ_59.1 a 15).toInt) ∧ (σ_59.1 a 14).toInt ≤ 4 * ((σ_59.1 a 9).toInt - (σ_59.1 a 15).toInt) ∧ 0 ≤ (σ_59.1 a 12).toInt ∧ (σ_59.1 a 9).toInt = (σ.1 a 9).toInt ∧ (σ.1 a 15).toInt ≤ (σ_59.1 a 15).toInt ∧ (σ.1 a 12).toInt ≤ (σ_59.1 a 12).toInt := (by first | exact sm_fl smσ_4 bhpσ_59 chpσ_59 | omega)
          have beσ_59 : (σ_59.1 a 16).toInt = (σ.1 a 16).toInt := (by omega)
          have nsσ_59 : (σ_59.1 a 27).toInt = (σ.1 a 27).toInt := (by omega)
          have taσ_59 : 0 ≤ r_1.toInt + (σ_59.1 a 12).toInt := (by omega)
          clear mv27_σ_59 smσ_4 beσ_4 nsσ_4 taσ_4 bhpσ_59
          exact J_55_6 σ_59 _ _ ls (by omega) fr_σ_59 klσ_59 smσ_59 beσ_59 nsσ_59 taσ_59 hF hI (lv_sub hl [0, 1, 2, 3] rfl)
    refine q_if_ge (A := r_1.toInt) E rfl (tgt := 29) dX12_readStep_22 (by decide) (fun c_60 => ?_) (fun c_60 => ?_)
    · skip
      replace hF := q_ifn hF (Int.not_lt.mpr c_60)
      exact J_29_4 σ _ _ ls (by omega) fr_σ klσ smσ beσ nsσ hF hI (lv_sub hl [1, 2, 3, 0] rfl)
    · skip
      replace hF := q_ifp hF c_60
      refine lv_aload_n hx hb dX12_readStep_25 rfl (lv_at hl 1 rfl) ?_
      refine q_cv (q_runV (As := []) (rest := []) E (hml.trans hl.1.symm) hI (c_X12_wrong l X σ a ha (by omega)) kv_X12_200 ha ⟨rfl, by decide⟩ (show vwCl[11]? = some (RX12, TX12, 46) from rfl) rfl ⟨Nat.le_of_ble_eq_true rfl, Nat.le_of_ble_eq_true rfl⟩ ⟨Nat.le_refl _, Nat.le_refl _⟩ rfl (Nat.le_of_ble_eq_true rfl) dX12_readStep_26) hI (by decide) (fun σ_62 H locs hpσ_62 hkσ_62 hI => ?_)
      obtain ⟨ahpσ_62, bhpσ_62, chpσ_62, dhpσ_62, ehpσ_62⟩ := hpσ_62
      have fr_σ_62 := fr_σ.call ehpσ_62 rfl rfl
      replace hF := q_letX hF dhpσ_62
      have mv27_σ_62 : (σ_62.1 a 27).toInt = (σ.1 a 27).toInt := congrArg Int32.toInt (ahpσ_62 a 27 (q_cl9 _ _) (fun h => absurd h.2.2 (by decide)))
      have mcσ_62 := m_cK hkσ_62 hI.1 ha (by decide)
      have klσ_62 : ∀ j, 0 ≤ j → j < 4376 + 9 * (σ.1 a 27).toInt → m_c X σ_62 a j = m_c X σ a j := fun j h0 h1 => (mcσ_62 j).trans (klσ j h0 h1)
      have smσ_62 : 0 ≤ (σ_62.1 a 15).toInt ∧ (σ_62.1 a 15).toInt ≤ (σ_62.1 a 16).toInt ∧ (σ_62.1 a 16).toInt ≤ (σ_62.1 a 9).toInt ∧ (σ_62.1 a 9).toInt ≤ 900 ∧ 0 ≤ (σ_62.1 a 14).toInt ∧ (σ_62.1 a 14).toInt ≤ 4 ∧ (σ_62.1 a 14).toInt ≤ 4 * ((σ_62.1 a 16).toInt - (σ_62.1 a 15).toInt) ∧ (σ_62.1 a 14).toInt ≤ 4 * ((σ_62.1 a 9).toInt - (σ_62.1 a 15).toInt) ∧ 0 ≤ (σ_62.1 a 12).toInt ∧ (σ_62.1 a 9).toInt = (σ.1 a 9).toInt ∧ (σ.1 a 15).toInt ≤ (σ_62.1 a 15).toInt ∧ (σ.1 a 12).toInt ≤ (σ_62.1 a 12).toInt := (by first | exact sm_fl smσ bhpσ_62 chpσ_62 | omega)
      have beσ_62 : (σ_62.1 a 16).toInt = (σ.1 a 16).toInt := (by omega)
      have nsσ_62 : (σ_62.1 a 27).toInt = (σ.1 a 27).toInt := (by omega)
      clear mv27_σ_62 smσ beσ nsσ bhpσ_62
      exact J_29_4 σ_62 _ _ ls (by omega) fr_σ_62 klσ_62 smσ_62 beσ_62 nsσ_62 hF hI (lv_sub hl [1, 2, 3, 0] rfl)
  have gc_63_r_1 := q_rng r_1
  refine q_icmp_eq (A := r_1.toInt) (B := 3) E rfl (by decide) (tgt := 15) dX12_readStep_7 (by decide) (fun c_63 => ?_) (fun c_63 => ?_)
  · skip
    replace hF := q_ifp hF c_63
    refine lv_iconst (v := 1) hx hb dX12_readStep_15 (by decide) ?_
    refine lv_goto (tgt := 20) hx hb dX12_readStep_16 (by decide) ?_
    have kc_64 : (1 : Int32).toInt = 1 := rfl
    exact J_20_3 1 _ _ ls (by omega) hF hI (lv_sub hl [1, 2, 0] rfl)
  · skip
    replace hF := q_ifn hF c_63
    refine lv_iload_n hx hb dX12_readStep_10 rfl (lv_at hl 0 rfl) ?_
    refine lv_iconst (v := 4) hx hb dX12_readStep_11 (by decide) ?_
    have gc_65_r_1 := q_rng r_1
    refine q_icmp_ne (A := r_1.toInt) (B := 4) E rfl (by decide) (tgt := 19) dX12_readStep_12 (by decide) (fun c_65 => ?_) (fun c_65 => ?_)
    · skip
      replace hF := q_ifn hF c_65
      refine lv_iconst (v := 0) hx hb dX12_readStep_19 (by decide) ?_
      have kc_66 : (0 : Int32).toInt = 0 := rfl
      exact J_20_3 0 _ _ ls (by omega) hF hI (lv_sub hl [1, 2, 0] rfl)
    · skip
      replace hF := q_ifp hF c_65
      refine lv_iconst (v := 1) hx hb dX12_readStep_15 (by decide) ?_
      refine lv_goto (tgt := 20) hx hb dX12_readStep_16 (by decide) ?_
      have kc_67 : (1 : Int32).toInt = 1 := rfl
      exact J_20_3 1 _ _ ls (by omega) hF hI (lv_sub hl [1, 2, 0] rfl)
end
