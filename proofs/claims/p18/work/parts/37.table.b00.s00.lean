section
set_option maxRecDepth 100000 in
set_option maxHeartbeats 4000000 in
theorem c_X12_opens (l : Launch) (X : XW) (σ : ST) (a : Nat) (v1 : Int32) (v2 : Int32) (ha : q_kd X a = 12) (h0 : v2.toInt ≤ 900) : Met l yX12_opens (q_ws yX12_opens cX12_opens 3 (some .boolean)) (q_rm 2 42) (q_P X σ [.ref a, .int v1, .int v2]) (q_Qi X 0 σ (fun (r : Int32) (σ' : ST) => (0 ≤ r.toInt ∧ r.toInt ≤ 1) ∧ (q_KS (fun b g => b = a ∧ 8 ≤ g ∧ g ≤ 18) 8 X σ σ') ∧ (r.toInt = 1 → (0 ≤ (σ'.1 a 15).toInt ∧ (σ'.1 a 15).toInt ≤ (σ'.1 a 16).toInt ∧ (σ'.1 a 16).toInt ≤ (σ'.1 a 9).toInt ∧ (σ'.1 a 9).toInt ≤ 900 ∧ 0 ≤ (σ'.1 a 14).toInt ∧ (σ'.1 a 14).toInt ≤ 4 ∧ (σ'.1 a 14).toInt ≤ 4 * ((σ'.1 a 16).toInt - (σ'.1 a 15).toInt) ∧ (σ'.1 a 14).toInt ≤ 4 * ((σ'.1 a 9).toInt - (σ'.1 a 15).toInt) ∧ 0 ≤ (σ'.1 a 12).toInt ∧ (σ'.1 a 12).toInt = 0 ∧ (σ'.1 a 8).toInt = 0 ∧ 0 ≤ v1.toInt ∧ v1.toInt ≤ (σ.1 a 8).toInt ∧ v1.toInt ≤ v2.toInt)) ∧ (r.toInt = 0 → ((σ'.1 a 8).toInt = (σ.1 a 8).toInt ∧ (v1.toInt < 0 ∨ (σ.1 a 8).toInt < v1.toInt ∨ v2.toInt < v1.toInt))) ∧ (∀ j, m_c X σ' a j = m_c X σ a j) ∧ (r, σ') = F_X12_opens X σ a v1 v2 ∧ q_ow [(12, 0), (12, 8), (12, 9), (12, 12), (12, 14), (12, 15), (12, 16), (12, 17), (12, 18)] [(12, 19)] X σ σ')) 0 0 (q_reg X) := by
  refine q_met 0 (by first | exact rfl | decide +kernel) rfl (Nat.le_of_ble_eq_true rfl) (fun p e s m below meth c E hml hr hlk hI ls hl => ?_)
  have hx := E.1
  have hb := E.2.1
  have hl : lv_has ls 3 [(0, .ref a), (1, .int v1), (2, .int v2)] := hl
  have ks_σ : q_KS (fun b g => b = a ∧ 8 ≤ g ∧ g ≤ 18) 8 X σ σ := q_KS.rf
  have kcσ : ∀ j, m_c X σ a j = m_c X σ a j := fun _ => rfl
  have fr_σ : q_ow [(12, 0), (12, 8), (12, 9), (12, 12), (12, 14), (12, 15), (12, 16), (12, 17), (12, 18)] [(12, 19)] X σ σ := q_ow.rf
  obtain ⟨out, hout⟩ : ∃ o, o = F_X12_opens X σ a v1 v2 := ⟨_, rfl⟩
  have hF := hout.symm
  unfold F_X12_opens at hF
  refine lv_iload_n hx hb dX12_opens_0 rfl (lv_at hl 1 rfl) ?_
  refine q_if_lt (A := v1.toInt) E rfl (tgt := 17) dX12_opens_1 (by decide) (fun c_1 => ?_) (fun c_1 => ?_)
  · skip
    replace hF := q_ifp hF c_1
    refine lv_aload_n hx hb dX12_opens_17 rfl (lv_at hl 0 rfl) ?_
    refine lv_iconst (v := 5) hx hb dX12_opens_18 zki_5 ?_
    have kc_2 : (5 : Int32).toInt = 5 := zt_5
    refine q_ci (q_rV11_1 (rest := []) E (hml.trans hl.1.symm) hI (c_X12_no l X σ a (5 : Int32) ha) kv_X12_74 ha ⟨Nat.le_of_ble_eq_true rfl, Nat.le_of_ble_eq_true rfl⟩ (Nat.le_of_ble_eq_true rfl) dX12_opens_19) hI (Nat.le_of_ble_eq_true rfl) (fun r_3 σ_4 H locs hpσ_4 hkσ_4 hI => ?_)
    have ahpσ_4 := hpσ_4.1
    have bhpσ_4 := hpσ_4.2.1
    have chpσ_4 := hpσ_4.2.2.1
    have dhpσ_4 := hpσ_4.2.2.2
    clear hpσ_4
    have fr_σ_4 := fr_σ.call dhpσ_4 rfl rfl
    replace hF := q_biX hF chpσ_4
    have mv9_σ_4 : (σ_4.1 a 9).toInt = (σ.1 a 9).toInt := congrArg Int32.toInt ((q_K.le hkσ_4 (by decide) : q_K 8 X σ σ_4) a 9 (by rw [ha]; decide))
    have mv12_σ_4 : (σ_4.1 a 12).toInt = (σ.1 a 12).toInt := congrArg Int32.toInt ((q_K.le hkσ_4 (by decide) : q_K 8 X σ σ_4) a 12 (by rw [ha]; decide))
    have mv14_σ_4 : (σ_4.1 a 14).toInt = (σ.1 a 14).toInt := congrArg Int32.toInt ((q_K.le hkσ_4 (by decide) : q_K 8 X σ σ_4) a 14 (by rw [ha]; decide))
    have mv15_σ_4 : (σ_4.1 a 15).toInt = (σ.1 a 15).toInt := congrArg Int32.toInt ((q_K.le hkσ_4 (by decide) : q_K 8 X σ σ_4) a 15 (by rw [ha]; decide))
    have mv16_σ_4 : (σ_4.1 a 16).toInt = (σ.1 a 16).toInt := congrArg Int32.toInt ((q_K.le hkσ_4 (by decide) : q_K 8 X σ σ_4) a 16 (by rw [ha]; decide))
    have mv17_σ_4 : (σ_4.1 a 17).toInt = (σ.1 a 17).toInt := congrArg Int32.toInt ((q_K.le hkσ_4 (by decide) : q_K 8 X σ σ_4) a 17 (by rw [ha]; decide))
    have mv8_σ_4 : (σ_4.1 a 8).toInt = (σ.1 a 8).toInt := congrArg Int32.toInt ((q_K.le hkσ_4 (by decide) : q_K 8 X σ σ_4) a 8 (by rw [ha]; decide))
    have mcσ_4 := m_cK hkσ_4 hI.1 ha (by decide)
    have kcσ_4 : ∀ j, m_c X σ_4 a j = m_c X σ a j := fun j => (mcσ_4 j).trans (kcσ j)
    have ks_σ_4 : q_KS (fun b g => b = a ∧ 8 ≤ g ∧ g ≤ 18) 8 X σ σ_4 := ks_σ.K hkσ_4 (by decide)
    exact q_retz E hr hlk hI ⟨by omega, by omega⟩ ⟨⟨by omega, by omega⟩, ks_σ_4, (by first | (clear h0 kcσ c_1 kc_2 ahpσ_4 chpσ_4 dhpσ_4 mv9_σ_4 mv12_σ_4 mv14_σ_4 mv15_σ_4 mv16_σ_4 mv17_σ_4 mv8_σ_4 kcσ_4; omega) | omega), (by first | (clear h0 kcσ kc_2 ahpσ_4 bhpσ_4 chpσ_4 dhpσ_4 mv9_σ_4 mv12_σ_4 mv14_σ_4 mv15_σ_4 mv16_σ_4 mv17_σ_4 kcσ_4; omega) | omega), kcσ_4, (hF.trans hout), fr_σ_4⟩ dX12_opens_22
  · skip
    replace hF := q_ifn hF (Int.not_lt.mpr c_1)
    refine lv_iload_n hx hb dX12_opens_4 rfl (lv_at hl 1 rfl) ?_
    refine lv_aload_n hx hb dX12_opens_5 rfl (lv_at hl 0 rfl) ?_
    refine gs_X12_203_12 E hI ha dX12_opens_6 ?_
    refine lv_topi (fun f_5 ef_5 => ?_)
    replace hF := q_letX hF ef_5
    have if_5 : f_5.toInt = (σ.1 a 8).toInt := congrArg Int32.toInt ef_5
    have bf_5 : 0 ≤ f_5.toInt ∧ f_5.toInt ≤ 900 := by rw [ef_5]; exact q_bd hI ha rfl
    refine q_icmp_gt (A := v1.toInt) (B := f_5.toInt) E rfl rfl (tgt := 17) dX12_opens_9 (by decide) (fun c_6 => ?_) (fun c_6 => ?_)
    · skip
      replace hF := q_ifp hF c_6
      refine lv_aload_n hx hb dX12_opens_17 rfl (lv_at hl 0 rfl) ?_
      refine lv_iconst (v := 5) hx hb dX12_opens_18 zki_5 ?_
      have kc_7 : (5 : Int32).toInt = 5 := zt_5
      refine q_ci (q_rV11_1 (rest := []) E (hml.trans hl.1.symm) hI (c_X12_no l X σ a (5 : Int32) ha) kv_X12_74 ha ⟨Nat.le_of_ble_eq_true rfl, Nat.le_of_ble_eq_true rfl⟩ (Nat.le_of_ble_eq_true rfl) dX12_opens_19) hI (Nat.le_of_ble_eq_true rfl) (fun r_8 σ_9 H locs hpσ_9 hkσ_9 hI => ?_)
      have ahpσ_9 := hpσ_9.1
      have bhpσ_9 := hpσ_9.2.1
      have chpσ_9 := hpσ_9.2.2.1
      have dhpσ_9 := hpσ_9.2.2.2
      clear hpσ_9
      have fr_σ_9 := fr_σ.call dhpσ_9 rfl rfl
      replace hF := q_biX hF chpσ_9
      have mv9_σ_9 : (σ_9.1 a 9).toInt = (σ.1 a 9).toInt := congrArg Int32.toInt ((q_K.le hkσ_9 (by decide) : q_K 8 X σ σ_9) a 9 (by rw [ha]; decide))
      have mv12_σ_9 : (σ_9.1 a 12).toInt = (σ.1 a 12).toInt := congrArg Int32.toInt ((q_K.le hkσ_9 (by decide) : q_K 8 X σ σ_9) a 12 (by rw [ha]; decide))
      have mv14_σ_9 : (σ_9.1 a 14).toInt = (σ.1 a 14).toInt := congrArg Int32.toInt ((q_K.le hkσ_9 (by decide) : q_K 8 X σ σ_9) a 14 (by rw [ha]; decide))
      have mv15_σ_9 : (σ_9.1 a 15).toInt = (σ.1 a 15).toInt := congrArg Int32.toInt ((q_K.le hkσ_9 (by decide) : q_K 8 X σ σ_9) a 15 (by rw [ha]; decide))
      have mv16_σ_9 : (σ_9.1 a 16).toInt = (σ.1 a 16).toInt := congrArg Int32.toInt ((q_K.le hkσ_9 (by decide) : q_K 8 X σ σ_9) a 16 (by rw [ha]; decide))
      have mv17_σ_9 : (σ_9.1 a 17).toInt = (σ.1 a 17).toInt := congrArg Int32.toInt ((q_K.le hkσ_9 (by decide) : q_K 8 X σ σ_9) a 17 (by rw [ha]; decide))
      have mv8_σ_9 : (σ_9.1 a 8).toInt = (σ.1 a 8).toInt := congrArg Int32.toInt ((q_K.le hkσ_9 (by decide) : q_K 8 X σ σ_9) a 8 (by rw [ha]; decide))
      have mcσ_9 := m_cK hkσ_9 hI.1 ha (by decide)
      have kcσ_9 : ∀ j, m_c X σ_9 a j = m_c X σ a j := fun j => (mcσ_9 j).trans (kcσ j)
      have ks_σ_9 : q_KS (fun b g => b = a ∧ 8 ≤ g ∧ g ≤ 18) 8 X σ σ_9 := ks_σ.K hkσ_9 (by decide)
      exact q_retz E hr hlk hI ⟨by omega, by omega⟩ ⟨⟨by omega, by omega⟩, ks_σ_9, (by first | (clear h0 kcσ c_1 if_5 bf_5 c_6 kc_7 ahpσ_9 chpσ_9 dhpσ_9 mv9_σ_9 mv12_σ_9 mv14_σ_9 mv15_σ_9 mv16_σ_9 mv17_σ_9 mv8_σ_9 kcσ_9; omega) | omega), (by first | (clear h0 kcσ c_1 bf_5 kc_7 ahpσ_9 bhpσ_9 chpσ_9 dhpσ_9 mv9_σ_9 mv12_σ_9 mv14_σ_9 mv15_σ_9 mv16_σ_9 mv17_σ_9 kcσ_9; omega) | omega), kcσ_9, (hF.trans hout), fr_σ_9⟩ dX12_opens_22
    · skip
      replace hF := q_ifn hF (Int.not_lt.mpr c_6)
      refine lv_iload_n hx hb dX12_opens_12 rfl (lv_at hl 1 rfl) ?_
      refine lv_iload_n hx hb dX12_opens_13 rfl (lv_at hl 2 rfl) ?_
      refine q_icmp_le (A := v1.toInt) (B := v2.toInt) E rfl rfl (tgt := 23) dX12_opens_14 (by decide) (fun c_10 => ?_) (fun c_10 => ?_)
      · skip
        replace hF := q_ifn hF (Int.not_lt.mpr c_10)
        refine lv_aload_n hx hb dX12_opens_23 rfl (lv_at hl 0 rfl) ?_
        refine lv_iload_n hx hb dX12_opens_24 rfl (lv_at hl 1 rfl) ?_
        refine ps_X12_98_12 E hI ha (by decide) dX12_opens_25 (fun H locs σ_11 hσ_11 hI => ?_)
        replace hF := q_letX hF hσ_11
        have fr_σ_11 := fr_σ.si hσ_11 ha rfl
        have ks_σ_11 : q_KS (fun b g => b = a ∧ 8 ≤ g ∧ g ≤ 18) 8 X σ σ_11 := ks_σ.siS hσ_11 ⟨rfl, by decide, by decide⟩
        have mv9_σ_11 : (σ_11.1 a 9).toInt = v1.toInt := congrArg Int32.toInt (q_rd hσ_11)
        have mv12_σ_11 : (σ_11.1 a 12).toInt = (σ.1 a 12).toInt := congrArg Int32.toInt (q_rdn hσ_11 (Or.inr (by decide)))
        have mv14_σ_11 : (σ_11.1 a 14).toInt = (σ.1 a 14).toInt := congrArg Int32.toInt (q_rdn hσ_11 (Or.inr (by decide)))
        have mv15_σ_11 : (σ_11.1 a 15).toInt = (σ.1 a 15).toInt := congrArg Int32.toInt (q_rdn hσ_11 (Or.inr (by decide)))
        have mv16_σ_11 : (σ_11.1 a 16).toInt = (σ.1 a 16).toInt := congrArg Int32.toInt (q_rdn hσ_11 (Or.inr (by decide)))
        have mv17_σ_11 : (σ_11.1 a 17).toInt = (σ.1 a 17).toInt := congrArg Int32.toInt (q_rdn hσ_11 (Or.inr (by decide)))
        have mv8_σ_11 : (σ_11.1 a 8).toInt = (σ.1 a 8).toInt := congrArg Int32.toInt (q_rdn hσ_11 (Or.inr (by decide)))
        have mcσ_11 := m_wo hσ_11 (m_ne ha (q_tk (f := 20) (k' := 34) hI ha rfl (by decide)) (by decide))
        have kcσ_11 : ∀ j, m_c X σ_11 a j = m_c X σ a j := fun j => (mcσ_11 j).trans (kcσ j)
        refine lv_aload_n hx hb dX12_opens_28 rfl (lv_at hl 0 rfl) ?_
        refine lv_iconst (v := 0) hx hb dX12_opens_29 zki_0 ?_
        refine ps_X12_203_12 E hI ha (by decide) (by decide) (by decide) dX12_opens_30 (fun H locs σ_12 hσ_12 hI => ?_)
        replace hF := q_letX hF hσ_12
        have fr_σ_12 := fr_σ_11.si hσ_12 ha rfl
        have ks_σ_12 : q_KS (fun b g => b = a ∧ 8 ≤ g ∧ g ≤ 18) 8 X σ σ_12 := ks_σ_11.siS hσ_12 ⟨rfl, by decide, by decide⟩
        have mv9_σ_12 : (σ_12.1 a 9).toInt = (σ_11.1 a 9).toInt := congrArg Int32.toInt (q_rdn hσ_12 (Or.inr (by decide)))
        have mv12_σ_12 : (σ_12.1 a 12).toInt = (σ_11.1 a 12).toInt := congrArg Int32.toInt (q_rdn hσ_12 (Or.inr (by decide)))
        have mv14_σ_12 : (σ_12.1 a 14).toInt = (σ_11.1 a 14).toInt := congrArg Int32.toInt (q_rdn hσ_12 (Or.inr (by decide)))
        have mv15_σ_12 : (σ_12.1 a 15).toInt = (σ_11.1 a 15).toInt := congrArg Int32.toInt (q_rdn hσ_12 (Or.inr (by decide)))
        have mv16_σ_12 : (σ_12.1 a 16).toInt = (σ_11.1 a 16).toInt := congrArg Int32.toInt (q_rdn hσ_12 (Or.inr (by decide)))
        have mv17_σ_12 : (σ_12.1 a 17).toInt = (σ_11.1 a 17).toInt := congrArg Int32.toInt (q_rdn hσ_12 (Or.inr (by decide)))
        have mv8_σ_12 : (σ_12.1 a 8).toInt = 0 := by rw [q_rd hσ_12]; rfl
        have mcσ_12 := m_wo hσ_12 (m_ne ha (q_tk (f := 20) (k' := 34) hI ha rfl (by decide)) (by decide))
        have kcσ_12 : ∀ j, m_c X σ_12 a j = m_c X σ a j := fun j => (mcσ_12 j).trans (kcσ_11 j)
        refine lv_aload_n hx hb dX12_opens_33 rfl (lv_at hl 0 rfl) ?_
        refine lv_iconst (v := 0) hx hb dX12_opens_34 zki_0 ?_
        refine ps_X12_101_12 E hI ha (by decide) dX12_opens_35 (fun H locs σ_13 hσ_13 hI => ?_)
        replace hF := q_letX hF hσ_13
        have fr_σ_13 := fr_σ_12.si hσ_13 ha rfl
        have ks_σ_13 : q_KS (fun b g => b = a ∧ 8 ≤ g ∧ g ≤ 18) 8 X σ σ_13 := ks_σ_12.siS hσ_13 ⟨rfl, by decide, by decide⟩
        have mv9_σ_13 : (σ_13.1 a 9).toInt = (σ_12.1 a 9).toInt := congrArg Int32.toInt (q_rdn hσ_13 (Or.inr (by decide)))
        have mv12_σ_13 : (σ_13.1 a 12).toInt = (σ_12.1 a 12).toInt := congrArg Int32.toInt (q_rdn hσ_13 (Or.inr (by decide)))
        have mv14_σ_13 : (σ_13.1 a 14).toInt = (σ_12.1 a 14).toInt := congrArg Int32.toInt (q_rdn hσ_13 (Or.inr (by decide)))
        have mv15_σ_13 : (σ_13.1 a 15).toInt = (σ_12.1 a 15).toInt := congrArg Int32.toInt (q_rdn hσ_13 (Or.inr (by decide)))
        have mv16_σ_13 : (σ_13.1 a 16).toInt = 0 := by rw [q_rd hσ_13]; rfl
        have mv17_σ_13 : (σ_13.1 a 17).toInt = (σ_12.1 a 17).toInt := congrArg Int32.toInt (q_rdn hσ_13 (Or.inr (by decide)))
        have mv8_σ_13 : (σ_13.1 a 8).toInt = (σ_12.1 a 8).toInt := congrArg Int32.toInt (q_rdn hσ_13 (Or.inr (by decide)))
        have mcσ_13 := m_wo hσ_13 (m_ne ha (q_tk (f := 20) (k' := 34) hI ha rfl (by decide)) (by decide))
        have kcσ_13 : ∀ j, m_c X σ_13 a j = m_c X σ a j := fun j => (mcσ_13 j).trans (kcσ_12 j)
        refine lv_aload_n hx hb dX12_opens_38 rfl (lv_at hl 0 rfl) ?_
        refine lv_iconst (v := 0) hx hb dX12_opens_39 zki_0 ?_
        refine ps_X12_187_12 E hI ha (by decide) dX12_opens_40 (fun H locs σ_14 hσ_14 hI => ?_)
        replace hF := q_letX hF hσ_14
        have fr_σ_14 := fr_σ_13.si hσ_14 ha rfl
        have ks_σ_14 : q_KS (fun b g => b = a ∧ 8 ≤ g ∧ g ≤ 18) 8 X σ σ_14 := ks_σ_13.siS hσ_14 ⟨rfl, by decide, by decide⟩
        have mv9_σ_14 : (σ_14.1 a 9).toInt = (σ_13.1 a 9).toInt := congrArg Int32.toInt (q_rdn hσ_14 (Or.inr (by decide)))
        have mv12_σ_14 : (σ_14.1 a 12).toInt = 0 := by rw [q_rd hσ_14]; rfl
        have mv14_σ_14 : (σ_14.1 a 14).toInt = (σ_13.1 a 14).toInt := congrArg Int32.toInt (q_rdn hσ_14 (Or.inr (by decide)))
        have mv15_σ_14 : (σ_14.1 a 15).toInt = (σ_13.1 a 15).toInt := congrArg Int32.toInt (q_rdn hσ_14 (Or.inr (by decide)))
        have mv16_σ_14 : (σ_14.1 a 16).toInt = (σ_13.1 a 16).toInt := congrArg Int32.toInt (q_rdn hσ_14 (Or.inr (by decide)))
        have mv17_σ_14 : (σ_14.1 a 17).toInt = (σ_13.1 a 17).toInt := congrArg Int32.toInt (q_rdn hσ_14 (Or.inr (by decide)))
        have mv8_σ_14 : (σ_14.1 a 8).toInt = (σ_13.1 a 8).toInt := congrArg Int32.toInt (q_rdn hσ_14 (Or.inr (by decide)))
        have mcσ_14 := m_wo hσ_14 (m_ne ha (q_tk (f := 20) (k' := 34) hI ha rfl (by decide)) (by decide))
        have kcσ_14 : ∀ j, m_c X σ_14 a j = m_c X σ a j := fun j => (mcσ_14 j).trans (kcσ_13 j)
        refine lv_aload_n hx hb dX12_opens_43 rfl (lv_at hl 0 rfl) ?_
        refine q_cv (q_rV11_0 (rest := []) E (hml.trans hl.1.symm) hI (c_X12_next l X σ_14 a ha (by first | (clear h0 kcσ c_1 if_5 bf_5 c_6 c_10 mv9_σ_11 mv12_σ_11 mv14_σ_11 mv15_σ_11 mv16_σ_11 mv17_σ_11 mv8_σ_11 kcσ_11 mv9_σ_12 mv12_σ_12 mv14_σ_12 mv15_σ_12 mv16_σ_12 mv17_σ_12 mv8_σ_12 kcσ_12 mv9_σ_13 mv12_σ_13 mv14_σ_13 mv15_σ_13 mv17_σ_13 mv8_σ_13 kcσ_13 mv9_σ_14 mv12_σ_14 mv14_σ_14 mv15_σ_14 mv17_σ_14 mv8_σ_14 kcσ_14; omega) | omega) (by first | (clear h0 kcσ if_5 bf_5 c_6 mv12_σ_11 mv14_σ_11 mv15_σ_11 mv16_σ_11 mv17_σ_11 mv8_σ_11 kcσ_11 mv12_σ_12 mv14_σ_12 mv15_σ_12 mv16_σ_12 mv17_σ_12 mv8_σ_12 kcσ_12 mv12_σ_13 mv14_σ_13 mv15_σ_13 mv17_σ_13 mv8_σ_13 kcσ_13 mv12_σ_14 mv14_σ_14 mv15_σ_14 mv17_σ_14 mv8_σ_14 kcσ_14; omega) | omega) (by first | (clear h0 kcσ c_1 if_5 bf_5 c_6 mv12_σ_11 mv14_σ_11 mv15_σ_11 mv16_σ_11 mv17_σ_11 mv8_σ_11 kcσ_11 mv12_σ_12 mv14_σ_12 mv15_σ_12 mv16_σ_12 mv17_σ_12 mv8_σ_12 kcσ_12 mv12_σ_13 mv14_σ_13 mv15_σ_13 mv16_σ_13 mv17_σ_13 mv8_σ_13 kcσ_13 mv12_σ_14 mv14_σ_14 mv15_σ_14 mv16_σ_14 mv17_σ_14 mv8_σ_14 kcσ_14; omega) | omega)) kv_X12_197 ha ⟨Nat.le_of_ble_eq_true rfl, Nat.le_of_ble_eq_true rfl⟩ (Nat.le_of_ble_eq_true rfl) dX12_opens_44) hI (Nat.le_of_ble_eq_true rfl) (fun σ_16 H locs hpσ_16 hkσ_16 hI => ?_)
        have ahpσ_16 := hpσ_16.1
        have bhpσ_16 := hpσ_16.2.1
        have chpσ_16 := hpσ_16.2.2.1
        have dhpσ_16 := hpσ_16.2.2.2.1
        have ehpσ_16 := hpσ_16.2.2.2.2
        clear hpσ_16
        have fr_σ_16 := fr_σ_14.call ehpσ_16 rfl rfl
        replace hF := q_letX hF dhpσ_16
        have mv8_σ_16 : (σ_16.1 a 8).toInt = (σ_14.1 a 8).toInt := congrArg Int32.toInt (hkσ_16 a 8 (by rw [ha]; decide))
        have mcσ_16 := m_cK hkσ_16 hI.1 ha (by decide)
        have kcσ_16 : ∀ j, m_c X σ_16 a j = m_c X σ a j := fun j => (mcσ_16 j).trans (kcσ_14 j)
        have ks_σ_16 : q_KS (fun b g => b = a ∧ 8 ≤ g ∧ g ≤ 18) 8 X σ σ_16 := ks_σ_14.KS ahpσ_16 (by decide) (fun b g h => ⟨h.1, by have := h.2; omega⟩)
        refine lv_iconst (v := 1) hx hb dX12_opens_47 zki_1 ?_
        have hrv : (1 : Int32).toInt = 1 := zt_1
        exact q_retz E hr hlk hI ⟨by decide, by decide⟩ ⟨⟨by decide, by decide⟩, ks_σ_16, (by first | (clear h0 kcσ bf_5 mv12_σ_11 mv14_σ_11 mv15_σ_11 mv16_σ_11 mv17_σ_11 kcσ_11 mv12_σ_12 mv14_σ_12 mv15_σ_12 mv16_σ_12 mv17_σ_12 kcσ_12 mv12_σ_13 mv14_σ_13 mv15_σ_13 mv16_σ_13 mv17_σ_13 kcσ_13 mv14_σ_14 mv15_σ_14 mv16_σ_14 mv17_σ_14 kcσ_14 ahpσ_16 dhpσ_16 ehpσ_16 kcσ_16 hrv; omega) | omega), (by first | (clear h0 kcσ c_1 if_5 bf_5 c_6 c_10 mv9_σ_11 mv12_σ_11 mv14_σ_11 mv15_σ_11 mv16_σ_11 mv17_σ_11 mv8_σ_11 kcσ_11 mv9_σ_12 mv12_σ_12 mv14_σ_12 mv15_σ_12 mv16_σ_12 mv17_σ_12 mv8_σ_12 kcσ_12 mv9_σ_13 mv12_σ_13 mv14_σ_13 mv15_σ_13 mv16_σ_13 mv17_σ_13 mv8_σ_13 kcσ_13 mv9_σ_14 mv12_σ_14 mv14_σ_14 mv15_σ_14 mv16_σ_14 mv17_σ_14 mv8_σ_14 kcσ_14 ahpσ_16 bhpσ_16 chpσ_16 dhpσ_16 ehpσ_16 mv8_σ_16 kcσ_16; omega) | omega), kcσ_16, (hF.trans hout), fr_σ_16⟩ dX12_opens_48
      · skip
        replace hF := q_ifp hF c_10
        refine lv_aload_n hx hb dX12_opens_17 rfl (lv_at hl 0 rfl) ?_
        refine lv_iconst (v := 5) hx hb dX12_opens_18 zki_5 ?_
        have kc_17 : (5 : Int32).toInt = 5 := zt_5
        refine q_ci (q_rV11_1 (rest := []) E (hml.trans hl.1.symm) hI (c_X12_no l X σ a (5 : Int32) ha) kv_X12_74 ha ⟨Nat.le_of_ble_eq_true rfl, Nat.le_of_ble_eq_true rfl⟩ (Nat.le_of_ble_eq_true rfl) dX12_opens_19) hI (Nat.le_of_ble_eq_true rfl) (fun r_18 σ_19 H locs hpσ_19 hkσ_19 hI => ?_)
        have ahpσ_19 := hpσ_19.1
        have bhpσ_19 := hpσ_19.2.1
        have chpσ_19 := hpσ_19.2.2.1
        have dhpσ_19 := hpσ_19.2.2.2
        clear hpσ_19
        have fr_σ_19 := fr_σ.call dhpσ_19 rfl rfl
        replace hF := q_biX hF chpσ_19
        have mv9_σ_19 : (σ_19.1 a 9).toInt = (σ.1 a 9).toInt := congrArg Int32.toInt ((q_K.le hkσ_19 (by decide) : q_K 8 X σ σ_19) a 9 (by rw [ha]; decide))
        have mv12_σ_19 : (σ_19.1 a 12).toInt = (σ.1 a 12).toInt := congrArg Int32.toInt ((q_K.le hkσ_19 (by decide) : q_K 8 X σ σ_19) a 12 (by rw [ha]; decide))
        have mv14_σ_19 : (σ_19.1 a 14).toInt = (σ.1 a 14).toInt := congrArg Int32.toInt ((q_K.le hkσ_19 (by decide) : q_K 8 X σ σ_19) a 14 (by rw [ha]; decide))
        have mv15_σ_19 : (σ_19.1 a 15).toInt = (σ.1 a 15).toInt := congrArg Int32.toInt ((q_K.le hkσ_19 (by decide) : q_K 8 X σ σ_19) a 15 (by rw [ha]; decide))
        have mv16_σ_19 : (σ_19.1 a 16).toInt = (σ.1 a 16).toInt := congrArg Int32.toInt ((q_K.le hkσ_19 (by decide) : q_K 8 X σ σ_19) a 16 (by rw [ha]; decide))
        have mv17_σ_19 : (σ_19.1 a 17).toInt = (σ.1 a 17).toInt := congrArg Int32.toInt ((q_K.le hkσ_19 (by decide) : q_K 8 X σ σ_19) a 17 (by rw [ha]; decide))
        have mv8_σ_19 : (σ_19.1 a 8).toInt = (σ.1 a 8).toInt := congrArg Int32.toInt ((q_K.le hkσ_19 (by decide) : q_K 8 X σ σ_19) a 8 (by rw [ha]; decide))
        have mcσ_19 := m_cK hkσ_19 hI.1 ha (by decide)
        have kcσ_19 : ∀ j, m_c X σ_19 a j = m_c X σ a j := fun j => (mcσ_19 j).trans (kcσ j)
        have ks_σ_19 : q_KS (fun b g => b = a ∧ 8 ≤ g ∧ g ≤ 18) 8 X σ σ_19 := ks_σ.K hkσ_19 (by decide)
        exact q_retz E hr hlk hI ⟨by omega, by omega⟩ ⟨⟨by omega, by omega⟩, ks_σ_19, (by first | (clear h0 kcσ c_1 if_5 bf_5 c_6 c_10 kc_17 ahpσ_19 chpσ_19 dhpσ_19 mv9_σ_19 mv12_σ_19 mv14_σ_19 mv15_σ_19 mv16_σ_19 mv17_σ_19 mv8_σ_19 kcσ_19; omega) | omega), (by first | (clear h0 kcσ c_1 if_5 bf_5 c_6 kc_17 ahpσ_19 bhpσ_19 chpσ_19 dhpσ_19 mv9_σ_19 mv12_σ_19 mv14_σ_19 mv15_σ_19 mv16_σ_19 mv17_σ_19 kcσ_19; omega) | omega), kcσ_19, (hF.trans hout), fr_σ_19⟩ dX12_opens_22
end
