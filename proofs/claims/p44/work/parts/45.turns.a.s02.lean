section
set_option maxRecDepth 100000 in
set_option maxHeartbeats 4000000 in
theorem c_X12_does (l : Launch) (X : XW) (σ : ST) (a : Nat) (v1 : Int32) (n : Int) (ha : q_kd X a = 12) (hG : m_G (m_c X σ a)) (hW : m_W (m_c X σ a) n) (hn : n ≤ 200000) (hw : 656 ≤ v1.toInt ∧ v1.toInt ≤ 917) (hk : 0 ≤ m_c X σ a v1.toInt ∧ m_c X σ a v1.toInt ≤ 2) (hp : m_c X σ a v1.toInt = 0 ∨ (0 ≤ m_c X σ a (v1.toInt + 1) ∧ m_c X σ a (v1.toInt + 1) ≤ 5)) : Met l yX12_does (q_ws yX12_does cX12_does 3 (some .boolean)) (q_rm 6 136) (q_P X σ [.ref a, .int v1]) (q_Qi X 1 σ (fun (r : Int32) (σ' : ST) => (0 ≤ r.toInt ∧ r.toInt ≤ 1) ∧ (m_G (m_c X σ' a)) ∧ (m_W (m_c X σ' a) (n + 1)) ∧ (∀ j, 654 ≤ j → m_c X σ' a j = m_c X σ a j) ∧ (m_KD 40 X σ σ') ∧ (r, σ') = F_X12_does X σ a v1 ∧ q_ow [(12, 39), (12, 42), (12, 43), (12, 44), (34, 99), (39, 99)] [] X σ σ')) 0 0 (q_reg X) := by
  refine q_met 1 (by first | exact rfl | decide +kernel) rfl (Nat.le_of_ble_eq_true rfl) (fun p e s m below meth c E hml hr hlk hI ls hl => ?_)
  have hx := E.1
  have hb := E.2.1
  have hl : lv_has ls 3 [(0, .ref a), (1, .int v1)] := hl
  have gσ : m_G (m_c X σ a) := hG
  have wσ : m_W (m_c X σ a) n := hW
  have kqσ : ∀ j, 654 ≤ j → m_c X σ a j = m_c X σ a j := fun _ _ => rfl
  have kdσ : m_KD 40 X σ σ := m_KD.rf
  have fr_σ : q_ow [(12, 39), (12, 42), (12, 43), (12, 44), (34, 99), (39, 99)] [] X σ σ := q_ow.rf
  have hh := hG.hd
  obtain ⟨out, hout⟩ : ∃ o, o = F_X12_does X σ a v1 := ⟨_, rfl⟩
  have hF := hout.symm
  unfold F_X12_does at hF
  refine lv_aload_n hx hb dX12_does_0 rfl (lv_at hl 0 rfl) ?_
  refine gs_X12_35_12 E hI ha dX12_does_1 ?_
  refine lv_iload_n hx hb dX12_does_4 rfl (lv_at hl 1 rfl) ?_
  refine q_iald E hI (q_tk (k' := 34) hI ha rfl (by decide)) ⟨by decide, rfl⟩ (by omega) (by rw [q_lnk (v := 4650) hI (q_tk (k' := 34) hI ha rfl (by decide)) rfl (by decide)]; omega) dX12_does_5 ?_
  refine lv_topi (fun f_1 ef_1 => ?_)
  replace hF := q_letX hF ef_1
  have if_1 : f_1.toInt = m_c X σ a v1.toInt := m_rd ef_1 rfl
  refine lv_istore_n (lv' := [(2, .int f_1), (0, .ref a), (1, .int v1)]) hx hb dX12_does_6 rfl hl (by decide) rfl (fun ls hl => ?_)
  refine lv_iload_n hx hb dX12_does_7 rfl (lv_at hl 0 rfl) ?_
  refine q_if_ne (A := f_1.toInt) E rfl (tgt := 16) dX12_does_8 (by decide) (fun c_2 => ?_) (fun c_2 => ?_)
  · skip
    replace hF := q_ifn hF c_2
    refine lv_aload_n hx hb dX12_does_16 rfl (lv_at hl 1 rfl) ?_
    refine gs_X12_35_12 E hI ha dX12_does_17 ?_
    refine lv_iload_n hx hb dX12_does_20 rfl (lv_at hl 0 rfl) ?_
    refine lv_iconst (v := 1) hx hb dX12_does_21 (by decide) ?_
    refine q_icmp_ne (A := f_1.toInt) (B := 1) E rfl (by decide) (tgt := 30) dX12_does_22 (by decide) (fun c_3 => ?_) (fun c_3 => ?_)
    · skip
      replace hF := q_ifn hF c_3
      refine lv_bipush (v := 16) hx hb dX12_does_30 (by decide) ?_
      refine lv_aload_n hx hb dX12_does_32 rfl (lv_at hl 1 rfl) ?_
      refine gs_X12_35_12 E hI ha dX12_does_33 ?_
      refine lv_iload_n hx hb dX12_does_36 rfl (lv_at hl 2 rfl) ?_
      refine lv_iconst (v := 1) hx hb dX12_does_37 (by decide) ?_
      refine lv_iadd hx hb dX12_does_38 ?_
      refine lv_topi (fun z_4 ez_4 => ?_)
      replace hF := q_letX hF ez_4
      have iz_4 := q_addI (A := v1.toInt) (B := 1) ez_4 rfl (by decide) (by omega) (by omega)
      refine q_iald E hI (q_tk (k' := 34) hI ha rfl (by decide)) ⟨by decide, rfl⟩ (by omega) (by rw [q_lnk (v := 4650) hI (q_tk (k' := 34) hI ha rfl (by decide)) rfl (by decide)]; omega) dX12_does_39 ?_
      refine lv_topi (fun f_5 ef_5 => ?_)
      replace hF := q_letX hF ef_5
      have if_5 : f_5.toInt = m_c X σ a (v1.toInt + 1) := m_rd ef_5 iz_4
      refine lv_iadd hx hb dX12_does_40 ?_
      refine lv_topi (fun z_6 ez_6 => ?_)
      replace hF := q_letX hF ez_6
      have iz_6 := q_addI (A := 16) (B := (m_c X σ a (v1.toInt + 1))) ez_6 (by decide) if_5 (by omega) (by omega)
      refine lv_aload_n hx hb dX12_does_41 rfl (lv_at hl 1 rfl) ?_
      refine gs_X12_35_12 E hI ha dX12_does_42 ?_
      refine lv_iload_n hx hb dX12_does_45 rfl (lv_at hl 2 rfl) ?_
      refine lv_iconst (v := 2) hx hb dX12_does_46 (by decide) ?_
      refine lv_iadd hx hb dX12_does_47 ?_
      refine lv_topi (fun z_7 ez_7 => ?_)
      replace hF := q_letX hF ez_7
      have iz_7 := q_addI (A := v1.toInt) (B := 2) ez_7 rfl (by decide) (by omega) (by omega)
      refine q_iald E hI (q_tk (k' := 34) hI ha rfl (by decide)) ⟨by decide, rfl⟩ (by omega) (by rw [q_lnk (v := 4650) hI (q_tk (k' := 34) hI ha rfl (by decide)) rfl (by decide)]; omega) dX12_does_48 ?_
      refine lv_topi (fun f_8 ef_8 => ?_)
      replace hF := q_letX hF ef_8
      have if_8 : f_8.toInt = m_c X σ a (v1.toInt + 2) := m_rd ef_8 iz_7
      refine q_iastN E hI (q_tk (k' := 34) hI ha rfl (by decide)) ⟨by decide, rfl⟩ (by omega) (by rw [q_lnk (v := 4650) hI (q_tk (k' := 34) hI ha rfl (by decide)) rfl (by decide)]; omega) (show 1 < 2 by decide) (q_inU rfl) dX12_does_49 (fun H locs σ_9 hσ_9 hI => ?_)
      replace hF := q_letX hF hσ_9
      have fr_σ_9 := fr_σ.si hσ_9 (q_tk (k' := 34) hI ha rfl (by decide)) rfl
      have mcσ_9 := m_wr (v := f_8) (A := (16 + (m_c X σ a (v1.toInt + 1)))) hσ_9 iz_6 (by omega)
      have gσ_9 : m_G (m_c X σ_9 a) := m_G.wr gσ mcσ_9 (by omega)
      have wσ_9 : m_W (m_c X σ_9 a) n := m_W.wr wσ mcσ_9 (by omega)
      have kqσ_9 : ∀ j, 654 ≤ j → m_c X σ_9 a j = m_c X σ a j := fun j h => by rw [mcσ_9 j (by omega), if_neg (by omega)] <;> exact kqσ j h
      have kdσ_9 : m_KD 40 X σ σ_9 := kdσ.ar hσ_9 (q_tk (k' := 34) hI ha rfl (by decide)) (by decide) (by decide)
      refine lv_iconst (v := 1) hx hb dX12_does_50 (by decide) ?_
      have hrv : (1 : Int32).toInt = 1 := rfl
      exact q_retz E hr hlk hI ⟨by decide, by decide⟩ ⟨⟨by decide, by decide⟩, gσ_9, (by first | exact vσ_9 | exact m_W.le wσ_9 (by omega)), kqσ_9, kdσ_9, (hF.trans hout), fr_σ_9⟩ dX12_does_51
    · skip
      replace hF := q_ifp hF c_3
      refine lv_bipush (v := 10) hx hb dX12_does_25 (by decide) ?_
      refine lv_goto (tgt := 32) hx hb dX12_does_27 (by decide) ?_
      refine lv_aload_n hx hb dX12_does_32 rfl (lv_at hl 1 rfl) ?_
      refine gs_X12_35_12 E hI ha dX12_does_33 ?_
      refine lv_iload_n hx hb dX12_does_36 rfl (lv_at hl 2 rfl) ?_
      refine lv_iconst (v := 1) hx hb dX12_does_37 (by decide) ?_
      refine lv_iadd hx hb dX12_does_38 ?_
      refine lv_topi (fun z_10 ez_10 => ?_)
      replace hF := q_letX hF ez_10
      have iz_10 := q_addI (A := v1.toInt) (B := 1) ez_10 rfl (by decide) (by omega) (by omega)
      refine q_iald E hI (q_tk (k' := 34) hI ha rfl (by decide)) ⟨by decide, rfl⟩ (by omega) (by rw [q_lnk (v := 4650) hI (q_tk (k' := 34) hI ha rfl (by decide)) rfl (by decide)]; omega) dX12_does_39 ?_
      refine lv_topi (fun f_11 ef_11 => ?_)
      replace hF := q_letX hF ef_11
      have if_11 : f_11.toInt = m_c X σ a (v1.toInt + 1) := m_rd ef_11 iz_10
      refine lv_iadd hx hb dX12_does_40 ?_
      refine lv_topi (fun z_12 ez_12 => ?_)
      replace hF := q_letX hF ez_12
      have iz_12 := q_addI (A := 10) (B := (m_c X σ a (v1.toInt + 1))) ez_12 (by decide) if_11 (by omega) (by omega)
      refine lv_aload_n hx hb dX12_does_41 rfl (lv_at hl 1 rfl) ?_
      refine gs_X12_35_12 E hI ha dX12_does_42 ?_
      refine lv_iload_n hx hb dX12_does_45 rfl (lv_at hl 2 rfl) ?_
      refine lv_iconst (v := 2) hx hb dX12_does_46 (by decide) ?_
      refine lv_iadd hx hb dX12_does_47 ?_
      refine lv_topi (fun z_13 ez_13 => ?_)
      replace hF := q_letX hF ez_13
      have iz_13 := q_addI (A := v1.toInt) (B := 2) ez_13 rfl (by decide) (by omega) (by omega)
      refine q_iald E hI (q_tk (k' := 34) hI ha rfl (by decide)) ⟨by decide, rfl⟩ (by omega) (by rw [q_lnk (v := 4650) hI (q_tk (k' := 34) hI ha rfl (by decide)) rfl (by decide)]; omega) dX12_does_48 ?_
      refine lv_topi (fun f_14 ef_14 => ?_)
      replace hF := q_letX hF ef_14
      have if_14 : f_14.toInt = m_c X σ a (v1.toInt + 2) := m_rd ef_14 iz_13
      refine q_iastN E hI (q_tk (k' := 34) hI ha rfl (by decide)) ⟨by decide, rfl⟩ (by omega) (by rw [q_lnk (v := 4650) hI (q_tk (k' := 34) hI ha rfl (by decide)) rfl (by decide)]; omega) (show 1 < 2 by decide) (q_inU rfl) dX12_does_49 (fun H locs σ_15 hσ_15 hI => ?_)
      replace hF := q_letX hF hσ_15
      have fr_σ_15 := fr_σ.si hσ_15 (q_tk (k' := 34) hI ha rfl (by decide)) rfl
      have mcσ_15 := m_wr (v := f_14) (A := (10 + (m_c X σ a (v1.toInt + 1)))) hσ_15 iz_12 (by omega)
      have gσ_15 : m_G (m_c X σ_15 a) := m_G.wr gσ mcσ_15 (by omega)
      have wσ_15 : m_W (m_c X σ_15 a) n := m_W.wr wσ mcσ_15 (by omega)
      have kqσ_15 : ∀ j, 654 ≤ j → m_c X σ_15 a j = m_c X σ a j := fun j h => by rw [mcσ_15 j (by omega), if_neg (by omega)] <;> exact kqσ j h
      have kdσ_15 : m_KD 40 X σ σ_15 := kdσ.ar hσ_15 (q_tk (k' := 34) hI ha rfl (by decide)) (by decide) (by decide)
      refine lv_iconst (v := 1) hx hb dX12_does_50 (by decide) ?_
      have hrv : (1 : Int32).toInt = 1 := rfl
      exact q_retz E hr hlk hI ⟨by decide, by decide⟩ ⟨⟨by decide, by decide⟩, gσ_15, (by first | exact vσ_15 | exact m_W.le wσ_15 (by omega)), kqσ_15, kdσ_15, (hF.trans hout), fr_σ_15⟩ dX12_does_51
  · skip
    replace hF := q_ifp hF c_2
    refine lv_aload_n hx hb dX12_does_11 rfl (lv_at hl 1 rfl) ?_
    refine q_ci (q_runV (As := []) (rest := []) E (hml.trans hl.1.symm) hI (c_X12_turns l X σ a n ha gσ wσ (by omega)) kv_X12_414 ha ⟨rfl, by decide⟩ (show vwCl[11]? = some (RX12, TX12, 46) from rfl) rfl ⟨Nat.le_of_ble_eq_true rfl, Nat.le_of_ble_eq_true rfl⟩ ⟨Nat.le_refl _, Nat.le_refl _⟩ rfl (Nat.le_of_ble_eq_true rfl) dX12_does_12) hI (by decide) (fun r_16 σ_17 H locs hpσ_17 hkσ_17 hI => ?_)
    obtain ⟨ahpσ_17, bhpσ_17, chpσ_17, dhpσ_17, ehpσ_17, fhpσ_17, ghpσ_17⟩ := hpσ_17
    have fr_σ_17 := fr_σ.call ghpσ_17 rfl rfl
    replace hF := q_biX hF fhpσ_17
    have gσ_17 : m_G (m_c X σ_17 a) := bhpσ_17
    have vσ_17 : m_W (m_c X σ_17 a) (n + 1) := chpσ_17
    have kqσ_17 : ∀ j, 654 ≤ j → m_c X σ_17 a j = m_c X σ a j := (fun j h => (dhpσ_17 j h).trans (kqσ j h))
    have kdσ_17 : m_KD 40 X σ σ_17 := kdσ.tr ehpσ_17
    exact q_retz E hr hlk hI ⟨by omega, by omega⟩ ⟨⟨by omega, by omega⟩, gσ_17, (by first | exact vσ_17 | exact m_W.le wσ_17 (by omega)), kqσ_17, kdσ_17, (hF.trans hout), fr_σ_17⟩ dX12_does_15
end
