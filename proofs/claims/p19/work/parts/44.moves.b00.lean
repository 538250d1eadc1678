set_option maxRecDepth 100000 in
set_option maxHeartbeats 4000000 in
theorem c_X12_leaves (l : Launch) (X : XW) (σ : ST) (a : Nat) (n : Int) (ha : q_kd X a = 12) (hG : m_G (m_c X σ a)) (hW : m_W (m_c X σ a) n) (ho : m_c X σ a 7 = 1) : Met l yX12_leaves (q_ws yX12_leaves cX12_leaves 2 none) (q_rm 2 45) (q_P X σ [.ref a]) (q_Qv X 1 σ (fun (σ' : ST) => (m_G (m_c X σ' a)) ∧ (m_W (m_c X σ' a) n) ∧ (∀ j, 654 ≤ j → m_c X σ' a j = m_c X σ a j) ∧ (m_KD 40 X σ σ') ∧ (m_c X σ' a 7 = 0) ∧ (m_c X σ' a 2 = m_c X σ a 2) ∧ σ' = F_X12_leaves X σ a ∧ q_ow [(34, 99)] [] X σ σ')) 0 0 (q_reg X) := by
  refine q_met 1 (by first | exact rfl | decide +kernel) rfl (Nat.le_of_ble_eq_true rfl) (fun p e s m below meth c E hml hr hlk hI ls hl => ?_)
  have hx := E.1
  have hb := E.2.1
  have hl : lv_has ls 2 [(0, .ref a)] := hl
  have gσ : m_G (m_c X σ a) := hG
  have wσ : m_W (m_c X σ a) n := hW
  have kqσ : ∀ j, 654 ≤ j → m_c X σ a j = m_c X σ a j := fun _ _ => rfl
  have kdσ : m_KD 40 X σ σ := m_KD.rf
  have k2σ : m_c X σ a 0 = m_c X σ a 0 ∧ m_c X σ a 2 = m_c X σ a 2 := ⟨rfl, rfl⟩
  have fr_σ : q_ow [(34, 99)] [] X σ σ := q_ow.rf
  have hh := hG.hd
  obtain ⟨out, hout⟩ : ∃ o, o = F_X12_leaves X σ a := ⟨_, rfl⟩
  have hF := hout.symm
  unfold F_X12_leaves at hF
  refine lv_aload_n hx hb dX12_leaves_0 rfl (lv_at hl 0 rfl) ?_
  refine gs_X12_35_12 E hI ha dX12_leaves_1 ?_
  refine lv_bipush (v := 6) hx hb dX12_leaves_4 (by decide) ?_
  refine q_iald E hI (q_tk (k' := 34) hI ha rfl (by decide)) ⟨by decide, rfl⟩ (by decide) (by rw [q_lnk (v := 4650) hI (q_tk (k' := 34) hI ha rfl (by decide)) rfl (by decide)]; decide) dX12_leaves_6 ?_
  refine lv_topi (fun f_1 ef_1 => ?_)
  replace hF := q_letX hF ef_1
  have if_1 : f_1.toInt = m_c X σ a 6 := m_rd ef_1 (by decide)
  refine lv_istore_n (lv' := [(1, .int f_1), (0, .ref a)]) hx hb dX12_leaves_7 rfl hl (by decide) rfl (fun ls hl => ?_)
  refine lv_aload_n hx hb dX12_leaves_8 rfl (lv_at hl 1 rfl) ?_
  refine gs_X12_35_12 E hI ha dX12_leaves_9 ?_
  refine lv_bipush (v := 7) hx hb dX12_leaves_12 (by decide) ?_
  refine lv_iconst (v := 0) hx hb dX12_leaves_14 (by decide) ?_
  have kc_3 : (0 : Int32).toInt = 0 := rfl
  refine q_iastN E hI (q_tk (k' := 34) hI ha rfl (by decide)) ⟨by decide, rfl⟩ (by decide) (by rw [q_lnk (v := 4650) hI (q_tk (k' := 34) hI ha rfl (by decide)) rfl (by decide)]; decide) (show 1 < 2 by decide) (q_inU rfl) dX12_leaves_15 (fun H locs σ_2 hσ_2 hI => ?_)
  replace hF := q_letX hF hσ_2
  have fr_σ_2 := fr_σ.si hσ_2 (q_tk (k' := 34) hI ha rfl (by decide)) rfl
  have mcσ_2 := m_wr (v := (0 : Int32)) (A := 7) hσ_2 (by decide) (by decide)
  have gσ_2 : m_G (m_c X σ_2 a) := m_G.wr gσ mcσ_2 (by first | (clear gσ wσ kdσ k2σ; omega) | omega)
  have wσ_2 : m_W (m_c X σ_2 a) n := m_W.wr wσ mcσ_2 (by first | (clear ho gσ wσ kdσ k2σ hh if_1 kc_3 gσ_2; omega) | omega)
  have kqσ_2 : ∀ j, 654 ≤ j → m_c X σ_2 a j = m_c X σ a j := fun j h => by rw [mcσ_2 j (by first | (clear ho gσ wσ kdσ k2σ hh if_1 kc_3 gσ_2 wσ_2; omega) | omega), if_neg (by first | (clear ho gσ wσ kdσ k2σ hh if_1 kc_3 gσ_2 wσ_2; omega) | omega)] <;> exact kqσ j h
  have kdσ_2 : m_KD 40 X σ σ_2 := kdσ.ar hσ_2 (q_tk (k' := 34) hI ha rfl (by decide)) (by decide) (by decide)
  have k2σ_2 : m_c X σ_2 a 0 = m_c X σ a 0 ∧ m_c X σ_2 a 2 = m_c X σ a 2 := ⟨by rw [mcσ_2 0 (by decide), if_neg (by first | (clear ho gσ wσ kdσ k2σ hh if_1 kc_3 gσ_2 wσ_2 kdσ_2; omega) | omega)] <;> exact k2σ.1, by rw [mcσ_2 2 (by decide), if_neg (by first | (clear ho gσ wσ kdσ k2σ hh if_1 kc_3 gσ_2 wσ_2 kdσ_2; omega) | omega)] <;> exact k2σ.2⟩
  have z7σ_2 : m_c X σ_2 a 7 = 0 := (by rw [mcσ_2 7 (by decide), if_pos rfl]; rfl)
  refine lv_aload_n hx hb dX12_leaves_16 rfl (lv_at hl 1 rfl) ?_
  refine lv_iload_n hx hb dX12_leaves_17 rfl (lv_at hl 0 rfl) ?_
  refine q_ci (q_runV (As := [.int f_1]) (rest := []) E (hml.trans hl.1.symm) hI (c_X12_cardsOf l X σ_2 a f_1 ha gσ_2 (by first | (clear gσ wσ kdσ k2σ kc_3 gσ_2 wσ_2 kdσ_2 z7σ_2; omega) | omega)) kv_X12_293 ha ⟨rfl, by decide⟩ (show vwCl[11]? = some (RX12, TX12, 46) from rfl) rfl ⟨Nat.le_of_ble_eq_true rfl, Nat.le_of_ble_eq_true rfl⟩ ⟨Nat.le_refl _, Nat.le_refl _⟩ rfl (Nat.le_of_ble_eq_true rfl) dX12_leaves_18) hI (by decide) (fun r_4 σ_5 H locs hpσ_5 hkσ_5 hI => ?_)
  obtain ⟨ahpσ_5, bhpσ_5, chpσ_5, dhpσ_5⟩ := hpσ_5
  rw [ahpσ_5] at hI
  replace hF := q_letX hF dhpσ_5
  refine q_if_ne (A := r_4.toInt) E rfl (tgt := 32) dX12_leaves_21 (by decide) (fun c_6 => ?_) (fun c_6 => ?_)
  · skip
    replace hF := q_ifn hF c_6
    refine lv_aload_n hx hb dX12_leaves_32 rfl (lv_at hl 1 rfl) ?_
    refine gs_X12_35_12 E hI ha dX12_leaves_33 ?_
    refine lv_iconst (v := 5) hx hb dX12_leaves_36 (by decide) ?_
    refine lv_aload_n hx hb dX12_leaves_37 rfl (lv_at hl 1 rfl) ?_
    refine lv_iconst (v := 1) hx hb dX12_leaves_38 (by decide) ?_
    have kc_7 : (1 : Int32).toInt = 1 := rfl
    refine q_ci (q_runV (As := [.int 1]) (rest := [.int 5, .ref (q_rf X a 20)]) E (hml.trans hl.1.symm) hI (c_X12_nextKind l X σ_2 a (1 : Int32) ha gσ_2) kv_X12_315 ha ⟨rfl, by decide⟩ (show vwCl[11]? = some (RX12, TX12, 46) from rfl) rfl ⟨Nat.le_of_ble_eq_true rfl, Nat.le_of_ble_eq_true rfl⟩ ⟨Nat.le_refl _, Nat.le_refl _⟩ rfl (Nat.le_of_ble_eq_true rfl) dX12_leaves_39) hI (by decide) (fun r_8 σ_9 H locs hpσ_9 hkσ_9 hI => ?_)
    obtain ⟨ahpσ_9, bhpσ_9, chpσ_9⟩ := hpσ_9
    rw [ahpσ_9] at hI
    replace hF := q_letX hF chpσ_9
    refine q_iastN E hI (q_tk (k' := 34) hI ha rfl (by decide)) ⟨by decide, rfl⟩ (by decide) (by rw [q_lnk (v := 4650) hI (q_tk (k' := 34) hI ha rfl (by decide)) rfl (by decide)]; decide) (show 1 < 2 by decide) (q_inU rfl) dX12_leaves_42 (fun H locs σ_10 hσ_10 hI => ?_)
    replace hF := q_letX hF hσ_10
    have fr_σ_10 := fr_σ_2.si hσ_10 (q_tk (k' := 34) hI ha rfl (by decide)) rfl
    have mcσ_10 := m_wr (v := r_8) (A := 5) hσ_10 (by decide) (by decide)
    have gσ_10 : m_G (m_c X σ_10 a) := m_G.wr gσ_2 mcσ_10 (by first | (clear ho gσ wσ kdσ k2σ hh if_1 kc_3 gσ_2 wσ_2 kdσ_2 k2σ_2 ahpσ_5 bhpσ_5 chpσ_5 dhpσ_5 c_6 kc_7 ahpσ_9 chpσ_9; omega) | omega)
    have wσ_10 : m_W (m_c X σ_10 a) n := m_W.wr wσ_2 mcσ_10 (by first | (clear ho gσ wσ kdσ k2σ hh if_1 kc_3 gσ_2 wσ_2 kdσ_2 k2σ_2 z7σ_2 ahpσ_5 bhpσ_5 chpσ_5 dhpσ_5 c_6 kc_7 ahpσ_9 bhpσ_9 chpσ_9 gσ_10; omega) | omega)
    have kqσ_10 : ∀ j, 654 ≤ j → m_c X σ_10 a j = m_c X σ a j := fun j h => by rw [mcσ_10 j (by first | (clear ho gσ wσ kdσ k2σ hh if_1 kc_3 gσ_2 wσ_2 kdσ_2 k2σ_2 z7σ_2 ahpσ_5 bhpσ_5 chpσ_5 dhpσ_5 c_6 kc_7 ahpσ_9 bhpσ_9 chpσ_9 gσ_10 wσ_10; omega) | omega), if_neg (by first | (clear ho gσ wσ kdσ k2σ hh if_1 kc_3 gσ_2 wσ_2 kdσ_2 k2σ_2 z7σ_2 ahpσ_5 bhpσ_5 chpσ_5 dhpσ_5 c_6 kc_7 ahpσ_9 bhpσ_9 chpσ_9 gσ_10 wσ_10; omega) | omega)] <;> exact kqσ_2 j h
    have kdσ_10 : m_KD 40 X σ σ_10 := kdσ_2.ar hσ_10 (q_tk (k' := 34) hI ha rfl (by decide)) (by decide) (by decide)
    have k2σ_10 : m_c X σ_10 a 0 = m_c X σ a 0 ∧ m_c X σ_10 a 2 = m_c X σ a 2 := ⟨by rw [mcσ_10 0 (by decide), if_neg (by first | (clear ho gσ wσ kdσ k2σ hh if_1 kc_3 gσ_2 wσ_2 kdσ_2 k2σ_2 z7σ_2 ahpσ_5 bhpσ_5 chpσ_5 dhpσ_5 c_6 kc_7 ahpσ_9 bhpσ_9 chpσ_9 gσ_10 wσ_10 kdσ_10; omega) | omega)] <;> exact k2σ_2.1, by rw [mcσ_10 2 (by decide), if_neg (by first | (clear ho gσ wσ kdσ k2σ hh if_1 kc_3 gσ_2 wσ_2 kdσ_2 k2σ_2 z7σ_2 ahpσ_5 bhpσ_5 chpσ_5 dhpσ_5 c_6 kc_7 ahpσ_9 bhpσ_9 chpσ_9 gσ_10 wσ_10 kdσ_10; omega) | omega)] <;> exact k2σ_2.2⟩
    have z7σ_10 : m_c X σ_10 a 7 = 0 := (by rw [mcσ_10 7 (by decide), if_neg (by first | (clear ho gσ wσ kdσ k2σ hh if_1 kc_3 gσ_2 wσ_2 kdσ_2 k2σ_2 z7σ_2 ahpσ_5 bhpσ_5 chpσ_5 dhpσ_5 c_6 kc_7 ahpσ_9 bhpσ_9 chpσ_9 gσ_10 wσ_10 kdσ_10 k2σ_10; omega) | omega)]; exact z7σ_2)
    refine lv_aload_n hx hb dX12_leaves_43 rfl (lv_at hl 1 rfl) ?_
    refine gs_X12_35_12 E hI ha dX12_leaves_44 ?_
    refine lv_bipush (v := 6) hx hb dX12_leaves_47 (by decide) ?_
    refine lv_aload_n hx hb dX12_leaves_49 rfl (lv_at hl 1 rfl) ?_
    refine lv_iload_n hx hb dX12_leaves_50 rfl (lv_at hl 0 rfl) ?_
    refine q_ci (q_runV (As := [.int f_1]) (rest := [.int 6, .ref (q_rf X a 20)]) E (hml.trans hl.1.symm) hI (c_X12_behindOf l X σ_10 a f_1 ha gσ_10 (by first | (clear gσ wσ kdσ k2σ kc_3 gσ_2 wσ_2 kdσ_2 z7σ_2 ahpσ_5 bhpσ_5 chpσ_5 dhpσ_5 c_6 kc_7 ahpσ_9 bhpσ_9 chpσ_9 gσ_10 wσ_10 kdσ_10 z7σ_10; omega) | omega)) kv_X12_319 ha ⟨rfl, by decide⟩ (show vwCl[11]? = some (RX12, TX12, 46) from rfl) rfl ⟨Nat.le_of_ble_eq_true rfl, Nat.le_of_ble_eq_true rfl⟩ ⟨Nat.le_refl _, Nat.le_refl _⟩ rfl (Nat.le_of_ble_eq_true rfl) dX12_leaves_51) hI (by decide) (fun r_11 σ_12 H locs hpσ_12 hkσ_12 hI => ?_)
    obtain ⟨ahpσ_12, bhpσ_12, chpσ_12, dhpσ_12⟩ := hpσ_12
    rw [ahpσ_12] at hI
    replace hF := q_letX hF dhpσ_12
    refine q_iastN E hI (q_tk (k' := 34) hI ha rfl (by decide)) ⟨by decide, rfl⟩ (by decide) (by rw [q_lnk (v := 4650) hI (q_tk (k' := 34) hI ha rfl (by decide)) rfl (by decide)]; decide) (show 1 < 2 by decide) (q_inU rfl) dX12_leaves_54 (fun H locs σ_13 hσ_13 hI => ?_)
    replace hF := q_letX hF hσ_13
    have fr_σ_13 := fr_σ_10.si hσ_13 (q_tk (k' := 34) hI ha rfl (by decide)) rfl
    have mcσ_13 := m_wr (v := r_11) (A := 6) hσ_13 (by decide) (by decide)
    have gσ_13 : m_G (m_c X σ_13 a) := m_G.wr gσ_10 mcσ_13 (by first | (clear ho gσ wσ kdσ k2σ hh if_1 kc_3 gσ_2 wσ_2 kdσ_2 k2σ_2 z7σ_2 ahpσ_5 bhpσ_5 chpσ_5 dhpσ_5 c_6 kc_7 ahpσ_9 bhpσ_9 chpσ_9 gσ_10 wσ_10 kdσ_10 k2σ_10 ahpσ_12 chpσ_12 dhpσ_12; omega) | omega)
    have wσ_13 : m_W (m_c X σ_13 a) n := m_W.wr wσ_10 mcσ_13 (by first | (clear ho gσ wσ kdσ k2σ hh if_1 kc_3 gσ_2 wσ_2 kdσ_2 k2σ_2 z7σ_2 ahpσ_5 bhpσ_5 chpσ_5 dhpσ_5 c_6 kc_7 ahpσ_9 bhpσ_9 chpσ_9 gσ_10 wσ_10 kdσ_10 k2σ_10 z7σ_10 ahpσ_12 bhpσ_12 chpσ_12 dhpσ_12 gσ_13; omega) | omega)
    have kqσ_13 : ∀ j, 654 ≤ j → m_c X σ_13 a j = m_c X σ a j := fun j h => by rw [mcσ_13 j (by first | (clear ho gσ wσ kdσ k2σ hh if_1 kc_3 gσ_2 wσ_2 kdσ_2 k2σ_2 z7σ_2 ahpσ_5 bhpσ_5 chpσ_5 dhpσ_5 c_6 kc_7 ahpσ_9 bhpσ_9 chpσ_9 gσ_10 wσ_10 kdσ_10 k2σ_10 z7σ_10 ahpσ_12 bhpσ_12 chpσ_12 dhpσ_12 gσ_13 wσ_13; omega) | omega), if_neg (by first | (clear ho gσ wσ kdσ k2σ hh if_1 kc_3 gσ_2 wσ_2 kdσ_2 k2σ_2 z7σ_2 ahpσ_5 bhpσ_5 chpσ_5 dhpσ_5 c_6 kc_7 ahpσ_9 bhpσ_9 chpσ_9 gσ_10 wσ_10 kdσ_10 k2σ_10 z7σ_10 ahpσ_12 bhpσ_12 chpσ_12 dhpσ_12 gσ_13 wσ_13; omega) | omega)] <;> exact kqσ_10 j h
    have kdσ_13 : m_KD 40 X σ σ_13 := kdσ_10.ar hσ_13 (q_tk (k' := 34) hI ha rfl (by decide)) (by decide) (by decide)
    have k2σ_13 : m_c X σ_13 a 0 = m_c X σ a 0 ∧ m_c X σ_13 a 2 = m_c X σ a 2 := ⟨by rw [mcσ_13 0 (by decide), if_neg (by first | (clear ho gσ wσ kdσ k2σ hh if_1 kc_3 gσ_2 wσ_2 kdσ_2 k2σ_2 z7σ_2 ahpσ_5 bhpσ_5 chpσ_5 dhpσ_5 c_6 kc_7 ahpσ_9 bhpσ_9 chpσ_9 gσ_10 wσ_10 kdσ_10 k2σ_10 z7σ_10 ahpσ_12 bhpσ_12 chpσ_12 dhpσ_12 gσ_13 wσ_13 kdσ_13; omega) | omega)] <;> exact k2σ_10.1, by rw [mcσ_13 2 (by decide), if_neg (by first | (clear ho gσ wσ kdσ k2σ hh if_1 kc_3 gσ_2 wσ_2 kdσ_2 k2σ_2 z7σ_2 ahpσ_5 bhpσ_5 chpσ_5 dhpσ_5 c_6 kc_7 ahpσ_9 bhpσ_9 chpσ_9 gσ_10 wσ_10 kdσ_10 k2σ_10 z7σ_10 ahpσ_12 bhpσ_12 chpσ_12 dhpσ_12 gσ_13 wσ_13 kdσ_13; omega) | omega)] <;> exact k2σ_10.2⟩
    have z7σ_13 : m_c X σ_13 a 7 = 0 := (by rw [mcσ_13 7 (by decide), if_neg (by first | (clear ho gσ wσ kdσ k2σ hh if_1 kc_3 gσ_2 wσ_2 kdσ_2 k2σ_2 z7σ_2 ahpσ_5 bhpσ_5 chpσ_5 dhpσ_5 c_6 kc_7 ahpσ_9 bhpσ_9 chpσ_9 gσ_10 wσ_10 kdσ_10 k2σ_10 z7σ_10 ahpσ_12 bhpσ_12 chpσ_12 dhpσ_12 gσ_13 wσ_13 kdσ_13 k2σ_13; omega) | omega)]; exact z7σ_10)
    exact q_retv E hr hlk hI ⟨gσ_13, wσ_13, kqσ_13, kdσ_13, z7σ_13, k2σ_13.2, (hF.trans hout), fr_σ_13⟩ dX12_leaves_55
  · skip
    replace hF := q_ifp hF c_6
    refine lv_aload_n hx hb dX12_leaves_24 rfl (lv_at hl 1 rfl) ?_
    refine gs_X12_35_12 E hI ha dX12_leaves_25 ?_
    refine lv_bipush (v := 8) hx hb dX12_leaves_28 (by decide) ?_
    refine lv_iload_n hx hb dX12_leaves_30 rfl (lv_at hl 0 rfl) ?_
    refine q_iastN E hI (q_tk (k' := 34) hI ha rfl (by decide)) ⟨by decide, rfl⟩ (by decide) (by rw [q_lnk (v := 4650) hI (q_tk (k' := 34) hI ha rfl (by decide)) rfl (by decide)]; decide) (show 1 < 2 by decide) (q_inU rfl) dX12_leaves_31 (fun H locs σ_14 hσ_14 hI => ?_)
    replace hF := q_letX hF hσ_14
    have fr_σ_14 := fr_σ_2.si hσ_14 (q_tk (k' := 34) hI ha rfl (by decide)) rfl
    have mcσ_14 := m_wr (v := f_1) (A := 8) hσ_14 (by decide) (by decide)
    have gσ_14 : m_G (m_c X σ_14 a) := m_G.wr gσ_2 mcσ_14 (by first | (clear gσ wσ kdσ k2σ kc_3 gσ_2 wσ_2 kdσ_2 ahpσ_5 bhpσ_5 chpσ_5 dhpσ_5 c_6; omega) | omega)
    have wσ_14 : m_W (m_c X σ_14 a) n := m_W.wr wσ_2 mcσ_14 (by first | (clear ho gσ wσ kdσ k2σ hh if_1 kc_3 gσ_2 wσ_2 kdσ_2 k2σ_2 z7σ_2 ahpσ_5 bhpσ_5 chpσ_5 dhpσ_5 c_6 gσ_14; omega) | omega)
    have kqσ_14 : ∀ j, 654 ≤ j → m_c X σ_14 a j = m_c X σ a j := fun j h => by rw [mcσ_14 j (by first | (clear ho gσ wσ kdσ k2σ hh if_1 kc_3 gσ_2 wσ_2 kdσ_2 k2σ_2 z7σ_2 ahpσ_5 bhpσ_5 chpσ_5 dhpσ_5 c_6 gσ_14 wσ_14; omega) | omega), if_neg (by first | (clear ho gσ wσ kdσ k2σ hh if_1 kc_3 gσ_2 wσ_2 kdσ_2 k2σ_2 z7σ_2 ahpσ_5 bhpσ_5 chpσ_5 dhpσ_5 c_6 gσ_14 wσ_14; omega) | omega)] <;> exact kqσ_2 j h
    have kdσ_14 : m_KD 40 X σ σ_14 := kdσ_2.ar hσ_14 (q_tk (k' := 34) hI ha rfl (by decide)) (by decide) (by decide)
    have k2σ_14 : m_c X σ_14 a 0 = m_c X σ a 0 ∧ m_c X σ_14 a 2 = m_c X σ a 2 := ⟨by rw [mcσ_14 0 (by decide), if_neg (by first | (clear ho gσ wσ kdσ k2σ hh if_1 kc_3 gσ_2 wσ_2 kdσ_2 k2σ_2 z7σ_2 ahpσ_5 bhpσ_5 chpσ_5 dhpσ_5 c_6 gσ_14 wσ_14 kdσ_14; omega) | omega)] <;> exact k2σ_2.1, by rw [mcσ_14 2 (by decide), if_neg (by first | (clear ho gσ wσ kdσ k2σ hh if_1 kc_3 gσ_2 wσ_2 kdσ_2 k2σ_2 z7σ_2 ahpσ_5 bhpσ_5 chpσ_5 dhpσ_5 c_6 gσ_14 wσ_14 kdσ_14; omega) | omega)] <;> exact k2σ_2.2⟩
    have z7σ_14 : m_c X σ_14 a 7 = 0 := (by rw [mcσ_14 7 (by decide), if_neg (by first | (clear ho gσ wσ kdσ k2σ hh if_1 kc_3 gσ_2 wσ_2 kdσ_2 k2σ_2 z7σ_2 ahpσ_5 bhpσ_5 chpσ_5 dhpσ_5 c_6 gσ_14 wσ_14 kdσ_14 k2σ_14; omega) | omega)]; exact z7σ_2)
    refine lv_aload_n hx hb dX12_leaves_32 rfl (lv_at hl 1 rfl) ?_
    refine gs_X12_35_12 E hI ha dX12_leaves_33 ?_
    refine lv_iconst (v := 5) hx hb dX12_leaves_36 (by decide) ?_
    refine lv_aload_n hx hb dX12_leaves_37 rfl (lv_at hl 1 rfl) ?_
    refine lv_iconst (v := 1) hx hb dX12_leaves_38 (by decide) ?_
    have kc_15 : (1 : Int32).toInt = 1 := rfl
    refine q_ci (q_runV (As := [.int 1]) (rest := [.int 5, .ref (q_rf X a 20)]) E (hml.trans hl.1.symm) hI (c_X12_nextKind l X σ_14 a (1 : Int32) ha gσ_14) kv_X12_315 ha ⟨rfl, by decide⟩ (show vwCl[11]? = some (RX12, TX12, 46) from rfl) rfl ⟨Nat.le_of_ble_eq_true rfl, Nat.le_of_ble_eq_true rfl⟩ ⟨Nat.le_refl _, Nat.le_refl _⟩ rfl (Nat.le_of_ble_eq_true rfl) dX12_leaves_39) hI (by decide) (fun r_16 σ_17 H locs hpσ_17 hkσ_17 hI => ?_)
    obtain ⟨ahpσ_17, bhpσ_17, chpσ_17⟩ := hpσ_17
    rw [ahpσ_17] at hI
    replace hF := q_letX hF chpσ_17
    refine q_iastN E hI (q_tk (k' := 34) hI ha rfl (by decide)) ⟨by decide, rfl⟩ (by decide) (by rw [q_lnk (v := 4650) hI (q_tk (k' := 34) hI ha rfl (by decide)) rfl (by decide)]; decide) (show 1 < 2 by decide) (q_inU rfl) dX12_leaves_42 (fun H locs σ_18 hσ_18 hI => ?_)
    replace hF := q_letX hF hσ_18
    have fr_σ_18 := fr_σ_14.si hσ_18 (q_tk (k' := 34) hI ha rfl (by decide)) rfl
    have mcσ_18 := m_wr (v := r_16) (A := 5) hσ_18 (by decide) (by decide)
    have gσ_18 : m_G (m_c X σ_18 a) := m_G.wr gσ_14 mcσ_18 (by first | (clear ho gσ wσ kdσ k2σ hh if_1 kc_3 gσ_2 wσ_2 kdσ_2 k2σ_2 z7σ_2 ahpσ_5 bhpσ_5 chpσ_5 dhpσ_5 c_6 gσ_14 wσ_14 kdσ_14 k2σ_14 kc_15 ahpσ_17 chpσ_17; omega) | omega)
    have wσ_18 : m_W (m_c X σ_18 a) n := m_W.wr wσ_14 mcσ_18 (by first | (clear ho gσ wσ kdσ k2σ hh if_1 kc_3 gσ_2 wσ_2 kdσ_2 k2σ_2 z7σ_2 ahpσ_5 bhpσ_5 chpσ_5 dhpσ_5 c_6 gσ_14 wσ_14 kdσ_14 k2σ_14 z7σ_14 kc_15 ahpσ_17 bhpσ_17 chpσ_17 gσ_18; omega) | omega)
    have kqσ_18 : ∀ j, 654 ≤ j → m_c X σ_18 a j = m_c X σ a j := fun j h => by rw [mcσ_18 j (by first | (clear ho gσ wσ kdσ k2σ hh if_1 kc_3 gσ_2 wσ_2 kdσ_2 k2σ_2 z7σ_2 ahpσ_5 bhpσ_5 chpσ_5 dhpσ_5 c_6 gσ_14 wσ_14 kdσ_14 k2σ_14 z7σ_14 kc_15 ahpσ_17 bhpσ_17 chpσ_17 gσ_18 wσ_18; omega) | omega), if_neg (by first | (clear ho gσ wσ kdσ k2σ hh if_1 kc_3 gσ_2 wσ_2 kdσ_2 k2σ_2 z7σ_2 ahpσ_5 bhpσ_5 chpσ_5 dhpσ_5 c_6 gσ_14 wσ_14 kdσ_14 k2σ_14 z7σ_14 kc_15 ahpσ_17 bhpσ_17 chpσ_17 gσ_18 wσ_18; omega) | omega)] <;> exact kqσ_14 j h
    have kdσ_18 : m_KD 40 X σ σ_18 := kdσ_14.ar hσ_18 (q_tk (k' := 34) hI ha rfl (by decide)) (by decide) (by decide)
    have k2σ_18 : m_c X σ_18 a 0 = m_c X σ a 0 ∧ m_c X σ_18 a 2 = m_c X σ a 2 := ⟨by rw [mcσ_18 0 (by decide), if_neg (by first | (clear ho gσ wσ kdσ k2σ hh if_1 kc_3 gσ_2 wσ_2 kdσ_2 k2σ_2 z7σ_2 ahpσ_5 bhpσ_5 chpσ_5 dhpσ_5 c_6 gσ_14 wσ_14 kdσ_14 k2σ_14 z7σ_14 kc_15 ahpσ_17 bhpσ_17 chpσ_17 gσ_18 wσ_18 kdσ_18; omega) | omega)] <;> exact k2σ_14.1, by rw [mcσ_18 2 (by decide), if_neg (by first | (clear ho gσ wσ kdσ k2σ hh if_1 kc_3 gσ_2 wσ_2 kdσ_2 k2σ_2 z7σ_2 ahpσ_5 bhpσ_5 chpσ_5 dhpσ_5 c_6 gσ_14 wσ_14 kdσ_14 k2σ_14 z7σ_14 kc_15 ahpσ_17 bhpσ_17 chpσ_17 gσ_18 wσ_18 kdσ_18; omega) | omega)] <;> exact k2σ_14.2⟩
    have z7σ_18 : m_c X σ_18 a 7 = 0 := (by rw [mcσ_18 7 (by decide), if_neg (by first | (clear ho gσ wσ kdσ k2σ hh if_1 kc_3 gσ_2 wσ_2 kdσ_2 k2σ_2 z7σ_2 ahpσ_5 bhpσ_5 chpσ_5 dhpσ_5 c_6 gσ_14 wσ_14 kdσ_14 k2σ_14 z7σ_14 kc_15 ahpσ_17 bhpσ_17 chpσ_17 gσ_18 wσ_18 kdσ_18 k2σ_18; omega) | omega)]; exact z7σ_14)
    refine lv_aload_n hx hb dX12_leaves_43 rfl (lv_at hl 1 rfl) ?_
    refine gs_X12_35_12 E hI ha dX12_leaves_44 ?_
    refine lv_bipush (v := 6) hx hb dX12_leaves_47 (by decide) ?_
    refine lv_aload_n hx hb dX12_leaves_49 rfl (lv_at hl 1 rfl) ?_
    refine lv_iload_n hx hb dX12_leaves_50 rfl (lv_at hl 0 rfl) ?_
    refine q_ci (q_runV (As := [.int f_1]) (rest := [.int 6, .ref (q_rf X a 20)]) E (hml.trans hl.1.symm) hI (c_X12_behindOf l X σ_18 a f_1 ha gσ_18 (by first | (clear gσ wσ kdσ k2σ kc_3 gσ_2 wσ_2 kdσ_2 z7σ_2 ahpσ_5 bhpσ_5 chpσ_5 dhpσ_5 c_6 gσ_14 wσ_14 kdσ_14 z7σ_14 kc_15 ahpσ_17 bhpσ_17 chpσ_17 gσ_18 wσ_18 kdσ_18 z7σ_18; omega) | omega)) kv_X12_319 ha ⟨rfl, by decide⟩ (show vwCl[11]? = some (RX12, TX12, 46) from rfl) rfl ⟨Nat.le_of_ble_eq_true rfl, Nat.le_of_ble_eq_true rfl⟩ ⟨Nat.le_refl _, Nat.le_refl _⟩ rfl (Nat.le_of_ble_eq_true rfl) dX12_leaves_51) hI (by decide) (fun r_19 σ_20 H locs hpσ_20 hkσ_20 hI => ?_)
    obtain ⟨ahpσ_20, bhpσ_20, chpσ_20, dhpσ_20⟩ := hpσ_20
    rw [ahpσ_20] at hI
    replace hF := q_letX hF dhpσ_20
    refine q_iastN E hI (q_tk (k' := 34) hI ha rfl (by decide)) ⟨by decide, rfl⟩ (by decide) (by rw [q_lnk (v := 4650) hI (q_tk (k' := 34) hI ha rfl (by decide)) rfl (by decide)]; decide) (show 1 < 2 by decide) (q_inU rfl) dX12_leaves_54 (fun H locs σ_21 hσ_21 hI => ?_)
    replace hF := q_letX hF hσ_21
    have fr_σ_21 := fr_σ_18.si hσ_21 (q_tk (k' := 34) hI ha rfl (by decide)) rfl
    have mcσ_21 := m_wr (v := r_19) (A := 6) hσ_21 (by decide) (by decide)
    have gσ_21 : m_G (m_c X σ_21 a) := m_G.wr gσ_18 mcσ_21 (by first | (clear ho gσ wσ kdσ k2σ hh if_1 kc_3 gσ_2 wσ_2 kdσ_2 k2σ_2 z7σ_2 ahpσ_5 bhpσ_5 chpσ_5 dhpσ_5 c_6 gσ_14 wσ_14 kdσ_14 k2σ_14 z7σ_14 kc_15 ahpσ_17 bhpσ_17 chpσ_17 gσ_18 wσ_18 kdσ_18 k2σ_18 ahpσ_20 chpσ_20 dhpσ_20; omega) | omega)
    have wσ_21 : m_W (m_c X σ_21 a) n := m_W.wr wσ_18 mcσ_21 (by first | (clear ho gσ wσ kdσ k2σ hh if_1 kc_3 gσ_2 wσ_2 kdσ_2 k2σ_2 z7σ_2 ahpσ_5 bhpσ_5 chpσ_5 dhpσ_5 c_6 gσ_14 wσ_14 kdσ_14 k2σ_14 z7σ_14 kc_15 ahpσ_17 bhpσ_17 chpσ_17 gσ_18 wσ_18 kdσ_18 k2σ_18 z7σ_18 ahpσ_20 bhpσ_20 chpσ_20 dhpσ_20 gσ_21; omega) | omega)
    have kqσ_21 : ∀ j, 654 ≤ j → m_c X σ_21 a j = m_c X σ a j := fun j h => by rw [mcσ_21 j (by first | (clear ho gσ wσ kdσ k2σ hh if_1 kc_3 gσ_2 wσ_2 kdσ_2 k2σ_2 z7σ_2 ahpσ_5 bhpσ_5 chpσ_5 dhpσ_5 c_6 gσ_14 wσ_14 kdσ_14 k2σ_14 z7σ_14 kc_15 ahpσ_17 bhpσ_17 chpσ_17 gσ_18 wσ_18 kdσ_18 k2σ_18 z7σ_18 ahpσ_20 bhpσ_20 chpσ_20 dhpσ_20 gσ_21 wσ_21; omega) | omega), if_neg (by first | (clear ho gσ wσ kdσ k2σ hh if_1 kc_3 gσ_2 wσ_2 kdσ_2 k2σ_2 z7σ_2 ahpσ_5 bhpσ_5 chpσ_5 dhpσ_5 c_6 gσ_14 wσ_14 kdσ_14 k2σ_14 z7σ_14 kc_15 ahpσ_17 bhpσ_17 chpσ_17 gσ_18 wσ_18 kdσ_18 k2σ_18 z7σ_18 ahpσ_20 bhpσ_20 chpσ_20 dhpσ_20 gσ_21 wσ_21; omega) | omega)] <;> exact kqσ_18 j h
    have kdσ_21 : m_KD 40 X σ σ_21 := kdσ_18.ar hσ_21 (q_tk (k' := 34) hI ha rfl (by decide)) (by decide) (by decide)
    have k2σ_21 : m_c X σ_21 a 0 = m_c X σ a 0 ∧ m_c X σ_21 a 2 = m_c X σ a 2 := ⟨by rw [mcσ_21 0 (by decide), if_neg (by first | (clear ho gσ wσ kdσ k2σ hh if_1 kc_3 gσ_2 wσ_2 kdσ_2 k2σ_2 z7σ_2 ahpσ_5 bhpσ_5 chpσ_5 dhpσ_5 c_6 gσ_14 wσ_14 kdσ_14 k2σ_14 z7σ_14 kc_15 ahpσ_17 bhpσ_17 chpσ_17 gσ_18 wσ_18 kdσ_18 k2σ_18 z7σ_18 ahpσ_20 bhpσ_20 chpσ_20 dhpσ_20 gσ_21 wσ_21 kdσ_21; omega) | omega)] <;> exact k2σ_18.1, by rw [mcσ_21 2 (by decide), if_neg (by first | (clear ho gσ wσ kdσ k2σ hh if_1 kc_3 gσ_2 wσ_2 kdσ_2 k2σ_2 z7σ_2 ahpσ_5 bhpσ_5 chpσ_5 dhpσ_5 c_6 gσ_14 wσ_14 kdσ_14 k2σ_14 z7σ_14 kc_15 ahpσ_17 bhpσ_17 chpσ_17 gσ_18 wσ_18 kdσ_18 k2σ_18 z7σ_18 ahpσ_20 bhpσ_20 chpσ_20 dhpσ_20 gσ_21 wσ_21 kdσ_21; omega) | omega)] <;> exact k2σ_18.2⟩
    have z7σ_21 : m_c X σ_21 a 7 = 0 := (by rw [mcσ_21 7 (by decide), if_neg (by first | (clear ho gσ wσ kdσ k2σ hh if_1 kc_3 gσ_2 wσ_2 kdσ_2 k2σ_2 z7σ_2 ahpσ_5 bhpσ_5 chpσ_5 dhpσ_5 c_6 gσ_14 wσ_14 kdσ_14 k2σ_14 z7σ_14 kc_15 ahpσ_17 bhpσ_17 chpσ_17 gσ_18 wσ_18 kdσ_18 k2σ_18 z7σ_18 ahpσ_20 bhpσ_20 chpσ_20 dhpσ_20 gσ_21 wσ_21 kdσ_21 k2σ_21; omega) | omega)]; exact z7σ_18)
    exact q_retv E hr hlk hI ⟨gσ_21, wσ_21, kqσ_21, kdσ_21, z7σ_21, k2σ_21.2, (hF.trans hout), fr_σ_21⟩ dX12_leaves_55

set_option maxRecDepth 100000 in
set_option maxHeartbeats 4000000 in
theorem c_X12_takes (l : Launch) (X : XW) (σ : ST) (a : Nat) (v1 : Int32) (ha : q_kd X a = 12) (hG : m_G (m_c X σ a)) (h0 : 0 ≤ v1.toInt ∧ v1.toInt ≤ 5) (h7 : m_c X σ a 7 = 0) : Met l yX12_takes (q_ws yX12_takes cX12_takes 5 none) (q_rm 1 20) (q_P X σ [.ref a, .int v1]) (q_Qv X 1 σ (fun (σ' : ST) => (m_G (m_c X σ' a)) ∧ (∀ j, 0 ≤ j → (j < 9 ∨ (10 ≤ j ∧ j < 34) ∨ 654 ≤ j) → m_c X σ' a j = m_c X σ a j) ∧ (m_KD 40 X σ σ') ∧ σ' = F_X12_takes X σ a v1 ∧ q_ow [(34, 99)] [] X σ σ')) 0 0 (q_reg X) := by
  refine q_met 1 (by first | exact rfl | decide +kernel) rfl (Nat.le_of_ble_eq_true rfl) (fun p e s m below meth c E hml hr hlk hI ls hl => ?_)
  have hx := E.1
  have hb := E.2.1
  have hl : lv_has ls 5 [(0, .ref a), (1, .int v1)] := hl
  have kdσ : m_KD 40 X σ σ := m_KD.rf
  have fr_σ : q_ow [(34, 99)] [] X σ σ := q_ow.rf
  have hh := hG.hd
  obtain ⟨out, hout⟩ : ∃ o, o = F_X12_takes X σ a v1 := ⟨_, rfl⟩
  have hF := hout.symm
  unfold F_X12_takes at hF
  refine lv_iconst (v := 0) hx hb dX12_takes_0 (by decide) ?_
  refine lv_istore_n (lv' := [(2, .int 0), (0, .ref a), (1, .int v1)]) hx hb dX12_takes_1 rfl hl (by decide) rfl (fun ls hl => ?_)
  have L_2_3 : ∀ (k_3 : Nat) (x_1 : Int32) (σ_2 : ST) (H : Heap) (locs : List Loc) (ls : Array Slot), (2147483647 - x_1.toInt).toNat < k_3 → (0 ≤ x_1.toInt ∧ x_1.toInt ≤ m_c X σ a 9) → (m_tk (m_c X σ a) (m_c X σ_2 a) v1.toInt x_1.toInt 0) → (q_ow [(34, 99)] [] X σ σ_2) → (m_KD 40 X σ σ_2) → (F_X12_takes_L2_1 X a v1 k_3 x_1 σ_2 = out) → q_I X 1 σ s.heap locs σ_2 H → lv_has ls 5 [(0, .ref a), (1, .int v1), (2, .int x_1)] → W p l e (q_rm 1 20) s m ([.ref a, .int v1] : List Value).toArray below meth c H locs 0 0 (MQ below (q_Qv X 1 σ (fun (σ' : ST) => (m_G (m_c X σ' a)) ∧ (∀ j, 0 ≤ j → (j < 9 ∨ (10 ≤ j ∧ j < 34) ∨ 654 ≤ j) → m_c X σ' a j = m_c X σ a j) ∧ (m_KD 40 X σ σ') ∧ σ' = F_X12_takes X σ a v1 ∧ q_ow [(34, 99)] [] X σ σ')) ([.ref a, .int v1] : List Value).toArray s 0 0 (q_reg X)) (F0 m 2 ls []) := by
    clear hF
    intro k_3
    induction k_3 with
    | zero =>
      intro x_1 σ_2 H locs ls hms
      try clear kdσ; try clear fr_σ
      exact absurd hms (Nat.not_lt_zero _)
    | succ k_3 ih2 =>
      intro x_1 σ_2 H locs ls hm2 hge2 tkσ_2 fr_σ_2 kdσ_2 hF hI hl
      replace hF := (F_X12_takes_L2_1_s).symm.trans hF
      unfold F_X12_takes_B2_1 at hF
      have e9 := tkσ_2.1 9 (by decide) (by first | (clear h0 h7 hh hm2 hge2 kdσ_2; omega) | omega)
      refine lv_iload_n hx hb dX12_takes_2 rfl (lv_at hl 2 rfl) ?_
      refine lv_aload_n hx hb dX12_takes_3 rfl (lv_at hl 0 rfl) ?_
      refine gs_X12_35_12 E hI ha dX12_takes_4 ?_
      refine lv_bipush (v := 9) hx hb dX12_takes_7 (by decide) ?_
      refine q_iald E hI (q_tk (k' := 34) hI ha rfl (by decide)) ⟨by decide, rfl⟩ (by decide) (by rw [q_lnk (v := 4650) hI (q_tk (k' := 34) hI ha rfl (by decide)) rfl (by decide)]; decide) dX12_takes_9 ?_
      refine lv_topi (fun f_4 ef_4 => ?_)
      replace hF := q_letX hF ef_4
      have if_4 : f_4.toInt = m_c X σ_2 a 9 := m_rd ef_4 (by decide)
      have gc_5_x_1 := q_rng x_1
      have gc_5_f_4 := q_rng f_4
      refine q_icmp_ge (A := x_1.toInt) (B := f_4.toInt) E rfl rfl (tgt := 74) dX12_takes_10 (by decide) (fun c_5 => ?_) (fun c_5 => ?_)
      · skip
        replace hF := q_ifn hF (Int.not_lt.mpr c_5)
        unfold F_X12_takes_E74_2 at hF
        refine lv_aload_n hx hb dX12_takes_74 rfl (lv_at hl 0 rfl) ?_
        refine gs_X12_35_12 E hI ha dX12_takes_75 ?_
        refine lv_bipush (v := 9) hx hb dX12_takes_78 (by decide) ?_
        refine lv_iconst (v := 0) hx hb dX12_takes_80 (by decide) ?_
        have kc_7 : (0 : Int32).toInt = 0 := rfl
        refine q_iastN E hI (q_tk (k' := 34) hI ha rfl (by decide)) ⟨by decide, rfl⟩ (by decide) (by rw [q_lnk (v := 4650) hI (q_tk (k' := 34) hI ha rfl (by decide)) rfl (by decide)]; decide) (show 1 < 2 by decide) (q_inU rfl) dX12_takes_81 (fun H locs σ_6 hσ_6 hI => ?_)
        replace hF := q_letX hF hσ_6
        have fr_σ_6 := fr_σ_2.si hσ_6 (q_tk (k' := 34) hI ha rfl (by decide)) rfl
        have mcσ_6 := m_wr (v := (0 : Int32)) (A := 9) hσ_6 (by decide) (by decide)
        have kdσ_6 : m_KD 40 X σ σ_6 := kdσ_2.ar hσ_6 (q_tk (k' := 34) hI ha rfl (by decide)) (by decide) (by decide)
        have tdσ_6 := (show m_tk (m_c X σ a) (m_c X σ_2 a) v1.toInt (m_c X σ a 9) 0 from (by have q : x_1.toInt = m_c X σ a 9 := (by first | (clear h0 h7 hh hm2 kdσ_2 gc_5_x_1 gc_5_f_4 kc_7 kdσ_6; omega) | omega); rw [← q]; exact tkσ_2)).done hG (by first | (clear h0 h7 hh hm2 hge2 kdσ_2 if_4 gc_5_x_1 gc_5_f_4 c_5 kc_7 kdσ_6; omega) | omega) h7 mcσ_6 rfl
        exact q_retv E hr hlk hI ⟨tdσ_6.1, tdσ_6.2.1, kdσ_6, (hF.trans hout), fr_σ_6⟩ dX12_takes_82
      · skip
        replace hF := q_ifp hF c_5
        have hy := hG.2.2.1 x_1.toInt (by first | (clear h0 h7 hh hm2 kdσ_2 if_4 gc_5_f_4 c_5; omega) | omega) (by first | (clear h0 h7 hh hm2 hge2 kdσ_2 gc_5_x_1 gc_5_f_4; omega) | omega)
        have hy1 := hy.1
        refine lv_iload_n hx hb dX12_takes_13 rfl (lv_at hl 2 rfl) ?_
        refine q_ci (q_runS (As := [.int x_1]) (rest := []) E (hml.trans hl.1.symm) hI (c_X12_laid l X σ_2 x_1 (by first | (clear h0 h7 hm2 kdσ_2 gc_5_f_4 hy hy1; omega) | omega)) ks_X12_279 rfl ⟨Nat.le_of_ble_eq_true rfl, Nat.le_of_ble_eq_true rfl⟩ ⟨Nat.le_refl _, Nat.le_refl _⟩ rfl (Nat.le_of_ble_eq_true rfl) dX12_takes_14) hI (by decide) (fun r_8 σ_9 H locs hpσ_9 hkσ_9 hI => ?_)
        obtain ⟨ahpσ_9, bhpσ_9, chpσ_9⟩ := hpσ_9
        rw [ahpσ_9] at hI
        replace hF := q_letX hF chpσ_9
        have ir_8 : r_8.toInt = (94 + 7 * x_1.toInt) := (by omega)
        refine lv_istore_n (lv' := [(3, .int r_8), (0, .ref a), (1, .int v1), (2, .int x_1)]) hx hb dX12_takes_17 rfl hl (by decide) rfl (fun ls hl => ?_)
        refine lv_iconst (v := 0) hx hb dX12_takes_18 (by decide) ?_
        refine lv_istore (lv' := [(4, .int 0), (3, .int r_8), (0, .ref a), (1, .int v1), (2, .int x_1)]) hx hb dX12_takes_19 hl (by decide) rfl (fun ls hl => ?_)
        have L_21_12 : ∀ (k_12 : Nat) (x_10 : Int32) (σ_11 : ST) (H : Heap) (locs : List Loc) (ls : Array Slot), (2147483647 - x_10.toInt).toNat < k_12 → (0 ≤ x_10.toInt ∧ x_10.toInt ≤ m_c X σ a (94 + 7 * x_1.toInt + 2)) → (m_tk (m_c X σ a) (m_c X σ_11 a) v1.toInt x_1.toInt x_10.toInt) → (q_ow [(34, 99)] [] X σ σ_11) → (m_KD 40 X σ σ_11) → (F_X12_takes_L21_3 X r_8 a v1 x_1 (F_X12_takes_L2_1 X a v1 k_3) k_12 x_10 σ_11 = out) → q_I X 1 σ s.heap locs σ_11 H → lv_has ls 5 [(0, .ref a), (1, .int v1), (2, .int x_1), (3, .int r_8), (4, .int x_10)] → W p l e (q_rm 1 20) s m ([.ref a, .int v1] : List Value).toArray below meth c H locs 0 0 (MQ below (q_Qv X 1 σ (fun (σ' : ST) => (m_G (m_c X σ' a)) ∧ (∀ j, 0 ≤ j → (j < 9 ∨ (10 ≤ j ∧ j < 34) ∨ 654 ≤ j) → m_c X σ' a j = m_c X σ a j) ∧ (m_KD 40 X σ σ') ∧ σ' = F_X12_takes X σ a v1 ∧ q_ow [(34, 99)] [] X σ σ')) ([.ref a, .int v1] : List Value).toArray s 0 0 (q_reg X)) (F0 m 21 ls []) := by
          clear hF
          intro k_12
          induction k_12 with
          | zero =>
            intro x_10 σ_11 H locs ls hms
            try clear ahpσ_9
            exact absurd hms (Nat.not_lt_zero _)
          | succ k_12 ih21 =>
            intro x_10 σ_11 H locs ls hm21 hge21 tkσ_11 fr_σ_11 kdσ_11 hF hI hl
            replace hF := (F_X12_takes_L21_3_s).symm.trans hF
            unfold F_X12_takes_B21_3 at hF
            have em := tkσ_11.1 (94 + 7 * x_1.toInt + 2) (by first | (clear h0 h7 hh hm2 kdσ_2 if_4 gc_5_f_4 c_5 hy hy1 bhpσ_9 chpσ_9 ir_8 hm21 hge21 kdσ_11; omega) | omega) (by first | (clear h0 h7 hh hm2 kdσ_2 if_4 gc_5_f_4 c_5 hy hy1 bhpσ_9 chpσ_9 ir_8 hm21 hge21 kdσ_11; omega) | omega)
            refine lv_iload hx hb dX12_takes_21 (lv_at hl 4 rfl) ?_
            refine lv_aload_n hx hb dX12_takes_23 rfl (lv_at hl 0 rfl) ?_
            refine gs_X12_35_12 E hI ha dX12_takes_24 ?_
            refine lv_iload_n hx hb dX12_takes_27 rfl (lv_at hl 3 rfl) ?_
            refine lv_iconst (v := 2) hx hb dX12_takes_28 (by decide) ?_
            refine lv_iadd hx hb dX12_takes_29 ?_
            refine lv_topi (fun z_13 ez_13 => ?_)
            replace hF := q_letX hF ez_13
            have iz_13 := q_addI (A := (94 + 7 * x_1.toInt)) (B := 2) ez_13 ir_8 (by decide) (by first | (clear h0 h7 hh hm2 kdσ_2 if_4 gc_5_f_4 c_5 hy hy1 bhpσ_9 chpσ_9 ir_8 hm21 hge21 kdσ_11 em; omega) | omega) (by first | (clear h0 h7 hm2 kdσ_2 gc_5_f_4 hy hy1 bhpσ_9 chpσ_9 ir_8 hm21 hge21 kdσ_11 em; omega) | omega)
            refine q_iald E hI (q_tk (k' := 34) hI ha rfl (by decide)) ⟨by decide, rfl⟩ (by first | (clear h0 h7 hh hm2 kdσ_2 if_4 gc_5_f_4 c_5 hy hy1 bhpσ_9 chpσ_9 ir_8 hm21 hge21 kdσ_11 em; omega) | omega) (by rw [q_lnk (v := 4650) hI (q_tk (k' := 34) hI ha rfl (by decide)) rfl (by decide)]; omega) dX12_takes_30 ?_
            refine lv_topi (fun f_14 ef_14 => ?_)
            replace hF := q_letX hF ef_14
            have if_14 : f_14.toInt = m_c X σ_11 a ((94 + 7 * x_1.toInt) + 2) := m_rd ef_14 iz_13
            have gc_15_x_10 := q_rng x_10
            have gc_15_f_14 := q_rng f_14
            refine q_icmp_ge (A := x_10.toInt) (B := f_14.toInt) E rfl rfl (tgt := 68) dX12_takes_31 (by decide) (fun c_15 => ?_) (fun c_15 => ?_)
            · skip
              replace hF := q_ifn hF (Int.not_lt.mpr c_15)
              unfold F_X12_takes_E68_4 at hF
              obtain ⟨z_16, ez_16⟩ : ∃ y : Int32, y = x_1 + 1 := ⟨_, rfl⟩
              replace hF := q_letX hF ez_16
              refine lv_iinc (v := z_16) (lv' := [(2, .int z_16), (0, .ref a), (1, .int v1), (3, .int r_8), (4, .int x_10)]) hx hb dX12_takes_68 hl (k := 2) rfl (by rw [ez_16]; rfl) (by decide) rfl (fun ls hl => ?_)
              have iz_16 : z_16.toInt = x_1.toInt + 1 := q_inc ez_16 (by first | (clear h0 h7 hm2 kdσ_2 gc_5_f_4 hy hy1 bhpσ_9 chpσ_9 ir_8 hm21 hge21 kdσ_11 em iz_13 if_14 gc_15_x_10 gc_15_f_14 c_15; omega) | omega)
              refine lv_goto (tgt := 2) hx hb dX12_takes_71 (by decide) ?_
              exact ih2 z_16 σ_11 _ _ ls (by first | (clear h0 h7 kdσ_2 gc_5_f_4 hy1 bhpσ_9 chpσ_9 ir_8 hm21 kdσ_11 iz_13 gc_15_x_10 gc_15_f_14; omega) | omega) (by first | (clear h0 h7 hh hm2 kdσ_2 gc_5_f_4 hy hy1 bhpσ_9 chpσ_9 ir_8 hm21 hge21 kdσ_11 em iz_13 if_14 gc_15_x_10 gc_15_f_14 c_15; omega) | omega) (by rw [iz_16]; exact tkσ_11.lay (by first | (clear h0 h7 hh hm2 kdσ_2 if_4 gc_5_f_4 c_5 hy hy1 bhpσ_9 chpσ_9 ir_8 hm21 hge21 kdσ_11 em iz_13 if_14 gc_15_x_10 gc_15_f_14 c_15; omega) | omega) (by first | (clear h0 h7 hh hm2 hge2 kdσ_2 if_4 gc_5_x_1 gc_5_f_4 c_5 hy hy1 bhpσ_9 chpσ_9 ir_8 hm21 kdσ_11 iz_13 gc_15_x_10 gc_15_f_14 iz_16; omega) | omega)) fr_σ_11 kdσ_11 hF hI (lv_sub hl [1, 2, 0] rfl)
            · skip
              replace hF := q_ifp hF c_15
              refine lv_aload_n hx hb dX12_takes_34 rfl (lv_at hl 0 rfl) ?_
              refine gs_X12_35_12 E hI ha dX12_takes_35 ?_
              refine lv_bipush (v := 34) hx hb dX12_takes_38 (by decide) ?_
              refine lv_bipush (v := 10) hx hb dX12_takes_40 (by decide) ?_
              refine lv_iload_n hx hb dX12_takes_42 rfl (lv_at hl 1 rfl) ?_
              refine lv_imul hx hb dX12_takes_43 ?_
              refine lv_topi (fun z_17 ez_17 => ?_)
              replace hF := q_letX hF ez_17
              have iz_17 := q_mulI (A := 10) (B := v1.toInt) ez_17 (by decide) rfl (by first | (clear h0 h7 hh hm2 hge2 kdσ_2 if_4 gc_5_x_1 gc_5_f_4 c_5 hy hy1 bhpσ_9 chpσ_9 ir_8 hm21 hge21 kdσ_11 em iz_13 if_14 gc_15_x_10 gc_15_f_14 c_15; omega) | omega) (by first | (clear h0 h7 hh hm2 hge2 kdσ_2 if_4 gc_5_x_1 gc_5_f_4 c_5 hy hy1 bhpσ_9 chpσ_9 ir_8 hm21 hge21 kdσ_11 em iz_13 if_14 gc_15_x_10 gc_15_f_14 c_15; omega) | omega)
              refine lv_iadd hx hb dX12_takes_44 ?_
              refine lv_topi (fun z_18 ez_18 => ?_)
              replace hF := q_letX hF ez_18
              have iz_18 := q_addI (A := 34) (B := (10 * v1.toInt)) ez_18 (by decide) iz_17 (by first | (clear h0 h7 hh hm2 hge2 kdσ_2 if_4 gc_5_x_1 gc_5_f_4 c_5 hy hy1 bhpσ_9 chpσ_9 ir_8 hm21 hge21 kdσ_11 em iz_13 if_14 gc_15_x_10 gc_15_f_14 c_15 iz_17; omega) | omega) (by first | (clear h0 h7 hh hm2 hge2 kdσ_2 if_4 gc_5_x_1 gc_5_f_4 c_5 hy hy1 bhpσ_9 chpσ_9 ir_8 hm21 hge21 kdσ_11 em iz_13 if_14 gc_15_x_10 gc_15_f_14 c_15 iz_17; omega) | omega)
              refine lv_aload_n hx hb dX12_takes_45 rfl (lv_at hl 0 rfl) ?_
              refine gs_X12_35_12 E hI ha dX12_takes_46 ?_
              refine lv_iload_n hx hb dX12_takes_49 rfl (lv_at hl 3 rfl) ?_
              refine lv_iconst (v := 3) hx hb dX12_takes_50 (by decide) ?_
              refine lv_iadd hx hb dX12_takes_51 ?_
              refine lv_topi (fun z_19 ez_19 => ?_)
              replace hF := q_letX hF ez_19
              have iz_19 := q_addI (A := (94 + 7 * x_1.toInt)) (B := 3) ez_19 ir_8 (by decide) (by first | (clear h0 h7 hh hm2 kdσ_2 if_4 gc_5_f_4 c_5 hy hy1 bhpσ_9 chpσ_9 ir_8 hm21 hge21 kdσ_11 em iz_13 if_14 gc_15_x_10 gc_15_f_14 c_15 iz_17 iz_18; omega) | omega) (by first | (clear h0 h7 hm2 kdσ_2 gc_5_f_4 hy hy1 bhpσ_9 chpσ_9 ir_8 hm21 hge21 kdσ_11 em iz_13 if_14 gc_15_x_10 gc_15_f_14 c_15 iz_17 iz_18; omega) | omega)
              refine lv_iload hx hb dX12_takes_52 (lv_at hl 4 rfl) ?_
              refine lv_iadd hx hb dX12_takes_54 ?_
              refine lv_topi (fun z_20 ez_20 => ?_)
              replace hF := q_letX hF ez_20
              have iz_20 := q_addI (A := ((94 + 7 * x_1.toInt) + 3)) (B := x_10.toInt) ez_20 iz_19 rfl (by first | (clear h0 h7 hh hm2 kdσ_2 if_4 gc_5_f_4 c_5 hy hy1 bhpσ_9 chpσ_9 ir_8 hm21 kdσ_11 em iz_13 if_14 gc_15_f_14 c_15 iz_17 iz_18 iz_19; omega) | omega) (by first | (clear h0 h7 hm2 hge2 kdσ_2 gc_5_x_1 gc_5_f_4 hy1 bhpσ_9 chpσ_9 ir_8 hm21 kdσ_11 iz_13 gc_15_f_14 iz_17 iz_18 iz_19; omega) | omega)
              refine q_iald E hI (q_tk (k' := 34) hI ha rfl (by decide)) ⟨by decide, rfl⟩ (by first | (clear h0 h7 hh hm2 kdσ_2 if_4 gc_5_f_4 c_5 hy1 bhpσ_9 chpσ_9 ir_8 hm21 kdσ_11 iz_13 gc_15_f_14 iz_17 iz_18 iz_19; omega) | omega) (by rw [q_lnk (v := 4650) hI (q_tk (k' := 34) hI ha rfl (by decide)) rfl (by decide)]; omega) dX12_takes_55 ?_
              refine lv_topi (fun f_21 ef_21 => ?_)
              replace hF := q_letX hF ef_21
              have if_21 : f_21.toInt = m_c X σ_11 a (((94 + 7 * x_1.toInt) + 3) + x_10.toInt) := m_rd ef_21 iz_20
              have ecf_21 := tkσ_11.1 (94 + 7 * x_1.toInt + 3 + x_10.toInt) (by first | (clear h0 h7 hh hm2 kdσ_2 if_4 gc_5_f_4 c_5 hy1 bhpσ_9 chpσ_9 ir_8 hm21 kdσ_11 iz_13 gc_15_f_14 iz_17 iz_18 iz_19 if_21; omega) | omega) (by first | (clear h0 h7 hh hm2 kdσ_2 if_4 gc_5_f_4 c_5 hy1 bhpσ_9 chpσ_9 ir_8 hm21 kdσ_11 iz_13 gc_15_f_14 iz_17 iz_18 iz_19 if_21; omega) | omega)
              have hcf_21 := hy.2 x_10.toInt (by first | (clear h0 h7 hh hm2 hge2 kdσ_2 if_4 gc_5_x_1 gc_5_f_4 c_5 hy hy1 bhpσ_9 chpσ_9 ir_8 hm21 kdσ_11 em iz_13 if_14 gc_15_f_14 c_15 iz_17 iz_18 iz_19 if_21 ecf_21; omega) | omega) (by first | (clear h0 h7 hh hm2 hge2 kdσ_2 if_4 gc_5_x_1 gc_5_f_4 c_5 hy hy1 bhpσ_9 chpσ_9 ir_8 hm21 hge21 kdσ_11 iz_13 gc_15_x_10 gc_15_f_14 iz_17 iz_18 iz_19 if_21 ecf_21; omega) | omega)
              refine lv_iadd hx hb dX12_takes_56 ?_
              refine lv_topi (fun z_22 ez_22 => ?_)
              replace hF := q_letX hF ez_22
              have iz_22 := q_addI (A := (34 + (10 * v1.toInt))) (B := (m_c X σ_11 a (((94 + 7 * x_1.toInt) + 3) + x_10.toInt))) ez_22 iz_18 if_21 (by first | (clear h0 h7 hh hm2 hge2 kdσ_2 if_4 gc_5_x_1 gc_5_f_4 c_5 hy hy1 bhpσ_9 chpσ_9 ir_8 hm21 hge21 kdσ_11 em iz_13 if_14 gc_15_x_10 gc_15_f_14 c_15 iz_17 iz_18 iz_19 iz_20 if_21; omega) | omega) (by first | (clear h0 h7 hm2 hge2 kdσ_2 if_4 gc_5_x_1 gc_5_f_4 c_5 hy hy1 bhpσ_9 chpσ_9 ir_8 hm21 hge21 kdσ_11 em iz_13 if_14 gc_15_x_10 gc_15_f_14 c_15 iz_17 iz_18 iz_19 iz_20 if_21; omega) | omega)
              refine lv_dup2_11 hx hb dX12_takes_57 rfl rfl ?_
              refine q_iald E hI (q_tk (k' := 34) hI ha rfl (by decide)) ⟨by decide, rfl⟩ (by first | (clear h0 h7 hh hm2 hge2 kdσ_2 if_4 gc_5_x_1 gc_5_f_4 c_5 hy hy1 bhpσ_9 chpσ_9 ir_8 hm21 hge21 kdσ_11 em iz_13 if_14 gc_15_x_10 gc_15_f_14 c_15 iz_17 iz_18 iz_19 iz_20 if_21; omega) | omega) (by rw [q_lnk (v := 4650) hI (q_tk (k' := 34) hI ha rfl (by decide)) rfl (by decide)]; omega) dX12_takes_58 ?_
              refine lv_topi (fun f_23 ef_23 => ?_)
              replace hF := q_letX hF ef_23
              have if_23 : f_23.toInt = m_c X σ_11 a ((34 + (10 * v1.toInt)) + (m_c X σ_11 a (((94 + 7 * x_1.toInt) + 3) + x_10.toInt))) := m_rd ef_23 iz_22
              have huf_23 := m_tk.le tkσ_11 hG (by first | (clear h0 h7 hh hm2 hge2 kdσ_2 if_4 gc_5_x_1 gc_5_f_4 c_5 hy hy1 bhpσ_9 chpσ_9 ir_8 hm21 hge21 kdσ_11 em iz_13 if_14 gc_15_x_10 gc_15_f_14 c_15 iz_17 iz_18 iz_19 iz_20 if_21 ecf_21 hcf_21 iz_22 if_23; omega) | omega) (by omega) (by first | (clear h0 h7 hh hm2 hge2 kdσ_2 if_4 gc_5_x_1 gc_5_f_4 c_5 hy1 bhpσ_9 chpσ_9 ir_8 hm21 kdσ_11 iz_13 gc_15_f_14 iz_17 iz_18 iz_19 if_21 ecf_21 hcf_21 iz_22 if_23; omega) | omega) ((34 + (10 * v1.toInt)) + (m_c X σ_11 a (((94 + 7 * x_1.toInt) + 3) + x_10.toInt))) (by first | (clear h0 h7 hh hm2 hge2 kdσ_2 if_4 gc_5_x_1 gc_5_f_4 c_5 hy hy1 bhpσ_9 chpσ_9 ir_8 hm21 hge21 kdσ_11 em iz_13 if_14 gc_15_x_10 gc_15_f_14 c_15 iz_17 iz_18 iz_19 iz_20 if_21 if_23; omega) | omega) (by first | (clear h0 h7 hm2 hge2 kdσ_2 if_4 gc_5_x_1 gc_5_f_4 c_5 hy hy1 bhpσ_9 chpσ_9 ir_8 hm21 hge21 kdσ_11 em iz_13 if_14 gc_15_x_10 gc_15_f_14 c_15 iz_17 iz_18 iz_19 iz_20 if_21 if_23; omega) | omega)
              refine lv_iconst (v := 1) hx hb dX12_takes_59 (by decide) ?_
              refine lv_iadd hx hb dX12_takes_60 ?_
              refine lv_topi (fun z_24 ez_24 => ?_)
              replace hF := q_letX hF ez_24
              have iz_24 := q_addI (A := (m_c X σ_11 a ((34 + (10 * v1.toInt)) + (m_c X σ_11 a (((94 + 7 * x_1.toInt) + 3) + x_10.toInt))))) (B := 1) ez_24 if_23 (by decide) (by first | (clear h0 h7 hh hm2 hge2 kdσ_2 if_4 gc_5_x_1 gc_5_f_4 c_5 hy hy1 bhpσ_9 chpσ_9 ir_8 hm21 hge21 kdσ_11 em iz_13 if_14 gc_15_x_10 gc_15_f_14 c_15 iz_17 iz_18 iz_19 iz_20 if_21 ecf_21 hcf_21 iz_22 if_23; omega) | omega) (by first | (clear h0 h7 hh hm2 hge2 kdσ_2 if_4 gc_5_x_1 gc_5_f_4 c_5 hy hy1 bhpσ_9 chpσ_9 ir_8 hm21 hge21 kdσ_11 em iz_13 if_14 gc_15_x_10 gc_15_f_14 c_15 iz_17 iz_18 iz_19 iz_20 if_21 ecf_21 hcf_21 iz_22 if_23; omega) | omega)
              refine q_iastN E hI (q_tk (k' := 34) hI ha rfl (by decide)) ⟨by decide, rfl⟩ (by first | (clear h0 h7 hh hm2 hge2 kdσ_2 if_4 gc_5_x_1 gc_5_f_4 c_5 hy hy1 bhpσ_9 chpσ_9 ir_8 hm21 hge21 kdσ_11 em iz_13 if_14 gc_15_x_10 gc_15_f_14 c_15 iz_17 iz_18 iz_19 iz_20 if_21 if_23 huf_23 iz_24; omega) | omega) (by rw [q_lnk (v := 4650) hI (q_tk (k' := 34) hI ha rfl (by decide)) rfl (by decide)]; omega) (show 1 < 2 by decide) (q_inU rfl) dX12_takes_61 (fun H locs σ_25 hσ_25 hI => ?_)
              replace hF := q_letX hF hσ_25
              have fr_σ_25 := fr_σ_11.si hσ_25 (q_tk (k' := 34) hI ha rfl (by decide)) rfl
              have mcσ_25 := m_wr (v := z_24) (A := ((34 + (10 * v1.toInt)) + (m_c X σ_11 a (((94 + 7 * x_1.toInt) + 3) + x_10.toInt)))) hσ_25 iz_22 (by first | (clear h0 h7 hh hm2 hge2 kdσ_2 if_4 gc_5_x_1 gc_5_f_4 c_5 hy hy1 bhpσ_9 chpσ_9 ir_8 hm21 hge21 kdσ_11 em iz_13 if_14 gc_15_x_10 gc_15_f_14 c_15 iz_17 iz_18 iz_19 iz_20 if_21 if_23 huf_23 iz_24; omega) | omega)
              have kdσ_25 : m_KD 40 X σ σ_25 := kdσ_11.ar hσ_25 (q_tk (k' := 34) hI ha rfl (by decide)) (by decide) (by decide)
              have tkσ_25 := tkσ_11.card (by first | (clear h0 h7 hh hm2 hge2 kdσ_2 if_4 gc_5_x_1 gc_5_f_4 c_5 hy hy1 bhpσ_9 chpσ_9 ir_8 hm21 hge21 kdσ_11 em iz_13 if_14 gc_15_x_10 gc_15_f_14 c_15 iz_17 iz_18 iz_19 iz_20 if_21 ecf_21 hcf_21 iz_22 if_23 huf_23 iz_24 kdσ_25; omega) | omega) (by first | (clear h0 h7 hh hm2 hge2 kdσ_2 if_4 gc_5_x_1 gc_5_f_4 c_5 hy hy1 bhpσ_9 chpσ_9 ir_8 hm21 hge21 kdσ_11 em iz_13 if_14 gc_15_x_10 gc_15_f_14 c_15 iz_17 iz_18 iz_19 iz_20 if_21 if_23 huf_23 iz_24 kdσ_25; omega) | omega) (by first | (clear h0 h7 hm2 hge2 kdσ_2 if_4 gc_5_x_1 gc_5_f_4 c_5 hy hy1 bhpσ_9 chpσ_9 ir_8 hm21 hge21 kdσ_11 em iz_13 if_14 gc_15_x_10 gc_15_f_14 c_15 iz_17 iz_18 iz_19 iz_20 if_21 ecf_21 hcf_21 iz_22 if_23 huf_23 iz_24 kdσ_25; omega) | omega) mcσ_25 iz_24
              obtain ⟨z_26, ez_26⟩ : ∃ y : Int32, y = x_10 + 1 := ⟨_, rfl⟩
              replace hF := q_letX hF ez_26
              refine lv_iinc (v := z_26) (lv' := [(4, .int z_26), (0, .ref a), (1, .int v1), (2, .int x_1), (3, .int r_8)]) hx hb dX12_takes_62 hl (k := 4) rfl (by rw [ez_26]; rfl) (by decide) rfl (fun ls hl => ?_)
              have iz_26 : z_26.toInt = x_10.toInt + 1 := q_inc ez_26 (by first | (clear h0 h7 hh hm2 hge2 kdσ_2 if_4 gc_5_x_1 gc_5_f_4 c_5 hy1 bhpσ_9 chpσ_9 ir_8 hm21 kdσ_11 iz_13 gc_15_f_14 iz_17 iz_18 iz_19 if_21 ecf_21 hcf_21 iz_22 if_23 huf_23 iz_24 kdσ_25; omega) | omega)
              refine lv_goto (tgt := 21) hx hb dX12_takes_65 (by decide) ?_
              exact ih21 z_26 σ_25 _ _ ls (by first | (clear h0 h7 hh hm2 hge2 kdσ_2 if_4 gc_5_x_1 gc_5_f_4 c_5 hy1 bhpσ_9 chpσ_9 ir_8 kdσ_11 iz_13 gc_15_f_14 iz_17 iz_18 iz_19 if_21 ecf_21 hcf_21 iz_22 if_23 huf_23 iz_24 kdσ_25; omega) | omega) (by first | (clear h0 h7 hh hm2 hge2 kdσ_2 if_4 gc_5_x_1 gc_5_f_4 c_5 hy hy1 bhpσ_9 chpσ_9 ir_8 hm21 kdσ_11 iz_13 gc_15_f_14 iz_17 iz_18 iz_19 if_21 ecf_21 hcf_21 iz_22 if_23 huf_23 iz_24 kdσ_25; omega) | omega) (by rw [iz_26]; exact tkσ_25) fr_σ_25 kdσ_25 hF hI (lv_sub hl [1, 2, 3, 4, 0] rfl)
        have kc_27 : (0 : Int32).toInt = 0 := rfl
        exact L_21_12 ((2147483647 - (0 : Int32).toInt).toNat + 1) 0 σ_2 _ _ ls (Nat.lt_succ_self _) (by have q : (0 : Int32).toInt = 0 := rfl; omega) tkσ_2 fr_σ_2 kdσ_2 hF hI (lv_sub hl [2, 3, 4, 1, 0] rfl)
  have kc_28 : (0 : Int32).toInt = 0 := rfl
  exact L_2_3 ((2147483647 - (0 : Int32).toInt).toNat + 1) 0 σ _ _ ls (Nat.lt_succ_self _) (by have q : (0 : Int32).toInt = 0 := rfl; omega) (m_tk.start hG (by first | (clear h0 h7 hh kc_28; omega) | omega)) fr_σ kdσ hF hI (lv_sub hl [1, 2, 0] rfl)

set_option maxRecDepth 100000 in
set_option maxHeartbeats 4000000 in
theorem c_X12_doubts (l : Launch) (X : XW) (σ : ST) (a : Nat) (v1 : Int32) (n : Int) (ha : q_kd X a = 12) (hG : m_G (m_c X σ a)) (hW : m_W (m_c X σ a) n) (hn : n ≤ 200000) (ho : m_c X σ a 7 = 1) (h0 : 0 ≤ v1.toInt ∧ v1.toInt < m_c X σ a 2) (hne : v1.toInt ≠ m_c X σ a 6) : Met l yX12_doubts (q_ws yX12_doubts cX12_doubts 4 (some .int)) (q_rm 2 45) (q_P X σ [.ref a, .int v1]) (q_Qi X 1 σ (fun (r : Int32) (σ' : ST) => (m_G (m_c X σ' a)) ∧ (m_W (m_c X σ' a) (n + 1)) ∧ (∀ j, 654 ≤ j → m_c X σ' a j = m_c X σ a j) ∧ (m_KD 40 X σ σ') ∧ (r, σ') = F_X12_doubts X σ a v1 ∧ q_ow [(34, 99)] [] X σ σ')) 0 0 (q_reg X) := by
  refine q_met 1 (by first | exact rfl | decide +kernel) rfl (Nat.le_of_ble_eq_true rfl) (fun p e s m below meth c E hml hr hlk hI ls hl => ?_)
  have hx := E.1
  have hb := E.2.1
  have hl : lv_has ls 4 [(0, .ref a), (1, .int v1)] := hl
  have gσ : m_G (m_c X σ a) := hG
  have wσ : m_W (m_c X σ a) n := hW
  have kqσ : ∀ j, 654 ≤ j → m_c X σ a j = m_c X σ a j := fun _ _ => rfl
  have kdσ : m_KD 40 X σ σ := m_KD.rf
  have k2σ : m_c X σ a 0 = m_c X σ a 0 ∧ m_c X σ a 2 = m_c X σ a 2 := ⟨rfl, rfl⟩
  have fr_σ : q_ow [(34, 99)] [] X σ σ := q_ow.rf
  have hh := hG.hd
  obtain ⟨out, hout⟩ : ∃ o, o = F_X12_doubts X σ a v1 := ⟨_, rfl⟩
  have hF := hout.symm
  unfold F_X12_doubts at hF
  refine lv_aload_n hx hb dX12_doubts_0 rfl (lv_at hl 0 rfl) ?_
  refine gs_X12_35_12 E hI ha dX12_doubts_1 ?_
  refine lv_bipush (v := 6) hx hb dX12_doubts_4 (by decide) ?_
  refine q_iald E hI (q_tk (k' := 34) hI ha rfl (by decide)) ⟨by decide, rfl⟩ (by decide) (by rw [q_lnk (v := 4650) hI (q_tk (k' := 34) hI ha rfl (by decide)) rfl (by decide)]; decide) dX12_doubts_6 ?_
  refine lv_topi (fun f_1 ef_1 => ?_)
  replace hF := q_letX hF ef_1
  have if_1 : f_1.toInt = m_c X σ a 6 := m_rd ef_1 (by decide)
  refine lv_istore_n (lv' := [(2, .int f_1), (0, .ref a), (1, .int v1)]) hx hb dX12_doubts_7 rfl hl (by decide) rfl (fun ls hl => ?_)
  refine lv_aload_n hx hb dX12_doubts_8 rfl (lv_at hl 1 rfl) ?_
  refine lv_aload_n hx hb dX12_doubts_9 rfl (lv_at hl 1 rfl) ?_
  refine gs_X12_35_12 E hI ha dX12_doubts_10 ?_
  refine lv_bipush (v := 9) hx hb dX12_doubts_13 (by decide) ?_
  refine q_iald E hI (q_tk (k' := 34) hI ha rfl (by decide)) ⟨by decide, rfl⟩ (by decide) (by rw [q_lnk (v := 4650) hI (q_tk (k' := 34) hI ha rfl (by decide)) rfl (by decide)]; decide) dX12_doubts_15 ?_
  refine lv_topi (fun f_2 ef_2 => ?_)
  replace hF := q_letX hF ef_2
  have if_2 : f_2.toInt = m_c X σ a 9 := m_rd ef_2 (by decide)
  refine lv_iconst (v := 1) hx hb dX12_doubts_16 (by decide) ?_
  refine lv_isub hx hb dX12_doubts_17 ?_
  refine lv_topi (fun z_3 ez_3 => ?_)
  replace hF := q_letX hF ez_3
  have iz_3 := q_subI (A := (m_c X σ a 9)) (B := 1) ez_3 if_2 (by decide) (by first | (clear hn h0 gσ wσ kdσ k2σ if_1; omega) | omega) (by first | (clear hn h0 gσ wσ kdσ k2σ if_1; omega) | omega)
  refine q_ci (q_runV (As := [.int z_3]) (rest := []) E (hml.trans hl.1.symm) hI (c_X12_sortOf l X σ a z_3 ha gσ (by first | (clear hn h0 gσ wσ kdσ k2σ if_1; omega) | omega)) kv_X12_305 ha ⟨rfl, by decide⟩ (show vwCl[11]? = some (RX12, TX12, 46) from rfl) rfl ⟨Nat.le_of_ble_eq_true rfl, Nat.le_of_ble_eq_true rfl⟩ ⟨Nat.le_refl _, Nat.le_refl _⟩ rfl (Nat.le_of_ble_eq_true rfl) dX12_doubts_18) hI (by decide) (fun r_4 σ_5 H locs hpσ_5 hkσ_5 hI => ?_)
  obtain ⟨ahpσ_5, bhpσ_5, chpσ_5⟩ := hpσ_5
  rw [ahpσ_5] at hI
  replace hF := q_letX hF chpσ_5
  have J_29_6 : ∀ (x_6 : Int32) (H : Heap) (locs : List Loc) (ls : Array Slot), (0 ≤ x_6.toInt ∧ x_6.toInt ≤ 1) → (F_X12_doubts_J29_1 X σ a f_1 v1 x_6 = out) → q_I X 1 σ s.heap locs σ H → lv_has ls 4 [(0, .ref a), (1, .int v1), (2, .int f_1)] → W p l e (q_rm 2 45) s m ([.ref a, .int v1] : List Value).toArray below meth c H locs 0 0 (MQ below (q_Qi X 1 σ (fun (r : Int32) (σ' : ST) => (m_G (m_c X σ' a)) ∧ (m_W (m_c X σ' a) (n + 1)) ∧ (∀ j, 654 ≤ j → m_c X σ' a j = m_c X σ a j) ∧ (m_KD 40 X σ σ') ∧ (r, σ') = F_X12_doubts X σ a v1 ∧ q_ow [(34, 99)] [] X σ σ')) ([.ref a, .int v1] : List Value).toArray s 0 0 (q_reg X)) (F0 m 29 ls [.int x_6]) := by
    clear hF
    intro x_6 H locs ls j29 hF hI hl
    unfold F_X12_doubts_J29_1 at hF
    refine lv_istore_n (lv' := [(3, .int x_6), (0, .ref a), (1, .int v1), (2, .int f_1)]) hx hb dX12_doubts_29 rfl hl (by decide) rfl (fun ls hl => ?_)
    refine lv_aload_n hx hb dX12_doubts_30 rfl (lv_at hl 1 rfl) ?_
    refine gs_X12_35_12 E hI ha dX12_doubts_31 ?_
    refine lv_bipush (v := 7) hx hb dX12_doubts_34 (by decide) ?_
    refine lv_iconst (v := 0) hx hb dX12_doubts_36 (by decide) ?_
    have kc_8 : (0 : Int32).toInt = 0 := rfl
    refine q_iastN E hI (q_tk (k' := 34) hI ha rfl (by decide)) ⟨by decide, rfl⟩ (by decide) (by rw [q_lnk (v := 4650) hI (q_tk (k' := 34) hI ha rfl (by decide)) rfl (by decide)]; decide) (show 1 < 2 by decide) (q_inU rfl) dX12_doubts_37 (fun H locs σ_7 hσ_7 hI => ?_)
    replace hF := q_letX hF hσ_7
    have fr_σ_7 := fr_σ.si hσ_7 (q_tk (k' := 34) hI ha rfl (by decide)) rfl
    have mcσ_7 := m_wr (v := (0 : Int32)) (A := 7) hσ_7 (by decide) (by decide)
    have gσ_7 : m_G (m_c X σ_7 a) := m_G.wr gσ mcσ_7 (by first | (clear hn h0 gσ wσ kdσ k2σ if_2 iz_3 ahpσ_5 bhpσ_5 chpσ_5 j29; omega) | omega)
    have wσ_7 : m_W (m_c X σ_7 a) n := m_W.wr wσ mcσ_7 (by first | (clear hn ho h0 gσ wσ kdσ k2σ hh if_1 if_2 iz_3 ahpσ_5 bhpσ_5 chpσ_5 j29 kc_8 gσ_7; omega) | omega)
    have kqσ_7 : ∀ j, 654 ≤ j → m_c X σ_7 a j = m_c X σ a j := fun j h => by rw [mcσ_7 j (by first | (clear hn ho h0 gσ wσ kdσ k2σ hh if_1 if_2 iz_3 ahpσ_5 bhpσ_5 chpσ_5 j29 kc_8 gσ_7 wσ_7; omega) | omega), if_neg (by first | (clear hn ho h0 gσ wσ kdσ k2σ hh if_1 if_2 iz_3 ahpσ_5 bhpσ_5 chpσ_5 j29 kc_8 gσ_7 wσ_7; omega) | omega)] <;> exact kqσ j h
    have kdσ_7 : m_KD 40 X σ σ_7 := kdσ.ar hσ_7 (q_tk (k' := 34) hI ha rfl (by decide)) (by decide) (by decide)
    have k2σ_7 : m_c X σ_7 a 0 = m_c X σ a 0 ∧ m_c X σ_7 a 2 = m_c X σ a 2 := ⟨by rw [mcσ_7 0 (by decide), if_neg (by first | (clear hn ho h0 gσ wσ kdσ k2σ hh if_1 if_2 iz_3 ahpσ_5 bhpσ_5 chpσ_5 j29 kc_8 gσ_7 wσ_7 kdσ_7; omega) | omega)] <;> exact k2σ.1, by rw [mcσ_7 2 (by decide), if_neg (by first | (clear hn ho h0 gσ wσ kdσ k2σ hh if_1 if_2 iz_3 ahpσ_5 bhpσ_5 chpσ_5 j29 kc_8 gσ_7 wσ_7 kdσ_7; omega) | omega)] <;> exact k2σ.2⟩
    have z7σ_7 : m_c X σ_7 a 7 = 0 := (by rw [mcσ_7 7 (by decide), if_pos rfl]; rfl)
    refine lv_aload_n hx hb dX12_doubts_38 rfl (lv_at hl 1 rfl) ?_
    refine gs_X12_35_12 E hI ha dX12_doubts_39 ?_
    refine lv_bipush (v := 22) hx hb dX12_doubts_42 (by decide) ?_
    refine lv_iload_n hx hb dX12_doubts_44 rfl (lv_at hl 3 rfl) ?_
    refine lv_iadd hx hb dX12_doubts_45 ?_
    refine lv_topi (fun z_9 ez_9 => ?_)
    replace hF := q_letX hF ez_9
    have iz_9 := q_addI (A := 22) (B := (m_c X σ a 6)) ez_9 (by decide) if_1 (by first | (clear hn h0 gσ wσ kdσ k2σ if_2 iz_3 ahpσ_5 bhpσ_5 chpσ_5 j29 kc_8 gσ_7 wσ_7 kdσ_7 k2σ_7 z7σ_7; omega) | omega) (by first | (clear hn ho h0 gσ wσ kdσ k2σ if_2 iz_3 ahpσ_5 bhpσ_5 chpσ_5 j29 kc_8 gσ_7 wσ_7 kdσ_7 z7σ_7; omega) | omega)
    refine lv_dup2_11 hx hb dX12_doubts_46 rfl rfl ?_
    refine q_iald E hI (q_tk (k' := 34) hI ha rfl (by decide)) ⟨by decide, rfl⟩ (by first | (clear hn h0 gσ wσ kdσ k2σ if_2 iz_3 ahpσ_5 bhpσ_5 chpσ_5 j29 kc_8 gσ_7 wσ_7 kdσ_7 k2σ_7 z7σ_7; omega) | omega) (by rw [q_lnk (v := 4650) hI (q_tk (k' := 34) hI ha rfl (by decide)) rfl (by decide)]; omega) dX12_doubts_47 ?_
    refine lv_topi (fun f_10 ef_10 => ?_)
    replace hF := q_letX hF ef_10
    have if_10 : f_10.toInt = m_c X σ_7 a (22 + (m_c X σ a 6)) := m_rd ef_10 iz_9
    have qw := wσ_7 (m_c X σ a 6) (by first | (clear hn h0 gσ wσ kdσ k2σ if_2 iz_3 ahpσ_5 bhpσ_5 chpσ_5 j29 kc_8 gσ_7 wσ_7 kdσ_7 k2σ_7 z7σ_7 if_10; omega) | omega) (by first | (clear hn ho h0 gσ wσ kdσ k2σ if_2 iz_3 ahpσ_5 bhpσ_5 chpσ_5 j29 kc_8 gσ_7 wσ_7 kdσ_7 z7σ_7 if_10; omega) | omega)
    refine lv_iconst (v := 1) hx hb dX12_doubts_48 (by decide) ?_
    refine lv_iadd hx hb dX12_doubts_49 ?_
    refine lv_topi (fun z_11 ez_11 => ?_)
    replace hF := q_letX hF ez_11
    have iz_11 := q_addI (A := (m_c X σ_7 a (22 + (m_c X σ a 6)))) (B := 1) ez_11 if_10 (by decide) (by first | (clear hn ho h0 gσ wσ kdσ k2σ hh if_1 if_2 iz_3 ahpσ_5 bhpσ_5 chpσ_5 j29 kc_8 gσ_7 wσ_7 kdσ_7 k2σ_7 z7σ_7 iz_9 if_10; omega) | omega) (by first | (clear ho h0 gσ wσ kdσ k2σ hh if_1 if_2 iz_3 ahpσ_5 bhpσ_5 chpσ_5 j29 kc_8 gσ_7 wσ_7 kdσ_7 k2σ_7 z7σ_7 iz_9 if_10; omega) | omega)
    refine q_iastN E hI (q_tk (k' := 34) hI ha rfl (by decide)) ⟨by decide, rfl⟩ (by first | (clear hn h0 gσ wσ kdσ k2σ if_2 iz_3 ahpσ_5 bhpσ_5 chpσ_5 j29 kc_8 gσ_7 wσ_7 kdσ_7 k2σ_7 z7σ_7 if_10 qw iz_11; omega) | omega) (by rw [q_lnk (v := 4650) hI (q_tk (k' := 34) hI ha rfl (by decide)) rfl (by decide)]; omega) (show 1 < 2 by decide) (q_inU rfl) dX12_doubts_50 (fun H locs σ_12 hσ_12 hI => ?_)
    replace hF := q_letX hF hσ_12
    have fr_σ_12 := fr_σ_7.si hσ_12 (q_tk (k' := 34) hI ha rfl (by decide)) rfl
    have mcσ_12 := m_wr (v := z_11) (A := (22 + (m_c X σ a 6))) hσ_12 iz_9 (by first | (clear hn h0 gσ wσ kdσ k2σ if_2 iz_3 ahpσ_5 bhpσ_5 chpσ_5 j29 kc_8 gσ_7 wσ_7 kdσ_7 k2σ_7 z7σ_7 if_10 qw iz_11; omega) | omega)
    have gσ_12 : m_G (m_c X σ_12 a) := m_G.wr gσ_7 mcσ_12 (by first | (clear hn h0 gσ wσ kdσ k2σ if_2 iz_3 ahpσ_5 bhpσ_5 chpσ_5 j29 kc_8 gσ_7 wσ_7 kdσ_7 if_10; omega) | omega)
    have vσ_12 : m_W (m_c X σ_12 a) (n + 1) := wσ_7.shown mcσ_12 (by first | (clear hn h0 gσ wσ kdσ k2σ if_2 iz_3 ahpσ_5 bhpσ_5 chpσ_5 j29 kc_8 gσ_7 wσ_7 kdσ_7 z7σ_7 if_10 qw iz_11 gσ_12; omega) | omega) (by omega)
    have lsσ_12 : 0 ≤ m_c X σ_12 a (28 + m_c X σ a 6) ∧ m_c X σ_12 a (28 + m_c X σ a 6) + 1 ≤ m_c X σ_12 a (22 + m_c X σ a 6) ∧ m_c X σ_12 a (22 + m_c X σ a 6) ≤ 200001 := (by have q := wσ_7 (m_c X σ a 6) (by first | (clear hn h0 gσ wσ kdσ k2σ if_2 iz_3 ahpσ_5 bhpσ_5 chpσ_5 j29 kc_8 gσ_7 wσ_7 kdσ_7 k2σ_7 z7σ_7 if_10 qw iz_11 gσ_12 vσ_12; omega) | omega) (by first | (clear hn ho h0 gσ wσ kdσ k2σ if_2 iz_3 ahpσ_5 bhpσ_5 chpσ_5 j29 kc_8 gσ_7 wσ_7 kdσ_7 z7σ_7 if_10 qw iz_11 gσ_12 vσ_12; omega) | omega); rw [mcσ_12 (28 + m_c X σ a 6) (by first | (clear hn h0 gσ wσ kdσ k2σ if_2 iz_3 ahpσ_5 bhpσ_5 chpσ_5 j29 kc_8 gσ_7 wσ_7 kdσ_7 k2σ_7 z7σ_7 if_10 qw iz_11 gσ_12 vσ_12; omega) | omega), if_neg (by first | (clear hn ho h0 gσ wσ kdσ k2σ hh if_1 if_2 iz_3 ahpσ_5 bhpσ_5 chpσ_5 j29 kc_8 gσ_7 wσ_7 kdσ_7 k2σ_7 z7σ_7 iz_9 if_10 qw iz_11 gσ_12 vσ_12; omega) | omega), mcσ_12 (22 + m_c X σ a 6) (by first | (clear hn h0 gσ wσ kdσ k2σ if_2 iz_3 ahpσ_5 bhpσ_5 chpσ_5 j29 kc_8 gσ_7 wσ_7 kdσ_7 k2σ_7 z7σ_7 if_10 qw iz_11 gσ_12 vσ_12; omega) | omega), if_pos rfl]; omega)
    have kqσ_12 : ∀ j, 654 ≤ j → m_c X σ_12 a j = m_c X σ a j := fun j h => by rw [mcσ_12 j (by first | (clear hn ho h0 gσ wσ kdσ k2σ hh if_1 if_2 iz_3 ahpσ_5 bhpσ_5 chpσ_5 j29 kc_8 gσ_7 wσ_7 kdσ_7 k2σ_7 z7σ_7 iz_9 if_10 qw iz_11 gσ_12 vσ_12 lsσ_12; omega) | omega), if_neg (by first | (clear hn ho h0 gσ wσ kdσ k2σ if_2 iz_3 ahpσ_5 bhpσ_5 chpσ_5 j29 kc_8 gσ_7 wσ_7 kdσ_7 z7σ_7 if_10 qw iz_11 gσ_12 vσ_12 lsσ_12; omega) | omega)] <;> exact kqσ_7 j h
    have kdσ_12 : m_KD 40 X σ σ_12 := kdσ_7.ar hσ_12 (q_tk (k' := 34) hI ha rfl (by decide)) (by decide) (by decide)
    have k2σ_12 : m_c X σ_12 a 0 = m_c X σ a 0 ∧ m_c X σ_12 a 2 = m_c X σ a 2 := ⟨by rw [mcσ_12 0 (by decide), if_neg (by first | (clear hn h0 gσ wσ kdσ k2σ if_2 iz_3 ahpσ_5 bhpσ_5 chpσ_5 j29 kc_8 gσ_7 wσ_7 kdσ_7 k2σ_7 z7σ_7 if_10 qw iz_11 gσ_12 vσ_12 lsσ_12 kdσ_12; omega) | omega)] <;> exact k2σ_7.1, by rw [mcσ_12 2 (by decide), if_neg (by first | (clear hn h0 gσ wσ kdσ k2σ if_2 iz_3 ahpσ_5 bhpσ_5 chpσ_5 j29 kc_8 gσ_7 wσ_7 kdσ_7 k2σ_7 z7σ_7 if_10 qw iz_11 gσ_12 vσ_12 lsσ_12 kdσ_12; omega) | omega)] <;> exact k2σ_7.2⟩
    have z7σ_12 : m_c X σ_12 a 7 = 0 := (by rw [mcσ_12 7 (by decide), if_neg (by first | (clear hn h0 gσ wσ kdσ k2σ if_2 iz_3 ahpσ_5 bhpσ_5 chpσ_5 j29 kc_8 gσ_7 wσ_7 kdσ_7 k2σ_7 z7σ_7 if_10 qw iz_11 gσ_12 vσ_12 lsσ_12 kdσ_12 k2σ_12; omega) | omega)]; exact z7σ_7)
    refine lv_aload_n hx hb dX12_doubts_51 rfl (lv_at hl 1 rfl) ?_
    refine gs_X12_35_12 E hI ha dX12_doubts_52 ?_
    refine lv_bipush (v := 28) hx hb dX12_doubts_55 (by decide) ?_
    refine lv_iload_n hx hb dX12_doubts_57 rfl (lv_at hl 3 rfl) ?_
    refine lv_iadd hx hb dX12_doubts_58 ?_
    refine lv_topi (fun z_13 ez_13 => ?_)
    replace hF := q_letX hF ez_13
    have iz_13 := q_addI (A := 28) (B := (m_c X σ a 6)) ez_13 (by decide) if_1 (by first | (clear hn h0 gσ wσ kdσ k2σ if_2 iz_3 ahpσ_5 bhpσ_5 chpσ_5 j29 kc_8 gσ_7 wσ_7 kdσ_7 k2σ_7 z7σ_7 if_10 qw iz_11 gσ_12 vσ_12 lsσ_12 kdσ_12 k2σ_12 z7σ_12; omega) | omega) (by first | (clear hn ho h0 gσ wσ kdσ k2σ if_2 iz_3 ahpσ_5 bhpσ_5 chpσ_5 j29 kc_8 gσ_7 wσ_7 kdσ_7 z7σ_7 if_10 qw iz_11 gσ_12 vσ_12 lsσ_12 kdσ_12 z7σ_12; omega) | omega)
    refine lv_dup2_11 hx hb dX12_doubts_59 rfl rfl ?_
    refine q_iald E hI (q_tk (k' := 34) hI ha rfl (by decide)) ⟨by decide, rfl⟩ (by first | (clear hn h0 gσ wσ kdσ k2σ if_2 iz_3 ahpσ_5 bhpσ_5 chpσ_5 j29 kc_8 gσ_7 wσ_7 kdσ_7 k2σ_7 z7σ_7 if_10 qw iz_11 gσ_12 vσ_12 lsσ_12 kdσ_12 k2σ_12 z7σ_12; omega) | omega) (by rw [q_lnk (v := 4650) hI (q_tk (k' := 34) hI ha rfl (by decide)) rfl (by decide)]; omega) dX12_doubts_60 ?_
    refine lv_topi (fun f_14 ef_14 => ?_)
    replace hF := q_letX hF ef_14
    have if_14 : f_14.toInt = m_c X σ_12 a (28 + (m_c X σ a 6)) := m_rd ef_14 iz_13
    refine lv_iload_n hx hb dX12_doubts_61 rfl (lv_at hl 0 rfl) ?_
    refine q_if_eq (A := x_6.toInt) E rfl (tgt := 69) dX12_doubts_62 (by decide) (fun c_15 => ?_) (fun c_15 => ?_)
    · skip
      replace hF := q_ifp hF c_15
      refine lv_iconst (v := 1) hx hb dX12_doubts_69 (by decide) ?_
      refine lv_iadd hx hb dX12_doubts_70 ?_
      refine lv_topi (fun z_16 ez_16 => ?_)
      replace hF := q_letX hF ez_16
      have iz_16 := q_addI (A := (m_c X σ_12 a (28 + (m_c X σ a 6)))) (B := 1) ez_16 if_14 (by decide) (by first | (clear hn ho h0 gσ wσ kdσ k2σ hh if_1 if_2 iz_3 ahpσ_5 bhpσ_5 chpσ_5 j29 kc_8 gσ_7 wσ_7 kdσ_7 k2σ_7 z7σ_7 iz_9 if_10 qw iz_11 gσ_12 vσ_12 kdσ_12 k2σ_12 z7σ_12 iz_13 c_15; omega) | omega) (by first | (clear hn ho h0 gσ wσ kdσ k2σ hh if_1 if_2 iz_3 ahpσ_5 bhpσ_5 chpσ_5 j29 kc_8 gσ_7 wσ_7 kdσ_7 k2σ_7 z7σ_7 iz_9 if_10 qw iz_11 gσ_12 vσ_12 kdσ_12 k2σ_12 z7σ_12 iz_13 c_15; omega) | omega)
      refine q_iastN E hI (q_tk (k' := 34) hI ha rfl (by decide)) ⟨by decide, rfl⟩ (by first | (clear hn h0 gσ wσ kdσ k2σ if_2 iz_3 ahpσ_5 bhpσ_5 chpσ_5 j29 kc_8 gσ_7 wσ_7 kdσ_7 k2σ_7 z7σ_7 if_10 qw iz_11 gσ_12 vσ_12 lsσ_12 kdσ_12 k2σ_12 z7σ_12 if_14 c_15 iz_16; omega) | omega) (by rw [q_lnk (v := 4650) hI (q_tk (k' := 34) hI ha rfl (by decide)) rfl (by decide)]; omega) (show 1 < 2 by decide) (q_inU rfl) dX12_doubts_71 (fun H locs σ_17 hσ_17 hI => ?_)
      replace hF := q_letX hF hσ_17
      have fr_σ_17 := fr_σ_12.si hσ_17 (q_tk (k' := 34) hI ha rfl (by decide)) rfl
      have mcσ_17 := m_wr (v := z_16) (A := (28 + (m_c X σ a 6))) hσ_17 iz_13 (by first | (clear hn h0 gσ wσ kdσ k2σ if_2 iz_3 ahpσ_5 bhpσ_5 chpσ_5 j29 kc_8 gσ_7 wσ_7 kdσ_7 k2σ_7 z7σ_7 if_10 qw iz_11 gσ_12 vσ_12 lsσ_12 kdσ_12 k2σ_12 z7σ_12 if_14 c_15 iz_16; omega) | omega)
      have gσ_17 : m_G (m_c X σ_17 a) := m_G.wr gσ_12 mcσ_17 (by first | (clear hn h0 gσ wσ kdσ k2σ if_2 iz_3 ahpσ_5 bhpσ_5 chpσ_5 j29 kc_8 gσ_7 wσ_7 kdσ_7 z7σ_7 if_10 qw iz_11 gσ_12 vσ_12 kdσ_12 c_15; omega) | omega)
      have vσ_17 : m_W (m_c X σ_17 a) (n + 1) := vσ_12.lied mcσ_17 (by first | (clear hn h0 gσ wσ kdσ k2σ if_2 iz_3 ahpσ_5 bhpσ_5 chpσ_5 j29 kc_8 gσ_7 wσ_7 kdσ_7 z7σ_7 if_10 qw iz_11 gσ_12 vσ_12 lsσ_12 kdσ_12 z7σ_12 if_14 c_15 iz_16 gσ_17; omega) | omega) (by first | (clear hn ho h0 gσ wσ kdσ k2σ hh if_1 if_2 iz_3 ahpσ_5 bhpσ_5 chpσ_5 j29 kc_8 gσ_7 wσ_7 kdσ_7 k2σ_7 z7σ_7 iz_9 if_10 qw iz_11 gσ_12 vσ_12 kdσ_12 k2σ_12 z7σ_12 iz_13 c_15 gσ_17; omega) | omega)
      have kqσ_17 : ∀ j, 654 ≤ j → m_c X σ_17 a j = m_c X σ a j := fun j h => by rw [mcσ_17 j (by first | (clear hn ho h0 gσ wσ kdσ k2σ hh if_1 if_2 iz_3 ahpσ_5 bhpσ_5 chpσ_5 j29 kc_8 gσ_7 wσ_7 kdσ_7 k2σ_7 z7σ_7 iz_9 if_10 qw iz_11 gσ_12 vσ_12 lsσ_12 kdσ_12 k2σ_12 z7σ_12 iz_13 if_14 c_15 iz_16 gσ_17 vσ_17; omega) | omega), if_neg (by first | (clear hn ho h0 gσ wσ kdσ k2σ if_2 iz_3 ahpσ_5 bhpσ_5 chpσ_5 j29 kc_8 gσ_7 wσ_7 kdσ_7 z7σ_7 if_10 qw iz_11 gσ_12 vσ_12 lsσ_12 kdσ_12 z7σ_12 if_14 c_15 iz_16 gσ_17 vσ_17; omega) | omega)] <;> exact kqσ_12 j h
      have kdσ_17 : m_KD 40 X σ σ_17 := kdσ_12.ar hσ_17 (q_tk (k' := 34) hI ha rfl (by decide)) (by decide) (by decide)
      have k2σ_17 : m_c X σ_17 a 0 = m_c X σ a 0 ∧ m_c X σ_17 a 2 = m_c X σ a 2 := ⟨by rw [mcσ_17 0 (by decide), if_neg (by first | (clear hn h0 gσ wσ kdσ k2σ if_2 iz_3 ahpσ_5 bhpσ_5 chpσ_5 j29 kc_8 gσ_7 wσ_7 kdσ_7 k2σ_7 z7σ_7 if_10 qw iz_11 gσ_12 vσ_12 lsσ_12 kdσ_12 k2σ_12 z7σ_12 if_14 c_15 iz_16 gσ_17 vσ_17 kdσ_17; omega) | omega)] <;> exact k2σ_12.1, by rw [mcσ_17 2 (by decide), if_neg (by first | (clear hn h0 gσ wσ kdσ k2σ if_2 iz_3 ahpσ_5 bhpσ_5 chpσ_5 j29 kc_8 gσ_7 wσ_7 kdσ_7 k2σ_7 z7σ_7 if_10 qw iz_11 gσ_12 vσ_12 lsσ_12 kdσ_12 k2σ_12 z7σ_12 if_14 c_15 iz_16 gσ_17 vσ_17 kdσ_17; omega) | omega)] <;> exact k2σ_12.2⟩
      have z7σ_17 : m_c X σ_17 a 7 = 0 := (by rw [mcσ_17 7 (by decide), if_neg (by first | (clear hn h0 gσ wσ kdσ k2σ if_2 iz_3 ahpσ_5 bhpσ_5 chpσ_5 j29 kc_8 gσ_7 wσ_7 kdσ_7 k2σ_7 z7σ_7 if_10 qw iz_11 gσ_12 vσ_12 lsσ_12 kdσ_12 k2σ_12 z7σ_12 if_14 c_15 iz_16 gσ_17 vσ_17 kdσ_17 k2σ_17; omega) | omega)]; exact z7σ_12)
      refine lv_iload_n hx hb dX12_doubts_72 rfl (lv_at hl 0 rfl) ?_
      have J_92_18 : ∀  (σ_18 : ST) (H : Heap) (locs : List Loc) (ls : Array Slot), (q_ow [(34, 99)] [] X σ σ_18) → (m_G (m_c X σ_18 a)) → (m_W (m_c X σ_18 a) (n + 1)) → (∀ j, 654 ≤ j → m_c X σ_18 a j = m_c X σ a j) → (m_KD 40 X σ σ_18) → (m_c X σ_18 a 0 = m_c X σ a 0 ∧ m_c X σ_18 a 2 = m_c X σ a 2) → (m_c X σ_18 a 7 = 0) → (F_X12_doubts_J92_2 X x_6 a f_1 v1 σ_18 = out) → q_I X 1 σ s.heap locs σ_18 H → lv_has ls 4 [(0, .ref a), (1, .int v1), (2, .int f_1), (3, .int x_6)] → W p l e (q_rm 2 45) s m ([.ref a, .int v1] : List Value).toArray below meth c H locs 0 0 (MQ below (q_Qi X 1 σ (fun (r : Int32) (σ' : ST) => (m_G (m_c X σ' a)) ∧ (m_W (m_c X σ' a) (n + 1)) ∧ (∀ j, 654 ≤ j → m_c X σ' a j = m_c X σ a j) ∧ (m_KD 40 X σ σ') ∧ (r, σ') = F_X12_doubts X σ a v1 ∧ q_ow [(34, 99)] [] X σ σ')) ([.ref a, .int v1] : List Value).toArray s 0 0 (q_reg X)) (F0 m 92 ls []) := by
        clear hF
        intro σ_18 H locs ls fr_σ_18 gσ_18 vσ_18 kqσ_18 kdσ_18 k2σ_18 z7σ_18 hF hI hl
        try clear kqσ; try clear kdσ; try clear fr_σ; try clear ahpσ_5; try clear fr_σ_17; try clear mcσ_17; try clear kqσ_17; try clear kdσ_17
        unfold F_X12_doubts_J92_2 at hF
        refine lv_aload_n hx hb dX12_doubts_92 rfl (lv_at hl 0 rfl) ?_
        refine lv_iload_n hx hb dX12_doubts_93 rfl (lv_at hl 3 rfl) ?_
        refine q_if_eq (A := x_6.toInt) E rfl (tgt := 101) dX12_doubts_94 (by decide) (fun c_19 => ?_) (fun c_19 => ?_)
        · skip
          replace hF := q_ifp hF c_19
          refine lv_iload_n hx hb dX12_doubts_101 rfl (lv_at hl 2 rfl) ?_
          have J_105_20 : ∀  (σ_20 : ST) (H : Heap) (locs : List Loc) (ls : Array Slot), (q_ow [(34, 99)] [] X σ σ_20) → (m_G (m_c X σ_20 a)) → (m_W (m_c X σ_20 a) (n + 1)) → (∀ j, 654 ≤ j → m_c X σ_20 a j = m_c X σ a j) → (m_KD 40 X σ σ_20) → (m_c X σ_20 a 0 = m_c X σ a 0 ∧ m_c X σ_20 a 2 = m_c X σ a 2) → (m_c X σ_20 a 7 = 0) → (F_X12_doubts_J105_3 X a x_6 v1 f_1 σ_20 = out) → q_I X 1 σ s.heap locs σ_20 H → lv_has ls 4 [(0, .ref a), (1, .int v1), (2, .int f_1), (3, .int x_6)] → W p l e (q_rm 2 45) s m ([.ref a, .int v1] : List Value).toArray below meth c H locs 0 0 (MQ below (q_Qi X 1 σ (fun (r : Int32) (σ' : ST) => (m_G (m_c X σ' a)) ∧ (m_W (m_c X σ' a) (n + 1)) ∧ (∀ j, 654 ≤ j → m_c X σ' a j = m_c X σ a j) ∧ (m_KD 40 X σ σ') ∧ (r, σ') = F_X12_doubts X σ a v1 ∧ q_ow [(34, 99)] [] X σ σ')) ([.ref a, .int v1] : List Value).toArray s 0 0 (q_reg X)) (F0 m 105 ls []) := by
            clear hF
            intro σ_20 H locs ls fr_σ_20 gσ_20 vσ_20 kqσ_20 kdσ_20 k2σ_20 z7σ_20 hF hI hl
            unfold F_X12_doubts_J105_3 at hF
            refine lv_aload_n hx hb dX12_doubts_105 rfl (lv_at hl 0 rfl) ?_
            refine gs_X12_35_12 E hI ha dX12_doubts_106 ?_
            refine lv_iconst (v := 5) hx hb dX12_doubts_109 (by decide) ?_
            refine lv_aload_n hx hb dX12_doubts_110 rfl (lv_at hl 0 rfl) ?_
            refine lv_iconst (v := 0) hx hb dX12_doubts_111 (by decide) ?_
            have kc_21 : (0 : Int32).toInt = 0 := rfl
            refine q_ci (q_runV (As := [.int 0]) (rest := [.int 5, .ref (q_rf X a 20)]) E (hml.trans hl.1.symm) hI (c_X12_nextKind l X σ_20 a (0 : Int32) ha gσ_20) kv_X12_315 ha ⟨rfl, by decide⟩ (show vwCl[11]? = some (RX12, TX12, 46) from rfl) rfl ⟨Nat.le_of_ble_eq_true rfl, Nat.le_of_ble_eq_true rfl⟩ ⟨Nat.le_refl _, Nat.le_refl _⟩ rfl (Nat.le_of_ble_eq_true rfl) dX12_doubts_112) hI (by decide) (fun r_22 σ_23 H locs hpσ_23 hkσ_23 hI => ?_)
            obtain ⟨ahpσ_23, bhpσ_23, chpσ_23⟩ := hpσ_23
            rw [ahpσ_23] at hI
            replace hF := q_letX hF chpσ_23
            refine q_iastN E hI (q_tk (k' := 34) hI ha rfl (by decide)) ⟨by decide, rfl⟩ (by decide) (by rw [q_lnk (v := 4650) hI (q_tk (k' := 34) hI ha rfl (by decide)) rfl (by decide)]; decide) (show 1 < 2 by decide) (q_inU rfl) dX12_doubts_115 (fun H locs σ_24 hσ_24 hI => ?_)
            replace hF := q_letX hF hσ_24
            have fr_σ_24 := fr_σ_20.si hσ_24 (q_tk (k' := 34) hI ha rfl (by decide)) rfl
            have mcσ_24 := m_wr (v := r_22) (A := 5) hσ_24 (by decide) (by decide)
            have gσ_24 : m_G (m_c X σ_24 a) := m_G.wr gσ_20 mcσ_24 (by first | (clear hn ho h0 gσ wσ k2σ hh if_1 if_2 iz_3 bhpσ_5 chpσ_5 j29 kc_8 gσ_7 wσ_7 kdσ_7 k2σ_7 z7σ_7 iz_9 if_10 qw iz_11 gσ_12 vσ_12 lsσ_12 kdσ_12 k2σ_12 z7σ_12 iz_13 if_14 c_15 iz_16 gσ_17 vσ_17 k2σ_17 z7σ_17 gσ_18 vσ_18 kdσ_18 k2σ_18 z7σ_18 c_19 gσ_20 vσ_20 kdσ_20 k2σ_20 kc_21 ahpσ_23 chpσ_23; omega) | omega)
            have vσ_24 : m_W (m_c X σ_24 a) (n + 1) := m_W.wr vσ_20 mcσ_24 (by first | (clear hn ho h0 gσ wσ k2σ hh if_1 if_2 iz_3 bhpσ_5 chpσ_5 j29 kc_8 gσ_7 wσ_7 kdσ_7 k2σ_7 z7σ_7 iz_9 if_10 qw iz_11 gσ_12 vσ_12 lsσ_12 kdσ_12 k2σ_12 z7σ_12 iz_13 if_14 c_15 iz_16 gσ_17 vσ_17 k2σ_17 z7σ_17 gσ_18 vσ_18 kdσ_18 k2σ_18 z7σ_18 c_19 gσ_20 vσ_20 kdσ_20 k2σ_20 z7σ_20 kc_21 ahpσ_23 bhpσ_23 chpσ_23 gσ_24; omega) | omega)
            have kqσ_24 : ∀ j, 654 ≤ j → m_c X σ_24 a j = m_c X σ a j := fun j h => by rw [mcσ_24 j (by first | (clear hn ho h0 gσ wσ k2σ hh if_1 if_2 iz_3 bhpσ_5 chpσ_5 j29 kc_8 gσ_7 wσ_7 kdσ_7 k2σ_7 z7σ_7 iz_9 if_10 qw iz_11 gσ_12 vσ_12 lsσ_12 kdσ_12 k2σ_12 z7σ_12 iz_13 if_14 c_15 iz_16 gσ_17 vσ_17 k2σ_17 z7σ_17 gσ_18 vσ_18 kdσ_18 k2σ_18 z7σ_18 c_19 gσ_20 vσ_20 kdσ_20 k2σ_20 z7σ_20 kc_21 ahpσ_23 bhpσ_23 chpσ_23 gσ_24 vσ_24; omega) | omega), if_neg (by first | (clear hn ho h0 gσ wσ k2σ hh if_1 if_2 iz_3 bhpσ_5 chpσ_5 j29 kc_8 gσ_7 wσ_7 kdσ_7 k2σ_7 z7σ_7 iz_9 if_10 qw iz_11 gσ_12 vσ_12 lsσ_12 kdσ_12 k2σ_12 z7σ_12 iz_13 if_14 c_15 iz_16 gσ_17 vσ_17 k2σ_17 z7σ_17 gσ_18 vσ_18 kdσ_18 k2σ_18 z7σ_18 c_19 gσ_20 vσ_20 kdσ_20 k2σ_20 z7σ_20 kc_21 ahpσ_23 bhpσ_23 chpσ_23 gσ_24 vσ_24; omega) | omega)] <;> exact kqσ_20 j h
            have kdσ_24 : m_KD 40 X σ σ_24 := kdσ_20.ar hσ_24 (q_tk (k' := 34) hI ha rfl (by decide)) (by decide) (by decide)
            have k2σ_24 : m_c X σ_24 a 0 = m_c X σ a 0 ∧ m_c X σ_24 a 2 = m_c X σ a 2 := ⟨by rw [mcσ_24 0 (by decide), if_neg (by first | (clear hn ho h0 gσ wσ k2σ hh if_1 if_2 iz_3 bhpσ_5 chpσ_5 j29 kc_8 gσ_7 wσ_7 kdσ_7 k2σ_7 z7σ_7 iz_9 if_10 qw iz_11 gσ_12 vσ_12 lsσ_12 kdσ_12 k2σ_12 z7σ_12 iz_13 if_14 c_15 iz_16 gσ_17 vσ_17 k2σ_17 z7σ_17 gσ_18 vσ_18 kdσ_18 k2σ_18 z7σ_18 c_19 gσ_20 vσ_20 kdσ_20 k2σ_20 z7σ_20 kc_21 ahpσ_23 bhpσ_23 chpσ_23 gσ_24 vσ_24 kdσ_24; omega) | omega)] <;> exact k2σ_20.1, by rw [mcσ_24 2 (by decide), if_neg (by first | (clear hn ho h0 gσ wσ k2σ hh if_1 if_2 iz_3 bhpσ_5 chpσ_5 j29 kc_8 gσ_7 wσ_7 kdσ_7 k2σ_7 z7σ_7 iz_9 if_10 qw iz_11 gσ_12 vσ_12 lsσ_12 kdσ_12 k2σ_12 z7σ_12 iz_13 if_14 c_15 iz_16 gσ_17 vσ_17 k2σ_17 z7σ_17 gσ_18 vσ_18 kdσ_18 k2σ_18 z7σ_18 c_19 gσ_20 vσ_20 kdσ_20 k2σ_20 z7σ_20 kc_21 ahpσ_23 bhpσ_23 chpσ_23 gσ_24 vσ_24 kdσ_24; omega) | omega)] <;> exact k2σ_20.2⟩
            have z7σ_24 : m_c X σ_24 a 7 = 0 := (by rw [mcσ_24 7 (by decide), if_neg (by first | (clear hn ho h0 gσ wσ k2σ hh if_1 if_2 iz_3 bhpσ_5 chpσ_5 j29 kc_8 gσ_7 wσ_7 kdσ_7 k2σ_7 z7σ_7 iz_9 if_10 qw iz_11 gσ_12 vσ_12 lsσ_12 kdσ_12 k2σ_12 z7σ_12 iz_13 if_14 c_15 iz_16 gσ_17 vσ_17 k2σ_17 z7σ_17 gσ_18 vσ_18 kdσ_18 k2σ_18 z7σ_18 c_19 gσ_20 vσ_20 kdσ_20 k2σ_20 z7σ_20 kc_21 ahpσ_23 bhpσ_23 chpσ_23 gσ_24 vσ_24 kdσ_24 k2σ_24; omega) | omega)]; exact z7σ_20)
            refine lv_aload_n hx hb dX12_doubts_116 rfl (lv_at hl 0 rfl) ?_
            refine gs_X12_35_12 E hI ha dX12_doubts_117 ?_
            refine lv_bipush (v := 6) hx hb dX12_doubts_120 (by decide) ?_
            refine lv_iload_n hx hb dX12_doubts_122 rfl (lv_at hl 3 rfl) ?_
            refine q_if_eq (A := x_6.toInt) E rfl (tgt := 130) dX12_doubts_123 (by decide) (fun c_25 => ?_) (fun c_25 => ?_)
            · skip
              replace hF := q_ifp hF c_25
              refine lv_iload_n hx hb dX12_doubts_130 rfl (lv_at hl 1 rfl) ?_
              refine q_iastN E hI (q_tk (k' := 34) hI ha rfl (by decide)) ⟨by decide, rfl⟩ (by decide) (by rw [q_lnk (v := 4650) hI (q_tk (k' := 34) hI ha rfl (by decide)) rfl (by decide)]; decide) (show 1 < 2 by decide) (q_inU rfl) dX12_doubts_131 (fun H locs σ_26 hσ_26 hI => ?_)
              replace hF := q_letX hF hσ_26
              have fr_σ_26 := fr_σ_24.si hσ_26 (q_tk (k' := 34) hI ha rfl (by decide)) rfl
              have mcσ_26 := m_wr (v := v1) (A := 6) hσ_26 (by decide) (by decide)
              have gσ_26 : m_G (m_c X σ_26 a) := m_G.wr gσ_24 mcσ_26 (by first | (clear hn ho h0 gσ wσ k2σ hh if_1 if_2 iz_3 bhpσ_5 chpσ_5 j29 kc_8 gσ_7 wσ_7 kdσ_7 z7σ_7 iz_9 if_10 qw iz_11 gσ_12 vσ_12 lsσ_12 kdσ_12 z7σ_12 iz_13 if_14 c_15 iz_16 gσ_17 vσ_17 z7σ_17 gσ_18 vσ_18 kdσ_18 z7σ_18 c_19 gσ_20 vσ_20 kdσ_20 z7σ_20 kc_21 ahpσ_23 bhpσ_23 chpσ_23 gσ_24 vσ_24 kdσ_24 c_25; omega) | omega)
              have vσ_26 : m_W (m_c X σ_26 a) (n + 1) := m_W.wr vσ_24 mcσ_26 (by first | (clear hn ho h0 gσ wσ k2σ hh if_1 if_2 iz_3 bhpσ_5 chpσ_5 j29 kc_8 gσ_7 wσ_7 kdσ_7 k2σ_7 z7σ_7 iz_9 if_10 qw iz_11 gσ_12 vσ_12 lsσ_12 kdσ_12 k2σ_12 z7σ_12 iz_13 if_14 c_15 iz_16 gσ_17 vσ_17 k2σ_17 z7σ_17 gσ_18 vσ_18 kdσ_18 k2σ_18 z7σ_18 c_19 gσ_20 vσ_20 kdσ_20 k2σ_20 z7σ_20 kc_21 ahpσ_23 bhpσ_23 chpσ_23 gσ_24 vσ_24 kdσ_24 k2σ_24 z7σ_24 c_25 gσ_26; omega) | omega)
              have kqσ_26 : ∀ j, 654 ≤ j → m_c X σ_26 a j = m_c X σ a j := fun j h => by rw [mcσ_26 j (by first | (clear hn ho h0 gσ wσ k2σ hh if_1 if_2 iz_3 bhpσ_5 chpσ_5 j29 kc_8 gσ_7 wσ_7 kdσ_7 k2σ_7 z7σ_7 iz_9 if_10 qw iz_11 gσ_12 vσ_12 lsσ_12 kdσ_12 k2σ_12 z7σ_12 iz_13 if_14 c_15 iz_16 gσ_17 vσ_17 k2σ_17 z7σ_17 gσ_18 vσ_18 kdσ_18 k2σ_18 z7σ_18 c_19 gσ_20 vσ_20 kdσ_20 k2σ_20 z7σ_20 kc_21 ahpσ_23 bhpσ_23 chpσ_23 gσ_24 vσ_24 kdσ_24 k2σ_24 z7σ_24 c_25 gσ_26 vσ_26; omega) | omega), if_neg (by first | (clear hn ho h0 gσ wσ k2σ hh if_1 if_2 iz_3 bhpσ_5 chpσ_5 j29 kc_8 gσ_7 wσ_7 kdσ_7 k2σ_7 z7σ_7 iz_9 if_10 qw iz_11 gσ_12 vσ_12 lsσ_12 kdσ_12 k2σ_12 z7σ_12 iz_13 if_14 c_15 iz_16 gσ_17 vσ_17 k2σ_17 z7σ_17 gσ_18 vσ_18 kdσ_18 k2σ_18 z7σ_18 c_19 gσ_20 vσ_20 kdσ_20 k2σ_20 z7σ_20 kc_21 ahpσ_23 bhpσ_23 chpσ_23 gσ_24 vσ_24 kdσ_24 k2σ_24 z7σ_24 c_25 gσ_26 vσ_26; omega) | omega)] <;> exact kqσ_24 j h
              have kdσ_26 : m_KD 40 X σ σ_26 := kdσ_24.ar hσ_26 (q_tk (k' := 34) hI ha rfl (by decide)) (by decide) (by decide)
              have k2σ_26 : m_c X σ_26 a 0 = m_c X σ a 0 ∧ m_c X σ_26 a 2 = m_c X σ a 2 := ⟨by rw [mcσ_26 0 (by decide), if_neg (by first | (clear hn ho h0 gσ wσ k2σ hh if_1 if_2 iz_3 bhpσ_5 chpσ_5 j29 kc_8 gσ_7 wσ_7 kdσ_7 k2σ_7 z7σ_7 iz_9 if_10 qw iz_11 gσ_12 vσ_12 lsσ_12 kdσ_12 k2σ_12 z7σ_12 iz_13 if_14 c_15 iz_16 gσ_17 vσ_17 k2σ_17 z7σ_17 gσ_18 vσ_18 kdσ_18 k2σ_18 z7σ_18 c_19 gσ_20 vσ_20 kdσ_20 k2σ_20 z7σ_20 kc_21 ahpσ_23 bhpσ_23 chpσ_23 gσ_24 vσ_24 kdσ_24 k2σ_24 z7σ_24 c_25 gσ_26 vσ_26 kdσ_26; omega) | omega)] <;> exact k2σ_24.1, by rw [mcσ_26 2 (by decide), if_neg (by first | (clear hn ho h0 gσ wσ k2σ hh if_1 if_2 iz_3 bhpσ_5 chpσ_5 j29 kc_8 gσ_7 wσ_7 kdσ_7 k2σ_7 z7σ_7 iz_9 if_10 qw iz_11 gσ_12 vσ_12 lsσ_12 kdσ_12 k2σ_12 z7σ_12 iz_13 if_14 c_15 iz_16 gσ_17 vσ_17 k2σ_17 z7σ_17 gσ_18 vσ_18 kdσ_18 k2σ_18 z7σ_18 c_19 gσ_20 vσ_20 kdσ_20 k2σ_20 z7σ_20 kc_21 ahpσ_23 bhpσ_23 chpσ_23 gσ_24 vσ_24 kdσ_24 k2σ_24 z7σ_24 c_25 gσ_26 vσ_26 kdσ_26; omega) | omega)] <;> exact k2σ_24.2⟩
              have z7σ_26 : m_c X σ_26 a 7 = 0 := (by rw [mcσ_26 7 (by decide), if_neg (by first | (clear hn ho h0 gσ wσ k2σ hh if_1 if_2 iz_3 bhpσ_5 chpσ_5 j29 kc_8 gσ_7 wσ_7 kdσ_7 k2σ_7 z7σ_7 iz_9 if_10 qw iz_11 gσ_12 vσ_12 lsσ_12 kdσ_12 k2σ_12 z7σ_12 iz_13 if_14 c_15 iz_16 gσ_17 vσ_17 k2σ_17 z7σ_17 gσ_18 vσ_18 kdσ_18 k2σ_18 z7σ_18 c_19 gσ_20 vσ_20 kdσ_20 k2σ_20 z7σ_20 kc_21 ahpσ_23 bhpσ_23 chpσ_23 gσ_24 vσ_24 kdσ_24 k2σ_24 z7σ_24 c_25 gσ_26 vσ_26 kdσ_26 k2σ_26; omega) | omega)]; exact z7σ_24)
              refine lv_iload_n hx hb dX12_doubts_132 rfl (lv_at hl 3 rfl) ?_
              refine q_if_eq (A := x_6.toInt) E rfl (tgt := 140) dX12_doubts_133 (by decide) (fun c_27 => ?_) (fun c_27 => ?_)
              · skip
                replace hF := q_ifp hF c_27
                refine lv_iload_n hx hb dX12_doubts_140 rfl (lv_at hl 2 rfl) ?_
                exact q_reti E hr hlk hI ⟨gσ_26, vσ_26, kqσ_26, kdσ_26, (hF.trans hout), fr_σ_26⟩ dX12_doubts_141
              · skip
                replace hF := q_ifn hF c_27
                refine lv_iload_n hx hb dX12_doubts_136 rfl (lv_at hl 1 rfl) ?_
                refine lv_goto (tgt := 141) hx hb dX12_doubts_137 (by decide) ?_
                exact q_reti E hr hlk hI ⟨gσ_26, vσ_26, kqσ_26, kdσ_26, (hF.trans hout), fr_σ_26⟩ dX12_doubts_141
            · skip
              replace hF := q_ifn hF c_25
              refine lv_iload_n hx hb dX12_doubts_126 rfl (lv_at hl 2 rfl) ?_
              refine lv_goto (tgt := 131) hx hb dX12_doubts_127 (by decide) ?_
              refine q_iastN E hI (q_tk (k' := 34) hI ha rfl (by decide)) ⟨by decide, rfl⟩ (by decide) (by rw [q_lnk (v := 4650) hI (q_tk (k' := 34) hI ha rfl (by decide)) rfl (by decide)]; decide) (show 1 < 2 by decide) (q_inU rfl) dX12_doubts_131 (fun H locs σ_28 hσ_28 hI => ?_)
              replace hF := q_letX hF hσ_28
              have fr_σ_28 := fr_σ_24.si hσ_28 (q_tk (k' := 34) hI ha rfl (by decide)) rfl
              have mcσ_28 := m_wr (v := f_1) (A := 6) hσ_28 (by decide) (by decide)
              have gσ_28 : m_G (m_c X σ_28 a) := m_G.wr gσ_24 mcσ_28 (by first | (clear hn h0 gσ wσ k2σ if_2 iz_3 bhpσ_5 chpσ_5 j29 kc_8 gσ_7 wσ_7 kdσ_7 z7σ_7 if_10 qw iz_11 gσ_12 vσ_12 lsσ_12 kdσ_12 z7σ_12 if_14 c_15 iz_16 gσ_17 vσ_17 z7σ_17 gσ_18 vσ_18 kdσ_18 z7σ_18 c_19 gσ_20 vσ_20 kdσ_20 z7σ_20 kc_21 ahpσ_23 bhpσ_23 chpσ_23 gσ_24 vσ_24 kdσ_24 c_25; omega) | omega)
              have vσ_28 : m_W (m_c X σ_28 a) (n + 1) := m_W.wr vσ_24 mcσ_28 (by first | (clear hn ho h0 gσ wσ k2σ hh if_1 if_2 iz_3 bhpσ_5 chpσ_5 j29 kc_8 gσ_7 wσ_7 kdσ_7 k2σ_7 z7σ_7 iz_9 if_10 qw iz_11 gσ_12 vσ_12 lsσ_12 kdσ_12 k2σ_12 z7σ_12 iz_13 if_14 c_15 iz_16 gσ_17 vσ_17 k2σ_17 z7σ_17 gσ_18 vσ_18 kdσ_18 k2σ_18 z7σ_18 c_19 gσ_20 vσ_20 kdσ_20 k2σ_20 z7σ_20 kc_21 ahpσ_23 bhpσ_23 chpσ_23 gσ_24 vσ_24 kdσ_24 k2σ_24 z7σ_24 c_25 gσ_28; omega) | omega)
              have kqσ_28 : ∀ j, 654 ≤ j → m_c X σ_28 a j = m_c X σ a j := fun j h => by rw [mcσ_28 j (by first | (clear hn ho h0 gσ wσ k2σ hh if_1 if_2 iz_3 bhpσ_5 chpσ_5 j29 kc_8 gσ_7 wσ_7 kdσ_7 k2σ_7 z7σ_7 iz_9 if_10 qw iz_11 gσ_12 vσ_12 lsσ_12 kdσ_12 k2σ_12 z7σ_12 iz_13 if_14 c_15 iz_16 gσ_17 vσ_17 k2σ_17 z7σ_17 gσ_18 vσ_18 kdσ_18 k2σ_18 z7σ_18 c_19 gσ_20 vσ_20 kdσ_20 k2σ_20 z7σ_20 kc_21 ahpσ_23 bhpσ_23 chpσ_23 gσ_24 vσ_24 kdσ_24 k2σ_24 z7σ_24 c_25 gσ_28 vσ_28; omega) | omega), if_neg (by first | (clear hn ho h0 gσ wσ k2σ hh if_1 if_2 iz_3 bhpσ_5 chpσ_5 j29 kc_8 gσ_7 wσ_7 kdσ_7 k2σ_7 z7σ_7 iz_9 if_10 qw iz_11 gσ_12 vσ_12 lsσ_12 kdσ_12 k2σ_12 z7σ_12 iz_13 if_14 c_15 iz_16 gσ_17 vσ_17 k2σ_17 z7σ_17 gσ_18 vσ_18 kdσ_18 k2σ_18 z7σ_18 c_19 gσ_20 vσ_20 kdσ_20 k2σ_20 z7σ_20 kc_21 ahpσ_23 bhpσ_23 chpσ_23 gσ_24 vσ_24 kdσ_24 k2σ_24 z7σ_24 c_25 gσ_28 vσ_28; omega) | omega)] <;> exact kqσ_24 j h
              have kdσ_28 : m_KD 40 X σ σ_28 := kdσ_24.ar hσ_28 (q_tk (k' := 34) hI ha rfl (by decide)) (by decide) (by decide)
              have k2σ_28 : m_c X σ_28 a 0 = m_c X σ a 0 ∧ m_c X σ_28 a 2 = m_c X σ a 2 := ⟨by rw [mcσ_28 0 (by decide), if_neg (by first | (clear hn ho h0 gσ wσ k2σ hh if_1 if_2 iz_3 bhpσ_5 chpσ_5 j29 kc_8 gσ_7 wσ_7 kdσ_7 k2σ_7 z7σ_7 iz_9 if_10 qw iz_11 gσ_12 vσ_12 lsσ_12 kdσ_12 k2σ_12 z7σ_12 iz_13 if_14 c_15 iz_16 gσ_17 vσ_17 k2σ_17 z7σ_17 gσ_18 vσ_18 kdσ_18 k2σ_18 z7σ_18 c_19 gσ_20 vσ_20 kdσ_20 k2σ_20 z7σ_20 kc_21 ahpσ_23 bhpσ_23 chpσ_23 gσ_24 vσ_24 kdσ_24 k2σ_24 z7σ_24 c_25 gσ_28 vσ_28 kdσ_28; omega) | omega)] <;> exact k2σ_24.1, by rw [mcσ_28 2 (by decide), if_neg (by first | (clear hn ho h0 gσ wσ k2σ hh if_1 if_2 iz_3 bhpσ_5 chpσ_5 j29 kc_8 gσ_7 wσ_7 kdσ_7 k2σ_7 z7σ_7 iz_9 if_10 qw iz_11 gσ_12 vσ_12 lsσ_12 kdσ_12 k2σ_12 z7σ_12 iz_13 if_14 c_15 iz_16 gσ_17 vσ_17 k2σ_17 z7σ_17 gσ_18 vσ_18 kdσ_18 k2σ_18 z7σ_18 c_19 gσ_20 vσ_20 kdσ_20 k2σ_20 z7σ_20 kc_21 ahpσ_23 bhpσ_23 chpσ_23 gσ_24 vσ_24 kdσ_24 k2σ_24 z7σ_24 c_25 gσ_28 vσ_28 kdσ_28; omega) | omega)] <;> exact k2σ_24.2⟩
              have z7σ_28 : m_c X σ_28 a 7 = 0 := (by rw [mcσ_28 7 (by decide), if_neg (by first | (clear hn ho h0 gσ wσ k2σ hh if_1 if_2 iz_3 bhpσ_5 chpσ_5 j29 kc_8 gσ_7 wσ_7 kdσ_7 k2σ_7 z7σ_7 iz_9 if_10 qw iz_11 gσ_12 vσ_12 lsσ_12 kdσ_12 k2σ_12 z7σ_12 iz_13 if_14 c_15 iz_16 gσ_17 vσ_17 k2σ_17 z7σ_17 gσ_18 vσ_18 kdσ_18 k2σ_18 z7σ_18 c_19 gσ_20 vσ_20 kdσ_20 k2σ_20 z7σ_20 kc_21 ahpσ_23 bhpσ_23 chpσ_23 gσ_24 vσ_24 kdσ_24 k2σ_24 z7σ_24 c_25 gσ_28 vσ_28 kdσ_28 k2σ_28; omega) | omega)]; exact z7σ_24)
              refine lv_iload_n hx hb dX12_doubts_132 rfl (lv_at hl 3 rfl) ?_
              refine q_if_eq (A := x_6.toInt) E rfl (tgt := 140) dX12_doubts_133 (by decide) (fun c_29 => ?_) (fun c_29 => ?_)
              · skip
                replace hF := q_ifp hF c_29
                refine lv_iload_n hx hb dX12_doubts_140 rfl (lv_at hl 2 rfl) ?_
                exact q_reti E hr hlk hI ⟨gσ_28, vσ_28, kqσ_28, kdσ_28, (hF.trans hout), fr_σ_28⟩ dX12_doubts_141
              · skip
                replace hF := q_ifn hF c_29
                refine lv_iload_n hx hb dX12_doubts_136 rfl (lv_at hl 1 rfl) ?_
                refine lv_goto (tgt := 141) hx hb dX12_doubts_137 (by decide) ?_
                exact q_reti E hr hlk hI ⟨gσ_28, vσ_28, kqσ_28, kdσ_28, (hF.trans hout), fr_σ_28⟩ dX12_doubts_141
          refine q_cv (q_runV (As := [.int f_1]) (rest := []) E (hml.trans hl.1.symm) hI (c_X12_takes l X σ_18 a f_1 ha gσ_18 (by first | (clear hn h0 gσ wσ k2σ if_2 iz_3 bhpσ_5 chpσ_5 j29 kc_8 gσ_7 wσ_7 kdσ_7 z7σ_7 if_10 qw iz_11 gσ_12 vσ_12 lsσ_12 kdσ_12 z7σ_12 if_14 c_15 iz_16 gσ_17 vσ_17 z7σ_17 gσ_18 vσ_18 kdσ_18 z7σ_18 c_19; omega) | omega) (by omega)) kv_X12_325 ha ⟨rfl, by decide⟩ (show vwCl[11]? = some (RX12, TX12, 46) from rfl) rfl ⟨Nat.le_of_ble_eq_true rfl, Nat.le_of_ble_eq_true rfl⟩ ⟨Nat.le_refl _, Nat.le_refl _⟩ rfl (Nat.le_of_ble_eq_true rfl) dX12_doubts_102) hI (by decide) (fun σ_31 H locs hpσ_31 hkσ_31 hI => ?_)
          obtain ⟨ahpσ_31, bhpσ_31, chpσ_31, dhpσ_31, ehpσ_31⟩ := hpσ_31
          have fr_σ_31 := fr_σ_18.call ehpσ_31 rfl rfl
          replace hF := q_letX hF dhpσ_31
          have gσ_31 : m_G (m_c X σ_31 a) := ahpσ_31
          have vσ_31 : m_W (m_c X σ_31 a) (n + 1) := m_W.ext (fun j h0 h1 => bhpσ_31 j (by first | (clear hn ho h0 gσ wσ k2σ hh if_1 if_2 iz_3 bhpσ_5 chpσ_5 j29 kc_8 gσ_7 wσ_7 kdσ_7 k2σ_7 z7σ_7 iz_9 if_10 qw iz_11 gσ_12 vσ_12 lsσ_12 kdσ_12 k2σ_12 z7σ_12 iz_13 if_14 c_15 iz_16 gσ_17 vσ_17 k2σ_17 z7σ_17 gσ_18 vσ_18 kdσ_18 k2σ_18 z7σ_18 c_19 ahpσ_31 bhpσ_31 chpσ_31 dhpσ_31 ehpσ_31 gσ_31; omega) | omega) (by first | (clear hn ho h0 gσ wσ k2σ hh if_1 if_2 iz_3 bhpσ_5 chpσ_5 j29 kc_8 gσ_7 wσ_7 kdσ_7 k2σ_7 z7σ_7 iz_9 if_10 qw iz_11 gσ_12 vσ_12 lsσ_12 kdσ_12 k2σ_12 z7σ_12 iz_13 if_14 c_15 iz_16 gσ_17 vσ_17 k2σ_17 z7σ_17 gσ_18 vσ_18 kdσ_18 k2σ_18 z7σ_18 c_19 ahpσ_31 bhpσ_31 chpσ_31 dhpσ_31 ehpσ_31 gσ_31; omega) | omega)) vσ_18
          have kqσ_31 : ∀ j, 654 ≤ j → m_c X σ_31 a j = m_c X σ a j := (fun j h => (bhpσ_31 j (by first | (clear hn ho h0 gσ wσ k2σ hh if_1 if_2 iz_3 bhpσ_5 chpσ_5 j29 kc_8 gσ_7 wσ_7 kdσ_7 k2σ_7 z7σ_7 iz_9 if_10 qw iz_11 gσ_12 vσ_12 lsσ_12 kdσ_12 k2σ_12 z7σ_12 iz_13 if_14 c_15 iz_16 gσ_17 vσ_17 k2σ_17 z7σ_17 gσ_18 vσ_18 kdσ_18 k2σ_18 z7σ_18 c_19 ahpσ_31 bhpσ_31 chpσ_31 dhpσ_31 ehpσ_31 gσ_31 vσ_31; omega) | omega) (by first | (clear hn ho h0 gσ wσ k2σ hh if_1 if_2 iz_3 bhpσ_5 chpσ_5 j29 kc_8 gσ_7 wσ_7 kdσ_7 k2σ_7 z7σ_7 iz_9 if_10 qw iz_11 gσ_12 vσ_12 lsσ_12 kdσ_12 k2σ_12 z7σ_12 iz_13 if_14 c_15 iz_16 gσ_17 vσ_17 k2σ_17 z7σ_17 gσ_18 vσ_18 kdσ_18 k2σ_18 z7σ_18 c_19 ahpσ_31 bhpσ_31 chpσ_31 dhpσ_31 ehpσ_31 gσ_31 vσ_31; omega) | omega)).trans (kqσ_18 j h))
          have kdσ_31 : m_KD 40 X σ σ_31 := kdσ_18.tr chpσ_31
          have k2σ_31 : m_c X σ_31 a 0 = m_c X σ a 0 ∧ m_c X σ_31 a 2 = m_c X σ a 2 := ⟨(bhpσ_31 0 (by decide) (by decide)).trans k2σ_18.1, (bhpσ_31 2 (by decide) (by decide)).trans k2σ_18.2⟩
          have z7σ_31 : m_c X σ_31 a 7 = 0 := (bhpσ_31 7 (by decide) (by decide)).trans z7σ_18
          exact J_105_20 σ_31 _ _ ls fr_σ_31 gσ_31 vσ_31 kqσ_31 kdσ_31 k2σ_31 z7σ_31 hF hI (lv_sub hl [0, 1, 2, 3] rfl)
        · skip
          replace hF := q_ifn hF c_19
          refine lv_iload_n hx hb dX12_doubts_97 rfl (lv_at hl 1 rfl) ?_
          refine lv_goto (tgt := 102) hx hb dX12_doubts_98 (by decide) ?_
          have J_105_32 : ∀  (σ_32 : ST) (H : Heap) (locs : List Loc) (ls : Array Slot), (q_ow [(34, 99)] [] X σ σ_32) → (m_G (m_c X σ_32 a)) → (m_W (m_c X σ_32 a) (n + 1)) → (∀ j, 654 ≤ j → m_c X σ_32 a j = m_c X σ a j) → (m_KD 40 X σ σ_32) → (m_c X σ_32 a 0 = m_c X σ a 0 ∧ m_c X σ_32 a 2 = m_c X σ a 2) → (m_c X σ_32 a 7 = 0) → (F_X12_doubts_J105_4 X a x_6 v1 f_1 σ_32 = out) → q_I X 1 σ s.heap locs σ_32 H → lv_has ls 4 [(0, .ref a), (1, .int v1), (2, .int f_1), (3, .int x_6)] → W p l e (q_rm 2 45) s m ([.ref a, .int v1] : List Value).toArray below meth c H locs 0 0 (MQ below (q_Qi X 1 σ (fun (r : Int32) (σ' : ST) => (m_G (m_c X σ' a)) ∧ (m_W (m_c X σ' a) (n + 1)) ∧ (∀ j, 654 ≤ j → m_c X σ' a j = m_c X σ a j) ∧ (m_KD 40 X σ σ') ∧ (r, σ') = F_X12_doubts X σ a v1 ∧ q_ow [(34, 99)] [] X σ σ')) ([.ref a, .int v1] : List Value).toArray s 0 0 (q_reg X)) (F0 m 105 ls []) := by
            clear hF
            intro σ_32 H locs ls fr_σ_32 gσ_32 vσ_32 kqσ_32 kdσ_32 k2σ_32 z7σ_32 hF hI hl
            unfold F_X12_doubts_J105_4 at hF
            refine lv_aload_n hx hb dX12_doubts_105 rfl (lv_at hl 0 rfl) ?_
            refine gs_X12_35_12 E hI ha dX12_doubts_106 ?_
            refine lv_iconst (v := 5) hx hb dX12_doubts_109 (by decide) ?_
            refine lv_aload_n hx hb dX12_doubts_110 rfl (lv_at hl 0 rfl) ?_
            refine lv_iconst (v := 0) hx hb dX12_doubts_111 (by decide) ?_
            have kc_33 : (0 : Int32).toInt = 0 := rfl
            refine q_ci (q_runV (As := [.int 0]) (rest := [.int 5, .ref (q_rf X a 20)]) E (hml.trans hl.1.symm) hI (c_X12_nextKind l X σ_32 a (0 : Int32) ha gσ_32) kv_X12_315 ha ⟨rfl, by decide⟩ (show vwCl[11]? = some (RX12, TX12, 46) from rfl) rfl ⟨Nat.le_of_ble_eq_true rfl, Nat.le_of_ble_eq_true rfl⟩ ⟨Nat.le_refl _, Nat.le_refl _⟩ rfl (Nat.le_of_ble_eq_true rfl) dX12_doubts_112) hI (by decide) (fun r_34 σ_35 H locs hpσ_35 hkσ_35 hI => ?_)
            obtain ⟨ahpσ_35, bhpσ_35, chpσ_35⟩ := hpσ_35
            rw [ahpσ_35] at hI
            replace hF := q_letX hF chpσ_35
            refine q_iastN E hI (q_tk (k' := 34) hI ha rfl (by decide)) ⟨by decide, rfl⟩ (by decide) (by rw [q_lnk (v := 4650) hI (q_tk (k' := 34) hI ha rfl (by decide)) rfl (by decide)]; decide) (show 1 < 2 by decide) (q_inU rfl) dX12_doubts_115 (fun H locs σ_36 hσ_36 hI => ?_)
            replace hF := q_letX hF hσ_36
            have fr_σ_36 := fr_σ_32.si hσ_36 (q_tk (k' := 34) hI ha rfl (by decide)) rfl
            have mcσ_36 := m_wr (v := r_34) (A := 5) hσ_36 (by decide) (by decide)
            have gσ_36 : m_G (m_c X σ_36 a) := m_G.wr gσ_32 mcσ_36 (by first | (clear hn ho h0 gσ wσ k2σ hh if_1 if_2 iz_3 bhpσ_5 chpσ_5 j29 kc_8 gσ_7 wσ_7 kdσ_7 k2σ_7 z7σ_7 iz_9 if_10 qw iz_11 gσ_12 vσ_12 lsσ_12 kdσ_12 k2σ_12 z7σ_12 iz_13 if_14 c_15 iz_16 gσ_17 vσ_17 k2σ_17 z7σ_17 gσ_18 vσ_18 kdσ_18 k2σ_18 z7σ_18 c_19 gσ_32 vσ_32 kdσ_32 k2σ_32 kc_33 ahpσ_35 chpσ_35; omega) | omega)
            have vσ_36 : m_W (m_c X σ_36 a) (n + 1) := m_W.wr vσ_32 mcσ_36 (by first | (clear hn ho h0 gσ wσ k2σ hh if_1 if_2 iz_3 bhpσ_5 chpσ_5 j29 kc_8 gσ_7 wσ_7 kdσ_7 k2σ_7 z7σ_7 iz_9 if_10 qw iz_11 gσ_12 vσ_12 lsσ_12 kdσ_12 k2σ_12 z7σ_12 iz_13 if_14 c_15 iz_16 gσ_17 vσ_17 k2σ_17 z7σ_17 gσ_18 vσ_18 kdσ_18 k2σ_18 z7σ_18 c_19 gσ_32 vσ_32 kdσ_32 k2σ_32 z7σ_32 kc_33 ahpσ_35 bhpσ_35 chpσ_35 gσ_36; omega) | omega)
            have kqσ_36 : ∀ j, 654 ≤ j → m_c X σ_36 a j = m_c X σ a j := fun j h => by rw [mcσ_36 j (by first | (clear hn ho h0 gσ wσ k2σ hh if_1 if_2 iz_3 bhpσ_5 chpσ_5 j29 kc_8 gσ_7 wσ_7 kdσ_7 k2σ_7 z7σ_7 iz_9 if_10 qw iz_11 gσ_12 vσ_12 lsσ_12 kdσ_12 k2σ_12 z7σ_12 iz_13 if_14 c_15 iz_16 gσ_17 vσ_17 k2σ_17 z7σ_17 gσ_18 vσ_18 kdσ_18 k2σ_18 z7σ_18 c_19 gσ_32 vσ_32 kdσ_32 k2σ_32 z7σ_32 kc_33 ahpσ_35 bhpσ_35 chpσ_35 gσ_36 vσ_36; omega) | omega), if_neg (by first | (clear hn ho h0 gσ wσ k2σ hh if_1 if_2 iz_3 bhpσ_5 chpσ_5 j29 kc_8 gσ_7 wσ_7 kdσ_7 k2σ_7 z7σ_7 iz_9 if_10 qw iz_11 gσ_12 vσ_12 lsσ_12 kdσ_12 k2σ_12 z7σ_12 iz_13 if_14 c_15 iz_16 gσ_17 vσ_17 k2σ_17 z7σ_17 gσ_18 vσ_18 kdσ_18 k2σ_18 z7σ_18 c_19 gσ_32 vσ_32 kdσ_32 k2σ_32 z7σ_32 kc_33 ahpσ_35 bhpσ_35 chpσ_35 gσ_36 vσ_36; omega) | omega)] <;> exact kqσ_32 j h
            have kdσ_36 : m_KD 40 X σ σ_36 := kdσ_32.ar hσ_36 (q_tk (k' := 34) hI ha rfl (by decide)) (by decide) (by decide)
            have k2σ_36 : m_c X σ_36 a 0 = m_c X σ a 0 ∧ m_c X σ_36 a 2 = m_c X σ a 2 := ⟨by rw [mcσ_36 0 (by decide), if_neg (by first | (clear hn ho h0 gσ wσ k2σ hh if_1 if_2 iz_3 bhpσ_5 chpσ_5 j29 kc_8 gσ_7 wσ_7 kdσ_7 k2σ_7 z7σ_7 iz_9 if_10 qw iz_11 gσ_12 vσ_12 lsσ_12 kdσ_12 k2σ_12 z7σ_12 iz_13 if_14 c_15 iz_16 gσ_17 vσ_17 k2σ_17 z7σ_17 gσ_18 vσ_18 kdσ_18 k2σ_18 z7σ_18 c_19 gσ_32 vσ_32 kdσ_32 k2σ_32 z7σ_32 kc_33 ahpσ_35 bhpσ_35 chpσ_35 gσ_36 vσ_36 kdσ_36; omega) | omega)] <;> exact k2σ_32.1, by rw [mcσ_36 2 (by decide), if_neg (by first | (clear hn ho h0 gσ wσ k2σ hh if_1 if_2 iz_3 bhpσ_5 chpσ_5 j29 kc_8 gσ_7 wσ_7 kdσ_7 k2σ_7 z7σ_7 iz_9 if_10 qw iz_11 gσ_12 vσ_12 lsσ_12 kdσ_12 k2σ_12 z7σ_12 iz_13 if_14 c_15 iz_16 gσ_17 vσ_17 k2σ_17 z7σ_17 gσ_18 vσ_18 kdσ_18 k2σ_18 z7σ_18 c_19 gσ_32 vσ_32 kdσ_32 k2σ_32 z7σ_32 kc_33 ahpσ_35 bhpσ_35 chpσ_35 gσ_36 vσ_36 kdσ_36; omega) | omega)] <;> exact k2σ_32.2⟩
            have z7σ_36 : m_c X σ_36 a 7 = 0 := (by rw [mcσ_36 7 (by decide), if_neg (by first | (clear hn ho h0 gσ wσ k2σ hh if_1 if_2 iz_3 bhpσ_5 chpσ_5 j29 kc_8 gσ_7 wσ_7 kdσ_7 k2σ_7 z7σ_7 iz_9 if_10 qw iz_11 gσ_12 vσ_12 lsσ_12 kdσ_12 k2σ_12 z7σ_12 iz_13 if_14 c_15 iz_16 gσ_17 vσ_17 k2σ_17 z7σ_17 gσ_18 vσ_18 kdσ_18 k2σ_18 z7σ_18 c_19 gσ_32 vσ_32 kdσ_32 k2σ_32 z7σ_32 kc_33 ahpσ_35 bhpσ_35 chpσ_35 gσ_36 vσ_36 kdσ_36 k2σ_36; omega) | omega)]; exact z7σ_32)
            refine lv_aload_n hx hb dX12_doubts_116 rfl (lv_at hl 0 rfl) ?_
            refine gs_X12_35_12 E hI ha dX12_doubts_117 ?_
            refine lv_bipush (v := 6) hx hb dX12_doubts_120 (by decide) ?_
            refine lv_iload_n hx hb dX12_doubts_122 rfl (lv_at hl 3 rfl) ?_
            refine q_if_eq (A := x_6.toInt) E rfl (tgt := 130) dX12_doubts_123 (by decide) (fun c_37 => ?_) (fun c_37 => ?_)
            · skip
              replace hF := q_ifp hF c_37
              refine lv_iload_n hx hb dX12_doubts_130 rfl (lv_at hl 1 rfl) ?_
              refine q_iastN E hI (q_tk (k' := 34) hI ha rfl (by decide)) ⟨by decide, rfl⟩ (by decide) (by rw [q_lnk (v := 4650) hI (q_tk (k' := 34) hI ha rfl (by decide)) rfl (by decide)]; decide) (show 1 < 2 by decide) (q_inU rfl) dX12_doubts_131 (fun H locs σ_38 hσ_38 hI => ?_)
              replace hF := q_letX hF hσ_38
              have fr_σ_38 := fr_σ_36.si hσ_38 (q_tk (k' := 34) hI ha rfl (by decide)) rfl
              have mcσ_38 := m_wr (v := v1) (A := 6) hσ_38 (by decide) (by decide)
              have gσ_38 : m_G (m_c X σ_38 a) := m_G.wr gσ_36 mcσ_38 (by first | (clear hn ho h0 gσ wσ k2σ hh if_1 if_2 iz_3 bhpσ_5 chpσ_5 j29 kc_8 gσ_7 wσ_7 kdσ_7 z7σ_7 iz_9 if_10 qw iz_11 gσ_12 vσ_12 lsσ_12 kdσ_12 z7σ_12 iz_13 if_14 c_15 iz_16 gσ_17 vσ_17 z7σ_17 gσ_18 vσ_18 kdσ_18 z7σ_18 c_19 gσ_32 vσ_32 kdσ_32 z7σ_32 kc_33 ahpσ_35 bhpσ_35 chpσ_35 gσ_36 vσ_36 kdσ_36 c_37; omega) | omega)
              have vσ_38 : m_W (m_c X σ_38 a) (n + 1) := m_W.wr vσ_36 mcσ_38 (by first | (clear hn ho h0 gσ wσ k2σ hh if_1 if_2 iz_3 bhpσ_5 chpσ_5 j29 kc_8 gσ_7 wσ_7 kdσ_7 k2σ_7 z7σ_7 iz_9 if_10 qw iz_11 gσ_12 vσ_12 lsσ_12 kdσ_12 k2σ_12 z7σ_12 iz_13 if_14 c_15 iz_16 gσ_17 vσ_17 k2σ_17 z7σ_17 gσ_18 vσ_18 kdσ_18 k2σ_18 z7σ_18 c_19 gσ_32 vσ_32 kdσ_32 k2σ_32 z7σ_32 kc_33 ahpσ_35 bhpσ_35 chpσ_35 gσ_36 vσ_36 kdσ_36 k2σ_36 z7σ_36 c_37 gσ_38; omega) | omega)
              have kqσ_38 : ∀ j, 654 ≤ j → m_c X σ_38 a j = m_c X σ a j := fun j h => by rw [mcσ_38 j (by first | (clear hn ho h0 gσ wσ k2σ hh if_1 if_2 iz_3 bhpσ_5 chpσ_5 j29 kc_8 gσ_7 wσ_7 kdσ_7 k2σ_7 z7σ_7 iz_9 if_10 qw iz_11 gσ_12 vσ_12 lsσ_12 kdσ_12 k2σ_12 z7σ_12 iz_13 if_14 c_15 iz_16 gσ_17 vσ_17 k2σ_17 z7σ_17 gσ_18 vσ_18 kdσ_18 k2σ_18 z7σ_18 c_19 gσ_32 vσ_32 kdσ_32 k2σ_32 z7σ_32 kc_33 ahpσ_35 bhpσ_35 chpσ_35 gσ_36 vσ_36 kdσ_36 k2σ_36 z7σ_36 c_37 gσ_38 vσ_38; omega) | omega), if_neg (by first | (clear hn ho h0 gσ wσ k2σ hh if_1 if_2 iz_3 bhpσ_5 chpσ_5 j29 kc_8 gσ_7 wσ_7 kdσ_7 k2σ_7 z7σ_7 iz_9 if_10 qw iz_11 gσ_12 vσ_12 lsσ_12 kdσ_12 k2σ_12 z7σ_12 iz_13 if_14 c_15 iz_16 gσ_17 vσ_17 k2σ_17 z7σ_17 gσ_18 vσ_18 kdσ_18 k2σ_18 z7σ_18 c_19 gσ_32 vσ_32 kdσ_32 k2σ_32 z7σ_32 kc_33 ahpσ_35 bhpσ_35 chpσ_35 gσ_36 vσ_36 kdσ_36 k2σ_36 z7σ_36 c_37 gσ_38 vσ_38; omega) | omega)] <;> exact kqσ_36 j h
              have kdσ_38 : m_KD 40 X σ σ_38 := kdσ_36.ar hσ_38 (q_tk (k' := 34) hI ha rfl (by decide)) (by decide) (by decide)
              have k2σ_38 : m_c X σ_38 a 0 = m_c X σ a 0 ∧ m_c X σ_38 a 2 = m_c X σ a 2 := ⟨by rw [mcσ_38 0 (by decide), if_neg (by first | (clear hn ho h0 gσ wσ k2σ hh if_1 if_2 iz_3 bhpσ_5 chpσ_5 j29 kc_8 gσ_7 wσ_7 kdσ_7 k2σ_7 z7σ_7 iz_9 if_10 qw iz_11 gσ_12 vσ_12 lsσ_12 kdσ_12 k2σ_12 z7σ_12 iz_13 if_14 c_15 iz_16 gσ_17 vσ_17 k2σ_17 z7σ_17 gσ_18 vσ_18 kdσ_18 k2σ_18 z7σ_18 c_19 gσ_32 vσ_32 kdσ_32 k2σ_32 z7σ_32 kc_33 ahpσ_35 bhpσ_35 chpσ_35 gσ_36 vσ_36 kdσ_36 k2σ_36 z7σ_36 c_37 gσ_38 vσ_38 kdσ_38; omega) | omega)] <;> exact k2σ_36.1, by rw [mcσ_38 2 (by decide), if_neg (by first | (clear hn ho h0 gσ wσ k2σ hh if_1 if_2 iz_3 bhpσ_5 chpσ_5 j29 kc_8 gσ_7 wσ_7 kdσ_7 k2σ_7 z7σ_7 iz_9 if_10 qw iz_11 gσ_12 vσ_12 lsσ_12 kdσ_12 k2σ_12 z7σ_12 iz_13 if_14 c_15 iz_16 gσ_17 vσ_17 k2σ_17 z7σ_17 gσ_18 vσ_18 kdσ_18 k2σ_18 z7σ_18 c_19 gσ_32 vσ_32 kdσ_32 k2σ_32 z7σ_32 kc_33 ahpσ_35 bhpσ_35 chpσ_35 gσ_36 vσ_36 kdσ_36 k2σ_36 z7σ_36 c_37 gσ_38 vσ_38 kdσ_38; omega) | omega)] <;> exact k2σ_36.2⟩
              have z7σ_38 : m_c X σ_38 a 7 = 0 := (by rw [mcσ_38 7 (by decide), if_neg (by first | (clear hn ho h0 gσ wσ k2σ hh if_1 if_2 iz_3 bhpσ_5 chpσ_5 j29 kc_8 gσ_7 wσ_7 kdσ_7 k2σ_7 z7σ_7 iz_9 if_10 qw iz_11 gσ_12 vσ_12 lsσ_12 kdσ_12 k2σ_12 z7σ_12 iz_13 if_14 c_15 iz_16 gσ_17 vσ_17 k2σ_17 z7σ_17 gσ_18 vσ_18 kdσ_18 k2σ_18 z7σ_18 c_19 gσ_32 vσ_32 kdσ_32 k2σ_32 z7σ_32 kc_33 ahpσ_35 bhpσ_35 chpσ_35 gσ_36 vσ_36 kdσ_36 k2σ_36 z7σ_36 c_37 gσ_38 vσ_38 kdσ_38 k2σ_38; omega) | omega)]; exact z7σ_36)
              refine lv_iload_n hx hb dX12_doubts_132 rfl (lv_at hl 3 rfl) ?_
              refine q_if_eq (A := x_6.toInt) E rfl (tgt := 140) dX12_doubts_133 (by decide) (fun c_39 => ?_) (fun c_39 => ?_)
              · skip
                replace hF := q_ifp hF c_39
                refine lv_iload_n hx hb dX12_doubts_140 rfl (lv_at hl 2 rfl) ?_
                exact q_reti E hr hlk hI ⟨gσ_38, vσ_38, kqσ_38, kdσ_38, (hF.trans hout), fr_σ_38⟩ dX12_doubts_141
              · skip
                replace hF := q_ifn hF c_39
                refine lv_iload_n hx hb dX12_doubts_136 rfl (lv_at hl 1 rfl) ?_
                refine lv_goto (tgt := 141) hx hb dX12_doubts_137 (by decide) ?_
                exact q_reti E hr hlk hI ⟨gσ_38, vσ_38, kqσ_38, kdσ_38, (hF.trans hout), fr_σ_38⟩ dX12_doubts_141
            · skip
              replace hF := q_ifn hF c_37
              refine lv_iload_n hx hb dX12_doubts_126 rfl (lv_at hl 2 rfl) ?_
              refine lv_goto (tgt := 131) hx hb dX12_doubts_127 (by decide) ?_
              refine q_iastN E hI (q_tk (k' := 34) hI ha rfl (by decide)) ⟨by decide, rfl⟩ (by decide) (by rw [q_lnk (v := 4650) hI (q_tk (k' := 34) hI ha rfl (by decide)) rfl (by decide)]; decide) (show 1 < 2 by decide) (q_inU rfl) dX12_doubts_131 (fun H locs σ_40 hσ_40 hI => ?_)
              replace hF := q_letX hF hσ_40
              have fr_σ_40 := fr_σ_36.si hσ_40 (q_tk (k' := 34) hI ha rfl (by decide)) rfl
              have mcσ_40 := m_wr (v := f_1) (A := 6) hσ_40 (by decide) (by decide)
              have gσ_40 : m_G (m_c X σ_40 a) := m_G.wr gσ_36 mcσ_40 (by first | (clear hn h0 gσ wσ k2σ if_2 iz_3 bhpσ_5 chpσ_5 j29 kc_8 gσ_7 wσ_7 kdσ_7 z7σ_7 if_10 qw iz_11 gσ_12 vσ_12 lsσ_12 kdσ_12 z7σ_12 if_14 c_15 iz_16 gσ_17 vσ_17 z7σ_17 gσ_18 vσ_18 kdσ_18 z7σ_18 c_19 gσ_32 vσ_32 kdσ_32 z7σ_32 kc_33 ahpσ_35 bhpσ_35 chpσ_35 gσ_36 vσ_36 kdσ_36 c_37; omega) | omega)
              have vσ_40 : m_W (m_c X σ_40 a) (n + 1) := m_W.wr vσ_36 mcσ_40 (by first | (clear hn ho h0 gσ wσ k2σ hh if_1 if_2 iz_3 bhpσ_5 chpσ_5 j29 kc_8 gσ_7 wσ_7 kdσ_7 k2σ_7 z7σ_7 iz_9 if_10 qw iz_11 gσ_12 vσ_12 lsσ_12 kdσ_12 k2σ_12 z7σ_12 iz_13 if_14 c_15 iz_16 gσ_17 vσ_17 k2σ_17 z7σ_17 gσ_18 vσ_18 kdσ_18 k2σ_18 z7σ_18 c_19 gσ_32 vσ_32 kdσ_32 k2σ_32 z7σ_32 kc_33 ahpσ_35 bhpσ_35 chpσ_35 gσ_36 vσ_36 kdσ_36 k2σ_36 z7σ_36 c_37 gσ_40; omega) | omega)
              have kqσ_40 : ∀ j, 654 ≤ j → m_c X σ_40 a j = m_c X σ a j := fun j h => by rw [mcσ_40 j (by first | (clear hn ho h0 gσ wσ k2σ hh if_1 if_2 iz_3 bhpσ_5 chpσ_5 j29 kc_8 gσ_7 wσ_7 kdσ_7 k2σ_7 z7σ_7 iz_9 if_10 qw iz_11 gσ_12 vσ_12 lsσ_12 kdσ_12 k2σ_12 z7σ_12 iz_13 if_14 c_15 iz_16 gσ_17 vσ_17 k2σ_17 z7σ_17 gσ_18 vσ_18 kdσ_18 k2σ_18 z7σ_18 c_19 gσ_32 vσ_32 kdσ_32 k2σ_32 z7σ_32 kc_33 ahpσ_35 bhpσ_35 chpσ_35 gσ_36 vσ_36 kdσ_36 k2σ_36 z7σ_36 c_37 gσ_40 vσ_40; omega) | omega), if_neg (by first | (clear hn ho h0 gσ wσ k2σ hh if_1 if_2 iz_3 bhpσ_5 chpσ_5 j29 kc_8 gσ_7 wσ_7 kdσ_7 k2σ_7 z7σ_7 iz_9 if_10 qw iz_11 gσ_12 vσ_12 lsσ_12 kdσ_12 k2σ_12 z7σ_12 iz_13 if_14 c_15 iz_16 gσ_17 vσ_17 k2σ_17 z7σ_17 gσ_18 vσ_18 kdσ_18 k2σ_18 z7σ_18 c_19 gσ_32 vσ_32 kdσ_32 k2σ_32 z7σ_32 kc_33 ahpσ_35 bhpσ_35 chpσ_35 gσ_36 vσ_36 kdσ_36 k2σ_36 z7σ_36 c_37 gσ_40 vσ_40; omega) | omega)] <;> exact kqσ_36 j h
              have kdσ_40 : m_KD 40 X σ σ_40 := kdσ_36.ar hσ_40 (q_tk (k' := 34) hI ha rfl (by decide)) (by decide) (by decide)
              have k2σ_40 : m_c X σ_40 a 0 = m_c X σ a 0 ∧ m_c X σ_40 a 2 = m_c X σ a 2 := ⟨by rw [mcσ_40 0 (by decide), if_neg (by first | (clear hn ho h0 gσ wσ k2σ hh if_1 if_2 iz_3 bhpσ_5 chpσ_5 j29 kc_8 gσ_7 wσ_7 kdσ_7 k2σ_7 z7σ_7 iz_9 if_10 qw iz_11 gσ_12 vσ_12 lsσ_12 kdσ_12 k2σ_12 z7σ_12 iz_13 if_14 c_15 iz_16 gσ_17 vσ_17 k2σ_17 z7σ_17 gσ_18 vσ_18 kdσ_18 k2σ_18 z7σ_18 c_19 gσ_32 vσ_32 kdσ_32 k2σ_32 z7σ_32 kc_33 ahpσ_35 bhpσ_35 chpσ_35 gσ_36 vσ_36 kdσ_36 k2σ_36 z7σ_36 c_37 gσ_40 vσ_40 kdσ_40; omega) | omega)] <;> exact k2σ_36.1, by rw [mcσ_40 2 (by decide), if_neg (by first | (clear hn ho h0 gσ wσ k2σ hh if_1 if_2 iz_3 bhpσ_5 chpσ_5 j29 kc_8 gσ_7 wσ_7 kdσ_7 k2σ_7 z7σ_7 iz_9 if_10 qw iz_11 gσ_12 vσ_12 lsσ_12 kdσ_12 k2σ_12 z7σ_12 iz_13 if_14 c_15 iz_16 gσ_17 vσ_17 k2σ_17 z7σ_17 gσ_18 vσ_18 kdσ_18 k2σ_18 z7σ_18 c_19 gσ_32 vσ_32 kdσ_32 k2σ_32 z7σ_32 kc_33 ahpσ_35 bhpσ_35 chpσ_35 gσ_36 vσ_36 kdσ_36 k2σ_36 z7σ_36 c_37 gσ_40 vσ_40 kdσ_40; omega) | omega)] <;> exact k2σ_36.2⟩
              have z7σ_40 : m_c X σ_40 a 7 = 0 := (by rw [mcσ_40 7 (by decide), if_neg (by first | (clear hn ho h0 gσ wσ k2σ hh if_1 if_2 iz_3 bhpσ_5 chpσ_5 j29 kc_8 gσ_7 wσ_7 kdσ_7 k2σ_7 z7σ_7 iz_9 if_10 qw iz_11 gσ_12 vσ_12 lsσ_12 kdσ_12 k2σ_12 z7σ_12 iz_13 if_14 c_15 iz_16 gσ_17 vσ_17 k2σ_17 z7σ_17 gσ_18 vσ_18 kdσ_18 k2σ_18 z7σ_18 c_19 gσ_32 vσ_32 kdσ_32 k2σ_32 z7σ_32 kc_33 ahpσ_35 bhpσ_35 chpσ_35 gσ_36 vσ_36 kdσ_36 k2σ_36 z7σ_36 c_37 gσ_40 vσ_40 kdσ_40 k2σ_40; omega) | omega)]; exact z7σ_36)
              refine lv_iload_n hx hb dX12_doubts_132 rfl (lv_at hl 3 rfl) ?_
              refine q_if_eq (A := x_6.toInt) E rfl (tgt := 140) dX12_doubts_133 (by decide) (fun c_41 => ?_) (fun c_41 => ?_)
              · skip
                replace hF := q_ifp hF c_41
                refine lv_iload_n hx hb dX12_doubts_140 rfl (lv_at hl 2 rfl) ?_
                exact q_reti E hr hlk hI ⟨gσ_40, vσ_40, kqσ_40, kdσ_40, (hF.trans hout), fr_σ_40⟩ dX12_doubts_141
              · skip
                replace hF := q_ifn hF c_41
                refine lv_iload_n hx hb dX12_doubts_136 rfl (lv_at hl 1 rfl) ?_
                refine lv_goto (tgt := 141) hx hb dX12_doubts_137 (by decide) ?_
                exact q_reti E hr hlk hI ⟨gσ_40, vσ_40, kqσ_40, kdσ_40, (hF.trans hout), fr_σ_40⟩ dX12_doubts_141
          refine q_cv (q_runV (As := [.int v1]) (rest := []) E (hml.trans hl.1.symm) hI (c_X12_takes l X σ_18 a v1 ha gσ_18 (by first | (clear hn ho h0 gσ wσ k2σ if_1 if_2 iz_3 bhpσ_5 chpσ_5 j29 kc_8 gσ_7 wσ_7 kdσ_7 z7σ_7 iz_9 if_10 qw iz_11 gσ_12 vσ_12 lsσ_12 kdσ_12 z7σ_12 iz_13 if_14 c_15 iz_16 gσ_17 vσ_17 z7σ_17 gσ_18 vσ_18 kdσ_18 z7σ_18 c_19; omega) | omega) (by omega)) kv_X12_325 ha ⟨rfl, by decide⟩ (show vwCl[11]? = some (RX12, TX12, 46) from rfl) rfl ⟨Nat.le_of_ble_eq_true rfl, Nat.le_of_ble_eq_true rfl⟩ ⟨Nat.le_refl _, Nat.le_refl _⟩ rfl (Nat.le_of_ble_eq_true rfl) dX12_doubts_102) hI (by decide) (fun σ_43 H locs hpσ_43 hkσ_43 hI => ?_)
          obtain ⟨ahpσ_43, bhpσ_43, chpσ_43, dhpσ_43, ehpσ_43⟩ := hpσ_43
          have fr_σ_43 := fr_σ_18.call ehpσ_43 rfl rfl
          replace hF := q_letX hF dhpσ_43
          have gσ_43 : m_G (m_c X σ_43 a) := ahpσ_43
          have vσ_43 : m_W (m_c X σ_43 a) (n + 1) := m_W.ext (fun j h0 h1 => bhpσ_43 j (by first | (clear hn ho h0 gσ wσ k2σ hh if_1 if_2 iz_3 bhpσ_5 chpσ_5 j29 kc_8 gσ_7 wσ_7 kdσ_7 k2σ_7 z7σ_7 iz_9 if_10 qw iz_11 gσ_12 vσ_12 lsσ_12 kdσ_12 k2σ_12 z7σ_12 iz_13 if_14 c_15 iz_16 gσ_17 vσ_17 k2σ_17 z7σ_17 gσ_18 vσ_18 kdσ_18 k2σ_18 z7σ_18 c_19 ahpσ_43 bhpσ_43 chpσ_43 dhpσ_43 ehpσ_43 gσ_43; omega) | omega) (by first | (clear hn ho h0 gσ wσ k2σ hh if_1 if_2 iz_3 bhpσ_5 chpσ_5 j29 kc_8 gσ_7 wσ_7 kdσ_7 k2σ_7 z7σ_7 iz_9 if_10 qw iz_11 gσ_12 vσ_12 lsσ_12 kdσ_12 k2σ_12 z7σ_12 iz_13 if_14 c_15 iz_16 gσ_17 vσ_17 k2σ_17 z7σ_17 gσ_18 vσ_18 kdσ_18 k2σ_18 z7σ_18 c_19 ahpσ_43 bhpσ_43 chpσ_43 dhpσ_43 ehpσ_43 gσ_43; omega) | omega)) vσ_18
          have kqσ_43 : ∀ j, 654 ≤ j → m_c X σ_43 a j = m_c X σ a j := (fun j h => (bhpσ_43 j (by first | (clear hn ho h0 gσ wσ k2σ hh if_1 if_2 iz_3 bhpσ_5 chpσ_5 j29 kc_8 gσ_7 wσ_7 kdσ_7 k2σ_7 z7σ_7 iz_9 if_10 qw iz_11 gσ_12 vσ_12 lsσ_12 kdσ_12 k2σ_12 z7σ_12 iz_13 if_14 c_15 iz_16 gσ_17 vσ_17 k2σ_17 z7σ_17 gσ_18 vσ_18 kdσ_18 k2σ_18 z7σ_18 c_19 ahpσ_43 bhpσ_43 chpσ_43 dhpσ_43 ehpσ_43 gσ_43 vσ_43; omega) | omega) (by first | (clear hn ho h0 gσ wσ k2σ hh if_1 if_2 iz_3 bhpσ_5 chpσ_5 j29 kc_8 gσ_7 wσ_7 kdσ_7 k2σ_7 z7σ_7 iz_9 if_10 qw iz_11 gσ_12 vσ_12 lsσ_12 kdσ_12 k2σ_12 z7σ_12 iz_13 if_14 c_15 iz_16 gσ_17 vσ_17 k2σ_17 z7σ_17 gσ_18 vσ_18 kdσ_18 k2σ_18 z7σ_18 c_19 ahpσ_43 bhpσ_43 chpσ_43 dhpσ_43 ehpσ_43 gσ_43 vσ_43; omega) | omega)).trans (kqσ_18 j h))
          have kdσ_43 : m_KD 40 X σ σ_43 := kdσ_18.tr chpσ_43
          have k2σ_43 : m_c X σ_43 a 0 = m_c X σ a 0 ∧ m_c X σ_43 a 2 = m_c X σ a 2 := ⟨(bhpσ_43 0 (by decide) (by decide)).trans k2σ_18.1, (bhpσ_43 2 (by decide) (by decide)).trans k2σ_18.2⟩
          have z7σ_43 : m_c X σ_43 a 7 = 0 := (bhpσ_43 7 (by decide) (by decide)).trans z7σ_18
          exact J_105_32 σ_43 _ _ ls fr_σ_43 gσ_43 vσ_43 kqσ_43 kdσ_43 k2σ_43 z7σ_43 hF hI (lv_sub hl [0, 1, 2, 3] rfl)
      refine q_if_eq (A := x_6.toInt) E rfl (tgt := 92) dX12_doubts_73 (by decide) (fun c_44 => ?_) (fun c_44 => ?_)
      · skip
        replace hF := q_ifp hF c_44
        exact J_92_18 σ_17 _ _ ls fr_σ_17 gσ_17 vσ_17 kqσ_17 kdσ_17 k2σ_17 z7σ_17 hF hI (lv_sub hl [1, 2, 3, 0] rfl)
      · skip
        replace hF := q_ifn hF c_44
        refine lv_aload_n hx hb dX12_doubts_76 rfl (lv_at hl 1 rfl) ?_
        refine lv_iload_n hx hb dX12_doubts_77 rfl (lv_at hl 3 rfl) ?_
        refine q_ci (q_runV (As := [.int f_1]) (rest := []) E (hml.trans hl.1.symm) hI (c_X12_cardsOf l X σ_17 a f_1 ha gσ_17 (by first | (clear hn h0 gσ wσ k2σ if_2 iz_3 bhpσ_5 chpσ_5 j29 kc_8 gσ_7 wσ_7 kdσ_7 z7σ_7 if_10 qw iz_11 gσ_12 vσ_12 lsσ_12 kdσ_12 z7σ_12 if_14 c_15 iz_16 gσ_17 vσ_17 z7σ_17 c_44; omega) | omega)) kv_X12_293 ha ⟨rfl, by decide⟩ (show vwCl[11]? = some (RX12, TX12, 46) from rfl) rfl ⟨Nat.le_of_ble_eq_true rfl, Nat.le_of_ble_eq_true rfl⟩ ⟨Nat.le_refl _, Nat.le_refl _⟩ rfl (Nat.le_of_ble_eq_true rfl) dX12_doubts_78) hI (by decide) (fun r_45 σ_46 H locs hpσ_46 hkσ_46 hI => ?_)
        obtain ⟨ahpσ_46, bhpσ_46, chpσ_46, dhpσ_46⟩ := hpσ_46
        rw [ahpσ_46] at hI
        replace hF := q_letX hF dhpσ_46
        refine q_if_ne (A := r_45.toInt) E rfl (tgt := 92) dX12_doubts_81 (by decide) (fun c_47 => ?_) (fun c_47 => ?_)
        · skip
          replace hF := q_ifn hF c_47
          exact J_92_18 σ_17 _ _ ls fr_σ_17 gσ_17 vσ_17 kqσ_17 kdσ_17 k2σ_17 z7σ_17 hF hI (lv_sub hl [1, 2, 3, 0] rfl)
        · skip
          replace hF := q_ifp hF c_47
          refine lv_aload_n hx hb dX12_doubts_84 rfl (lv_at hl 1 rfl) ?_
          refine gs_X12_35_12 E hI ha dX12_doubts_85 ?_
          refine lv_bipush (v := 8) hx hb dX12_doubts_88 (by decide) ?_
          refine lv_iload_n hx hb dX12_doubts_90 rfl (lv_at hl 3 rfl) ?_
          refine q_iastN E hI (q_tk (k' := 34) hI ha rfl (by decide)) ⟨by decide, rfl⟩ (by decide) (by rw [q_lnk (v := 4650) hI (q_tk (k' := 34) hI ha rfl (by decide)) rfl (by decide)]; decide) (show 1 < 2 by decide) (q_inU rfl) dX12_doubts_91 (fun H locs σ_48 hσ_48 hI => ?_)
          replace hF := q_letX hF hσ_48
          have fr_σ_48 := fr_σ_17.si hσ_48 (q_tk (k' := 34) hI ha rfl (by decide)) rfl
          have mcσ_48 := m_wr (v := f_1) (A := 8) hσ_48 (by decide) (by decide)
          have gσ_48 : m_G (m_c X σ_48 a) := m_G.wr gσ_17 mcσ_48 (by first | (clear hn h0 gσ wσ k2σ if_2 iz_3 bhpσ_5 chpσ_5 j29 kc_8 gσ_7 wσ_7 kdσ_7 z7σ_7 if_10 qw iz_11 gσ_12 vσ_12 lsσ_12 kdσ_12 z7σ_12 if_14 c_15 iz_16 gσ_17 vσ_17 c_44 ahpσ_46 bhpσ_46 chpσ_46 dhpσ_46 c_47; omega) | omega)
          have vσ_48 : m_W (m_c X σ_48 a) (n + 1) := m_W.wr vσ_17 mcσ_48 (by first | (clear hn ho h0 gσ wσ k2σ hh if_1 if_2 iz_3 bhpσ_5 chpσ_5 j29 kc_8 gσ_7 wσ_7 kdσ_7 k2σ_7 z7σ_7 iz_9 if_10 qw iz_11 gσ_12 vσ_12 lsσ_12 kdσ_12 k2σ_12 z7σ_12 iz_13 if_14 c_15 iz_16 gσ_17 vσ_17 k2σ_17 z7σ_17 c_44 ahpσ_46 bhpσ_46 chpσ_46 dhpσ_46 c_47 gσ_48; omega) | omega)
          have kqσ_48 : ∀ j, 654 ≤ j → m_c X σ_48 a j = m_c X σ a j := fun j h => by rw [mcσ_48 j (by first | (clear hn ho h0 gσ wσ k2σ hh if_1 if_2 iz_3 bhpσ_5 chpσ_5 j29 kc_8 gσ_7 wσ_7 kdσ_7 k2σ_7 z7σ_7 iz_9 if_10 qw iz_11 gσ_12 vσ_12 lsσ_12 kdσ_12 k2σ_12 z7σ_12 iz_13 if_14 c_15 iz_16 gσ_17 vσ_17 k2σ_17 z7σ_17 c_44 ahpσ_46 bhpσ_46 chpσ_46 dhpσ_46 c_47 gσ_48 vσ_48; omega) | omega), if_neg (by first | (clear hn ho h0 gσ wσ k2σ hh if_1 if_2 iz_3 bhpσ_5 chpσ_5 j29 kc_8 gσ_7 wσ_7 kdσ_7 k2σ_7 z7σ_7 iz_9 if_10 qw iz_11 gσ_12 vσ_12 lsσ_12 kdσ_12 k2σ_12 z7σ_12 iz_13 if_14 c_15 iz_16 gσ_17 vσ_17 k2σ_17 z7σ_17 c_44 ahpσ_46 bhpσ_46 chpσ_46 dhpσ_46 c_47 gσ_48 vσ_48; omega) | omega)] <;> exact kqσ_17 j h
          have kdσ_48 : m_KD 40 X σ σ_48 := kdσ_17.ar hσ_48 (q_tk (k' := 34) hI ha rfl (by decide)) (by decide) (by decide)
          have k2σ_48 : m_c X σ_48 a 0 = m_c X σ a 0 ∧ m_c X σ_48 a 2 = m_c X σ a 2 := ⟨by rw [mcσ_48 0 (by decide), if_neg (by first | (clear hn ho h0 gσ wσ k2σ hh if_1 if_2 iz_3 bhpσ_5 chpσ_5 j29 kc_8 gσ_7 wσ_7 kdσ_7 k2σ_7 z7σ_7 iz_9 if_10 qw iz_11 gσ_12 vσ_12 lsσ_12 kdσ_12 k2σ_12 z7σ_12 iz_13 if_14 c_15 iz_16 gσ_17 vσ_17 k2σ_17 z7σ_17 c_44 ahpσ_46 bhpσ_46 chpσ_46 dhpσ_46 c_47 gσ_48 vσ_48 kdσ_48; omega) | omega)] <;> exact k2σ_17.1, by rw [mcσ_48 2 (by decide), if_neg (by first | (clear hn ho h0 gσ wσ k2σ hh if_1 if_2 iz_3 bhpσ_5 chpσ_5 j29 kc_8 gσ_7 wσ_7 kdσ_7 k2σ_7 z7σ_7 iz_9 if_10 qw iz_11 gσ_12 vσ_12 lsσ_12 kdσ_12 k2σ_12 z7σ_12 iz_13 if_14 c_15 iz_16 gσ_17 vσ_17 k2σ_17 z7σ_17 c_44 ahpσ_46 bhpσ_46 chpσ_46 dhpσ_46 c_47 gσ_48 vσ_48 kdσ_48; omega) | omega)] <;> exact k2σ_17.2⟩
          have z7σ_48 : m_c X σ_48 a 7 = 0 := (by rw [mcσ_48 7 (by decide), if_neg (by first | (clear hn ho h0 gσ wσ k2σ hh if_1 if_2 iz_3 bhpσ_5 chpσ_5 j29 kc_8 gσ_7 wσ_7 kdσ_7 k2σ_7 z7σ_7 iz_9 if_10 qw iz_11 gσ_12 vσ_12 lsσ_12 kdσ_12 k2σ_12 z7σ_12 iz_13 if_14 c_15 iz_16 gσ_17 vσ_17 k2σ_17 z7σ_17 c_44 ahpσ_46 bhpσ_46 chpσ_46 dhpσ_46 c_47 gσ_48 vσ_48 kdσ_48 k2σ_48; omega) | omega)]; exact z7σ_17)
          exact J_92_18 σ_48 _ _ ls fr_σ_48 gσ_48 vσ_48 kqσ_48 kdσ_48 k2σ_48 z7σ_48 hF hI (lv_sub hl [1, 2, 3, 0] rfl)
    · skip
      replace hF := q_ifn hF c_15
      refine lv_iconst (v := 0) hx hb dX12_doubts_65 (by decide) ?_
      refine lv_goto (tgt := 70) hx hb dX12_doubts_66 (by decide) ?_
      refine lv_iadd hx hb dX12_doubts_70 ?_
      refine lv_topi (fun z_49 ez_49 => ?_)
      replace hF := q_letX hF ez_49
      have iz_49 := q_addI (A := (m_c X σ_12 a (28 + (m_c X σ a 6)))) (B := 0) ez_49 if_14 (by decide) (by first | (clear hn ho h0 gσ wσ k2σ hh if_1 if_2 iz_3 bhpσ_5 chpσ_5 j29 kc_8 gσ_7 wσ_7 kdσ_7 k2σ_7 z7σ_7 iz_9 if_10 qw iz_11 gσ_12 vσ_12 kdσ_12 k2σ_12 z7σ_12 iz_13 c_15; omega) | omega) (by first | (clear hn ho h0 gσ wσ k2σ hh if_1 if_2 iz_3 bhpσ_5 chpσ_5 j29 kc_8 gσ_7 wσ_7 kdσ_7 k2σ_7 z7σ_7 iz_9 if_10 qw iz_11 gσ_12 vσ_12 kdσ_12 k2σ_12 z7σ_12 iz_13 c_15; omega) | omega)
      refine q_iastN E hI (q_tk (k' := 34) hI ha rfl (by decide)) ⟨by decide, rfl⟩ (by first | (clear hn h0 gσ wσ k2σ if_2 iz_3 bhpσ_5 chpσ_5 j29 kc_8 gσ_7 wσ_7 kdσ_7 k2σ_7 z7σ_7 if_10 qw iz_11 gσ_12 vσ_12 lsσ_12 kdσ_12 k2σ_12 z7σ_12 if_14 c_15 iz_49; omega) | omega) (by rw [q_lnk (v := 4650) hI (q_tk (k' := 34) hI ha rfl (by decide)) rfl (by decide)]; omega) (show 1 < 2 by decide) (q_inU rfl) dX12_doubts_71 (fun H locs σ_50 hσ_50 hI => ?_)
      replace hF := q_letX hF hσ_50
      have fr_σ_50 := fr_σ_12.si hσ_50 (q_tk (k' := 34) hI ha rfl (by decide)) rfl
      have mcσ_50 := m_wr (v := z_49) (A := (28 + (m_c X σ a 6))) hσ_50 iz_13 (by first | (clear hn h0 gσ wσ k2σ if_2 iz_3 bhpσ_5 chpσ_5 j29 kc_8 gσ_7 wσ_7 kdσ_7 k2σ_7 z7σ_7 if_10 qw iz_11 gσ_12 vσ_12 lsσ_12 kdσ_12 k2σ_12 z7σ_12 if_14 c_15 iz_49; omega) | omega)
      have gσ_50 : m_G (m_c X σ_50 a) := m_G.wr gσ_12 mcσ_50 (by first | (clear hn h0 gσ wσ k2σ if_2 iz_3 bhpσ_5 chpσ_5 j29 kc_8 gσ_7 wσ_7 kdσ_7 z7σ_7 if_10 qw iz_11 gσ_12 vσ_12 kdσ_12 c_15; omega) | omega)
      have vσ_50 : m_W (m_c X σ_50 a) (n + 1) := vσ_12.lied mcσ_50 (by first | (clear hn h0 gσ wσ k2σ if_2 iz_3 bhpσ_5 chpσ_5 j29 kc_8 gσ_7 wσ_7 kdσ_7 z7σ_7 if_10 qw iz_11 gσ_12 vσ_12 lsσ_12 kdσ_12 z7σ_12 if_14 c_15 iz_49 gσ_50; omega) | omega) (by first | (clear hn ho h0 gσ wσ k2σ hh if_1 if_2 iz_3 bhpσ_5 chpσ_5 j29 kc_8 gσ_7 wσ_7 kdσ_7 k2σ_7 z7σ_7 iz_9 if_10 qw iz_11 gσ_12 vσ_12 kdσ_12 k2σ_12 z7σ_12 iz_13 c_15 gσ_50; omega) | omega)
      have kqσ_50 : ∀ j, 654 ≤ j → m_c X σ_50 a j = m_c X σ a j := fun j h => by rw [mcσ_50 j (by first | (clear hn ho h0 gσ wσ k2σ hh if_1 if_2 iz_3 bhpσ_5 chpσ_5 j29 kc_8 gσ_7 wσ_7 kdσ_7 k2σ_7 z7σ_7 iz_9 if_10 qw iz_11 gσ_12 vσ_12 lsσ_12 kdσ_12 k2σ_12 z7σ_12 iz_13 if_14 c_15 iz_49 gσ_50 vσ_50; omega) | omega), if_neg (by first | (clear hn ho h0 gσ wσ k2σ if_2 iz_3 bhpσ_5 chpσ_5 j29 kc_8 gσ_7 wσ_7 kdσ_7 z7σ_7 if_10 qw iz_11 gσ_12 vσ_12 lsσ_12 kdσ_12 z7σ_12 if_14 c_15 iz_49 gσ_50 vσ_50; omega) | omega)] <;> exact kqσ_12 j h
      have kdσ_50 : m_KD 40 X σ σ_50 := kdσ_12.ar hσ_50 (q_tk (k' := 34) hI ha rfl (by decide)) (by decide) (by decide)
      have k2σ_50 : m_c X σ_50 a 0 = m_c X σ a 0 ∧ m_c X σ_50 a 2 = m_c X σ a 2 := ⟨by rw [mcσ_50 0 (by decide), if_neg (by first | (clear hn h0 gσ wσ k2σ if_2 iz_3 bhpσ_5 chpσ_5 j29 kc_8 gσ_7 wσ_7 kdσ_7 k2σ_7 z7σ_7 if_10 qw iz_11 gσ_12 vσ_12 lsσ_12 kdσ_12 k2σ_12 z7σ_12 if_14 c_15 iz_49 gσ_50 vσ_50 kdσ_50; omega) | omega)] <;> exact k2σ_12.1, by rw [mcσ_50 2 (by decide), if_neg (by first | (clear hn h0 gσ wσ k2σ if_2 iz_3 bhpσ_5 chpσ_5 j29 kc_8 gσ_7 wσ_7 kdσ_7 k2σ_7 z7σ_7 if_10 qw iz_11 gσ_12 vσ_12 lsσ_12 kdσ_12 k2σ_12 z7σ_12 if_14 c_15 iz_49 gσ_50 vσ_50 kdσ_50; omega) | omega)] <;> exact k2σ_12.2⟩
      have z7σ_50 : m_c X σ_50 a 7 = 0 := (by rw [mcσ_50 7 (by decide), if_neg (by first | (clear hn h0 gσ wσ k2σ if_2 iz_3 bhpσ_5 chpσ_5 j29 kc_8 gσ_7 wσ_7 kdσ_7 k2σ_7 z7σ_7 if_10 qw iz_11 gσ_12 vσ_12 lsσ_12 kdσ_12 k2σ_12 z7σ_12 if_14 c_15 iz_49 gσ_50 vσ_50 kdσ_50 k2σ_50; omega) | omega)]; exact z7σ_12)
      refine lv_iload_n hx hb dX12_doubts_72 rfl (lv_at hl 0 rfl) ?_
      have J_92_51 : ∀  (σ_51 : ST) (H : Heap) (locs : List Loc) (ls : Array Slot), (q_ow [(34, 99)] [] X σ σ_51) → (m_G (m_c X σ_51 a)) → (m_W (m_c X σ_51 a) (n + 1)) → (∀ j, 654 ≤ j → m_c X σ_51 a j = m_c X σ a j) → (m_KD 40 X σ σ_51) → (m_c X σ_51 a 0 = m_c X σ a 0 ∧ m_c X σ_51 a 2 = m_c X σ a 2) → (m_c X σ_51 a 7 = 0) → (F_X12_doubts_J92_5 X x_6 a f_1 v1 σ_51 = out) → q_I X 1 σ s.heap locs σ_51 H → lv_has ls 4 [(0, .ref a), (1, .int v1), (2, .int f_1), (3, .int x_6)] → W p l e (q_rm 2 45) s m ([.ref a, .int v1] : List Value).toArray below meth c H locs 0 0 (MQ below (q_Qi X 1 σ (fun (r : Int32) (σ' : ST) => (m_G (m_c X σ' a)) ∧ (m_W (m_c X σ' a) (n + 1)) ∧ (∀ j, 654 ≤ j → m_c X σ' a j = m_c X σ a j) ∧ (m_KD 40 X σ σ') ∧ (r, σ') = F_X12_doubts X σ a v1 ∧ q_ow [(34, 99)] [] X σ σ')) ([.ref a, .int v1] : List Value).toArray s 0 0 (q_reg X)) (F0 m 92 ls []) := by
        clear hF
        intro σ_51 H locs ls fr_σ_51 gσ_51 vσ_51 kqσ_51 kdσ_51 k2σ_51 z7σ_51 hF hI hl
        try clear fr_σ_50; try clear mcσ_50; try clear kqσ_50; try clear kdσ_50
        unfold F_X12_doubts_J92_5 at hF
        refine lv_aload_n hx hb dX12_doubts_92 rfl (lv_at hl 0 rfl) ?_
        refine lv_iload_n hx hb dX12_doubts_93 rfl (lv_at hl 3 rfl) ?_
        refine q_if_eq (A := x_6.toInt) E rfl (tgt := 101) dX12_doubts_94 (by decide) (fun c_52 => ?_) (fun c_52 => ?_)
        · skip
          replace hF := q_ifp hF c_52
          refine lv_iload_n hx hb dX12_doubts_101 rfl (lv_at hl 2 rfl) ?_
          have J_105_53 : ∀  (σ_53 : ST) (H : Heap) (locs : List Loc) (ls : Array Slot), (q_ow [(34, 99)] [] X σ σ_53) → (m_G (m_c X σ_53 a)) → (m_W (m_c X σ_53 a) (n + 1)) → (∀ j, 654 ≤ j → m_c X σ_53 a j = m_c X σ a j) → (m_KD 40 X σ σ_53) → (m_c X σ_53 a 0 = m_c X σ a 0 ∧ m_c X σ_53 a 2 = m_c X σ a 2) → (m_c X σ_53 a 7 = 0) → (F_X12_doubts_J105_6 X a x_6 v1 f_1 σ_53 = out) → q_I X 1 σ s.heap locs σ_53 H → lv_has ls 4 [(0, .ref a), (1, .int v1), (2, .int f_1), (3, .int x_6)] → W p l e (q_rm 2 45) s m ([.ref a, .int v1] : List Value).toArray below meth c H locs 0 0 (MQ below (q_Qi X 1 σ (fun (r : Int32) (σ' : ST) => (m_G (m_c X σ' a)) ∧ (m_W (m_c X σ' a) (n + 1)) ∧ (∀ j, 654 ≤ j → m_c X σ' a j = m_c X σ a j) ∧ (m_KD 40 X σ σ') ∧ (r, σ') = F_X12_doubts X σ a v1 ∧ q_ow [(34, 99)] [] X σ σ')) ([.ref a, .int v1] : List Value).toArray s 0 0 (q_reg X)) (F0 m 105 ls []) := by
            clear hF
            intro σ_53 H locs ls fr_σ_53 gσ_53 vσ_53 kqσ_53 kdσ_53 k2σ_53 z7σ_53 hF hI hl
            unfold F_X12_doubts_J105_6 at hF
            refine lv_aload_n hx hb dX12_doubts_105 rfl (lv_at hl 0 rfl) ?_
            refine gs_X12_35_12 E hI ha dX12_doubts_106 ?_
            refine lv_iconst (v := 5) hx hb dX12_doubts_109 (by decide) ?_
            refine lv_aload_n hx hb dX12_doubts_110 rfl (lv_at hl 0 rfl) ?_
            refine lv_iconst (v := 0) hx hb dX12_doubts_111 (by decide) ?_
            have kc_54 : (0 : Int32).toInt = 0 := rfl
            refine q_ci (q_runV (As := [.int 0]) (rest := [.int 5, .ref (q_rf X a 20)]) E (hml.trans hl.1.symm) hI (c_X12_nextKind l X σ_53 a (0 : Int32) ha gσ_53) kv_X12_315 ha ⟨rfl, by decide⟩ (show vwCl[11]? = some (RX12, TX12, 46) from rfl) rfl ⟨Nat.le_of_ble_eq_true rfl, Nat.le_of_ble_eq_true rfl⟩ ⟨Nat.le_refl _, Nat.le_refl _⟩ rfl (Nat.le_of_ble_eq_true rfl) dX12_doubts_112) hI (by decide) (fun r_55 σ_56 H locs hpσ_56 hkσ_56 hI => ?_)
            obtain ⟨ahpσ_56, bhpσ_56, chpσ_56⟩ := hpσ_56
            rw [ahpσ_56] at hI
            replace hF := q_letX hF chpσ_56
            refine q_iastN E hI (q_tk (k' := 34) hI ha rfl (by decide)) ⟨by decide, rfl⟩ (by decide) (by rw [q_lnk (v := 4650) hI (q_tk (k' := 34) hI ha rfl (by decide)) rfl (by decide)]; decide) (show 1 < 2 by decide) (q_inU rfl) dX12_doubts_115 (fun H locs σ_57 hσ_57 hI => ?_)
            replace hF := q_letX hF hσ_57
            have fr_σ_57 := fr_σ_53.si hσ_57 (q_tk (k' := 34) hI ha rfl (by decide)) rfl
            have mcσ_57 := m_wr (v := r_55) (A := 5) hσ_57 (by decide) (by decide)
            have gσ_57 : m_G (m_c X σ_57 a) := m_G.wr gσ_53 mcσ_57 (by first | (clear hn ho h0 gσ wσ k2σ hh if_1 if_2 iz_3 bhpσ_5 chpσ_5 j29 kc_8 gσ_7 wσ_7 kdσ_7 k2σ_7 z7σ_7 iz_9 if_10 qw iz_11 gσ_12 vσ_12 lsσ_12 kdσ_12 k2σ_12 z7σ_12 iz_13 if_14 c_15 iz_49 gσ_50 vσ_50 k2σ_50 z7σ_50 gσ_51 vσ_51 kdσ_51 k2σ_51 z7σ_51 c_52 gσ_53 vσ_53 kdσ_53 k2σ_53 kc_54 ahpσ_56 chpσ_56; omega) | omega)
            have vσ_57 : m_W (m_c X σ_57 a) (n + 1) := m_W.wr vσ_53 mcσ_57 (by first | (clear hn ho h0 gσ wσ k2σ hh if_1 if_2 iz_3 bhpσ_5 chpσ_5 j29 kc_8 gσ_7 wσ_7 kdσ_7 k2σ_7 z7σ_7 iz_9 if_10 qw iz_11 gσ_12 vσ_12 lsσ_12 kdσ_12 k2σ_12 z7σ_12 iz_13 if_14 c_15 iz_49 gσ_50 vσ_50 k2σ_50 z7σ_50 gσ_51 vσ_51 kdσ_51 k2σ_51 z7σ_51 c_52 gσ_53 vσ_53 kdσ_53 k2σ_53 z7σ_53 kc_54 ahpσ_56 bhpσ_56 chpσ_56 gσ_57; omega) | omega)
            have kqσ_57 : ∀ j, 654 ≤ j → m_c X σ_57 a j = m_c X σ a j := fun j h => by rw [mcσ_57 j (by first | (clear hn ho h0 gσ wσ k2σ hh if_1 if_2 iz_3 bhpσ_5 chpσ_5 j29 kc_8 gσ_7 wσ_7 kdσ_7 k2σ_7 z7σ_7 iz_9 if_10 qw iz_11 gσ_12 vσ_12 lsσ_12 kdσ_12 k2σ_12 z7σ_12 iz_13 if_14 c_15 iz_49 gσ_50 vσ_50 k2σ_50 z7σ_50 gσ_51 vσ_51 kdσ_51 k2σ_51 z7σ_51 c_52 gσ_53 vσ_53 kdσ_53 k2σ_53 z7σ_53 kc_54 ahpσ_56 bhpσ_56 chpσ_56 gσ_57 vσ_57; omega) | omega), if_neg (by first | (clear hn ho h0 gσ wσ k2σ hh if_1 if_2 iz_3 bhpσ_5 chpσ_5 j29 kc_8 gσ_7 wσ_7 kdσ_7 k2σ_7 z7σ_7 iz_9 if_10 qw iz_11 gσ_12 vσ_12 lsσ_12 kdσ_12 k2σ_12 z7σ_12 iz_13 if_14 c_15 iz_49 gσ_50 vσ_50 k2σ_50 z7σ_50 gσ_51 vσ_51 kdσ_51 k2σ_51 z7σ_51 c_52 gσ_53 vσ_53 kdσ_53 k2σ_53 z7σ_53 kc_54 ahpσ_56 bhpσ_56 chpσ_56 gσ_57 vσ_57; omega) | omega)] <;> exact kqσ_53 j h
            have kdσ_57 : m_KD 40 X σ σ_57 := kdσ_53.ar hσ_57 (q_tk (k' := 34) hI ha rfl (by decide)) (by decide) (by decide)
            have k2σ_57 : m_c X σ_57 a 0 = m_c X σ a 0 ∧ m_c X σ_57 a 2 = m_c X σ a 2 := ⟨by rw [mcσ_57 0 (by decide), if_neg (by first | (clear hn ho h0 gσ wσ k2σ hh if_1 if_2 iz_3 bhpσ_5 chpσ_5 j29 kc_8 gσ_7 wσ_7 kdσ_7 k2σ_7 z7σ_7 iz_9 if_10 qw iz_11 gσ_12 vσ_12 lsσ_12 kdσ_12 k2σ_12 z7σ_12 iz_13 if_14 c_15 iz_49 gσ_50 vσ_50 k2σ_50 z7σ_50 gσ_51 vσ_51 kdσ_51 k2σ_51 z7σ_51 c_52 gσ_53 vσ_53 kdσ_53 k2σ_53 z7σ_53 kc_54 ahpσ_56 bhpσ_56 chpσ_56 gσ_57 vσ_57 kdσ_57; omega) | omega)] <;> exact k2σ_53.1, by rw [mcσ_57 2 (by decide), if_neg (by first | (clear hn ho h0 gσ wσ k2σ hh if_1 if_2 iz_3 bhpσ_5 chpσ_5 j29 kc_8 gσ_7 wσ_7 kdσ_7 k2σ_7 z7σ_7 iz_9 if_10 qw iz_11 gσ_12 vσ_12 lsσ_12 kdσ_12 k2σ_12 z7σ_12 iz_13 if_14 c_15 iz_49 gσ_50 vσ_50 k2σ_50 z7σ_50 gσ_51 vσ_51 kdσ_51 k2σ_51 z7σ_51 c_52 gσ_53 vσ_53 kdσ_53 k2σ_53 z7σ_53 kc_54 ahpσ_56 bhpσ_56 chpσ_56 gσ_57 vσ_57 kdσ_57; omega) | omega)] <;> exact k2σ_53.2⟩
            have z7σ_57 : m_c X σ_57 a 7 = 0 := (by rw [mcσ_57 7 (by decide), if_neg (by first | (clear hn ho h0 gσ wσ k2σ hh if_1 if_2 iz_3 bhpσ_5 chpσ_5 j29 kc_8 gσ_7 wσ_7 kdσ_7 k2σ_7 z7σ_7 iz_9 if_10 qw iz_11 gσ_12 vσ_12 lsσ_12 kdσ_12 k2σ_12 z7σ_12 iz_13 if_14 c_15 iz_49 gσ_50 vσ_50 k2σ_50 z7σ_50 gσ_51 vσ_51 kdσ_51 k2σ_51 z7σ_51 c_52 gσ_53 vσ_53 kdσ_53 k2σ_53 z7σ_53 kc_54 ahpσ_56 bhpσ_56 chpσ_56 gσ_57 vσ_57 kdσ_57 k2σ_57; omega) | omega)]; exact z7σ_53)
            refine lv_aload_n hx hb dX12_doubts_116 rfl (lv_at hl 0 rfl) ?_
            refine gs_X12_35_12 E hI ha dX12_doubts_117 ?_
            refine lv_bipush (v := 6) hx hb dX12_doubts_120 (by decide) ?_
            refine lv_iload_n hx hb dX12_doubts_122 rfl (lv_at hl 3 rfl) ?_
            refine q_if_eq (A := x_6.toInt) E rfl (tgt := 130) dX12_doubts_123 (by decide) (fun c_58 => ?_) (fun c_58 => ?_)
            · skip
              replace hF := q_ifp hF c_58
              refine lv_iload_n hx hb dX12_doubts_130 rfl (lv_at hl 1 rfl) ?_
              refine q_iastN E hI (q_tk (k' := 34) hI ha rfl (by decide)) ⟨by decide, rfl⟩ (by decide) (by rw [q_lnk (v := 4650) hI (q_tk (k' := 34) hI ha rfl (by decide)) rfl (by decide)]; decide) (show 1 < 2 by decide) (q_inU rfl) dX12_doubts_131 (fun H locs σ_59 hσ_59 hI => ?_)
              replace hF := q_letX hF hσ_59
              have fr_σ_59 := fr_σ_57.si hσ_59 (q_tk (k' := 34) hI ha rfl (by decide)) rfl
              have mcσ_59 := m_wr (v := v1) (A := 6) hσ_59 (by decide) (by decide)
              have gσ_59 : m_G (m_c X σ_59 a) := m_G.wr gσ_57 mcσ_59 (by first | (clear hn ho h0 gσ wσ k2σ hh if_1 if_2 iz_3 bhpσ_5 chpσ_5 j29 kc_8 gσ_7 wσ_7 kdσ_7 z7σ_7 iz_9 if_10 qw iz_11 gσ_12 vσ_12 lsσ_12 kdσ_12 z7σ_12 iz_13 if_14 c_15 iz_49 gσ_50 vσ_50 z7σ_50 gσ_51 vσ_51 kdσ_51 z7σ_51 c_52 gσ_53 vσ_53 kdσ_53 z7σ_53 kc_54 ahpσ_56 bhpσ_56 chpσ_56 gσ_57 vσ_57 kdσ_57 c_58; omega) | omega)
              have vσ_59 : m_W (m_c X σ_59 a) (n + 1) := m_W.wr vσ_57 mcσ_59 (by first | (clear hn ho h0 gσ wσ k2σ hh if_1 if_2 iz_3 bhpσ_5 chpσ_5 j29 kc_8 gσ_7 wσ_7 kdσ_7 k2σ_7 z7σ_7 iz_9 if_10 qw iz_11 gσ_12 vσ_12 lsσ_12 kdσ_12 k2σ_12 z7σ_12 iz_13 if_14 c_15 iz_49 gσ_50 vσ_50 k2σ_50 z7σ_50 gσ_51 vσ_51 kdσ_51 k2σ_51 z7σ_51 c_52 gσ_53 vσ_53 kdσ_53 k2σ_53 z7σ_53 kc_54 ahpσ_56 bhpσ_56 chpσ_56 gσ_57 vσ_57 kdσ_57 k2σ_57 z7σ_57 c_58 gσ_59; omega) | omega)
              have kqσ_59 : ∀ j, 654 ≤ j → m_c X σ_59 a j = m_c X σ a j := fun j h => by rw [mcσ_59 j (by first | (clear hn ho h0 gσ wσ k2σ hh if_1 if_2 iz_3 bhpσ_5 chpσ_5 j29 kc_8 gσ_7 wσ_7 kdσ_7 k2σ_7 z7σ_7 iz_9 if_10 qw iz_11 gσ_12 vσ_12 lsσ_12 kdσ_12 k2σ_12 z7σ_12 iz_13 if_14 c_15 iz_49 gσ_50 vσ_50 k2σ_50 z7σ_50 gσ_51 vσ_51 kdσ_51 k2σ_51 z7σ_51 c_52 gσ_53 vσ_53 kdσ_53 k2σ_53 z7σ_53 kc_54 ahpσ_56 bhpσ_56 chpσ_56 gσ_57 vσ_57 kdσ_57 k2σ_57 z7σ_57 c_58 gσ_59 vσ_59; omega) | omega), if_neg (by first | (clear hn ho h0 gσ wσ k2σ hh if_1 if_2 iz_3 bhpσ_5 chpσ_5 j29 kc_8 gσ_7 wσ_7 kdσ_7 k2σ_7 z7σ_7 iz_9 if_10 qw iz_11 gσ_12 vσ_12 lsσ_12 kdσ_12 k2σ_12 z7σ_12 iz_13 if_14 c_15 iz_49 gσ_50 vσ_50 k2σ_50 z7σ_50 gσ_51 vσ_51 kdσ_51 k2σ_51 z7σ_51 c_52 gσ_53 vσ_53 kdσ_53 k2σ_53 z7σ_53 kc_54 ahpσ_56 bhpσ_56 chpσ_56 gσ_57 vσ_57 kdσ_57 k2σ_57 z7σ_57 c_58 gσ_59 vσ_59; omega) | omega)] <;> exact kqσ_57 j h
              have kdσ_59 : m_KD 40 X σ σ_59 := kdσ_57.ar hσ_59 (q_tk (k' := 34) hI ha rfl (by decide)) (by decide) (by decide)
              have k2σ_59 : m_c X σ_59 a 0 = m_c X σ a 0 ∧ m_c X σ_59 a 2 = m_c X σ a 2 := ⟨by rw [mcσ_59 0 (by decide), if_neg (by first | (clear hn ho h0 gσ wσ k2σ hh if_1 if_2 iz_3 bhpσ_5 chpσ_5 j29 kc_8 gσ_7 wσ_7 kdσ_7 k2σ_7 z7σ_7 iz_9 if_10 qw iz_11 gσ_12 vσ_12 lsσ_12 kdσ_12 k2σ_12 z7σ_12 iz_13 if_14 c_15 iz_49 gσ_50 vσ_50 k2σ_50 z7σ_50 gσ_51 vσ_51 kdσ_51 k2σ_51 z7σ_51 c_52 gσ_53 vσ_53 kdσ_53 k2σ_53 z7σ_53 kc_54 ahpσ_56 bhpσ_56 chpσ_56 gσ_57 vσ_57 kdσ_57 k2σ_57 z7σ_57 c_58 gσ_59 vσ_59 kdσ_59; omega) | omega)] <;> exact k2σ_57.1, by rw [mcσ_59 2 (by decide), if_neg (by first | (clear hn ho h0 gσ wσ k2σ hh if_1 if_2 iz_3 bhpσ_5 chpσ_5 j29 kc_8 gσ_7 wσ_7 kdσ_7 k2σ_7 z7σ_7 iz_9 if_10 qw iz_11 gσ_12 vσ_12 lsσ_12 kdσ_12 k2σ_12 z7σ_12 iz_13 if_14 c_15 iz_49 gσ_50 vσ_50 k2σ_50 z7σ_50 gσ_51 vσ_51 kdσ_51 k2σ_51 z7σ_51 c_52 gσ_53 vσ_53 kdσ_53 k2σ_53 z7σ_53 kc_54 ahpσ_56 bhpσ_56 chpσ_56 gσ_57 vσ_57 kdσ_57 k2σ_57 z7σ_57 c_58 gσ_59 vσ_59 kdσ_59; omega) | omega)] <;> exact k2σ_57.2⟩
              have z7σ_59 : m_c X σ_59 a 7 = 0 := (by rw [mcσ_59 7 (by decide), if_neg (by first | (clear hn ho h0 gσ wσ k2σ hh if_1 if_2 iz_3 bhpσ_5 chpσ_5 j29 kc_8 gσ_7 wσ_7 kdσ_7 k2σ_7 z7σ_7 iz_9 if_10 qw iz_11 gσ_12 vσ_12 lsσ_12 kdσ_12 k2σ_12 z7σ_12 iz_13 if_14 c_15 iz_49 gσ_50 vσ_50 k2σ_50 z7σ_50 gσ_51 vσ_51 kdσ_51 k2σ_51 z7σ_51 c_52 gσ_53 vσ_53 kdσ_53 k2σ_53 z7σ_53 kc_54 ahpσ_56 bhpσ_56 chpσ_56 gσ_57 vσ_57 kdσ_57 k2σ_57 z7σ_57 c_58 gσ_59 vσ_59 kdσ_59 k2σ_59; omega) | omega)]; exact z7σ_57)
              refine lv_iload_n hx hb dX12_doubts_132 rfl (lv_at hl 3 rfl) ?_
              refine q_if_eq (A := x_6.toInt) E rfl (tgt := 140) dX12_doubts_133 (by decide) (fun c_60 => ?_) (fun c_60 => ?_)
              · skip
                replace hF := q_ifp hF c_60
                refine lv_iload_n hx hb dX12_doubts_140 rfl (lv_at hl 2 rfl) ?_
                exact q_reti E hr hlk hI ⟨gσ_59, vσ_59, kqσ_59, kdσ_59, (hF.trans hout), fr_σ_59⟩ dX12_doubts_141
              · skip
                replace hF := q_ifn hF c_60
                refine lv_iload_n hx hb dX12_doubts_136 rfl (lv_at hl 1 rfl) ?_
                refine lv_goto (tgt := 141) hx hb dX12_doubts_137 (by decide) ?_
                exact q_reti E hr hlk hI ⟨gσ_59, vσ_59, kqσ_59, kdσ_59, (hF.trans hout), fr_σ_59⟩ dX12_doubts_141
            · skip
              replace hF := q_ifn hF c_58
              refine lv_iload_n hx hb dX12_doubts_126 rfl (lv_at hl 2 rfl) ?_
              refine lv_goto (tgt := 131) hx hb dX12_doubts_127 (by decide) ?_
              refine q_iastN E hI (q_tk (k' := 34) hI ha rfl (by decide)) ⟨by decide, rfl⟩ (by decide) (by rw [q_lnk (v := 4650) hI (q_tk (k' := 34) hI ha rfl (by decide)) rfl (by decide)]; decide) (show 1 < 2 by decide) (q_inU rfl) dX12_doubts_131 (fun H locs σ_61 hσ_61 hI => ?_)
              replace hF := q_letX hF hσ_61
              have fr_σ_61 := fr_σ_57.si hσ_61 (q_tk (k' := 34) hI ha rfl (by decide)) rfl
              have mcσ_61 := m_wr (v := f_1) (A := 6) hσ_61 (by decide) (by decide)
              have gσ_61 : m_G (m_c X σ_61 a) := m_G.wr gσ_57 mcσ_61 (by first | (clear hn h0 gσ wσ k2σ if_2 iz_3 bhpσ_5 chpσ_5 j29 kc_8 gσ_7 wσ_7 kdσ_7 z7σ_7 if_10 qw iz_11 gσ_12 vσ_12 lsσ_12 kdσ_12 z7σ_12 if_14 c_15 iz_49 gσ_50 vσ_50 z7σ_50 gσ_51 vσ_51 kdσ_51 z7σ_51 c_52 gσ_53 vσ_53 kdσ_53 z7σ_53 kc_54 ahpσ_56 bhpσ_56 chpσ_56 gσ_57 vσ_57 kdσ_57 c_58; omega) | omega)
              have vσ_61 : m_W (m_c X σ_61 a) (n + 1) := m_W.wr vσ_57 mcσ_61 (by first | (clear hn ho h0 gσ wσ k2σ hh if_1 if_2 iz_3 bhpσ_5 chpσ_5 j29 kc_8 gσ_7 wσ_7 kdσ_7 k2σ_7 z7σ_7 iz_9 if_10 qw iz_11 gσ_12 vσ_12 lsσ_12 kdσ_12 k2σ_12 z7σ_12 iz_13 if_14 c_15 iz_49 gσ_50 vσ_50 k2σ_50 z7σ_50 gσ_51 vσ_51 kdσ_51 k2σ_51 z7σ_51 c_52 gσ_53 vσ_53 kdσ_53 k2σ_53 z7σ_53 kc_54 ahpσ_56 bhpσ_56 chpσ_56 gσ_57 vσ_57 kdσ_57 k2σ_57 z7σ_57 c_58 gσ_61; omega) | omega)
              have kqσ_61 : ∀ j, 654 ≤ j → m_c X σ_61 a j = m_c X σ a j := fun j h => by rw [mcσ_61 j (by first | (clear hn ho h0 gσ wσ k2σ hh if_1 if_2 iz_3 bhpσ_5 chpσ_5 j29 kc_8 gσ_7 wσ_7 kdσ_7 k2σ_7 z7σ_7 iz_9 if_10 qw iz_11 gσ_12 vσ_12 lsσ_12 kdσ_12 k2σ_12 z7σ_12 iz_13 if_14 c_15 iz_49 gσ_50 vσ_50 k2σ_50 z7σ_50 gσ_51 vσ_51 kdσ_51 k2σ_51 z7σ_51 c_52 gσ_53 vσ_53 kdσ_53 k2σ_53 z7σ_53 kc_54 ahpσ_56 bhpσ_56 chpσ_56 gσ_57 vσ_57 kdσ_57 k2σ_57 z7σ_57 c_58 gσ_61 vσ_61; omega) | omega), if_neg (by first | (clear hn ho h0 gσ wσ k2σ hh if_1 if_2 iz_3 bhpσ_5 chpσ_5 j29 kc_8 gσ_7 wσ_7 kdσ_7 k2σ_7 z7σ_7 iz_9 if_10 qw iz_11 gσ_12 vσ_12 lsσ_12 kdσ_12 k2σ_12 z7σ_12 iz_13 if_14 c_15 iz_49 gσ_50 vσ_50 k2σ_50 z7σ_50 gσ_51 vσ_51 kdσ_51 k2σ_51 z7σ_51 c_52 gσ_53 vσ_53 kdσ_53 k2σ_53 z7σ_53 kc_54 ahpσ_56 bhpσ_56 chpσ_56 gσ_57 vσ_57 kdσ_57 k2σ_57 z7σ_57 c_58 gσ_61 vσ_61; omega) | omega)] <;> exact kqσ_57 j h
              have kdσ_61 : m_KD 40 X σ σ_61 := kdσ_57.ar hσ_61 (q_tk (k' := 34) hI ha rfl (by decide)) (by decide) (by decide)
              have k2σ_61 : m_c X σ_61 a 0 = m_c X σ a 0 ∧ m_c X σ_61 a 2 = m_c X σ a 2 := ⟨by rw [mcσ_61 0 (by decide), if_neg (by first | (clear hn ho h0 gσ wσ k2σ hh if_1 if_2 iz_3 bhpσ_5 chpσ_5 j29 kc_8 gσ_7 wσ_7 kdσ_7 k2σ_7 z7σ_7 iz_9 if_10 qw iz_11 gσ_12 vσ_12 lsσ_12 kdσ_12 k2σ_12 z7σ_12 iz_13 if_14 c_15 iz_49 gσ_50 vσ_50 k2σ_50 z7σ_50 gσ_51 vσ_51 kdσ_51 k2σ_51 z7σ_51 c_52 gσ_53 vσ_53 kdσ_53 k2σ_53 z7σ_53 kc_54 ahpσ_56 bhpσ_56 chpσ_56 gσ_57 vσ_57 kdσ_57 k2σ_57 z7σ_57 c_58 gσ_61 vσ_61 kdσ_61; omega) | omega)] <;> exact k2σ_57.1, by rw [mcσ_61 2 (by decide), if_neg (by first | (clear hn ho h0 gσ wσ k2σ hh if_1 if_2 iz_3 bhpσ_5 chpσ_5 j29 kc_8 gσ_7 wσ_7 kdσ_7 k2σ_7 z7σ_7 iz_9 if_10 qw iz_11 gσ_12 vσ_12 lsσ_12 kdσ_12 k2σ_12 z7σ_12 iz_13 if_14 c_15 iz_49 gσ_50 vσ_50 k2σ_50 z7σ_50 gσ_51 vσ_51 kdσ_51 k2σ_51 z7σ_51 c_52 gσ_53 vσ_53 kdσ_53 k2σ_53 z7σ_53 kc_54 ahpσ_56 bhpσ_56 chpσ_56 gσ_57 vσ_57 kdσ_57 k2σ_57 z7σ_57 c_58 gσ_61 vσ_61 kdσ_61; omega) | omega)] <;> exact k2σ_57.2⟩
              have z7σ_61 : m_c X σ_61 a 7 = 0 := (by rw [mcσ_61 7 (by decide), if_neg (by first | (clear hn ho h0 gσ wσ k2σ hh if_1 if_2 iz_3 bhpσ_5 chpσ_5 j29 kc_8 gσ_7 wσ_7 kdσ_7 k2σ_7 z7σ_7 iz_9 if_10 qw iz_11 gσ_12 vσ_12 lsσ_12 kdσ_12 k2σ_12 z7σ_12 iz_13 if_14 c_15 iz_49 gσ_50 vσ_50 k2σ_50 z7σ_50 gσ_51 vσ_51 kdσ_51 k2σ_51 z7σ_51 c_52 gσ_53 vσ_53 kdσ_53 k2σ_53 z7σ_53 kc_54 ahpσ_56 bhpσ_56 chpσ_56 gσ_57 vσ_57 kdσ_57 k2σ_57 z7σ_57 c_58 gσ_61 vσ_61 kdσ_61 k2σ_61; omega) | omega)]; exact z7σ_57)
              refine lv_iload_n hx hb dX12_doubts_132 rfl (lv_at hl 3 rfl) ?_
              refine q_if_eq (A := x_6.toInt) E rfl (tgt := 140) dX12_doubts_133 (by decide) (fun c_62 => ?_) (fun c_62 => ?_)
              · skip
                replace hF := q_ifp hF c_62
                refine lv_iload_n hx hb dX12_doubts_140 rfl (lv_at hl 2 rfl) ?_
                exact q_reti E hr hlk hI ⟨gσ_61, vσ_61, kqσ_61, kdσ_61, (hF.trans hout), fr_σ_61⟩ dX12_doubts_141
              · skip
                replace hF := q_ifn hF c_62
                refine lv_iload_n hx hb dX12_doubts_136 rfl (lv_at hl 1 rfl) ?_
                refine lv_goto (tgt := 141) hx hb dX12_doubts_137 (by decide) ?_
                exact q_reti E hr hlk hI ⟨gσ_61, vσ_61, kqσ_61, kdσ_61, (hF.trans hout), fr_σ_61⟩ dX12_doubts_141
          refine q_cv (q_runV (As := [.int f_1]) (rest := []) E (hml.trans hl.1.symm) hI (c_X12_takes l X σ_51 a f_1 ha gσ_51 (by first | (clear hn h0 gσ wσ k2σ if_2 iz_3 bhpσ_5 chpσ_5 j29 kc_8 gσ_7 wσ_7 kdσ_7 z7σ_7 if_10 qw iz_11 gσ_12 vσ_12 lsσ_12 kdσ_12 z7σ_12 if_14 c_15 iz_49 gσ_50 vσ_50 z7σ_50 gσ_51 vσ_51 kdσ_51 z7σ_51 c_52; omega) | omega) (by omega)) kv_X12_325 ha ⟨rfl, by decide⟩ (show vwCl[11]? = some (RX12, TX12, 46) from rfl) rfl ⟨Nat.le_of_ble_eq_true rfl, Nat.le_of_ble_eq_true rfl⟩ ⟨Nat.le_refl _, Nat.le_refl _⟩ rfl (Nat.le_of_ble_eq_true rfl) dX12_doubts_102) hI (by decide) (fun σ_64 H locs hpσ_64 hkσ_64 hI => ?_)
          obtain ⟨ahpσ_64, bhpσ_64, chpσ_64, dhpσ_64, ehpσ_64⟩ := hpσ_64
          have fr_σ_64 := fr_σ_51.call ehpσ_64 rfl rfl
          replace hF := q_letX hF dhpσ_64
          have gσ_64 : m_G (m_c X σ_64 a) := ahpσ_64
          have vσ_64 : m_W (m_c X σ_64 a) (n + 1) := m_W.ext (fun j h0 h1 => bhpσ_64 j (by first | (clear hn ho h0 gσ wσ k2σ hh if_1 if_2 iz_3 bhpσ_5 chpσ_5 j29 kc_8 gσ_7 wσ_7 kdσ_7 k2σ_7 z7σ_7 iz_9 if_10 qw iz_11 gσ_12 vσ_12 lsσ_12 kdσ_12 k2σ_12 z7σ_12 iz_13 if_14 c_15 iz_49 gσ_50 vσ_50 k2σ_50 z7σ_50 gσ_51 vσ_51 kdσ_51 k2σ_51 z7σ_51 c_52 ahpσ_64 bhpσ_64 chpσ_64 dhpσ_64 ehpσ_64 gσ_64; omega) | omega) (by first | (clear hn ho h0 gσ wσ k2σ hh if_1 if_2 iz_3 bhpσ_5 chpσ_5 j29 kc_8 gσ_7 wσ_7 kdσ_7 k2σ_7 z7σ_7 iz_9 if_10 qw iz_11 gσ_12 vσ_12 lsσ_12 kdσ_12 k2σ_12 z7σ_12 iz_13 if_14 c_15 iz_49 gσ_50 vσ_50 k2σ_50 z7σ_50 gσ_51 vσ_51 kdσ_51 k2σ_51 z7σ_51 c_52 ahpσ_64 bhpσ_64 chpσ_64 dhpσ_64 ehpσ_64 gσ_64; omega) | omega)) vσ_51
          have kqσ_64 : ∀ j, 654 ≤ j → m_c X σ_64 a j = m_c X σ a j := (fun j h => (bhpσ_64 j (by first | (clear hn ho h0 gσ wσ k2σ hh if_1 if_2 iz_3 bhpσ_5 chpσ_5 j29 kc_8 gσ_7 wσ_7 kdσ_7 k2σ_7 z7σ_7 iz_9 if_10 qw iz_11 gσ_12 vσ_12 lsσ_12 kdσ_12 k2σ_12 z7σ_12 iz_13 if_14 c_15 iz_49 gσ_50 vσ_50 k2σ_50 z7σ_50 gσ_51 vσ_51 kdσ_51 k2σ_51 z7σ_51 c_52 ahpσ_64 bhpσ_64 chpσ_64 dhpσ_64 ehpσ_64 gσ_64 vσ_64; omega) | omega) (by first | (clear hn ho h0 gσ wσ k2σ hh if_1 if_2 iz_3 bhpσ_5 chpσ_5 j29 kc_8 gσ_7 wσ_7 kdσ_7 k2σ_7 z7σ_7 iz_9 if_10 qw iz_11 gσ_12 vσ_12 lsσ_12 kdσ_12 k2σ_12 z7σ_12 iz_13 if_14 c_15 iz_49 gσ_50 vσ_50 k2σ_50 z7σ_50 gσ_51 vσ_51 kdσ_51 k2σ_51 z7σ_51 c_52 ahpσ_64 bhpσ_64 chpσ_64 dhpσ_64 ehpσ_64 gσ_64 vσ_64; omega) | omega)).trans (kqσ_51 j h))
          have kdσ_64 : m_KD 40 X σ σ_64 := kdσ_51.tr chpσ_64
          have k2σ_64 : m_c X σ_64 a 0 = m_c X σ a 0 ∧ m_c X σ_64 a 2 = m_c X σ a 2 := ⟨(bhpσ_64 0 (by decide) (by decide)).trans k2σ_51.1, (bhpσ_64 2 (by decide) (by decide)).trans k2σ_51.2⟩
          have z7σ_64 : m_c X σ_64 a 7 = 0 := (bhpσ_64 7 (by decide) (by decide)).trans z7σ_51
          exact J_105_53 σ_64 _ _ ls fr_σ_64 gσ_64 vσ_64 kqσ_64 kdσ_64 k2σ_64 z7σ_64 hF hI (lv_sub hl [0, 1, 2, 3] rfl)
        · skip
          replace hF := q_ifn hF c_52
          refine lv_iload_n hx hb dX12_doubts_97 rfl (lv_at hl 1 rfl) ?_
          refine lv_goto (tgt := 102) hx hb dX12_doubts_98 (by decide) ?_
          have J_105_65 : ∀  (σ_65 : ST) (H : Heap) (locs : List Loc) (ls : Array Slot), (q_ow [(34, 99)] [] X σ σ_65) → (m_G (m_c X σ_65 a)) → (m_W (m_c X σ_65 a) (n + 1)) → (∀ j, 654 ≤ j → m_c X σ_65 a j = m_c X σ a j) → (m_KD 40 X σ σ_65) → (m_c X σ_65 a 0 = m_c X σ a 0 ∧ m_c X σ_65 a 2 = m_c X σ a 2) → (m_c X σ_65 a 7 = 0) → (F_X12_doubts_J105_7 X a x_6 v1 f_1 σ_65 = out) → q_I X 1 σ s.heap locs σ_65 H → lv_has ls 4 [(0, .ref a), (1, .int v1), (2, .int f_1), (3, .int x_6)] → W p l e (q_rm 2 45) s m ([.ref a, .int v1] : List Value).toArray below meth c H locs 0 0 (MQ below (q_Qi X 1 σ (fun (r : Int32) (σ' : ST) => (m_G (m_c X σ' a)) ∧ (m_W (m_c X σ' a) (n + 1)) ∧ (∀ j, 654 ≤ j → m_c X σ' a j = m_c X σ a j) ∧ (m_KD 40 X σ σ') ∧ (r, σ') = F_X12_doubts X σ a v1 ∧ q_ow [(34, 99)] [] X σ σ')) ([.ref a, .int v1] : List Value).toArray s 0 0 (q_reg X)) (F0 m 105 ls []) := by
            clear hF
            intro σ_65 H locs ls fr_σ_65 gσ_65 vσ_65 kqσ_65 kdσ_65 k2σ_65 z7σ_65 hF hI hl
            unfold F_X12_doubts_J105_7 at hF
            refine lv_aload_n hx hb dX12_doubts_105 rfl (lv_at hl 0 rfl) ?_
            refine gs_X12_35_12 E hI ha dX12_doubts_106 ?_
            refine lv_iconst (v := 5) hx hb dX12_doubts_109 (by decide) ?_
            refine lv_aload_n hx hb dX12_doubts_110 rfl (lv_at hl 0 rfl) ?_
            refine lv_iconst (v := 0) hx hb dX12_doubts_111 (by decide) ?_
            have kc_66 : (0 : Int32).toInt = 0 := rfl
            refine q_ci (q_runV (As := [.int 0]) (rest := [.int 5, .ref (q_rf X a 20)]) E (hml.trans hl.1.symm) hI (c_X12_nextKind l X σ_65 a (0 : Int32) ha gσ_65) kv_X12_315 ha ⟨rfl, by decide⟩ (show vwCl[11]? = some (RX12, TX12, 46) from rfl) rfl ⟨Nat.le_of_ble_eq_true rfl, Nat.le_of_ble_eq_true rfl⟩ ⟨Nat.le_refl _, Nat.le_refl _⟩ rfl (Nat.le_of_ble_eq_true rfl) dX12_doubts_112) hI (by decide) (fun r_67 σ_68 H locs hpσ_68 hkσ_68 hI => ?_)
            obtain ⟨ahpσ_68, bhpσ_68, chpσ_68⟩ := hpσ_68
            rw [ahpσ_68] at hI
            replace hF := q_letX hF chpσ_68
            refine q_iastN E hI (q_tk (k' := 34) hI ha rfl (by decide)) ⟨by decide, rfl⟩ (by decide) (by rw [q_lnk (v := 4650) hI (q_tk (k' := 34) hI ha rfl (by decide)) rfl (by decide)]; decide) (show 1 < 2 by decide) (q_inU rfl) dX12_doubts_115 (fun H locs σ_69 hσ_69 hI => ?_)
            replace hF := q_letX hF hσ_69
            have fr_σ_69 := fr_σ_65.si hσ_69 (q_tk (k' := 34) hI ha rfl (by decide)) rfl
            have mcσ_69 := m_wr (v := r_67) (A := 5) hσ_69 (by decide) (by decide)
            have gσ_69 : m_G (m_c X σ_69 a) := m_G.wr gσ_65 mcσ_69 (by first | (clear hn ho h0 gσ wσ k2σ hh if_1 if_2 iz_3 bhpσ_5 chpσ_5 j29 kc_8 gσ_7 wσ_7 kdσ_7 k2σ_7 z7σ_7 iz_9 if_10 qw iz_11 gσ_12 vσ_12 lsσ_12 kdσ_12 k2σ_12 z7σ_12 iz_13 if_14 c_15 iz_49 gσ_50 vσ_50 k2σ_50 z7σ_50 gσ_51 vσ_51 kdσ_51 k2σ_51 z7σ_51 c_52 gσ_65 vσ_65 kdσ_65 k2σ_65 kc_66 ahpσ_68 chpσ_68; omega) | omega)
            have vσ_69 : m_W (m_c X σ_69 a) (n + 1) := m_W.wr vσ_65 mcσ_69 (by first | (clear hn ho h0 gσ wσ k2σ hh if_1 if_2 iz_3 bhpσ_5 chpσ_5 j29 kc_8 gσ_7 wσ_7 kdσ_7 k2σ_7 z7σ_7 iz_9 if_10 qw iz_11 gσ_12 vσ_12 lsσ_12 kdσ_12 k2σ_12 z7σ_12 iz_13 if_14 c_15 iz_49 gσ_50 vσ_50 k2σ_50 z7σ_50 gσ_51 vσ_51 kdσ_51 k2σ_51 z7σ_51 c_52 gσ_65 vσ_65 kdσ_65 k2σ_65 z7σ_65 kc_66 ahpσ_68 bhpσ_68 chpσ_68 gσ_69; omega) | omega)
            have kqσ_69 : ∀ j, 654 ≤ j → m_c X σ_69 a j = m_c X σ a j := fun j h => by rw [mcσ_69 j (by first | (clear hn ho h0 gσ wσ k2σ hh if_1 if_2 iz_3 bhpσ_5 chpσ_5 j29 kc_8 gσ_7 wσ_7 kdσ_7 k2σ_7 z7σ_7 iz_9 if_10 qw iz_11 gσ_12 vσ_12 lsσ_12 kdσ_12 k2σ_12 z7σ_12 iz_13 if_14 c_15 iz_49 gσ_50 vσ_50 k2σ_50 z7σ_50 gσ_51 vσ_51 kdσ_51 k2σ_51 z7σ_51 c_52 gσ_65 vσ_65 kdσ_65 k2σ_65 z7σ_65 kc_66 ahpσ_68 bhpσ_68 chpσ_68 gσ_69 vσ_69; omega) | omega), if_neg (by first | (clear hn ho h0 gσ wσ k2σ hh if_1 if_2 iz_3 bhpσ_5 chpσ_5 j29 kc_8 gσ_7 wσ_7 kdσ_7 k2σ_7 z7σ_7 iz_9 if_10 qw iz_11 gσ_12 vσ_12 lsσ_12 kdσ_12 k2σ_12 z7σ_12 iz_13 if_14 c_15 iz_49 gσ_50 vσ_50 k2σ_50 z7σ_50 gσ_51 vσ_51 kdσ_51 k2σ_51 z7σ_51 c_52 gσ_65 vσ_65 kdσ_65 k2σ_65 z7σ_65 kc_66 ahpσ_68 bhpσ_68 chpσ_68 gσ_69 vσ_69; omega) | omega)] <;> exact kqσ_65 j h
            have kdσ_69 : m_KD 40 X σ σ_69 := kdσ_65.ar hσ_69 (q_tk (k' := 34) hI ha rfl (by decide)) (by decide) (by decide)
            have k2σ_69 : m_c X σ_69 a 0 = m_c X σ a 0 ∧ m_c X σ_69 a 2 = m_c X σ a 2 := ⟨by rw [mcσ_69 0 (by decide), if_neg (by first | (clear hn ho h0 gσ wσ k2σ hh if_1 if_2 iz_3 bhpσ_5 chpσ_5 j29 kc_8 gσ_7 wσ_7 kdσ_7 k2σ_7 z7σ_7 iz_9 if_10 qw iz_11 gσ_12 vσ_12 lsσ_12 kdσ_12 k2σ_12 z7σ_12 iz_13 if_14 c_15 iz_49 gσ_50 vσ_50 k2σ_50 z7σ_50 gσ_51 vσ_51 kdσ_51 k2σ_51 z7σ_51 c_52 gσ_65 vσ_65 kdσ_65 k2σ_65 z7σ_65 kc_66 ahpσ_68 bhpσ_68 chpσ_68 gσ_69 vσ_69 kdσ_69; omega) | omega)] <;> exact k2σ_65.1, by rw [mcσ_69 2 (by decide), if_neg (by first | (clear hn ho h0 gσ wσ k2σ hh if_1 if_2 iz_3 bhpσ_5 chpσ_5 j29 kc_8 gσ_7 wσ_7 kdσ_7 k2σ_7 z7σ_7 iz_9 if_10 qw iz_11 gσ_12 vσ_12 lsσ_12 kdσ_12 k2σ_12 z7σ_12 iz_13 if_14 c_15 iz_49 gσ_50 vσ_50 k2σ_50 z7σ_50 gσ_51 vσ_51 kdσ_51 k2σ_51 z7σ_51 c_52 gσ_65 vσ_65 kdσ_65 k2σ_65 z7σ_65 kc_66 ahpσ_68 bhpσ_68 chpσ_68 gσ_69 vσ_69 kdσ_69; omega) | omega)] <;> exact k2σ_65.2⟩
            have z7σ_69 : m_c X σ_69 a 7 = 0 := (by rw [mcσ_69 7 (by decide), if_neg (by first | (clear hn ho h0 gσ wσ k2σ hh if_1 if_2 iz_3 bhpσ_5 chpσ_5 j29 kc_8 gσ_7 wσ_7 kdσ_7 k2σ_7 z7σ_7 iz_9 if_10 qw iz_11 gσ_12 vσ_12 lsσ_12 kdσ_12 k2σ_12 z7σ_12 iz_13 if_14 c_15 iz_49 gσ_50 vσ_50 k2σ_50 z7σ_50 gσ_51 vσ_51 kdσ_51 k2σ_51 z7σ_51 c_52 gσ_65 vσ_65 kdσ_65 k2σ_65 z7σ_65 kc_66 ahpσ_68 bhpσ_68 chpσ_68 gσ_69 vσ_69 kdσ_69 k2σ_69; omega) | omega)]; exact z7σ_65)
            refine lv_aload_n hx hb dX12_doubts_116 rfl (lv_at hl 0 rfl) ?_
            refine gs_X12_35_12 E hI ha dX12_doubts_117 ?_
            refine lv_bipush (v := 6) hx hb dX12_doubts_120 (by decide) ?_
            refine lv_iload_n hx hb dX12_doubts_122 rfl (lv_at hl 3 rfl) ?_
            refine q_if_eq (A := x_6.toInt) E rfl (tgt := 130) dX12_doubts_123 (by decide) (fun c_70 => ?_) (fun c_70 => ?_)
            · skip
              replace hF := q_ifp hF c_70
              refine lv_iload_n hx hb dX12_doubts_130 rfl (lv_at hl 1 rfl) ?_
              refine q_iastN E hI (q_tk (k' := 34) hI ha rfl (by decide)) ⟨by decide, rfl⟩ (by decide) (by rw [q_lnk (v := 4650) hI (q_tk (k' := 34) hI ha rfl (by decide)) rfl (by decide)]; decide) (show 1 < 2 by decide) (q_inU rfl) dX12_doubts_131 (fun H locs σ_71 hσ_71 hI => ?_)
              replace hF := q_letX hF hσ_71
              have fr_σ_71 := fr_σ_69.si hσ_71 (q_tk (k' := 34) hI ha rfl (by decide)) rfl
              have mcσ_71 := m_wr (v := v1) (A := 6) hσ_71 (by decide) (by decide)
              have gσ_71 : m_G (m_c X σ_71 a) := m_G.wr gσ_69 mcσ_71 (by first | (clear hn ho h0 gσ wσ k2σ hh if_1 if_2 iz_3 bhpσ_5 chpσ_5 j29 kc_8 gσ_7 wσ_7 kdσ_7 z7σ_7 iz_9 if_10 qw iz_11 gσ_12 vσ_12 lsσ_12 kdσ_12 z7σ_12 iz_13 if_14 c_15 iz_49 gσ_50 vσ_50 z7σ_50 gσ_51 vσ_51 kdσ_51 z7σ_51 c_52 gσ_65 vσ_65 kdσ_65 z7σ_65 kc_66 ahpσ_68 bhpσ_68 chpσ_68 gσ_69 vσ_69 kdσ_69 c_70; omega) | omega)
              have vσ_71 : m_W (m_c X σ_71 a) (n + 1) := m_W.wr vσ_69 mcσ_71 (by first | (clear hn ho h0 gσ wσ k2σ hh if_1 if_2 iz_3 bhpσ_5 chpσ_5 j29 kc_8 gσ_7 wσ_7 kdσ_7 k2σ_7 z7σ_7 iz_9 if_10 qw iz_11 gσ_12 vσ_12 lsσ_12 kdσ_12 k2σ_12 z7σ_12 iz_13 if_14 c_15 iz_49 gσ_50 vσ_50 k2σ_50 z7σ_50 gσ_51 vσ_51 kdσ_51 k2σ_51 z7σ_51 c_52 gσ_65 vσ_65 kdσ_65 k2σ_65 z7σ_65 kc_66 ahpσ_68 bhpσ_68 chpσ_68 gσ_69 vσ_69 kdσ_69 k2σ_69 z7σ_69 c_70 gσ_71; omega) | omega)
              have kqσ_71 : ∀ j, 654 ≤ j → m_c X σ_71 a j = m_c X σ a j := fun j h => by rw [mcσ_71 j (by first | (clear hn ho h0 gσ wσ k2σ hh if_1 if_2 iz_3 bhpσ_5 chpσ_5 j29 kc_8 gσ_7 wσ_7 kdσ_7 k2σ_7 z7σ_7 iz_9 if_10 qw iz_11 gσ_12 vσ_12 lsσ_12 kdσ_12 k2σ_12 z7σ_12 iz_13 if_14 c_15 iz_49 gσ_50 vσ_50 k2σ_50 z7σ_50 gσ_51 vσ_51 kdσ_51 k2σ_51 z7σ_51 c_52 gσ_65 vσ_65 kdσ_65 k2σ_65 z7σ_65 kc_66 ahpσ_68 bhpσ_68 chpσ_68 gσ_69 vσ_69 kdσ_69 k2σ_69 z7σ_69 c_70 gσ_71 vσ_71; omega) | omega), if_neg (by first | (clear hn ho h0 gσ wσ k2σ hh if_1 if_2 iz_3 bhpσ_5 chpσ_5 j29 kc_8 gσ_7 wσ_7 kdσ_7 k2σ_7 z7σ_7 iz_9 if_10 qw iz_11 gσ_12 vσ_12 lsσ_12 kdσ_12 k2σ_12 z7σ_12 iz_13 if_14 c_15 iz_49 gσ_50 vσ_50 k2σ_50 z7σ_50 gσ_51 vσ_51 kdσ_51 k2σ_51 z7σ_51 c_52 gσ_65 vσ_65 kdσ_65 k2σ_65 z7σ_65 kc_66 ahpσ_68 bhpσ_68 chpσ_68 gσ_69 vσ_69 kdσ_69 k2σ_69 z7σ_69 c_70 gσ_71 vσ_71; omega) | omega)] <;> exact kqσ_69 j h
              have kdσ_71 : m_KD 40 X σ σ_71 := kdσ_69.ar hσ_71 (q_tk (k' := 34) hI ha rfl (by decide)) (by decide) (by decide)
              have k2σ_71 : m_c X σ_71 a 0 = m_c X σ a 0 ∧ m_c X σ_71 a 2 = m_c X σ a 2 := ⟨by rw [mcσ_71 0 (by decide), if_neg (by first | (clear hn ho h0 gσ wσ k2σ hh if_1 if_2 iz_3 bhpσ_5 chpσ_5 j29 kc_8 gσ_7 wσ_7 kdσ_7 k2σ_7 z7σ_7 iz_9 if_10 qw iz_11 gσ_12 vσ_12 lsσ_12 kdσ_12 k2σ_12 z7σ_12 iz_13 if_14 c_15 iz_49 gσ_50 vσ_50 k2σ_50 z7σ_50 gσ_51 vσ_51 kdσ_51 k2σ_51 z7σ_51 c_52 gσ_65 vσ_65 kdσ_65 k2σ_65 z7σ_65 kc_66 ahpσ_68 bhpσ_68 chpσ_68 gσ_69 vσ_69 kdσ_69 k2σ_69 z7σ_69 c_70 gσ_71 vσ_71 kdσ_71; omega) | omega)] <;> exact k2σ_69.1, by rw [mcσ_71 2 (by decide), if_neg (by first | (clear hn ho h0 gσ wσ k2σ hh if_1 if_2 iz_3 bhpσ_5 chpσ_5 j29 kc_8 gσ_7 wσ_7 kdσ_7 k2σ_7 z7σ_7 iz_9 if_10 qw iz_11 gσ_12 vσ_12 lsσ_12 kdσ_12 k2σ_12 z7σ_12 iz_13 if_14 c_15 iz_49 gσ_50 vσ_50 k2σ_50 z7σ_50 gσ_51 vσ_51 kdσ_51 k2σ_51 z7σ_51 c_52 gσ_65 vσ_65 kdσ_65 k2σ_65 z7σ_65 kc_66 ahpσ_68 bhpσ_68 chpσ_68 gσ_69 vσ_69 kdσ_69 k2σ_69 z7σ_69 c_70 gσ_71 vσ_71 kdσ_71; omega) | omega)] <;> exact k2σ_69.2⟩
              have z7σ_71 : m_c X σ_71 a 7 = 0 := (by rw [mcσ_71 7 (by decide), if_neg (by first | (clear hn ho h0 gσ wσ k2σ hh if_1 if_2 iz_3 bhpσ_5 chpσ_5 j29 kc_8 gσ_7 wσ_7 kdσ_7 k2σ_7 z7σ_7 iz_9 if_10 qw iz_11 gσ_12 vσ_12 lsσ_12 kdσ_12 k2σ_12 z7σ_12 iz_13 if_14 c_15 iz_49 gσ_50 vσ_50 k2σ_50 z7σ_50 gσ_51 vσ_51 kdσ_51 k2σ_51 z7σ_51 c_52 gσ_65 vσ_65 kdσ_65 k2σ_65 z7σ_65 kc_66 ahpσ_68 bhpσ_68 chpσ_68 gσ_69 vσ_69 kdσ_69 k2σ_69 z7σ_69 c_70 gσ_71 vσ_71 kdσ_71 k2σ_71; omega) | omega)]; exact z7σ_69)
              refine lv_iload_n hx hb dX12_doubts_132 rfl (lv_at hl 3 rfl) ?_
              refine q_if_eq (A := x_6.toInt) E rfl (tgt := 140) dX12_doubts_133 (by decide) (fun c_72 => ?_) (fun c_72 => ?_)
              · skip
                replace hF := q_ifp hF c_72
                refine lv_iload_n hx hb dX12_doubts_140 rfl (lv_at hl 2 rfl) ?_
                exact q_reti E hr hlk hI ⟨gσ_71, vσ_71, kqσ_71, kdσ_71, (hF.trans hout), fr_σ_71⟩ dX12_doubts_141
              · skip
                replace hF := q_ifn hF c_72
                refine lv_iload_n hx hb dX12_doubts_136 rfl (lv_at hl 1 rfl) ?_
                refine lv_goto (tgt := 141) hx hb dX12_doubts_137 (by decide) ?_
                exact q_reti E hr hlk hI ⟨gσ_71, vσ_71, kqσ_71, kdσ_71, (hF.trans hout), fr_σ_71⟩ dX12_doubts_141
            · skip
              replace hF := q_ifn hF c_70
              refine lv_iload_n hx hb dX12_doubts_126 rfl (lv_at hl 2 rfl) ?_
              refine lv_goto (tgt := 131) hx hb dX12_doubts_127 (by decide) ?_
              refine q_iastN E hI (q_tk (k' := 34) hI ha rfl (by decide)) ⟨by decide, rfl⟩ (by decide) (by rw [q_lnk (v := 4650) hI (q_tk (k' := 34) hI ha rfl (by decide)) rfl (by decide)]; decide) (show 1 < 2 by decide) (q_inU rfl) dX12_doubts_131 (fun H locs σ_73 hσ_73 hI => ?_)
              replace hF := q_letX hF hσ_73
              have fr_σ_73 := fr_σ_69.si hσ_73 (q_tk (k' := 34) hI ha rfl (by decide)) rfl
              have mcσ_73 := m_wr (v := f_1) (A := 6) hσ_73 (by decide) (by decide)
              have gσ_73 : m_G (m_c X σ_73 a) := m_G.wr gσ_69 mcσ_73 (by first | (clear hn h0 gσ wσ k2σ if_2 iz_3 bhpσ_5 chpσ_5 j29 kc_8 gσ_7 wσ_7 kdσ_7 z7σ_7 if_10 qw iz_11 gσ_12 vσ_12 lsσ_12 kdσ_12 z7σ_12 if_14 c_15 iz_49 gσ_50 vσ_50 z7σ_50 gσ_51 vσ_51 kdσ_51 z7σ_51 c_52 gσ_65 vσ_65 kdσ_65 z7σ_65 kc_66 ahpσ_68 bhpσ_68 chpσ_68 gσ_69 vσ_69 kdσ_69 c_70; omega) | omega)
              have vσ_73 : m_W (m_c X σ_73 a) (n + 1) := m_W.wr vσ_69 mcσ_73 (by first | (clear hn ho h0 gσ wσ k2σ hh if_1 if_2 iz_3 bhpσ_5 chpσ_5 j29 kc_8 gσ_7 wσ_7 kdσ_7 k2σ_7 z7σ_7 iz_9 if_10 qw iz_11 gσ_12 vσ_12 lsσ_12 kdσ_12 k2σ_12 z7σ_12 iz_13 if_14 c_15 iz_49 gσ_50 vσ_50 k2σ_50 z7σ_50 gσ_51 vσ_51 kdσ_51 k2σ_51 z7σ_51 c_52 gσ_65 vσ_65 kdσ_65 k2σ_65 z7σ_65 kc_66 ahpσ_68 bhpσ_68 chpσ_68 gσ_69 vσ_69 kdσ_69 k2σ_69 z7σ_69 c_70 gσ_73; omega) | omega)
              have kqσ_73 : ∀ j, 654 ≤ j → m_c X σ_73 a j = m_c X σ a j := fun j h => by rw [mcσ_73 j (by first | (clear hn ho h0 gσ wσ k2σ hh if_1 if_2 iz_3 bhpσ_5 chpσ_5 j29 kc_8 gσ_7 wσ_7 kdσ_7 k2σ_7 z7σ_7 iz_9 if_10 qw iz_11 gσ_12 vσ_12 lsσ_12 kdσ_12 k2σ_12 z7σ_12 iz_13 if_14 c_15 iz_49 gσ_50 vσ_50 k2σ_50 z7σ_50 gσ_51 vσ_51 kdσ_51 k2σ_51 z7σ_51 c_52 gσ_65 vσ_65 kdσ_65 k2σ_65 z7σ_65 kc_66 ahpσ_68 bhpσ_68 chpσ_68 gσ_69 vσ_69 kdσ_69 k2σ_69 z7σ_69 c_70 gσ_73 vσ_73; omega) | omega), if_neg (by first | (clear hn ho h0 gσ wσ k2σ hh if_1 if_2 iz_3 bhpσ_5 chpσ_5 j29 kc_8 gσ_7 wσ_7 kdσ_7 k2σ_7 z7σ_7 iz_9 if_10 qw iz_11 gσ_12 vσ_12 lsσ_12 kdσ_12 k2σ_12 z7σ_12 iz_13 if_14 c_15 iz_49 gσ_50 vσ_50 k2σ_50 z7σ_50 gσ_51 vσ_51 kdσ_51 k2σ_51 z7σ_51 c_52 gσ_65 vσ_65 kdσ_65 k2σ_65 z7σ_65 kc_66 ahpσ_68 bhpσ_68 chpσ_68 gσ_69 vσ_69 kdσ_69 k2σ_69 z7σ_69 c_70 gσ_73 vσ_73; omega) | omega)] <;> exact kqσ_69 j h
              have kdσ_73 : m_KD 40 X σ σ_73 := kdσ_69.ar hσ_73 (q_tk (k' := 34) hI ha rfl (by decide)) (by decide) (by decide)
              have k2σ_73 : m_c X σ_73 a 0 = m_c X σ a 0 ∧ m_c X σ_73 a 2 = m_c X σ a 2 := ⟨by rw [mcσ_73 0 (by decide), if_neg (by first | (clear hn ho h0 gσ wσ k2σ hh if_1 if_2 iz_3 bhpσ_5 chpσ_5 j29 kc_8 gσ_7 wσ_7 kdσ_7 k2σ_7 z7σ_7 iz_9 if_10 qw iz_11 gσ_12 vσ_12 lsσ_12 kdσ_12 k2σ_12 z7σ_12 iz_13 if_14 c_15 iz_49 gσ_50 vσ_50 k2σ_50 z7σ_50 gσ_51 vσ_51 kdσ_51 k2σ_51 z7σ_51 c_52 gσ_65 vσ_65 kdσ_65 k2σ_65 z7σ_65 kc_66 ahpσ_68 bhpσ_68 chpσ_68 gσ_69 vσ_69 kdσ_69 k2σ_69 z7σ_69 c_70 gσ_73 vσ_73 kdσ_73; omega) | omega)] <;> exact k2σ_69.1, by rw [mcσ_73 2 (by decide), if_neg (by first | (clear hn ho h0 gσ wσ k2σ hh if_1 if_2 iz_3 bhpσ_5 chpσ_5 j29 kc_8 gσ_7 wσ_7 kdσ_7 k2σ_7 z7σ_7 iz_9 if_10 qw iz_11 gσ_12 vσ_12 lsσ_12 kdσ_12 k2σ_12 z7σ_12 iz_13 if_14 c_15 iz_49 gσ_50 vσ_50 k2σ_50 z7σ_50 gσ_51 vσ_51 kdσ_51 k2σ_51 z7σ_51 c_52 gσ_65 vσ_65 kdσ_65 k2σ_65 z7σ_65 kc_66 ahpσ_68 bhpσ_68 chpσ_68 gσ_69 vσ_69 kdσ_69 k2σ_69 z7σ_69 c_70 gσ_73 vσ_73 kdσ_73; omega) | omega)] <;> exact k2σ_69.2⟩
              have z7σ_73 : m_c X σ_73 a 7 = 0 := (by rw [mcσ_73 7 (by decide), if_neg (by first | (clear hn ho h0 gσ wσ k2σ hh if_1 if_2 iz_3 bhpσ_5 chpσ_5 j29 kc_8 gσ_7 wσ_7 kdσ_7 k2σ_7 z7σ_7 iz_9 if_10 qw iz_11 gσ_12 vσ_12 lsσ_12 kdσ_12 k2σ_12 z7σ_12 iz_13 if_14 c_15 iz_49 gσ_50 vσ_50 k2σ_50 z7σ_50 gσ_51 vσ_51 kdσ_51 k2σ_51 z7σ_51 c_52 gσ_65 vσ_65 kdσ_65 k2σ_65 z7σ_65 kc_66 ahpσ_68 bhpσ_68 chpσ_68 gσ_69 vσ_69 kdσ_69 k2σ_69 z7σ_69 c_70 gσ_73 vσ_73 kdσ_73 k2σ_73; omega) | omega)]; exact z7σ_69)
              refine lv_iload_n hx hb dX12_doubts_132 rfl (lv_at hl 3 rfl) ?_
              refine q_if_eq (A := x_6.toInt) E rfl (tgt := 140) dX12_doubts_133 (by decide) (fun c_74 => ?_) (fun c_74 => ?_)
              · skip
                replace hF := q_ifp hF c_74
                refine lv_iload_n hx hb dX12_doubts_140 rfl (lv_at hl 2 rfl) ?_
                exact q_reti E hr hlk hI ⟨gσ_73, vσ_73, kqσ_73, kdσ_73, (hF.trans hout), fr_σ_73⟩ dX12_doubts_141
              · skip
                replace hF := q_ifn hF c_74
                refine lv_iload_n hx hb dX12_doubts_136 rfl (lv_at hl 1 rfl) ?_
                refine lv_goto (tgt := 141) hx hb dX12_doubts_137 (by decide) ?_
                exact q_reti E hr hlk hI ⟨gσ_73, vσ_73, kqσ_73, kdσ_73, (hF.trans hout), fr_σ_73⟩ dX12_doubts_141
          refine q_cv (q_runV (As := [.int v1]) (rest := []) E (hml.trans hl.1.symm) hI (c_X12_takes l X σ_51 a v1 ha gσ_51 (by first | (clear hn ho h0 gσ wσ k2σ if_1 if_2 iz_3 bhpσ_5 chpσ_5 j29 kc_8 gσ_7 wσ_7 kdσ_7 z7σ_7 iz_9 if_10 qw iz_11 gσ_12 vσ_12 lsσ_12 kdσ_12 z7σ_12 iz_13 if_14 c_15 iz_49 gσ_50 vσ_50 z7σ_50 gσ_51 vσ_51 kdσ_51 z7σ_51 c_52; omega) | omega) (by omega)) kv_X12_325 ha ⟨rfl, by decide⟩ (show vwCl[11]? = some (RX12, TX12, 46) from rfl) rfl ⟨Nat.le_of_ble_eq_true rfl, Nat.le_of_ble_eq_true rfl⟩ ⟨Nat.le_refl _, Nat.le_refl _⟩ rfl (Nat.le_of_ble_eq_true rfl) dX12_doubts_102) hI (by decide) (fun σ_76 H locs hpσ_76 hkσ_76 hI => ?_)
          obtain ⟨ahpσ_76, bhpσ_76, chpσ_76, dhpσ_76, ehpσ_76⟩ := hpσ_76
          have fr_σ_76 := fr_σ_51.call ehpσ_76 rfl rfl
          replace hF := q_letX hF dhpσ_76
          have gσ_76 : m_G (m_c X σ_76 a) := ahpσ_76
          have vσ_76 : m_W (m_c X σ_76 a) (n + 1) := m_W.ext (fun j h0 h1 => bhpσ_76 j (by first | (clear hn ho h0 gσ wσ k2σ hh if_1 if_2 iz_3 bhpσ_5 chpσ_5 j29 kc_8 gσ_7 wσ_7 kdσ_7 k2σ_7 z7σ_7 iz_9 if_10 qw iz_11 gσ_12 vσ_12 lsσ_12 kdσ_12 k2σ_12 z7σ_12 iz_13 if_14 c_15 iz_49 gσ_50 vσ_50 k2σ_50 z7σ_50 gσ_51 vσ_51 kdσ_51 k2σ_51 z7σ_51 c_52 ahpσ_76 bhpσ_76 chpσ_76 dhpσ_76 ehpσ_76 gσ_76; omega) | omega) (by first | (clear hn ho h0 gσ wσ k2σ hh if_1 if_2 iz_3 bhpσ_5 chpσ_5 j29 kc_8 gσ_7 wσ_7 kdσ_7 k2σ_7 z7σ_7 iz_9 if_10 qw iz_11 gσ_12 vσ_12 lsσ_12 kdσ_12 k2σ_12 z7σ_12 iz_13 if_14 c_15 iz_49 gσ_50 vσ_50 k2σ_50 z7σ_50 gσ_51 vσ_51 kdσ_51 k2σ_51 z7σ_51 c_52 ahpσ_76 bhpσ_76 chpσ_76 dhpσ_76 ehpσ_76 gσ_76; omega) | omega)) vσ_51
          have kqσ_76 : ∀ j, 654 ≤ j → m_c X σ_76 a j = m_c X σ a j := (fun j h => (bhpσ_76 j (by first | (clear hn ho h0 gσ wσ k2σ hh if_1 if_2 iz_3 bhpσ_5 chpσ_5 j29 kc_8 gσ_7 wσ_7 kdσ_7 k2σ_7 z7σ_7 iz_9 if_10 qw iz_11 gσ_12 vσ_12 lsσ_12 kdσ_12 k2σ_12 z7σ_12 iz_13 if_14 c_15 iz_49 gσ_50 vσ_50 k2σ_50 z7σ_50 gσ_51 vσ_51 kdσ_51 k2σ_51 z7σ_51 c_52 ahpσ_76 bhpσ_76 chpσ_76 dhpσ_76 ehpσ_76 gσ_76 vσ_76; omega) | omega) (by first | (clear hn ho h0 gσ wσ k2σ hh if_1 if_2 iz_3 bhpσ_5 chpσ_5 j29 kc_8 gσ_7 wσ_7 kdσ_7 k2σ_7 z7σ_7 iz_9 if_10 qw iz_11 gσ_12 vσ_12 lsσ_12 kdσ_12 k2σ_12 z7σ_12 iz_13 if_14 c_15 iz_49 gσ_50 vσ_50 k2σ_50 z7σ_50 gσ_51 vσ_51 kdσ_51 k2σ_51 z7σ_51 c_52 ahpσ_76 bhpσ_76 chpσ_76 dhpσ_76 ehpσ_76 gσ_76 vσ_76; omega) | omega)).trans (kqσ_51 j h))
          have kdσ_76 : m_KD 40 X σ σ_76 := kdσ_51.tr chpσ_76
          have k2σ_76 : m_c X σ_76 a 0 = m_c X σ a 0 ∧ m_c X σ_76 a 2 = m_c X σ a 2 := ⟨(bhpσ_76 0 (by decide) (by decide)).trans k2σ_51.1, (bhpσ_76 2 (by decide) (by decide)).trans k2σ_51.2⟩
          have z7σ_76 : m_c X σ_76 a 7 = 0 := (bhpσ_76 7 (by decide) (by decide)).trans z7σ_51
          exact J_105_65 σ_76 _ _ ls fr_σ_76 gσ_76 vσ_76 kqσ_76 kdσ_76 k2σ_76 z7σ_76 hF hI (lv_sub hl [0, 1, 2, 3] rfl)
      refine q_if_eq (A := x_6.toInt) E rfl (tgt := 92) dX12_doubts_73 (by decide) (fun c_77 => ?_) (fun c_77 => ?_)
      · skip
        replace hF := q_ifp hF c_77
        exact J_92_51 σ_50 _ _ ls fr_σ_50 gσ_50 vσ_50 kqσ_50 kdσ_50 k2σ_50 z7σ_50 hF hI (lv_sub hl [1, 2, 3, 0] rfl)
      · skip
        replace hF := q_ifn hF c_77
        refine lv_aload_n hx hb dX12_doubts_76 rfl (lv_at hl 1 rfl) ?_
        refine lv_iload_n hx hb dX12_doubts_77 rfl (lv_at hl 3 rfl) ?_
        refine q_ci (q_runV (As := [.int f_1]) (rest := []) E (hml.trans hl.1.symm) hI (c_X12_cardsOf l X σ_50 a f_1 ha gσ_50 (by first | (clear hn h0 gσ wσ k2σ if_2 iz_3 bhpσ_5 chpσ_5 j29 kc_8 gσ_7 wσ_7 kdσ_7 z7σ_7 if_10 qw iz_11 gσ_12 vσ_12 lsσ_12 kdσ_12 z7σ_12 if_14 c_15 iz_49 gσ_50 vσ_50 z7σ_50 c_77; omega) | omega)) kv_X12_293 ha ⟨rfl, by decide⟩ (show vwCl[11]? = some (RX12, TX12, 46) from rfl) rfl ⟨Nat.le_of_ble_eq_true rfl, Nat.le_of_ble_eq_true rfl⟩ ⟨Nat.le_refl _, Nat.le_refl _⟩ rfl (Nat.le_of_ble_eq_true rfl) dX12_doubts_78) hI (by decide) (fun r_78 σ_79 H locs hpσ_79 hkσ_79 hI => ?_)
        obtain ⟨ahpσ_79, bhpσ_79, chpσ_79, dhpσ_79⟩ := hpσ_79
        rw [ahpσ_79] at hI
        replace hF := q_letX hF dhpσ_79
        refine q_if_ne (A := r_78.toInt) E rfl (tgt := 92) dX12_doubts_81 (by decide) (fun c_80 => ?_) (fun c_80 => ?_)
        · skip
          replace hF := q_ifn hF c_80
          exact J_92_51 σ_50 _ _ ls fr_σ_50 gσ_50 vσ_50 kqσ_50 kdσ_50 k2σ_50 z7σ_50 hF hI (lv_sub hl [1, 2, 3, 0] rfl)
        · skip
          replace hF := q_ifp hF c_80
          refine lv_aload_n hx hb dX12_doubts_84 rfl (lv_at hl 1 rfl) ?_
          refine gs_X12_35_12 E hI ha dX12_doubts_85 ?_
          refine lv_bipush (v := 8) hx hb dX12_doubts_88 (by decide) ?_
          refine lv_iload_n hx hb dX12_doubts_90 rfl (lv_at hl 3 rfl) ?_
          refine q_iastN E hI (q_tk (k' := 34) hI ha rfl (by decide)) ⟨by decide, rfl⟩ (by decide) (by rw [q_lnk (v := 4650) hI (q_tk (k' := 34) hI ha rfl (by decide)) rfl (by decide)]; decide) (show 1 < 2 by decide) (q_inU rfl) dX12_doubts_91 (fun H locs σ_81 hσ_81 hI => ?_)
          replace hF := q_letX hF hσ_81
          have fr_σ_81 := fr_σ_50.si hσ_81 (q_tk (k' := 34) hI ha rfl (by decide)) rfl
          have mcσ_81 := m_wr (v := f_1) (A := 8) hσ_81 (by decide) (by decide)
          have gσ_81 : m_G (m_c X σ_81 a) := m_G.wr gσ_50 mcσ_81 (by first | (clear hn h0 gσ wσ k2σ if_2 iz_3 bhpσ_5 chpσ_5 j29 kc_8 gσ_7 wσ_7 kdσ_7 z7σ_7 if_10 qw iz_11 gσ_12 vσ_12 lsσ_12 kdσ_12 z7σ_12 if_14 c_15 iz_49 gσ_50 vσ_50 c_77 ahpσ_79 bhpσ_79 chpσ_79 dhpσ_79 c_80; omega) | omega)
          have vσ_81 : m_W (m_c X σ_81 a) (n + 1) := m_W.wr vσ_50 mcσ_81 (by first | (clear hn ho h0 gσ wσ k2σ hh if_1 if_2 iz_3 bhpσ_5 chpσ_5 j29 kc_8 gσ_7 wσ_7 kdσ_7 k2σ_7 z7σ_7 iz_9 if_10 qw iz_11 gσ_12 vσ_12 lsσ_12 kdσ_12 k2σ_12 z7σ_12 iz_13 if_14 c_15 iz_49 gσ_50 vσ_50 k2σ_50 z7σ_50 c_77 ahpσ_79 bhpσ_79 chpσ_79 dhpσ_79 c_80 gσ_81; omega) | omega)
          have kqσ_81 : ∀ j, 654 ≤ j → m_c X σ_81 a j = m_c X σ a j := fun j h => by rw [mcσ_81 j (by first | (clear hn ho h0 gσ wσ k2σ hh if_1 if_2 iz_3 bhpσ_5 chpσ_5 j29 kc_8 gσ_7 wσ_7 kdσ_7 k2σ_7 z7σ_7 iz_9 if_10 qw iz_11 gσ_12 vσ_12 lsσ_12 kdσ_12 k2σ_12 z7σ_12 iz_13 if_14 c_15 iz_49 gσ_50 vσ_50 k2σ_50 z7σ_50 c_77 ahpσ_79 bhpσ_79 chpσ_79 dhpσ_79 c_80 gσ_81 vσ_81; omega) | omega), if_neg (by first | (clear hn ho h0 gσ wσ k2σ hh if_1 if_2 iz_3 bhpσ_5 chpσ_5 j29 kc_8 gσ_7 wσ_7 kdσ_7 k2σ_7 z7σ_7 iz_9 if_10 qw iz_11 gσ_12 vσ_12 lsσ_12 kdσ_12 k2σ_12 z7σ_12 iz_13 if_14 c_15 iz_49 gσ_50 vσ_50 k2σ_50 z7σ_50 c_77 ahpσ_79 bhpσ_79 chpσ_79 dhpσ_79 c_80 gσ_81 vσ_81; omega) | omega)] <;> exact kqσ_50 j h
          have kdσ_81 : m_KD 40 X σ σ_81 := kdσ_50.ar hσ_81 (q_tk (k' := 34) hI ha rfl (by decide)) (by decide) (by decide)
          have k2σ_81 : m_c X σ_81 a 0 = m_c X σ a 0 ∧ m_c X σ_81 a 2 = m_c X σ a 2 := ⟨by rw [mcσ_81 0 (by decide), if_neg (by first | (clear hn ho h0 gσ wσ k2σ hh if_1 if_2 iz_3 bhpσ_5 chpσ_5 j29 kc_8 gσ_7 wσ_7 kdσ_7 k2σ_7 z7σ_7 iz_9 if_10 qw iz_11 gσ_12 vσ_12 lsσ_12 kdσ_12 k2σ_12 z7σ_12 iz_13 if_14 c_15 iz_49 gσ_50 vσ_50 k2σ_50 z7σ_50 c_77 ahpσ_79 bhpσ_79 chpσ_79 dhpσ_79 c_80 gσ_81 vσ_81 kdσ_81; omega) | omega)] <;> exact k2σ_50.1, by rw [mcσ_81 2 (by decide), if_neg (by first | (clear hn ho h0 gσ wσ k2σ hh if_1 if_2 iz_3 bhpσ_5 chpσ_5 j29 kc_8 gσ_7 wσ_7 kdσ_7 k2σ_7 z7σ_7 iz_9 if_10 qw iz_11 gσ_12 vσ_12 lsσ_12 kdσ_12 k2σ_12 z7σ_12 iz_13 if_14 c_15 iz_49 gσ_50 vσ_50 k2σ_50 z7σ_50 c_77 ahpσ_79 bhpσ_79 chpσ_79 dhpσ_79 c_80 gσ_81 vσ_81 kdσ_81; omega) | omega)] <;> exact k2σ_50.2⟩
          have z7σ_81 : m_c X σ_81 a 7 = 0 := (by rw [mcσ_81 7 (by decide), if_neg (by first | (clear hn ho h0 gσ wσ k2σ hh if_1 if_2 iz_3 bhpσ_5 chpσ_5 j29 kc_8 gσ_7 wσ_7 kdσ_7 k2σ_7 z7σ_7 iz_9 if_10 qw iz_11 gσ_12 vσ_12 lsσ_12 kdσ_12 k2σ_12 z7σ_12 iz_13 if_14 c_15 iz_49 gσ_50 vσ_50 k2σ_50 z7σ_50 c_77 ahpσ_79 bhpσ_79 chpσ_79 dhpσ_79 c_80 gσ_81 vσ_81 kdσ_81 k2σ_81; omega) | omega)]; exact z7σ_50)
          exact J_92_51 σ_81 _ _ ls fr_σ_81 gσ_81 vσ_81 kqσ_81 kdσ_81 k2σ_81 z7σ_81 hF hI (lv_sub hl [1, 2, 3, 0] rfl)
  refine q_if_ne (A := r_4.toInt) E rfl (tgt := 28) dX12_doubts_21 (by decide) (fun c_82 => ?_) (fun c_82 => ?_)
  · skip
    replace hF := q_ifn hF c_82
    refine lv_iconst (v := 0) hx hb dX12_doubts_28 (by decide) ?_
    have kc_83 : (0 : Int32).toInt = 0 := rfl
    exact J_29_6 0 _ _ ls (by first | (clear hn ho h0 gσ wσ k2σ hh if_1 if_2 iz_3 bhpσ_5 chpσ_5 c_82; omega) | omega) hF hI (lv_sub hl [1, 2, 0] rfl)
  · skip
    replace hF := q_ifp hF c_82
    refine lv_iconst (v := 1) hx hb dX12_doubts_24 (by decide) ?_
    refine lv_goto (tgt := 29) hx hb dX12_doubts_25 (by decide) ?_
    have kc_84 : (1 : Int32).toInt = 1 := rfl
    exact J_29_6 1 _ _ ls (by first | (clear hn ho h0 gσ wσ k2σ hh if_1 if_2 iz_3 bhpσ_5 chpσ_5 c_82; omega) | omega) hF hI (lv_sub hl [1, 2, 0] rfl)

set_option maxRecDepth 100000 in
set_option maxHeartbeats 4000000 in
theorem c_X12_laysDown (l : Launch) (X : XW) (σ : ST) (a : Nat) (v1 : Int32) (r2 : Nat) (ha : q_kd X a = 12) (hr2 : q_kd X r2 = 39) (hL : m_lo (m_c X σ a) (m_of σ r2) v1.toInt) (h6 : m_c X σ a 6 = v1.toInt) : Met l yX12_laysDown (q_ws yX12_laysDown cX12_laysDown 7 none) (q_rm 1 20) (q_P X σ [.ref a, .int v1, .ref r2]) (q_Qv X 1 σ (fun (σ' : ST) => (m_G (m_c X σ' a)) ∧ (∀ j, 0 ≤ j → (j < 7 ∨ j = 8 ∨ (10 ≤ j ∧ j < 34) ∨ 654 ≤ j) → m_c X σ' a j = m_c X σ a j) ∧ (m_c X σ' a 9 = m_c X σ a 9 + 1) ∧ (m_c X σ' a 7 = 1) ∧ (m_c X σ' a 6 = v1.toInt) ∧ (m_KD 40 X σ σ') ∧ σ' = F_X12_laysDown X σ a v1 r2 ∧ q_ow [(34, 99)] [] X σ σ')) 0 0 (q_reg X) := by
  refine q_met 1 (by first | exact rfl | decide +kernel) rfl (Nat.le_of_ble_eq_true rfl) (fun p e s m below meth c E hml hr hlk hI ls hl => ?_)
  have hx := E.1
  have hb := E.2.1
  have hl : lv_has ls 7 [(0, .ref a), (1, .int v1), (2, .ref r2)] := hl
  have kdσ : m_KD 40 X σ σ := m_KD.rf
  have foσ : ∀ j, σ.1 r2 j = σ.1 r2 j := fun _ => rfl
  have fr_σ : q_ow [(34, 99)] [] X σ σ := q_ow.rf
  have hc9 := hL.c9
  have hlo := hL.2.2.2
  have hp6 := hL.2.1
  have hh := hL.1.hd
  obtain ⟨out, hout⟩ : ∃ o, o = F_X12_laysDown X σ a v1 r2 := ⟨_, rfl⟩
  have hF := hout.symm
  unfold F_X12_laysDown at hF
  refine lv_aload_n hx hb dX12_laysDown_0 rfl (lv_at hl 0 rfl) ?_
  refine gs_X12_35_12 E hI ha dX12_laysDown_1 ?_
  refine lv_bipush (v := 9) hx hb dX12_laysDown_4 (by decide) ?_
  refine q_iald E hI (q_tk (k' := 34) hI ha rfl (by decide)) ⟨by decide, rfl⟩ (by decide) (by rw [q_lnk (v := 4650) hI (q_tk (k' := 34) hI ha rfl (by decide)) rfl (by decide)]; decide) dX12_laysDown_6 ?_
  refine lv_topi (fun f_1 ef_1 => ?_)
  replace hF := q_letX hF ef_1
  have if_1 : f_1.toInt = m_c X σ a 9 := m_rd ef_1 (by decide)
  refine q_ci (q_runS (As := [.int f_1]) (rest := []) E (hml.trans hl.1.symm) hI (c_X12_laid l X σ f_1 (by first | (clear h6 kdσ hlo hh; omega) | omega)) ks_X12_279 rfl ⟨Nat.le_of_ble_eq_true rfl, Nat.le_of_ble_eq_true rfl⟩ ⟨Nat.le_refl _, Nat.le_refl _⟩ rfl (Nat.le_of_ble_eq_true rfl) dX12_laysDown_7) hI (by decide) (fun r_2 σ_3 H locs hpσ_3 hkσ_3 hI => ?_)
  obtain ⟨ahpσ_3, bhpσ_3, chpσ_3⟩ := hpσ_3
  rw [ahpσ_3] at hI
  replace hF := q_letX hF chpσ_3
  have ir_2 : r_2.toInt = (94 + 7 * (m_c X σ a 9)) := (by first | (clear h6 kdσ hc9 hlo hh ahpσ_3 chpσ_3; omega) | omega)
  refine lv_istore_n (lv' := [(3, .int r_2), (0, .ref a), (1, .int v1), (2, .ref r2)]) hx hb dX12_laysDown_10 rfl hl (by decide) rfl (fun ls hl => ?_)
  refine lv_aload_n hx hb dX12_laysDown_11 rfl (lv_at hl 1 rfl) ?_
  refine gs_X12_35_12 E hI ha dX12_laysDown_12 ?_
  refine lv_iload_n hx hb dX12_laysDown_15 rfl (lv_at hl 0 rfl) ?_
  refine lv_iload_n hx hb dX12_laysDown_16 rfl (lv_at hl 2 rfl) ?_
  refine q_iastN E hI (q_tk (k' := 34) hI ha rfl (by decide)) ⟨by decide, rfl⟩ (by first | (clear h6 kdσ hlo hh ahpσ_3 chpσ_3 ir_2; omega) | omega) (by rw [q_lnk (v := 4650) hI (q_tk (k' := 34) hI ha rfl (by decide)) rfl (by decide)]; omega) (show 1 < 2 by decide) (q_inU rfl) dX12_laysDown_17 (fun H locs σ_4 hσ_4 hI => ?_)
  replace hF := q_letX hF hσ_4
  have fr_σ_4 := fr_σ.si hσ_4 (q_tk (k' := 34) hI ha rfl (by decide)) rfl
  have mcσ_4 := m_wr (v := v1) (A := (94 + 7 * (m_c X σ a 9))) hσ_4 ir_2 (by first | (clear h6 kdσ hlo hh ahpσ_3 bhpσ_3 chpσ_3 ir_2; omega) | omega)
  have kdσ_4 : m_KD 40 X σ σ_4 := kdσ.ar hσ_4 (q_tk (k' := 34) hI ha rfl (by decide)) (by decide) (by decide)
  have foσ_4 : ∀ j, σ_4.1 r2 j = σ.1 r2 j := fun j => (q_rdn hσ_4 (Or.inl (m_ne hr2 (q_tk (k' := 34) hI ha rfl (by decide)) (by decide)))).trans (foσ j)
  have s1x := mcσ_4
  refine lv_aload_n hx hb dX12_laysDown_18 rfl (lv_at hl 1 rfl) ?_
  refine gs_X12_35_12 E hI ha dX12_laysDown_19 ?_
  refine lv_iload_n hx hb dX12_laysDown_22 rfl (lv_at hl 0 rfl) ?_
  refine lv_iconst (v := 1) hx hb dX12_laysDown_23 (by decide) ?_
  refine lv_iadd hx hb dX12_laysDown_24 ?_
  refine lv_topi (fun z_5 ez_5 => ?_)
  replace hF := q_letX hF ez_5
  have iz_5 := q_addI (A := (94 + 7 * (m_c X σ a 9))) (B := 1) ez_5 ir_2 (by decide) (by first | (clear h6 kdσ hlo hh ahpσ_3 bhpσ_3 chpσ_3 ir_2 kdσ_4; omega) | omega) (by first | (clear h6 kdσ hlo hh ahpσ_3 bhpσ_3 chpσ_3 ir_2 kdσ_4; omega) | omega)
  refine lv_aload_n hx hb dX12_laysDown_25 rfl (lv_at hl 1 rfl) ?_
  refine gs_X12_35_12 E hI ha dX12_laysDown_26 ?_
  refine lv_iconst (v := 5) hx hb dX12_laysDown_29 (by decide) ?_
  refine q_iald E hI (q_tk (k' := 34) hI ha rfl (by decide)) ⟨by decide, rfl⟩ (by decide) (by rw [q_lnk (v := 4650) hI (q_tk (k' := 34) hI ha rfl (by decide)) rfl (by decide)]; decide) dX12_laysDown_30 ?_
  refine lv_topi (fun f_6 ef_6 => ?_)
  replace hF := q_letX hF ef_6
  have if_6 : f_6.toInt = m_c X σ_4 a 5 := m_rd ef_6 (by decide)
  refine q_iastN E hI (q_tk (k' := 34) hI ha rfl (by decide)) ⟨by decide, rfl⟩ (by first | (clear h6 kdσ hlo hh ahpσ_3 bhpσ_3 chpσ_3 ir_2 kdσ_4 if_6; omega) | omega) (by rw [q_lnk (v := 4650) hI (q_tk (k' := 34) hI ha rfl (by decide)) rfl (by decide)]; omega) (show 1 < 2 by decide) (q_inU rfl) dX12_laysDown_31 (fun H locs σ_7 hσ_7 hI => ?_)
  replace hF := q_letX hF hσ_7
  have fr_σ_7 := fr_σ_4.si hσ_7 (q_tk (k' := 34) hI ha rfl (by decide)) rfl
  have mcσ_7 := m_wr (v := f_6) (A := ((94 + 7 * (m_c X σ a 9)) + 1)) hσ_7 iz_5 (by first | (clear h6 kdσ hlo hh ahpσ_3 bhpσ_3 chpσ_3 ir_2 kdσ_4 iz_5 if_6; omega) | omega)
  have kdσ_7 : m_KD 40 X σ σ_7 := kdσ_4.ar hσ_7 (q_tk (k' := 34) hI ha rfl (by decide)) (by decide) (by decide)
  have foσ_7 : ∀ j, σ_7.1 r2 j = σ.1 r2 j := fun j => (q_rdn hσ_7 (Or.inl (m_ne hr2 (q_tk (k' := 34) hI ha rfl (by decide)) (by decide)))).trans (foσ_4 j)
  have ld0 := m_ld.start hL s1x rfl mcσ_7
  refine lv_iconst (v := 0) hx hb dX12_laysDown_32 (by decide) ?_
  refine lv_istore (lv' := [(4, .int 0), (3, .int r_2), (0, .ref a), (1, .int v1), (2, .ref r2)]) hx hb dX12_laysDown_33 hl (by decide) rfl (fun ls hl => ?_)
  refine lv_iconst (v := 0) hx hb dX12_laysDown_35 (by decide) ?_
  refine lv_istore (lv' := [(5, .int 0), (4, .int 0), (3, .int r_2), (0, .ref a), (1, .int v1), (2, .ref r2)]) hx hb dX12_laysDown_36 hl (by decide) rfl (fun ls hl => ?_)
  have L_38_11 : ∀ (k_11 : Nat) (x_8 : Int32) (x_9 : Int32) (σ_10 : ST) (H : Heap) (locs : List Loc) (ls : Array Slot), (2147483647 - x_9.toInt).toNat < k_11 → (0 ≤ x_9.toInt ∧ x_9.toInt ≤ 10) → (x_8.toInt = m_S (m_of σ r2) 0 x_9.toInt.toNat) → (m_ld (m_c X σ a) (m_c X σ_10 a) (m_of σ r2) v1.toInt x_9.toInt 0) → (q_ow [(34, 99)] [] X σ σ_10) → (m_KD 40 X σ σ_10) → (∀ j, σ_10.1 r2 j = σ.1 r2 j) → (F_X12_laysDown_L38_1 X r2 r_2 a v1 k_11 x_8 x_9 σ_10 = out) → q_I X 1 σ s.heap locs σ_10 H → lv_has ls 7 [(0, .ref a), (1, .int v1), (2, .ref r2), (3, .int r_2), (4, .int x_8), (5, .int x_9)] → W p l e (q_rm 1 20) s m ([.ref a, .int v1, .ref r2] : List Value).toArray below meth c H locs 0 0 (MQ below (q_Qv X 1 σ (fun (σ' : ST) => (m_G (m_c X σ' a)) ∧ (∀ j, 0 ≤ j → (j < 7 ∨ j = 8 ∨ (10 ≤ j ∧ j < 34) ∨ 654 ≤ j) → m_c X σ' a j = m_c X σ a j) ∧ (m_c X σ' a 9 = m_c X σ a 9 + 1) ∧ (m_c X σ' a 7 = 1) ∧ (m_c X σ' a 6 = v1.toInt) ∧ (m_KD 40 X σ σ') ∧ σ' = F_X12_laysDown X σ a v1 r2 ∧ q_ow [(34, 99)] [] X σ σ')) ([.ref a, .int v1, .ref r2] : List Value).toArray s 0 0 (q_reg X)) (F0 m 38 ls []) := by
    clear hF
    intro k_11
    induction k_11 with
    | zero =>
      intro x_8 x_9 σ_10 H locs ls hms
      try clear kdσ; try clear foσ; try clear fr_σ; try clear ahpσ_3; try clear fr_σ_4; try clear mcσ_4; try clear kdσ_4; try clear foσ_4; try clear fr_σ_7; try clear mcσ_7; try clear kdσ_7; try clear foσ_7
      exact absurd hms (Nat.not_lt_zero _)
    | succ k_11 ih38 =>
      intro x_8 x_9 σ_10 H locs ls hm38 hge38 hn38 ldσ_10 fr_σ_10 kdσ_10 foσ_10 hF hI hl
      replace hF := (F_X12_laysDown_L38_1_s).symm.trans hF
      unfold F_X12_laysDown_B38_1 at hF
      have pt := hL.part x_9.toInt.toNat (by first | (clear h6 hc9 hlo hh if_1 bhpσ_3 chpσ_3 ir_2 iz_5 if_6 hm38 hn38 kdσ_10; omega) | omega)
      have ps := m_S_succ (m_of σ r2) 0 x_9.toInt hge38.1
      rw [Int.zero_add] at ps
      refine lv_iload hx hb dX12_laysDown_38 (lv_at hl 5 rfl) ?_
      refine lv_bipush (v := 10) hx hb dX12_laysDown_40 (by decide) ?_
      have gc_12_x_9 := q_rng x_9
      refine q_icmp_ge (A := x_9.toInt) (B := 10) E rfl (by decide) (tgt := 107) dX12_laysDown_42 (by decide) (fun c_12 => ?_) (fun c_12 => ?_)
      · skip
        replace hF := q_ifn hF (Int.not_lt.mpr c_12)
        unfold F_X12_laysDown_E107_2 at hF
        refine lv_aload_n hx hb dX12_laysDown_107 rfl (lv_at hl 0 rfl) ?_
        refine gs_X12_35_12 E hI ha dX12_laysDown_108 ?_
        refine lv_iload_n hx hb dX12_laysDown_111 rfl (lv_at hl 3 rfl) ?_
        refine lv_iconst (v := 2) hx hb dX12_laysDown_112 (by decide) ?_
        refine lv_iadd hx hb dX12_laysDown_113 ?_
        refine lv_topi (fun z_13 ez_13 => ?_)
        replace hF := q_letX hF ez_13
        have iz_13 := q_addI (A := (94 + 7 * (m_c X σ a 9))) (B := 2) ez_13 ir_2 (by decide) (by first | (clear h6 hlo hh bhpσ_3 chpσ_3 ir_2 iz_5 if_6 hm38 hge38 hn38 kdσ_10 pt ps gc_12_x_9 c_12; omega) | omega) (by first | (clear h6 hlo hh bhpσ_3 chpσ_3 ir_2 iz_5 if_6 hm38 hge38 hn38 kdσ_10 pt ps gc_12_x_9 c_12; omega) | omega)
        refine lv_iload hx hb dX12_laysDown_114 (lv_at hl 4 rfl) ?_
        refine q_iastN E hI (q_tk (k' := 34) hI ha rfl (by decide)) ⟨by decide, rfl⟩ (by first | (clear h6 hlo hh bhpσ_3 chpσ_3 ir_2 iz_5 if_6 hm38 hge38 hn38 kdσ_10 pt ps gc_12_x_9 c_12; omega) | omega) (by rw [q_lnk (v := 4650) hI (q_tk (k' := 34) hI ha rfl (by decide)) rfl (by decide)]; omega) (show 1 < 2 by decide) (q_inU rfl) dX12_laysDown_116 (fun H locs σ_14 hσ_14 hI => ?_)
        replace hF := q_letX hF hσ_14
        have fr_σ_14 := fr_σ_10.si hσ_14 (q_tk (k' := 34) hI ha rfl (by decide)) rfl
        have mcσ_14 := m_wr (v := x_8) (A := ((94 + 7 * (m_c X σ a 9)) + 2)) hσ_14 iz_13 (by first | (clear h6 hlo hh bhpσ_3 chpσ_3 ir_2 iz_5 if_6 hm38 hge38 hn38 kdσ_10 pt ps gc_12_x_9 c_12 iz_13; omega) | omega)
        have kdσ_14 : m_KD 40 X σ σ_14 := kdσ_10.ar hσ_14 (q_tk (k' := 34) hI ha rfl (by decide)) (by decide) (by decide)
        have foσ_14 : ∀ j, σ_14.1 r2 j = σ.1 r2 j := fun j => (q_rdn hσ_14 (Or.inl (m_ne hr2 (q_tk (k' := 34) hI ha rfl (by decide)) (by decide)))).trans (foσ_10 j)
        have e1x := mcσ_14
        have g9 : m_c X σ_14 a 9 = m_c X σ a 9 := by rw [mcσ_14 9 (by decide), if_neg (by first | (clear h6 hlo hh bhpσ_3 chpσ_3 ir_2 iz_5 if_6 hm38 hge38 hn38 kdσ_10 pt ps gc_12_x_9 c_12 iz_13 kdσ_14 e1x; omega) | omega)]; exact ldσ_10.1 9 (by decide) (by first | (clear h6 hc9 hlo hh if_1 bhpσ_3 chpσ_3 ir_2 iz_5 if_6 hm38 hge38 hn38 kdσ_10 pt ps gc_12_x_9 c_12 iz_13 kdσ_14 e1x; omega) | omega) (by first | (clear h6 hlo hh bhpσ_3 chpσ_3 ir_2 iz_5 if_6 hm38 hge38 hn38 kdσ_10 pt ps gc_12_x_9 c_12 iz_13 kdσ_14 e1x; omega) | omega)
        have l10 := ldσ_10
        have q10 : x_9.toInt = 10 := by omega
        rw [q10] at l10
        refine lv_aload_n hx hb dX12_laysDown_117 rfl (lv_at hl 0 rfl) ?_
        refine gs_X12_35_12 E hI ha dX12_laysDown_118 ?_
        refine lv_bipush (v := 9) hx hb dX12_laysDown_121 (by decide) ?_
        refine lv_dup2_11 hx hb dX12_laysDown_123 rfl rfl ?_
        refine q_iald E hI (q_tk (k' := 34) hI ha rfl (by decide)) ⟨by decide, rfl⟩ (by decide) (by rw [q_lnk (v := 4650) hI (q_tk (k' := 34) hI ha rfl (by decide)) rfl (by decide)]; decide) dX12_laysDown_124 ?_
        refine lv_topi (fun f_15 ef_15 => ?_)
        replace hF := q_letX hF ef_15
        have if_15 : f_15.toInt = m_c X σ_14 a 9 := m_rd ef_15 (by decide)
        refine lv_iconst (v := 1) hx hb dX12_laysDown_125 (by decide) ?_
        refine lv_iadd hx hb dX12_laysDown_126 ?_
        refine lv_topi (fun z_16 ez_16 => ?_)
        replace hF := q_letX hF ez_16
        have iz_16 := q_addI (A := (m_c X σ_14 a 9)) (B := 1) ez_16 if_15 (by decide) (by first | (clear h6 hlo hh bhpσ_3 chpσ_3 ir_2 iz_5 if_6 hm38 hge38 hn38 kdσ_10 pt ps gc_12_x_9 c_12 iz_13 kdσ_14 e1x; omega) | omega) (by first | (clear h6 hlo hh bhpσ_3 chpσ_3 ir_2 iz_5 if_6 hm38 hge38 hn38 kdσ_10 pt ps gc_12_x_9 c_12 iz_13 kdσ_14 e1x; omega) | omega)
        refine q_iastN E hI (q_tk (k' := 34) hI ha rfl (by decide)) ⟨by decide, rfl⟩ (by decide) (by rw [q_lnk (v := 4650) hI (q_tk (k' := 34) hI ha rfl (by decide)) rfl (by decide)]; decide) (show 1 < 2 by decide) (q_inU rfl) dX12_laysDown_127 (fun H locs σ_17 hσ_17 hI => ?_)
        replace hF := q_letX hF hσ_17
        have fr_σ_17 := fr_σ_14.si hσ_17 (q_tk (k' := 34) hI ha rfl (by decide)) rfl
        have mcσ_17 := m_wr (v := z_16) (A := 9) hσ_17 (by decide) (by decide)
        have kdσ_17 : m_KD 40 X σ σ_17 := kdσ_14.ar hσ_17 (q_tk (k' := 34) hI ha rfl (by decide)) (by decide) (by decide)
        have foσ_17 : ∀ j, σ_17.1 r2 j = σ.1 r2 j := fun j => (q_rdn hσ_17 (Or.inl (m_ne hr2 (q_tk (k' := 34) hI ha rfl (by decide)) (by decide)))).trans (foσ_14 j)
        have e2x := mcσ_17
        have v9x := iz_16
        refine lv_aload_n hx hb dX12_laysDown_128 rfl (lv_at hl 0 rfl) ?_
        refine gs_X12_35_12 E hI ha dX12_laysDown_129 ?_
        refine lv_bipush (v := 7) hx hb dX12_laysDown_132 (by decide) ?_
        refine lv_iconst (v := 1) hx hb dX12_laysDown_134 (by decide) ?_
        have kc_19 : (1 : Int32).toInt = 1 := rfl
        refine q_iastN E hI (q_tk (k' := 34) hI ha rfl (by decide)) ⟨by decide, rfl⟩ (by decide) (by rw [q_lnk (v := 4650) hI (q_tk (k' := 34) hI ha rfl (by decide)) rfl (by decide)]; decide) (show 1 < 2 by decide) (q_inU rfl) dX12_laysDown_135 (fun H locs σ_18 hσ_18 hI => ?_)
        replace hF := q_letX hF hσ_18
        have fr_σ_18 := fr_σ_17.si hσ_18 (q_tk (k' := 34) hI ha rfl (by decide)) rfl
        have mcσ_18 := m_wr (v := (1 : Int32)) (A := 7) hσ_18 (by decide) (by decide)
        have kdσ_18 : m_KD 40 X σ σ_18 := kdσ_17.ar hσ_18 (q_tk (k' := 34) hI ha rfl (by decide)) (by decide) (by decide)
        have foσ_18 : ∀ j, σ_18.1 r2 j = σ.1 r2 j := fun j => (q_rdn hσ_18 (Or.inl (m_ne hr2 (q_tk (k' := 34) hI ha rfl (by decide)) (by decide)))).trans (foσ_17 j)
        have dnσ_18 := l10.done hL h6 (by have q : x_9.toInt.toNat = 10 := (by first | (clear h6 hc9 hlo hh if_1 bhpσ_3 chpσ_3 ir_2 iz_5 if_6 hm38 hn38 kdσ_10 pt ps gc_12_x_9 iz_13 kdσ_14 e1x if_15 iz_16 kdσ_17 e2x v9x kc_19 kdσ_18; omega) | omega); rw [q] at hn38; exact hn38) e1x e2x (by first | (clear h6 hc9 hlo hh bhpσ_3 chpσ_3 ir_2 iz_5 if_6 hm38 hge38 hn38 kdσ_10 pt ps gc_12_x_9 c_12 iz_13 kdσ_14 e1x kdσ_17 e2x v9x kc_19 kdσ_18; omega) | omega) mcσ_18 rfl
        exact q_retv E hr hlk hI ⟨dnσ_18.1, dnσ_18.2.1, dnσ_18.2.2.1, dnσ_18.2.2.2.1, dnσ_18.2.2.2.2, kdσ_18, (hF.trans hout), fr_σ_18⟩ dX12_laysDown_136
      · skip
        replace hF := q_ifp hF c_12
        have pt2 := hL.part (x_9.toInt + 1).toNat (by first | (clear h6 hc9 hlo hh if_1 bhpσ_3 chpσ_3 ir_2 iz_5 if_6 hm38 hn38 kdσ_10 pt ps gc_12_x_9; omega) | omega)
        rw [ps] at pt2
        have ho := hL.2.2.1 x_9.toInt (by first | (clear h6 hc9 hlo hh if_1 bhpσ_3 chpσ_3 ir_2 iz_5 if_6 hm38 hn38 kdσ_10 pt ps gc_12_x_9 pt2; omega) | omega) (by omega)
        refine lv_iconst (v := 0) hx hb dX12_laysDown_45 (by decide) ?_
        refine lv_istore (lv' := [(6, .int 0), (0, .ref a), (1, .int v1), (2, .ref r2), (3, .int r_2), (4, .int x_8), (5, .int x_9)]) hx hb dX12_laysDown_46 hl (by decide) rfl (fun ls hl => ?_)
        have L_48_23 : ∀ (k_23 : Nat) (x_20 : Int32) (x_21 : Int32) (σ_22 : ST) (H : Heap) (locs : List Loc) (ls : Array Slot), (2147483647 - x_21.toInt).toNat < k_23 → (0 ≤ x_21.toInt ∧ x_21.toInt ≤ m_of σ r2 x_9.toInt) → (x_20.toInt = m_S (m_of σ r2) 0 x_9.toInt.toNat + x_21.toInt) → (m_ld (m_c X σ a) (m_c X σ_22 a) (m_of σ r2) v1.toInt x_9.toInt x_21.toInt) → (q_ow [(34, 99)] [] X σ σ_22) → (m_KD 40 X σ σ_22) → (∀ j, σ_22.1 r2 j = σ.1 r2 j) → (F_X12_laysDown_L48_3 X r2 x_9 r_2 a v1 (F_X12_laysDown_L38_1 X r2 r_2 a v1 k_11) k_23 x_20 x_21 σ_22 = out) → q_I X 1 σ s.heap locs σ_22 H → lv_has ls 7 [(0, .ref a), (1, .int v1), (2, .ref r2), (3, .int r_2), (4, .int x_20), (5, .int x_9), (6, .int x_21)] → W p l e (q_rm 1 20) s m ([.ref a, .int v1, .ref r2] : List Value).toArray below meth c H locs 0 0 (MQ below (q_Qv X 1 σ (fun (σ' : ST) => (m_G (m_c X σ' a)) ∧ (∀ j, 0 ≤ j → (j < 7 ∨ j = 8 ∨ (10 ≤ j ∧ j < 34) ∨ 654 ≤ j) → m_c X σ' a j = m_c X σ a j) ∧ (m_c X σ' a 9 = m_c X σ a 9 + 1) ∧ (m_c X σ' a 7 = 1) ∧ (m_c X σ' a 6 = v1.toInt) ∧ (m_KD 40 X σ σ') ∧ σ' = F_X12_laysDown X σ a v1 r2 ∧ q_ow [(34, 99)] [] X σ σ')) ([.ref a, .int v1, .ref r2] : List Value).toArray s 0 0 (q_reg X)) (F0 m 48 ls []) := by
          clear hF
          intro k_23
          induction k_23 with
          | zero =>
            intro x_20 x_21 σ_22 H locs ls hms
            exact absurd hms (Nat.not_lt_zero _)
          | succ k_23 ih48 =>
            intro x_20 x_21 σ_22 H locs ls hm48 hge48 hn48 ldσ_22 fr_σ_22 kdσ_22 foσ_22 hF hI hl
            replace hF := (F_X12_laysDown_L48_3_s).symm.trans hF
            unfold F_X12_laysDown_B48_3 at hF
            refine lv_iload hx hb dX12_laysDown_48 (lv_at hl 6 rfl) ?_
            refine lv_aload_n hx hb dX12_laysDown_50 rfl (lv_at hl 2 rfl) ?_
            refine lv_iload hx hb dX12_laysDown_51 (lv_at hl 5 rfl) ?_
            refine q_iald E hI hr2 ⟨by decide, rfl⟩ (by first | (clear h6 hc9 hlo hh if_1 bhpσ_3 chpσ_3 ir_2 iz_5 if_6 hm38 hn38 kdσ_10 pt ps gc_12_x_9 pt2 ho hm48 hge48 hn48 kdσ_22; omega) | omega) (by rw [q_lnk (v := 10) hI hr2 rfl (by decide)]; omega) dX12_laysDown_53 ?_
            refine lv_topi (fun f_24 ef_24 => ?_)
            replace hF := q_letX hF ef_24
            have fqf_24 : f_24.toInt = m_of σ r2 x_9.toInt := by rw [ef_24, foσ_22]; rfl
            have gc_25_x_21 := q_rng x_21
            have gc_25_f_24 := q_rng f_24
            refine q_icmp_ge (A := x_21.toInt) (B := f_24.toInt) E rfl rfl (tgt := 79) dX12_laysDown_54 (by decide) (fun c_25 => ?_) (fun c_25 => ?_)
            · skip
              replace hF := q_ifn hF (Int.not_lt.mpr c_25)
              unfold F_X12_laysDown_E79_4 at hF
              have lu := ldσ_22.1 (34 + 10 * v1.toInt + x_9.toInt) (by first | (clear h6 hc9 hlo if_1 bhpσ_3 chpσ_3 ir_2 iz_5 if_6 hm38 hn38 kdσ_10 pt ps gc_12_x_9 pt2 ho hm48 hge48 hn48 kdσ_22 fqf_24 gc_25_x_21 gc_25_f_24 c_25; omega) | omega) (by first | (clear h6 hc9 hlo hh if_1 bhpσ_3 chpσ_3 ir_2 iz_5 if_6 hm38 hge38 hn38 kdσ_10 pt ps gc_12_x_9 c_12 pt2 ho hm48 hge48 hn48 kdσ_22 fqf_24 gc_25_x_21 gc_25_f_24 c_25; omega) | omega) (by first | (clear h6 hlo bhpσ_3 chpσ_3 ir_2 iz_5 if_6 hm38 hn38 kdσ_10 pt ps gc_12_x_9 pt2 ho hm48 hge48 hn48 kdσ_22 fqf_24 gc_25_x_21 gc_25_f_24 c_25; omega) | omega)
              have lv := hL.1.h80 (p := v1.toInt) (k := x_9.toInt) (by first | (clear h6 hc9 hlo hh if_1 bhpσ_3 chpσ_3 ir_2 iz_5 if_6 hm38 hge38 hn38 kdσ_10 pt ps gc_12_x_9 c_12 pt2 ho hm48 hge48 hn48 kdσ_22 fqf_24 gc_25_x_21 gc_25_f_24 c_25 lu; omega) | omega) (by first | (clear h6 hc9 hlo hh if_1 bhpσ_3 chpσ_3 ir_2 iz_5 if_6 hm38 hge38 hn38 kdσ_10 pt ps gc_12_x_9 c_12 pt2 ho hm48 hge48 hn48 kdσ_22 fqf_24 gc_25_x_21 gc_25_f_24 c_25 lu; omega) | omega) (by first | (clear h6 hc9 hlo hh if_1 bhpσ_3 chpσ_3 ir_2 iz_5 if_6 hm38 hn38 kdσ_10 pt ps gc_12_x_9 pt2 ho hm48 hge48 hn48 kdσ_22 fqf_24 gc_25_x_21 gc_25_f_24 c_25 lu; omega) | omega) (by omega)
              refine lv_aload_n hx hb dX12_laysDown_79 rfl (lv_at hl 0 rfl) ?_
              refine gs_X12_35_12 E hI ha dX12_laysDown_80 ?_
              refine lv_bipush (v := 34) hx hb dX12_laysDown_83 (by decide) ?_
              refine lv_bipush (v := 10) hx hb dX12_laysDown_85 (by decide) ?_
              refine lv_iload_n hx hb dX12_laysDown_87 rfl (lv_at hl 1 rfl) ?_
              refine lv_imul hx hb dX12_laysDown_88 ?_
              refine lv_topi (fun z_26 ez_26 => ?_)
              replace hF := q_letX hF ez_26
              have iz_26 := q_mulI (A := 10) (B := v1.toInt) ez_26 (by decide) rfl (by first | (clear h6 hc9 hlo hh if_1 bhpσ_3 chpσ_3 ir_2 iz_5 if_6 hm38 hge38 hn38 kdσ_10 pt ps gc_12_x_9 c_12 pt2 ho hm48 hge48 hn48 kdσ_22 fqf_24 gc_25_x_21 gc_25_f_24 c_25 lu; omega) | omega) (by first | (clear h6 hc9 hlo hh if_1 bhpσ_3 chpσ_3 ir_2 iz_5 if_6 hm38 hge38 hn38 kdσ_10 pt ps gc_12_x_9 c_12 pt2 ho hm48 hge48 hn48 kdσ_22 fqf_24 gc_25_x_21 gc_25_f_24 c_25 lu; omega) | omega)
              refine lv_iadd hx hb dX12_laysDown_89 ?_
              refine lv_topi (fun z_27 ez_27 => ?_)
              replace hF := q_letX hF ez_27
              have iz_27 := q_addI (A := 34) (B := (10 * v1.toInt)) ez_27 (by decide) iz_26 (by first | (clear h6 hc9 hlo hh if_1 bhpσ_3 chpσ_3 ir_2 iz_5 if_6 hm38 hge38 hn38 kdσ_10 pt ps gc_12_x_9 c_12 pt2 ho hm48 hge48 hn48 kdσ_22 fqf_24 gc_25_x_21 gc_25_f_24 c_25 lu iz_26; omega) | omega) (by first | (clear h6 hc9 hlo hh if_1 bhpσ_3 chpσ_3 ir_2 iz_5 if_6 hm38 hge38 hn38 kdσ_10 pt ps gc_12_x_9 c_12 pt2 ho hm48 hge48 hn48 kdσ_22 fqf_24 gc_25_x_21 gc_25_f_24 c_25 lu iz_26; omega) | omega)
              refine lv_iload hx hb dX12_laysDown_90 (lv_at hl 5 rfl) ?_
              refine lv_iadd hx hb dX12_laysDown_92 ?_
              refine lv_topi (fun z_28 ez_28 => ?_)
              replace hF := q_letX hF ez_28
              have iz_28 := q_addI (A := (34 + (10 * v1.toInt))) (B := x_9.toInt) ez_28 iz_27 rfl (by first | (clear h6 hc9 hlo if_1 bhpσ_3 chpσ_3 ir_2 iz_5 if_6 hm38 hn38 kdσ_10 pt ps gc_12_x_9 pt2 ho hm48 hge48 hn48 kdσ_22 fqf_24 gc_25_x_21 gc_25_f_24 c_25 lu iz_26 iz_27; omega) | omega) (by first | (clear h6 hc9 hlo if_1 bhpσ_3 chpσ_3 ir_2 iz_5 if_6 hm38 hn38 kdσ_10 pt ps gc_12_x_9 pt2 ho hm48 hge48 hn48 kdσ_22 fqf_24 gc_25_x_21 gc_25_f_24 c_25 lu iz_26 iz_27; omega) | omega)
              refine lv_dup2_11 hx hb dX12_laysDown_93 rfl rfl ?_
              refine q_iald E hI (q_tk (k' := 34) hI ha rfl (by decide)) ⟨by decide, rfl⟩ (by first | (clear h6 hc9 hlo if_1 bhpσ_3 chpσ_3 ir_2 iz_5 if_6 hm38 hn38 kdσ_10 pt ps gc_12_x_9 pt2 ho hm48 hge48 hn48 kdσ_22 fqf_24 gc_25_x_21 gc_25_f_24 c_25 lu iz_26 iz_27; omega) | omega) (by rw [q_lnk (v := 4650) hI (q_tk (k' := 34) hI ha rfl (by decide)) rfl (by decide)]; omega) dX12_laysDown_94 ?_
              refine lv_topi (fun f_29 ef_29 => ?_)
              replace hF := q_letX hF ef_29
              have if_29 : f_29.toInt = m_c X σ_22 a ((34 + (10 * v1.toInt)) + x_9.toInt) := m_rd ef_29 iz_28
              refine lv_aload_n hx hb dX12_laysDown_95 rfl (lv_at hl 2 rfl) ?_
              refine lv_iload hx hb dX12_laysDown_96 (lv_at hl 5 rfl) ?_
              refine q_iald E hI hr2 ⟨by decide, rfl⟩ (by first | (clear h6 hc9 hlo hh if_1 bhpσ_3 chpσ_3 ir_2 iz_5 if_6 hm38 hn38 kdσ_10 pt ps gc_12_x_9 pt2 ho hm48 hge48 hn48 kdσ_22 fqf_24 gc_25_x_21 gc_25_f_24 c_25 lu iz_26 iz_27 if_29; omega) | omega) (by rw [q_lnk (v := 10) hI hr2 rfl (by decide)]; omega) dX12_laysDown_98 ?_
              refine lv_topi (fun f_30 ef_30 => ?_)
              replace hF := q_letX hF ef_30
              have fqf_30 : f_30.toInt = m_of σ r2 x_9.toInt := by rw [ef_30, foσ_22]; rfl
              refine lv_isub hx hb dX12_laysDown_99 ?_
              refine lv_topi (fun z_31 ez_31 => ?_)
              replace hF := q_letX hF ez_31
              have iz_31 := q_subI (A := (m_c X σ_22 a ((34 + (10 * v1.toInt)) + x_9.toInt))) (B := f_30.toInt) ez_31 if_29 rfl (by first | (clear h6 hc9 hlo hh if_1 bhpσ_3 chpσ_3 ir_2 iz_5 if_6 hm38 hge38 hn38 kdσ_10 pt ps gc_12_x_9 c_12 pt2 hm48 hge48 hn48 kdσ_22 gc_25_x_21 gc_25_f_24 c_25 iz_26 iz_27 iz_28; omega) | omega) (by first | (clear h6 hc9 hlo hh if_1 bhpσ_3 chpσ_3 ir_2 iz_5 if_6 hm38 hge38 hn38 kdσ_10 pt ps gc_12_x_9 c_12 pt2 ho hm48 hn48 kdσ_22 gc_25_f_24 iz_26 iz_27 iz_28; omega) | omega)
              refine q_iastN E hI (q_tk (k' := 34) hI ha rfl (by decide)) ⟨by decide, rfl⟩ (by first | (clear h6 hc9 hlo if_1 bhpσ_3 chpσ_3 ir_2 iz_5 if_6 hm38 hn38 kdσ_10 pt ps gc_12_x_9 pt2 ho hm48 hge48 hn48 kdσ_22 fqf_24 gc_25_x_21 gc_25_f_24 c_25 lu iz_26 iz_27 if_29 fqf_30 iz_31; omega) | omega) (by rw [q_lnk (v := 4650) hI (q_tk (k' := 34) hI ha rfl (by decide)) rfl (by decide)]; omega) (show 1 < 2 by decide) (q_inU rfl) dX12_laysDown_100 (fun H locs σ_32 hσ_32 hI => ?_)
              replace hF := q_letX hF hσ_32
              have fr_σ_32 := fr_σ_22.si hσ_32 (q_tk (k' := 34) hI ha rfl (by decide)) rfl
              have mcσ_32 := m_wr (v := z_31) (A := ((34 + (10 * v1.toInt)) + x_9.toInt)) hσ_32 iz_28 (by first | (clear h6 hc9 hlo if_1 bhpσ_3 chpσ_3 ir_2 iz_5 if_6 hm38 hn38 kdσ_10 pt ps gc_12_x_9 pt2 ho hm48 hge48 hn48 kdσ_22 fqf_24 gc_25_x_21 gc_25_f_24 c_25 lu iz_26 iz_27 if_29 fqf_30 iz_31; omega) | omega)
              have kdσ_32 : m_KD 40 X σ σ_32 := kdσ_22.ar hσ_32 (q_tk (k' := 34) hI ha rfl (by decide)) (by decide) (by decide)
              have foσ_32 : ∀ j, σ_32.1 r2 j = σ.1 r2 j := fun j => (q_rdn hσ_32 (Or.inl (m_ne hr2 (q_tk (k' := 34) hI ha rfl (by decide)) (by decide)))).trans (foσ_22 j)
              have ldσ_32 := ldσ_22.hand hL (by first | (clear h6 hc9 hlo hh if_1 bhpσ_3 chpσ_3 ir_2 iz_5 if_6 hm38 hn38 kdσ_10 pt ps gc_12_x_9 pt2 ho hm48 hge48 hn48 kdσ_22 fqf_24 gc_25_x_21 gc_25_f_24 c_25 lu iz_26 iz_27 if_29 fqf_30 iz_31 kdσ_32; omega) | omega) (by first | (clear h6 hc9 hlo hh if_1 bhpσ_3 chpσ_3 ir_2 iz_5 if_6 hm38 hge38 hn38 kdσ_10 pt ps gc_12_x_9 c_12 pt2 ho hm48 hn48 kdσ_22 gc_25_x_21 gc_25_f_24 lu iz_26 iz_27 iz_28 if_29 fqf_30 iz_31 kdσ_32; omega) | omega) mcσ_32 (by first | (clear h6 hc9 hlo hh if_1 bhpσ_3 chpσ_3 ir_2 iz_5 if_6 hm38 hge38 hn38 kdσ_10 pt ps gc_12_x_9 c_12 pt2 ho hm48 hge48 hn48 kdσ_22 gc_25_x_21 gc_25_f_24 c_25 lu iz_26 iz_27 iz_28 kdσ_32; omega) | omega)
              obtain ⟨z_33, ez_33⟩ : ∃ y : Int32, y = x_9 + 1 := ⟨_, rfl⟩
              replace hF := q_letX hF ez_33
              refine lv_iinc (v := z_33) (lv' := [(5, .int z_33), (0, .ref a), (1, .int v1), (2, .ref r2), (3, .int r_2), (4, .int x_20), (6, .int x_21)]) hx hb dX12_laysDown_101 hl (k := 5) rfl (by rw [ez_33]; rfl) (by decide) rfl (fun ls hl => ?_)
              have iz_33 : z_33.toInt = x_9.toInt + 1 := q_inc ez_33 (by first | (clear h6 hc9 hlo hh if_1 bhpσ_3 chpσ_3 ir_2 iz_5 if_6 hm38 hn38 kdσ_10 pt ps gc_12_x_9 pt2 ho hm48 hge48 hn48 kdσ_22 fqf_24 gc_25_x_21 gc_25_f_24 c_25 lu iz_26 iz_27 if_29 fqf_30 iz_31 kdσ_32; omega) | omega)
              have pz := ps
              rw [← iz_33] at pz
              refine lv_goto (tgt := 38) hx hb dX12_laysDown_104 (by decide) ?_
              exact ih38 x_20 z_33 σ_32 _ _ ls (by first | (clear h6 hc9 hlo hh if_1 bhpσ_3 chpσ_3 ir_2 iz_5 if_6 hn38 kdσ_10 pt ps gc_12_x_9 pt2 hm48 hn48 kdσ_22 gc_25_f_24 iz_26 iz_27 kdσ_32 pz; omega) | omega) (by first | (clear h6 hc9 hlo hh if_1 bhpσ_3 chpσ_3 ir_2 iz_5 if_6 hm38 hn38 kdσ_10 pt ps gc_12_x_9 pt2 ho hm48 hge48 hn48 kdσ_22 fqf_24 gc_25_x_21 gc_25_f_24 c_25 lu iz_26 iz_27 if_29 fqf_30 iz_31 kdσ_32 pz; omega) | omega) (by first | (clear h6 hc9 hlo hh if_1 bhpσ_3 chpσ_3 ir_2 iz_5 if_6 hm38 hge38 hn38 kdσ_10 pt gc_12_x_9 c_12 pt2 ho hm48 kdσ_22 gc_25_x_21 gc_25_f_24 lu iz_26 iz_27 iz_28 if_29 fqf_30 iz_31 kdσ_32 iz_33; omega) | omega) (by rw [iz_33]; exact ldσ_32) fr_σ_32 kdσ_32 foσ_32 hF hI (lv_sub hl [1, 2, 3, 4, 5, 0] rfl)
            · skip
              replace hF := q_ifp hF c_25
              refine lv_aload_n hx hb dX12_laysDown_57 rfl (lv_at hl 0 rfl) ?_
              refine gs_X12_35_12 E hI ha dX12_laysDown_58 ?_
              refine lv_iload_n hx hb dX12_laysDown_61 rfl (lv_at hl 3 rfl) ?_
              refine lv_iconst (v := 3) hx hb dX12_laysDown_62 (by decide) ?_
              refine lv_iadd hx hb dX12_laysDown_63 ?_
              refine lv_topi (fun z_34 ez_34 => ?_)
              replace hF := q_letX hF ez_34
              have iz_34 := q_addI (A := (94 + 7 * (m_c X σ a 9))) (B := 3) ez_34 ir_2 (by decide) (by first | (clear h6 hlo hh bhpσ_3 chpσ_3 ir_2 iz_5 if_6 hm38 hge38 hn38 kdσ_10 pt ps gc_12_x_9 c_12 pt2 ho hm48 hge48 hn48 kdσ_22 fqf_24 gc_25_x_21 gc_25_f_24 c_25; omega) | omega) (by first | (clear h6 hlo hh bhpσ_3 chpσ_3 ir_2 iz_5 if_6 hm38 hge38 hn38 kdσ_10 pt ps gc_12_x_9 c_12 pt2 ho hm48 hge48 hn48 kdσ_22 fqf_24 gc_25_x_21 gc_25_f_24 c_25; omega) | omega)
              refine lv_iload hx hb dX12_laysDown_64 (lv_at hl 4 rfl) ?_
              refine lv_iadd hx hb dX12_laysDown_66 ?_
              refine lv_topi (fun z_35 ez_35 => ?_)
              replace hF := q_letX hF ez_35
              have iz_35 := q_addI (A := ((94 + 7 * (m_c X σ a 9)) + 3)) (B := x_20.toInt) ez_35 iz_34 rfl (by first | (clear h6 hh bhpσ_3 chpσ_3 ir_2 iz_5 if_6 hm38 hge38 hn38 kdσ_10 gc_12_x_9 c_12 pt2 ho hm48 kdσ_22 fqf_24 gc_25_f_24 c_25 iz_34; omega) | omega) (by first | (clear h6 hh bhpσ_3 chpσ_3 ir_2 iz_5 if_6 hm38 hge38 hn38 kdσ_10 pt gc_12_x_9 c_12 ho hm48 hge48 kdσ_22 gc_25_x_21 gc_25_f_24 iz_34; omega) | omega)
              refine lv_iload hx hb dX12_laysDown_67 (lv_at hl 5 rfl) ?_
              refine q_iastN E hI (q_tk (k' := 34) hI ha rfl (by decide)) ⟨by decide, rfl⟩ (by first | (clear h6 hh bhpσ_3 chpσ_3 ir_2 iz_5 if_6 hm38 hge38 hn38 kdσ_10 gc_12_x_9 c_12 pt2 ho hm48 kdσ_22 fqf_24 gc_25_f_24 c_25 iz_34; omega) | omega) (by rw [q_lnk (v := 4650) hI (q_tk (k' := 34) hI ha rfl (by decide)) rfl (by decide)]; omega) (show 1 < 2 by decide) (q_inU rfl) dX12_laysDown_69 (fun H locs σ_36 hσ_36 hI => ?_)
              replace hF := q_letX hF hσ_36
              have fr_σ_36 := fr_σ_22.si hσ_36 (q_tk (k' := 34) hI ha rfl (by decide)) rfl
              have mcσ_36 := m_wr (v := x_9) (A := (((94 + 7 * (m_c X σ a 9)) + 3) + x_20.toInt)) hσ_36 iz_35 (by first | (clear h6 hh bhpσ_3 chpσ_3 ir_2 iz_5 if_6 hm38 hge38 hn38 kdσ_10 gc_12_x_9 c_12 pt2 ho hm48 kdσ_22 fqf_24 gc_25_f_24 c_25 iz_34; omega) | omega)
              have kdσ_36 : m_KD 40 X σ σ_36 := kdσ_22.ar hσ_36 (q_tk (k' := 34) hI ha rfl (by decide)) (by decide) (by decide)
              have foσ_36 : ∀ j, σ_36.1 r2 j = σ.1 r2 j := fun j => (q_rdn hσ_36 (Or.inl (m_ne hr2 (q_tk (k' := 34) hI ha rfl (by decide)) (by decide)))).trans (foσ_22 j)
              have ldσ_36 := ldσ_22.card hL (by first | (clear h6 hc9 hlo hh if_1 bhpσ_3 chpσ_3 ir_2 iz_5 if_6 hm38 hn38 kdσ_10 pt ps gc_12_x_9 pt2 ho hm48 hge48 hn48 kdσ_22 fqf_24 gc_25_x_21 gc_25_f_24 c_25 iz_34 iz_35 kdσ_36; omega) | omega) (by first | (clear h6 hc9 hlo hh if_1 bhpσ_3 chpσ_3 ir_2 iz_5 if_6 hm38 hge38 hn38 kdσ_10 pt ps gc_12_x_9 c_12 pt2 ho hm48 hn48 kdσ_22 gc_25_f_24 iz_34 iz_35 kdσ_36; omega) | omega) mcσ_36 rfl hn48
              obtain ⟨z_37, ez_37⟩ : ∃ y : Int32, y = x_20 + 1 := ⟨_, rfl⟩
              replace hF := q_letX hF ez_37
              refine lv_iinc (v := z_37) (lv' := [(4, .int z_37), (0, .ref a), (1, .int v1), (2, .ref r2), (3, .int r_2), (5, .int x_9), (6, .int x_21)]) hx hb dX12_laysDown_70 hl (k := 4) rfl (by rw [ez_37]; rfl) (by decide) rfl (fun ls hl => ?_)
              have iz_37 : z_37.toInt = x_20.toInt + 1 := q_inc ez_37 (by first | (clear h6 hc9 hh bhpσ_3 chpσ_3 ir_2 iz_5 if_6 hm38 hge38 hn38 kdσ_10 pt gc_12_x_9 c_12 ho hm48 hge48 kdσ_22 gc_25_x_21 gc_25_f_24 iz_34 kdσ_36; omega) | omega)
              obtain ⟨z_38, ez_38⟩ : ∃ y : Int32, y = x_21 + 1 := ⟨_, rfl⟩
              replace hF := q_letX hF ez_38
              refine lv_iinc (v := z_38) (lv' := [(6, .int z_38), (4, .int z_37), (0, .ref a), (1, .int v1), (2, .ref r2), (3, .int r_2), (5, .int x_9)]) hx hb dX12_laysDown_73 hl (k := 6) rfl (by rw [ez_38]; rfl) (by decide) rfl (fun ls hl => ?_)
              have iz_38 : z_38.toInt = x_21.toInt + 1 := q_inc ez_38 (by first | (clear h6 hc9 hlo hh if_1 bhpσ_3 chpσ_3 ir_2 iz_5 if_6 hm38 hge38 hn38 kdσ_10 pt ps gc_12_x_9 c_12 pt2 hm48 hn48 kdσ_22 iz_34 iz_35 kdσ_36 iz_37; omega) | omega)
              refine lv_goto (tgt := 48) hx hb dX12_laysDown_76 (by decide) ?_
              exact ih48 z_37 z_38 σ_36 _ _ ls (by first | (clear h6 hc9 hh bhpσ_3 chpσ_3 ir_2 iz_5 if_6 hm38 hge38 hn38 kdσ_10 gc_12_x_9 c_12 ho kdσ_22 gc_25_f_24 iz_34 kdσ_36; omega) | omega) (by first | (clear h6 hc9 hlo hh if_1 bhpσ_3 chpσ_3 ir_2 iz_5 if_6 hm38 hge38 hn38 kdσ_10 pt ps gc_12_x_9 c_12 pt2 ho hm48 hn48 kdσ_22 gc_25_f_24 iz_34 iz_35 kdσ_36 iz_37; omega) | omega) (by first | (clear h6 hc9 hlo hh bhpσ_3 chpσ_3 ir_2 iz_5 if_6 hm38 hge38 hn38 kdσ_10 pt gc_12_x_9 c_12 pt2 ho hm48 hge48 kdσ_22 fqf_24 gc_25_x_21 gc_25_f_24 c_25 iz_34 kdσ_36; omega) | omega) (by rw [iz_38]; exact ldσ_36) fr_σ_36 kdσ_36 foσ_36 hF hI (lv_sub hl [2, 3, 4, 5, 1, 6, 0] rfl)
        have kc_39 : (0 : Int32).toInt = 0 := rfl
        exact L_48_23 ((2147483647 - (0 : Int32).toInt).toNat + 1) x_8 0 σ_10 _ _ ls (Nat.lt_succ_self _) (by have q : (0 : Int32).toInt = 0 := rfl; omega) (by have q : (0 : Int32).toInt = 0 := rfl; omega) ldσ_10 fr_σ_10 kdσ_10 foσ_10 hF hI (lv_sub hl [1, 2, 3, 4, 5, 6, 0] rfl)
  have kc_40 : (0 : Int32).toInt = 0 := rfl
  exact L_38_11 ((2147483647 - (0 : Int32).toInt).toNat + 1) 0 0 σ_7 _ _ ls (Nat.lt_succ_self _) (by decide) rfl ld0 fr_σ_7 kdσ_7 foσ_7 hF hI (lv_sub hl [3, 4, 5, 2, 1, 0] rfl)

set_option maxRecDepth 100000 in
set_option maxHeartbeats 4000000 in
theorem c_X12_bend (l : Launch) (X : XW) (σ : ST) (a : Nat) (v1 : Int32) (v2 : Int32) (v3 : Int32) (n : Int) (ha : q_kd X a = 12) (hG : m_G (m_c X σ a)) (hW : m_W (m_c X σ a) n) (hn : n ≤ 199000) : Met l yX12_bend (q_ws yX12_bend cX12_bend 4 (some .boolean)) (q_rm 2 46) (q_P X σ [.ref a, .int v1, .int v2, .int v3]) (q_Qi X 1 σ (fun (r : Int32) (σ' : ST) => (0 ≤ r.toInt ∧ r.toInt ≤ 1) ∧ (m_G (m_c X σ' a)) ∧ (m_W (m_c X σ' a) (n + 301)) ∧ (∀ j, 930 ≤ j → j < 3720 → m_c X σ' a j = m_c X σ a j) ∧ (r, σ') = F_X12_bend X σ a v1 v2 v3 ∧ q_ow [(12, 0), (12, 1), (34, 99)] [] X σ σ')) 0 0 (q_reg X) := by
  refine q_met 1 (by first | exact rfl | decide +kernel) rfl (Nat.le_of_ble_eq_true rfl) (fun p e s m below meth c E hml hr hlk hI ls hl => ?_)
  have hx := E.1
  have hb := E.2.1
  have hl : lv_has ls 4 [(0, .ref a), (1, .int v1), (2, .int v2), (3, .int v3)] := hl
  have gσ : m_G (m_c X σ a) := hG
  have wσ : m_W (m_c X σ a) n := hW
  have kqσ : ∀ j, 654 ≤ j → m_c X σ a j = m_c X σ a j := fun _ _ => rfl
  have fxσ : m_c X σ a = m_c X σ a := rfl
  have fr_σ : q_ow [(12, 0), (12, 1), (34, 99)] [] X σ σ := q_ow.rf
  have hh := hG.hd
  obtain ⟨out, hout⟩ : ∃ o, o = F_X12_bend X σ a v1 v2 v3 := ⟨_, rfl⟩
  have hF := hout.symm
  unfold F_X12_bend at hF
  refine lv_aload_n hx hb dX12_bend_0 rfl (lv_at hl 0 rfl) ?_
  refine lv_iconst (v := 0) hx hb dX12_bend_1 (by decide) ?_
  refine ps_X12_59_12 E hI ha (by decide) dX12_bend_2 (fun H locs σ_1 hσ_1 hI => ?_)
  replace hF := q_letX hF hσ_1
  have fr_σ_1 := fr_σ.si hσ_1 ha rfl
  have mcσ_1 := m_wo hσ_1 (m_ne ha (q_tk (f := 20) (k' := 34) hI ha rfl (by decide)) (by decide))
  have gσ_1 : m_G (m_c X σ_1 a) := m_G.ext (fun j _ _ => mcσ_1 j) gσ
  have wσ_1 : m_W (m_c X σ_1 a) n := m_W.ext (fun j _ _ => mcσ_1 j) wσ
  have kqσ_1 : ∀ j, 654 ≤ j → m_c X σ_1 a j = m_c X σ a j := fun j h => (mcσ_1 j).trans (kqσ j h)
  have fxσ_1 : m_c X σ_1 a = m_c X σ a := (funext mcσ_1).trans fxσ
  refine lv_aload_n hx hb dX12_bend_5 rfl (lv_at hl 0 rfl) ?_
  refine lv_iconst (v := 0) hx hb dX12_bend_6 (by decide) ?_
  refine ps_X12_62_12 E hI ha (by decide) dX12_bend_7 (fun H locs σ_2 hσ_2 hI => ?_)
  replace hF := q_letX hF hσ_2
  have fr_σ_2 := fr_σ_1.si hσ_2 ha rfl
  have mcσ_2 := m_wo hσ_2 (m_ne ha (q_tk (f := 20) (k' := 34) hI ha rfl (by decide)) (by decide))
  have gσ_2 : m_G (m_c X σ_2 a) := m_G.ext (fun j _ _ => mcσ_2 j) gσ_1
  have wσ_2 : m_W (m_c X σ_2 a) n := m_W.ext (fun j _ _ => mcσ_2 j) wσ_1
  have kqσ_2 : ∀ j, 654 ≤ j → m_c X σ_2 a j = m_c X σ a j := fun j h => (mcσ_2 j).trans (kqσ_1 j h)
  have fxσ_2 : m_c X σ_2 a = m_c X σ a := (funext mcσ_2).trans fxσ_1
  refine lv_aload_n hx hb dX12_bend_10 rfl (lv_at hl 0 rfl) ?_
  refine lv_iload_n hx hb dX12_bend_11 rfl (lv_at hl 1 rfl) ?_
  refine q_ci (q_runV (As := [.int v1]) (rest := []) E (hml.trans hl.1.symm) hI (c_X12_isPlayerAt l X σ_2 a v1 ha (by rw [fxσ_2]; exact hG)) kv_X12_290 ha ⟨rfl, by decide⟩ (show vwCl[11]? = some (RX12, TX12, 46) from rfl) rfl ⟨Nat.le_of_ble_eq_true rfl, Nat.le_of_ble_eq_true rfl⟩ ⟨Nat.le_refl _, Nat.le_refl _⟩ rfl (Nat.le_of_ble_eq_true rfl) dX12_bend_12) hI (by decide) (fun r_3 σ_4 H locs hpσ_4 hkσ_4 hI => ?_)
  obtain ⟨ahpσ_4, bhpσ_4, chpσ_4, dhpσ_4⟩ := hpσ_4
  rw [ahpσ_4] at hI
  rw [fxσ_2] at chpσ_4
  replace hF := q_letX hF dhpσ_4
  refine q_if_ne (A := r_3.toInt) E rfl (tgt := 24) dX12_bend_15 (by decide) (fun c_5 => ?_) (fun c_5 => ?_)
  · skip
    replace hF := q_ifn hF c_5
    replace c_5 := q_ifOne bhpσ_4 c_5
    replace chpσ_4 := q_ifYes chpσ_4 c_5
    refine lv_iload_n hx hb dX12_bend_24 rfl (lv_at hl 2 rfl) ?_
    refine lv_i2l hx hb dX12_bend_25 rfl ?_
    refine lv_topl (fun y_6 ey_6 => ?_)
    replace hF := q_letX hF ey_6
    have ggy_6 := q_rng v2
    have iy_6 : y_6.toInt = v2.toInt := by rw [ey_6]; exact (q_i2l _).trans rfl
    refine lv_lconst (v := 0) hx hb dX12_bend_26 (by decide) ?_
    refine lv_ldc2 (v := 16) hx hb E.2.2.1 (E.2.2.2.1 _ (q_in_t8 (i := 224) (by first | rfl | decide +kernel) rfl)) dX12_bend_27 ?_
    have kc_7 : (0 : Int64).toInt = 0 := rfl
    have kc_8 : (16 : Int64).toInt = 16 := rfl
    refine q_ci (q_runS (As := [.long y_6, .long 0, .long 16]) (rest := []) E (hml.trans hl.1.symm) hI (c_X12_isIn l X σ_2 y_6 (0 : Int64) (16 : Int64)) ks_X12_94 rfl ⟨Nat.le_of_ble_eq_true rfl, Nat.le_of_ble_eq_true rfl⟩ ⟨Nat.le_refl _, Nat.le_refl _⟩ rfl (Nat.le_of_ble_eq_true rfl) dX12_bend_30) hI (by decide) (fun r_9 σ_10 H locs hpσ_10 hkσ_10 hI => ?_)
    obtain ⟨ahpσ_10, bhpσ_10, chpσ_10, dhpσ_10⟩ := hpσ_10
    rw [ahpσ_10] at hI
    replace hF := q_letX hF dhpσ_10
    refine q_if_eq (A := r_9.toInt) E rfl (tgt := 48) dX12_bend_33 (by decide) (fun c_11 => ?_) (fun c_11 => ?_)
    · skip
      replace hF := q_ifp hF c_11
      replace chpσ_10 := q_ifNo chpσ_10 c_11
      refine lv_aload_n hx hb dX12_bend_48 rfl (lv_at hl 0 rfl) ?_
      refine lv_iconst (v := 5) hx hb dX12_bend_49 (by decide) ?_
      have kc_12 : (5 : Int32).toInt = 5 := rfl
      refine q_ci (q_runV (As := [.int 5]) (rest := []) E (hml.trans hl.1.symm) hI (c_X12_no l X σ_2 a (5 : Int32) ha) kv_X12_74 ha ⟨rfl, by decide⟩ (show vwCl[11]? = some (RX12, TX12, 46) from rfl) rfl ⟨Nat.le_of_ble_eq_true rfl, Nat.le_of_ble_eq_true rfl⟩ ⟨Nat.le_refl _, Nat.le_refl _⟩ rfl (Nat.le_of_ble_eq_true rfl) dX12_bend_50) hI (by decide) (fun r_13 σ_14 H locs hpσ_14 hkσ_14 hI => ?_)
      obtain ⟨ahpσ_14, bhpσ_14, chpσ_14, dhpσ_14⟩ := hpσ_14
      have fr_σ_14 := fr_σ_2.call dhpσ_14 rfl rfl
      replace hF := q_biX hF chpσ_14
      have mcσ_14 := m_cK hkσ_14 hI.1 ha (by decide)
      have gσ_14 : m_G (m_c X σ_14 a) := m_G.ext (fun j _ _ => mcσ_14 j) gσ_2
      have wσ_14 : m_W (m_c X σ_14 a) n := m_W.ext (fun j _ _ => mcσ_14 j) wσ_2
      have kqσ_14 : ∀ j, 654 ≤ j → m_c X σ_14 a j = m_c X σ a j := fun j h => (mcσ_14 j).trans (kqσ_2 j h)
      have fxσ_14 : m_c X σ_14 a = m_c X σ a := (funext mcσ_14).trans fxσ_2
      exact q_retz E hr hlk hI ⟨by omega, by omega⟩ ⟨⟨by omega, by omega⟩, gσ_14, (by first | exact m_W.le vσ_14 (by omega) | exact m_W.le wσ_14 (by first | (clear hn gσ wσ hh gσ_1 wσ_1 gσ_2 wσ_2 ahpσ_4 bhpσ_4 dhpσ_4 c_5 chpσ_4 ggy_6 iy_6 kc_7 kc_8 ahpσ_10 bhpσ_10 dhpσ_10 c_11 chpσ_10 kc_12 ahpσ_14 bhpσ_14 chpσ_14 dhpσ_14 gσ_14 wσ_14; omega) | omega)), (fun j h0 h1 => kqσ_14 j (by first | (clear hn gσ wσ hh gσ_1 wσ_1 gσ_2 wσ_2 ahpσ_4 bhpσ_4 dhpσ_4 c_5 chpσ_4 ggy_6 iy_6 kc_7 kc_8 ahpσ_10 bhpσ_10 dhpσ_10 c_11 chpσ_10 kc_12 ahpσ_14 bhpσ_14 chpσ_14 dhpσ_14 gσ_14 wσ_14; omega) | omega)), (hF.trans hout), fr_σ_14⟩ dX12_bend_53
    · skip
      replace hF := q_ifn hF c_11
      replace c_11 := q_ifOne bhpσ_10 c_11
      replace chpσ_10 := q_ifYes chpσ_10 c_11
      refine lv_iload_n hx hb dX12_bend_36 rfl (lv_at hl 3 rfl) ?_
      refine lv_i2l hx hb dX12_bend_37 rfl ?_
      refine lv_topl (fun y_15 ey_15 => ?_)
      replace hF := q_letX hF ey_15
      have ggy_15 := q_rng v3
      have iy_15 : y_15.toInt = v3.toInt := by rw [ey_15]; exact (q_i2l _).trans rfl
      refine lv_lconst (v := 0) hx hb dX12_bend_38 (by decide) ?_
      refine lv_ldc2 (v := 16) hx hb E.2.2.1 (E.2.2.2.1 _ (q_in_t8 (i := 224) (by first | rfl | decide +kernel) rfl)) dX12_bend_39 ?_
      have kc_16 : (0 : Int64).toInt = 0 := rfl
      have kc_17 : (16 : Int64).toInt = 16 := rfl
      refine q_ci (q_runS (As := [.long y_15, .long 0, .long 16]) (rest := []) E (hml.trans hl.1.symm) hI (c_X12_isIn l X σ_2 y_15 (0 : Int64) (16 : Int64)) ks_X12_94 rfl ⟨Nat.le_of_ble_eq_true rfl, Nat.le_of_ble_eq_true rfl⟩ ⟨Nat.le_refl _, Nat.le_refl _⟩ rfl (Nat.le_of_ble_eq_true rfl) dX12_bend_42) hI (by decide) (fun r_18 σ_19 H locs hpσ_19 hkσ_19 hI => ?_)
      obtain ⟨ahpσ_19, bhpσ_19, chpσ_19, dhpσ_19⟩ := hpσ_19
      rw [ahpσ_19] at hI
      replace hF := q_letX hF dhpσ_19
      refine q_if_ne (A := r_18.toInt) E rfl (tgt := 54) dX12_bend_45 (by decide) (fun c_20 => ?_) (fun c_20 => ?_)
      · skip
        replace hF := q_ifn hF c_20
        replace c_20 := q_ifOne bhpσ_19 c_20
        replace chpσ_19 := q_ifYes chpσ_19 c_20
        refine lv_aload_n hx hb dX12_bend_54 rfl (lv_at hl 0 rfl) ?_
        refine gs_X12_35_12 E hI ha dX12_bend_55 ?_
        refine lv_bipush (v := 10) hx hb dX12_bend_58 (by decide) ?_
        refine lv_iload_n hx hb dX12_bend_60 rfl (lv_at hl 1 rfl) ?_
        refine lv_iadd hx hb dX12_bend_61 ?_
        refine lv_topi (fun z_21 ez_21 => ?_)
        replace hF := q_letX hF ez_21
        have iz_21 := q_addI (A := 10) (B := v1.toInt) ez_21 (by decide) rfl (by first | (clear hn gσ wσ hh gσ_1 wσ_1 gσ_2 wσ_2 ahpσ_4 bhpσ_4 dhpσ_4 c_5 ggy_6 iy_6 kc_7 kc_8 ahpσ_10 bhpσ_10 dhpσ_10 c_11 chpσ_10 ggy_15 iy_15 kc_16 kc_17 ahpσ_19 bhpσ_19 dhpσ_19 c_20 chpσ_19; omega) | omega) (by first | (clear hn gσ wσ gσ_1 wσ_1 gσ_2 wσ_2 ahpσ_4 bhpσ_4 dhpσ_4 c_5 ggy_6 iy_6 kc_7 kc_8 ahpσ_10 bhpσ_10 dhpσ_10 c_11 chpσ_10 ggy_15 iy_15 kc_16 kc_17 ahpσ_19 bhpσ_19 dhpσ_19 c_20 chpσ_19; omega) | omega)
        refine lv_iload_n hx hb dX12_bend_62 rfl (lv_at hl 2 rfl) ?_
        refine q_iastN E hI (q_tk (k' := 34) hI ha rfl (by decide)) ⟨by decide, rfl⟩ (by first | (clear hn gσ wσ hh gσ_1 wσ_1 gσ_2 wσ_2 ahpσ_4 bhpσ_4 dhpσ_4 c_5 ggy_6 iy_6 kc_7 kc_8 ahpσ_10 bhpσ_10 dhpσ_10 c_11 chpσ_10 ggy_15 iy_15 kc_16 kc_17 ahpσ_19 bhpσ_19 dhpσ_19 c_20 chpσ_19; omega) | omega) (by rw [q_lnk (v := 4650) hI (q_tk (k' := 34) hI ha rfl (by decide)) rfl (by decide)]; omega) (show 1 < 2 by decide) (q_inU rfl) dX12_bend_63 (fun H locs σ_22 hσ_22 hI => ?_)
        replace hF := q_letX hF hσ_22
        have fr_σ_22 := fr_σ_2.si hσ_22 (q_tk (k' := 34) hI ha rfl (by decide)) rfl
        have mcσ_22 := m_wr (v := v2) (A := (10 + v1.toInt)) hσ_22 iz_21 (by first | (clear hn gσ wσ hh gσ_1 wσ_1 gσ_2 wσ_2 ahpσ_4 bhpσ_4 dhpσ_4 c_5 ggy_6 iy_6 kc_7 kc_8 ahpσ_10 bhpσ_10 dhpσ_10 c_11 chpσ_10 ggy_15 iy_15 kc_16 kc_17 ahpσ_19 bhpσ_19 dhpσ_19 c_20 chpσ_19; omega) | omega)
        have gσ_22 : m_G (m_c X σ_22 a) := m_G.wr gσ_2 mcσ_22 (by first | (clear hn gσ wσ gσ_1 wσ_1 gσ_2 wσ_2 ahpσ_4 bhpσ_4 dhpσ_4 c_5 kc_8 ahpσ_10 bhpσ_10 dhpσ_10 c_11 ggy_15 iy_15 kc_16 kc_17 ahpσ_19 bhpσ_19 dhpσ_19 c_20 chpσ_19; omega) | omega)
        have wσ_22 : m_W (m_c X σ_22 a) n := m_W.wr wσ_2 mcσ_22 (by first | (clear hn gσ wσ gσ_1 wσ_1 gσ_2 wσ_2 ahpσ_4 bhpσ_4 dhpσ_4 c_5 ggy_6 iy_6 kc_7 kc_8 ahpσ_10 bhpσ_10 dhpσ_10 c_11 chpσ_10 ggy_15 iy_15 kc_16 kc_17 ahpσ_19 bhpσ_19 dhpσ_19 c_20 chpσ_19 gσ_22; omega) | omega)
        have kqσ_22 : ∀ j, 654 ≤ j → m_c X σ_22 a j = m_c X σ a j := fun j h => by rw [mcσ_22 j (by first | (clear hn gσ wσ hh gσ_1 wσ_1 gσ_2 wσ_2 ahpσ_4 bhpσ_4 dhpσ_4 c_5 chpσ_4 ggy_6 iy_6 kc_7 kc_8 ahpσ_10 bhpσ_10 dhpσ_10 c_11 chpσ_10 ggy_15 iy_15 kc_16 kc_17 ahpσ_19 bhpσ_19 dhpσ_19 c_20 chpσ_19 iz_21 gσ_22 wσ_22; omega) | omega), if_neg (by first | (clear hn gσ wσ gσ_1 wσ_1 gσ_2 wσ_2 ahpσ_4 bhpσ_4 dhpσ_4 c_5 ggy_6 iy_6 kc_7 kc_8 ahpσ_10 bhpσ_10 dhpσ_10 c_11 chpσ_10 ggy_15 iy_15 kc_16 kc_17 ahpσ_19 bhpσ_19 dhpσ_19 c_20 chpσ_19 gσ_22 wσ_22; omega) | omega)] <;> exact kqσ_2 j h
        refine lv_aload_n hx hb dX12_bend_64 rfl (lv_at hl 0 rfl) ?_
        refine gs_X12_35_12 E hI ha dX12_bend_65 ?_
        refine lv_bipush (v := 16) hx hb dX12_bend_68 (by decide) ?_
        refine lv_iload_n hx hb dX12_bend_70 rfl (lv_at hl 1 rfl) ?_
        refine lv_iadd hx hb dX12_bend_71 ?_
        refine lv_topi (fun z_23 ez_23 => ?_)
        replace hF := q_letX hF ez_23
        have iz_23 := q_addI (A := 16) (B := v1.toInt) ez_23 (by decide) rfl (by first | (clear hn gσ wσ hh gσ_1 wσ_1 gσ_2 wσ_2 ahpσ_4 bhpσ_4 dhpσ_4 c_5 ggy_6 iy_6 kc_7 kc_8 ahpσ_10 bhpσ_10 dhpσ_10 c_11 chpσ_10 ggy_15 iy_15 kc_16 kc_17 ahpσ_19 bhpσ_19 dhpσ_19 c_20 chpσ_19 gσ_22 wσ_22; omega) | omega) (by first | (clear hn gσ wσ gσ_1 wσ_1 gσ_2 wσ_2 ahpσ_4 bhpσ_4 dhpσ_4 c_5 ggy_6 iy_6 kc_7 kc_8 ahpσ_10 bhpσ_10 dhpσ_10 c_11 chpσ_10 ggy_15 iy_15 kc_16 kc_17 ahpσ_19 bhpσ_19 dhpσ_19 c_20 chpσ_19 gσ_22 wσ_22; omega) | omega)
        refine lv_iload_n hx hb dX12_bend_72 rfl (lv_at hl 3 rfl) ?_
        refine q_iastN E hI (q_tk (k' := 34) hI ha rfl (by decide)) ⟨by decide, rfl⟩ (by first | (clear hn gσ wσ hh gσ_1 wσ_1 gσ_2 wσ_2 ahpσ_4 bhpσ_4 dhpσ_4 c_5 ggy_6 iy_6 kc_7 kc_8 ahpσ_10 bhpσ_10 dhpσ_10 c_11 chpσ_10 ggy_15 iy_15 kc_16 kc_17 ahpσ_19 bhpσ_19 dhpσ_19 c_20 chpσ_19 gσ_22 wσ_22; omega) | omega) (by rw [q_lnk (v := 4650) hI (q_tk (k' := 34) hI ha rfl (by decide)) rfl (by decide)]; omega) (show 1 < 2 by decide) (q_inU rfl) dX12_bend_73 (fun H locs σ_24 hσ_24 hI => ?_)
        replace hF := q_letX hF hσ_24
        have fr_σ_24 := fr_σ_22.si hσ_24 (q_tk (k' := 34) hI ha rfl (by decide)) rfl
        have mcσ_24 := m_wr (v := v3) (A := (16 + v1.toInt)) hσ_24 iz_23 (by first | (clear hn gσ wσ hh gσ_1 wσ_1 gσ_2 wσ_2 ahpσ_4 bhpσ_4 dhpσ_4 c_5 ggy_6 iy_6 kc_7 kc_8 ahpσ_10 bhpσ_10 dhpσ_10 c_11 chpσ_10 ggy_15 iy_15 kc_16 kc_17 ahpσ_19 bhpσ_19 dhpσ_19 c_20 chpσ_19 gσ_22 wσ_22; omega) | omega)
        have gσ_24 : m_G (m_c X σ_24 a) := m_G.wr gσ_22 mcσ_24 (by first | (clear hn gσ wσ gσ_1 wσ_1 gσ_2 wσ_2 ahpσ_4 bhpσ_4 dhpσ_4 c_5 ggy_6 iy_6 ahpσ_10 bhpσ_10 dhpσ_10 c_11 chpσ_10 kc_16 kc_17 ahpσ_19 bhpσ_19 dhpσ_19 c_20 gσ_22 wσ_22; omega) | omega)
        have wσ_24 : m_W (m_c X σ_24 a) n := m_W.wr wσ_22 mcσ_24 (by first | (clear hn gσ wσ gσ_1 wσ_1 gσ_2 wσ_2 ahpσ_4 bhpσ_4 dhpσ_4 c_5 ggy_6 iy_6 kc_7 kc_8 ahpσ_10 bhpσ_10 dhpσ_10 c_11 chpσ_10 ggy_15 iy_15 kc_16 kc_17 ahpσ_19 bhpσ_19 dhpσ_19 c_20 chpσ_19 gσ_22 wσ_22 gσ_24; omega) | omega)
        have kqσ_24 : ∀ j, 654 ≤ j → m_c X σ_24 a j = m_c X σ a j := fun j h => by rw [mcσ_24 j (by first | (clear hn gσ wσ hh gσ_1 wσ_1 gσ_2 wσ_2 ahpσ_4 bhpσ_4 dhpσ_4 c_5 chpσ_4 ggy_6 iy_6 kc_7 kc_8 ahpσ_10 bhpσ_10 dhpσ_10 c_11 chpσ_10 ggy_15 iy_15 kc_16 kc_17 ahpσ_19 bhpσ_19 dhpσ_19 c_20 chpσ_19 iz_21 gσ_22 wσ_22 iz_23 gσ_24 wσ_24; omega) | omega), if_neg (by first | (clear hn gσ wσ gσ_1 wσ_1 gσ_2 wσ_2 ahpσ_4 bhpσ_4 dhpσ_4 c_5 ggy_6 iy_6 kc_7 kc_8 ahpσ_10 bhpσ_10 dhpσ_10 c_11 chpσ_10 ggy_15 iy_15 kc_16 kc_17 ahpσ_19 bhpσ_19 dhpσ_19 c_20 chpσ_19 gσ_22 wσ_22 gσ_24 wσ_24; omega) | omega)] <;> exact kqσ_22 j h
        refine lv_iconst (v := 1) hx hb dX12_bend_74 (by decide) ?_
        have hrv : (1 : Int32).toInt = 1 := rfl
        exact q_retz E hr hlk hI ⟨by decide, by decide⟩ ⟨⟨by decide, by decide⟩, gσ_24, (by first | exact m_W.le vσ_24 (by omega) | exact m_W.le wσ_24 (by first | (clear hn gσ wσ hh gσ_1 wσ_1 gσ_2 wσ_2 ahpσ_4 bhpσ_4 dhpσ_4 c_5 chpσ_4 ggy_6 iy_6 kc_7 kc_8 ahpσ_10 bhpσ_10 dhpσ_10 c_11 chpσ_10 ggy_15 iy_15 kc_16 kc_17 ahpσ_19 bhpσ_19 dhpσ_19 c_20 chpσ_19 iz_21 gσ_22 wσ_22 iz_23 gσ_24 wσ_24 hrv; omega) | omega)), (fun j h0 h1 => kqσ_24 j (by first | (clear hn gσ wσ hh gσ_1 wσ_1 gσ_2 wσ_2 ahpσ_4 bhpσ_4 dhpσ_4 c_5 chpσ_4 ggy_6 iy_6 kc_7 kc_8 ahpσ_10 bhpσ_10 dhpσ_10 c_11 chpσ_10 ggy_15 iy_15 kc_16 kc_17 ahpσ_19 bhpσ_19 dhpσ_19 c_20 chpσ_19 iz_21 gσ_22 wσ_22 iz_23 gσ_24 wσ_24 hrv; omega) | omega)), (hF.trans hout), fr_σ_24⟩ dX12_bend_75
      · skip
        replace hF := q_ifp hF c_20
        replace chpσ_19 := q_ifNo chpσ_19 c_20
        refine lv_aload_n hx hb dX12_bend_48 rfl (lv_at hl 0 rfl) ?_
        refine lv_iconst (v := 5) hx hb dX12_bend_49 (by decide) ?_
        have kc_25 : (5 : Int32).toInt = 5 := rfl
        refine q_ci (q_runV (As := [.int 5]) (rest := []) E (hml.trans hl.1.symm) hI (c_X12_no l X σ_2 a (5 : Int32) ha) kv_X12_74 ha ⟨rfl, by decide⟩ (show vwCl[11]? = some (RX12, TX12, 46) from rfl) rfl ⟨Nat.le_of_ble_eq_true rfl, Nat.le_of_ble_eq_true rfl⟩ ⟨Nat.le_refl _, Nat.le_refl _⟩ rfl (Nat.le_of_ble_eq_true rfl) dX12_bend_50) hI (by decide) (fun r_26 σ_27 H locs hpσ_27 hkσ_27 hI => ?_)
        obtain ⟨ahpσ_27, bhpσ_27, chpσ_27, dhpσ_27⟩ := hpσ_27
        have fr_σ_27 := fr_σ_2.call dhpσ_27 rfl rfl
        replace hF := q_biX hF chpσ_27
        have mcσ_27 := m_cK hkσ_27 hI.1 ha (by decide)
        have gσ_27 : m_G (m_c X σ_27 a) := m_G.ext (fun j _ _ => mcσ_27 j) gσ_2
        have wσ_27 : m_W (m_c X σ_27 a) n := m_W.ext (fun j _ _ => mcσ_27 j) wσ_2
        have kqσ_27 : ∀ j, 654 ≤ j → m_c X σ_27 a j = m_c X σ a j := fun j h => (mcσ_27 j).trans (kqσ_2 j h)
        have fxσ_27 : m_c X σ_27 a = m_c X σ a := (funext mcσ_27).trans fxσ_2
        exact q_retz E hr hlk hI ⟨by omega, by omega⟩ ⟨⟨by omega, by omega⟩, gσ_27, (by first | exact m_W.le vσ_27 (by omega) | exact m_W.le wσ_27 (by first | (clear hn gσ wσ hh gσ_1 wσ_1 gσ_2 wσ_2 ahpσ_4 bhpσ_4 dhpσ_4 c_5 chpσ_4 ggy_6 iy_6 kc_7 kc_8 ahpσ_10 bhpσ_10 dhpσ_10 c_11 chpσ_10 ggy_15 iy_15 kc_16 kc_17 ahpσ_19 bhpσ_19 dhpσ_19 c_20 chpσ_19 kc_25 ahpσ_27 bhpσ_27 chpσ_27 dhpσ_27 gσ_27 wσ_27; omega) | omega)), (fun j h0 h1 => kqσ_27 j (by first | (clear hn gσ wσ hh gσ_1 wσ_1 gσ_2 wσ_2 ahpσ_4 bhpσ_4 dhpσ_4 c_5 chpσ_4 ggy_6 iy_6 kc_7 kc_8 ahpσ_10 bhpσ_10 dhpσ_10 c_11 chpσ_10 ggy_15 iy_15 kc_16 kc_17 ahpσ_19 bhpσ_19 dhpσ_19 c_20 chpσ_19 kc_25 ahpσ_27 bhpσ_27 chpσ_27 dhpσ_27 gσ_27 wσ_27; omega) | omega)), (hF.trans hout), fr_σ_27⟩ dX12_bend_53
  · skip
    replace hF := q_ifp hF c_5
    replace chpσ_4 := q_ifNo chpσ_4 c_5
    refine lv_aload_n hx hb dX12_bend_18 rfl (lv_at hl 0 rfl) ?_
    refine lv_iconst (v := 2) hx hb dX12_bend_19 (by decide) ?_
    have kc_28 : (2 : Int32).toInt = 2 := rfl
    refine q_ci (q_runV (As := [.int 2]) (rest := []) E (hml.trans hl.1.symm) hI (c_X12_no l X σ_2 a (2 : Int32) ha) kv_X12_74 ha ⟨rfl, by decide⟩ (show vwCl[11]? = some (RX12, TX12, 46) from rfl) rfl ⟨Nat.le_of_ble_eq_true rfl, Nat.le_of_ble_eq_true rfl⟩ ⟨Nat.le_refl _, Nat.le_refl _⟩ rfl (Nat.le_of_ble_eq_true rfl) dX12_bend_20) hI (by decide) (fun r_29 σ_30 H locs hpσ_30 hkσ_30 hI => ?_)
    obtain ⟨ahpσ_30, bhpσ_30, chpσ_30, dhpσ_30⟩ := hpσ_30
    have fr_σ_30 := fr_σ_2.call dhpσ_30 rfl rfl
    replace hF := q_biX hF chpσ_30
    have mcσ_30 := m_cK hkσ_30 hI.1 ha (by decide)
    have gσ_30 : m_G (m_c X σ_30 a) := m_G.ext (fun j _ _ => mcσ_30 j) gσ_2
    have wσ_30 : m_W (m_c X σ_30 a) n := m_W.ext (fun j _ _ => mcσ_30 j) wσ_2
    have kqσ_30 : ∀ j, 654 ≤ j → m_c X σ_30 a j = m_c X σ a j := fun j h => (mcσ_30 j).trans (kqσ_2 j h)
    have fxσ_30 : m_c X σ_30 a = m_c X σ a := (funext mcσ_30).trans fxσ_2
    exact q_retz E hr hlk hI ⟨by omega, by omega⟩ ⟨⟨by omega, by omega⟩, gσ_30, (by first | exact m_W.le vσ_30 (by omega) | exact m_W.le wσ_30 (by first | (clear hn gσ wσ hh gσ_1 wσ_1 gσ_2 wσ_2 ahpσ_4 bhpσ_4 dhpσ_4 c_5 chpσ_4 kc_28 ahpσ_30 bhpσ_30 chpσ_30 dhpσ_30 gσ_30 wσ_30; omega) | omega)), (fun j h0 h1 => kqσ_30 j (by first | (clear hn gσ wσ hh gσ_1 wσ_1 gσ_2 wσ_2 ahpσ_4 bhpσ_4 dhpσ_4 c_5 chpσ_4 kc_28 ahpσ_30 bhpσ_30 chpσ_30 dhpσ_30 gσ_30 wσ_30; omega) | omega)), (hF.trans hout), fr_σ_30⟩ dX12_bend_23

set_option maxRecDepth 100000 in
set_option maxHeartbeats 4000000 in
theorem c_X12_leave (l : Launch) (X : XW) (σ : ST) (a : Nat) (n : Int) (ha : q_kd X a = 12) (hG : m_G (m_c X σ a)) (hW : m_W (m_c X σ a) n) (hn : n ≤ 199000) : Met l yX12_leave (q_ws yX12_leave cX12_leave 1 (some .int)) (q_rm 3 66) (q_P X σ [.ref a]) (q_Qi X 1 σ (fun (r : Int32) (σ' : ST) => (m_G (m_c X σ' a)) ∧ (m_W (m_c X σ' a) (n + 301)) ∧ (∀ j, 930 ≤ j → j < 3720 → m_c X σ' a j = m_c X σ a j) ∧ (r, σ') = F_X12_leave X σ a ∧ q_ow [(12, 0), (12, 1), (34, 99)] [] X σ σ')) 0 0 (q_reg X) := by
  refine q_met 1 (by first | exact rfl | decide +kernel) rfl (Nat.le_of_ble_eq_true rfl) (fun p e s m below meth c E hml hr hlk hI ls hl => ?_)
  have hx := E.1
  have hb := E.2.1
  have hl : lv_has ls 1 [(0, .ref a)] := hl
  have gσ : m_G (m_c X σ a) := hG
  have wσ : m_W (m_c X σ a) n := hW
  have kqσ : ∀ j, 654 ≤ j → m_c X σ a j = m_c X σ a j := fun _ _ => rfl
  have fxσ : m_c X σ a = m_c X σ a := rfl
  have fr_σ : q_ow [(12, 0), (12, 1), (34, 99)] [] X σ σ := q_ow.rf
  have hh := hG.hd
  obtain ⟨out, hout⟩ : ∃ o, o = F_X12_leave X σ a := ⟨_, rfl⟩
  have hF := hout.symm
  unfold F_X12_leave at hF
  refine lv_aload_n hx hb dX12_leave_0 rfl (lv_at hl 0 rfl) ?_
  refine lv_iconst (v := 0) hx hb dX12_leave_1 (by decide) ?_
  refine ps_X12_59_12 E hI ha (by decide) dX12_leave_2 (fun H locs σ_1 hσ_1 hI => ?_)
  replace hF := q_letX hF hσ_1
  have fr_σ_1 := fr_σ.si hσ_1 ha rfl
  have mcσ_1 := m_wo hσ_1 (m_ne ha (q_tk (f := 20) (k' := 34) hI ha rfl (by decide)) (by decide))
  have gσ_1 : m_G (m_c X σ_1 a) := m_G.ext (fun j _ _ => mcσ_1 j) gσ
  have wσ_1 : m_W (m_c X σ_1 a) n := m_W.ext (fun j _ _ => mcσ_1 j) wσ
  have kqσ_1 : ∀ j, 654 ≤ j → m_c X σ_1 a j = m_c X σ a j := fun j h => (mcσ_1 j).trans (kqσ j h)
  have fxσ_1 : m_c X σ_1 a = m_c X σ a := (funext mcσ_1).trans fxσ
  refine lv_aload_n hx hb dX12_leave_5 rfl (lv_at hl 0 rfl) ?_
  refine lv_iconst (v := 0) hx hb dX12_leave_6 (by decide) ?_
  refine ps_X12_62_12 E hI ha (by decide) dX12_leave_7 (fun H locs σ_2 hσ_2 hI => ?_)
  replace hF := q_letX hF hσ_2
  have fr_σ_2 := fr_σ_1.si hσ_2 ha rfl
  have mcσ_2 := m_wo hσ_2 (m_ne ha (q_tk (f := 20) (k' := 34) hI ha rfl (by decide)) (by decide))
  have gσ_2 : m_G (m_c X σ_2 a) := m_G.ext (fun j _ _ => mcσ_2 j) gσ_1
  have wσ_2 : m_W (m_c X σ_2 a) n := m_W.ext (fun j _ _ => mcσ_2 j) wσ_1
  have kqσ_2 : ∀ j, 654 ≤ j → m_c X σ_2 a j = m_c X σ a j := fun j h => (mcσ_2 j).trans (kqσ_1 j h)
  have fxσ_2 : m_c X σ_2 a = m_c X σ a := (funext mcσ_2).trans fxσ_1
  refine lv_aload_n hx hb dX12_leave_10 rfl (lv_at hl 0 rfl) ?_
  refine gs_X12_35_12 E hI ha dX12_leave_11 ?_
  refine lv_bipush (v := 7) hx hb dX12_leave_14 (by decide) ?_
  refine q_iald E hI (q_tk (k' := 34) hI ha rfl (by decide)) ⟨by decide, rfl⟩ (by decide) (by rw [q_lnk (v := 4650) hI (q_tk (k' := 34) hI ha rfl (by decide)) rfl (by decide)]; decide) dX12_leave_16 ?_
  refine lv_topi (fun f_3 ef_3 => ?_)
  replace hF := q_letX hF ef_3
  have if_3 : f_3.toInt = m_c X σ a 7 := (m_rd ef_3 (by decide)).trans (congrFun fxσ_2 _)
  refine q_if_ne (A := f_3.toInt) E rfl (tgt := 27) dX12_leave_17 (by decide) (fun c_4 => ?_) (fun c_4 => ?_)
  · skip
    replace hF := q_ifn hF c_4
    refine lv_aload_n hx hb dX12_leave_27 rfl (lv_at hl 0 rfl) ?_
    refine q_cv (q_runV (As := []) (rest := []) E (hml.trans hl.1.symm) hI (c_X12_leaves l X σ_2 a n ha gσ_2 wσ_2 (by rw [fxσ_2]; omega)) kv_X12_322 ha ⟨rfl, by decide⟩ (show vwCl[11]? = some (RX12, TX12, 46) from rfl) rfl ⟨Nat.le_of_ble_eq_true rfl, Nat.le_of_ble_eq_true rfl⟩ ⟨Nat.le_refl _, Nat.le_refl _⟩ rfl (Nat.le_of_ble_eq_true rfl) dX12_leave_28) hI (by decide) (fun σ_6 H locs hpσ_6 hkσ_6 hI => ?_)
    obtain ⟨ahpσ_6, bhpσ_6, chpσ_6, dhpσ_6, ehpσ_6, fhpσ_6, ghpσ_6, hhpσ_6⟩ := hpσ_6
    have fr_σ_6 := fr_σ_2.call hhpσ_6 rfl rfl
    replace hF := q_letX hF ghpσ_6
    have gσ_6 : m_G (m_c X σ_6 a) := ahpσ_6
    have wσ_6 : m_W (m_c X σ_6 a) n := bhpσ_6
    have kqσ_6 : ∀ j, 654 ≤ j → m_c X σ_6 a j = m_c X σ a j := (fun j h => (chpσ_6 j h).trans (kqσ_2 j h))
    refine lv_aload_n hx hb dX12_leave_31 rfl (lv_at hl 0 rfl) ?_
    refine gs_X12_35_12 E hI ha dX12_leave_32 ?_
    refine lv_bipush (v := 6) hx hb dX12_leave_35 (by decide) ?_
    refine q_iald E hI (q_tk (k' := 34) hI ha rfl (by decide)) ⟨by decide, rfl⟩ (by decide) (by rw [q_lnk (v := 4650) hI (q_tk (k' := 34) hI ha rfl (by decide)) rfl (by decide)]; decide) dX12_leave_37 ?_
    refine lv_topi (fun f_7 ef_7 => ?_)
    replace hF := q_letX hF ef_7
    have if_7 : f_7.toInt = m_c X σ_6 a 6 := m_rd ef_7 (by decide)
    exact q_reti E hr hlk hI ⟨gσ_6, (by first | exact m_W.le vσ_6 (by omega) | exact m_W.le wσ_6 (by first | (clear hn gσ wσ hh gσ_1 wσ_1 gσ_2 wσ_2 if_3 c_4 ahpσ_6 bhpσ_6 chpσ_6 dhpσ_6 ehpσ_6 fhpσ_6 gσ_6 wσ_6 if_7; omega) | omega)), (fun j h0 h1 => kqσ_6 j (by first | (clear hn gσ wσ hh gσ_1 wσ_1 gσ_2 wσ_2 if_3 c_4 ahpσ_6 bhpσ_6 chpσ_6 dhpσ_6 ehpσ_6 fhpσ_6 gσ_6 wσ_6 if_7; omega) | omega)), (hF.trans hout), fr_σ_6⟩ dX12_leave_38
  · skip
    replace hF := q_ifp hF c_4
    refine lv_aload_n hx hb dX12_leave_20 rfl (lv_at hl 0 rfl) ?_
    refine lv_bipush (v := 8) hx hb dX12_leave_21 (by decide) ?_
    have kc_8 : (8 : Int32).toInt = 8 := rfl
    refine q_ci (q_runV (As := [.int 8]) (rest := []) E (hml.trans hl.1.symm) hI (c_X12_refuse l X σ_2 a (8 : Int32) ha) kv_X12_284 ha ⟨rfl, by decide⟩ (show vwCl[11]? = some (RX12, TX12, 46) from rfl) rfl ⟨Nat.le_of_ble_eq_true rfl, Nat.le_of_ble_eq_true rfl⟩ ⟨Nat.le_refl _, Nat.le_refl _⟩ rfl (Nat.le_of_ble_eq_true rfl) dX12_leave_23) hI (by decide) (fun r_9 σ_10 H locs hpσ_10 hkσ_10 hI => ?_)
    obtain ⟨ahpσ_10, bhpσ_10, chpσ_10⟩ := hpσ_10
    have fr_σ_10 := fr_σ_2.call chpσ_10 rfl rfl
    replace hF := q_biX hF bhpσ_10
    have mcσ_10 := m_cK hkσ_10 hI.1 ha (by decide)
    have gσ_10 : m_G (m_c X σ_10 a) := m_G.ext (fun j _ _ => mcσ_10 j) gσ_2
    have wσ_10 : m_W (m_c X σ_10 a) n := m_W.ext (fun j _ _ => mcσ_10 j) wσ_2
    have kqσ_10 : ∀ j, 654 ≤ j → m_c X σ_10 a j = m_c X σ a j := fun j h => (mcσ_10 j).trans (kqσ_2 j h)
    have fxσ_10 : m_c X σ_10 a = m_c X σ a := (funext mcσ_10).trans fxσ_2
    exact q_reti E hr hlk hI ⟨gσ_10, (by first | exact m_W.le vσ_10 (by omega) | exact m_W.le wσ_10 (by omega)), (fun j h0 h1 => kqσ_10 j (by omega)), (hF.trans hout), fr_σ_10⟩ dX12_leave_26

set_option maxRecDepth 100000 in
set_option maxHeartbeats 4000000 in
theorem c_X12_doubt (l : Launch) (X : XW) (σ : ST) (a : Nat) (v1 : Int32) (n : Int) (ha : q_kd X a = 12) (hG : m_G (m_c X σ a)) (hW : m_W (m_c X σ a) n) (hn : n ≤ 199000) : Met l yX12_doubt (q_ws yX12_doubt cX12_doubt 2 (some .int)) (q_rm 3 68) (q_P X σ [.ref a, .int v1]) (q_Qi X 1 σ (fun (r : Int32) (σ' : ST) => (m_G (m_c X σ' a)) ∧ (m_W (m_c X σ' a) (n + 301)) ∧ (∀ j, 930 ≤ j → j < 3720 → m_c X σ' a j = m_c X σ a j) ∧ (r, σ') = F_X12_doubt X σ a v1 ∧ q_ow [(12, 0), (12, 1), (34, 99)] [] X σ σ')) 0 0 (q_reg X) := by
  refine q_met 1 (by first | exact rfl | decide +kernel) rfl (Nat.le_of_ble_eq_true rfl) (fun p e s m below meth c E hml hr hlk hI ls hl => ?_)
  have hx := E.1
  have hb := E.2.1
  have hl : lv_has ls 2 [(0, .ref a), (1, .int v1)] := hl
  have gσ : m_G (m_c X σ a) := hG
  have wσ : m_W (m_c X σ a) n := hW
  have kqσ : ∀ j, 654 ≤ j → m_c X σ a j = m_c X σ a j := fun _ _ => rfl
  have fxσ : m_c X σ a = m_c X σ a := rfl
  have fr_σ : q_ow [(12, 0), (12, 1), (34, 99)] [] X σ σ := q_ow.rf
  have hh := hG.hd
  obtain ⟨out, hout⟩ : ∃ o, o = F_X12_doubt X σ a v1 := ⟨_, rfl⟩
  have hF := hout.symm
  unfold F_X12_doubt at hF
  refine lv_aload_n hx hb dX12_doubt_0 rfl (lv_at hl 0 rfl) ?_
  refine lv_iconst (v := 0) hx hb dX12_doubt_1 (by decide) ?_
  refine ps_X12_59_12 E hI ha (by decide) dX12_doubt_2 (fun H locs σ_1 hσ_1 hI => ?_)
  replace hF := q_letX hF hσ_1
  have fr_σ_1 := fr_σ.si hσ_1 ha rfl
  have mcσ_1 := m_wo hσ_1 (m_ne ha (q_tk (f := 20) (k' := 34) hI ha rfl (by decide)) (by decide))
  have gσ_1 : m_G (m_c X σ_1 a) := m_G.ext (fun j _ _ => mcσ_1 j) gσ
  have wσ_1 : m_W (m_c X σ_1 a) n := m_W.ext (fun j _ _ => mcσ_1 j) wσ
  have kqσ_1 : ∀ j, 654 ≤ j → m_c X σ_1 a j = m_c X σ a j := fun j h => (mcσ_1 j).trans (kqσ j h)
  have fxσ_1 : m_c X σ_1 a = m_c X σ a := (funext mcσ_1).trans fxσ
  refine lv_aload_n hx hb dX12_doubt_5 rfl (lv_at hl 0 rfl) ?_
  refine lv_iconst (v := 0) hx hb dX12_doubt_6 (by decide) ?_
  refine ps_X12_62_12 E hI ha (by decide) dX12_doubt_7 (fun H locs σ_2 hσ_2 hI => ?_)
  replace hF := q_letX hF hσ_2
  have fr_σ_2 := fr_σ_1.si hσ_2 ha rfl
  have mcσ_2 := m_wo hσ_2 (m_ne ha (q_tk (f := 20) (k' := 34) hI ha rfl (by decide)) (by decide))
  have gσ_2 : m_G (m_c X σ_2 a) := m_G.ext (fun j _ _ => mcσ_2 j) gσ_1
  have wσ_2 : m_W (m_c X σ_2 a) n := m_W.ext (fun j _ _ => mcσ_2 j) wσ_1
  have kqσ_2 : ∀ j, 654 ≤ j → m_c X σ_2 a j = m_c X σ a j := fun j h => (mcσ_2 j).trans (kqσ_1 j h)
  have fxσ_2 : m_c X σ_2 a = m_c X σ a := (funext mcσ_2).trans fxσ_1
  refine lv_aload_n hx hb dX12_doubt_10 rfl (lv_at hl 0 rfl) ?_
  refine lv_iload_n hx hb dX12_doubt_11 rfl (lv_at hl 1 rfl) ?_
  refine q_ci (q_runV (As := [.int v1]) (rest := []) E (hml.trans hl.1.symm) hI (c_X12_isPlayerAt l X σ_2 a v1 ha (by rw [fxσ_2]; exact hG)) kv_X12_290 ha ⟨rfl, by decide⟩ (show vwCl[11]? = some (RX12, TX12, 46) from rfl) rfl ⟨Nat.le_of_ble_eq_true rfl, Nat.le_of_ble_eq_true rfl⟩ ⟨Nat.le_refl _, Nat.le_refl _⟩ rfl (Nat.le_of_ble_eq_true rfl) dX12_doubt_12) hI (by decide) (fun r_3 σ_4 H locs hpσ_4 hkσ_4 hI => ?_)
  obtain ⟨ahpσ_4, bhpσ_4, chpσ_4, dhpσ_4⟩ := hpσ_4
  rw [ahpσ_4] at hI
  rw [fxσ_2] at chpσ_4
  replace hF := q_letX hF dhpσ_4
  refine q_if_ne (A := r_3.toInt) E rfl (tgt := 24) dX12_doubt_15 (by decide) (fun c_5 => ?_) (fun c_5 => ?_)
  · skip
    replace hF := q_ifn hF c_5
    replace c_5 := q_ifOne bhpσ_4 c_5
    replace chpσ_4 := q_ifYes chpσ_4 c_5
    refine lv_aload_n hx hb dX12_doubt_24 rfl (lv_at hl 0 rfl) ?_
    refine gs_X12_35_12 E hI ha dX12_doubt_25 ?_
    refine lv_bipush (v := 7) hx hb dX12_doubt_28 (by decide) ?_
    refine q_iald E hI (q_tk (k' := 34) hI ha rfl (by decide)) ⟨by decide, rfl⟩ (by decide) (by rw [q_lnk (v := 4650) hI (q_tk (k' := 34) hI ha rfl (by decide)) rfl (by decide)]; decide) dX12_doubt_30 ?_
    refine lv_topi (fun f_6 ef_6 => ?_)
    replace hF := q_letX hF ef_6
    have if_6 : f_6.toInt = m_c X σ a 7 := (m_rd ef_6 (by decide)).trans (congrFun fxσ_2 _)
    refine q_if_ne (A := f_6.toInt) E rfl (tgt := 41) dX12_doubt_31 (by decide) (fun c_7 => ?_) (fun c_7 => ?_)
    · skip
      replace hF := q_ifn hF c_7
      refine lv_aload_n hx hb dX12_doubt_41 rfl (lv_at hl 0 rfl) ?_
      refine gs_X12_35_12 E hI ha dX12_doubt_42 ?_
      refine lv_bipush (v := 6) hx hb dX12_doubt_45 (by decide) ?_
      refine q_iald E hI (q_tk (k' := 34) hI ha rfl (by decide)) ⟨by decide, rfl⟩ (by decide) (by rw [q_lnk (v := 4650) hI (q_tk (k' := 34) hI ha rfl (by decide)) rfl (by decide)]; decide) dX12_doubt_47 ?_
      refine lv_topi (fun f_8 ef_8 => ?_)
      replace hF := q_letX hF ef_8
      have if_8 : f_8.toInt = m_c X σ a 6 := (m_rd ef_8 (by decide)).trans (congrFun fxσ_2 _)
      refine lv_iload_n hx hb dX12_doubt_48 rfl (lv_at hl 1 rfl) ?_
      refine q_icmp_ne (A := f_8.toInt) (B := v1.toInt) E rfl rfl (tgt := 60) dX12_doubt_49 (by decide) (fun c_9 => ?_) (fun c_9 => ?_)
      · skip
        replace hF := q_ifn hF c_9
        refine lv_aload_n hx hb dX12_doubt_60 rfl (lv_at hl 0 rfl) ?_
        refine lv_iload_n hx hb dX12_doubt_61 rfl (lv_at hl 1 rfl) ?_
        refine q_ci (q_runV (As := [.int v1]) (rest := []) E (hml.trans hl.1.symm) hI (c_X12_doubts l X σ_2 a v1 n ha gσ_2 wσ_2 (by first | (clear gσ wσ hh gσ_1 wσ_1 gσ_2 wσ_2 ahpσ_4 bhpσ_4 dhpσ_4 c_5 chpσ_4 if_6 c_7 if_8 c_9; omega) | omega) (by rw [fxσ_2]; omega) (by rw [fxσ_2]; omega) (by rw [fxσ_2]; omega)) kv_X12_328 ha ⟨rfl, by decide⟩ (show vwCl[11]? = some (RX12, TX12, 46) from rfl) rfl ⟨Nat.le_of_ble_eq_true rfl, Nat.le_of_ble_eq_true rfl⟩ ⟨Nat.le_refl _, Nat.le_refl _⟩ rfl (Nat.le_of_ble_eq_true rfl) dX12_doubt_62) hI (by decide) (fun r_10 σ_11 H locs hpσ_11 hkσ_11 hI => ?_)
        obtain ⟨ahpσ_11, bhpσ_11, chpσ_11, dhpσ_11, ehpσ_11, fhpσ_11⟩ := hpσ_11
        have fr_σ_11 := fr_σ_2.call fhpσ_11 rfl rfl
        replace hF := q_biX hF ehpσ_11
        have gσ_11 : m_G (m_c X σ_11 a) := ahpσ_11
        have vσ_11 : m_W (m_c X σ_11 a) (n + 1) := bhpσ_11
        have kqσ_11 : ∀ j, 654 ≤ j → m_c X σ_11 a j = m_c X σ a j := (fun j h => (chpσ_11 j h).trans (kqσ_2 j h))
        exact q_reti E hr hlk hI ⟨gσ_11, (by first | exact m_W.le vσ_11 (by first | (clear hn gσ wσ hh gσ_1 wσ_1 gσ_2 wσ_2 ahpσ_4 bhpσ_4 dhpσ_4 c_5 chpσ_4 if_6 c_7 if_8 c_9 ahpσ_11 bhpσ_11 chpσ_11 dhpσ_11 ehpσ_11 fhpσ_11 gσ_11 vσ_11; omega) | omega) | exact m_W.le wσ_11 (by omega)), (fun j h0 h1 => kqσ_11 j (by first | (clear hn gσ wσ hh gσ_1 wσ_1 gσ_2 wσ_2 ahpσ_4 bhpσ_4 dhpσ_4 c_5 chpσ_4 if_6 c_7 if_8 c_9 ahpσ_11 bhpσ_11 chpσ_11 dhpσ_11 ehpσ_11 fhpσ_11 gσ_11 vσ_11; omega) | omega)), (hF.trans hout), fr_σ_11⟩ dX12_doubt_65
      · skip
        replace hF := q_ifp hF c_9
        refine lv_aload_n hx hb dX12_doubt_52 rfl (lv_at hl 0 rfl) ?_
        refine lv_iconst (v := 5) hx hb dX12_doubt_53 (by decide) ?_
        have kc_12 : (5 : Int32).toInt = 5 := rfl
        refine q_ci (q_runV (As := [.int 5]) (rest := []) E (hml.trans hl.1.symm) hI (c_X12_refuse l X σ_2 a (5 : Int32) ha) kv_X12_284 ha ⟨rfl, by decide⟩ (show vwCl[11]? = some (RX12, TX12, 46) from rfl) rfl ⟨Nat.le_of_ble_eq_true rfl, Nat.le_of_ble_eq_true rfl⟩ ⟨Nat.le_refl _, Nat.le_refl _⟩ rfl (Nat.le_of_ble_eq_true rfl) dX12_doubt_54) hI (by decide) (fun r_13 σ_14 H locs hpσ_14 hkσ_14 hI => ?_)
        obtain ⟨ahpσ_14, bhpσ_14, chpσ_14⟩ := hpσ_14
        have fr_σ_14 := fr_σ_2.call chpσ_14 rfl rfl
        replace hF := q_biX hF bhpσ_14
        have mcσ_14 := m_cK hkσ_14 hI.1 ha (by decide)
        have gσ_14 : m_G (m_c X σ_14 a) := m_G.ext (fun j _ _ => mcσ_14 j) gσ_2
        have wσ_14 : m_W (m_c X σ_14 a) n := m_W.ext (fun j _ _ => mcσ_14 j) wσ_2
        have kqσ_14 : ∀ j, 654 ≤ j → m_c X σ_14 a j = m_c X σ a j := fun j h => (mcσ_14 j).trans (kqσ_2 j h)
        have fxσ_14 : m_c X σ_14 a = m_c X σ a := (funext mcσ_14).trans fxσ_2
        refine lv_goto (tgt := 65) hx hb dX12_doubt_57 (by decide) ?_
        exact q_reti E hr hlk hI ⟨gσ_14, (by first | exact m_W.le vσ_14 (by omega) | exact m_W.le wσ_14 (by first | (clear hn gσ wσ hh gσ_1 wσ_1 gσ_2 wσ_2 ahpσ_4 bhpσ_4 dhpσ_4 c_5 chpσ_4 if_6 c_7 if_8 c_9 kc_12 ahpσ_14 bhpσ_14 chpσ_14 gσ_14 wσ_14; omega) | omega)), (fun j h0 h1 => kqσ_14 j (by first | (clear hn gσ wσ hh gσ_1 wσ_1 gσ_2 wσ_2 ahpσ_4 bhpσ_4 dhpσ_4 c_5 chpσ_4 if_6 c_7 if_8 c_9 kc_12 ahpσ_14 bhpσ_14 chpσ_14 gσ_14 wσ_14; omega) | omega)), (hF.trans hout), fr_σ_14⟩ dX12_doubt_65
    · skip
      replace hF := q_ifp hF c_7
      refine lv_aload_n hx hb dX12_doubt_34 rfl (lv_at hl 0 rfl) ?_
      refine lv_bipush (v := 8) hx hb dX12_doubt_35 (by decide) ?_
      have kc_15 : (8 : Int32).toInt = 8 := rfl
      refine q_ci (q_runV (As := [.int 8]) (rest := []) E (hml.trans hl.1.symm) hI (c_X12_refuse l X σ_2 a (8 : Int32) ha) kv_X12_284 ha ⟨rfl, by decide⟩ (show vwCl[11]? = some (RX12, TX12, 46) from rfl) rfl ⟨Nat.le_of_ble_eq_true rfl, Nat.le_of_ble_eq_true rfl⟩ ⟨Nat.le_refl _, Nat.le_refl _⟩ rfl (Nat.le_of_ble_eq_true rfl) dX12_doubt_37) hI (by decide) (fun r_16 σ_17 H locs hpσ_17 hkσ_17 hI => ?_)
      obtain ⟨ahpσ_17, bhpσ_17, chpσ_17⟩ := hpσ_17
      have fr_σ_17 := fr_σ_2.call chpσ_17 rfl rfl
      replace hF := q_biX hF bhpσ_17
      have mcσ_17 := m_cK hkσ_17 hI.1 ha (by decide)
      have gσ_17 : m_G (m_c X σ_17 a) := m_G.ext (fun j _ _ => mcσ_17 j) gσ_2
      have wσ_17 : m_W (m_c X σ_17 a) n := m_W.ext (fun j _ _ => mcσ_17 j) wσ_2
      have kqσ_17 : ∀ j, 654 ≤ j → m_c X σ_17 a j = m_c X σ a j := fun j h => (mcσ_17 j).trans (kqσ_2 j h)
      have fxσ_17 : m_c X σ_17 a = m_c X σ a := (funext mcσ_17).trans fxσ_2
      exact q_reti E hr hlk hI ⟨gσ_17, (by first | exact m_W.le vσ_17 (by omega) | exact m_W.le wσ_17 (by first | (clear hn gσ wσ hh gσ_1 wσ_1 gσ_2 wσ_2 ahpσ_4 bhpσ_4 dhpσ_4 c_5 chpσ_4 if_6 c_7 kc_15 ahpσ_17 bhpσ_17 chpσ_17 gσ_17 wσ_17; omega) | omega)), (fun j h0 h1 => kqσ_17 j (by first | (clear hn gσ wσ hh gσ_1 wσ_1 gσ_2 wσ_2 ahpσ_4 bhpσ_4 dhpσ_4 c_5 chpσ_4 if_6 c_7 kc_15 ahpσ_17 bhpσ_17 chpσ_17 gσ_17 wσ_17; omega) | omega)), (hF.trans hout), fr_σ_17⟩ dX12_doubt_40
  · skip
    replace hF := q_ifp hF c_5
    replace chpσ_4 := q_ifNo chpσ_4 c_5
    refine lv_aload_n hx hb dX12_doubt_18 rfl (lv_at hl 0 rfl) ?_
    refine lv_iconst (v := 2) hx hb dX12_doubt_19 (by decide) ?_
    have kc_18 : (2 : Int32).toInt = 2 := rfl
    refine q_ci (q_runV (As := [.int 2]) (rest := []) E (hml.trans hl.1.symm) hI (c_X12_refuse l X σ_2 a (2 : Int32) ha) kv_X12_284 ha ⟨rfl, by decide⟩ (show vwCl[11]? = some (RX12, TX12, 46) from rfl) rfl ⟨Nat.le_of_ble_eq_true rfl, Nat.le_of_ble_eq_true rfl⟩ ⟨Nat.le_refl _, Nat.le_refl _⟩ rfl (Nat.le_of_ble_eq_true rfl) dX12_doubt_20) hI (by decide) (fun r_19 σ_20 H locs hpσ_20 hkσ_20 hI => ?_)
    obtain ⟨ahpσ_20, bhpσ_20, chpσ_20⟩ := hpσ_20
    have fr_σ_20 := fr_σ_2.call chpσ_20 rfl rfl
    replace hF := q_biX hF bhpσ_20
    have mcσ_20 := m_cK hkσ_20 hI.1 ha (by decide)
    have gσ_20 : m_G (m_c X σ_20 a) := m_G.ext (fun j _ _ => mcσ_20 j) gσ_2
    have wσ_20 : m_W (m_c X σ_20 a) n := m_W.ext (fun j _ _ => mcσ_20 j) wσ_2
    have kqσ_20 : ∀ j, 654 ≤ j → m_c X σ_20 a j = m_c X σ a j := fun j h => (mcσ_20 j).trans (kqσ_2 j h)
    have fxσ_20 : m_c X σ_20 a = m_c X σ a := (funext mcσ_20).trans fxσ_2
    exact q_reti E hr hlk hI ⟨gσ_20, (by first | exact m_W.le vσ_20 (by omega) | exact m_W.le wσ_20 (by omega)), (fun j h0 h1 => kqσ_20 j (by omega)), (hF.trans hout), fr_σ_20⟩ dX12_doubt_23

set_option maxRecDepth 100000 in
set_option maxHeartbeats 4000000 in
theorem c_X12_lay (l : Launch) (X : XW) (σ : ST) (a : Nat) (v1 : Int32) (v2 : Int32) (v3 : Int32) (v4 : Int32) (n : Int) (ha : q_kd X a = 12) (hG : m_G (m_c X σ a)) (hW : m_W (m_c X σ a) n) (hn : n ≤ 199000) : Met l yX12_lay (q_ws yX12_lay cX12_lay 9 (some .int)) (q_rm 2 46) (q_P X σ [.ref a, .int v1, .int v2, .int v3, .int v4]) (q_Qi X 1 σ (fun (r : Int32) (σ' : ST) => (m_G (m_c X σ' a)) ∧ (m_W (m_c X σ' a) (n + 301)) ∧ (∀ j, 930 ≤ j → j < 3720 → m_c X σ' a j = m_c X σ a j) ∧ (r, σ') = F_X12_lay X σ a v1 v2 v3 v4 ∧ q_ow [(12, 0), (12, 1), (34, 99), (39, 99), (40, 99)] [] X σ σ')) 0 0 (q_reg X) := by
  refine q_met 1 (by first | exact rfl | decide +kernel) rfl (Nat.le_of_ble_eq_true rfl) (fun p e s m below meth c E hml hr hlk hI ls hl => ?_)
  have hx := E.1
  have hb := E.2.1
  have hl : lv_has ls 9 [(0, .ref a), (1, .int v1), (2, .int v2), (3, .int v3), (4, .int v4)] := hl
  have gσ : m_G (m_c X σ a) := hG
  have wσ : m_W (m_c X σ a) n := hW
  have kqσ : ∀ j, 654 ≤ j → m_c X σ a j = m_c X σ a j := fun _ _ => rfl
  have fxσ : m_c X σ a = m_c X σ a := rfl
  have fr_σ : q_ow [(12, 0), (12, 1), (34, 99), (39, 99), (40, 99)] [] X σ σ := q_ow.rf
  have hh := hG.hd
  obtain ⟨out, hout⟩ : ∃ o, o = F_X12_lay X σ a v1 v2 v3 v4 := ⟨_, rfl⟩
  have hF := hout.symm
  unfold F_X12_lay at hF
  refine lv_aload_n hx hb dX12_lay_0 rfl (lv_at hl 0 rfl) ?_
  refine lv_iconst (v := 0) hx hb dX12_lay_1 (by decide) ?_
  refine ps_X12_59_12 E hI ha (by decide) dX12_lay_2 (fun H locs σ_1 hσ_1 hI => ?_)
  replace hF := q_letX hF hσ_1
  have fr_σ_1 := fr_σ.si hσ_1 ha rfl
  have mcσ_1 := m_wo hσ_1 (m_ne ha (q_tk (f := 20) (k' := 34) hI ha rfl (by decide)) (by decide))
  have gσ_1 : m_G (m_c X σ_1 a) := m_G.ext (fun j _ _ => mcσ_1 j) gσ
  have wσ_1 : m_W (m_c X σ_1 a) n := m_W.ext (fun j _ _ => mcσ_1 j) wσ
  have kqσ_1 : ∀ j, 654 ≤ j → m_c X σ_1 a j = m_c X σ a j := fun j h => (mcσ_1 j).trans (kqσ j h)
  have fxσ_1 : m_c X σ_1 a = m_c X σ a := (funext mcσ_1).trans fxσ
  refine lv_aload_n hx hb dX12_lay_5 rfl (lv_at hl 0 rfl) ?_
  refine lv_iconst (v := 0) hx hb dX12_lay_6 (by decide) ?_
  refine ps_X12_62_12 E hI ha (by decide) dX12_lay_7 (fun H locs σ_2 hσ_2 hI => ?_)
  replace hF := q_letX hF hσ_2
  have fr_σ_2 := fr_σ_1.si hσ_2 ha rfl
  have mcσ_2 := m_wo hσ_2 (m_ne ha (q_tk (f := 20) (k' := 34) hI ha rfl (by decide)) (by decide))
  have gσ_2 : m_G (m_c X σ_2 a) := m_G.ext (fun j _ _ => mcσ_2 j) gσ_1
  have wσ_2 : m_W (m_c X σ_2 a) n := m_W.ext (fun j _ _ => mcσ_2 j) wσ_1
  have kqσ_2 : ∀ j, 654 ≤ j → m_c X σ_2 a j = m_c X σ a j := fun j h => (mcσ_2 j).trans (kqσ_1 j h)
  have fxσ_2 : m_c X σ_2 a = m_c X σ a := (funext mcσ_2).trans fxσ_1
  refine lv_aload_n hx hb dX12_lay_10 rfl (lv_at hl 0 rfl) ?_
  refine gs_X12_50_12 E hI ha dX12_lay_11 ?_
  refine lv_iconst (v := 0) hx hb dX12_lay_14 (by decide) ?_
  refine lv_iload_n hx hb dX12_lay_15 rfl (lv_at hl 1 rfl) ?_
  refine q_iastN E hI (q_tk (k' := 40) hI ha rfl (by decide)) ⟨by decide, rfl⟩ (by decide) (by rw [q_lnk (v := 4) hI (q_tk (k' := 40) hI ha rfl (by decide)) rfl (by decide)]; decide) (show 1 < 9 by decide) (q_inU rfl) dX12_lay_16 (fun H locs σ_3 hσ_3 hI => ?_)
  replace hF := q_letX hF hσ_3
  have fr_σ_3 := fr_σ_2.si hσ_3 (q_tk (k' := 40) hI ha rfl (by decide)) rfl
  have mcσ_3 := m_wo hσ_3 (m_ne (q_tk (k' := 40) hI ha rfl (by decide)) (q_tk (f := 20) (k' := 34) hI ha rfl (by decide)) (by decide))
  have gσ_3 : m_G (m_c X σ_3 a) := m_G.ext (fun j _ _ => mcσ_3 j) gσ_2
  have wσ_3 : m_W (m_c X σ_3 a) n := m_W.ext (fun j _ _ => mcσ_3 j) wσ_2
  have kqσ_3 : ∀ j, 654 ≤ j → m_c X σ_3 a j = m_c X σ a j := fun j h => (mcσ_3 j).trans (kqσ_2 j h)
  have fxσ_3 : m_c X σ_3 a = m_c X σ a := (funext mcσ_3).trans fxσ_2
  refine lv_aload_n hx hb dX12_lay_17 rfl (lv_at hl 0 rfl) ?_
  refine gs_X12_50_12 E hI ha dX12_lay_18 ?_
  refine lv_iconst (v := 1) hx hb dX12_lay_21 (by decide) ?_
  refine lv_iload_n hx hb dX12_lay_22 rfl (lv_at hl 2 rfl) ?_
  refine q_iastN E hI (q_tk (k' := 40) hI ha rfl (by decide)) ⟨by decide, rfl⟩ (by decide) (by rw [q_lnk (v := 4) hI (q_tk (k' := 40) hI ha rfl (by decide)) rfl (by decide)]; decide) (show 1 < 9 by decide) (q_inU rfl) dX12_lay_23 (fun H locs σ_4 hσ_4 hI => ?_)
  replace hF := q_letX hF hσ_4
  have fr_σ_4 := fr_σ_3.si hσ_4 (q_tk (k' := 40) hI ha rfl (by decide)) rfl
  have mcσ_4 := m_wo hσ_4 (m_ne (q_tk (k' := 40) hI ha rfl (by decide)) (q_tk (f := 20) (k' := 34) hI ha rfl (by decide)) (by decide))
  have gσ_4 : m_G (m_c X σ_4 a) := m_G.ext (fun j _ _ => mcσ_4 j) gσ_3
  have wσ_4 : m_W (m_c X σ_4 a) n := m_W.ext (fun j _ _ => mcσ_4 j) wσ_3
  have kqσ_4 : ∀ j, 654 ≤ j → m_c X σ_4 a j = m_c X σ a j := fun j h => (mcσ_4 j).trans (kqσ_3 j h)
  have fxσ_4 : m_c X σ_4 a = m_c X σ a := (funext mcσ_4).trans fxσ_3
  refine lv_aload_n hx hb dX12_lay_24 rfl (lv_at hl 0 rfl) ?_
  refine gs_X12_50_12 E hI ha dX12_lay_25 ?_
  refine lv_iconst (v := 2) hx hb dX12_lay_28 (by decide) ?_
  refine lv_iload_n hx hb dX12_lay_29 rfl (lv_at hl 3 rfl) ?_
  refine q_iastN E hI (q_tk (k' := 40) hI ha rfl (by decide)) ⟨by decide, rfl⟩ (by decide) (by rw [q_lnk (v := 4) hI (q_tk (k' := 40) hI ha rfl (by decide)) rfl (by decide)]; decide) (show 1 < 9 by decide) (q_inU rfl) dX12_lay_30 (fun H locs σ_5 hσ_5 hI => ?_)
  replace hF := q_letX hF hσ_5
  have fr_σ_5 := fr_σ_4.si hσ_5 (q_tk (k' := 40) hI ha rfl (by decide)) rfl
  have mcσ_5 := m_wo hσ_5 (m_ne (q_tk (k' := 40) hI ha rfl (by decide)) (q_tk (f := 20) (k' := 34) hI ha rfl (by decide)) (by decide))
  have gσ_5 : m_G (m_c X σ_5 a) := m_G.ext (fun j _ _ => mcσ_5 j) gσ_4
  have wσ_5 : m_W (m_c X σ_5 a) n := m_W.ext (fun j _ _ => mcσ_5 j) wσ_4
  have kqσ_5 : ∀ j, 654 ≤ j → m_c X σ_5 a j = m_c X σ a j := fun j h => (mcσ_5 j).trans (kqσ_4 j h)
  have fxσ_5 : m_c X σ_5 a = m_c X σ a := (funext mcσ_5).trans fxσ_4
  refine lv_aload_n hx hb dX12_lay_31 rfl (lv_at hl 0 rfl) ?_
  refine gs_X12_50_12 E hI ha dX12_lay_32 ?_
  refine lv_iconst (v := 3) hx hb dX12_lay_35 (by decide) ?_
  refine lv_iload hx hb dX12_lay_36 (lv_at hl 4 rfl) ?_
  refine q_iastN E hI (q_tk (k' := 40) hI ha rfl (by decide)) ⟨by decide, rfl⟩ (by decide) (by rw [q_lnk (v := 4) hI (q_tk (k' := 40) hI ha rfl (by decide)) rfl (by decide)]; decide) (show 1 < 9 by decide) (q_inU rfl) dX12_lay_38 (fun H locs σ_6 hσ_6 hI => ?_)
  replace hF := q_letX hF hσ_6
  have fr_σ_6 := fr_σ_5.si hσ_6 (q_tk (k' := 40) hI ha rfl (by decide)) rfl
  have mcσ_6 := m_wo hσ_6 (m_ne (q_tk (k' := 40) hI ha rfl (by decide)) (q_tk (f := 20) (k' := 34) hI ha rfl (by decide)) (by decide))
  have gσ_6 : m_G (m_c X σ_6 a) := m_G.ext (fun j _ _ => mcσ_6 j) gσ_5
  have wσ_6 : m_W (m_c X σ_6 a) n := m_W.ext (fun j _ _ => mcσ_6 j) wσ_5
  have kqσ_6 : ∀ j, 654 ≤ j → m_c X σ_6 a j = m_c X σ a j := fun j h => (mcσ_6 j).trans (kqσ_5 j h)
  have fxσ_6 : m_c X σ_6 a = m_c X σ a := (funext mcσ_6).trans fxσ_5
  refine lv_iconst (v := 0) hx hb dX12_lay_39 (by decide) ?_
  refine lv_istore (lv' := [(5, .int 0), (0, .ref a), (1, .int v1), (2, .int v2), (3, .int v3), (4, .int v4)]) hx hb dX12_lay_40 hl (by decide) rfl (fun ls hl => ?_)
  have L_42_9 : ∀ (k_9 : Nat) (x_7 : Int32) (σ_8 : ST) (H : Heap) (locs : List Loc) (ls : Array Slot), (2147483647 - x_7.toInt).toNat < k_9 → (0 ≤ x_7.toInt ∧ x_7.toInt ≤ 10) → (∀ k, 0 ≤ k → k < x_7.toInt → m_of σ_8 (q_rf X a 28) k = 0) → (q_ow [(12, 0), (12, 1), (34, 99), (39, 99), (40, 99)] [] X σ σ_8) → (m_G (m_c X σ_8 a)) → (m_W (m_c X σ_8 a) n) → (∀ j, 654 ≤ j → m_c X σ_8 a j = m_c X σ a j) → (m_c X σ_8 a = m_c X σ a) → (F_X12_lay_L42_1 X a k_9 x_7 σ_8 = out) → q_I X 1 σ s.heap locs σ_8 H → lv_has ls 9 [(0, .ref a), (1, .int v1), (2, .int v2), (3, .int v3), (4, .int v4), (5, .int x_7)] → W p l e (q_rm 2 46) s m ([.ref a, .int v1, .int v2, .int v3, .int v4] : List Value).toArray below meth c H locs 0 0 (MQ below (q_Qi X 1 σ (fun (r : Int32) (σ' : ST) => (m_G (m_c X σ' a)) ∧ (m_W (m_c X σ' a) (n + 301)) ∧ (∀ j, 930 ≤ j → j < 3720 → m_c X σ' a j = m_c X σ a j) ∧ (r, σ') = F_X12_lay X σ a v1 v2 v3 v4 ∧ q_ow [(12, 0), (12, 1), (34, 99), (39, 99), (40, 99)] [] X σ σ')) ([.ref a, .int v1, .int v2, .int v3, .int v4] : List Value).toArray s 0 0 (q_reg X)) (F0 m 42 ls []) := by
    clear hF
    intro k_9
    induction k_9 with
    | zero =>
      intro x_7 σ_8 H locs ls hms
      try clear kqσ; try clear fxσ; try clear fr_σ; try clear fr_σ_1; try clear mcσ_1; try clear kqσ_1; try clear fxσ_1; try clear fr_σ_2; try clear mcσ_2; try clear kqσ_2; try clear fxσ_2; try clear fr_σ_3; try clear mcσ_3; try clear kqσ_3; try clear fxσ_3; try clear fr_σ_4; try clear mcσ_4; try clear kqσ_4; try clear fxσ_4; try clear fr_σ_5; try clear mcσ_5; try clear kqσ_5; try clear fxσ_5; try clear fr_σ_6; try clear mcσ_6; try clear kqσ_6; try clear fxσ_6
      exact absurd hms (Nat.not_lt_zero _)
    | succ k_9 ih42 =>
      intro x_7 σ_8 H locs ls hm42 hge42 zlσ_8 fr_σ_8 gσ_8 wσ_8 kqσ_8 fxσ_8 hF hI hl
      replace hF := (F_X12_lay_L42_1_s).symm.trans hF
      unfold F_X12_lay_B42_1 at hF
      refine lv_iload hx hb dX12_lay_42 (lv_at hl 5 rfl) ?_
      refine lv_bipush (v := 10) hx hb dX12_lay_44 (by decide) ?_
      have gc_10_x_7 := q_rng x_7
      refine q_icmp_ge (A := x_7.toInt) (B := 10) E rfl (by decide) (tgt := 63) dX12_lay_46 (by decide) (fun c_10 => ?_) (fun c_10 => ?_)
      · skip
        replace hF := q_ifn hF (Int.not_lt.mpr c_10)
        skip
        have nnσ_8 : ∀ k, 0 ≤ k → k < 10 → 0 ≤ m_of σ_8 (q_rf X a 28) k := fun k a b => Int.le_of_eq (zlσ_8 k a (by first | (clear hn gσ wσ hh gσ_1 wσ_1 gσ_2 wσ_2 gσ_3 wσ_3 gσ_4 wσ_4 gσ_5 wσ_5 gσ_6 wσ_6 hm42 gσ_8 wσ_8 gc_10_x_7; omega) | omega)).symm
        have szσ_8 := m_S_zero (f := m_of σ_8 (q_rf X a 28)) (n := 10) (fun j a b => zlσ_8 j a (by first | (clear hn gσ wσ hh gσ_1 wσ_1 gσ_2 wσ_2 gσ_3 wσ_3 gσ_4 wσ_4 gσ_5 wσ_5 gσ_6 wσ_6 hm42 gσ_8 wσ_8 gc_10_x_7; omega) | omega))
        refine lv_iconst (v := 0) hx hb dX12_lay_63 (by decide) ?_
        refine lv_istore (lv' := [(5, .int 0), (0, .ref a), (1, .int v1), (2, .int v2), (3, .int v3), (4, .int v4)]) hx hb dX12_lay_64 hl (by decide) rfl (fun ls hl => ?_)
        refine lv_iconst (v := 0) hx hb dX12_lay_66 (by decide) ?_
        refine lv_istore (lv' := [(6, .int 0), (5, .int 0), (0, .ref a), (1, .int v1), (2, .int v2), (3, .int v3), (4, .int v4)]) hx hb dX12_lay_67 hl (by decide) rfl (fun ls hl => ?_)
        refine lv_iconst (v := 0) hx hb dX12_lay_69 (by decide) ?_
        refine lv_istore (lv' := [(7, .int 0), (6, .int 0), (5, .int 0), (0, .ref a), (1, .int v1), (2, .int v2), (3, .int v3), (4, .int v4)]) hx hb dX12_lay_70 hl (by decide) rfl (fun ls hl => ?_)
        refine lv_iconst (v := 0) hx hb dX12_lay_72 (by decide) ?_
        refine lv_istore (lv' := [(8, .int 0), (7, .int 0), (6, .int 0), (5, .int 0), (0, .ref a), (1, .int v1), (2, .int v2), (3, .int v3), (4, .int v4)]) hx hb dX12_lay_73 hl (by decide) rfl (fun ls hl => ?_)
        have L_75_16 : ∀ (k_16 : Nat) (x_11 : Int32) (x_12 : Int32) (x_13 : Int32) (x_14 : Int32) (σ_15 : ST) (H : Heap) (locs : List Loc) (ls : Array Slot), (2147483647 - x_14.toInt).toNat < k_16 → (0 ≤ x_14.toInt ∧ x_14.toInt ≤ 4 ∧ 0 ≤ x_11.toInt ∧ x_11.toInt ≤ x_14.toInt) → (m_S (m_of σ_15 (q_rf X a 28)) 0 10 = x_11.toInt) → (∀ k, 0 ≤ k → k < 10 → 0 ≤ m_of σ_15 (q_rf X a 28) k) → (q_ow [(12, 0), (12, 1), (34, 99), (39, 99), (40, 99)] [] X σ σ_15) → (m_G (m_c X σ_15 a)) → (m_W (m_c X σ_15 a) n) → (∀ j, 654 ≤ j → m_c X σ_15 a j = m_c X σ a j) → (m_c X σ_15 a = m_c X σ a) → (F_X12_lay_L75_3 X a k_16 x_11 x_12 x_13 x_14 σ_15 = out) → q_I X 1 σ s.heap locs σ_15 H → lv_has ls 9 [(0, .ref a), (1, .int v1), (2, .int v2), (3, .int v3), (4, .int v4), (5, .int x_11), (6, .int x_12), (7, .int x_13), (8, .int x_14)] → W p l e (q_rm 2 46) s m ([.ref a, .int v1, .int v2, .int v3, .int v4] : List Value).toArray below meth c H locs 0 0 (MQ below (q_Qi X 1 σ (fun (r : Int32) (σ' : ST) => (m_G (m_c X σ' a)) ∧ (m_W (m_c X σ' a) (n + 301)) ∧ (∀ j, 930 ≤ j → j < 3720 → m_c X σ' a j = m_c X σ a j) ∧ (r, σ') = F_X12_lay X σ a v1 v2 v3 v4 ∧ q_ow [(12, 0), (12, 1), (34, 99), (39, 99), (40, 99)] [] X σ σ')) ([.ref a, .int v1, .int v2, .int v3, .int v4] : List Value).toArray s 0 0 (q_reg X)) (F0 m 75 ls []) := by
          clear hF
          intro k_16
          induction k_16 with
          | zero =>
            intro x_11 x_12 x_13 x_14 σ_15 H locs ls hms
            try clear nnσ_8; try clear szσ_8
            exact absurd hms (Nat.not_lt_zero _)
          | succ k_16 ih75 =>
            intro x_11 x_12 x_13 x_14 σ_15 H locs ls hm75 hge75 szσ_15 nnσ_15 fr_σ_15 gσ_15 wσ_15 kqσ_15 fxσ_15 hF hI hl
            replace hF := (F_X12_lay_L75_3_s).symm.trans hF
            unfold F_X12_lay_B75_3 at hF
            refine lv_iload hx hb dX12_lay_75 (lv_at hl 8 rfl) ?_
            refine lv_iconst (v := 4) hx hb dX12_lay_77 (by decide) ?_
            have gc_17_x_14 := q_rng x_14
            refine q_icmp_ge (A := x_14.toInt) (B := 4) E rfl (by decide) (tgt := 217) dX12_lay_78 (by decide) (fun c_17 => ?_) (fun c_17 => ?_)
            · skip
              replace hF := q_ifn hF (Int.not_lt.mpr c_17)
              unfold F_X12_lay_E217_7 at hF
              refine lv_iload hx hb dX12_lay_217 (lv_at hl 5 rfl) ?_
              refine q_if_eq (A := x_11.toInt) E rfl (tgt := 227) dX12_lay_219 (by decide) (fun c_18 => ?_) (fun c_18 => ?_)
              · skip
                replace hF := q_ifp hF c_18
                refine lv_aload_n hx hb dX12_lay_227 rfl (lv_at hl 0 rfl) ?_
                refine lv_iconst (v := 5) hx hb dX12_lay_228 (by decide) ?_
                have kc_19 : (5 : Int32).toInt = 5 := rfl
                refine q_ci (q_runV (As := [.int 5]) (rest := []) E (hml.trans hl.1.symm) hI (c_X12_refuse l X σ_15 a (5 : Int32) ha) kv_X12_284 ha ⟨rfl, by decide⟩ (show vwCl[11]? = some (RX12, TX12, 46) from rfl) rfl ⟨Nat.le_of_ble_eq_true rfl, Nat.le_of_ble_eq_true rfl⟩ ⟨Nat.le_refl _, Nat.le_refl _⟩ rfl (Nat.le_of_ble_eq_true rfl) dX12_lay_229) hI (by decide) (fun r_20 σ_21 H locs hpσ_21 hkσ_21 hI => ?_)
                obtain ⟨ahpσ_21, bhpσ_21, chpσ_21⟩ := hpσ_21
                have fr_σ_21 := fr_σ_15.call chpσ_21 rfl rfl
                replace hF := q_biX hF bhpσ_21
                have mcσ_21 := m_cK hkσ_21 hI.1 ha (by decide)
                have gσ_21 : m_G (m_c X σ_21 a) := m_G.ext (fun j _ _ => mcσ_21 j) gσ_15
                have wσ_21 : m_W (m_c X σ_21 a) n := m_W.ext (fun j _ _ => mcσ_21 j) wσ_15
                have kqσ_21 : ∀ j, 654 ≤ j → m_c X σ_21 a j = m_c X σ a j := fun j h => (mcσ_21 j).trans (kqσ_15 j h)
                have fxσ_21 : m_c X σ_21 a = m_c X σ a := (funext mcσ_21).trans fxσ_15
                exact q_reti E hr hlk hI ⟨gσ_21, (by first | exact m_W.le vσ_21 (by omega) | exact m_W.le wσ_21 (by first | (clear hn gσ wσ hh gσ_1 wσ_1 gσ_2 wσ_2 gσ_3 wσ_3 gσ_4 wσ_4 gσ_5 wσ_5 gσ_6 wσ_6 hm42 hge42 gσ_8 wσ_8 gc_10_x_7 c_10 hm75 hge75 szσ_15 gσ_15 wσ_15 gc_17_x_14 c_17 c_18 kc_19 ahpσ_21 bhpσ_21 chpσ_21 gσ_21 wσ_21; omega) | omega)), (fun j h0 h1 => kqσ_21 j (by first | (clear hn gσ wσ hh gσ_1 wσ_1 gσ_2 wσ_2 gσ_3 wσ_3 gσ_4 wσ_4 gσ_5 wσ_5 gσ_6 wσ_6 hm42 hge42 gσ_8 wσ_8 gc_10_x_7 c_10 hm75 hge75 szσ_15 gσ_15 wσ_15 gc_17_x_14 c_17 c_18 kc_19 ahpσ_21 bhpσ_21 chpσ_21 gσ_21 wσ_21; omega) | omega)), (hF.trans hout), fr_σ_21⟩ dX12_lay_232
              · skip
                replace hF := q_ifn hF c_18
                refine lv_iload hx hb dX12_lay_222 (lv_at hl 6 rfl) ?_
                refine q_if_eq (A := x_12.toInt) E rfl (tgt := 233) dX12_lay_224 (by decide) (fun c_22 => ?_) (fun c_22 => ?_)
                · skip
                  replace hF := q_ifp hF c_22
                  refine lv_iload hx hb dX12_lay_233 (lv_at hl 5 rfl) ?_
                  refine lv_aload_n hx hb dX12_lay_235 rfl (lv_at hl 0 rfl) ?_
                  refine gs_X12_35_12 E hI ha dX12_lay_236 ?_
                  refine lv_iconst (v := 4) hx hb dX12_lay_239 (by decide) ?_
                  refine q_iald E hI (q_tk (k' := 34) hI ha rfl (by decide)) ⟨by decide, rfl⟩ (by decide) (by rw [q_lnk (v := 4650) hI (q_tk (k' := 34) hI ha rfl (by decide)) rfl (by decide)]; decide) dX12_lay_240 ?_
                  refine lv_topi (fun f_23 ef_23 => ?_)
                  replace hF := q_letX hF ef_23
                  have if_23 : f_23.toInt = m_c X σ a 4 := (m_rd ef_23 (by decide)).trans (congrFun fxσ_15 _)
                  have gc_24_x_11 := q_rng x_11
                  have gc_24_f_23 := q_rng f_23
                  refine q_icmp_le (A := x_11.toInt) (B := f_23.toInt) E rfl rfl (tgt := 251) dX12_lay_241 (by decide) (fun c_24 => ?_) (fun c_24 => ?_)
                  · skip
                    replace hF := q_ifn hF (Int.not_lt.mpr c_24)
                    refine lv_aload_n hx hb dX12_lay_251 rfl (lv_at hl 0 rfl) ?_
                    refine gs_X12_35_12 E hI ha dX12_lay_252 ?_
                    refine lv_bipush (v := 7) hx hb dX12_lay_255 (by decide) ?_
                    refine q_iald E hI (q_tk (k' := 34) hI ha rfl (by decide)) ⟨by decide, rfl⟩ (by decide) (by rw [q_lnk (v := 4650) hI (q_tk (k' := 34) hI ha rfl (by decide)) rfl (by decide)]; decide) dX12_lay_257 ?_
                    refine lv_topi (fun f_25 ef_25 => ?_)
                    replace hF := q_letX hF ef_25
                    have if_25 : f_25.toInt = m_c X σ a 7 := (m_rd ef_25 (by decide)).trans (congrFun fxσ_15 _)
                    refine lv_iconst (v := 1) hx hb dX12_lay_258 (by decide) ?_
                    have gc_26_f_25 := q_rng f_25
                    refine q_icmp_eq (A := f_25.toInt) (B := 1) E rfl (by decide) (tgt := 282) dX12_lay_259 (by decide) (fun c_26 => ?_) (fun c_26 => ?_)
                    · skip
                      replace hF := q_ifp hF c_26
                      refine lv_aload_n hx hb dX12_lay_282 rfl (lv_at hl 0 rfl) ?_
                      refine lv_bipush (v := 9) hx hb dX12_lay_283 (by decide) ?_
                      have kc_27 : (9 : Int32).toInt = 9 := rfl
                      refine q_ci (q_runV (As := [.int 9]) (rest := []) E (hml.trans hl.1.symm) hI (c_X12_refuse l X σ_15 a (9 : Int32) ha) kv_X12_284 ha ⟨rfl, by decide⟩ (show vwCl[11]? = some (RX12, TX12, 46) from rfl) rfl ⟨Nat.le_of_ble_eq_true rfl, Nat.le_of_ble_eq_true rfl⟩ ⟨Nat.le_refl _, Nat.le_refl _⟩ rfl (Nat.le_of_ble_eq_true rfl) dX12_lay_285) hI (by decide) (fun r_28 σ_29 H locs hpσ_29 hkσ_29 hI => ?_)
                      obtain ⟨ahpσ_29, bhpσ_29, chpσ_29⟩ := hpσ_29
                      have fr_σ_29 := fr_σ_15.call chpσ_29 rfl rfl
                      replace hF := q_biX hF bhpσ_29
                      have mcσ_29 := m_cK hkσ_29 hI.1 ha (by decide)
                      have gσ_29 : m_G (m_c X σ_29 a) := m_G.ext (fun j _ _ => mcσ_29 j) gσ_15
                      have wσ_29 : m_W (m_c X σ_29 a) n := m_W.ext (fun j _ _ => mcσ_29 j) wσ_15
                      have kqσ_29 : ∀ j, 654 ≤ j → m_c X σ_29 a j = m_c X σ a j := fun j h => (mcσ_29 j).trans (kqσ_15 j h)
                      have fxσ_29 : m_c X σ_29 a = m_c X σ a := (funext mcσ_29).trans fxσ_15
                      exact q_reti E hr hlk hI ⟨gσ_29, (by first | exact m_W.le vσ_29 (by omega) | exact m_W.le wσ_29 (by first | (clear hn gσ wσ hh gσ_1 wσ_1 gσ_2 wσ_2 gσ_3 wσ_3 gσ_4 wσ_4 gσ_5 wσ_5 gσ_6 wσ_6 hm42 hge42 gσ_8 wσ_8 gc_10_x_7 c_10 hm75 hge75 szσ_15 gσ_15 wσ_15 gc_17_x_14 c_17 c_18 c_22 if_23 gc_24_x_11 gc_24_f_23 c_24 if_25 gc_26_f_25 c_26 kc_27 ahpσ_29 bhpσ_29 chpσ_29 gσ_29 wσ_29; omega) | omega)), (fun j h0 h1 => kqσ_29 j (by first | (clear hn gσ wσ hh gσ_1 wσ_1 gσ_2 wσ_2 gσ_3 wσ_3 gσ_4 wσ_4 gσ_5 wσ_5 gσ_6 wσ_6 hm42 hge42 gσ_8 wσ_8 gc_10_x_7 c_10 hm75 hge75 szσ_15 gσ_15 wσ_15 gc_17_x_14 c_17 c_18 c_22 if_23 gc_24_x_11 gc_24_f_23 c_24 if_25 gc_26_f_25 c_26 kc_27 ahpσ_29 bhpσ_29 chpσ_29 gσ_29 wσ_29; omega) | omega)), (hF.trans hout), fr_σ_29⟩ dX12_lay_288
                    · skip
                      replace hF := q_ifn hF c_26
                      refine lv_aload_n hx hb dX12_lay_262 rfl (lv_at hl 0 rfl) ?_
                      refine gs_X12_35_12 E hI ha dX12_lay_263 ?_
                      refine lv_bipush (v := 8) hx hb dX12_lay_266 (by decide) ?_
                      refine q_iald E hI (q_tk (k' := 34) hI ha rfl (by decide)) ⟨by decide, rfl⟩ (by decide) (by rw [q_lnk (v := 4650) hI (q_tk (k' := 34) hI ha rfl (by decide)) rfl (by decide)]; decide) dX12_lay_268 ?_
                      refine lv_topi (fun f_30 ef_30 => ?_)
                      replace hF := q_letX hF ef_30
                      have if_30 : f_30.toInt = m_c X σ a 8 := (m_rd ef_30 (by decide)).trans (congrFun fxσ_15 _)
                      refine q_if_ge (A := f_30.toInt) E rfl (tgt := 282) dX12_lay_269 (by decide) (fun c_31 => ?_) (fun c_31 => ?_)
                      · skip
                        replace hF := q_ifn hF (Int.not_lt.mpr c_31)
                        refine lv_aload_n hx hb dX12_lay_282 rfl (lv_at hl 0 rfl) ?_
                        refine lv_bipush (v := 9) hx hb dX12_lay_283 (by decide) ?_
                        have kc_32 : (9 : Int32).toInt = 9 := rfl
                        refine q_ci (q_runV (As := [.int 9]) (rest := []) E (hml.trans hl.1.symm) hI (c_X12_refuse l X σ_15 a (9 : Int32) ha) kv_X12_284 ha ⟨rfl, by decide⟩ (show vwCl[11]? = some (RX12, TX12, 46) from rfl) rfl ⟨Nat.le_of_ble_eq_true rfl, Nat.le_of_ble_eq_true rfl⟩ ⟨Nat.le_refl _, Nat.le_refl _⟩ rfl (Nat.le_of_ble_eq_true rfl) dX12_lay_285) hI (by decide) (fun r_33 σ_34 H locs hpσ_34 hkσ_34 hI => ?_)
                        obtain ⟨ahpσ_34, bhpσ_34, chpσ_34⟩ := hpσ_34
                        have fr_σ_34 := fr_σ_15.call chpσ_34 rfl rfl
                        replace hF := q_biX hF bhpσ_34
                        have mcσ_34 := m_cK hkσ_34 hI.1 ha (by decide)
                        have gσ_34 : m_G (m_c X σ_34 a) := m_G.ext (fun j _ _ => mcσ_34 j) gσ_15
                        have wσ_34 : m_W (m_c X σ_34 a) n := m_W.ext (fun j _ _ => mcσ_34 j) wσ_15
                        have kqσ_34 : ∀ j, 654 ≤ j → m_c X σ_34 a j = m_c X σ a j := fun j h => (mcσ_34 j).trans (kqσ_15 j h)
                        have fxσ_34 : m_c X σ_34 a = m_c X σ a := (funext mcσ_34).trans fxσ_15
                        exact q_reti E hr hlk hI ⟨gσ_34, (by first | exact m_W.le vσ_34 (by omega) | exact m_W.le wσ_34 (by first | (clear hn gσ wσ hh gσ_1 wσ_1 gσ_2 wσ_2 gσ_3 wσ_3 gσ_4 wσ_4 gσ_5 wσ_5 gσ_6 wσ_6 hm42 hge42 gσ_8 wσ_8 gc_10_x_7 c_10 hm75 hge75 szσ_15 gσ_15 wσ_15 gc_17_x_14 c_17 c_18 c_22 if_23 gc_24_x_11 gc_24_f_23 c_24 if_25 gc_26_f_25 c_26 if_30 c_31 kc_32 ahpσ_34 bhpσ_34 chpσ_34 gσ_34 wσ_34; omega) | omega)), (fun j h0 h1 => kqσ_34 j (by first | (clear hn gσ wσ hh gσ_1 wσ_1 gσ_2 wσ_2 gσ_3 wσ_3 gσ_4 wσ_4 gσ_5 wσ_5 gσ_6 wσ_6 hm42 hge42 gσ_8 wσ_8 gc_10_x_7 c_10 hm75 hge75 szσ_15 gσ_15 wσ_15 gc_17_x_14 c_17 c_18 c_22 if_23 gc_24_x_11 gc_24_f_23 c_24 if_25 gc_26_f_25 c_26 if_30 c_31 kc_32 ahpσ_34 bhpσ_34 chpσ_34 gσ_34 wσ_34; omega) | omega)), (hF.trans hout), fr_σ_34⟩ dX12_lay_288
                      · skip
                        replace hF := q_ifp hF c_31
                        refine lv_aload_n hx hb dX12_lay_272 rfl (lv_at hl 0 rfl) ?_
                        refine gs_X12_35_12 E hI ha dX12_lay_273 ?_
                        refine lv_bipush (v := 6) hx hb dX12_lay_276 (by decide) ?_
                        refine q_iald E hI (q_tk (k' := 34) hI ha rfl (by decide)) ⟨by decide, rfl⟩ (by decide) (by rw [q_lnk (v := 4650) hI (q_tk (k' := 34) hI ha rfl (by decide)) rfl (by decide)]; decide) dX12_lay_278 ?_
                        refine lv_topi (fun f_35 ef_35 => ?_)
                        replace hF := q_letX hF ef_35
                        have if_35 : f_35.toInt = m_c X σ a 6 := (m_rd ef_35 (by decide)).trans (congrFun fxσ_15 _)
                        refine q_if_ge (A := f_35.toInt) E rfl (tgt := 289) dX12_lay_279 (by decide) (fun c_36 => ?_) (fun c_36 => ?_)
                        · skip
                          replace hF := q_ifn hF (Int.not_lt.mpr c_36)
                          refine lv_iconst (v := 0) hx hb dX12_lay_289 (by decide) ?_
                          refine lv_istore (lv' := [(8, .int 0), (0, .ref a), (1, .int v1), (2, .int v2), (3, .int v3), (4, .int v4), (5, .int x_11), (6, .int x_12), (7, .int x_13)]) hx hb dX12_lay_290 hl (by decide) rfl (fun ls hl => ?_)
                          have L_292_38 : ∀ (k_38 : Nat) (x_37 : Int32) (H : Heap) (locs : List Loc) (ls : Array Slot), (2147483647 - x_37.toInt).toNat < k_38 → (0 ≤ x_37.toInt ∧ x_37.toInt ≤ 10) → (∀ t, 0 ≤ t → t < x_37.toInt → m_of σ_15 (q_rf X a 28) t ≤ m_c X σ a (34 + 10 * m_c X σ a 6 + t)) → (F_X12_lay_L292_5 X σ_15 a k_38 x_37 = out) → q_I X 1 σ s.heap locs σ_15 H → lv_has ls 9 [(0, .ref a), (1, .int v1), (2, .int v2), (3, .int v3), (4, .int v4), (5, .int x_11), (6, .int x_12), (7, .int x_13), (8, .int x_37)] → W p l e (q_rm 2 46) s m ([.ref a, .int v1, .int v2, .int v3, .int v4] : List Value).toArray below meth c H locs 0 0 (MQ below (q_Qi X 1 σ (fun (r : Int32) (σ' : ST) => (m_G (m_c X σ' a)) ∧ (m_W (m_c X σ' a) (n + 301)) ∧ (∀ j, 930 ≤ j → j < 3720 → m_c X σ' a j = m_c X σ a j) ∧ (r, σ') = F_X12_lay X σ a v1 v2 v3 v4 ∧ q_ow [(12, 0), (12, 1), (34, 99), (39, 99), (40, 99)] [] X σ σ')) ([.ref a, .int v1, .int v2, .int v3, .int v4] : List Value).toArray s 0 0 (q_reg X)) (F0 m 292 ls []) := by
                            clear hF
                            intro k_38
                            induction k_38 with
                            | zero =>
                              intro x_37 H locs ls hms
                              exact absurd hms (Nat.not_lt_zero _)
                            | succ k_38 ih292 =>
                              intro x_37 H locs ls hm292 hge292 hq292 hF hI hl
                              replace hF := (F_X12_lay_L292_5_s).symm.trans hF
                              unfold F_X12_lay_B292_5 at hF
                              refine lv_iload hx hb dX12_lay_292 (lv_at hl 8 rfl) ?_
                              refine lv_bipush (v := 10) hx hb dX12_lay_294 (by decide) ?_
                              have gc_39_x_37 := q_rng x_37
                              refine q_icmp_ge (A := x_37.toInt) (B := 10) E rfl (by decide) (tgt := 335) dX12_lay_296 (by decide) (fun c_39 => ?_) (fun c_39 => ?_)
                              · skip
                                replace hF := q_ifn hF (Int.not_lt.mpr c_39)
                                unfold F_X12_lay_E335_6 at hF
                                refine lv_aload_n hx hb dX12_lay_335 rfl (lv_at hl 0 rfl) ?_
                                refine lv_aload_n hx hb dX12_lay_336 rfl (lv_at hl 0 rfl) ?_
                                refine gs_X12_35_12 E hI ha dX12_lay_337 ?_
                                refine lv_bipush (v := 6) hx hb dX12_lay_340 (by decide) ?_
                                refine q_iald E hI (q_tk (k' := 34) hI ha rfl (by decide)) ⟨by decide, rfl⟩ (by decide) (by rw [q_lnk (v := 4650) hI (q_tk (k' := 34) hI ha rfl (by decide)) rfl (by decide)]; decide) dX12_lay_342 ?_
                                refine lv_topi (fun f_40 ef_40 => ?_)
                                replace hF := q_letX hF ef_40
                                have if_40 : f_40.toInt = m_c X σ a 6 := (m_rd ef_40 (by decide)).trans (congrFun fxσ_15 _)
                                refine lv_aload_n hx hb dX12_lay_343 rfl (lv_at hl 0 rfl) ?_
                                refine gs_X12_47_12 E hI ha dX12_lay_344 ?_
                                refine q_cv (q_runV (As := [.int f_40, .ref (q_rf X a 28)]) (rest := []) E (hml.trans hl.1.symm) hI (c_X12_laysDown l X σ_15 a f_40 (q_rf X a 28) ha (q_tk (k' := 39) hI ha rfl (by decide)) (by rw [fxσ_15, if_40]; exact ⟨hG, by omega, fun k a b => ⟨nnσ_15 k a b, hq292 k a (by first | (clear hn gσ wσ hh gσ_1 wσ_1 gσ_2 wσ_2 gσ_3 wσ_3 gσ_4 wσ_4 gσ_5 wσ_5 gσ_6 wσ_6 hm42 hge42 gσ_8 wσ_8 gc_10_x_7 c_10 hm75 hge75 szσ_15 gσ_15 wσ_15 gc_17_x_14 c_17 c_18 c_22 if_23 gc_24_x_11 gc_24_f_23 c_24 if_25 gc_26_f_25 c_26 if_30 c_31 if_35 c_36 hm292 hq292 gc_39_x_37 if_40; omega) | omega)⟩, by omega⟩) (by rw [fxσ_15]; omega)) kv_X12_311 ha ⟨rfl, by decide⟩ (show vwCl[11]? = some (RX12, TX12, 46) from rfl) rfl ⟨Nat.le_of_ble_eq_true rfl, Nat.le_of_ble_eq_true rfl⟩ ⟨Nat.le_refl _, Nat.le_refl _⟩ rfl (Nat.le_of_ble_eq_true rfl) dX12_lay_347) hI (by decide) (fun σ_42 H locs hpσ_42 hkσ_42 hI => ?_)
                                obtain ⟨ahpσ_42, bhpσ_42, chpσ_42, dhpσ_42, ehpσ_42, fhpσ_42, ghpσ_42, hhpσ_42⟩ := hpσ_42
                                have fr_σ_42 := fr_σ_15.call hhpσ_42 rfl rfl
                                replace hF := q_letX hF ghpσ_42
                                have gσ_42 : m_G (m_c X σ_42 a) := ahpσ_42
                                have wσ_42 : m_W (m_c X σ_42 a) n := m_W.ext (fun j h0 h1 => bhpσ_42 j (by first | (clear hn gσ wσ hh gσ_1 wσ_1 gσ_2 wσ_2 gσ_3 wσ_3 gσ_4 wσ_4 gσ_5 wσ_5 gσ_6 wσ_6 hm42 hge42 gσ_8 wσ_8 gc_10_x_7 c_10 hm75 hge75 szσ_15 gσ_15 wσ_15 gc_17_x_14 c_17 c_18 c_22 if_23 gc_24_x_11 gc_24_f_23 c_24 if_25 gc_26_f_25 c_26 if_30 c_31 if_35 c_36 hm292 hge292 hq292 gc_39_x_37 c_39 if_40 ahpσ_42 bhpσ_42 chpσ_42 dhpσ_42 ehpσ_42 fhpσ_42 gσ_42; omega) | omega) (by first | (clear hn gσ wσ hh gσ_1 wσ_1 gσ_2 wσ_2 gσ_3 wσ_3 gσ_4 wσ_4 gσ_5 wσ_5 gσ_6 wσ_6 hm42 hge42 gσ_8 wσ_8 gc_10_x_7 c_10 hm75 hge75 szσ_15 gσ_15 wσ_15 gc_17_x_14 c_17 c_18 c_22 if_23 gc_24_x_11 gc_24_f_23 c_24 if_25 gc_26_f_25 c_26 if_30 c_31 if_35 c_36 hm292 hge292 hq292 gc_39_x_37 c_39 if_40 ahpσ_42 bhpσ_42 chpσ_42 dhpσ_42 ehpσ_42 fhpσ_42 gσ_42; omega) | omega)) wσ_15
                                have kqσ_42 : ∀ j, 654 ≤ j → m_c X σ_42 a j = m_c X σ a j := (fun j h => (bhpσ_42 j (by first | (clear hn gσ wσ hh gσ_1 wσ_1 gσ_2 wσ_2 gσ_3 wσ_3 gσ_4 wσ_4 gσ_5 wσ_5 gσ_6 wσ_6 hm42 hge42 gσ_8 wσ_8 gc_10_x_7 c_10 hm75 hge75 szσ_15 gσ_15 wσ_15 gc_17_x_14 c_17 c_18 c_22 if_23 gc_24_x_11 gc_24_f_23 c_24 if_25 gc_26_f_25 c_26 if_30 c_31 if_35 c_36 hm292 hge292 hq292 gc_39_x_37 c_39 if_40 ahpσ_42 bhpσ_42 chpσ_42 dhpσ_42 ehpσ_42 fhpσ_42 gσ_42 wσ_42; omega) | omega) (by first | (clear hn gσ wσ hh gσ_1 wσ_1 gσ_2 wσ_2 gσ_3 wσ_3 gσ_4 wσ_4 gσ_5 wσ_5 gσ_6 wσ_6 hm42 hge42 gσ_8 wσ_8 gc_10_x_7 c_10 hm75 hge75 szσ_15 gσ_15 wσ_15 gc_17_x_14 c_17 c_18 c_22 if_23 gc_24_x_11 gc_24_f_23 c_24 if_25 gc_26_f_25 c_26 if_30 c_31 if_35 c_36 hm292 hge292 hq292 gc_39_x_37 c_39 if_40 ahpσ_42 bhpσ_42 chpσ_42 dhpσ_42 ehpσ_42 fhpσ_42 gσ_42 wσ_42; omega) | omega)).trans (kqσ_15 j h))
                                refine lv_aload_n hx hb dX12_lay_350 rfl (lv_at hl 0 rfl) ?_
                                refine q_ci (q_runV (As := []) (rest := []) E (hml.trans hl.1.symm) hI (c_X12_heapMany l X σ_42 a ha gσ_42) kv_X12_287 ha ⟨rfl, by decide⟩ (show vwCl[11]? = some (RX12, TX12, 46) from rfl) rfl ⟨Nat.le_of_ble_eq_true rfl, Nat.le_of_ble_eq_true rfl⟩ ⟨Nat.le_refl _, Nat.le_refl _⟩ rfl (Nat.le_of_ble_eq_true rfl) dX12_lay_351) hI (by decide) (fun r_43 σ_44 H locs hpσ_44 hkσ_44 hI => ?_)
                                obtain ⟨ahpσ_44, bhpσ_44, chpσ_44, dhpσ_44⟩ := hpσ_44
                                rw [ahpσ_44] at hI
                                replace hF := q_letX hF dhpσ_44
                                exact q_reti E hr hlk hI ⟨gσ_42, (by first | exact m_W.le vσ_42 (by omega) | exact m_W.le wσ_42 (by first | (clear hn gσ wσ hh gσ_1 wσ_1 gσ_2 wσ_2 gσ_3 wσ_3 gσ_4 wσ_4 gσ_5 wσ_5 gσ_6 wσ_6 hm42 hge42 gσ_8 wσ_8 gc_10_x_7 c_10 hm75 hge75 szσ_15 gσ_15 wσ_15 gc_17_x_14 c_17 c_18 c_22 if_23 gc_24_x_11 gc_24_f_23 c_24 if_25 gc_26_f_25 c_26 if_30 c_31 if_35 c_36 hm292 hge292 hq292 gc_39_x_37 c_39 if_40 ahpσ_42 bhpσ_42 chpσ_42 dhpσ_42 ehpσ_42 fhpσ_42 gσ_42 wσ_42 ahpσ_44 bhpσ_44 chpσ_44 dhpσ_44; omega) | omega)), (fun j h0 h1 => kqσ_42 j (by first | (clear hn gσ wσ hh gσ_1 wσ_1 gσ_2 wσ_2 gσ_3 wσ_3 gσ_4 wσ_4 gσ_5 wσ_5 gσ_6 wσ_6 hm42 hge42 gσ_8 wσ_8 gc_10_x_7 c_10 hm75 hge75 szσ_15 gσ_15 wσ_15 gc_17_x_14 c_17 c_18 c_22 if_23 gc_24_x_11 gc_24_f_23 c_24 if_25 gc_26_f_25 c_26 if_30 c_31 if_35 c_36 hm292 hge292 hq292 gc_39_x_37 c_39 if_40 ahpσ_42 bhpσ_42 chpσ_42 dhpσ_42 ehpσ_42 fhpσ_42 gσ_42 wσ_42 ahpσ_44 bhpσ_44 chpσ_44 dhpσ_44; omega) | omega)), (hF.trans hout), fr_σ_42⟩ dX12_lay_354
                              · skip
                                replace hF := q_ifp hF c_39
                                refine lv_aload_n hx hb dX12_lay_299 rfl (lv_at hl 0 rfl) ?_
                                refine gs_X12_47_12 E hI ha dX12_lay_300 ?_
                                refine lv_iload hx hb dX12_lay_303 (lv_at hl 8 rfl) ?_
                                refine q_iald E hI (q_tk (k' := 39) hI ha rfl (by decide)) ⟨by decide, rfl⟩ (by first | (clear hn gσ wσ hh gσ_1 wσ_1 gσ_2 wσ_2 gσ_3 wσ_3 gσ_4 wσ_4 gσ_5 wσ_5 gσ_6 wσ_6 hm42 hge42 gσ_8 wσ_8 gc_10_x_7 c_10 hm75 hge75 szσ_15 gσ_15 wσ_15 gc_17_x_14 c_17 c_18 c_22 if_23 gc_24_x_11 gc_24_f_23 c_24 if_25 gc_26_f_25 c_26 if_30 c_31 if_35 c_36 hm292 hq292 gc_39_x_37; omega) | omega) (by rw [q_lnk (v := 10) hI (q_tk (k' := 39) hI ha rfl (by decide)) rfl (by decide)]; omega) dX12_lay_305 ?_
                                refine lv_topi (fun f_45 ef_45 => ?_)
                                replace hF := q_letX hF ef_45
                                have lkf_45 : f_45.toInt = m_of σ_15 (q_rf X a 28) x_37.toInt := by rw [ef_45]; rfl
                                refine lv_aload_n hx hb dX12_lay_306 rfl (lv_at hl 0 rfl) ?_
                                refine lv_aload_n hx hb dX12_lay_307 rfl (lv_at hl 0 rfl) ?_
                                refine gs_X12_35_12 E hI ha dX12_lay_308 ?_
                                refine lv_bipush (v := 6) hx hb dX12_lay_311 (by decide) ?_
                                refine q_iald E hI (q_tk (k' := 34) hI ha rfl (by decide)) ⟨by decide, rfl⟩ (by decide) (by rw [q_lnk (v := 4650) hI (q_tk (k' := 34) hI ha rfl (by decide)) rfl (by decide)]; decide) dX12_lay_313 ?_
                                refine lv_topi (fun f_46 ef_46 => ?_)
                                replace hF := q_letX hF ef_46
                                have if_46 : f_46.toInt = m_c X σ a 6 := (m_rd ef_46 (by decide)).trans (congrFun fxσ_15 _)
                                refine lv_iload hx hb dX12_lay_314 (lv_at hl 8 rfl) ?_
                                refine q_ci (q_runV (As := [.int f_46, .int x_37]) (rest := [.int f_45]) E (hml.trans hl.1.symm) hI (c_X12_handOf l X σ_15 a f_46 x_37 ha (by first | (clear hn gσ wσ gσ_1 wσ_1 gσ_2 wσ_2 gσ_3 wσ_3 gσ_4 wσ_4 gσ_5 wσ_5 gσ_6 wσ_6 hm42 hge42 gσ_8 wσ_8 gc_10_x_7 c_10 hm75 hge75 szσ_15 gσ_15 wσ_15 gc_17_x_14 c_17 c_18 c_22 if_23 gc_24_x_11 gc_24_f_23 c_24 if_25 gc_26_f_25 c_26 if_30 c_31 hm292 hge292 hq292 gc_39_x_37 c_39 lkf_45; omega) | omega) (by first | (clear hn gσ wσ hh gσ_1 wσ_1 gσ_2 wσ_2 gσ_3 wσ_3 gσ_4 wσ_4 gσ_5 wσ_5 gσ_6 wσ_6 hm42 hge42 gσ_8 wσ_8 gc_10_x_7 c_10 hm75 hge75 szσ_15 gσ_15 wσ_15 gc_17_x_14 c_17 c_18 c_22 if_23 gc_24_x_11 gc_24_f_23 c_24 if_25 gc_26_f_25 c_26 if_30 c_31 if_35 c_36 hm292 hq292 gc_39_x_37 lkf_45 if_46; omega) | omega)) kv_X12_276 ha ⟨rfl, by decide⟩ (show vwCl[11]? = some (RX12, TX12, 46) from rfl) rfl ⟨Nat.le_of_ble_eq_true rfl, Nat.le_of_ble_eq_true rfl⟩ ⟨Nat.le_refl _, Nat.le_refl _⟩ rfl (Nat.le_of_ble_eq_true rfl) dX12_lay_316) hI (by decide) (fun r_47 σ_48 H locs hpσ_48 hkσ_48 hI => ?_)
                                obtain ⟨ahpσ_48, bhpσ_48, chpσ_48⟩ := hpσ_48
                                rw [ahpσ_48] at hI
                                rw [fxσ_15] at bhpσ_48
                                replace hF := q_letX hF chpσ_48
                                have ir_47 : r_47.toInt = (m_c X σ a (34 + 10 * (m_c X σ a 6) + x_37.toInt)) := (by first | exact bhpσ_48 | (rw [bhpσ_48, if_46]) | (simp only [bhpσ_48, if_46]))
                                have gc_49_f_45 := q_rng f_45
                                have gc_49_r_47 := q_rng r_47
                                refine q_icmp_le (A := f_45.toInt) (B := r_47.toInt) E rfl rfl (tgt := 329) dX12_lay_319 (by decide) (fun c_49 => ?_) (fun c_49 => ?_)
                                · skip
                                  replace hF := q_ifn hF (Int.not_lt.mpr c_49)
                                  obtain ⟨z_50, ez_50⟩ : ∃ y : Int32, y = x_37 + 1 := ⟨_, rfl⟩
                                  replace hF := q_letX hF ez_50
                                  refine lv_iinc (v := z_50) (lv' := [(8, .int z_50), (0, .ref a), (1, .int v1), (2, .int v2), (3, .int v3), (4, .int v4), (5, .int x_11), (6, .int x_12), (7, .int x_13)]) hx hb dX12_lay_329 hl (k := 8) rfl (by rw [ez_50]; rfl) (by decide) rfl (fun ls hl => ?_)
                                  have iz_50 : z_50.toInt = x_37.toInt + 1 := q_inc ez_50 (by first | (clear hn gσ wσ hh gσ_1 wσ_1 gσ_2 wσ_2 gσ_3 wσ_3 gσ_4 wσ_4 gσ_5 wσ_5 gσ_6 wσ_6 hm42 hge42 gσ_8 wσ_8 gc_10_x_7 c_10 hm75 hge75 szσ_15 gσ_15 wσ_15 gc_17_x_14 c_17 c_18 c_22 if_23 gc_24_x_11 gc_24_f_23 c_24 if_25 gc_26_f_25 c_26 if_30 c_31 if_35 c_36 hm292 hq292 gc_39_x_37 lkf_45 if_46 ahpσ_48 bhpσ_48 chpσ_48 ir_47 gc_49_f_45 gc_49_r_47 c_49; omega) | omega)
                                  have hqz_50 : ∀ t, 0 ≤ t → t < z_50.toInt → m_of σ_15 (q_rf X a 28) t ≤ m_c X σ a (34 + 10 * m_c X σ a 6 + t) := fun t h0 h1 => if w : t = x_37.toInt then (by rw [w]; omega) else hq292 t h0 (by first | (clear hn gσ wσ hh gσ_1 wσ_1 gσ_2 wσ_2 gσ_3 wσ_3 gσ_4 wσ_4 gσ_5 wσ_5 gσ_6 wσ_6 hm42 hge42 gσ_8 wσ_8 gc_10_x_7 c_10 hm75 hge75 szσ_15 gσ_15 wσ_15 gc_17_x_14 c_17 c_18 c_22 if_23 gc_24_x_11 gc_24_f_23 c_24 if_25 gc_26_f_25 c_26 if_30 c_31 if_35 c_36 hm292 hge292 hq292 gc_39_x_37 c_39 lkf_45 if_46 ahpσ_48 bhpσ_48 chpσ_48 ir_47 gc_49_f_45 gc_49_r_47 c_49; omega) | omega)
                                  refine lv_goto (tgt := 292) hx hb dX12_lay_332 (by decide) ?_
                                  exact ih292 z_50 _ _ ls (by first | (clear hn gσ wσ hh gσ_1 wσ_1 gσ_2 wσ_2 gσ_3 wσ_3 gσ_4 wσ_4 gσ_5 wσ_5 gσ_6 wσ_6 hm42 hge42 gσ_8 wσ_8 gc_10_x_7 c_10 hm75 hge75 szσ_15 gσ_15 wσ_15 gc_17_x_14 c_17 c_18 c_22 if_23 gc_24_x_11 gc_24_f_23 c_24 if_25 gc_26_f_25 c_26 if_30 c_31 if_35 c_36 hq292 gc_39_x_37 lkf_45 if_46 ahpσ_48 bhpσ_48 chpσ_48 ir_47 gc_49_f_45 gc_49_r_47 c_49; omega) | omega) (by first | (clear hn gσ wσ hh gσ_1 wσ_1 gσ_2 wσ_2 gσ_3 wσ_3 gσ_4 wσ_4 gσ_5 wσ_5 gσ_6 wσ_6 hm42 hge42 gσ_8 wσ_8 gc_10_x_7 c_10 hm75 hge75 szσ_15 gσ_15 wσ_15 gc_17_x_14 c_17 c_18 c_22 if_23 gc_24_x_11 gc_24_f_23 c_24 if_25 gc_26_f_25 c_26 if_30 c_31 if_35 c_36 hm292 hq292 gc_39_x_37 lkf_45 if_46 ahpσ_48 bhpσ_48 chpσ_48 ir_47 gc_49_f_45 gc_49_r_47 c_49; omega) | omega) hqz_50 hF hI (lv_sub hl [1, 2, 3, 4, 5, 6, 7, 8, 0] rfl)
                                · skip
                                  replace hF := q_ifp hF c_49
                                  unfold F_X12_lay_E322_7 at hF
                                  refine lv_aload_n hx hb dX12_lay_322 rfl (lv_at hl 0 rfl) ?_
                                  refine lv_bipush (v := 9) hx hb dX12_lay_323 (by decide) ?_
                                  have kc_51 : (9 : Int32).toInt = 9 := rfl
                                  refine q_ci (q_runV (As := [.int 9]) (rest := []) E (hml.trans hl.1.symm) hI (c_X12_refuse l X σ_15 a (9 : Int32) ha) kv_X12_284 ha ⟨rfl, by decide⟩ (show vwCl[11]? = some (RX12, TX12, 46) from rfl) rfl ⟨Nat.le_of_ble_eq_true rfl, Nat.le_of_ble_eq_true rfl⟩ ⟨Nat.le_refl _, Nat.le_refl _⟩ rfl (Nat.le_of_ble_eq_true rfl) dX12_lay_325) hI (by decide) (fun r_52 σ_53 H locs hpσ_53 hkσ_53 hI => ?_)
                                  obtain ⟨ahpσ_53, bhpσ_53, chpσ_53⟩ := hpσ_53
                                  have fr_σ_53 := fr_σ_15.call chpσ_53 rfl rfl
                                  replace hF := q_biX hF bhpσ_53
                                  have mcσ_53 := m_cK hkσ_53 hI.1 ha (by decide)
                                  have gσ_53 : m_G (m_c X σ_53 a) := m_G.ext (fun j _ _ => mcσ_53 j) gσ_15
                                  have wσ_53 : m_W (m_c X σ_53 a) n := m_W.ext (fun j _ _ => mcσ_53 j) wσ_15
                                  have kqσ_53 : ∀ j, 654 ≤ j → m_c X σ_53 a j = m_c X σ a j := fun j h => (mcσ_53 j).trans (kqσ_15 j h)
                                  have fxσ_53 : m_c X σ_53 a = m_c X σ a := (funext mcσ_53).trans fxσ_15
                                  exact q_reti E hr hlk hI ⟨gσ_53, (by first | exact m_W.le vσ_53 (by omega) | exact m_W.le wσ_53 (by first | (clear hn gσ wσ hh gσ_1 wσ_1 gσ_2 wσ_2 gσ_3 wσ_3 gσ_4 wσ_4 gσ_5 wσ_5 gσ_6 wσ_6 hm42 hge42 gσ_8 wσ_8 gc_10_x_7 c_10 hm75 hge75 szσ_15 gσ_15 wσ_15 gc_17_x_14 c_17 c_18 c_22 if_23 gc_24_x_11 gc_24_f_23 c_24 if_25 gc_26_f_25 c_26 if_30 c_31 if_35 c_36 hm292 hge292 hq292 gc_39_x_37 c_39 lkf_45 if_46 ahpσ_48 bhpσ_48 chpσ_48 ir_47 gc_49_f_45 gc_49_r_47 c_49 kc_51 ahpσ_53 bhpσ_53 chpσ_53 gσ_53 wσ_53; omega) | omega)), (fun j h0 h1 => kqσ_53 j (by first | (clear hn gσ wσ hh gσ_1 wσ_1 gσ_2 wσ_2 gσ_3 wσ_3 gσ_4 wσ_4 gσ_5 wσ_5 gσ_6 wσ_6 hm42 hge42 gσ_8 wσ_8 gc_10_x_7 c_10 hm75 hge75 szσ_15 gσ_15 wσ_15 gc_17_x_14 c_17 c_18 c_22 if_23 gc_24_x_11 gc_24_f_23 c_24 if_25 gc_26_f_25 c_26 if_30 c_31 if_35 c_36 hm292 hge292 hq292 gc_39_x_37 c_39 lkf_45 if_46 ahpσ_48 bhpσ_48 chpσ_48 ir_47 gc_49_f_45 gc_49_r_47 c_49 kc_51 ahpσ_53 bhpσ_53 chpσ_53 gσ_53 wσ_53; omega) | omega)), (hF.trans hout), fr_σ_53⟩ dX12_lay_328
                          have kc_54 : (0 : Int32).toInt = 0 := rfl
                          exact L_292_38 ((2147483647 - (0 : Int32).toInt).toNat + 1) 0 _ _ ls (Nat.lt_succ_self _) (by decide) (fun t h0 h1 => by have q : (0 : Int32).toInt = 0 := rfl; omega) hF hI (lv_sub hl [1, 2, 3, 4, 5, 6, 7, 8, 0] rfl)
                        · skip
                          replace hF := q_ifp hF c_36
                          refine lv_aload_n hx hb dX12_lay_282 rfl (lv_at hl 0 rfl) ?_
                          refine lv_bipush (v := 9) hx hb dX12_lay_283 (by decide) ?_
                          have kc_55 : (9 : Int32).toInt = 9 := rfl
                          refine q_ci (q_runV (As := [.int 9]) (rest := []) E (hml.trans hl.1.symm) hI (c_X12_refuse l X σ_15 a (9 : Int32) ha) kv_X12_284 ha ⟨rfl, by decide⟩ (show vwCl[11]? = some (RX12, TX12, 46) from rfl) rfl ⟨Nat.le_of_ble_eq_true rfl, Nat.le_of_ble_eq_true rfl⟩ ⟨Nat.le_refl _, Nat.le_refl _⟩ rfl (Nat.le_of_ble_eq_true rfl) dX12_lay_285) hI (by decide) (fun r_56 σ_57 H locs hpσ_57 hkσ_57 hI => ?_)
                          obtain ⟨ahpσ_57, bhpσ_57, chpσ_57⟩ := hpσ_57
                          have fr_σ_57 := fr_σ_15.call chpσ_57 rfl rfl
                          replace hF := q_biX hF bhpσ_57
                          have mcσ_57 := m_cK hkσ_57 hI.1 ha (by decide)
                          have gσ_57 : m_G (m_c X σ_57 a) := m_G.ext (fun j _ _ => mcσ_57 j) gσ_15
                          have wσ_57 : m_W (m_c X σ_57 a) n := m_W.ext (fun j _ _ => mcσ_57 j) wσ_15
                          have kqσ_57 : ∀ j, 654 ≤ j → m_c X σ_57 a j = m_c X σ a j := fun j h => (mcσ_57 j).trans (kqσ_15 j h)
                          have fxσ_57 : m_c X σ_57 a = m_c X σ a := (funext mcσ_57).trans fxσ_15
                          exact q_reti E hr hlk hI ⟨gσ_57, (by first | exact m_W.le vσ_57 (by omega) | exact m_W.le wσ_57 (by first | (clear hn gσ wσ hh gσ_1 wσ_1 gσ_2 wσ_2 gσ_3 wσ_3 gσ_4 wσ_4 gσ_5 wσ_5 gσ_6 wσ_6 hm42 hge42 gσ_8 wσ_8 gc_10_x_7 c_10 hm75 hge75 szσ_15 gσ_15 wσ_15 gc_17_x_14 c_17 c_18 c_22 if_23 gc_24_x_11 gc_24_f_23 c_24 if_25 gc_26_f_25 c_26 if_30 c_31 if_35 c_36 kc_55 ahpσ_57 bhpσ_57 chpσ_57 gσ_57 wσ_57; omega) | omega)), (fun j h0 h1 => kqσ_57 j (by first | (clear hn gσ wσ hh gσ_1 wσ_1 gσ_2 wσ_2 gσ_3 wσ_3 gσ_4 wσ_4 gσ_5 wσ_5 gσ_6 wσ_6 hm42 hge42 gσ_8 wσ_8 gc_10_x_7 c_10 hm75 hge75 szσ_15 gσ_15 wσ_15 gc_17_x_14 c_17 c_18 c_22 if_23 gc_24_x_11 gc_24_f_23 c_24 if_25 gc_26_f_25 c_26 if_30 c_31 if_35 c_36 kc_55 ahpσ_57 bhpσ_57 chpσ_57 gσ_57 wσ_57; omega) | omega)), (hF.trans hout), fr_σ_57⟩ dX12_lay_288
                  · skip
                    replace hF := q_ifp hF c_24
                    refine lv_aload_n hx hb dX12_lay_244 rfl (lv_at hl 0 rfl) ?_
                    refine lv_bipush (v := 7) hx hb dX12_lay_245 (by decide) ?_
                    have kc_58 : (7 : Int32).toInt = 7 := rfl
                    refine q_ci (q_runV (As := [.int 7]) (rest := []) E (hml.trans hl.1.symm) hI (c_X12_refuse l X σ_15 a (7 : Int32) ha) kv_X12_284 ha ⟨rfl, by decide⟩ (show vwCl[11]? = some (RX12, TX12, 46) from rfl) rfl ⟨Nat.le_of_ble_eq_true rfl, Nat.le_of_ble_eq_true rfl⟩ ⟨Nat.le_refl _, Nat.le_refl _⟩ rfl (Nat.le_of_ble_eq_true rfl) dX12_lay_247) hI (by decide) (fun r_59 σ_60 H locs hpσ_60 hkσ_60 hI => ?_)
                    obtain ⟨ahpσ_60, bhpσ_60, chpσ_60⟩ := hpσ_60
                    have fr_σ_60 := fr_σ_15.call chpσ_60 rfl rfl
                    replace hF := q_biX hF bhpσ_60
                    have mcσ_60 := m_cK hkσ_60 hI.1 ha (by decide)
                    have gσ_60 : m_G (m_c X σ_60 a) := m_G.ext (fun j _ _ => mcσ_60 j) gσ_15
                    have wσ_60 : m_W (m_c X σ_60 a) n := m_W.ext (fun j _ _ => mcσ_60 j) wσ_15
                    have kqσ_60 : ∀ j, 654 ≤ j → m_c X σ_60 a j = m_c X σ a j := fun j h => (mcσ_60 j).trans (kqσ_15 j h)
                    have fxσ_60 : m_c X σ_60 a = m_c X σ a := (funext mcσ_60).trans fxσ_15
                    exact q_reti E hr hlk hI ⟨gσ_60, (by first | exact m_W.le vσ_60 (by omega) | exact m_W.le wσ_60 (by first | (clear hn gσ wσ hh gσ_1 wσ_1 gσ_2 wσ_2 gσ_3 wσ_3 gσ_4 wσ_4 gσ_5 wσ_5 gσ_6 wσ_6 hm42 hge42 gσ_8 wσ_8 gc_10_x_7 c_10 hm75 hge75 szσ_15 gσ_15 wσ_15 gc_17_x_14 c_17 c_18 c_22 if_23 gc_24_x_11 gc_24_f_23 c_24 kc_58 ahpσ_60 bhpσ_60 chpσ_60 gσ_60 wσ_60; omega) | omega)), (fun j h0 h1 => kqσ_60 j (by first | (clear hn gσ wσ hh gσ_1 wσ_1 gσ_2 wσ_2 gσ_3 wσ_3 gσ_4 wσ_4 gσ_5 wσ_5 gσ_6 wσ_6 hm42 hge42 gσ_8 wσ_8 gc_10_x_7 c_10 hm75 hge75 szσ_15 gσ_15 wσ_15 gc_17_x_14 c_17 c_18 c_22 if_23 gc_24_x_11 gc_24_f_23 c_24 kc_58 ahpσ_60 bhpσ_60 chpσ_60 gσ_60 wσ_60; omega) | omega)), (hF.trans hout), fr_σ_60⟩ dX12_lay_250
                · skip
                  replace hF := q_ifn hF c_22
                  refine lv_aload_n hx hb dX12_lay_227 rfl (lv_at hl 0 rfl) ?_
                  refine lv_iconst (v := 5) hx hb dX12_lay_228 (by decide) ?_
                  have kc_61 : (5 : Int32).toInt = 5 := rfl
                  refine q_ci (q_runV (As := [.int 5]) (rest := []) E (hml.trans hl.1.symm) hI (c_X12_refuse l X σ_15 a (5 : Int32) ha) kv_X12_284 ha ⟨rfl, by decide⟩ (show vwCl[11]? = some (RX12, TX12, 46) from rfl) rfl ⟨Nat.le_of_ble_eq_true rfl, Nat.le_of_ble_eq_true rfl⟩ ⟨Nat.le_refl _, Nat.le_refl _⟩ rfl (Nat.le_of_ble_eq_true rfl) dX12_lay_229) hI (by decide) (fun r_62 σ_63 H locs hpσ_63 hkσ_63 hI => ?_)
                  obtain ⟨ahpσ_63, bhpσ_63, chpσ_63⟩ := hpσ_63
                  have fr_σ_63 := fr_σ_15.call chpσ_63 rfl rfl
                  replace hF := q_biX hF bhpσ_63
                  have mcσ_63 := m_cK hkσ_63 hI.1 ha (by decide)
                  have gσ_63 : m_G (m_c X σ_63 a) := m_G.ext (fun j _ _ => mcσ_63 j) gσ_15
                  have wσ_63 : m_W (m_c X σ_63 a) n := m_W.ext (fun j _ _ => mcσ_63 j) wσ_15
                  have kqσ_63 : ∀ j, 654 ≤ j → m_c X σ_63 a j = m_c X σ a j := fun j h => (mcσ_63 j).trans (kqσ_15 j h)
                  have fxσ_63 : m_c X σ_63 a = m_c X σ a := (funext mcσ_63).trans fxσ_15
                  exact q_reti E hr hlk hI ⟨gσ_63, (by first | exact m_W.le vσ_63 (by omega) | exact m_W.le wσ_63 (by first | (clear hn gσ wσ hh gσ_1 wσ_1 gσ_2 wσ_2 gσ_3 wσ_3 gσ_4 wσ_4 gσ_5 wσ_5 gσ_6 wσ_6 hm42 hge42 gσ_8 wσ_8 gc_10_x_7 c_10 hm75 hge75 szσ_15 gσ_15 wσ_15 gc_17_x_14 c_17 c_18 c_22 kc_61 ahpσ_63 bhpσ_63 chpσ_63 gσ_63 wσ_63; omega) | omega)), (fun j h0 h1 => kqσ_63 j (by first | (clear hn gσ wσ hh gσ_1 wσ_1 gσ_2 wσ_2 gσ_3 wσ_3 gσ_4 wσ_4 gσ_5 wσ_5 gσ_6 wσ_6 hm42 hge42 gσ_8 wσ_8 gc_10_x_7 c_10 hm75 hge75 szσ_15 gσ_15 wσ_15 gc_17_x_14 c_17 c_18 c_22 kc_61 ahpσ_63 bhpσ_63 chpσ_63 gσ_63 wσ_63; omega) | omega)), (hF.trans hout), fr_σ_63⟩ dX12_lay_232
            · skip
              replace hF := q_ifp hF c_17
              refine lv_aload_n hx hb dX12_lay_81 rfl (lv_at hl 0 rfl) ?_
              refine gs_X12_50_12 E hI ha dX12_lay_82 ?_
              refine lv_iload hx hb dX12_lay_85 (lv_at hl 8 rfl) ?_
              refine q_iald E hI (q_tk (k' := 40) hI ha rfl (by decide)) ⟨by decide, rfl⟩ (by first | (clear hn gσ wσ hh gσ_1 wσ_1 gσ_2 wσ_2 gσ_3 wσ_3 gσ_4 wσ_4 gσ_5 wσ_5 gσ_6 wσ_6 hm42 hge42 gσ_8 wσ_8 gc_10_x_7 c_10 hm75 szσ_15 gσ_15 wσ_15 gc_17_x_14; omega) | omega) (by rw [q_lnk (v := 4) hI (q_tk (k' := 40) hI ha rfl (by decide)) rfl (by decide)]; omega) dX12_lay_87 ?_
              refine lv_topi (fun f_64 ef_64 => ?_)
              replace hF := q_letX hF ef_64
              have asf_64 : f_64.toInt = m_of σ_15 (q_rf X a 29) x_14.toInt := by rw [ef_64]; rfl
              refine lv_iconst (v := (-1)) hx hb dX12_lay_88 (by decide) ?_
              have J_112_64 : ∀  (H : Heap) (locs : List Loc) (ls : Array Slot), (m_of σ_15 (q_rf X a 29) x_14.toInt = -1 ∨ (0 ≤ m_of σ_15 (q_rf X a 29) x_14.toInt ∧ m_of σ_15 (q_rf X a 29) x_14.toInt < m_c X σ a 0)) → (F_X12_lay_J112_8 X x_13 σ_15 a x_14 x_12 x_11 (F_X12_lay_L75_3 X a k_16) = out) → q_I X 1 σ s.heap locs σ_15 H → lv_has ls 9 [(0, .ref a), (1, .int v1), (2, .int v2), (3, .int v3), (4, .int v4), (5, .int x_11), (6, .int x_12), (7, .int x_13), (8, .int x_14)] → W p l e (q_rm 2 46) s m ([.ref a, .int v1, .int v2, .int v3, .int v4] : List Value).toArray below meth c H locs 0 0 (MQ below (q_Qi X 1 σ (fun (r : Int32) (σ' : ST) => (m_G (m_c X σ' a)) ∧ (m_W (m_c X σ' a) (n + 301)) ∧ (∀ j, 930 ≤ j → j < 3720 → m_c X σ' a j = m_c X σ a j) ∧ (r, σ') = F_X12_lay X σ a v1 v2 v3 v4 ∧ q_ow [(12, 0), (12, 1), (34, 99), (39, 99), (40, 99)] [] X σ σ')) ([.ref a, .int v1, .int v2, .int v3, .int v4] : List Value).toArray s 0 0 (q_reg X)) (F0 m 112 ls []) := by
                clear hF
                intro  H locs ls j112 hF hI hl
                unfold F_X12_lay_J112_8 at hF
                refine lv_iload hx hb dX12_lay_112 (lv_at hl 7 rfl) ?_
                have J_133_65 : ∀ (x_65 : Int32) (H : Heap) (locs : List Loc) (ls : Array Slot), (F_X12_lay_J133_9 X x_12 σ_15 a x_14 x_11 (F_X12_lay_L75_3 X a k_16) x_65 = out) → q_I X 1 σ s.heap locs σ_15 H → lv_has ls 9 [(0, .ref a), (1, .int v1), (2, .int v2), (3, .int v3), (4, .int v4), (5, .int x_11), (6, .int x_12), (7, .int x_13), (8, .int x_14)] → W p l e (q_rm 2 46) s m ([.ref a, .int v1, .int v2, .int v3, .int v4] : List Value).toArray below meth c H locs 0 0 (MQ below (q_Qi X 1 σ (fun (r : Int32) (σ' : ST) => (m_G (m_c X σ' a)) ∧ (m_W (m_c X σ' a) (n + 301)) ∧ (∀ j, 930 ≤ j → j < 3720 → m_c X σ' a j = m_c X σ a j) ∧ (r, σ') = F_X12_lay X σ a v1 v2 v3 v4 ∧ q_ow [(12, 0), (12, 1), (34, 99), (39, 99), (40, 99)] [] X σ σ')) ([.ref a, .int v1, .int v2, .int v3, .int v4] : List Value).toArray s 0 0 (q_reg X)) (F0 m 133 ls [.int x_65]) := by
                  clear hF
                  intro x_65 H locs ls  hF hI hl
                  unfold F_X12_lay_J133_9 at hF
                  refine lv_istore (lv' := [(7, .int x_65), (0, .ref a), (1, .int v1), (2, .int v2), (3, .int v3), (4, .int v4), (5, .int x_11), (6, .int x_12), (8, .int x_14)]) hx hb dX12_lay_133 hl (by decide) rfl (fun ls hl => ?_)
                  refine lv_iload hx hb dX12_lay_135 (lv_at hl 7 rfl) ?_
                  have J_161_66 : ∀ (x_66 : Int32) (H : Heap) (locs : List Loc) (ls : Array Slot), (F_X12_lay_J161_10 X σ_15 a x_14 x_11 (F_X12_lay_L75_3 X a k_16) x_65 x_66 = out) → q_I X 1 σ s.heap locs σ_15 H → lv_has ls 9 [(0, .ref a), (1, .int v1), (2, .int v2), (3, .int v3), (4, .int v4), (5, .int x_11), (6, .int x_12), (7, .int x_65), (8, .int x_14)] → W p l e (q_rm 2 46) s m ([.ref a, .int v1, .int v2, .int v3, .int v4] : List Value).toArray below meth c H locs 0 0 (MQ below (q_Qi X 1 σ (fun (r : Int32) (σ' : ST) => (m_G (m_c X σ' a)) ∧ (m_W (m_c X σ' a) (n + 301)) ∧ (∀ j, 930 ≤ j → j < 3720 → m_c X σ' a j = m_c X σ a j) ∧ (r, σ') = F_X12_lay X σ a v1 v2 v3 v4 ∧ q_ow [(12, 0), (12, 1), (34, 99), (39, 99), (40, 99)] [] X σ σ')) ([.ref a, .int v1, .int v2, .int v3, .int v4] : List Value).toArray s 0 0 (q_reg X)) (F0 m 161 ls [.int x_66]) := by
                    clear hF
                    intro x_66 H locs ls  hF hI hl
                    unfold F_X12_lay_J161_10 at hF
                    refine lv_istore (lv' := [(6, .int x_66), (0, .ref a), (1, .int v1), (2, .int v2), (3, .int v3), (4, .int v4), (5, .int x_11), (7, .int x_65), (8, .int x_14)]) hx hb dX12_lay_161 hl (by decide) rfl (fun ls hl => ?_)
                    refine lv_iload hx hb dX12_lay_163 (lv_at hl 6 rfl) ?_
                    refine lv_aload_n hx hb dX12_lay_165 rfl (lv_at hl 1 rfl) ?_
                    refine gs_X12_50_12 E hI ha dX12_lay_166 ?_
                    refine lv_iload hx hb dX12_lay_169 (lv_at hl 8 rfl) ?_
                    refine q_iald E hI (q_tk (k' := 40) hI ha rfl (by decide)) ⟨by decide, rfl⟩ (by first | (clear hn gσ wσ hh gσ_1 wσ_1 gσ_2 wσ_2 gσ_3 wσ_3 gσ_4 wσ_4 gσ_5 wσ_5 gσ_6 wσ_6 hm42 hge42 gσ_8 wσ_8 gc_10_x_7 c_10 hm75 szσ_15 gσ_15 wσ_15 gc_17_x_14 asf_64 j112; omega) | omega) (by rw [q_lnk (v := 4) hI (q_tk (k' := 40) hI ha rfl (by decide)) rfl (by decide)]; omega) dX12_lay_171 ?_
                    refine lv_topi (fun f_67 ef_67 => ?_)
                    replace hF := q_letX hF ef_67
                    have asf_67 : f_67.toInt = m_of σ_15 (q_rf X a 29) x_14.toInt := by rw [ef_67]; rfl
                    refine lv_iconst (v := (-1)) hx hb dX12_lay_172 (by decide) ?_
                    have gc_68_f_67 := q_rng f_67
                    refine q_icmp_ne (A := f_67.toInt) (B := (-1)) E rfl (by decide) (tgt := 180) dX12_lay_173 (by decide) (fun c_68 => ?_) (fun c_68 => ?_)
                    · skip
                      replace hF := q_ifn hF c_68
                      refine lv_iconst (v := 1) hx hb dX12_lay_180 (by decide) ?_
                      refine lv_iadd hx hb dX12_lay_181 ?_
                      refine lv_topi (fun z_69 ez_69 => ?_)
                      replace hF := q_letX hF ez_69
                      have iz_69 := q_addI (A := x_11.toInt) (B := 1) ez_69 rfl (by decide) (by first | (clear hn gσ wσ hh gσ_1 wσ_1 gσ_2 wσ_2 gσ_3 wσ_3 gσ_4 wσ_4 gσ_5 wσ_5 gσ_6 wσ_6 hm42 hge42 gσ_8 wσ_8 gc_10_x_7 c_10 hm75 gσ_15 wσ_15 gc_17_x_14 c_17 asf_64 j112 asf_67 gc_68_f_67 c_68; omega) | omega) (by first | (clear hn gσ wσ hh gσ_1 wσ_1 gσ_2 wσ_2 gσ_3 wσ_3 gσ_4 wσ_4 gσ_5 wσ_5 gσ_6 wσ_6 hm42 hge42 gσ_8 wσ_8 gc_10_x_7 c_10 hm75 gσ_15 wσ_15 gc_17_x_14 asf_64 j112 asf_67 gc_68_f_67 c_68; omega) | omega)
                      refine lv_istore (lv' := [(5, .int z_69), (6, .int x_66), (0, .ref a), (1, .int v1), (2, .int v2), (3, .int v3), (4, .int v4), (7, .int x_65), (8, .int x_14)]) hx hb dX12_lay_182 hl (by decide) rfl (fun ls hl => ?_)
                      refine lv_aload_n hx hb dX12_lay_184 rfl (lv_at hl 2 rfl) ?_
                      refine gs_X12_50_12 E hI ha dX12_lay_185 ?_
                      refine lv_iload hx hb dX12_lay_188 (lv_at hl 8 rfl) ?_
                      refine q_iald E hI (q_tk (k' := 40) hI ha rfl (by decide)) ⟨by decide, rfl⟩ (by first | (clear hn gσ wσ hh gσ_1 wσ_1 gσ_2 wσ_2 gσ_3 wσ_3 gσ_4 wσ_4 gσ_5 wσ_5 gσ_6 wσ_6 hm42 hge42 gσ_8 wσ_8 gc_10_x_7 c_10 hm75 szσ_15 gσ_15 wσ_15 gc_17_x_14 asf_64 j112 asf_67 gc_68_f_67 c_68 iz_69; omega) | omega) (by rw [q_lnk (v := 4) hI (q_tk (k' := 40) hI ha rfl (by decide)) rfl (by decide)]; omega) dX12_lay_190 ?_
                      refine lv_topi (fun f_70 ef_70 => ?_)
                      replace hF := q_letX hF ef_70
                      have asf_70 : f_70.toInt = m_of σ_15 (q_rf X a 29) x_14.toInt := by rw [ef_70]; rfl
                      refine lv_iconst (v := (-1)) hx hb dX12_lay_191 (by decide) ?_
                      have gc_71_f_70 := q_rng f_70
                      refine q_icmp_eq (A := f_70.toInt) (B := (-1)) E rfl (by decide) (tgt := 211) dX12_lay_192 (by decide) (fun c_71 => ?_) (fun c_71 => ?_)
                      · skip
                        replace hF := q_ifp hF c_71
                        obtain ⟨z_72, ez_72⟩ : ∃ y : Int32, y = x_14 + 1 := ⟨_, rfl⟩
                        replace hF := q_letX hF ez_72
                        refine lv_iinc (v := z_72) (lv' := [(8, .int z_72), (5, .int z_69), (6, .int x_66), (0, .ref a), (1, .int v1), (2, .int v2), (3, .int v3), (4, .int v4), (7, .int x_65)]) hx hb dX12_lay_211 hl (k := 8) rfl (by rw [ez_72]; rfl) (by decide) rfl (fun ls hl => ?_)
                        have iz_72 : z_72.toInt = x_14.toInt + 1 := q_inc ez_72 (by first | (clear hn gσ wσ hh gσ_1 wσ_1 gσ_2 wσ_2 gσ_3 wσ_3 gσ_4 wσ_4 gσ_5 wσ_5 gσ_6 wσ_6 hm42 hge42 gσ_8 wσ_8 gc_10_x_7 c_10 hm75 szσ_15 gσ_15 wσ_15 gc_17_x_14 asf_64 j112 asf_67 gc_68_f_67 c_68 iz_69 asf_70 gc_71_f_70 c_71; omega) | omega)
                        refine lv_goto (tgt := 75) hx hb dX12_lay_214 (by decide) ?_
                        exact ih75 z_69 x_66 x_65 z_72 σ_15 _ _ ls (by first | (clear hn gσ wσ hh gσ_1 wσ_1 gσ_2 wσ_2 gσ_3 wσ_3 gσ_4 wσ_4 gσ_5 wσ_5 gσ_6 wσ_6 hm42 hge42 gσ_8 wσ_8 gc_10_x_7 c_10 hm75 szσ_15 gσ_15 wσ_15 gc_17_x_14 asf_64 j112 gc_68_f_67 iz_69 gc_71_f_70; omega) | omega) (by first | (clear hn gσ wσ hh gσ_1 wσ_1 gσ_2 wσ_2 gσ_3 wσ_3 gσ_4 wσ_4 gσ_5 wσ_5 gσ_6 wσ_6 hm42 hge42 gσ_8 wσ_8 gc_10_x_7 c_10 hm75 gσ_15 wσ_15 gc_17_x_14 asf_64 j112 asf_67 gc_68_f_67 c_68 asf_70 gc_71_f_70 c_71; omega) | omega) (by first | (clear hn gσ wσ hh gσ_1 wσ_1 gσ_2 wσ_2 gσ_3 wσ_3 gσ_4 wσ_4 gσ_5 wσ_5 gσ_6 wσ_6 hm42 hge42 gσ_8 wσ_8 gc_10_x_7 c_10 hm75 hge75 gσ_15 wσ_15 gc_17_x_14 c_17 asf_64 j112 gc_68_f_67 gc_71_f_70 iz_72; omega) | omega) nnσ_15 fr_σ_15 gσ_15 wσ_15 kqσ_15 fxσ_15 hF hI (lv_sub hl [3, 4, 5, 6, 7, 1, 2, 8, 0] rfl)
                      · skip
                        replace hF := q_ifn hF c_71
                        refine lv_aload_n hx hb dX12_lay_195 rfl (lv_at hl 2 rfl) ?_
                        refine gs_X12_47_12 E hI ha dX12_lay_196 ?_
                        refine lv_aload_n hx hb dX12_lay_199 rfl (lv_at hl 2 rfl) ?_
                        refine gs_X12_50_12 E hI ha dX12_lay_200 ?_
                        refine lv_iload hx hb dX12_lay_203 (lv_at hl 8 rfl) ?_
                        refine q_iald E hI (q_tk (k' := 40) hI ha rfl (by decide)) ⟨by decide, rfl⟩ (by first | (clear hn gσ wσ hh gσ_1 wσ_1 gσ_2 wσ_2 gσ_3 wσ_3 gσ_4 wσ_4 gσ_5 wσ_5 gσ_6 wσ_6 hm42 hge42 gσ_8 wσ_8 gc_10_x_7 c_10 hm75 szσ_15 gσ_15 wσ_15 gc_17_x_14 asf_64 j112 asf_67 gc_68_f_67 c_68 iz_69 asf_70 gc_71_f_70 c_71; omega) | omega) (by rw [q_lnk (v := 4) hI (q_tk (k' := 40) hI ha rfl (by decide)) rfl (by decide)]; omega) dX12_lay_205 ?_
                        refine lv_topi (fun f_73 ef_73 => ?_)
                        replace hF := q_letX hF ef_73
                        have asf_73 : f_73.toInt = m_of σ_15 (q_rf X a 29) x_14.toInt := by rw [ef_73]; rfl
                        refine lv_dup2_11 hx hb dX12_lay_206 rfl rfl ?_
                        refine q_iald E hI (q_tk (k' := 39) hI ha rfl (by decide)) ⟨by decide, rfl⟩ (by first | (clear hn gσ wσ hh gσ_1 wσ_1 gσ_2 wσ_2 gσ_3 wσ_3 gσ_4 wσ_4 gσ_5 wσ_5 gσ_6 wσ_6 hm42 hge42 gσ_8 wσ_8 gc_10_x_7 c_10 hm75 hge75 szσ_15 gσ_15 wσ_15 gc_17_x_14 c_17 asf_64 iz_69 gc_71_f_70; omega) | omega) (by rw [q_lnk (v := 10) hI (q_tk (k' := 39) hI ha rfl (by decide)) rfl (by decide)]; omega) dX12_lay_207 ?_
                        refine lv_topi (fun f_74 ef_74 => ?_)
                        replace hF := q_letX hF ef_74
                        have lyf_74 : f_74.toInt = m_of σ_15 (q_rf X a 28) (m_of σ_15 (q_rf X a 29) x_14.toInt) := by rw [ef_74, ← asf_73]; rfl
                        have lbf_74 := m_S_ge (c := m_of σ_15 (q_rf X a 28)) (b := 0) (A := m_of σ_15 (q_rf X a 29) x_14.toInt) (n := 10) (fun j a b => nnσ_15 j a (by first | (clear hn gσ wσ hh gσ_1 wσ_1 gσ_2 wσ_2 gσ_3 wσ_3 gσ_4 wσ_4 gσ_5 wσ_5 gσ_6 wσ_6 hm42 hge42 gσ_8 wσ_8 gc_10_x_7 c_10 hm75 hge75 szσ_15 gσ_15 wσ_15 gc_17_x_14 c_17 asf_64 j112 asf_67 gc_68_f_67 c_68 iz_69 asf_70 gc_71_f_70 c_71 asf_73 lyf_74; omega) | omega)) (by first | (clear hn gσ wσ hh gσ_1 wσ_1 gσ_2 wσ_2 gσ_3 wσ_3 gσ_4 wσ_4 gσ_5 wσ_5 gσ_6 wσ_6 hm42 hge42 gσ_8 wσ_8 gc_10_x_7 c_10 hm75 hge75 szσ_15 gσ_15 wσ_15 gc_17_x_14 c_17 asf_64 iz_69 gc_71_f_70 lyf_74; omega) | omega) (by first | (clear hn gσ wσ gσ_1 wσ_1 gσ_2 wσ_2 gσ_3 wσ_3 gσ_4 wσ_4 gσ_5 wσ_5 gσ_6 wσ_6 hm42 hge42 gσ_8 wσ_8 gc_10_x_7 c_10 hm75 hge75 szσ_15 gσ_15 wσ_15 gc_17_x_14 c_17 asf_64 iz_69 gc_71_f_70 lyf_74; omega) | omega)
                        have lnf_74 := nnσ_15 (m_of σ_15 (q_rf X a 29) x_14.toInt) (by first | (clear hn gσ wσ hh gσ_1 wσ_1 gσ_2 wσ_2 gσ_3 wσ_3 gσ_4 wσ_4 gσ_5 wσ_5 gσ_6 wσ_6 hm42 hge42 gσ_8 wσ_8 gc_10_x_7 c_10 hm75 hge75 szσ_15 gσ_15 wσ_15 gc_17_x_14 c_17 asf_64 iz_69 gc_71_f_70 lyf_74 lbf_74; omega) | omega) (by first | (clear hn gσ wσ gσ_1 wσ_1 gσ_2 wσ_2 gσ_3 wσ_3 gσ_4 wσ_4 gσ_5 wσ_5 gσ_6 wσ_6 hm42 hge42 gσ_8 wσ_8 gc_10_x_7 c_10 hm75 hge75 szσ_15 gσ_15 wσ_15 gc_17_x_14 c_17 asf_64 iz_69 gc_71_f_70 lyf_74 lbf_74; omega) | omega)
                        refine lv_iconst (v := 1) hx hb dX12_lay_208 (by decide) ?_
                        refine lv_iadd hx hb dX12_lay_209 ?_
                        refine lv_topi (fun z_75 ez_75 => ?_)
                        replace hF := q_letX hF ez_75
                        have iz_75 := q_addI (A := f_74.toInt) (B := 1) ez_75 rfl (by decide) (by first | (clear hn gσ wσ hh gσ_1 wσ_1 gσ_2 wσ_2 gσ_3 wσ_3 gσ_4 wσ_4 gσ_5 wσ_5 gσ_6 wσ_6 hm42 hge42 gσ_8 wσ_8 gc_10_x_7 c_10 hm75 hge75 szσ_15 gσ_15 wσ_15 gc_17_x_14 c_17 asf_64 j112 asf_67 gc_68_f_67 c_68 iz_69 asf_70 gc_71_f_70 c_71 asf_73 lbf_74; omega) | omega) (by first | (clear hn gσ wσ hh gσ_1 wσ_1 gσ_2 wσ_2 gσ_3 wσ_3 gσ_4 wσ_4 gσ_5 wσ_5 gσ_6 wσ_6 hm42 hge42 gσ_8 wσ_8 gc_10_x_7 c_10 hm75 gσ_15 wσ_15 gc_17_x_14 asf_64 j112 asf_67 gc_68_f_67 c_68 asf_70 gc_71_f_70 c_71 asf_73 lnf_74; omega) | omega)
                        refine q_iastN E hI (q_tk (k' := 39) hI ha rfl (by decide)) ⟨by decide, rfl⟩ (by first | (clear hn gσ wσ hh gσ_1 wσ_1 gσ_2 wσ_2 gσ_3 wσ_3 gσ_4 wσ_4 gσ_5 wσ_5 gσ_6 wσ_6 hm42 hge42 gσ_8 wσ_8 gc_10_x_7 c_10 hm75 hge75 szσ_15 gσ_15 wσ_15 gc_17_x_14 c_17 asf_64 iz_69 gc_71_f_70 lyf_74 lbf_74 lnf_74 iz_75; omega) | omega) (by rw [q_lnk (v := 10) hI (q_tk (k' := 39) hI ha rfl (by decide)) rfl (by decide)]; omega) (show 1 < 9 by decide) (q_inU rfl) dX12_lay_210 (fun H locs σ_76 hσ_76 hI => ?_)
                        replace hF := q_letX hF hσ_76
                        have fr_σ_76 := fr_σ_15.si hσ_76 (q_tk (k' := 39) hI ha rfl (by decide)) rfl
                        have mcσ_76 := m_wo hσ_76 (m_ne (q_tk (k' := 39) hI ha rfl (by decide)) (q_tk (f := 20) (k' := 34) hI ha rfl (by decide)) (by decide))
                        have gσ_76 : m_G (m_c X σ_76 a) := m_G.ext (fun j _ _ => mcσ_76 j) gσ_15
                        have wσ_76 : m_W (m_c X σ_76 a) n := m_W.ext (fun j _ _ => mcσ_76 j) wσ_15
                        have kqσ_76 : ∀ j, 654 ≤ j → m_c X σ_76 a j = m_c X σ a j := fun j h => (mcσ_76 j).trans (kqσ_15 j h)
                        have fxσ_76 : m_c X σ_76 a = m_c X σ a := (funext mcσ_76).trans fxσ_15
                        have moσ_76 := m_ofw hσ_76 asf_73 (by first | (clear hn gσ wσ hh gσ_1 wσ_1 gσ_2 wσ_2 gσ_3 wσ_3 gσ_4 wσ_4 gσ_5 wσ_5 gσ_6 wσ_6 hm42 hge42 gσ_8 wσ_8 gc_10_x_7 c_10 hm75 hge75 szσ_15 gσ_15 wσ_15 gc_17_x_14 c_17 asf_64 iz_69 gc_71_f_70 lyf_74 lbf_74 lnf_74 iz_75 gσ_76 wσ_76; omega) | omega)
                        have suσ_76 := m_S_upd (c := m_of σ_15 (q_rf X a 28)) (c' := m_of σ_76 (q_rf X a 28)) (b := 0) (n := 10) (fun j a b => moσ_76 j a) (by first | (clear hn gσ wσ hh gσ_1 wσ_1 gσ_2 wσ_2 gσ_3 wσ_3 gσ_4 wσ_4 gσ_5 wσ_5 gσ_6 wσ_6 hm42 hge42 gσ_8 wσ_8 gc_10_x_7 c_10 hm75 hge75 szσ_15 gσ_15 wσ_15 gc_17_x_14 c_17 asf_64 iz_69 gc_71_f_70 lyf_74 lbf_74 lnf_74 iz_75 gσ_76 wσ_76; omega) | omega) (by first | (clear hn gσ wσ gσ_1 wσ_1 gσ_2 wσ_2 gσ_3 wσ_3 gσ_4 wσ_4 gσ_5 wσ_5 gσ_6 wσ_6 hm42 hge42 gσ_8 wσ_8 gc_10_x_7 c_10 hm75 hge75 szσ_15 gσ_15 wσ_15 gc_17_x_14 c_17 asf_64 iz_69 gc_71_f_70 lyf_74 lbf_74 lnf_74 iz_75 gσ_76 wσ_76; omega) | omega)
                        have nnσ_76 : ∀ k, 0 ≤ k → k < 10 → 0 ≤ m_of σ_76 (q_rf X a 28) k := fun k a b => by rw [moσ_76 k a]; split; exact (by first | (clear hn gσ wσ hh gσ_1 wσ_1 gσ_2 wσ_2 gσ_3 wσ_3 gσ_4 wσ_4 gσ_5 wσ_5 gσ_6 wσ_6 hm42 hge42 gσ_8 wσ_8 gc_10_x_7 c_10 hm75 hge75 szσ_15 gσ_15 wσ_15 gc_17_x_14 c_17 asf_64 j112 asf_67 gc_68_f_67 c_68 iz_69 asf_70 gc_71_f_70 c_71 asf_73 lbf_74 gσ_76 wσ_76 suσ_76; omega) | omega); exact nnσ_15 k a b
                        obtain ⟨z_77, ez_77⟩ : ∃ y : Int32, y = x_14 + 1 := ⟨_, rfl⟩
                        replace hF := q_letX hF ez_77
                        refine lv_iinc (v := z_77) (lv' := [(8, .int z_77), (5, .int z_69), (6, .int x_66), (0, .ref a), (1, .int v1), (2, .int v2), (3, .int v3), (4, .int v4), (7, .int x_65)]) hx hb dX12_lay_211 hl (k := 8) rfl (by rw [ez_77]; rfl) (by decide) rfl (fun ls hl => ?_)
                        have iz_77 : z_77.toInt = x_14.toInt + 1 := q_inc ez_77 (by first | (clear hn gσ wσ hh gσ_1 wσ_1 gσ_2 wσ_2 gσ_3 wσ_3 gσ_4 wσ_4 gσ_5 wσ_5 gσ_6 wσ_6 hm42 hge42 gσ_8 wσ_8 gc_10_x_7 c_10 hm75 szσ_15 gσ_15 wσ_15 gc_17_x_14 asf_64 j112 asf_67 gc_68_f_67 c_68 iz_69 asf_70 gc_71_f_70 c_71 asf_73 lyf_74 lbf_74 lnf_74 iz_75 gσ_76 wσ_76 suσ_76; omega) | omega)
                        refine lv_goto (tgt := 75) hx hb dX12_lay_214 (by decide) ?_
                        exact ih75 z_69 x_66 x_65 z_77 σ_76 _ _ ls (by first | (clear hn gσ wσ hh gσ_1 wσ_1 gσ_2 wσ_2 gσ_3 wσ_3 gσ_4 wσ_4 gσ_5 wσ_5 gσ_6 wσ_6 hm42 hge42 gσ_8 wσ_8 gc_10_x_7 c_10 szσ_15 gσ_15 wσ_15 gc_17_x_14 asf_64 iz_69 gc_71_f_70 lyf_74 lbf_74 lnf_74 iz_75 gσ_76 wσ_76 suσ_76; omega) | omega) (by first | (clear hn gσ wσ hh gσ_1 wσ_1 gσ_2 wσ_2 gσ_3 wσ_3 gσ_4 wσ_4 gσ_5 wσ_5 gσ_6 wσ_6 hm42 hge42 gσ_8 wσ_8 gc_10_x_7 c_10 hm75 gσ_15 wσ_15 gc_17_x_14 asf_64 j112 asf_67 gc_68_f_67 c_68 asf_70 gc_71_f_70 c_71 asf_73 lbf_74 lnf_74 gσ_76 wσ_76; omega) | omega) (by first | (clear hn gσ wσ hh gσ_1 wσ_1 gσ_2 wσ_2 gσ_3 wσ_3 gσ_4 wσ_4 gσ_5 wσ_5 gσ_6 wσ_6 hm42 hge42 gσ_8 wσ_8 gc_10_x_7 c_10 hm75 hge75 gσ_15 wσ_15 gc_17_x_14 c_17 asf_64 j112 asf_67 gc_68_f_67 c_68 asf_70 gc_71_f_70 c_71 asf_73 lbf_74 lnf_74 gσ_76 wσ_76 iz_77; omega) | omega) nnσ_76 fr_σ_76 gσ_76 wσ_76 kqσ_76 fxσ_76 hF hI (lv_sub hl [3, 4, 5, 6, 7, 1, 2, 8, 0] rfl)
                    · skip
                      replace hF := q_ifp hF c_68
                      refine lv_iconst (v := 0) hx hb dX12_lay_176 (by decide) ?_
                      refine lv_goto (tgt := 181) hx hb dX12_lay_177 (by decide) ?_
                      refine lv_iadd hx hb dX12_lay_181 ?_
                      refine lv_topi (fun z_78 ez_78 => ?_)
                      replace hF := q_letX hF ez_78
                      have iz_78 := q_addI (A := x_11.toInt) (B := 0) ez_78 rfl (by decide) (by first | (clear hn gσ wσ hh gσ_1 wσ_1 gσ_2 wσ_2 gσ_3 wσ_3 gσ_4 wσ_4 gσ_5 wσ_5 gσ_6 wσ_6 hm42 hge42 gσ_8 wσ_8 gc_10_x_7 c_10 hm75 gσ_15 wσ_15 gc_17_x_14 c_17 asf_64 j112 asf_67 gc_68_f_67 c_68; omega) | omega) (by first | (clear hn gσ wσ hh gσ_1 wσ_1 gσ_2 wσ_2 gσ_3 wσ_3 gσ_4 wσ_4 gσ_5 wσ_5 gσ_6 wσ_6 hm42 hge42 gσ_8 wσ_8 gc_10_x_7 c_10 hm75 gσ_15 wσ_15 gc_17_x_14 asf_64 j112 asf_67 gc_68_f_67 c_68; omega) | omega)
                      refine lv_istore (lv' := [(5, .int z_78), (6, .int x_66), (0, .ref a), (1, .int v1), (2, .int v2), (3, .int v3), (4, .int v4), (7, .int x_65), (8, .int x_14)]) hx hb dX12_lay_182 hl (by decide) rfl (fun ls hl => ?_)
                      refine lv_aload_n hx hb dX12_lay_184 rfl (lv_at hl 2 rfl) ?_
                      refine gs_X12_50_12 E hI ha dX12_lay_185 ?_
                      refine lv_iload hx hb dX12_lay_188 (lv_at hl 8 rfl) ?_
                      refine q_iald E hI (q_tk (k' := 40) hI ha rfl (by decide)) ⟨by decide, rfl⟩ (by first | (clear hn gσ wσ hh gσ_1 wσ_1 gσ_2 wσ_2 gσ_3 wσ_3 gσ_4 wσ_4 gσ_5 wσ_5 gσ_6 wσ_6 hm42 hge42 gσ_8 wσ_8 gc_10_x_7 c_10 hm75 szσ_15 gσ_15 wσ_15 gc_17_x_14 asf_64 j112 asf_67 gc_68_f_67 c_68 iz_78; omega) | omega) (by rw [q_lnk (v := 4) hI (q_tk (k' := 40) hI ha rfl (by decide)) rfl (by decide)]; omega) dX12_lay_190 ?_
                      refine lv_topi (fun f_79 ef_79 => ?_)
                      replace hF := q_letX hF ef_79
                      have asf_79 : f_79.toInt = m_of σ_15 (q_rf X a 29) x_14.toInt := by rw [ef_79]; rfl
                      refine lv_iconst (v := (-1)) hx hb dX12_lay_191 (by decide) ?_
                      have gc_80_f_79 := q_rng f_79
                      refine q_icmp_eq (A := f_79.toInt) (B := (-1)) E rfl (by decide) (tgt := 211) dX12_lay_192 (by decide) (fun c_80 => ?_) (fun c_80 => ?_)
                      · skip
                        replace hF := q_ifp hF c_80
                        obtain ⟨z_81, ez_81⟩ : ∃ y : Int32, y = x_14 + 1 := ⟨_, rfl⟩
                        replace hF := q_letX hF ez_81
                        refine lv_iinc (v := z_81) (lv' := [(8, .int z_81), (5, .int z_78), (6, .int x_66), (0, .ref a), (1, .int v1), (2, .int v2), (3, .int v3), (4, .int v4), (7, .int x_65)]) hx hb dX12_lay_211 hl (k := 8) rfl (by rw [ez_81]; rfl) (by decide) rfl (fun ls hl => ?_)
                        have iz_81 : z_81.toInt = x_14.toInt + 1 := q_inc ez_81 (by first | (clear hn gσ wσ hh gσ_1 wσ_1 gσ_2 wσ_2 gσ_3 wσ_3 gσ_4 wσ_4 gσ_5 wσ_5 gσ_6 wσ_6 hm42 hge42 gσ_8 wσ_8 gc_10_x_7 c_10 hm75 szσ_15 gσ_15 wσ_15 gc_17_x_14 asf_64 j112 asf_67 gc_68_f_67 c_68 iz_78 asf_79 gc_80_f_79 c_80; omega) | omega)
                        refine lv_goto (tgt := 75) hx hb dX12_lay_214 (by decide) ?_
                        exact ih75 z_78 x_66 x_65 z_81 σ_15 _ _ ls (by first | (clear hn gσ wσ hh gσ_1 wσ_1 gσ_2 wσ_2 gσ_3 wσ_3 gσ_4 wσ_4 gσ_5 wσ_5 gσ_6 wσ_6 hm42 hge42 gσ_8 wσ_8 gc_10_x_7 c_10 szσ_15 gσ_15 wσ_15 gc_17_x_14 asf_64 gc_68_f_67 iz_78 asf_79 gc_80_f_79 c_80; omega) | omega) (by first | (clear hn gσ wσ hh gσ_1 wσ_1 gσ_2 wσ_2 gσ_3 wσ_3 gσ_4 wσ_4 gσ_5 wσ_5 gσ_6 wσ_6 hm42 hge42 gσ_8 wσ_8 gc_10_x_7 c_10 hm75 gσ_15 wσ_15 gc_17_x_14 asf_64 j112 asf_67 gc_68_f_67 c_68 asf_79 gc_80_f_79 c_80; omega) | omega) (by first | (clear hn gσ wσ hh gσ_1 wσ_1 gσ_2 wσ_2 gσ_3 wσ_3 gσ_4 wσ_4 gσ_5 wσ_5 gσ_6 wσ_6 hm42 hge42 gσ_8 wσ_8 gc_10_x_7 c_10 hm75 hge75 gσ_15 wσ_15 gc_17_x_14 c_17 asf_64 j112 asf_67 gc_68_f_67 c_68 asf_79 gc_80_f_79 c_80 iz_81; omega) | omega) nnσ_15 fr_σ_15 gσ_15 wσ_15 kqσ_15 fxσ_15 hF hI (lv_sub hl [3, 4, 5, 6, 7, 1, 2, 8, 0] rfl)
                      · skip
                        replace hF := q_ifn hF c_80
                        refine lv_aload_n hx hb dX12_lay_195 rfl (lv_at hl 2 rfl) ?_
                        refine gs_X12_47_12 E hI ha dX12_lay_196 ?_
                        refine lv_aload_n hx hb dX12_lay_199 rfl (lv_at hl 2 rfl) ?_
                        refine gs_X12_50_12 E hI ha dX12_lay_200 ?_
                        refine lv_iload hx hb dX12_lay_203 (lv_at hl 8 rfl) ?_
                        refine q_iald E hI (q_tk (k' := 40) hI ha rfl (by decide)) ⟨by decide, rfl⟩ (by first | (clear hn gσ wσ hh gσ_1 wσ_1 gσ_2 wσ_2 gσ_3 wσ_3 gσ_4 wσ_4 gσ_5 wσ_5 gσ_6 wσ_6 hm42 hge42 gσ_8 wσ_8 gc_10_x_7 c_10 hm75 szσ_15 gσ_15 wσ_15 gc_17_x_14 asf_64 j112 asf_67 gc_68_f_67 c_68 iz_78 asf_79 gc_80_f_79 c_80; omega) | omega) (by rw [q_lnk (v := 4) hI (q_tk (k' := 40) hI ha rfl (by decide)) rfl (by decide)]; omega) dX12_lay_205 ?_
                        refine lv_topi (fun f_82 ef_82 => ?_)
                        replace hF := q_letX hF ef_82
                        have asf_82 : f_82.toInt = m_of σ_15 (q_rf X a 29) x_14.toInt := by rw [ef_82]; rfl
                        refine lv_dup2_11 hx hb dX12_lay_206 rfl rfl ?_
                        refine q_iald E hI (q_tk (k' := 39) hI ha rfl (by decide)) ⟨by decide, rfl⟩ (by first | (clear hn gσ wσ hh gσ_1 wσ_1 gσ_2 wσ_2 gσ_3 wσ_3 gσ_4 wσ_4 gσ_5 wσ_5 gσ_6 wσ_6 hm42 hge42 gσ_8 wσ_8 gc_10_x_7 c_10 hm75 hge75 szσ_15 gσ_15 wσ_15 gc_17_x_14 c_17 asf_64 j112 gc_68_f_67 iz_78 gc_80_f_79 asf_82; omega) | omega) (by rw [q_lnk (v := 10) hI (q_tk (k' := 39) hI ha rfl (by decide)) rfl (by decide)]; omega) dX12_lay_207 ?_
                        refine lv_topi (fun f_83 ef_83 => ?_)
                        replace hF := q_letX hF ef_83
                        have lyf_83 : f_83.toInt = m_of σ_15 (q_rf X a 28) (m_of σ_15 (q_rf X a 29) x_14.toInt) := by rw [ef_83, ← asf_82]; rfl
                        have lbf_83 := m_S_ge (c := m_of σ_15 (q_rf X a 28)) (b := 0) (A := m_of σ_15 (q_rf X a 29) x_14.toInt) (n := 10) (fun j a b => nnσ_15 j a (by first | (clear hn gσ wσ hh gσ_1 wσ_1 gσ_2 wσ_2 gσ_3 wσ_3 gσ_4 wσ_4 gσ_5 wσ_5 gσ_6 wσ_6 hm42 hge42 gσ_8 wσ_8 gc_10_x_7 c_10 hm75 hge75 szσ_15 gσ_15 wσ_15 gc_17_x_14 c_17 asf_64 j112 asf_67 gc_68_f_67 c_68 iz_78 asf_79 gc_80_f_79 c_80 asf_82 lyf_83; omega) | omega)) (by first | (clear hn gσ wσ hh gσ_1 wσ_1 gσ_2 wσ_2 gσ_3 wσ_3 gσ_4 wσ_4 gσ_5 wσ_5 gσ_6 wσ_6 hm42 hge42 gσ_8 wσ_8 gc_10_x_7 c_10 hm75 hge75 szσ_15 gσ_15 wσ_15 gc_17_x_14 c_17 asf_64 j112 gc_68_f_67 iz_78 gc_80_f_79 asf_82 lyf_83; omega) | omega) (by first | (clear hn gσ wσ hh gσ_1 wσ_1 gσ_2 wσ_2 gσ_3 wσ_3 gσ_4 wσ_4 gσ_5 wσ_5 gσ_6 wσ_6 hm42 hge42 gσ_8 wσ_8 gc_10_x_7 c_10 hm75 hge75 szσ_15 gσ_15 wσ_15 gc_17_x_14 c_17 asf_64 j112 gc_68_f_67 iz_78 asf_79 gc_80_f_79 c_80 asf_82 lyf_83; omega) | omega)
                        have lnf_83 := nnσ_15 (m_of σ_15 (q_rf X a 29) x_14.toInt) (by first | (clear hn gσ wσ hh gσ_1 wσ_1 gσ_2 wσ_2 gσ_3 wσ_3 gσ_4 wσ_4 gσ_5 wσ_5 gσ_6 wσ_6 hm42 hge42 gσ_8 wσ_8 gc_10_x_7 c_10 hm75 hge75 szσ_15 gσ_15 wσ_15 gc_17_x_14 c_17 asf_64 j112 gc_68_f_67 iz_78 gc_80_f_79 asf_82 lyf_83 lbf_83; omega) | omega) (by first | (clear hn gσ wσ hh gσ_1 wσ_1 gσ_2 wσ_2 gσ_3 wσ_3 gσ_4 wσ_4 gσ_5 wσ_5 gσ_6 wσ_6 hm42 hge42 gσ_8 wσ_8 gc_10_x_7 c_10 hm75 hge75 szσ_15 gσ_15 wσ_15 gc_17_x_14 c_17 asf_64 j112 gc_68_f_67 iz_78 asf_79 gc_80_f_79 c_80 asf_82 lyf_83 lbf_83; omega) | omega)
                        refine lv_iconst (v := 1) hx hb dX12_lay_208 (by decide) ?_
                        refine lv_iadd hx hb dX12_lay_209 ?_
                        refine lv_topi (fun z_84 ez_84 => ?_)
                        replace hF := q_letX hF ez_84
                        have iz_84 := q_addI (A := f_83.toInt) (B := 1) ez_84 rfl (by decide) (by first | (clear hn gσ wσ hh gσ_1 wσ_1 gσ_2 wσ_2 gσ_3 wσ_3 gσ_4 wσ_4 gσ_5 wσ_5 gσ_6 wσ_6 hm42 hge42 gσ_8 wσ_8 gc_10_x_7 c_10 hm75 hge75 szσ_15 gσ_15 wσ_15 gc_17_x_14 c_17 asf_64 j112 asf_67 gc_68_f_67 c_68 iz_78 asf_79 gc_80_f_79 c_80 asf_82 lbf_83; omega) | omega) (by first | (clear hn gσ wσ hh gσ_1 wσ_1 gσ_2 wσ_2 gσ_3 wσ_3 gσ_4 wσ_4 gσ_5 wσ_5 gσ_6 wσ_6 hm42 hge42 gσ_8 wσ_8 gc_10_x_7 c_10 hm75 gσ_15 wσ_15 gc_17_x_14 asf_64 j112 asf_67 gc_68_f_67 c_68 asf_79 gc_80_f_79 c_80 asf_82 lnf_83; omega) | omega)
                        refine q_iastN E hI (q_tk (k' := 39) hI ha rfl (by decide)) ⟨by decide, rfl⟩ (by first | (clear hn gσ wσ hh gσ_1 wσ_1 gσ_2 wσ_2 gσ_3 wσ_3 gσ_4 wσ_4 gσ_5 wσ_5 gσ_6 wσ_6 hm42 hge42 gσ_8 wσ_8 gc_10_x_7 c_10 hm75 hge75 szσ_15 gσ_15 wσ_15 gc_17_x_14 c_17 asf_64 j112 gc_68_f_67 iz_78 gc_80_f_79 asf_82 lyf_83 lbf_83 lnf_83 iz_84; omega) | omega) (by rw [q_lnk (v := 10) hI (q_tk (k' := 39) hI ha rfl (by decide)) rfl (by decide)]; omega) (show 1 < 9 by decide) (q_inU rfl) dX12_lay_210 (fun H locs σ_85 hσ_85 hI => ?_)
                        replace hF := q_letX hF hσ_85
                        have fr_σ_85 := fr_σ_15.si hσ_85 (q_tk (k' := 39) hI ha rfl (by decide)) rfl
                        have mcσ_85 := m_wo hσ_85 (m_ne (q_tk (k' := 39) hI ha rfl (by decide)) (q_tk (f := 20) (k' := 34) hI ha rfl (by decide)) (by decide))
                        have gσ_85 : m_G (m_c X σ_85 a) := m_G.ext (fun j _ _ => mcσ_85 j) gσ_15
                        have wσ_85 : m_W (m_c X σ_85 a) n := m_W.ext (fun j _ _ => mcσ_85 j) wσ_15
                        have kqσ_85 : ∀ j, 654 ≤ j → m_c X σ_85 a j = m_c X σ a j := fun j h => (mcσ_85 j).trans (kqσ_15 j h)
                        have fxσ_85 : m_c X σ_85 a = m_c X σ a := (funext mcσ_85).trans fxσ_15
                        have moσ_85 := m_ofw hσ_85 asf_82 (by first | (clear hn gσ wσ hh gσ_1 wσ_1 gσ_2 wσ_2 gσ_3 wσ_3 gσ_4 wσ_4 gσ_5 wσ_5 gσ_6 wσ_6 hm42 hge42 gσ_8 wσ_8 gc_10_x_7 c_10 hm75 hge75 szσ_15 gσ_15 wσ_15 gc_17_x_14 c_17 asf_64 j112 gc_68_f_67 iz_78 gc_80_f_79 asf_82 lyf_83 lbf_83 lnf_83 iz_84 gσ_85 wσ_85; omega) | omega)
                        have suσ_85 := m_S_upd (c := m_of σ_15 (q_rf X a 28)) (c' := m_of σ_85 (q_rf X a 28)) (b := 0) (n := 10) (fun j a b => moσ_85 j a) (by first | (clear hn gσ wσ hh gσ_1 wσ_1 gσ_2 wσ_2 gσ_3 wσ_3 gσ_4 wσ_4 gσ_5 wσ_5 gσ_6 wσ_6 hm42 hge42 gσ_8 wσ_8 gc_10_x_7 c_10 hm75 hge75 szσ_15 gσ_15 wσ_15 gc_17_x_14 c_17 asf_64 j112 gc_68_f_67 iz_78 gc_80_f_79 asf_82 lyf_83 lbf_83 lnf_83 iz_84 gσ_85 wσ_85; omega) | omega) (by first | (clear hn gσ wσ hh gσ_1 wσ_1 gσ_2 wσ_2 gσ_3 wσ_3 gσ_4 wσ_4 gσ_5 wσ_5 gσ_6 wσ_6 hm42 hge42 gσ_8 wσ_8 gc_10_x_7 c_10 hm75 hge75 szσ_15 gσ_15 wσ_15 gc_17_x_14 c_17 asf_64 j112 gc_68_f_67 iz_78 asf_79 gc_80_f_79 c_80 asf_82 lyf_83 lbf_83 lnf_83 iz_84 gσ_85 wσ_85; omega) | omega)
                        have nnσ_85 : ∀ k, 0 ≤ k → k < 10 → 0 ≤ m_of σ_85 (q_rf X a 28) k := fun k a b => by rw [moσ_85 k a]; split; exact (by first | (clear hn gσ wσ hh gσ_1 wσ_1 gσ_2 wσ_2 gσ_3 wσ_3 gσ_4 wσ_4 gσ_5 wσ_5 gσ_6 wσ_6 hm42 hge42 gσ_8 wσ_8 gc_10_x_7 c_10 hm75 hge75 szσ_15 gσ_15 wσ_15 gc_17_x_14 c_17 asf_64 j112 gc_68_f_67 iz_78 asf_79 gc_80_f_79 c_80 asf_82 lyf_83 lbf_83 lnf_83 iz_84 gσ_85 wσ_85 suσ_85; omega) | omega); exact nnσ_15 k a b
                        obtain ⟨z_86, ez_86⟩ : ∃ y : Int32, y = x_14 + 1 := ⟨_, rfl⟩
                        replace hF := q_letX hF ez_86
                        refine lv_iinc (v := z_86) (lv' := [(8, .int z_86), (5, .int z_78), (6, .int x_66), (0, .ref a), (1, .int v1), (2, .int v2), (3, .int v3), (4, .int v4), (7, .int x_65)]) hx hb dX12_lay_211 hl (k := 8) rfl (by rw [ez_86]; rfl) (by decide) rfl (fun ls hl => ?_)
                        have iz_86 : z_86.toInt = x_14.toInt + 1 := q_inc ez_86 (by first | (clear hn gσ wσ hh gσ_1 wσ_1 gσ_2 wσ_2 gσ_3 wσ_3 gσ_4 wσ_4 gσ_5 wσ_5 gσ_6 wσ_6 hm42 hge42 gσ_8 wσ_8 gc_10_x_7 c_10 hm75 szσ_15 gσ_15 wσ_15 gc_17_x_14 asf_64 j112 asf_67 gc_68_f_67 c_68 iz_78 asf_79 gc_80_f_79 c_80 asf_82 lyf_83 lbf_83 lnf_83 iz_84 gσ_85 wσ_85 suσ_85; omega) | omega)
                        refine lv_goto (tgt := 75) hx hb dX12_lay_214 (by decide) ?_
                        exact ih75 z_78 x_66 x_65 z_86 σ_85 _ _ ls (by first | (clear hn gσ wσ hh gσ_1 wσ_1 gσ_2 wσ_2 gσ_3 wσ_3 gσ_4 wσ_4 gσ_5 wσ_5 gσ_6 wσ_6 hm42 hge42 gσ_8 wσ_8 gc_10_x_7 c_10 hm75 szσ_15 gσ_15 wσ_15 gc_17_x_14 asf_64 j112 gc_68_f_67 iz_78 gc_80_f_79 asf_82 lyf_83 lbf_83 lnf_83 iz_84 gσ_85 wσ_85 suσ_85; omega) | omega) (by first | (clear hn gσ wσ hh gσ_1 wσ_1 gσ_2 wσ_2 gσ_3 wσ_3 gσ_4 wσ_4 gσ_5 wσ_5 gσ_6 wσ_6 hm42 hge42 gσ_8 wσ_8 gc_10_x_7 c_10 hm75 gσ_15 wσ_15 gc_17_x_14 asf_64 j112 asf_67 gc_68_f_67 c_68 asf_79 gc_80_f_79 c_80 asf_82 lbf_83 lnf_83 gσ_85 wσ_85; omega) | omega) (by first | (clear hn gσ wσ hh gσ_1 wσ_1 gσ_2 wσ_2 gσ_3 wσ_3 gσ_4 wσ_4 gσ_5 wσ_5 gσ_6 wσ_6 hm42 hge42 gσ_8 wσ_8 gc_10_x_7 c_10 hm75 hge75 gσ_15 wσ_15 gc_17_x_14 c_17 asf_64 j112 gc_68_f_67 gc_80_f_79 asf_82 lbf_83 lnf_83 gσ_85 wσ_85 iz_86; omega) | omega) nnσ_85 fr_σ_85 gσ_85 wσ_85 kqσ_85 fxσ_85 hF hI (lv_sub hl [3, 4, 5, 6, 7, 1, 2, 8, 0] rfl)
                  refine q_if_ne (A := x_12.toInt) E rfl (tgt := 156) dX12_lay_137 (by decide) (fun c_87 => ?_) (fun c_87 => ?_)
                  · skip
                    replace hF := q_ifn hF c_87
                    refine lv_iconst (v := 1) hx hb dX12_lay_156 (by decide) ?_
                    refine lv_goto (tgt := 161) hx hb dX12_lay_157 (by decide) ?_
                    exact J_161_66 1 _ _ ls hF hI (lv_sub hl [1, 2, 3, 4, 5, 6, 7, 0, 8] rfl)
                  · skip
                    replace hF := q_ifp hF c_87
                    refine lv_iload hx hb dX12_lay_140 (lv_at hl 0 rfl) ?_
                    refine q_if_eq (A := x_65.toInt) E rfl (tgt := 160) dX12_lay_142 (by decide) (fun c_88 => ?_) (fun c_88 => ?_)
                    · skip
                      replace hF := q_ifp hF c_88
                      refine lv_iconst (v := 0) hx hb dX12_lay_160 (by decide) ?_
                      exact J_161_66 0 _ _ ls hF hI (lv_sub hl [1, 2, 3, 4, 5, 6, 7, 0, 8] rfl)
                    · skip
                      replace hF := q_ifn hF c_88
                      refine lv_aload_n hx hb dX12_lay_145 rfl (lv_at hl 1 rfl) ?_
                      refine gs_X12_50_12 E hI ha dX12_lay_146 ?_
                      refine lv_iload hx hb dX12_lay_149 (lv_at hl 8 rfl) ?_
                      refine q_iald E hI (q_tk (k' := 40) hI ha rfl (by decide)) ⟨by decide, rfl⟩ (by first | (clear hn gσ wσ hh gσ_1 wσ_1 gσ_2 wσ_2 gσ_3 wσ_3 gσ_4 wσ_4 gσ_5 wσ_5 gσ_6 wσ_6 hm42 hge42 gσ_8 wσ_8 gc_10_x_7 c_10 hm75 szσ_15 gσ_15 wσ_15 gc_17_x_14 asf_64 j112 c_87 c_88; omega) | omega) (by rw [q_lnk (v := 4) hI (q_tk (k' := 40) hI ha rfl (by decide)) rfl (by decide)]; omega) dX12_lay_151 ?_
                      refine lv_topi (fun f_89 ef_89 => ?_)
                      replace hF := q_letX hF ef_89
                      have asf_89 : f_89.toInt = m_of σ_15 (q_rf X a 29) x_14.toInt := by rw [ef_89]; rfl
                      refine lv_iconst (v := (-1)) hx hb dX12_lay_152 (by decide) ?_
                      have gc_90_f_89 := q_rng f_89
                      refine q_icmp_eq (A := f_89.toInt) (B := (-1)) E rfl (by decide) (tgt := 160) dX12_lay_153 (by decide) (fun c_90 => ?_) (fun c_90 => ?_)
                      · skip
                        replace hF := q_ifp hF c_90
                        refine lv_iconst (v := 0) hx hb dX12_lay_160 (by decide) ?_
                        exact J_161_66 0 _ _ ls hF hI (lv_sub hl [1, 2, 3, 4, 5, 6, 7, 0, 8] rfl)
                      · skip
                        replace hF := q_ifn hF c_90
                        refine lv_iconst (v := 1) hx hb dX12_lay_156 (by decide) ?_
                        refine lv_goto (tgt := 161) hx hb dX12_lay_157 (by decide) ?_
                        exact J_161_66 1 _ _ ls hF hI (lv_sub hl [1, 2, 3, 4, 5, 6, 7, 0, 8] rfl)
                refine q_if_ne (A := x_13.toInt) E rfl (tgt := 128) dX12_lay_114 (by decide) (fun c_91 => ?_) (fun c_91 => ?_)
                · skip
                  replace hF := q_ifn hF c_91
                  refine lv_iconst (v := 1) hx hb dX12_lay_128 (by decide) ?_
                  refine lv_goto (tgt := 133) hx hb dX12_lay_129 (by decide) ?_
                  exact J_133_65 1 _ _ ls hF hI (lv_sub hl [0, 1, 2, 3, 4, 5, 6, 7, 8] rfl)
                · skip
                  replace hF := q_ifp hF c_91
                  refine lv_aload_n hx hb dX12_lay_117 rfl (lv_at hl 0 rfl) ?_
                  refine gs_X12_50_12 E hI ha dX12_lay_118 ?_
                  refine lv_iload hx hb dX12_lay_121 (lv_at hl 8 rfl) ?_
                  refine q_iald E hI (q_tk (k' := 40) hI ha rfl (by decide)) ⟨by decide, rfl⟩ (by first | (clear hn gσ wσ hh gσ_1 wσ_1 gσ_2 wσ_2 gσ_3 wσ_3 gσ_4 wσ_4 gσ_5 wσ_5 gσ_6 wσ_6 hm42 hge42 gσ_8 wσ_8 gc_10_x_7 c_10 hm75 szσ_15 gσ_15 wσ_15 gc_17_x_14 asf_64 j112 c_91; omega) | omega) (by rw [q_lnk (v := 4) hI (q_tk (k' := 40) hI ha rfl (by decide)) rfl (by decide)]; omega) dX12_lay_123 ?_
                  refine lv_topi (fun f_92 ef_92 => ?_)
                  replace hF := q_letX hF ef_92
                  have asf_92 : f_92.toInt = m_of σ_15 (q_rf X a 29) x_14.toInt := by rw [ef_92]; rfl
                  refine lv_iconst (v := (-1)) hx hb dX12_lay_124 (by decide) ?_
                  have gc_93_f_92 := q_rng f_92
                  refine q_icmp_ne (A := f_92.toInt) (B := (-1)) E rfl (by decide) (tgt := 132) dX12_lay_125 (by decide) (fun c_93 => ?_) (fun c_93 => ?_)
                  · skip
                    replace hF := q_ifn hF c_93
                    refine lv_iconst (v := 0) hx hb dX12_lay_132 (by decide) ?_
                    exact J_133_65 0 _ _ ls hF hI (lv_sub hl [0, 1, 2, 3, 4, 5, 6, 7, 8] rfl)
                  · skip
                    replace hF := q_ifp hF c_93
                    refine lv_iconst (v := 1) hx hb dX12_lay_128 (by decide) ?_
                    refine lv_goto (tgt := 133) hx hb dX12_lay_129 (by decide) ?_
                    exact J_133_65 1 _ _ ls hF hI (lv_sub hl [0, 1, 2, 3, 4, 5, 6, 7, 8] rfl)
              have gc_94_f_64 := q_rng f_64
              refine q_icmp_eq (A := f_64.toInt) (B := (-1)) E rfl (by decide) (tgt := 112) dX12_lay_89 (by decide) (fun c_94 => ?_) (fun c_94 => ?_)
              · skip
                replace hF := q_ifp hF c_94
                exact J_112_64 _ _ ls (by first | (clear hn gσ wσ gσ_1 wσ_1 gσ_2 wσ_2 gσ_3 wσ_3 gσ_4 wσ_4 gσ_5 wσ_5 gσ_6 wσ_6 hm42 hge42 gσ_8 wσ_8 gc_10_x_7 c_10 hm75 hge75 szσ_15 gσ_15 wσ_15 gc_17_x_14 c_17 gc_94_f_64; omega) | omega) hF hI (lv_sub hl [0, 1, 2, 3, 4, 5, 6, 7, 8] rfl)
              · skip
                replace hF := q_ifn hF c_94
                refine lv_aload_n hx hb dX12_lay_92 rfl (lv_at hl 0 rfl) ?_
                refine lv_aload_n hx hb dX12_lay_93 rfl (lv_at hl 0 rfl) ?_
                refine gs_X12_50_12 E hI ha dX12_lay_94 ?_
                refine lv_iload hx hb dX12_lay_97 (lv_at hl 8 rfl) ?_
                refine q_iald E hI (q_tk (k' := 40) hI ha rfl (by decide)) ⟨by decide, rfl⟩ (by first | (clear hn gσ wσ hh gσ_1 wσ_1 gσ_2 wσ_2 gσ_3 wσ_3 gσ_4 wσ_4 gσ_5 wσ_5 gσ_6 wσ_6 hm42 hge42 gσ_8 wσ_8 gc_10_x_7 c_10 hm75 szσ_15 gσ_15 wσ_15 gc_17_x_14 asf_64 gc_94_f_64 c_94; omega) | omega) (by rw [q_lnk (v := 4) hI (q_tk (k' := 40) hI ha rfl (by decide)) rfl (by decide)]; omega) dX12_lay_99 ?_
                refine lv_topi (fun f_95 ef_95 => ?_)
                replace hF := q_letX hF ef_95
                have asf_95 : f_95.toInt = m_of σ_15 (q_rf X a 29) x_14.toInt := by rw [ef_95]; rfl
                refine q_ci (q_runV (As := [.int f_95]) (rest := []) E (hml.trans hl.1.symm) hI (c_X12_isKindAt l X σ_15 a f_95 ha (by rw [fxσ_15]; exact hG)) kv_X12_299 ha ⟨rfl, by decide⟩ (show vwCl[11]? = some (RX12, TX12, 46) from rfl) rfl ⟨Nat.le_of_ble_eq_true rfl, Nat.le_of_ble_eq_true rfl⟩ ⟨Nat.le_refl _, Nat.le_refl _⟩ rfl (Nat.le_of_ble_eq_true rfl) dX12_lay_100) hI (by decide) (fun r_96 σ_97 H locs hpσ_97 hkσ_97 hI => ?_)
                obtain ⟨ahpσ_97, bhpσ_97, chpσ_97, dhpσ_97⟩ := hpσ_97
                rw [ahpσ_97] at hI
                rw [fxσ_15] at chpσ_97
                replace hF := q_letX hF dhpσ_97
                refine q_if_ne (A := r_96.toInt) E rfl (tgt := 112) dX12_lay_103 (by decide) (fun c_98 => ?_) (fun c_98 => ?_)
                · skip
                  replace hF := q_ifn hF c_98
                  replace c_98 := q_ifOne bhpσ_97 c_98
                  replace chpσ_97 := q_ifYes chpσ_97 c_98
                  exact J_112_64 _ _ ls (by first | (clear hn gσ wσ hh gσ_1 wσ_1 gσ_2 wσ_2 gσ_3 wσ_3 gσ_4 wσ_4 gσ_5 wσ_5 gσ_6 wσ_6 hm42 hge42 gσ_8 wσ_8 gc_10_x_7 c_10 hm75 hge75 szσ_15 gσ_15 wσ_15 gc_17_x_14 c_17 c_94 ahpσ_97 bhpσ_97 dhpσ_97 c_98; omega) | omega) hF hI (lv_sub hl [0, 1, 2, 3, 4, 5, 6, 7, 8] rfl)
                · skip
                  replace hF := q_ifp hF c_98
                  replace chpσ_97 := q_ifNo chpσ_97 c_98
                  unfold F_X12_lay_E106_11 at hF
                  refine lv_aload_n hx hb dX12_lay_106 rfl (lv_at hl 0 rfl) ?_
                  refine lv_iconst (v := 2) hx hb dX12_lay_107 (by decide) ?_
                  have kc_99 : (2 : Int32).toInt = 2 := rfl
                  refine q_ci (q_runV (As := [.int 2]) (rest := []) E (hml.trans hl.1.symm) hI (c_X12_refuse l X σ_15 a (2 : Int32) ha) kv_X12_284 ha ⟨rfl, by decide⟩ (show vwCl[11]? = some (RX12, TX12, 46) from rfl) rfl ⟨Nat.le_of_ble_eq_true rfl, Nat.le_of_ble_eq_true rfl⟩ ⟨Nat.le_refl _, Nat.le_refl _⟩ rfl (Nat.le_of_ble_eq_true rfl) dX12_lay_108) hI (by decide) (fun r_100 σ_101 H locs hpσ_101 hkσ_101 hI => ?_)
                  obtain ⟨ahpσ_101, bhpσ_101, chpσ_101⟩ := hpσ_101
                  have fr_σ_101 := fr_σ_15.call chpσ_101 rfl rfl
                  replace hF := q_biX hF bhpσ_101
                  have mcσ_101 := m_cK hkσ_101 hI.1 ha (by decide)
                  have gσ_101 : m_G (m_c X σ_101 a) := m_G.ext (fun j _ _ => mcσ_101 j) gσ_15
                  have wσ_101 : m_W (m_c X σ_101 a) n := m_W.ext (fun j _ _ => mcσ_101 j) wσ_15
                  have kqσ_101 : ∀ j, 654 ≤ j → m_c X σ_101 a j = m_c X σ a j := fun j h => (mcσ_101 j).trans (kqσ_15 j h)
                  have fxσ_101 : m_c X σ_101 a = m_c X σ a := (funext mcσ_101).trans fxσ_15
                  exact q_reti E hr hlk hI ⟨gσ_101, (by first | exact m_W.le vσ_101 (by omega) | exact m_W.le wσ_101 (by first | (clear hn gσ wσ hh gσ_1 wσ_1 gσ_2 wσ_2 gσ_3 wσ_3 gσ_4 wσ_4 gσ_5 wσ_5 gσ_6 wσ_6 hm42 hge42 gσ_8 wσ_8 gc_10_x_7 c_10 hm75 hge75 szσ_15 gσ_15 wσ_15 gc_17_x_14 c_17 asf_64 gc_94_f_64 c_94 asf_95 ahpσ_97 bhpσ_97 dhpσ_97 c_98 chpσ_97 kc_99 ahpσ_101 bhpσ_101 chpσ_101 gσ_101 wσ_101; omega) | omega)), (fun j h0 h1 => kqσ_101 j (by first | (clear hn gσ wσ hh gσ_1 wσ_1 gσ_2 wσ_2 gσ_3 wσ_3 gσ_4 wσ_4 gσ_5 wσ_5 gσ_6 wσ_6 hm42 hge42 gσ_8 wσ_8 gc_10_x_7 c_10 hm75 hge75 szσ_15 gσ_15 wσ_15 gc_17_x_14 c_17 asf_64 gc_94_f_64 c_94 asf_95 ahpσ_97 bhpσ_97 dhpσ_97 c_98 chpσ_97 kc_99 ahpσ_101 bhpσ_101 chpσ_101 gσ_101 wσ_101; omega) | omega)), (hF.trans hout), fr_σ_101⟩ dX12_lay_111
        have kc_102 : (0 : Int32).toInt = 0 := rfl
        exact L_75_16 ((2147483647 - (0 : Int32).toInt).toNat + 1) 0 0 0 0 σ_8 _ _ ls (Nat.lt_succ_self _) (by decide) szσ_8 nnσ_8 fr_σ_8 gσ_8 wσ_8 kqσ_8 fxσ_8 hF hI (lv_sub hl [4, 5, 6, 7, 8, 3, 2, 1, 0] rfl)
      · skip
        replace hF := q_ifp hF c_10
        refine lv_aload_n hx hb dX12_lay_49 rfl (lv_at hl 0 rfl) ?_
        refine gs_X12_47_12 E hI ha dX12_lay_50 ?_
        refine lv_iload hx hb dX12_lay_53 (lv_at hl 5 rfl) ?_
        refine lv_iconst (v := 0) hx hb dX12_lay_55 (by decide) ?_
        have kc_104 : (0 : Int32).toInt = 0 := rfl
        refine q_iastN E hI (q_tk (k' := 39) hI ha rfl (by decide)) ⟨by decide, rfl⟩ (by first | (clear hn gσ wσ hh gσ_1 wσ_1 gσ_2 wσ_2 gσ_3 wσ_3 gσ_4 wσ_4 gσ_5 wσ_5 gσ_6 wσ_6 hm42 gσ_8 wσ_8 gc_10_x_7 kc_104; omega) | omega) (by rw [q_lnk (v := 10) hI (q_tk (k' := 39) hI ha rfl (by decide)) rfl (by decide)]; omega) (show 1 < 9 by decide) (q_inU rfl) dX12_lay_56 (fun H locs σ_103 hσ_103 hI => ?_)
        replace hF := q_letX hF hσ_103
        have fr_σ_103 := fr_σ_8.si hσ_103 (q_tk (k' := 39) hI ha rfl (by decide)) rfl
        have mcσ_103 := m_wo hσ_103 (m_ne (q_tk (k' := 39) hI ha rfl (by decide)) (q_tk (f := 20) (k' := 34) hI ha rfl (by decide)) (by decide))
        have gσ_103 : m_G (m_c X σ_103 a) := m_G.ext (fun j _ _ => mcσ_103 j) gσ_8
        have wσ_103 : m_W (m_c X σ_103 a) n := m_W.ext (fun j _ _ => mcσ_103 j) wσ_8
        have kqσ_103 : ∀ j, 654 ≤ j → m_c X σ_103 a j = m_c X σ a j := fun j h => (mcσ_103 j).trans (kqσ_8 j h)
        have fxσ_103 : m_c X σ_103 a = m_c X σ a := (funext mcσ_103).trans fxσ_8
        have moσ_103 := m_ofw hσ_103 (rfl : x_7.toInt = _) (by first | (clear hn gσ wσ hh gσ_1 wσ_1 gσ_2 wσ_2 gσ_3 wσ_3 gσ_4 wσ_4 gσ_5 wσ_5 gσ_6 wσ_6 hm42 gσ_8 wσ_8 gc_10_x_7 kc_104 gσ_103 wσ_103; omega) | omega)
        have zlσ_103x := zlσ_8
        obtain ⟨z_105, ez_105⟩ : ∃ y : Int32, y = x_7 + 1 := ⟨_, rfl⟩
        replace hF := q_letX hF ez_105
        refine lv_iinc (v := z_105) (lv' := [(5, .int z_105), (0, .ref a), (1, .int v1), (2, .int v2), (3, .int v3), (4, .int v4)]) hx hb dX12_lay_57 hl (k := 5) rfl (by rw [ez_105]; rfl) (by decide) rfl (fun ls hl => ?_)
        have iz_105 : z_105.toInt = x_7.toInt + 1 := q_inc ez_105 (by first | (clear hn gσ wσ hh gσ_1 wσ_1 gσ_2 wσ_2 gσ_3 wσ_3 gσ_4 wσ_4 gσ_5 wσ_5 gσ_6 wσ_6 hm42 gσ_8 wσ_8 gc_10_x_7 kc_104 gσ_103 wσ_103; omega) | omega)
        refine lv_goto (tgt := 42) hx hb dX12_lay_60 (by decide) ?_
        exact ih42 z_105 σ_103 _ _ ls (by first | (clear hn gσ wσ hh gσ_1 wσ_1 gσ_2 wσ_2 gσ_3 wσ_3 gσ_4 wσ_4 gσ_5 wσ_5 gσ_6 wσ_6 gσ_8 wσ_8 gc_10_x_7 kc_104 gσ_103 wσ_103; omega) | omega) (by first | (clear hn gσ wσ hh gσ_1 wσ_1 gσ_2 wσ_2 gσ_3 wσ_3 gσ_4 wσ_4 gσ_5 wσ_5 gσ_6 wσ_6 hm42 gσ_8 wσ_8 gc_10_x_7 kc_104 gσ_103 wσ_103; omega) | omega) (fun k h0 h1 => by rw [moσ_103 k h0]; split; rfl; exact zlσ_103x k h0 (by first | (clear hn gσ wσ hh gσ_1 wσ_1 gσ_2 wσ_2 gσ_3 wσ_3 gσ_4 wσ_4 gσ_5 wσ_5 gσ_6 wσ_6 hm42 hge42 gσ_8 wσ_8 gc_10_x_7 c_10 kc_104 gσ_103 wσ_103; omega) | omega)) fr_σ_103 gσ_103 wσ_103 kqσ_103 fxσ_103 hF hI (lv_sub hl [1, 2, 3, 4, 5, 0] rfl)
  have kc_106 : (0 : Int32).toInt = 0 := rfl
  exact L_42_9 ((2147483647 - (0 : Int32).toInt).toNat + 1) 0 σ_6 _ _ ls (Nat.lt_succ_self _) (by decide) (fun k h0 h1 => by have q : (0 : Int32).toInt = 0 := rfl; omega) fr_σ_6 gσ_6 wσ_6 kqσ_6 fxσ_6 hF hI (lv_sub hl [1, 2, 3, 4, 5, 0] rfl)
