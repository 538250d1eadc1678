section
set_option maxRecDepth 100000 in
set_option maxHeartbeats 4000000 in
theorem c_X12_leaves (l : Launch) (X : XW) (σ : ST) (a : Nat) (n : Int) (ha : q_kd X a = 12) (hG : m_G (m_c X σ a)) (hW : m_W (m_c X σ a) n) (ho : m_c X σ a 7 = 1) : Met l yX12_leaves (q_ws yX12_leaves cX12_leaves 2 none) (q_rm 2 45) (q_P X σ [.ref a]) (q_Qv X 1 σ (fun (σ' : ST) => (m_G (m_c X σ' a)) ∧ (m_W (m_c X σ' a) n) ∧ (∀ j, 654 ≤ j → m_c X σ' a j = m_c X σ a j) ∧ (m_KD 40 X σ σ') ∧ (m_c X σ' a 7 = 0) ∧ (m_c X σ' a 2 = m_c X σ a 2) ∧ σ' = F_X12_leaves X σ a ∧ q_ow [(34, 99)] [] X σ σ')) 0 0 (q_reg X) := by
  refine q_met 1 (by first | exact rfl | decide +kernel) rfl (Nat.le_of_ble_eq_true rfl) (fun p e s m below meth c E hml hr hlk hI ls hl => ?_)
  have hx := E.1
  have hb := E.2.1
  have hl : lv_has ls 2 [(0, .ref a)] := hl
  have gσ : m_G (m_c X σ a) := hG
  have wσ : m_W (m_c X σ a) n := hW
  have kqσ : ∀ j, 654 ≤ j → m_c X σ a j = m_c X σ a j := fun _ _ => rfl
  have kdσ : m_KD 40 X σ σ := m_KD.rf
  have k2σ : m_c X σ a 0 = m_c X σ a 0 ∧ m_c X σ a 2 = m_c X σ a 2 := ⟨rfl, rfl⟩
  have fr_σ : q_ow [(34, 99)] [] X σ σ := q_ow.rf
  have hh := hG.hd
  obtain ⟨out, hout⟩ : ∃ o, o = F_X12_leaves X σ a := ⟨_, rfl⟩
  have hF := hout.symm
  unfold F_X12_leaves at hF
  refine lv_aload_n hx hb dX12_leaves_0 rfl (lv_at hl 0 rfl) ?_
  refine gs_X12_35_12 E hI ha dX12_leaves_1 ?_
  refine lv_bipush (v := 6) hx hb dX12_leaves_4 zkb_6 ?_
  refine q_iald E hI (q_tk (k' := 34) hI ha rfl (Nat.succ_ne_zero _)) ⟨by decide, rfl⟩ (by decide) (by rw [q_lnk (v := 4650) hI (q_tk (k' := 34) hI ha rfl (Nat.succ_ne_zero _)) rfl (by decide)]; decide) dX12_leaves_6 ?_
  refine lv_topi (fun f_1 ef_1 => ?_)
  replace hF := q_letX hF ef_1
  have if_1 : f_1.toInt = m_c X σ a 6 := m_rd ef_1 (by decide)
  refine lv_istore_n (lv' := [(1, .int f_1), (0, .ref a)]) hx hb dX12_leaves_7 rfl hl (by decide) rfl (fun ls hl => ?_)
  refine lv_aload_n hx hb dX12_leaves_8 rfl (lv_at hl 1 rfl) ?_
  refine gs_X12_35_12 E hI ha dX12_leaves_9 ?_
  refine lv_bipush (v := 7) hx hb dX12_leaves_12 zkb_7 ?_
  refine lv_iconst (v := 0) hx hb dX12_leaves_14 zki_0 ?_
  have kc_3 : (0 : Int32).toInt = 0 := zt_0
  refine q_iastN E hI (q_tk (k' := 34) hI ha rfl (Nat.succ_ne_zero _)) ⟨by decide, rfl⟩ (by decide) (by rw [q_lnk (v := 4650) hI (q_tk (k' := 34) hI ha rfl (Nat.succ_ne_zero _)) rfl (by decide)]; decide) (show 1 < 2 by decide) (q_inU rfl) dX12_leaves_15 (fun H locs σ_2 hσ_2 hI => ?_)
  replace hF := q_letX hF hσ_2
  have fr_σ_2 := fr_σ.si hσ_2 (q_tk (k' := 34) hI ha rfl (Nat.succ_ne_zero _)) rfl
  have mcσ_2 := m_wr (v := (0 : Int32)) (A := 7) hσ_2 (by decide) (by decide)
  have gσ_2 : m_G (m_c X σ_2 a) := m_G.wr gσ mcσ_2 (by first | (clear gσ wσ kdσ k2σ; omega) | omega)
  have wσ_2 : m_W (m_c X σ_2 a) n := m_W.wr wσ mcσ_2 (by first | (clear ho gσ wσ kdσ k2σ hh if_1 kc_3 gσ_2; omega) | omega)
  have kqσ_2 : ∀ j, 654 ≤ j → m_c X σ_2 a j = m_c X σ a j := fun j h => by rw [mcσ_2 j (by first | (clear ho gσ wσ kdσ k2σ hh if_1 kc_3 gσ_2 wσ_2; omega) | omega), if_neg (by first | (clear ho gσ wσ kdσ k2σ hh if_1 kc_3 gσ_2 wσ_2; omega) | omega)] <;> exact kqσ j h
  have kdσ_2 : m_KD 40 X σ σ_2 := kdσ.ar hσ_2 (q_tk (k' := 34) hI ha rfl (Nat.succ_ne_zero _)) (by decide) (by decide)
  have k2σ_2 : m_c X σ_2 a 0 = m_c X σ a 0 ∧ m_c X σ_2 a 2 = m_c X σ a 2 := ⟨by rw [mcσ_2 0 (by decide), if_neg (by first | (clear ho gσ wσ kdσ k2σ hh if_1 kc_3 gσ_2 wσ_2 kdσ_2; omega) | omega)] <;> exact k2σ.1, by rw [mcσ_2 2 (by decide), if_neg (by first | (clear ho gσ wσ kdσ k2σ hh if_1 kc_3 gσ_2 wσ_2 kdσ_2; omega) | omega)] <;> exact k2σ.2⟩
  have z7σ_2 : m_c X σ_2 a 7 = 0 := (by rw [mcσ_2 7 (by decide), if_pos rfl]; rfl)
  refine lv_aload_n hx hb dX12_leaves_16 rfl (lv_at hl 1 rfl) ?_
  refine lv_iload_n hx hb dX12_leaves_17 rfl (lv_at hl 0 rfl) ?_
  refine q_ci (q_rV11_1 (rest := []) E (hml.trans hl.1.symm) hI (c_X12_cardsOf l X σ_2 a f_1 ha gσ_2 (by first | (clear gσ wσ kdσ k2σ kc_3 gσ_2 wσ_2 kdσ_2 z7σ_2; omega) | omega)) kv_X12_293 ha ⟨Nat.le_of_ble_eq_true rfl, Nat.le_of_ble_eq_true rfl⟩ (Nat.le_of_ble_eq_true rfl) dX12_leaves_18) hI (Nat.le_of_ble_eq_true rfl) (fun r_4 σ_5 H locs hpσ_5 hkσ_5 hI => ?_)
  have ahpσ_5 := hpσ_5.1
  have bhpσ_5 := hpσ_5.2.1
  have chpσ_5 := hpσ_5.2.2.1
  have dhpσ_5 := hpσ_5.2.2.2
  clear hpσ_5
  replace hI := q_Irw ahpσ_5 hI
  replace hF := q_letX hF dhpσ_5
  refine q_if_ne (A := r_4.toInt) E rfl (tgt := 32) dX12_leaves_21 (by decide) (fun c_6 => ?_) (fun c_6 => ?_)
  · skip
    replace hF := q_ifn hF c_6
    refine lv_aload_n hx hb dX12_leaves_32 rfl (lv_at hl 1 rfl) ?_
    refine gs_X12_35_12 E hI ha dX12_leaves_33 ?_
    refine lv_iconst (v := 5) hx hb dX12_leaves_36 zki_5 ?_
    refine lv_aload_n hx hb dX12_leaves_37 rfl (lv_at hl 1 rfl) ?_
    refine lv_iconst (v := 1) hx hb dX12_leaves_38 zki_1 ?_
    have kc_7 : (1 : Int32).toInt = 1 := zt_1
    refine q_ci (q_rV11_1 (rest := [.int 5, .ref (q_rf X a 20)]) E (hml.trans hl.1.symm) hI (c_X12_nextKind l X σ_2 a (1 : Int32) ha gσ_2) kv_X12_315 ha ⟨Nat.le_of_ble_eq_true rfl, Nat.le_of_ble_eq_true rfl⟩ (Nat.le_of_ble_eq_true rfl) dX12_leaves_39) hI (Nat.le_of_ble_eq_true rfl) (fun r_8 σ_9 H locs hpσ_9 hkσ_9 hI => ?_)
    have ahpσ_9 := hpσ_9.1
    have bhpσ_9 := hpσ_9.2.1
    have chpσ_9 := hpσ_9.2.2
    clear hpσ_9
    replace hI := q_Irw ahpσ_9 hI
    replace hF := q_letX hF chpσ_9
    refine q_iastN E hI (q_tk (k' := 34) hI ha rfl (Nat.succ_ne_zero _)) ⟨by decide, rfl⟩ (by decide) (by rw [q_lnk (v := 4650) hI (q_tk (k' := 34) hI ha rfl (Nat.succ_ne_zero _)) rfl (by decide)]; decide) (show 1 < 2 by decide) (q_inU rfl) dX12_leaves_42 (fun H locs σ_10 hσ_10 hI => ?_)
    replace hF := q_letX hF hσ_10
    have fr_σ_10 := fr_σ_2.si hσ_10 (q_tk (k' := 34) hI ha rfl (Nat.succ_ne_zero _)) rfl
    have mcσ_10 := m_wr (v := r_8) (A := 5) hσ_10 (by decide) (by decide)
    have gσ_10 : m_G (m_c X σ_10 a) := m_G.wr gσ_2 mcσ_10 (by first | (clear ho gσ wσ kdσ k2σ hh if_1 kc_3 gσ_2 wσ_2 kdσ_2 k2σ_2 ahpσ_5 bhpσ_5 chpσ_5 dhpσ_5 c_6 kc_7 ahpσ_9 chpσ_9; omega) | omega)
    have wσ_10 : m_W (m_c X σ_10 a) n := m_W.wr wσ_2 mcσ_10 (by first | (clear ho gσ wσ kdσ k2σ hh if_1 kc_3 gσ_2 wσ_2 kdσ_2 k2σ_2 z7σ_2 ahpσ_5 bhpσ_5 chpσ_5 dhpσ_5 c_6 kc_7 ahpσ_9 bhpσ_9 chpσ_9 gσ_10; omega) | omega)
    have kqσ_10 : ∀ j, 654 ≤ j → m_c X σ_10 a j = m_c X σ a j := fun j h => by rw [mcσ_10 j (by first | (clear ho gσ wσ kdσ k2σ hh if_1 kc_3 gσ_2 wσ_2 kdσ_2 k2σ_2 z7σ_2 ahpσ_5 bhpσ_5 chpσ_5 dhpσ_5 c_6 kc_7 ahpσ_9 bhpσ_9 chpσ_9 gσ_10 wσ_10; omega) | omega), if_neg (by first | (clear ho gσ wσ kdσ k2σ hh if_1 kc_3 gσ_2 wσ_2 kdσ_2 k2σ_2 z7σ_2 ahpσ_5 bhpσ_5 chpσ_5 dhpσ_5 c_6 kc_7 ahpσ_9 bhpσ_9 chpσ_9 gσ_10 wσ_10; omega) | omega)] <;> exact kqσ_2 j h
    have kdσ_10 : m_KD 40 X σ σ_10 := kdσ_2.ar hσ_10 (q_tk (k' := 34) hI ha rfl (Nat.succ_ne_zero _)) (by decide) (by decide)
    have k2σ_10 : m_c X σ_10 a 0 = m_c X σ a 0 ∧ m_c X σ_10 a 2 = m_c X σ a 2 := ⟨by rw [mcσ_10 0 (by decide), if_neg (by first | (clear ho gσ wσ kdσ k2σ hh if_1 kc_3 gσ_2 wσ_2 kdσ_2 k2σ_2 z7σ_2 ahpσ_5 bhpσ_5 chpσ_5 dhpσ_5 c_6 kc_7 ahpσ_9 bhpσ_9 chpσ_9 gσ_10 wσ_10 kdσ_10; omega) | omega)] <;> exact k2σ_2.1, by rw [mcσ_10 2 (by decide), if_neg (by first | (clear ho gσ wσ kdσ k2σ hh if_1 kc_3 gσ_2 wσ_2 kdσ_2 k2σ_2 z7σ_2 ahpσ_5 bhpσ_5 chpσ_5 dhpσ_5 c_6 kc_7 ahpσ_9 bhpσ_9 chpσ_9 gσ_10 wσ_10 kdσ_10; omega) | omega)] <;> exact k2σ_2.2⟩
    have z7σ_10 : m_c X σ_10 a 7 = 0 := (by rw [mcσ_10 7 (by decide), if_neg (by first | (clear ho gσ wσ kdσ k2σ hh if_1 kc_3 gσ_2 wσ_2 kdσ_2 k2σ_2 z7σ_2 ahpσ_5 bhpσ_5 chpσ_5 dhpσ_5 c_6 kc_7 ahpσ_9 bhpσ_9 chpσ_9 gσ_10 wσ_10 kdσ_10 k2σ_10; omega) | omega)]; exact z7σ_2)
    refine lv_aload_n hx hb dX12_leaves_43 rfl (lv_at hl 1 rfl) ?_
    refine gs_X12_35_12 E hI ha dX12_leaves_44 ?_
    refine lv_bipush (v := 6) hx hb dX12_leaves_47 zkb_6 ?_
    refine lv_aload_n hx hb dX12_leaves_49 rfl (lv_at hl 1 rfl) ?_
    refine lv_iload_n hx hb dX12_leaves_50 rfl (lv_at hl 0 rfl) ?_
    refine q_ci (q_rV11_1 (rest := [.int 6, .ref (q_rf X a 20)]) E (hml.trans hl.1.symm) hI (c_X12_behindOf l X σ_10 a f_1 ha gσ_10 (by first | (clear gσ wσ kdσ k2σ kc_3 gσ_2 wσ_2 kdσ_2 z7σ_2 ahpσ_5 bhpσ_5 chpσ_5 dhpσ_5 c_6 kc_7 ahpσ_9 bhpσ_9 chpσ_9 gσ_10 wσ_10 kdσ_10 z7σ_10; omega) | omega)) kv_X12_319 ha ⟨Nat.le_of_ble_eq_true rfl, Nat.le_of_ble_eq_true rfl⟩ (Nat.le_of_ble_eq_true rfl) dX12_leaves_51) hI (Nat.le_of_ble_eq_true rfl) (fun r_11 σ_12 H locs hpσ_12 hkσ_12 hI => ?_)
    have ahpσ_12 := hpσ_12.1
    have bhpσ_12 := hpσ_12.2.1
    have chpσ_12 := hpσ_12.2.2.1
    have dhpσ_12 := hpσ_12.2.2.2
    clear hpσ_12
    replace hI := q_Irw ahpσ_12 hI
    replace hF := q_letX hF dhpσ_12
    refine q_iastN E hI (q_tk (k' := 34) hI ha rfl (Nat.succ_ne_zero _)) ⟨by decide, rfl⟩ (by decide) (by rw [q_lnk (v := 4650) hI (q_tk (k' := 34) hI ha rfl (Nat.succ_ne_zero _)) rfl (by decide)]; decide) (show 1 < 2 by decide) (q_inU rfl) dX12_leaves_54 (fun H locs σ_13 hσ_13 hI => ?_)
    replace hF := q_letX hF hσ_13
    have fr_σ_13 := fr_σ_10.si hσ_13 (q_tk (k' := 34) hI ha rfl (Nat.succ_ne_zero _)) rfl
    have mcσ_13 := m_wr (v := r_11) (A := 6) hσ_13 (by decide) (by decide)
    have gσ_13 : m_G (m_c X σ_13 a) := m_G.wr gσ_10 mcσ_13 (by first | (clear ho gσ wσ kdσ k2σ hh if_1 kc_3 gσ_2 wσ_2 kdσ_2 k2σ_2 z7σ_2 ahpσ_5 bhpσ_5 chpσ_5 dhpσ_5 c_6 kc_7 ahpσ_9 bhpσ_9 chpσ_9 gσ_10 wσ_10 kdσ_10 k2σ_10 ahpσ_12 chpσ_12 dhpσ_12; omega) | omega)
    have wσ_13 : m_W (m_c X σ_13 a) n := m_W.wr wσ_10 mcσ_13 (by first | (clear ho gσ wσ kdσ k2σ hh if_1 kc_3 gσ_2 wσ_2 kdσ_2 k2σ_2 z7σ_2 ahpσ_5 bhpσ_5 chpσ_5 dhpσ_5 c_6 kc_7 ahpσ_9 bhpσ_9 chpσ_9 gσ_10 wσ_10 kdσ_10 k2σ_10 z7σ_10 ahpσ_12 bhpσ_12 chpσ_12 dhpσ_12 gσ_13; omega) | omega)
    have kqσ_13 : ∀ j, 654 ≤ j → m_c X σ_13 a j = m_c X σ a j := fun j h => by rw [mcσ_13 j (by first | (clear ho gσ wσ kdσ k2σ hh if_1 kc_3 gσ_2 wσ_2 kdσ_2 k2σ_2 z7σ_2 ahpσ_5 bhpσ_5 chpσ_5 dhpσ_5 c_6 kc_7 ahpσ_9 bhpσ_9 chpσ_9 gσ_10 wσ_10 kdσ_10 k2σ_10 z7σ_10 ahpσ_12 bhpσ_12 chpσ_12 dhpσ_12 gσ_13 wσ_13; omega) | omega), if_neg (by first | (clear ho gσ wσ kdσ k2σ hh if_1 kc_3 gσ_2 wσ_2 kdσ_2 k2σ_2 z7σ_2 ahpσ_5 bhpσ_5 chpσ_5 dhpσ_5 c_6 kc_7 ahpσ_9 bhpσ_9 chpσ_9 gσ_10 wσ_10 kdσ_10 k2σ_10 z7σ_10 ahpσ_12 bhpσ_12 chpσ_12 dhpσ_12 gσ_13 wσ_13; omega) | omega)] <;> exact kqσ_10 j h
    have kdσ_13 : m_KD 40 X σ σ_13 := kdσ_10.ar hσ_13 (q_tk (k' := 34) hI ha rfl (Nat.succ_ne_zero _)) (by decide) (by decide)
    have k2σ_13 : m_c X σ_13 a 0 = m_c X σ a 0 ∧ m_c X σ_13 a 2 = m_c X σ a 2 := ⟨by rw [mcσ_13 0 (by decide), if_neg (by first | (clear ho gσ wσ kdσ k2σ hh if_1 kc_3 gσ_2 wσ_2 kdσ_2 k2σ_2 z7σ_2 ahpσ_5 bhpσ_5 chpσ_5 dhpσ_5 c_6 kc_7 ahpσ_9 bhpσ_9 chpσ_9 gσ_10 wσ_10 kdσ_10 k2σ_10 z7σ_10 ahpσ_12 bhpσ_12 chpσ_12 dhpσ_12 gσ_13 wσ_13 kdσ_13; omega) | omega)] <;> exact k2σ_10.1, by rw [mcσ_13 2 (by decide), if_neg (by first | (clear ho gσ wσ kdσ k2σ hh if_1 kc_3 gσ_2 wσ_2 kdσ_2 k2σ_2 z7σ_2 ahpσ_5 bhpσ_5 chpσ_5 dhpσ_5 c_6 kc_7 ahpσ_9 bhpσ_9 chpσ_9 gσ_10 wσ_10 kdσ_10 k2σ_10 z7σ_10 ahpσ_12 bhpσ_12 chpσ_12 dhpσ_12 gσ_13 wσ_13 kdσ_13; omega) | omega)] <;> exact k2σ_10.2⟩
    have z7σ_13 : m_c X σ_13 a 7 = 0 := (by rw [mcσ_13 7 (by decide), if_neg (by first | (clear ho gσ wσ kdσ k2σ hh if_1 kc_3 gσ_2 wσ_2 kdσ_2 k2σ_2 z7σ_2 ahpσ_5 bhpσ_5 chpσ_5 dhpσ_5 c_6 kc_7 ahpσ_9 bhpσ_9 chpσ_9 gσ_10 wσ_10 kdσ_10 k2σ_10 z7σ_10 ahpσ_12 bhpσ_12 chpσ_12 dhpσ_12 gσ_13 wσ_13 kdσ_13 k2σ_13; omega) | omega)]; exact z7σ_10)
    exact q_retv E hr hlk hI ⟨gσ_13, wσ_13, kqσ_13, kdσ_13, z7σ_13, k2σ_13.2, (hF.trans hout), fr_σ_13⟩ dX12_leaves_55
  · skip
    replace hF := q_ifp hF c_6
    refine lv_aload_n hx hb dX12_leaves_24 rfl (lv_at hl 1 rfl) ?_
    refine gs_X12_35_12 E hI ha dX12_leaves_25 ?_
    refine lv_bipush (v := 8) hx hb dX12_leaves_28 zkb_8 ?_
    refine lv_iload_n hx hb dX12_leaves_30 rfl (lv_at hl 0 rfl) ?_
    refine q_iastN E hI (q_tk (k' := 34) hI ha rfl (Nat.succ_ne_zero _)) ⟨by decide, rfl⟩ (by decide) (by rw [q_lnk (v := 4650) hI (q_tk (k' := 34) hI ha rfl (Nat.succ_ne_zero _)) rfl (by decide)]; decide) (show 1 < 2 by decide) (q_inU rfl) dX12_leaves_31 (fun H locs σ_14 hσ_14 hI => ?_)
    replace hF := q_letX hF hσ_14
    have fr_σ_14 := fr_σ_2.si hσ_14 (q_tk (k' := 34) hI ha rfl (Nat.succ_ne_zero _)) rfl
    have mcσ_14 := m_wr (v := f_1) (A := 8) hσ_14 (by decide) (by decide)
    have gσ_14 : m_G (m_c X σ_14 a) := m_G.wr gσ_2 mcσ_14 (by first | (clear gσ wσ kdσ k2σ kc_3 gσ_2 wσ_2 kdσ_2 ahpσ_5 bhpσ_5 chpσ_5 dhpσ_5 c_6; omega) | omega)
    have wσ_14 : m_W (m_c X σ_14 a) n := m_W.wr wσ_2 mcσ_14 (by first | (clear ho gσ wσ kdσ k2σ hh if_1 kc_3 gσ_2 wσ_2 kdσ_2 k2σ_2 z7σ_2 ahpσ_5 bhpσ_5 chpσ_5 dhpσ_5 c_6 gσ_14; omega) | omega)
    have kqσ_14 : ∀ j, 654 ≤ j → m_c X σ_14 a j = m_c X σ a j := fun j h => by rw [mcσ_14 j (by first | (clear ho gσ wσ kdσ k2σ hh if_1 kc_3 gσ_2 wσ_2 kdσ_2 k2σ_2 z7σ_2 ahpσ_5 bhpσ_5 chpσ_5 dhpσ_5 c_6 gσ_14 wσ_14; omega) | omega), if_neg (by first | (clear ho gσ wσ kdσ k2σ hh if_1 kc_3 gσ_2 wσ_2 kdσ_2 k2σ_2 z7σ_2 ahpσ_5 bhpσ_5 chpσ_5 dhpσ_5 c_6 gσ_14 wσ_14; omega) | omega)] <;> exact kqσ_2 j h
    have kdσ_14 : m_KD 40 X σ σ_14 := kdσ_2.ar hσ_14 (q_tk (k' := 34) hI ha rfl (Nat.succ_ne_zero _)) (by decide) (by decide)
    have k2σ_14 : m_c X σ_14 a 0 = m_c X σ a 0 ∧ m_c X σ_14 a 2 = m_c X σ a 2 := ⟨by rw [mcσ_14 0 (by decide), if_neg (by first | (clear ho gσ wσ kdσ k2σ hh if_1 kc_3 gσ_2 wσ_2 kdσ_2 k2σ_2 z7σ_2 ahpσ_5 bhpσ_5 chpσ_5 dhpσ_5 c_6 gσ_14 wσ_14 kdσ_14; omega) | omega)] <;> exact k2σ_2.1, by rw [mcσ_14 2 (by decide), if_neg (by first | (clear ho gσ wσ kdσ k2σ hh if_1 kc_3 gσ_2 wσ_2 kdσ_2 k2σ_2 z7σ_2 ahpσ_5 bhpσ_5 chpσ_5 dhpσ_5 c_6 gσ_14 wσ_14 kdσ_14; omega) | omega)] <;> exact k2σ_2.2⟩
    have z7σ_14 : m_c X σ_14 a 7 = 0 := (by rw [mcσ_14 7 (by decide), if_neg (by first | (clear ho gσ wσ kdσ k2σ hh if_1 kc_3 gσ_2 wσ_2 kdσ_2 k2σ_2 z7σ_2 ahpσ_5 bhpσ_5 chpσ_5 dhpσ_5 c_6 gσ_14 wσ_14 kdσ_14 k2σ_14; omega) | omega)]; exact z7σ_2)
    refine lv_aload_n hx hb dX12_leaves_32 rfl (lv_at hl 1 rfl) ?_
    refine gs_X12_35_12 E hI ha dX12_leaves_33 ?_
    refine lv_iconst (v := 5) hx hb dX12_leaves_36 zki_5 ?_
    refine lv_aload_n hx hb dX12_leaves_37 rfl (lv_at hl 1 rfl) ?_
    refine lv_iconst (v := 1) hx hb dX12_leaves_38 zki_1 ?_
    have kc_15 : (1 : Int32).toInt = 1 := zt_1
    refine q_ci (q_rV11_1 (rest := [.int 5, .ref (q_rf X a 20)]) E (hml.trans hl.1.symm) hI (c_X12_nextKind l X σ_14 a (1 : Int32) ha gσ_14) kv_X12_315 ha ⟨Nat.le_of_ble_eq_true rfl, Nat.le_of_ble_eq_true rfl⟩ (Nat.le_of_ble_eq_true rfl) dX12_leaves_39) hI (Nat.le_of_ble_eq_true rfl) (fun r_16 σ_17 H locs hpσ_17 hkσ_17 hI => ?_)
    have ahpσ_17 := hpσ_17.1
    have bhpσ_17 := hpσ_17.2.1
    have chpσ_17 := hpσ_17.2.2
    clear hpσ_17
    replace hI := q_Irw ahpσ_17 hI
    replace hF := q_letX hF chpσ_17
    refine q_iastN E hI (q_tk (k' := 34) hI ha rfl (Nat.succ_ne_zero _)) ⟨by decide, rfl⟩ (by decide) (by rw [q_lnk (v := 4650) hI (q_tk (k' := 34) hI ha rfl (Nat.succ_ne_zero _)) rfl (by decide)]; decide) (show 1 < 2 by decide) (q_inU rfl) dX12_leaves_42 (fun H locs σ_18 hσ_18 hI => ?_)
    replace hF := q_letX hF hσ_18
    have fr_σ_18 := fr_σ_14.si hσ_18 (q_tk (k' := 34) hI ha rfl (Nat.succ_ne_zero _)) rfl
    have mcσ_18 := m_wr (v := r_16) (A := 5) hσ_18 (by decide) (by decide)
    have gσ_18 : m_G (m_c X σ_18 a) := m_G.wr gσ_14 mcσ_18 (by first | (clear ho gσ wσ kdσ k2σ hh if_1 kc_3 gσ_2 wσ_2 kdσ_2 k2σ_2 z7σ_2 ahpσ_5 bhpσ_5 chpσ_5 dhpσ_5 c_6 gσ_14 wσ_14 kdσ_14 k2σ_14 kc_15 ahpσ_17 chpσ_17; omega) | omega)
    have wσ_18 : m_W (m_c X σ_18 a) n := m_W.wr wσ_14 mcσ_18 (by first | (clear ho gσ wσ kdσ k2σ hh if_1 kc_3 gσ_2 wσ_2 kdσ_2 k2σ_2 z7σ_2 ahpσ_5 bhpσ_5 chpσ_5 dhpσ_5 c_6 gσ_14 wσ_14 kdσ_14 k2σ_14 z7σ_14 kc_15 ahpσ_17 bhpσ_17 chpσ_17 gσ_18; omega) | omega)
    have kqσ_18 : ∀ j, 654 ≤ j → m_c X σ_18 a j = m_c X σ a j := fun j h => by rw [mcσ_18 j (by first | (clear ho gσ wσ kdσ k2σ hh if_1 kc_3 gσ_2 wσ_2 kdσ_2 k2σ_2 z7σ_2 ahpσ_5 bhpσ_5 chpσ_5 dhpσ_5 c_6 gσ_14 wσ_14 kdσ_14 k2σ_14 z7σ_14 kc_15 ahpσ_17 bhpσ_17 chpσ_17 gσ_18 wσ_18; omega) | omega), if_neg (by first | (clear ho gσ wσ kdσ k2σ hh if_1 kc_3 gσ_2 wσ_2 kdσ_2 k2σ_2 z7σ_2 ahpσ_5 bhpσ_5 chpσ_5 dhpσ_5 c_6 gσ_14 wσ_14 kdσ_14 k2σ_14 z7σ_14 kc_15 ahpσ_17 bhpσ_17 chpσ_17 gσ_18 wσ_18; omega) | omega)] <;> exact kqσ_14 j h
    have kdσ_18 : m_KD 40 X σ σ_18 := kdσ_14.ar hσ_18 (q_tk (k' := 34) hI ha rfl (Nat.succ_ne_zero _)) (by decide) (by decide)
    have k2σ_18 : m_c X σ_18 a 0 = m_c X σ a 0 ∧ m_c X σ_18 a 2 = m_c X σ a 2 := ⟨by rw [mcσ_18 0 (by decide), if_neg (by first | (clear ho gσ wσ kdσ k2σ hh if_1 kc_3 gσ_2 wσ_2 kdσ_2 k2σ_2 z7σ_2 ahpσ_5 bhpσ_5 chpσ_5 dhpσ_5 c_6 gσ_14 wσ_14 kdσ_14 k2σ_14 z7σ_14 kc_15 ahpσ_17 bhpσ_17 chpσ_17 gσ_18 wσ_18 kdσ_18; omega) | omega)] <;> exact k2σ_14.1, by rw [mcσ_18 2 (by decide), if_neg (by first | (clear ho gσ wσ kdσ k2σ hh if_1 kc_3 gσ_2 wσ_2 kdσ_2 k2σ_2 z7σ_2 ahpσ_5 bhpσ_5 chpσ_5 dhpσ_5 c_6 gσ_14 wσ_14 kdσ_14 k2σ_14 z7σ_14 kc_15 ahpσ_17 bhpσ_17 chpσ_17 gσ_18 wσ_18 kdσ_18; omega) | omega)] <;> exact k2σ_14.2⟩
    have z7σ_18 : m_c X σ_18 a 7 = 0 := (by rw [mcσ_18 7 (by decide), if_neg (by first | (clear ho gσ wσ kdσ k2σ hh if_1 kc_3 gσ_2 wσ_2 kdσ_2 k2σ_2 z7σ_2 ahpσ_5 bhpσ_5 chpσ_5 dhpσ_5 c_6 gσ_14 wσ_14 kdσ_14 k2σ_14 z7σ_14 kc_15 ahpσ_17 bhpσ_17 chpσ_17 gσ_18 wσ_18 kdσ_18 k2σ_18; omega) | omega)]; exact z7σ_14)
    refine lv_aload_n hx hb dX12_leaves_43 rfl (lv_at hl 1 rfl) ?_
    refine gs_X12_35_12 E hI ha dX12_leaves_44 ?_
    refine lv_bipush (v := 6) hx hb dX12_leaves_47 zkb_6 ?_
    refine lv_aload_n hx hb dX12_leaves_49 rfl (lv_at hl 1 rfl) ?_
    refine lv_iload_n hx hb dX12_leaves_50 rfl (lv_at hl 0 rfl) ?_
    refine q_ci (q_rV11_1 (rest := [.int 6, .ref (q_rf X a 20)]) E (hml.trans hl.1.symm) hI (c_X12_behindOf l X σ_18 a f_1 ha gσ_18 (by first | (clear gσ wσ kdσ k2σ kc_3 gσ_2 wσ_2 kdσ_2 z7σ_2 ahpσ_5 bhpσ_5 chpσ_5 dhpσ_5 c_6 gσ_14 wσ_14 kdσ_14 z7σ_14 kc_15 ahpσ_17 bhpσ_17 chpσ_17 gσ_18 wσ_18 kdσ_18 z7σ_18; omega) | omega)) kv_X12_319 ha ⟨Nat.le_of_ble_eq_true rfl, Nat.le_of_ble_eq_true rfl⟩ (Nat.le_of_ble_eq_true rfl) dX12_leaves_51) hI (Nat.le_of_ble_eq_true rfl) (fun r_19 σ_20 H locs hpσ_20 hkσ_20 hI => ?_)
    have ahpσ_20 := hpσ_20.1
    have bhpσ_20 := hpσ_20.2.1
    have chpσ_20 := hpσ_20.2.2.1
    have dhpσ_20 := hpσ_20.2.2.2
    clear hpσ_20
    replace hI := q_Irw ahpσ_20 hI
    replace hF := q_letX hF dhpσ_20
    refine q_iastN E hI (q_tk (k' := 34) hI ha rfl (Nat.succ_ne_zero _)) ⟨by decide, rfl⟩ (by decide) (by rw [q_lnk (v := 4650) hI (q_tk (k' := 34) hI ha rfl (Nat.succ_ne_zero _)) rfl (by decide)]; decide) (show 1 < 2 by decide) (q_inU rfl) dX12_leaves_54 (fun H locs σ_21 hσ_21 hI => ?_)
    replace hF := q_letX hF hσ_21
    have fr_σ_21 := fr_σ_18.si hσ_21 (q_tk (k' := 34) hI ha rfl (Nat.succ_ne_zero _)) rfl
    have mcσ_21 := m_wr (v := r_19) (A := 6) hσ_21 (by decide) (by decide)
    have gσ_21 : m_G (m_c X σ_21 a) := m_G.wr gσ_18 mcσ_21 (by first | (clear ho gσ wσ kdσ k2σ hh if_1 kc_3 gσ_2 wσ_2 kdσ_2 k2σ_2 z7σ_2 ahpσ_5 bhpσ_5 chpσ_5 dhpσ_5 c_6 gσ_14 wσ_14 kdσ_14 k2σ_14 z7σ_14 kc_15 ahpσ_17 bhpσ_17 chpσ_17 gσ_18 wσ_18 kdσ_18 k2σ_18 ahpσ_20 chpσ_20 dhpσ_20; omega) | omega)
    have wσ_21 : m_W (m_c X σ_21 a) n := m_W.wr wσ_18 mcσ_21 (by first | (clear ho gσ wσ kdσ k2σ hh if_1 kc_3 gσ_2 wσ_2 kdσ_2 k2σ_2 z7σ_2 ahpσ_5 bhpσ_5 chpσ_5 dhpσ_5 c_6 gσ_14 wσ_14 kdσ_14 k2σ_14 z7σ_14 kc_15 ahpσ_17 bhpσ_17 chpσ_17 gσ_18 wσ_18 kdσ_18 k2σ_18 z7σ_18 ahpσ_20 bhpσ_20 chpσ_20 dhpσ_20 gσ_21; omega) | omega)
    have kqσ_21 : ∀ j, 654 ≤ j → m_c X σ_21 a j = m_c X σ a j := fun j h => by rw [mcσ_21 j (by first | (clear ho gσ wσ kdσ k2σ hh if_1 kc_3 gσ_2 wσ_2 kdσ_2 k2σ_2 z7σ_2 ahpσ_5 bhpσ_5 chpσ_5 dhpσ_5 c_6 gσ_14 wσ_14 kdσ_14 k2σ_14 z7σ_14 kc_15 ahpσ_17 bhpσ_17 chpσ_17 gσ_18 wσ_18 kdσ_18 k2σ_18 z7σ_18 ahpσ_20 bhpσ_20 chpσ_20 dhpσ_20 gσ_21 wσ_21; omega) | omega), if_neg (by first | (clear ho gσ wσ kdσ k2σ hh if_1 kc_3 gσ_2 wσ_2 kdσ_2 k2σ_2 z7σ_2 ahpσ_5 bhpσ_5 chpσ_5 dhpσ_5 c_6 gσ_14 wσ_14 kdσ_14 k2σ_14 z7σ_14 kc_15 ahpσ_17 bhpσ_17 chpσ_17 gσ_18 wσ_18 kdσ_18 k2σ_18 z7σ_18 ahpσ_20 bhpσ_20 chpσ_20 dhpσ_20 gσ_21 wσ_21; omega) | omega)] <;> exact kqσ_18 j h
    have kdσ_21 : m_KD 40 X σ σ_21 := kdσ_18.ar hσ_21 (q_tk (k' := 34) hI ha rfl (Nat.succ_ne_zero _)) (by decide) (by decide)
    have k2σ_21 : m_c X σ_21 a 0 = m_c X σ a 0 ∧ m_c X σ_21 a 2 = m_c X σ a 2 := ⟨by rw [mcσ_21 0 (by decide), if_neg (by first | (clear ho gσ wσ kdσ k2σ hh if_1 kc_3 gσ_2 wσ_2 kdσ_2 k2σ_2 z7σ_2 ahpσ_5 bhpσ_5 chpσ_5 dhpσ_5 c_6 gσ_14 wσ_14 kdσ_14 k2σ_14 z7σ_14 kc_15 ahpσ_17 bhpσ_17 chpσ_17 gσ_18 wσ_18 kdσ_18 k2σ_18 z7σ_18 ahpσ_20 bhpσ_20 chpσ_20 dhpσ_20 gσ_21 wσ_21 kdσ_21; omega) | omega)] <;> exact k2σ_18.1, by rw [mcσ_21 2 (by decide), if_neg (by first | (clear ho gσ wσ kdσ k2σ hh if_1 kc_3 gσ_2 wσ_2 kdσ_2 k2σ_2 z7σ_2 ahpσ_5 bhpσ_5 chpσ_5 dhpσ_5 c_6 gσ_14 wσ_14 kdσ_14 k2σ_14 z7σ_14 kc_15 ahpσ_17 bhpσ_17 chpσ_17 gσ_18 wσ_18 kdσ_18 k2σ_18 z7σ_18 ahpσ_20 bhpσ_20 chpσ_20 dhpσ_20 gσ_21 wσ_21 kdσ_21; omega) | omega)] <;> exact k2σ_18.2⟩
    have z7σ_21 : m_c X σ_21 a 7 = 0 := (by rw [mcσ_21 7 (by decide), if_neg (by first | (clear ho gσ wσ kdσ k2σ hh if_1 kc_3 gσ_2 wσ_2 kdσ_2 k2σ_2 z7σ_2 ahpσ_5 bhpσ_5 chpσ_5 dhpσ_5 c_6 gσ_14 wσ_14 kdσ_14 k2σ_14 z7σ_14 kc_15 ahpσ_17 bhpσ_17 chpσ_17 gσ_18 wσ_18 kdσ_18 k2σ_18 z7σ_18 ahpσ_20 bhpσ_20 chpσ_20 dhpσ_20 gσ_21 wσ_21 kdσ_21 k2σ_21; omega) | omega)]; exact z7σ_18)
    exact q_retv E hr hlk hI ⟨gσ_21, wσ_21, kqσ_21, kdσ_21, z7σ_21, k2σ_21.2, (hF.trans hout), fr_σ_21⟩ dX12_leaves_55
end
