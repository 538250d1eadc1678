/-! FROM 44.moves.b00.lean.txt -/
section
set_option maxRecDepth 100000 in
set_option maxHeartbeats 4000000 in
theorem c_X12_leaves (l : Launch) (X : XW) (σ : ST) (a : Nat) (n : Int) (ha : q_kd X a = 12) (hG : m_G (m_c X σ a)) (hW : m_W (m_c X σ a) n) (ho : m_c X σ a 7 = 1) : Met l yX12_leaves (q_ws yX12_leaves cX12_leaves 2 none) (q_rm 2 45) (q_P X σ [.ref a]) (q_Qv X 1 σ (fun (σ' : ST) => (m_G (m_c X σ' a)) ∧ (m_W (m_c X σ' a) n) ∧ (∀ j, 654 ≤ j → m_c X σ' a j = m_c X σ a j) ∧ (m_KD 40 X σ σ') ∧ (m_c X σ' a 7 = 0) ∧ (m_c X σ' a 2 = m_c X σ a 2) ∧ σ' = F_X12_leaves X σ a ∧ q_ow [(34, 99)] [] X σ σ')) 0 0 (q_reg X) := by
  refine q_met 1 (by first | exact rfl | decide +kernel) rfl (Nat.le_of_ble_eq_true rfl) (fun p e s m below meth c E hml hr hlk hI ls hl => ?_)
  have hx := E.1
  have hb := E.2.1
  have hl : lv_has ls 2 [(0, .ref a)] := hl
  have gσ : m_G (m_c X σ a) := hG
  have wσ : m_W (m_c X σ a) n := hW
  have kqσ : ∀ j, 654 ≤ j → m_c X σ a j = m_c X σ a j := fun _ _ => rfl
  have kdσ : m_KD 40 X σ σ := m_KD.rf
  have k2σ : m_c X σ a 0 = m_c X σ a 0 ∧ m_c X σ a 2 = m_c X σ a 2 := ⟨rfl, rfl⟩
  have fr_σ : q_ow [(34, 99)] [] X σ σ := q_ow.rf
  have hh := hG.hd
  obtain ⟨out, hout⟩ : ∃ o, o = F_X12_leaves X σ a := ⟨_, rfl⟩
  have hF := hout.symm
  unfold F_X12_leaves at hF
  refine lv_aload_n hx hb dX12_leaves_0 rfl (lv_at hl 0 rfl) ?_
  refine gs_X12_35_12 E hI ha dX12_leaves_1 ?_
  refine lv_bipush (v := 6) hx hb dX12_leaves_4 zkb_6 ?_
  refine q_iald E hI (q_tk (k' := 34) hI ha rfl (Nat.succ_ne_zero _)) ⟨by decide, rfl⟩ (by decide) (by rw [q_lnk (v := 4650) hI (q_tk (k' := 34) hI ha rfl (Nat.succ_ne_zero _)) rfl (by decide)]; decide) dX12_leaves_6 ?_
  refine lv_topi (fun f_1 ef_1 => ?_)
  replace hF := q_letX hF ef_1
  have if_1 : f_1.toInt = m_c X σ a 6 := m_rd ef_1 (by decide)
  refine lv_istore_n (lv' := [(1, .int f_1), (0, .ref a)]) hx hb dX12_leaves_7 rfl hl (by decide) rfl (fun ls hl => ?_)
  refine lv_aload_n hx hb dX12_leaves_8 rfl (lv_at hl 1 rfl) ?_
  refine gs_X12_35_12 E hI ha dX12_leaves_9 ?_
  refine lv_bipush (v := 7) hx hb dX12_leaves_12 zkb_7 ?_
  refine lv_iconst (v := 0) hx hb dX12_leaves_14 zki_0 ?_
  have kc_3 : (0 : Int32).toInt = 0 := zt_0
  refine q_iastN E hI (q_tk (k' := 34) hI ha rfl (Nat.succ_ne_zero _)) ⟨by decide, rfl⟩ (by decide) (by rw [q_lnk (v := 4650) hI (q_tk (k' := 34) hI ha rfl (Nat.succ_ne_zero _)) rfl (by decide)]; decide) (show 1 < 2 by decide) (q_inU rfl) dX12_leaves_15 (fun H locs σ_2 hσ_2 hI => ?_)
  replace hF := q_letX hF hσ_2
  have fr_σ_2 := fr_σ.si hσ_2 (q_tk (k' := 34) hI ha rfl (Nat.succ_ne_zero _)) rfl
  have mcσ_2 := m_wr (v := (0 : Int32)) (A := 7) hσ_2 (by decide) (by decide)
  have gσ_2 : m_G (m_c X σ_2 a) := m_G.wr gσ mcσ_2 (by first | (clear gσ wσ kdσ k2σ; omega) | omega)
  have wσ_2 : m_W (m_c X σ_2 a) n := m_W.wr wσ mcσ_2 (by first | (clear ho gσ wσ kdσ k2σ hh if_1 kc_3 gσ_2; omega) | omega)
  have kqσ_2 : ∀ j, 654 ≤ j → m_c X σ_2 a j = m_c X σ a j := fun j h => by rw [mcσ_2 j (by first | (clear ho gσ wσ kdσ k2σ hh if_1 kc_3 gσ_2 wσ_2; omega) | omega), if_neg (by first | (clear ho gσ wσ kdσ k2σ hh if_1 kc_3 gσ_2 wσ_2; omega) | omega)] <;> exact kqσ j h
  have kdσ_2 : m_KD 40 X σ σ_2 := kdσ.ar hσ_2 (q_tk (k' := 34) hI ha rfl (Nat.succ_ne_zero _)) (by decide) (by decide)
  have k2σ_2 : m_c X σ_2 a 0 = m_c X σ a 0 ∧ m_c X σ_2 a 2 = m_c X σ a 2 := ⟨by rw [mcσ_2 0 (by decide), if_neg (by first | (clear ho gσ wσ kdσ k2σ hh if_1 kc_3 gσ_2 wσ_2 kdσ_2; omega) | omega)] <;> exact k2σ.1, by rw [mcσ_2 2 (by decide), if_neg (by first | (clear ho gσ wσ kdσ k2σ hh if_1 kc_3 gσ_2 wσ_2 kdσ_2; omega) | omega)] <;> exact k2σ.2⟩
  have z7σ_2 : m_c X σ_2 a 7 = 0 := (by rw [mcσ_2 7 (by decide), if_pos rfl]; rfl)
  refine lv_aload_n hx hb dX12_leaves_16 rfl (lv_at hl 1 rfl) ?_
  refine lv_iload_n hx hb dX12_leaves_17 rfl (lv_at hl 0 rfl) ?_
  refine q_ci (q_rV11_1 (rest := []) E (hml.trans hl.1.symm) hI (c_X12_cardsOf l X σ_2 a f_1 ha gσ_2 (by first | (clear gσ wσ kdσ k2σ kc_3 gσ_2 wσ_2 kdσ_2 z7σ_2; omega) | omega)) kv_X12_293 ha ⟨Nat.le_of_ble_eq_true rfl, Nat.le_of_ble_eq_true rfl⟩ (Nat.le_of_ble_eq_true rfl) dX12_leaves_18) hI (Nat.le_of_ble_eq_true rfl) (fun r_4 σ_5 H locs hpσ_5 hkσ_5 hI => ?_)
  have ahpσ_5 := hpσ_5.1
  have bhpσ_5 := hpσ_5.2.1
  have chpσ_5 := hpσ_5.2.2.1
  have dhpσ_5 := hpσ_5.2.2.2
  clear hpσ_5
  replace hI := q_Irw ahpσ_5 hI
  replace hF := q_letX hF dhpσ_5
  refine q_if_ne (A := r_4.toInt) E rfl (tgt := 32) dX12_leaves_21 (by decide) (fun c_6 => ?_) (fun c_6 => ?_)
  · skip
    replace hF := q_ifn hF c_6
    refine lv_aload_n hx hb dX12_leaves_32 rfl (lv_at hl 1 rfl) ?_
    refine gs_X12_35_12 E hI ha dX12_leaves_33 ?_
    refine lv_iconst (v := 5) hx hb dX12_leaves_36 zki_5 ?_
    refine lv_aload_n hx hb dX12_leaves_37 rfl (lv_at hl 1 rfl) ?_
    refine lv_iconst (v := 1) hx hb dX12_leaves_38 zki_1 ?_
    have kc_7 : (1 : Int32).toInt = 1 := zt_1
    refine q_ci (q_rV11_1 (rest := [.int 5, .ref (q_rf X a 20)]) E (hml.trans hl.1.symm) hI (c_X12_nextKind l X σ_2 a (1 : Int32) ha gσ_2) kv_X12_315 ha ⟨Nat.le_of_ble_eq_true rfl, Nat.le_of_ble_eq_true rfl⟩ (Nat.le_of_ble_eq_true rfl) dX12_leaves_39) hI (Nat.le_of_ble_eq_true rfl) (fun r_8 σ_9 H locs hpσ_9 hkσ_9 hI => ?_)
    have ahpσ_9 := hpσ_9.1
    have bhpσ_9 := hpσ_9.2.1
    have chpσ_9 := hpσ_9.2.2
    clear hpσ_9
    replace hI := q_Irw ahpσ_9 hI
    replace hF := q_letX hF chpσ_9
    refine q_iastN E hI (q_tk (k' := 34) hI ha rfl (Nat.succ_ne_zero _)) ⟨by decide, rfl⟩ (by decide) (by rw [q_lnk (v := 4650) hI (q_tk (k' := 34) hI ha rfl (Nat.succ_ne_zero _)) rfl (by decide)]; decide) (show 1 < 2 by decide) (q_inU rfl) dX12_leaves_42 (fun H locs σ_10 hσ_10 hI => ?_)
    replace hF := q_letX hF hσ_10
    have fr_σ_10 := fr_σ_2.si hσ_10 (q_tk (k' := 34) hI ha rfl (Nat.succ_ne_zero _)) rfl
    have mcσ_10 := m_wr (v := r_8) (A := 5) hσ_10 (by decide) (by decide)
    have gσ_10 : m_G (m_c X σ_10 a) := m_G.wr gσ_2 mcσ_10 (by first | (clear ho gσ wσ kdσ k2σ hh if_1 kc_3 gσ_2 wσ_2 kdσ_2 k2σ_2 ahpσ_5 bhpσ_5 chpσ_5 dhpσ_5 c_6 kc_7 ahpσ_9 chpσ_9; omega) | omega)
    have wσ_10 : m_W (m_c X σ_10 a) n := m_W.wr wσ_2 mcσ_10 (by first | (clear ho gσ wσ kdσ k2σ hh if_1 kc_3 gσ_2 wσ_2 kdσ_2 k2σ_2 z7σ_2 ahpσ_5 bhpσ_5 chpσ_5 dhpσ_5 c_6 kc_7 ahpσ_9 bhpσ_9 chpσ_9 gσ_10; omega) | omega)
    have kqσ_10 : ∀ j, 654 ≤ j → m_c X σ_10 a j = m_c X σ a j := fun j h => by rw [mcσ_10 j (by first | (clear ho gσ wσ kdσ k2σ hh if_1 kc_3 gσ_2 wσ_2 kdσ_2 k2σ_2 z7σ_2 ahpσ_5 bhpσ_5 chpσ_5 dhpσ_5 c_6 kc_7 ahpσ_9 bhpσ_9 chpσ_9 gσ_10 wσ_10; omega) | omega), if_neg (by first | (clear ho gσ wσ kdσ k2σ hh if_1 kc_3 gσ_2 wσ_2 kdσ_2 k2σ_2 z7σ_2 ahpσ_5 bhpσ_5 chpσ_5 dhpσ_5 c_6 kc_7 ahpσ_9 bhpσ_9 chpσ_9 gσ_10 wσ_10; omega) | omega)] <;> exact kqσ_2 j h
    have kdσ_10 : m_KD 40 X σ σ_10 := kdσ_2.ar hσ_10 (q_tk (k' := 34) hI ha rfl (Nat.succ_ne_zero _)) (by decide) (by decide)
    have k2σ_10 : m_c X σ_10 a 0 = m_c X σ a 0 ∧ m_c X σ_10 a 2 = m_c X σ a 2 := ⟨by rw [mcσ_10 0 (by decide), if_neg (by first | (clear ho gσ wσ kdσ k2σ hh if_1 kc_3 gσ_2 wσ_2 kdσ_2 k2σ_2 z7σ_2 ahpσ_5 bhpσ_5 chpσ_5 dhpσ_5 c_6 kc_7 ahpσ_9 bhpσ_9 chpσ_9 gσ_10 wσ_10 kdσ_10; omega) | omega)] <;> exact k2σ_2.1, by rw [mcσ_10 2 (by decide), if_neg (by first | (clear ho gσ wσ kdσ k2σ hh if_1 kc_3 gσ_2 wσ_2 kdσ_2 k2σ_2 z7σ_2 ahpσ_5 bhpσ_5 chpσ_5 dhpσ_5 c_6 kc_7 ahpσ_9 bhpσ_9 chpσ_9 gσ_10 wσ_10 kdσ_10; omega) | omega)] <;> exact k2σ_2.2⟩
    have z7σ_10 : m_c X σ_10 a 7 = 0 := (by rw [mcσ_10 7 (by decide), if_neg (by first | (clear ho gσ wσ kdσ k2σ hh if_1 kc_3 gσ_2 wσ_2 kdσ_2 k2σ_2 z7σ_2 ahpσ_5 bhpσ_5 chpσ_5 dhpσ_5 c_6 kc_7 ahpσ_9 bhpσ_9 chpσ_9 gσ_10 wσ_10 kdσ_10 k2σ_10; omega) | omega)]; exact z7σ_2)
    refine lv_aload_n hx hb dX12_leaves_43 rfl (lv_at hl 1 rfl) ?_
    refine gs_X12_35_12 E hI ha dX12_leaves_44 ?_
    refine lv_bipush (v := 6) hx hb dX12_leaves_47 zkb_6 ?_
    refine lv_aload_n hx hb dX12_leaves_49 rfl (lv_at hl 1 rfl) ?_
    refine lv_iload_n hx hb dX12_leaves_50 rfl (lv_at hl 0 rfl) ?_
    refine q_ci (q_rV11_1 (rest := [.int 6, .ref (q_rf X a 20)]) E (hml.trans hl.1.symm) hI (c_X12_behindOf l X σ_10 a f_1 ha gσ_10 (by first | (clear gσ wσ kdσ k2σ kc_3 gσ_2 wσ_2 kdσ_2 z7σ_2 ahpσ_5 bhpσ_5 chpσ_5 dhpσ_5 c_6 kc_7 ahpσ_9 bhpσ_9 chpσ_9 gσ_10 wσ_10 kdσ_10 z7σ_10; omega) | omega)) kv_X12_319 ha ⟨Nat.le_of_ble_eq_true rfl, Nat.le_of_ble_eq_true rfl⟩ (Nat.le_of_ble_eq_true rfl) dX12_leaves_51) hI (Nat.le_of_ble_eq_true rfl) (fun r_11 σ_12 H locs hpσ_12 hkσ_12 hI => ?_)
    have ahpσ_12 := hpσ_12.1
    have bhpσ_12 := hpσ_12.2.1
    have chpσ_12 := hpσ_12.2.2.1
    have dhpσ_12 := hpσ_12.2.2.2
    clear hpσ_12
    replace hI := q_Irw ahpσ_12 hI
    replace hF := q_letX hF dhpσ_12
    refine q_iastN E hI (q_tk (k' := 34) hI ha rfl (Nat.succ_ne_zero _)) ⟨by decide, rfl⟩ (by decide) (by rw [q_lnk (v := 4650) hI (q_tk (k' := 34) hI ha rfl (Nat.succ_ne_zero _)) rfl (by decide)]; decide) (show 1 < 2 by decide) (q_inU rfl) dX12_leaves_54 (fun H locs σ_13 hσ_13 hI => ?_)
    replace hF := q_letX hF hσ_13
    have fr_σ_13 := fr_σ_10.si hσ_13 (q_tk (k' := 34) hI ha rfl (Nat.succ_ne_zero _)) rfl
    have mcσ_13 := m_wr (v := r_11) (A := 6) hσ_13 (by decide) (by decide)
    have gσ_13 : m_G (m_c X σ_13 a) := m_G.wr gσ_10 mcσ_13 (by first | (clear ho gσ wσ kdσ k2σ hh if_1 kc_3 gσ_2 wσ_2 kdσ_2 k2σ_2 z7σ_2 ahpσ_5 bhpσ_5 chpσ_5 dhpσ_5 c_6 kc_7 ahpσ_9 bhpσ_9 chpσ_9 gσ_10 wσ_10 kdσ_10 k2σ_10 ahpσ_12 chpσ_12 dhpσ_12; omega) | omega)
    have wσ_13 : m_W (m_c X σ_13 a) n := m_W.wr wσ_10 mcσ_13 (by first | (clear ho gσ wσ kdσ k2σ hh if_1 kc_3 gσ_2 wσ_2 kdσ_2 k2σ_2 z7σ_2 ahpσ_5 bhpσ_5 chpσ_5 dhpσ_5 c_6 kc_7 ahpσ_9 bhpσ_9 chpσ_9 gσ_10 wσ_10 kdσ_10 k2σ_10 z7σ_10 ahpσ_12 bhpσ_12 chpσ_12 dhpσ_12 gσ_13; omega) | omega)
    have kqσ_13 : ∀ j, 654 ≤ j → m_c X σ_13 a j = m_c X σ a j := fun j h => by rw [mcσ_13 j (by first | (clear ho gσ wσ kdσ k2σ hh if_1 kc_3 gσ_2 wσ_2 kdσ_2 k2σ_2 z7σ_2 ahpσ_5 bhpσ_5 chpσ_5 dhpσ_5 c_6 kc_7 ahpσ_9 bhpσ_9 chpσ_9 gσ_10 wσ_10 kdσ_10 k2σ_10 z7σ_10 ahpσ_12 bhpσ_12 chpσ_12 dhpσ_12 gσ_13 wσ_13; omega) | omega), if_neg (by first | (clear ho gσ wσ kdσ k2σ hh if_1 kc_3 gσ_2 wσ_2 kdσ_2 k2σ_2 z7σ_2 ahpσ_5 bhpσ_5 chpσ_5 dhpσ_5 c_6 kc_7 ahpσ_9 bhpσ_9 chpσ_9 gσ_10 wσ_10 kdσ_10 k2σ_10 z7σ_10 ahpσ_12 bhpσ_12 chpσ_12 dhpσ_12 gσ_13 wσ_13; omega) | omega)] <;> exact kqσ_10 j h
    have kdσ_13 : m_KD 40 X σ σ_13 := kdσ_10.ar hσ_13 (q_tk (k' := 34) hI ha rfl (Nat.succ_ne_zero _)) (by decide) (by decide)
    have k2σ_13 : m_c X σ_13 a 0 = m_c X σ a 0 ∧ m_c X σ_13 a 2 = m_c X σ a 2 := ⟨by rw [mcσ_13 0 (by decide), if_neg (by first | (clear ho gσ wσ kdσ k2σ hh if_1 kc_3 gσ_2 wσ_2 kdσ_2 k2σ_2 z7σ_2 ahpσ_5 bhpσ_5 chpσ_5 dhpσ_5 c_6 kc_7 ahpσ_9 bhpσ_9 chpσ_9 gσ_10 wσ_10 kdσ_10 k2σ_10 z7σ_10 ahpσ_12 bhpσ_12 chpσ_12 dhpσ_12 gσ_13 wσ_13 kdσ_13; omega) | omega)] <;> exact k2σ_10.1, by rw [mcσ_13 2 (by decide), if_neg (by first | (clear ho gσ wσ kdσ k2σ hh if_1 kc_3 gσ_2 wσ_2 kdσ_2 k2σ_2 z7σ_2 ahpσ_5 bhpσ_5 chpσ_5 dhpσ_5 c_6 kc_7 ahpσ_9 bhpσ_9 chpσ_9 gσ_10 wσ_10 kdσ_10 k2σ_10 z7σ_10 ahpσ_12 bhpσ_12 chpσ_12 dhpσ_12 gσ_13 wσ_13 kdσ_13; omega) | omega)] <;> exact k2σ_10.2⟩
    have z7σ_13 : m_c X σ_13 a 7 = 0 := (by rw [mcσ_13 7 (by decide), if_neg (by first | (clear ho gσ wσ kdσ k2σ hh if_1 kc_3 gσ_2 wσ_2 kdσ_2 k2σ_2 z7σ_2 ahpσ_5 bhpσ_5 chpσ_5 dhpσ_5 c_6 kc_7 ahpσ_9 bhpσ_9 chpσ_9 gσ_10 wσ_10 kdσ_10 k2σ_10 z7σ_10 ahpσ_12 bhpσ_12 chpσ_12 dhpσ_12 gσ_13 wσ_13 kdσ_13 k2σ_13; omega) | omega)]; exact z7σ_10)
    exact q_retv E hr hlk hI ⟨gσ_13, wσ_13, kqσ_13, kdσ_13, z7σ_13, k2σ_13.2, (hF.trans hout), fr_σ_13⟩ dX12_leaves_55
  · skip
    replace hF := q_ifp hF c_6
    refine lv_aload_n hx hb dX12_leaves_24 rfl (lv_at hl 1 rfl) ?_
    refine gs_X12_35_12 E hI ha dX12_leaves_25 ?_
    refine lv_bipush (v := 8) hx hb dX12_leaves_28 zkb_8 ?_
    refine lv_iload_n hx hb dX12_leaves_30 rfl (lv_at hl 0 rfl) ?_
    refine q_iastN E hI (q_tk (k' := 34) hI ha rfl (Nat.succ_ne_zero _)) ⟨by decide, rfl⟩ (by decide) (by rw [q_lnk (v := 4650) hI (q_tk (k' := 34) hI ha rfl (Nat.succ_ne_zero _)) rfl (by decide)]; decide) (show 1 < 2 by decide) (q_inU rfl) dX12_leaves_31 (fun H locs σ_14 hσ_14 hI => ?_)
    replace hF := q_letX hF hσ_14
    have fr_σ_14 := fr_σ_2.si hσ_14 (q_tk (k' := 34) hI ha rfl (Nat.succ_ne_zero _)) rfl
    have mcσ_14 := m_wr (v := f_1) (A := 8) hσ_14 (by decide) (by decide)
    have gσ_14 : m_G (m_c X σ_14 a) := m_G.wr gσ_2 mcσ_14 (by first | (clear gσ wσ kdσ k2σ kc_3 gσ_2 wσ_2 kdσ_2 ahpσ_5 bhpσ_5 chpσ_5 dhpσ_5 c_6; omega) | omega)
    have wσ_14 : m_W (m_c X σ_14 a) n := m_W.wr wσ_2 mcσ_14 (by first | (clear ho gσ wσ kdσ k2σ hh if_1 kc_3 gσ_2 wσ_2 kdσ_2 k2σ_2 z7σ_2 ahpσ_5 bhpσ_5 chpσ_5 dhpσ_5 c_6 gσ_14; omega) | omega)
    have kqσ_14 : ∀ j, 654 ≤ j → m_c X σ_14 a j = m_c X σ a j := fun j h => by rw [mcσ_14 j (by first | (clear ho gσ wσ kdσ k2σ hh if_1 kc_3 gσ_2 wσ_2 kdσ_2 k2σ_2 z7σ_2 ahpσ_5 bhpσ_5 chpσ_5 dhpσ_5 c_6 gσ_14 wσ_14; omega) | omega), if_neg (by first | (clear ho gσ wσ kdσ k2σ hh if_1 kc_3 gσ_2 wσ_2 kdσ_2 k2σ_2 z7σ_2 ahpσ_5 bhpσ_5 chpσ_5 dhpσ_5 c_6 gσ_14 wσ_14; omega) | omega)] <;> exact kqσ_2 j h
    have kdσ_14 : m_KD 40 X σ σ_14 := kdσ_2.ar hσ_14 (q_tk (k' := 34) hI ha rfl (Nat.succ_ne_zero _)) (by decide) (by decide)
    have k2σ_14 : m_c X σ_14 a 0 = m_c X σ a 0 ∧ m_c X σ_14 a 2 = m_c X σ a 2 := ⟨by rw [mcσ_14 0 (by decide), if_neg (by first | (clear ho gσ wσ kdσ k2σ hh if_1 kc_3 gσ_2 wσ_2 kdσ_2 k2σ_2 z7σ_2 ahpσ_5 bhpσ_5 chpσ_5 dhpσ_5 c_6 gσ_14 wσ_14 kdσ_14; omega) | omega)] <;> exact k2σ_2.1, by rw [mcσ_14 2 (by decide), if_neg (by first | (clear ho gσ wσ kdσ k2σ hh if_1 kc_3 gσ_2 wσ_2 kdσ_2 k2σ_2 z7σ_2 ahpσ_5 bhpσ_5 chpσ_5 dhpσ_5 c_6 gσ_14 wσ_14 kdσ_14; omega) | omega)] <;> exact k2σ_2.2⟩
    have z7σ_14 : m_c X σ_14 a 7 = 0 := (by rw [mcσ_14 7 (by decide), if_neg (by first | (clear ho gσ wσ kdσ k2σ hh if_1 kc_3 gσ_2 wσ_2 kdσ_2 k2σ_2 z7σ_2 ahpσ_5 bhpσ_5 chpσ_5 dhpσ_5 c_6 gσ_14 wσ_14 kdσ_14 k2σ_14; omega) | omega)]; exact z7σ_2)
    refine lv_aload_n hx hb dX12_leaves_32 rfl (lv_at hl 1 rfl) ?_
    refine gs_X12_35_12 E hI ha dX12_leaves_33 ?_
    refine lv_iconst (v := 5) hx hb dX12_leaves_36 zki_5 ?_
    refine lv_aload_n hx hb dX12_leaves_37 rfl (lv_at hl 1 rfl) ?_
    refine lv_iconst (v := 1) hx hb dX12_leaves_38 zki_1 ?_
    have kc_15 : (1 : Int32).toInt = 1 := zt_1
    refine q_ci (q_rV11_1 (rest := [.int 5, .ref (q_rf X a 20)]) E (hml.trans hl.1.symm) hI (c_X12_nextKind l X σ_14 a (1 : Int32) ha gσ_14) kv_X12_315 ha ⟨Nat.le_of_ble_eq_true rfl, Nat.le_of_ble_eq_true rfl⟩ (Nat.le_of_ble_eq_true rfl) dX12_leaves_39) hI (Nat.le_of_ble_eq_true rfl) (fun r_16 σ_17 H locs hpσ_17 hkσ_17 hI => ?_)
    have ahpσ_17 := hpσ_17.1
    have bhpσ_17 := hpσ_17.2.1
    have chpσ_17 := hpσ_17.2.2
    clear hpσ_17
    replace hI := q_Irw ahpσ_17 hI
    replace hF := q_letX hF chpσ_17
    refine q_iastN E hI (q_tk (k' := 34) hI ha rfl (Nat.succ_ne_zero _)) ⟨by decide, rfl⟩ (by decide) (by rw [q_lnk (v := 4650) hI (q_tk (k' := 34) hI ha rfl (Nat.succ_ne_zero _)) rfl (by decide)]; decide) (show 1 < 2 by decide) (q_inU rfl) dX12_leaves_42 (fun H locs σ_18 hσ_18 hI => ?_)
    replace hF := q_letX hF hσ_18
    have fr_σ_18 := fr_σ_14.si hσ_18 (q_tk (k' := 34) hI ha rfl (Nat.succ_ne_zero _)) rfl
    have mcσ_18 := m_wr (v := r_16) (A := 5) hσ_18 (by decide) (by decide)
    have gσ_18 : m_G (m_c X σ_18 a) := m_G.wr gσ_14 mcσ_18 (by first | (clear ho gσ wσ kdσ k2σ hh if_1 kc_3 gσ_2 wσ_2 kdσ_2 k2σ_2 z7σ_2 ahpσ_5 bhpσ_5 chpσ_5 dhpσ_5 c_6 gσ_14 wσ_14 kdσ_14 k2σ_14 kc_15 ahpσ_17 chpσ_17; omega) | omega)
    have wσ_18 : m_W (m_c X σ_18 a) n := m_W.wr wσ_14 mcσ_18 (by first | (clear ho gσ wσ kdσ k2σ hh if_1 kc_3 gσ_2 wσ_2 kdσ_2 k2σ_2 z7σ_2 ahpσ_5 bhpσ_5 chpσ_5 dhpσ_5 c_6 gσ_14 wσ_14 kdσ_14 k2σ_14 z7σ_14 kc_15 ahpσ_17 bhpσ_17 chpσ_17 gσ_18; omega) | omega)
    have kqσ_18 : ∀ j, 654 ≤ j → m_c X σ_18 a j = m_c X σ a j := fun j h => by rw [mcσ_18 j (by first | (clear ho gσ wσ kdσ k2σ hh if_1 kc_3 gσ_2 wσ_2 kdσ_2 k2σ_2 z7σ_2 ahpσ_5 bhpσ_5 chpσ_5 dhpσ_5 c_6 gσ_14 wσ_14 kdσ_14 k2σ_14 z7σ_14 kc_15 ahpσ_17 bhpσ_17 chpσ_17 gσ_18 wσ_18; omega) | omega), if_neg (by first | (clear ho gσ wσ kdσ k2σ hh if_1 kc_3 gσ_2 wσ_2 kdσ_2 k2σ_2 z7σ_2 ahpσ_5 bhpσ_5 chpσ_5 dhpσ_5 c_6 gσ_14 wσ_14 kdσ_14 k2σ_14 z7σ_14 kc_15 ahpσ_17 bhpσ_17 chpσ_17 gσ_18 wσ_18; omega) | omega)] <;> exact kqσ_14 j h
    have kdσ_18 : m_KD 40 X σ σ_18 := kdσ_14.ar hσ_18 (q_tk (k' := 34) hI ha rfl (Nat.succ_ne_zero _)) (by decide) (by decide)
    have k2σ_18 : m_c X σ_18 a 0 = m_c X σ a 0 ∧ m_c X σ_18 a 2 = m_c X σ a 2 := ⟨by rw [mcσ_18 0 (by decide), if_neg (by first | (clear ho gσ wσ kdσ k2σ hh if_1 kc_3 gσ_2 wσ_2 kdσ_2 k2σ_2 z7σ_2 ahpσ_5 bhpσ_5 chpσ_5 dhpσ_5 c_6 gσ_14 wσ_14 kdσ_14 k2σ_14 z7σ_14 kc_15 ahpσ_17 bhpσ_17 chpσ_17 gσ_18 wσ_18 kdσ_18; omega) | omega)] <;> exact k2σ_14.1, by rw [mcσ_18 2 (by decide), if_neg (by first | (clear ho gσ wσ kdσ k2σ hh if_1 kc_3 gσ_2 wσ_2 kdσ_2 k2σ_2 z7σ_2 ahpσ_5 bhpσ_5 chpσ_5 dhpσ_5 c_6 gσ_14 wσ_14 kdσ_14 k2σ_14 z7σ_14 kc_15 ahpσ_17 bhpσ_17 chpσ_17 gσ_18 wσ_18 kdσ_18; omega) | omega)] <;> exact k2σ_14.2⟩
    have z7σ_18 : m_c X σ_18 a 7 = 0 := (by rw [mcσ_18 7 (by decide), if_neg (by first | (clear ho gσ wσ kdσ k2σ hh if_1 kc_3 gσ_2 wσ_2 kdσ_2 k2σ_2 z7σ_2 ahpσ_5 bhpσ_5 chpσ_5 dhpσ_5 c_6 gσ_14 wσ_14 kdσ_14 k2σ_14 z7σ_14 kc_15 ahpσ_17 bhpσ_17 chpσ_17 gσ_18 wσ_18 kdσ_18 k2σ_18; omega) | omega)]; exact z7σ_14)
    refine lv_aload_n hx hb dX12_leaves_43 rfl (lv_at hl 1 rfl) ?_
    refine gs_X12_35_12 E hI ha dX12_leaves_44 ?_
    refine lv_bipush (v := 6) hx hb dX12_leaves_47 zkb_6 ?_
    refine lv_aload_n hx hb dX12_leaves_49 rfl (lv_at hl 1 rfl) ?_
    refine lv_iload_n hx hb dX12_leaves_50 rfl (lv_at hl 0 rfl) ?_
    refine q_ci (q_rV11_1 (rest := [.int 6, .ref (q_rf X a 20)]) E (hml.trans hl.1.symm) hI (c_X12_behindOf l X σ_18 a f_1 ha gσ_18 (by first | (clear gσ wσ kdσ k2σ kc_3 gσ_2 wσ_2 kdσ_2 z7σ_2 ahpσ_5 bhpσ_5 chpσ_5 dhpσ_5 c_6 gσ_14 wσ_14 kdσ_14 z7σ_14 kc_15 ahpσ_17 bhpσ_17 chpσ_17 gσ_18 wσ_18 kdσ_18 z7σ_18; omega) | omega)) kv_X12_319 ha ⟨Nat.le_of_ble_eq_true rfl, Nat.le_of_ble_eq_true rfl⟩ (Nat.le_of_ble_eq_true rfl) dX12_leaves_51) hI (Nat.le_of_ble_eq_true rfl) (fun r_19 σ_20 H locs hpσ_20 hkσ_20 hI => ?_)
    have ahpσ_20 := hpσ_20.1
    have bhpσ_20 := hpσ_20.2.1
    have chpσ_20 := hpσ_20.2.2.1
    have dhpσ_20 := hpσ_20.2.2.2
    clear hpσ_20
    replace hI := q_Irw ahpσ_20 hI
    replace hF := q_letX hF dhpσ_20
    refine q_iastN E hI (q_tk (k' := 34) hI ha rfl (Nat.succ_ne_zero _)) ⟨by decide, rfl⟩ (by decide) (by rw [q_lnk (v := 4650) hI (q_tk (k' := 34) hI ha rfl (Nat.succ_ne_zero _)) rfl (by decide)]; decide) (show 1 < 2 by decide) (q_inU rfl) dX12_leaves_54 (fun H locs σ_21 hσ_21 hI => ?_)
    replace hF := q_letX hF hσ_21
    have fr_σ_21 := fr_σ_18.si hσ_21 (q_tk (k' := 34) hI ha rfl (Nat.succ_ne_zero _)) rfl
    have mcσ_21 := m_wr (v := r_19) (A := 6) hσ_21 (by decide) (by decide)
    have gσ_21 : m_G (m_c X σ_21 a) := m_G.wr gσ_18 mcσ_21 (by first | (clear ho gσ wσ kdσ k2σ hh if_1 kc_3 gσ_2 wσ_2 kdσ_2 k2σ_2 z7σ_2 ahpσ_5 bhpσ_5 chpσ_5 dhpσ_5 c_6 gσ_14 wσ_14 kdσ_14 k2σ_14 z7σ_14 kc_15 ahpσ_17 bhpσ_17 chpσ_17 gσ_18 wσ_18 kdσ_18 k2σ_18 ahpσ_20 chpσ_20 dhpσ_20; omega) | omega)
    have wσ_21 : m_W (m_c X σ_21 a) n := m_W.wr wσ_18 mcσ_21 (by first | (clear ho gσ wσ kdσ k2σ hh if_1 kc_3 gσ_2 wσ_2 kdσ_2 k2σ_2 z7σ_2 ahpσ_5 bhpσ_5 chpσ_5 dhpσ_5 c_6 gσ_14 wσ_14 kdσ_14 k2σ_14 z7σ_14 kc_15 ahpσ_17 bhpσ_17 chpσ_17 gσ_18 wσ_18 kdσ_18 k2σ_18 z7σ_18 ahpσ_20 bhpσ_20 chpσ_20 dhpσ_20 gσ_21; omega) | omega)
    have kqσ_21 : ∀ j, 654 ≤ j → m_c X σ_21 a j = m_c X σ a j := fun j h => by rw [mcσ_21 j (by first | (clear ho gσ wσ kdσ k2σ hh if_1 kc_3 gσ_2 wσ_2 kdσ_2 k2σ_2 z7σ_2 ahpσ_5 bhpσ_5 chpσ_5 dhpσ_5 c_6 gσ_14 wσ_14 kdσ_14 k2σ_14 z7σ_14 kc_15 ahpσ_17 bhpσ_17 chpσ_17 gσ_18 wσ_18 kdσ_18 k2σ_18 z7σ_18 ahpσ_20 bhpσ_20 chpσ_20 dhpσ_20 gσ_21 wσ_21; omega) | omega), if_neg (by first | (clear ho gσ wσ kdσ k2σ hh if_1 kc_3 gσ_2 wσ_2 kdσ_2 k2σ_2 z7σ_2 ahpσ_5 bhpσ_5 chpσ_5 dhpσ_5 c_6 gσ_14 wσ_14 kdσ_14 k2σ_14 z7σ_14 kc_15 ahpσ_17 bhpσ_17 chpσ_17 gσ_18 wσ_18 kdσ_18 k2σ_18 z7σ_18 ahpσ_20 bhpσ_20 chpσ_20 dhpσ_20 gσ_21 wσ_21; omega) | omega)] <;> exact kqσ_18 j h
    have kdσ_21 : m_KD 40 X σ σ_21 := kdσ_18.ar hσ_21 (q_tk (k' := 34) hI ha rfl (Nat.succ_ne_zero _)) (by decide) (by decide)
    have k2σ_21 : m_c X σ_21 a 0 = m_c X σ a 0 ∧ m_c X σ_21 a 2 = m_c X σ a 2 := ⟨by rw [mcσ_21 0 (by decide), if_neg (by first | (clear ho gσ wσ kdσ k2σ hh if_1 kc_3 gσ_2 wσ_2 kdσ_2 k2σ_2 z7σ_2 ahpσ_5 bhpσ_5 chpσ_5 dhpσ_5 c_6 gσ_14 wσ_14 kdσ_14 k2σ_14 z7σ_14 kc_15 ahpσ_17 bhpσ_17 chpσ_17 gσ_18 wσ_18 kdσ_18 k2σ_18 z7σ_18 ahpσ_20 bhpσ_20 chpσ_20 dhpσ_20 gσ_21 wσ_21 kdσ_21; omega) | omega)] <;> exact k2σ_18.1, by rw [mcσ_21 2 (by decide), if_neg (by first | (clear ho gσ wσ kdσ k2σ hh if_1 kc_3 gσ_2 wσ_2 kdσ_2 k2σ_2 z7σ_2 ahpσ_5 bhpσ_5 chpσ_5 dhpσ_5 c_6 gσ_14 wσ_14 kdσ_14 k2σ_14 z7σ_14 kc_15 ahpσ_17 bhpσ_17 chpσ_17 gσ_18 wσ_18 kdσ_18 k2σ_18 z7σ_18 ahpσ_20 bhpσ_20 chpσ_20 dhpσ_20 gσ_21 wσ_21 kdσ_21; omega) | omega)] <;> exact k2σ_18.2⟩
    have z7σ_21 : m_c X σ_21 a 7 = 0 := (by rw [mcσ_21 7 (by decide), if_neg (by first | (clear ho gσ wσ kdσ k2σ hh if_1 kc_3 gσ_2 wσ_2 kdσ_2 k2σ_2 z7σ_2 ahpσ_5 bhpσ_5 chpσ_5 dhpσ_5 c_6 gσ_14 wσ_14 kdσ_14 k2σ_14 z7σ_14 kc_15 ahpσ_17 bhpσ_17 chpσ_17 gσ_18 wσ_18 kdσ_18 k2σ_18 z7σ_18 ahpσ_20 bhpσ_20 chpσ_20 dhpσ_20 gσ_21 wσ_21 kdσ_21 k2σ_21; omega) | omega)]; exact z7σ_18)
    exact q_retv E hr hlk hI ⟨gσ_21, wσ_21, kqσ_21, kdσ_21, z7σ_21, k2σ_21.2, (hF.trans hout), fr_σ_21⟩ dX12_leaves_55

set_option maxRecDepth 100000 in
set_option maxHeartbeats 4000000 in
theorem c_X12_takes (l : Launch) (X : XW) (σ : ST) (a : Nat) (v1 : Int32) (ha : q_kd X a = 12) (hG : m_G (m_c X σ a)) (h0 : 0 ≤ v1.toInt ∧ v1.toInt ≤ 5) (h7 : m_c X σ a 7 = 0) : Met l yX12_takes (q_ws yX12_takes cX12_takes 5 none) (q_rm 1 20) (q_P X σ [.ref a, .int v1]) (q_Qv X 1 σ (fun (σ' : ST) => (m_G (m_c X σ' a)) ∧ (∀ j, 0 ≤ j → (j < 9 ∨ (10 ≤ j ∧ j < 34) ∨ 654 ≤ j) → m_c X σ' a j = m_c X σ a j) ∧ (m_KD 40 X σ σ') ∧ σ' = F_X12_takes X σ a v1 ∧ q_ow [(34, 99)] [] X σ σ')) 0 0 (q_reg X) := by
  refine q_met 1 (by first | exact rfl | decide +kernel) rfl (Nat.le_of_ble_eq_true rfl) (fun p e s m below meth c E hml hr hlk hI ls hl => ?_)
  have hx := E.1
  have hb := E.2.1
  have hl : lv_has ls 5 [(0, .ref a), (1, .int v1)] := hl
  have kdσ : m_KD 40 X σ σ := m_KD.rf
  have fr_σ : q_ow [(34, 99)] [] X σ σ := q_ow.rf
  have hh := hG.hd
  obtain ⟨out, hout⟩ : ∃ o, o = F_X12_takes X σ a v1 := ⟨_, rfl⟩
  have hF := hout.symm
  unfold F_X12_takes at hF
  refine lv_iconst (v := 0) hx hb dX12_takes_0 zki_0 ?_
  refine lv_istore_n (lv' := [(2, .int 0), (0, .ref a), (1, .int v1)]) hx hb dX12_takes_1 rfl hl (by decide) rfl (fun ls hl => ?_)
  have L_2_3 : ∀ (k_3 : Nat) (x_1 : Int32) (σ_2 : ST) (H : Heap) (locs : List Loc) (ls : Array Slot), (2147483647 - x_1.toInt).toNat < k_3 → (0 ≤ x_1.toInt ∧ x_1.toInt ≤ m_c X σ a 9) → (m_tk (m_c X σ a) (m_c X σ_2 a) v1.toInt x_1.toInt 0) → (q_ow [(34, 99)] [] X σ σ_2) → (m_KD 40 X σ σ_2) → (F_X12_takes_L2_1 X a v1 k_3 x_1 σ_2 = out) → q_I X 1 σ s.heap locs σ_2 H → lv_has ls 5 [(0, .ref a), (1, .int v1), (2, .int x_1)] → W p l e (q_rm 1 20) s m ([.ref a, .int v1] : List Value).toArray below meth c H locs 0 0 (MQ below (q_Qv X 1 σ (fun (σ' : ST) => (m_G (m_c X σ' a)) ∧ (∀ j, 0 ≤ j → (j < 9 ∨ (10 ≤ j ∧ j < 34) ∨ 654 ≤ j) → m_c X σ' a j = m_c X σ a j) ∧ (m_KD 40 X σ σ') ∧ σ' = F_X12_takes X σ a v1 ∧ q_ow [(34, 99)] [] X σ σ')) ([.ref a, .int v1] : List Value).toArray s 0 0 (q_reg X)) (F0 m 2 ls []) := by
    clear hF
    intro k_3
    induction k_3 with
    | zero =>
      intro x_1 σ_2 H locs ls hms
      try clear kdσ; try clear fr_σ
      exact absurd hms (Nat.not_lt_zero _)
    | succ k_3 ih2 =>
      intro x_1 σ_2 H locs ls hm2 hge2 tkσ_2 fr_σ_2 kdσ_2 hF hI hl
      replace hF := (F_X12_takes_L2_1_s).symm.trans hF
      unfold F_X12_takes_B2_1 at hF
      have e9 := tkσ_2.1 9 (by decide) (by first | (clear h0 h7 hh hm2 hge2 kdσ_2; omega) | omega)
      refine lv_iload_n hx hb dX12_takes_2 rfl (lv_at hl 2 rfl) ?_
      refine lv_aload_n hx hb dX12_takes_3 rfl (lv_at hl 0 rfl) ?_
      refine gs_X12_35_12 E hI ha dX12_takes_4 ?_
      refine lv_bipush (v := 9) hx hb dX12_takes_7 zkb_9 ?_
      refine q_iald E hI (q_tk (k' := 34) hI ha rfl (Nat.succ_ne_zero _)) ⟨by decide, rfl⟩ (by decide) (by rw [q_lnk (v := 4650) hI (q_tk (k' := 34) hI ha rfl (Nat.succ_ne_zero _)) rfl (by decide)]; decide) dX12_takes_9 ?_
      refine lv_topi (fun f_4 ef_4 => ?_)
      replace hF := q_letX hF ef_4
      have if_4 : f_4.toInt = m_c X σ_2 a 9 := m_rd ef_4 (by decide)
      have gc_5_x_1 := q_rng x_1
      have gc_5_f_4 := q_rng f_4
      refine q_icmp_ge (A := x_1.toInt) (B := f_4.toInt) E rfl rfl (tgt := 74) dX12_takes_10 (by decide) (fun c_5 => ?_) (fun c_5 => ?_)
      · skip
        replace hF := q_ifn hF (Int.not_lt.mpr c_5)
        unfold F_X12_takes_E74_2 at hF
        refine lv_aload_n hx hb dX12_takes_74 rfl (lv_at hl 0 rfl) ?_
        refine gs_X12_35_12 E hI ha dX12_takes_75 ?_
        refine lv_bipush (v := 9) hx hb dX12_takes_78 zkb_9 ?_
        refine lv_iconst (v := 0) hx hb dX12_takes_80 zki_0 ?_
        have kc_7 : (0 : Int32).toInt = 0 := zt_0
        refine q_iastN E hI (q_tk (k' := 34) hI ha rfl (Nat.succ_ne_zero _)) ⟨by decide, rfl⟩ (by decide) (by rw [q_lnk (v := 4650) hI (q_tk (k' := 34) hI ha rfl (Nat.succ_ne_zero _)) rfl (by decide)]; decide) (show 1 < 2 by decide) (q_inU rfl) dX12_takes_81 (fun H locs σ_6 hσ_6 hI => ?_)
        replace hF := q_letX hF hσ_6
        have fr_σ_6 := fr_σ_2.si hσ_6 (q_tk (k' := 34) hI ha rfl (Nat.succ_ne_zero _)) rfl
        have mcσ_6 := m_wr (v := (0 : Int32)) (A := 9) hσ_6 (by decide) (by decide)
        have kdσ_6 : m_KD 40 X σ σ_6 := kdσ_2.ar hσ_6 (q_tk (k' := 34) hI ha rfl (Nat.succ_ne_zero _)) (by decide) (by decide)
        have tdσ_6 := (show m_tk (m_c X σ a) (m_c X σ_2 a) v1.toInt (m_c X σ a 9) 0 from (by have q : x_1.toInt = m_c X σ a 9 := (by first | (clear h0 h7 hh hm2 kdσ_2 gc_5_x_1 gc_5_f_4 kc_7 kdσ_6; omega) | omega); rw [← q]; exact tkσ_2)).done hG (by first | (clear h0 h7 hh hm2 hge2 kdσ_2 if_4 gc_5_x_1 gc_5_f_4 c_5 kc_7 kdσ_6; omega) | omega) h7 mcσ_6 rfl
        exact q_retv E hr hlk hI ⟨tdσ_6.1, tdσ_6.2.1, kdσ_6, (hF.trans hout), fr_σ_6⟩ dX12_takes_82
      · skip
        replace hF := q_ifp hF c_5
        have hy := hG.2.2.1 x_1.toInt (by first | (clear h0 h7 hh hm2 kdσ_2 if_4 gc_5_f_4 c_5; omega) | omega) (by first | (clear h0 h7 hh hm2 hge2 kdσ_2 gc_5_x_1 gc_5_f_4; omega) | omega)
        have hy1 := hy.1
        refine lv_iload_n hx hb dX12_takes_13 rfl (lv_at hl 2 rfl) ?_
        refine q_ci (q_runS (As := [.int x_1]) (rest := []) E (hml.trans hl.1.symm) hI (c_X12_laid l X σ_2 x_1 (by first | (clear h0 h7 hm2 kdσ_2 gc_5_f_4 hy hy1; omega) | omega)) ks_X12_279 rfl ⟨Nat.le_of_ble_eq_true rfl, Nat.le_of_ble_eq_true rfl⟩ ⟨Nat.le_refl _, Nat.le_refl _⟩ rfl (Nat.le_of_ble_eq_true rfl) dX12_takes_14) hI (Nat.le_of_ble_eq_true rfl) (fun r_8 σ_9 H locs hpσ_9 hkσ_9 hI => ?_)
        have ahpσ_9 := hpσ_9.1
        have bhpσ_9 := hpσ_9.2.1
        have chpσ_9 := hpσ_9.2.2
        clear hpσ_9
        replace hI := q_Irw ahpσ_9 hI
        replace hF := q_letX hF chpσ_9
        have ir_8 : r_8.toInt = (94 + 7 * x_1.toInt) := (by omega)
        refine lv_istore_n (lv' := [(3, .int r_8), (0, .ref a), (1, .int v1), (2, .int x_1)]) hx hb dX12_takes_17 rfl hl (by decide) rfl (fun ls hl => ?_)
        refine lv_iconst (v := 0) hx hb dX12_takes_18 zki_0 ?_
        refine lv_istore (lv' := [(4, .int 0), (3, .int r_8), (0, .ref a), (1, .int v1), (2, .int x_1)]) hx hb dX12_takes_19 hl (by decide) rfl (fun ls hl => ?_)
        have L_21_12 : ∀ (k_12 : Nat) (x_10 : Int32) (σ_11 : ST) (H : Heap) (locs : List Loc) (ls : Array Slot), (2147483647 - x_10.toInt).toNat < k_12 → (0 ≤ x_10.toInt ∧ x_10.toInt ≤ m_c X σ a (94 + 7 * x_1.toInt + 2)) → (m_tk (m_c X σ a) (m_c X σ_11 a) v1.toInt x_1.toInt x_10.toInt) → (q_ow [(34, 99)] [] X σ σ_11) → (m_KD 40 X σ σ_11) → (F_X12_takes_L21_3 X r_8 a v1 x_1 (F_X12_takes_L2_1 X a v1 k_3) k_12 x_10 σ_11 = out) → q_I X 1 σ s.heap locs σ_11 H → lv_has ls 5 [(0, .ref a), (1, .int v1), (2, .int x_1), (3, .int r_8), (4, .int x_10)] → W p l e (q_rm 1 20) s m ([.ref a, .int v1] : List Value).toArray below meth c H locs 0 0 (MQ below (q_Qv X 1 σ (fun (σ' : ST) => (m_G (m_c X σ' a)) ∧ (∀ j, 0 ≤ j → (j < 9 ∨ (10 ≤ j ∧ j < 34) ∨ 654 ≤ j) → m_c X σ' a j = m_c X σ a j) ∧ (m_KD 40 X σ σ') ∧ σ' = F_X12_takes X σ a v1 ∧ q_ow [(34, 99)] [] X σ σ')) ([.ref a, .int v1] : List Value).toArray s 0 0 (q_reg X)) (F0 m 21 ls []) := by
          clear hF
          intro k_12
          induction k_12 with
          | zero =>
            intro x_10 σ_11 H locs ls hms
            try clear ahpσ_9
            exact absurd hms (Nat.not_lt_zero _)
          | succ k_12 ih21 =>
            intro x_10 σ_11 H locs ls hm21 hge21 tkσ_11 fr_σ_11 kdσ_11 hF hI hl
            replace hF := (F_X12_takes_L21_3_s).symm.trans hF
            unfold F_X12_takes_B21_3 at hF
            have em := tkσ_11.1 (94 + 7 * x_1.toInt + 2) (by first | (clear h0 h7 hh hm2 kdσ_2 if_4 gc_5_f_4 c_5 hy hy1 bhpσ_9 chpσ_9 ir_8 hm21 hge21 kdσ_11; omega) | omega) (by first | (clear h0 h7 hh hm2 kdσ_2 if_4 gc_5_f_4 c_5 hy hy1 bhpσ_9 chpσ_9 ir_8 hm21 hge21 kdσ_11; omega) | omega)
            refine lv_iload hx hb dX12_takes_21 (lv_at hl 4 rfl) ?_
            refine lv_aload_n hx hb dX12_takes_23 rfl (lv_at hl 0 rfl) ?_
            refine gs_X12_35_12 E hI ha dX12_takes_24 ?_
            refine lv_iload_n hx hb dX12_takes_27 rfl (lv_at hl 3 rfl) ?_
            refine lv_iconst (v := 2) hx hb dX12_takes_28 zki_2 ?_
            refine lv_iadd hx hb dX12_takes_29 ?_
            refine lv_topi (fun z_13 ez_13 => ?_)
            replace hF := q_letX hF ez_13
            have iz_13 := q_addI (A := (94 + 7 * x_1.toInt)) (B := 2) ez_13 ir_8 (by decide) (by first | (clear h0 h7 hh hm2 kdσ_2 if_4 gc_5_f_4 c_5 hy hy1 bhpσ_9 chpσ_9 ir_8 hm21 hge21 kdσ_11 em; omega) | omega) (by first | (clear h0 h7 hm2 kdσ_2 gc_5_f_4 hy hy1 bhpσ_9 chpσ_9 ir_8 hm21 hge21 kdσ_11 em; omega) | omega)
            refine q_iald E hI (q_tk (k' := 34) hI ha rfl (Nat.succ_ne_zero _)) ⟨by decide, rfl⟩ (by first | (clear h0 h7 hh hm2 kdσ_2 if_4 gc_5_f_4 c_5 hy hy1 bhpσ_9 chpσ_9 ir_8 hm21 hge21 kdσ_11 em; omega) | omega) (by rw [q_lnk (v := 4650) hI (q_tk (k' := 34) hI ha rfl (Nat.succ_ne_zero _)) rfl (by decide)]; omega) dX12_takes_30 ?_
            refine lv_topi (fun f_14 ef_14 => ?_)
            replace hF := q_letX hF ef_14
            have if_14 : f_14.toInt = m_c X σ_11 a ((94 + 7 * x_1.toInt) + 2) := m_rd ef_14 iz_13
            have gc_15_x_10 := q_rng x_10
            have gc_15_f_14 := q_rng f_14
            refine q_icmp_ge (A := x_10.toInt) (B := f_14.toInt) E rfl rfl (tgt := 68) dX12_takes_31 (by decide) (fun c_15 => ?_) (fun c_15 => ?_)
            · skip
              replace hF := q_ifn hF (Int.not_lt.mpr c_15)
              unfold F_X12_takes_E68_4 at hF
              obtain ⟨z_16, ez_16⟩ : ∃ y : Int32, y = x_1 + 1 := ⟨_, rfl⟩
              replace hF := q_letX hF ez_16
              refine lv_iinc (v := z_16) (lv' := [(2, .int z_16), (0, .ref a), (1, .int v1), (3, .int r_8), (4, .int x_10)]) hx hb dX12_takes_68 hl (k := 2) rfl (by rw [ez_16]; rfl) (by decide) rfl (fun ls hl => ?_)
              have iz_16 : z_16.toInt = x_1.toInt + 1 := q_inc ez_16 (by first | (clear h0 h7 hm2 kdσ_2 gc_5_f_4 hy hy1 bhpσ_9 chpσ_9 ir_8 hm21 hge21 kdσ_11 em iz_13 if_14 gc_15_x_10 gc_15_f_14 c_15; omega) | omega)
              refine lv_goto (tgt := 2) hx hb dX12_takes_71 (by decide) ?_
              exact ih2 z_16 σ_11 _ _ ls (by first | (clear h0 h7 kdσ_2 gc_5_f_4 hy1 bhpσ_9 chpσ_9 ir_8 hm21 kdσ_11 iz_13 gc_15_x_10 gc_15_f_14; omega) | omega) (by first | (clear h0 h7 hh hm2 kdσ_2 gc_5_f_4 hy hy1 bhpσ_9 chpσ_9 ir_8 hm21 hge21 kdσ_11 em iz_13 if_14 gc_15_x_10 gc_15_f_14 c_15; omega) | omega) (by rw [iz_16]; exact tkσ_11.lay (by first | (clear h0 h7 hh hm2 kdσ_2 if_4 gc_5_f_4 c_5 hy hy1 bhpσ_9 chpσ_9 ir_8 hm21 hge21 kdσ_11 em iz_13 if_14 gc_15_x_10 gc_15_f_14 c_15; omega) | omega) (by first | (clear h0 h7 hh hm2 hge2 kdσ_2 if_4 gc_5_x_1 gc_5_f_4 c_5 hy hy1 bhpσ_9 chpσ_9 ir_8 hm21 kdσ_11 iz_13 gc_15_x_10 gc_15_f_14 iz_16; omega) | omega)) fr_σ_11 kdσ_11 hF hI (lv_sub hl [1, 2, 0] rfl)
            · skip
              replace hF := q_ifp hF c_15
              refine lv_aload_n hx hb dX12_takes_34 rfl (lv_at hl 0 rfl) ?_
              refine gs_X12_35_12 E hI ha dX12_takes_35 ?_
              refine lv_bipush (v := 34) hx hb dX12_takes_38 zkb_34 ?_
              refine lv_bipush (v := 10) hx hb dX12_takes_40 zkb_10 ?_
              refine lv_iload_n hx hb dX12_takes_42 rfl (lv_at hl 1 rfl) ?_
              refine lv_imul hx hb dX12_takes_43 ?_
              refine lv_topi (fun z_17 ez_17 => ?_)
              replace hF := q_letX hF ez_17
              have iz_17 := q_mulI (A := 10) (B := v1.toInt) ez_17 (by decide) rfl (by first | (clear h0 h7 hh hm2 hge2 kdσ_2 if_4 gc_5_x_1 gc_5_f_4 c_5 hy hy1 bhpσ_9 chpσ_9 ir_8 hm21 hge21 kdσ_11 em iz_13 if_14 gc_15_x_10 gc_15_f_14 c_15; omega) | omega) (by first | (clear h0 h7 hh hm2 hge2 kdσ_2 if_4 gc_5_x_1 gc_5_f_4 c_5 hy hy1 bhpσ_9 chpσ_9 ir_8 hm21 hge21 kdσ_11 em iz_13 if_14 gc_15_x_10 gc_15_f_14 c_15; omega) | omega)
              refine lv_iadd hx hb dX12_takes_44 ?_
              refine lv_topi (fun z_18 ez_18 => ?_)
              replace hF := q_letX hF ez_18
              have iz_18 := q_addI (A := 34) (B := (10 * v1.toInt)) ez_18 (by decide) iz_17 (by first | (clear h0 h7 hh hm2 hge2 kdσ_2 if_4 gc_5_x_1 gc_5_f_4 c_5 hy hy1 bhpσ_9 chpσ_9 ir_8 hm21 hge21 kdσ_11 em iz_13 if_14 gc_15_x_10 gc_15_f_14 c_15 iz_17; omega) | omega) (by first | (clear h0 h7 hh hm2 hge2 kdσ_2 if_4 gc_5_x_1 gc_5_f_4 c_5 hy hy1 bhpσ_9 chpσ_9 ir_8 hm21 hge21 kdσ_11 em iz_13 if_14 gc_15_x_10 gc_15_f_14 c_15 iz_17; omega) | omega)
              refine lv_aload_n hx hb dX12_takes_45 rfl (lv_at hl 0 rfl) ?_
              refine gs_X12_35_12 E hI ha dX12_takes_46 ?_
              refine lv_iload_n hx hb dX12_takes_49 rfl (lv_at hl 3 rfl) ?_
              refine lv_iconst (v := 3) hx hb dX12_takes_50 zki_3 ?_
              refine lv_iadd hx hb dX12_takes_51 ?_
              refine lv_topi (fun z_19 ez_19 => ?_)
              replace hF := q_letX hF ez_19
              have iz_19 := q_addI (A := (94 + 7 * x_1.toInt)) (B := 3) ez_19 ir_8 (by decide) (by first | (clear h0 h7 hh hm2 kdσ_2 if_4 gc_5_f_4 c_5 hy hy1 bhpσ_9 chpσ_9 ir_8 hm21 hge21 kdσ_11 em iz_13 if_14 gc_15_x_10 gc_15_f_14 c_15 iz_17 iz_18; omega) | omega) (by first | (clear h0 h7 hm2 kdσ_2 gc_5_f_4 hy hy1 bhpσ_9 chpσ_9 ir_8 hm21 hge21 kdσ_11 em iz_13 if_14 gc_15_x_10 gc_15_f_14 c_15 iz_17 iz_18; omega) | omega)
              refine lv_iload hx hb dX12_takes_52 (lv_at hl 4 rfl) ?_
              refine lv_iadd hx hb dX12_takes_54 ?_
              refine lv_topi (fun z_20 ez_20 => ?_)
              replace hF := q_letX hF ez_20
              have iz_20 := q_addI (A := ((94 + 7 * x_1.toInt) + 3)) (B := x_10.toInt) ez_20 iz_19 rfl (by first | (clear h0 h7 hh hm2 kdσ_2 if_4 gc_5_f_4 c_5 hy hy1 bhpσ_9 chpσ_9 ir_8 hm21 kdσ_11 em iz_13 if_14 gc_15_f_14 c_15 iz_17 iz_18 iz_19; omega) | omega) (by first | (clear h0 h7 hm2 hge2 kdσ_2 gc_5_x_1 gc_5_f_4 hy1 bhpσ_9 chpσ_9 ir_8 hm21 kdσ_11 iz_13 gc_15_f_14 iz_17 iz_18 iz_19; omega) | omega)
              refine q_iald E hI (q_tk (k' := 34) hI ha rfl (Nat.succ_ne_zero _)) ⟨by decide, rfl⟩ (by first | (clear h0 h7 hh hm2 kdσ_2 if_4 gc_5_f_4 c_5 hy1 bhpσ_9 chpσ_9 ir_8 hm21 kdσ_11 iz_13 gc_15_f_14 iz_17 iz_18 iz_19; omega) | omega) (by rw [q_lnk (v := 4650) hI (q_tk (k' := 34) hI ha rfl (Nat.succ_ne_zero _)) rfl (by decide)]; omega) dX12_takes_55 ?_
              refine lv_topi (fun f_21 ef_21 => ?_)
              replace hF := q_letX hF ef_21
              have if_21 : f_21.toInt = m_c X σ_11 a (((94 + 7 * x_1.toInt) + 3) + x_10.toInt) := m_rd ef_21 iz_20
              have ecf_21 := tkσ_11.1 (94 + 7 * x_1.toInt + 3 + x_10.toInt) (by first | (clear h0 h7 hh hm2 kdσ_2 if_4 gc_5_f_4 c_5 hy1 bhpσ_9 chpσ_9 ir_8 hm21 kdσ_11 iz_13 gc_15_f_14 iz_17 iz_18 iz_19 if_21; omega) | omega) (by first | (clear h0 h7 hh hm2 kdσ_2 if_4 gc_5_f_4 c_5 hy1 bhpσ_9 chpσ_9 ir_8 hm21 kdσ_11 iz_13 gc_15_f_14 iz_17 iz_18 iz_19 if_21; omega) | omega)
              have hcf_21 := hy.2 x_10.toInt (by first | (clear h0 h7 hh hm2 hge2 kdσ_2 if_4 gc_5_x_1 gc_5_f_4 c_5 hy hy1 bhpσ_9 chpσ_9 ir_8 hm21 kdσ_11 em iz_13 if_14 gc_15_f_14 c_15 iz_17 iz_18 iz_19 if_21 ecf_21; omega) | omega) (by first | (clear h0 h7 hh hm2 hge2 kdσ_2 if_4 gc_5_x_1 gc_5_f_4 c_5 hy hy1 bhpσ_9 chpσ_9 ir_8 hm21 hge21 kdσ_11 iz_13 gc_15_x_10 gc_15_f_14 iz_17 iz_18 iz_19 if_21 ecf_21; omega) | omega)
              refine lv_iadd hx hb dX12_takes_56 ?_
              refine lv_topi (fun z_22 ez_22 => ?_)
              replace hF := q_letX hF ez_22
              have iz_22 := q_addI (A := (34 + (10 * v1.toInt))) (B := (m_c X σ_11 a (((94 + 7 * x_1.toInt) + 3) + x_10.toInt))) ez_22 iz_18 if_21 (by first | (clear h0 h7 hh hm2 hge2 kdσ_2 if_4 gc_5_x_1 gc_5_f_4 c_5 hy hy1 bhpσ_9 chpσ_9 ir_8 hm21 hge21 kdσ_11 em iz_13 if_14 gc_15_x_10 gc_15_f_14 c_15 iz_17 iz_18 iz_19 iz_20 if_21; omega) | omega) (by first | (clear h0 h7 hm2 hge2 kdσ_2 if_4 gc_5_x_1 gc_5_f_4 c_5 hy hy1 bhpσ_9 chpσ_9 ir_8 hm21 hge21 kdσ_11 em iz_13 if_14 gc_15_x_10 gc_15_f_14 c_15 iz_17 iz_18 iz_19 iz_20 if_21; omega) | omega)
              refine lv_dup2_11 hx hb dX12_takes_57 rfl rfl ?_
              refine q_iald E hI (q_tk (k' := 34) hI ha rfl (Nat.succ_ne_zero _)) ⟨by decide, rfl⟩ (by first | (clear h0 h7 hh hm2 hge2 kdσ_2 if_4 gc_5_x_1 gc_5_f_4 c_5 hy hy1 bhpσ_9 chpσ_9 ir_8 hm21 hge21 kdσ_11 em iz_13 if_14 gc_15_x_10 gc_15_f_14 c_15 iz_17 iz_18 iz_19 iz_20 if_21; omega) | omega) (by rw [q_lnk (v := 4650) hI (q_tk (k' := 34) hI ha rfl (Nat.succ_ne_zero _)) rfl (by decide)]; omega) dX12_takes_58 ?_
              refine lv_topi (fun f_23 ef_23 => ?_)
              replace hF := q_letX hF ef_23
              have if_23 : f_23.toInt = m_c X σ_11 a ((34 + (10 * v1.toInt)) + (m_c X σ_11 a (((94 + 7 * x_1.toInt) + 3) + x_10.toInt))) := m_rd ef_23 iz_22
              have huf_23 := m_tk.le tkσ_11 hG (by first | (clear h0 h7 hh hm2 hge2 kdσ_2 if_4 gc_5_x_1 gc_5_f_4 c_5 hy hy1 bhpσ_9 chpσ_9 ir_8 hm21 hge21 kdσ_11 em iz_13 if_14 gc_15_x_10 gc_15_f_14 c_15 iz_17 iz_18 iz_19 iz_20 if_21 ecf_21 hcf_21 iz_22 if_23; omega) | omega) (by omega) (by first | (clear h0 h7 hh hm2 hge2 kdσ_2 if_4 gc_5_x_1 gc_5_f_4 c_5 hy1 bhpσ_9 chpσ_9 ir_8 hm21 kdσ_11 iz_13 gc_15_f_14 iz_17 iz_18 iz_19 if_21 ecf_21 hcf_21 iz_22 if_23; omega) | omega) ((34 + (10 * v1.toInt)) + (m_c X σ_11 a (((94 + 7 * x_1.toInt) + 3) + x_10.toInt))) (by first | (clear h0 h7 hh hm2 hge2 kdσ_2 if_4 gc_5_x_1 gc_5_f_4 c_5 hy hy1 bhpσ_9 chpσ_9 ir_8 hm21 hge21 kdσ_11 em iz_13 if_14 gc_15_x_10 gc_15_f_14 c_15 iz_17 iz_18 iz_19 iz_20 if_21 if_23; omega) | omega) (by first | (clear h0 h7 hm2 hge2 kdσ_2 if_4 gc_5_x_1 gc_5_f_4 c_5 hy hy1 bhpσ_9 chpσ_9 ir_8 hm21 hge21 kdσ_11 em iz_13 if_14 gc_15_x_10 gc_15_f_14 c_15 iz_17 iz_18 iz_19 iz_20 if_21 if_23; omega) | omega)
              refine lv_iconst (v := 1) hx hb dX12_takes_59 zki_1 ?_
              refine lv_iadd hx hb dX12_takes_60 ?_
              refine lv_topi (fun z_24 ez_24 => ?_)
              replace hF := q_letX hF ez_24
              have iz_24 := q_addI (A := (m_c X σ_11 a ((34 + (10 * v1.toInt)) + (m_c X σ_11 a (((94 + 7 * x_1.toInt) + 3) + x_10.toInt))))) (B := 1) ez_24 if_23 (by decide) (by first | (clear h0 h7 hh hm2 hge2 kdσ_2 if_4 gc_5_x_1 gc_5_f_4 c_5 hy hy1 bhpσ_9 chpσ_9 ir_8 hm21 hge21 kdσ_11 em iz_13 if_14 gc_15_x_10 gc_15_f_14 c_15 iz_17 iz_18 iz_19 iz_20 if_21 ecf_21 hcf_21 iz_22 if_23; omega) | omega) (by first | (clear h0 h7 hh hm2 hge2 kdσ_2 if_4 gc_5_x_1 gc_5_f_4 c_5 hy hy1 bhpσ_9 chpσ_9 ir_8 hm21 hge21 kdσ_11 em iz_13 if_14 gc_15_x_10 gc_15_f_14 c_15 iz_17 iz_18 iz_19 iz_20 if_21 ecf_21 hcf_21 iz_22 if_23; omega) | omega)
              refine q_iastN E hI (q_tk (k' := 34) hI ha rfl (Nat.succ_ne_zero _)) ⟨by decide, rfl⟩ (by first | (clear h0 h7 hh hm2 hge2 kdσ_2 if_4 gc_5_x_1 gc_5_f_4 c_5 hy hy1 bhpσ_9 chpσ_9 ir_8 hm21 hge21 kdσ_11 em iz_13 if_14 gc_15_x_10 gc_15_f_14 c_15 iz_17 iz_18 iz_19 iz_20 if_21 if_23 huf_23 iz_24; omega) | omega) (by rw [q_lnk (v := 4650) hI (q_tk (k' := 34) hI ha rfl (Nat.succ_ne_zero _)) rfl (by decide)]; omega) (show 1 < 2 by decide) (q_inU rfl) dX12_takes_61 (fun H locs σ_25 hσ_25 hI => ?_)
              replace hF := q_letX hF hσ_25
              have fr_σ_25 := fr_σ_11.si hσ_25 (q_tk (k' := 34) hI ha rfl (Nat.succ_ne_zero _)) rfl
              have mcσ_25 := m_wr (v := z_24) (A := ((34 + (10 * v1.toInt)) + (m_c X σ_11 a (((94 + 7 * x_1.toInt) + 3) + x_10.toInt)))) hσ_25 iz_22 (by first | (clear h0 h7 hh hm2 hge2 kdσ_2 if_4 gc_5_x_1 gc_5_f_4 c_5 hy hy1 bhpσ_9 chpσ_9 ir_8 hm21 hge21 kdσ_11 em iz_13 if_14 gc_15_x_10 gc_15_f_14 c_15 iz_17 iz_18 iz_19 iz_20 if_21 if_23 huf_23 iz_24; omega) | omega)
              have kdσ_25 : m_KD 40 X σ σ_25 := kdσ_11.ar hσ_25 (q_tk (k' := 34) hI ha rfl (Nat.succ_ne_zero _)) (by decide) (by decide)
              have tkσ_25 := tkσ_11.card (by first | (clear h0 h7 hh hm2 hge2 kdσ_2 if_4 gc_5_x_1 gc_5_f_4 c_5 hy hy1 bhpσ_9 chpσ_9 ir_8 hm21 hge21 kdσ_11 em iz_13 if_14 gc_15_x_10 gc_15_f_14 c_15 iz_17 iz_18 iz_19 iz_20 if_21 ecf_21 hcf_21 iz_22 if_23 huf_23 iz_24 kdσ_25; omega) | omega) (by first | (clear h0 h7 hh hm2 hge2 kdσ_2 if_4 gc_5_x_1 gc_5_f_4 c_5 hy hy1 bhpσ_9 chpσ_9 ir_8 hm21 hge21 kdσ_11 em iz_13 if_14 gc_15_x_10 gc_15_f_14 c_15 iz_17 iz_18 iz_19 iz_20 if_21 if_23 huf_23 iz_24 kdσ_25; omega) | omega) (by first | (clear h0 h7 hm2 hge2 kdσ_2 if_4 gc_5_x_1 gc_5_f_4 c_5 hy hy1 bhpσ_9 chpσ_9 ir_8 hm21 hge21 kdσ_11 em iz_13 if_14 gc_15_x_10 gc_15_f_14 c_15 iz_17 iz_18 iz_19 iz_20 if_21 ecf_21 hcf_21 iz_22 if_23 huf_23 iz_24 kdσ_25; omega) | omega) mcσ_25 iz_24
              obtain ⟨z_26, ez_26⟩ : ∃ y : Int32, y = x_10 + 1 := ⟨_, rfl⟩
              replace hF := q_letX hF ez_26
              refine lv_iinc (v := z_26) (lv' := [(4, .int z_26), (0, .ref a), (1, .int v1), (2, .int x_1), (3, .int r_8)]) hx hb dX12_takes_62 hl (k := 4) rfl (by rw [ez_26]; rfl) (by decide) rfl (fun ls hl => ?_)
              have iz_26 : z_26.toInt = x_10.toInt + 1 := q_inc ez_26 (by first | (clear h0 h7 hh hm2 hge2 kdσ_2 if_4 gc_5_x_1 gc_5_f_4 c_5 hy1 bhpσ_9 chpσ_9 ir_8 hm21 kdσ_11 iz_13 gc_15_f_14 iz_17 iz_18 iz_19 if_21 ecf_21 hcf_21 iz_22 if_23 huf_23 iz_24 kdσ_25; omega) | omega)
              refine lv_goto (tgt := 21) hx hb dX12_takes_65 (by decide) ?_
              exact ih21 z_26 σ_25 _ _ ls (by first | (clear h0 h7 hh hm2 hge2 kdσ_2 if_4 gc_5_x_1 gc_5_f_4 c_5 hy1 bhpσ_9 chpσ_9 ir_8 kdσ_11 iz_13 gc_15_f_14 iz_17 iz_18 iz_19 if_21 ecf_21 hcf_21 iz_22 if_23 huf_23 iz_24 kdσ_25; omega) | omega) (by first | (clear h0 h7 hh hm2 hge2 kdσ_2 if_4 gc_5_x_1 gc_5_f_4 c_5 hy hy1 bhpσ_9 chpσ_9 ir_8 hm21 kdσ_11 iz_13 gc_15_f_14 iz_17 iz_18 iz_19 if_21 ecf_21 hcf_21 iz_22 if_23 huf_23 iz_24 kdσ_25; omega) | omega) (by rw [iz_26]; exact tkσ_25) fr_σ_25 kdσ_25 hF hI (lv_sub hl [1, 2, 3, 4, 0] rfl)
        have kc_27 : (0 : Int32).toInt = 0 := zt_0
        exact L_21_12 ((2147483647 - (0 : Int32).toInt).toNat + 1) 0 σ_2 _ _ ls (Nat.lt_succ_self _) (by have q : (0 : Int32).toInt = 0 := rfl; omega) tkσ_2 fr_σ_2 kdσ_2 hF hI (lv_sub hl [2, 3, 4, 1, 0] rfl)
  have kc_28 : (0 : Int32).toInt = 0 := zt_0
  exact L_2_3 ((2147483647 - (0 : Int32).toInt).toNat + 1) 0 σ _ _ ls (Nat.lt_succ_self _) (by have q : (0 : Int32).toInt = 0 := rfl; omega) (m_tk.start hG (by first | (clear h0 h7 hh kc_28; omega) | omega)) fr_σ kdσ hF hI (lv_sub hl [1, 2, 0] rfl)

set_option maxRecDepth 100000 in
set_option maxHeartbeats 4000000 in
theorem c_X12_doubts (l : Launch) (X : XW) (σ : ST) (a : Nat) (v1 : Int32) (n : Int) (ha : q_kd X a = 12) (hG : m_G (m_c X σ a)) (hW : m_W (m_c X σ a) n) (hn : n ≤ 200000) (ho : m_c X σ a 7 = 1) (h0 : 0 ≤ v1.toInt ∧ v1.toInt < m_c X σ a 2) (hne : v1.toInt ≠ m_c X σ a 6) : Met l yX12_doubts (q_ws yX12_doubts cX12_doubts 4 (some .int)) (q_rm 2 45) (q_P X σ [.ref a, .int v1]) (q_Qi X 1 σ (fun (r : Int32) (σ' : ST) => (m_G (m_c X σ' a)) ∧ (m_W (m_c X σ' a) (n + 1)) ∧ (∀ j, 654 ≤ j → m_c X σ' a j = m_c X σ a j) ∧ (m_KD 40 X σ σ') ∧ (r, σ') = F_X12_doubts X σ a v1 ∧ q_ow [(34, 99)] [] X σ σ')) 0 0 (q_reg X) := by
  refine q_met 1 (by first | exact rfl | decide +kernel) rfl (Nat.le_of_ble_eq_true rfl) (fun p e s m below meth c E hml hr hlk hI ls hl => ?_)
  have hx := E.1
  have hb := E.2.1
  have hl : lv_has ls 4 [(0, .ref a), (1, .int v1)] := hl
  have gσ : m_G (m_c X σ a) := hG
  have wσ : m_W (m_c X σ a) n := hW
  have kqσ : ∀ j, 654 ≤ j → m_c X σ a j = m_c X σ a j := fun _ _ => rfl
  have kdσ : m_KD 40 X σ σ := m_KD.rf
  have k2σ : m_c X σ a 0 = m_c X σ a 0 ∧ m_c X σ a 2 = m_c X σ a 2 := ⟨rfl, rfl⟩
  have fr_σ : q_ow [(34, 99)] [] X σ σ := q_ow.rf
  have hh := hG.hd
  obtain ⟨out, hout⟩ : ∃ o, o = F_X12_doubts X σ a v1 := ⟨_, rfl⟩
  have hF := hout.symm
  unfold F_X12_doubts at hF
  refine lv_aload_n hx hb dX12_doubts_0 rfl (lv_at hl 0 rfl) ?_
  refine gs_X12_35_12 E hI ha dX12_doubts_1 ?_
  refine lv_bipush (v := 6) hx hb dX12_doubts_4 zkb_6 ?_
  refine q_iald E hI (q_tk (k' := 34) hI ha rfl (Nat.succ_ne_zero _)) ⟨by decide, rfl⟩ (by decide) (by rw [q_lnk (v := 4650) hI (q_tk (k' := 34) hI ha rfl (Nat.succ_ne_zero _)) rfl (by decide)]; decide) dX12_doubts_6 ?_
  refine lv_topi (fun f_1 ef_1 => ?_)
  replace hF := q_letX hF ef_1
  have if_1 : f_1.toInt = m_c X σ a 6 := m_rd ef_1 (by decide)
  refine lv_istore_n (lv' := [(2, .int f_1), (0, .ref a), (1, .int v1)]) hx hb dX12_doubts_7 rfl hl (by decide) rfl (fun ls hl => ?_)
  refine lv_aload_n hx hb dX12_doubts_8 rfl (lv_at hl 1 rfl) ?_
  refine lv_aload_n hx hb dX12_doubts_9 rfl (lv_at hl 1 rfl) ?_
  refine gs_X12_35_12 E hI ha dX12_doubts_10 ?_
  refine lv_bipush (v := 9) hx hb dX12_doubts_13 zkb_9 ?_
  refine q_iald E hI (q_tk (k' := 34) hI ha rfl (Nat.succ_ne_zero _)) ⟨by decide, rfl⟩ (by decide) (by rw [q_lnk (v := 4650) hI (q_tk (k' := 34) hI ha rfl (Nat.succ_ne_zero _)) rfl (by decide)]; decide) dX12_doubts_15 ?_
  refine lv_topi (fun f_2 ef_2 => ?_)
  replace hF := q_letX hF ef_2
  have if_2 : f_2.toInt = m_c X σ a 9 := m_rd ef_2 (by decide)
  refine lv_iconst (v := 1) hx hb dX12_doubts_16 zki_1 ?_
  refine lv_isub hx hb dX12_doubts_17 ?_
  refine lv_topi (fun z_3 ez_3 => ?_)
  replace hF := q_letX hF ez_3
  have iz_3 := q_subI (A := (m_c X σ a 9)) (B := 1) ez_3 if_2 (by decide) (by first | (clear hn h0 gσ wσ kdσ k2σ if_1; omega) | omega) (by first | (clear hn h0 gσ wσ kdσ k2σ if_1; omega) | omega)
  refine q_ci (q_rV11_1 (rest := []) E (hml.trans hl.1.symm) hI (c_X12_sortOf l X σ a z_3 ha gσ (by first | (clear hn h0 gσ wσ kdσ k2σ if_1; omega) | omega)) kv_X12_305 ha ⟨Nat.le_of_ble_eq_true rfl, Nat.le_of_ble_eq_true rfl⟩ (Nat.le_of_ble_eq_true rfl) dX12_doubts_18) hI (Nat.le_of_ble_eq_true rfl) (fun r_4 σ_5 H locs hpσ_5 hkσ_5 hI => ?_)
  have ahpσ_5 := hpσ_5.1
  have bhpσ_5 := hpσ_5.2.1
  have chpσ_5 := hpσ_5.2.2
  clear hpσ_5
  replace hI := q_Irw ahpσ_5 hI
  replace hF := q_letX hF chpσ_5
  have J_29_6 : ∀ (x_6 : Int32) (H : Heap) (locs : List Loc) (ls : Array Slot), (0 ≤ x_6.toInt ∧ x_6.toInt ≤ 1) → (F_X12_doubts_J29_1 X σ a f_1 v1 x_6 = out) → q_I X 1 σ s.heap locs σ H → lv_has ls 4 [(0, .ref a), (1, .int v1), (2, .int f_1)] → W p l e (q_rm 2 45) s m ([.ref a, .int v1] : List Value).toArray below meth c H locs 0 0 (MQ below (q_Qi X 1 σ (fun (r : Int32) (σ' : ST) => (m_G (m_c X σ' a)) ∧ (m_W (m_c X σ' a) (n + 1)) ∧ (∀ j, 654 ≤ j → m_c X σ' a j = m_c X σ a j) ∧ (m_KD 40 X σ σ') ∧ (r, σ') = F_X12_doubts X σ a v1 ∧ q_ow [(34, 99)] [] X σ σ')) ([.ref a, .int v1] : List Value).toArray s 0 0 (q_reg X)) (F0 m 29 ls [.int x_6]) := by
    clear hF
    intro x_6 H locs ls j29 hF hI hl
    unfold F_X12_doubts_J29_1 at hF
    refine lv_istore_n (lv' := [(3, .int x_6), (0, .ref a), (1, .int v1), (2, .int f_1)]) hx hb dX12_doubts_29 rfl hl (by decide) rfl (fun ls hl => ?_)
    refine lv_aload_n hx hb dX12_doubts_30 rfl (lv_at hl 1 rfl) ?_
    refine gs_X12_35_12 E hI ha dX12_doubts_31 ?_
    refine lv_bipush (v := 7) hx hb dX12_doubts_34 zkb_7 ?_
    refine lv_iconst (v := 0) hx hb dX12_doubts_36 zki_0 ?_
    have kc_8 : (0 : Int32).toInt = 0 := zt_0
    refine q_iastN E hI (q_tk (k' := 34) hI ha rfl (Nat.succ_ne_zero _)) ⟨by decide, rfl⟩ (by decide) (by rw [q_lnk (v := 4650) hI (q_tk (k' := 34) hI ha rfl (Nat.succ_ne_zero _)) rfl (by decide)]; decide) (show 1 < 2 by decide) (q_inU rfl) dX12_doubts_37 (fun H locs σ_7 hσ_7 hI => ?_)
    replace hF := q_letX hF hσ_7
    have fr_σ_7 := fr_σ.si hσ_7 (q_tk (k' := 34) hI ha rfl (Nat.succ_ne_zero _)) rfl
    have mcσ_7 := m_wr (v := (0 : Int32)) (A := 7) hσ_7 (by decide) (by decide)
    have gσ_7 : m_G (m_c X σ_7 a) := m_G.wr gσ mcσ_7 (by first | (clear hn h0 gσ wσ kdσ k2σ if_2 iz_3 ahpσ_5 bhpσ_5 chpσ_5 j29; omega) | omega)
    have wσ_7 : m_W (m_c X σ_7 a) n := m_W.wr wσ mcσ_7 (by first | (clear hn ho h0 gσ wσ kdσ k2σ hh if_1 if_2 iz_3 ahpσ_5 bhpσ_5 chpσ_5 j29 kc_8 gσ_7; omega) | omega)
    have kqσ_7 : ∀ j, 654 ≤ j → m_c X σ_7 a j = m_c X σ a j := fun j h => by rw [mcσ_7 j (by first | (clear hn ho h0 gσ wσ kdσ k2σ hh if_1 if_2 iz_3 ahpσ_5 bhpσ_5 chpσ_5 j29 kc_8 gσ_7 wσ_7; omega) | omega), if_neg (by first | (clear hn ho h0 gσ wσ kdσ k2σ hh if_1 if_2 iz_3 ahpσ_5 bhpσ_5 chpσ_5 j29 kc_8 gσ_7 wσ_7; omega) | omega)] <;> exact kqσ j h
    have kdσ_7 : m_KD 40 X σ σ_7 := kdσ.ar hσ_7 (q_tk (k' := 34) hI ha rfl (Nat.succ_ne_zero _)) (by decide) (by decide)
    have k2σ_7 : m_c X σ_7 a 0 = m_c X σ a 0 ∧ m_c X σ_7 a 2 = m_c X σ a 2 := ⟨by rw [mcσ_7 0 (by decide), if_neg (by first | (clear hn ho h0 gσ wσ kdσ k2σ hh if_1 if_2 iz_3 ahpσ_5 bhpσ_5 chpσ_5 j29 kc_8 gσ_7 wσ_7 kdσ_7; omega) | omega)] <;> exact k2σ.1, by rw [mcσ_7 2 (by decide), if_neg (by first | (clear hn ho h0 gσ wσ kdσ k2σ hh if_1 if_2 iz_3 ahpσ_5 bhpσ_5 chpσ_5 j29 kc_8 gσ_7 wσ_7 kdσ_7; omega) | omega)] <;> exact k2σ.2⟩
    have z7σ_7 : m_c X σ_7 a 7 = 0 := (by rw [mcσ_7 7 (by decide), if_pos rfl]; rfl)
    refine lv_aload_n hx hb dX12_doubts_38 rfl (lv_at hl 1 rfl) ?_
    refine gs_X12_35_12 E hI ha dX12_doubts_39 ?_
    refine lv_bipush (v := 22) hx hb dX12_doubts_42 zkb_22 ?_
    refine lv_iload_n hx hb dX12_doubts_44 rfl (lv_at hl 3 rfl) ?_
    refine lv_iadd hx hb dX12_doubts_45 ?_
    refine lv_topi (fun z_9 ez_9 => ?_)
    replace hF := q_letX hF ez_9
    have iz_9 := q_addI (A := 22) (B := (m_c X σ a 6)) ez_9 (by decide) if_1 (by first | (clear hn h0 gσ wσ kdσ k2σ if_2 iz_3 ahpσ_5 bhpσ_5 chpσ_5 j29 kc_8 gσ_7 wσ_7 kdσ_7 k2σ_7 z7σ_7; omega) | omega) (by first | (clear hn ho h0 gσ wσ kdσ k2σ if_2 iz_3 ahpσ_5 bhpσ_5 chpσ_5 j29 kc_8 gσ_7 wσ_7 kdσ_7 z7σ_7; omega) | omega)
    refine lv_dup2_11 hx hb dX12_doubts_46 rfl rfl ?_
    refine q_iald E hI (q_tk (k' := 34) hI ha rfl (Nat.succ_ne_zero _)) ⟨by decide, rfl⟩ (by first | (clear hn h0 gσ wσ kdσ k2σ if_2 iz_3 ahpσ_5 bhpσ_5 chpσ_5 j29 kc_8 gσ_7 wσ_7 kdσ_7 k2σ_7 z7σ_7; omega) | omega) (by rw [q_lnk (v := 4650) hI (q_tk (k' := 34) hI ha rfl (Nat.succ_ne_zero _)) rfl (by decide)]; omega) dX12_doubts_47 ?_
    refine lv_topi (fun f_10 ef_10 => ?_)
    replace hF := q_letX hF ef_10
    have if_10 : f_10.toInt = m_c X σ_7 a (22 + (m_c X σ a 6)) := m_rd ef_10 iz_9
    have qw := wσ_7 (m_c X σ a 6) (by first | (clear hn h0 gσ wσ kdσ k2σ if_2 iz_3 ahpσ_5 bhpσ_5 chpσ_5 j29 kc_8 gσ_7 wσ_7 kdσ_7 k2σ_7 z7σ_7 if_10; omega) | omega) (by first | (clear hn ho h0 gσ wσ kdσ k2σ if_2 iz_3 ahpσ_5 bhpσ_5 chpσ_5 j29 kc_8 gσ_7 wσ_7 kdσ_7 z7σ_7 if_10; omega) | omega)
    refine lv_iconst (v := 1) hx hb dX12_doubts_48 zki_1 ?_
    refine lv_iadd hx hb dX12_doubts_49 ?_
    refine lv_topi (fun z_11 ez_11 => ?_)
    replace hF := q_letX hF ez_11
    have iz_11 := q_addI (A := (m_c X σ_7 a (22 + (m_c X σ a 6)))) (B := 1) ez_11 if_10 (by decide) (by first | (clear hn ho h0 gσ wσ kdσ k2σ hh if_1 if_2 iz_3 ahpσ_5 bhpσ_5 chpσ_5 j29 kc_8 gσ_7 wσ_7 kdσ_7 k2σ_7 z7σ_7 iz_9 if_10; omega) | omega) (by first | (clear ho h0 gσ wσ kdσ k2σ hh if_1 if_2 iz_3 ahpσ_5 bhpσ_5 chpσ_5 j29 kc_8 gσ_7 wσ_7 kdσ_7 k2σ_7 z7σ_7 iz_9 if_10; omega) | omega)
    refine q_iastN E hI (q_tk (k' := 34) hI ha rfl (Nat.succ_ne_zero _)) ⟨by decide, rfl⟩ (by first | (clear hn h0 gσ wσ kdσ k2σ if_2 iz_3 ahpσ_5 bhpσ_5 chpσ_5 j29 kc_8 gσ_7 wσ_7 kdσ_7 k2σ_7 z7σ_7 if_10 qw iz_11; omega) | omega) (by rw [q_lnk (v := 4650) hI (q_tk (k' := 34) hI ha rfl (Nat.succ_ne_zero _)) rfl (by decide)]; omega) (show 1 < 2 by decide) (q_inU rfl) dX12_doubts_50 (fun H locs σ_12 hσ_12 hI => ?_)
    replace hF := q_letX hF hσ_12
    have fr_σ_12 := fr_σ_7.si hσ_12 (q_tk (k' := 34) hI ha rfl (Nat.succ_ne_zero _)) rfl
    have mcσ_12 := m_wr (v := z_11) (A := (22 + (m_c X σ a 6))) hσ_12 iz_9 (by first | (clear hn h0 gσ wσ kdσ k2σ if_2 iz_3 ahpσ_5 bhpσ_5 chpσ_5 j29 kc_8 gσ_7 wσ_7 kdσ_7 k2σ_7 z7σ_7 if_10 qw iz_11; omega) | omega)
    have gσ_12 : m_G (m_c X σ_12 a) := m_G.wr gσ_7 mcσ_12 (by first | (clear hn h0 gσ wσ kdσ k2σ if_2 iz_3 ahpσ_5 bhpσ_5 chpσ_5 j29 kc_8 gσ_7 wσ_7 kdσ_7 if_10; omega) | omega)
    have vσ_12 : m_W (m_c X σ_12 a) (n + 1) := wσ_7.shown mcσ_12 (by first | (clear hn h0 gσ wσ kdσ k2σ if_2 iz_3 ahpσ_5 bhpσ_5 chpσ_5 j29 kc_8 gσ_7 wσ_7 kdσ_7 z7σ_7 if_10 qw iz_11 gσ_12; omega) | omega) (by omega)
    have lsσ_12 : 0 ≤ m_c X σ_12 a (28 + m_c X σ a 6) ∧ m_c X σ_12 a (28 + m_c X σ a 6) + 1 ≤ m_c X σ_12 a (22 + m_c X σ a 6) ∧ m_c X σ_12 a (22 + m_c X σ a 6) ≤ 200001 := (by have q := wσ_7 (m_c X σ a 6) (by first | (clear hn h0 gσ wσ kdσ k2σ if_2 iz_3 ahpσ_5 bhpσ_5 chpσ_5 j29 kc_8 gσ_7 wσ_7 kdσ_7 k2σ_7 z7σ_7 if_10 qw iz_11 gσ_12 vσ_12; omega) | omega) (by first | (clear hn ho h0 gσ wσ kdσ k2σ if_2 iz_3 ahpσ_5 bhpσ_5 chpσ_5 j29 kc_8 gσ_7 wσ_7 kdσ_7 z7σ_7 if_10 qw iz_11 gσ_12 vσ_12; omega) | omega); rw [mcσ_12 (28 + m_c X σ a 6) (by first | (clear hn h0 gσ wσ kdσ k2σ if_2 iz_3 ahpσ_5 bhpσ_5 chpσ_5 j29 kc_8 gσ_7 wσ_7 kdσ_7 k2σ_7 z7σ_7 if_10 qw iz_11 gσ_12 vσ_12; omega) | omega), if_neg (by first | (clear hn ho h0 gσ wσ kdσ k2σ hh if_1 if_2 iz_3 ahpσ_5 bhpσ_5 chpσ_5 j29 kc_8 gσ_7 wσ_7 kdσ_7 k2σ_7 z7σ_7 iz_9 if_10 qw iz_11 gσ_12 vσ_12; omega) | omega), mcσ_12 (22 + m_c X σ a 6) (by first | (clear hn h0 gσ wσ kdσ k2σ if_2 iz_3 ahpσ_5 bhpσ_5 chpσ_5 j29 kc_8 gσ_7 wσ_7 kdσ_7 k2σ_7 z7σ_7 if_10 qw iz_11 gσ_12 vσ_12; omega) | omega), if_pos rfl]; omega)
    have kqσ_12 : ∀ j, 654 ≤ j → m_c X σ_12 a j = m_c X σ a j := fun j h => by rw [mcσ_12 j (by first | (clear hn ho h0 gσ wσ kdσ k2σ hh if_1 if_2 iz_3 ahpσ_5 bhpσ_5 chpσ_5 j29 kc_8 gσ_7 wσ_7 kdσ_7 k2σ_7 z7σ_7 iz_9 if_10 qw iz_11 gσ_12 vσ_12 lsσ_12; omega) | omega), if_neg (by first | (clear hn ho h0 gσ wσ kdσ k2σ if_2 iz_3 ahpσ_5 bhpσ_5 chpσ_5 j29 kc_8 gσ_7 wσ_7 kdσ_7 z7σ_7 if_10 qw iz_11 gσ_12 vσ_12 lsσ_12; omega) | omega)] <;> exact kqσ_7 j h
    have kdσ_12 : m_KD 40 X σ σ_12 := kdσ_7.ar hσ_12 (q_tk (k' := 34) hI ha rfl (Nat.succ_ne_zero _)) (by decide) (by decide)
    have k2σ_12 : m_c X σ_12 a 0 = m_c X σ a 0 ∧ m_c X σ_12 a 2 = m_c X σ a 2 := ⟨by rw [mcσ_12 0 (by decide), if_neg (by first | (clear hn h0 gσ wσ kdσ k2σ if_2 iz_3 ahpσ_5 bhpσ_5 chpσ_5 j29 kc_8 gσ_7 wσ_7 kdσ_7 k2σ_7 z7σ_7 if_10 qw iz_11 gσ_12 vσ_12 lsσ_12 kdσ_12; omega) | omega)] <;> exact k2σ_7.1, by rw [mcσ_12 2 (by decide), if_neg (by first | (clear hn h0 gσ wσ kdσ k2σ if_2 iz_3 ahpσ_5 bhpσ_5 chpσ_5 j29 kc_8 gσ_7 wσ_7 kdσ_7 k2σ_7 z7σ_7 if_10 qw iz_11 gσ_12 vσ_12 lsσ_12 kdσ_12; omega) | omega)] <;> exact k2σ_7.2⟩
    have z7σ_12 : m_c X σ_12 a 7 = 0 := (by rw [mcσ_12 7 (by decide), if_neg (by first | (clear hn h0 gσ wσ kdσ k2σ if_2 iz_3 ahpσ_5 bhpσ_5 chpσ_5 j29 kc_8 gσ_7 wσ_7 kdσ_7 k2σ_7 z7σ_7 if_10 qw iz_11 gσ_12 vσ_12 lsσ_12 kdσ_12 k2σ_12; omega) | omega)]; exact z7σ_7)
    refine lv_aload_n hx hb dX12_doubts_51 rfl (lv_at hl 1 rfl) ?_
    refine gs_X12_35_12 E hI ha dX12_doubts_52 ?_
    refine lv_bipush (v := 28) hx hb dX12_doubts_55 zkb_28 ?_
    refine lv_iload_n hx hb dX12_doubts_57 rfl (lv_at hl 3 rfl) ?_
    refine lv_iadd hx hb dX12_doubts_58 ?_
    refine lv_topi (fun z_13 ez_13 => ?_)
    replace hF := q_letX hF ez_13
    have iz_13 := q_addI (A := 28) (B := (m_c X σ a 6)) ez_13 (by decide) if_1 (by first | (clear hn h0 gσ wσ kdσ k2σ if_2 iz_3 ahpσ_5 bhpσ_5 chpσ_5 j29 kc_8 gσ_7 wσ_7 kdσ_7 k2σ_7 z7σ_7 if_10 qw iz_11 gσ_12 vσ_12 lsσ_12 kdσ_12 k2σ_12 z7σ_12; omega) | omega) (by first | (clear hn ho h0 gσ wσ kdσ k2σ if_2 iz_3 ahpσ_5 bhpσ_5 chpσ_5 j29 kc_8 gσ_7 wσ_7 kdσ_7 z7σ_7 if_10 qw iz_11 gσ_12 vσ_12 lsσ_12 kdσ_12 z7σ_12; omega) | omega)
    refine lv_dup2_11 hx hb dX12_doubts_59 rfl rfl ?_
    refine q_iald E hI (q_tk (k' := 34) hI ha rfl (Nat.succ_ne_zero _)) ⟨by decide, rfl⟩ (by first | (clear hn h0 gσ wσ kdσ k2σ if_2 iz_3 ahpσ_5 bhpσ_5 chpσ_5 j29 kc_8 gσ_7 wσ_7 kdσ_7 k2σ_7 z7σ_7 if_10 qw iz_11 gσ_12 vσ_12 lsσ_12 kdσ_12 k2σ_12 z7σ_12; omega) | omega) (by rw [q_lnk (v := 4650) hI (q_tk (k' := 34) hI ha rfl (Nat.succ_ne_zero _)) rfl (by decide)]; omega) dX12_doubts_60 ?_
    refine lv_topi (fun f_14 ef_14 => ?_)
    replace hF := q_letX hF ef_14
    have if_14 : f_14.toInt = m_c X σ_12 a (28 + (m_c X σ a 6)) := m_rd ef_14 iz_13
    refine lv_iload_n hx hb dX12_doubts_61 rfl (lv_at hl 0 rfl) ?_
    refine q_if_eq (A := x_6.toInt) E rfl (tgt := 69) dX12_doubts_62 (by decide) (fun c_15 => ?_) (fun c_15 => ?_)
    · skip
      replace hF := q_ifp hF c_15
      refine lv_iconst (v := 1) hx hb dX12_doubts_69 zki_1 ?_
      refine lv_iadd hx hb dX12_doubts_70 ?_
      refine lv_topi (fun z_16 ez_16 => ?_)
      replace hF := q_letX hF ez_16
      have iz_16 := q_addI (A := (m_c X σ_12 a (28 + (m_c X σ a 6)))) (B := 1) ez_16 if_14 (by decide) (by first | (clear hn ho h0 gσ wσ kdσ k2σ hh if_1 if_2 iz_3 ahpσ_5 bhpσ_5 chpσ_5 j29 kc_8 gσ_7 wσ_7 kdσ_7 k2σ_7 z7σ_7 iz_9 if_10 qw iz_11 gσ_12 vσ_12 kdσ_12 k2σ_12 z7σ_12 iz_13 c_15; omega) | omega) (by first | (clear hn ho h0 gσ wσ kdσ k2σ hh if_1 if_2 iz_3 ahpσ_5 bhpσ_5 chpσ_5 j29 kc_8 gσ_7 wσ_7 kdσ_7 k2σ_7 z7σ_7 iz_9 if_10 qw iz_11 gσ_12 vσ_12 kdσ_12 k2σ_12 z7σ_12 iz_13 c_15; omega) | omega)
      refine q_iastN E hI (q_tk (k' := 34) hI ha rfl (Nat.succ_ne_zero _)) ⟨by decide, rfl⟩ (by first | (clear hn h0 gσ wσ kdσ k2σ if_2 iz_3 ahpσ_5 bhpσ_5 chpσ_5 j29 kc_8 gσ_7 wσ_7 kdσ_7 k2σ_7 z7σ_7 if_10 qw iz_11 gσ_12 vσ_12 lsσ_12 kdσ_12 k2σ_12 z7σ_12 if_14 c_15 iz_16; omega) | omega) (by rw [q_lnk (v := 4650) hI (q_tk (k' := 34) hI ha rfl (Nat.succ_ne_zero _)) rfl (by decide)]; omega) (show 1 < 2 by decide) (q_inU rfl) dX12_doubts_71 (fun H locs σ_17 hσ_17 hI => ?_)
      replace hF := q_letX hF hσ_17
      have fr_σ_17 := fr_σ_12.si hσ_17 (q_tk (k' := 34) hI ha rfl (Nat.succ_ne_zero _)) rfl
      have mcσ_17 := m_wr (v := z_16) (A := (28 + (m_c X σ a 6))) hσ_17 iz_13 (by first | (clear hn h0 gσ wσ kdσ k2σ if_2 iz_3 ahpσ_5 bhpσ_5 chpσ_5 j29 kc_8 gσ_7 wσ_7 kdσ_7 k2σ_7 z7σ_7 if_10 qw iz_11 gσ_12 vσ_12 lsσ_12 kdσ_12 k2σ_12 z7σ_12 if_14 c_15 iz_16; omega) | omega)
      have gσ_17 : m_G (m_c X σ_17 a) := m_G.wr gσ_12 mcσ_17 (by first | (clear hn h0 gσ wσ kdσ k2σ if_2 iz_3 ahpσ_5 bhpσ_5 chpσ_5 j29 kc_8 gσ_7 wσ_7 kdσ_7 z7σ_7 if_10 qw iz_11 gσ_12 vσ_12 kdσ_12 c_15; omega) | omega)
      have vσ_17 : m_W (m_c X σ_17 a) (n + 1) := vσ_12.lied mcσ_17 (by first | (clear hn h0 gσ wσ kdσ k2σ if_2 iz_3 ahpσ_5 bhpσ_5 chpσ_5 j29 kc_8 gσ_7 wσ_7 kdσ_7 z7σ_7 if_10 qw iz_11 gσ_12 vσ_12 lsσ_12 kdσ_12 z7σ_12 if_14 c_15 iz_16 gσ_17; omega) | omega) (by first | (clear hn ho h0 gσ wσ kdσ k2σ hh if_1 if_2 iz_3 ahpσ_5 bhpσ_5 chpσ_5 j29 kc_8 gσ_7 wσ_7 kdσ_7 k2σ_7 z7σ_7 iz_9 if_10 qw iz_11 gσ_12 vσ_12 kdσ_12 k2σ_12 z7σ_12 iz_13 c_15 gσ_17; omega) | omega)
      have kqσ_17 : ∀ j, 654 ≤ j → m_c X σ_17 a j = m_c X σ a j := fun j h => by rw [mcσ_17 j (by first | (clear hn ho h0 gσ wσ kdσ k2σ hh if_1 if_2 iz_3 ahpσ_5 bhpσ_5 chpσ_5 j29 kc_8 gσ_7 wσ_7 kdσ_7 k2σ_7 z7σ_7 iz_9 if_10 qw iz_11 gσ_12 vσ_12 lsσ_12 kdσ_12 k2σ_12 z7σ_12 iz_13 if_14 c_15 iz_16 gσ_17 vσ_17; omega) | omega), if_neg (by first | (clear hn ho h0 gσ wσ kdσ k2σ if_2 iz_3 ahpσ_5 bhpσ_5 chpσ_5 j29 kc_8 gσ_7 wσ_7 kdσ_7 z7σ_7 if_10 qw iz_11 gσ_12 vσ_12 lsσ_12 kdσ_12 z7σ_12 if_14 c_15 iz_16 gσ_17 vσ_17; omega) | omega)] <;> exact kqσ_12 j h
      have kdσ_17 : m_KD 40 X σ σ_17 := kdσ_12.ar hσ_17 (q_tk (k' := 34) hI ha rfl (Nat.succ_ne_zero _)) (by decide) (by decide)
      have k2σ_17 : m_c X σ_17 a 0 = m_c X σ a 0 ∧ m_c X σ_17 a 2 = m_c X σ a 2 := ⟨by rw [mcσ_17 0 (by decide), if_neg (by first | (clear hn h0 gσ wσ kdσ k2σ if_2 iz_3 ahpσ_5 bhpσ_5 chpσ_5 j29 kc_8 gσ_7 wσ_7 kdσ_7 k2σ_7 z7σ_7 if_10 qw iz_11 gσ_12 vσ_12 lsσ_12 kdσ_12 k2σ_12 z7σ_12 if_14 c_15 iz_16 gσ_17 vσ_17 kdσ_17; omega) | omega)] <;> exact k2σ_12.1, by rw [mcσ_17 2 (by decide), if_neg (by first | (clear hn h0 gσ wσ kdσ k2σ if_2 iz_3 ahpσ_5 bhpσ_5 chpσ_5 j29 kc_8 gσ_7 wσ_7 kdσ_7 k2σ_7 z7σ_7 if_10 qw iz_11 gσ_12 vσ_12 lsσ_12 kdσ_12 k2σ_12 z7σ_12 if_14 c_15 iz_16 gσ_17 vσ_17 kdσ_17; omega) | omega)] <;> exact k2σ_12.2⟩
      have z7σ_17 : m_c X σ_17 a 7 = 0 := (by rw [mcσ_17 7 (by decide), if_neg (by first | (clear hn h0 gσ wσ kdσ k2σ if_2 iz_3 ahpσ_5 bhpσ_5 chpσ_5 j29 kc_8 gσ_7 wσ_7 kdσ_7 k2σ_7 z7σ_7 if_10 qw iz_11 gσ_12 vσ_12 lsσ_12 kdσ_12 k2σ_12 z7σ_12 if_14 c_15 iz_16 gσ_17 vσ_17 kdσ_17 k2σ_17; omega) | omega)]; exact z7σ_12)
      refine lv_iload_n hx hb dX12_doubts_72 rfl (lv_at hl 0 rfl) ?_
      have J_92_18 : ∀  (σ_18 : ST) (H : Heap) (locs : List Loc) (ls : Array Slot), (q_ow [(34, 99)] [] X σ σ_18) → (m_G (m_c X σ_18 a)) → (m_W (m_c X σ_18 a) (n + 1)) → (∀ j, 654 ≤ j → m_c X σ_18 a j = m_c X σ a j) → (m_KD 40 X σ σ_18) → (m_c X σ_18 a 0 = m_c X σ a 0 ∧ m_c X σ_18 a 2 = m_c X σ a 2) → (m_c X σ_18 a 7 = 0) → (F_X12_doubts_J92_2 X x_6 a f_1 v1 σ_18 = out) → q_I X 1 σ s.heap locs σ_18 H → lv_has ls 4 [(0, .ref a), (1, .int v1), (2, .int f_1), (3, .int x_6)] → W p l e (q_rm 2 45) s m ([.ref a, .int v1] : List Value).toArray below meth c H locs 0 0 (MQ below (q_Qi X 1 σ (fun (r : Int32) (σ' : ST) => (m_G (m_c X σ' a)) ∧ (m_W (m_c X σ' a) (n + 1)) ∧ (∀ j, 654 ≤ j → m_c X σ' a j = m_c X σ a j) ∧ (m_KD 40 X σ σ') ∧ (r, σ') = F_X12_doubts X σ a v1 ∧ q_ow [(34, 99)] [] X σ σ')) ([.ref a, .int v1] : List Value).toArray s 0 0 (q_reg X)) (F0 m 92 ls []) := by
        clear hF
        intro σ_18 H locs ls fr_σ_18 gσ_18 vσ_18 kqσ_18 kdσ_18 k2σ_18 z7σ_18 hF hI hl
        try clear kqσ; try clear kdσ; try clear fr_σ; try clear ahpσ_5; try clear fr_σ_17; try clear mcσ_17; try clear kqσ_17; try clear kdσ_17
        unfold F_X12_doubts_J92_2 at hF
        refine lv_aload_n hx hb dX12_doubts_92 rfl (lv_at hl 0 rfl) ?_
        refine lv_iload_n hx hb dX12_doubts_93 rfl (lv_at hl 3 rfl) ?_
        refine q_if_eq (A := x_6.toInt) E rfl (tgt := 101) dX12_doubts_94 (by decide) (fun c_19 => ?_) (fun c_19 => ?_)
        · skip
          replace hF := q_ifp hF c_19
          refine lv_iload_n hx hb dX12_doubts_101 rfl (lv_at hl 2 rfl) ?_
          have J_105_20 : ∀  (σ_20 : ST) (H : Heap) (locs : List Loc) (ls : Array Slot), (q_ow [(34, 99)] [] X σ σ_20) → (m_G (m_c X σ_20 a)) → (m_W (m_c X σ_20 a) (n + 1)) → (∀ j, 654 ≤ j → m_c X σ_20 a j = m_c X σ a j) → (m_KD 40 X σ σ_20) → (m_c X σ_20 a 0 = m_c X σ a 0 ∧ m_c X σ_20 a 2 = m_c X σ a 2) → (m_c X σ_20 a 7 = 0) → (F_X12_doubts_J105_3 X a x_6 v1 f_1 σ_20 = out) → q_I X 1 σ s.heap locs σ_20 H → lv_has ls 4 [(0, .ref a), (1, .int v1), (2, .int f_1), (3, .int x_6)] → W p l e (q_rm 2 45) s m ([.ref a, .int v1] : List Value).toArray below meth c H locs 0 0 (MQ below (q_Qi X 1 σ (fun (r : Int32) (σ' : ST) => (m_G (m_c X σ' a)) ∧ (m_W (m_c X σ' a) (n + 1)) ∧ (∀ j, 654 ≤ j → m_c X σ' a j = m_c X σ a j) ∧ (m_KD 40 X σ σ') ∧ (r, σ') = F_X12_doubts X σ a v1 ∧ q_ow [(34, 99)] [] X σ σ')) ([.ref a, .int v1] : List Value).toArray s 0 0 (q_reg X)) (F0 m 105 ls []) := by
            clear hF
            intro σ_20 H locs ls fr_σ_20 gσ_20 vσ_20 kqσ_20 kdσ_20 k2σ_20 z7σ_20 hF hI hl
            unfold F_X12_doubts_J105_3 at hF
            refine lv_aload_n hx hb dX12_doubts_105 rfl (lv_at hl 0 rfl) ?_
            refine gs_X12_35_12 E hI ha dX12_doubts_106 ?_
            refine lv_iconst (v := 5) hx hb dX12_doubts_109 zki_5 ?_
            refine lv_aload_n hx hb dX12_doubts_110 rfl (lv_at hl 0 rfl) ?_
            refine lv_iconst (v := 0) hx hb dX12_doubts_111 zki_0 ?_
            have kc_21 : (0 : Int32).toInt = 0 := zt_0
            refine q_ci (q_rV11_1 (rest := [.int 5, .ref (q_rf X a 20)]) E (hml.trans hl.1.symm) hI (c_X12_nextKind l X σ_20 a (0 : Int32) ha gσ_20) kv_X12_315 ha ⟨Nat.le_of_ble_eq_true rfl, Nat.le_of_ble_eq_true rfl⟩ (Nat.le_of_ble_eq_true rfl) dX12_doubts_112) hI (Nat.le_of_ble_eq_true rfl) (fun r_22 σ_23 H locs hpσ_23 hkσ_23 hI => ?_)
            have ahpσ_23 := hpσ_23.1
            have bhpσ_23 := hpσ_23.2.1
            have chpσ_23 := hpσ_23.2.2
            clear hpσ_23
            replace hI := q_Irw ahpσ_23 hI
            replace hF := q_letX hF chpσ_23
            refine q_iastN E hI (q_tk (k' := 34) hI ha rfl (Nat.succ_ne_zero _)) ⟨by decide, rfl⟩ (by decide) (by rw [q_lnk (v := 4650) hI (q_tk (k' := 34) hI ha rfl (Nat.succ_ne_zero _)) rfl (by decide)]; decide) (show 1 < 2 by decide) (q_inU rfl) dX12_doubts_115 (fun H locs σ_24 hσ_24 hI => ?_)
            replace hF := q_letX hF hσ_24
            have fr_σ_24 := fr_σ_20.si hσ_24 (q_tk (k' := 34) hI ha rfl (Nat.succ_ne_zero _)) rfl
            have mcσ_24 := m_wr (v := r_22) (A := 5) hσ_24 (by decide) (by decide)
            have gσ_24 : m_G (m_c X σ_24 a) := m_G.wr gσ_20 mcσ_24 (by first | (clear hn ho h0 gσ wσ k2σ hh if_1 if_2 iz_3 bhpσ_5 chpσ_5 j29 kc_8 gσ_7 wσ_7 kdσ_7 k2σ_7 z7σ_7 iz_9 if_10 qw iz_11 gσ_12 vσ_12 lsσ_12 kdσ_12 k2σ_12 z7σ_12 iz_13 if_14 c_15 iz_16 gσ_17 vσ_17 k2σ_17 z7σ_17 gσ_18 vσ_18 kdσ_18 k2σ_18 z7σ_18 c_19 gσ_20 vσ_20 kdσ_20 k2σ_20 kc_21 ahpσ_23 chpσ_23; omega) | omega)
            have vσ_24 : m_W (m_c X σ_24 a) (n + 1) := m_W.wr vσ_20 mcσ_24 (by first | (clear hn ho h0 gσ wσ k2σ hh if_1 if_2 iz_3 bhpσ_5 chpσ_5 j29 kc_8 gσ_7 wσ_7 kdσ_7 k2σ_7 z7σ_7 iz_9 if_10 qw iz_11 gσ_12 vσ_12 lsσ_12 kdσ_12 k2σ_12 z7σ_12 iz_13 if_14 c_15 iz_16 gσ_17 vσ_17 k2σ_17 z7σ_17 gσ_18 vσ_18 kdσ_18 k2σ_18 z7σ_18 c_19 gσ_20 vσ_20 kdσ_20 k2σ_20 z7σ_20 kc_21 ahpσ_23 bhpσ_23 chpσ_23 gσ_24; omega) | omega)
            have kqσ_24 : ∀ j, 654 ≤ j → m_c X σ_24 a j = m_c X σ a j := fun j h => by rw [mcσ_24 j (by first | (clear hn ho h0 gσ wσ k2σ hh if_1 if_2 iz_3 bhpσ_5 chpσ_5 j29 kc_8 gσ_7 wσ_7 kdσ_7 k2σ_7 z7σ_7 iz_9 if_10 qw iz_11 gσ_12 vσ_12 lsσ_12 kdσ_12 k2σ_12 z7σ_12 iz_13 if_14 c_15 iz_16 gσ_17 vσ_17 k2σ_17 z7σ_17 gσ_18 vσ_18 kdσ_18 k2σ_18 z7σ_18 c_19 gσ_20 vσ_20 kdσ_20 k2σ_20 z7σ_20 kc_21 ahpσ_23 bhpσ_23 chpσ_23 gσ_24 vσ_24; omega) | omega), if_neg (by first | (clear hn ho h0 gσ wσ k2σ hh if_1 if_2 iz_3 bhpσ_5 chpσ_5 j29 kc_8 gσ_7 wσ_7 kdσ_7 k2σ_7 z7σ_7 iz_9 if_10 qw iz_11 gσ_12 vσ_12 lsσ_12 kdσ_12 k2σ_12 z7σ_12 iz_13 if_14 c_15 iz_16 gσ_17 vσ_17 k2σ_17 z7σ_17 gσ_18 vσ_18 kdσ_18 k2σ_18 z7σ_18 c_19 gσ_20 vσ_20 kdσ_20 k2σ_20 z7σ_20 kc_21 ahpσ_23 bhpσ_23 chpσ_23 gσ_24 vσ_24; omega) | omega)] <;> exact kqσ_20 j h
            have kdσ_24 : m_KD 40 X σ σ_24 := kdσ_20.ar hσ_24 (q_tk (k' := 34) hI ha rfl (Nat.succ_ne_zero _)) (by decide) (by decide)
            have k2σ_24 : m_c X σ_24 a 0 = m_c X σ a 0 ∧ m_c X σ_24 a 2 = m_c X σ a 2 := ⟨by rw [mcσ_24 0 (by decide), if_neg (by first | (clear hn ho h0 gσ wσ k2σ hh if_1 if_2 iz_3 bhpσ_5 chpσ_5 j29 kc_8 gσ_7 wσ_7 kdσ_7 k2σ_7 z7σ_7 iz_9 if_10 qw iz_11 gσ_12 vσ_12 lsσ_12 kdσ_12 k2σ_12 z7σ_12 iz_13 if_14 c_15 iz_16 gσ_17 vσ_17 k2σ_17 z7σ_17 gσ_18 vσ_18 kdσ_18 k2σ_18 z7σ_18 c_19 gσ_20 vσ_20 kdσ_20 k2σ_20 z7σ_20 kc_21 ahpσ_23 bhpσ_23 chpσ_23 gσ_24 vσ_24 kdσ_24; omega) | omega)] <;> exact k2σ_20.1, by rw [mcσ_24 2 (by decide), if_neg (by first | (clear hn ho h0 gσ wσ k2σ hh if_1 if_2 iz_3 bhpσ_5 chpσ_5 j29 kc_8 gσ_7 wσ_7 kdσ_7 k2σ_7 z7σ_7 iz_9 if_10 qw iz_11 gσ_12 vσ_12 lsσ_12 kdσ_12 k2σ_12 z7σ_12 iz_13 if_14 c_15 iz_16 gσ_17 vσ_17 k2σ_17 z7σ_17 gσ_18 vσ_18 kdσ_18 k2σ_18 z7σ_18 c_19 gσ_20 vσ_20 kdσ_20 k2σ_20 z7σ_20 kc_21 ahpσ_23 bhpσ_23 chpσ_23 gσ_24 vσ_24 kdσ_24; omega) | omega)] <;> exact k2σ_20.2⟩
            have z7σ_24 : m_c X σ_24 a 7 = 0 := (by rw [mcσ_24 7 (by decide), if_neg (by first | (clear hn ho h0 gσ wσ k2σ hh if_1 if_2 iz_3 bhpσ_5 chpσ_5 j29 kc_8 gσ_7 wσ_7 kdσ_7 k2σ_7 z7σ_7 iz_9 if_10 qw iz_11 gσ_12 vσ_12 lsσ_12 kdσ_12 k2σ_12 z7σ_12 iz_13 if_14 c_15 iz_16 gσ_17 vσ_17 k2σ_17 z7σ_17 gσ_18 vσ_18 kdσ_18 k2σ_18 z7σ_18 c_19 gσ_20 vσ_20 kdσ_20 k2σ_20 z7σ_20 kc_21 ahpσ_23 bhpσ_23 chpσ_23 gσ_24 vσ_24 kdσ_24 k2σ_24; omega) | omega)]; exact z7σ_20)
            refine lv_aload_n hx hb dX12_doubts_116 rfl (lv_at hl 0 rfl) ?_
            refine gs_X12_35_12 E hI ha dX12_doubts_117 ?_
            refine lv_bipush (v := 6) hx hb dX12_doubts_120 zkb_6 ?_
            refine lv_iload_n hx hb dX12_doubts_122 rfl (lv_at hl 3 rfl) ?_
            refine q_if_eq (A := x_6.toInt) E rfl (tgt := 130) dX12_doubts_123 (by decide) (fun c_25 => ?_) (fun c_25 => ?_)
            · skip
              replace hF := q_ifp hF c_25
              refine lv_iload_n hx hb dX12_doubts_130 rfl (lv_at hl 1 rfl) ?_
              refine q_iastN E hI (q_tk (k' := 34) hI ha rfl (Nat.succ_ne_zero _)) ⟨by decide, rfl⟩ (by decide) (by rw [q_lnk (v := 4650) hI (q_tk (k' := 34) hI ha rfl (Nat.succ_ne_zero _)) rfl (by decide)]; decide) (show 1 < 2 by decide) (q_inU rfl) dX12_doubts_131 (fun H locs σ_26 hσ_26 hI => ?_)
              replace hF := q_letX hF hσ_26
              have fr_σ_26 := fr_σ_24.si hσ_26 (q_tk (k' := 34) hI ha rfl (Nat.succ_ne_zero _)) rfl
              have mcσ_26 := m_wr (v := v1) (A := 6) hσ_26 (by decide) (by decide)
              have gσ_26 : m_G (m_c X σ_26 a) := m_G.wr gσ_24 mcσ_26 (by first | (clear hn ho h0 gσ wσ k2σ hh if_1 if_2 iz_3 bhpσ_5 chpσ_5 j29 kc_8 gσ_7 wσ_7 kdσ_7 z7σ_7 iz_9 if_10 qw iz_11 gσ_12 vσ_12 lsσ_12 kdσ_12 z7σ_12 iz_13 if_14 c_15 iz_16 gσ_17 vσ_17 z7σ_17 gσ_18 vσ_18 kdσ_18 z7σ_18 c_19 gσ_20 vσ_20 kdσ_20 z7σ_20 kc_21 ahpσ_23 bhpσ_23 chpσ_23 gσ_24 vσ_24 kdσ_24 c_25; omega) | omega)
              have vσ_26 : m_W (m_c X σ_26 a) (n + 1) := m_W.wr vσ_24 mcσ_26 (by first | (clear hn ho h0 gσ wσ k2σ hh if_1 if_2 iz_3 bhpσ_5 chpσ_5 j29 kc_8 gσ_7 wσ_7 kdσ_7 k2σ_7 z7σ_7 iz_9 if_10 qw iz_11 gσ_12 vσ_12 lsσ_12 kdσ_12 k2σ_12 z7σ_12 iz_13 if_14 c_15 iz_16 gσ_17 vσ_17 k2σ_17 z7σ_17 gσ_18 vσ_18 kdσ_18 k2σ_18 z7σ_18 c_19 gσ_20 vσ_20 kdσ_20 k2σ_20 z7σ_20 kc_21 ahpσ_23 bhpσ_23 chpσ_23 gσ_24 vσ_24 kdσ_24 k2σ_24 z7σ_24 c_25 gσ_26; omega) | omega)
              have kqσ_26 : ∀ j, 654 ≤ j → m_c X σ_26 a j = m_c X σ a j := fun j h => by rw [mcσ_26 j (by first | (clear hn ho h0 gσ wσ k2σ hh if_1 if_2 iz_3 bhpσ_5 chpσ_5 j29 kc_8 gσ_7 wσ_7 kdσ_7 k2σ_7 z7σ_7 iz_9 if_10 qw iz_11 gσ_12 vσ_12 lsσ_12 kdσ_12 k2σ_12 z7σ_12 iz_13 if_14 c_15 iz_16 gσ_17 vσ_17 k2σ_17 z7σ_17 gσ_18 vσ_18 kdσ_18 k2σ_18 z7σ_18 c_19 gσ_20 vσ_20 kdσ_20 k2σ_20 z7σ_20 kc_21 ahpσ_23 bhpσ_23 chpσ_23 gσ_24 vσ_24 kdσ_24 k2σ_24 z7σ_24 c_25 gσ_26 vσ_26; omega) | omega), if_neg (by first | (clear hn ho h0 gσ wσ k2σ hh if_1 if_2 iz_3 bhpσ_5 chpσ_5 j29 kc_8 gσ_7 wσ_7 kdσ_7 k2σ_7 z7σ_7 iz_9 if_10 qw iz_11 gσ_12 vσ_12 lsσ_12 kdσ_12 k2σ_12 z7σ_12 iz_13 if_14 c_15 iz_16 gσ_17 vσ_17 k2σ_17 z7σ_17 gσ_18 vσ_18 kdσ_18 k2σ_18 z7σ_18 c_19 gσ_20 vσ_20 kdσ_20 k2σ_20 z7σ_20 kc_21 ahpσ_23 bhpσ_23 chpσ_23 gσ_24 vσ_24 kdσ_24 k2σ_24 z7σ_24 c_25 gσ_26 vσ_26; omega) | omega)] <;> exact kqσ_24 j h
              have kdσ_26 : m_KD 40 X σ σ_26 := kdσ_24.ar hσ_26 (q_tk (k' := 34) hI ha rfl (Nat.succ_ne_zero _)) (by decide) (by decide)
              have k2σ_26 : m_c X σ_26 a 0 = m_c X σ a 0 ∧ m_c X σ_26 a 2 = m_c X σ a 2 := ⟨by rw [mcσ_26 0 (by decide), if_neg (by first | (clear hn ho h0 gσ wσ k2σ hh if_1 if_2 iz_3 bhpσ_5 chpσ_5 j29 kc_8 gσ_7 wσ_7 kdσ_7 k2σ_7 z7σ_7 iz_9 if_10 qw iz_11 gσ_12 vσ_12 lsσ_12 kdσ_12 k2σ_12 z7σ_12 iz_13 if_14 c_15 iz_16 gσ_17 vσ_17 k2σ_17 z7σ_17 gσ_18 vσ_18 kdσ_18 k2σ_18 z7σ_18 c_19 gσ_20 vσ_20 kdσ_20 k2σ_20 z7σ_20 kc_21 ahpσ_23 bhpσ_23 chpσ_23 gσ_24 vσ_24 kdσ_24 k2σ_24 z7σ_24 c_25 gσ_26 vσ_26 kdσ_26; omega) | omega)] <;> exact k2σ_24.1, by rw [mcσ_26 2 (by decide), if_neg (by first | (clear hn ho h0 gσ wσ k2σ hh if_1 if_2 iz_3 bhpσ_5 chpσ_5 j29 kc_8 gσ_7 wσ_7 kdσ_7 k2σ_7 z7σ_7 iz_9 if_10 qw iz_11 gσ_12 vσ_12 lsσ_12 kdσ_12 k2σ_12 z7σ_12 iz_13 if_14 c_15 iz_16 gσ_17 vσ_17 k2σ_17 z7σ_17 gσ_18 vσ_18 kdσ_18 k2σ_18 z7σ_18 c_19 gσ_20 vσ_20 kdσ_20 k2σ_20 z7σ_20 kc_21 ahpσ_23 bhpσ_23 chpσ_23 gσ_24 vσ_24 kdσ_24 k2σ_24 z7σ_24 c_25 gσ_26 vσ_26 kdσ_26; omega) | omega)] <;> exact k2σ_24.2⟩
              have z7σ_26 : m_c X σ_26 a 7 = 0 := (by rw [mcσ_26 7 (by decide), if_neg (by first | (clear hn ho h0 gσ wσ k2σ hh if_1 if_2 iz_3 bhpσ_5 chpσ_5 j29 kc_8 gσ_7 wσ_7 kdσ_7 k2σ_7 z7σ_7 iz_9 if_10 qw iz_11 gσ_12 vσ_12 lsσ_12 kdσ_12 k2σ_12 z7σ_12 iz_13 if_14 c_15 iz_16 gσ_17 vσ_17 k2σ_17 z7σ_17 gσ_18 vσ_18 kdσ_18 k2σ_18 z7σ_18 c_19 gσ_20 vσ_20 kdσ_20 k2σ_20 z7σ_20 kc_21 ahpσ_23 bhpσ_23 chpσ_23 gσ_24 vσ_24 kdσ_24 k2σ_24 z7σ_24 c_25 gσ_26 vσ_26 kdσ_26 k2σ_26; omega) | omega)]; exact z7σ_24)
              refine lv_iload_n hx hb dX12_doubts_132 rfl (lv_at hl 3 rfl) ?_
              refine q_if_eq (A := x_6.toInt) E rfl (tgt := 140) dX12_doubts_133 (by decide) (fun c_27 => ?_) (fun c_27 => ?_)
              · skip
                replace hF := q_ifp hF c_27
                refine lv_iload_n hx hb dX12_doubts_140 rfl (lv_at hl 2 rfl) ?_
                exact q_reti E hr hlk hI ⟨gσ_26, vσ_26, kqσ_26, kdσ_26, (hF.trans hout), fr_σ_26⟩ dX12_doubts_141
              · skip
                replace hF := q_ifn hF c_27
                refine lv_iload_n hx hb dX12_doubts_136 rfl (lv_at hl 1 rfl) ?_
                refine lv_goto (tgt := 141) hx hb dX12_doubts_137 (by decide) ?_
                exact q_reti E hr hlk hI ⟨gσ_26, vσ_26, kqσ_26, kdσ_26, (hF.trans hout), fr_σ_26⟩ dX12_doubts_141
            · skip
              replace hF := q_ifn hF c_25
              refine lv_iload_n hx hb dX12_doubts_126 rfl (lv_at hl 2 rfl) ?_
              refine lv_goto (tgt := 131) hx hb dX12_doubts_127 (by decide) ?_
              refine q_iastN E hI (q_tk (k' := 34) hI ha rfl (Nat.succ_ne_zero _)) ⟨by decide, rfl⟩ (by decide) (by rw [q_lnk (v := 4650) hI (q_tk (k' := 34) hI ha rfl (Nat.succ_ne_zero _)) rfl (by decide)]; decide) (show 1 < 2 by decide) (q_inU rfl) dX12_doubts_131 (fun H locs σ_28 hσ_28 hI => ?_)
              replace hF := q_letX hF hσ_28
              have fr_σ_28 := fr_σ_24.si hσ_28 (q_tk (k' := 34) hI ha rfl (Nat.succ_ne_zero _)) rfl
              have mcσ_28 := m_wr (v := f_1) (A := 6) hσ_28 (by decide) (by decide)
              have gσ_28 : m_G (m_c X σ_28 a) := m_G.wr gσ_24 mcσ_28 (by first | (clear hn h0 gσ wσ k2σ if_2 iz_3 bhpσ_5 chpσ_5 j29 kc_8 gσ_7 wσ_7 kdσ_7 z7σ_7 if_10 qw iz_11 gσ_12 vσ_12 lsσ_12 kdσ_12 z7σ_12 if_14 c_15 iz_16 gσ_17 vσ_17 z7σ_17 gσ_18 vσ_18 kdσ_18 z7σ_18 c_19 gσ_20 vσ_20 kdσ_20 z7σ_20 kc_21 ahpσ_23 bhpσ_23 chpσ_23 gσ_24 vσ_24 kdσ_24 c_25; omega) | omega)
              have vσ_28 : m_W (m_c X σ_28 a) (n + 1) := m_W.wr vσ_24 mcσ_28 (by first | (clear hn ho h0 gσ wσ k2σ hh if_1 if_2 iz_3 bhpσ_5 chpσ_5 j29 kc_8 gσ_7 wσ_7 kdσ_7 k2σ_7 z7σ_7 iz_9 if_10 qw iz_11 gσ_12 vσ_12 lsσ_12 kdσ_12 k2σ_12 z7σ_12 iz_13 if_14 c_15 iz_16 gσ_17 vσ_17 k2σ_17 z7σ_17 gσ_18 vσ_18 kdσ_18 k2σ_18 z7σ_18 c_19 gσ_20 vσ_20 kdσ_20 k2σ_20 z7σ_20 kc_21 ahpσ_23 bhpσ_23 chpσ_23 gσ_24 vσ_24 kdσ_24 k2σ_24 z7σ_24 c_25 gσ_28; omega) | omega)
              have kqσ_28 : ∀ j, 654 ≤ j → m_c X σ_28 a j = m_c X σ a j := fun j h => by rw [mcσ_28 j (by first | (clear hn ho h0 gσ wσ k2σ hh if_1 if_2 iz_3 bhpσ_5 chpσ_5 j29 kc_8 gσ_7 wσ_7 kdσ_7 k2σ_7 z7σ_7 iz_9 if_10 qw iz_11 gσ_12 vσ_12 lsσ_12 kdσ_12 k2σ_12 z7σ_12 iz_13 if_14 c_15 iz_16 gσ_17 vσ_17 k2σ_17 z7σ_17 gσ_18 vσ_18 kdσ_18 k2σ_18 z7σ_18 c_19 gσ_20 vσ_20 kdσ_20 k2σ_20 z7σ_20 kc_21 ahpσ_23 bhpσ_23 chpσ_23 gσ_24 vσ_24 kdσ_24 k2σ_24 z7σ_24 c_25 gσ_28 vσ_28; omega) | omega), if_neg (by first | (clear hn ho h0 gσ wσ k2σ hh if_1 if_2 iz_3 bhpσ_5 chpσ_5 j29 kc_8 gσ_7 wσ_7 kdσ_7 k2σ_7 z7σ_7 iz_9 if_10 qw iz_11 gσ_12 vσ_12 lsσ_12 kdσ_12 k2σ_12 z7σ_12 iz_13 if_14 c_15 iz_16 gσ_17 vσ_17 k2σ_17 z7σ_17 gσ_18 vσ_18 kdσ_18 k2σ_18 z7σ_18 c_19 gσ_20 vσ_20 kdσ_20 k2σ_20 z7σ_20 kc_21 ahpσ_23 bhpσ_23 chpσ_23 gσ_24 vσ_24 kdσ_24 k2σ_24 z7σ_24 c_25 gσ_28 vσ_28; omega) | omega)] <;> exact kqσ_24 j h
              have kdσ_28 : m_KD 40 X σ σ_28 := kdσ_24.ar hσ_28 (q_tk (k' := 34) hI ha rfl (Nat.succ_ne_zero _)) (by decide) (by decide)
              have k2σ_28 : m_c X σ_28 a 0 = m_c X σ a 0 ∧ m_c X σ_28 a 2 = m_c X σ a 2 := ⟨by rw [mcσ_28 0 (by decide), if_neg (by first | (clear hn ho h0 gσ wσ k2σ hh if_1 if_2 iz_3 bhpσ_5 chpσ_5 j29 kc_8 gσ_7 wσ_7 kdσ_7 k2σ_7 z7σ_7 iz_9 if_10 qw iz_11 gσ_12 vσ_12 lsσ_12 kdσ_12 k2σ_12 z7σ_12 iz_13 if_14 c_15 iz_16 gσ_17 vσ_17 k2σ_17 z7σ_17 gσ_18 vσ_18 kdσ_18 k2σ_18 z7σ_18 c_19 gσ_20 vσ_20 kdσ_20 k2σ_20 z7σ_20 kc_21 ahpσ_23 bhpσ_23 chpσ_23 gσ_24 vσ_24 kdσ_24 k2σ_24 z7σ_24 c_25 gσ_28 vσ_28 kdσ_28; omega) | omega)] <;> exact k2σ_24.1, by rw [mcσ_28 2 (by decide), if_neg (by first | (clear hn ho h0 gσ wσ k2σ hh if_1 if_2 iz_3 bhpσ_5 chpσ_5 j29 kc_8 gσ_7 wσ_7 kdσ_7 k2σ_7 z7σ_7 iz_9 if_10 qw iz_11 gσ_12 vσ_12 lsσ_12 kdσ_12 k2σ_12 z7σ_12 iz_13 if_14 c_15 iz_16 gσ_17 vσ_17 k2σ_17 z7σ_17 gσ_18 vσ_18 kdσ_18 k2σ_18 z7σ_18 c_19 gσ_20 vσ_20 kdσ_20 k2σ_20 z7σ_20 kc_21 ahpσ_23 bhpσ_23 chpσ_23 gσ_24 vσ_24 kdσ_24 k2σ_24 z7σ_24 c_25 gσ_28 vσ_28 kdσ_28; omega) | omega)] <;> exact k2σ_24.2⟩
              have z7σ_28 : m_c X σ_28 a 7 = 0 := (by rw [mcσ_28 7 (by decide), if_neg (by first | (clear hn ho h0 gσ wσ k2σ hh if_1 if_2 iz_3 bhpσ_5 chpσ_5 j29 kc_8 gσ_7 wσ_7 kdσ_7 k2σ_7 z7σ_7 iz_9 if_10 qw iz_11 gσ_12 vσ_12 lsσ_12 kdσ_12 k2σ_12 z7σ_12 iz_13 if_14 c_15 iz_16 gσ_17 vσ_17 k2σ_17 z7σ_17 gσ_18 vσ_18 kdσ_18 k2σ_18 z7σ_18 c_19 gσ_20 vσ_20 kdσ_20 k2σ_20 z7σ_20 kc_21 ahpσ_23 bhpσ_23 chpσ_23 gσ_24 vσ_24 kdσ_24 k2σ_24 z7σ_24 c_25 gσ_28 vσ_28 kdσ_28 k2σ_28; omega) | omega)]; exact z7σ_24)
              refine lv_iload_n hx hb dX12_doubts_132 rfl (lv_at hl 3 rfl) ?_
              refine q_if_eq (A := x_6.toInt) E rfl (tgt := 140) dX12_doubts_133 (by decide) (fun c_29 => ?_) (fun c_29 => ?_)
              · skip
                replace hF := q_ifp hF c_29
                refine lv_iload_n hx hb dX12_doubts_140 rfl (lv_at hl 2 rfl) ?_
                exact q_reti E hr hlk hI ⟨gσ_28, vσ_28, kqσ_28, kdσ_28, (hF.trans hout), fr_σ_28⟩ dX12_doubts_141
              · skip
                replace hF := q_ifn hF c_29
                refine lv_iload_n hx hb dX12_doubts_136 rfl (lv_at hl 1 rfl) ?_
                refine lv_goto (tgt := 141) hx hb dX12_doubts_137 (by decide) ?_
                exact q_reti E hr hlk hI ⟨gσ_28, vσ_28, kqσ_28, kdσ_28, (hF.trans hout), fr_σ_28⟩ dX12_doubts_141
          refine q_cv (q_rV11_1 (rest := []) E (hml.trans hl.1.symm) hI (c_X12_takes l X σ_18 a f_1 ha gσ_18 (by first | (clear hn h0 gσ wσ k2σ if_2 iz_3 bhpσ_5 chpσ_5 j29 kc_8 gσ_7 wσ_7 kdσ_7 z7σ_7 if_10 qw iz_11 gσ_12 vσ_12 lsσ_12 kdσ_12 z7σ_12 if_14 c_15 iz_16 gσ_17 vσ_17 z7σ_17 gσ_18 vσ_18 kdσ_18 z7σ_18 c_19; omega) | omega) (by omega)) kv_X12_325 ha ⟨Nat.le_of_ble_eq_true rfl, Nat.le_of_ble_eq_true rfl⟩ (Nat.le_of_ble_eq_true rfl) dX12_doubts_102) hI (Nat.le_of_ble_eq_true rfl) (fun σ_31 H locs hpσ_31 hkσ_31 hI => ?_)
          have ahpσ_31 := hpσ_31.1
          have bhpσ_31 := hpσ_31.2.1
          have chpσ_31 := hpσ_31.2.2.1
          have dhpσ_31 := hpσ_31.2.2.2.1
          have ehpσ_31 := hpσ_31.2.2.2.2
          clear hpσ_31
          have fr_σ_31 := fr_σ_18.call ehpσ_31 rfl rfl
          replace hF := q_letX hF dhpσ_31
          have gσ_31 : m_G (m_c X σ_31 a) := ahpσ_31
          have vσ_31 : m_W (m_c X σ_31 a) (n + 1) := m_W.ext (fun j h0 h1 => bhpσ_31 j (by first | (clear hn ho h0 gσ wσ k2σ hh if_1 if_2 iz_3 bhpσ_5 chpσ_5 j29 kc_8 gσ_7 wσ_7 kdσ_7 k2σ_7 z7σ_7 iz_9 if_10 qw iz_11 gσ_12 vσ_12 lsσ_12 kdσ_12 k2σ_12 z7σ_12 iz_13 if_14 c_15 iz_16 gσ_17 vσ_17 k2σ_17 z7σ_17 gσ_18 vσ_18 kdσ_18 k2σ_18 z7σ_18 c_19 ahpσ_31 bhpσ_31 chpσ_31 dhpσ_31 ehpσ_31 gσ_31; omega) | omega) (by first | (clear hn ho h0 gσ wσ k2σ hh if_1 if_2 iz_3 bhpσ_5 chpσ_5 j29 kc_8 gσ_7 wσ_7 kdσ_7 k2σ_7 z7σ_7 iz_9 if_10 qw iz_11 gσ_12 vσ_12 lsσ_12 kdσ_12 k2σ_12 z7σ_12 iz_13 if_14 c_15 iz_16 gσ_17 vσ_17 k2σ_17 z7σ_17 gσ_18 vσ_18 kdσ_18 k2σ_18 z7σ_18 c_19 ahpσ_31 bhpσ_31 chpσ_31 dhpσ_31 ehpσ_31 gσ_31; omega) | omega)) vσ_18
          have kqσ_31 : ∀ j, 654 ≤ j → m_c X σ_31 a j = m_c X σ a j := (fun j h => (bhpσ_31 j (by first | (clear hn ho h0 gσ wσ k2σ hh if_1 if_2 iz_3 bhpσ_5 chpσ_5 j29 kc_8 gσ_7 wσ_7 kdσ_7 k2σ_7 z7σ_7 iz_9 if_10 qw iz_11 gσ_12 vσ_12 lsσ_12 kdσ_12 k2σ_12 z7σ_12 iz_13 if_14 c_15 iz_16 gσ_17 vσ_17 k2σ_17 z7σ_17 gσ_18 vσ_18 kdσ_18 k2σ_18 z7σ_18 c_19 ahpσ_31 bhpσ_31 chpσ_31 dhpσ_31 ehpσ_31 gσ_31 vσ_31; omega) | omega) (by first | (clear hn ho h0 gσ wσ k2σ hh if_1 if_2 iz_3 bhpσ_5 chpσ_5 j29 kc_8 gσ_7 wσ_7 kdσ_7 k2σ_7 z7σ_7 iz_9 if_10 qw iz_11 gσ_12 vσ_12 lsσ_12 kdσ_12 k2σ_12 z7σ_12 iz_13 if_14 c_15 iz_16 gσ_17 vσ_17 k2σ_17 z7σ_17 gσ_18 vσ_18 kdσ_18 k2σ_18 z7σ_18 c_19 ahpσ_31 bhpσ_31 chpσ_31 dhpσ_31 ehpσ_31 gσ_31 vσ_31; omega) | omega)).trans (kqσ_18 j h))
          have kdσ_31 : m_KD 40 X σ σ_31 := kdσ_18.tr chpσ_31
          have k2σ_31 : m_c X σ_31 a 0 = m_c X σ a 0 ∧ m_c X σ_31 a 2 = m_c X σ a 2 := ⟨(bhpσ_31 0 (by decide) (by decide)).trans k2σ_18.1, (bhpσ_31 2 (by decide) (by decide)).trans k2σ_18.2⟩
          have z7σ_31 : m_c X σ_31 a 7 = 0 := (bhpσ_31 7 (by decide) (by decide)).trans z7σ_18
          exact J_105_20 σ_31 _ _ ls fr_σ_31 gσ_31 vσ_31 kqσ_31 kdσ_31 k2σ_31 z7σ_31 hF hI (lv_sub hl [0, 1, 2, 3] rfl)
        · skip
          replace hF := q_ifn hF c_19
          refine lv_iload_n hx hb dX12_doubts_97 rfl (lv_at hl 1 rfl) ?_
          refine lv_goto (tgt := 102) hx hb dX12_doubts_98 (by decide) ?_
          have J_105_32 : ∀  (σ_32 : ST) (H : Heap) (locs : List Loc) (ls : Array Slot), (q_ow [(34, 99)] [] X σ σ_32) → (m_G (m_c X σ_32 a)) → (m_W (m_c X σ_32 a) (n + 1)) → (∀ j, 654 ≤ j → m_c X σ_32 a j = m_c X σ a j) → (m_KD 40 X σ σ_32) → (m_c X σ_32 a 0 = m_c X σ a 0 ∧ m_c X σ_32 a 2 = m_c X σ a 2) → (m_c X σ_32 a 7 = 0) → (F_X12_doubts_J105_4 X a x_6 v1 f_1 σ_32 = out) → q_I X 1 σ s.heap locs σ_32 H → lv_has ls 4 [(0, .ref a), (1, .int v1), (2, .int f_1), (3, .int x_6)] → W p l e (q_rm 2 45) s m ([.ref a, .int v1] : List Value).toArray below meth c H locs 0 0 (MQ below (q_Qi X 1 σ (fun (r : Int32) (σ' : ST) => (m_G (m_c X σ' a)) ∧ (m_W (m_c X σ' a) (n + 1)) ∧ (∀ j, 654 ≤ j → m_c X σ' a j = m_c X σ a j) ∧ (m_KD 40 X σ σ') ∧ (r, σ') = F_X12_doubts X σ a v1 ∧ q_ow [(34, 99)] [] X σ σ')) ([.ref a, .int v1] : List Value).toArray s 0 0 (q_reg X)) (F0 m 105 ls []) := by
            clear hF
            intro σ_32 H locs ls fr_σ_32 gσ_32 vσ_32 kqσ_32 kdσ_32 k2σ_32 z7σ_32 hF hI hl
            unfold F_X12_doubts_J105_4 at hF
            refine lv_aload_n hx hb dX12_doubts_105 rfl (lv_at hl 0 rfl) ?_
            refine gs_X12_35_12 E hI ha dX12_doubts_106 ?_
            refine lv_iconst (v := 5) hx hb dX12_doubts_109 zki_5 ?_
            refine lv_aload_n hx hb dX12_doubts_110 rfl (lv_at hl 0 rfl) ?_
            refine lv_iconst (v := 0) hx hb dX12_doubts_111 zki_0 ?_
            have kc_33 : (0 : Int32).toInt = 0 := zt_0
            refine q_ci (q_rV11_1 (rest := [.int 5, .ref (q_rf X a 20)]) E (hml.trans hl.1.symm) hI (c_X12_nextKind l X σ_32 a (0 : Int32) ha gσ_32) kv_X12_315 ha ⟨Nat.le_of_ble_eq_true rfl, Nat.le_of_ble_eq_true rfl⟩ (Nat.le_of_ble_eq_true rfl) dX12_doubts_112) hI (Nat.le_of_ble_eq_true rfl) (fun r_34 σ_35 H locs hpσ_35 hkσ_35 hI => ?_)
            have ahpσ_35 := hpσ_35.1
            have bhpσ_35 := hpσ_35.2.1
            have chpσ_35 := hpσ_35.2.2
            clear hpσ_35
            replace hI := q_Irw ahpσ_35 hI
            replace hF := q_letX hF chpσ_35
            refine q_iastN E hI (q_tk (k' := 34) hI ha rfl (Nat.succ_ne_zero _)) ⟨by decide, rfl⟩ (by decide) (by rw [q_lnk (v := 4650) hI (q_tk (k' := 34) hI ha rfl (Nat.succ_ne_zero _)) rfl (by decide)]; decide) (show 1 < 2 by decide) (q_inU rfl) dX12_doubts_115 (fun H locs σ_36 hσ_36 hI => ?_)
            replace hF := q_letX hF hσ_36
            have fr_σ_36 := fr_σ_32.si hσ_36 (q_tk (k' := 34) hI ha rfl (Nat.succ_ne_zero _)) rfl
            have mcσ_36 := m_wr (v := r_34) (A := 5) hσ_36 (by decide) (by decide)
            have gσ_36 : m_G (m_c X σ_36 a) := m_G.wr gσ_32 mcσ_36 (by first | (clear hn ho h0 gσ wσ k2σ hh if_1 if_2 iz_3 bhpσ_5 chpσ_5 j29 kc_8 gσ_7 wσ_7 kdσ_7 k2σ_7 z7σ_7 iz_9 if_10 qw iz_11 gσ_12 vσ_12 lsσ_12 kdσ_12 k2σ_12 z7σ_12 iz_13 if_14 c_15 iz_16 gσ_17 vσ_17 k2σ_17 z7σ_17 gσ_18 vσ_18 kdσ_18 k2σ_18 z7σ_18 c_19 gσ_32 vσ_32 kdσ_32 k2σ_32 kc_33 ahpσ_35 chpσ_35; omega) | omega)
            have vσ_36 : m_W (m_c X σ_36 a) (n + 1) := m_W.wr vσ_32 mcσ_36 (by first | (clear hn ho h0 gσ wσ k2σ hh if_1 if_2 iz_3 bhpσ_5 chpσ_5 j29 kc_8 gσ_7 wσ_7 kdσ_7 k2σ_7 z7σ_7 iz_9 if_10 qw iz_11 gσ_12 vσ_12 lsσ_12 kdσ_12 k2σ_12 z7σ_12 iz_13 if_14 c_15 iz_16 gσ_17 vσ_17 k2σ_17 z7σ_17 gσ_18 vσ_18 kdσ_18 k2σ_18 z7σ_18 c_19 gσ_32 vσ_32 kdσ_32 k2σ_32 z7σ_32 kc_33 ahpσ_35 bhpσ_35 chpσ_35 gσ_36; omega) | omega)
            have kqσ_36 : ∀ j, 654 ≤ j → m_c X σ_36 a j = m_c X σ a j := fun j h => by rw [mcσ_36 j (by first | (clear hn ho h0 gσ wσ k2σ hh if_1 if_2 iz_3 bhpσ_5 chpσ_5 j29 kc_8 gσ_7 wσ_7 kdσ_7 k2σ_7 z7σ_7 iz_9 if_10 qw iz_11 gσ_12 vσ_12 lsσ_12 kdσ_12 k2σ_12 z7σ_12 iz_13 if_14 c_15 iz_16 gσ_17 vσ_17 k2σ_17 z7σ_17 gσ_18 vσ_18 kdσ_18 k2σ_18 z7σ_18 c_19 gσ_32 vσ_32 kdσ_32 k2σ_32 z7σ_32 kc_33 ahpσ_35 bhpσ_35 chpσ_35 gσ_36 vσ_36; omega) | omega), if_neg (by first | (clear hn ho h0 gσ wσ k2σ hh if_1 if_2 iz_3 bhpσ_5 chpσ_5 j29 kc_8 gσ_7 wσ_7 kdσ_7 k2σ_7 z7σ_7 iz_9 if_10 qw iz_11 gσ_12 vσ_12 lsσ_12 kdσ_12 k2σ_12 z7σ_12 iz_13 if_14 c_15 iz_16 gσ_17 vσ_17 k2σ_17 z7σ_17 gσ_18 vσ_18 kdσ_18 k2σ_18 z7σ_18 c_19 gσ_32 vσ_32 kdσ_32 k2σ_32 z7σ_32 kc_33 ahpσ_35 bhpσ_35 chpσ_35 gσ_36 vσ_36; omega) | omega)] <;> exact kqσ_32 j h
            have kdσ_36 : m_KD 40 X σ σ_36 := kdσ_32.ar hσ_36 (q_tk (k' := 34) hI ha rfl (Nat.succ_ne_zero _)) (by decide) (by decide)
            have k2σ_36 : m_c X σ_36 a 0 = m_c X σ a 0 ∧ m_c X σ_36 a 2 = m_c X σ a 2 := ⟨by rw [mcσ_36 0 (by decide), if_neg (by first | (clear hn ho h0 gσ wσ k2σ hh if_1 if_2 iz_3 bhpσ_5 chpσ_5 j29 kc_8 gσ_7 wσ_7 kdσ_7 k2σ_7 z7σ_7 iz_9 if_10 qw iz_11 gσ_12 vσ_12 lsσ_12 kdσ_12 k2σ_12 z7σ_12 iz_13 if_14 c_15 iz_16 gσ_17 vσ_17 k2σ_17 z7σ_17 gσ_18 vσ_18 kdσ_18 k2σ_18 z7σ_18 c_19 gσ_32 vσ_32 kdσ_32 k2σ_32 z7σ_32 kc_33 ahpσ_35 bhpσ_35 chpσ_35 gσ_36 vσ_36 kdσ_36; omega) | omega)] <;> exact k2σ_32.1, by rw [mcσ_36 2 (by decide), if_neg (by first | (clear hn ho h0 gσ wσ k2σ hh if_1 if_2 iz_3 bhpσ_5 chpσ_5 j29 kc_8 gσ_7 wσ_7 kdσ_7 k2σ_7 z7σ_7 iz_9 if_10 qw iz_11 gσ_12 vσ_12 lsσ_12 kdσ_12 k2σ_12 z7σ_12 iz_13 if_14 c_15 iz_16 gσ_17 vσ_17 k2σ_17 z7σ_17 gσ_18 vσ_18 kdσ_18 k2σ_18 z7σ_18 c_19 gσ_32 vσ_32 kdσ_32 k2σ_32 z7σ_32 kc_33 ahpσ_35 bhpσ_35 chpσ_35 gσ_36 vσ_36 kdσ_36; omega) | omega)] <;> exact k2σ_32.2⟩
            have z7σ_36 : m_c X σ_36 a 7 = 0 := (by rw [mcσ_36 7 (by decide), if_neg (by first | (clear hn ho h0 gσ wσ k2σ hh if_1 if_2 iz_3 bhpσ_5 chpσ_5 j29 kc_8 gσ_7 wσ_7 kdσ_7 k2σ_7 z7σ_7 iz_9 if_10 qw iz_11 gσ_12 vσ_12 lsσ_12 kdσ_12 k2σ_12 z7σ_12 iz_13 if_14 c_15 iz_16 gσ_17 vσ_17 k2σ_17 z7σ_17 gσ_18 vσ_18 kdσ_18 k2σ_18 z7σ_18 c_19 gσ_32 vσ_32 kdσ_32 k2σ_32 z7σ_32 kc_33 ahpσ_35 bhpσ_35 chpσ_35 gσ_36 vσ_36 kdσ_36 k2σ_36; omega) | omega)]; exact z7σ_32)
            refine lv_aload_n hx hb dX12_doubts_116 rfl (lv_at hl 0 rfl) ?_
            refine gs_X12_35_12 E hI ha dX12_doubts_117 ?_
            refine lv_bipush (v := 6) hx hb dX12_doubts_120 zkb_6 ?_
            refine lv_iload_n hx hb dX12_doubts_122 rfl (lv_at hl 3 rfl) ?_
            refine q_if_eq (A := x_6.toInt) E rfl (tgt := 130) dX12_doubts_123 (by decide) (fun c_37 => ?_) (fun c_37 => ?_)
            · skip
              replace hF := q_ifp hF c_37
              refine lv_iload_n hx hb dX12_doubts_130 rfl (lv_at hl 1 rfl) ?_
              refine q_iastN E hI (q_tk (k' := 34) hI ha rfl (Nat.succ_ne_zero _)) ⟨by decide, rfl⟩ (by decide) (by rw [q_lnk (v := 4650) hI (q_tk (k' := 34) hI ha rfl (Nat.succ_ne_zero _)) rfl (by decide)]; decide) (show 1 < 2 by decide) (q_inU rfl) dX12_doubts_131 (fun H locs σ_38 hσ_38 hI => ?_)
              replace hF := q_letX hF hσ_38
              have fr_σ_38 := fr_σ_36.si hσ_38 (q_tk (k' := 34) hI ha rfl (Nat.succ_ne_zero _)) rfl
              have mcσ_38 := m_wr (v := v1) (A := 6) hσ_38 (by decide) (by decide)
              have gσ_38 : m_G (m_c X σ_38 a) := m_G.wr gσ_36 mcσ_38 (by first | (clear hn ho h0 gσ wσ k2σ hh if_1 if_2 iz_3 bhpσ_5 chpσ_5 j29 kc_8 gσ_7 wσ_7 kdσ_7 z7σ_7 iz_9 if_10 qw iz_11 gσ_12 vσ_12 lsσ_12 kdσ_12 z7σ_12 iz_13 if_14 c_15 iz_16 gσ_17 vσ_17 z7σ_17 gσ_18 vσ_18 kdσ_18 z7σ_18 c_19 gσ_32 vσ_32 kdσ_32 z7σ_32 kc_33 ahpσ_35 bhpσ_35 chpσ_35 gσ_36 vσ_36 kdσ_36 c_37; omega) | omega)
              have vσ_38 : m_W (m_c X σ_38 a) (n + 1) := m_W.wr vσ_36 mcσ_38 (by first | (clear hn ho h0 gσ wσ k2σ hh if_1 if_2 iz_3 bhpσ_5 chpσ_5 j29 kc_8 gσ_7 wσ_7 kdσ_7 k2σ_7 z7σ_7 iz_9 if_10 qw iz_11 gσ_12 vσ_12 lsσ_12 kdσ_12 k2σ_12 z7σ_12 iz_13 if_14 c_15 iz_16 gσ_17 vσ_17 k2σ_17 z7σ_17 gσ_18 vσ_18 kdσ_18 k2σ_18 z7σ_18 c_19 gσ_32 vσ_32 kdσ_32 k2σ_32 z7σ_32 kc_33 ahpσ_35 bhpσ_35 chpσ_35 gσ_36 vσ_36 kdσ_36 k2σ_36 z7σ_36 c_37 gσ_38; omega) | omega)
              have kqσ_38 : ∀ j, 654 ≤ j → m_c X σ_38 a j = m_c X σ a j := fun j h => by rw [mcσ_38 j (by first | (clear hn ho h0 gσ wσ k2σ hh if_1 if_2 iz_3 bhpσ_5 chpσ_5 j29 kc_8 gσ_7 wσ_7 kdσ_7 k2σ_7 z7σ_7 iz_9 if_10 qw iz_11 gσ_12 vσ_12 lsσ_12 kdσ_12 k2σ_12 z7σ_12 iz_13 if_14 c_15 iz_16 gσ_17 vσ_17 k2σ_17 z7σ_17 gσ_18 vσ_18 kdσ_18 k2σ_18 z7σ_18 c_19 gσ_32 vσ_32 kdσ_32 k2σ_32 z7σ_32 kc_33 ahpσ_35 bhpσ_35 chpσ_35 gσ_36 vσ_36 kdσ_36 k2σ_36 z7σ_36 c_37 gσ_38 vσ_38; omega) | omega), if_neg (by first | (clear hn ho h0 gσ wσ k2σ hh if_1 if_2 iz_3 bhpσ_5 chpσ_5 j29 kc_8 gσ_7 wσ_7 kdσ_7 k2σ_7 z7σ_7 iz_9 if_10 qw iz_11 gσ_12 vσ_12 lsσ_12 kdσ_12 k2σ_12 z7σ_12 iz_13 if_14 c_15 iz_16 gσ_17 vσ_17 k2σ_17 z7σ_17 gσ_18 vσ_18 kdσ_18 k2σ_18 z7σ_18 c_19 gσ_32 vσ_32 kdσ_32 k2σ_32 z7σ_32 kc_33 ahpσ_35 bhpσ_35 chpσ_35 gσ_36 vσ_36 kdσ_36 k2σ_36 z7σ_36 c_37 gσ_38 vσ_38; omega) | omega)] <;> exact kqσ_36 j h
              have kdσ_38 : m_KD 40 X σ σ_38 := kdσ_36.ar hσ_38 (q_tk (k' := 34) hI ha rfl (Nat.succ_ne_zero _)) (by decide) (by decide)
              have k2σ_38 : m_c X σ_38 a 0 = m_c X σ a 0 ∧ m_c X σ_38 a 2 = m_c X σ a 2 := ⟨by rw [mcσ_38 0 (by decide), if_neg (by first | (clear hn ho h0 gσ wσ k2σ hh if_1 if_2 iz_3 bhpσ_5 chpσ_5 j29 kc_8 gσ_7 wσ_7 kdσ_7 k2σ_7 z7σ_7 iz_9 if_10 qw iz_11 gσ_12 vσ_12 lsσ_12 kdσ_12 k2σ_12 z7σ_12 iz_13 if_14 c_15 iz_16 gσ_17 vσ_17 k2σ_17 z7σ_17 gσ_18 vσ_18 kdσ_18 k2σ_18 z7σ_18 c_19 gσ_32 vσ_32 kdσ_32 k2σ_32 z7σ_32 kc_33 ahpσ_35 bhpσ_35 chpσ_35 gσ_36 vσ_36 kdσ_36 k2σ_36 z7σ_36 c_37 gσ_38 vσ_38 kdσ_38; omega) | omega)] <;> exact k2σ_36.1, by rw [mcσ_38 2 (by decide), if_neg (by first | (clear hn ho h0 gσ wσ k2σ hh if_1 if_2 iz_3 bhpσ_5 chpσ_5 j29 kc_8 gσ_7 wσ_7 kdσ_7 k2σ_7 z7σ_7 iz_9 if_10 qw iz_11 gσ_12 vσ_12 lsσ_12 kdσ_12 k2σ_12 z7σ_12 iz_13 if_14 c_15 iz_16 gσ_17 vσ_17 k2σ_17 z7σ_17 gσ_18 vσ_18 kdσ_18 k2σ_18 z7σ_18 c_19 gσ_32 vσ_32 kdσ_32 k2σ_32 z7σ_32 kc_33 ahpσ_35 bhpσ_35 chpσ_35 gσ_36 vσ_36 kdσ_36 k2σ_36 z7σ_36 c_37 gσ_38 vσ_38 kdσ_38; omega) | omega)] <;> exact k2σ_36.2⟩
              have z7σ_38 : m_c X σ_38 a 7 = 0 := (by rw [mcσ_38 7 (by decide), if_neg (by first | (clear hn ho h0 gσ wσ k2σ hh if_1 if_2 iz_3 bhpσ_5 chpσ_5 j29 kc_8 gσ_7 wσ_7 kdσ_7 k2σ_7 z7σ_7 iz_9 if_10 qw iz_11 gσ_12 vσ_12 lsσ_12 kdσ_12 k2σ_12 z7σ_12 iz_13 if_14 c_15 iz_16 gσ_17 vσ_17 k2σ_17 z7σ_17 gσ_18 vσ_18 kdσ_18 k2σ_18 z7σ_18 c_19 gσ_32 vσ_32 kdσ_32 k2σ_32 z7σ_32 kc_33 ahpσ_35 bhpσ_35 chpσ_35 gσ_36 vσ_36 kdσ_36 k2σ_36 z7σ_36 c_37 gσ_38 vσ_38 kdσ_38 k2σ_38; omega) | omega)]; exact z7σ_36)
              refine lv_iload_n hx hb dX12_doubts_132 rfl (lv_at hl 3 rfl) ?_
              refine q_if_eq (A := x_6.toInt) E rfl (tgt := 140) dX12_doubts_133 (by decide) (fun c_39 => ?_) (fun c_39 => ?_)
              · skip
                replace hF := q_ifp hF c_39
                refine lv_iload_n hx hb dX12_doubts_140 rfl (lv_at hl 2 rfl) ?_
                exact q_reti E hr hlk hI ⟨gσ_38, vσ_38, kqσ_38, kdσ_38, (hF.trans hout), fr_σ_38⟩ dX12_doubts_141
              · skip
                replace hF := q_ifn hF c_39
                refine lv_iload_n hx hb dX12_doubts_136 rfl (lv_at hl 1 rfl) ?_
                refine lv_goto (tgt := 141) hx hb dX12_doubts_137 (by decide) ?_
                exact q_reti E hr hlk hI ⟨gσ_38, vσ_38, kqσ_38, kdσ_38, (hF.trans hout), fr_σ_38⟩ dX12_doubts_141
            · skip
              replace hF := q_ifn hF c_37
              refine lv_iload_n hx hb dX12_doubts_126 rfl (lv_at hl 2 rfl) ?_
              refine lv_goto (tgt := 131) hx hb dX12_doubts_127 (by decide) ?_
              refine q_iastN E hI (q_tk (k' := 34) hI ha rfl (Nat.succ_ne_zero _)) ⟨by decide, rfl⟩ (by decide) (by rw [q_lnk (v := 4650) hI (q_tk (k' := 34) hI ha rfl (Nat.succ_ne_zero _)) rfl (by decide)]; decide) (show 1 < 2 by decide) (q_inU rfl) dX12_doubts_131 (fun H locs σ_40 hσ_40 hI => ?_)
              replace hF := q_letX hF hσ_40
              have fr_σ_40 := fr_σ_36.si hσ_40 (q_tk (k' := 34) hI ha rfl (Nat.succ_ne_zero _)) rfl
              have mcσ_40 := m_wr (v := f_1) (A := 6) hσ_40 (by decide) (by decide)
              have gσ_40 : m_G (m_c X σ_40 a) := m_G.wr gσ_36 mcσ_40 (by first | (clear hn h0 gσ wσ k2σ if_2 iz_3 bhpσ_5 chpσ_5 j29 kc_8 gσ_7 wσ_7 kdσ_7 z7σ_7 if_10 qw iz_11 gσ_12 vσ_12 lsσ_12 kdσ_12 z7σ_12 if_14 c_15 iz_16 gσ_17 vσ_17 z7σ_17 gσ_18 vσ_18 kdσ_18 z7σ_18 c_19 gσ_32 vσ_32 kdσ_32 z7σ_32 kc_33 ahpσ_35 bhpσ_35 chpσ_35 gσ_36 vσ_36 kdσ_36 c_37; omega) | omega)
              have vσ_40 : m_W (m_c X σ_40 a) (n + 1) := m_W.wr vσ_36 mcσ_40 (by first | (clear hn ho h0 gσ wσ k2σ hh if_1 if_2 iz_3 bhpσ_5 chpσ_5 j29 kc_8 gσ_7 wσ_7 kdσ_7 k2σ_7 z7σ_7 iz_9 if_10 qw iz_11 gσ_12 vσ_12 lsσ_12 kdσ_12 k2σ_12 z7σ_12 iz_13 if_14 c_15 iz_16 gσ_17 vσ_17 k2σ_17 z7σ_17 gσ_18 vσ_18 kdσ_18 k2σ_18 z7σ_18 c_19 gσ_32 vσ_32 kdσ_32 k2σ_32 z7σ_32 kc_33 ahpσ_35 bhpσ_35 chpσ_35 gσ_36 vσ_36 kdσ_36 k2σ_36 z7σ_36 c_37 gσ_40; omega) | omega)
              have kqσ_40 : ∀ j, 654 ≤ j → m_c X σ_40 a j = m_c X σ a j := fun j h => by rw [mcσ_40 j (by first | (clear hn ho h0 gσ wσ k2σ hh if_1 if_2 iz_3 bhpσ_5 chpσ_5 j29 kc_8 gσ_7 wσ_7 kdσ_7 k2σ_7 z7σ_7 iz_9 if_10 qw iz_11 gσ_12 vσ_12 lsσ_12 kdσ_12 k2σ_12 z7σ_12 iz_13 if_14 c_15 iz_16 gσ_17 vσ_17 k2σ_17 z7σ_17 gσ_18 vσ_18 kdσ_18 k2σ_18 z7σ_18 c_19 gσ_32 vσ_32 kdσ_32 k2σ_32 z7σ_32 kc_33 ahpσ_35 bhpσ_35 chpσ_35 gσ_36 vσ_36 kdσ_36 k2σ_36 z7σ_36 c_37 gσ_40 vσ_40; omega) | omega), if_neg (by first | (clear hn ho h0 gσ wσ k2σ hh if_1 if_2 iz_3 bhpσ_5 chpσ_5 j29 kc_8 gσ_7 wσ_7 kdσ_7 k2σ_7 z7σ_7 iz_9 if_10 qw iz_11 gσ_12 vσ_12 lsσ_12 kdσ_12 k2σ_12 z7σ_12 iz_13 if_14 c_15 iz_16 gσ_17 vσ_17 k2σ_17 z7σ_17 gσ_18 vσ_18 kdσ_18 k2σ_18 z7σ_18 c_19 gσ_32 vσ_32 kdσ_32 k2σ_32 z7σ_32 kc_33 ahpσ_35 bhpσ_35 chpσ_35 gσ_36 vσ_36 kdσ_36 k2σ_36 z7σ_36 c_37 gσ_40 vσ_40; omega) | omega)] <;> exact kqσ_36 j h
              have kdσ_40 : m_KD 40 X σ σ_40 := kdσ_36.ar hσ_40 (q_tk (k' := 34) hI ha rfl (Nat.succ_ne_zero _)) (by decide) (by decide)
              have k2σ_40 : m_c X σ_40 a 0 = m_c X σ a 0 ∧ m_c X σ_40 a 2 = m_c X σ a 2 := ⟨by rw [mcσ_40 0 (by decide), if_neg (by first | (clear hn ho h0 gσ wσ k2σ hh if_1 if_2 iz_3 bhpσ_5 chpσ_5 j29 kc_8 gσ_7 wσ_7 kdσ_7 k2σ_7 z7σ_7 iz_9 if_10 qw iz_11 gσ_12 vσ_12 lsσ_12 kdσ_12 k2σ_12 z7σ_12 iz_13 if_14 c_15 iz_16 gσ_17 vσ_17 k2σ_17 z7σ_17 gσ_18 vσ_18 kdσ_18 k2σ_18 z7σ_18 c_19 gσ_32 vσ_32 kdσ_32 k2σ_32 z7σ_32 kc_33 ahpσ_35 bhpσ_35 chpσ_35 gσ_36 vσ_36 kdσ_36 k2σ_36 z7σ_36 c_37 gσ_40 vσ_40 kdσ_40; omega) | omega)] <;> exact k2σ_36.1, by rw [mcσ_40 2 (by decide), if_neg (by first | (clear hn ho h0 gσ wσ k2σ hh if_1 if_2 iz_3 bhpσ_5 chpσ_5 j29 kc_8 gσ_7 wσ_7 kdσ_7 k2σ_7 z7σ_7 iz_9 if_10 qw iz_11 gσ_12 vσ_12 lsσ_12 kdσ_12 k2σ_12 z7σ_12 iz_13 if_14 c_15 iz_16 gσ_17 vσ_17 k2σ_17 z7σ_17 gσ_18 vσ_18 kdσ_18 k2σ_18 z7σ_18 c_19 gσ_32 vσ_32 kdσ_32 k2σ_32 z7σ_32 kc_33 ahpσ_35 bhpσ_35 chpσ_35 gσ_36 vσ_36 kdσ_36 k2σ_36 z7σ_36 c_37 gσ_40 vσ_40 kdσ_40; omega) | omega)] <;> exact k2σ_36.2⟩
              have z7σ_40 : m_c X σ_40 a 7 = 0 := (by rw [mcσ_40 7 (by decide), if_neg (by first | (clear hn ho h0 gσ wσ k2σ hh if_1 if_2 iz_3 bhpσ_5 chpσ_5 j29 kc_8 gσ_7 wσ_7 kdσ_7 k2σ_7 z7σ_7 iz_9 if_10 qw iz_11 gσ_12 vσ_12 lsσ_12 kdσ_12 k2σ_12 z7σ_12 iz_13 if_14 c_15 iz_16 gσ_17 vσ_17 k2σ_17 z7σ_17 gσ_18 vσ_18 kdσ_18 k2σ_18 z7σ_18 c_19 gσ_32 vσ_32 kdσ_32 k2σ_32 z7σ_32 kc_33 ahpσ_35 bhpσ_35 chpσ_35 gσ_36 vσ_36 kdσ_36 k2σ_36 z7σ_36 c_37 gσ_40 vσ_40 kdσ_40 k2σ_40; omega) | omega)]; exact z7σ_36)
              refine lv_iload_n hx hb dX12_doubts_132 rfl (lv_at hl 3 rfl) ?_
              refine q_if_eq (A := x_6.toInt) E rfl (tgt := 140) dX12_doubts_133 (by decide) (fun c_41 => ?_) (fun c_41 => ?_)
              · skip
                replace hF := q_ifp hF c_41
                refine lv_iload_n hx hb dX12_doubts_140 rfl (lv_at hl 2 rfl) ?_
                exact q_reti E hr hlk hI ⟨gσ_40, vσ_40, kqσ_40, kdσ_40, (hF.trans hout), fr_σ_40⟩ dX12_doubts_141
              · skip
                replace hF := q_ifn hF c_41
                refine lv_iload_n hx hb dX12_doubts_136 rfl (lv_at hl 1 rfl) ?_
                refine lv_goto (tgt := 141) hx hb dX12_doubts_137 (by decide) ?_
                exact q_reti E hr hlk hI ⟨gσ_40, vσ_40, kqσ_40, kdσ_40, (hF.trans hout), fr_σ_40⟩ dX12_doubts_141
          refine q_cv (q_rV11_1 (rest := []) E (hml.trans hl.1.symm) hI (c_X12_takes l X σ_18 a v1 ha gσ_18 (by first | (clear hn ho h0 gσ wσ k2σ if_1 if_2 iz_3 bhpσ_5 chpσ_5 j29 kc_8 gσ_7 wσ_7 kdσ_7 z7σ_7 iz_9 if_10 qw iz_11 gσ_12 vσ_12 lsσ_12 kdσ_12 z7σ_12 iz_13 if_14 c_15 iz_16 gσ_17 vσ_17 z7σ_17 gσ_18 vσ_18 kdσ_18 z7σ_18 c_19; omega) | omega) (by omega)) kv_X12_325 ha ⟨Nat.le_of_ble_eq_true rfl, Nat.le_of_ble_eq_true rfl⟩ (Nat.le_of_ble_eq_true rfl) dX12_doubts_102) hI (Nat.le_of_ble_eq_true rfl) (fun σ_43 H locs hpσ_43 hkσ_43 hI => ?_)
          have ahpσ_43 := hpσ_43.1
          have bhpσ_43 := hpσ_43.2.1
          have chpσ_43 := hpσ_43.2.2.1
          have dhpσ_43 := hpσ_43.2.2.2.1
          have ehpσ_43 := hpσ_43.2.2.2.2
          clear hpσ_43
          have fr_σ_43 := fr_σ_18.call ehpσ_43 rfl rfl
          replace hF := q_letX hF dhpσ_43
          have gσ_43 : m_G (m_c X σ_43 a) := ahpσ_43
          have vσ_43 : m_W (m_c X σ_43 a) (n + 1) := m_W.ext (fun j h0 h1 => bhpσ_43 j (by first | (clear hn ho h0 gσ wσ k2σ hh if_1 if_2 iz_3 bhpσ_5 chpσ_5 j29 kc_8 gσ_7 wσ_7 kdσ_7 k2σ_7 z7σ_7 iz_9 if_10 qw iz_11 gσ_12 vσ_12 lsσ_12 kdσ_12 k2σ_12 z7σ_12 iz_13 if_14 c_15 iz_16 gσ_17 vσ_17 k2σ_17 z7σ_17 gσ_18 vσ_18 kdσ_18 k2σ_18 z7σ_18 c_19 ahpσ_43 bhpσ_43 chpσ_43 dhpσ_43 ehpσ_43 gσ_43; omega) | omega) (by first | (clear hn ho h0 gσ wσ k2σ hh if_1 if_2 iz_3 bhpσ_5 chpσ_5 j29 kc_8 gσ_7 wσ_7 kdσ_7 k2σ_7 z7σ_7 iz_9 if_10 qw iz_11 gσ_12 vσ_12 lsσ_12 kdσ_12 k2σ_12 z7σ_12 iz_13 if_14 c_15 iz_16 gσ_17 vσ_17 k2σ_17 z7σ_17 gσ_18 vσ_18 kdσ_18 k2σ_18 z7σ_18 c_19 ahpσ_43 bhpσ_43 chpσ_43 dhpσ_43 ehpσ_43 gσ_43; omega) | omega)) vσ_18
          have kqσ_43 : ∀ j, 654 ≤ j → m_c X σ_43 a j = m_c X σ a j := (fun j h => (bhpσ_43 j (by first | (clear hn ho h0 gσ wσ k2σ hh if_1 if_2 iz_3 bhpσ_5 chpσ_5 j29 kc_8 gσ_7 wσ_7 kdσ_7 k2σ_7 z7σ_7 iz_9 if_10 qw iz_11 gσ_12 vσ_12 lsσ_12 kdσ_12 k2σ_12 z7σ_12 iz_13 if_14 c_15 iz_16 gσ_17 vσ_17 k2σ_17 z7σ_17 gσ_18 vσ_18 kdσ_18 k2σ_18 z7σ_18 c_19 ahpσ_43 bhpσ_43 chpσ_43 dhpσ_43 ehpσ_43 gσ_43 vσ_43; omega) | omega) (by first | (clear hn ho h0 gσ wσ k2σ hh if_1 if_2 iz_3 bhpσ_5 chpσ_5 j29 kc_8 gσ_7 wσ_7 kdσ_7 k2σ_7 z7σ_7 iz_9 if_10 qw iz_11 gσ_12 vσ_12 lsσ_12 kdσ_12 k2σ_12 z7σ_12 iz_13 if_14 c_15 iz_16 gσ_17 vσ_17 k2σ_17 z7σ_17 gσ_18 vσ_18 kdσ_18 k2σ_18 z7σ_18 c_19 ahpσ_43 bhpσ_43 chpσ_43 dhpσ_43 ehpσ_43 gσ_43 vσ_43; omega) | omega)).trans (kqσ_18 j h))
          have kdσ_43 : m_KD 40 X σ σ_43 := kdσ_18.tr chpσ_43
          have k2σ_43 : m_c X σ_43 a 0 = m_c X σ a 0 ∧ m_c X σ_43 a 2 = m_c X σ a 2 := ⟨(bhpσ_43 0 (by decide) (by decide)).trans k2σ_18.1, (bhpσ_43 2 (by decide) (by decide)).trans k2σ_18.2⟩
          have z7σ_43 : m_c X σ_43 a 7 = 0 := (bhpσ_43 7 (by decide) (by decide)).trans z7σ_18
          exact J_105_32 σ_43 _ _ ls fr_σ_43 gσ_43 vσ_43 kqσ_43 kdσ_43 k2σ_43 z7σ_43 hF hI (lv_sub hl [0, 1, 2, 3] rfl)
      refine q_if_eq (A := x_6.toInt) E rfl (tgt := 92) dX12_doubts_73 (by decide) (fun c_44 => ?_) (fun c_44 => ?_)
      · skip
        replace hF := q_ifp hF c_44
        exact J_92_18 σ_17 _ _ ls fr_σ_17 gσ_17 vσ_17 kqσ_17 kdσ_17 k2σ_17 z7σ_17 hF hI (lv_sub hl [1, 2, 3, 0] rfl)
      · skip
        replace hF := q_ifn hF c_44
        refine lv_aload_n hx hb dX12_doubts_76 rfl (lv_at hl 1 rfl) ?_
        refine lv_iload_n hx hb dX12_doubts_77 rfl (lv_at hl 3 rfl) ?_
        refine q_ci (q_rV11_1 (rest := []) E (hml.trans hl.1.symm) hI (c_X12_cardsOf l X σ_17 a f_1 ha gσ_17 (by first | (clear hn h0 gσ wσ k2σ if_2 iz_3 bhpσ_5 chpσ_5 j29 kc_8 gσ_7 wσ_7 kdσ_7 z7σ_7 if_10 qw iz_11 gσ_12 vσ_12 lsσ_12 kdσ_12 z7σ_12 if_14 c_15 iz_16 gσ_17 vσ_17 z7σ_17 c_44; omega) | omega)) kv_X12_293 ha ⟨Nat.le_of_ble_eq_true rfl, Nat.le_of_ble_eq_true rfl⟩ (Nat.le_of_ble_eq_true rfl) dX12_doubts_78) hI (Nat.le_of_ble_eq_true rfl) (fun r_45 σ_46 H locs hpσ_46 hkσ_46 hI => ?_)
        have ahpσ_46 := hpσ_46.1
        have bhpσ_46 := hpσ_46.2.1
        have chpσ_46 := hpσ_46.2.2.1
        have dhpσ_46 := hpσ_46.2.2.2
        clear hpσ_46
        replace hI := q_Irw ahpσ_46 hI
        replace hF := q_letX hF dhpσ_46
        refine q_if_ne (A := r_45.toInt) E rfl (tgt := 92) dX12_doubts_81 (by decide) (fun c_47 => ?_) (fun c_47 => ?_)
        · skip
          replace hF := q_ifn hF c_47
          exact J_92_18 σ_17 _ _ ls fr_σ_17 gσ_17 vσ_17 kqσ_17 kdσ_17 k2σ_17 z7σ_17 hF hI (lv_sub hl [1, 2, 3, 0] rfl)
        · skip
          replace hF := q_ifp hF c_47
          refine lv_aload_n hx hb dX12_doubts_84 rfl (lv_at hl 1 rfl) ?_
          refine gs_X12_35_12 E hI ha dX12_doubts_85 ?_
          refine lv_bipush (v := 8) hx hb dX12_doubts_88 zkb_8 ?_
          refine lv_iload_n hx hb dX12_doubts_90 rfl (lv_at hl 3 rfl) ?_
          refine q_iastN E hI (q_tk (k' := 34) hI ha rfl (Nat.succ_ne_zero _)) ⟨by decide, rfl⟩ (by decide) (by rw [q_lnk (v := 4650) hI (q_tk (k' := 34) hI ha rfl (Nat.succ_ne_zero _)) rfl (by decide)]; decide) (show 1 < 2 by decide) (q_inU rfl) dX12_doubts_91 (fun H locs σ_48 hσ_48 hI => ?_)
          replace hF := q_letX hF hσ_48
          have fr_σ_48 := fr_σ_17.si hσ_48 (q_tk (k' := 34) hI ha rfl (Nat.succ_ne_zero _)) rfl
          have mcσ_48 := m_wr (v := f_1) (A := 8) hσ_48 (by decide) (by decide)
          have gσ_48 : m_G (m_c X σ_48 a) := m_G.wr gσ_17 mcσ_48 (by first | (clear hn h0 gσ wσ k2σ if_2 iz_3 bhpσ_5 chpσ_5 j29 kc_8 gσ_7 wσ_7 kdσ_7 z7σ_7 if_10 qw iz_11 gσ_12 vσ_12 lsσ_12 kdσ_12 z7σ_12 if_14 c_15 iz_16 gσ_17 vσ_17 c_44 ahpσ_46 bhpσ_46 chpσ_46 dhpσ_46 c_47; omega) | omega)
          have vσ_48 : m_W (m_c X σ_48 a) (n + 1) := m_W.wr vσ_17 mcσ_48 (by first | (clear hn ho h0 gσ wσ k2σ hh if_1 if_2 iz_3 bhpσ_5 chpσ_5 j29 kc_8 gσ_7 wσ_7 kdσ_7 k2σ_7 z7σ_7 iz_9 if_10 qw iz_11 gσ_12 vσ_12 lsσ_12 kdσ_12 k2σ_12 z7σ_12 iz_13 if_14 c_15 iz_16 gσ_17 vσ_17 k2σ_17 z7σ_17 c_44 ahpσ_46 bhpσ_46 chpσ_46 dhpσ_46 c_47 gσ_48; omega) | omega)
          have kqσ_48 : ∀ j, 654 ≤ j → m_c X σ_48 a j = m_c X σ a j := fun j h => by rw [mcσ_48 j (by first | (clear hn ho h0 gσ wσ k2σ hh if_1 if_2 iz_3 bhpσ_5 chpσ_5 j29 kc_8 gσ_7 wσ_7 kdσ_7 k2σ_7 z7σ_7 iz_9 if_10 qw iz_11 gσ_12 vσ_12 lsσ_12 kdσ_12 k2σ_12 z7σ_12 iz_13 if_14 c_15 iz_16 gσ_17 vσ_17 k2σ_17 z7σ_17 c_44 ahpσ_46 bhpσ_46 chpσ_46 dhpσ_46 c_47 gσ_48 vσ_48; omega) | omega), if_neg (by first | (clear hn ho h0 gσ wσ k2σ hh if_1 if_2 iz_3 bhpσ_5 chpσ_5 j29 kc_8 gσ_7 wσ_7 kdσ_7 k2σ_7 z7σ_7 iz_9 if_10 qw iz_11 gσ_12 vσ_12 lsσ_12 kdσ_12 k2σ_12 z7σ_12 iz_13 if_14 c_15 iz_16 gσ_17 vσ_17 k2σ_17 z7σ_17 c_44 ahpσ_46 bhpσ_46 chpσ_46 dhpσ_46 c_47 gσ_48 vσ_48; omega) | omega)] <;> exact kqσ_17 j h
          have kdσ_48 : m_KD 40 X σ σ_48 := kdσ_17.ar hσ_48 (q_tk (k' := 34) hI ha rfl (Nat.succ_ne_zero _)) (by decide) (by decide)
          have k2σ_48 : m_c X σ_48 a 0 = m_c X σ a 0 ∧ m_c X σ_48 a 2 = m_c X σ a 2 := ⟨by rw [mcσ_48 0 (by decide), if_neg (by first | (clear hn ho h0 gσ wσ k2σ hh if_1 if_2 iz_3 bhpσ_5 chpσ_5 j29 kc_8 gσ_7 wσ_7 kdσ_7 k2σ_7 z7σ_7 iz_9 if_10 qw iz_11 gσ_12 vσ_12 lsσ_12 kdσ_12 k2σ_12 z7σ_12 iz_13 if_14 c_15 iz_16 gσ_17 vσ_17 k2σ_17 z7σ_17 c_44 ahpσ_46 bhpσ_46 chpσ_46 dhpσ_46 c_47 gσ_48 vσ_48 kdσ_48; omega) | omega)] <;> exact k2σ_17.1, by rw [mcσ_48 2 (by decide), if_neg (by first | (clear hn ho h0 gσ wσ k2σ hh if_1 if_2 iz_3 bhpσ_5 chpσ_5 j29 kc_8 gσ_7 wσ_7 kdσ_7 k2σ_7 z7σ_7 iz_9 if_10 qw iz_11 gσ_12 vσ_12 lsσ_12 kdσ_12 k2σ_12 z7σ_12 iz_13 if_14 c_15 iz_16 gσ_17 vσ_17 k2σ_17 z7σ_17 c_44 ahpσ_46 bhpσ_46 chpσ_46 dhpσ_46 c_47 gσ_48 vσ_48 kdσ_48; omega) | omega)] <;> exact k2σ_17.2⟩
          have z7σ_48 : m_c X σ_48 a 7 = 0 := (by rw [mcσ_48 7 (by decide), if_neg (by first | (clear hn ho h0 gσ wσ k2σ hh if_1 if_2 iz_3 bhpσ_5 chpσ_5 j29 kc_8 gσ_7 wσ_7 kdσ_7 k2σ_7 z7σ_7 iz_9 if_10 qw iz_11 gσ_12 vσ_12 lsσ_12 kdσ_12 k2σ_12 z7σ_12 iz_13 if_14 c_15 iz_16 gσ_17 vσ_17 k2σ_17 z7σ_17 c_44 ahpσ_46 bhpσ_46 chpσ_46 dhpσ_46 c_47 gσ_48 vσ_48 kdσ_48 k2σ_48; omega) | omega)]; exact z7σ_17)
          exact J_92_18 σ_48 _ _ ls fr_σ_48 gσ_48 vσ_48 kqσ_48 kdσ_48 k2σ_48 z7σ_48 hF hI (lv_sub hl [1, 2, 3, 0] rfl)
    · skip
      replace hF := q_ifn hF c_15
      refine lv_iconst (v := 0) hx hb dX12_doubts_65 zki_0 ?_
      refine lv_goto (tgt := 70) hx hb dX12_doubts_66 (by decide) ?_
      refine lv_iadd hx hb dX12_doubts_70 ?_
      refine lv_topi (fun z_49 ez_49 => ?_)
      replace hF := q_letX hF ez_49
      have iz_49 := q_addI (A := (m_c X σ_12 a (28 + (m_c X σ a 6)))) (B := 0) ez_49 if_14 (by decide) (by first | (clear hn ho h0 gσ wσ k2σ hh if_1 if_2 iz_3 bhpσ_5 chpσ_5 j29 kc_8 gσ_7 wσ_7 kdσ_7 k2σ_7 z7σ_7 iz_9 if_10 qw iz_11 gσ_12 vσ_12 kdσ_12 k2σ_12 z7σ_12 iz_13 c_15; omega) | omega) (by first | (clear hn ho h0 gσ wσ k2σ hh if_1 if_2 iz_3 bhpσ_5 chpσ_5 j29 kc_8 gσ_7 wσ_7 kdσ_7 k2σ_7 z7σ_7 iz_9 if_10 qw iz_11 gσ_12 vσ_12 kdσ_12 k2σ_12 z7σ_12 iz_13 c_15; omega) | omega)
      refine q_iastN E hI (q_tk (k' := 34) hI ha rfl (Nat.succ_ne_zero _)) ⟨by decide, rfl⟩ (by first | (clear hn h0 gσ wσ k2σ if_2 iz_3 bhpσ_5 chpσ_5 j29 kc_8 gσ_7 wσ_7 kdσ_7 k2σ_7 z7σ_7 if_10 qw iz_11 gσ_12 vσ_12 lsσ_12 kdσ_12 k2σ_12 z7σ_12 if_14 c_15 iz_49; omega) | omega) (by rw [q_lnk (v := 4650) hI (q_tk (k' := 34) hI ha rfl (Nat.succ_ne_zero _)) rfl (by decide)]; omega) (show 1 < 2 by decide) (q_inU rfl) dX12_doubts_71 (fun H locs σ_50 hσ_50 hI => ?_)
      replace hF := q_letX hF hσ_50
      have fr_σ_50 := fr_σ_12.si hσ_50 (q_tk (k' := 34) hI ha rfl (Nat.succ_ne_zero _)) rfl
      have mcσ_50 := m_wr (v := z_49) (A := (28 + (m_c X σ a 6))) hσ_50 iz_13 (by first | (clear hn h0 gσ wσ k2σ if_2 iz_3 bhpσ_5 chpσ_5 j29 kc_8 gσ_7 wσ_7 kdσ_7 k2σ_7 z7σ_7 if_10 qw iz_11 gσ_12 vσ_12 lsσ_12 kdσ_12 k2σ_12 z7σ_12 if_14 c_15 iz_49; omega) | omega)
      have gσ_50 : m_G (m_c X σ_50 a) := m_G.wr gσ_12 mcσ_50 (by first | (clear hn h0 gσ wσ k2σ if_2 iz_3 bhpσ_5 chpσ_5 j29 kc_8 gσ_7 wσ_7 kdσ_7 z7σ_7 if_10 qw iz_11 gσ_12 vσ_12 kdσ_12 c_15; omega) | omega)
      have vσ_50 : m_W (m_c X σ_50 a) (n + 1) := vσ_12.lied mcσ_50 (by first | (clear hn h0 gσ wσ k2σ if_2 iz_3 bhpσ_5 chpσ_5 j29 kc_8 gσ_7 wσ_7 kdσ_7 z7σ_7 if_10 qw iz_11 gσ_12 vσ_12 lsσ_12 kdσ_12 z7σ_12 if_14 c_15 iz_49 gσ_50; omega) | omega) (by first | (clear hn ho h0 gσ wσ k2σ hh if_1 if_2 iz_3 bhpσ_5 chpσ_5 j29 kc_8 gσ_7 wσ_7 kdσ_7 k2σ_7 z7σ_7 iz_9 if_10 qw iz_11 gσ_12 vσ_12 kdσ_12 k2σ_12 z7σ_12 iz_13 c_15 gσ_50; omega) | omega)
      have kqσ_50 : ∀ j, 654 ≤ j → m_c X σ_50 a j = m_c X σ a j := fun j h => by rw [mcσ_50 j (by first | (clear hn ho h0 gσ wσ k2σ hh if_1 if_2 iz_3 bhpσ_5 chpσ_5 j29 kc_8 gσ_7 wσ_7 kdσ_7 k2σ_7 z7σ_7 iz_9 if_10 qw iz_11 gσ_12 vσ_12 lsσ_12 kdσ_12 k2σ_12 z7σ_12 iz_13 if_14 c_15 iz_49 gσ_50 vσ_50; omega) | omega), if_neg (by first | (clear hn ho h0 gσ wσ k2σ if_2 iz_3 bhpσ_5 chpσ_5 j29 kc_8 gσ_7 wσ_7 kdσ_7 z7σ_7 if_10 qw iz_11 gσ_12 vσ_12 lsσ_12 kdσ_12 z7σ_12 if_14 c_15 iz_49 gσ_50 vσ_50; omega) | omega)] <;> exact kqσ_12 j h
      have kdσ_50 : m_KD 40 X σ σ_50 := kdσ_12.ar hσ_50 (q_tk (k' := 34) hI ha rfl (Nat.succ_ne_zero _)) (by decide) (by decide)
      have k2σ_50 : m_c X σ_50 a 0 = m_c X σ a 0 ∧ m_c X σ_50 a 2 = m_c X σ a 2 := ⟨by rw [mcσ_50 0 (by decide), if_neg (by first | (clear hn h0 gσ wσ k2σ if_2 iz_3 bhpσ_5 chpσ_5 j29 kc_8 gσ_7 wσ_7 kdσ_7 k2σ_7 z7σ_7 if_10 qw iz_11 gσ_12 vσ_12 lsσ_12 kdσ_12 k2σ_12 z7σ_12 if_14 c_15 iz_49 gσ_50 vσ_50 kdσ_50; omega) | omega)] <;> exact k2σ_12.1, by rw [mcσ_50 2 (by decide), if_neg (by first | (clear hn h0 gσ wσ k2σ if_2 iz_3 bhpσ_5 chpσ_5 j29 kc_8 gσ_7 wσ_7 kdσ_7 k2σ_7 z7σ_7 if_10 qw iz_11 gσ_12 vσ_12 lsσ_12 kdσ_12 k2σ_12 z7σ_12 if_14 c_15 iz_49 gσ_50 vσ_50 kdσ_50; omega) | omega)] <;> exact k2σ_12.2⟩
      have z7σ_50 : m_c X σ_50 a 7 = 0 := (by rw [mcσ_50 7 (by decide), if_neg (by first | (clear hn h0 gσ wσ k2σ if_2 iz_3 bhpσ_5 chpσ_5 j29 kc_8 gσ_7 wσ_7 kdσ_7 k2σ_7 z7σ_7 if_10 qw iz_11 gσ_12 vσ_12 lsσ_12 kdσ_12 k2σ_12 z7σ_12 if_14 c_15 iz_49 gσ_50 vσ_50 kdσ_50 k2σ_50; omega) | omega)]; exact z7σ_12)
      refine lv_iload_n hx hb dX12_doubts_72 rfl (lv_at hl 0 rfl) ?_
      have J_92_51 : ∀  (σ_51 : ST) (H : Heap) (locs : List Loc) (ls : Array Slot), (q_ow [(34, 99)] [] X σ σ_51) → (m_G (m_c X σ_51 a)) → (m_W (m_c X σ_51 a) (n + 1)) → (∀ j, 654 ≤ j → m_c X σ_51 a j = m_c X σ a j) → (m_KD 40 X σ σ_51) → (m_c X σ_51 a 0 = m_c X σ a 0 ∧ m_c X σ_51 a 2 = m_c X σ a 2) → (m_c X σ_51 a 7 = 0) → (F_X12_doubts_J92_5 X x_6 a f_1 v1 σ_51 = out) → q_I X 1 σ s.heap locs σ_51 H → lv_has ls 4 [(0, .ref a), (1, .int v1), (2, .int f_1), (3, .int x_6)] → W p l e (q_rm 2 45) s m ([.ref a, .int v1] : List Value).toArray below meth c H locs 0 0 (MQ below (q_Qi X 1 σ (fun (r : Int32) (σ' : ST) => (m_G (m_c X σ' a)) ∧ (m_W (m_c X σ' a) (n + 1)) ∧ (∀ j, 654 ≤ j → m_c X σ' a j = m_c X σ a j) ∧ (m_KD 40 X σ σ') ∧ (r, σ') = F_X12_doubts X σ a v1 ∧ q_ow [(34, 99)] [] X σ σ')) ([.ref a, .int v1] : List Value).toArray s 0 0 (q_reg X)) (F0 m 92 ls []) := by
        clear hF
        intro σ_51 H locs ls fr_σ_51 gσ_51 vσ_51 kqσ_51 kdσ_51 k2σ_51 z7σ_51 hF hI hl
        try clear fr_σ_50; try clear mcσ_50; try clear kqσ_50; try clear kdσ_50
        unfold F_X12_doubts_J92_5 at hF
        refine lv_aload_n hx hb dX12_doubts_92 rfl (lv_at hl 0 rfl) ?_
        refine lv_iload_n hx hb dX12_doubts_93 rfl (lv_at hl 3 rfl) ?_
        refine q_if_eq (A := x_6.toInt) E rfl (tgt := 101) dX12_doubts_94 (by decide) (fun c_52 => ?_) (fun c_52 => ?_)
        · skip
          replace hF := q_ifp hF c_52
          refine lv_iload_n hx hb dX12_doubts_101 rfl (lv_at hl 2 rfl) ?_
          have J_105_53 : ∀  (σ_53 : ST) (H : Heap) (locs : List Loc) (ls : Array Slot), (q_ow [(34, 99)] [] X σ σ_53) → (m_G (m_c X σ_53 a)) → (m_W (m_c X σ_53 a) (n + 1)) → (∀ j, 654 ≤ j → m_c X σ_53 a j = m_c X σ a j) → (m_KD 40 X σ σ_53) → (m_c X σ_53 a 0 = m_c X σ a 0 ∧ m_c X σ_53 a 2 = m_c X σ a 2) → (m_c X σ_53 a 7 = 0) → (F_X12_doubts_J105_6 X a x_6 v1 f_1 σ_53 = out) → q_I X 1 σ s.heap locs σ_53 H → lv_has ls 4 [(0, .ref a), (1, .int v1), (2, .int f_1), (3, .int x_6)] → W p l e (q_rm 2 45) s m ([.ref a, .int v1] : List Value).toArray below meth c H locs 0 0 (MQ below (q_Qi X 1 σ (fun (r : Int32) (σ' : ST) => (m_G (m_c X σ' a)) ∧ (m_W (m_c X σ' a) (n + 1)) ∧ (∀ j, 654 ≤ j → m_c X σ' a j = m_c X σ a j) ∧ (m_KD 40 X σ σ') ∧ (r, σ') = F_X12_doubts X σ a v1 ∧ q_ow [(34, 99)] [] X σ σ')) ([.ref a, .int v1] : List Value).toArray s 0 0 (q_reg X)) (F0 m 105 ls []) := by
            clear hF
            intro σ_53 H locs ls fr_σ_53 gσ_53 vσ_53 kqσ_53 kdσ_53 k2σ_53 z7σ_53 hF hI hl
            unfold F_X12_doubts_J105_6 at hF
            refine lv_aload_n hx hb dX12_doubts_105 rfl (lv_at hl 0 rfl) ?_
            refine gs_X12_35_12 E hI ha dX12_doubts_106 ?_
            refine lv_iconst (v := 5) hx hb dX12_doubts_109 zki_5 ?_
            refine lv_aload_n hx hb dX12_doubts_110 rfl (lv_at hl 0 rfl) ?_
            refine lv_iconst (v := 0) hx hb dX12_doubts_111 zki_0 ?_
            have kc_54 : (0 : Int32).toInt = 0 := zt_0
            refine q_ci (q_rV11_1 (rest := [.int 5, .ref (q_rf X a 20)]) E (hml.trans hl.1.symm) hI (c_X12_nextKind l X σ_53 a (0 : Int32) ha gσ_53) kv_X12_315 ha ⟨Nat.le_of_ble_eq_true rfl, Nat.le_of_ble_eq_true rfl⟩ (Nat.le_of_ble_eq_true rfl) dX12_doubts_112) hI (Nat.le_of_ble_eq_true rfl) (fun r_55 σ_56 H locs hpσ_56 hkσ_56 hI => ?_)
            have ahpσ_56 := hpσ_56.1
            have bhpσ_56 := hpσ_56.2.1
            have chpσ_56 := hpσ_56.2.2
            clear hpσ_56
            replace hI := q_Irw ahpσ_56 hI
            replace hF := q_letX hF chpσ_56
            refine q_iastN E hI (q_tk (k' := 34) hI ha rfl (Nat.succ_ne_zero _)) ⟨by decide, rfl⟩ (by decide) (by rw [q_lnk (v := 4650) hI (q_tk (k' := 34) hI ha rfl (Nat.succ_ne_zero _)) rfl (by decide)]; decide) (show 1 < 2 by decide) (q_inU rfl) dX12_doubts_115 (fun H locs σ_57 hσ_57 hI => ?_)
            replace hF := q_letX hF hσ_57
            have fr_σ_57 := fr_σ_53.si hσ_57 (q_tk (k' := 34) hI ha rfl (Nat.succ_ne_zero _)) rfl
            have mcσ_57 := m_wr (v := r_55) (A := 5) hσ_57 (by decide) (by decide)
            have gσ_57 : m_G (m_c X σ_57 a) := m_G.wr gσ_53 mcσ_57 (by first | (clear hn ho h0 gσ wσ k2σ hh if_1 if_2 iz_3 bhpσ_5 chpσ_5 j29 kc_8 gσ_7 wσ_7 kdσ_7 k2σ_7 z7σ_7 iz_9 if_10 qw iz_11 gσ_12 vσ_12 lsσ_12 kdσ_12 k2σ_12 z7σ_12 iz_13 if_14 c_15 iz_49 gσ_50 vσ_50 k2σ_50 z7σ_50 gσ_51 vσ_51 kdσ_51 k2σ_51 z7σ_51 c_52 gσ_53 vσ_53 kdσ_53 k2σ_53 kc_54 ahpσ_56 chpσ_56; omega) | omega)
            have vσ_57 : m_W (m_c X σ_57 a) (n + 1) := m_W.wr vσ_53 mcσ_57 (by first | (clear hn ho h0 gσ wσ k2σ hh if_1 if_2 iz_3 bhpσ_5 chpσ_5 j29 kc_8 gσ_7 wσ_7 kdσ_7 k2σ_7 z7σ_7 iz_9 if_10 qw iz_11 gσ_12 vσ_12 lsσ_12 kdσ_12 k2σ_12 z7σ_12 iz_13 if_14 c_15 iz_49 gσ_50 vσ_50 k2σ_50 z7σ_50 gσ_51 vσ_51 kdσ_51 k2σ_51 z7σ_51 c_52 gσ_53 vσ_53 kdσ_53 k2σ_53 z7σ_53 kc_54 ahpσ_56 bhpσ_56 chpσ_56 gσ_57; omega) | omega)
            have kqσ_57 : ∀ j, 654 ≤ j → m_c X σ_57 a j = m_c X σ a j := fun j h => by rw [mcσ_57 j (by first | (clear hn ho h0 gσ wσ k2σ hh if_1 if_2 iz_3 bhpσ_5 chpσ_5 j29 kc_8 gσ_7 wσ_7 kdσ_7 k2σ_7 z7σ_7 iz_9 if_10 qw iz_11 gσ_12 vσ_12 lsσ_12 kdσ_12 k2σ_12 z7σ_12 iz_13 if_14 c_15 iz_49 gσ_50 vσ_50 k2σ_50 z7σ_50 gσ_51 vσ_51 kdσ_51 k2σ_51 z7σ_51 c_52 gσ_53 vσ_53 kdσ_53 k2σ_53 z7σ_53 kc_54 ahpσ_56 bhpσ_56 chpσ_56 gσ_57 vσ_57; omega) | omega), if_neg (by first | (clear hn ho h0 gσ wσ k2σ hh if_1 if_2 iz_3 bhpσ_5 chpσ_5 j29 kc_8 gσ_7 wσ_7 kdσ_7 k2σ_7 z7σ_7 iz_9 if_10 qw iz_11 gσ_12 vσ_12 lsσ_12 kdσ_12 k2σ_12 z7σ_12 iz_13 if_14 c_15 iz_49 gσ_50 vσ_50 k2σ_50 z7σ_50 gσ_51 vσ_51 kdσ_51 k2σ_51 z7σ_51 c_52 gσ_53 vσ_53 kdσ_53 k2σ_53 z7σ_53 kc_54 ahpσ_56 bhpσ_56 chpσ_56 gσ_57 vσ_57; omega) | omega)] <;> exact kqσ_53 j h
            have kdσ_57 : m_KD 40 X σ σ_57 := kdσ_53.ar hσ_57 (q_tk (k' := 34) hI ha rfl (Nat.succ_ne_zero _)) (by decide) (by decide)
            have k2σ_57 : m_c X σ_57 a 0 = m_c X σ a 0 ∧ m_c X σ_57 a 2 = m_c X σ a 2 := ⟨by rw [mcσ_57 0 (by decide), if_neg (by first | (clear hn ho h0 gσ wσ k2σ hh if_1 if_2 iz_3 bhpσ_5 chpσ_5 j29 kc_8 gσ_7 wσ_7 kdσ_7 k2σ_7 z7σ_7 iz_9 if_10 qw iz_11 gσ_12 vσ_12 lsσ_12 kdσ_12 k2σ_12 z7σ_12 iz_13 if_14 c_15 iz_49 gσ_50 vσ_50 k2σ_50 z7σ_50 gσ_51 vσ_51 kdσ_51 k2σ_51 z7σ_51 c_52 gσ_53 vσ_53 kdσ_53 k2σ_53 z7σ_53 kc_54 ahpσ_56 bhpσ_56 chpσ_56 gσ_57 vσ_57 kdσ_57; omega) | omega)] <;> exact k2σ_53.1, by rw [mcσ_57 2 (by decide), if_neg (by first | (clear hn ho h0 gσ wσ k2σ hh if_1 if_2 iz_3 bhpσ_5 chpσ_5 j29 kc_8 gσ_7 wσ_7 kdσ_7 k2σ_7 z7σ_7 iz_9 if_10 qw iz_11 gσ_12 vσ_12 lsσ_12 kdσ_12 k2σ_12 z7σ_12 iz_13 if_14 c_15 iz_49 gσ_50 vσ_50 k2σ_50 z7σ_50 gσ_51 vσ_51 kdσ_51 k2σ_51 z7σ_51 c_52 gσ_53 vσ_53 kdσ_53 k2σ_53 z7σ_53 kc_54 ahpσ_56 bhpσ_56 chpσ_56 gσ_57 vσ_57 kdσ_57; omega) | omega)] <;> exact k2σ_53.2⟩
            have z7σ_57 : m_c X σ_57 a 7 = 0 := (by rw [mcσ_57 7 (by decide), if_neg (by first | (clear hn ho h0 gσ wσ k2σ hh if_1 if_2 iz_3 bhpσ_5 chpσ_5 j29 kc_8 gσ_7 wσ_7 kdσ_7 k2σ_7 z7σ_7 iz_9 if_10 qw iz_11 gσ_12 vσ_12 lsσ_12 kdσ_12 k2σ_12 z7σ_12 iz_13 if_14 c_15 iz_49 gσ_50 vσ_50 k2σ_50 z7σ_50 gσ_51 vσ_51 kdσ_51 k2σ_51 z7σ_51 c_52 gσ_53 vσ_53 kdσ_53 k2σ_53 z7σ_53 kc_54 ahpσ_56 bhpσ_56 chpσ_56 gσ_57 vσ_57 kdσ_57 k2σ_57; omega) | omega)]; exact z7σ_53)
            refine lv_aload_n hx hb dX12_doubts_116 rfl (lv_at hl 0 rfl) ?_
            refine gs_X12_35_12 E hI ha dX12_doubts_117 ?_
            refine lv_bipush (v := 6) hx hb dX12_doubts_120 zkb_6 ?_
            refine lv_iload_n hx hb dX12_doubts_122 rfl (lv_at hl 3 rfl) ?_
            refine q_if_eq (A := x_6.toInt) E rfl (tgt := 130) dX12_doubts_123 (by decide) (fun c_58 => ?_) (fun c_58 => ?_)
            · skip
              replace hF := q_ifp hF c_58
              refine lv_iload_n hx hb dX12_doubts_130 rfl (lv_at hl 1 rfl) ?_
              refine q_iastN E hI (q_tk (k' := 34) hI ha rfl (Nat.succ_ne_zero _)) ⟨by decide, rfl⟩ (by decide) (by rw [q_lnk (v := 4650) hI (q_tk (k' := 34) hI ha rfl (Nat.succ_ne_zero _)) rfl (by decide)]; decide) (show 1 < 2 by decide) (q_inU rfl) dX12_doubts_131 (fun H locs σ_59 hσ_59 hI => ?_)
              replace hF := q_letX hF hσ_59
              have fr_σ_59 := fr_σ_57.si hσ_59 (q_tk (k' := 34) hI ha rfl (Nat.succ_ne_zero _)) rfl
              have mcσ_59 := m_wr (v := v1) (A := 6) hσ_59 (by decide) (by decide)
              have gσ_59 : m_G (m_c X σ_59 a) := m_G.wr gσ_57 mcσ_59 (by first | (clear hn ho h0 gσ wσ k2σ hh if_1 if_2 iz_3 bhpσ_5 chpσ_5 j29 kc_8 gσ_7 wσ_7 kdσ_7 z7σ_7 iz_9 if_10 qw iz_11 gσ_12 vσ_12 lsσ_12 kdσ_12 z7σ_12 iz_13 if_14 c_15 iz_49 gσ_50 vσ_50 z7σ_50 gσ_51 vσ_51 kdσ_51 z7σ_51 c_52 gσ_53 vσ_53 kdσ_53 z7σ_53 kc_54 ahpσ_56 bhpσ_56 chpσ_56 gσ_57 vσ_57 kdσ_57 c_58; omega) | omega)
              have vσ_59 : m_W (m_c X σ_59 a) (n + 1) := m_W.wr vσ_57 mcσ_59 (by first | (clear hn ho h0 gσ wσ k2σ hh if_1 if_2 iz_3 bhpσ_5 chpσ_5 j29 kc_8 gσ_7 wσ_7 kdσ_7 k2σ_7 z7σ_7 iz_9 if_10 qw iz_11 gσ_12 vσ_12 lsσ_12 kdσ_12 k2σ_12 z7σ_12 iz_13 if_14 c_15 iz_49 gσ_50 vσ_50 k2σ_50 z7σ_50 gσ_51 vσ_51 kdσ_51 k2σ_51 z7σ_51 c_52 gσ_53 vσ_53 kdσ_53 k2σ_53 z7σ_53 kc_54 ahpσ_56 bhpσ_56 chpσ_56 gσ_57 vσ_57 kdσ_57 k2σ_57 z7σ_57 c_58 gσ_59; omega) | omega)
              have kqσ_59 : ∀ j, 654 ≤ j → m_c X σ_59 a j = m_c X σ a j := fun j h => by rw [mcσ_59 j (by first | (clear hn ho h0 gσ wσ k2σ hh if_1 if_2 iz_3 bhpσ_5 chpσ_5 j29 kc_8 gσ_7 wσ_7 kdσ_7 k2σ_7 z7σ_7 iz_9 if_10 qw iz_11 gσ_12 vσ_12 lsσ_12 kdσ_12 k2σ_12 z7σ_12 iz_13 if_14 c_15 iz_49 gσ_50 vσ_50 k2σ_50 z7σ_50 gσ_51 vσ_51 kdσ_51 k2σ_51 z7σ_51 c_52 gσ_53 vσ_53 kdσ_53 k2σ_53 z7σ_53 kc_54 ahpσ_56 bhpσ_56 chpσ_56 gσ_57 vσ_57 kdσ_57 k2σ_57 z7σ_57 c_58 gσ_59 vσ_59; omega) | omega), if_neg (by first | (clear hn ho h0 gσ wσ k2σ hh if_1 if_2 iz_3 bhpσ_5 chpσ_5 j29 kc_8 gσ_7 wσ_7 kdσ_7 k2σ_7 z7σ_7 iz_9 if_10 qw iz_11 gσ_12 vσ_12 lsσ_12 kdσ_12 k2σ_12 z7σ_12 iz_13 if_14 c_15 iz_49 gσ_50 vσ_50 k2σ_50 z7σ_50 gσ_51 vσ_51 kdσ_51 k2σ_51 z7σ_51 c_52 gσ_53 vσ_53 kdσ_53 k2σ_53 z7σ_53 kc_54 ahpσ_56 bhpσ_56 chpσ_56 gσ_57 vσ_57 kdσ_57 k2σ_57 z7σ_57 c_58 gσ_59 vσ_59; omega) | omega)] <;> exact kqσ_57 j h
              have kdσ_59 : m_KD 40 X σ σ_59 := kdσ_57.ar hσ_59 (q_tk (k' := 34) hI ha rfl (Nat.succ_ne_zero _)) (by decide) (by decide)
              have k2σ_59 : m_c X σ_59 a 0 = m_c X σ a 0 ∧ m_c X σ_59 a 2 = m_c X σ a 2 := ⟨by rw [mcσ_59 0 (by decide), if_neg (by first | (clear hn ho h0 gσ wσ k2σ hh if_1 if_2 iz_3 bhpσ_5 chpσ_5 j29 kc_8 gσ_7 wσ_7 kdσ_7 k2σ_7 z7σ_7 iz_9 if_10 qw iz_11 gσ_12 vσ_12 lsσ_12 kdσ_12 k2σ_12 z7σ_12 iz_13 if_14 c_15 iz_49 gσ_50 vσ_50 k2σ_50 z7σ_50 gσ_51 vσ_51 kdσ_51 k2σ_51 z7σ_51 c_52 gσ_53 vσ_53 kdσ_53 k2σ_53 z7σ_53 kc_54 ahpσ_56 bhpσ_56 chpσ_56 gσ_57 vσ_57 kdσ_57 k2σ_57 z7σ_57 c_58 gσ_59 vσ_59 kdσ_59; omega) | omega)] <;> exact k2σ_57.1, by rw [mcσ_59 2 (by decide), if_neg (by first | (clear hn ho h0 gσ wσ k2σ hh if_1 if_2 iz_3 bhpσ_5 chpσ_5 j29 kc_8 gσ_7 wσ_7 kdσ_7 k2σ_7 z7σ_7 iz_9 if_10 qw iz_11 gσ_12 vσ_12 lsσ_12 kdσ_12 k2σ_12 z7σ_12 iz_13 if_14 c_15 iz_49 gσ_50 vσ_50 k2σ_50 z7σ_50 gσ_51 vσ_51 kdσ_51 k2σ_51 z7σ_51 c_52 gσ_53 vσ_53 kdσ_53 k2σ_53 z7σ_53 kc_54 ahpσ_56 bhpσ_56 chpσ_56 gσ_57 vσ_57 kdσ_57 k2σ_57 z7σ_57 c_58 gσ_59 vσ_59 kdσ_59; omega) | omega)] <;> exact k2σ_57.2⟩
              have z7σ_59 : m_c X σ_59 a 7 = 0 := (by rw [mcσ_59 7 (by decide), if_neg (by first | (clear hn ho h0 gσ wσ k2σ hh if_1 if_2 iz_3 bhpσ_5 chpσ_5 j29 kc_8 gσ_7 wσ_7 kdσ_7 k2σ_7 z7σ_7 iz_9 if_10 qw iz_11 gσ_12 vσ_12 lsσ_12 kdσ_12 k2σ_12 z7σ_12 iz_13 if_14 c_15 iz_49 gσ_50 vσ_50 k2σ_50 z7σ_50 gσ_51 vσ_51 kdσ_51 k2σ_51 z7σ_51 c_52 gσ_53 vσ_53 kdσ_53 k2σ_53 z7σ_53 kc_54 ahpσ_56 bhpσ_56 chpσ_56 gσ_57 vσ_57 kdσ_57 k2σ_57 z7σ_57 c_58 gσ_59 vσ_59 kdσ_59 k2σ_59; omega) | omega)]; exact z7σ_57)
              refine lv_iload_n hx hb dX12_doubts_132 rfl (lv_at hl 3 rfl) ?_
              refine q_if_eq (A := x_6.toInt) E rfl (tgt := 140) dX12_doubts_133 (by decide) (fun c_60 => ?_) (fun c_60 => ?_)
              · skip
                replace hF := q_ifp hF c_60
                refine lv_iload_n hx hb dX12_doubts_140 rfl (lv_at hl 2 rfl) ?_
                exact q_reti E hr hlk hI ⟨gσ_59, vσ_59, kqσ_59, kdσ_59, (hF.trans hout), fr_σ_59⟩ dX12_doubts_141
              · skip
                replace hF := q_ifn hF c_60
                refine lv_iload_n hx hb dX12_doubts_136 rfl (lv_at hl 1 rfl) ?_
                refine lv_goto (tgt := 141) hx hb dX12_doubts_137 (by decide) ?_
                exact q_reti E hr hlk hI ⟨gσ_59, vσ_59, kqσ_59, kdσ_59, (hF.trans hout), fr_σ_59⟩ dX12_doubts_141
            · skip
              replace hF := q_ifn hF c_58
              refine lv_iload_n hx hb dX12_doubts_126 rfl (lv_at hl 2 rfl) ?_
              refine lv_goto (tgt := 131) hx hb dX12_doubts_127 (by decide) ?_
              refine q_iastN E hI (q_tk (k' := 34) hI ha rfl (Nat.succ_ne_zero _)) ⟨by decide, rfl⟩ (by decide) (by rw [q_lnk (v := 4650) hI (q_tk (k' := 34) hI ha rfl (Nat.succ_ne_zero _)) rfl (by decide)]; decide) (show 1 < 2 by decide) (q_inU rfl) dX12_doubts_131 (fun H locs σ_61 hσ_61 hI => ?_)
              replace hF := q_letX hF hσ_61
              have fr_σ_61 := fr_σ_57.si hσ_61 (q_tk (k' := 34) hI ha rfl (Nat.succ_ne_zero _)) rfl
              have mcσ_61 := m_wr (v := f_1) (A := 6) hσ_61 (by decide) (by decide)
              have gσ_61 : m_G (m_c X σ_61 a) := m_G.wr gσ_57 mcσ_61 (by first | (clear hn h0 gσ wσ k2σ if_2 iz_3 bhpσ_5 chpσ_5 j29 kc_8 gσ_7 wσ_7 kdσ_7 z7σ_7 if_10 qw iz_11 gσ_12 vσ_12 lsσ_12 kdσ_12 z7σ_12 if_14 c_15 iz_49 gσ_50 vσ_50 z7σ_50 gσ_51 vσ_51 kdσ_51 z7σ_51 c_52 gσ_53 vσ_53 kdσ_53 z7σ_53 kc_54 ahpσ_56 bhpσ_56 chpσ_56 gσ_57 vσ_57 kdσ_57 c_58; omega) | omega)
              have vσ_61 : m_W (m_c X σ_61 a) (n + 1) := m_W.wr vσ_57 mcσ_61 (by first | (clear hn ho h0 gσ wσ k2σ hh if_1 if_2 iz_3 bhpσ_5 chpσ_5 j29 kc_8 gσ_7 wσ_7 kdσ_7 k2σ_7 z7σ_7 iz_9 if_10 qw iz_11 gσ_12 vσ_12 lsσ_12 kdσ_12 k2σ_12 z7σ_12 iz_13 if_14 c_15 iz_49 gσ_50 vσ_50 k2σ_50 z7σ_50 gσ_51 vσ_51 kdσ_51 k2σ_51 z7σ_51 c_52 gσ_53 vσ_53 kdσ_53 k2σ_53 z7σ_53 kc_54 ahpσ_56 bhpσ_56 chpσ_56 gσ_57 vσ_57 kdσ_57 k2σ_57 z7σ_57 c_58 gσ_61; omega) | omega)
              have kqσ_61 : ∀ j, 654 ≤ j → m_c X σ_61 a j = m_c X σ a j := fun j h => by rw [mcσ_61 j (by first | (clear hn ho h0 gσ wσ k2σ hh if_1 if_2 iz_3 bhpσ_5 chpσ_5 j29 kc_8 gσ_7 wσ_7 kdσ_7 k2σ_7 z7σ_7 iz_9 if_10 qw iz_11 gσ_12 vσ_12 lsσ_12 kdσ_12 k2σ_12 z7σ_12 iz_13 if_14 c_15 iz_49 gσ_50 vσ_50 k2σ_50 z7σ_50 gσ_51 vσ_51 kdσ_51 k2σ_51 z7σ_51 c_52 gσ_53 vσ_53 kdσ_53 k2σ_53 z7σ_53 kc_54 ahpσ_56 bhpσ_56 chpσ_56 gσ_57 vσ_57 kdσ_57 k2σ_57 z7σ_57 c_58 gσ_61 vσ_61; omega) | omega), if_neg (by first | (clear hn ho h0 gσ wσ k2σ hh if_1 if_2 iz_3 bhpσ_5 chpσ_5 j29 kc_8 gσ_7 wσ_7 kdσ_7 k2σ_7 z7σ_7 iz_9 if_10 qw iz_11 gσ_12 vσ_12 lsσ_12 kdσ_12 k2σ_12 z7σ_12 iz_13 if_14 c_15 iz_49 gσ_50 vσ_50 k2σ_50 z7σ_50 gσ_51 vσ_51 kdσ_51 k2σ_51 z7σ_51 c_52 gσ_53 vσ_53 kdσ_53 k2σ_53 z7σ_53 kc_54 ahpσ_56 bhpσ_56 chpσ_56 gσ_57 vσ_57 kdσ_57 k2σ_57 z7σ_57 c_58 gσ_61 vσ_61; omega) | omega)] <;> exact kqσ_57 j h
              have kdσ_61 : m_KD 40 X σ σ_61 := kdσ_57.ar hσ_61 (q_tk (k' := 34) hI ha rfl (Nat.succ_ne_zero _)) (by decide) (by decide)
              have k2σ_61 : m_c X σ_61 a 0 = m_c X σ a 0 ∧ m_c X σ_61 a 2 = m_c X σ a 2 := ⟨by rw [mcσ_61 0 (by decide), if_neg (by first | (clear hn ho h0 gσ wσ k2σ hh if_1 if_2 iz_3 bhpσ_5 chpσ_5 j29 kc_8 gσ_7 wσ_7 kdσ_7 k2σ_7 z7σ_7 iz_9 if_10 qw iz_11 gσ_12 vσ_12 lsσ_12 kdσ_12 k2σ_12 z7σ_12 iz_13 if_14 c_15 iz_49 gσ_50 vσ_50 k2σ_50 z7σ_50 gσ_51 vσ_51 kdσ_51 k2σ_51 z7σ_51 c_52 gσ_53 vσ_53 kdσ_53 k2σ_53 z7σ_53 kc_54 ahpσ_56 bhpσ_56 chpσ_56 gσ_57 vσ_57 kdσ_57 k2σ_57 z7σ_57 c_58 gσ_61 vσ_61 kdσ_61; omega) | omega)] <;> exact k2σ_57.1, by rw [mcσ_61 2 (by decide), if_neg (by first | (clear hn ho h0 gσ wσ k2σ hh if_1 if_2 iz_3 bhpσ_5 chpσ_5 j29 kc_8 gσ_7 wσ_7 kdσ_7 k2σ_7 z7σ_7 iz_9 if_10 qw iz_11 gσ_12 vσ_12 lsσ_12 kdσ_12 k2σ_12 z7σ_12 iz_13 if_14 c_15 iz_49 gσ_50 vσ_50 k2σ_50 z7σ_50 gσ_51 vσ_51 kdσ_51 k2σ_51 z7σ_51 c_52 gσ_53 vσ_53 kdσ_53 k2σ_53 z7σ_53 kc_54 ahpσ_56 bhpσ_56 chpσ_56 gσ_57 vσ_57 kdσ_57 k2σ_57 z7σ_57 c_58 gσ_61 vσ_61 kdσ_61; omega) | omega)] <;> exact k2σ_57.2⟩
              have z7σ_61 : m_c X σ_61 a 7 = 0 := (by rw [mcσ_61 7 (by decide), if_neg (by first | (clear hn ho h0 gσ wσ k2σ hh if_1 if_2 iz_3 bhpσ_5 chpσ_5 j29 kc_8 gσ_7 wσ_7 kdσ_7 k2σ_7 z7σ_7 iz_9 if_10 qw iz_11 gσ_12 vσ_12 lsσ_12 kdσ_12 k2σ_12 z7σ_12 iz_13 if_14 c_15 iz_49 gσ_50 vσ_50 k2σ_50 z7σ_50 gσ_51 vσ_51 kdσ_51 k2σ_51 z7σ_51 c_52 gσ_53 vσ_53 kdσ_53 k2σ_53 z7σ_53 kc_54 ahpσ_56 bhpσ_56 chpσ_56 gσ_57 vσ_57 kdσ_57 k2σ_57 z7σ_57 c_58 gσ_61 vσ_61 kdσ_61 k2σ_61; omega) | omega)]; exact z7σ_57)
              refine lv_iload_n hx hb dX12_doubts_132 rfl (lv_at hl 3 rfl) ?_
              refine q_if_eq (A := x_6.toInt) E rfl (tgt := 140) dX12_doubts_133 (by decide) (fun c_62 => ?_) (fun c_62 => ?_)
              · skip
                replace hF := q_ifp hF c_62
                refine lv_iload_n hx hb dX12_doubts_140 rfl (lv_at hl 2 rfl) ?_
                exact q_reti E hr hlk hI ⟨gσ_61, vσ_61, kqσ_61, kdσ_61, (hF.trans hout), fr_σ_61⟩ dX12_doubts_141
              · skip
                replace hF := q_ifn hF c_62
                refine lv_iload_n hx hb dX12_doubts_136 rfl (lv_at hl 1 rfl) ?_
                refine lv_goto (tgt := 141) hx hb dX12_doubts_137 (by decide) ?_
                exact q_reti E hr hlk hI ⟨gσ_61, vσ_61, kqσ_61, kdσ_61, (hF.trans hout), fr_σ_61⟩ dX12_doubts_141
          refine q_cv (q_rV11_1 (rest := []) E (hml.trans hl.1.symm) hI (c_X12_takes l X σ_51 a f_1 ha gσ_51 (by first | (clear hn h0 gσ wσ k2σ if_2 iz_3 bhpσ_5 chpσ_5 j29 kc_8 gσ_7 wσ_7 kdσ_7 z7σ_7 if_10 qw iz_11 gσ_12 vσ_12 lsσ_12 kdσ_12 z7σ_12 if_14 c_15 iz_49 gσ_50 vσ_50 z7σ_50 gσ_51 vσ_51 kdσ_51 z7σ_51 c_52; omega) | omega) (by omega)) kv_X12_325 ha ⟨Nat.le_of_ble_eq_true rfl, Nat.le_of_ble_eq_true rfl⟩ (Nat.le_of_ble_eq_true rfl) dX12_doubts_102) hI (Nat.le_of_ble_eq_true rfl) (fun σ_64 H locs hpσ_64 hkσ_64 hI => ?_)
          have ahpσ_64 := hpσ_64.1
          have bhpσ_64 := hpσ_64.2.1
          have chpσ_64 := hpσ_64.2.2.1
          have dhpσ_64 := hpσ_64.2.2.2.1
          have ehpσ_64 := hpσ_64.2.2.2.2
          clear hpσ_64
          have fr_σ_64 := fr_σ_51.call ehpσ_64 rfl rfl
          replace hF := q_letX hF dhpσ_64
          have gσ_64 : m_G (m_c X σ_64 a) := ahpσ_64
          have vσ_64 : m_W (m_c X σ_64 a) (n + 1) := m_W.ext (fun j h0 h1 => bhpσ_64 j (by first | (clear hn ho h0 gσ wσ k2σ hh if_1 if_2 iz_3 bhpσ_5 chpσ_5 j29 kc_8 gσ_7 wσ_7 kdσ_7 k2σ_7 z7σ_7 iz_9 if_10 qw iz_11 gσ_12 vσ_12 lsσ_12 kdσ_12 k2σ_12 z7σ_12 iz_13 if_14 c_15 iz_49 gσ_50 vσ_50 k2σ_50 z7σ_50 gσ_51 vσ_51 kdσ_51 k2σ_51 z7σ_51 c_52 ahpσ_64 bhpσ_64 chpσ_64 dhpσ_64 ehpσ_64 gσ_64; omega) | omega) (by first | (clear hn ho h0 gσ wσ k2σ hh if_1 if_2 iz_3 bhpσ_5 chpσ_5 j29 kc_8 gσ_7 wσ_7 kdσ_7 k2σ_7 z7σ_7 iz_9 if_10 qw iz_11 gσ_12 vσ_12 lsσ_12 kdσ_12 k2σ_12 z7σ_12 iz_13 if_14 c_15 iz_49 gσ_50 vσ_50 k2σ_50 z7σ_50 gσ_51 vσ_51 kdσ_51 k2σ_51 z7σ_51 c_52 ahpσ_64 bhpσ_64 chpσ_64 dhpσ_64 ehpσ_64 gσ_64; omega) | omega)) vσ_51
          have kqσ_64 : ∀ j, 654 ≤ j → m_c X σ_64 a j = m_c X σ a j := (fun j h => (bhpσ_64 j (by first | (clear hn ho h0 gσ wσ k2σ hh if_1 if_2 iz_3 bhpσ_5 chpσ_5 j29 kc_8 gσ_7 wσ_7 kdσ_7 k2σ_7 z7σ_7 iz_9 if_10 qw iz_11 gσ_12 vσ_12 lsσ_12 kdσ_12 k2σ_12 z7σ_12 iz_13 if_14 c_15 iz_49 gσ_50 vσ_50 k2σ_50 z7σ_50 gσ_51 vσ_51 kdσ_51 k2σ_51 z7σ_51 c_52 ahpσ_64 bhpσ_64 chpσ_64 dhpσ_64 ehpσ_64 gσ_64 vσ_64; omega) | omega) (by first | (clear hn ho h0 gσ wσ k2σ hh if_1 if_2 iz_3 bhpσ_5 chpσ_5 j29 kc_8 gσ_7 wσ_7 kdσ_7 k2σ_7 z7σ_7 iz_9 if_10 qw iz_11 gσ_12 vσ_12 lsσ_12 kdσ_12 k2σ_12 z7σ_12 iz_13 if_14 c_15 iz_49 gσ_50 vσ_50 k2σ_50 z7σ_50 gσ_51 vσ_51 kdσ_51 k2σ_51 z7σ_51 c_52 ahpσ_64 bhpσ_64 chpσ_64 dhpσ_64 ehpσ_64 gσ_64 vσ_64; omega) | omega)).trans (kqσ_51 j h))
          have kdσ_64 : m_KD 40 X σ σ_64 := kdσ_51.tr chpσ_64
          have k2σ_64 : m_c X σ_64 a 0 = m_c X σ a 0 ∧ m_c X σ_64 a 2 = m_c X σ a 2 := ⟨(bhpσ_64 0 (by decide) (by decide)).trans k2σ_51.1, (bhpσ_64 2 (by decide) (by decide)).trans k2σ_51.2⟩
          have z7σ_64 : m_c X σ_64 a 7 = 0 := (bhpσ_64 7 (by decide) (by decide)).trans z7σ_51
          exact J_105_53 σ_64 _ _ ls fr_σ_64 gσ_64 vσ_64 kqσ_64 kdσ_64 k2σ_64 z7σ_64 hF hI (lv_sub hl [0, 1, 2, 3] rfl)
        · skip
          replace hF := q_ifn hF c_52
          refine lv_iload_n hx hb dX12_doubts_97 rfl (lv_at hl 1 rfl) ?_
          refine lv_goto (tgt := 102) hx hb dX12_doubts_98 (by decide) ?_
          have J_105_65 : ∀  (σ_65 : ST) (H : Heap) (locs : List Loc) (ls : Array Slot), (q_ow [(34, 99)] [] X σ σ_65) → (m_G (m_c X σ_65 a)) → (m_W (m_c X σ_65 a) (n + 1)) → (∀ j, 654 ≤ j → m_c X σ_65 a j = m_c X σ a j) → (m_KD 40 X σ σ_65) → (m_c X σ_65 a 0 = m_c X σ a 0 ∧ m_c X σ_65 a 2 = m_c X σ a 2) → (m_c X σ_65 a 7 = 0) → (F_X12_doubts_J105_7 X a x_6 v1 f_1 σ_65 = out) → q_I X 1 σ s.heap locs σ_65 H → lv_has ls 4 [(0, .ref a), (1, .int v1), (2, .int f_1), (3, .int x_6)] → W p l e (q_rm 2 45) s m ([.ref a, .int v1] : List Value).toArray below meth c H locs 0 0 (MQ below (q_Qi X 1 σ (fun (r : Int32) (σ' : ST) => (m_G (m_c X σ' a)) ∧ (m_W (m_c X σ' a) (n + 1)) ∧ (∀ j, 654 ≤ j → m_c X σ' a j = m_c X σ a j) ∧ (m_KD 40 X σ σ') ∧ (r, σ') = F_X12_doubts X σ a v1 ∧ q_ow [(34, 99)] [] X σ σ')) ([.ref a, .int v1] : List Value).toArray s 0 0 (q_reg X)) (F0 m 105 ls []) := by
            clear hF
            intro σ_65 H locs ls fr_σ_65 gσ_65 vσ_65 kqσ_65 kdσ_65 k2σ_65 z7σ_65 hF hI hl
            unfold F_X12_doubts_J105_7 at hF
            refine lv_aload_n hx hb dX12_doubts_105 rfl (lv_at hl 0 rfl) ?_
            refine gs_X12_35_12 E hI ha dX12_doubts_106 ?_
            refine lv_iconst (v := 5) hx hb dX12_doubts_109 zki_5 ?_
            refine lv_aload_n hx hb dX12_doubts_110 rfl (lv_at hl 0 rfl) ?_
            refine lv_iconst (v := 0) hx hb dX12_doubts_111 zki_0 ?_
            have kc_66 : (0 : Int32).toInt = 0 := zt_0
            refine q_ci (q_rV11_1 (rest := [.int 5, .ref (q_rf X a 20)]) E (hml.trans hl.1.symm) hI (c_X12_nextKind l X σ_65 a (0 : Int32) ha gσ_65) kv_X12_315 ha ⟨Nat.le_of_ble_eq_true rfl, Nat.le_of_ble_eq_true rfl⟩ (Nat.le_of_ble_eq_true rfl) dX12_doubts_112) hI (Nat.le_of_ble_eq_true rfl) (fun r_67 σ_68 H locs hpσ_68 hkσ_68 hI => ?_)
            have ahpσ_68 := hpσ_68.1
            have bhpσ_68 := hpσ_68.2.1
            have chpσ_68 := hpσ_68.2.2
            clear hpσ_68
            replace hI := q_Irw ahpσ_68 hI
            replace hF := q_letX hF chpσ_68
            refine q_iastN E hI (q_tk (k' := 34) hI ha rfl (Nat.succ_ne_zero _)) ⟨by decide, rfl⟩ (by decide) (by rw [q_lnk (v := 4650) hI (q_tk (k' := 34) hI ha rfl (Nat.succ_ne_zero _)) rfl (by decide)]; decide) (show 1 < 2 by decide) (q_inU rfl) dX12_doubts_115 (fun H locs σ_69 hσ_69 hI => ?_)
            replace hF := q_letX hF hσ_69
            have fr_σ_69 := fr_σ_65.si hσ_69 (q_tk (k' := 34) hI ha rfl (Nat.succ_ne_zero _)) rfl
            have mcσ_69 := m_wr (v := r_67) (A := 5) hσ_69 (by decide) (by decide)
            have gσ_69 : m_G (m_c X σ_69 a) := m_G.wr gσ_65 mcσ_69 (by first | (clear hn ho h0 gσ wσ k2σ hh if_1 if_2 iz_3 bhpσ_5 chpσ_5 j29 kc_8 gσ_7 wσ_7 kdσ_7 k2σ_7 z7σ_7 iz_9 if_10 qw iz_11 gσ_12 vσ_12 lsσ_12 kdσ_12 k2σ_12 z7σ_12 iz_13 if_14 c_15 iz_49 gσ_50 vσ_50 k2σ_50 z7σ_50 gσ_51 vσ_51 kdσ_51 k2σ_51 z7σ_51 c_52 gσ_65 vσ_65 kdσ_65 k2σ_65 kc_66 ahpσ_68 chpσ_68; omega) | omega)
            have vσ_69 : m_W (m_c X σ_69 a) (n + 1) := m_W.wr vσ_65 mcσ_69 (by first | (clear hn ho h0 gσ wσ k2σ hh if_1 if_2 iz_3 bhpσ_5 chpσ_5 j29 kc_8 gσ_7 wσ_7 kdσ_7 k2σ_7 z7σ_7 iz_9 if_10 qw iz_11 gσ_12 vσ_12 lsσ_12 kdσ_12 k2σ_12 z7σ_12 iz_13 if_14 c_15 iz_49 gσ_50 vσ_50 k2σ_50 z7σ_50 gσ_51 vσ_51 kdσ_51 k2σ_51 z7σ_51 c_52 gσ_65 vσ_65 kdσ_65 k2σ_65 z7σ_65 kc_66 ahpσ_68 bhpσ_68 chpσ_68 gσ_69; omega) | omega)
            have kqσ_69 : ∀ j, 654 ≤ j → m_c X σ_69 a j = m_c X σ a j := fun j h => by rw [mcσ_69 j (by first | (clear hn ho h0 gσ wσ k2σ hh if_1 if_2 iz_3 bhpσ_5 chpσ_5 j29 kc_8 gσ_7 wσ_7 kdσ_7 k2σ_7 z7σ_7 iz_9 if_10 qw iz_11 gσ_12 vσ_12 lsσ_12 kdσ_12 k2σ_12 z7σ_12 iz_13 if_14 c_15 iz_49 gσ_50 vσ_50 k2σ_50 z7σ_50 gσ_51 vσ_51 kdσ_51 k2σ_51 z7σ_51 c_52 gσ_65 vσ_65 kdσ_65 k2σ_65 z7σ_65 kc_66 ahpσ_68 bhpσ_68 chpσ_68 gσ_69 vσ_69; omega) | omega), if_neg (by first | (clear hn ho h0 gσ wσ k2σ hh if_1 if_2 iz_3 bhpσ_5 chpσ_5 j29 kc_8 gσ_7 wσ_7 kdσ_7 k2σ_7 z7σ_7 iz_9 if_10 qw iz_11 gσ_12 vσ_12 lsσ_12 kdσ_12 k2σ_12 z7σ_12 iz_13 if_14 c_15 iz_49 gσ_50 vσ_50 k2σ_50 z7σ_50 gσ_51 vσ_51 kdσ_51 k2σ_51 z7σ_51 c_52 gσ_65 vσ_65 kdσ_65 k2σ_65 z7σ_65 kc_66 ahpσ_68 bhpσ_68 chpσ_68 gσ_69 vσ_69; omega) | omega)] <;> exact kqσ_65 j h
            have kdσ_69 : m_KD 40 X σ σ_69 := kdσ_65.ar hσ_69 (q_tk (k' := 34) hI ha rfl (Nat.succ_ne_zero _)) (by decide) (by decide)
            have k2σ_69 : m_c X σ_69 a 0 = m_c X σ a 0 ∧ m_c X σ_69 a 2 = m_c X σ a 2 := ⟨by rw [mcσ_69 0 (by decide), if_neg (by first | (clear hn ho h0 gσ wσ k2σ hh if_1 if_2 iz_3 bhpσ_5 chpσ_5 j29 kc_8 gσ_7 wσ_7 kdσ_7 k2σ_7 z7σ_7 iz_9 if_10 qw iz_11 gσ_12 vσ_12 lsσ_12 kdσ_12 k2σ_12 z7σ_12 iz_13 if_14 c_15 iz_49 gσ_50 vσ_50 k2σ_50 z7σ_50 gσ_51 vσ_51 kdσ_51 k2σ_51 z7σ_51 c_52 gσ_65 vσ_65 kdσ_65 k2σ_65 z7σ_65 kc_66 ahpσ_68 bhpσ_68 chpσ_68 gσ_69 vσ_69 kdσ_69; omega) | omega)] <;> exact k2σ_65.1, by rw [mcσ_69 2 (by decide), if_neg (by first | (clear hn ho h0 gσ wσ k2σ hh if_1 if_2 iz_3 bhpσ_5 chpσ_5 j29 kc_8 gσ_7 wσ_7 kdσ_7 k2σ_7 z7σ_7 iz_9 if_10 qw iz_11 gσ_12 vσ_12 lsσ_12 kdσ_12 k2σ_12 z7σ_12 iz_13 if_14 c_15 iz_49 gσ_50 vσ_50 k2σ_50 z7σ_50 gσ_51 vσ_51 kdσ_51 k2σ_51 z7σ_51 c_52 gσ_65 vσ_65 kdσ_65 k2σ_65 z7σ_65 kc_66 ahpσ_68 bhpσ_68 chpσ_68 gσ_69 vσ_69 kdσ_69; omega) | omega)] <;> exact k2σ_65.2⟩
            have z7σ_69 : m_c X σ_69 a 7 = 0 := (by rw [mcσ_69 7 (by decide), if_neg (by first | (clear hn ho h0 gσ wσ k2σ hh if_1 if_2 iz_3 bhpσ_5 chpσ_5 j29 kc_8 gσ_7 wσ_7 kdσ_7 k2σ_7 z7σ_7 iz_9 if_10 qw iz_11 gσ_12 vσ_12 lsσ_12 kdσ_12 k2σ_12 z7σ_12 iz_13 if_14 c_15 iz_49 gσ_50 vσ_50 k2σ_50 z7σ_50 gσ_51 vσ_51 kdσ_51 k2σ_51 z7σ_51 c_52 gσ_65 vσ_65 kdσ_65 k2σ_65 z7σ_65 kc_66 ahpσ_68 bhpσ_68 chpσ_68 gσ_69 vσ_69 kdσ_69 k2σ_69; omega) | omega)]; exact z7σ_65)
            refine lv_aload_n hx hb dX12_doubts_116 rfl (lv_at hl 0 rfl) ?_
            refine gs_X12_35_12 E hI ha dX12_doubts_117 ?_
            refine lv_bipush (v := 6) hx hb dX12_doubts_120 zkb_6 ?_
            refine lv_iload_n hx hb dX12_doubts_122 rfl (lv_at hl 3 rfl) ?_
            refine q_if_eq (A := x_6.toInt) E rfl (tgt := 130) dX12_doubts_123 (by decide) (fun c_70 => ?_) (fun c_70 => ?_)
            · skip
              replace hF := q_ifp hF c_70
              refine lv_iload_n hx hb dX12_doubts_130 rfl (lv_at hl 1 rfl) ?_
              refine q_iastN E hI (q_tk (k' := 34) hI ha rfl (Nat.succ_ne_zero _)) ⟨by decide, rfl⟩ (by decide) (by rw [q_lnk (v := 4650) hI (q_tk (k' := 34) hI ha rfl (Nat.succ_ne_zero _)) rfl (by decide)]; decide) (show 1 < 2 by decide) (q_inU rfl) dX12_doubts_131 (fun H locs σ_71 hσ_71 hI => ?_)
              replace hF := q_letX hF hσ_71
              have fr_σ_71 := fr_σ_69.si hσ_71 (q_tk (k' := 34) hI ha rfl (Nat.succ_ne_zero _)) rfl
              have mcσ_71 := m_wr (v := v1) (A := 6) hσ_71 (by decide) (by decide)
              have gσ_71 : m_G (m_c X σ_71 a) := m_G.wr gσ_69 mcσ_71 (by first | (clear hn ho h0 gσ wσ k2σ hh if_1 if_2 iz_3 bhpσ_5 chpσ_5 j29 kc_8 gσ_7 wσ_7 kdσ_7 z7σ_7 iz_9 if_10 qw iz_11 gσ_12 vσ_12 lsσ_12 kdσ_12 z7σ_12 iz_13 if_14 c_15 iz_49 gσ_50 vσ_50 z7σ_50 gσ_51 vσ_51 kdσ_51 z7σ_51 c_52 gσ_65 vσ_65 kdσ_65 z7σ_65 kc_66 ahpσ_68 bhpσ_68 chpσ_68 gσ_69 vσ_69 kdσ_69 c_70; omega) | omega)
              have vσ_71 : m_W (m_c X σ_71 a) (n + 1) := m_W.wr vσ_69 mcσ_71 (by first | (clear hn ho h0 gσ wσ k2σ hh if_1 if_2 iz_3 bhpσ_5 chpσ_5 j29 kc_8 gσ_7 wσ_7 kdσ_7 k2σ_7 z7σ_7 iz_9 if_10 qw iz_11 gσ_12 vσ_12 lsσ_12 kdσ_12 k2σ_12 z7σ_12 iz_13 if_14 c_15 iz_49 gσ_50 vσ_50 k2σ_50 z7σ_50 gσ_51 vσ_51 kdσ_51 k2σ_51 z7σ_51 c_52 gσ_65 vσ_65 kdσ_65 k2σ_65 z7σ_65 kc_66 ahpσ_68 bhpσ_68 chpσ_68 gσ_69 vσ_69 kdσ_69 k2σ_69 z7σ_69 c_70 gσ_71; omega) | omega)
              have kqσ_71 : ∀ j, 654 ≤ j → m_c X σ_71 a j = m_c X σ a j := fun j h => by rw [mcσ_71 j (by first | (clear hn ho h0 gσ wσ k2σ hh if_1 if_2 iz_3 bhpσ_5 chpσ_5 j29 kc_8 gσ_7 wσ_7 kdσ_7 k2σ_7 z7σ_7 iz_9 if_10 qw iz_11 gσ_12 vσ_12 lsσ_12 kdσ_12 k2σ_12 z7σ_12 iz_13 if_14 c_15 iz_49 gσ_50 vσ_50 k2σ_50 z7σ_50 gσ_51 vσ_51 kdσ_51 k2σ_51 z7σ_51 c_52 gσ_65 vσ_65 kdσ_65 k2σ_65 z7σ_65 kc_66 ahpσ_68 bhpσ_68 chpσ_68 gσ_69 vσ_69 kdσ_69 k2σ_69 z7σ_69 c_70 gσ_71 vσ_71; omega) | omega), if_neg (by first | (clear hn ho h0 gσ wσ k2σ hh if_1 if_2 iz_3 bhpσ_5 chpσ_5 j29 kc_8 gσ_7 wσ_7 kdσ_7 k2σ_7 z7σ_7 iz_9 if_10 qw iz_11 gσ_12 vσ_12 lsσ_12 kdσ_12 k2σ_12 z7σ_12 iz_13 if_14 c_15 iz_49 gσ_50 vσ_50 k2σ_50 z7σ_50 gσ_51 vσ_51 kdσ_51 k2σ_51 z7σ_51 c_52 gσ_65 vσ_65 kdσ_65 k2σ_65 z7σ_65 kc_66 ahpσ_68 bhpσ_68 chpσ_68 gσ_69 vσ_69 kdσ_69 k2σ_69 z7σ_69 c_70 gσ_71 vσ_71; omega) | omega)] <;> exact kqσ_69 j h
              have kdσ_71 : m_KD 40 X σ σ_71 := kdσ_69.ar hσ_71 (q_tk (k' := 34) hI ha rfl (Nat.succ_ne_zero _)) (by decide) (by decide)
              have k2σ_71 : m_c X σ_71 a 0 = m_c X σ a 0 ∧ m_c X σ_71 a 2 = m_c X σ a 2 := ⟨by rw [mcσ_71 0 (by decide), if_neg (by first | (clear hn ho h0 gσ wσ k2σ hh if_1 if_2 iz_3 bhpσ_5 chpσ_5 j29 kc_8 gσ_7 wσ_7 kdσ_7 k2σ_7 z7σ_7 iz_9 if_10 qw iz_11 gσ_12 vσ_12 lsσ_12 kdσ_12 k2σ_12 z7σ_12 iz_13 if_14 c_15 iz_49 gσ_50 vσ_50 k2σ_50 z7σ_50 gσ_51 vσ_51 kdσ_51 k2σ_51 z7σ_51 c_52 gσ_65 vσ_65 kdσ_65 k2σ_65 z7σ_65 kc_66 ahpσ_68 bhpσ_68 chpσ_68 gσ_69 vσ_69 kdσ_69 k2σ_69 z7σ_69 c_70 gσ_71 vσ_71 kdσ_71; omega) | omega)] <;> exact k2σ_69.1, by rw [mcσ_71 2 (by decide), if_neg (by first | (clear hn ho h0 gσ wσ k2σ hh if_1 if_2 iz_3 bhpσ_5 chpσ_5 j29 kc_8 gσ_7 wσ_7 kdσ_7 k2σ_7 z7σ_7 iz_9 if_10 qw iz_11 gσ_12 vσ_12 lsσ_12 kdσ_12 k2σ_12 z7σ_12 iz_13 if_14 c_15 iz_49 gσ_50 vσ_50 k2σ_50 z7σ_50 gσ_51 vσ_51 kdσ_51 k2σ_51 z7σ_51 c_52 gσ_65 vσ_65 kdσ_65 k2σ_65 z7σ_65 kc_66 ahpσ_68 bhpσ_68 chpσ_68 gσ_69 vσ_69 kdσ_69 k2σ_69 z7σ_69 c_70 gσ_71 vσ_71 kdσ_71; omega) | omega)] <;> exact k2σ_69.2⟩
              have z7σ_71 : m_c X σ_71 a 7 = 0 := (by rw [mcσ_71 7 (by decide), if_neg (by first | (clear hn ho h0 gσ wσ k2σ hh if_1 if_2 iz_3 bhpσ_5 chpσ_5 j29 kc_8 gσ_7 wσ_7 kdσ_7 k2σ_7 z7σ_7 iz_9 if_10 qw iz_11 gσ_12 vσ_12 lsσ_12 kdσ_12 k2σ_12 z7σ_12 iz_13 if_14 c_15 iz_49 gσ_50 vσ_50 k2σ_50 z7σ_50 gσ_51 vσ_51 kdσ_51 k2σ_51 z7σ_51 c_52 gσ_65 vσ_65 kdσ_65 k2σ_65 z7σ_65 kc_66 ahpσ_68 bhpσ_68 chpσ_68 gσ_69 vσ_69 kdσ_69 k2σ_69 z7σ_69 c_70 gσ_71 vσ_71 kdσ_71 k2σ_71; omega) | omega)]; exact z7σ_69)
              refine lv_iload_n hx hb dX12_doubts_132 rfl (lv_at hl 3 rfl) ?_
              refine q_if_eq (A := x_6.toInt) E rfl (tgt := 140) dX12_doubts_133 (by decide) (fun c_72 => ?_) (fun c_72 => ?_)
              · skip
                replace hF := q_ifp hF c_72
                refine lv_iload_n hx hb dX12_doubts_140 rfl (lv_at hl 2 rfl) ?_
                exact q_reti E hr hlk hI ⟨gσ_71, vσ_71, kqσ_71, kdσ_71, (hF.trans hout), fr_σ_71⟩ dX12_doubts_141
              · skip
                replace hF := q_ifn hF c_72
                refine lv_iload_n hx hb dX12_doubts_136 rfl (lv_at hl 1 rfl) ?_
                refine lv_goto (tgt := 141) hx hb dX12_doubts_137 (by decide) ?_
                exact q_reti E hr hlk hI ⟨gσ_71, vσ_71, kqσ_71, kdσ_71, (hF.trans hout), fr_σ_71⟩ dX12_doubts_141
            · skip
              replace hF := q_ifn hF c_70
              refine lv_iload_n hx hb dX12_doubts_126 rfl (lv_at hl 2 rfl) ?_
              refine lv_goto (tgt := 131) hx hb dX12_doubts_127 (by decide) ?_
              refine q_iastN E hI (q_tk (k' := 34) hI ha rfl (Nat.succ_ne_zero _)) ⟨by decide, rfl⟩ (by decide) (by rw [q_lnk (v := 4650) hI (q_tk (k' := 34) hI ha rfl (Nat.succ_ne_zero _)) rfl (by decide)]; decide) (show 1 < 2 by decide) (q_inU rfl) dX12_doubts_131 (fun H locs σ_73 hσ_73 hI => ?_)
              replace hF := q_letX hF hσ_73
              have fr_σ_73 := fr_σ_69.si hσ_73 (q_tk (k' := 34) hI ha rfl (Nat.succ_ne_zero _)) rfl
              have mcσ_73 := m_wr (v := f_1) (A := 6) hσ_73 (by decide) (by decide)
              have gσ_73 : m_G (m_c X σ_73 a) := m_G.wr gσ_69 mcσ_73 (by first | (clear hn h0 gσ wσ k2σ if_2 iz_3 bhpσ_5 chpσ_5 j29 kc_8 gσ_7 wσ_7 kdσ_7 z7σ_7 if_10 qw iz_11 gσ_12 vσ_12 lsσ_12 kdσ_12 z7σ_12 if_14 c_15 iz_49 gσ_50 vσ_50 z7σ_50 gσ_51 vσ_51 kdσ_51 z7σ_51 c_52 gσ_65 vσ_65 kdσ_65 z7σ_65 kc_66 ahpσ_68 bhpσ_68 chpσ_68 gσ_69 vσ_69 kdσ_69 c_70; omega) | omega)
              have vσ_73 : m_W (m_c X σ_73 a) (n + 1) := m_W.wr vσ_69 mcσ_73 (by first | (clear hn ho h0 gσ wσ k2σ hh if_1 if_2 iz_3 bhpσ_5 chpσ_5 j29 kc_8 gσ_7 wσ_7 kdσ_7 k2σ_7 z7σ_7 iz_9 if_10 qw iz_11 gσ_12 vσ_12 lsσ_12 kdσ_12 k2σ_12 z7σ_12 iz_13 if_14 c_15 iz_49 gσ_50 vσ_50 k2σ_50 z7σ_50 gσ_51 vσ_51 kdσ_51 k2σ_51 z7σ_51 c_52 gσ_65 vσ_65 kdσ_65 k2σ_65 z7σ_65 kc_66 ahpσ_68 bhpσ_68 chpσ_68 gσ_69 vσ_69 kdσ_69 k2σ_69 z7σ_69 c_70 gσ_73; omega) | omega)
              have kqσ_73 : ∀ j, 654 ≤ j → m_c X σ_73 a j = m_c X σ a j := fun j h => by rw [mcσ_73 j (by first | (clear hn ho h0 gσ wσ k2σ hh if_1 if_2 iz_3 bhpσ_5 chpσ_5 j29 kc_8 gσ_7 wσ_7 kdσ_7 k2σ_7 z7σ_7 iz_9 if_10 qw iz_11 gσ_12 vσ_12 lsσ_12 kdσ_12 k2σ_12 z7σ_12 iz_13 if_14 c_15 iz_49 gσ_50 vσ_50 k2σ_50 z7σ_50 gσ_51 vσ_51 kdσ_51 k2σ_51 z7σ_51 c_52 gσ_65 vσ_65 kdσ_65 k2σ_65 z7σ_65 kc_66 ahpσ_68 bhpσ_68 chpσ_68 gσ_69 vσ_69 kdσ_69 k2σ_69 z7σ_69 c_70 gσ_73 vσ_73; omega) | omega), if_neg (by first | (clear hn ho h0 gσ wσ k2σ hh if_1 if_2 iz_3 bhpσ_5 chpσ_5 j29 kc_8 gσ_7 wσ_7 kdσ_7 k2σ_7 z7σ_7 iz_9 if_10 qw iz_11 gσ_12 vσ_12 lsσ_12 kdσ_12 k2σ_12 z7σ_12 iz_13 if_14 c_15 iz_49 gσ_50 vσ_50 k2σ_50 z7σ_50 gσ_51 vσ_51 kdσ_51 k2σ_51 z7σ_51 c_52 gσ_65 vσ_65 kdσ_65 k2σ_65 z7σ_65 kc_66 ahpσ_68 bhpσ_68 chpσ_68 gσ_69 vσ_69 kdσ_69 k2σ_69 z7σ_69 c_70 gσ_73 vσ_73; omega) | omega)] <;> exact kqσ_69 j h
              have kdσ_73 : m_KD 40 X σ σ_73 := kdσ_69.ar hσ_73 (q_tk (k' := 34) hI ha rfl (Nat.succ_ne_zero _)) (by decide) (by decide)
              have k2σ_73 : m_c X σ_73 a 0 = m_c X σ a 0 ∧ m_c X σ_73 a 2 = m_c X σ a 2 := ⟨by rw [mcσ_73 0 (by decide), if_neg (by first | (clear hn ho h0 gσ wσ k2σ hh if_1 if_2 iz_3 bhpσ_5 chpσ_5 j29 kc_8 gσ_7 wσ_7 kdσ_7 k2σ_7 z7σ_7 iz_9 if_10 qw iz_11 gσ_12 vσ_12 lsσ_12 kdσ_12 k2σ_12 z7σ_12 iz_13 if_14 c_15 iz_49 gσ_50 vσ_50 k2σ_50 z7σ_50 gσ_51 vσ_51 kdσ_51 k2σ_51 z7σ_51 c_52 gσ_65 vσ_65 kdσ_65 k2σ_65 z7σ_65 kc_66 ahpσ_68 bhpσ_68 chpσ_68 gσ_69 vσ_69 kdσ_69 k2σ_69 z7σ_69 c_70 gσ_73 vσ_73 kdσ_73; omega) | omega)] <;> exact k2σ_69.1, by rw [mcσ_73 2 (by decide), if_neg (by first | (clear hn ho h0 gσ wσ k2σ hh if_1 if_2 iz_3 bhpσ_5 chpσ_5 j29 kc_8 gσ_7 wσ_7 kdσ_7 k2σ_7 z7σ_7 iz_9 if_10 qw iz_11 gσ_12 vσ_12 lsσ_12 kdσ_12 k2σ_12 z7σ_12 iz_13 if_14 c_15 iz_49 gσ_50 vσ_50 k2σ_50 z7σ_50 gσ_51 vσ_51 kdσ_51 k2σ_51 z7σ_51 c_52 gσ_65 vσ_65 kdσ_65 k2σ_65 z7σ_65 kc_66 ahpσ_68 bhpσ_68 chpσ_68 gσ_69 vσ_69 kdσ_69 k2σ_69 z7σ_69 c_70 gσ_73 vσ_73 kdσ_73; omega) | omega)] <;> exact k2σ_69.2⟩
              have z7σ_73 : m_c X σ_73 a 7 = 0 := (by rw [mcσ_73 7 (by decide), if_neg (by first | (clear hn ho h0 gσ wσ k2σ hh if_1 if_2 iz_3 bhpσ_5 chpσ_5 j29 kc_8 gσ_7 wσ_7 kdσ_7 k2σ_7 z7σ_7 iz_9 if_10 qw iz_11 gσ_12 vσ_12 lsσ_12 kdσ_12 k2σ_12 z7σ_12 iz_13 if_14 c_15 iz_49 gσ_50 vσ_50 k2σ_50 z7σ_50 gσ_51 vσ_51 kdσ_51 k2σ_51 z7σ_51 c_52 gσ_65 vσ_65 kdσ_65 k2σ_65 z7σ_65 kc_66 ahpσ_68 bhpσ_68 chpσ_68 gσ_69 vσ_69 kdσ_69 k2σ_69 z7σ_69 c_70 gσ_73 vσ_73 kdσ_73 k2σ_73; omega) | omega)]; exact z7σ_69)
              refine lv_iload_n hx hb dX12_doubts_132 rfl (lv_at hl 3 rfl) ?_
              refine q_if_eq (A := x_6.toInt) E rfl (tgt := 140) dX12_doubts_133 (by decide) (fun c_74 => ?_) (fun c_74 => ?_)
              · skip
                replace hF := q_ifp hF c_74
                refine lv_iload_n hx hb dX12_doubts_140 rfl (lv_at hl 2 rfl) ?_
                exact q_reti E hr hlk hI ⟨gσ_73, vσ_73, kqσ_73, kdσ_73, (hF.trans hout), fr_σ_73⟩ dX12_doubts_141
              · skip
                replace hF := q_ifn hF c_74
                refine lv_iload_n hx hb dX12_doubts_136 rfl (lv_at hl 1 rfl) ?_
                refine lv_goto (tgt := 141) hx hb dX12_doubts_137 (by decide) ?_
                exact q_reti E hr hlk hI ⟨gσ_73, vσ_73, kqσ_73, kdσ_73, (hF.trans hout), fr_σ_73⟩ dX12_doubts_141
          refine q_cv (q_rV11_1 (rest := []) E (hml.trans hl.1.symm) hI (c_X12_takes l X σ_51 a v1 ha gσ_51 (by first | (clear hn ho h0 gσ wσ k2σ if_1 if_2 iz_3 bhpσ_5 chpσ_5 j29 kc_8 gσ_7 wσ_7 kdσ_7 z7σ_7 iz_9 if_10 qw iz_11 gσ_12 vσ_12 lsσ_12 kdσ_12 z7σ_12 iz_13 if_14 c_15 iz_49 gσ_50 vσ_50 z7σ_50 gσ_51 vσ_51 kdσ_51 z7σ_51 c_52; omega) | omega) (by omega)) kv_X12_325 ha ⟨Nat.le_of_ble_eq_true rfl, Nat.le_of_ble_eq_true rfl⟩ (Nat.le_of_ble_eq_true rfl) dX12_doubts_102) hI (Nat.le_of_ble_eq_true rfl) (fun σ_76 H locs hpσ_76 hkσ_76 hI => ?_)
          have ahpσ_76 := hpσ_76.1
          have bhpσ_76 := hpσ_76.2.1
          have chpσ_76 := hpσ_76.2.2.1
          have dhpσ_76 := hpσ_76.2.2.2.1
          have ehpσ_76 := hpσ_76.2.2.2.2
          clear hpσ_76
          have fr_σ_76 := fr_σ_51.call ehpσ_76 rfl rfl
          replace hF := q_letX hF dhpσ_76
          have gσ_76 : m_G (m_c X σ_76 a) := ahpσ_76
          have vσ_76 : m_W (m_c X σ_76 a) (n + 1) := m_W.ext (fun j h0 h1 => bhpσ_76 j (by first | (clear hn ho h0 gσ wσ k2σ hh if_1 if_2 iz_3 bhpσ_5 chpσ_5 j29 kc_8 gσ_7 wσ_7 kdσ_7 k2σ_7 z7σ_7 iz_9 if_10 qw iz_11 gσ_12 vσ_12 lsσ_12 kdσ_12 k2σ_12 z7σ_12 iz_13 if_14 c_15 iz_49 gσ_50 vσ_50 k2σ_50 z7σ_50 gσ_51 vσ_51 kdσ_51 k2σ_51 z7σ_51 c_52 ahpσ_76 bhpσ_76 chpσ_76 dhpσ_76 ehpσ_76 gσ_76; omega) | omega) (by first | (clear hn ho h0 gσ wσ k2σ hh if_1 if_2 iz_3 bhpσ_5 chpσ_5 j29 kc_8 gσ_7 wσ_7 kdσ_7 k2σ_7 z7σ_7 iz_9 if_10 qw iz_11 gσ_12 vσ_12 lsσ_12 kdσ_12 k2σ_12 z7σ_12 iz_13 if_14 c_15 iz_49 gσ_50 vσ_50 k2σ_50 z7σ_50 gσ_51 vσ_51 kdσ_51 k2σ_51 z7σ_51 c_52 ahpσ_76 bhpσ_76 chpσ_76 dhpσ_76 ehpσ_76 gσ_76; omega) | omega)) vσ_51
          have kqσ_76 : ∀ j, 654 ≤ j → m_c X σ_76 a j = m_c X σ a j := (fun j h => (bhpσ_76 j (by first | (clear hn ho h0 gσ wσ k2σ hh if_1 if_2 iz_3 bhpσ_5 chpσ_5 j29 kc_8 gσ_7 wσ_7 kdσ_7 k2σ_7 z7σ_7 iz_9 if_10 qw iz_11 gσ_12 vσ_12 lsσ_12 kdσ_12 k2σ_12 z7σ_12 iz_13 if_14 c_15 iz_49 gσ_50 vσ_50 k2σ_50 z7σ_50 gσ_51 vσ_51 kdσ_51 k2σ_51 z7σ_51 c_52 ahpσ_76 bhpσ_76 chpσ_76 dhpσ_76 ehpσ_76 gσ_76 vσ_76; omega) | omega) (by first | (clear hn ho h0 gσ wσ k2σ hh if_1 if_2 iz_3 bhpσ_5 chpσ_5 j29 kc_8 gσ_7 wσ_7 kdσ_7 k2σ_7 z7σ_7 iz_9 if_10 qw iz_11 gσ_12 vσ_12 lsσ_12 kdσ_12 k2σ_12 z7σ_12 iz_13 if_14 c_15 iz_49 gσ_50 vσ_50 k2σ_50 z7σ_50 gσ_51 vσ_51 kdσ_51 k2σ_51 z7σ_51 c_52 ahpσ_76 bhpσ_76 chpσ_76 dhpσ_76 ehpσ_76 gσ_76 vσ_76; omega) | omega)).trans (kqσ_51 j h))
          have kdσ_76 : m_KD 40 X σ σ_76 := kdσ_51.tr chpσ_76
          have k2σ_76 : m_c X σ_76 a 0 = m_c X σ a 0 ∧ m_c X σ_76 a 2 = m_c X σ a 2 := ⟨(bhpσ_76 0 (by decide) (by decide)).trans k2σ_51.1, (bhpσ_76 2 (by decide) (by decide)).trans k2σ_51.2⟩
          have z7σ_76 : m_c X σ_76 a 7 = 0 := (bhpσ_76 7 (by decide) (by decide)).trans z7σ_51
          exact J_105_65 σ_76 _ _ ls fr_σ_76 gσ_76 vσ_76 kqσ_76 kdσ_76 k2σ_76 z7σ_76 hF hI (lv_sub hl [0, 1, 2, 3] rfl)
      refine q_if_eq (A := x_6.toInt) E rfl (tgt := 92) dX12_doubts_73 (by decide) (fun c_77 => ?_) (fun c_77 => ?_)
      · skip
        replace hF := q_ifp hF c_77
        exact J_92_51 σ_50 _ _ ls fr_σ_50 gσ_50 vσ_50 kqσ_50 kdσ_50 k2σ_50 z7σ_50 hF hI (lv_sub hl [1, 2, 3, 0] rfl)
      · skip
        replace hF := q_ifn hF c_77
        refine lv_aload_n hx hb dX12_doubts_76 rfl (lv_at hl 1 rfl) ?_
        refine lv_iload_n hx hb dX12_doubts_77 rfl (lv_at hl 3 rfl) ?_
        refine q_ci (q_rV11_1 (rest := []) E (hml.trans hl.1.symm) hI (c_X12_cardsOf l X σ_50 a f_1 ha gσ_50 (by first | (clear hn h0 gσ wσ k2σ if_2 iz_3 bhpσ_5 chpσ_5 j29 kc_8 gσ_7 wσ_7 kdσ_7 z7σ_7 if_10 qw iz_11 gσ_12 vσ_12 lsσ_12 kdσ_12 z7σ_12 if_14 c_15 iz_49 gσ_50 vσ_50 z7σ_50 c_77; omega) | omega)) kv_X12_293 ha ⟨Nat.le_of_ble_eq_true rfl, Nat.le_of_ble_eq_true rfl⟩ (Nat.le_of_ble_eq_true rfl) dX12_doubts_78) hI (Nat.le_of_ble_eq_true rfl) (fun r_78 σ_79 H locs hpσ_79 hkσ_79 hI => ?_)
        have ahpσ_79 := hpσ_79.1
        have bhpσ_79 := hpσ_79.2.1
        have chpσ_79 := hpσ_79.2.2.1
        have dhpσ_79 := hpσ_79.2.2.2
        clear hpσ_79
        replace hI := q_Irw ahpσ_79 hI
        replace hF := q_letX hF dhpσ_79
        refine q_if_ne (A := r_78.toInt) E rfl (tgt := 92) dX12_doubts_81 (by decide) (fun c_80 => ?_) (fun c_80 => ?_)
        · skip
          replace hF := q_ifn hF c_80
          exact J_92_51 σ_50 _ _ ls fr_σ_50 gσ_50 vσ_50 kqσ_50 kdσ_50 k2σ_50 z7σ_50 hF hI (lv_sub hl [1, 2, 3, 0] rfl)
        · skip
          replace hF := q_ifp hF c_80
          refine lv_aload_n hx hb dX12_doubts_84 rfl (lv_at hl 1 rfl) ?_
          refine gs_X12_35_12 E hI ha dX12_doubts_85 ?_
          refine lv_bipush (v := 8) hx hb dX12_doubts_88 zkb_8 ?_
          refine lv_iload_n hx hb dX12_doubts_90 rfl (lv_at hl 3 rfl) ?_
          refine q_iastN E hI (q_tk (k' := 34) hI ha rfl (Nat.succ_ne_zero _)) ⟨by decide, rfl⟩ (by decide) (by rw [q_lnk (v := 4650) hI (q_tk (k' := 34) hI ha rfl (Nat.succ_ne_zero _)) rfl (by decide)]; decide) (show 1 < 2 by decide) (q_inU rfl) dX12_doubts_91 (fun H locs σ_81 hσ_81 hI => ?_)
          replace hF := q_letX hF hσ_81
          have fr_σ_81 := fr_σ_50.si hσ_81 (q_tk (k' := 34) hI ha rfl (Nat.succ_ne_zero _)) rfl
          have mcσ_81 := m_wr (v := f_1) (A := 8) hσ_81 (by decide) (by decide)
          have gσ_81 : m_G (m_c X σ_81 a) := m_G.wr gσ_50 mcσ_81 (by first | (clear hn h0 gσ wσ k2σ if_2 iz_3 bhpσ_5 chpσ_5 j29 kc_8 gσ_7 wσ_7 kdσ_7 z7σ_7 if_10 qw iz_11 gσ_12 vσ_12 lsσ_12 kdσ_12 z7σ_12 if_14 c_15 iz_49 gσ_50 vσ_50 c_77 ahpσ_79 bhpσ_79 chpσ_79 dhpσ_79 c_80; omega) | omega)
          have vσ_81 : m_W (m_c X σ_81 a) (n + 1) := m_W.wr vσ_50 mcσ_81 (by first | (clear hn ho h0 gσ wσ k2σ hh if_1 if_2 iz_3 bhpσ_5 chpσ_5 j29 kc_8 gσ_7 wσ_7 kdσ_7 k2σ_7 z7σ_7 iz_9 if_10 qw iz_11 gσ_12 vσ_12 lsσ_12 kdσ_12 k2σ_12 z7σ_12 iz_13 if_14 c_15 iz_49 gσ_50 vσ_50 k2σ_50 z7σ_50 c_77 ahpσ_79 bhpσ_79 chpσ_79 dhpσ_79 c_80 gσ_81; omega) | omega)
          have kqσ_81 : ∀ j, 654 ≤ j → m_c X σ_81 a j = m_c X σ a j := fun j h => by rw [mcσ_81 j (by first | (clear hn ho h0 gσ wσ k2σ hh if_1 if_2 iz_3 bhpσ_5 chpσ_5 j29 kc_8 gσ_7 wσ_7 kdσ_7 k2σ_7 z7σ_7 iz_9 if_10 qw iz_11 gσ_12 vσ_12 lsσ_12 kdσ_12 k2σ_12 z7σ_12 iz_13 if_14 c_15 iz_49 gσ_50 vσ_50 k2σ_50 z7σ_50 c_77 ahpσ_79 bhpσ_79 chpσ_79 dhpσ_79 c_80 gσ_81 vσ_81; omega) | omega), if_neg (by first | (clear hn ho h0 gσ wσ k2σ hh if_1 if_2 iz_3 bhpσ_5 chpσ_5 j29 kc_8 gσ_7 wσ_7 kdσ_7 k2σ_7 z7σ_7 iz_9 if_10 qw iz_11 gσ_12 vσ_12 lsσ_12 kdσ_12 k2σ_12 z7σ_12 iz_13 if_14 c_15 iz_49 gσ_50 vσ_50 k2σ_50 z7σ_50 c_77 ahpσ_79 bhpσ_79 chpσ_79 dhpσ_79 c_80 gσ_81 vσ_81; omega) | omega)] <;> exact kqσ_50 j h
          have kdσ_81 : m_KD 40 X σ σ_81 := kdσ_50.ar hσ_81 (q_tk (k' := 34) hI ha rfl (Nat.succ_ne_zero _)) (by decide) (by decide)
          have k2σ_81 : m_c X σ_81 a 0 = m_c X σ a 0 ∧ m_c X σ_81 a 2 = m_c X σ a 2 := ⟨by rw [mcσ_81 0 (by decide), if_neg (by first | (clear hn ho h0 gσ wσ k2σ hh if_1 if_2 iz_3 bhpσ_5 chpσ_5 j29 kc_8 gσ_7 wσ_7 kdσ_7 k2σ_7 z7σ_7 iz_9 if_10 qw iz_11 gσ_12 vσ_12 lsσ_12 kdσ_12 k2σ_12 z7σ_12 iz_13 if_14 c_15 iz_49 gσ_50 vσ_50 k2σ_50 z7σ_50 c_77 ahpσ_79 bhpσ_79 chpσ_79 dhpσ_79 c_80 gσ_81 vσ_81 kdσ_81; omega) | omega)] <;> exact k2σ_50.1, by rw [mcσ_81 2 (by decide), if_neg (by first | (clear hn ho h0 gσ wσ k2σ hh if_1 if_2 iz_3 bhpσ_5 chpσ_5 j29 kc_8 gσ_7 wσ_7 kdσ_7 k2σ_7 z7σ_7 iz_9 if_10 qw iz_11 gσ_12 vσ_12 lsσ_12 kdσ_12 k2σ_12 z7σ_12 iz_13 if_14 c_15 iz_49 gσ_50 vσ_50 k2σ_50 z7σ_50 c_77 ahpσ_79 bhpσ_79 chpσ_79 dhpσ_79 c_80 gσ_81 vσ_81 kdσ_81; omega) | omega)] <;> exact k2σ_50.2⟩
          have z7σ_81 : m_c X σ_81 a 7 = 0 := (by rw [mcσ_81 7 (by decide), if_neg (by first | (clear hn ho h0 gσ wσ k2σ hh if_1 if_2 iz_3 bhpσ_5 chpσ_5 j29 kc_8 gσ_7 wσ_7 kdσ_7 k2σ_7 z7σ_7 iz_9 if_10 qw iz_11 gσ_12 vσ_12 lsσ_12 kdσ_12 k2σ_12 z7σ_12 iz_13 if_14 c_15 iz_49 gσ_50 vσ_50 k2σ_50 z7σ_50 c_77 ahpσ_79 bhpσ_79 chpσ_79 dhpσ_79 c_80 gσ_81 vσ_81 kdσ_81 k2σ_81; omega) | omega)]; exact z7σ_50)
          exact J_92_51 σ_81 _ _ ls fr_σ_81 gσ_81 vσ_81 kqσ_81 kdσ_81 k2σ_81 z7σ_81 hF hI (lv_sub hl [1, 2, 3, 0] rfl)
  refine q_if_ne (A := r_4.toInt) E rfl (tgt := 28) dX12_doubts_21 (by decide) (fun c_82 => ?_) (fun c_82 => ?_)
  · skip
    replace hF := q_ifn hF c_82
    refine lv_iconst (v := 0) hx hb dX12_doubts_28 zki_0 ?_
    have kc_83 : (0 : Int32).toInt = 0 := zt_0
    exact J_29_6 0 _ _ ls (by first | (clear hn ho h0 gσ wσ k2σ hh if_1 if_2 iz_3 bhpσ_5 chpσ_5 c_82; omega) | omega) hF hI (lv_sub hl [1, 2, 0] rfl)
  · skip
    replace hF := q_ifp hF c_82
    refine lv_iconst (v := 1) hx hb dX12_doubts_24 zki_1 ?_
    refine lv_goto (tgt := 29) hx hb dX12_doubts_25 (by decide) ?_
    have kc_84 : (1 : Int32).toInt = 1 := zt_1
    exact J_29_6 1 _ _ ls (by first | (clear hn ho h0 gσ wσ k2σ hh if_1 if_2 iz_3 bhpσ_5 chpσ_5 c_82; omega) | omega) hF hI (lv_sub hl [1, 2, 0] rfl)

set_option maxRecDepth 100000 in
set_option maxHeartbeats 4000000 in
theorem c_X12_laysDown (l : Launch) (X : XW) (σ : ST) (a : Nat) (v1 : Int32) (r2 : Nat) (ha : q_kd X a = 12) (hr2 : q_kd X r2 = 39) (hL : m_lo (m_c X σ a) (m_of σ r2) v1.toInt) (h6 : m_c X σ a 6 = v1.toInt) : Met l yX12_laysDown (q_ws yX12_laysDown cX12_laysDown 7 none) (q_rm 1 20) (q_P X σ [.ref a, .int v1, .ref r2]) (q_Qv X 1 σ (fun (σ' : ST) => (m_G (m_c X σ' a)) ∧ (∀ j, 0 ≤ j → (j < 7 ∨ j = 8 ∨ (10 ≤ j ∧ j < 34) ∨ 654 ≤ j) → m_c X σ' a j = m_c X σ a j) ∧ (m_c X σ' a 9 = m_c X σ a 9 + 1) ∧ (m_c X σ' a 7 = 1) ∧ (m_c X σ' a 6 = v1.toInt) ∧ (m_KD 40 X σ σ') ∧ σ' = F_X12_laysDown X σ a v1 r2 ∧ q_ow [(34, 99)] [] X σ σ')) 0 0 (q_reg X) := by
  refine q_met 1 (by first | exact rfl | decide +kernel) rfl (Nat.le_of_ble_eq_true rfl) (fun p e s m below meth c E hml hr hlk hI ls hl => ?_)
  have hx := E.1
  have hb := E.2.1
  have hl : lv_has ls 7 [(0, .ref a), (1, .int v1), (2, .ref r2)] := hl
  have kdσ : m_KD 40 X σ σ := m_KD.rf
  have foσ : ∀ j, σ.1 r2 j = σ.1 r2 j := fun _ => rfl
  have fr_σ : q_ow [(34, 99)] [] X σ σ := q_ow.rf
  have hc9 := hL.c9
  have hlo := hL.2.2.2
  have hp6 := hL.2.1
  have hh := hL.1.hd
  obtain ⟨out, hout⟩ : ∃ o, o = F_X12_laysDown X σ a v1 r2 := ⟨_, rfl⟩
  have hF := hout.symm
  unfold F_X12_laysDown at hF
  refine lv_aload_n hx hb dX12_laysDown_0 rfl (lv_at hl 0 rfl) ?_
  refine gs_X12_35_12 E hI ha dX12_laysDown_1 ?_
  refine lv_bipush (v := 9) hx hb dX12_laysDown_4 zkb_9 ?_
  refine q_iald E hI (q_tk (k' := 34) hI ha rfl (Nat.succ_ne_zero _)) ⟨by decide, rfl⟩ (by decide) (by rw [q_lnk (v := 4650) hI (q_tk (k' := 34) hI ha rfl (Nat.succ_ne_zero _)) rfl (by decide)]; decide) dX12_laysDown_6 ?_
  refine lv_topi (fun f_1 ef_1 => ?_)
  replace hF := q_letX hF ef_1
  have if_1 : f_1.toInt = m_c X σ a 9 := m_rd ef_1 (by decide)
  refine q_ci (q_runS (As := [.int f_1]) (rest := []) E (hml.trans hl.1.symm) hI (c_X12_laid l X σ f_1 (by first | (clear h6 kdσ hlo hh; omega) | omega)) ks_X12_279 rfl ⟨Nat.le_of_ble_eq_true rfl, Nat.le_of_ble_eq_true rfl⟩ ⟨Nat.le_refl _, Nat.le_refl _⟩ rfl (Nat.le_of_ble_eq_true rfl) dX12_laysDown_7) hI (Nat.le_of_ble_eq_true rfl) (fun r_2 σ_3 H locs hpσ_3 hkσ_3 hI => ?_)
  have ahpσ_3 := hpσ_3.1
  have bhpσ_3 := hpσ_3.2.1
  have chpσ_3 := hpσ_3.2.2
  clear hpσ_3
  replace hI := q_Irw ahpσ_3 hI
  replace hF := q_letX hF chpσ_3
  have ir_2 : r_2.toInt = (94 + 7 * (m_c X σ a 9)) := (by first | (clear h6 kdσ hc9 hlo hh ahpσ_3 chpσ_3; omega) | omega)
  refine lv_istore_n (lv' := [(3, .int r_2), (0, .ref a), (1, .int v1), (2, .ref r2)]) hx hb dX12_laysDown_10 rfl hl (by decide) rfl (fun ls hl => ?_)
  refine lv_aload_n hx hb dX12_laysDown_11 rfl (lv_at hl 1 rfl) ?_
  refine gs_X12_35_12 E hI ha dX12_laysDown_12 ?_
  refine lv_iload_n hx hb dX12_laysDown_15 rfl (lv_at hl 0 rfl) ?_
  refine lv_iload_n hx hb dX12_laysDown_16 rfl (lv_at hl 2 rfl) ?_
  refine q_iastN E hI (q_tk (k' := 34) hI ha rfl (Nat.succ_ne_zero _)) ⟨by decide, rfl⟩ (by first | (clear h6 kdσ hlo hh ahpσ_3 chpσ_3 ir_2; omega) | omega) (by rw [q_lnk (v := 4650) hI (q_tk (k' := 34) hI ha rfl (Nat.succ_ne_zero _)) rfl (by decide)]; omega) (show 1 < 2 by decide) (q_inU rfl) dX12_laysDown_17 (fun H locs σ_4 hσ_4 hI => ?_)
  replace hF := q_letX hF hσ_4
  have fr_σ_4 := fr_σ.si hσ_4 (q_tk (k' := 34) hI ha rfl (Nat.succ_ne_zero _)) rfl
  have mcσ_4 := m_wr (v := v1) (A := (94 + 7 * (m_c X σ a 9))) hσ_4 ir_2 (by first | (clear h6 kdσ hlo hh ahpσ_3 bhpσ_3 chpσ_3 ir_2; omega) | omega)
  have kdσ_4 : m_KD 40 X σ σ_4 := kdσ.ar hσ_4 (q_tk (k' := 34) hI ha rfl (Nat.succ_ne_zero _)) (by decide) (by decide)
  have foσ_4 : ∀ j, σ_4.1 r2 j = σ.1 r2 j := fun j => (q_rdn hσ_4 (Or.inl (m_ne hr2 (q_tk (k' := 34) hI ha rfl (Nat.succ_ne_zero _)) (by decide)))).trans (foσ j)
  have s1x := mcσ_4
  refine lv_aload_n hx hb dX12_laysDown_18 rfl (lv_at hl 1 rfl) ?_
  refine gs_X12_35_12 E hI ha dX12_laysDown_19 ?_
  refine lv_iload_n hx hb dX12_laysDown_22 rfl (lv_at hl 0 rfl) ?_
  refine lv_iconst (v := 1) hx hb dX12_laysDown_23 zki_1 ?_
  refine lv_iadd hx hb dX12_laysDown_24 ?_
  refine lv_topi (fun z_5 ez_5 => ?_)
  replace hF := q_letX hF ez_5
  have iz_5 := q_addI (A := (94 + 7 * (m_c X σ a 9))) (B := 1) ez_5 ir_2 (by decide) (by first | (clear h6 kdσ hlo hh ahpσ_3 bhpσ_3 chpσ_3 ir_2 kdσ_4; omega) | omega) (by first | (clear h6 kdσ hlo hh ahpσ_3 bhpσ_3 chpσ_3 ir_2 kdσ_4; omega) | omega)
  refine lv_aload_n hx hb dX12_laysDown_25 rfl (lv_at hl 1 rfl) ?_
  refine gs_X12_35_12 E hI ha dX12_laysDown_26 ?_
  refine lv_iconst (v := 5) hx hb dX12_laysDown_29 zki_5 ?_
  refine q_iald E hI (q_tk (k' := 34) hI ha rfl (Nat.succ_ne_zero _)) ⟨by decide, rfl⟩ (by decide) (by rw [q_lnk (v := 4650) hI (q_tk (k' := 34) hI ha rfl (Nat.succ_ne_zero _)) rfl (by decide)]; decide) dX12_laysDown_30 ?_
  refine lv_topi (fun f_6 ef_6 => ?_)
  replace hF := q_letX hF ef_6
  have if_6 : f_6.toInt = m_c X σ_4 a 5 := m_rd ef_6 (by decide)
  refine q_iastN E hI (q_tk (k' := 34) hI ha rfl (Nat.succ_ne_zero _)) ⟨by decide, rfl⟩ (by first | (clear h6 kdσ hlo hh ahpσ_3 bhpσ_3 chpσ_3 ir_2 kdσ_4 if_6; omega) | omega) (by rw [q_lnk (v := 4650) hI (q_tk (k' := 34) hI ha rfl (Nat.succ_ne_zero _)) rfl (by decide)]; omega) (show 1 < 2 by decide) (q_inU rfl) dX12_laysDown_31 (fun H locs σ_7 hσ_7 hI => ?_)
  replace hF := q_letX hF hσ_7
  have fr_σ_7 := fr_σ_4.si hσ_7 (q_tk (k' := 34) hI ha rfl (Nat.succ_ne_zero _)) rfl
  have mcσ_7 := m_wr (v := f_6) (A := ((94 + 7 * (m_c X σ a 9)) + 1)) hσ_7 iz_5 (by first | (clear h6 kdσ hlo hh ahpσ_3 bhpσ_3 chpσ_3 ir_2 kdσ_4 iz_5 if_6; omega) | omega)
  have kdσ_7 : m_KD 40 X σ σ_7 := kdσ_4.ar hσ_7 (q_tk (k' := 34) hI ha rfl (Nat.succ_ne_zero _)) (by decide) (by decide)
  have foσ_7 : ∀ j, σ_7.1 r2 j = σ.1 r2 j := fun j => (q_rdn hσ_7 (Or.inl (m_ne hr2 (q_tk (k' := 34) hI ha rfl (Nat.succ_ne_zero _)) (by decide)))).trans (foσ_4 j)
  have ld0 := m_ld.start hL s1x rfl mcσ_7
  refine lv_iconst (v := 0) hx hb dX12_laysDown_32 zki_0 ?_
  refine lv_istore (lv' := [(4, .int 0), (3, .int r_2), (0, .ref a), (1, .int v1), (2, .ref r2)]) hx hb dX12_laysDown_33 hl (by decide) rfl (fun ls hl => ?_)
  refine lv_iconst (v := 0) hx hb dX12_laysDown_35 zki_0 ?_
  refine lv_istore (lv' := [(5, .int 0), (4, .int 0), (3, .int r_2), (0, .ref a), (1, .int v1), (2, .ref r2)]) hx hb dX12_laysDown_36 hl (by decide) rfl (fun ls hl => ?_)
  have L_38_11 : ∀ (k_11 : Nat) (x_8 : Int32) (x_9 : Int32) (σ_10 : ST) (H : Heap) (locs : List Loc) (ls : Array Slot), (2147483647 - x_9.toInt).toNat < k_11 → (0 ≤ x_9.toInt ∧ x_9.toInt ≤ 10) → (x_8.toInt = m_S (m_of σ r2) 0 x_9.toInt.toNat) → (m_ld (m_c X σ a) (m_c X σ_10 a) (m_of σ r2) v1.toInt x_9.toInt 0) → (q_ow [(34, 99)] [] X σ σ_10) → (m_KD 40 X σ σ_10) → (∀ j, σ_10.1 r2 j = σ.1 r2 j) → (F_X12_laysDown_L38_1 X r2 r_2 a v1 k_11 x_8 x_9 σ_10 = out) → q_I X 1 σ s.heap locs σ_10 H → lv_has ls 7 [(0, .ref a), (1, .int v1), (2, .ref r2), (3, .int r_2), (4, .int x_8), (5, .int x_9)] → W p l e (q_rm 1 20) s m ([.ref a, .int v1, .ref r2] : List Value).toArray below meth c H locs 0 0 (MQ below (q_Qv X 1 σ (fun (σ' : ST) => (m_G (m_c X σ' a)) ∧ (∀ j, 0 ≤ j → (j < 7 ∨ j = 8 ∨ (10 ≤ j ∧ j < 34) ∨ 654 ≤ j) → m_c X σ' a j = m_c X σ a j) ∧ (m_c X σ' a 9 = m_c X σ a 9 + 1) ∧ (m_c X σ' a 7 = 1) ∧ (m_c X σ' a 6 = v1.toInt) ∧ (m_KD 40 X σ σ') ∧ σ' = F_X12_laysDown X σ a v1 r2 ∧ q_ow [(34, 99)] [] X σ σ')) ([.ref a, .int v1, .ref r2] : List Value).toArray s 0 0 (q_reg X)) (F0 m 38 ls []) := by
    clear hF
    intro k_11
    induction k_11 with
    | zero =>
      intro x_8 x_9 σ_10 H locs ls hms
      try clear kdσ; try clear foσ; try clear fr_σ; try clear ahpσ_3; try clear fr_σ_4; try clear mcσ_4; try clear kdσ_4; try clear foσ_4; try clear fr_σ_7; try clear mcσ_7; try clear kdσ_7; try clear foσ_7
      exact absurd hms (Nat.not_lt_zero _)
    | succ k_11 ih38 =>
      intro x_8 x_9 σ_10 H locs ls hm38 hge38 hn38 ldσ_10 fr_σ_10 kdσ_10 foσ_10 hF hI hl
      replace hF := (F_X12_laysDown_L38_1_s).symm.trans hF
      unfold F_X12_laysDown_B38_1 at hF
      have pt := hL.part x_9.toInt.toNat (by first | (clear h6 hc9 hlo hh if_1 bhpσ_3 chpσ_3 ir_2 iz_5 if_6 hm38 hn38 kdσ_10; omega) | omega)
      have ps := m_S_succ (m_of σ r2) 0 x_9.toInt hge38.1
      rw [Int.zero_add] at ps
      refine lv_iload hx hb dX12_laysDown_38 (lv_at hl 5 rfl) ?_
      refine lv_bipush (v := 10) hx hb dX12_laysDown_40 zkb_10 ?_
      have gc_12_x_9 := q_rng x_9
      refine q_icmp_ge (A := x_9.toInt) (B := 10) E rfl (by decide) (tgt := 107) dX12_laysDown_42 (by decide) (fun c_12 => ?_) (fun c_12 => ?_)
      · skip
        replace hF := q_ifn hF (Int.not_lt.mpr c_12)
        unfold F_X12_laysDown_E107_2 at hF
        refine lv_aload_n hx hb dX12_laysDown_107 rfl (lv_at hl 0 rfl) ?_
        refine gs_X12_35_12 E hI ha dX12_laysDown_108 ?_
        refine lv_iload_n hx hb dX12_laysDown_111 rfl (lv_at hl 3 rfl) ?_
        refine lv_iconst (v := 2) hx hb dX12_laysDown_112 zki_2 ?_
        refine lv_iadd hx hb dX12_laysDown_113 ?_
        refine lv_topi (fun z_13 ez_13 => ?_)
        replace hF := q_letX hF ez_13
        have iz_13 := q_addI (A := (94 + 7 * (m_c X σ a 9))) (B := 2) ez_13 ir_2 (by decide) (by first | (clear h6 hlo hh bhpσ_3 chpσ_3 ir_2 iz_5 if_6 hm38 hge38 hn38 kdσ_10 pt ps gc_12_x_9 c_12; omega) | omega) (by first | (clear h6 hlo hh bhpσ_3 chpσ_3 ir_2 iz_5 if_6 hm38 hge38 hn38 kdσ_10 pt ps gc_12_x_9 c_12; omega) | omega)
        refine lv_iload hx hb dX12_laysDown_114 (lv_at hl 4 rfl) ?_
        refine q_iastN E hI (q_tk (k' := 34) hI ha rfl (Nat.succ_ne_zero _)) ⟨by decide, rfl⟩ (by first | (clear h6 hlo hh bhpσ_3 chpσ_3 ir_2 iz_5 if_6 hm38 hge38 hn38 kdσ_10 pt ps gc_12_x_9 c_12; omega) | omega) (by rw [q_lnk (v := 4650) hI (q_tk (k' := 34) hI ha rfl (Nat.succ_ne_zero _)) rfl (by decide)]; omega) (show 1 < 2 by decide) (q_inU rfl) dX12_laysDown_116 (fun H locs σ_14 hσ_14 hI => ?_)
        replace hF := q_letX hF hσ_14
        have fr_σ_14 := fr_σ_10.si hσ_14 (q_tk (k' := 34) hI ha rfl (Nat.succ_ne_zero _)) rfl
        have mcσ_14 := m_wr (v := x_8) (A := ((94 + 7 * (m_c X σ a 9)) + 2)) hσ_14 iz_13 (by first | (clear h6 hlo hh bhpσ_3 chpσ_3 ir_2 iz_5 if_6 hm38 hge38 hn38 kdσ_10 pt ps gc_12_x_9 c_12 iz_13; omega) | omega)
        have kdσ_14 : m_KD 40 X σ σ_14 := kdσ_10.ar hσ_14 (q_tk (k' := 34) hI ha rfl (Nat.succ_ne_zero _)) (by decide) (by decide)
        have foσ_14 : ∀ j, σ_14.1 r2 j = σ.1 r2 j := fun j => (q_rdn hσ_14 (Or.inl (m_ne hr2 (q_tk (k' := 34) hI ha rfl (Nat.succ_ne_zero _)) (by decide)))).trans (foσ_10 j)
        have e1x := mcσ_14
        have g9 : m_c X σ_14 a 9 = m_c X σ a 9 := by rw [mcσ_14 9 (by decide), if_neg (by first | (clear h6 hlo hh bhpσ_3 chpσ_3 ir_2 iz_5 if_6 hm38 hge38 hn38 kdσ_10 pt ps gc_12_x_9 c_12 iz_13 kdσ_14 e1x; omega) | omega)]; exact ldσ_10.1 9 (by decide) (by first | (clear h6 hc9 hlo hh if_1 bhpσ_3 chpσ_3 ir_2 iz_5 if_6 hm38 hge38 hn38 kdσ_10 pt ps gc_12_x_9 c_12 iz_13 kdσ_14 e1x; omega) | omega) (by first | (clear h6 hlo hh bhpσ_3 chpσ_3 ir_2 iz_5 if_6 hm38 hge38 hn38 kdσ_10 pt ps gc_12_x_9 c_12 iz_13 kdσ_14 e1x; omega) | omega)
        have l10 := ldσ_10
        have q10 : x_9.toInt = 10 := by omega
        rw [q10] at l10
        refine lv_aload_n hx hb dX12_laysDown_117 rfl (lv_at hl 0 rfl) ?_
        refine gs_X12_35_12 E hI ha dX12_laysDown_118 ?_
        refine lv_bipush (v := 9) hx hb dX12_laysDown_121 zkb_9 ?_
        refine lv_dup2_11 hx hb dX12_laysDown_123 rfl rfl ?_
        refine q_iald E hI (q_tk (k' := 34) hI ha rfl (Nat.succ_ne_zero _)) ⟨by decide, rfl⟩ (by decide) (by rw [q_lnk (v := 4650) hI (q_tk (k' := 34) hI ha rfl (Nat.succ_ne_zero _)) rfl (by decide)]; decide) dX12_laysDown_124 ?_
        refine lv_topi (fun f_15 ef_15 => ?_)
        replace hF := q_letX hF ef_15
        have if_15 : f_15.toInt = m_c X σ_14 a 9 := m_rd ef_15 (by decide)
        refine lv_iconst (v := 1) hx hb dX12_laysDown_125 zki_1 ?_
        refine lv_iadd hx hb dX12_laysDown_126 ?_
        refine lv_topi (fun z_16 ez_16 => ?_)
        replace hF := q_letX hF ez_16
        have iz_16 := q_addI (A := (m_c X σ_14 a 9)) (B := 1) ez_16 if_15 (by decide) (by first | (clear h6 hlo hh bhpσ_3 chpσ_3 ir_2 iz_5 if_6 hm38 hge38 hn38 kdσ_10 pt ps gc_12_x_9 c_12 iz_13 kdσ_14 e1x; omega) | omega) (by first | (clear h6 hlo hh bhpσ_3 chpσ_3 ir_2 iz_5 if_6 hm38 hge38 hn38 kdσ_10 pt ps gc_12_x_9 c_12 iz_13 kdσ_14 e1x; omega) | omega)
        refine q_iastN E hI (q_tk (k' := 34) hI ha rfl (Nat.succ_ne_zero _)) ⟨by decide, rfl⟩ (by decide) (by rw [q_lnk (v := 4650) hI (q_tk (k' := 34) hI ha rfl (Nat.succ_ne_zero _)) rfl (by decide)]; decide) (show 1 < 2 by decide) (q_inU rfl) dX12_laysDown_127 (fun H locs σ_17 hσ_17 hI => ?_)
        replace hF := q_letX hF hσ_17
        have fr_σ_17 := fr_σ_14.si hσ_17 (q_tk (k' := 34) hI ha rfl (Nat.succ_ne_zero _)) rfl
        have mcσ_17 := m_wr (v := z_16) (A := 9) hσ_17 (by decide) (by decide)
        have kdσ_17 : m_KD 40 X σ σ_17 := kdσ_14.ar hσ_17 (q_tk (k' := 34) hI ha rfl (Nat.succ_ne_zero _)) (by decide) (by decide)
        have foσ_17 : ∀ j, σ_17.1 r2 j = σ.1 r2 j := fun j => (q_rdn hσ_17 (Or.inl (m_ne hr2 (q_tk (k' := 34) hI ha rfl (Nat.succ_ne_zero _)) (by decide)))).trans (foσ_14 j)
        have e2x := mcσ_17
        have v9x := iz_16
        refine lv_aload_n hx hb dX12_laysDown_128 rfl (lv_at hl 0 rfl) ?_
        refine gs_X12_35_12 E hI ha dX12_laysDown_129 ?_
        refine lv_bipush (v := 7) hx hb dX12_laysDown_132 zkb_7 ?_
        refine lv_iconst (v := 1) hx hb dX12_laysDown_134 zki_1 ?_
        have kc_19 : (1 : Int32).toInt = 1 := zt_1
        refine q_iastN E hI (q_tk (k' := 34) hI ha rfl (Nat.succ_ne_zero _)) ⟨by decide, rfl⟩ (by decide) (by rw [q_lnk (v := 4650) hI (q_tk (k' := 34) hI ha rfl (Nat.succ_ne_zero _)) rfl (by decide)]; decide) (show 1 < 2 by decide) (q_inU rfl) dX12_laysDown_135 (fun H locs σ_18 hσ_18 hI => ?_)
        replace hF := q_letX hF hσ_18
        have fr_σ_18 := fr_σ_17.si hσ_18 (q_tk (k' := 34) hI ha rfl (Nat.succ_ne_zero _)) rfl
        have mcσ_18 := m_wr (v := (1 : Int32)) (A := 7) hσ_18 (by decide) (by decide)
        have kdσ_18 : m_KD 40 X σ σ_18 := kdσ_17.ar hσ_18 (q_tk (k' := 34) hI ha rfl (Nat.succ_ne_zero _)) (by decide) (by decide)
        have foσ_18 : ∀ j, σ_18.1 r2 j = σ.1 r2 j := fun j => (q_rdn hσ_18 (Or.inl (m_ne hr2 (q_tk (k' := 34) hI ha rfl (Nat.succ_ne_zero _)) (by decide)))).trans (foσ_17 j)
        have dnσ_18 := l10.done hL h6 (by have q : x_9.toInt.toNat = 10 := (by first | (clear h6 hc9 hlo hh if_1 bhpσ_3 chpσ_3 ir_2 iz_5 if_6 hm38 hn38 kdσ_10 pt ps gc_12_x_9 iz_13 kdσ_14 e1x if_15 iz_16 kdσ_17 e2x v9x kc_19 kdσ_18; omega) | omega); rw [q] at hn38; exact hn38) e1x e2x (by first | (clear h6 hc9 hlo hh bhpσ_3 chpσ_3 ir_2 iz_5 if_6 hm38 hge38 hn38 kdσ_10 pt ps gc_12_x_9 c_12 iz_13 kdσ_14 e1x kdσ_17 e2x v9x kc_19 kdσ_18; omega) | omega) mcσ_18 rfl
        exact q_retv E hr hlk hI ⟨dnσ_18.1, dnσ_18.2.1, dnσ_18.2.2.1, dnσ_18.2.2.2.1, dnσ_18.2.2.2.2, kdσ_18, (hF.trans hout), fr_σ_18⟩ dX12_laysDown_136
      · skip
        replace hF := q_ifp hF c_12
        have pt2 := hL.part (x_9.toInt + 1).toNat (by first | (clear h6 hc9 hlo hh if_1 bhpσ_3 chpσ_3 ir_2 iz_5 if_6 hm38 hn38 kdσ_10 pt ps gc_12_x_9; omega) | omega)
        rw [ps] at pt2
        have ho := hL.2.2.1 x_9.toInt (by first | (clear h6 hc9 hlo hh if_1 bhpσ_3 chpσ_3 ir_2 iz_5 if_6 hm38 hn38 kdσ_10 pt ps gc_12_x_9 pt2; omega) | omega) (by omega)
        refine lv_iconst (v := 0) hx hb dX12_laysDown_45 zki_0 ?_
        refine lv_istore (lv' := [(6, .int 0), (0, .ref a), (1, .int v1), (2, .ref r2), (3, .int r_2), (4, .int x_8), (5, .int x_9)]) hx hb dX12_laysDown_46 hl (by decide) rfl (fun ls hl => ?_)
        have L_48_23 : ∀ (k_23 : Nat) (x_20 : Int32) (x_21 : Int32) (σ_22 : ST) (H : Heap) (locs : List Loc) (ls : Array Slot), (2147483647 - x_21.toInt).toNat < k_23 → (0 ≤ x_21.toInt ∧ x_21.toInt ≤ m_of σ r2 x_9.toInt) → (x_20.toInt = m_S (m_of σ r2) 0 x_9.toInt.toNat + x_21.toInt) → (m_ld (m_c X σ a) (m_c X σ_22 a) (m_of σ r2) v1.toInt x_9.toInt x_21.toInt) → (q_ow [(34, 99)] [] X σ σ_22) → (m_KD 40 X σ σ_22) → (∀ j, σ_22.1 r2 j = σ.1 r2 j) → (F_X12_laysDown_L48_3 X r2 x_9 r_2 a v1 (F_X12_laysDown_L38_1 X r2 r_2 a v1 k_11) k_23 x_20 x_21 σ_22 = out) → q_I X 1 σ s.heap locs σ_22 H → lv_has ls 7 [(0, .ref a), (1, .int v1), (2, .ref r2), (3, .int r_2), (4, .int x_20), (5, .int x_9), (6, .int x_21)] → W p l e (q_rm 1 20) s m ([.ref a, .int v1, .ref r2] : List Value).toArray below meth c H locs 0 0 (MQ below (q_Qv X 1 σ (fun (σ' : ST) => (m_G (m_c X σ' a)) ∧ (∀ j, 0 ≤ j → (j < 7 ∨ j = 8 ∨ (10 ≤ j ∧ j < 34) ∨ 654 ≤ j) → m_c X σ' a j = m_c X σ a j) ∧ (m_c X σ' a 9 = m_c X σ a 9 + 1) ∧ (m_c X σ' a 7 = 1) ∧ (m_c X σ' a 6 = v1.toInt) ∧ (m_KD 40 X σ σ') ∧ σ' = F_X12_laysDown X σ a v1 r2 ∧ q_ow [(34, 99)] [] X σ σ')) ([.ref a, .int v1, .ref r2] : List Value).toArray s 0 0 (q_reg X)) (F0 m 48 ls []) := by
          clear hF
          intro k_23
          induction k_23 with
          | zero =>
            intro x_20 x_21 σ_22 H locs ls hms
            exact absurd hms (Nat.not_lt_zero _)
          | succ k_23 ih48 =>
            intro x_20 x_21 σ_22 H locs ls hm48 hge48 hn48 ldσ_22 fr_σ_22 kdσ_22 foσ_22 hF hI hl
            replace hF := (F_X12_laysDown_L48_3_s).symm.trans hF
            unfold F_X12_laysDown_B48_3 at hF
            refine lv_iload hx hb dX12_laysDown_48 (lv_at hl 6 rfl) ?_
            refine lv_aload_n hx hb dX12_laysDown_50 rfl (lv_at hl 2 rfl) ?_
            refine lv_iload hx hb dX12_laysDown_51 (lv_at hl 5 rfl) ?_
            refine q_iald E hI hr2 ⟨by decide, rfl⟩ (by first | (clear h6 hc9 hlo hh if_1 bhpσ_3 chpσ_3 ir_2 iz_5 if_6 hm38 hn38 kdσ_10 pt ps gc_12_x_9 pt2 ho hm48 hge48 hn48 kdσ_22; omega) | omega) (by rw [q_lnk (v := 10) hI hr2 rfl (by decide)]; omega) dX12_laysDown_53 ?_
            refine lv_topi (fun f_24 ef_24 => ?_)
            replace hF := q_letX hF ef_24
            have fqf_24 : f_24.toInt = m_of σ r2 x_9.toInt := by rw [ef_24, foσ_22]; rfl
            have gc_25_x_21 := q_rng x_21
            have gc_25_f_24 := q_rng f_24
            refine q_icmp_ge (A := x_21.toInt) (B := f_24.toInt) E rfl rfl (tgt := 79) dX12_laysDown_54 (by decide) (fun c_25 => ?_) (fun c_25 => ?_)
            · skip
              replace hF := q_ifn hF (Int.not_lt.mpr c_25)
              unfold F_X12_laysDown_E79_4 at hF
              have lu := ldσ_22.1 (34 + 10 * v1.toInt + x_9.toInt) (by first | (clear h6 hc9 hlo if_1 bhpσ_3 chpσ_3 ir_2 iz_5 if_6 hm38 hn38 kdσ_10 pt ps gc_12_x_9 pt2 ho hm48 hge48 hn48 kdσ_22 fqf_24 gc_25_x_21 gc_25_f_24 c_25; omega) | omega) (by first | (clear h6 hc9 hlo hh if_1 bhpσ_3 chpσ_3 ir_2 iz_5 if_6 hm38 hge38 hn38 kdσ_10 pt ps gc_12_x_9 c_12 pt2 ho hm48 hge48 hn48 kdσ_22 fqf_24 gc_25_x_21 gc_25_f_24 c_25; omega) | omega) (by first | (clear h6 hlo bhpσ_3 chpσ_3 ir_2 iz_5 if_6 hm38 hn38 kdσ_10 pt ps gc_12_x_9 pt2 ho hm48 hge48 hn48 kdσ_22 fqf_24 gc_25_x_21 gc_25_f_24 c_25; omega) | omega)
              have lv := hL.1.h80 (p := v1.toInt) (k := x_9.toInt) (by first | (clear h6 hc9 hlo hh if_1 bhpσ_3 chpσ_3 ir_2 iz_5 if_6 hm38 hge38 hn38 kdσ_10 pt ps gc_12_x_9 c_12 pt2 ho hm48 hge48 hn48 kdσ_22 fqf_24 gc_25_x_21 gc_25_f_24 c_25 lu; omega) | omega) (by first | (clear h6 hc9 hlo hh if_1 bhpσ_3 chpσ_3 ir_2 iz_5 if_6 hm38 hge38 hn38 kdσ_10 pt ps gc_12_x_9 c_12 pt2 ho hm48 hge48 hn48 kdσ_22 fqf_24 gc_25_x_21 gc_25_f_24 c_25 lu; omega) | omega) (by first | (clear h6 hc9 hlo hh if_1 bhpσ_3 chpσ_3 ir_2 iz_5 if_6 hm38 hn38 kdσ_10 pt ps gc_12_x_9 pt2 ho hm48 hge48 hn48 kdσ_22 fqf_24 gc_25_x_21 gc_25_f_24 c_25 lu; omega) | omega) (by omega)
              refine lv_aload_n hx hb dX12_laysDown_79 rfl (lv_at hl 0 rfl) ?_
              refine gs_X12_35_12 E hI ha dX12_laysDown_80 ?_
              refine lv_bipush (v := 34) hx hb dX12_laysDown_83 zkb_34 ?_
              refine lv_bipush (v := 10) hx hb dX12_laysDown_85 zkb_10 ?_
              refine lv_iload_n hx hb dX12_laysDown_87 rfl (lv_at hl 1 rfl) ?_
              refine lv_imul hx hb dX12_laysDown_88 ?_
              refine lv_topi (fun z_26 ez_26 => ?_)
              replace hF := q_letX hF ez_26
              have iz_26 := q_mulI (A := 10) (B := v1.toInt) ez_26 (by decide) rfl (by first | (clear h6 hc9 hlo hh if_1 bhpσ_3 chpσ_3 ir_2 iz_5 if_6 hm38 hge38 hn38 kdσ_10 pt ps gc_12_x_9 c_12 pt2 ho hm48 hge48 hn48 kdσ_22 fqf_24 gc_25_x_21 gc_25_f_24 c_25 lu; omega) | omega) (by first | (clear h6 hc9 hlo hh if_1 bhpσ_3 chpσ_3 ir_2 iz_5 if_6 hm38 hge38 hn38 kdσ_10 pt ps gc_12_x_9 c_12 pt2 ho hm48 hge48 hn48 kdσ_22 fqf_24 gc_25_x_21 gc_25_f_24 c_25 lu; omega) | omega)
              refine lv_iadd hx hb dX12_laysDown_89 ?_
              refine lv_topi (fun z_27 ez_27 => ?_)
              replace hF := q_letX hF ez_27
              have iz_27 := q_addI (A := 34) (B := (10 * v1.toInt)) ez_27 (by decide) iz_26 (by first | (clear h6 hc9 hlo hh if_1 bhpσ_3 chpσ_3 ir_2 iz_5 if_6 hm38 hge38 hn38 kdσ_10 pt ps gc_12_x_9 c_12 pt2 ho hm48 hge48 hn48 kdσ_22 fqf_24 gc_25_x_21 gc_25_f_24 c_25 lu iz_26; omega) | omega) (by first | (clear h6 hc9 hlo hh if_1 bhpσ_3 chpσ_3 ir_2 iz_5 if_6 hm38 hge38 hn38 kdσ_10 pt ps gc_12_x_9 c_12 pt2 ho hm48 hge48 hn48 kdσ_22 fqf_24 gc_25_x_21 gc_25_f_24 c_25 lu iz_26; omega) | omega)
              refine lv_iload hx hb dX12_laysDown_90 (lv_at hl 5 rfl) ?_
              refine lv_iadd hx hb dX12_laysDown_92 ?_
              refine lv_topi (fun z_28 ez_28 => ?_)
              replace hF := q_letX hF ez_28
              have iz_28 := q_addI (A := (34 + (10 * v1.toInt))) (B := x_9.toInt) ez_28 iz_27 rfl (by first | (clear h6 hc9 hlo if_1 bhpσ_3 chpσ_3 ir_2 iz_5 if_6 hm38 hn38 kdσ_10 pt ps gc_12_x_9 pt2 ho hm48 hge48 hn48 kdσ_22 fqf_24 gc_25_x_21 gc_25_f_24 c_25 lu iz_26 iz_27; omega) | omega) (by first | (clear h6 hc9 hlo if_1 bhpσ_3 chpσ_3 ir_2 iz_5 if_6 hm38 hn38 kdσ_10 pt ps gc_12_x_9 pt2 ho hm48 hge48 hn48 kdσ_22 fqf_24 gc_25_x_21 gc_25_f_24 c_25 lu iz_26 iz_27; omega) | omega)
              refine lv_dup2_11 hx hb dX12_laysDown_93 rfl rfl ?_
              refine q_iald E hI (q_tk (k' := 34) hI ha rfl (Nat.succ_ne_zero _)) ⟨by decide, rfl⟩ (by first | (clear h6 hc9 hlo if_1 bhpσ_3 chpσ_3 ir_2 iz_5 if_6 hm38 hn38 kdσ_10 pt ps gc_12_x_9 pt2 ho hm48 hge48 hn48 kdσ_22 fqf_24 gc_25_x_21 gc_25_f_24 c_25 lu iz_26 iz_27; omega) | omega) (by rw [q_lnk (v := 4650) hI (q_tk (k' := 34) hI ha rfl (Nat.succ_ne_zero _)) rfl (by decide)]; omega) dX12_laysDown_94 ?_
              refine lv_topi (fun f_29 ef_29 => ?_)
              replace hF := q_letX hF ef_29
              have if_29 : f_29.toInt = m_c X σ_22 a ((34 + (10 * v1.toInt)) + x_9.toInt) := m_rd ef_29 iz_28
              refine lv_aload_n hx hb dX12_laysDown_95 rfl (lv_at hl 2 rfl) ?_
              refine lv_iload hx hb dX12_laysDown_96 (lv_at hl 5 rfl) ?_
              refine q_iald E hI hr2 ⟨by decide, rfl⟩ (by first | (clear h6 hc9 hlo hh if_1 bhpσ_3 chpσ_3 ir_2 iz_5 if_6 hm38 hn38 kdσ_10 pt ps gc_12_x_9 pt2 ho hm48 hge48 hn48 kdσ_22 fqf_24 gc_25_x_21 gc_25_f_24 c_25 lu iz_26 iz_27 if_29; omega) | omega) (by rw [q_lnk (v := 10) hI hr2 rfl (by decide)]; omega) dX12_laysDown_98 ?_
              refine lv_topi (fun f_30 ef_30 => ?_)
              replace hF := q_letX hF ef_30
              have fqf_30 : f_30.toInt = m_of σ r2 x_9.toInt := by rw [ef_30, foσ_22]; rfl
              refine lv_isub hx hb dX12_laysDown_99 ?_
              refine lv_topi (fun z_31 ez_31 => ?_)
              replace hF := q_letX hF ez_31
              have iz_31 := q_subI (A := (m_c X σ_22 a ((34 + (10 * v1.toInt)) + x_9.toInt))) (B := f_30.toInt) ez_31 if_29 rfl (by first | (clear h6 hc9 hlo hh if_1 bhpσ_3 chpσ_3 ir_2 iz_5 if_6 hm38 hge38 hn38 kdσ_10 pt ps gc_12_x_9 c_12 pt2 hm48 hge48 hn48 kdσ_22 gc_25_x_21 gc_25_f_24 c_25 iz_26 iz_27 iz_28; omega) | omega) (by first | (clear h6 hc9 hlo hh if_1 bhpσ_3 chpσ_3 ir_2 iz_5 if_6 hm38 hge38 hn38 kdσ_10 pt ps gc_12_x_9 c_12 pt2 ho hm48 hn48 kdσ_22 gc_25_f_24 iz_26 iz_27 iz_28; omega) | omega)
              refine q_iastN E hI (q_tk (k' := 34) hI ha rfl (Nat.succ_ne_zero _)) ⟨by decide, rfl⟩ (by first | (clear h6 hc9 hlo if_1 bhpσ_3 chpσ_3 ir_2 iz_5 if_6 hm38 hn38 kdσ_10 pt ps gc_12_x_9 pt2 ho hm48 hge48 hn48 kdσ_22 fqf_24 gc_25_x_21 gc_25_f_24 c_25 lu iz_26 iz_27 if_29 fqf_30 iz_31; omega) | omega) (by rw [q_lnk (v := 4650) hI (q_tk (k' := 34) hI ha rfl (Nat.succ_ne_zero _)) rfl (by decide)]; omega) (show 1 < 2 by decide) (q_inU rfl) dX12_laysDown_100 (fun H locs σ_32 hσ_32 hI => ?_)
              replace hF := q_letX hF hσ_32
              have fr_σ_32 := fr_σ_22.si hσ_32 (q_tk (k' := 34) hI ha rfl (Nat.succ_ne_zero _)) rfl
              have mcσ_32 := m_wr (v := z_31) (A := ((34 + (10 * v1.toInt)) + x_9.toInt)) hσ_32 iz_28 (by first | (clear h6 hc9 hlo if_1 bhpσ_3 chpσ_3 ir_2 iz_5 if_6 hm38 hn38 kdσ_10 pt ps gc_12_x_9 pt2 ho hm48 hge48 hn48 kdσ_22 fqf_24 gc_25_x_21 gc_25_f_24 c_25 lu iz_26 iz_27 if_29 fqf_30 iz_31; omega) | omega)
              have kdσ_32 : m_KD 40 X σ σ_32 := kdσ_22.ar hσ_32 (q_tk (k' := 34) hI ha rfl (Nat.succ_ne_zero _)) (by decide) (by decide)
              have foσ_32 : ∀ j, σ_32.1 r2 j = σ.1 r2 j := fun j => (q_rdn hσ_32 (Or.inl (m_ne hr2 (q_tk (k' := 34) hI ha rfl (Nat.succ_ne_zero _)) (by decide)))).trans (foσ_22 j)
              have ldσ_32 := ldσ_22.hand hL (by first | (clear h6 hc9 hlo hh if_1 bhpσ_3 chpσ_3 ir_2 iz_5 if_6 hm38 hn38 kdσ_10 pt ps gc_12_x_9 pt2 ho hm48 hge48 hn48 kdσ_22 fqf_24 gc_25_x_21 gc_25_f_24 c_25 lu iz_26 iz_27 if_29 fqf_30 iz_31 kdσ_32; omega) | omega) (by first | (clear h6 hc9 hlo hh if_1 bhpσ_3 chpσ_3 ir_2 iz_5 if_6 hm38 hge38 hn38 kdσ_10 pt ps gc_12_x_9 c_12 pt2 ho hm48 hn48 kdσ_22 gc_25_x_21 gc_25_f_24 lu iz_26 iz_27 iz_28 if_29 fqf_30 iz_31 kdσ_32; omega) | omega) mcσ_32 (by first | (clear h6 hc9 hlo hh if_1 bhpσ_3 chpσ_3 ir_2 iz_5 if_6 hm38 hge38 hn38 kdσ_10 pt ps gc_12_x_9 c_12 pt2 ho hm48 hge48 hn48 kdσ_22 gc_25_x_21 gc_25_f_24 c_25 lu iz_26 iz_27 iz_28 kdσ_32; omega) | omega)
              obtain ⟨z_33, ez_33⟩ : ∃ y : Int32, y = x_9 + 1 := ⟨_, rfl⟩
              replace hF := q_letX hF ez_33
              refine lv_iinc (v := z_33) (lv' := [(5, .int z_33), (0, .ref a), (1, .int v1), (2, .ref r2), (3, .int r_2), (4, .int x_20), (6, .int x_21)]) hx hb dX12_laysDown_101 hl (k := 5) rfl (by rw [ez_33]; rfl) (by decide) rfl (fun ls hl => ?_)
              have iz_33 : z_33.toInt = x_9.toInt + 1 := q_inc ez_33 (by first | (clear h6 hc9 hlo hh if_1 bhpσ_3 chpσ_3 ir_2 iz_5 if_6 hm38 hn38 kdσ_10 pt ps gc_12_x_9 pt2 ho hm48 hge48 hn48 kdσ_22 fqf_24 gc_25_x_21 gc_25_f_24 c_25 lu iz_26 iz_27 if_29 fqf_30 iz_31 kdσ_32; omega) | omega)
              have pz := ps
              rw [← iz_33] at pz
              refine lv_goto (tgt := 38) hx hb dX12_laysDown_104 (by decide) ?_
              exact ih38 x_20 z_33 σ_32 _ _ ls (by first | (clear h6 hc9 hlo hh if_1 bhpσ_3 chpσ_3 ir_2 iz_5 if_6 hn38 kdσ_10 pt ps gc_12_x_9 pt2 hm48 hn48 kdσ_22 gc_25_f_24 iz_26 iz_27 kdσ_32 pz; omega) | omega) (by first | (clear h6 hc9 hlo hh if_1 bhpσ_3 chpσ_3 ir_2 iz_5 if_6 hm38 hn38 kdσ_10 pt ps gc_12_x_9 pt2 ho hm48 hge48 hn48 kdσ_22 fqf_24 gc_25_x_21 gc_25_f_24 c_25 lu iz_26 iz_27 if_29 fqf_30 iz_31 kdσ_32 pz; omega) | omega) (by first | (clear h6 hc9 hlo hh if_1 bhpσ_3 chpσ_3 ir_2 iz_5 if_6 hm38 hge38 hn38 kdσ_10 pt gc_12_x_9 c_12 pt2 ho hm48 kdσ_22 gc_25_x_21 gc_25_f_24 lu iz_26 iz_27 iz_28 if_29 fqf_30 iz_31 kdσ_32 iz_33; omega) | omega) (by rw [iz_33]; exact ldσ_32) fr_σ_32 kdσ_32 foσ_32 hF hI (lv_sub hl [1, 2, 3, 4, 5, 0] rfl)
            · skip
              replace hF := q_ifp hF c_25
              refine lv_aload_n hx hb dX12_laysDown_57 rfl (lv_at hl 0 rfl) ?_
              refine gs_X12_35_12 E hI ha dX12_laysDown_58 ?_
              refine lv_iload_n hx hb dX12_laysDown_61 rfl (lv_at hl 3 rfl) ?_
              refine lv_iconst (v := 3) hx hb dX12_laysDown_62 zki_3 ?_
              refine lv_iadd hx hb dX12_laysDown_63 ?_
              refine lv_topi (fun z_34 ez_34 => ?_)
              replace hF := q_letX hF ez_34
              have iz_34 := q_addI (A := (94 + 7 * (m_c X σ a 9))) (B := 3) ez_34 ir_2 (by decide) (by first | (clear h6 hlo hh bhpσ_3 chpσ_3 ir_2 iz_5 if_6 hm38 hge38 hn38 kdσ_10 pt ps gc_12_x_9 c_12 pt2 ho hm48 hge48 hn48 kdσ_22 fqf_24 gc_25_x_21 gc_25_f_24 c_25; omega) | omega) (by first | (clear h6 hlo hh bhpσ_3 chpσ_3 ir_2 iz_5 if_6 hm38 hge38 hn38 kdσ_10 pt ps gc_12_x_9 c_12 pt2 ho hm48 hge48 hn48 kdσ_22 fqf_24 gc_25_x_21 gc_25_f_24 c_25; omega) | omega)
              refine lv_iload hx hb dX12_laysDown_64 (lv_at hl 4 rfl) ?_
              refine lv_iadd hx hb dX12_laysDown_66 ?_
              refine lv_topi (fun z_35 ez_35 => ?_)
              replace hF := q_letX hF ez_35
              have iz_35 := q_addI (A := ((94 + 7 * (m_c X σ a 9)) + 3)) (B := x_20.toInt) ez_35 iz_34 rfl (by first | (clear h6 hh bhpσ_3 chpσ_3 ir_2 iz_5 if_6 hm38 hge38 hn38 kdσ_10 gc_12_x_9 c_12 pt2 ho hm48 kdσ_22 fqf_24 gc_25_f_24 c_25 iz_34; omega) | omega) (by first | (clear h6 hh bhpσ_3 chpσ_3 ir_2 iz_5 if_6 hm38 hge38 hn38 kdσ_10 pt gc_12_x_9 c_12 ho hm48 hge48 kdσ_22 gc_25_x_21 gc_25_f_24 iz_34; omega) | omega)
              refine lv_iload hx hb dX12_laysDown_67 (lv_at hl 5 rfl) ?_
              refine q_iastN E hI (q_tk (k' := 34) hI ha rfl (Nat.succ_ne_zero _)) ⟨by decide, rfl⟩ (by first | (clear h6 hh bhpσ_3 chpσ_3 ir_2 iz_5 if_6 hm38 hge38 hn38 kdσ_10 gc_12_x_9 c_12 pt2 ho hm48 kdσ_22 fqf_24 gc_25_f_24 c_25 iz_34; omega) | omega) (by rw [q_lnk (v := 4650) hI (q_tk (k' := 34) hI ha rfl (Nat.succ_ne_zero _)) rfl (by decide)]; omega) (show 1 < 2 by decide) (q_inU rfl) dX12_laysDown_69 (fun H locs σ_36 hσ_36 hI => ?_)
              replace hF := q_letX hF hσ_36
              have fr_σ_36 := fr_σ_22.si hσ_36 (q_tk (k' := 34) hI ha rfl (Nat.succ_ne_zero _)) rfl
              have mcσ_36 := m_wr (v := x_9) (A := (((94 + 7 * (m_c X σ a 9)) + 3) + x_20.toInt)) hσ_36 iz_35 (by first | (clear h6 hh bhpσ_3 chpσ_3 ir_2 iz_5 if_6 hm38 hge38 hn38 kdσ_10 gc_12_x_9 c_12 pt2 ho hm48 kdσ_22 fqf_24 gc_25_f_24 c_25 iz_34; omega) | omega)
              have kdσ_36 : m_KD 40 X σ σ_36 := kdσ_22.ar hσ_36 (q_tk (k' := 34) hI ha rfl (Nat.succ_ne_zero _)) (by decide) (by decide)
              have foσ_36 : ∀ j, σ_36.1 r2 j = σ.1 r2 j := fun j => (q_rdn hσ_36 (Or.inl (m_ne hr2 (q_tk (k' := 34) hI ha rfl (Nat.succ_ne_zero _)) (by decide)))).trans (foσ_22 j)
              have ldσ_36 := ldσ_22.card hL (by first | (clear h6 hc9 hlo hh if_1 bhpσ_3 chpσ_3 ir_2 iz_5 if_6 hm38 hn38 kdσ_10 pt ps gc_12_x_9 pt2 ho hm48 hge48 hn48 kdσ_22 fqf_24 gc_25_x_21 gc_25_f_24 c_25 iz_34 iz_35 kdσ_36; omega) | omega) (by first | (clear h6 hc9 hlo hh if_1 bhpσ_3 chpσ_3 ir_2 iz_5 if_6 hm38 hge38 hn38 kdσ_10 pt ps gc_12_x_9 c_12 pt2 ho hm48 hn48 kdσ_22 gc_25_f_24 iz_34 iz_35 kdσ_36; omega) | omega) mcσ_36 rfl hn48
              obtain ⟨z_37, ez_37⟩ : ∃ y : Int32, y = x_20 + 1 := ⟨_, rfl⟩
              replace hF := q_letX hF ez_37
              refine lv_iinc (v := z_37) (lv' := [(4, .int z_37), (0, .ref a), (1, .int v1), (2, .ref r2), (3, .int r_2), (5, .int x_9), (6, .int x_21)]) hx hb dX12_laysDown_70 hl (k := 4) rfl (by rw [ez_37]; rfl) (by decide) rfl (fun ls hl => ?_)
              have iz_37 : z_37.toInt = x_20.toInt + 1 := q_inc ez_37 (by first | (clear h6 hc9 hh bhpσ_3 chpσ_3 ir_2 iz_5 if_6 hm38 hge38 hn38 kdσ_10 pt gc_12_x_9 c_12 ho hm48 hge48 kdσ_22 gc_25_x_21 gc_25_f_24 iz_34 kdσ_36; omega) | omega)
              obtain ⟨z_38, ez_38⟩ : ∃ y : Int32, y = x_21 + 1 := ⟨_, rfl⟩
              replace hF := q_letX hF ez_38
              refine lv_iinc (v := z_38) (lv' := [(6, .int z_38), (4, .int z_37), (0, .ref a), (1, .int v1), (2, .ref r2), (3, .int r_2), (5, .int x_9)]) hx hb dX12_laysDown_73 hl (k := 6) rfl (by rw [ez_38]; rfl) (by decide) rfl (fun ls hl => ?_)
              have iz_38 : z_38.toInt = x_21.toInt + 1 := q_inc ez_38 (by first | (clear h6 hc9 hlo hh if_1 bhpσ_3 chpσ_3 ir_2 iz_5 if_6 hm38 hge38 hn38 kdσ_10 pt ps gc_12_x_9 c_12 pt2 hm48 hn48 kdσ_22 iz_34 iz_35 kdσ_36 iz_37; omega) | omega)
              refine lv_goto (tgt := 48) hx hb dX12_laysDown_76 (by decide) ?_
              exact ih48 z_37 z_38 σ_36 _ _ ls (by first | (clear h6 hc9 hh bhpσ_3 chpσ_3 ir_2 iz_5 if_6 hm38 hge38 hn38 kdσ_10 gc_12_x_9 c_12 ho kdσ_22 gc_25_f_24 iz_34 kdσ_36; omega) | omega) (by first | (clear h6 hc9 hlo hh if_1 bhpσ_3 chpσ_3 ir_2 iz_5 if_6 hm38 hge38 hn38 kdσ_10 pt ps gc_12_x_9 c_12 pt2 ho hm48 hn48 kdσ_22 gc_25_f_24 iz_34 iz_35 kdσ_36 iz_37; omega) | omega) (by first | (clear h6 hc9 hlo hh bhpσ_3 chpσ_3 ir_2 iz_5 if_6 hm38 hge38 hn38 kdσ_10 pt gc_12_x_9 c_12 pt2 ho hm48 hge48 kdσ_22 fqf_24 gc_25_x_21 gc_25_f_24 c_25 iz_34 kdσ_36; omega) | omega) (by rw [iz_38]; exact ldσ_36) fr_σ_36 kdσ_36 foσ_36 hF hI (lv_sub hl [2, 3, 4, 5, 1, 6, 0] rfl)
        have kc_39 : (0 : Int32).toInt = 0 := zt_0
        exact L_48_23 ((2147483647 - (0 : Int32).toInt).toNat + 1) x_8 0 σ_10 _ _ ls (Nat.lt_succ_self _) (by have q : (0 : Int32).toInt = 0 := rfl; omega) (by have q : (0 : Int32).toInt = 0 := rfl; omega) ldσ_10 fr_σ_10 kdσ_10 foσ_10 hF hI (lv_sub hl [1, 2, 3, 4, 5, 6, 0] rfl)
  have kc_40 : (0 : Int32).toInt = 0 := zt_0
  exact L_38_11 ((2147483647 - (0 : Int32).toInt).toNat + 1) 0 0 σ_7 _ _ ls (Nat.lt_succ_self _) (by decide) rfl ld0 fr_σ_7 kdσ_7 foσ_7 hF hI (lv_sub hl [3, 4, 5, 2, 1, 0] rfl)

set_option maxRecDepth 100000 in
set_option maxHeartbeats 4000000 in
theorem c_X12_bend (l : Launch) (X : XW) (σ : ST) (a : Nat) (v1 : Int32) (v2 : Int32) (v3 : Int32) (n : Int) (ha : q_kd X a = 12) (hG : m_G (m_c X σ a)) (hW : m_W (m_c X σ a) n) (hn : n ≤ 199000) : Met l yX12_bend (q_ws yX12_bend cX12_bend 4 (some .boolean)) (q_rm 2 46) (q_P X σ [.ref a, .int v1, .int v2, .int v3]) (q_Qi X 1 σ (fun (r : Int32) (σ' : ST) => (0 ≤ r.toInt ∧ r.toInt ≤ 1) ∧ (m_G (m_c X σ' a)) ∧ (m_W (m_c X σ' a) (n + 301)) ∧ (∀ j, 930 ≤ j → j < 3720 → m_c X σ' a j = m_c X σ a j) ∧ (r, σ') = F_X12_bend X σ a v1 v2 v3 ∧ q_ow [(12, 0), (12, 1), (34, 99)] [] X σ σ')) 0 0 (q_reg X) := by
  refine q_met 1 (by first | exact rfl | decide +kernel) rfl (Nat.le_of_ble_eq_true rfl) (fun p e s m below meth c E hml hr hlk hI ls hl => ?_)
  have hx := E.1
  have hb := E.2.1
  have hl : lv_has ls 4 [(0, .ref a), (1, .int v1), (2, .int v2), (3, .int v3)] := hl
  have gσ : m_G (m_c X σ a) := hG
  have wσ : m_W (m_c X σ a) n := hW
  have kqσ : ∀ j, 654 ≤ j → m_c X σ a j = m_c X σ a j := fun _ _ => rfl
  have fxσ : m_c X σ a = m_c X σ a := rfl
  have fr_σ : q_ow [(12, 0), (12, 1), (34, 99)] [] X σ σ := q_ow.rf
  have hh := hG.hd
  obtain ⟨out, hout⟩ : ∃ o, o = F_X12_bend X σ a v1 v2 v3 := ⟨_, rfl⟩
  have hF := hout.symm
  unfold F_X12_bend at hF
  refine lv_aload_n hx hb dX12_bend_0 rfl (lv_at hl 0 rfl) ?_
  refine lv_iconst (v := 0) hx hb dX12_bend_1 zki_0 ?_
  refine ps_X12_59_12 E hI ha (by decide) dX12_bend_2 (fun H locs σ_1 hσ_1 hI => ?_)
  replace hF := q_letX hF hσ_1
  have fr_σ_1 := fr_σ.si hσ_1 ha rfl
  have mcσ_1 := m_wo hσ_1 (m_ne ha (q_tk (f := 20) (k' := 34) hI ha rfl (by decide)) (by decide))
  have gσ_1 : m_G (m_c X σ_1 a) := m_G.ext (fun j _ _ => mcσ_1 j) gσ
  have wσ_1 : m_W (m_c X σ_1 a) n := m_W.ext (fun j _ _ => mcσ_1 j) wσ
  have kqσ_1 : ∀ j, 654 ≤ j → m_c X σ_1 a j = m_c X σ a j := fun j h => (mcσ_1 j).trans (kqσ j h)
  have fxσ_1 : m_c X σ_1 a = m_c X σ a := (funext mcσ_1).trans fxσ
  refine lv_aload_n hx hb dX12_bend_5 rfl (lv_at hl 0 rfl) ?_
  refine lv_iconst (v := 0) hx hb dX12_bend_6 zki_0 ?_
  refine ps_X12_62_12 E hI ha (by decide) dX12_bend_7 (fun H locs σ_2 hσ_2 hI => ?_)
  replace hF := q_letX hF hσ_2
  have fr_σ_2 := fr_σ_1.si hσ_2 ha rfl
  have mcσ_2 := m_wo hσ_2 (m_ne ha (q_tk (f := 20) (k' := 34) hI ha rfl (by decide)) (by decide))
  have gσ_2 : m_G (m_c X σ_2 a) := m_G.ext (fun j _ _ => mcσ_2 j) gσ_1
  have wσ_2 : m_W (m_c X σ_2 a) n := m_W.ext (fun j _ _ => mcσ_2 j) wσ_1
  have kqσ_2 : ∀ j, 654 ≤ j → m_c X σ_2 a j = m_c X σ a j := fun j h => (mcσ_2 j).trans (kqσ_1 j h)
  have fxσ_2 : m_c X σ_2 a = m_c X σ a := (funext mcσ_2).trans fxσ_1
  refine lv_aload_n hx hb dX12_bend_10 rfl (lv_at hl 0 rfl) ?_
  refine lv_iload_n hx hb dX12_bend_11 rfl (lv_at hl 1 rfl) ?_
  refine q_ci (q_rV11_1 (rest := []) E (hml.trans hl.1.symm) hI (c_X12_isPlayerAt l X σ_2 a v1 ha (by rw [fxσ_2]; exact hG)) kv_X12_290 ha ⟨Nat.le_of_ble_eq_true rfl, Nat.le_of_ble_eq_true rfl⟩ (Nat.le_of_ble_eq_true rfl) dX12_bend_12) hI (Nat.le_of_ble_eq_true rfl) (fun r_3 σ_4 H locs hpσ_4 hkσ_4 hI => ?_)
  have ahpσ_4 := hpσ_4.1
  have bhpσ_4 := hpσ_4.2.1
  have chpσ_4 := hpσ_4.2.2.1
  have dhpσ_4 := hpσ_4.2.2.2
  clear hpσ_4
  replace hI := q_Irw ahpσ_4 hI
  rw [fxσ_2] at chpσ_4
  replace hF := q_letX hF dhpσ_4
  refine q_if_ne (A := r_3.toInt) E rfl (tgt := 24) dX12_bend_15 (by decide) (fun c_5 => ?_) (fun c_5 => ?_)
  · skip
    replace hF := q_ifn hF c_5
    replace c_5 := q_ifOne bhpσ_4 c_5
    replace chpσ_4 := q_ifYes chpσ_4 c_5
    refine lv_iload_n hx hb dX12_bend_24 rfl (lv_at hl 2 rfl) ?_
    refine lv_i2l hx hb dX12_bend_25 rfl ?_
    refine lv_topl (fun y_6 ey_6 => ?_)
    replace hF := q_letX hF ey_6
    have ggy_6 := q_rng v2
    have iy_6 : y_6.toInt = v2.toInt := by rw [ey_6]; exact (q_i2l _).trans rfl
    refine lv_lconst (v := 0) hx hb dX12_bend_26 (by decide) ?_
    refine lv_ldc2 (v := 16) hx hb E.2.2.1 (E.2.2.2.1 _ (q_in_t8 (i := 224) (by first | rfl | decide +kernel) rfl)) dX12_bend_27 ?_
    have kc_7 : (0 : Int64).toInt = 0 := rfl
    have kc_8 : (16 : Int64).toInt = 16 := rfl
    refine q_ci (q_runS (As := [.long y_6, .long 0, .long 16]) (rest := []) E (hml.trans hl.1.symm) hI (c_X12_isIn l X σ_2 y_6 (0 : Int64) (16 : Int64)) ks_X12_94 rfl ⟨Nat.le_of_ble_eq_true rfl, Nat.le_of_ble_eq_true rfl⟩ ⟨Nat.le_refl _, Nat.le_refl _⟩ rfl (Nat.le_of_ble_eq_true rfl) dX12_bend_30) hI (Nat.le_of_ble_eq_true rfl) (fun r_9 σ_10 H locs hpσ_10 hkσ_10 hI => ?_)
    have ahpσ_10 := hpσ_10.1
    have bhpσ_10 := hpσ_10.2.1
    have chpσ_10 := hpσ_10.2.2.1
    have dhpσ_10 := hpσ_10.2.2.2
    clear hpσ_10
    replace hI := q_Irw ahpσ_10 hI
    replace hF := q_letX hF dhpσ_10
    refine q_if_eq (A := r_9.toInt) E rfl (tgt := 48) dX12_bend_33 (by decide) (fun c_11 => ?_) (fun c_11 => ?_)
    · skip
      replace hF := q_ifp hF c_11
      replace chpσ_10 := q_ifNo chpσ_10 c_11
      refine lv_aload_n hx hb dX12_bend_48 rfl (lv_at hl 0 rfl) ?_
      refine lv_iconst (v := 5) hx hb dX12_bend_49 zki_5 ?_
      have kc_12 : (5 : Int32).toInt = 5 := zt_5
      refine q_ci (q_rV11_1 (rest := []) E (hml.trans hl.1.symm) hI (c_X12_no l X σ_2 a (5 : Int32) ha) kv_X12_74 ha ⟨Nat.le_of_ble_eq_true rfl, Nat.le_of_ble_eq_true rfl⟩ (Nat.le_of_ble_eq_true rfl) dX12_bend_50) hI (Nat.le_of_ble_eq_true rfl) (fun r_13 σ_14 H locs hpσ_14 hkσ_14 hI => ?_)
      have ahpσ_14 := hpσ_14.1
      have bhpσ_14 := hpσ_14.2.1
      have chpσ_14 := hpσ_14.2.2.1
      have dhpσ_14 := hpσ_14.2.2.2
      clear hpσ_14
      have fr_σ_14 := fr_σ_2.call dhpσ_14 rfl rfl
      replace hF := q_biX hF chpσ_14
      have mcσ_14 := m_cK hkσ_14 hI.1 ha (by decide)
      have gσ_14 : m_G (m_c X σ_14 a) := m_G.ext (fun j _ _ => mcσ_14 j) gσ_2
      have wσ_14 : m_W (m_c X σ_14 a) n := m_W.ext (fun j _ _ => mcσ_14 j) wσ_2
      have kqσ_14 : ∀ j, 654 ≤ j → m_c X σ_14 a j = m_c X σ a j := fun j h => (mcσ_14 j).trans (kqσ_2 j h)
      have fxσ_14 : m_c X σ_14 a = m_c X σ a := (funext mcσ_14).trans fxσ_2
      exact q_retz E hr hlk hI ⟨by omega, by omega⟩ ⟨⟨by omega, by omega⟩, gσ_14, (by first | exact m_W.le vσ_14 (by omega) | exact m_W.le wσ_14 (by first | (clear hn gσ wσ hh gσ_1 wσ_1 gσ_2 wσ_2 ahpσ_4 bhpσ_4 dhpσ_4 c_5 chpσ_4 ggy_6 iy_6 kc_7 kc_8 ahpσ_10 bhpσ_10 dhpσ_10 c_11 chpσ_10 kc_12 ahpσ_14 bhpσ_14 chpσ_14 dhpσ_14 gσ_14 wσ_14; omega) | omega)), (fun j h0 h1 => kqσ_14 j (by first | (clear hn gσ wσ hh gσ_1 wσ_1 gσ_2 wσ_2 ahpσ_4 bhpσ_4 dhpσ_4 c_5 chpσ_4 ggy_6 iy_6 kc_7 kc_8 ahpσ_10 bhpσ_10 dhpσ_10 c_11 chpσ_10 kc_12 ahpσ_14 bhpσ_14 chpσ_14 dhpσ_14 gσ_14 wσ_14; omega) | omega)), (hF.trans hout), fr_σ_14⟩ dX12_bend_53
    · skip
      replace hF := q_ifn hF c_11
      replace c_11 := q_ifOne bhpσ_10 c_11
      replace chpσ_10 := q_ifYes chpσ_10 c_11
      refine lv_iload_n hx hb dX12_bend_36 rfl (lv_at hl 3 rfl) ?_
      refine lv_i2l hx hb dX12_bend_37 rfl ?_
      refine lv_topl (fun y_15 ey_15 => ?_)
      replace hF := q_letX hF ey_15
      have ggy_15 := q_rng v3
      have iy_15 : y_15.toInt = v3.toInt := by rw [ey_15]; exact (q_i2l _).trans rfl
      refine lv_lconst (v := 0) hx hb dX12_bend_38 (by decide) ?_
      refine lv_ldc2 (v := 16) hx hb E.2.2.1 (E.2.2.2.1 _ (q_in_t8 (i := 224) (by first | rfl | decide +kernel) rfl)) dX12_bend_39 ?_
      have kc_16 : (0 : Int64).toInt = 0 := rfl
      have kc_17 : (16 : Int64).toInt = 16 := rfl
      refine q_ci (q_runS (As := [.long y_15, .long 0, .long 16]) (rest := []) E (hml.trans hl.1.symm) hI (c_X12_isIn l X σ_2 y_15 (0 : Int64) (16 : Int64)) ks_X12_94 rfl ⟨Nat.le_of_ble_eq_true rfl, Nat.le_of_ble_eq_true rfl⟩ ⟨Nat.le_refl _, Nat.le_refl _⟩ rfl (Nat.le_of_ble_eq_true rfl) dX12_bend_42) hI (Nat.le_of_ble_eq_true rfl) (fun r_18 σ_19 H locs hpσ_19 hkσ_19 hI => ?_)
      have ahpσ_19 := hpσ_19.1
      have bhpσ_19 := hpσ_19.2.1
      have chpσ_19 := hpσ_19.2.2.1
      have dhpσ_19 := hpσ_19.2.2.2
      clear hpσ_19
      replace hI := q_Irw ahpσ_19 hI
      replace hF := q_letX hF dhpσ_19
      refine q_if_ne (A := r_18.toInt) E rfl (tgt := 54) dX12_bend_45 (by decide) (fun c_20 => ?_) (fun c_20 => ?_)
      · skip
        replace hF := q_ifn hF c_20
        replace c_20 := q_ifOne bhpσ_19 c_20
        replace chpσ_19 := q_ifYes chpσ_19 c_20
        refine lv_aload_n hx hb dX12_bend_54 rfl (lv_at hl 0 rfl) ?_
        refine gs_X12_35_12 E hI ha dX12_bend_55 ?_
        refine lv_bipush (v := 10) hx hb dX12_bend_58 zkb_10 ?_
        refine lv_iload_n hx hb dX12_bend_60 rfl (lv_at hl 1 rfl) ?_
        refine lv_iadd hx hb dX12_bend_61 ?_
        refine lv_topi (fun z_21 ez_21 => ?_)
        replace hF := q_letX hF ez_21
        have iz_21 := q_addI (A := 10) (B := v1.toInt) ez_21 (by decide) rfl (by first | (clear hn gσ wσ hh gσ_1 wσ_1 gσ_2 wσ_2 ahpσ_4 bhpσ_4 dhpσ_4 c_5 ggy_6 iy_6 kc_7 kc_8 ahpσ_10 bhpσ_10 dhpσ_10 c_11 chpσ_10 ggy_15 iy_15 kc_16 kc_17 ahpσ_19 bhpσ_19 dhpσ_19 c_20 chpσ_19; omega) | omega) (by first | (clear hn gσ wσ gσ_1 wσ_1 gσ_2 wσ_2 ahpσ_4 bhpσ_4 dhpσ_4 c_5 ggy_6 iy_6 kc_7 kc_8 ahpσ_10 bhpσ_10 dhpσ_10 c_11 chpσ_10 ggy_15 iy_15 kc_16 kc_17 ahpσ_19 bhpσ_19 dhpσ_19 c_20 chpσ_19; omega) | omega)
        refine lv_iload_n hx hb dX12_bend_62 rfl (lv_at hl 2 rfl) ?_
        refine q_iastN E hI (q_tk (k' := 34) hI ha rfl (Nat.succ_ne_zero _)) ⟨by decide, rfl⟩ (by first | (clear hn gσ wσ hh gσ_1 wσ_1 gσ_2 wσ_2 ahpσ_4 bhpσ_4 dhpσ_4 c_5 ggy_6 iy_6 kc_7 kc_8 ahpσ_10 bhpσ_10 dhpσ_10 c_11 chpσ_10 ggy_15 iy_15 kc_16 kc_17 ahpσ_19 bhpσ_19 dhpσ_19 c_20 chpσ_19; omega) | omega) (by rw [q_lnk (v := 4650) hI (q_tk (k' := 34) hI ha rfl (Nat.succ_ne_zero _)) rfl (by decide)]; omega) (show 1 < 2 by decide) (q_inU rfl) dX12_bend_63 (fun H locs σ_22 hσ_22 hI => ?_)
        replace hF := q_letX hF hσ_22
        have fr_σ_22 := fr_σ_2.si hσ_22 (q_tk (k' := 34) hI ha rfl (Nat.succ_ne_zero _)) rfl
        have mcσ_22 := m_wr (v := v2) (A := (10 + v1.toInt)) hσ_22 iz_21 (by first | (clear hn gσ wσ hh gσ_1 wσ_1 gσ_2 wσ_2 ahpσ_4 bhpσ_4 dhpσ_4 c_5 ggy_6 iy_6 kc_7 kc_8 ahpσ_10 bhpσ_10 dhpσ_10 c_11 chpσ_10 ggy_15 iy_15 kc_16 kc_17 ahpσ_19 bhpσ_19 dhpσ_19 c_20 chpσ_19; omega) | omega)
        have gσ_22 : m_G (m_c X σ_22 a) := m_G.wr gσ_2 mcσ_22 (by first | (clear hn gσ wσ gσ_1 wσ_1 gσ_2 wσ_2 ahpσ_4 bhpσ_4 dhpσ_4 c_5 kc_8 ahpσ_10 bhpσ_10 dhpσ_10 c_11 ggy_15 iy_15 kc_16 kc_17 ahpσ_19 bhpσ_19 dhpσ_19 c_20 chpσ_19; omega) | omega)
        have wσ_22 : m_W (m_c X σ_22 a) n := m_W.wr wσ_2 mcσ_22 (by first | (clear hn gσ wσ gσ_1 wσ_1 gσ_2 wσ_2 ahpσ_4 bhpσ_4 dhpσ_4 c_5 ggy_6 iy_6 kc_7 kc_8 ahpσ_10 bhpσ_10 dhpσ_10 c_11 chpσ_10 ggy_15 iy_15 kc_16 kc_17 ahpσ_19 bhpσ_19 dhpσ_19 c_20 chpσ_19 gσ_22; omega) | omega)
        have kqσ_22 : ∀ j, 654 ≤ j → m_c X σ_22 a j = m_c X σ a j := fun j h => by rw [mcσ_22 j (by first | (clear hn gσ wσ hh gσ_1 wσ_1 gσ_2 wσ_2 ahpσ_4 bhpσ_4 dhpσ_4 c_5 chpσ_4 ggy_6 iy_6 kc_7 kc_8 ahpσ_10 bhpσ_10 dhpσ_10 c_11 chpσ_10 ggy_15 iy_15 kc_16 kc_17 ahpσ_19 bhpσ_19 dhpσ_19 c_20 chpσ_19 iz_21 gσ_22 wσ_22; omega) | omega), if_neg (by first | (clear hn gσ wσ gσ_1 wσ_1 gσ_2 wσ_2 ahpσ_4 bhpσ_4 dhpσ_4 c_5 ggy_6 iy_6 kc_7 kc_8 ahpσ_10 bhpσ_10 dhpσ_10 c_11 chpσ_10 ggy_15 iy_15 kc_16 kc_17 ahpσ_19 bhpσ_19 dhpσ_19 c_20 chpσ_19 gσ_22 wσ_22; omega) | omega)] <;> exact kqσ_2 j h
        refine lv_aload_n hx hb dX12_bend_64 rfl (lv_at hl 0 rfl) ?_
        refine gs_X12_35_12 E hI ha dX12_bend_65 ?_
        refine lv_bipush (v := 16) hx hb dX12_bend_68 zkb_16 ?_
        refine lv_iload_n hx hb dX12_bend_70 rfl (lv_at hl 1 rfl) ?_
        refine lv_iadd hx hb dX12_bend_71 ?_
        refine lv_topi (fun z_23 ez_23 => ?_)
        replace hF := q_letX hF ez_23
        have iz_23 := q_addI (A := 16) (B := v1.toInt) ez_23 (by decide) rfl (by first | (clear hn gσ wσ hh gσ_1 wσ_1 gσ_2 wσ_2 ahpσ_4 bhpσ_4 dhpσ_4 c_5 ggy_6 iy_6 kc_7 kc_8 ahpσ_10 bhpσ_10 dhpσ_10 c_11 chpσ_10 ggy_15 iy_15 kc_16 kc_17 ahpσ_19 bhpσ_19 dhpσ_19 c_20 chpσ_19 gσ_22 wσ_22; omega) | omega) (by first | (clear hn gσ wσ gσ_1 wσ_1 gσ_2 wσ_2 ahpσ_4 bhpσ_4 dhpσ_4 c_5 ggy_6 iy_6 kc_7 kc_8 ahpσ_10 bhpσ_10 dhpσ_10 c_11 chpσ_10 ggy_15 iy_15 kc_16 kc_17 ahpσ_19 bhpσ_19 dhpσ_19 c_20 chpσ_19 gσ_22 wσ_22; omega) | omega)
        refine lv_iload_n hx hb dX12_bend_72 rfl (lv_at hl 3 rfl) ?_
        refine q_iastN E hI (q_tk (k' := 34) hI ha rfl (Nat.succ_ne_zero _)) ⟨by decide, rfl⟩ (by first | (clear hn gσ wσ hh gσ_1 wσ_1 gσ_2 wσ_2 ahpσ_4 bhpσ_4 dhpσ_4 c_5 ggy_6 iy_6 kc_7 kc_8 ahpσ_10 bhpσ_10 dhpσ_10 c_11 chpσ_10 ggy_15 iy_15 kc_16 kc_17 ahpσ_19 bhpσ_19 dhpσ_19 c_20 chpσ_19 gσ_22 wσ_22; omega) | omega) (by rw [q_lnk (v := 4650) hI (q_tk (k' := 34) hI ha rfl (Nat.succ_ne_zero _)) rfl (by decide)]; omega) (show 1 < 2 by decide) (q_inU rfl) dX12_bend_73 (fun H locs σ_24 hσ_24 hI => ?_)
        replace hF := q_letX hF hσ_24
        have fr_σ_24 := fr_σ_22.si hσ_24 (q_tk (k' := 34) hI ha rfl (Nat.succ_ne_zero _)) rfl
        have mcσ_24 := m_wr (v := v3) (A := (16 + v1.toInt)) hσ_24 iz_23 (by first | (clear hn gσ wσ hh gσ_1 wσ_1 gσ_2 wσ_2 ahpσ_4 bhpσ_4 dhpσ_4 c_5 ggy_6 iy_6 kc_7 kc_8 ahpσ_10 bhpσ_10 dhpσ_10 c_11 chpσ_10 ggy_15 iy_15 kc_16 kc_17 ahpσ_19 bhpσ_19 dhpσ_19 c_20 chpσ_19 gσ_22 wσ_22; omega) | omega)
        have gσ_24 : m_G (m_c X σ_24 a) := m_G.wr gσ_22 mcσ_24 (by first | (clear hn gσ wσ gσ_1 wσ_1 gσ_2 wσ_2 ahpσ_4 bhpσ_4 dhpσ_4 c_5 ggy_6 iy_6 ahpσ_10 bhpσ_10 dhpσ_10 c_11 chpσ_10 kc_16 kc_17 ahpσ_19 bhpσ_19 dhpσ_19 c_20 gσ_22 wσ_22; omega) | omega)
        have wσ_24 : m_W (m_c X σ_24 a) n := m_W.wr wσ_22 mcσ_24 (by first | (clear hn gσ wσ gσ_1 wσ_1 gσ_2 wσ_2 ahpσ_4 bhpσ_4 dhpσ_4 c_5 ggy_6 iy_6 kc_7 kc_8 ahpσ_10 bhpσ_10 dhpσ_10 c_11 chpσ_10 ggy_15 iy_15 kc_16 kc_17 ahpσ_19 bhpσ_19 dhpσ_19 c_20 chpσ_19 gσ_22 wσ_22 gσ_24; omega) | omega)
        have kqσ_24 : ∀ j, 654 ≤ j → m_c X σ_24 a j = m_c X σ a j := fun j h => by rw [mcσ_24 j (by first | (clear hn gσ wσ hh gσ_1 wσ_1 gσ_2 wσ_2 ahpσ_4 bhpσ_4 dhpσ_4 c_5 chpσ_4 ggy_6 iy_6 kc_7 kc_8 ahpσ_10 bhpσ_10 dhpσ_10 c_11 chpσ_10 ggy_15 iy_15 kc_16 kc_17 ahpσ_19 bhpσ_19 dhpσ_19 c_20 chpσ_19 iz_21 gσ_22 wσ_22 iz_23 gσ_24 wσ_24; omega) | omega), if_neg (by first | (clear hn gσ wσ gσ_1 wσ_1 gσ_2 wσ_2 ahpσ_4 bhpσ_4 dhpσ_4 c_5 ggy_6 iy_6 kc_7 kc_8 ahpσ_10 bhpσ_10 dhpσ_10 c_11 chpσ_10 ggy_15 iy_15 kc_16 kc_17 ahpσ_19 bhpσ_19 dhpσ_19 c_20 chpσ_19 gσ_22 wσ_22 gσ_24 wσ_24; omega) | omega)] <;> exact kqσ_22 j h
        refine lv_iconst (v := 1) hx hb dX12_bend_74 zki_1 ?_
        have hrv : (1 : Int32).toInt = 1 := zt_1
        exact q_retz E hr hlk hI ⟨by decide, by decide⟩ ⟨⟨by decide, by decide⟩, gσ_24, (by first | exact m_W.le vσ_24 (by omega) | exact m_W.le wσ_24 (by first | (clear hn gσ wσ hh gσ_1 wσ_1 gσ_2 wσ_2 ahpσ_4 bhpσ_4 dhpσ_4 c_5 chpσ_4 ggy_6 iy_6 kc_7 kc_8 ahpσ_10 bhpσ_10 dhpσ_10 c_11 chpσ_10 ggy_15 iy_15 kc_16 kc_17 ahpσ_19 bhpσ_19 dhpσ_19 c_20 chpσ_19 iz_21 gσ_22 wσ_22 iz_23 gσ_24 wσ_24 hrv; omega) | omega)), (fun j h0 h1 => kqσ_24 j (by first | (clear hn gσ wσ hh gσ_1 wσ_1 gσ_2 wσ_2 ahpσ_4 bhpσ_4 dhpσ_4 c_5 chpσ_4 ggy_6 iy_6 kc_7 kc_8 ahpσ_10 bhpσ_10 dhpσ_10 c_11 chpσ_10 ggy_15 iy_15 kc_16 kc_17 ahpσ_19 bhpσ_19 dhpσ_19 c_20 chpσ_19 iz_21 gσ_22 wσ_22 iz_23 gσ_24 wσ_24 hrv; omega) | omega)), (hF.trans hout), fr_σ_24⟩ dX12_bend_75
      · skip
        replace hF := q_ifp hF c_20
        replace chpσ_19 := q_ifNo chpσ_19 c_20
        refine lv_aload_n hx hb dX12_bend_48 rfl (lv_at hl 0 rfl) ?_
        refine lv_iconst (v := 5) hx hb dX12_bend_49 zki_5 ?_
        have kc_25 : (5 : Int32).toInt = 5 := zt_5
        refine q_ci (q_rV11_1 (rest := []) E (hml.trans hl.1.symm) hI (c_X12_no l X σ_2 a (5 : Int32) ha) kv_X12_74 ha ⟨Nat.le_of_ble_eq_true rfl, Nat.le_of_ble_eq_true rfl⟩ (Nat.le_of_ble_eq_true rfl) dX12_bend_50) hI (Nat.le_of_ble_eq_true rfl) (fun r_26 σ_27 H locs hpσ_27 hkσ_27 hI => ?_)
        have ahpσ_27 := hpσ_27.1
        have bhpσ_27 := hpσ_27.2.1
        have chpσ_27 := hpσ_27.2.2.1
        have dhpσ_27 := hpσ_27.2.2.2
        clear hpσ_27
        have fr_σ_27 := fr_σ_2.call dhpσ_27 rfl rfl
        replace hF := q_biX hF chpσ_27
        have mcσ_27 := m_cK hkσ_27 hI.1 ha (by decide)
        have gσ_27 : m_G (m_c X σ_27 a) := m_G.ext (fun j _ _ => mcσ_27 j) gσ_2
        have wσ_27 : m_W (m_c X σ_27 a) n := m_W.ext (fun j _ _ => mcσ_27 j) wσ_2
        have kqσ_27 : ∀ j, 654 ≤ j → m_c X σ_27 a j = m_c X σ a j := fun j h => (mcσ_27 j).trans (kqσ_2 j h)
        have fxσ_27 : m_c X σ_27 a = m_c X σ a := (funext mcσ_27).trans fxσ_2
        exact q_retz E hr hlk hI ⟨by omega, by omega⟩ ⟨⟨by omega, by omega⟩, gσ_27, (by first | exact m_W.le vσ_27 (by omega) | exact m_W.le wσ_27 (by first | (clear hn gσ wσ hh gσ_1 wσ_1 gσ_2 wσ_2 ahpσ_4 bhpσ_4 dhpσ_4 c_5 chpσ_4 ggy_6 iy_6 kc_7 kc_8 ahpσ_10 bhpσ_10 dhpσ_10 c_11 chpσ_10 ggy_15 iy_15 kc_16 kc_17 ahpσ_19 bhpσ_19 dhpσ_19 c_20 chpσ_19 kc_25 ahpσ_27 bhpσ_27 chpσ_27 dhpσ_27 gσ_27 wσ_27; omega) | omega)), (fun j h0 h1 => kqσ_27 j (by first | (clear hn gσ wσ hh gσ_1 wσ_1 gσ_2 wσ_2 ahpσ_4 bhpσ_4 dhpσ_4 c_5 chpσ_4 ggy_6 iy_6 kc_7 kc_8 ahpσ_10 bhpσ_10 dhpσ_10 c_11 chpσ_10 ggy_15 iy_15 kc_16 kc_17 ahpσ_19 bhpσ_19 dhpσ_19 c_20 chpσ_19 kc_25 ahpσ_27 bhpσ_27 chpσ_27 dhpσ_27 gσ_27 wσ_27; omega) | omega)), (hF.trans hout), fr_σ_27⟩ dX12_bend_53
  · skip
    replace hF := q_ifp hF c_5
    replace chpσ_4 := q_ifNo chpσ_4 c_5
    refine lv_aload_n hx hb dX12_bend_18 rfl (lv_at hl 0 rfl) ?_
    refine lv_iconst (v := 2) hx hb dX12_bend_19 zki_2 ?_
    have kc_28 : (2 : Int32).toInt = 2 := zt_2
    refine q_ci (q_rV11_1 (rest := []) E (hml.trans hl.1.symm) hI (c_X12_no l X σ_2 a (2 : Int32) ha) kv_X12_74 ha ⟨Nat.le_of_ble_eq_true rfl, Nat.le_of_ble_eq_true rfl⟩ (Nat.le_of_ble_eq_true rfl) dX12_bend_20) hI (Nat.le_of_ble_eq_true rfl) (fun r_29 σ_30 H locs hpσ_30 hkσ_30 hI => ?_)
    have ahpσ_30 := hpσ_30.1
    have bhpσ_30 := hpσ_30.2.1
    have chpσ_30 := hpσ_30.2.2.1
    have dhpσ_30 := hpσ_30.2.2.2
    clear hpσ_30
    have fr_σ_30 := fr_σ_2.call dhpσ_30 rfl rfl
    replace hF := q_biX hF chpσ_30
    have mcσ_30 := m_cK hkσ_30 hI.1 ha (by decide)
    have gσ_30 : m_G (m_c X σ_30 a) := m_G.ext (fun j _ _ => mcσ_30 j) gσ_2
    have wσ_30 : m_W (m_c X σ_30 a) n := m_W.ext (fun j _ _ => mcσ_30 j) wσ_2
    have kqσ_30 : ∀ j, 654 ≤ j → m_c X σ_30 a j = m_c X σ a j := fun j h => (mcσ_30 j).trans (kqσ_2 j h)
    have fxσ_30 : m_c X σ_30 a = m_c X σ a := (funext mcσ_30).trans fxσ_2
    exact q_retz E hr hlk hI ⟨by omega, by omega⟩ ⟨⟨by omega, by omega⟩, gσ_30, (by first | exact m_W.le vσ_30 (by omega) | exact m_W.le wσ_30 (by first | (clear hn gσ wσ hh gσ_1 wσ_1 gσ_2 wσ_2 ahpσ_4 bhpσ_4 dhpσ_4 c_5 chpσ_4 kc_28 ahpσ_30 bhpσ_30 chpσ_30 dhpσ_30 gσ_30 wσ_30; omega) | omega)), (fun j h0 h1 => kqσ_30 j (by first | (clear hn gσ wσ hh gσ_1 wσ_1 gσ_2 wσ_2 ahpσ_4 bhpσ_4 dhpσ_4 c_5 chpσ_4 kc_28 ahpσ_30 bhpσ_30 chpσ_30 dhpσ_30 gσ_30 wσ_30; omega) | omega)), (hF.trans hout), fr_σ_30⟩ dX12_bend_23

set_option maxRecDepth 100000 in
set_option maxHeartbeats 4000000 in
theorem c_X12_leave (l : Launch) (X : XW) (σ : ST) (a : Nat) (n : Int) (ha : q_kd X a = 12) (hG : m_G (m_c X σ a)) (hW : m_W (m_c X σ a) n) (hn : n ≤ 199000) : Met l yX12_leave (q_ws yX12_leave cX12_leave 1 (some .int)) (q_rm 3 66) (q_P X σ [.ref a]) (q_Qi X 1 σ (fun (r : Int32) (σ' : ST) => (m_G (m_c X σ' a)) ∧ (m_W (m_c X σ' a) (n + 301)) ∧ (∀ j, 930 ≤ j → j < 3720 → m_c X σ' a j = m_c X σ a j) ∧ (r, σ') = F_X12_leave X σ a ∧ q_ow [(12, 0), (12, 1), (34, 99)] [] X σ σ')) 0 0 (q_reg X) := by
  refine q_met 1 (by first | exact rfl | decide +kernel) rfl (Nat.le_of_ble_eq_true rfl) (fun p e s m below meth c E hml hr hlk hI ls hl => ?_)
  have hx := E.1
  have hb := E.2.1
  have hl : lv_has ls 1 [(0, .ref a)] := hl
  have gσ : m_G (m_c X σ a) := hG
  have wσ : m_W (m_c X σ a) n := hW
  have kqσ : ∀ j, 654 ≤ j → m_c X σ a j = m_c X σ a j := fun _ _ => rfl
  have fxσ : m_c X σ a = m_c X σ a := rfl
  have fr_σ : q_ow [(12, 0), (12, 1), (34, 99)] [] X σ σ := q_ow.rf
  have hh := hG.hd
  obtain ⟨out, hout⟩ : ∃ o, o = F_X12_leave X σ a := ⟨_, rfl⟩
  have hF := hout.symm
  unfold F_X12_leave at hF
  refine lv_aload_n hx hb dX12_leave_0 rfl (lv_at hl 0 rfl) ?_
  refine lv_iconst (v := 0) hx hb dX12_leave_1 zki_0 ?_
  refine ps_X12_59_12 E hI ha (by decide) dX12_leave_2 (fun H locs σ_1 hσ_1 hI => ?_)
  replace hF := q_letX hF hσ_1
  have fr_σ_1 := fr_σ.si hσ_1 ha rfl
  have mcσ_1 := m_wo hσ_1 (m_ne ha (q_tk (f := 20) (k' := 34) hI ha rfl (by decide)) (by decide))
  have gσ_1 : m_G (m_c X σ_1 a) := m_G.ext (fun j _ _ => mcσ_1 j) gσ
  have wσ_1 : m_W (m_c X σ_1 a) n := m_W.ext (fun j _ _ => mcσ_1 j) wσ
  have kqσ_1 : ∀ j, 654 ≤ j → m_c X σ_1 a j = m_c X σ a j := fun j h => (mcσ_1 j).trans (kqσ j h)
  have fxσ_1 : m_c X σ_1 a = m_c X σ a := (funext mcσ_1).trans fxσ
  refine lv_aload_n hx hb dX12_leave_5 rfl (lv_at hl 0 rfl) ?_
  refine lv_iconst (v := 0) hx hb dX12_leave_6 zki_0 ?_
  refine ps_X12_62_12 E hI ha (by decide) dX12_leave_7 (fun H locs σ_2 hσ_2 hI => ?_)
  replace hF := q_letX hF hσ_2
  have fr_σ_2 := fr_σ_1.si hσ_2 ha rfl
  have mcσ_2 := m_wo hσ_2 (m_ne ha (q_tk (f := 20) (k' := 34) hI ha rfl (by decide)) (by decide))
  have gσ_2 : m_G (m_c X σ_2 a) := m_G.ext (fun j _ _ => mcσ_2 j) gσ_1
  have wσ_2 : m_W (m_c X σ_2 a) n := m_W.ext (fun j _ _ => mcσ_2 j) wσ_1
  have kqσ_2 : ∀ j, 654 ≤ j → m_c X σ_2 a j = m_c X σ a j := fun j h => (mcσ_2 j).trans (kqσ_1 j h)
  have fxσ_2 : m_c X σ_2 a = m_c X σ a := (funext mcσ_2).trans fxσ_1
  refine lv_aload_n hx hb dX12_leave_10 rfl (lv_at hl 0 rfl) ?_
  refine gs_X12_35_12 E hI ha dX12_leave_11 ?_
  refine lv_bipush (v := 7) hx hb dX12_leave_14 zkb_7 ?_
  refine q_iald E hI (q_tk (k' := 34) hI ha rfl (Nat.succ_ne_zero _)) ⟨by decide, rfl⟩ (by decide) (by rw [q_lnk (v := 4650) hI (q_tk (k' := 34) hI ha rfl (Nat.succ_ne_zero _)) rfl (by decide)]; decide) dX12_leave_16 ?_
  refine lv_topi (fun f_3 ef_3 => ?_)
  replace hF := q_letX hF ef_3
  have if_3 : f_3.toInt = m_c X σ a 7 := (m_rd ef_3 (by decide)).trans (congrFun fxσ_2 _)
  refine q_if_ne (A := f_3.toInt) E rfl (tgt := 27) dX12_leave_17 (by decide) (fun c_4 => ?_) (fun c_4 => ?_)
  · skip
    replace hF := q_ifn hF c_4
    refine lv_aload_n hx hb dX12_leave_27 rfl (lv_at hl 0 rfl) ?_
    refine q_cv (q_rV11_0 (rest := []) E (hml.trans hl.1.symm) hI (c_X12_leaves l X σ_2 a n ha gσ_2 wσ_2 (by rw [fxσ_2]; omega)) kv_X12_322 ha ⟨Nat.le_of_ble_eq_true rfl, Nat.le_of_ble_eq_true rfl⟩ (Nat.le_of_ble_eq_true rfl) dX12_leave_28) hI (Nat.le_of_ble_eq_true rfl) (fun σ_6 H locs hpσ_6 hkσ_6 hI => ?_)
    have ahpσ_6 := hpσ_6.1
    have bhpσ_6 := hpσ_6.2.1
    have chpσ_6 := hpσ_6.2.2.1
    have dhpσ_6 := hpσ_6.2.2.2.1
    have ehpσ_6 := hpσ_6.2.2.2.2.1
    have fhpσ_6 := hpσ_6.2.2.2.2.2.1
    have ghpσ_6 := hpσ_6.2.2.2.2.2.2.1
    have hhpσ_6 := hpσ_6.2.2.2.2.2.2.2
    clear hpσ_6
    have fr_σ_6 := fr_σ_2.call hhpσ_6 rfl rfl
    replace hF := q_letX hF ghpσ_6
    have gσ_6 : m_G (m_c X σ_6 a) := ahpσ_6
    have wσ_6 : m_W (m_c X σ_6 a) n := bhpσ_6
    have kqσ_6 : ∀ j, 654 ≤ j → m_c X σ_6 a j = m_c X σ a j := (fun j h => (chpσ_6 j h).trans (kqσ_2 j h))
    refine lv_aload_n hx hb dX12_leave_31 rfl (lv_at hl 0 rfl) ?_
    refine gs_X12_35_12 E hI ha dX12_leave_32 ?_
    refine lv_bipush (v := 6) hx hb dX12_leave_35 zkb_6 ?_
    refine q_iald E hI (q_tk (k' := 34) hI ha rfl (Nat.succ_ne_zero _)) ⟨by decide, rfl⟩ (by decide) (by rw [q_lnk (v := 4650) hI (q_tk (k' := 34) hI ha rfl (Nat.succ_ne_zero _)) rfl (by decide)]; decide) dX12_leave_37 ?_
    refine lv_topi (fun f_7 ef_7 => ?_)
    replace hF := q_letX hF ef_7
    have if_7 : f_7.toInt = m_c X σ_6 a 6 := m_rd ef_7 (by decide)
    exact q_reti E hr hlk hI ⟨gσ_6, (by first | exact m_W.le vσ_6 (by omega) | exact m_W.le wσ_6 (by first | (clear hn gσ wσ hh gσ_1 wσ_1 gσ_2 wσ_2 if_3 c_4 ahpσ_6 bhpσ_6 chpσ_6 dhpσ_6 ehpσ_6 fhpσ_6 gσ_6 wσ_6 if_7; omega) | omega)), (fun j h0 h1 => kqσ_6 j (by first | (clear hn gσ wσ hh gσ_1 wσ_1 gσ_2 wσ_2 if_3 c_4 ahpσ_6 bhpσ_6 chpσ_6 dhpσ_6 ehpσ_6 fhpσ_6 gσ_6 wσ_6 if_7; omega) | omega)), (hF.trans hout), fr_σ_6⟩ dX12_leave_38
  · skip
    replace hF := q_ifp hF c_4
    refine lv_aload_n hx hb dX12_leave_20 rfl (lv_at hl 0 rfl) ?_
    refine lv_bipush (v := 8) hx hb dX12_leave_21 zkb_8 ?_
    have kc_8 : (8 : Int32).toInt = 8 := zt_8
    refine q_ci (q_rV11_1 (rest := []) E (hml.trans hl.1.symm) hI (c_X12_refuse l X σ_2 a (8 : Int32) ha) kv_X12_284 ha ⟨Nat.le_of_ble_eq_true rfl, Nat.le_of_ble_eq_true rfl⟩ (Nat.le_of_ble_eq_true rfl) dX12_leave_23) hI (Nat.le_of_ble_eq_true rfl) (fun r_9 σ_10 H locs hpσ_10 hkσ_10 hI => ?_)
    have ahpσ_10 := hpσ_10.1
    have bhpσ_10 := hpσ_10.2.1
    have chpσ_10 := hpσ_10.2.2
    clear hpσ_10
    have fr_σ_10 := fr_σ_2.call chpσ_10 rfl rfl
    replace hF := q_biX hF bhpσ_10
    have mcσ_10 := m_cK hkσ_10 hI.1 ha (by decide)
    have gσ_10 : m_G (m_c X σ_10 a) := m_G.ext (fun j _ _ => mcσ_10 j) gσ_2
    have wσ_10 : m_W (m_c X σ_10 a) n := m_W.ext (fun j _ _ => mcσ_10 j) wσ_2
    have kqσ_10 : ∀ j, 654 ≤ j → m_c X σ_10 a j = m_c X σ a j := fun j h => (mcσ_10 j).trans (kqσ_2 j h)
    have fxσ_10 : m_c X σ_10 a = m_c X σ a := (funext mcσ_10).trans fxσ_2
    exact q_reti E hr hlk hI ⟨gσ_10, (by first | exact m_W.le vσ_10 (by omega) | exact m_W.le wσ_10 (by omega)), (fun j h0 h1 => kqσ_10 j (by omega)), (hF.trans hout), fr_σ_10⟩ dX12_leave_26

set_option maxRecDepth 100000 in
set_option maxHeartbeats 4000000 in
theorem c_X12_doubt (l : Launch) (X : XW) (σ : ST) (a : Nat) (v1 : Int32) (n : Int) (ha : q_kd X a = 12) (hG : m_G (m_c X σ a)) (hW : m_W (m_c X σ a) n) (hn : n ≤ 199000) : Met l yX12_doubt (q_ws yX12_doubt cX12_doubt 2 (some .int)) (q_rm 3 68) (q_P X σ [.ref a, .int v1]) (q_Qi X 1 σ (fun (r : Int32) (σ' : ST) => (m_G (m_c X σ' a)) ∧ (m_W (m_c X σ' a) (n + 301)) ∧ (∀ j, 930 ≤ j → j < 3720 → m_c X σ' a j = m_c X σ a j) ∧ (r, σ') = F_X12_doubt X σ a v1 ∧ q_ow [(12, 0), (12, 1), (34, 99)] [] X σ σ')) 0 0 (q_reg X) := by
  refine q_met 1 (by first | exact rfl | decide +kernel) rfl (Nat.le_of_ble_eq_true rfl) (fun p e s m below meth c E hml hr hlk hI ls hl => ?_)
  have hx := E.1
  have hb := E.2.1
  have hl : lv_has ls 2 [(0, .ref a), (1, .int v1)] := hl
  have gσ : m_G (m_c X σ a) := hG
  have wσ : m_W (m_c X σ a) n := hW
  have kqσ : ∀ j, 654 ≤ j → m_c X σ a j = m_c X σ a j := fun _ _ => rfl
  have fxσ : m_c X σ a = m_c X σ a := rfl
  have fr_σ : q_ow [(12, 0), (12, 1), (34, 99)] [] X σ σ := q_ow.rf
  have hh := hG.hd
  obtain ⟨out, hout⟩ : ∃ o, o = F_X12_doubt X σ a v1 := ⟨_, rfl⟩
  have hF := hout.symm
  unfold F_X12_doubt at hF
  refine lv_aload_n hx hb dX12_doubt_0 rfl (lv_at hl 0 rfl) ?_
  refine lv_iconst (v := 0) hx hb dX12_doubt_1 zki_0 ?_
  refine ps_X12_59_12 E hI ha (by decide) dX12_doubt_2 (fun H locs σ_1 hσ_1 hI => ?_)
  replace hF := q_letX hF hσ_1
  have fr_σ_1 := fr_σ.si hσ_1 ha rfl
  have mcσ_1 := m_wo hσ_1 (m_ne ha (q_tk (f := 20) (k' := 34) hI ha rfl (by decide)) (by decide))
  have gσ_1 : m_G (m_c X σ_1 a) := m_G.ext (fun j _ _ => mcσ_1 j) gσ
  have wσ_1 : m_W (m_c X σ_1 a) n := m_W.ext (fun j _ _ => mcσ_1 j) wσ
  have kqσ_1 : ∀ j, 654 ≤ j → m_c X σ_1 a j = m_c X σ a j := fun j h => (mcσ_1 j).trans (kqσ j h)
  have fxσ_1 : m_c X σ_1 a = m_c X σ a := (funext mcσ_1).trans fxσ
  refine lv_aload_n hx hb dX12_doubt_5 rfl (lv_at hl 0 rfl) ?_
  refine lv_iconst (v := 0) hx hb dX12_doubt_6 zki_0 ?_
  refine ps_X12_62_12 E hI ha (by decide) dX12_doubt_7 (fun H locs σ_2 hσ_2 hI => ?_)
  replace hF := q_letX hF hσ_2
  have fr_σ_2 := fr_σ_1.si hσ_2 ha rfl
  have mcσ_2 := m_wo hσ_2 (m_ne ha (q_tk (f := 20) (k' := 34) hI ha rfl (by decide)) (by decide))
  have gσ_2 : m_G (m_c X σ_2 a) := m_G.ext (fun j _ _ => mcσ_2 j) gσ_1
  have wσ_2 : m_W (m_c X σ_2 a) n := m_W.ext (fun j _ _ => mcσ_2 j) wσ_1
  have kqσ_2 : ∀ j, 654 ≤ j → m_c X σ_2 a j = m_c X σ a j := fun j h => (mcσ_2 j).trans (kqσ_1 j h)
  have fxσ_2 : m_c X σ_2 a = m_c X σ a := (funext mcσ_2).trans fxσ_1
  refine lv_aload_n hx hb dX12_doubt_10 rfl (lv_at hl 0 rfl) ?_
  refine lv_iload_n hx hb dX12_doubt_11 rfl (lv_at hl 1 rfl) ?_
  refine q_ci (q_rV11_1 (rest := []) E (hml.trans hl.1.symm) hI (c_X12_isPlayerAt l X σ_2 a v1 ha (by rw [fxσ_2]; exact hG)) kv_X12_290 ha ⟨Nat.le_of_ble_eq_true rfl, Nat.le_of_ble_eq_true rfl⟩ (Nat.le_of_ble_eq_true rfl) dX12_doubt_12) hI (Nat.le_of_ble_eq_true rfl) (fun r_3 σ_4 H locs hpσ_4 hkσ_4 hI => ?_)
  have ahpσ_4 := hpσ_4.1
  have bhpσ_4 := hpσ_4.2.1
  have chpσ_4 := hpσ_4.2.2.1
  have dhpσ_4 := hpσ_4.2.2.2
  clear hpσ_4
  replace hI := q_Irw ahpσ_4 hI
  rw [fxσ_2] at chpσ_4
  replace hF := q_letX hF dhpσ_4
  refine q_if_ne (A := r_3.toInt) E rfl (tgt := 24) dX12_doubt_15 (by decide) (fun c_5 => ?_) (fun c_5 => ?_)
  · skip
    replace hF := q_ifn hF c_5
    replace c_5 := q_ifOne bhpσ_4 c_5
    replace chpσ_4 := q_ifYes chpσ_4 c_5
    refine lv_aload_n hx hb dX12_doubt_24 rfl (lv_at hl 0 rfl) ?_
    refine gs_X12_35_12 E hI ha dX12_doubt_25 ?_
    refine lv_bipush (v := 7) hx hb dX12_doubt_28 zkb_7 ?_
    refine q_iald E hI (q_tk (k' := 34) hI ha rfl (Nat.succ_ne_zero _)) ⟨by decide, rfl⟩ (by decide) (by rw [q_lnk (v := 4650) hI (q_tk (k' := 34) hI ha rfl (Nat.succ_ne_zero _)) rfl (by decide)]; decide) dX12_doubt_30 ?_
    refine lv_topi (fun f_6 ef_6 => ?_)
    replace hF := q_letX hF ef_6
    have if_6 : f_6.toInt = m_c X σ a 7 := (m_rd ef_6 (by decide)).trans (congrFun fxσ_2 _)
    refine q_if_ne (A := f_6.toInt) E rfl (tgt := 41) dX12_doubt_31 (by decide) (fun c_7 => ?_) (fun c_7 => ?_)
    · skip
      replace hF := q_ifn hF c_7
      refine lv_aload_n hx hb dX12_doubt_41 rfl (lv_at hl 0 rfl) ?_
      refine gs_X12_35_12 E hI ha dX12_doubt_42 ?_
      refine lv_bipush (v := 6) hx hb dX12_doubt_45 zkb_6 ?_
      refine q_iald E hI (q_tk (k' := 34) hI ha rfl (Nat.succ_ne_zero _)) ⟨by decide, rfl⟩ (by decide) (by rw [q_lnk (v := 4650) hI (q_tk (k' := 34) hI ha rfl (Nat.succ_ne_zero _)) rfl (by decide)]; decide) dX12_doubt_47 ?_
      refine lv_topi (fun f_8 ef_8 => ?_)
      replace hF := q_letX hF ef_8
      have if_8 : f_8.toInt = m_c X σ a 6 := (m_rd ef_8 (by decide)).trans (congrFun fxσ_2 _)
      refine lv_iload_n hx hb dX12_doubt_48 rfl (lv_at hl 1 rfl) ?_
      refine q_icmp_ne (A := f_8.toInt) (B := v1.toInt) E rfl rfl (tgt := 60) dX12_doubt_49 (by decide) (fun c_9 => ?_) (fun c_9 => ?_)
      · skip
        replace hF := q_ifn hF c_9
        refine lv_aload_n hx hb dX12_doubt_60 rfl (lv_at hl 0 rfl) ?_
        refine lv_iload_n hx hb dX12_doubt_61 rfl (lv_at hl 1 rfl) ?_
        refine q_ci (q_rV11_1 (rest := []) E (hml.trans hl.1.symm) hI (c_X12_doubts l X σ_2 a v1 n ha gσ_2 wσ_2 (by first | (clear gσ wσ hh gσ_1 wσ_1 gσ_2 wσ_2 ahpσ_4 bhpσ_4 dhpσ_4 c_5 chpσ_4 if_6 c_7 if_8 c_9; omega) | omega) (by rw [fxσ_2]; omega) (by rw [fxσ_2]; omega) (by rw [fxσ_2]; omega)) kv_X12_328 ha ⟨Nat.le_of_ble_eq_true rfl, Nat.le_of_ble_eq_true rfl⟩ (Nat.le_of_ble_eq_true rfl) dX12_doubt_62) hI (Nat.le_of_ble_eq_true rfl) (fun r_10 σ_11 H locs hpσ_11 hkσ_11 hI => ?_)
        have ahpσ_11 := hpσ_11.1
        have bhpσ_11 := hpσ_11.2.1
        have chpσ_11 := hpσ_11.2.2.1
        have dhpσ_11 := hpσ_11.2.2.2.1
        have ehpσ_11 := hpσ_11.2.2.2.2.1
        have fhpσ_11 := hpσ_11.2.2.2.2.2
        clear hpσ_11
        have fr_σ_11 := fr_σ_2.call fhpσ_11 rfl rfl
        replace hF := q_biX hF ehpσ_11
        have gσ_11 : m_G (m_c X σ_11 a) := ahpσ_11
        have vσ_11 : m_W (m_c X σ_11 a) (n + 1) := bhpσ_11
        have kqσ_11 : ∀ j, 654 ≤ j → m_c X σ_11 a j = m_c X σ a j := (fun j h => (chpσ_11 j h).trans (kqσ_2 j h))
        exact q_reti E hr hlk hI ⟨gσ_11, (by first | exact m_W.le vσ_11 (by first | (clear hn gσ wσ hh gσ_1 wσ_1 gσ_2 wσ_2 ahpσ_4 bhpσ_4 dhpσ_4 c_5 chpσ_4 if_6 c_7 if_8 c_9 ahpσ_11 bhpσ_11 chpσ_11 dhpσ_11 ehpσ_11 fhpσ_11 gσ_11 vσ_11; omega) | omega) | exact m_W.le wσ_11 (by omega)), (fun j h0 h1 => kqσ_11 j (by first | (clear hn gσ wσ hh gσ_1 wσ_1 gσ_2 wσ_2 ahpσ_4 bhpσ_4 dhpσ_4 c_5 chpσ_4 if_6 c_7 if_8 c_9 ahpσ_11 bhpσ_11 chpσ_11 dhpσ_11 ehpσ_11 fhpσ_11 gσ_11 vσ_11; omega) | omega)), (hF.trans hout), fr_σ_11⟩ dX12_doubt_65
      · skip
        replace hF := q_ifp hF c_9
        refine lv_aload_n hx hb dX12_doubt_52 rfl (lv_at hl 0 rfl) ?_
        refine lv_iconst (v := 5) hx hb dX12_doubt_53 zki_5 ?_
        have kc_12 : (5 : Int32).toInt = 5 := zt_5
        refine q_ci (q_rV11_1 (rest := []) E (hml.trans hl.1.symm) hI (c_X12_refuse l X σ_2 a (5 : Int32) ha) kv_X12_284 ha ⟨Nat.le_of_ble_eq_true rfl, Nat.le_of_ble_eq_true rfl⟩ (Nat.le_of_ble_eq_true rfl) dX12_doubt_54) hI (Nat.le_of_ble_eq_true rfl) (fun r_13 σ_14 H locs hpσ_14 hkσ_14 hI => ?_)
        have ahpσ_14 := hpσ_14.1
        have bhpσ_14 := hpσ_14.2.1
        have chpσ_14 := hpσ_14.2.2
        clear hpσ_14
        have fr_σ_14 := fr_σ_2.call chpσ_14 rfl rfl
        replace hF := q_biX hF bhpσ_14
        have mcσ_14 := m_cK hkσ_14 hI.1 ha (by decide)
        have gσ_14 : m_G (m_c X σ_14 a) := m_G.ext (fun j _ _ => mcσ_14 j) gσ_2
        have wσ_14 : m_W (m_c X σ_14 a) n := m_W.ext (fun j _ _ => mcσ_14 j) wσ_2
        have kqσ_14 : ∀ j, 654 ≤ j → m_c X σ_14 a j = m_c X σ a j := fun j h => (mcσ_14 j).trans (kqσ_2 j h)
        have fxσ_14 : m_c X σ_14 a = m_c X σ a := (funext mcσ_14).trans fxσ_2
        refine lv_goto (tgt := 65) hx hb dX12_doubt_57 (by decide) ?_
        exact q_reti E hr hlk hI ⟨gσ_14, (by first | exact m_W.le vσ_14 (by omega) | exact m_W.le wσ_14 (by first | (clear hn gσ wσ hh gσ_1 wσ_1 gσ_2 wσ_2 ahpσ_4 bhpσ_4 dhpσ_4 c_5 chpσ_4 if_6 c_7 if_8 c_9 kc_12 ahpσ_14 bhpσ_14 chpσ_14 gσ_14 wσ_14; omega) | omega)), (fun j h0 h1 => kqσ_14 j (by first | (clear hn gσ wσ hh gσ_1 wσ_1 gσ_2 wσ_2 ahpσ_4 bhpσ_4 dhpσ_4 c_5 chpσ_4 if_6 c_7 if_8 c_9 kc_12 ahpσ_14 bhpσ_14 chpσ_14 gσ_14 wσ_14; omega) | omega)), (hF.trans hout), fr_σ_14⟩ dX12_doubt_65
    · skip
      replace hF := q_ifp hF c_7
      refine lv_aload_n hx hb dX12_doubt_34 rfl (lv_at hl 0 rfl) ?_
      refine lv_bipush (v := 8) hx hb dX12_doubt_35 zkb_8 ?_
      have kc_15 : (8 : Int32).toInt = 8 := zt_8
      refine q_ci (q_rV11_1 (rest := []) E (hml.trans hl.1.symm) hI (c_X12_refuse l X σ_2 a (8 : Int32) ha) kv_X12_284 ha ⟨Nat.le_of_ble_eq_true rfl, Nat.le_of_ble_eq_true rfl⟩ (Nat.le_of_ble_eq_true rfl) dX12_doubt_37) hI (Nat.le_of_ble_eq_true rfl) (fun r_16 σ_17 H locs hpσ_17 hkσ_17 hI => ?_)
      have ahpσ_17 := hpσ_17.1
      have bhpσ_17 := hpσ_17.2.1
      have chpσ_17 := hpσ_17.2.2
      clear hpσ_17
      have fr_σ_17 := fr_σ_2.call chpσ_17 rfl rfl
      replace hF := q_biX hF bhpσ_17
      have mcσ_17 := m_cK hkσ_17 hI.1 ha (by decide)
      have gσ_17 : m_G (m_c X σ_17 a) := m_G.ext (fun j _ _ => mcσ_17 j) gσ_2
      have wσ_17 : m_W (m_c X σ_17 a) n := m_W.ext (fun j _ _ => mcσ_17 j) wσ_2
      have kqσ_17 : ∀ j, 654 ≤ j → m_c X σ_17 a j = m_c X σ a j := fun j h => (mcσ_17 j).trans (kqσ_2 j h)
      have fxσ_17 : m_c X σ_17 a = m_c X σ a := (funext mcσ_17).trans fxσ_2
      exact q_reti E hr hlk hI ⟨gσ_17, (by first | exact m_W.le vσ_17 (by omega) | exact m_W.le wσ_17 (by first | (clear hn gσ wσ hh gσ_1 wσ_1 gσ_2 wσ_2 ahpσ_4 bhpσ_4 dhpσ_4 c_5 chpσ_4 if_6 c_7 kc_15 ahpσ_17 bhpσ_17 chpσ_17 gσ_17 wσ_17; omega) | omega)), (fun j h0 h1 => kqσ_17 j (by first | (clear hn gσ wσ hh gσ_1 wσ_1 gσ_2 wσ_2 ahpσ_4 bhpσ_4 dhpσ_4 c_5 chpσ_4 if_6 c_7 kc_15 ahpσ_17 bhpσ_17 chpσ_17 gσ_17 wσ_17; omega) | omega)), (hF.trans hout), fr_σ_17⟩ dX12_doubt_40
  · skip
    replace hF := q_ifp hF c_5
    replace chpσ_4 := q_ifNo chpσ_4 c_5
    refine lv_aload_n hx hb dX12_doubt_18 rfl (lv_at hl 0 rfl) ?_
    refine lv_iconst (v := 2) hx hb dX12_doubt_19 zki_2 ?_
    have kc_18 : (2 : Int32).toInt = 2 := zt_2
    refine q_ci (q_rV11_1 (rest := []) E (hml.trans hl.1.symm) hI (c_X12_refuse l X σ_2 a (2 : Int32) ha) kv_X12_284 ha ⟨Nat.le_of_ble_eq_true rfl, Nat.le_of_ble_eq_true rfl⟩ (Nat.le_of_ble_eq_true rfl) dX12_doubt_20) hI (Nat.le_of_ble_eq_true rfl) (fun r_19 σ_20 H locs hpσ_20 hkσ_20 hI => ?_)
    have ahpσ_20 := hpσ_20.1
    have bhpσ_20 := hpσ_20.2.1
    have chpσ_20 := hpσ_20.2.2
    clear hpσ_20
    have fr_σ_20 := fr_σ_2.call chpσ_20 rfl rfl
    replace hF := q_biX hF bhpσ_20
    have mcσ_20 := m_cK hkσ_20 hI.1 ha (by decide)
    have gσ_20 : m_G (m_c X σ_20 a) := m_G.ext (fun j _ _ => mcσ_20 j) gσ_2
    have wσ_20 : m_W (m_c X σ_20 a) n := m_W.ext (fun j _ _ => mcσ_20 j) wσ_2
    have kqσ_20 : ∀ j, 654 ≤ j → m_c X σ_20 a j = m_c X σ a j := fun j h => (mcσ_20 j).trans (kqσ_2 j h)
    have fxσ_20 : m_c X σ_20 a = m_c X σ a := (funext mcσ_20).trans fxσ_2
    exact q_reti E hr hlk hI ⟨gσ_20, (by first | exact m_W.le vσ_20 (by omega) | exact m_W.le wσ_20 (by omega)), (fun j h0 h1 => kqσ_20 j (by omega)), (hF.trans hout), fr_σ_20⟩ dX12_doubt_23

set_option maxRecDepth 100000 in
set_option maxHeartbeats 4000000 in
theorem c_X12_lay (l : Launch) (X : XW) (σ : ST) (a : Nat) (v1 : Int32) (v2 : Int32) (v3 : Int32) (v4 : Int32) (n : Int) (ha : q_kd X a = 12) (hG : m_G (m_c X σ a)) (hW : m_W (m_c X σ a) n) (hn : n ≤ 199000) : Met l yX12_lay (q_ws yX12_lay cX12_lay 9 (some .int)) (q_rm 2 46) (q_P X σ [.ref a, .int v1, .int v2, .int v3, .int v4]) (q_Qi X 1 σ (fun (r : Int32) (σ' : ST) => (m_G (m_c X σ' a)) ∧ (m_W (m_c X σ' a) (n + 301)) ∧ (∀ j, 930 ≤ j → j < 3720 → m_c X σ' a j = m_c X σ a j) ∧ (r, σ') = F_X12_lay X σ a v1 v2 v3 v4 ∧ q_ow [(12, 0), (12, 1), (34, 99), (39, 99), (40, 99)] [] X σ σ')) 0 0 (q_reg X) := by
  refine q_met 1 (by first | exact rfl | decide +kernel) rfl (Nat.le_of_ble_eq_true rfl) (fun p e s m below meth c E hml hr hlk hI ls hl => ?_)
  have hx := E.1
  have hb := E.2.1
  have hl : lv_has ls 9 [(0, .ref a), (1, .int v1), (2, .int v2), (3, .int v3), (4, .int v4)] := hl
  have gσ : m_G (m_c X σ a) := hG
  have wσ : m_W (m_c X σ a) n := hW
  have kqσ : ∀ j, 654 ≤ j → m_c X σ a j = m_c X σ a j := fun _ _ => rfl
  have fxσ : m_c X σ a = m_c X σ a := rfl
  have fr_σ : q_ow [(12, 0), (12, 1), (34, 99), (39, 99), (40, 99)] [] X σ σ := q_ow.rf
  have hh := hG.hd
  obtain ⟨out, hout⟩ : ∃ o, o = F_X12_lay X σ a v1 v2 v3 v4 := ⟨_, rfl⟩
  have hF := hout.symm
  unfold F_X12_lay at hF
  refine lv_aload_n hx hb dX12_lay_0 rfl (lv_at hl 0 rfl) ?_
  refine lv_iconst (v := 0) hx hb dX12_lay_1 zki_0 ?_
  refine ps_X12_59_12 E hI ha (by decide) dX12_lay_2 (fun H locs σ_1 hσ_1 hI => ?_)
  replace hF := q_letX hF hσ_1
  have fr_σ_1 := fr_σ.si hσ_1 ha rfl
  have mcσ_1 := m_wo hσ_1 (m_ne ha (q_tk (f := 20) (k' := 34) hI ha rfl (by decide)) (by decide))
  have gσ_1 : m_G (m_c X σ_1 a) := m_G.ext (fun j _ _ => mcσ_1 j) gσ
  have wσ_1 : m_W (m_c X σ_1 a) n := m_W.ext (fun j _ _ => mcσ_1 j) wσ
  have kqσ_1 : ∀ j, 654 ≤ j → m_c X σ_1 a j = m_c X σ a j := fun j h => (mcσ_1 j).trans (kqσ j h)
  have fxσ_1 : m_c X σ_1 a = m_c X σ a := (funext mcσ_1).trans fxσ
  refine lv_aload_n hx hb dX12_lay_5 rfl (lv_at hl 0 rfl) ?_
  refine lv_iconst (v := 0) hx hb dX12_lay_6 zki_0 ?_
  refine ps_X12_62_12 E hI ha (by decide) dX12_lay_7 (fun H locs σ_2 hσ_2 hI => ?_)
  replace hF := q_letX hF hσ_2
  have fr_σ_2 := fr_σ_1.si hσ_2 ha rfl
  have mcσ_2 := m_wo hσ_2 (m_ne ha (q_tk (f := 20) (k' := 34) hI ha rfl (by decide)) (by decide))
  have gσ_2 : m_G (m_c X σ_2 a) := m_G.ext (fun j _ _ => mcσ_2 j) gσ_1
  have wσ_2 : m_W (m_c X σ_2 a) n := m_W.ext (fun j _ _ => mcσ_2 j) wσ_1
  have kqσ_2 : ∀ j, 654 ≤ j → m_c X σ_2 a j = m_c X σ a j := fun j h => (mcσ_2 j).trans (kqσ_1 j h)
  have fxσ_2 : m_c X σ_2 a = m_c X σ a := (funext mcσ_2).trans fxσ_1
  refine lv_aload_n hx hb dX12_lay_10 rfl (lv_at hl 0 rfl) ?_
  refine gs_X12_50_12 E hI ha dX12_lay_11 ?_
  refine lv_iconst (v := 0) hx hb dX12_lay_14 zki_0 ?_
  refine lv_iload_n hx hb dX12_lay_15 rfl (lv_at hl 1 rfl) ?_
  refine q_iastN E hI (q_tk (k' := 40) hI ha rfl (Nat.succ_ne_zero _)) ⟨by decide, rfl⟩ (by decide) (by rw [q_lnk (v := 4) hI (q_tk (k' := 40) hI ha rfl (Nat.succ_ne_zero _)) rfl (by decide)]; decide) (show 1 < 9 by decide) (q_inU rfl) dX12_lay_16 (fun H locs σ_3 hσ_3 hI => ?_)
  replace hF := q_letX hF hσ_3
  have fr_σ_3 := fr_σ_2.si hσ_3 (q_tk (k' := 40) hI ha rfl (Nat.succ_ne_zero _)) rfl
  have mcσ_3 := m_wo hσ_3 (m_ne (q_tk (k' := 40) hI ha rfl (Nat.succ_ne_zero _)) (q_tk (f := 20) (k' := 34) hI ha rfl (by decide)) (by decide))
  have gσ_3 : m_G (m_c X σ_3 a) := m_G.ext (fun j _ _ => mcσ_3 j) gσ_2
  have wσ_3 : m_W (m_c X σ_3 a) n := m_W.ext (fun j _ _ => mcσ_3 j) wσ_2
  have kqσ_3 : ∀ j, 654 ≤ j → m_c X σ_3 a j = m_c X σ a j := fun j h => (mcσ_3 j).trans (kqσ_2 j h)
  have fxσ_3 : m_c X σ_3 a = m_c X σ a := (funext mcσ_3).trans fxσ_2
  refine lv_aload_n hx hb dX12_lay_17 rfl (lv_at hl 0 rfl) ?_
  refine gs_X12_50_12 E hI ha dX12_lay_18 ?_
  refine lv_iconst (v := 1) hx hb dX12_lay_21 zki_1 ?_
  refine lv_iload_n hx hb dX12_lay_22 rfl (lv_at hl 2 rfl) ?_
  refine q_iastN E hI (q_tk (k' := 40) hI ha rfl (Nat.succ_ne_zero _)) ⟨by decide, rfl⟩ (by decide) (by rw [q_lnk (v := 4) hI (q_tk (k' := 40) hI ha rfl (Nat.succ_ne_zero _)) rfl (by decide)]; decide) (show 1 < 9 by decide) (q_inU rfl) dX12_lay_23 (fun H locs σ_4 hσ_4 hI => ?_)
  replace hF := q_letX hF hσ_4
  have fr_σ_4 := fr_σ_3.si hσ_4 (q_tk (k' := 40) hI ha rfl (Nat.succ_ne_zero _)) rfl
  have mcσ_4 := m_wo hσ_4 (m_ne (q_tk (k' := 40) hI ha rfl (Nat.succ_ne_zero _)) (q_tk (f := 20) (k' := 34) hI ha rfl (by decide)) (by decide))
  have gσ_4 : m_G (m_c X σ_4 a) := m_G.ext (fun j _ _ => mcσ_4 j) gσ_3
  have wσ_4 : m_W (m_c X σ_4 a) n := m_W.ext (fun j _ _ => mcσ_4 j) wσ_3
  have kqσ_4 : ∀ j, 654 ≤ j → m_c X σ_4 a j = m_c X σ a j := fun j h => (mcσ_4 j).trans (kqσ_3 j h)
  have fxσ_4 : m_c X σ_4 a = m_c X σ a := (funext mcσ_4).trans fxσ_3
  refine lv_aload_n hx hb dX12_lay_24 rfl (lv_at hl 0 rfl) ?_
  refine gs_X12_50_12 E hI ha dX12_lay_25 ?_
  refine lv_iconst (v := 2) hx hb dX12_lay_28 zki_2 ?_
  refine lv_iload_n hx hb dX12_lay_29 rfl (lv_at hl 3 rfl) ?_
  refine q_iastN E hI (q_tk (k' := 40) hI ha rfl (Nat.succ_ne_zero _)) ⟨by decide, rfl⟩ (by decide) (by rw [q_lnk (v := 4) hI (q_tk (k' := 40) hI ha rfl (Nat.succ_ne_zero _)) rfl (by decide)]; decide) (show 1 < 9 by decide) (q_inU rfl) dX12_lay_30 (fun H locs σ_5 hσ_5 hI => ?_)
  replace hF := q_letX hF hσ_5
  have fr_σ_5 := fr_σ_4.si hσ_5 (q_tk (k' := 40) hI ha rfl (Nat.succ_ne_zero _)) rfl
  have mcσ_5 := m_wo hσ_5 (m_ne (q_tk (k' := 40) hI ha rfl (Nat.succ_ne_zero _)) (q_tk (f := 20) (k' := 34) hI ha rfl (by decide)) (by decide))
  have gσ_5 : m_G (m_c X σ_5 a) := m_G.ext (fun j _ _ => mcσ_5 j) gσ_4
  have wσ_5 : m_W (m_c X σ_5 a) n := m_W.ext (fun j _ _ => mcσ_5 j) wσ_4
  have kqσ_5 : ∀ j, 654 ≤ j → m_c X σ_5 a j = m_c X σ a j := fun j h => (mcσ_5 j).trans (kqσ_4 j h)
  have fxσ_5 : m_c X σ_5 a = m_c X σ a := (funext mcσ_5).trans fxσ_4
  refine lv_aload_n hx hb dX12_lay_31 rfl (lv_at hl 0 rfl) ?_
  refine gs_X12_50_12 E hI ha dX12_lay_32 ?_
  refine lv_iconst (v := 3) hx hb dX12_lay_35 zki_3 ?_
  refine lv_iload hx hb dX12_lay_36 (lv_at hl 4 rfl) ?_
  refine q_iastN E hI (q_tk (k' := 40) hI ha rfl (Nat.succ_ne_zero _)) ⟨by decide, rfl⟩ (by decide) (by rw [q_lnk (v := 4) hI (q_tk (k' := 40) hI ha rfl (Nat.succ_ne_zero _)) rfl (by decide)]; decide) (show 1 < 9 by decide) (q_inU rfl) dX12_lay_38 (fun H locs σ_6 hσ_6 hI => ?_)
  replace hF := q_letX hF hσ_6
  have fr_σ_6 := fr_σ_5.si hσ_6 (q_tk (k' := 40) hI ha rfl (Nat.succ_ne_zero _)) rfl
  have mcσ_6 := m_wo hσ_6 (m_ne (q_tk (k' := 40) hI ha rfl (Nat.succ_ne_zero _)) (q_tk (f := 20) (k' := 34) hI ha rfl (by decide)) (by decide))
  have gσ_6 : m_G (m_c X σ_6 a) := m_G.ext (fun j _ _ => mcσ_6 j) gσ_5
  have wσ_6 : m_W (m_c X σ_6 a) n := m_W.ext (fun j _ _ => mcσ_6 j) wσ_5
  have kqσ_6 : ∀ j, 654 ≤ j → m_c X σ_6 a j = m_c X σ a j := fun j h => (mcσ_6 j).trans (kqσ_5 j h)
  have fxσ_6 : m_c X σ_6 a = m_c X σ a := (funext mcσ_6).trans fxσ_5
  refine lv_iconst (v := 0) hx hb dX12_lay_39 zki_0 ?_
  refine lv_istore (lv' := [(5, .int 0), (0, .ref a), (1, .int v1), (2, .int v2), (3, .int v3), (4, .int v4)]) hx hb dX12_lay_40 hl (by decide) rfl (fun ls hl => ?_)
  have L_42_9 : ∀ (k_9 : Nat) (x_7 : Int32) (σ_8 : ST) (H : Heap) (locs : List Loc) (ls : Array Slot), (2147483647 - x_7.toInt).toNat < k_9 → (0 ≤ x_7.toInt ∧ x_7.toInt ≤ 10) → (∀ k, 0 ≤ k → k < x_7.toInt → m_of σ_8 (q_rf X a 28) k = 0) → (q_ow [(12, 0), (12, 1), (34, 99), (39, 99), (40, 99)] [] X σ σ_8) → (m_G (m_c X σ_8 a)) → (m_W (m_c X σ_8 a) n) → (∀ j, 654 ≤ j → m_c X σ_8 a j = m_c X σ a j) → (m_c X σ_8 a = m_c X σ a) → (F_X12_lay_L42_1 X a k_9 x_7 σ_8 = out) → q_I X 1 σ s.heap locs σ_8 H → lv_has ls 9 [(0, .ref a), (1, .int v1), (2, .int v2), (3, .int v3), (4, .int v4), (5, .int x_7)] → W p l e (q_rm 2 46) s m ([.ref a, .int v1, .int v2, .int v3, .int v4] : List Value).toArray below meth c H locs 0 0 (MQ below (q_Qi X 1 σ (fun (r : Int32) (σ' : ST) => (m_G (m_c X σ' a)) ∧ (m_W (m_c X σ' a) (n + 301)) ∧ (∀ j, 930 ≤ j → j < 3720 → m_c X σ' a j = m_c X σ a j) ∧ (r, σ') = F_X12_lay X σ a v1 v2 v3 v4 ∧ q_ow [(12, 0), (12, 1), (34, 99), (39, 99), (40, 99)] [] X σ σ')) ([.ref a, .int v1, .int v2, .int v3, .int v4] : List Value).toArray s 0 0 (q_reg X)) (F0 m 42 ls []) := by
    clear hF
    intro k_9
    induction k_9 with
    | zero =>
      intro x_7 σ_8 H locs ls hms
      try clear kqσ; try clear fxσ; try clear fr_σ; try clear fr_σ_1; try clear mcσ_1; try clear kqσ_1; try clear fxσ_1; try clear fr_σ_2; try clear mcσ_2; try clear kqσ_2; try clear fxσ_2; try clear fr_σ_3; try clear mcσ_3; try clear kqσ_3; try clear fxσ_3; try clear fr_σ_4; try clear mcσ_4; try clear kqσ_4; try clear fxσ_4; try clear fr_σ_5; try clear mcσ_5; try clear kqσ_5; try clear fxσ_5; try clear fr_σ_6; try clear mcσ_6; try clear kqσ_6; try clear fxσ_6
      exact absurd hms (Nat.not_lt_zero _)
    | succ k_9 ih42 =>
      intro x_7 σ_8 H locs ls hm42 hge42 zlσ_8 fr_σ_8 gσ_8 wσ_8 kqσ_8 fxσ_8 hF hI hl
      replace hF := (F_X12_lay_L42_1_s).symm.trans hF
      unfold F_X12_lay_B42_1 at hF
      refine lv_iload hx hb dX12_lay_42 (lv_at hl 5 rfl) ?_
      refine lv_bipush (v := 10) hx hb dX12_lay_44 zkb_10 ?_
      have gc_10_x_7 := q_rng x_7
      refine q_icmp_ge (A := x_7.toInt) (B := 10) E rfl (by decide) (tgt := 63) dX12_lay_46 (by decide) (fun c_10 => ?_) (fun c_10 => ?_)
      · skip
        replace hF := q_ifn hF (Int.not_lt.mpr c_10)
        skip
        have nnσ_8 : ∀ k, 0 ≤ k → k < 10 → 0 ≤ m_of σ_8 (q_rf X a 28) k := fun k a b => Int.le_of_eq (zlσ_8 k a (by first | (clear hn gσ wσ hh gσ_1 wσ_1 gσ_2 wσ_2 gσ_3 wσ_3 gσ_4 wσ_4 gσ_5 wσ_5 gσ_6 wσ_6 hm42 gσ_8 wσ_8 gc_10_x_7; omega) | omega)).symm
        have szσ_8 := m_S_zero (f := m_of σ_8 (q_rf X a 28)) (n := 10) (fun j a b => zlσ_8 j a (by first | (clear hn gσ wσ hh gσ_1 wσ_1 gσ_2 wσ_2 gσ_3 wσ_3 gσ_4 wσ_4 gσ_5 wσ_5 gσ_6 wσ_6 hm42 gσ_8 wσ_8 gc_10_x_7; omega) | omega))
        refine lv_iconst (v := 0) hx hb dX12_lay_63 zki_0 ?_
        refine lv_istore (lv' := [(5, .int 0), (0, .ref a), (1, .int v1), (2, .int v2), (3, .int v3), (4, .int v4)]) hx hb dX12_lay_64 hl (by decide) rfl (fun ls hl => ?_)
        refine lv_iconst (v := 0) hx hb dX12_lay_66 zki_0 ?_
        refine lv_istore (lv' := [(6, .int 0), (5, .int 0), (0, .ref a), (1, .int v1), (2, .int v2), (3, .int v3), (4, .int v4)]) hx hb dX12_lay_67 hl (by decide) rfl (fun ls hl => ?_)
        refine lv_iconst (v := 0) hx hb dX12_lay_69 zki_0 ?_
        refine lv_istore (lv' := [(7, .int 0), (6, .int 0), (5, .int 0), (0, .ref a), (1, .int v1), (2, .int v2), (3, .int v3), (4, .int v4)]) hx hb dX12_lay_70 hl (by decide) rfl (fun ls hl => ?_)
        refine lv_iconst (v := 0) hx hb dX12_lay_72 zki_0 ?_
        refine lv_istore (lv' := [(8, .int 0), (7, .int 0), (6, .int 0), (5, .int 0), (0, .ref a), (1, .int v1), (2, .int v2), (3, .int v3), (4, .int v4)]) hx hb dX12_lay_73 hl (by decide) rfl (fun ls hl => ?_)
        have L_75_16 : ∀ (k_16 : Nat) (x_11 : Int32) (x_12 : Int32) (x_13 : Int32) (x_14 : Int32) (σ_15 : ST) (H : Heap) (locs : List Loc) (ls : Array Slot), (2147483647 - x_14.toInt).toNat < k_16 → (0 ≤ x_14.toInt ∧ x_14.toInt ≤ 4 ∧ 0 ≤ x_11.toInt ∧ x_11.toInt ≤ x_14.toInt) → (m_S (m_of σ_15 (q_rf X a 28)) 0 10 = x_11.toInt) → (∀ k, 0 ≤ k → k < 10 → 0 ≤ m_of σ_15 (q_rf X a 28) k) → (q_ow [(12, 0), (12, 1), (34, 99), (39, 99), (40, 99)] [] X σ σ_15) → (m_G (m_c X σ_15 a)) → (m_W (m_c X σ_15 a) n) → (∀ j, 654 ≤ j → m_c X σ_15 a j = m_c X σ a j) → (m_c X σ_15 a = m_c X σ a) → (F_X12_lay_L75_3 X a k_16 x_11 x_12 x_13 x_14 σ_15 = out) → q_I X 1 σ s.heap locs σ_15 H → lv_has ls 9 [(0, .ref a), (1, .int v1), (2, .int v2), (3, .int v3), (4, .int v4), (5, .int x_11), (6, .int x_12), (7, .int x_13), (8, .int x_14)] → W p l e (q_rm 2 46) s m ([.ref a, .int v1, .int v2, .int v3, .int v4] : List Value).toArray below meth c H locs 0 0 (MQ below (q_Qi X 1 σ (fun (r : Int32) (σ' : ST) => (m_G (m_c X σ' a)) ∧ (m_W (m_c X σ' a) (n + 301)) ∧ (∀ j, 930 ≤ j → j < 3720 → m_c X σ' a j = m_c X σ a j) ∧ (r, σ') = F_X12_lay X σ a v1 v2 v3 v4 ∧ q_ow [(12, 0), (12, 1), (34, 99), (39, 99), (40, 99)] [] X σ σ')) ([.ref a, .int v1, .int v2, .int v3, .int v4] : List Value).toArray s 0 0 (q_reg X)) (F0 m 75 ls []) := by
          clear hF
          intro k_16
          induction k_16 with
          | zero =>
            intro x_11 x_12 x_13 x_14 σ_15 H locs ls hms
            try clear nnσ_8; try clear szσ_8
            exact absurd hms (Nat.not_lt_zero _)
          | succ k_16 ih75 =>
            intro x_11 x_12 x_13 x_14 σ_15 H locs ls hm75 hge75 szσ_15 nnσ_15 fr_σ_15 gσ_15 wσ_15 kqσ_15 fxσ_15 hF hI hl
            replace hF := (F_X12_lay_L75_3_s).symm.trans hF
            unfold F_X12_lay_B75_3 at hF
            refine lv_iload hx hb dX12_lay_75 (lv_at hl 8 rfl) ?_
            refine lv_iconst (v := 4) hx hb dX12_lay_77 zki_4 ?_
            have gc_17_x_14 := q_rng x_14
            refine q_icmp_ge (A := x_14.toInt) (B := 4) E rfl (by decide) (tgt := 217) dX12_lay_78 (by decide) (fun c_17 => ?_) (fun c_17 => ?_)
            · skip
              replace hF := q_ifn hF (Int.not_lt.mpr c_17)
              unfold F_X12_lay_E217_7 at hF
              refine lv_iload hx hb dX12_lay_217 (lv_at hl 5 rfl) ?_
              refine q_if_eq (A := x_11.toInt) E rfl (tgt := 227) dX12_lay_219 (by decide) (fun c_18 => ?_) (fun c_18 => ?_)
              · skip
                replace hF := q_ifp hF c_18
                refine lv_aload_n hx hb dX12_lay_227 rfl (lv_at hl 0 rfl) ?_
                refine lv_iconst (v := 5) hx hb dX12_lay_228 zki_5 ?_
                have kc_19 : (5 : Int32).toInt = 5 := zt_5
                refine q_ci (q_rV11_1 (rest := []) E (hml.trans hl.1.symm) hI (c_X12_refuse l X σ_15 a (5 : Int32) ha) kv_X12_284 ha ⟨Nat.le_of_ble_eq_true rfl, Nat.le_of_ble_eq_true rfl⟩ (Nat.le_of_ble_eq_true rfl) dX12_lay_229) hI (Nat.le_of_ble_eq_true rfl) (fun r_20 σ_21 H locs hpσ_21 hkσ_21 hI => ?_)
                have ahpσ_21 := hpσ_21.1
                have bhpσ_21 := hpσ_21.2.1
                have chpσ_21 := hpσ_21.2.2
                clear hpσ_21
                have fr_σ_21 := fr_σ_15.call chpσ_21 rfl rfl
                replace hF := q_biX hF bhpσ_21
                have mcσ_21 := m_cK hkσ_21 hI.1 ha (by decide)
                have gσ_21 : m_G (m_c X σ_21 a) := m_G.ext (fun j _ _ => mcσ_21 j) gσ_15
                have wσ_21 : m_W (m_c X σ_21 a) n := m_W.ext (fun j _ _ => mcσ_21 j) wσ_15
                have kqσ_21 : ∀ j, 654 ≤ j → m_c X σ_21 a j = m_c X σ a j := fun j h => (mcσ_21 j).trans (kqσ_15 j h)
                have fxσ_21 : m_c X σ_21 a = m_c X σ a := (funext mcσ_21).trans fxσ_15
                exact q_reti E hr hlk hI ⟨gσ_21, (by first | exact m_W.le vσ_21 (by omega) | exact m_W.le wσ_21 (by first | (clear hn gσ wσ hh gσ_1 wσ_1 gσ_2 wσ_2 gσ_3 wσ_3 gσ_4 wσ_4 gσ_5 wσ_5 gσ_6 wσ_6 hm42 hge42 gσ_8 wσ_8 gc_10_x_7 c_10 hm75 hge75 szσ_15 gσ_15 wσ_15 gc_17_x_14 c_17 c_18 kc_19 ahpσ_21 bhpσ_21 chpσ_21 gσ_21 wσ_21; omega) | omega)), (fun j h0 h1 => kqσ_21 j (by first | (clear hn gσ wσ hh gσ_1 wσ_1 gσ_2 wσ_2 gσ_3 wσ_3 gσ_4 wσ_4 gσ_5 wσ_5 gσ_6 wσ_6 hm42 hge42 gσ_8 wσ_8 gc_10_x_7 c_10 hm75 hge75 szσ_15 gσ_15 wσ_15 gc_17_x_14 c_17 c_18 kc_19 ahpσ_21 bhpσ_21 chpσ_21 gσ_21 wσ_21; omega) | omega)), (hF.trans hout), fr_σ_21⟩ dX12_lay_232
              · skip
                replace hF := q_ifn hF c_18
                refine lv_iload hx hb dX12_lay_222 (lv_at hl 6 rfl) ?_
                refine q_if_eq (A := x_12.toInt) E rfl (tgt := 233) dX12_lay_224 (by decide) (fun c_22 => ?_) (fun c_22 => ?_)
                · skip
                  replace hF := q_ifp hF c_22
                  refine lv_iload hx hb dX12_lay_233 (lv_at hl 5 rfl) ?_
                  refine lv_aload_n hx hb dX12_lay_235 rfl (lv_at hl 0 rfl) ?_
                  refine gs_X12_35_12 E hI ha dX12_lay_236 ?_
                  refine lv_iconst (v := 4) hx hb dX12_lay_239 zki_4 ?_
                  refine q_iald E hI (q_tk (k' := 34) hI ha rfl (Nat.succ_ne_zero _)) ⟨by decide, rfl⟩ (by decide) (by rw [q_lnk (v := 4650) hI (q_tk (k' := 34) hI ha rfl (Nat.succ_ne_zero _)) rfl (by decide)]; decide) dX12_lay_240 ?_
                  refine lv_topi (fun f_23 ef_23 => ?_)
                  replace hF := q_letX hF ef_23
                  have if_23 : f_23.toInt = m_c X σ a 4 := (m_rd ef_23 (by decide)).trans (congrFun fxσ_15 _)
                  have gc_24_x_11 := q_rng x_11
                  have gc_24_f_23 := q_rng f_23
                  refine q_icmp_le (A := x_11.toInt) (B := f_23.toInt) E rfl rfl (tgt := 251) dX12_lay_241 (by decide) (fun c_24 => ?_) (fun c_24 => ?_)
                  · skip
                    replace hF := q_ifn hF (Int.not_lt.mpr c_24)
                    refine lv_aload_n hx hb dX12_lay_251 rfl (lv_at hl 0 rfl) ?_
                    refine gs_X12_35_12 E hI ha dX12_lay_252 ?_
                    refine lv_bipush (v := 7) hx hb dX12_lay_255 zkb_7 ?_
                    refine q_iald E hI (q_tk (k' := 34) hI ha rfl (Nat.succ_ne_zero _)) ⟨by decide, rfl⟩ (by decide) (by rw [q_lnk (v := 4650) hI (q_tk (k' := 34) hI ha rfl (Nat.succ_ne_zero _)) rfl (by decide)]; decide) dX12_lay_257 ?_
                    refine lv_topi (fun f_25 ef_25 => ?_)
                    replace hF := q_letX hF ef_25
                    have if_25 : f_25.toInt = m_c X σ a 7 := (m_rd ef_25 (by decide)).trans (congrFun fxσ_15 _)
                    refine lv_iconst (v := 1) hx hb dX12_lay_258 zki_1 ?_
                    have gc_26_f_25 := q_rng f_25
                    refine q_icmp_eq (A := f_25.toInt) (B := 1) E rfl (by decide) (tgt := 282) dX12_lay_259 (by decide) (fun c_26 => ?_) (fun c_26 => ?_)
                    · skip
                      replace hF := q_ifp hF c_26
                      refine lv_aload_n hx hb dX12_lay_282 rfl (lv_at hl 0 rfl) ?_
                      refine lv_bipush (v := 9) hx hb dX12_lay_283 zkb_9 ?_
                      have kc_27 : (9 : Int32).toInt = 9 := zt_9
                      refine q_ci (q_rV11_1 (rest := []) E (hml.trans hl.1.symm) hI (c_X12_refuse l X σ_15 a (9 : Int32) ha) kv_X12_284 ha ⟨Nat.le_of_ble_eq_true rfl, Nat.le_of_ble_eq_true rfl⟩ (Nat.le_of_ble_eq_true rfl) dX12_lay_285) hI (Nat.le_of_ble_eq_true rfl) (fun r_28 σ_29 H locs hpσ_29 hkσ_29 hI => ?_)
                      have ahpσ_29 := hpσ_29.1
                      have bhpσ_29 := hpσ_29.2.1
                      have chpσ_29 := hpσ_29.2.2
                      clear hpσ_29
                      have fr_σ_29 := fr_σ_15.call chpσ_29 rfl rfl
                      replace hF := q_biX hF bhpσ_29
                      have mcσ_29 := m_cK hkσ_29 hI.1 ha (by decide)
                      have gσ_29 : m_G (m_c X σ_29 a) := m_G.ext (fun j _ _ => mcσ_29 j) gσ_15
                      have wσ_29 : m_W (m_c X σ_29 a) n := m_W.ext (fun j _ _ => mcσ_29 j) wσ_15
                      have kqσ_29 : ∀ j, 654 ≤ j → m_c X σ_29 a j = m_c X σ a j := fun j h => (mcσ_29 j).trans (kqσ_15 j h)
                      have fxσ_29 : m_c X σ_29 a = m_c X σ a := (funext mcσ_29).trans fxσ_15
                      exact q_reti E hr hlk hI ⟨gσ_29, (by first | exact m_W.le vσ_29 (by omega) | exact m_W.le wσ_29 (by first | (clear hn gσ wσ hh gσ_1 wσ_1 gσ_2 wσ_2 gσ_3 wσ_3 gσ_4 wσ_4 gσ_5 wσ_5 gσ_6 wσ_6 hm42 hge42 gσ_8 wσ_8 gc_10_x_7 c_10 hm75 hge75 szσ_15 gσ_15 wσ_15 gc_17_x_14 c_17 c_18 c_22 if_23 gc_24_x_11 gc_24_f_23 c_24 if_25 gc_26_f_25 c_26 kc_27 ahpσ_29 bhpσ_29 chpσ_29 gσ_29 wσ_29; omega) | omega)), (fun j h0 h1 => kqσ_29 j (by first | (clear hn gσ wσ hh gσ_1 wσ_1 gσ_2 wσ_2 gσ_3 wσ_3 gσ_4 wσ_4 gσ_5 wσ_5 gσ_6 wσ_6 hm42 hge42 gσ_8 wσ_8 gc_10_x_7 c_10 hm75 hge75 szσ_15 gσ_15 wσ_15 gc_17_x_14 c_17 c_18 c_22 if_23 gc_24_x_11 gc_24_f_23 c_24 if_25 gc_26_f_25 c_26 kc_27 ahpσ_29 bhpσ_29 chpσ_29 gσ_29 wσ_29; omega) | omega)), (hF.trans hout), fr_σ_29⟩ dX12_lay_288
                    · skip
                      replace hF := q_ifn hF c_26
                      refine lv_aload_n hx hb dX12_lay_262 rfl (lv_at hl 0 rfl) ?_
                      refine gs_X12_35_12 E hI ha dX12_lay_263 ?_
                      refine lv_bipush (v := 8) hx hb dX12_lay_266 zkb_8 ?_
                      refine q_iald E hI (q_tk (k' := 34) hI ha rfl (Nat.succ_ne_zero _)) ⟨by decide, rfl⟩ (by decide) (by rw [q_lnk (v := 4650) hI (q_tk (k' := 34) hI ha rfl (Nat.succ_ne_zero _)) rfl (by decide)]; decide) dX12_lay_268 ?_
                      refine lv_topi (fun f_30 ef_30 => ?_)
                      replace hF := q_letX hF ef_30
                      have if_30 : f_30.toInt = m_c X σ a 8 := (m_rd ef_30 (by decide)).trans (congrFun fxσ_15 _)
                      refine q_if_ge (A := f_30.toInt) E rfl (tgt := 282) dX12_lay_269 (by decide) (fun c_31 => ?_) (fun c_31 => ?_)
                      · skip
                        replace hF := q_ifn hF (Int.not_lt.mpr c_31)
                        refine lv_aload_n hx hb dX12_lay_282 rfl (lv_at hl 0 rfl) ?_
                        refine lv_bipush (v := 9) hx hb dX12_lay_283 zkb_9 ?_
                        have kc_32 : (9 : Int32).toInt = 9 := zt_9
                        refine q_ci (q_rV11_1 (rest := []) E (hml.trans hl.1.symm) hI (c_X12_refuse l X σ_15 a (9 : Int32) ha) kv_X12_284 ha ⟨Nat.le_of_ble_eq_true rfl, Nat.le_of_ble_eq_true rfl⟩ (Nat.le_of_ble_eq_true rfl) dX12_lay_285) hI (Nat.le_of_ble_eq_true rfl) (fun r_33 σ_34 H locs hpσ_34 hkσ_34 hI => ?_)
                        have ahpσ_34 := hpσ_34.1
                        have bhpσ_34 := hpσ_34.2.1
                        have chpσ_34 := hpσ_34.2.2
                        clear hpσ_34
                        have fr_σ_34 := fr_σ_15.call chpσ_34 rfl rfl
                        replace hF := q_biX hF bhpσ_34
                        have mcσ_34 := m_cK hkσ_34 hI.1 ha (by decide)
                        have gσ_34 : m_G (m_c X σ_34 a) := m_G.ext (fun j _ _ => mcσ_34 j) gσ_15
                        have wσ_34 : m_W (m_c X σ_34 a) n := m_W.ext (fun j _ _ => mcσ_34 j) wσ_15
                        have kqσ_34 : ∀ j, 654 ≤ j → m_c X σ_34 a j = m_c X σ a j := fun j h => (mcσ_34 j).trans (kqσ_15 j h)
                        have fxσ_34 : m_c X σ_34 a = m_c X σ a := (funext mcσ_34).trans fxσ_15
                        exact q_reti E hr hlk hI ⟨gσ_34, (by first | exact m_W.le vσ_34 (by omega) | exact m_W.le wσ_34 (by first | (clear hn gσ wσ hh gσ_1 wσ_1 gσ_2 wσ_2 gσ_3 wσ_3 gσ_4 wσ_4 gσ_5 wσ_5 gσ_6 wσ_6 hm42 hge42 gσ_8 wσ_8 gc_10_x_7 c_10 hm75 hge75 szσ_15 gσ_15 wσ_15 gc_17_x_14 c_17 c_18 c_22 if_23 gc_24_x_11 gc_24_f_23 c_24 if_25 gc_26_f_25 c_26 if_30 c_31 kc_32 ahpσ_34 bhpσ_34 chpσ_34 gσ_34 wσ_34; omega) | omega)), (fun j h0 h1 => kqσ_34 j (by first | (clear hn gσ wσ hh gσ_1 wσ_1 gσ_2 wσ_2 gσ_3 wσ_3 gσ_4 wσ_4 gσ_5 wσ_5 gσ_6 wσ_6 hm42 hge42 gσ_8 wσ_8 gc_10_x_7 c_10 hm75 hge75 szσ_15 gσ_15 wσ_15 gc_17_x_14 c_17 c_18 c_22 if_23 gc_24_x_11 gc_24_f_23 c_24 if_25 gc_26_f_25 c_26 if_30 c_31 kc_32 ahpσ_34 bhpσ_34 chpσ_34 gσ_34 wσ_34; omega) | omega)), (hF.trans hout), fr_σ_34⟩ dX12_lay_288
                      · skip
                        replace hF := q_ifp hF c_31
                        refine lv_aload_n hx hb dX12_lay_272 rfl (lv_at hl 0 rfl) ?_
                        refine gs_X12_35_12 E hI ha dX12_lay_273 ?_
                        refine lv_bipush (v := 6) hx hb dX12_lay_276 zkb_6 ?_
                        refine q_iald E hI (q_tk (k' := 34) hI ha rfl (Nat.succ_ne_zero _)) ⟨by decide, rfl⟩ (by decide) (by rw [q_lnk (v := 4650) hI (q_tk (k' := 34) hI ha rfl (Nat.succ_ne_zero _)) rfl (by decide)]; decide) dX12_lay_278 ?_
                        refine lv_topi (fun f_35 ef_35 => ?_)
                        replace hF := q_letX hF ef_35
                        have if_35 : f_35.toInt = m_c X σ a 6 := (m_rd ef_35 (by decide)).trans (congrFun fxσ_15 _)
                        refine q_if_ge (A := f_35.toInt) E rfl (tgt := 289) dX12_lay_279 (by decide) (fun c_36 => ?_) (fun c_36 => ?_)
                        · skip
                          replace hF := q_ifn hF (Int.not_lt.mpr c_36)
                          refine lv_iconst (v := 0) hx hb dX12_lay_289 zki_0 ?_
                          refine lv_istore (lv' := [(8, .int 0), (0, .ref a), (1, .int v1), (2, .int v2), (3, .int v3), (4, .int v4), (5, .int x_11), (6, .int x_12), (7, .int x_13)]) hx hb dX12_lay_290 hl (by decide) rfl (fun ls hl => ?_)
                          have L_292_38 : ∀ (k_38 : Nat) (x_37 : Int32) (H : Heap) (locs : List Loc) (ls : Array Slot), (2147483647 - x_37.toInt).toNat < k_38 → (0 ≤ x_37.toInt ∧ x_37.toInt ≤ 10) → (∀ t, 0 ≤ t → t < x_37.toInt → m_of σ_15 (q_rf X a 28) t ≤ m_c X σ a (34 + 10 * m_c X σ a 6 + t)) → (F_X12_lay_L292_5 X σ_15 a k_38 x_37 = out) → q_I X 1 σ s.heap locs σ_15 H → lv_has ls 9 [(0, .ref a), (1, .int v1), (2, .int v2), (3, .int v3), (4, .int v4), (5, .int x_11), (6, .int x_12), (7, .int x_13), (8, .int x_37)] → W p l e (q_rm 2 46) s m ([.ref a, .int v1, .int v2, .int v3, .int v4] : List Value).toArray below meth c H locs 0 0 (MQ below (q_Qi X 1 σ (fun (r : Int32) (σ' : ST) => (m_G (m_c X σ' a)) ∧ (m_W (m_c X σ' a) (n + 301)) ∧ (∀ j, 930 ≤ j → j < 3720 → m_c X σ' a j = m_c X σ a j) ∧ (r, σ') = F_X12_lay X σ a v1 v2 v3 v4 ∧ q_ow [(12, 0), (12, 1), (34, 99), (39, 99), (40, 99)] [] X σ σ')) ([.ref a, .int v1, .int v2, .int v3, .int v4] : List Value).toArray s 0 0 (q_reg X)) (F0 m 292 ls []) := by
                            clear hF
                            intro k_38
                            induction k_38 with
                            | zero =>
                              intro x_37 H locs ls hms
                              exact absurd hms (Nat.not_lt_zero _)
                            | succ k_38 ih292 =>
                              intro x_37 H locs ls hm292 hge292 hq292 hF hI hl
                              replace hF := (F_X12_lay_L292_5_s).symm.trans hF
                              unfold F_X12_lay_B292_5 at hF
                              refine lv_iload hx hb dX12_lay_292 (lv_at hl 8 rfl) ?_
                              refine lv_bipush (v := 10) hx hb dX12_lay_294 zkb_10 ?_
                              have gc_39_x_37 := q_rng x_37
                              refine q_icmp_ge (A := x_37.toInt) (B := 10) E rfl (by decide) (tgt := 335) dX12_lay_296 (by decide) (fun c_39 => ?_) (fun c_39 => ?_)
                              · skip
                                replace hF := q_ifn hF (Int.not_lt.mpr c_39)
                                unfold F_X12_lay_E335_6 at hF
                                refine lv_aload_n hx hb dX12_lay_335 rfl (lv_at hl 0 rfl) ?_
                                refine lv_aload_n hx hb dX12_lay_336 rfl (lv_at hl 0 rfl) ?_
                                refine gs_X12_35_12 E hI ha dX12_lay_337 ?_
                                refine lv_bipush (v := 6) hx hb dX12_lay_340 zkb_6 ?_
                                refine q_iald E hI (q_tk (k' := 34) hI ha rfl (Nat.succ_ne_zero _)) ⟨by decide, rfl⟩ (by decide) (by rw [q_lnk (v := 4650) hI (q_tk (k' := 34) hI ha rfl (Nat.succ_ne_zero _)) rfl (by decide)]; decide) dX12_lay_342 ?_
                                refine lv_topi (fun f_40 ef_40 => ?_)
                                replace hF := q_letX hF ef_40
                                have if_40 : f_40.toInt = m_c X σ a 6 := (m_rd ef_40 (by decide)).trans (congrFun fxσ_15 _)
                                refine lv_aload_n hx hb dX12_lay_343 rfl (lv_at hl 0 rfl) ?_
                                refine gs_X12_47_12 E hI ha dX12_lay_344 ?_
                                refine q_cv (q_rV11_2 (rest := []) E (hml.trans hl.1.symm) hI (c_X12_laysDown l X σ_15 a f_40 (q_rf X a 28) ha (q_tk (k' := 39) hI ha rfl (Nat.succ_ne_zero _)) (by rw [fxσ_15, if_40]; exact ⟨hG, by omega, fun k a b => ⟨nnσ_15 k a b, hq292 k a (by first | (clear hn gσ wσ hh gσ_1 wσ_1 gσ_2 wσ_2 gσ_3 wσ_3 gσ_4 wσ_4 gσ_5 wσ_5 gσ_6 wσ_6 hm42 hge42 gσ_8 wσ_8 gc_10_x_7 c_10 hm75 hge75 szσ_15 gσ_15 wσ_15 gc_17_x_14 c_17 c_18 c_22 if_23 gc_24_x_11 gc_24_f_23 c_24 if_25 gc_26_f_25 c_26 if_30 c_31 if_35 c_36 hm292 hq292 gc_39_x_37 if_40; omega) | omega)⟩, by omega⟩) (by rw [fxσ_15]; omega)) kv_X12_311 ha ⟨Nat.le_of_ble_eq_true rfl, Nat.le_of_ble_eq_true rfl⟩ (Nat.le_of_ble_eq_true rfl) dX12_lay_347) hI (Nat.le_of_ble_eq_true rfl) (fun σ_42 H locs hpσ_42 hkσ_42 hI => ?_)
                                have ahpσ_42 := hpσ_42.1
                                have bhpσ_42 := hpσ_42.2.1
                                have chpσ_42 := hpσ_42.2.2.1
                                have dhpσ_42 := hpσ_42.2.2.2.1
                                have ehpσ_42 := hpσ_42.2.2.2.2.1
                                have fhpσ_42 := hpσ_42.2.2.2.2.2.1
                                have ghpσ_42 := hpσ_42.2.2.2.2.2.2.1
                                have hhpσ_42 := hpσ_42.2.2.2.2.2.2.2
                                clear hpσ_42
                                have fr_σ_42 := fr_σ_15.call hhpσ_42 rfl rfl
                                replace hF := q_letX hF ghpσ_42
                                have gσ_42 : m_G (m_c X σ_42 a) := ahpσ_42
                                have wσ_42 : m_W (m_c X σ_42 a) n := m_W.ext (fun j h0 h1 => bhpσ_42 j (by first | (clear hn gσ wσ hh gσ_1 wσ_1 gσ_2 wσ_2 gσ_3 wσ_3 gσ_4 wσ_4 gσ_5 wσ_5 gσ_6 wσ_6 hm42 hge42 gσ_8 wσ_8 gc_10_x_7 c_10 hm75 hge75 szσ_15 gσ_15 wσ_15 gc_17_x_14 c_17 c_18 c_22 if_23 gc_24_x_11 gc_24_f_23 c_24 if_25 gc_26_f_25 c_26 if_30 c_31 if_35 c_36 hm292 hge292 hq292 gc_39_x_37 c_39 if_40 ahpσ_42 bhpσ_42 chpσ_42 dhpσ_42 ehpσ_42 fhpσ_42 gσ_42; omega) | omega) (by first | (clear hn gσ wσ hh gσ_1 wσ_1 gσ_2 wσ_2 gσ_3 wσ_3 gσ_4 wσ_4 gσ_5 wσ_5 gσ_6 wσ_6 hm42 hge42 gσ_8 wσ_8 gc_10_x_7 c_10 hm75 hge75 szσ_15 gσ_15 wσ_15 gc_17_x_14 c_17 c_18 c_22 if_23 gc_24_x_11 gc_24_f_23 c_24 if_25 gc_26_f_25 c_26 if_30 c_31 if_35 c_36 hm292 hge292 hq292 gc_39_x_37 c_39 if_40 ahpσ_42 bhpσ_42 chpσ_42 dhpσ_42 ehpσ_42 fhpσ_42 gσ_42; omega) | omega)) wσ_15
                                have kqσ_42 : ∀ j, 654 ≤ j → m_c X σ_42 a j = m_c X σ a j := (fun j h => (bhpσ_42 j (by first | (clear hn gσ wσ hh gσ_1 wσ_1 gσ_2 wσ_2 gσ_3 wσ_3 gσ_4 wσ_4 gσ_5 wσ_5 gσ_6 wσ_6 hm42 hge42 gσ_8 wσ_8 gc_10_x_7 c_10 hm75 hge75 szσ_15 gσ_15 wσ_15 gc_17_x_14 c_17 c_18 c_22 if_23 gc_24_x_11 gc_24_f_23 c_24 if_25 gc_26_f_25 c_26 if_30 c_31 if_35 c_36 hm292 hge292 hq292 gc_39_x_37 c_39 if_40 ahpσ_42 bhpσ_42 chpσ_42 dhpσ_42 ehpσ_42 fhpσ_42 gσ_42 wσ_42; omega) | omega) (by first | (clear hn gσ wσ hh gσ_1 wσ_1 gσ_2 wσ_2 gσ_3 wσ_3 gσ_4 wσ_4 gσ_5 wσ_5 gσ_6 wσ_6 hm42 hge42 gσ_8 wσ_8 gc_10_x_7 c_10 hm75 hge75 szσ_15 gσ_15 wσ_15 gc_17_x_14 c_17 c_18 c_22 if_23 gc_24_x_11 gc_24_f_23 c_24 if_25 gc_26_f_25 c_26 if_30 c_31 if_35 c_36 hm292 hge292 hq292 gc_39_x_37 c_39 if_40 ahpσ_42 bhpσ_42 chpσ_42 dhpσ_42 ehpσ_42 fhpσ_42 gσ_42 wσ_42; omega) | omega)).trans (kqσ_15 j h))
                                refine lv_aload_n hx hb dX12_lay_350 rfl (lv_at hl 0 rfl) ?_
                                refine q_ci (q_rV11_0 (rest := []) E (hml.trans hl.1.symm) hI (c_X12_heapMany l X σ_42 a ha gσ_42) kv_X12_287 ha ⟨Nat.le_of_ble_eq_true rfl, Nat.le_of_ble_eq_true rfl⟩ (Nat.le_of_ble_eq_true rfl) dX12_lay_351) hI (Nat.le_of_ble_eq_true rfl) (fun r_43 σ_44 H locs hpσ_44 hkσ_44 hI => ?_)
                                have ahpσ_44 := hpσ_44.1
                                have bhpσ_44 := hpσ_44.2.1
                                have chpσ_44 := hpσ_44.2.2.1
                                have dhpσ_44 := hpσ_44.2.2.2
                                clear hpσ_44
                                replace hI := q_Irw ahpσ_44 hI
                                replace hF := q_letX hF dhpσ_44
                                exact q_reti E hr hlk hI ⟨gσ_42, (by first | exact m_W.le vσ_42 (by omega) | exact m_W.le wσ_42 (by first | (clear hn gσ wσ hh gσ_1 wσ_1 gσ_2 wσ_2 gσ_3 wσ_3 gσ_4 wσ_4 gσ_5 wσ_5 gσ_6 wσ_6 hm42 hge42 gσ_8 wσ_8 gc_10_x_7 c_10 hm75 hge75 szσ_15 gσ_15 wσ_15 gc_17_x_14 c_17 c_18 c_22 if_23 gc_24_x_11 gc_24_f_23 c_24 if_25 gc_26_f_25 c_26 if_30 c_31 if_35 c_36 hm292 hge292 hq292 gc_39_x_37 c_39 if_40 ahpσ_42 bhpσ_42 chpσ_42 dhpσ_42 ehpσ_42 fhpσ_42 gσ_42 wσ_42 ahpσ_44 bhpσ_44 chpσ_44 dhpσ_44; omega) | omega)), (fun j h0 h1 => kqσ_42 j (by first | (clear hn gσ wσ hh gσ_1 wσ_1 gσ_2 wσ_2 gσ_3 wσ_3 gσ_4 wσ_4 gσ_5 wσ_5 gσ_6 wσ_6 hm42 hge42 gσ_8 wσ_8 gc_10_x_7 c_10 hm75 hge75 szσ_15 gσ_15 wσ_15 gc_17_x_14 c_17 c_18 c_22 if_23 gc_24_x_11 gc_24_f_23 c_24 if_25 gc_26_f_25 c_26 if_30 c_31 if_35 c_36 hm292 hge292 hq292 gc_39_x_37 c_39 if_40 ahpσ_42 bhpσ_42 chpσ_42 dhpσ_42 ehpσ_42 fhpσ_42 gσ_42 wσ_42 ahpσ_44 bhpσ_44 chpσ_44 dhpσ_44; omega) | omega)), (hF.trans hout), fr_σ_42⟩ dX12_lay_354
                              · skip
                                replace hF := q_ifp hF c_39
                                refine lv_aload_n hx hb dX12_lay_299 rfl (lv_at hl 0 rfl) ?_
                                refine gs_X12_47_12 E hI ha dX12_lay_300 ?_
                                refine lv_iload hx hb dX12_lay_303 (lv_at hl 8 rfl) ?_
                                refine q_iald E hI (q_tk (k' := 39) hI ha rfl (Nat.succ_ne_zero _)) ⟨by decide, rfl⟩ (by first | (clear hn gσ wσ hh gσ_1 wσ_1 gσ_2 wσ_2 gσ_3 wσ_3 gσ_4 wσ_4 gσ_5 wσ_5 gσ_6 wσ_6 hm42 hge42 gσ_8 wσ_8 gc_10_x_7 c_10 hm75 hge75 szσ_15 gσ_15 wσ_15 gc_17_x_14 c_17 c_18 c_22 if_23 gc_24_x_11 gc_24_f_23 c_24 if_25 gc_26_f_25 c_26 if_30 c_31 if_35 c_36 hm292 hq292 gc_39_x_37; omega) | omega) (by rw [q_lnk (v := 10) hI (q_tk (k' := 39) hI ha rfl (Nat.succ_ne_zero _)) rfl (by decide)]; omega) dX12_lay_305 ?_
                                refine lv_topi (fun f_45 ef_45 => ?_)
                                replace hF := q_letX hF ef_45
                                have lkf_45 : f_45.toInt = m_of σ_15 (q_rf X a 28) x_37.toInt := by rw [ef_45]; rfl
                                refine lv_aload_n hx hb dX12_lay_306 rfl (lv_at hl 0 rfl) ?_
                                refine lv_aload_n hx hb dX12_lay_307 rfl (lv_at hl 0 rfl) ?_
                                refine gs_X12_35_12 E hI ha dX12_lay_308 ?_
                                refine lv_bipush (v := 6) hx hb dX12_lay_311 zkb_6 ?_
                                refine q_iald E hI (q_tk (k' := 34) hI ha rfl (Nat.succ_ne_zero _)) ⟨by decide, rfl⟩ (by decide) (by rw [q_lnk (v := 4650) hI (q_tk (k' := 34) hI ha rfl (Nat.succ_ne_zero _)) rfl (by decide)]; decide) dX12_lay_313 ?_
                                refine lv_topi (fun f_46 ef_46 => ?_)
                                replace hF := q_letX hF ef_46
                                have if_46 : f_46.toInt = m_c X σ a 6 := (m_rd ef_46 (by decide)).trans (congrFun fxσ_15 _)
                                refine lv_iload hx hb dX12_lay_314 (lv_at hl 8 rfl) ?_
                                refine q_ci (q_rV11_2 (rest := [.int f_45]) E (hml.trans hl.1.symm) hI (c_X12_handOf l X σ_15 a f_46 x_37 ha (by first | (clear hn gσ wσ gσ_1 wσ_1 gσ_2 wσ_2 gσ_3 wσ_3 gσ_4 wσ_4 gσ_5 wσ_5 gσ_6 wσ_6 hm42 hge42 gσ_8 wσ_8 gc_10_x_7 c_10 hm75 hge75 szσ_15 gσ_15 wσ_15 gc_17_x_14 c_17 c_18 c_22 if_23 gc_24_x_11 gc_24_f_23 c_24 if_25 gc_26_f_25 c_26 if_30 c_31 hm292 hge292 hq292 gc_39_x_37 c_39 lkf_45; omega) | omega) (by first | (clear hn gσ wσ hh gσ_1 wσ_1 gσ_2 wσ_2 gσ_3 wσ_3 gσ_4 wσ_4 gσ_5 wσ_5 gσ_6 wσ_6 hm42 hge42 gσ_8 wσ_8 gc_10_x_7 c_10 hm75 hge75 szσ_15 gσ_15 wσ_15 gc_17_x_14 c_17 c_18 c_22 if_23 gc_24_x_11 gc_24_f_23 c_24 if_25 gc_26_f_25 c_26 if_30 c_31 if_35 c_36 hm292 hq292 gc_39_x_37 lkf_45 if_46; omega) | omega)) kv_X12_276 ha ⟨Nat.le_of_ble_eq_true rfl, Nat.le_of_ble_eq_true rfl⟩ (Nat.le_of_ble_eq_true rfl) dX12_lay_316) hI (Nat.le_of_ble_eq_true rfl) (fun r_47 σ_48 H locs hpσ_48 hkσ_48 hI => ?_)
                                have ahpσ_48 := hpσ_48.1
                                have bhpσ_48 := hpσ_48.2.1
                                have chpσ_48 := hpσ_48.2.2
                                clear hpσ_48
                                replace hI := q_Irw ahpσ_48 hI
                                rw [fxσ_15] at bhpσ_48
                                replace hF := q_letX hF chpσ_48
                                have ir_47 : r_47.toInt = (m_c X σ a (34 + 10 * (m_c X σ a 6) + x_37.toInt)) := (by first | exact bhpσ_48 | (rw [bhpσ_48, if_46]) | (simp only [bhpσ_48, if_46]))
                                have gc_49_f_45 := q_rng f_45
                                have gc_49_r_47 := q_rng r_47
                                refine q_icmp_le (A := f_45.toInt) (B := r_47.toInt) E rfl rfl (tgt := 329) dX12_lay_319 (by decide) (fun c_49 => ?_) (fun c_49 => ?_)
                                · skip
                                  replace hF := q_ifn hF (Int.not_lt.mpr c_49)
                                  obtain ⟨z_50, ez_50⟩ : ∃ y : Int32, y = x_37 + 1 := ⟨_, rfl⟩
                                  replace hF := q_letX hF ez_50
                                  refine lv_iinc (v := z_50) (lv' := [(8, .int z_50), (0, .ref a), (1, .int v1), (2, .int v2), (3, .int v3), (4, .int v4), (5, .int x_11), (6, .int x_12), (7, .int x_13)]) hx hb dX12_lay_329 hl (k := 8) rfl (by rw [ez_50]; rfl) (by decide) rfl (fun ls hl => ?_)
                                  have iz_50 : z_50.toInt = x_37.toInt + 1 := q_inc ez_50 (by first | (clear hn gσ wσ hh gσ_1 wσ_1 gσ_2 wσ_2 gσ_3 wσ_3 gσ_4 wσ_4 gσ_5 wσ_5 gσ_6 wσ_6 hm42 hge42 gσ_8 wσ_8 gc_10_x_7 c_10 hm75 hge75 szσ_15 gσ_15 wσ_15 gc_17_x_14 c_17 c_18 c_22 if_23 gc_24_x_11 gc_24_f_23 c_24 if_25 gc_26_f_25 c_26 if_30 c_31 if_35 c_36 hm292 hq292 gc_39_x_37 lkf_45 if_46 ahpσ_48 bhpσ_48 chpσ_48 ir_47 gc_49_f_45 gc_49_r_47 c_49; omega) | omega)
                                  have hqz_50 : ∀ t, 0 ≤ t → t < z_50.toInt → m_of σ_15 (q_rf X a 28) t ≤ m_c X σ a (34 + 10 * m_c X σ a 6 + t) := fun t h0 h1 => if w : t = x_37.toInt then (by rw [w]; omega) else hq292 t h0 (by first | (clear hn gσ wσ hh gσ_1 wσ_1 gσ_2 wσ_2 gσ_3 wσ_3 gσ_4 wσ_4 gσ_5 wσ_5 gσ_6 wσ_6 hm42 hge42 gσ_8 wσ_8 gc_10_x_7 c_10 hm75 hge75 szσ_15 gσ_15 wσ_15 gc_17_x_14 c_17 c_18 c_22 if_23 gc_24_x_11 gc_24_f_23 c_24 if_25 gc_26_f_25 c_26 if_30 c_31 if_35 c_36 hm292 hge292 hq292 gc_39_x_37 c_39 lkf_45 if_46 ahpσ_48 bhpσ_48 chpσ_48 ir_47 gc_49_f_45 gc_49_r_47 c_49; omega) | omega)
                                  refine lv_goto (tgt := 292) hx hb dX12_lay_332 (by decide) ?_
                                  exact ih292 z_50 _ _ ls (by first | (clear hn gσ wσ hh gσ_1 wσ_1 gσ_2 wσ_2 gσ_3 wσ_3 gσ_4 wσ_4 gσ_5 wσ_5 gσ_6 wσ_6 hm42 hge42 gσ_8 wσ_8 gc_10_x_7 c_10 hm75 hge75 szσ_15 gσ_15 wσ_15 gc_17_x_14 c_17 c_18 c_22 if_23 gc_24_x_11 gc_24_f_23 c_24 if_25 gc_26_f_25 c_26 if_30 c_31 if_35 c_36 hq292 gc_39_x_37 lkf_45 if_46 ahpσ_48 bhpσ_48 chpσ_48 ir_47 gc_49_f_45 gc_49_r_47 c_49; omega) | omega) (by first | (clear hn gσ wσ hh gσ_1 wσ_1 gσ_2 wσ_2 gσ_3 wσ_3 gσ_4 wσ_4 gσ_5 wσ_5 gσ_6 wσ_6 hm42 hge42 gσ_8 wσ_8 gc_10_x_7 c_10 hm75 hge75 szσ_15 gσ_15 wσ_15 gc_17_x_14 c_17 c_18 c_22 if_23 gc_24_x_11 gc_24_f_23 c_24 if_25 gc_26_f_25 c_26 if_30 c_31 if_35 c_36 hm292 hq292 gc_39_x_37 lkf_45 if_46 ahpσ_48 bhpσ_48 chpσ_48 ir_47 gc_49_f_45 gc_49_r_47 c_49; omega) | omega) hqz_50 hF hI (lv_sub hl [1, 2, 3, 4, 5, 6, 7, 8, 0] rfl)
                                · skip
                                  replace hF := q_ifp hF c_49
                                  unfold F_X12_lay_E322_7 at hF
                                  refine lv_aload_n hx hb dX12_lay_322 rfl (lv_at hl 0 rfl) ?_
                                  refine lv_bipush (v := 9) hx hb dX12_lay_323 zkb_9 ?_
                                  have kc_51 : (9 : Int32).toInt = 9 := zt_9
                                  refine q_ci (q_rV11_1 (rest := []) E (hml.trans hl.1.symm) hI (c_X12_refuse l X σ_15 a (9 : Int32) ha) kv_X12_284 ha ⟨Nat.le_of_ble_eq_true rfl, Nat.le_of_ble_eq_true rfl⟩ (Nat.le_of_ble_eq_true rfl) dX12_lay_325) hI (Nat.le_of_ble_eq_true rfl) (fun r_52 σ_53 H locs hpσ_53 hkσ_53 hI => ?_)
                                  have ahpσ_53 := hpσ_53.1
                                  have bhpσ_53 := hpσ_53.2.1
                                  have chpσ_53 := hpσ_53.2.2
                                  clear hpσ_53
                                  have fr_σ_53 := fr_σ_15.call chpσ_53 rfl rfl
                                  replace hF := q_biX hF bhpσ_53
                                  have mcσ_53 := m_cK hkσ_53 hI.1 ha (by decide)
                                  have gσ_53 : m_G (m_c X σ_53 a) := m_G.ext (fun j _ _ => mcσ_53 j) gσ_15
                                  have wσ_53 : m_W (m_c X σ_53 a) n := m_W.ext (fun j _ _ => mcσ_53 j) wσ_15
                                  have kqσ_53 : ∀ j, 654 ≤ j → m_c X σ_53 a j = m_c X σ a j := fun j h => (mcσ_53 j).trans (kqσ_15 j h)
                                  have fxσ_53 : m_c X σ_53 a = m_c X σ a := (funext mcσ_53).trans fxσ_15
                                  exact q_reti E hr hlk hI ⟨gσ_53, (by first | exact m_W.le vσ_53 (by omega) | exact m_W.le wσ_53 (by first | (clear hn gσ wσ hh gσ_1 wσ_1 gσ_2 wσ_2 gσ_3 wσ_3 gσ_4 wσ_4 gσ_5 wσ_5 gσ_6 wσ_6 hm42 hge42 gσ_8 wσ_8 gc_10_x_7 c_10 hm75 hge75 szσ_15 gσ_15 wσ_15 gc_17_x_14 c_17 c_18 c_22 if_23 gc_24_x_11 gc_24_f_23 c_24 if_25 gc_26_f_25 c_26 if_30 c_31 if_35 c_36 hm292 hge292 hq292 gc_39_x_37 c_39 lkf_45 if_46 ahpσ_48 bhpσ_48 chpσ_48 ir_47 gc_49_f_45 gc_49_r_47 c_49 kc_51 ahpσ_53 bhpσ_53 chpσ_53 gσ_53 wσ_53; omega) | omega)), (fun j h0 h1 => kqσ_53 j (by first | (clear hn gσ wσ hh gσ_1 wσ_1 gσ_2 wσ_2 gσ_3 wσ_3 gσ_4 wσ_4 gσ_5 wσ_5 gσ_6 wσ_6 hm42 hge42 gσ_8 wσ_8 gc_10_x_7 c_10 hm75 hge75 szσ_15 gσ_15 wσ_15 gc_17_x_14 c_17 c_18 c_22 if_23 gc_24_x_11 gc_24_f_23 c_24 if_25 gc_26_f_25 c_26 if_30 c_31 if_35 c_36 hm292 hge292 hq292 gc_39_x_37 c_39 lkf_45 if_46 ahpσ_48 bhpσ_48 chpσ_48 ir_47 gc_49_f_45 gc_49_r_47 c_49 kc_51 ahpσ_53 bhpσ_53 chpσ_53 gσ_53 wσ_53; omega) | omega)), (hF.trans hout), fr_σ_53⟩ dX12_lay_328
                          have kc_54 : (0 : Int32).toInt = 0 := zt_0
                          exact L_292_38 ((2147483647 - (0 : Int32).toInt).toNat + 1) 0 _ _ ls (Nat.lt_succ_self _) (by decide) (fun t h0 h1 => by have q : (0 : Int32).toInt = 0 := rfl; omega) hF hI (lv_sub hl [1, 2, 3, 4, 5, 6, 7, 8, 0] rfl)
                        · skip
                          replace hF := q_ifp hF c_36
                          refine lv_aload_n hx hb dX12_lay_282 rfl (lv_at hl 0 rfl) ?_
                          refine lv_bipush (v := 9) hx hb dX12_lay_283 zkb_9 ?_
                          have kc_55 : (9 : Int32).toInt = 9 := zt_9
                          refine q_ci (q_rV11_1 (rest := []) E (hml.trans hl.1.symm) hI (c_X12_refuse l X σ_15 a (9 : Int32) ha) kv_X12_284 ha ⟨Nat.le_of_ble_eq_true rfl, Nat.le_of_ble_eq_true rfl⟩ (Nat.le_of_ble_eq_true rfl) dX12_lay_285) hI (Nat.le_of_ble_eq_true rfl) (fun r_56 σ_57 H locs hpσ_57 hkσ_57 hI => ?_)
                          have ahpσ_57 := hpσ_57.1
                          have bhpσ_57 := hpσ_57.2.1
                          have chpσ_57 := hpσ_57.2.2
                          clear hpσ_57
                          have fr_σ_57 := fr_σ_15.call chpσ_57 rfl rfl
                          replace hF := q_biX hF bhpσ_57
                          have mcσ_57 := m_cK hkσ_57 hI.1 ha (by decide)
                          have gσ_57 : m_G (m_c X σ_57 a) := m_G.ext (fun j _ _ => mcσ_57 j) gσ_15
                          have wσ_57 : m_W (m_c X σ_57 a) n := m_W.ext (fun j _ _ => mcσ_57 j) wσ_15
                          have kqσ_57 : ∀ j, 654 ≤ j → m_c X σ_57 a j = m_c X σ a j := fun j h => (mcσ_57 j).trans (kqσ_15 j h)
                          have fxσ_57 : m_c X σ_57 a = m_c X σ a := (funext mcσ_57).trans fxσ_15
                          exact q_reti E hr hlk hI ⟨gσ_57, (by first | exact m_W.le vσ_57 (by omega) | exact m_W.le wσ_57 (by first | (clear hn gσ wσ hh gσ_1 wσ_1 gσ_2 wσ_2 gσ_3 wσ_3 gσ_4 wσ_4 gσ_5 wσ_5 gσ_6 wσ_6 hm42 hge42 gσ_8 wσ_8 gc_10_x_7 c_10 hm75 hge75 szσ_15 gσ_15 wσ_15 gc_17_x_14 c_17 c_18 c_22 if_23 gc_24_x_11 gc_24_f_23 c_24 if_25 gc_26_f_25 c_26 if_30 c_31 if_35 c_36 kc_55 ahpσ_57 bhpσ_57 chpσ_57 gσ_57 wσ_57; omega) | omega)), (fun j h0 h1 => kqσ_57 j (by first | (clear hn gσ wσ hh gσ_1 wσ_1 gσ_2 wσ_2 gσ_3 wσ_3 gσ_4 wσ_4 gσ_5 wσ_5 gσ_6 wσ_6 hm42 hge42 gσ_8 wσ_8 gc_10_x_7 c_10 hm75 hge75 szσ_15 gσ_15 wσ_15 gc_17_x_14 c_17 c_18 c_22 if_23 gc_24_x_11 gc_24_f_23 c_24 if_25 gc_26_f_25 c_26 if_30 c_31 if_35 c_36 kc_55 ahpσ_57 bhpσ_57 chpσ_57 gσ_57 wσ_57; omega) | omega)), (hF.trans hout), fr_σ_57⟩ dX12_lay_288
                  · skip
                    replace hF := q_ifp hF c_24
                    refine lv_aload_n hx hb dX12_lay_244 rfl (lv_at hl 0 rfl) ?_
                    refine lv_bipush (v := 7) hx hb dX12_lay_245 zkb_7 ?_
                    have kc_58 : (7 : Int32).toInt = 7 := zt_7
                    refine q_ci (q_rV11_1 (rest := []) E (hml.trans hl.1.symm) hI (c_X12_refuse l X σ_15 a (7 : Int32) ha) kv_X12_284 ha ⟨Nat.le_of_ble_eq_true rfl, Nat.le_of_ble_eq_true rfl⟩ (Nat.le_of_ble_eq_true rfl) dX12_lay_247) hI (Nat.le_of_ble_eq_true rfl) (fun r_59 σ_60 H locs hpσ_60 hkσ_60 hI => ?_)
                    have ahpσ_60 := hpσ_60.1
                    have bhpσ_60 := hpσ_60.2.1
                    have chpσ_60 := hpσ_60.2.2
                    clear hpσ_60
                    have fr_σ_60 := fr_σ_15.call chpσ_60 rfl rfl
                    replace hF := q_biX hF bhpσ_60
                    have mcσ_60 := m_cK hkσ_60 hI.1 ha (by decide)
                    have gσ_60 : m_G (m_c X σ_60 a) := m_G.ext (fun j _ _ => mcσ_60 j) gσ_15
                    have wσ_60 : m_W (m_c X σ_60 a) n := m_W.ext (fun j _ _ => mcσ_60 j) wσ_15
                    have kqσ_60 : ∀ j, 654 ≤ j → m_c X σ_60 a j = m_c X σ a j := fun j h => (mcσ_60 j).trans (kqσ_15 j h)
                    have fxσ_60 : m_c X σ_60 a = m_c X σ a := (funext mcσ_60).trans fxσ_15
                    exact q_reti E hr hlk hI ⟨gσ_60, (by first | exact m_W.le vσ_60 (by omega) | exact m_W.le wσ_60 (by first | (clear hn gσ wσ hh gσ_1 wσ_1 gσ_2 wσ_2 gσ_3 wσ_3 gσ_4 wσ_4 gσ_5 wσ_5 gσ_6 wσ_6 hm42 hge42 gσ_8 wσ_8 gc_10_x_7 c_10 hm75 hge75 szσ_15 gσ_15 wσ_15 gc_17_x_14 c_17 c_18 c_22 if_23 gc_24_x_11 gc_24_f_23 c_24 kc_58 ahpσ_60 bhpσ_60 chpσ_60 gσ_60 wσ_60; omega) | omega)), (fun j h0 h1 => kqσ_60 j (by first | (clear hn gσ wσ hh gσ_1 wσ_1 gσ_2 wσ_2 gσ_3 wσ_3 gσ_4 wσ_4 gσ_5 wσ_5 gσ_6 wσ_6 hm42 hge42 gσ_8 wσ_8 gc_10_x_7 c_10 hm75 hge75 szσ_15 gσ_15 wσ_15 gc_17_x_14 c_17 c_18 c_22 if_23 gc_24_x_11 gc_24_f_23 c_24 kc_58 ahpσ_60 bhpσ_60 chpσ_60 gσ_60 wσ_60; omega) | omega)), (hF.trans hout), fr_σ_60⟩ dX12_lay_250
                · skip
                  replace hF := q_ifn hF c_22
                  refine lv_aload_n hx hb dX12_lay_227 rfl (lv_at hl 0 rfl) ?_
                  refine lv_iconst (v := 5) hx hb dX12_lay_228 zki_5 ?_
                  have kc_61 : (5 : Int32).toInt = 5 := zt_5
                  refine q_ci (q_rV11_1 (rest := []) E (hml.trans hl.1.symm) hI (c_X12_refuse l X σ_15 a (5 : Int32) ha) kv_X12_284 ha ⟨Nat.le_of_ble_eq_true rfl, Nat.le_of_ble_eq_true rfl⟩ (Nat.le_of_ble_eq_true rfl) dX12_lay_229) hI (Nat.le_of_ble_eq_true rfl) (fun r_62 σ_63 H locs hpσ_63 hkσ_63 hI => ?_)
                  have ahpσ_63 := hpσ_63.1
                  have bhpσ_63 := hpσ_63.2.1
                  have chpσ_63 := hpσ_63.2.2
                  clear hpσ_63
                  have fr_σ_63 := fr_σ_15.call chpσ_63 rfl rfl
                  replace hF := q_biX hF bhpσ_63
                  have mcσ_63 := m_cK hkσ_63 hI.1 ha (by decide)
                  have gσ_63 : m_G (m_c X σ_63 a) := m_G.ext (fun j _ _ => mcσ_63 j) gσ_15
                  have wσ_63 : m_W (m_c X σ_63 a) n := m_W.ext (fun j _ _ => mcσ_63 j) wσ_15
                  have kqσ_63 : ∀ j, 654 ≤ j → m_c X σ_63 a j = m_c X σ a j := fun j h => (mcσ_63 j).trans (kqσ_15 j h)
                  have fxσ_63 : m_c X σ_63 a = m_c X σ a := (funext mcσ_63).trans fxσ_15
                  exact q_reti E hr hlk hI ⟨gσ_63, (by first | exact m_W.le vσ_63 (by omega) | exact m_W.le wσ_63 (by first | (clear hn gσ wσ hh gσ_1 wσ_1 gσ_2 wσ_2 gσ_3 wσ_3 gσ_4 wσ_4 gσ_5 wσ_5 gσ_6 wσ_6 hm42 hge42 gσ_8 wσ_8 gc_10_x_7 c_10 hm75 hge75 szσ_15 gσ_15 wσ_15 gc_17_x_14 c_17 c_18 c_22 kc_61 ahpσ_63 bhpσ_63 chpσ_63 gσ_63 wσ_63; omega) | omega)), (fun j h0 h1 => kqσ_63 j (by first | (clear hn gσ wσ hh gσ_1 wσ_1 gσ_2 wσ_2 gσ_3 wσ_3 gσ_4 wσ_4 gσ_5 wσ_5 gσ_6 wσ_6 hm42 hge42 gσ_8 wσ_8 gc_10_x_7 c_10 hm75 hge75 szσ_15 gσ_15 wσ_15 gc_17_x_14 c_17 c_18 c_22 kc_61 ahpσ_63 bhpσ_63 chpσ_63 gσ_63 wσ_63; omega) | omega)), (hF.trans hout), fr_σ_63⟩ dX12_lay_232
            · skip
              replace hF := q_ifp hF c_17
              refine lv_aload_n hx hb dX12_lay_81 rfl (lv_at hl 0 rfl) ?_
              refine gs_X12_50_12 E hI ha dX12_lay_82 ?_
              refine lv_iload hx hb dX12_lay_85 (lv_at hl 8 rfl) ?_
              refine q_iald E hI (q_tk (k' := 40) hI ha rfl (Nat.succ_ne_zero _)) ⟨by decide, rfl⟩ (by first | (clear hn gσ wσ hh gσ_1 wσ_1 gσ_2 wσ_2 gσ_3 wσ_3 gσ_4 wσ_4 gσ_5 wσ_5 gσ_6 wσ_6 hm42 hge42 gσ_8 wσ_8 gc_10_x_7 c_10 hm75 szσ_15 gσ_15 wσ_15 gc_17_x_14; omega) | omega) (by rw [q_lnk (v := 4) hI (q_tk (k' := 40) hI ha rfl (Nat.succ_ne_zero _)) rfl (by decide)]; omega) dX12_lay_87 ?_
              refine lv_topi (fun f_64 ef_64 => ?_)
              replace hF := q_letX hF ef_64
              have asf_64 : f_64.toInt = m_of σ_15 (q_rf X a 29) x_14.toInt := by rw [ef_64]; rfl
              refine lv_iconst (v := (-1)) hx hb dX12_lay_88 zki_m1 ?_
              have J_112_64 : ∀  (H : Heap) (locs : List Loc) (ls : Array Slot), (m_of σ_15 (q_rf X a 29) x_14.toInt = -1 ∨ (0 ≤ m_of σ_15 (q_rf X a 29) x_14.toInt ∧ m_of σ_15 (q_rf X a 29) x_14.toInt < m_c X σ a 0)) → (F_X12_lay_J112_8 X x_13 σ_15 a x_14 x_12 x_11 (F_X12_lay_L75_3 X a k_16) = out) → q_I X 1 σ s.heap locs σ_15 H → lv_has ls 9 [(0, .ref a), (1, .int v1), (2, .int v2), (3, .int v3), (4, .int v4), (5, .int x_11), (6, .int x_12), (7, .int x_13), (8, .int x_14)] → W p l e (q_rm 2 46) s m ([.ref a, .int v1, .int v2, .int v3, .int v4] : List Value).toArray below meth c H locs 0 0 (MQ below (q_Qi X 1 σ (fun (r : Int32) (σ' : ST) => (m_G (m_c X σ' a)) ∧ (m_W (m_c X σ' a) (n + 301)) ∧ (∀ j, 930 ≤ j → j < 3720 → m_c X σ' a j = m_c X σ a j) ∧ (r, σ') = F_X12_lay X σ a v1 v2 v3 v4 ∧ q_ow [(12, 0), (12, 1), (34, 99), (39, 99), (40, 99)] [] X σ σ')) ([.ref a, .int v1, .int v2, .int v3, .int v4] : List Value).toArray s 0 0 (q_reg X)) (F0 m 112 ls []) := by
                clear hF
                intro  H locs ls j112 hF hI hl
                unfold F_X12_lay_J112_8 at hF
                refine lv_iload hx hb dX12_lay_112 (lv_at hl 7 rfl) ?_
                have J_133_65 : ∀ (x_65 : Int32) (H : Heap) (locs : List Loc) (ls : Array Slot), (F_X12_lay_J133_9 X x_12 σ_15 a x_14 x_11 (F_X12_lay_L75_3 X a k_16) x_65 = out) → q_I X 1 σ s.heap locs σ_15 H → lv_has ls 9 [(0, .ref a), (1, .int v1), (2, .int v2), (3, .int v3), (4, .int v4), (5, .int x_11), (6, .int x_12), (7, .int x_13), (8, .int x_14)] → W p l e (q_rm 2 46) s m ([.ref a, .int v1, .int v2, .int v3, .int v4] : List Value).toArray below meth c H locs 0 0 (MQ below (q_Qi X 1 σ (fun (r : Int32) (σ' : ST) => (m_G (m_c X σ' a)) ∧ (m_W (m_c X σ' a) (n + 301)) ∧ (∀ j, 930 ≤ j → j < 3720 → m_c X σ' a j = m_c X σ a j) ∧ (r, σ') = F_X12_lay X σ a v1 v2 v3 v4 ∧ q_ow [(12, 0), (12, 1), (34, 99), (39, 99), (40, 99)] [] X σ σ')) ([.ref a, .int v1, .int v2, .int v3, .int v4] : List Value).toArray s 0 0 (q_reg X)) (F0 m 133 ls [.int x_65]) := by
                  clear hF
                  intro x_65 H locs ls  hF hI hl
                  unfold F_X12_lay_J133_9 at hF
                  refine lv_istore (lv' := [(7, .int x_65), (0, .ref a), (1, .int v1), (2, .int v2), (3, .int v3), (4, .int v4), (5, .int x_11), (6, .int x_12), (8, .int x_14)]) hx hb dX12_lay_133 hl (by decide) rfl (fun ls hl => ?_)
                  refine lv_iload hx hb dX12_lay_135 (lv_at hl 7 rfl) ?_
                  have J_161_66 : ∀ (x_66 : Int32) (H : Heap) (locs : List Loc) (ls : Array Slot), (F_X12_lay_J161_10 X σ_15 a x_14 x_11 (F_X12_lay_L75_3 X a k_16) x_65 x_66 = out) → q_I X 1 σ s.heap locs σ_15 H → lv_has ls 9 [(0, .ref a), (1, .int v1), (2, .int v2), (3, .int v3), (4, .int v4), (5, .int x_11), (6, .int x_12), (7, .int x_65), (8, .int x_14)] → W p l e (q_rm 2 46) s m ([.ref a, .int v1, .int v2, .int v3, .int v4] : List Value).toArray below meth c H locs 0 0 (MQ below (q_Qi X 1 σ (fun (r : Int32) (σ' : ST) => (m_G (m_c X σ' a)) ∧ (m_W (m_c X σ' a) (n + 301)) ∧ (∀ j, 930 ≤ j → j < 3720 → m_c X σ' a j = m_c X σ a j) ∧ (r, σ') = F_X12_lay X σ a v1 v2 v3 v4 ∧ q_ow [(12, 0), (12, 1), (34, 99), (39, 99), (40, 99)] [] X σ σ')) ([.ref a, .int v1, .int v2, .int v3, .int v4] : List Value).toArray s 0 0 (q_reg X)) (F0 m 161 ls [.int x_66]) := by
                    clear hF
                    intro x_66 H locs ls  hF hI hl
                    unfold F_X12_lay_J161_10 at hF
                    refine lv_istore (lv' := [(6, .int x_66), (0, .ref a), (1, .int v1), (2, .int v2), (3, .int v3), (4, .int v4), (5, .int x_11), (7, .int x_65), (8, .int x_14)]) hx hb dX12_lay_161 hl (by decide) rfl (fun ls hl => ?_)
                    refine lv_iload hx hb dX12_lay_163 (lv_at hl 6 rfl) ?_
                    refine lv_aload_n hx hb dX12_lay_165 rfl (lv_at hl 1 rfl) ?_
                    refine gs_X12_50_12 E hI ha dX12_lay_166 ?_
                    refine lv_iload hx hb dX12_lay_169 (lv_at hl 8 rfl) ?_
                    refine q_iald E hI (q_tk (k' := 40) hI ha rfl (Nat.succ_ne_zero _)) ⟨by decide, rfl⟩ (by first | (clear hn gσ wσ hh gσ_1 wσ_1 gσ_2 wσ_2 gσ_3 wσ_3 gσ_4 wσ_4 gσ_5 wσ_5 gσ_6 wσ_6 hm42 hge42 gσ_8 wσ_8 gc_10_x_7 c_10 hm75 szσ_15 gσ_15 wσ_15 gc_17_x_14 asf_64 j112; omega) | omega) (by rw [q_lnk (v := 4) hI (q_tk (k' := 40) hI ha rfl (Nat.succ_ne_zero _)) rfl (by decide)]; omega) dX12_lay_171 ?_
                    refine lv_topi (fun f_67 ef_67 => ?_)
                    replace hF := q_letX hF ef_67
                    have asf_67 : f_67.toInt = m_of σ_15 (q_rf X a 29) x_14.toInt := by rw [ef_67]; rfl
                    refine lv_iconst (v := (-1)) hx hb dX12_lay_172 zki_m1 ?_
                    have gc_68_f_67 := q_rng f_67
                    refine q_icmp_ne (A := f_67.toInt) (B := (-1)) E rfl (by decide) (tgt := 180) dX12_lay_173 (by decide) (fun c_68 => ?_) (fun c_68 => ?_)
                    · skip
                      replace hF := q_ifn hF c_68
                      refine lv_iconst (v := 1) hx hb dX12_lay_180 zki_1 ?_
                      refine lv_iadd hx hb dX12_lay_181 ?_
                      refine lv_topi (fun z_69 ez_69 => ?_)
                      replace hF := q_letX hF ez_69
                      have iz_69 := q_addI (A := x_11.toInt) (B := 1) ez_69 rfl (by decide) (by first | (clear hn gσ wσ hh gσ_1 wσ_1 gσ_2 wσ_2 gσ_3 wσ_3 gσ_4 wσ_4 gσ_5 wσ_5 gσ_6 wσ_6 hm42 hge42 gσ_8 wσ_8 gc_10_x_7 c_10 hm75 gσ_15 wσ_15 gc_17_x_14 c_17 asf_64 j112 asf_67 gc_68_f_67 c_68; omega) | omega) (by first | (clear hn gσ wσ hh gσ_1 wσ_1 gσ_2 wσ_2 gσ_3 wσ_3 gσ_4 wσ_4 gσ_5 wσ_5 gσ_6 wσ_6 hm42 hge42 gσ_8 wσ_8 gc_10_x_7 c_10 hm75 gσ_15 wσ_15 gc_17_x_14 asf_64 j112 asf_67 gc_68_f_67 c_68; omega) | omega)
                      refine lv_istore (lv' := [(5, .int z_69), (6, .int x_66), (0, .ref a), (1, .int v1), (2, .int v2), (3, .int v3), (4, .int v4), (7, .int x_65), (8, .int x_14)]) hx hb dX12_lay_182 hl (by decide) rfl (fun ls hl => ?_)
                      refine lv_aload_n hx hb dX12_lay_184 rfl (lv_at hl 2 rfl) ?_
                      refine gs_X12_50_12 E hI ha dX12_lay_185 ?_
                      refine lv_iload hx hb dX12_lay_188 (lv_at hl 8 rfl) ?_
                      refine q_iald E hI (q_tk (k' := 40) hI ha rfl (Nat.succ_ne_zero _)) ⟨by decide, rfl⟩ (by first | (clear hn gσ wσ hh gσ_1 wσ_1 gσ_2 wσ_2 gσ_3 wσ_3 gσ_4 wσ_4 gσ_5 wσ_5 gσ_6 wσ_6 hm42 hge42 gσ_8 wσ_8 gc_10_x_7 c_10 hm75 szσ_15 gσ_15 wσ_15 gc_17_x_14 asf_64 j112 asf_67 gc_68_f_67 c_68 iz_69; omega) | omega) (by rw [q_lnk (v := 4) hI (q_tk (k' := 40) hI ha rfl (Nat.succ_ne_zero _)) rfl (by decide)]; omega) dX12_lay_190 ?_
                      refine lv_topi (fun f_70 ef_70 => ?_)
                      replace hF := q_letX hF ef_70
                      have asf_70 : f_70.toInt = m_of σ_15 (q_rf X a 29) x_14.toInt := by rw [ef_70]; rfl
                      refine lv_iconst (v := (-1)) hx hb dX12_lay_191 zki_m1 ?_
                      have gc_71_f_70 := q_rng f_70
                      refine q_icmp_eq (A := f_70.toInt) (B := (-1)) E rfl (by decide) (tgt := 211) dX12_lay_192 (by decide) (fun c_71 => ?_) (fun c_71 => ?_)
                      · skip
                        replace hF := q_ifp hF c_71
                        obtain ⟨z_72, ez_72⟩ : ∃ y : Int32, y = x_14 + 1 := ⟨_, rfl⟩
                        replace hF := q_letX hF ez_72
                        refine lv_iinc (v := z_72) (lv' := [(8, .int z_72), (5, .int z_69), (6, .int x_66), (0, .ref a), (1, .int v1), (2, .int v2), (3, .int v3), (4, .int v4), (7, .int x_65)]) hx hb dX12_lay_211 hl (k := 8) rfl (by rw [ez_72]; rfl) (by decide) rfl (fun ls hl => ?_)
                        have iz_72 : z_72.toInt = x_14.toInt + 1 := q_inc ez_72 (by first | (clear hn gσ wσ hh gσ_1 wσ_1 gσ_2 wσ_2 gσ_3 wσ_3 gσ_4 wσ_4 gσ_5 wσ_5 gσ_6 wσ_6 hm42 hge42 gσ_8 wσ_8 gc_10_x_7 c_10 hm75 szσ_15 gσ_15 wσ_15 gc_17_x_14 asf_64 j112 asf_67 gc_68_f_67 c_68 iz_69 asf_70 gc_71_f_70 c_71; omega) | omega)
                        refine lv_goto (tgt := 75) hx hb dX12_lay_214 (by decide) ?_
                        exact ih75 z_69 x_66 x_65 z_72 σ_15 _ _ ls (by first | (clear hn gσ wσ hh gσ_1 wσ_1 gσ_2 wσ_2 gσ_3 wσ_3 gσ_4 wσ_4 gσ_5 wσ_5 gσ_6 wσ_6 hm42 hge42 gσ_8 wσ_8 gc_10_x_7 c_10 hm75 szσ_15 gσ_15 wσ_15 gc_17_x_14 asf_64 j112 gc_68_f_67 iz_69 gc_71_f_70; omega) | omega) (by first | (clear hn gσ wσ hh gσ_1 wσ_1 gσ_2 wσ_2 gσ_3 wσ_3 gσ_4 wσ_4 gσ_5 wσ_5 gσ_6 wσ_6 hm42 hge42 gσ_8 wσ_8 gc_10_x_7 c_10 hm75 gσ_15 wσ_15 gc_17_x_14 asf_64 j112 asf_67 gc_68_f_67 c_68 asf_70 gc_71_f_70 c_71; omega) | omega) (by first | (clear hn gσ wσ hh gσ_1 wσ_1 gσ_2 wσ_2 gσ_3 wσ_3 gσ_4 wσ_4 gσ_5 wσ_5 gσ_6 wσ_6 hm42 hge42 gσ_8 wσ_8 gc_10_x_7 c_10 hm75 hge75 gσ_15 wσ_15 gc_17_x_14 c_17 asf_64 j112 gc_68_f_67 gc_71_f_70 iz_72; omega) | omega) nnσ_15 fr_σ_15 gσ_15 wσ_15 kqσ_15 fxσ_15 hF hI (lv_sub hl [3, 4, 5, 6, 7, 1, 2, 8, 0] rfl)
                      · skip
                        replace hF := q_ifn hF c_71
                        refine lv_aload_n hx hb dX12_lay_195 rfl (lv_at hl 2 rfl) ?_
                        refine gs_X12_47_12 E hI ha dX12_lay_196 ?_
                        refine lv_aload_n hx hb dX12_lay_199 rfl (lv_at hl 2 rfl) ?_
                        refine gs_X12_50_12 E hI ha dX12_lay_200 ?_
                        refine lv_iload hx hb dX12_lay_203 (lv_at hl 8 rfl) ?_
                        refine q_iald E hI (q_tk (k' := 40) hI ha rfl (Nat.succ_ne_zero _)) ⟨by decide, rfl⟩ (by first | (clear hn gσ wσ hh gσ_1 wσ_1 gσ_2 wσ_2 gσ_3 wσ_3 gσ_4 wσ_4 gσ_5 wσ_5 gσ_6 wσ_6 hm42 hge42 gσ_8 wσ_8 gc_10_x_7 c_10 hm75 szσ_15 gσ_15 wσ_15 gc_17_x_14 asf_64 j112 asf_67 gc_68_f_67 c_68 iz_69 asf_70 gc_71_f_70 c_71; omega) | omega) (by rw [q_lnk (v := 4) hI (q_tk (k' := 40) hI ha rfl (Nat.succ_ne_zero _)) rfl (by decide)]; omega) dX12_lay_205 ?_
                        refine lv_topi (fun f_73 ef_73 => ?_)
                        replace hF := q_letX hF ef_73
                        have asf_73 : f_73.toInt = m_of σ_15 (q_rf X a 29) x_14.toInt := by rw [ef_73]; rfl
                        refine lv_dup2_11 hx hb dX12_lay_206 rfl rfl ?_
                        refine q_iald E hI (q_tk (k' := 39) hI ha rfl (Nat.succ_ne_zero _)) ⟨by decide, rfl⟩ (by first | (clear hn gσ wσ hh gσ_1 wσ_1 gσ_2 wσ_2 gσ_3 wσ_3 gσ_4 wσ_4 gσ_5 wσ_5 gσ_6 wσ_6 hm42 hge42 gσ_8 wσ_8 gc_10_x_7 c_10 hm75 hge75 szσ_15 gσ_15 wσ_15 gc_17_x_14 c_17 asf_64 iz_69 gc_71_f_70; omega) | omega) (by rw [q_lnk (v := 10) hI (q_tk (k' := 39) hI ha rfl (Nat.succ_ne_zero _)) rfl (by decide)]; omega) dX12_lay_207 ?_
                        refine lv_topi (fun f_74 ef_74 => ?_)
                        replace hF := q_letX hF ef_74
                        have lyf_74 : f_74.toInt = m_of σ_15 (q_rf X a 28) (m_of σ_15 (q_rf X a 29) x_14.toInt) := by rw [ef_74, ← asf_73]; rfl
                        have lbf_74 := m_S_ge (c := m_of σ_15 (q_rf X a 28)) (b := 0) (A := m_of σ_15 (q_rf X a 29) x_14.toInt) (n := 10) (fun j a b => nnσ_15 j a (by first | (clear hn gσ wσ hh gσ_1 wσ_1 gσ_2 wσ_2 gσ_3 wσ_3 gσ_4 wσ_4 gσ_5 wσ_5 gσ_6 wσ_6 hm42 hge42 gσ_8 wσ_8 gc_10_x_7 c_10 hm75 hge75 szσ_15 gσ_15 wσ_15 gc_17_x_14 c_17 asf_64 j112 asf_67 gc_68_f_67 c_68 iz_69 asf_70 gc_71_f_70 c_71 asf_73 lyf_74; omega) | omega)) (by first | (clear hn gσ wσ hh gσ_1 wσ_1 gσ_2 wσ_2 gσ_3 wσ_3 gσ_4 wσ_4 gσ_5 wσ_5 gσ_6 wσ_6 hm42 hge42 gσ_8 wσ_8 gc_10_x_7 c_10 hm75 hge75 szσ_15 gσ_15 wσ_15 gc_17_x_14 c_17 asf_64 iz_69 gc_71_f_70 lyf_74; omega) | omega) (by first | (clear hn gσ wσ gσ_1 wσ_1 gσ_2 wσ_2 gσ_3 wσ_3 gσ_4 wσ_4 gσ_5 wσ_5 gσ_6 wσ_6 hm42 hge42 gσ_8 wσ_8 gc_10_x_7 c_10 hm75 hge75 szσ_15 gσ_15 wσ_15 gc_17_x_14 c_17 asf_64 iz_69 gc_71_f_70 lyf_74; omega) | omega)
                        have lnf_74 := nnσ_15 (m_of σ_15 (q_rf X a 29) x_14.toInt) (by first | (clear hn gσ wσ hh gσ_1 wσ_1 gσ_2 wσ_2 gσ_3 wσ_3 gσ_4 wσ_4 gσ_5 wσ_5 gσ_6 wσ_6 hm42 hge42 gσ_8 wσ_8 gc_10_x_7 c_10 hm75 hge75 szσ_15 gσ_15 wσ_15 gc_17_x_14 c_17 asf_64 iz_69 gc_71_f_70 lyf_74 lbf_74; omega) | omega) (by first | (clear hn gσ wσ gσ_1 wσ_1 gσ_2 wσ_2 gσ_3 wσ_3 gσ_4 wσ_4 gσ_5 wσ_5 gσ_6 wσ_6 hm42 hge42 gσ_8 wσ_8 gc_10_x_7 c_10 hm75 hge75 szσ_15 gσ_15 wσ_15 gc_17_x_14 c_17 asf_64 iz_69 gc_71_f_70 lyf_74 lbf_74; omega) | omega)
                        refine lv_iconst (v := 1) hx hb dX12_lay_208 zki_1 ?_
                        refine lv_iadd hx hb dX12_lay_209 ?_
                        refine lv_topi (fun z_75 ez_75 => ?_)
                        replace hF := q_letX hF ez_75
                        have iz_75 := q_addI (A := f_74.toInt) (B := 1) ez_75 rfl (by decide) (by first | (clear hn gσ wσ hh gσ_1 wσ_1 gσ_2 wσ_2 gσ_3 wσ_3 gσ_4 wσ_4 gσ_5 wσ_5 gσ_6 wσ_6 hm42 hge42 gσ_8 wσ_8 gc_10_x_7 c_10 hm75 hge75 szσ_15 gσ_15 wσ_15 gc_17_x_14 c_17 asf_64 j112 asf_67 gc_68_f_67 c_68 iz_69 asf_70 gc_71_f_70 c_71 asf_73 lbf_74; omega) | omega) (by first | (clear hn gσ wσ hh gσ_1 wσ_1 gσ_2 wσ_2 gσ_3 wσ_3 gσ_4 wσ_4 gσ_5 wσ_5 gσ_6 wσ_6 hm42 hge42 gσ_8 wσ_8 gc_10_x_7 c_10 hm75 gσ_15 wσ_15 gc_17_x_14 asf_64 j112 asf_67 gc_68_f_67 c_68 asf_70 gc_71_f_70 c_71 asf_73 lnf_74; omega) | omega)
                        refine q_iastN E hI (q_tk (k' := 39) hI ha rfl (Nat.succ_ne_zero _)) ⟨by decide, rfl⟩ (by first | (clear hn gσ wσ hh gσ_1 wσ_1 gσ_2 wσ_2 gσ_3 wσ_3 gσ_4 wσ_4 gσ_5 wσ_5 gσ_6 wσ_6 hm42 hge42 gσ_8 wσ_8 gc_10_x_7 c_10 hm75 hge75 szσ_15 gσ_15 wσ_15 gc_17_x_14 c_17 asf_64 iz_69 gc_71_f_70 lyf_74 lbf_74 lnf_74 iz_75; omega) | omega) (by rw [q_lnk (v := 10) hI (q_tk (k' := 39) hI ha rfl (Nat.succ_ne_zero _)) rfl (by decide)]; omega) (show 1 < 9 by decide) (q_inU rfl) dX12_lay_210 (fun H locs σ_76 hσ_76 hI => ?_)
                        replace hF := q_letX hF hσ_76
                        have fr_σ_76 := fr_σ_15.si hσ_76 (q_tk (k' := 39) hI ha rfl (Nat.succ_ne_zero _)) rfl
                        have mcσ_76 := m_wo hσ_76 (m_ne (q_tk (k' := 39) hI ha rfl (Nat.succ_ne_zero _)) (q_tk (f := 20) (k' := 34) hI ha rfl (by decide)) (by decide))
                        have gσ_76 : m_G (m_c X σ_76 a) := m_G.ext (fun j _ _ => mcσ_76 j) gσ_15
                        have wσ_76 : m_W (m_c X σ_76 a) n := m_W.ext (fun j _ _ => mcσ_76 j) wσ_15
                        have kqσ_76 : ∀ j, 654 ≤ j → m_c X σ_76 a j = m_c X σ a j := fun j h => (mcσ_76 j).trans (kqσ_15 j h)
                        have fxσ_76 : m_c X σ_76 a = m_c X σ a := (funext mcσ_76).trans fxσ_15
                        have moσ_76 := m_ofw hσ_76 asf_73 (by first | (clear hn gσ wσ hh gσ_1 wσ_1 gσ_2 wσ_2 gσ_3 wσ_3 gσ_4 wσ_4 gσ_5 wσ_5 gσ_6 wσ_6 hm42 hge42 gσ_8 wσ_8 gc_10_x_7 c_10 hm75 hge75 szσ_15 gσ_15 wσ_15 gc_17_x_14 c_17 asf_64 iz_69 gc_71_f_70 lyf_74 lbf_74 lnf_74 iz_75 gσ_76 wσ_76; omega) | omega)
                        have suσ_76 := m_S_upd (c := m_of σ_15 (q_rf X a 28)) (c' := m_of σ_76 (q_rf X a 28)) (b := 0) (n := 10) (fun j a b => moσ_76 j a) (by first | (clear hn gσ wσ hh gσ_1 wσ_1 gσ_2 wσ_2 gσ_3 wσ_3 gσ_4 wσ_4 gσ_5 wσ_5 gσ_6 wσ_6 hm42 hge42 gσ_8 wσ_8 gc_10_x_7 c_10 hm75 hge75 szσ_15 gσ_15 wσ_15 gc_17_x_14 c_17 asf_64 iz_69 gc_71_f_70 lyf_74 lbf_74 lnf_74 iz_75 gσ_76 wσ_76; omega) | omega) (by first | (clear hn gσ wσ gσ_1 wσ_1 gσ_2 wσ_2 gσ_3 wσ_3 gσ_4 wσ_4 gσ_5 wσ_5 gσ_6 wσ_6 hm42 hge42 gσ_8 wσ_8 gc_10_x_7 c_10 hm75 hge75 szσ_15 gσ_15 wσ_15 gc_17_x_14 c_17 asf_64 iz_69 gc_71_f_70 lyf_74 lbf_74 lnf_74 iz_75 gσ_76 wσ_76; omega) | omega)
                        have nnσ_76 : ∀ k, 0 ≤ k → k < 10 → 0 ≤ m_of σ_76 (q_rf X a 28) k := fun k a b => by rw [moσ_76 k a]; split; exact (by first | (clear hn gσ wσ hh gσ_1 wσ_1 gσ_2 wσ_2 gσ_3 wσ_3 gσ_4 wσ_4 gσ_5 wσ_5 gσ_6 wσ_6 hm42 hge42 gσ_8 wσ_8 gc_10_x_7 c_10 hm75 hge75 szσ_15 gσ_15 wσ_15 gc_17_x_14 c_17 asf_64 j112 asf_67 gc_68_f_67 c_68 iz_69 asf_70 gc_71_f_70 c_71 asf_73 lbf_74 gσ_76 wσ_76 suσ_76; omega) | omega); exact nnσ_15 k a b
                        obtain ⟨z_77, ez_77⟩ : ∃ y : Int32, y = x_14 + 1 := ⟨_, rfl⟩
                        replace hF := q_letX hF ez_77
                        refine lv_iinc (v := z_77) (lv' := [(8, .int z_77), (5, .int z_69), (6, .int x_66), (0, .ref a), (1, .int v1), (2, .int v2), (3, .int v3), (4, .int v4), (7, .int x_65)]) hx hb dX12_lay_211 hl (k := 8) rfl (by rw [ez_77]; rfl) (by decide) rfl (fun ls hl => ?_)
                        have iz_77 : z_77.toInt = x_14.toInt + 1 := q_inc ez_77 (by first | (clear hn gσ wσ hh gσ_1 wσ_1 gσ_2 wσ_2 gσ_3 wσ_3 gσ_4 wσ_4 gσ_5 wσ_5 gσ_6 wσ_6 hm42 hge42 gσ_8 wσ_8 gc_10_x_7 c_10 hm75 szσ_15 gσ_15 wσ_15 gc_17_x_14 asf_64 j112 asf_67 gc_68_f_67 c_68 iz_69 asf_70 gc_71_f_70 c_71 asf_73 lyf_74 lbf_74 lnf_74 iz_75 gσ_76 wσ_76 suσ_76; omega) | omega)
                        refine lv_goto (tgt := 75) hx hb dX12_lay_214 (by decide) ?_
                        exact ih75 z_69 x_66 x_65 z_77 σ_76 _ _ ls (by first | (clear hn gσ wσ hh gσ_1 wσ_1 gσ_2 wσ_2 gσ_3 wσ_3 gσ_4 wσ_4 gσ_5 wσ_5 gσ_6 wσ_6 hm42 hge42 gσ_8 wσ_8 gc_10_x_7 c_10 szσ_15 gσ_15 wσ_15 gc_17_x_14 asf_64 iz_69 gc_71_f_70 lyf_74 lbf_74 lnf_74 iz_75 gσ_76 wσ_76 suσ_76; omega) | omega) (by first | (clear hn gσ wσ hh gσ_1 wσ_1 gσ_2 wσ_2 gσ_3 wσ_3 gσ_4 wσ_4 gσ_5 wσ_5 gσ_6 wσ_6 hm42 hge42 gσ_8 wσ_8 gc_10_x_7 c_10 hm75 gσ_15 wσ_15 gc_17_x_14 asf_64 j112 asf_67 gc_68_f_67 c_68 asf_70 gc_71_f_70 c_71 asf_73 lbf_74 lnf_74 gσ_76 wσ_76; omega) | omega) (by first | (clear hn gσ wσ hh gσ_1 wσ_1 gσ_2 wσ_2 gσ_3 wσ_3 gσ_4 wσ_4 gσ_5 wσ_5 gσ_6 wσ_6 hm42 hge42 gσ_8 wσ_8 gc_10_x_7 c_10 hm75 hge75 gσ_15 wσ_15 gc_17_x_14 c_17 asf_64 j112 asf_67 gc_68_f_67 c_68 asf_70 gc_71_f_70 c_71 asf_73 lbf_74 lnf_74 gσ_76 wσ_76 iz_77; omega) | omega) nnσ_76 fr_σ_76 gσ_76 wσ_76 kqσ_76 fxσ_76 hF hI (lv_sub hl [3, 4, 5, 6, 7, 1, 2, 8, 0] rfl)
                    · skip
                      replace hF := q_ifp hF c_68
                      refine lv_iconst (v := 0) hx hb dX12_lay_176 zki_0 ?_
                      refine lv_goto (tgt := 181) hx hb dX12_lay_177 (by decide) ?_
                      refine lv_iadd hx hb dX12_lay_181 ?_
                      refine lv_topi (fun z_78 ez_78 => ?_)
                      replace hF := q_letX hF ez_78
                      have iz_78 := q_addI (A := x_11.toInt) (B := 0) ez_78 rfl (by decide) (by first | (clear hn gσ wσ hh gσ_1 wσ_1 gσ_2 wσ_2 gσ_3 wσ_3 gσ_4 wσ_4 gσ_5 wσ_5 gσ_6 wσ_6 hm42 hge42 gσ_8 wσ_8 gc_10_x_7 c_10 hm75 gσ_15 wσ_15 gc_17_x_14 c_17 asf_64 j112 asf_67 gc_68_f_67 c_68; omega) | omega) (by first | (clear hn gσ wσ hh gσ_1 wσ_1 gσ_2 wσ_2 gσ_3 wσ_3 gσ_4 wσ_4 gσ_5 wσ_5 gσ_6 wσ_6 hm42 hge42 gσ_8 wσ_8 gc_10_x_7 c_10 hm75 gσ_15 wσ_15 gc_17_x_14 asf_64 j112 asf_67 gc_68_f_67 c_68; omega) | omega)
                      refine lv_istore (lv' := [(5, .int z_78), (6, .int x_66), (0, .ref a), (1, .int v1), (2, .int v2), (3, .int v3), (4, .int v4), (7, .int x_65), (8, .int x_14)]) hx hb dX12_lay_182 hl (by decide) rfl (fun ls hl => ?_)
                      refine lv_aload_n hx hb dX12_lay_184 rfl (lv_at hl 2 rfl) ?_
                      refine gs_X12_50_12 E hI ha dX12_lay_185 ?_
                      refine lv_iload hx hb dX12_lay_188 (lv_at hl 8 rfl) ?_
                      refine q_iald E hI (q_tk (k' := 40) hI ha rfl (Nat.succ_ne_zero _)) ⟨by decide, rfl⟩ (by first | (clear hn gσ wσ hh gσ_1 wσ_1 gσ_2 wσ_2 gσ_3 wσ_3 gσ_4 wσ_4 gσ_5 wσ_5 gσ_6 wσ_6 hm42 hge42 gσ_8 wσ_8 gc_10_x_7 c_10 hm75 szσ_15 gσ_15 wσ_15 gc_17_x_14 asf_64 j112 asf_67 gc_68_f_67 c_68 iz_78; omega) | omega) (by rw [q_lnk (v := 4) hI (q_tk (k' := 40) hI ha rfl (Nat.succ_ne_zero _)) rfl (by decide)]; omega) dX12_lay_190 ?_
                      refine lv_topi (fun f_79 ef_79 => ?_)
                      replace hF := q_letX hF ef_79
                      have asf_79 : f_79.toInt = m_of σ_15 (q_rf X a 29) x_14.toInt := by rw [ef_79]; rfl
                      refine lv_iconst (v := (-1)) hx hb dX12_lay_191 zki_m1 ?_
                      have gc_80_f_79 := q_rng f_79
                      refine q_icmp_eq (A := f_79.toInt) (B := (-1)) E rfl (by decide) (tgt := 211) dX12_lay_192 (by decide) (fun c_80 => ?_) (fun c_80 => ?_)
                      · skip
                        replace hF := q_ifp hF c_80
                        obtain ⟨z_81, ez_81⟩ : ∃ y : Int32, y = x_14 + 1 := ⟨_, rfl⟩
                        replace hF := q_letX hF ez_81
                        refine lv_iinc (v := z_81) (lv' := [(8, .int z_81), (5, .int z_78), (6, .int x_66), (0, .ref a), (1, .int v1), (2, .int v2), (3, .int v3), (4, .int v4), (7, .int x_65)]) hx hb dX12_lay_211 hl (k := 8) rfl (by rw [ez_81]; rfl) (by decide) rfl (fun ls hl => ?_)
                        have iz_81 : z_81.toInt = x_14.toInt + 1 := q_inc ez_81 (by first | (clear hn gσ wσ hh gσ_1 wσ_1 gσ_2 wσ_2 gσ_3 wσ_3 gσ_4 wσ_4 gσ_5 wσ_5 gσ_6 wσ_6 hm42 hge42 gσ_8 wσ_8 gc_10_x_7 c_10 hm75 szσ_15 gσ_15 wσ_15 gc_17_x_14 asf_64 j112 asf_67 gc_68_f_67 c_68 iz_78 asf_79 gc_80_f_79 c_80; omega) | omega)
                        refine lv_goto (tgt := 75) hx hb dX12_lay_214 (by decide) ?_
                        exact ih75 z_78 x_66 x_65 z_81 σ_15 _ _ ls (by first | (clear hn gσ wσ hh gσ_1 wσ_1 gσ_2 wσ_2 gσ_3 wσ_3 gσ_4 wσ_4 gσ_5 wσ_5 gσ_6 wσ_6 hm42 hge42 gσ_8 wσ_8 gc_10_x_7 c_10 szσ_15 gσ_15 wσ_15 gc_17_x_14 asf_64 gc_68_f_67 iz_78 asf_79 gc_80_f_79 c_80; omega) | omega) (by first | (clear hn gσ wσ hh gσ_1 wσ_1 gσ_2 wσ_2 gσ_3 wσ_3 gσ_4 wσ_4 gσ_5 wσ_5 gσ_6 wσ_6 hm42 hge42 gσ_8 wσ_8 gc_10_x_7 c_10 hm75 gσ_15 wσ_15 gc_17_x_14 asf_64 j112 asf_67 gc_68_f_67 c_68 asf_79 gc_80_f_79 c_80; omega) | omega) (by first | (clear hn gσ wσ hh gσ_1 wσ_1 gσ_2 wσ_2 gσ_3 wσ_3 gσ_4 wσ_4 gσ_5 wσ_5 gσ_6 wσ_6 hm42 hge42 gσ_8 wσ_8 gc_10_x_7 c_10 hm75 hge75 gσ_15 wσ_15 gc_17_x_14 c_17 asf_64 j112 asf_67 gc_68_f_67 c_68 asf_79 gc_80_f_79 c_80 iz_81; omega) | omega) nnσ_15 fr_σ_15 gσ_15 wσ_15 kqσ_15 fxσ_15 hF hI (lv_sub hl [3, 4, 5, 6, 7, 1, 2, 8, 0] rfl)
                      · skip
                        replace hF := q_ifn hF c_80
                        refine lv_aload_n hx hb dX12_lay_195 rfl (lv_at hl 2 rfl) ?_
                        refine gs_X12_47_12 E hI ha dX12_lay_196 ?_
                        refine lv_aload_n hx hb dX12_lay_199 rfl (lv_at hl 2 rfl) ?_
                        refine gs_X12_50_12 E hI ha dX12_lay_200 ?_
                        refine lv_iload hx hb dX12_lay_203 (lv_at hl 8 rfl) ?_
                        refine q_iald E hI (q_tk (k' := 40) hI ha rfl (Nat.succ_ne_zero _)) ⟨by decide, rfl⟩ (by first | (clear hn gσ wσ hh gσ_1 wσ_1 gσ_2 wσ_2 gσ_3 wσ_3 gσ_4 wσ_4 gσ_5 wσ_5 gσ_6 wσ_6 hm42 hge42 gσ_8 wσ_8 gc_10_x_7 c_10 hm75 szσ_15 gσ_15 wσ_15 gc_17_x_14 asf_64 j112 asf_67 gc_68_f_67 c_68 iz_78 asf_79 gc_80_f_79 c_80; omega) | omega) (by rw [q_lnk (v := 4) hI (q_tk (k' := 40) hI ha rfl (Nat.succ_ne_zero _)) rfl (by decide)]; omega) dX12_lay_205 ?_
                        refine lv_topi (fun f_82 ef_82 => ?_)
                        replace hF := q_letX hF ef_82
                        have asf_82 : f_82.toInt = m_of σ_15 (q_rf X a 29) x_14.toInt := by rw [ef_82]; rfl
                        refine lv_dup2_11 hx hb dX12_lay_206 rfl rfl ?_
                        refine q_iald E hI (q_tk (k' := 39) hI ha rfl (Nat.succ_ne_zero _)) ⟨by decide, rfl⟩ (by first | (clear hn gσ wσ hh gσ_1 wσ_1 gσ_2 wσ_2 gσ_3 wσ_3 gσ_4 wσ_4 gσ_5 wσ_5 gσ_6 wσ_6 hm42 hge42 gσ_8 wσ_8 gc_10_x_7 c_10 hm75 hge75 szσ_15 gσ_15 wσ_15 gc_17_x_14 c_17 asf_64 j112 gc_68_f_67 iz_78 gc_80_f_79 asf_82; omega) | omega) (by rw [q_lnk (v := 10) hI (q_tk (k' := 39) hI ha rfl (Nat.succ_ne_zero _)) rfl (by decide)]; omega) dX12_lay_207 ?_
                        refine lv_topi (fun f_83 ef_83 => ?_)
                        replace hF := q_letX hF ef_83
                        have lyf_83 : f_83.toInt = m_of σ_15 (q_rf X a 28) (m_of σ_15 (q_rf X a 29) x_14.toInt) := by rw [ef_83, ← asf_82]; rfl
                        have lbf_83 := m_S_ge (c := m_of σ_15 (q_rf X a 28)) (b := 0) (A := m_of σ_15 (q_rf X a 29) x_14.toInt) (n := 10) (fun j a b => nnσ_15 j a (by first | (clear hn gσ wσ hh gσ_1 wσ_1 gσ_2 wσ_2 gσ_3 wσ_3 gσ_4 wσ_4 gσ_5 wσ_5 gσ_6 wσ_6 hm42 hge42 gσ_8 wσ_8 gc_10_x_7 c_10 hm75 hge75 szσ_15 gσ_15 wσ_15 gc_17_x_14 c_17 asf_64 j112 asf_67 gc_68_f_67 c_68 iz_78 asf_79 gc_80_f_79 c_80 asf_82 lyf_83; omega) | omega)) (by first | (clear hn gσ wσ hh gσ_1 wσ_1 gσ_2 wσ_2 gσ_3 wσ_3 gσ_4 wσ_4 gσ_5 wσ_5 gσ_6 wσ_6 hm42 hge42 gσ_8 wσ_8 gc_10_x_7 c_10 hm75 hge75 szσ_15 gσ_15 wσ_15 gc_17_x_14 c_17 asf_64 j112 gc_68_f_67 iz_78 gc_80_f_79 asf_82 lyf_83; omega) | omega) (by first | (clear hn gσ wσ hh gσ_1 wσ_1 gσ_2 wσ_2 gσ_3 wσ_3 gσ_4 wσ_4 gσ_5 wσ_5 gσ_6 wσ_6 hm42 hge42 gσ_8 wσ_8 gc_10_x_7 c_10 hm75 hge75 szσ_15 gσ_15 wσ_15 gc_17_x_14 c_17 asf_64 j112 gc_68_f_67 iz_78 asf_79 gc_80_f_79 c_80 asf_82 lyf_83; omega) | omega)
                        have lnf_83 := nnσ_15 (m_of σ_15 (q_rf X a 29) x_14.toInt) (by first | (clear hn gσ wσ hh gσ_1 wσ_1 gσ_2 wσ_2 gσ_3 wσ_3 gσ_4 wσ_4 gσ_5 wσ_5 gσ_6 wσ_6 hm42 hge42 gσ_8 wσ_8 gc_10_x_7 c_10 hm75 hge75 szσ_15 gσ_15 wσ_15 gc_17_x_14 c_17 asf_64 j112 gc_68_f_67 iz_78 gc_80_f_79 asf_82 lyf_83 lbf_83; omega) | omega) (by first | (clear hn gσ wσ hh gσ_1 wσ_1 gσ_2 wσ_2 gσ_3 wσ_3 gσ_4 wσ_4 gσ_5 wσ_5 gσ_6 wσ_6 hm42 hge42 gσ_8 wσ_8 gc_10_x_7 c_10 hm75 hge75 szσ_15 gσ_15 wσ_15 gc_17_x_14 c_17 asf_64 j112 gc_68_f_67 iz_78 asf_79 gc_80_f_79 c_80 asf_82 lyf_83 lbf_83; omega) | omega)
                        refine lv_iconst (v := 1) hx hb dX12_lay_208 zki_1 ?_
                        refine lv_iadd hx hb dX12_lay_209 ?_
                        refine lv_topi (fun z_84 ez_84 => ?_)
                        replace hF := q_letX hF ez_84
                        have iz_84 := q_addI (A := f_83.toInt) (B := 1) ez_84 rfl (by decide) (by first | (clear hn gσ wσ hh gσ_1 wσ_1 gσ_2 wσ_2 gσ_3 wσ_3 gσ_4 wσ_4 gσ_5 wσ_5 gσ_6 wσ_6 hm42 hge42 gσ_8 wσ_8 gc_10_x_7 c_10 hm75 hge75 szσ_15 gσ_15 wσ_15 gc_17_x_14 c_17 asf_64 j112 asf_67 gc_68_f_67 c_68 iz_78 asf_79 gc_80_f_79 c_80 asf_82 lbf_83; omega) | omega) (by first | (clear hn gσ wσ hh gσ_1 wσ_1 gσ_2 wσ_2 gσ_3 wσ_3 gσ_4 wσ_4 gσ_5 wσ_5 gσ_6 wσ_6 hm42 hge42 gσ_8 wσ_8 gc_10_x_7 c_10 hm75 gσ_15 wσ_15 gc_17_x_14 asf_64 j112 asf_67 gc_68_f_67 c_68 asf_79 gc_80_f_79 c_80 asf_82 lnf_83; omega) | omega)
                        refine q_iastN E hI (q_tk (k' := 39) hI ha rfl (Nat.succ_ne_zero _)) ⟨by decide, rfl⟩ (by first | (clear hn gσ wσ hh gσ_1 wσ_1 gσ_2 wσ_2 gσ_3 wσ_3 gσ_4 wσ_4 gσ_5 wσ_5 gσ_6 wσ_6 hm42 hge42 gσ_8 wσ_8 gc_10_x_7 c_10 hm75 hge75 szσ_15 gσ_15 wσ_15 gc_17_x_14 c_17 asf_64 j112 gc_68_f_67 iz_78 gc_80_f_79 asf_82 lyf_83 lbf_83 lnf_83 iz_84; omega) | omega) (by rw [q_lnk (v := 10) hI (q_tk (k' := 39) hI ha rfl (Nat.succ_ne_zero _)) rfl (by decide)]; omega) (show 1 < 9 by decide) (q_inU rfl) dX12_lay_210 (fun H locs σ_85 hσ_85 hI => ?_)
                        replace hF := q_letX hF hσ_85
                        have fr_σ_85 := fr_σ_15.si hσ_85 (q_tk (k' := 39) hI ha rfl (Nat.succ_ne_zero _)) rfl
                        have mcσ_85 := m_wo hσ_85 (m_ne (q_tk (k' := 39) hI ha rfl (Nat.succ_ne_zero _)) (q_tk (f := 20) (k' := 34) hI ha rfl (by decide)) (by decide))
                        have gσ_85 : m_G (m_c X σ_85 a) := m_G.ext (fun j _ _ => mcσ_85 j) gσ_15
                        have wσ_85 : m_W (m_c X σ_85 a) n := m_W.ext (fun j _ _ => mcσ_85 j) wσ_15
                        have kqσ_85 : ∀ j, 654 ≤ j → m_c X σ_85 a j = m_c X σ a j := fun j h => (mcσ_85 j).trans (kqσ_15 j h)
                        have fxσ_85 : m_c X σ_85 a = m_c X σ a := (funext mcσ_85).trans fxσ_15
                        have moσ_85 := m_ofw hσ_85 asf_82 (by first | (clear hn gσ wσ hh gσ_1 wσ_1 gσ_2 wσ_2 gσ_3 wσ_3 gσ_4 wσ_4 gσ_5 wσ_5 gσ_6 wσ_6 hm42 hge42 gσ_8 wσ_8 gc_10_x_7 c_10 hm75 hge75 szσ_15 gσ_15 wσ_15 gc_17_x_14 c_17 asf_64 j112 gc_68_f_67 iz_78 gc_80_f_79 asf_82 lyf_83 lbf_83 lnf_83 iz_84 gσ_85 wσ_85; omega) | omega)
                        have suσ_85 := m_S_upd (c := m_of σ_15 (q_rf X a 28)) (c' := m_of σ_85 (q_rf X a 28)) (b := 0) (n := 10) (fun j a b => moσ_85 j a) (by first | (clear hn gσ wσ hh gσ_1 wσ_1 gσ_2 wσ_2 gσ_3 wσ_3 gσ_4 wσ_4 gσ_5 wσ_5 gσ_6 wσ_6 hm42 hge42 gσ_8 wσ_8 gc_10_x_7 c_10 hm75 hge75 szσ_15 gσ_15 wσ_15 gc_17_x_14 c_17 asf_64 j112 gc_68_f_67 iz_78 gc_80_f_79 asf_82 lyf_83 lbf_83 lnf_83 iz_84 gσ_85 wσ_85; omega) | omega) (by first | (clear hn gσ wσ hh gσ_1 wσ_1 gσ_2 wσ_2 gσ_3 wσ_3 gσ_4 wσ_4 gσ_5 wσ_5 gσ_6 wσ_6 hm42 hge42 gσ_8 wσ_8 gc_10_x_7 c_10 hm75 hge75 szσ_15 gσ_15 wσ_15 gc_17_x_14 c_17 asf_64 j112 gc_68_f_67 iz_78 asf_79 gc_80_f_79 c_80 asf_82 lyf_83 lbf_83 lnf_83 iz_84 gσ_85 wσ_85; omega) | omega)
                        have nnσ_85 : ∀ k, 0 ≤ k → k < 10 → 0 ≤ m_of σ_85 (q_rf X a 28) k := fun k a b => by rw [moσ_85 k a]; split; exact (by first | (clear hn gσ wσ hh gσ_1 wσ_1 gσ_2 wσ_2 gσ_3 wσ_3 gσ_4 wσ_4 gσ_5 wσ_5 gσ_6 wσ_6 hm42 hge42 gσ_8 wσ_8 gc_10_x_7 c_10 hm75 hge75 szσ_15 gσ_15 wσ_15 gc_17_x_14 c_17 asf_64 j112 gc_68_f_67 iz_78 asf_79 gc_80_f_79 c_80 asf_82 lyf_83 lbf_83 lnf_83 iz_84 gσ_85 wσ_85 suσ_85; omega) | omega); exact nnσ_15 k a b
                        obtain ⟨z_86, ez_86⟩ : ∃ y : Int32, y = x_14 + 1 := ⟨_, rfl⟩
                        replace hF := q_letX hF ez_86
                        refine lv_iinc (v := z_86) (lv' := [(8, .int z_86), (5, .int z_78), (6, .int x_66), (0, .ref a), (1, .int v1), (2, .int v2), (3, .int v3), (4, .int v4), (7, .int x_65)]) hx hb dX12_lay_211 hl (k := 8) rfl (by rw [ez_86]; rfl) (by decide) rfl (fun ls hl => ?_)
                        have iz_86 : z_86.toInt = x_14.toInt + 1 := q_inc ez_86 (by first | (clear hn gσ wσ hh gσ_1 wσ_1 gσ_2 wσ_2 gσ_3 wσ_3 gσ_4 wσ_4 gσ_5 wσ_5 gσ_6 wσ_6 hm42 hge42 gσ_8 wσ_8 gc_10_x_7 c_10 hm75 szσ_15 gσ_15 wσ_15 gc_17_x_14 asf_64 j112 asf_67 gc_68_f_67 c_68 iz_78 asf_79 gc_80_f_79 c_80 asf_82 lyf_83 lbf_83 lnf_83 iz_84 gσ_85 wσ_85 suσ_85; omega) | omega)
                        refine lv_goto (tgt := 75) hx hb dX12_lay_214 (by decide) ?_
                        exact ih75 z_78 x_66 x_65 z_86 σ_85 _ _ ls (by first | (clear hn gσ wσ hh gσ_1 wσ_1 gσ_2 wσ_2 gσ_3 wσ_3 gσ_4 wσ_4 gσ_5 wσ_5 gσ_6 wσ_6 hm42 hge42 gσ_8 wσ_8 gc_10_x_7 c_10 hm75 szσ_15 gσ_15 wσ_15 gc_17_x_14 asf_64 j112 gc_68_f_67 iz_78 gc_80_f_79 asf_82 lyf_83 lbf_83 lnf_83 iz_84 gσ_85 wσ_85 suσ_85; omega) | omega) (by first | (clear hn gσ wσ hh gσ_1 wσ_1 gσ_2 wσ_2 gσ_3 wσ_3 gσ_4 wσ_4 gσ_5 wσ_5 gσ_6 wσ_6 hm42 hge42 gσ_8 wσ_8 gc_10_x_7 c_10 hm75 gσ_15 wσ_15 gc_17_x_14 asf_64 j112 asf_67 gc_68_f_67 c_68 asf_79 gc_80_f_79 c_80 asf_82 lbf_83 lnf_83 gσ_85 wσ_85; omega) | omega) (by first | (clear hn gσ wσ hh gσ_1 wσ_1 gσ_2 wσ_2 gσ_3 wσ_3 gσ_4 wσ_4 gσ_5 wσ_5 gσ_6 wσ_6 hm42 hge42 gσ_8 wσ_8 gc_10_x_7 c_10 hm75 hge75 gσ_15 wσ_15 gc_17_x_14 c_17 asf_64 j112 gc_68_f_67 gc_80_f_79 asf_82 lbf_83 lnf_83 gσ_85 wσ_85 iz_86; omega) | omega) nnσ_85 fr_σ_85 gσ_85 wσ_85 kqσ_85 fxσ_85 hF hI (lv_sub hl [3, 4, 5, 6, 7, 1, 2, 8, 0] rfl)
                  refine q_if_ne (A := x_12.toInt) E rfl (tgt := 156) dX12_lay_137 (by decide) (fun c_87 => ?_) (fun c_87 => ?_)
                  · skip
                    replace hF := q_ifn hF c_87
                    refine lv_iconst (v := 1) hx hb dX12_lay_156 zki_1 ?_
                    refine lv_goto (tgt := 161) hx hb dX12_lay_157 (by decide) ?_
                    exact J_161_66 1 _ _ ls hF hI (lv_sub hl [1, 2, 3, 4, 5, 6, 7, 0, 8] rfl)
                  · skip
                    replace hF := q_ifp hF c_87
                    refine lv_iload hx hb dX12_lay_140 (lv_at hl 0 rfl) ?_
                    refine q_if_eq (A := x_65.toInt) E rfl (tgt := 160) dX12_lay_142 (by decide) (fun c_88 => ?_) (fun c_88 => ?_)
                    · skip
                      replace hF := q_ifp hF c_88
                      refine lv_iconst (v := 0) hx hb dX12_lay_160 zki_0 ?_
                      exact J_161_66 0 _ _ ls hF hI (lv_sub hl [1, 2, 3, 4, 5, 6, 7, 0, 8] rfl)
                    · skip
                      replace hF := q_ifn hF c_88
                      refine lv_aload_n hx hb dX12_lay_145 rfl (lv_at hl 1 rfl) ?_
                      refine gs_X12_50_12 E hI ha dX12_lay_146 ?_
                      refine lv_iload hx hb dX12_lay_149 (lv_at hl 8 rfl) ?_
                      refine q_iald E hI (q_tk (k' := 40) hI ha rfl (Nat.succ_ne_zero _)) ⟨by decide, rfl⟩ (by first | (clear hn gσ wσ hh gσ_1 wσ_1 gσ_2 wσ_2 gσ_3 wσ_3 gσ_4 wσ_4 gσ_5 wσ_5 gσ_6 wσ_6 hm42 hge42 gσ_8 wσ_8 gc_10_x_7 c_10 hm75 szσ_15 gσ_15 wσ_15 gc_17_x_14 asf_64 j112 c_87 c_88; omega) | omega) (by rw [q_lnk (v := 4) hI (q_tk (k' := 40) hI ha rfl (Nat.succ_ne_zero _)) rfl (by decide)]; omega) dX12_lay_151 ?_
                      refine lv_topi (fun f_89 ef_89 => ?_)
                      replace hF := q_letX hF ef_89
                      have asf_89 : f_89.toInt = m_of σ_15 (q_rf X a 29) x_14.toInt := by rw [ef_89]; rfl
                      refine lv_iconst (v := (-1)) hx hb dX12_lay_152 zki_m1 ?_
                      have gc_90_f_89 := q_rng f_89
                      refine q_icmp_eq (A := f_89.toInt) (B := (-1)) E rfl (by decide) (tgt := 160) dX12_lay_153 (by decide) (fun c_90 => ?_) (fun c_90 => ?_)
                      · skip
                        replace hF := q_ifp hF c_90
                        refine lv_iconst (v := 0) hx hb dX12_lay_160 zki_0 ?_
                        exact J_161_66 0 _ _ ls hF hI (lv_sub hl [1, 2, 3, 4, 5, 6, 7, 0, 8] rfl)
                      · skip
                        replace hF := q_ifn hF c_90
                        refine lv_iconst (v := 1) hx hb dX12_lay_156 zki_1 ?_
                        refine lv_goto (tgt := 161) hx hb dX12_lay_157 (by decide) ?_
                        exact J_161_66 1 _ _ ls hF hI (lv_sub hl [1, 2, 3, 4, 5, 6, 7, 0, 8] rfl)
                refine q_if_ne (A := x_13.toInt) E rfl (tgt := 128) dX12_lay_114 (by decide) (fun c_91 => ?_) (fun c_91 => ?_)
                · skip
                  replace hF := q_ifn hF c_91
                  refine lv_iconst (v := 1) hx hb dX12_lay_128 zki_1 ?_
                  refine lv_goto (tgt := 133) hx hb dX12_lay_129 (by decide) ?_
                  exact J_133_65 1 _ _ ls hF hI (lv_sub hl [0, 1, 2, 3, 4, 5, 6, 7, 8] rfl)
                · skip
                  replace hF := q_ifp hF c_91
                  refine lv_aload_n hx hb dX12_lay_117 rfl (lv_at hl 0 rfl) ?_
                  refine gs_X12_50_12 E hI ha dX12_lay_118 ?_
                  refine lv_iload hx hb dX12_lay_121 (lv_at hl 8 rfl) ?_
                  refine q_iald E hI (q_tk (k' := 40) hI ha rfl (Nat.succ_ne_zero _)) ⟨by decide, rfl⟩ (by first | (clear hn gσ wσ hh gσ_1 wσ_1 gσ_2 wσ_2 gσ_3 wσ_3 gσ_4 wσ_4 gσ_5 wσ_5 gσ_6 wσ_6 hm42 hge42 gσ_8 wσ_8 gc_10_x_7 c_10 hm75 szσ_15 gσ_15 wσ_15 gc_17_x_14 asf_64 j112 c_91; omega) | omega) (by rw [q_lnk (v := 4) hI (q_tk (k' := 40) hI ha rfl (Nat.succ_ne_zero _)) rfl (by decide)]; omega) dX12_lay_123 ?_
                  refine lv_topi (fun f_92 ef_92 => ?_)
                  replace hF := q_letX hF ef_92
                  have asf_92 : f_92.toInt = m_of σ_15 (q_rf X a 29) x_14.toInt := by rw [ef_92]; rfl
                  refine lv_iconst (v := (-1)) hx hb dX12_lay_124 zki_m1 ?_
                  have gc_93_f_92 := q_rng f_92
                  refine q_icmp_ne (A := f_92.toInt) (B := (-1)) E rfl (by decide) (tgt := 132) dX12_lay_125 (by decide) (fun c_93 => ?_) (fun c_93 => ?_)
                  · skip
                    replace hF := q_ifn hF c_93
                    refine lv_iconst (v := 0) hx hb dX12_lay_132 zki_0 ?_
                    exact J_133_65 0 _ _ ls hF hI (lv_sub hl [0, 1, 2, 3, 4, 5, 6, 7, 8] rfl)
                  · skip
                    replace hF := q_ifp hF c_93
                    refine lv_iconst (v := 1) hx hb dX12_lay_128 zki_1 ?_
                    refine lv_goto (tgt := 133) hx hb dX12_lay_129 (by decide) ?_
                    exact J_133_65 1 _ _ ls hF hI (lv_sub hl [0, 1, 2, 3, 4, 5, 6, 7, 8] rfl)
              have gc_94_f_64 := q_rng f_64
              refine q_icmp_eq (A := f_64.toInt) (B := (-1)) E rfl (by decide) (tgt := 112) dX12_lay_89 (by decide) (fun c_94 => ?_) (fun c_94 => ?_)
              · skip
                replace hF := q_ifp hF c_94
                exact J_112_64 _ _ ls (by first | (clear hn gσ wσ gσ_1 wσ_1 gσ_2 wσ_2 gσ_3 wσ_3 gσ_4 wσ_4 gσ_5 wσ_5 gσ_6 wσ_6 hm42 hge42 gσ_8 wσ_8 gc_10_x_7 c_10 hm75 hge75 szσ_15 gσ_15 wσ_15 gc_17_x_14 c_17 gc_94_f_64; omega) | omega) hF hI (lv_sub hl [0, 1, 2, 3, 4, 5, 6, 7, 8] rfl)
              · skip
                replace hF := q_ifn hF c_94
                refine lv_aload_n hx hb dX12_lay_92 rfl (lv_at hl 0 rfl) ?_
                refine lv_aload_n hx hb dX12_lay_93 rfl (lv_at hl 0 rfl) ?_
                refine gs_X12_50_12 E hI ha dX12_lay_94 ?_
                refine lv_iload hx hb dX12_lay_97 (lv_at hl 8 rfl) ?_
                refine q_iald E hI (q_tk (k' := 40) hI ha rfl (Nat.succ_ne_zero _)) ⟨by decide, rfl⟩ (by first | (clear hn gσ wσ hh gσ_1 wσ_1 gσ_2 wσ_2 gσ_3 wσ_3 gσ_4 wσ_4 gσ_5 wσ_5 gσ_6 wσ_6 hm42 hge42 gσ_8 wσ_8 gc_10_x_7 c_10 hm75 szσ_15 gσ_15 wσ_15 gc_17_x_14 asf_64 gc_94_f_64 c_94; omega) | omega) (by rw [q_lnk (v := 4) hI (q_tk (k' := 40) hI ha rfl (Nat.succ_ne_zero _)) rfl (by decide)]; omega) dX12_lay_99 ?_
                refine lv_topi (fun f_95 ef_95 => ?_)
                replace hF := q_letX hF ef_95
                have asf_95 : f_95.toInt = m_of σ_15 (q_rf X a 29) x_14.toInt := by rw [ef_95]; rfl
                refine q_ci (q_rV11_1 (rest := []) E (hml.trans hl.1.symm) hI (c_X12_isKindAt l X σ_15 a f_95 ha (by rw [fxσ_15]; exact hG)) kv_X12_299 ha ⟨Nat.le_of_ble_eq_true rfl, Nat.le_of_ble_eq_true rfl⟩ (Nat.le_of_ble_eq_true rfl) dX12_lay_100) hI (Nat.le_of_ble_eq_true rfl) (fun r_96 σ_97 H locs hpσ_97 hkσ_97 hI => ?_)
                have ahpσ_97 := hpσ_97.1
                have bhpσ_97 := hpσ_97.2.1
                have chpσ_97 := hpσ_97.2.2.1
                have dhpσ_97 := hpσ_97.2.2.2
                clear hpσ_97
                replace hI := q_Irw ahpσ_97 hI
                rw [fxσ_15] at chpσ_97
                replace hF := q_letX hF dhpσ_97
                refine q_if_ne (A := r_96.toInt) E rfl (tgt := 112) dX12_lay_103 (by decide) (fun c_98 => ?_) (fun c_98 => ?_)
                · skip
                  replace hF := q_ifn hF c_98
                  replace c_98 := q_ifOne bhpσ_97 c_98
                  replace chpσ_97 := q_ifYes chpσ_97 c_98
                  exact J_112_64 _ _ ls (by first | (clear hn gσ wσ hh gσ_1 wσ_1 gσ_2 wσ_2 gσ_3 wσ_3 gσ_4 wσ_4 gσ_5 wσ_5 gσ_6 wσ_6 hm42 hge42 gσ_8 wσ_8 gc_10_x_7 c_10 hm75 hge75 szσ_15 gσ_15 wσ_15 gc_17_x_14 c_17 c_94 ahpσ_97 bhpσ_97 dhpσ_97 c_98; omega) | omega) hF hI (lv_sub hl [0, 1, 2, 3, 4, 5, 6, 7, 8] rfl)
                · skip
                  replace hF := q_ifp hF c_98
                  replace chpσ_97 := q_ifNo chpσ_97 c_98
                  unfold F_X12_lay_E106_11 at hF
                  refine lv_aload_n hx hb dX12_lay_106 rfl (lv_at hl 0 rfl) ?_
                  refine lv_iconst (v := 2) hx hb dX12_lay_107 zki_2 ?_
                  have kc_99 : (2 : Int32).toInt = 2 := zt_2
                  refine q_ci (q_rV11_1 (rest := []) E (hml.trans hl.1.symm) hI (c_X12_refuse l X σ_15 a (2 : Int32) ha) kv_X12_284 ha ⟨Nat.le_of_ble_eq_true rfl, Nat.le_of_ble_eq_true rfl⟩ (Nat.le_of_ble_eq_true rfl) dX12_lay_108) hI (Nat.le_of_ble_eq_true rfl) (fun r_100 σ_101 H locs hpσ_101 hkσ_101 hI => ?_)
                  have ahpσ_101 := hpσ_101.1
                  have bhpσ_101 := hpσ_101.2.1
                  have chpσ_101 := hpσ_101.2.2
                  clear hpσ_101
                  have fr_σ_101 := fr_σ_15.call chpσ_101 rfl rfl
                  replace hF := q_biX hF bhpσ_101
                  have mcσ_101 := m_cK hkσ_101 hI.1 ha (by decide)
                  have gσ_101 : m_G (m_c X σ_101 a) := m_G.ext (fun j _ _ => mcσ_101 j) gσ_15
                  have wσ_101 : m_W (m_c X σ_101 a) n := m_W.ext (fun j _ _ => mcσ_101 j) wσ_15
                  have kqσ_101 : ∀ j, 654 ≤ j → m_c X σ_101 a j = m_c X σ a j := fun j h => (mcσ_101 j).trans (kqσ_15 j h)
                  have fxσ_101 : m_c X σ_101 a = m_c X σ a := (funext mcσ_101).trans fxσ_15
                  exact q_reti E hr hlk hI ⟨gσ_101, (by first | exact m_W.le vσ_101 (by omega) | exact m_W.le wσ_101 (by first | (clear hn gσ wσ hh gσ_1 wσ_1 gσ_2 wσ_2 gσ_3 wσ_3 gσ_4 wσ_4 gσ_5 wσ_5 gσ_6 wσ_6 hm42 hge42 gσ_8 wσ_8 gc_10_x_7 c_10 hm75 hge75 szσ_15 gσ_15 wσ_15 gc_17_x_14 c_17 asf_64 gc_94_f_64 c_94 asf_95 ahpσ_97 bhpσ_97 dhpσ_97 c_98 chpσ_97 kc_99 ahpσ_101 bhpσ_101 chpσ_101 gσ_101 wσ_101; omega) | omega)), (fun j h0 h1 => kqσ_101 j (by first | (clear hn gσ wσ hh gσ_1 wσ_1 gσ_2 wσ_2 gσ_3 wσ_3 gσ_4 wσ_4 gσ_5 wσ_5 gσ_6 wσ_6 hm42 hge42 gσ_8 wσ_8 gc_10_x_7 c_10 hm75 hge75 szσ_15 gσ_15 wσ_15 gc_17_x_14 c_17 asf_64 gc_94_f_64 c_94 asf_95 ahpσ_97 bhpσ_97 dhpσ_97 c_98 chpσ_97 kc_99 ahpσ_101 bhpσ_101 chpσ_101 gσ_101 wσ_101; omega) | omega)), (hF.trans hout), fr_σ_101⟩ dX12_lay_111
        have kc_102 : (0 : Int32).toInt = 0 := zt_0
        exact L_75_16 ((2147483647 - (0 : Int32).toInt).toNat + 1) 0 0 0 0 σ_8 _ _ ls (Nat.lt_succ_self _) (by decide) szσ_8 nnσ_8 fr_σ_8 gσ_8 wσ_8 kqσ_8 fxσ_8 hF hI (lv_sub hl [4, 5, 6, 7, 8, 3, 2, 1, 0] rfl)
      · skip
        replace hF := q_ifp hF c_10
        refine lv_aload_n hx hb dX12_lay_49 rfl (lv_at hl 0 rfl) ?_
        refine gs_X12_47_12 E hI ha dX12_lay_50 ?_
        refine lv_iload hx hb dX12_lay_53 (lv_at hl 5 rfl) ?_
        refine lv_iconst (v := 0) hx hb dX12_lay_55 zki_0 ?_
        have kc_104 : (0 : Int32).toInt = 0 := zt_0
        refine q_iastN E hI (q_tk (k' := 39) hI ha rfl (Nat.succ_ne_zero _)) ⟨by decide, rfl⟩ (by first | (clear hn gσ wσ hh gσ_1 wσ_1 gσ_2 wσ_2 gσ_3 wσ_3 gσ_4 wσ_4 gσ_5 wσ_5 gσ_6 wσ_6 hm42 gσ_8 wσ_8 gc_10_x_7 kc_104; omega) | omega) (by rw [q_lnk (v := 10) hI (q_tk (k' := 39) hI ha rfl (Nat.succ_ne_zero _)) rfl (by decide)]; omega) (show 1 < 9 by decide) (q_inU rfl) dX12_lay_56 (fun H locs σ_103 hσ_103 hI => ?_)
        replace hF := q_letX hF hσ_103
        have fr_σ_103 := fr_σ_8.si hσ_103 (q_tk (k' := 39) hI ha rfl (Nat.succ_ne_zero _)) rfl
        have mcσ_103 := m_wo hσ_103 (m_ne (q_tk (k' := 39) hI ha rfl (Nat.succ_ne_zero _)) (q_tk (f := 20) (k' := 34) hI ha rfl (by decide)) (by decide))
        have gσ_103 : m_G (m_c X σ_103 a) := m_G.ext (fun j _ _ => mcσ_103 j) gσ_8
        have wσ_103 : m_W (m_c X σ_103 a) n := m_W.ext (fun j _ _ => mcσ_103 j) wσ_8
        have kqσ_103 : ∀ j, 654 ≤ j → m_c X σ_103 a j = m_c X σ a j := fun j h => (mcσ_103 j).trans (kqσ_8 j h)
        have fxσ_103 : m_c X σ_103 a = m_c X σ a := (funext mcσ_103).trans fxσ_8
        have moσ_103 := m_ofw hσ_103 (rfl : x_7.toInt = _) (by first | (clear hn gσ wσ hh gσ_1 wσ_1 gσ_2 wσ_2 gσ_3 wσ_3 gσ_4 wσ_4 gσ_5 wσ_5 gσ_6 wσ_6 hm42 gσ_8 wσ_8 gc_10_x_7 kc_104 gσ_103 wσ_103; omega) | omega)
        have zlσ_103x := zlσ_8
        obtain ⟨z_105, ez_105⟩ : ∃ y : Int32, y = x_7 + 1 := ⟨_, rfl⟩
        replace hF := q_letX hF ez_105
        refine lv_iinc (v := z_105) (lv' := [(5, .int z_105), (0, .ref a), (1, .int v1), (2, .int v2), (3, .int v3), (4, .int v4)]) hx hb dX12_lay_57 hl (k := 5) rfl (by rw [ez_105]; rfl) (by decide) rfl (fun ls hl => ?_)
        have iz_105 : z_105.toInt = x_7.toInt + 1 := q_inc ez_105 (by first | (clear hn gσ wσ hh gσ_1 wσ_1 gσ_2 wσ_2 gσ_3 wσ_3 gσ_4 wσ_4 gσ_5 wσ_5 gσ_6 wσ_6 hm42 gσ_8 wσ_8 gc_10_x_7 kc_104 gσ_103 wσ_103; omega) | omega)
        refine lv_goto (tgt := 42) hx hb dX12_lay_60 (by decide) ?_
        exact ih42 z_105 σ_103 _ _ ls (by first | (clear hn gσ wσ hh gσ_1 wσ_1 gσ_2 wσ_2 gσ_3 wσ_3 gσ_4 wσ_4 gσ_5 wσ_5 gσ_6 wσ_6 gσ_8 wσ_8 gc_10_x_7 kc_104 gσ_103 wσ_103; omega) | omega) (by first | (clear hn gσ wσ hh gσ_1 wσ_1 gσ_2 wσ_2 gσ_3 wσ_3 gσ_4 wσ_4 gσ_5 wσ_5 gσ_6 wσ_6 hm42 gσ_8 wσ_8 gc_10_x_7 kc_104 gσ_103 wσ_103; omega) | omega) (fun k h0 h1 => by rw [moσ_103 k h0]; split; rfl; exact zlσ_103x k h0 (by first | (clear hn gσ wσ hh gσ_1 wσ_1 gσ_2 wσ_2 gσ_3 wσ_3 gσ_4 wσ_4 gσ_5 wσ_5 gσ_6 wσ_6 hm42 hge42 gσ_8 wσ_8 gc_10_x_7 c_10 kc_104 gσ_103 wσ_103; omega) | omega)) fr_σ_103 gσ_103 wσ_103 kqσ_103 fxσ_103 hF hI (lv_sub hl [1, 2, 3, 4, 5, 0] rfl)
  have kc_106 : (0 : Int32).toInt = 0 := zt_0
  exact L_42_9 ((2147483647 - (0 : Int32).toInt).toNat + 1) 0 σ_6 _ _ ls (Nat.lt_succ_self _) (by decide) (fun k h0 h1 => by have q : (0 : Int32).toInt = 0 := rfl; omega) fr_σ_6 gσ_6 wσ_6 kqσ_6 fxσ_6 hF hI (lv_sub hl [1, 2, 3, 4, 5, 0] rfl)
end
/-! FROM 45.turns.a.lean.txt -/
section
section QS
variable {p : Program} {l : Launch} {e : Env} {R : Room} {s : State} {m : MethodId} {args : Array Value} {below : List Frame} {meth : Method} {c : Code} {H : Heap} {locs : List Loc} {cells slots : Nat} {Q : State → Prop} {cc : ByteArray} {X : XW} {n : Nat} {σ0 σ : ST} {H0 : Heap} {pc : Nat} {ls : Array Slot} {rest : List Value} {a : Nat}
theorem kv_X12_399 : q_okV RX12 399 RX12 yX12_otherKind cX12_otherKind 4 (some .int) 1 := ⟨(q_in_t9 (i := 166) (by first | rfl | decide +kernel) rfl), (q_in_t9 (i := 168) (by first | rfl | decide +kernel) rfl), (q_in_p (i := 110) (by decide +kernel) rfl), (q_in_t1 (i := 14) (by first | rfl | decide +kernel) rfl), (q_in_t9 (i := 169) (by first | rfl | decide +kernel) rfl), ⟨rfl, by decide, by decide, rfl⟩⟩
theorem gs_X12_405_12 (E : q_E p c cc s m args RX12 X) (hI : q_I X n σ0 H0 locs σ H) (ha : q_kd X a = 12) (hdg : decode cc pc = .ok (.getfield 405, 3)) (kk : W p l e R s m args below meth c H locs cells slots Q (F0 m (pc + 3) ls (.int (σ.1 a 42) :: rest))) : W p l e R s m args below meth c H locs cells slots Q (F0 m pc ls (.ref a :: rest)) :=
  q_getf (ref := "CheatHeapModel") E hI ha ⟨rfl, by decide⟩ (show vwCl[11]? = some (RX12, TX12, 46) from rfl) q_inX12 (f := 42) (by decide) (q_in_t7 (i := 27) (by first | rfl | decide +kernel) rfl) (Or.inl rfl) rfl hdg kk
theorem ps_X12_405_12 (E : q_E p c cc s m args RX12 X) (hI : q_I X n σ0 H0 locs σ H) (ha : q_kd X a = 12) {v : Int32} (hcl : n < 9) (hdg : decode cc pc = .ok (.putfield 405, 3)) (kk : ∀ (H1 : Heap) (locs1 : List Loc) (σ1 : ST), σ1 = q_si σ a 42 v → q_I X n σ0 H0 locs1 σ1 H1 → W p l e R s m args below meth c H1 locs1 cells slots Q (F0 m (pc + 3) ls rest)) : W p l e R s m args below meth c H locs cells slots Q (F0 m pc ls (.int v :: .ref a :: rest)) :=
  q_puti (ref := "CheatHeapModel") E hI ha ⟨rfl, by decide⟩ (show vwCl[11]? = some (RX12, TX12, 46) from rfl) q_inX12 tyX12_ok nmX12 (f := 42) (by decide) (q_in_t7 (i := 27) (by first | rfl | decide +kernel) rfl) (Or.inl rfl) rfl rfl hcl hdg (q_inU rfl) (Or.inl rfl) (fun H1 l1 h => kk H1 l1 _ rfl h)
theorem gs_X12_408_12 (E : q_E p c cc s m args RX12 X) (hI : q_I X n σ0 H0 locs σ H) (ha : q_kd X a = 12) (hdg : decode cc pc = .ok (.getfield 408, 3)) (kk : W p l e R s m args below meth c H locs cells slots Q (F0 m (pc + 3) ls (.int (σ.1 a 43) :: rest))) : W p l e R s m args below meth c H locs cells slots Q (F0 m pc ls (.ref a :: rest)) :=
  q_getf (ref := "CheatHeapModel") E hI ha ⟨rfl, by decide⟩ (show vwCl[11]? = some (RX12, TX12, 46) from rfl) q_inX12 (f := 43) (by decide) (q_in_t7 (i := 28) (by first | rfl | decide +kernel) rfl) (Or.inl rfl) rfl hdg kk
theorem ps_X12_408_12 (E : q_E p c cc s m args RX12 X) (hI : q_I X n σ0 H0 locs σ H) (ha : q_kd X a = 12) {v : Int32} (hcl : n < 9) (hdg : decode cc pc = .ok (.putfield 408, 3)) (kk : ∀ (H1 : Heap) (locs1 : List Loc) (σ1 : ST), σ1 = q_si σ a 43 v → q_I X n σ0 H0 locs1 σ1 H1 → W p l e R s m args below meth c H1 locs1 cells slots Q (F0 m (pc + 3) ls rest)) : W p l e R s m args below meth c H locs cells slots Q (F0 m pc ls (.int v :: .ref a :: rest)) :=
  q_puti (ref := "CheatHeapModel") E hI ha ⟨rfl, by decide⟩ (show vwCl[11]? = some (RX12, TX12, 46) from rfl) q_inX12 tyX12_ok nmX12 (f := 43) (by decide) (q_in_t7 (i := 28) (by first | rfl | decide +kernel) rfl) (Or.inl rfl) rfl rfl hcl hdg (q_inU rfl) (Or.inl rfl) (fun H1 l1 h => kk H1 l1 _ rfl h)
theorem gs_X12_411_12 (E : q_E p c cc s m args RX12 X) (hI : q_I X n σ0 H0 locs σ H) (ha : q_kd X a = 12) (hdg : decode cc pc = .ok (.getfield 411, 3)) (kk : W p l e R s m args below meth c H locs cells slots Q (F0 m (pc + 3) ls (.int (σ.1 a 44) :: rest))) : W p l e R s m args below meth c H locs cells slots Q (F0 m pc ls (.ref a :: rest)) :=
  q_getf (ref := "CheatHeapModel") E hI ha ⟨rfl, by decide⟩ (show vwCl[11]? = some (RX12, TX12, 46) from rfl) q_inX12 (f := 44) (by decide) (q_in_t7 (i := 29) (by first | rfl | decide +kernel) rfl) (Or.inl rfl) rfl hdg kk
theorem ps_X12_411_12 (E : q_E p c cc s m args RX12 X) (hI : q_I X n σ0 H0 locs σ H) (ha : q_kd X a = 12) {v : Int32} (hcl : n < 9) (hdg : decode cc pc = .ok (.putfield 411, 3)) (kk : ∀ (H1 : Heap) (locs1 : List Loc) (σ1 : ST), σ1 = q_si σ a 44 v → q_I X n σ0 H0 locs1 σ1 H1 → W p l e R s m args below meth c H1 locs1 cells slots Q (F0 m (pc + 3) ls rest)) : W p l e R s m args below meth c H locs cells slots Q (F0 m pc ls (.int v :: .ref a :: rest)) :=
  q_puti (ref := "CheatHeapModel") E hI ha ⟨rfl, by decide⟩ (show vwCl[11]? = some (RX12, TX12, 46) from rfl) q_inX12 tyX12_ok nmX12 (f := 44) (by decide) (q_in_t7 (i := 29) (by first | rfl | decide +kernel) rfl) (Or.inl rfl) rfl rfl hcl hdg (q_inU rfl) (Or.inl rfl) (fun H1 l1 h => kk H1 l1 _ rfl h)
theorem kv_X12_402 : q_okV RX12 402 RX12 yX12_draw cX12_draw 1 (some .int) 0 := ⟨(q_in_t9 (i := 170) (by first | rfl | decide +kernel) rfl), (q_in_t9 (i := 172) (by first | rfl | decide +kernel) rfl), (q_in_p (i := 111) (by decide +kernel) rfl), (q_in_t1 (i := 14) (by first | rfl | decide +kernel) rfl), (q_in_t9 (i := 173) (by first | rfl | decide +kernel) rfl), ⟨rfl, by decide, by decide, rfl⟩⟩
theorem kv_X12_414 : q_okV RX12 414 RX12 yX12_turns cX12_turns 5 (some .boolean) 0 := ⟨(q_in_t9 (i := 162) (by first | rfl | decide +kernel) rfl), (q_in_t9 (i := 164) (by first | rfl | decide +kernel) rfl), (q_in_p (i := 109) (by decide +kernel) rfl), (q_in_t1 (i := 14) (by first | rfl | decide +kernel) rfl), (q_in_t9 (i := 165) (by first | rfl | decide +kernel) rfl), ⟨rfl, by decide, by decide, rfl⟩⟩
end QS
end
/-! FROM 45.turns.b00.lean.txt -/
section
set_option maxRecDepth 100000 in
set_option maxHeartbeats 4000000 in
theorem c_X12_turns (l : Launch) (X : XW) (σ : ST) (a : Nat) (n : Int) (ha : q_kd X a = 12) (hG : m_G (m_c X σ a)) (hW : m_W (m_c X σ a) n) (hn : n ≤ 200000) : Met l yX12_turns (q_ws yX12_turns cX12_turns 5 (some .boolean)) (q_rm 5 112) (q_P X σ [.ref a]) (q_Qi X 1 σ (fun (r : Int32) (σ' : ST) => (0 ≤ r.toInt ∧ r.toInt ≤ 1) ∧ (m_G (m_c X σ' a)) ∧ (m_W (m_c X σ' a) (n + 1)) ∧ (∀ j, 654 ≤ j → m_c X σ' a j = m_c X σ a j) ∧ (m_KD 40 X σ σ') ∧ (r, σ') = F_X12_turns X σ a ∧ q_ow [(12, 39), (12, 42), (12, 43), (12, 44), (34, 99), (39, 99)] [] X σ σ')) 0 0 (q_reg X) := by
  refine q_met 1 (by first | exact rfl | decide +kernel) rfl (Nat.le_of_ble_eq_true rfl) (fun p e s m below meth c E hml hr hlk hI ls hl => ?_)
  have hx := E.1
  have hb := E.2.1
  have hl : lv_has ls 5 [(0, .ref a)] := hl
  have gσ : m_G (m_c X σ a) := hG
  have wσ : m_W (m_c X σ a) n := hW
  have kqσ : ∀ j, 654 ≤ j → m_c X σ a j = m_c X σ a j := fun _ _ => rfl
  have kdσ : m_KD 40 X σ σ := m_KD.rf
  have fr_σ : q_ow [(12, 39), (12, 42), (12, 43), (12, 44), (34, 99), (39, 99)] [] X σ σ := q_ow.rf
  have hh := hG.hd
  obtain ⟨out, hout⟩ : ∃ o, o = F_X12_turns X σ a := ⟨_, rfl⟩
  have hF := hout.symm
  unfold F_X12_turns at hF
  refine lv_aload_n hx hb dX12_turns_0 rfl (lv_at hl 0 rfl) ?_
  refine gs_X12_35_12 E hI ha dX12_turns_1 ?_
  refine lv_bipush (v := 7) hx hb dX12_turns_4 zkb_7 ?_
  refine q_iald E hI (q_tk (k' := 34) hI ha rfl (Nat.succ_ne_zero _)) ⟨by decide, rfl⟩ (by decide) (by rw [q_lnk (v := 4650) hI (q_tk (k' := 34) hI ha rfl (Nat.succ_ne_zero _)) rfl (by decide)]; decide) dX12_turns_6 ?_
  refine lv_topi (fun f_1 ef_1 => ?_)
  replace hF := q_letX hF ef_1
  have if_1 : f_1.toInt = m_c X σ a 7 := m_rd ef_1 (by decide)
  refine lv_iconst (v := 1) hx hb dX12_turns_7 zki_1 ?_
  have J_15_2 : ∀  (σ_2 : ST) (H : Heap) (locs : List Loc) (ls : Array Slot), (m_c X σ_2 a 7 = 0) → (q_ow [(12, 39), (12, 42), (12, 43), (12, 44), (34, 99), (39, 99)] [] X σ σ_2) → (m_G (m_c X σ_2 a)) → (m_W (m_c X σ_2 a) n) → (∀ j, 654 ≤ j → m_c X σ_2 a j = m_c X σ a j) → (m_KD 40 X σ σ_2) → (F_X12_turns_J15_1 X a σ_2 = out) → q_I X 1 σ s.heap locs σ_2 H → lv_has ls 5 [(0, .ref a)] → W p l e (q_rm 5 112) s m ([.ref a] : List Value).toArray below meth c H locs 0 0 (MQ below (q_Qi X 1 σ (fun (r : Int32) (σ' : ST) => (0 ≤ r.toInt ∧ r.toInt ≤ 1) ∧ (m_G (m_c X σ' a)) ∧ (m_W (m_c X σ' a) (n + 1)) ∧ (∀ j, 654 ≤ j → m_c X σ' a j = m_c X σ a j) ∧ (m_KD 40 X σ σ') ∧ (r, σ') = F_X12_turns X σ a ∧ q_ow [(12, 39), (12, 42), (12, 43), (12, 44), (34, 99), (39, 99)] [] X σ σ')) ([.ref a] : List Value).toArray s 0 0 (q_reg X)) (F0 m 15 ls []) := by
    clear hF
    intro σ_2 H locs ls z7σ_2 fr_σ_2 gσ_2 wσ_2 kqσ_2 kdσ_2 hF hI hl
    try clear kqσ; try clear kdσ; try clear fr_σ
    unfold F_X12_turns_J15_1 at hF
    obtain ⟨cT, hcT⟩ : ∃ f : Int → Int, f = m_c X σ_2 a := ⟨_, rfl⟩
    have ctσ_2 : m_c X σ_2 a = cT := hcT.symm
    have gT : m_G cT := by rw [hcT]; exact gσ_2
    have hT := gT.hd
    have zT : cT 7 = 0 := by rw [hcT]; exact z7σ_2
    refine lv_aload_n hx hb dX12_turns_15 rfl (lv_at hl 0 rfl) ?_
    refine gs_X12_35_12 E hI ha dX12_turns_16 ?_
    refine lv_bipush (v := 8) hx hb dX12_turns_19 zkb_8 ?_
    refine q_iald E hI (q_tk (k' := 34) hI ha rfl (Nat.succ_ne_zero _)) ⟨by decide, rfl⟩ (by decide) (by rw [q_lnk (v := 4650) hI (q_tk (k' := 34) hI ha rfl (Nat.succ_ne_zero _)) rfl (by decide)]; decide) dX12_turns_21 ?_
    refine lv_topi (fun f_3 ef_3 => ?_)
    replace hF := q_letX hF ef_3
    have if_3 : f_3.toInt = cT 8 := (m_rd ef_3 (by decide)).trans (congrFun ctσ_2 _)
    refine q_if_ge (A := f_3.toInt) E rfl (tgt := 49) dX12_turns_22 (by decide) (fun c_4 => ?_) (fun c_4 => ?_)
    · skip
      replace hF := q_ifn hF (Int.not_lt.mpr c_4)
      refine lv_iconst (v := 0) hx hb dX12_turns_49 zki_0 ?_
      have hrv : (0 : Int32).toInt = 0 := zt_0
      exact q_retz E hr hlk hI ⟨by decide, by decide⟩ ⟨⟨by decide, by decide⟩, gσ_2, (by first | exact vσ_2 | exact m_W.le wσ_2 (by first | (clear hn gσ wσ hh if_1 z7σ_2 gσ_2 wσ_2 kdσ_2 hT if_3 c_4 hrv; omega) | omega)), kqσ_2, kdσ_2, (hF.trans hout), fr_σ_2⟩ dX12_turns_50
    · skip
      replace hF := q_ifp hF c_4
      refine lv_aload_n hx hb dX12_turns_25 rfl (lv_at hl 0 rfl) ?_
      refine gs_X12_35_12 E hI ha dX12_turns_26 ?_
      refine lv_iconst (v := 2) hx hb dX12_turns_29 zki_2 ?_
      refine q_iald E hI (q_tk (k' := 34) hI ha rfl (Nat.succ_ne_zero _)) ⟨by decide, rfl⟩ (by decide) (by rw [q_lnk (v := 4650) hI (q_tk (k' := 34) hI ha rfl (Nat.succ_ne_zero _)) rfl (by decide)]; decide) dX12_turns_30 ?_
      refine lv_topi (fun f_5 ef_5 => ?_)
      replace hF := q_letX hF ef_5
      have if_5 : f_5.toInt = cT 2 := (m_rd ef_5 (by decide)).trans (congrFun ctσ_2 _)
      refine lv_iconst (v := 2) hx hb dX12_turns_31 zki_2 ?_
      have gc_6_f_5 := q_rng f_5
      refine q_icmp_lt (A := f_5.toInt) (B := 2) E rfl (by decide) (tgt := 49) dX12_turns_32 (by decide) (fun c_6 => ?_) (fun c_6 => ?_)
      · skip
        replace hF := q_ifp hF c_6
        refine lv_iconst (v := 0) hx hb dX12_turns_49 zki_0 ?_
        have hrv : (0 : Int32).toInt = 0 := zt_0
        exact q_retz E hr hlk hI ⟨by decide, by decide⟩ ⟨⟨by decide, by decide⟩, gσ_2, (by first | exact vσ_2 | exact m_W.le wσ_2 (by first | (clear hn gσ wσ hh if_1 z7σ_2 gσ_2 wσ_2 kdσ_2 hT if_3 c_4 if_5 gc_6_f_5 c_6 hrv; omega) | omega)), kqσ_2, kdσ_2, (hF.trans hout), fr_σ_2⟩ dX12_turns_50
      · skip
        replace hF := q_ifn hF (Int.not_lt.mpr c_6)
        refine lv_aload_n hx hb dX12_turns_35 rfl (lv_at hl 0 rfl) ?_
        refine lv_aload_n hx hb dX12_turns_36 rfl (lv_at hl 0 rfl) ?_
        refine gs_X12_35_12 E hI ha dX12_turns_37 ?_
        refine lv_bipush (v := 6) hx hb dX12_turns_40 zkb_6 ?_
        refine q_iald E hI (q_tk (k' := 34) hI ha rfl (Nat.succ_ne_zero _)) ⟨by decide, rfl⟩ (by decide) (by rw [q_lnk (v := 4650) hI (q_tk (k' := 34) hI ha rfl (Nat.succ_ne_zero _)) rfl (by decide)]; decide) dX12_turns_42 ?_
        refine lv_topi (fun f_7 ef_7 => ?_)
        replace hF := q_letX hF ef_7
        have if_7 : f_7.toInt = cT 6 := (m_rd ef_7 (by decide)).trans (congrFun ctσ_2 _)
        refine q_ci (q_rV11_1 (rest := []) E (hml.trans hl.1.symm) hI (c_X12_cardsOf l X σ_2 a f_7 ha (by rw [ctσ_2]; exact gT) (by first | (clear hn gσ wσ hh if_1 z7σ_2 gσ_2 wσ_2 kdσ_2 if_3 c_4 gc_6_f_5; omega) | omega)) kv_X12_293 ha ⟨Nat.le_of_ble_eq_true rfl, Nat.le_of_ble_eq_true rfl⟩ (Nat.le_of_ble_eq_true rfl) dX12_turns_43) hI (Nat.le_of_ble_eq_true rfl) (fun r_8 σ_9 H locs hpσ_9 hkσ_9 hI => ?_)
        have ahpσ_9 := hpσ_9.1
        have bhpσ_9 := hpσ_9.2.1
        have chpσ_9 := hpσ_9.2.2.1
        have dhpσ_9 := hpσ_9.2.2.2
        clear hpσ_9
        replace hI := q_Irw ahpσ_9 hI
        rw [ctσ_2] at bhpσ_9
        replace hF := q_letX hF dhpσ_9
        have scr_8 : m_S cT (34 + 10 * cT 6) 10 = r_8.toInt := by rw [bhpσ_9, if_7]
        refine q_if_ne (A := r_8.toInt) E rfl (tgt := 51) dX12_turns_46 (by decide) (fun c_10 => ?_) (fun c_10 => ?_)
        · skip
          replace hF := q_ifn hF c_10
          refine lv_aload_n hx hb dX12_turns_51 rfl (lv_at hl 0 rfl) ?_
          refine gs_X12_35_12 E hI ha dX12_turns_52 ?_
          refine lv_bipush (v := 6) hx hb dX12_turns_55 zkb_6 ?_
          refine q_iald E hI (q_tk (k' := 34) hI ha rfl (Nat.succ_ne_zero _)) ⟨by decide, rfl⟩ (by decide) (by rw [q_lnk (v := 4650) hI (q_tk (k' := 34) hI ha rfl (Nat.succ_ne_zero _)) rfl (by decide)]; decide) dX12_turns_57 ?_
          refine lv_topi (fun f_11 ef_11 => ?_)
          replace hF := q_letX hF ef_11
          have if_11 : f_11.toInt = cT 6 := (m_rd ef_11 (by decide)).trans (congrFun ctσ_2 _)
          refine lv_istore_n (lv' := [(1, .int f_11), (0, .ref a)]) hx hb dX12_turns_58 rfl hl (by decide) rfl (fun ls hl => ?_)
          refine lv_iconst (v := 0) hx hb dX12_turns_59 zki_0 ?_
          refine lv_istore_n (lv' := [(2, .int 0), (1, .int f_11), (0, .ref a)]) hx hb dX12_turns_60 rfl hl (by decide) rfl (fun ls hl => ?_)
          have L_61_14 : ∀ (k_14 : Nat) (x_12 : Int32) (σ_13 : ST) (H : Heap) (locs : List Loc) (ls : Array Slot), (2147483647 - x_12.toInt).toNat < k_14 → (0 ≤ x_12.toInt ∧ x_12.toInt ≤ 10) → (∀ k, 0 ≤ k → k < x_12.toInt → m_of σ_13 (q_rf X a 28) k = 0) → (q_ow [(12, 39), (12, 42), (12, 43), (12, 44), (34, 99), (39, 99)] [] X σ σ_13) → (m_G (m_c X σ_13 a)) → (m_W (m_c X σ_13 a) n) → (∀ j, 654 ≤ j → m_c X σ_13 a j = m_c X σ a j) → (m_KD 40 X σ σ_13) → (m_c X σ_13 a = cT) → (F_X12_turns_L61_2 X a f_11 k_14 x_12 σ_13 = out) → q_I X 1 σ s.heap locs σ_13 H → lv_has ls 5 [(0, .ref a), (1, .int f_11), (2, .int x_12)] → W p l e (q_rm 5 112) s m ([.ref a] : List Value).toArray below meth c H locs 0 0 (MQ below (q_Qi X 1 σ (fun (r : Int32) (σ' : ST) => (0 ≤ r.toInt ∧ r.toInt ≤ 1) ∧ (m_G (m_c X σ' a)) ∧ (m_W (m_c X σ' a) (n + 1)) ∧ (∀ j, 654 ≤ j → m_c X σ' a j = m_c X σ a j) ∧ (m_KD 40 X σ σ') ∧ (r, σ') = F_X12_turns X σ a ∧ q_ow [(12, 39), (12, 42), (12, 43), (12, 44), (34, 99), (39, 99)] [] X σ σ')) ([.ref a] : List Value).toArray s 0 0 (q_reg X)) (F0 m 61 ls []) := by
            clear hF
            intro k_14
            induction k_14 with
            | zero =>
              intro x_12 σ_13 H locs ls hms
              exact absurd hms (Nat.not_lt_zero _)
            | succ k_14 ih61 =>
              intro x_12 σ_13 H locs ls hm61 hge61 zlσ_13 fr_σ_13 gσ_13 wσ_13 kqσ_13 kdσ_13 ctσ_13 hF hI hl
              replace hF := (F_X12_turns_L61_2_s).symm.trans hF
              unfold F_X12_turns_B61_2 at hF
              refine lv_iload_n hx hb dX12_turns_61 rfl (lv_at hl 2 rfl) ?_
              refine lv_bipush (v := 10) hx hb dX12_turns_62 zkb_10 ?_
              have gc_15_x_12 := q_rng x_12
              refine q_icmp_ge (A := x_12.toInt) (B := 10) E rfl (by decide) (tgt := 80) dX12_turns_64 (by decide) (fun c_15 => ?_) (fun c_15 => ?_)
              · skip
                replace hF := q_ifn hF (Int.not_lt.mpr c_15)
                unfold F_X12_turns_E80_8 at hF
                have zzσ_13 : ∀ j, 0 ≤ j → j < 10 → m_of σ_13 (q_rf X a 28) j = 0 := fun j h0 h1 => zlσ_13 j h0 (by first | (clear hn gσ wσ hh if_1 z7σ_2 gσ_2 wσ_2 kdσ_2 hT if_3 c_4 if_5 gc_6_f_5 c_6 if_7 ahpσ_9 bhpσ_9 chpσ_9 dhpσ_9 scr_8 c_10 if_11 hm61 gσ_13 wσ_13 kdσ_13 gc_15_x_12; omega) | omega)
                have h5T := gT.h80 (p := cT 6) (k := cT 5) (by first | (clear hn gσ wσ hh if_1 z7σ_2 gσ_2 wσ_2 kdσ_2 if_3 c_4 gc_6_f_5 ahpσ_9 bhpσ_9 chpσ_9 dhpσ_9 scr_8 c_10 hm61 hge61 gσ_13 wσ_13 kdσ_13 gc_15_x_12 c_15; omega) | omega) (by first | (clear hn gσ wσ hh if_1 z7σ_2 gσ_2 wσ_2 kdσ_2 if_3 c_4 gc_6_f_5 ahpσ_9 bhpσ_9 chpσ_9 dhpσ_9 scr_8 c_10 hm61 hge61 gσ_13 wσ_13 kdσ_13 gc_15_x_12 c_15; omega) | omega) (by first | (clear hn gσ wσ hh if_1 z7σ_2 gσ_2 wσ_2 kdσ_2 if_3 c_4 if_5 gc_6_f_5 c_6 if_7 ahpσ_9 bhpσ_9 chpσ_9 dhpσ_9 scr_8 c_10 if_11 hm61 hge61 gσ_13 wσ_13 kdσ_13 gc_15_x_12 c_15; omega) | omega) (by first | (clear hn gσ wσ hh if_1 z7σ_2 gσ_2 wσ_2 kdσ_2 if_3 c_4 if_5 gc_6_f_5 c_6 if_7 ahpσ_9 bhpσ_9 chpσ_9 dhpσ_9 scr_8 c_10 if_11 hm61 hge61 gσ_13 wσ_13 kdσ_13 gc_15_x_12 c_15; omega) | omega)
                refine lv_aload_n hx hb dX12_turns_80 rfl (lv_at hl 0 rfl) ?_
                refine gs_X12_35_12 E hI ha dX12_turns_81 ?_
                refine lv_iconst (v := 4) hx hb dX12_turns_84 zki_4 ?_
                refine q_iald E hI (q_tk (k' := 34) hI ha rfl (Nat.succ_ne_zero _)) ⟨by decide, rfl⟩ (by decide) (by rw [q_lnk (v := 4650) hI (q_tk (k' := 34) hI ha rfl (Nat.succ_ne_zero _)) rfl (by decide)]; decide) dX12_turns_85 ?_
                refine lv_topi (fun f_16 ef_16 => ?_)
                replace hF := q_letX hF ef_16
                have if_16 : f_16.toInt = cT 4 := (m_rd ef_16 (by decide)).trans (congrFun ctσ_13 _)
                refine lv_aload_n hx hb dX12_turns_86 rfl (lv_at hl 0 rfl) ?_
                refine lv_iload_n hx hb dX12_turns_87 rfl (lv_at hl 1 rfl) ?_
                refine lv_aload_n hx hb dX12_turns_88 rfl (lv_at hl 0 rfl) ?_
                refine gs_X12_35_12 E hI ha dX12_turns_89 ?_
                refine lv_iconst (v := 5) hx hb dX12_turns_92 zki_5 ?_
                refine q_iald E hI (q_tk (k' := 34) hI ha rfl (Nat.succ_ne_zero _)) ⟨by decide, rfl⟩ (by decide) (by rw [q_lnk (v := 4650) hI (q_tk (k' := 34) hI ha rfl (Nat.succ_ne_zero _)) rfl (by decide)]; decide) dX12_turns_93 ?_
                refine lv_topi (fun f_17 ef_17 => ?_)
                replace hF := q_letX hF ef_17
                have if_17 : f_17.toInt = cT 5 := (m_rd ef_17 (by decide)).trans (congrFun ctσ_13 _)
                refine q_ci (q_rV11_2 (rest := [.int f_16]) E (hml.trans hl.1.symm) hI (c_X12_handOf l X σ_13 a f_11 f_17 ha (by first | (clear hn gσ wσ hh if_1 z7σ_2 gσ_2 wσ_2 kdσ_2 if_3 c_4 gc_6_f_5 ahpσ_9 bhpσ_9 chpσ_9 dhpσ_9 scr_8 c_10 hm61 hge61 gσ_13 wσ_13 kdσ_13 gc_15_x_12 c_15 h5T if_16 if_17; omega) | omega) (by first | (clear hn gσ wσ hh if_1 z7σ_2 gσ_2 wσ_2 kdσ_2 if_3 c_4 if_5 gc_6_f_5 c_6 if_7 ahpσ_9 bhpσ_9 chpσ_9 dhpσ_9 scr_8 c_10 if_11 hm61 hge61 gσ_13 wσ_13 kdσ_13 gc_15_x_12 c_15 h5T if_16; omega) | omega)) kv_X12_276 ha ⟨Nat.le_of_ble_eq_true rfl, Nat.le_of_ble_eq_true rfl⟩ (Nat.le_of_ble_eq_true rfl) dX12_turns_94) hI (Nat.le_of_ble_eq_true rfl) (fun r_18 σ_19 H locs hpσ_19 hkσ_19 hI => ?_)
                have ahpσ_19 := hpσ_19.1
                have bhpσ_19 := hpσ_19.2.1
                have chpσ_19 := hpσ_19.2.2
                clear hpσ_19
                replace hI := q_Irw ahpσ_19 hI
                rw [ctσ_13] at bhpσ_19
                replace hF := q_letX hF chpσ_19
                have ir_18 : r_18.toInt = (cT (34 + 10 * (cT 6) + (cT 5))) := (by first | exact bhpσ_19 | (rw [bhpσ_19, if_11, if_17]) | (simp only [bhpσ_19, if_11, if_17]))
                refine q_ci (q_runS (As := [.int f_16, .int r_18]) (rest := []) E (hml.trans hl.1.symm) hI (c_J9_min_7cf53 l X σ_13 f_16 r_18) ks_X12_384 rfl ⟨Nat.le_of_ble_eq_true rfl, Nat.le_of_ble_eq_true rfl⟩ ⟨Nat.le_refl _, Nat.le_refl _⟩ rfl (Nat.le_of_ble_eq_true rfl) dX12_turns_97) hI (Nat.le_of_ble_eq_true rfl) (fun r_20 σ_21 H locs hpσ_21 hkσ_21 hI => ?_)
                have ahpσ_21 := hpσ_21.1
                have bhpσ_21 := hpσ_21.2.1
                have chpσ_21 := hpσ_21.2.2
                clear hpσ_21
                replace hI := q_Irw ahpσ_21 hI
                replace hF := q_letX hF chpσ_21
                refine lv_istore_n (lv' := [(2, .int r_20), (0, .ref a), (1, .int f_11)]) hx hb dX12_turns_100 rfl hl (by decide) rfl (fun ls hl => ?_)
                refine lv_aload_n hx hb dX12_turns_101 rfl (lv_at hl 1 rfl) ?_
                refine gs_X12_47_12 E hI ha dX12_turns_102 ?_
                refine lv_aload_n hx hb dX12_turns_105 rfl (lv_at hl 1 rfl) ?_
                refine gs_X12_35_12 E hI ha dX12_turns_106 ?_
                refine lv_iconst (v := 5) hx hb dX12_turns_109 zki_5 ?_
                refine q_iald E hI (q_tk (k' := 34) hI ha rfl (Nat.succ_ne_zero _)) ⟨by decide, rfl⟩ (by decide) (by rw [q_lnk (v := 4650) hI (q_tk (k' := 34) hI ha rfl (Nat.succ_ne_zero _)) rfl (by decide)]; decide) dX12_turns_110 ?_
                refine lv_topi (fun f_22 ef_22 => ?_)
                replace hF := q_letX hF ef_22
                have if_22 : f_22.toInt = cT 5 := (m_rd ef_22 (by decide)).trans (congrFun ctσ_13 _)
                refine lv_iload_n hx hb dX12_turns_111 rfl (lv_at hl 0 rfl) ?_
                refine q_iastN E hI (q_tk (k' := 39) hI ha rfl (Nat.succ_ne_zero _)) ⟨by decide, rfl⟩ (by first | (clear hn gσ wσ hh if_1 z7σ_2 gσ_2 wσ_2 kdσ_2 if_3 c_4 if_5 gc_6_f_5 c_6 if_7 ahpσ_9 bhpσ_9 chpσ_9 dhpσ_9 scr_8 c_10 if_11 hm61 hge61 gσ_13 wσ_13 kdσ_13 gc_15_x_12 c_15 h5T if_16 ahpσ_19 bhpσ_19 chpσ_19 ir_18 ahpσ_21 bhpσ_21 chpσ_21; omega) | omega) (by rw [q_lnk (v := 10) hI (q_tk (k' := 39) hI ha rfl (Nat.succ_ne_zero _)) rfl (by decide)]; omega) (show 1 < 9 by decide) (q_inU rfl) dX12_turns_112 (fun H locs σ_23 hσ_23 hI => ?_)
                replace hF := q_letX hF hσ_23
                have fr_σ_23 := fr_σ_13.si hσ_23 (q_tk (k' := 39) hI ha rfl (Nat.succ_ne_zero _)) rfl
                have mcσ_23 := m_wo hσ_23 (m_ne (q_tk (k' := 39) hI ha rfl (Nat.succ_ne_zero _)) (q_tk (f := 20) (k' := 34) hI ha rfl (by decide)) (by decide))
                have gσ_23 : m_G (m_c X σ_23 a) := m_G.ext (fun j _ _ => mcσ_23 j) gσ_13
                have wσ_23 : m_W (m_c X σ_23 a) n := m_W.ext (fun j _ _ => mcσ_23 j) wσ_13
                have kqσ_23 : ∀ j, 654 ≤ j → m_c X σ_23 a j = m_c X σ a j := fun j h => (mcσ_23 j).trans (kqσ_13 j h)
                have kdσ_23 : m_KD 40 X σ σ_23 := (by first | exact kdσ_13.si hσ_23 ha (by decide) | exact kdσ_13.sl hσ_23 | exact kdσ_13.ar hσ_23 (q_tk (k' := 39) hI ha rfl (Nat.succ_ne_zero _)) (by decide) (by decide))
                have ctσ_23 : m_c X σ_23 a = cT := (funext mcσ_23).trans ctσ_13
                have l1σ_23 : m_l1 (m_of σ_23 (q_rf X a 28)) (cT 5) r_20.toInt := m_l1.mk zzσ_13 (m_ofw hσ_23 (by omega : _ = cT 5) (by first | (clear hn gσ wσ hh if_1 z7σ_2 gσ_2 wσ_2 kdσ_2 if_3 c_4 if_5 gc_6_f_5 c_6 if_7 ahpσ_9 bhpσ_9 chpσ_9 dhpσ_9 scr_8 c_10 if_11 hm61 hge61 gσ_13 wσ_13 kdσ_13 gc_15_x_12 c_15 h5T if_16 ahpσ_19 bhpσ_19 chpσ_19 ir_18 ahpσ_21 bhpσ_21 chpσ_21 gσ_23 wσ_23 kdσ_23; omega) | omega)) rfl
                refine lv_aload_n hx hb dX12_turns_113 rfl (lv_at hl 1 rfl) ?_
                refine lv_iload_n hx hb dX12_turns_114 rfl (lv_at hl 2 rfl) ?_
                refine q_ci (q_rV11_1 (rest := []) E (hml.trans hl.1.symm) hI (c_X12_otherKind l X σ_23 a f_11 ha (by rw [ctσ_23]; exact gT) (by first | (clear hn gσ wσ hh if_1 z7σ_2 gσ_2 wσ_2 kdσ_2 if_3 c_4 gc_6_f_5 ahpσ_9 bhpσ_9 chpσ_9 dhpσ_9 scr_8 c_10 hm61 hge61 gσ_13 wσ_13 kdσ_13 gc_15_x_12 c_15 h5T if_16 if_17 ahpσ_19 bhpσ_19 chpσ_19 ir_18 ahpσ_21 bhpσ_21 chpσ_21 if_22 gσ_23 wσ_23 kdσ_23; omega) | omega)) kv_X12_399 ha ⟨Nat.le_of_ble_eq_true rfl, Nat.le_of_ble_eq_true rfl⟩ (Nat.le_of_ble_eq_true rfl) dX12_turns_115) hI (Nat.le_of_ble_eq_true rfl) (fun r_24 σ_25 H locs hpσ_25 hkσ_25 hI => ?_)
                have ahpσ_25 := hpσ_25.1
                have bhpσ_25 := hpσ_25.2.1
                have chpσ_25 := hpσ_25.2.2.1
                have dhpσ_25 := hpσ_25.2.2.2
                clear hpσ_25
                replace hI := q_Irw ahpσ_25 hI
                rw [ctσ_23] at bhpσ_25
                rw [ctσ_23] at chpσ_25
                replace hF := q_letX hF dhpσ_25
                have otr_24 := bhpσ_25
                rw [if_11] at otr_24
                have osr_24 := fun h5 => otr_24.some gT (by first | (clear hn gσ wσ hh if_1 z7σ_2 gσ_2 wσ_2 kdσ_2 if_3 c_4 gc_6_f_5 ahpσ_9 bhpσ_9 chpσ_9 dhpσ_9 scr_8 c_10 hm61 hge61 gσ_13 wσ_13 kdσ_13 gc_15_x_12 c_15 h5T if_16 if_17 ahpσ_19 bhpσ_19 chpσ_19 ir_18 ahpσ_21 bhpσ_21 chpσ_21 if_22 gσ_23 wσ_23 kdσ_23 ahpσ_25 bhpσ_25 chpσ_25 dhpσ_25; omega) | omega) (by first | (clear hn gσ wσ hh if_1 z7σ_2 gσ_2 wσ_2 kdσ_2 if_3 c_4 if_5 gc_6_f_5 c_6 if_7 ahpσ_9 chpσ_9 dhpσ_9 if_11 hm61 gσ_13 wσ_13 kdσ_13 gc_15_x_12 if_17 ahpσ_19 chpσ_19 ahpσ_21 bhpσ_21 chpσ_21 if_22 gσ_23 wσ_23 kdσ_23 ahpσ_25 bhpσ_25 chpσ_25 dhpσ_25; omega) | omega) h5
                refine lv_istore_n (lv' := [(3, .int r_24), (2, .int r_20), (0, .ref a), (1, .int f_11)]) hx hb dX12_turns_118 rfl hl (by decide) rfl (fun ls hl => ?_)
                refine lv_iload_n hx hb dX12_turns_119 rfl (lv_at hl 1 rfl) ?_
                refine lv_aload_n hx hb dX12_turns_120 rfl (lv_at hl 2 rfl) ?_
                refine gs_X12_35_12 E hI ha dX12_turns_121 ?_
                refine lv_iconst (v := 4) hx hb dX12_turns_124 zki_4 ?_
                refine q_iald E hI (q_tk (k' := 34) hI ha rfl (Nat.succ_ne_zero _)) ⟨by decide, rfl⟩ (by decide) (by rw [q_lnk (v := 4650) hI (q_tk (k' := 34) hI ha rfl (Nat.succ_ne_zero _)) rfl (by decide)]; decide) dX12_turns_125 ?_
                refine lv_topi (fun f_26 ef_26 => ?_)
                replace hF := q_letX hF ef_26
                have if_26 : f_26.toInt = cT 4 := (m_rd ef_26 (by decide)).trans (congrFun ctσ_23 _)
                have J_163_27 : ∀  (σ_27 : ST) (H : Heap) (locs : List Loc) (ls : Array Slot), (m_lo cT (m_of σ_27 (q_rf X a 28)) f_11.toInt) → (q_ow [(12, 39), (12, 42), (12, 43), (12, 44), (34, 99), (39, 99)] [] X σ σ_27) → (m_G (m_c X σ_27 a)) → (m_W (m_c X σ_27 a) n) → (∀ j, 654 ≤ j → m_c X σ_27 a j = m_c X σ a j) → (m_KD 40 X σ σ_27) → (m_c X σ_27 a = cT) → (F_X12_turns_J163_4 X a f_11 σ_27 = out) → q_I X 1 σ s.heap locs σ_27 H → lv_has ls 5 [(0, .ref a), (1, .int f_11), (2, .int r_20), (3, .int r_24)] → W p l e (q_rm 5 112) s m ([.ref a] : List Value).toArray below meth c H locs 0 0 (MQ below (q_Qi X 1 σ (fun (r : Int32) (σ' : ST) => (0 ≤ r.toInt ∧ r.toInt ≤ 1) ∧ (m_G (m_c X σ' a)) ∧ (m_W (m_c X σ' a) (n + 1)) ∧ (∀ j, 654 ≤ j → m_c X σ' a j = m_c X σ a j) ∧ (m_KD 40 X σ σ') ∧ (r, σ') = F_X12_turns X σ a ∧ q_ow [(12, 39), (12, 42), (12, 43), (12, 44), (34, 99), (39, 99)] [] X σ σ')) ([.ref a] : List Value).toArray s 0 0 (q_reg X)) (F0 m 163 ls []) := by
                  clear hF
                  intro σ_27 H locs ls loσ_27 fr_σ_27 gσ_27 wσ_27 kqσ_27 kdσ_27 ctσ_27 hF hI hl
                  try clear zzσ_13; try clear ahpσ_19; try clear ahpσ_21; try clear fr_σ_23; try clear mcσ_23; try clear kqσ_23; try clear kdσ_23; try clear ctσ_23; try clear ahpσ_25
                  unfold F_X12_turns_J163_4 at hF
                  refine lv_aload_n hx hb dX12_turns_163 rfl (lv_at hl 0 rfl) ?_
                  refine lv_iload_n hx hb dX12_turns_164 rfl (lv_at hl 1 rfl) ?_
                  refine lv_aload_n hx hb dX12_turns_165 rfl (lv_at hl 0 rfl) ?_
                  refine gs_X12_47_12 E hI ha dX12_turns_166 ?_
                  refine q_cv (q_rV11_2 (rest := []) E (hml.trans hl.1.symm) hI (c_X12_laysDown l X σ_27 a f_11 (q_rf X a 28) ha (q_tk (k' := 39) hI ha rfl (Nat.succ_ne_zero _)) (by rw [ctσ_27]; exact loσ_27) (by rw [ctσ_27]; omega)) kv_X12_311 ha ⟨Nat.le_of_ble_eq_true rfl, Nat.le_of_ble_eq_true rfl⟩ (Nat.le_of_ble_eq_true rfl) dX12_turns_169) hI (Nat.le_of_ble_eq_true rfl) (fun σ_29 H locs hpσ_29 hkσ_29 hI => ?_)
                  have ahpσ_29 := hpσ_29.1
                  have bhpσ_29 := hpσ_29.2.1
                  have chpσ_29 := hpσ_29.2.2.1
                  have dhpσ_29 := hpσ_29.2.2.2.1
                  have ehpσ_29 := hpσ_29.2.2.2.2.1
                  have fhpσ_29 := hpσ_29.2.2.2.2.2.1
                  have ghpσ_29 := hpσ_29.2.2.2.2.2.2.1
                  have hhpσ_29 := hpσ_29.2.2.2.2.2.2.2
                  clear hpσ_29
                  have fr_σ_29 := fr_σ_27.call hhpσ_29 rfl rfl
                  replace hF := q_letX hF ghpσ_29
                  have gσ_29 : m_G (m_c X σ_29 a) := ahpσ_29
                  have wσ_29 : m_W (m_c X σ_29 a) n := m_W.ext (fun j h0 h1 => bhpσ_29 j (by first | (clear hn gσ wσ hh if_1 z7σ_2 gσ_2 wσ_2 kdσ_2 hT if_3 c_4 if_5 gc_6_f_5 c_6 if_7 ahpσ_9 bhpσ_9 chpσ_9 dhpσ_9 scr_8 c_10 if_11 hm61 hge61 gσ_13 wσ_13 kdσ_13 gc_15_x_12 c_15 h5T if_16 if_17 bhpσ_19 chpσ_19 ir_18 bhpσ_21 chpσ_21 if_22 gσ_23 wσ_23 bhpσ_25 chpσ_25 dhpσ_25 osr_24 if_26 gσ_27 wσ_27 kdσ_27 ahpσ_29 bhpσ_29 chpσ_29 dhpσ_29 ehpσ_29 fhpσ_29 gσ_29; omega) | omega) (by first | (clear hn gσ wσ hh if_1 z7σ_2 gσ_2 wσ_2 kdσ_2 hT if_3 c_4 if_5 gc_6_f_5 c_6 if_7 ahpσ_9 bhpσ_9 chpσ_9 dhpσ_9 scr_8 c_10 if_11 hm61 hge61 gσ_13 wσ_13 kdσ_13 gc_15_x_12 c_15 h5T if_16 if_17 bhpσ_19 chpσ_19 ir_18 bhpσ_21 chpσ_21 if_22 gσ_23 wσ_23 bhpσ_25 chpσ_25 dhpσ_25 osr_24 if_26 gσ_27 wσ_27 kdσ_27 ahpσ_29 bhpσ_29 chpσ_29 dhpσ_29 ehpσ_29 fhpσ_29 gσ_29; omega) | omega)) wσ_27
                  have kqσ_29 : ∀ j, 654 ≤ j → m_c X σ_29 a j = m_c X σ a j := (fun j h => (bhpσ_29 j (by first | (clear hn gσ wσ hh if_1 z7σ_2 gσ_2 wσ_2 kdσ_2 hT if_3 c_4 if_5 gc_6_f_5 c_6 if_7 ahpσ_9 bhpσ_9 chpσ_9 dhpσ_9 scr_8 c_10 if_11 hm61 hge61 gσ_13 wσ_13 kdσ_13 gc_15_x_12 c_15 h5T if_16 if_17 bhpσ_19 chpσ_19 ir_18 bhpσ_21 chpσ_21 if_22 gσ_23 wσ_23 bhpσ_25 chpσ_25 dhpσ_25 osr_24 if_26 gσ_27 wσ_27 kdσ_27 ahpσ_29 bhpσ_29 chpσ_29 dhpσ_29 ehpσ_29 fhpσ_29 gσ_29 wσ_29; omega) | omega) (by first | (clear hn gσ wσ hh if_1 z7σ_2 gσ_2 wσ_2 kdσ_2 hT if_3 c_4 if_5 gc_6_f_5 c_6 if_7 ahpσ_9 bhpσ_9 chpσ_9 dhpσ_9 scr_8 c_10 if_11 hm61 hge61 gσ_13 wσ_13 kdσ_13 gc_15_x_12 c_15 h5T if_16 if_17 bhpσ_19 chpσ_19 ir_18 bhpσ_21 chpσ_21 if_22 gσ_23 wσ_23 bhpσ_25 chpσ_25 dhpσ_25 osr_24 if_26 gσ_27 wσ_27 kdσ_27 ahpσ_29 bhpσ_29 chpσ_29 dhpσ_29 ehpσ_29 fhpσ_29 gσ_29 wσ_29; omega) | omega)).trans (kqσ_27 j h))
                  have kdσ_29 : m_KD 40 X σ σ_29 := kdσ_27.tr fhpσ_29
                  have d7σ_29 := dhpσ_29
                  have d6σ_29 := ehpσ_29
                  obtain ⟨cD, hcD⟩ : ∃ f : Int → Int, f = m_c X σ_29 a := ⟨_, rfl⟩
                  have cxσ_29 : m_c X σ_29 a = cD := hcD.symm
                  have gD : m_G cD := by rw [hcD]; exact gσ_29
                  have hD := gD.hd
                  have zD : cD 7 = 1 ∧ cD 6 = f_11.toInt := by rw [hcD]; exact ⟨d7σ_29, d6σ_29⟩
                  refine lv_aload_n hx hb dX12_turns_172 rfl (lv_at hl 0 rfl) ?_
                  refine lv_dup hx hb dX12_turns_173 rfl ?_
                  refine gs_X12_405_12 E hI ha dX12_turns_174 ?_
                  refine lv_topi (fun f_30 ef_30 => ?_)
                  replace hF := q_letX hF ef_30
                  have if_30 : f_30.toInt = (σ_29.1 a 42).toInt := congrArg Int32.toInt ef_30
                  refine lv_iconst (v := 1) hx hb dX12_turns_177 zki_1 ?_
                  refine lv_iadd hx hb dX12_turns_178 ?_
                  refine lv_topi (fun z_31 ez_31 => ?_)
                  replace hF := q_letX hF ez_31
                  refine ps_X12_405_12 E hI ha (by decide) dX12_turns_179 (fun H locs σ_32 hσ_32 hI => ?_)
                  replace hF := q_letX hF hσ_32
                  have fr_σ_32 := fr_σ_29.si hσ_32 ha rfl
                  have mcσ_32 := m_wo hσ_32 (m_ne ha (q_tk (f := 20) (k' := 34) hI ha rfl (by decide)) (by decide))
                  have gσ_32 : m_G (m_c X σ_32 a) := m_G.ext (fun j _ _ => mcσ_32 j) gσ_29
                  have wσ_32 : m_W (m_c X σ_32 a) n := m_W.ext (fun j _ _ => mcσ_32 j) wσ_29
                  have kqσ_32 : ∀ j, 654 ≤ j → m_c X σ_32 a j = m_c X σ a j := fun j h => (mcσ_32 j).trans (kqσ_29 j h)
                  have kdσ_32 : m_KD 40 X σ σ_32 := (by first | exact kdσ_29.si hσ_32 ha (by decide) | exact kdσ_29.sl hσ_32 | exact kdσ_29.ar hσ_32 ha (by decide) (by decide))
                  have cxσ_32 : m_c X σ_32 a = cD := (funext mcσ_32).trans cxσ_29
                  refine lv_aload_n hx hb dX12_turns_182 rfl (lv_at hl 0 rfl) ?_
                  refine lv_iload_n hx hb dX12_turns_183 rfl (lv_at hl 1 rfl) ?_
                  refine q_ci (q_rV11_1 (rest := []) E (hml.trans hl.1.symm) hI (c_X12_behindOf l X σ_32 a f_11 ha (by rw [cxσ_32]; exact gD) (by rw [cxσ_32]; exact (by first | (clear hn gσ wσ hh if_1 z7σ_2 gσ_2 wσ_2 kdσ_2 hT if_3 c_4 if_5 gc_6_f_5 c_6 if_7 ahpσ_9 bhpσ_9 chpσ_9 dhpσ_9 scr_8 c_10 if_11 hm61 hge61 gσ_13 wσ_13 kdσ_13 gc_15_x_12 c_15 h5T if_16 if_17 bhpσ_19 chpσ_19 ir_18 bhpσ_21 chpσ_21 if_22 gσ_23 wσ_23 bhpσ_25 chpσ_25 dhpσ_25 osr_24 if_26 gσ_27 wσ_27 kdσ_27 ahpσ_29 bhpσ_29 chpσ_29 dhpσ_29 fhpσ_29 gσ_29 wσ_29 kdσ_29 if_30 gσ_32 wσ_32 kdσ_32; omega) | omega))) kv_X12_319 ha ⟨Nat.le_of_ble_eq_true rfl, Nat.le_of_ble_eq_true rfl⟩ (Nat.le_of_ble_eq_true rfl) dX12_turns_184) hI (Nat.le_of_ble_eq_true rfl) (fun r_33 σ_34 H locs hpσ_34 hkσ_34 hI => ?_)
                  have ahpσ_34 := hpσ_34.1
                  have bhpσ_34 := hpσ_34.2.1
                  have chpσ_34 := hpσ_34.2.2.1
                  have dhpσ_34 := hpσ_34.2.2.2
                  clear hpσ_34
                  replace hI := q_Irw ahpσ_34 hI
                  rw [cxσ_32] at bhpσ_34
                  rw [cxσ_32] at chpσ_34
                  replace hF := q_letX hF dhpσ_34
                  refine lv_istore (lv' := [(4, .int r_33), (0, .ref a), (1, .int f_11), (2, .int r_20), (3, .int r_24)]) hx hb dX12_turns_187 hl (by decide) rfl (fun ls hl => ?_)
                  have L_189_37 : ∀ (k_37 : Nat) (x_35 : Int32) (σ_36 : ST) (H : Heap) (locs : List Loc) (ls : Array Slot), (f_11.toInt - x_35.toInt + 20 * min 1 (max 0 (x_35.toInt - f_11.toInt))).toNat < k_37 → (0 ≤ x_35.toInt ∧ x_35.toInt < cD 2) → (q_ow [(12, 39), (12, 42), (12, 43), (12, 44), (34, 99), (39, 99)] [] X σ σ_36) → (m_G (m_c X σ_36 a)) → (m_W (m_c X σ_36 a) n) → (∀ j, 654 ≤ j → m_c X σ_36 a j = m_c X σ a j) → (m_KD 40 X σ σ_36) → (m_c X σ_36 a = cD) → (F_X12_turns_L189_5 X f_11 a k_37 x_35 σ_36 = out) → q_I X 1 σ s.heap locs σ_36 H → lv_has ls 5 [(0, .ref a), (1, .int f_11), (2, .int r_20), (3, .int r_24), (4, .int x_35)] → W p l e (q_rm 5 112) s m ([.ref a] : List Value).toArray below meth c H locs 0 0 (MQ below (q_Qi X 1 σ (fun (r : Int32) (σ' : ST) => (0 ≤ r.toInt ∧ r.toInt ≤ 1) ∧ (m_G (m_c X σ' a)) ∧ (m_W (m_c X σ' a) (n + 1)) ∧ (∀ j, 654 ≤ j → m_c X σ' a j = m_c X σ a j) ∧ (m_KD 40 X σ σ') ∧ (r, σ') = F_X12_turns X σ a ∧ q_ow [(12, 39), (12, 42), (12, 43), (12, 44), (34, 99), (39, 99)] [] X σ σ')) ([.ref a] : List Value).toArray s 0 0 (q_reg X)) (F0 m 189 ls []) := by
                    clear hF
                    intro k_37
                    induction k_37 with
                    | zero =>
                      intro x_35 σ_36 H locs ls hms
                      try clear loσ_27; try clear fr_σ_27; try clear kqσ_27; try clear kdσ_27; try clear ctσ_27; try clear ahpσ_29; try clear fr_σ_29; try clear kqσ_29; try clear kdσ_29; try clear cxσ_29; try clear fr_σ_32; try clear mcσ_32; try clear kqσ_32; try clear kdσ_32; try clear cxσ_32; try clear ahpσ_34
                      exact absurd hms (Nat.not_lt_zero _)
                    | succ k_37 ih189 =>
                      intro x_35 σ_36 H locs ls hm189 hge189 fr_σ_36 gσ_36 wσ_36 kqσ_36 kdσ_36 cxσ_36 hF hI hl
                      replace hF := (F_X12_turns_L189_5_s).symm.trans hF
                      unfold F_X12_turns_B189_5 at hF
                      refine lv_iload hx hb dX12_turns_189 (lv_at hl 4 rfl) ?_
                      refine lv_iload_n hx hb dX12_turns_191 rfl (lv_at hl 1 rfl) ?_
                      have gc_38_x_35 := q_rng x_35
                      have gc_38_f_11 := q_rng f_11
                      refine q_icmp_eq (A := x_35.toInt) (B := f_11.toInt) E rfl rfl (tgt := 271) dX12_turns_192 (by decide) (fun c_38 => ?_) (fun c_38 => ?_)
                      · skip
                        replace hF := q_ifp hF c_38
                        unfold F_X12_turns_E271_6 at hF
                        refine lv_aload_n hx hb dX12_turns_271 rfl (lv_at hl 0 rfl) ?_
                        refine q_cv (q_rV11_0 (rest := []) E (hml.trans hl.1.symm) hI (c_X12_leaves l X σ_36 a n ha gσ_36 wσ_36 (by rw [cxσ_36]; omega)) kv_X12_322 ha ⟨Nat.le_of_ble_eq_true rfl, Nat.le_of_ble_eq_true rfl⟩ (Nat.le_of_ble_eq_true rfl) dX12_turns_272) hI (Nat.le_of_ble_eq_true rfl) (fun σ_40 H locs hpσ_40 hkσ_40 hI => ?_)
                        have ahpσ_40 := hpσ_40.1
                        have bhpσ_40 := hpσ_40.2.1
                        have chpσ_40 := hpσ_40.2.2.1
                        have dhpσ_40 := hpσ_40.2.2.2.1
                        have ehpσ_40 := hpσ_40.2.2.2.2.1
                        have fhpσ_40 := hpσ_40.2.2.2.2.2.1
                        have ghpσ_40 := hpσ_40.2.2.2.2.2.2.1
                        have hhpσ_40 := hpσ_40.2.2.2.2.2.2.2
                        clear hpσ_40
                        have fr_σ_40 := fr_σ_36.call hhpσ_40 rfl rfl
                        replace hF := q_letX hF ghpσ_40
                        have gσ_40 : m_G (m_c X σ_40 a) := ahpσ_40
                        have wσ_40 : m_W (m_c X σ_40 a) n := bhpσ_40
                        have kqσ_40 : ∀ j, 654 ≤ j → m_c X σ_40 a j = m_c X σ a j := (fun j h => (chpσ_40 j h).trans (kqσ_36 j h))
                        have kdσ_40 : m_KD 40 X σ σ_40 := kdσ_36.tr dhpσ_40
                        refine lv_iconst (v := 1) hx hb dX12_turns_275 zki_1 ?_
                        have hrv : (1 : Int32).toInt = 1 := zt_1
                        exact q_retz E hr hlk hI ⟨by decide, by decide⟩ ⟨⟨by decide, by decide⟩, gσ_40, (by first | exact vσ_40 | exact m_W.le wσ_40 (by first | (clear hn gσ wσ hh if_1 z7σ_2 gσ_2 wσ_2 kdσ_2 hT if_3 c_4 if_5 gc_6_f_5 c_6 if_7 ahpσ_9 bhpσ_9 chpσ_9 dhpσ_9 scr_8 c_10 if_11 hm61 hge61 gσ_13 wσ_13 kdσ_13 gc_15_x_12 c_15 h5T if_16 if_17 bhpσ_19 chpσ_19 ir_18 bhpσ_21 chpσ_21 if_22 gσ_23 wσ_23 bhpσ_25 chpσ_25 dhpσ_25 osr_24 if_26 gσ_27 wσ_27 bhpσ_29 chpσ_29 dhpσ_29 ehpσ_29 fhpσ_29 gσ_29 wσ_29 hD zD if_30 gσ_32 wσ_32 bhpσ_34 chpσ_34 dhpσ_34 hm189 hge189 gσ_36 wσ_36 kdσ_36 gc_38_x_35 gc_38_f_11 c_38 ahpσ_40 bhpσ_40 chpσ_40 dhpσ_40 ehpσ_40 fhpσ_40 gσ_40 wσ_40 kdσ_40 hrv; omega) | omega)), kqσ_40, kdσ_40, (hF.trans hout), fr_σ_40⟩ dX12_turns_276
                      · skip
                        replace hF := q_ifn hF c_38
                        refine lv_aload_n hx hb dX12_turns_195 rfl (lv_at hl 0 rfl) ?_
                        refine lv_iload hx hb dX12_turns_196 (lv_at hl 4 rfl) ?_
                        refine q_ci (q_rV11_1 (rest := []) E (hml.trans hl.1.symm) hI (c_X12_isImpossible l X σ_36 a x_35 ha (by rw [cxσ_36]; exact gD) (by rw [cxσ_36]; exact (by omega)) (by rw [cxσ_36]; exact (by first | (clear hn gσ wσ hh if_1 z7σ_2 gσ_2 wσ_2 kdσ_2 hT if_3 c_4 if_5 gc_6_f_5 c_6 if_7 ahpσ_9 bhpσ_9 chpσ_9 dhpσ_9 scr_8 c_10 if_11 hm61 hge61 gσ_13 wσ_13 kdσ_13 gc_15_x_12 c_15 h5T if_16 if_17 bhpσ_19 chpσ_19 ir_18 bhpσ_21 chpσ_21 if_22 gσ_23 wσ_23 bhpσ_25 chpσ_25 dhpσ_25 osr_24 if_26 gσ_27 wσ_27 bhpσ_29 chpσ_29 dhpσ_29 ehpσ_29 fhpσ_29 gσ_29 wσ_29 if_30 gσ_32 wσ_32 bhpσ_34 chpσ_34 dhpσ_34 hm189 hge189 gσ_36 wσ_36 kdσ_36 gc_38_x_35 gc_38_f_11 c_38; omega) | omega))) kv_X12_355 ha ⟨Nat.le_of_ble_eq_true rfl, Nat.le_of_ble_eq_true rfl⟩ (Nat.le_of_ble_eq_true rfl) dX12_turns_198) hI (Nat.le_of_ble_eq_true rfl) (fun r_41 σ_42 H locs hpσ_42 hkσ_42 hI => ?_)
                        have ahpσ_42 := hpσ_42.1
                        have bhpσ_42 := hpσ_42.2.1
                        have chpσ_42 := hpσ_42.2.2
                        clear hpσ_42
                        replace hI := q_Irw ahpσ_42 hI
                        replace hF := q_letX hF chpσ_42
                        refine q_if_ne (A := r_41.toInt) E rfl (tgt := 224) dX12_turns_201 (by decide) (fun c_43 => ?_) (fun c_43 => ?_)
                        · skip
                          replace hF := q_ifn hF c_43
                          replace c_43 := q_ifOne bhpσ_42 c_43
                          unfold F_X12_turns_E224_7 at hF
                          refine lv_aload_n hx hb dX12_turns_224 rfl (lv_at hl 0 rfl) ?_
                          refine lv_dup hx hb dX12_turns_225 rfl ?_
                          refine gs_X12_408_12 E hI ha dX12_turns_226 ?_
                          refine lv_topi (fun f_44 ef_44 => ?_)
                          replace hF := q_letX hF ef_44
                          have if_44 : f_44.toInt = (σ_36.1 a 43).toInt := congrArg Int32.toInt ef_44
                          refine lv_iconst (v := 1) hx hb dX12_turns_229 zki_1 ?_
                          refine lv_iadd hx hb dX12_turns_230 ?_
                          refine lv_topi (fun z_45 ez_45 => ?_)
                          replace hF := q_letX hF ez_45
                          refine ps_X12_408_12 E hI ha (by decide) dX12_turns_231 (fun H locs σ_46 hσ_46 hI => ?_)
                          replace hF := q_letX hF hσ_46
                          have fr_σ_46 := fr_σ_36.si hσ_46 ha rfl
                          have mcσ_46 := m_wo hσ_46 (m_ne ha (q_tk (f := 20) (k' := 34) hI ha rfl (by decide)) (by decide))
                          have gσ_46 : m_G (m_c X σ_46 a) := m_G.ext (fun j _ _ => mcσ_46 j) gσ_36
                          have wσ_46 : m_W (m_c X σ_46 a) n := m_W.ext (fun j _ _ => mcσ_46 j) wσ_36
                          have kqσ_46 : ∀ j, 654 ≤ j → m_c X σ_46 a j = m_c X σ a j := fun j h => (mcσ_46 j).trans (kqσ_36 j h)
                          have kdσ_46 : m_KD 40 X σ σ_46 := (by first | exact kdσ_36.si hσ_46 ha (by decide) | exact kdσ_36.sl hσ_46 | exact kdσ_36.ar hσ_46 ha (by decide) (by decide))
                          have cxσ_46 : m_c X σ_46 a = cD := (funext mcσ_46).trans cxσ_36
                          refine lv_aload_n hx hb dX12_turns_234 rfl (lv_at hl 0 rfl) ?_
                          refine lv_dup hx hb dX12_turns_235 rfl ?_
                          refine gs_X12_411_12 E hI ha dX12_turns_236 ?_
                          refine lv_topi (fun f_47 ef_47 => ?_)
                          replace hF := q_letX hF ef_47
                          have if_47 : f_47.toInt = (σ_46.1 a 44).toInt := congrArg Int32.toInt ef_47
                          refine lv_aload_n hx hb dX12_turns_239 rfl (lv_at hl 0 rfl) ?_
                          refine lv_iload hx hb dX12_turns_240 (lv_at hl 4 rfl) ?_
                          refine q_ci (q_rV11_1 (rest := [.int f_47, .ref a]) E (hml.trans hl.1.symm) hI (c_X12_doubts l X σ_46 a x_35 n ha gσ_46 wσ_46 (by omega) (by rw [cxσ_46]; omega) (by rw [cxσ_46]; omega) (by rw [cxσ_46]; omega)) kv_X12_328 ha ⟨Nat.le_of_ble_eq_true rfl, Nat.le_of_ble_eq_true rfl⟩ (Nat.le_of_ble_eq_true rfl) dX12_turns_242) hI (Nat.le_of_ble_eq_true rfl) (fun r_48 σ_49 H locs hpσ_49 hkσ_49 hI => ?_)
                          have ahpσ_49 := hpσ_49.1
                          have bhpσ_49 := hpσ_49.2.1
                          have chpσ_49 := hpσ_49.2.2.1
                          have dhpσ_49 := hpσ_49.2.2.2.1
                          have ehpσ_49 := hpσ_49.2.2.2.2.1
                          have fhpσ_49 := hpσ_49.2.2.2.2.2
                          clear hpσ_49
                          have fr_σ_49 := fr_σ_46.call fhpσ_49 rfl rfl
                          replace hF := q_biX hF ehpσ_49
                          have gσ_49 : m_G (m_c X σ_49 a) := ahpσ_49
                          have vσ_49 : m_W (m_c X σ_49 a) (n + 1) := bhpσ_49
                          have kqσ_49 : ∀ j, 654 ≤ j → m_c X σ_49 a j = m_c X σ a j := (fun j h => (chpσ_49 j h).trans (kqσ_46 j h))
                          have kdσ_49 : m_KD 40 X σ σ_49 := kdσ_46.tr dhpσ_49
                          refine lv_iload_n hx hb dX12_turns_245 rfl (lv_at hl 1 rfl) ?_
                          have gc_50_r_48 := q_rng r_48
                          have gc_50_f_11 := q_rng f_11
                          refine q_icmp_ne (A := r_48.toInt) (B := f_11.toInt) E rfl rfl (tgt := 253) dX12_turns_246 (by decide) (fun c_50 => ?_) (fun c_50 => ?_)
                          · skip
                            replace hF := q_ifn hF c_50
                            refine lv_iconst (v := 0) hx hb dX12_turns_253 zki_0 ?_
                            refine lv_iadd hx hb dX12_turns_254 ?_
                            refine lv_topi (fun z_51 ez_51 => ?_)
                            replace hF := q_letX hF ez_51
                            refine ps_X12_411_12 E hI ha (by decide) dX12_turns_255 (fun H locs σ_52 hσ_52 hI => ?_)
                            replace hF := q_letX hF hσ_52
                            have fr_σ_52 := fr_σ_49.si hσ_52 ha rfl
                            have mcσ_52 := m_wo hσ_52 (m_ne ha (q_tk (f := 20) (k' := 34) hI ha rfl (by decide)) (by decide))
                            have gσ_52 : m_G (m_c X σ_52 a) := m_G.ext (fun j _ _ => mcσ_52 j) gσ_49
                            have vσ_52 : m_W (m_c X σ_52 a) (n + 1) := m_W.ext (fun j _ _ => mcσ_52 j) vσ_49
                            have kqσ_52 : ∀ j, 654 ≤ j → m_c X σ_52 a j = m_c X σ a j := fun j h => (mcσ_52 j).trans (kqσ_49 j h)
                            have kdσ_52 : m_KD 40 X σ σ_52 := (by first | exact kdσ_49.si hσ_52 ha (by decide) | exact kdσ_49.sl hσ_52 | exact kdσ_49.ar hσ_52 ha (by decide) (by decide))
                            refine lv_iconst (v := 1) hx hb dX12_turns_258 zki_1 ?_
                            have hrv : (1 : Int32).toInt = 1 := zt_1
                            exact q_retz E hr hlk hI ⟨by decide, by decide⟩ ⟨⟨by decide, by decide⟩, gσ_52, (by first | exact vσ_52 | exact m_W.le wσ_52 (by omega)), kqσ_52, kdσ_52, (hF.trans hout), fr_σ_52⟩ dX12_turns_259
                          · skip
                            replace hF := q_ifp hF c_50
                            refine lv_iconst (v := 1) hx hb dX12_turns_249 zki_1 ?_
                            refine lv_goto (tgt := 254) hx hb dX12_turns_250 (by decide) ?_
                            refine lv_iadd hx hb dX12_turns_254 ?_
                            refine lv_topi (fun z_53 ez_53 => ?_)
                            replace hF := q_letX hF ez_53
                            refine ps_X12_411_12 E hI ha (by decide) dX12_turns_255 (fun H locs σ_54 hσ_54 hI => ?_)
                            replace hF := q_letX hF hσ_54
                            have fr_σ_54 := fr_σ_49.si hσ_54 ha rfl
                            have mcσ_54 := m_wo hσ_54 (m_ne ha (q_tk (f := 20) (k' := 34) hI ha rfl (by decide)) (by decide))
                            have gσ_54 : m_G (m_c X σ_54 a) := m_G.ext (fun j _ _ => mcσ_54 j) gσ_49
                            have vσ_54 : m_W (m_c X σ_54 a) (n + 1) := m_W.ext (fun j _ _ => mcσ_54 j) vσ_49
                            have kqσ_54 : ∀ j, 654 ≤ j → m_c X σ_54 a j = m_c X σ a j := fun j h => (mcσ_54 j).trans (kqσ_49 j h)
                            have kdσ_54 : m_KD 40 X σ σ_54 := (by first | exact kdσ_49.si hσ_54 ha (by decide) | exact kdσ_49.sl hσ_54 | exact kdσ_49.ar hσ_54 ha (by decide) (by decide))
                            refine lv_iconst (v := 1) hx hb dX12_turns_258 zki_1 ?_
                            have hrv : (1 : Int32).toInt = 1 := zt_1
                            exact q_retz E hr hlk hI ⟨by decide, by decide⟩ ⟨⟨by decide, by decide⟩, gσ_54, (by first | exact vσ_54 | exact m_W.le wσ_54 (by omega)), kqσ_54, kdσ_54, (hF.trans hout), fr_σ_54⟩ dX12_turns_259
                        · skip
                          replace hF := q_ifp hF c_43
                          refine lv_aload_n hx hb dX12_turns_204 rfl (lv_at hl 0 rfl) ?_
                          refine q_ci (q_rV11_0 (rest := []) E (hml.trans hl.1.symm) hI (c_X12_draw l X σ_36 a ha) kv_X12_402 ha ⟨Nat.le_of_ble_eq_true rfl, Nat.le_of_ble_eq_true rfl⟩ (Nat.le_of_ble_eq_true rfl) dX12_turns_205) hI (Nat.le_of_ble_eq_true rfl) (fun r_55 σ_56 H locs hpσ_56 hkσ_56 hI => ?_)
                          have ahpσ_56 := hpσ_56.1
                          have bhpσ_56 := hpσ_56.2.1
                          have chpσ_56 := hpσ_56.2.2
                          clear hpσ_56
                          have fr_σ_56 := fr_σ_36.call chpσ_56 rfl rfl
                          replace hF := q_biX hF bhpσ_56
                          have mcσ_56 := m_cK hkσ_56 hI.1 ha (by decide)
                          have gσ_56 : m_G (m_c X σ_56 a) := m_G.ext (fun j _ _ => mcσ_56 j) gσ_36
                          have wσ_56 : m_W (m_c X σ_56 a) n := m_W.ext (fun j _ _ => mcσ_56 j) wσ_36
                          have kqσ_56 : ∀ j, 654 ≤ j → m_c X σ_56 a j = m_c X σ a j := fun j h => (mcσ_56 j).trans (kqσ_36 j h)
                          have kdσ_56 : m_KD 40 X σ σ_56 := kdσ_36.draw ahpσ_56 ha
                          have cxσ_56 : m_c X σ_56 a = cD := (funext mcσ_56).trans cxσ_36
                          refine lv_aload_n hx hb dX12_turns_208 rfl (lv_at hl 0 rfl) ?_
                          refine gs_X12_35_12 E hI ha dX12_turns_209 ?_
                          refine lv_bipush (v := 16) hx hb dX12_turns_212 zkb_16 ?_
                          refine lv_iload hx hb dX12_turns_214 (lv_at hl 4 rfl) ?_
                          refine lv_iadd hx hb dX12_turns_216 ?_
                          refine lv_topi (fun z_57 ez_57 => ?_)
                          replace hF := q_letX hF ez_57
                          have iz_57 := q_addI (A := 16) (B := x_35.toInt) ez_57 (by decide) rfl (by first | (clear hn gσ wσ hh if_1 z7σ_2 gσ_2 wσ_2 kdσ_2 hT if_3 c_4 if_5 gc_6_f_5 c_6 if_7 ahpσ_9 bhpσ_9 chpσ_9 dhpσ_9 scr_8 c_10 if_11 hm61 hge61 gσ_13 wσ_13 kdσ_13 gc_15_x_12 c_15 h5T if_16 if_17 bhpσ_19 chpσ_19 ir_18 bhpσ_21 chpσ_21 if_22 gσ_23 wσ_23 bhpσ_25 chpσ_25 dhpσ_25 osr_24 if_26 gσ_27 wσ_27 bhpσ_29 chpσ_29 dhpσ_29 ehpσ_29 fhpσ_29 gσ_29 wσ_29 hD zD if_30 gσ_32 wσ_32 bhpσ_34 chpσ_34 dhpσ_34 hm189 gσ_36 wσ_36 kdσ_36 gc_38_f_11 c_38 ahpσ_42 bhpσ_42 chpσ_42 c_43 ahpσ_56 bhpσ_56 chpσ_56 gσ_56 wσ_56 kdσ_56; omega) | omega) (by first | (clear hn gσ wσ hh if_1 z7σ_2 gσ_2 wσ_2 kdσ_2 if_3 c_4 gc_6_f_5 ahpσ_9 bhpσ_9 chpσ_9 dhpσ_9 scr_8 c_10 hm61 hge61 gσ_13 wσ_13 kdσ_13 gc_15_x_12 c_15 h5T if_16 if_17 bhpσ_19 chpσ_19 ir_18 bhpσ_21 chpσ_21 if_22 gσ_23 wσ_23 bhpσ_25 chpσ_25 dhpσ_25 osr_24 if_26 gσ_27 wσ_27 bhpσ_29 chpσ_29 dhpσ_29 fhpσ_29 gσ_29 wσ_29 if_30 gσ_32 wσ_32 bhpσ_34 chpσ_34 dhpσ_34 hm189 gσ_36 wσ_36 kdσ_36 c_38 ahpσ_42 bhpσ_42 chpσ_42 c_43 ahpσ_56 bhpσ_56 chpσ_56 gσ_56 wσ_56 kdσ_56; omega) | omega)
                          refine q_iald E hI (q_tk (k' := 34) hI ha rfl (Nat.succ_ne_zero _)) ⟨by decide, rfl⟩ (by first | (clear hn gσ wσ hh if_1 z7σ_2 gσ_2 wσ_2 kdσ_2 hT if_3 c_4 if_5 gc_6_f_5 c_6 if_7 ahpσ_9 bhpσ_9 chpσ_9 dhpσ_9 scr_8 c_10 if_11 hm61 hge61 gσ_13 wσ_13 kdσ_13 gc_15_x_12 c_15 h5T if_16 if_17 bhpσ_19 chpσ_19 ir_18 bhpσ_21 chpσ_21 if_22 gσ_23 wσ_23 bhpσ_25 chpσ_25 dhpσ_25 osr_24 if_26 gσ_27 wσ_27 bhpσ_29 chpσ_29 dhpσ_29 ehpσ_29 fhpσ_29 gσ_29 wσ_29 hD zD if_30 gσ_32 wσ_32 bhpσ_34 chpσ_34 dhpσ_34 hm189 gσ_36 wσ_36 kdσ_36 gc_38_f_11 c_38 ahpσ_42 bhpσ_42 chpσ_42 c_43 ahpσ_56 bhpσ_56 chpσ_56 gσ_56 wσ_56 kdσ_56; omega) | omega) (by rw [q_lnk (v := 4650) hI (q_tk (k' := 34) hI ha rfl (Nat.succ_ne_zero _)) rfl (by decide)]; omega) dX12_turns_217 ?_
                          refine lv_topi (fun f_58 ef_58 => ?_)
                          replace hF := q_letX hF ef_58
                          have if_58 : f_58.toInt = cD (16 + x_35.toInt) := (m_rd ef_58 iz_57).trans (congrFun cxσ_56 _)
                          have gc_59_r_55 := q_rng r_55
                          have gc_59_f_58 := q_rng f_58
                          refine q_icmp_lt (A := r_55.toInt) (B := f_58.toInt) E rfl rfl (tgt := 224) dX12_turns_218 (by decide) (fun c_59 => ?_) (fun c_59 => ?_)
                          · skip
                            replace hF := q_ifp hF c_59
                            unfold F_X12_turns_E224_8 at hF
                            refine lv_aload_n hx hb dX12_turns_224 rfl (lv_at hl 0 rfl) ?_
                            refine lv_dup hx hb dX12_turns_225 rfl ?_
                            refine gs_X12_408_12 E hI ha dX12_turns_226 ?_
                            refine lv_topi (fun f_60 ef_60 => ?_)
                            replace hF := q_letX hF ef_60
                            have if_60 : f_60.toInt = (σ_56.1 a 43).toInt := congrArg Int32.toInt ef_60
                            refine lv_iconst (v := 1) hx hb dX12_turns_229 zki_1 ?_
                            refine lv_iadd hx hb dX12_turns_230 ?_
                            refine lv_topi (fun z_61 ez_61 => ?_)
                            replace hF := q_letX hF ez_61
                            refine ps_X12_408_12 E hI ha (by decide) dX12_turns_231 (fun H locs σ_62 hσ_62 hI => ?_)
                            replace hF := q_letX hF hσ_62
                            have fr_σ_62 := fr_σ_56.si hσ_62 ha rfl
                            have mcσ_62 := m_wo hσ_62 (m_ne ha (q_tk (f := 20) (k' := 34) hI ha rfl (by decide)) (by decide))
                            have gσ_62 : m_G (m_c X σ_62 a) := m_G.ext (fun j _ _ => mcσ_62 j) gσ_56
                            have wσ_62 : m_W (m_c X σ_62 a) n := m_W.ext (fun j _ _ => mcσ_62 j) wσ_56
                            have kqσ_62 : ∀ j, 654 ≤ j → m_c X σ_62 a j = m_c X σ a j := fun j h => (mcσ_62 j).trans (kqσ_56 j h)
                            have kdσ_62 : m_KD 40 X σ σ_62 := (by first | exact kdσ_56.si hσ_62 ha (by decide) | exact kdσ_56.sl hσ_62 | exact kdσ_56.ar hσ_62 ha (by decide) (by decide))
                            have cxσ_62 : m_c X σ_62 a = cD := (funext mcσ_62).trans cxσ_56
                            refine lv_aload_n hx hb dX12_turns_234 rfl (lv_at hl 0 rfl) ?_
                            refine lv_dup hx hb dX12_turns_235 rfl ?_
                            refine gs_X12_411_12 E hI ha dX12_turns_236 ?_
                            refine lv_topi (fun f_63 ef_63 => ?_)
                            replace hF := q_letX hF ef_63
                            have if_63 : f_63.toInt = (σ_62.1 a 44).toInt := congrArg Int32.toInt ef_63
                            refine lv_aload_n hx hb dX12_turns_239 rfl (lv_at hl 0 rfl) ?_
                            refine lv_iload hx hb dX12_turns_240 (lv_at hl 4 rfl) ?_
                            refine q_ci (q_rV11_1 (rest := [.int f_63, .ref a]) E (hml.trans hl.1.symm) hI (c_X12_doubts l X σ_62 a x_35 n ha gσ_62 wσ_62 (by omega) (by rw [cxσ_62]; omega) (by rw [cxσ_62]; omega) (by rw [cxσ_62]; omega)) kv_X12_328 ha ⟨Nat.le_of_ble_eq_true rfl, Nat.le_of_ble_eq_true rfl⟩ (Nat.le_of_ble_eq_true rfl) dX12_turns_242) hI (Nat.le_of_ble_eq_true rfl) (fun r_64 σ_65 H locs hpσ_65 hkσ_65 hI => ?_)
                            have ahpσ_65 := hpσ_65.1
                            have bhpσ_65 := hpσ_65.2.1
                            have chpσ_65 := hpσ_65.2.2.1
                            have dhpσ_65 := hpσ_65.2.2.2.1
                            have ehpσ_65 := hpσ_65.2.2.2.2.1
                            have fhpσ_65 := hpσ_65.2.2.2.2.2
                            clear hpσ_65
                            have fr_σ_65 := fr_σ_62.call fhpσ_65 rfl rfl
                            replace hF := q_biX hF ehpσ_65
                            have gσ_65 : m_G (m_c X σ_65 a) := ahpσ_65
                            have vσ_65 : m_W (m_c X σ_65 a) (n + 1) := bhpσ_65
                            have kqσ_65 : ∀ j, 654 ≤ j → m_c X σ_65 a j = m_c X σ a j := (fun j h => (chpσ_65 j h).trans (kqσ_62 j h))
                            have kdσ_65 : m_KD 40 X σ σ_65 := kdσ_62.tr dhpσ_65
                            refine lv_iload_n hx hb dX12_turns_245 rfl (lv_at hl 1 rfl) ?_
                            have gc_66_r_64 := q_rng r_64
                            have gc_66_f_11 := q_rng f_11
                            refine q_icmp_ne (A := r_64.toInt) (B := f_11.toInt) E rfl rfl (tgt := 253) dX12_turns_246 (by decide) (fun c_66 => ?_) (fun c_66 => ?_)
                            · skip
                              replace hF := q_ifn hF c_66
                              refine lv_iconst (v := 0) hx hb dX12_turns_253 zki_0 ?_
                              refine lv_iadd hx hb dX12_turns_254 ?_
                              refine lv_topi (fun z_67 ez_67 => ?_)
                              replace hF := q_letX hF ez_67
                              refine ps_X12_411_12 E hI ha (by decide) dX12_turns_255 (fun H locs σ_68 hσ_68 hI => ?_)
                              replace hF := q_letX hF hσ_68
                              have fr_σ_68 := fr_σ_65.si hσ_68 ha rfl
                              have mcσ_68 := m_wo hσ_68 (m_ne ha (q_tk (f := 20) (k' := 34) hI ha rfl (by decide)) (by decide))
                              have gσ_68 : m_G (m_c X σ_68 a) := m_G.ext (fun j _ _ => mcσ_68 j) gσ_65
                              have vσ_68 : m_W (m_c X σ_68 a) (n + 1) := m_W.ext (fun j _ _ => mcσ_68 j) vσ_65
                              have kqσ_68 : ∀ j, 654 ≤ j → m_c X σ_68 a j = m_c X σ a j := fun j h => (mcσ_68 j).trans (kqσ_65 j h)
                              have kdσ_68 : m_KD 40 X σ σ_68 := (by first | exact kdσ_65.si hσ_68 ha (by decide) | exact kdσ_65.sl hσ_68 | exact kdσ_65.ar hσ_68 ha (by decide) (by decide))
                              refine lv_iconst (v := 1) hx hb dX12_turns_258 zki_1 ?_
                              have hrv : (1 : Int32).toInt = 1 := zt_1
                              exact q_retz E hr hlk hI ⟨by decide, by decide⟩ ⟨⟨by decide, by decide⟩, gσ_68, (by first | exact vσ_68 | exact m_W.le wσ_68 (by omega)), kqσ_68, kdσ_68, (hF.trans hout), fr_σ_68⟩ dX12_turns_259
                            · skip
                              replace hF := q_ifp hF c_66
                              refine lv_iconst (v := 1) hx hb dX12_turns_249 zki_1 ?_
                              refine lv_goto (tgt := 254) hx hb dX12_turns_250 (by decide) ?_
                              refine lv_iadd hx hb dX12_turns_254 ?_
                              refine lv_topi (fun z_69 ez_69 => ?_)
                              replace hF := q_letX hF ez_69
                              refine ps_X12_411_12 E hI ha (by decide) dX12_turns_255 (fun H locs σ_70 hσ_70 hI => ?_)
                              replace hF := q_letX hF hσ_70
                              have fr_σ_70 := fr_σ_65.si hσ_70 ha rfl
                              have mcσ_70 := m_wo hσ_70 (m_ne ha (q_tk (f := 20) (k' := 34) hI ha rfl (by decide)) (by decide))
                              have gσ_70 : m_G (m_c X σ_70 a) := m_G.ext (fun j _ _ => mcσ_70 j) gσ_65
                              have vσ_70 : m_W (m_c X σ_70 a) (n + 1) := m_W.ext (fun j _ _ => mcσ_70 j) vσ_65
                              have kqσ_70 : ∀ j, 654 ≤ j → m_c X σ_70 a j = m_c X σ a j := fun j h => (mcσ_70 j).trans (kqσ_65 j h)
                              have kdσ_70 : m_KD 40 X σ σ_70 := (by first | exact kdσ_65.si hσ_70 ha (by decide) | exact kdσ_65.sl hσ_70 | exact kdσ_65.ar hσ_70 ha (by decide) (by decide))
                              refine lv_iconst (v := 1) hx hb dX12_turns_258 zki_1 ?_
                              have hrv : (1 : Int32).toInt = 1 := zt_1
                              exact q_retz E hr hlk hI ⟨by decide, by decide⟩ ⟨⟨by decide, by decide⟩, gσ_70, (by first | exact vσ_70 | exact m_W.le wσ_70 (by omega)), kqσ_70, kdσ_70, (hF.trans hout), fr_σ_70⟩ dX12_turns_259
                          · skip
                            replace hF := q_ifn hF (Int.not_lt.mpr c_59)
                            refine lv_goto (tgt := 260) hx hb dX12_turns_221 (by decide) ?_
                            refine lv_aload_n hx hb dX12_turns_260 rfl (lv_at hl 0 rfl) ?_
                            refine lv_iload hx hb dX12_turns_261 (lv_at hl 4 rfl) ?_
                            refine q_ci (q_rV11_1 (rest := []) E (hml.trans hl.1.symm) hI (c_X12_behindOf l X σ_56 a x_35 ha (by rw [cxσ_56]; exact gD) (by rw [cxσ_56]; exact (by omega))) kv_X12_319 ha ⟨Nat.le_of_ble_eq_true rfl, Nat.le_of_ble_eq_true rfl⟩ (Nat.le_of_ble_eq_true rfl) dX12_turns_263) hI (Nat.le_of_ble_eq_true rfl) (fun r_71 σ_72 H locs hpσ_72 hkσ_72 hI => ?_)
                            have ahpσ_72 := hpσ_72.1
                            have bhpσ_72 := hpσ_72.2.1
                            have chpσ_72 := hpσ_72.2.2.1
                            have dhpσ_72 := hpσ_72.2.2.2
                            clear hpσ_72
                            replace hI := q_Irw ahpσ_72 hI
                            rw [cxσ_56] at bhpσ_72
                            rw [cxσ_56] at chpσ_72
                            replace hF := q_letX hF dhpσ_72
                            refine lv_istore (lv' := [(4, .int r_71), (0, .ref a), (1, .int f_11), (2, .int r_20), (3, .int r_24)]) hx hb dX12_turns_266 hl (by decide) rfl (fun ls hl => ?_)
                            refine lv_goto (tgt := 189) hx hb dX12_turns_268 (by decide) ?_
                            exact ih189 r_71 σ_56 _ _ ls (by first | (clear hn gσ wσ hh if_1 z7σ_2 gσ_2 wσ_2 kdσ_2 if_3 c_4 gc_6_f_5 ahpσ_9 bhpσ_9 chpσ_9 dhpσ_9 scr_8 c_10 hm61 hge61 gσ_13 wσ_13 kdσ_13 gc_15_x_12 c_15 h5T if_16 if_17 bhpσ_19 chpσ_19 ir_18 bhpσ_21 chpσ_21 if_22 gσ_23 wσ_23 bhpσ_25 chpσ_25 dhpσ_25 osr_24 if_26 gσ_27 wσ_27 bhpσ_29 chpσ_29 dhpσ_29 fhpσ_29 gσ_29 wσ_29 if_30 gσ_32 wσ_32 bhpσ_34 chpσ_34 dhpσ_34 gσ_36 wσ_36 kdσ_36 ahpσ_42 bhpσ_42 chpσ_42 c_43 ahpσ_56 bhpσ_56 chpσ_56 gσ_56 wσ_56 kdσ_56 if_58 gc_59_r_55 gc_59_f_58 c_59 ahpσ_72 dhpσ_72; omega) | omega) (by omega) fr_σ_56 gσ_56 wσ_56 kqσ_56 kdσ_56 cxσ_56 hF hI (lv_sub hl [1, 2, 3, 4, 0] rfl)
                  exact L_189_37 ((f_11.toInt - r_33.toInt + 20 * min 1 (max 0 (r_33.toInt - f_11.toInt))).toNat + 1) r_33 σ_32 _ _ ls (Nat.lt_succ_self _) (by omega) fr_σ_32 gσ_32 wσ_32 kqσ_32 kdσ_32 cxσ_32 hF hI (lv_sub hl [1, 2, 3, 4, 0] rfl)
                have gc_73_r_20 := q_rng r_20
                have gc_73_f_26 := q_rng f_26
                refine q_icmp_ge (A := r_20.toInt) (B := f_26.toInt) E rfl rfl (tgt := 163) dX12_turns_126 (by decide) (fun c_73 => ?_) (fun c_73 => ?_)
                · skip
                  replace hF := q_ifn hF (Int.not_lt.mpr c_73)
                  exact J_163_27 σ_23 _ _ ls (by first | exact lo2σ_23 | exact m_lo.one gT (by first | (clear hn gσ wσ hh if_1 z7σ_2 gσ_2 wσ_2 kdσ_2 if_3 c_4 gc_6_f_5 ahpσ_9 bhpσ_9 chpσ_9 dhpσ_9 scr_8 c_10 hm61 hge61 gσ_13 wσ_13 kdσ_13 gc_15_x_12 c_15 h5T if_16 if_17 bhpσ_19 chpσ_19 ir_18 bhpσ_21 chpσ_21 if_22 gσ_23 wσ_23 bhpσ_25 chpσ_25 dhpσ_25 osr_24 if_26 gc_73_r_20 gc_73_f_26 c_73; omega) | omega) l1σ_23 (by first | (clear hn gσ wσ hh if_1 z7σ_2 gσ_2 wσ_2 kdσ_2 if_3 c_4 if_5 gc_6_f_5 c_6 if_7 ahpσ_9 bhpσ_9 chpσ_9 dhpσ_9 scr_8 c_10 if_11 hm61 hge61 gσ_13 wσ_13 kdσ_13 gc_15_x_12 c_15 h5T if_17 chpσ_19 ir_18 chpσ_21 if_22 gσ_23 wσ_23 bhpσ_25 chpσ_25 dhpσ_25 gc_73_f_26; omega) | omega) (by rw [if_11]; omega)) fr_σ_23 gσ_23 wσ_23 kqσ_23 kdσ_23 ctσ_23 hF hI (lv_sub hl [2, 3, 1, 0] rfl)
                · skip
                  replace hF := q_ifp hF c_73
                  refine lv_iload_n hx hb dX12_turns_129 rfl (lv_at hl 0 rfl) ?_
                  refine q_if_lt (A := r_24.toInt) E rfl (tgt := 163) dX12_turns_130 (by decide) (fun c_74 => ?_) (fun c_74 => ?_)
                  · skip
                    replace hF := q_ifp hF c_74
                    exact J_163_27 σ_23 _ _ ls (by first | exact lo2σ_23 | exact m_lo.one gT (by first | (clear hn gσ wσ hh if_1 z7σ_2 gσ_2 wσ_2 kdσ_2 if_3 c_4 gc_6_f_5 ahpσ_9 bhpσ_9 chpσ_9 dhpσ_9 scr_8 c_10 hm61 hge61 gσ_13 wσ_13 kdσ_13 gc_15_x_12 c_15 h5T if_16 if_17 bhpσ_19 chpσ_19 ir_18 bhpσ_21 chpσ_21 if_22 gσ_23 wσ_23 bhpσ_25 chpσ_25 dhpσ_25 osr_24 if_26 gc_73_r_20 gc_73_f_26 c_73 c_74; omega) | omega) l1σ_23 (by first | (clear hn gσ wσ hh if_1 z7σ_2 gσ_2 wσ_2 kdσ_2 if_3 c_4 if_5 gc_6_f_5 c_6 if_7 ahpσ_9 bhpσ_9 chpσ_9 dhpσ_9 scr_8 c_10 if_11 hm61 hge61 gσ_13 wσ_13 kdσ_13 gc_15_x_12 c_15 if_17 chpσ_19 chpσ_21 if_22 gσ_23 wσ_23 bhpσ_25 dhpσ_25 gc_73_f_26; omega) | omega) (by rw [if_11]; omega)) fr_σ_23 gσ_23 wσ_23 kqσ_23 kdσ_23 ctσ_23 hF hI (lv_sub hl [2, 3, 1, 0] rfl)
                  · skip
                    replace hF := q_ifn hF (Int.not_lt.mpr c_74)
                    refine lv_iload_n hx hb dX12_turns_133 rfl (lv_at hl 1 rfl) ?_
                    refine q_if_eq (A := r_20.toInt) E rfl (tgt := 153) dX12_turns_134 (by decide) (fun c_75 => ?_) (fun c_75 => ?_)
                    · skip
                      replace hF := q_ifp hF c_75
                      have op := otr_24.pos (by omega)
                      refine lv_aload_n hx hb dX12_turns_153 rfl (lv_at hl 2 rfl) ?_
                      refine gs_X12_47_12 E hI ha dX12_turns_154 ?_
                      refine lv_iload_n hx hb dX12_turns_157 rfl (lv_at hl 0 rfl) ?_
                      refine lv_dup2_11 hx hb dX12_turns_158 rfl rfl ?_
                      refine q_iald E hI (q_tk (k' := 39) hI ha rfl (Nat.succ_ne_zero _)) ⟨by decide, rfl⟩ (by omega) (by rw [q_lnk (v := 10) hI (q_tk (k' := 39) hI ha rfl (Nat.succ_ne_zero _)) rfl (by decide)]; omega) dX12_turns_159 ?_
                      refine lv_topi (fun f_76 ef_76 => ?_)
                      replace hF := q_letX hF ef_76
                      have lyf_76 : f_76.toInt = m_of σ_23 (q_rf X a 28) r_24.toInt := by rw [ef_76]; rfl
                      have lzf_76 := l1σ_23 r_24.toInt (by omega) (by first | (clear hn gσ wσ hh if_1 z7σ_2 gσ_2 wσ_2 kdσ_2 if_3 c_4 if_5 gc_6_f_5 c_6 if_7 ahpσ_9 bhpσ_9 chpσ_9 dhpσ_9 scr_8 c_10 if_11 hm61 hge61 gσ_13 wσ_13 kdσ_13 gc_15_x_12 c_15 h5T if_16 if_17 bhpσ_19 chpσ_19 ir_18 bhpσ_21 chpσ_21 if_22 gσ_23 wσ_23 bhpσ_25 dhpσ_25 osr_24 if_26 gc_73_r_20 gc_73_f_26 c_73 c_74 c_75 op lyf_76; omega) | omega)
                      rw [if_neg (by first | (clear hn gσ wσ hh if_1 z7σ_2 gσ_2 wσ_2 kdσ_2 hT if_3 c_4 if_5 gc_6_f_5 c_6 if_7 ahpσ_9 bhpσ_9 chpσ_9 dhpσ_9 scr_8 c_10 if_11 hm61 hge61 gσ_13 wσ_13 kdσ_13 gc_15_x_12 c_15 h5T if_16 bhpσ_19 chpσ_19 ir_18 bhpσ_21 chpσ_21 gσ_23 wσ_23 bhpσ_25 chpσ_25 dhpσ_25 osr_24 if_26 gc_73_r_20 gc_73_f_26 c_73 c_74 c_75 lyf_76 lzf_76; omega) | omega)] at lzf_76
                      refine lv_iconst (v := 1) hx hb dX12_turns_160 zki_1 ?_
                      refine lv_iadd hx hb dX12_turns_161 ?_
                      refine lv_topi (fun z_77 ez_77 => ?_)
                      replace hF := q_letX hF ez_77
                      have iz_77 := q_addI (A := f_76.toInt) (B := 1) ez_77 rfl (by decide) (by first | (clear hn gσ wσ hh if_1 z7σ_2 gσ_2 wσ_2 kdσ_2 hT if_3 c_4 if_5 gc_6_f_5 c_6 if_7 ahpσ_9 bhpσ_9 chpσ_9 dhpσ_9 scr_8 c_10 if_11 hm61 hge61 gσ_13 wσ_13 kdσ_13 gc_15_x_12 c_15 h5T if_16 if_17 bhpσ_19 chpσ_19 ir_18 bhpσ_21 chpσ_21 if_22 gσ_23 wσ_23 bhpσ_25 chpσ_25 dhpσ_25 osr_24 if_26 gc_73_r_20 gc_73_f_26 c_73 c_74 c_75 op; omega) | omega) (by first | (clear hn gσ wσ hh if_1 z7σ_2 gσ_2 wσ_2 kdσ_2 hT if_3 c_4 if_5 gc_6_f_5 c_6 if_7 ahpσ_9 bhpσ_9 chpσ_9 dhpσ_9 scr_8 c_10 if_11 hm61 hge61 gσ_13 wσ_13 kdσ_13 gc_15_x_12 c_15 h5T if_16 if_17 bhpσ_19 chpσ_19 ir_18 bhpσ_21 chpσ_21 if_22 gσ_23 wσ_23 bhpσ_25 chpσ_25 dhpσ_25 osr_24 if_26 gc_73_r_20 gc_73_f_26 c_73 c_74 c_75 op; omega) | omega)
                      refine q_iastN E hI (q_tk (k' := 39) hI ha rfl (Nat.succ_ne_zero _)) ⟨by decide, rfl⟩ (by omega) (by rw [q_lnk (v := 10) hI (q_tk (k' := 39) hI ha rfl (Nat.succ_ne_zero _)) rfl (by decide)]; omega) (show 1 < 9 by decide) (q_inU rfl) dX12_turns_162 (fun H locs σ_78 hσ_78 hI => ?_)
                      replace hF := q_letX hF hσ_78
                      have fr_σ_78 := fr_σ_23.si hσ_78 (q_tk (k' := 39) hI ha rfl (Nat.succ_ne_zero _)) rfl
                      have mcσ_78 := m_wo hσ_78 (m_ne (q_tk (k' := 39) hI ha rfl (Nat.succ_ne_zero _)) (q_tk (f := 20) (k' := 34) hI ha rfl (by decide)) (by decide))
                      have gσ_78 : m_G (m_c X σ_78 a) := m_G.ext (fun j _ _ => mcσ_78 j) gσ_23
                      have wσ_78 : m_W (m_c X σ_78 a) n := m_W.ext (fun j _ _ => mcσ_78 j) wσ_23
                      have kqσ_78 : ∀ j, 654 ≤ j → m_c X σ_78 a j = m_c X σ a j := fun j h => (mcσ_78 j).trans (kqσ_23 j h)
                      have kdσ_78 : m_KD 40 X σ σ_78 := (by first | exact kdσ_23.si hσ_78 ha (by decide) | exact kdσ_23.sl hσ_78 | exact kdσ_23.ar hσ_78 (q_tk (k' := 39) hI ha rfl (Nat.succ_ne_zero _)) (by decide) (by decide))
                      have ctσ_78 : m_c X σ_78 a = cT := (funext mcσ_78).trans ctσ_23
                      have lo2σ_78 : m_lo cT (m_of σ_78 (q_rf X a 28)) f_11.toInt := m_lo.two gT (by first | (clear hn gσ wσ hh if_1 z7σ_2 gσ_2 wσ_2 kdσ_2 if_3 c_4 gc_6_f_5 ahpσ_9 bhpσ_9 chpσ_9 dhpσ_9 scr_8 c_10 hm61 hge61 gσ_13 wσ_13 kdσ_13 gc_15_x_12 c_15 h5T if_16 if_17 bhpσ_19 chpσ_19 ir_18 bhpσ_21 chpσ_21 if_22 gσ_23 wσ_23 bhpσ_25 chpσ_25 dhpσ_25 osr_24 if_26 gc_73_r_20 gc_73_f_26 c_73 c_74 c_75 op lyf_76 lzf_76 iz_77 gσ_78 wσ_78 kdσ_78; omega) | omega) l1σ_23 (m_ofw hσ_78 (rfl : r_24.toInt = _) (by omega)) (by first | (clear hn gσ wσ hh if_1 z7σ_2 gσ_2 wσ_2 kdσ_2 hT if_3 c_4 if_5 gc_6_f_5 c_6 if_7 ahpσ_9 bhpσ_9 chpσ_9 dhpσ_9 scr_8 c_10 if_11 hm61 hge61 gσ_13 wσ_13 kdσ_13 gc_15_x_12 c_15 h5T if_16 if_17 bhpσ_19 chpσ_19 ir_18 bhpσ_21 chpσ_21 if_22 gσ_23 wσ_23 bhpσ_25 chpσ_25 dhpσ_25 osr_24 if_26 gc_73_r_20 gc_73_f_26 c_73 c_74 c_75 op gσ_78 wσ_78 kdσ_78; omega) | omega) (by first | (clear hn gσ wσ hh if_1 z7σ_2 gσ_2 wσ_2 kdσ_2 hT if_3 c_4 if_5 gc_6_f_5 c_6 if_7 ahpσ_9 bhpσ_9 chpσ_9 dhpσ_9 scr_8 c_10 if_11 hm61 hge61 gσ_13 wσ_13 kdσ_13 gc_15_x_12 c_15 h5T if_16 if_17 bhpσ_19 chpσ_19 ir_18 chpσ_21 if_22 gσ_23 wσ_23 bhpσ_25 chpσ_25 dhpσ_25 osr_24 if_26 gc_73_r_20 gc_73_f_26 c_73 c_74 op lyf_76 lzf_76 iz_77 gσ_78 wσ_78 kdσ_78; omega) | omega) (by rw [if_11]; omega) (by first | (clear hn gσ wσ hh if_1 z7σ_2 gσ_2 wσ_2 kdσ_2 if_3 c_4 if_5 gc_6_f_5 c_6 if_7 ahpσ_9 bhpσ_9 chpσ_9 dhpσ_9 scr_8 c_10 if_11 hm61 hge61 gσ_13 wσ_13 kdσ_13 gc_15_x_12 c_15 h5T if_16 if_17 bhpσ_19 chpσ_19 ir_18 bhpσ_21 chpσ_21 if_22 gσ_23 wσ_23 bhpσ_25 dhpσ_25 osr_24 if_26 gc_73_r_20 gc_73_f_26 c_73 c_75 op lyf_76 lzf_76 iz_77 gσ_78 wσ_78 kdσ_78; omega) | omega) (by first | (clear hn gσ wσ hh if_1 z7σ_2 gσ_2 wσ_2 kdσ_2 hT if_3 c_4 if_5 gc_6_f_5 c_6 if_7 ahpσ_9 bhpσ_9 chpσ_9 dhpσ_9 scr_8 c_10 if_11 hm61 hge61 gσ_13 wσ_13 kdσ_13 gc_15_x_12 c_15 h5T if_16 bhpσ_19 chpσ_19 ir_18 bhpσ_21 chpσ_21 gσ_23 wσ_23 bhpσ_25 chpσ_25 dhpσ_25 osr_24 if_26 gc_73_r_20 gc_73_f_26 c_73 c_74 c_75 lyf_76 lzf_76 iz_77 gσ_78 wσ_78 kdσ_78; omega) | omega) (by rw [if_11]; omega)
                      exact J_163_27 σ_78 _ _ ls (by first | exact lo2σ_78 | exact m_lo.one gT (by omega) l1σ_78 (by omega) (by rw [if_11]; omega)) fr_σ_78 gσ_78 wσ_78 kqσ_78 kdσ_78 ctσ_78 hF hI (lv_sub hl [2, 3, 1, 0] rfl)
                    · skip
                      replace hF := q_ifn hF c_75
                      refine lv_aload_n hx hb dX12_turns_137 rfl (lv_at hl 2 rfl) ?_
                      refine q_ci (q_rV11_0 (rest := []) E (hml.trans hl.1.symm) hI (c_X12_draw l X σ_23 a ha) kv_X12_402 ha ⟨Nat.le_of_ble_eq_true rfl, Nat.le_of_ble_eq_true rfl⟩ (Nat.le_of_ble_eq_true rfl) dX12_turns_138) hI (Nat.le_of_ble_eq_true rfl) (fun r_79 σ_80 H locs hpσ_80 hkσ_80 hI => ?_)
                      have ahpσ_80 := hpσ_80.1
                      have bhpσ_80 := hpσ_80.2.1
                      have chpσ_80 := hpσ_80.2.2
                      clear hpσ_80
                      have fr_σ_80 := fr_σ_23.call chpσ_80 rfl rfl
                      replace hF := q_biX hF bhpσ_80
                      have mcσ_80 := m_cK hkσ_80 hI.1 ha (by decide)
                      have gσ_80 : m_G (m_c X σ_80 a) := m_G.ext (fun j _ _ => mcσ_80 j) gσ_23
                      have wσ_80 : m_W (m_c X σ_80 a) n := m_W.ext (fun j _ _ => mcσ_80 j) wσ_23
                      have kqσ_80 : ∀ j, 654 ≤ j → m_c X σ_80 a j = m_c X σ a j := fun j h => (mcσ_80 j).trans (kqσ_23 j h)
                      have kdσ_80 : m_KD 40 X σ σ_80 := kdσ_23.draw ahpσ_80 ha
                      have ctσ_80 : m_c X σ_80 a = cT := (funext mcσ_80).trans ctσ_23
                      have l1σ_80 : m_l1 (m_of σ_80 (q_rf X a 28)) (cT 5) r_20.toInt := m_l1.ext l1σ_23 (fun j => congrArg Int32.toInt (ahpσ_80 (q_rf X a 28) j.toNat (q_cl9 _ _) (fun h => absurd h.1 (m_ne (q_tk (k' := 39) hI ha rfl (Nat.succ_ne_zero _)) ha (by decide)))))
                      refine lv_aload_n hx hb dX12_turns_141 rfl (lv_at hl 2 rfl) ?_
                      refine gs_X12_35_12 E hI ha dX12_turns_142 ?_
                      refine lv_bipush (v := 10) hx hb dX12_turns_145 zkb_10 ?_
                      refine lv_iload_n hx hb dX12_turns_147 rfl (lv_at hl 3 rfl) ?_
                      refine lv_iadd hx hb dX12_turns_148 ?_
                      refine lv_topi (fun z_81 ez_81 => ?_)
                      replace hF := q_letX hF ez_81
                      have iz_81 := q_addI (A := 10) (B := (cT 6)) ez_81 (by decide) if_11 (by first | (clear hn gσ wσ hh if_1 z7σ_2 gσ_2 wσ_2 kdσ_2 if_3 c_4 if_5 gc_6_f_5 c_6 ahpσ_9 bhpσ_9 chpσ_9 dhpσ_9 scr_8 c_10 hm61 hge61 gσ_13 wσ_13 kdσ_13 gc_15_x_12 c_15 h5T if_16 if_17 bhpσ_19 chpσ_19 ir_18 bhpσ_21 chpσ_21 if_22 gσ_23 wσ_23 bhpσ_25 chpσ_25 dhpσ_25 osr_24 if_26 gc_73_r_20 gc_73_f_26 c_73 c_74 c_75 ahpσ_80 bhpσ_80 chpσ_80 gσ_80 wσ_80 kdσ_80; omega) | omega) (by first | (clear hn gσ wσ hh if_1 z7σ_2 gσ_2 wσ_2 kdσ_2 if_3 c_4 gc_6_f_5 ahpσ_9 bhpσ_9 chpσ_9 dhpσ_9 scr_8 c_10 hm61 hge61 gσ_13 wσ_13 kdσ_13 gc_15_x_12 c_15 h5T if_16 if_17 bhpσ_19 chpσ_19 ir_18 bhpσ_21 chpσ_21 if_22 gσ_23 wσ_23 bhpσ_25 chpσ_25 dhpσ_25 osr_24 if_26 gc_73_r_20 gc_73_f_26 c_73 c_74 c_75 ahpσ_80 bhpσ_80 chpσ_80 gσ_80 wσ_80 kdσ_80; omega) | omega)
                      refine q_iald E hI (q_tk (k' := 34) hI ha rfl (Nat.succ_ne_zero _)) ⟨by decide, rfl⟩ (by first | (clear hn gσ wσ hh if_1 z7σ_2 gσ_2 wσ_2 kdσ_2 if_3 c_4 if_5 gc_6_f_5 c_6 ahpσ_9 bhpσ_9 chpσ_9 dhpσ_9 scr_8 c_10 hm61 hge61 gσ_13 wσ_13 kdσ_13 gc_15_x_12 c_15 h5T if_16 if_17 bhpσ_19 chpσ_19 ir_18 bhpσ_21 chpσ_21 if_22 gσ_23 wσ_23 bhpσ_25 chpσ_25 dhpσ_25 osr_24 if_26 gc_73_r_20 gc_73_f_26 c_73 c_74 c_75 ahpσ_80 bhpσ_80 chpσ_80 gσ_80 wσ_80 kdσ_80; omega) | omega) (by rw [q_lnk (v := 4650) hI (q_tk (k' := 34) hI ha rfl (Nat.succ_ne_zero _)) rfl (by decide)]; omega) dX12_turns_149 ?_
                      refine lv_topi (fun f_82 ef_82 => ?_)
                      replace hF := q_letX hF ef_82
                      have if_82 : f_82.toInt = cT (10 + (cT 6)) := (m_rd ef_82 iz_81).trans (congrFun ctσ_80 _)
                      have gc_83_r_79 := q_rng r_79
                      have gc_83_f_82 := q_rng f_82
                      refine q_icmp_ge (A := r_79.toInt) (B := f_82.toInt) E rfl rfl (tgt := 163) dX12_turns_150 (by decide) (fun c_83 => ?_) (fun c_83 => ?_)
                      · skip
                        replace hF := q_ifn hF (Int.not_lt.mpr c_83)
                        exact J_163_27 σ_80 _ _ ls (by first | exact lo2σ_80 | exact m_lo.one gT (by first | (clear hn gσ wσ hh if_1 z7σ_2 gσ_2 wσ_2 kdσ_2 if_3 c_4 gc_6_f_5 ahpσ_9 bhpσ_9 chpσ_9 dhpσ_9 scr_8 c_10 hm61 hge61 gσ_13 wσ_13 kdσ_13 gc_15_x_12 c_15 h5T if_16 if_17 bhpσ_19 chpσ_19 ir_18 bhpσ_21 chpσ_21 if_22 gσ_23 wσ_23 bhpσ_25 chpσ_25 dhpσ_25 osr_24 if_26 gc_73_r_20 gc_73_f_26 c_73 c_74 c_75 ahpσ_80 bhpσ_80 chpσ_80 gσ_80 wσ_80 kdσ_80 if_82 gc_83_r_79 gc_83_f_82 c_83; omega) | omega) l1σ_80 (by first | (clear hn gσ wσ hh if_1 z7σ_2 gσ_2 wσ_2 kdσ_2 if_3 c_4 if_5 gc_6_f_5 c_6 if_7 ahpσ_9 bhpσ_9 chpσ_9 dhpσ_9 scr_8 c_10 if_11 hm61 hge61 gσ_13 wσ_13 kdσ_13 gc_15_x_12 c_15 if_17 chpσ_19 chpσ_21 if_22 gσ_23 wσ_23 bhpσ_25 chpσ_25 dhpσ_25 gc_73_f_26 c_74 ahpσ_80 bhpσ_80 chpσ_80 gσ_80 wσ_80 kdσ_80 iz_81 if_82 gc_83_r_79 gc_83_f_82 c_83; omega) | omega) (by rw [if_11]; omega)) fr_σ_80 gσ_80 wσ_80 kqσ_80 kdσ_80 ctσ_80 hF hI (lv_sub hl [2, 3, 1, 0] rfl)
                      · skip
                        replace hF := q_ifp hF c_83
                        have op := otr_24.pos (by omega)
                        refine lv_aload_n hx hb dX12_turns_153 rfl (lv_at hl 2 rfl) ?_
                        refine gs_X12_47_12 E hI ha dX12_turns_154 ?_
                        refine lv_iload_n hx hb dX12_turns_157 rfl (lv_at hl 0 rfl) ?_
                        refine lv_dup2_11 hx hb dX12_turns_158 rfl rfl ?_
                        refine q_iald E hI (q_tk (k' := 39) hI ha rfl (Nat.succ_ne_zero _)) ⟨by decide, rfl⟩ (by omega) (by rw [q_lnk (v := 10) hI (q_tk (k' := 39) hI ha rfl (Nat.succ_ne_zero _)) rfl (by decide)]; omega) dX12_turns_159 ?_
                        refine lv_topi (fun f_84 ef_84 => ?_)
                        replace hF := q_letX hF ef_84
                        have lyf_84 : f_84.toInt = m_of σ_80 (q_rf X a 28) r_24.toInt := by rw [ef_84]; rfl
                        have lzf_84 := l1σ_80 r_24.toInt (by omega) (by first | (clear hn gσ wσ hh if_1 z7σ_2 gσ_2 wσ_2 kdσ_2 if_3 c_4 if_5 gc_6_f_5 c_6 if_7 ahpσ_9 bhpσ_9 chpσ_9 dhpσ_9 scr_8 c_10 if_11 hm61 hge61 gσ_13 wσ_13 kdσ_13 gc_15_x_12 c_15 h5T if_16 if_17 bhpσ_19 chpσ_19 ir_18 bhpσ_21 chpσ_21 if_22 gσ_23 wσ_23 bhpσ_25 dhpσ_25 osr_24 if_26 gc_73_r_20 gc_73_f_26 c_73 c_74 c_75 ahpσ_80 bhpσ_80 chpσ_80 gσ_80 wσ_80 kdσ_80 iz_81 if_82 gc_83_r_79 gc_83_f_82 c_83 op lyf_84; omega) | omega)
                        rw [if_neg (by first | (clear hn gσ wσ hh if_1 z7σ_2 gσ_2 wσ_2 kdσ_2 hT if_3 c_4 if_5 gc_6_f_5 c_6 if_7 ahpσ_9 bhpσ_9 chpσ_9 dhpσ_9 scr_8 c_10 if_11 hm61 hge61 gσ_13 wσ_13 kdσ_13 gc_15_x_12 c_15 h5T if_16 bhpσ_19 chpσ_19 ir_18 bhpσ_21 chpσ_21 gσ_23 wσ_23 bhpσ_25 chpσ_25 dhpσ_25 osr_24 if_26 gc_73_r_20 gc_73_f_26 c_73 c_74 c_75 ahpσ_80 bhpσ_80 chpσ_80 gσ_80 wσ_80 kdσ_80 iz_81 if_82 gc_83_r_79 gc_83_f_82 c_83 lyf_84 lzf_84; omega) | omega)] at lzf_84
                        refine lv_iconst (v := 1) hx hb dX12_turns_160 zki_1 ?_
                        refine lv_iadd hx hb dX12_turns_161 ?_
                        refine lv_topi (fun z_85 ez_85 => ?_)
                        replace hF := q_letX hF ez_85
                        have iz_85 := q_addI (A := f_84.toInt) (B := 1) ez_85 rfl (by decide) (by first | (clear hn gσ wσ hh if_1 z7σ_2 gσ_2 wσ_2 kdσ_2 hT if_3 c_4 if_5 gc_6_f_5 c_6 if_7 ahpσ_9 bhpσ_9 chpσ_9 dhpσ_9 scr_8 c_10 if_11 hm61 hge61 gσ_13 wσ_13 kdσ_13 gc_15_x_12 c_15 h5T if_16 if_17 bhpσ_19 chpσ_19 ir_18 bhpσ_21 chpσ_21 if_22 gσ_23 wσ_23 bhpσ_25 chpσ_25 dhpσ_25 osr_24 if_26 gc_73_r_20 gc_73_f_26 c_73 c_74 c_75 ahpσ_80 bhpσ_80 chpσ_80 gσ_80 wσ_80 kdσ_80 iz_81 if_82 gc_83_r_79 gc_83_f_82 c_83 op; omega) | omega) (by first | (clear hn gσ wσ hh if_1 z7σ_2 gσ_2 wσ_2 kdσ_2 hT if_3 c_4 if_5 gc_6_f_5 c_6 if_7 ahpσ_9 bhpσ_9 chpσ_9 dhpσ_9 scr_8 c_10 if_11 hm61 hge61 gσ_13 wσ_13 kdσ_13 gc_15_x_12 c_15 h5T if_16 if_17 bhpσ_19 chpσ_19 ir_18 bhpσ_21 chpσ_21 if_22 gσ_23 wσ_23 bhpσ_25 chpσ_25 dhpσ_25 osr_24 if_26 gc_73_r_20 gc_73_f_26 c_73 c_74 c_75 ahpσ_80 bhpσ_80 chpσ_80 gσ_80 wσ_80 kdσ_80 iz_81 if_82 gc_83_r_79 gc_83_f_82 c_83 op; omega) | omega)
                        refine q_iastN E hI (q_tk (k' := 39) hI ha rfl (Nat.succ_ne_zero _)) ⟨by decide, rfl⟩ (by omega) (by rw [q_lnk (v := 10) hI (q_tk (k' := 39) hI ha rfl (Nat.succ_ne_zero _)) rfl (by decide)]; omega) (show 1 < 9 by decide) (q_inU rfl) dX12_turns_162 (fun H locs σ_86 hσ_86 hI => ?_)
                        replace hF := q_letX hF hσ_86
                        have fr_σ_86 := fr_σ_80.si hσ_86 (q_tk (k' := 39) hI ha rfl (Nat.succ_ne_zero _)) rfl
                        have mcσ_86 := m_wo hσ_86 (m_ne (q_tk (k' := 39) hI ha rfl (Nat.succ_ne_zero _)) (q_tk (f := 20) (k' := 34) hI ha rfl (by decide)) (by decide))
                        have gσ_86 : m_G (m_c X σ_86 a) := m_G.ext (fun j _ _ => mcσ_86 j) gσ_80
                        have wσ_86 : m_W (m_c X σ_86 a) n := m_W.ext (fun j _ _ => mcσ_86 j) wσ_80
                        have kqσ_86 : ∀ j, 654 ≤ j → m_c X σ_86 a j = m_c X σ a j := fun j h => (mcσ_86 j).trans (kqσ_80 j h)
                        have kdσ_86 : m_KD 40 X σ σ_86 := (by first | exact kdσ_80.si hσ_86 ha (by decide) | exact kdσ_80.sl hσ_86 | exact kdσ_80.ar hσ_86 (q_tk (k' := 39) hI ha rfl (Nat.succ_ne_zero _)) (by decide) (by decide))
                        have ctσ_86 : m_c X σ_86 a = cT := (funext mcσ_86).trans ctσ_80
                        have lo2σ_86 : m_lo cT (m_of σ_86 (q_rf X a 28)) f_11.toInt := m_lo.two gT (by first | (clear hn gσ wσ hh if_1 z7σ_2 gσ_2 wσ_2 kdσ_2 if_3 c_4 gc_6_f_5 ahpσ_9 bhpσ_9 chpσ_9 dhpσ_9 scr_8 c_10 hm61 hge61 gσ_13 wσ_13 kdσ_13 gc_15_x_12 c_15 h5T if_16 if_17 bhpσ_19 chpσ_19 ir_18 bhpσ_21 chpσ_21 if_22 gσ_23 wσ_23 bhpσ_25 chpσ_25 dhpσ_25 osr_24 if_26 gc_73_r_20 gc_73_f_26 c_73 c_74 c_75 ahpσ_80 bhpσ_80 chpσ_80 gσ_80 wσ_80 kdσ_80 if_82 gc_83_r_79 gc_83_f_82 c_83 op lyf_84 lzf_84 iz_85 gσ_86 wσ_86 kdσ_86; omega) | omega) l1σ_80 (m_ofw hσ_86 (rfl : r_24.toInt = _) (by omega)) (by first | (clear hn gσ wσ hh if_1 z7σ_2 gσ_2 wσ_2 kdσ_2 hT if_3 c_4 if_5 gc_6_f_5 c_6 if_7 ahpσ_9 bhpσ_9 chpσ_9 dhpσ_9 scr_8 c_10 if_11 hm61 hge61 gσ_13 wσ_13 kdσ_13 gc_15_x_12 c_15 h5T if_16 if_17 bhpσ_19 chpσ_19 ir_18 bhpσ_21 chpσ_21 if_22 gσ_23 wσ_23 bhpσ_25 chpσ_25 dhpσ_25 osr_24 if_26 gc_73_r_20 gc_73_f_26 c_73 c_74 c_75 ahpσ_80 bhpσ_80 chpσ_80 gσ_80 wσ_80 kdσ_80 iz_81 if_82 gc_83_r_79 gc_83_f_82 c_83 op gσ_86 wσ_86 kdσ_86; omega) | omega) (by first | (clear hn gσ wσ hh if_1 z7σ_2 gσ_2 wσ_2 kdσ_2 if_3 c_4 if_5 gc_6_f_5 c_6 if_7 ahpσ_9 bhpσ_9 chpσ_9 dhpσ_9 scr_8 c_10 if_11 hm61 hge61 gσ_13 wσ_13 kdσ_13 gc_15_x_12 c_15 if_17 chpσ_19 chpσ_21 if_22 gσ_23 wσ_23 bhpσ_25 chpσ_25 dhpσ_25 gc_73_f_26 c_74 ahpσ_80 bhpσ_80 chpσ_80 gσ_80 wσ_80 kdσ_80 iz_81 if_82 gc_83_r_79 gc_83_f_82 c_83 lyf_84 lzf_84 iz_85 gσ_86 wσ_86 kdσ_86; omega) | omega) (by rw [if_11]; omega) (by first | (clear hn gσ wσ hh if_1 z7σ_2 gσ_2 wσ_2 kdσ_2 if_3 c_4 if_5 gc_6_f_5 c_6 if_7 ahpσ_9 bhpσ_9 chpσ_9 dhpσ_9 scr_8 c_10 if_11 hm61 hge61 gσ_13 wσ_13 kdσ_13 gc_15_x_12 c_15 h5T if_16 if_17 bhpσ_19 chpσ_19 ir_18 bhpσ_21 chpσ_21 if_22 gσ_23 wσ_23 bhpσ_25 dhpσ_25 osr_24 if_26 gc_73_r_20 gc_73_f_26 c_73 c_75 ahpσ_80 bhpσ_80 chpσ_80 gσ_80 wσ_80 kdσ_80 iz_81 if_82 gc_83_r_79 gc_83_f_82 c_83 op lyf_84 lzf_84 iz_85 gσ_86 wσ_86 kdσ_86; omega) | omega) (by first | (clear hn gσ wσ hh if_1 z7σ_2 gσ_2 wσ_2 kdσ_2 hT if_3 c_4 if_5 gc_6_f_5 c_6 if_7 ahpσ_9 bhpσ_9 chpσ_9 dhpσ_9 scr_8 c_10 if_11 hm61 hge61 gσ_13 wσ_13 kdσ_13 gc_15_x_12 c_15 h5T if_16 bhpσ_19 chpσ_19 ir_18 bhpσ_21 chpσ_21 gσ_23 wσ_23 bhpσ_25 chpσ_25 dhpσ_25 osr_24 if_26 gc_73_r_20 gc_73_f_26 c_73 c_74 c_75 ahpσ_80 bhpσ_80 chpσ_80 gσ_80 wσ_80 kdσ_80 iz_81 if_82 gc_83_r_79 gc_83_f_82 c_83 lyf_84 lzf_84 iz_85 gσ_86 wσ_86 kdσ_86; omega) | omega) (by rw [if_11]; omega)
                        exact J_163_27 σ_86 _ _ ls (by first | exact lo2σ_86 | exact m_lo.one gT (by omega) l1σ_86 (by omega) (by rw [if_11]; omega)) fr_σ_86 gσ_86 wσ_86 kqσ_86 kdσ_86 ctσ_86 hF hI (lv_sub hl [2, 3, 1, 0] rfl)
              · skip
                replace hF := q_ifp hF c_15
                refine lv_aload_n hx hb dX12_turns_67 rfl (lv_at hl 0 rfl) ?_
                refine gs_X12_47_12 E hI ha dX12_turns_68 ?_
                refine lv_iload_n hx hb dX12_turns_71 rfl (lv_at hl 2 rfl) ?_
                refine lv_iconst (v := 0) hx hb dX12_turns_72 zki_0 ?_
                have kc_88 : (0 : Int32).toInt = 0 := zt_0
                refine q_iastN E hI (q_tk (k' := 39) hI ha rfl (Nat.succ_ne_zero _)) ⟨by decide, rfl⟩ (by first | (clear hn gσ wσ hh if_1 z7σ_2 gσ_2 wσ_2 kdσ_2 hT if_3 c_4 if_5 gc_6_f_5 c_6 if_7 ahpσ_9 bhpσ_9 chpσ_9 dhpσ_9 scr_8 c_10 if_11 hm61 gσ_13 wσ_13 kdσ_13 gc_15_x_12 kc_88; omega) | omega) (by rw [q_lnk (v := 10) hI (q_tk (k' := 39) hI ha rfl (Nat.succ_ne_zero _)) rfl (by decide)]; omega) (show 1 < 9 by decide) (q_inU rfl) dX12_turns_73 (fun H locs σ_87 hσ_87 hI => ?_)
                replace hF := q_letX hF hσ_87
                have fr_σ_87 := fr_σ_13.si hσ_87 (q_tk (k' := 39) hI ha rfl (Nat.succ_ne_zero _)) rfl
                have mcσ_87 := m_wo hσ_87 (m_ne (q_tk (k' := 39) hI ha rfl (Nat.succ_ne_zero _)) (q_tk (f := 20) (k' := 34) hI ha rfl (by decide)) (by decide))
                have gσ_87 : m_G (m_c X σ_87 a) := m_G.ext (fun j _ _ => mcσ_87 j) gσ_13
                have wσ_87 : m_W (m_c X σ_87 a) n := m_W.ext (fun j _ _ => mcσ_87 j) wσ_13
                have kqσ_87 : ∀ j, 654 ≤ j → m_c X σ_87 a j = m_c X σ a j := fun j h => (mcσ_87 j).trans (kqσ_13 j h)
                have kdσ_87 : m_KD 40 X σ σ_87 := (by first | exact kdσ_13.si hσ_87 ha (by decide) | exact kdσ_13.sl hσ_87 | exact kdσ_13.ar hσ_87 (q_tk (k' := 39) hI ha rfl (Nat.succ_ne_zero _)) (by decide) (by decide))
                have ctσ_87 : m_c X σ_87 a = cT := (funext mcσ_87).trans ctσ_13
                have moσ_87 := m_ofw hσ_87 (rfl : x_12.toInt = _) (by first | (clear hn gσ wσ hh if_1 z7σ_2 gσ_2 wσ_2 kdσ_2 hT if_3 c_4 if_5 gc_6_f_5 c_6 if_7 ahpσ_9 bhpσ_9 chpσ_9 dhpσ_9 scr_8 c_10 if_11 hm61 gσ_13 wσ_13 kdσ_13 gc_15_x_12 kc_88 gσ_87 wσ_87 kdσ_87; omega) | omega)
                have zlσ_87x := zlσ_13
                obtain ⟨z_89, ez_89⟩ : ∃ y : Int32, y = x_12 + 1 := ⟨_, rfl⟩
                replace hF := q_letX hF ez_89
                refine lv_iinc (v := z_89) (lv' := [(2, .int z_89), (0, .ref a), (1, .int f_11)]) hx hb dX12_turns_74 hl (k := 2) rfl (by rw [ez_89]; rfl) (by decide) rfl (fun ls hl => ?_)
                have iz_89 : z_89.toInt = x_12.toInt + 1 := q_inc ez_89 (by first | (clear hn gσ wσ hh if_1 z7σ_2 gσ_2 wσ_2 kdσ_2 hT if_3 c_4 if_5 gc_6_f_5 c_6 if_7 ahpσ_9 bhpσ_9 chpσ_9 dhpσ_9 scr_8 c_10 if_11 hm61 gσ_13 wσ_13 kdσ_13 gc_15_x_12 kc_88 gσ_87 wσ_87 kdσ_87; omega) | omega)
                refine lv_goto (tgt := 61) hx hb dX12_turns_77 (by decide) ?_
                exact ih61 z_89 σ_87 _ _ ls (by first | (clear hn gσ wσ hh if_1 z7σ_2 gσ_2 wσ_2 kdσ_2 hT if_3 c_4 if_5 gc_6_f_5 c_6 if_7 ahpσ_9 bhpσ_9 chpσ_9 dhpσ_9 scr_8 c_10 if_11 gσ_13 wσ_13 kdσ_13 gc_15_x_12 kc_88 gσ_87 wσ_87 kdσ_87; omega) | omega) (by first | (clear hn gσ wσ hh if_1 z7σ_2 gσ_2 wσ_2 kdσ_2 hT if_3 c_4 if_5 gc_6_f_5 c_6 if_7 ahpσ_9 bhpσ_9 chpσ_9 dhpσ_9 scr_8 c_10 if_11 hm61 gσ_13 wσ_13 kdσ_13 gc_15_x_12 kc_88 gσ_87 wσ_87 kdσ_87; omega) | omega) (fun k h0 h1 => by rw [moσ_87 k h0]; split; rfl; exact zlσ_87x k h0 (by first | (clear hn gσ wσ hh if_1 z7σ_2 gσ_2 wσ_2 kdσ_2 hT if_3 c_4 if_5 gc_6_f_5 c_6 if_7 ahpσ_9 bhpσ_9 chpσ_9 dhpσ_9 scr_8 c_10 if_11 hm61 hge61 gσ_13 wσ_13 kdσ_13 gc_15_x_12 c_15 kc_88 gσ_87 wσ_87 kdσ_87; omega) | omega)) fr_σ_87 gσ_87 wσ_87 kqσ_87 kdσ_87 ctσ_87 hF hI (lv_sub hl [1, 2, 0] rfl)
          have kc_90 : (0 : Int32).toInt = 0 := zt_0
          exact L_61_14 ((2147483647 - (0 : Int32).toInt).toNat + 1) 0 σ_2 _ _ ls (Nat.lt_succ_self _) (by decide) (fun k h0 h1 => by have q : (0 : Int32).toInt = 0 := rfl; omega) fr_σ_2 gσ_2 wσ_2 kqσ_2 kdσ_2 ctσ_2 hF hI (lv_sub hl [2, 1, 0] rfl)
        · skip
          replace hF := q_ifp hF c_10
          refine lv_iconst (v := 0) hx hb dX12_turns_49 zki_0 ?_
          have hrv : (0 : Int32).toInt = 0 := zt_0
          exact q_retz E hr hlk hI ⟨by decide, by decide⟩ ⟨⟨by decide, by decide⟩, gσ_2, (by first | exact vσ_2 | exact m_W.le wσ_2 (by first | (clear hn gσ wσ hh if_1 z7σ_2 gσ_2 wσ_2 kdσ_2 hT if_3 c_4 if_5 gc_6_f_5 c_6 if_7 ahpσ_9 bhpσ_9 chpσ_9 dhpσ_9 scr_8 c_10 hrv; omega) | omega)), kqσ_2, kdσ_2, (hF.trans hout), fr_σ_2⟩ dX12_turns_50
  have gc_91_f_1 := q_rng f_1
  refine q_icmp_ne (A := f_1.toInt) (B := 1) E rfl (by decide) (tgt := 15) dX12_turns_8 (by decide) (fun c_91 => ?_) (fun c_91 => ?_)
  · skip
    replace hF := q_ifn hF c_91
    exact J_15_2 σ _ _ ls (by first | exact e7σ | (have := gσ.hd; omega)) fr_σ gσ wσ kqσ kdσ hF hI (lv_sub hl [0] rfl)
  · skip
    replace hF := q_ifp hF c_91
    refine lv_aload_n hx hb dX12_turns_11 rfl (lv_at hl 0 rfl) ?_
    refine q_cv (q_rV11_0 (rest := []) E (hml.trans hl.1.symm) hI (c_X12_leaves l X σ a n ha gσ wσ (by first | (clear hn gσ wσ hh gc_91_f_1; omega) | omega)) kv_X12_322 ha ⟨Nat.le_of_ble_eq_true rfl, Nat.le_of_ble_eq_true rfl⟩ (Nat.le_of_ble_eq_true rfl) dX12_turns_12) hI (Nat.le_of_ble_eq_true rfl) (fun σ_93 H locs hpσ_93 hkσ_93 hI => ?_)
    have ahpσ_93 := hpσ_93.1
    have bhpσ_93 := hpσ_93.2.1
    have chpσ_93 := hpσ_93.2.2.1
    have dhpσ_93 := hpσ_93.2.2.2.1
    have ehpσ_93 := hpσ_93.2.2.2.2.1
    have fhpσ_93 := hpσ_93.2.2.2.2.2.1
    have ghpσ_93 := hpσ_93.2.2.2.2.2.2.1
    have hhpσ_93 := hpσ_93.2.2.2.2.2.2.2
    clear hpσ_93
    have fr_σ_93 := fr_σ.call hhpσ_93 rfl rfl
    replace hF := q_letX hF ghpσ_93
    have gσ_93 : m_G (m_c X σ_93 a) := ahpσ_93
    have wσ_93 : m_W (m_c X σ_93 a) n := bhpσ_93
    have kqσ_93 : ∀ j, 654 ≤ j → m_c X σ_93 a j = m_c X σ a j := (fun j h => (chpσ_93 j h).trans (kqσ j h))
    have kdσ_93 : m_KD 40 X σ σ_93 := kdσ.tr dhpσ_93
    have e7σ_93 := ehpσ_93
    exact J_15_2 σ_93 _ _ ls (by first | exact e7σ_93 | (have := gσ_93.hd; omega)) fr_σ_93 gσ_93 wσ_93 kqσ_93 kdσ_93 hF hI (lv_sub hl [0] rfl)

set_option maxRecDepth 100000 in
set_option maxHeartbeats 4000000 in
theorem c_X12_does (l : Launch) (X : XW) (σ : ST) (a : Nat) (v1 : Int32) (n : Int) (ha : q_kd X a = 12) (hG : m_G (m_c X σ a)) (hW : m_W (m_c X σ a) n) (hn : n ≤ 200000) (hw : 656 ≤ v1.toInt ∧ v1.toInt ≤ 917) (hk : 0 ≤ m_c X σ a v1.toInt ∧ m_c X σ a v1.toInt ≤ 2) (hp : m_c X σ a v1.toInt = 0 ∨ (0 ≤ m_c X σ a (v1.toInt + 1) ∧ m_c X σ a (v1.toInt + 1) ≤ 5)) : Met l yX12_does (q_ws yX12_does cX12_does 3 (some .boolean)) (q_rm 6 136) (q_P X σ [.ref a, .int v1]) (q_Qi X 1 σ (fun (r : Int32) (σ' : ST) => (0 ≤ r.toInt ∧ r.toInt ≤ 1) ∧ (m_G (m_c X σ' a)) ∧ (m_W (m_c X σ' a) (n + 1)) ∧ (∀ j, 654 ≤ j → m_c X σ' a j = m_c X σ a j) ∧ (m_KD 40 X σ σ') ∧ (r, σ') = F_X12_does X σ a v1 ∧ q_ow [(12, 39), (12, 42), (12, 43), (12, 44), (34, 99), (39, 99)] [] X σ σ')) 0 0 (q_reg X) := by
  refine q_met 1 (by first | exact rfl | decide +kernel) rfl (Nat.le_of_ble_eq_true rfl) (fun p e s m below meth c E hml hr hlk hI ls hl => ?_)
  have hx := E.1
  have hb := E.2.1
  have hl : lv_has ls 3 [(0, .ref a), (1, .int v1)] := hl
  have gσ : m_G (m_c X σ a) := hG
  have wσ : m_W (m_c X σ a) n := hW
  have kqσ : ∀ j, 654 ≤ j → m_c X σ a j = m_c X σ a j := fun _ _ => rfl
  have kdσ : m_KD 40 X σ σ := m_KD.rf
  have fr_σ : q_ow [(12, 39), (12, 42), (12, 43), (12, 44), (34, 99), (39, 99)] [] X σ σ := q_ow.rf
  have hh := hG.hd
  obtain ⟨out, hout⟩ : ∃ o, o = F_X12_does X σ a v1 := ⟨_, rfl⟩
  have hF := hout.symm
  unfold F_X12_does at hF
  refine lv_aload_n hx hb dX12_does_0 rfl (lv_at hl 0 rfl) ?_
  refine gs_X12_35_12 E hI ha dX12_does_1 ?_
  refine lv_iload_n hx hb dX12_does_4 rfl (lv_at hl 1 rfl) ?_
  refine q_iald E hI (q_tk (k' := 34) hI ha rfl (Nat.succ_ne_zero _)) ⟨by decide, rfl⟩ (by first | (clear hn hk hp gσ wσ kdσ hh; omega) | omega) (by rw [q_lnk (v := 4650) hI (q_tk (k' := 34) hI ha rfl (Nat.succ_ne_zero _)) rfl (by decide)]; omega) dX12_does_5 ?_
  refine lv_topi (fun f_1 ef_1 => ?_)
  replace hF := q_letX hF ef_1
  have if_1 : f_1.toInt = m_c X σ a v1.toInt := m_rd ef_1 rfl
  refine lv_istore_n (lv' := [(2, .int f_1), (0, .ref a), (1, .int v1)]) hx hb dX12_does_6 rfl hl (by decide) rfl (fun ls hl => ?_)
  refine lv_iload_n hx hb dX12_does_7 rfl (lv_at hl 0 rfl) ?_
  refine q_if_ne (A := f_1.toInt) E rfl (tgt := 16) dX12_does_8 (by decide) (fun c_2 => ?_) (fun c_2 => ?_)
  · skip
    replace hF := q_ifn hF c_2
    refine lv_aload_n hx hb dX12_does_16 rfl (lv_at hl 1 rfl) ?_
    refine gs_X12_35_12 E hI ha dX12_does_17 ?_
    refine lv_iload_n hx hb dX12_does_20 rfl (lv_at hl 0 rfl) ?_
    refine lv_iconst (v := 1) hx hb dX12_does_21 zki_1 ?_
    refine q_icmp_ne (A := f_1.toInt) (B := 1) E rfl (by decide) (tgt := 30) dX12_does_22 (by decide) (fun c_3 => ?_) (fun c_3 => ?_)
    · skip
      replace hF := q_ifn hF c_3
      refine lv_bipush (v := 16) hx hb dX12_does_30 zkb_16 ?_
      refine lv_aload_n hx hb dX12_does_32 rfl (lv_at hl 1 rfl) ?_
      refine gs_X12_35_12 E hI ha dX12_does_33 ?_
      refine lv_iload_n hx hb dX12_does_36 rfl (lv_at hl 2 rfl) ?_
      refine lv_iconst (v := 1) hx hb dX12_does_37 zki_1 ?_
      refine lv_iadd hx hb dX12_does_38 ?_
      refine lv_topi (fun z_4 ez_4 => ?_)
      replace hF := q_letX hF ez_4
      have iz_4 := q_addI (A := v1.toInt) (B := 1) ez_4 rfl (by decide) (by first | (clear hn hk hp gσ wσ kdσ hh if_1 c_2 c_3; omega) | omega) (by first | (clear hn hk hp gσ wσ kdσ hh if_1 c_2 c_3; omega) | omega)
      refine q_iald E hI (q_tk (k' := 34) hI ha rfl (Nat.succ_ne_zero _)) ⟨by decide, rfl⟩ (by first | (clear hn hk hp gσ wσ kdσ hh if_1 c_2 c_3; omega) | omega) (by rw [q_lnk (v := 4650) hI (q_tk (k' := 34) hI ha rfl (Nat.succ_ne_zero _)) rfl (by decide)]; omega) dX12_does_39 ?_
      refine lv_topi (fun f_5 ef_5 => ?_)
      replace hF := q_letX hF ef_5
      have if_5 : f_5.toInt = m_c X σ a (v1.toInt + 1) := m_rd ef_5 iz_4
      refine lv_iadd hx hb dX12_does_40 ?_
      refine lv_topi (fun z_6 ez_6 => ?_)
      replace hF := q_letX hF ez_6
      have iz_6 := q_addI (A := 16) (B := (m_c X σ a (v1.toInt + 1))) ez_6 (by decide) if_5 (by first | (clear hn hw gσ wσ kdσ hh iz_4 if_5; omega) | omega) (by first | (clear hn hw gσ wσ kdσ hh iz_4 if_5; omega) | omega)
      refine lv_aload_n hx hb dX12_does_41 rfl (lv_at hl 1 rfl) ?_
      refine gs_X12_35_12 E hI ha dX12_does_42 ?_
      refine lv_iload_n hx hb dX12_does_45 rfl (lv_at hl 2 rfl) ?_
      refine lv_iconst (v := 2) hx hb dX12_does_46 zki_2 ?_
      refine lv_iadd hx hb dX12_does_47 ?_
      refine lv_topi (fun z_7 ez_7 => ?_)
      replace hF := q_letX hF ez_7
      have iz_7 := q_addI (A := v1.toInt) (B := 2) ez_7 rfl (by decide) (by first | (clear hn hk hp gσ wσ kdσ hh if_1 c_2 c_3 if_5 iz_6; omega) | omega) (by first | (clear hn hk hp gσ wσ kdσ hh if_1 c_2 c_3 if_5 iz_6; omega) | omega)
      refine q_iald E hI (q_tk (k' := 34) hI ha rfl (Nat.succ_ne_zero _)) ⟨by decide, rfl⟩ (by first | (clear hn hk hp gσ wσ kdσ hh if_1 c_2 c_3 if_5 iz_6; omega) | omega) (by rw [q_lnk (v := 4650) hI (q_tk (k' := 34) hI ha rfl (Nat.succ_ne_zero _)) rfl (by decide)]; omega) dX12_does_48 ?_
      refine lv_topi (fun f_8 ef_8 => ?_)
      replace hF := q_letX hF ef_8
      have if_8 : f_8.toInt = m_c X σ a (v1.toInt + 2) := m_rd ef_8 iz_7
      refine q_iastN E hI (q_tk (k' := 34) hI ha rfl (Nat.succ_ne_zero _)) ⟨by decide, rfl⟩ (by first | (clear hn hw gσ wσ kdσ hh iz_4 if_5 iz_7 if_8; omega) | omega) (by rw [q_lnk (v := 4650) hI (q_tk (k' := 34) hI ha rfl (Nat.succ_ne_zero _)) rfl (by decide)]; omega) (show 1 < 2 by decide) (q_inU rfl) dX12_does_49 (fun H locs σ_9 hσ_9 hI => ?_)
      replace hF := q_letX hF hσ_9
      have fr_σ_9 := fr_σ.si hσ_9 (q_tk (k' := 34) hI ha rfl (Nat.succ_ne_zero _)) rfl
      have mcσ_9 := m_wr (v := f_8) (A := (16 + (m_c X σ a (v1.toInt + 1)))) hσ_9 iz_6 (by first | (clear hn hw gσ wσ kdσ hh iz_4 if_5 iz_7 if_8; omega) | omega)
      have gσ_9 : m_G (m_c X σ_9 a) := m_G.wr gσ mcσ_9 (by first | (clear hn hw gσ wσ kdσ iz_4 if_5 iz_7; omega) | omega)
      have wσ_9 : m_W (m_c X σ_9 a) n := m_W.wr wσ mcσ_9 (by first | (clear hn hw gσ wσ kdσ hh iz_4 if_5 iz_7 if_8 gσ_9; omega) | omega)
      have kqσ_9 : ∀ j, 654 ≤ j → m_c X σ_9 a j = m_c X σ a j := fun j h => by rw [mcσ_9 j (by first | (clear hn hw hk hp gσ wσ kdσ hh if_1 c_2 c_3 iz_4 if_5 iz_6 iz_7 if_8 gσ_9 wσ_9; omega) | omega), if_neg (by first | (clear hn hw gσ wσ kdσ hh iz_4 if_5 iz_7 if_8 gσ_9 wσ_9; omega) | omega)] <;> exact kqσ j h
      have kdσ_9 : m_KD 40 X σ σ_9 := kdσ.ar hσ_9 (q_tk (k' := 34) hI ha rfl (Nat.succ_ne_zero _)) (by decide) (by decide)
      refine lv_iconst (v := 1) hx hb dX12_does_50 zki_1 ?_
      have hrv : (1 : Int32).toInt = 1 := zt_1
      exact q_retz E hr hlk hI ⟨by decide, by decide⟩ ⟨⟨by decide, by decide⟩, gσ_9, (by first | exact vσ_9 | exact m_W.le wσ_9 (by first | (clear hn hw hk hp gσ wσ kdσ hh if_1 c_2 c_3 iz_4 if_5 iz_6 iz_7 if_8 gσ_9 wσ_9 kdσ_9 hrv; omega) | omega)), kqσ_9, kdσ_9, (hF.trans hout), fr_σ_9⟩ dX12_does_51
    · skip
      replace hF := q_ifp hF c_3
      refine lv_bipush (v := 10) hx hb dX12_does_25 zkb_10 ?_
      refine lv_goto (tgt := 32) hx hb dX12_does_27 (by decide) ?_
      refine lv_aload_n hx hb dX12_does_32 rfl (lv_at hl 1 rfl) ?_
      refine gs_X12_35_12 E hI ha dX12_does_33 ?_
      refine lv_iload_n hx hb dX12_does_36 rfl (lv_at hl 2 rfl) ?_
      refine lv_iconst (v := 1) hx hb dX12_does_37 zki_1 ?_
      refine lv_iadd hx hb dX12_does_38 ?_
      refine lv_topi (fun z_10 ez_10 => ?_)
      replace hF := q_letX hF ez_10
      have iz_10 := q_addI (A := v1.toInt) (B := 1) ez_10 rfl (by decide) (by first | (clear hn hk hp gσ wσ kdσ hh if_1 c_2 c_3; omega) | omega) (by first | (clear hn hk hp gσ wσ kdσ hh if_1 c_2 c_3; omega) | omega)
      refine q_iald E hI (q_tk (k' := 34) hI ha rfl (Nat.succ_ne_zero _)) ⟨by decide, rfl⟩ (by first | (clear hn hk hp gσ wσ kdσ hh if_1 c_2 c_3; omega) | omega) (by rw [q_lnk (v := 4650) hI (q_tk (k' := 34) hI ha rfl (Nat.succ_ne_zero _)) rfl (by decide)]; omega) dX12_does_39 ?_
      refine lv_topi (fun f_11 ef_11 => ?_)
      replace hF := q_letX hF ef_11
      have if_11 : f_11.toInt = m_c X σ a (v1.toInt + 1) := m_rd ef_11 iz_10
      refine lv_iadd hx hb dX12_does_40 ?_
      refine lv_topi (fun z_12 ez_12 => ?_)
      replace hF := q_letX hF ez_12
      have iz_12 := q_addI (A := 10) (B := (m_c X σ a (v1.toInt + 1))) ez_12 (by decide) if_11 (by first | (clear hn hw hk gσ wσ kdσ hh iz_10 if_11; omega) | omega) (by first | (clear hn hw hk gσ wσ kdσ hh iz_10 if_11; omega) | omega)
      refine lv_aload_n hx hb dX12_does_41 rfl (lv_at hl 1 rfl) ?_
      refine gs_X12_35_12 E hI ha dX12_does_42 ?_
      refine lv_iload_n hx hb dX12_does_45 rfl (lv_at hl 2 rfl) ?_
      refine lv_iconst (v := 2) hx hb dX12_does_46 zki_2 ?_
      refine lv_iadd hx hb dX12_does_47 ?_
      refine lv_topi (fun z_13 ez_13 => ?_)
      replace hF := q_letX hF ez_13
      have iz_13 := q_addI (A := v1.toInt) (B := 2) ez_13 rfl (by decide) (by first | (clear hn hk hp gσ wσ kdσ hh if_1 c_2 c_3 if_11 iz_12; omega) | omega) (by first | (clear hn hk hp gσ wσ kdσ hh if_1 c_2 c_3 if_11 iz_12; omega) | omega)
      refine q_iald E hI (q_tk (k' := 34) hI ha rfl (Nat.succ_ne_zero _)) ⟨by decide, rfl⟩ (by first | (clear hn hk hp gσ wσ kdσ hh if_1 c_2 c_3 if_11 iz_12; omega) | omega) (by rw [q_lnk (v := 4650) hI (q_tk (k' := 34) hI ha rfl (Nat.succ_ne_zero _)) rfl (by decide)]; omega) dX12_does_48 ?_
      refine lv_topi (fun f_14 ef_14 => ?_)
      replace hF := q_letX hF ef_14
      have if_14 : f_14.toInt = m_c X σ a (v1.toInt + 2) := m_rd ef_14 iz_13
      refine q_iastN E hI (q_tk (k' := 34) hI ha rfl (Nat.succ_ne_zero _)) ⟨by decide, rfl⟩ (by first | (clear hn hw hk gσ wσ kdσ hh iz_10 if_11 iz_13 if_14; omega) | omega) (by rw [q_lnk (v := 4650) hI (q_tk (k' := 34) hI ha rfl (Nat.succ_ne_zero _)) rfl (by decide)]; omega) (show 1 < 2 by decide) (q_inU rfl) dX12_does_49 (fun H locs σ_15 hσ_15 hI => ?_)
      replace hF := q_letX hF hσ_15
      have fr_σ_15 := fr_σ.si hσ_15 (q_tk (k' := 34) hI ha rfl (Nat.succ_ne_zero _)) rfl
      have mcσ_15 := m_wr (v := f_14) (A := (10 + (m_c X σ a (v1.toInt + 1)))) hσ_15 iz_12 (by first | (clear hn hw hk gσ wσ kdσ hh iz_10 if_11 iz_13 if_14; omega) | omega)
      have gσ_15 : m_G (m_c X σ_15 a) := m_G.wr gσ mcσ_15 (by first | (clear hn hw hk gσ wσ kdσ iz_10 if_11 iz_13; omega) | omega)
      have wσ_15 : m_W (m_c X σ_15 a) n := m_W.wr wσ mcσ_15 (by first | (clear hn hw hk gσ wσ kdσ hh iz_10 if_11 iz_13 if_14 gσ_15; omega) | omega)
      have kqσ_15 : ∀ j, 654 ≤ j → m_c X σ_15 a j = m_c X σ a j := fun j h => by rw [mcσ_15 j (by first | (clear hn hw hk hp gσ wσ kdσ hh if_1 c_2 c_3 iz_10 if_11 iz_12 iz_13 if_14 gσ_15 wσ_15; omega) | omega), if_neg (by first | (clear hn hw hk gσ wσ kdσ hh iz_10 if_11 iz_13 if_14 gσ_15 wσ_15; omega) | omega)] <;> exact kqσ j h
      have kdσ_15 : m_KD 40 X σ σ_15 := kdσ.ar hσ_15 (q_tk (k' := 34) hI ha rfl (Nat.succ_ne_zero _)) (by decide) (by decide)
      refine lv_iconst (v := 1) hx hb dX12_does_50 zki_1 ?_
      have hrv : (1 : Int32).toInt = 1 := zt_1
      exact q_retz E hr hlk hI ⟨by decide, by decide⟩ ⟨⟨by decide, by decide⟩, gσ_15, (by first | exact vσ_15 | exact m_W.le wσ_15 (by first | (clear hn hw hk hp gσ wσ kdσ hh if_1 c_2 c_3 iz_10 if_11 iz_12 iz_13 if_14 gσ_15 wσ_15 kdσ_15 hrv; omega) | omega)), kqσ_15, kdσ_15, (hF.trans hout), fr_σ_15⟩ dX12_does_51
  · skip
    replace hF := q_ifp hF c_2
    refine lv_aload_n hx hb dX12_does_11 rfl (lv_at hl 1 rfl) ?_
    refine q_ci (q_rV11_0 (rest := []) E (hml.trans hl.1.symm) hI (c_X12_turns l X σ a n ha gσ wσ (by omega)) kv_X12_414 ha ⟨Nat.le_of_ble_eq_true rfl, Nat.le_of_ble_eq_true rfl⟩ (Nat.le_of_ble_eq_true rfl) dX12_does_12) hI (Nat.le_of_ble_eq_true rfl) (fun r_16 σ_17 H locs hpσ_17 hkσ_17 hI => ?_)
    have ahpσ_17 := hpσ_17.1
    have bhpσ_17 := hpσ_17.2.1
    have chpσ_17 := hpσ_17.2.2.1
    have dhpσ_17 := hpσ_17.2.2.2.1
    have ehpσ_17 := hpσ_17.2.2.2.2.1
    have fhpσ_17 := hpσ_17.2.2.2.2.2.1
    have ghpσ_17 := hpσ_17.2.2.2.2.2.2
    clear hpσ_17
    have fr_σ_17 := fr_σ.call ghpσ_17 rfl rfl
    replace hF := q_biX hF fhpσ_17
    have gσ_17 : m_G (m_c X σ_17 a) := bhpσ_17
    have vσ_17 : m_W (m_c X σ_17 a) (n + 1) := chpσ_17
    have kqσ_17 : ∀ j, 654 ≤ j → m_c X σ_17 a j = m_c X σ a j := (fun j h => (dhpσ_17 j h).trans (kqσ j h))
    have kdσ_17 : m_KD 40 X σ σ_17 := kdσ.tr ehpσ_17
    exact q_retz E hr hlk hI ⟨by omega, by omega⟩ ⟨⟨by omega, by omega⟩, gσ_17, (by first | exact vσ_17 | exact m_W.le wσ_17 (by omega)), kqσ_17, kdσ_17, (hF.trans hout), fr_σ_17⟩ dX12_does_15
end
/-! FROM 46.plays.a.lean.txt -/
section
section QS
variable {p : Program} {l : Launch} {e : Env} {R : Room} {s : State} {m : MethodId} {args : Array Value} {below : List Frame} {meth : Method} {c : Code} {H : Heap} {locs : List Loc} {cells slots : Nat} {Q : State → Prop} {cc : ByteArray} {X : XW} {n : Nat} {σ0 σ : ST} {H0 : Heap} {pc : Nat} {ls : Array Slot} {rest : List Value} {a : Nat}
theorem gs_X12_417_12 (E : q_E p c cc s m args RX12 X) (hI : q_I X n σ0 H0 locs σ H) (ha : q_kd X a = 12) (hdg : decode cc pc = .ok (.getfield 417, 3)) (kk : W p l e R s m args below meth c H locs cells slots Q (F0 m (pc + 3) ls (.int (σ.1 a 40) :: rest))) : W p l e R s m args below meth c H locs cells slots Q (F0 m pc ls (.ref a :: rest)) :=
  q_getf (ref := "CheatHeapModel") E hI ha ⟨rfl, by decide⟩ (show vwCl[11]? = some (RX12, TX12, 46) from rfl) q_inX12 (f := 40) (by decide) (q_in_t7 (i := 25) (by first | rfl | decide +kernel) rfl) (Or.inl rfl) rfl hdg kk
theorem ps_X12_417_12 (E : q_E p c cc s m args RX12 X) (hI : q_I X n σ0 H0 locs σ H) (ha : q_kd X a = 12) {v : Int32} (hcl : n < 9) (hdg : decode cc pc = .ok (.putfield 417, 3)) (kk : ∀ (H1 : Heap) (locs1 : List Loc) (σ1 : ST), σ1 = q_si σ a 40 v → q_I X n σ0 H0 locs1 σ1 H1 → W p l e R s m args below meth c H1 locs1 cells slots Q (F0 m (pc + 3) ls rest)) : W p l e R s m args below meth c H locs cells slots Q (F0 m pc ls (.int v :: .ref a :: rest)) :=
  q_puti (ref := "CheatHeapModel") E hI ha ⟨rfl, by decide⟩ (show vwCl[11]? = some (RX12, TX12, 46) from rfl) q_inX12 tyX12_ok nmX12 (f := 40) (by decide) (q_in_t7 (i := 25) (by first | rfl | decide +kernel) rfl) (Or.inl rfl) rfl rfl hcl hdg (q_inU rfl) (Or.inl rfl) (fun H1 l1 h => kk H1 l1 _ rfl h)
theorem ps_X12_420_12 (E : q_E p c cc s m args RX12 X) (hI : q_I X n σ0 H0 locs σ H) (ha : q_kd X a = 12) {v : Int32} (hcl : n < 9) (h1 : 0 ≤ v.toInt) (h2 : v.toInt ≤ 1) (hdg : decode cc pc = .ok (.putfield 420, 3)) (kk : ∀ (H1 : Heap) (locs1 : List Loc) (σ1 : ST), σ1 = q_si σ a 38 v → q_I X n σ0 H0 locs1 σ1 H1 → W p l e R s m args below meth c H1 locs1 cells slots Q (F0 m (pc + 3) ls rest)) : W p l e R s m args below meth c H locs cells slots Q (F0 m pc ls (.int v :: .ref a :: rest)) :=
  q_puti (ref := "CheatHeapModel") E hI ha ⟨rfl, by decide⟩ (show vwCl[11]? = some (RX12, TX12, 46) from rfl) q_inX12 tyX12_ok nmX12 (f := 38) (by decide) (q_in_t7 (i := 23) (by first | rfl | decide +kernel) rfl) (Or.inl rfl) rfl rfl hcl hdg (q_inB rfl h1 h2) (Or.inr ⟨rfl, h1, h2⟩) (fun H1 l1 h => kk H1 l1 _ rfl h)
theorem gs_X12_420_12 (E : q_E p c cc s m args RX12 X) (hI : q_I X n σ0 H0 locs σ H) (ha : q_kd X a = 12) (hdg : decode cc pc = .ok (.getfield 420, 3)) (kk : W p l e R s m args below meth c H locs cells slots Q (F0 m (pc + 3) ls (.int (σ.1 a 38) :: rest))) : W p l e R s m args below meth c H locs cells slots Q (F0 m pc ls (.ref a :: rest)) :=
  q_getf (ref := "CheatHeapModel") E hI ha ⟨rfl, by decide⟩ (show vwCl[11]? = some (RX12, TX12, 46) from rfl) q_inX12 (f := 38) (by decide) (q_in_t7 (i := 23) (by first | rfl | decide +kernel) rfl) (Or.inl rfl) rfl hdg kk
theorem kv_X12_435 : q_okV RX12 435 RX12 yX12_doAll cX12_doAll 4 none 2 := ⟨(q_in_t9 (i := 150) (by first | rfl | decide +kernel) rfl), (q_in_t9 (i := 152) (by first | rfl | decide +kernel) rfl), (q_in_p (i := 106) (by decide +kernel) rfl), (q_in_t1 (i := 14) (by first | rfl | decide +kernel) rfl), (q_in_t9 (i := 153) (by first | rfl | decide +kernel) rfl), ⟨rfl, by decide, by decide, rfl⟩⟩
theorem kv_X12_432 : q_okV RX12 432 RX12 yX12_isSo cX12_isSo 4 (some .boolean) 1 := ⟨(q_in_t9 (i := 175) (by first | rfl | decide +kernel) rfl), (q_in_t9 (i := 177) (by first | rfl | decide +kernel) rfl), (q_in_p (i := 112) (by decide +kernel) rfl), (q_in_t1 (i := 14) (by first | rfl | decide +kernel) rfl), (q_in_t9 (i := 178) (by first | rfl | decide +kernel) rfl), ⟨rfl, by decide, by decide, rfl⟩⟩
theorem gs_X12_426_12 (E : q_E p c cc s m args RX12 X) (hI : q_I X n σ0 H0 locs σ H) (ha : q_kd X a = 12) (hdg : decode cc pc = .ok (.getfield 426, 3)) (kk : W p l e R s m args below meth c H locs cells slots Q (F0 m (pc + 3) ls (.int (σ.1 a 41) :: rest))) : W p l e R s m args below meth c H locs cells slots Q (F0 m pc ls (.ref a :: rest)) :=
  q_getf (ref := "CheatHeapModel") E hI ha ⟨rfl, by decide⟩ (show vwCl[11]? = some (RX12, TX12, 46) from rfl) q_inX12 (f := 41) (by decide) (q_in_t7 (i := 26) (by first | rfl | decide +kernel) rfl) (Or.inl rfl) rfl hdg kk
theorem kv_X12_429 : q_okV RX12 429 RX12 yX12_does cX12_does 3 (some .boolean) 1 := ⟨(q_in_t9 (i := 158) (by first | rfl | decide +kernel) rfl), (q_in_t9 (i := 160) (by first | rfl | decide +kernel) rfl), (q_in_p (i := 108) (by decide +kernel) rfl), (q_in_t1 (i := 14) (by first | rfl | decide +kernel) rfl), (q_in_t9 (i := 161) (by first | rfl | decide +kernel) rfl), ⟨rfl, by decide, by decide, rfl⟩⟩
theorem ps_X12_426_12 (E : q_E p c cc s m args RX12 X) (hI : q_I X n σ0 H0 locs σ H) (ha : q_kd X a = 12) {v : Int32} (hcl : n < 9) (hdg : decode cc pc = .ok (.putfield 426, 3)) (kk : ∀ (H1 : Heap) (locs1 : List Loc) (σ1 : ST), σ1 = q_si σ a 41 v → q_I X n σ0 H0 locs1 σ1 H1 → W p l e R s m args below meth c H1 locs1 cells slots Q (F0 m (pc + 3) ls rest)) : W p l e R s m args below meth c H locs cells slots Q (F0 m pc ls (.int v :: .ref a :: rest)) :=
  q_puti (ref := "CheatHeapModel") E hI ha ⟨rfl, by decide⟩ (show vwCl[11]? = some (RX12, TX12, 46) from rfl) q_inX12 tyX12_ok nmX12 (f := 41) (by decide) (q_in_t7 (i := 26) (by first | rfl | decide +kernel) rfl) (Or.inl rfl) rfl rfl hcl hdg (q_inU rfl) (Or.inl rfl) (fun H1 l1 h => kk H1 l1 _ rfl h)
theorem ps_X12_423_12 (E : q_E p c cc s m args RX12 X) (hI : q_I X n σ0 H0 locs σ H) (ha : q_kd X a = 12) {v : Int32} (hcl : n < 9) (hdg : decode cc pc = .ok (.putfield 423, 3)) (kk : ∀ (H1 : Heap) (locs1 : List Loc) (σ1 : ST), σ1 = q_si σ a 45 v → q_I X n σ0 H0 locs1 σ1 H1 → W p l e R s m args below meth c H1 locs1 cells slots Q (F0 m (pc + 3) ls rest)) : W p l e R s m args below meth c H locs cells slots Q (F0 m pc ls (.int v :: .ref a :: rest)) :=
  q_puti (ref := "CheatHeapModel") E hI ha ⟨rfl, by decide⟩ (show vwCl[11]? = some (RX12, TX12, 46) from rfl) q_inX12 tyX12_ok nmX12 (f := 45) (by decide) (q_in_t7 (i := 30) (by first | rfl | decide +kernel) rfl) (Or.inl rfl) rfl rfl hcl hdg (q_inU rfl) (Or.inl rfl) (fun H1 l1 h => kk H1 l1 _ rfl h)
theorem kv_X12_438 : q_okV RX12 438 RX12 yX12_doOne cX12_doOne 5 none 1 := ⟨(q_in_t9 (i := 154) (by first | rfl | decide +kernel) rfl), (q_in_t9 (i := 156) (by first | rfl | decide +kernel) rfl), (q_in_p (i := 107) (by decide +kernel) rfl), (q_in_t1 (i := 14) (by first | rfl | decide +kernel) rfl), (q_in_t9 (i := 157) (by first | rfl | decide +kernel) rfl), ⟨rfl, by decide, by decide, rfl⟩⟩
end QS
end
/-! FROM 46.plays.b00.lean.txt -/
section
set_option maxRecDepth 100000 in
set_option maxHeartbeats 4000000 in
theorem c_X12_doAll_z (l : Launch) (X : XW) (σ : ST) (a : Nat) (v1 : Int32) (v2 : Int32) (n : Int) (ha : q_kd X a = 12) (hG : m_G (m_c X σ a)) (hW : m_W (m_c X σ a) (n + (σ.1 a 40).toInt)) (hn : 0 ≤ n ∧ n ≤ 199500) (hd : 0 ≤ (σ.1 a 40).toInt ∧ (σ.1 a 40).toInt ≤ 300) (hf : 30 ≤ v1.toInt ∧ 0 ≤ v1.toInt) (ht : v2.toInt ≤ m_c X σ a 655) : Met l yX12_doAll (q_ws yX12_doAll cX12_doAll 4 none) (q_rm 7 158) (q_P X σ [.ref a, .int v1, .int v2]) (q_Qv X 1 σ (fun (σ' : ST) => (m_G (m_c X σ' a)) ∧ (m_W (m_c X σ' a) (n + (σ'.1 a 40).toInt)) ∧ (∀ j, 654 ≤ j → m_c X σ' a j = m_c X σ a j) ∧ ((σ.1 a 40).toInt ≤ (σ'.1 a 40).toInt ∧ (σ'.1 a 40).toInt ≤ 300) ∧ (∀ b g, q_kd X b = 35 → σ'.1 b g = σ.1 b g) ∧ σ' = F_X12_doAll_z X σ a v1 v2 ∧ q_ow [(12, 38), (12, 39), (12, 40), (12, 41), (12, 42), (12, 43), (12, 44), (12, 45), (34, 99), (39, 99)] [] X σ σ')) 0 0 (q_reg X) := by
  refine q_met 1 (by first | exact rfl | decide +kernel) rfl (Nat.le_of_ble_eq_true rfl) (fun p e s m below meth c E hml hr hlk hI ls hl => ?_)
  have hx := E.1
  have hb := E.2.1
  have hl : lv_has ls 4 [(0, .ref a), (1, .int v1), (2, .int v2)] := hl
  have gσ : m_G (m_c X σ a) := hG
  have wσ : m_W (m_c X σ a) (n + (σ.1 a 40).toInt) := hW
  have kqσ : ∀ j, 654 ≤ j → m_c X σ a j = m_c X σ a j := fun _ _ => rfl
  have dnσ : (σ.1 a 40).toInt ≤ (σ.1 a 40).toInt ∧ (σ.1 a 40).toInt ≤ 300 := (by first | (clear hn hf ht gσ wσ; omega) | omega)
  have k5σ : ∀ b g, q_kd X b = 35 → σ.1 b g = σ.1 b g := fun _ _ _ => rfl
  have fr_σ : q_ow [(12, 38), (12, 39), (12, 40), (12, 41), (12, 42), (12, 43), (12, 44), (12, 45), (34, 99), (39, 99)] [] X σ σ := q_ow.rf
  have hh := hG.hd
  have hQ := hG.2.2.2.2.2.1
  obtain ⟨out, hout⟩ : ∃ o, o = F_X12_doAll_z X σ a v1 v2 := ⟨_, rfl⟩
  have hF := hout.symm
  unfold F_X12_doAll_z at hF
  refine lv_iload_n hx hb dX12_doAll_0 rfl (lv_at hl 1 rfl) ?_
  refine lv_istore_n (lv' := [(3, .int v1), (0, .ref a), (1, .int v1), (2, .int v2)]) hx hb dX12_doAll_1 rfl hl (by decide) rfl (fun ls hl => ?_)
  have L_2_3 : ∀ (k_3 : Nat) (x_1 : Int32) (σ_2 : ST) (H : Heap) (locs : List Loc) (ls : Array Slot), (31 - x_1.toInt).toNat < k_3 → (30 ≤ x_1.toInt) → (q_ow [(12, 38), (12, 39), (12, 40), (12, 41), (12, 42), (12, 43), (12, 44), (12, 45), (34, 99), (39, 99)] [] X σ σ_2) → (m_G (m_c X σ_2 a)) → (m_W (m_c X σ_2 a) (n + (σ_2.1 a 40).toInt)) → (∀ j, 654 ≤ j → m_c X σ_2 a j = m_c X σ a j) → ((σ.1 a 40).toInt ≤ (σ_2.1 a 40).toInt ∧ (σ_2.1 a 40).toInt ≤ 300) → (∀ b g, q_kd X b = 35 → σ_2.1 b g = σ.1 b g) → (F_X12_doAll_z_L2_1 X v2 k_3 x_1 σ_2 = out) → q_I X 1 σ s.heap locs σ_2 H → lv_has ls 4 [(0, .ref a), (1, .int v1), (2, .int v2), (3, .int x_1)] → W p l e (q_rm 7 158) s m ([.ref a, .int v1, .int v2] : List Value).toArray below meth c H locs 0 0 (MQ below (q_Qv X 1 σ (fun (σ' : ST) => (m_G (m_c X σ' a)) ∧ (m_W (m_c X σ' a) (n + (σ'.1 a 40).toInt)) ∧ (∀ j, 654 ≤ j → m_c X σ' a j = m_c X σ a j) ∧ ((σ.1 a 40).toInt ≤ (σ'.1 a 40).toInt ∧ (σ'.1 a 40).toInt ≤ 300) ∧ (∀ b g, q_kd X b = 35 → σ'.1 b g = σ.1 b g) ∧ σ' = F_X12_doAll_z X σ a v1 v2 ∧ q_ow [(12, 38), (12, 39), (12, 40), (12, 41), (12, 42), (12, 43), (12, 44), (12, 45), (34, 99), (39, 99)] [] X σ σ')) ([.ref a, .int v1, .int v2] : List Value).toArray s 0 0 (q_reg X)) (F0 m 2 ls []) := by
    clear hF
    intro k_3
    induction k_3 with
    | zero =>
      intro x_1 σ_2 H locs ls hms
      try clear kqσ; try clear dnσ; try clear fr_σ
      exact absurd hms (Nat.not_lt_zero _)
    | succ k_3 ih2 =>
      intro x_1 σ_2 H locs ls hm2 hge2 fr_σ_2 gσ_2 wσ_2 kqσ_2 dnσ_2 k5σ_2 hF hI hl
      replace hF := (F_X12_doAll_z_L2_1_s).symm.trans hF
      unfold F_X12_doAll_z_B2_1 at hF
      have q5 := kqσ_2 655 (by decide)
      refine lv_iload_n hx hb dX12_doAll_2 rfl (lv_at hl 3 rfl) ?_
      refine lv_iload_n hx hb dX12_doAll_3 rfl (lv_at hl 2 rfl) ?_
      have gc_4_x_1 := q_rng x_1
      have gc_4_v2 := q_rng v2
      refine q_icmp_ge (A := x_1.toInt) (B := v2.toInt) E rfl rfl (tgt := 39) dX12_doAll_4 (by decide) (fun c_4 => ?_) (fun c_4 => ?_)
      · skip
        replace hF := q_ifn hF (Int.not_lt.mpr c_4)
        skip
        exact q_retv E hr hlk hI ⟨gσ_2, (by first | exact wσ_2 | exact m_W.le w0σ_2 (by omega)), kqσ_2, dnσ_2, k5σ_2, (hF.trans hout), fr_σ_2⟩ dX12_doAll_39
      · skip
        replace hF := q_ifp hF c_4
        exact absurd c_4 (by first | (clear hn hd hf gσ wσ k5σ hh hm2 gσ_2 wσ_2 dnσ_2 k5σ_2 gc_4_v2; omega) | omega)
  exact L_2_3 ((31 - v1.toInt).toNat + 1) v1 σ _ _ ls (Nat.lt_succ_self _) (by first | (clear hn hd ht gσ wσ k5σ hh hQ; omega) | omega) fr_σ gσ wσ kqσ dnσ k5σ hF hI (lv_sub hl [1, 2, 3, 0] rfl)

set_option maxRecDepth 100000 in
set_option maxHeartbeats 4000000 in
theorem c_X12_doOne_s (l : Launch) (X : XW) (σ : ST) (a : Nat) (v1 : Int32) (n : Int) (d : Nat) (FA : ST → Int32 → Int32 → ST) (hA : ∀ (σ : ST) (v1 v2 : Int32) (hG : m_G (m_c X σ a)) (hW : m_W (m_c X σ a) (n + (σ.1 a 40).toInt)) (hn : 0 ≤ n ∧ n ≤ 199500) (hd : 0 ≤ (σ.1 a 40).toInt ∧ (σ.1 a 40).toInt ≤ 300) (hf : 30 - (d : Int) ≤ v1.toInt ∧ 0 ≤ v1.toInt) (ht : v2.toInt ≤ m_c X σ a 655), Met l yX12_doAll (q_ws yX12_doAll cX12_doAll 4 none) (q_rm (7 + 2 * d) (158 + 47 * d)) (q_P X σ [.ref a, .int v1, .int v2]) (q_Qv X 1 σ (fun (σ' : ST) => (m_G (m_c X σ' a)) ∧ (m_W (m_c X σ' a) (n + (σ'.1 a 40).toInt)) ∧ (∀ j, 654 ≤ j → m_c X σ' a j = m_c X σ a j) ∧ ((σ.1 a 40).toInt ≤ (σ'.1 a 40).toInt ∧ (σ'.1 a 40).toInt ≤ 300) ∧ (∀ b g, q_kd X b = 35 → σ'.1 b g = σ.1 b g) ∧ σ' = FA σ v1 v2 ∧ q_ow [(12, 38), (12, 39), (12, 40), (12, 41), (12, 42), (12, 43), (12, 44), (12, 45), (34, 99), (39, 99)] [] X σ σ')) 0 0 (q_reg X)) (ha : q_kd X a = 12) (hG : m_G (m_c X σ a)) (hW : m_W (m_c X σ a) (n + (σ.1 a 40).toInt)) (hn : 0 ≤ n ∧ n ≤ 199500) (hd : 0 ≤ (σ.1 a 40).toInt ∧ (σ.1 a 40).toInt ≤ 300) (hs : 29 - (d : Int) ≤ v1.toInt ∧ 0 ≤ v1.toInt ∧ v1.toInt < m_c X σ a 655) : Met l yX12_doOne (q_ws yX12_doOne cX12_doOne 5 none) (q_rm (8 + 2 * d) (181 + 47 * d)) (q_P X σ [.ref a, .int v1]) (q_Qv X 1 σ (fun (σ' : ST) => (m_G (m_c X σ' a)) ∧ (m_W (m_c X σ' a) (n + (σ'.1 a 40).toInt)) ∧ (∀ j, 654 ≤ j → m_c X σ' a j = m_c X σ a j) ∧ ((σ.1 a 40).toInt ≤ (σ'.1 a 40).toInt ∧ (σ'.1 a 40).toInt ≤ 300) ∧ (∀ b g, q_kd X b = 35 → σ'.1 b g = σ.1 b g) ∧ σ' = F_X12_doOne_s X σ a v1 FA ∧ q_ow [(12, 38), (12, 39), (12, 40), (12, 41), (12, 42), (12, 43), (12, 44), (12, 45), (34, 99), (39, 99)] [] X σ σ')) 0 0 (q_reg X) := by
  refine q_met 1 (by first | exact rfl | decide +kernel) rfl (Nat.le_of_ble_eq_true rfl) (fun p e s m below meth c E hml hr hlk hI ls hl => ?_)
  have hx := E.1
  have hb := E.2.1
  have hl : lv_has ls 5 [(0, .ref a), (1, .int v1)] := hl
  have gσ : m_G (m_c X σ a) := hG
  have w0σ : m_W (m_c X σ a) (n + (σ.1 a 40).toInt) := hW
  have kqσ : ∀ j, 654 ≤ j → m_c X σ a j = m_c X σ a j := fun _ _ => rfl
  have dnσ : (σ.1 a 40).toInt ≤ (σ.1 a 40).toInt ∧ (σ.1 a 40).toInt ≤ 300 := (by first | (clear hf ht hn hs gσ w0σ; omega) | omega)
  have k5σ : ∀ b g, q_kd X b = 35 → σ.1 b g = σ.1 b g := fun _ _ _ => rfl
  have fxσ : m_c X σ a = m_c X σ a := rfl
  have fr_σ : q_ow [(12, 38), (12, 39), (12, 40), (12, 41), (12, 42), (12, 43), (12, 44), (12, 45), (34, 99), (39, 99)] [] X σ σ := q_ow.rf
  have hh := hG.hd
  have hQ := hG.2.2.2.2.2.1
  have st := hG.2.2.2.2.2.2 v1.toInt (by first | (clear hf ht hn hd gσ w0σ dnσ k5σ hh hQ; omega) | omega) (by first | (clear hf ht hn hd gσ w0σ dnσ k5σ hh hQ; omega) | omega)
  obtain ⟨s1, s2, s3, s4⟩ := st
  obtain ⟨out, hout⟩ : ∃ o, o = F_X12_doOne_s X σ a v1 FA := ⟨_, rfl⟩
  have hF := hout.symm
  unfold F_X12_doOne_s at hF
  refine lv_aload_n hx hb dX12_doOne_0 rfl (lv_at hl 0 rfl) ?_
  refine gs_X12_417_12 E hI ha dX12_doOne_1 ?_
  refine lv_topi (fun f_1 ef_1 => ?_)
  replace hF := q_letX hF ef_1
  have if_1 : f_1.toInt = (σ.1 a 40).toInt := congrArg Int32.toInt ef_1
  refine lv_sipush (v := 300) hx hb dX12_doOne_4 zks_300 ?_
  have gc_2_f_1 := q_rng f_1
  refine q_icmp_ne (A := f_1.toInt) (B := 300) E rfl (by decide) (tgt := 21) dX12_doOne_7 (by decide) (fun c_2 => ?_) (fun c_2 => ?_)
  · skip
    replace hF := q_ifn hF c_2
    refine lv_aload_n hx hb dX12_doOne_21 rfl (lv_at hl 0 rfl) ?_
    refine lv_dup hx hb dX12_doOne_22 rfl ?_
    refine gs_X12_417_12 E hI ha dX12_doOne_23 ?_
    refine lv_topi (fun f_3 ef_3 => ?_)
    replace hF := q_letX hF ef_3
    have if_3 : f_3.toInt = (σ.1 a 40).toInt := congrArg Int32.toInt ef_3
    refine lv_iconst (v := 1) hx hb dX12_doOne_26 zki_1 ?_
    refine lv_iadd hx hb dX12_doOne_27 ?_
    refine lv_topi (fun z_4 ez_4 => ?_)
    replace hF := q_letX hF ez_4
    have iz_4 := q_addI (A := f_3.toInt) (B := 1) ez_4 rfl (by decide) (by first | (clear hf ht hn hs gσ w0σ dnσ k5σ hh hQ gc_2_f_1 c_2; omega) | omega) (by first | (clear hf ht hn hs gσ w0σ dnσ k5σ hh hQ gc_2_f_1 c_2; omega) | omega)
    refine ps_X12_417_12 E hI ha (by decide) dX12_doOne_28 (fun H locs σ_5 hσ_5 hI => ?_)
    replace hF := q_letX hF hσ_5
    have fr_σ_5 := fr_σ.si hσ_5 ha rfl
    have mv40_σ_5 : (σ_5.1 a 40).toInt = z_4.toInt := congrArg Int32.toInt (q_rd hσ_5)
    have mcσ_5 := m_wo hσ_5 (m_ne ha (q_tk (f := 20) (k' := 34) hI ha rfl (by decide)) (by decide))
    have gσ_5 : m_G (m_c X σ_5 a) := m_G.ext (fun j _ _ => mcσ_5 j) gσ
    have w0σ_5 : m_W (m_c X σ_5 a) (n + (σ.1 a 40).toInt) := m_W.ext (fun j _ _ => mcσ_5 j) w0σ
    have kqσ_5 : ∀ j, 654 ≤ j → m_c X σ_5 a j = m_c X σ a j := fun j h => (mcσ_5 j).trans (kqσ j h)
    have dnσ_5 : (σ.1 a 40).toInt ≤ (σ_5.1 a 40).toInt ∧ (σ_5.1 a 40).toInt ≤ 300 := (by first | (clear hf ht hn hs gσ w0σ dnσ k5σ hh hQ gc_2_f_1 gσ_5 w0σ_5; omega) | omega)
    have k5σ_5 : ∀ b g, q_kd X b = 35 → σ_5.1 b g = σ.1 b g := (fun b g q => (q_rdn hσ_5 (Or.inl (m_ne q ha (by decide)))).trans (k5σ b g q))
    have fxσ_5 : m_c X σ_5 a = m_c X σ a := (funext mcσ_5).trans fxσ
    refine lv_sipush (v := 656) hx hb dX12_doOne_31 zks_656 ?_
    refine lv_bipush (v := 9) hx hb dX12_doOne_34 zkb_9 ?_
    refine lv_iload_n hx hb dX12_doOne_36 rfl (lv_at hl 1 rfl) ?_
    refine lv_imul hx hb dX12_doOne_37 ?_
    refine lv_topi (fun z_6 ez_6 => ?_)
    replace hF := q_letX hF ez_6
    have iz_6 := q_mulI (A := 9) (B := v1.toInt) ez_6 (by decide) rfl (by first | (clear hf ht hn hd gσ w0σ dnσ k5σ hh hQ if_1 gc_2_f_1 c_2 if_3 iz_4 mv40_σ_5 gσ_5 w0σ_5 dnσ_5 k5σ_5; omega) | omega) (by first | (clear hf ht hn hd gσ w0σ dnσ k5σ hh if_1 gc_2_f_1 c_2 if_3 iz_4 mv40_σ_5 gσ_5 w0σ_5 dnσ_5 k5σ_5; omega) | omega)
    refine lv_iadd hx hb dX12_doOne_38 ?_
    refine lv_topi (fun z_7 ez_7 => ?_)
    replace hF := q_letX hF ez_7
    have iz_7 := q_addI (A := 656) (B := (9 * v1.toInt)) ez_7 (by decide) iz_6 (by first | (clear hf ht hn hd gσ w0σ dnσ k5σ hh hQ if_1 gc_2_f_1 c_2 if_3 iz_4 mv40_σ_5 gσ_5 w0σ_5 dnσ_5 k5σ_5 iz_6; omega) | omega) (by first | (clear hf ht hn hd gσ w0σ dnσ k5σ hh if_1 gc_2_f_1 c_2 if_3 iz_4 mv40_σ_5 gσ_5 w0σ_5 dnσ_5 k5σ_5 iz_6; omega) | omega)
    refine lv_istore_n (lv' := [(2, .int z_7), (0, .ref a), (1, .int v1)]) hx hb dX12_doOne_39 rfl hl (by decide) rfl (fun ls hl => ?_)
    refine lv_aload_n hx hb dX12_doOne_40 rfl (lv_at hl 1 rfl) ?_
    refine gs_X12_35_12 E hI ha dX12_doOne_41 ?_
    refine lv_iload_n hx hb dX12_doOne_44 rfl (lv_at hl 0 rfl) ?_
    refine q_iald E hI (q_tk (k' := 34) hI ha rfl (Nat.succ_ne_zero _)) ⟨by decide, rfl⟩ (by first | (clear hf ht hn hd gσ w0σ dnσ k5σ hh hQ if_1 gc_2_f_1 c_2 if_3 iz_4 mv40_σ_5 gσ_5 w0σ_5 dnσ_5 k5σ_5 iz_6; omega) | omega) (by rw [q_lnk (v := 4650) hI (q_tk (k' := 34) hI ha rfl (Nat.succ_ne_zero _)) rfl (by decide)]; omega) dX12_doOne_45 ?_
    refine lv_topi (fun f_8 ef_8 => ?_)
    replace hF := q_letX hF ef_8
    have if_8 : f_8.toInt = m_c X σ a (656 + (9 * v1.toInt)) := (m_rd ef_8 iz_7).trans (congrFun fxσ_5 _)
    refine lv_istore_n (lv' := [(3, .int f_8), (2, .int z_7), (0, .ref a), (1, .int v1)]) hx hb dX12_doOne_46 rfl hl (by decide) rfl (fun ls hl => ?_)
    refine lv_iload_n hx hb dX12_doOne_47 rfl (lv_at hl 0 rfl) ?_
    refine lv_iconst (v := 3) hx hb dX12_doOne_48 zki_3 ?_
    have gc_9_f_8 := q_rng f_8
    refine q_icmp_ge (A := f_8.toInt) (B := 3) E rfl (by decide) (tgt := 77) dX12_doOne_49 (by decide) (fun c_9 => ?_) (fun c_9 => ?_)
    · skip
      replace hF := q_ifn hF (Int.not_lt.mpr c_9)
      refine lv_iload_n hx hb dX12_doOne_77 rfl (lv_at hl 0 rfl) ?_
      refine lv_iconst (v := 3) hx hb dX12_doOne_78 zki_3 ?_
      have gc_10_f_8 := q_rng f_8
      refine q_icmp_ne (A := f_8.toInt) (B := 3) E rfl (by decide) (tgt := 109) dX12_doOne_79 (by decide) (fun c_10 => ?_) (fun c_10 => ?_)
      · skip
        replace hF := q_ifn hF c_10
        refine lv_iload_n hx hb dX12_doOne_109 rfl (lv_at hl 0 rfl) ?_
        refine lv_iconst (v := 4) hx hb dX12_doOne_110 zki_4 ?_
        have gc_11_f_8 := q_rng f_8
        refine q_icmp_ne (A := f_8.toInt) (B := 4) E rfl (by decide) (tgt := 162) dX12_doOne_111 (by decide) (fun c_11 => ?_) (fun c_11 => ?_)
        · skip
          replace hF := q_ifn hF c_11
          have wσ_5 : m_W (m_c X σ_5 a) (n + (σ_5.1 a 40).toInt) := m_W.le w0σ_5 (by first | (clear hf ht hn hd hs gσ w0σ dnσ k5σ hh hQ gc_2_f_1 c_2 gσ_5 w0σ_5 dnσ_5 k5σ_5 iz_6 iz_7 if_8 gc_9_f_8 c_9 gc_10_f_8 c_10 gc_11_f_8 c_11; omega) | omega)
          refine lv_iload_n hx hb dX12_doOne_162 rfl (lv_at hl 0 rfl) ?_
          refine lv_iconst (v := 4) hx hb dX12_doOne_163 zki_4 ?_
          have gc_12_f_8 := q_rng f_8
          refine q_icmp_le (A := f_8.toInt) (B := 4) E rfl (by decide) (tgt := 172) dX12_doOne_164 (by decide) (fun c_12 => ?_) (fun c_12 => ?_)
          · skip
            replace hF := q_ifn hF (Int.not_lt.mpr c_12)
            exact q_retv E hr hlk hI ⟨gσ_5, (by first | exact wσ_5 | exact m_W.le w0σ_5 (by omega)), kqσ_5, dnσ_5, k5σ_5, (hF.trans hout), fr_σ_5⟩ dX12_doOne_172
          · skip
            replace hF := q_ifp hF c_12
            refine lv_aload_n hx hb dX12_doOne_167 rfl (lv_at hl 2 rfl) ?_
            refine lv_iconst (v := 1) hx hb dX12_doOne_168 zki_1 ?_
            refine ps_X12_420_12 E hI ha (by decide) (by decide) (by decide) dX12_doOne_169 (fun H locs σ_13 hσ_13 hI => ?_)
            replace hF := q_letX hF hσ_13
            have fr_σ_13 := fr_σ_5.si hσ_13 ha rfl
            have mv40_σ_13 : (σ_13.1 a 40).toInt = (σ_5.1 a 40).toInt := congrArg Int32.toInt (q_rdn hσ_13 (Or.inr (by decide)))
            have mcσ_13 := m_wo hσ_13 (m_ne ha (q_tk (f := 20) (k' := 34) hI ha rfl (by decide)) (by decide))
            have gσ_13 : m_G (m_c X σ_13 a) := m_G.ext (fun j _ _ => mcσ_13 j) gσ_5
            have wσ_13 : m_W (m_c X σ_13 a) (n + (σ_13.1 a 40).toInt) := (m_W.le (m_W.ext (fun j _ _ => mcσ_13 j) wσ_5) (by first | (clear hf ht hn hd hs gσ w0σ dnσ k5σ hh hQ if_1 gc_2_f_1 c_2 if_3 iz_4 mv40_σ_5 gσ_5 w0σ_5 dnσ_5 k5σ_5 iz_6 iz_7 if_8 gc_9_f_8 c_9 gc_10_f_8 c_10 gc_11_f_8 c_11 wσ_5 gc_12_f_8 c_12 gσ_13; omega) | omega))
            have kqσ_13 : ∀ j, 654 ≤ j → m_c X σ_13 a j = m_c X σ a j := fun j h => (mcσ_13 j).trans (kqσ_5 j h)
            have dnσ_13 : (σ.1 a 40).toInt ≤ (σ_13.1 a 40).toInt ∧ (σ_13.1 a 40).toInt ≤ 300 := (by first | (clear hf ht hn hs gσ w0σ dnσ k5σ hh hQ gc_2_f_1 c_2 gσ_5 w0σ_5 k5σ_5 iz_6 iz_7 if_8 gc_9_f_8 c_9 gc_10_f_8 c_10 gc_11_f_8 c_11 wσ_5 gc_12_f_8 c_12 gσ_13 wσ_13; omega) | omega)
            have k5σ_13 : ∀ b g, q_kd X b = 35 → σ_13.1 b g = σ.1 b g := (fun b g q => (q_rdn hσ_13 (Or.inl (m_ne q ha (by decide)))).trans (k5σ_5 b g q))
            exact q_retv E hr hlk hI ⟨gσ_13, (by first | exact wσ_13 | exact m_W.le w0σ_13 (by omega)), kqσ_13, dnσ_13, k5σ_13, (hF.trans hout), fr_σ_13⟩ dX12_doOne_172
        · skip
          replace hF := q_ifp hF c_11
          have wσ_5 : m_W (m_c X σ_5 a) (n + (σ_5.1 a 40).toInt) := m_W.le w0σ_5 (by first | (clear hf ht hn hd hs gσ w0σ dnσ k5σ hh hQ gc_2_f_1 c_2 gσ_5 w0σ_5 dnσ_5 k5σ_5 iz_6 iz_7 if_8 gc_9_f_8 c_9 gc_10_f_8 c_10 gc_11_f_8 c_11; omega) | omega)
          refine lv_iconst (v := 0) hx hb dX12_doOne_114 zki_0 ?_
          refine lv_istore (lv' := [(4, .int 0), (3, .int f_8), (2, .int z_7), (0, .ref a), (1, .int v1)]) hx hb dX12_doOne_115 hl (by decide) rfl (fun ls hl => ?_)
          have L_117_16 : ∀ (k_16 : Nat) (x_14 : Int32) (σ_15 : ST) (H : Heap) (locs : List Loc) (ls : Array Slot), (2147483647 - x_14.toInt).toNat < k_16 → (q_ow [(12, 38), (12, 39), (12, 40), (12, 41), (12, 42), (12, 43), (12, 44), (12, 45), (34, 99), (39, 99)] [] X σ σ_15) → (m_G (m_c X σ_15 a)) → (m_W (m_c X σ_15 a) (n + (σ_15.1 a 40).toInt)) → (∀ j, 654 ≤ j → m_c X σ_15 a j = m_c X σ a j) → ((σ.1 a 40).toInt ≤ (σ_15.1 a 40).toInt ∧ (σ_15.1 a 40).toInt ≤ 300) → (∀ b g, q_kd X b = 35 → σ_15.1 b g = σ.1 b g) → (F_X12_doOne_s_L117_1 X z_7 a v1 FA k_16 x_14 σ_15 = out) → q_I X 1 σ s.heap locs σ_15 H → lv_has ls 5 [(0, .ref a), (1, .int v1), (2, .int z_7), (3, .int f_8), (4, .int x_14)] → W p l e (q_rm (8 + 2 * d) (181 + 47 * d)) s m ([.ref a, .int v1] : List Value).toArray below meth c H locs 0 0 (MQ below (q_Qv X 1 σ (fun (σ' : ST) => (m_G (m_c X σ' a)) ∧ (m_W (m_c X σ' a) (n + (σ'.1 a 40).toInt)) ∧ (∀ j, 654 ≤ j → m_c X σ' a j = m_c X σ a j) ∧ ((σ.1 a 40).toInt ≤ (σ'.1 a 40).toInt ∧ (σ'.1 a 40).toInt ≤ 300) ∧ (∀ b g, q_kd X b = 35 → σ'.1 b g = σ.1 b g) ∧ σ' = F_X12_doOne_s X σ a v1 FA ∧ q_ow [(12, 38), (12, 39), (12, 40), (12, 41), (12, 42), (12, 43), (12, 44), (12, 45), (34, 99), (39, 99)] [] X σ σ')) ([.ref a, .int v1] : List Value).toArray s 0 0 (q_reg X)) (F0 m 117 ls []) := by
            clear hF
            intro k_16
            induction k_16 with
            | zero =>
              intro x_14 σ_15 H locs ls hms
              exact absurd hms (Nat.not_lt_zero _)
            | succ k_16 ih117 =>
              intro x_14 σ_15 H locs ls hm117 fr_σ_15 gσ_15 wσ_15 kqσ_15 dnσ_15 k5σ_15 hF hI hl
              replace hF := (F_X12_doOne_s_L117_1_s).symm.trans hF
              unfold F_X12_doOne_s_B117_1 at hF
              have q1 := kqσ_15 (656 + 9 * v1.toInt + 1) (by first | (clear hf ht hn hd gσ w0σ dnσ k5σ hh hQ if_1 gc_2_f_1 c_2 if_3 iz_4 mv40_σ_5 gσ_5 w0σ_5 dnσ_5 k5σ_5 iz_6 iz_7 if_8 gc_9_f_8 c_9 gc_10_f_8 c_10 gc_11_f_8 c_11 wσ_5 hm117 gσ_15 wσ_15 dnσ_15 k5σ_15; omega) | omega)
              have q8 := kqσ_15 (656 + 9 * v1.toInt + 8) (by first | (clear hf ht hn hd gσ w0σ dnσ k5σ hh hQ if_1 gc_2_f_1 c_2 if_3 iz_4 mv40_σ_5 gσ_5 w0σ_5 dnσ_5 k5σ_5 iz_6 iz_7 if_8 gc_9_f_8 c_9 gc_10_f_8 c_10 gc_11_f_8 c_11 wσ_5 hm117 gσ_15 wσ_15 dnσ_15 k5σ_15; omega) | omega)
              refine lv_iload hx hb dX12_doOne_117 (lv_at hl 4 rfl) ?_
              refine lv_aload_n hx hb dX12_doOne_119 rfl (lv_at hl 0 rfl) ?_
              refine gs_X12_35_12 E hI ha dX12_doOne_120 ?_
              refine lv_iload_n hx hb dX12_doOne_123 rfl (lv_at hl 2 rfl) ?_
              refine lv_iconst (v := 1) hx hb dX12_doOne_124 zki_1 ?_
              refine lv_iadd hx hb dX12_doOne_125 ?_
              refine lv_topi (fun z_17 ez_17 => ?_)
              replace hF := q_letX hF ez_17
              have iz_17 := q_addI (A := (656 + (9 * v1.toInt))) (B := 1) ez_17 iz_7 (by decide) (by first | (clear hf ht hn hd gσ w0σ dnσ k5σ hh hQ if_1 gc_2_f_1 c_2 if_3 iz_4 mv40_σ_5 gσ_5 w0σ_5 dnσ_5 k5σ_5 iz_6 iz_7 if_8 gc_9_f_8 c_9 gc_10_f_8 c_10 gc_11_f_8 c_11 wσ_5 hm117 gσ_15 wσ_15 dnσ_15 k5σ_15; omega) | omega) (by first | (clear hf ht hn hd gσ w0σ dnσ k5σ hh if_1 gc_2_f_1 c_2 if_3 iz_4 mv40_σ_5 gσ_5 w0σ_5 dnσ_5 k5σ_5 iz_6 iz_7 if_8 gc_9_f_8 c_9 gc_10_f_8 c_10 gc_11_f_8 c_11 wσ_5 hm117 gσ_15 wσ_15 dnσ_15 k5σ_15; omega) | omega)
              refine q_iald E hI (q_tk (k' := 34) hI ha rfl (Nat.succ_ne_zero _)) ⟨by decide, rfl⟩ (by first | (clear hf ht hn hd gσ w0σ dnσ k5σ hh hQ if_1 gc_2_f_1 c_2 if_3 iz_4 mv40_σ_5 gσ_5 w0σ_5 dnσ_5 k5σ_5 iz_6 iz_7 if_8 gc_9_f_8 c_9 gc_10_f_8 c_10 gc_11_f_8 c_11 wσ_5 hm117 gσ_15 wσ_15 dnσ_15 k5σ_15; omega) | omega) (by rw [q_lnk (v := 4650) hI (q_tk (k' := 34) hI ha rfl (Nat.succ_ne_zero _)) rfl (by decide)]; omega) dX12_doOne_126 ?_
              refine lv_topi (fun f_18 ef_18 => ?_)
              replace hF := q_letX hF ef_18
              have if_18 : f_18.toInt = m_c X σ_15 a ((656 + (9 * v1.toInt)) + 1) := m_rd ef_18 iz_17
              have gc_19_x_14 := q_rng x_14
              have gc_19_f_18 := q_rng f_18
              refine q_icmp_ge (A := x_14.toInt) (B := f_18.toInt) E rfl rfl (tgt := 159) dX12_doOne_127 (by decide) (fun c_19 => ?_) (fun c_19 => ?_)
              · skip
                replace hF := q_ifn hF (Int.not_lt.mpr c_19)
                skip
                refine lv_goto (tgt := 172) hx hb dX12_doOne_159 (by decide) ?_
                exact q_retv E hr hlk hI ⟨gσ_15, (by first | exact wσ_15 | exact m_W.le w0σ_15 (by omega)), kqσ_15, dnσ_15, k5σ_15, (hF.trans hout), fr_σ_15⟩ dX12_doOne_172
              · skip
                replace hF := q_ifp hF c_19
                refine lv_aload_n hx hb dX12_doOne_130 rfl (lv_at hl 0 rfl) ?_
                refine gs_X12_420_12 E hI ha dX12_doOne_131 ?_
                refine lv_topi (fun f_20 ef_20 => ?_)
                replace hF := q_letX hF ef_20
                have if_20 : f_20.toInt = (σ_15.1 a 38).toInt := congrArg Int32.toInt ef_20
                have bf_20 : 0 ≤ f_20.toInt ∧ f_20.toInt ≤ 1 := by rw [ef_20]; exact q_bd hI ha rfl
                refine q_if_ne (A := f_20.toInt) E rfl (tgt := 159) dX12_doOne_134 (by decide) (fun c_21 => ?_) (fun c_21 => ?_)
                · skip
                  replace hF := q_ifn hF c_21
                  skip
                  refine lv_goto (tgt := 172) hx hb dX12_doOne_159 (by decide) ?_
                  exact q_retv E hr hlk hI ⟨gσ_15, (by first | exact wσ_15 | exact m_W.le w0σ_15 (by omega)), kqσ_15, dnσ_15, k5σ_15, (hF.trans hout), fr_σ_15⟩ dX12_doOne_172
                · skip
                  replace hF := q_ifp hF c_21
                  refine lv_aload_n hx hb dX12_doOne_137 rfl (lv_at hl 0 rfl) ?_
                  refine lv_iload_n hx hb dX12_doOne_138 rfl (lv_at hl 1 rfl) ?_
                  refine lv_iconst (v := 1) hx hb dX12_doOne_139 zki_1 ?_
                  refine lv_iadd hx hb dX12_doOne_140 ?_
                  refine lv_topi (fun z_22 ez_22 => ?_)
                  replace hF := q_letX hF ez_22
                  have iz_22 := q_addI (A := v1.toInt) (B := 1) ez_22 rfl (by decide) (by first | (clear hf ht hn hd gσ w0σ dnσ k5σ hh hQ if_1 gc_2_f_1 c_2 if_3 iz_4 mv40_σ_5 gσ_5 w0σ_5 dnσ_5 k5σ_5 iz_6 iz_7 if_8 gc_9_f_8 c_9 gc_10_f_8 c_10 gc_11_f_8 c_11 wσ_5 hm117 gσ_15 wσ_15 dnσ_15 k5σ_15 iz_17 if_18 gc_19_x_14 gc_19_f_18 c_19 if_20 bf_20 c_21; omega) | omega) (by first | (clear hf ht hn hd gσ w0σ dnσ k5σ hh if_1 gc_2_f_1 c_2 if_3 iz_4 mv40_σ_5 gσ_5 w0σ_5 dnσ_5 k5σ_5 iz_6 iz_7 if_8 gc_9_f_8 c_9 gc_10_f_8 c_10 gc_11_f_8 c_11 wσ_5 hm117 gσ_15 wσ_15 dnσ_15 k5σ_15 iz_17 if_18 gc_19_x_14 gc_19_f_18 c_19 if_20 bf_20 c_21; omega) | omega)
                  refine lv_aload_n hx hb dX12_doOne_141 rfl (lv_at hl 0 rfl) ?_
                  refine gs_X12_35_12 E hI ha dX12_doOne_142 ?_
                  refine lv_iload_n hx hb dX12_doOne_145 rfl (lv_at hl 2 rfl) ?_
                  refine lv_bipush (v := 8) hx hb dX12_doOne_146 zkb_8 ?_
                  refine lv_iadd hx hb dX12_doOne_148 ?_
                  refine lv_topi (fun z_23 ez_23 => ?_)
                  replace hF := q_letX hF ez_23
                  have iz_23 := q_addI (A := (656 + (9 * v1.toInt))) (B := 8) ez_23 iz_7 (by decide) (by first | (clear hf ht hn hd gσ w0σ dnσ k5σ hh hQ if_1 gc_2_f_1 c_2 if_3 iz_4 mv40_σ_5 gσ_5 w0σ_5 dnσ_5 k5σ_5 iz_6 iz_7 if_8 gc_9_f_8 c_9 gc_10_f_8 c_10 gc_11_f_8 c_11 wσ_5 hm117 gσ_15 wσ_15 dnσ_15 k5σ_15 iz_17 if_18 gc_19_x_14 gc_19_f_18 c_19 if_20 bf_20 c_21; omega) | omega) (by first | (clear hf ht hn hd gσ w0σ dnσ k5σ hh if_1 gc_2_f_1 c_2 if_3 iz_4 mv40_σ_5 gσ_5 w0σ_5 dnσ_5 k5σ_5 iz_6 iz_7 if_8 gc_9_f_8 c_9 gc_10_f_8 c_10 gc_11_f_8 c_11 wσ_5 hm117 gσ_15 wσ_15 dnσ_15 k5σ_15 iz_17 if_18 gc_19_x_14 gc_19_f_18 c_19 if_20 bf_20 c_21; omega) | omega)
                  refine q_iald E hI (q_tk (k' := 34) hI ha rfl (Nat.succ_ne_zero _)) ⟨by decide, rfl⟩ (by first | (clear hf ht hn hd gσ w0σ dnσ k5σ hh if_1 gc_2_f_1 c_2 if_3 iz_4 mv40_σ_5 gσ_5 w0σ_5 dnσ_5 k5σ_5 iz_6 iz_7 if_8 gc_9_f_8 c_9 gc_10_f_8 c_10 gc_11_f_8 c_11 wσ_5 hm117 gσ_15 wσ_15 dnσ_15 k5σ_15 iz_17 if_18 gc_19_x_14 gc_19_f_18 c_19 if_20 bf_20 c_21; omega) | omega) (by rw [q_lnk (v := 4650) hI (q_tk (k' := 34) hI ha rfl (Nat.succ_ne_zero _)) rfl (by decide)]; omega) dX12_doOne_149 ?_
                  refine lv_topi (fun f_24 ef_24 => ?_)
                  replace hF := q_letX hF ef_24
                  have if_24 : f_24.toInt = m_c X σ_15 a ((656 + (9 * v1.toInt)) + 8) := m_rd ef_24 iz_23
                  refine q_cv (q_runV (As := [.int z_22, .int f_24]) (rest := []) E (hml.trans hl.1.symm) hI (hA σ_15 z_22 f_24 gσ_15 wσ_15 (by omega) (by first | (clear hf ht hn hs gσ w0σ dnσ k5σ hh hQ gc_2_f_1 c_2 gσ_5 w0σ_5 k5σ_5 iz_6 iz_7 if_8 gc_9_f_8 c_9 gc_10_f_8 c_10 gc_11_f_8 c_11 wσ_5 hm117 gσ_15 wσ_15 k5σ_15 iz_17 if_18 gc_19_x_14 gc_19_f_18 c_19 if_20 bf_20 c_21 iz_22 iz_23 if_24; omega) | omega) (by first | (clear hf ht hn hd gσ w0σ dnσ k5σ hh hQ if_1 gc_2_f_1 c_2 if_3 iz_4 mv40_σ_5 gσ_5 w0σ_5 dnσ_5 k5σ_5 iz_6 iz_7 if_8 gc_9_f_8 c_9 gc_10_f_8 c_10 gc_11_f_8 c_11 wσ_5 hm117 gσ_15 wσ_15 dnσ_15 k5σ_15 iz_17 if_18 gc_19_x_14 gc_19_f_18 c_19 if_20 bf_20 c_21 iz_23 if_24; omega) | omega) (by rw [kqσ_15 655 (by decide)]; omega)) kv_X12_435 ha ⟨rfl, by decide⟩ (show vwCl[11]? = some (RX12, TX12, 46) from rfl) rfl (by constructor <;> (simp only [q_rm]; omega)) ⟨Nat.le_refl _, Nat.le_refl _⟩ rfl (Nat.le_of_ble_eq_true rfl) dX12_doOne_150) hI (Nat.le_of_ble_eq_true rfl) (fun σ_26 H locs hpσ_26 hkσ_26 hI => ?_)
                  have ahpσ_26 := hpσ_26.1
                  have bhpσ_26 := hpσ_26.2.1
                  have chpσ_26 := hpσ_26.2.2.1
                  have dhpσ_26 := hpσ_26.2.2.2.1
                  have ehpσ_26 := hpσ_26.2.2.2.2.1
                  have fhpσ_26 := hpσ_26.2.2.2.2.2.1
                  have ghpσ_26 := hpσ_26.2.2.2.2.2.2
                  clear hpσ_26
                  have fr_σ_26 := fr_σ_15.call ghpσ_26 rfl rfl
                  replace hF := q_letX hF fhpσ_26
                  have gσ_26 : m_G (m_c X σ_26 a) := ahpσ_26
                  have wσ_26 : m_W (m_c X σ_26 a) (n + (σ_26.1 a 40).toInt) := bhpσ_26
                  have kqσ_26 : ∀ j, 654 ≤ j → m_c X σ_26 a j = m_c X σ a j := (fun j h => (chpσ_26 j h).trans (kqσ_15 j h))
                  have dnσ_26 : (σ.1 a 40).toInt ≤ (σ_26.1 a 40).toInt ∧ (σ_26.1 a 40).toInt ≤ 300 := (by first | (clear hf ht hn hd hs gσ w0σ dnσ k5σ hh hQ gc_2_f_1 c_2 gσ_5 w0σ_5 dnσ_5 k5σ_5 iz_6 iz_7 if_8 gc_9_f_8 c_9 gc_10_f_8 c_10 gc_11_f_8 c_11 wσ_5 hm117 gσ_15 wσ_15 k5σ_15 iz_17 if_18 gc_19_x_14 gc_19_f_18 c_19 if_20 bf_20 c_21 iz_22 iz_23 if_24 ahpσ_26 bhpσ_26 chpσ_26 ehpσ_26 fhpσ_26 gσ_26 wσ_26; omega) | omega)
                  have k5σ_26 : ∀ b g, q_kd X b = 35 → σ_26.1 b g = σ.1 b g := (fun b g q => (ehpσ_26 b g q).trans (k5σ_15 b g q))
                  obtain ⟨z_27, ez_27⟩ : ∃ y : Int32, y = x_14 + 1 := ⟨_, rfl⟩
                  replace hF := q_letX hF ez_27
                  refine lv_iinc (v := z_27) (lv' := [(4, .int z_27), (0, .ref a), (1, .int v1), (2, .int z_7), (3, .int f_8)]) hx hb dX12_doOne_153 hl (k := 4) rfl (by rw [ez_27]; rfl) (by decide) rfl (fun ls hl => ?_)
                  have iz_27 : z_27.toInt = x_14.toInt + 1 := q_inc ez_27 (by first | (clear hf ht hn hd hs gσ w0σ dnσ k5σ hh hQ if_1 gc_2_f_1 c_2 if_3 iz_4 mv40_σ_5 gσ_5 w0σ_5 dnσ_5 k5σ_5 iz_6 iz_7 if_8 gc_9_f_8 c_9 gc_10_f_8 c_10 gc_11_f_8 c_11 wσ_5 hm117 gσ_15 wσ_15 dnσ_15 k5σ_15 iz_17 if_18 if_20 bf_20 c_21 iz_22 iz_23 if_24 ahpσ_26 bhpσ_26 chpσ_26 dhpσ_26 ehpσ_26 fhpσ_26 gσ_26 wσ_26 dnσ_26 k5σ_26; omega) | omega)
                  refine lv_goto (tgt := 117) hx hb dX12_doOne_156 (by decide) ?_
                  exact ih117 z_27 σ_26 _ _ ls (by first | (clear hf ht hn hd hs gσ w0σ dnσ k5σ hh hQ if_1 gc_2_f_1 c_2 if_3 iz_4 mv40_σ_5 gσ_5 w0σ_5 dnσ_5 k5σ_5 iz_6 iz_7 if_8 gc_9_f_8 c_9 gc_10_f_8 c_10 gc_11_f_8 c_11 wσ_5 gσ_15 wσ_15 dnσ_15 k5σ_15 iz_17 if_18 if_20 bf_20 c_21 iz_22 iz_23 if_24 ahpσ_26 bhpσ_26 chpσ_26 dhpσ_26 ehpσ_26 fhpσ_26 gσ_26 wσ_26 dnσ_26 k5σ_26; omega) | omega) fr_σ_26 gσ_26 wσ_26 kqσ_26 dnσ_26 k5σ_26 hF hI (lv_sub hl [1, 2, 3, 4, 0] rfl)
          have kc_28 : (0 : Int32).toInt = 0 := zt_0
          exact L_117_16 ((2147483647 - (0 : Int32).toInt).toNat + 1) 0 σ_5 _ _ ls (Nat.lt_succ_self _) fr_σ_5 gσ_5 wσ_5 kqσ_5 dnσ_5 k5σ_5 hF hI (lv_sub hl [3, 4, 2, 1, 0] rfl)
      · skip
        replace hF := q_ifp hF c_10
        refine lv_aload_n hx hb dX12_doOne_82 rfl (lv_at hl 2 rfl) ?_
        refine lv_iload_n hx hb dX12_doOne_83 rfl (lv_at hl 1 rfl) ?_
        refine q_ci (q_runV (As := [.int z_7]) (rest := []) E (hml.trans hl.1.symm) hI (c_X12_isSo l X σ_5 a z_7 ha (by rw [fxσ_5]; exact hG) (by first | (clear hf ht hn hd gσ w0σ dnσ k5σ hh if_1 gc_2_f_1 c_2 if_3 iz_4 mv40_σ_5 gσ_5 w0σ_5 dnσ_5 k5σ_5 iz_6 if_8 gc_9_f_8 c_9 gc_10_f_8 c_10; omega) | omega) (by rw [fxσ_5]; exact (by rw [iz_7]; exact ⟨s3 (by first | (clear hf ht hn hd hs gσ w0σ dnσ k5σ hh hQ if_1 gc_2_f_1 c_2 if_3 iz_4 mv40_σ_5 gσ_5 w0σ_5 dnσ_5 k5σ_5 iz_6 iz_7 gc_9_f_8 c_9 gc_10_f_8; omega) | omega), fun q => s2 (by first | (clear hf ht hn hd hs gσ w0σ dnσ k5σ hh hQ if_1 gc_2_f_1 c_2 if_3 iz_4 mv40_σ_5 gσ_5 w0σ_5 dnσ_5 k5σ_5 iz_6 iz_7 gc_9_f_8 c_9 gc_10_f_8; omega) | omega)⟩))) kv_X12_432 ha ⟨rfl, by decide⟩ (show vwCl[11]? = some (RX12, TX12, 46) from rfl) rfl (by constructor <;> (simp only [q_rm]; omega)) ⟨Nat.le_refl _, Nat.le_refl _⟩ rfl (Nat.le_of_ble_eq_true rfl) dX12_doOne_84) hI (Nat.le_of_ble_eq_true rfl) (fun r_29 σ_30 H locs hpσ_30 hkσ_30 hI => ?_)
        have ahpσ_30 := hpσ_30.1
        have bhpσ_30 := hpσ_30.2.1
        have chpσ_30 := hpσ_30.2.2
        clear hpσ_30
        replace hI := q_Irw ahpσ_30 hI
        replace hF := q_letX hF chpσ_30
        refine q_if_eq (A := r_29.toInt) E rfl (tgt := 109) dX12_doOne_87 (by decide) (fun c_31 => ?_) (fun c_31 => ?_)
        · skip
          replace hF := q_ifp hF c_31
          refine lv_iload_n hx hb dX12_doOne_109 rfl (lv_at hl 0 rfl) ?_
          refine lv_iconst (v := 4) hx hb dX12_doOne_110 zki_4 ?_
          have gc_32_f_8 := q_rng f_8
          refine q_icmp_ne (A := f_8.toInt) (B := 4) E rfl (by decide) (tgt := 162) dX12_doOne_111 (by decide) (fun c_32 => ?_) (fun c_32 => ?_)
          · skip
            replace hF := q_ifn hF c_32
            have wσ_5 : m_W (m_c X σ_5 a) (n + (σ_5.1 a 40).toInt) := m_W.le w0σ_5 (by first | (clear hf ht hn hd hs gσ w0σ dnσ k5σ hh hQ gc_2_f_1 c_2 gσ_5 w0σ_5 dnσ_5 k5σ_5 iz_6 iz_7 if_8 gc_9_f_8 c_9 gc_10_f_8 c_10 ahpσ_30 bhpσ_30 chpσ_30 c_31 gc_32_f_8 c_32; omega) | omega)
            refine lv_iload_n hx hb dX12_doOne_162 rfl (lv_at hl 0 rfl) ?_
            refine lv_iconst (v := 4) hx hb dX12_doOne_163 zki_4 ?_
            have gc_33_f_8 := q_rng f_8
            refine q_icmp_le (A := f_8.toInt) (B := 4) E rfl (by decide) (tgt := 172) dX12_doOne_164 (by decide) (fun c_33 => ?_) (fun c_33 => ?_)
            · skip
              replace hF := q_ifn hF (Int.not_lt.mpr c_33)
              exact q_retv E hr hlk hI ⟨gσ_5, (by first | exact wσ_5 | exact m_W.le w0σ_5 (by omega)), kqσ_5, dnσ_5, k5σ_5, (hF.trans hout), fr_σ_5⟩ dX12_doOne_172
            · skip
              replace hF := q_ifp hF c_33
              refine lv_aload_n hx hb dX12_doOne_167 rfl (lv_at hl 2 rfl) ?_
              refine lv_iconst (v := 1) hx hb dX12_doOne_168 zki_1 ?_
              refine ps_X12_420_12 E hI ha (by decide) (by decide) (by decide) dX12_doOne_169 (fun H locs σ_34 hσ_34 hI => ?_)
              replace hF := q_letX hF hσ_34
              have fr_σ_34 := fr_σ_5.si hσ_34 ha rfl
              have mv40_σ_34 : (σ_34.1 a 40).toInt = (σ_5.1 a 40).toInt := congrArg Int32.toInt (q_rdn hσ_34 (Or.inr (by decide)))
              have mcσ_34 := m_wo hσ_34 (m_ne ha (q_tk (f := 20) (k' := 34) hI ha rfl (by decide)) (by decide))
              have gσ_34 : m_G (m_c X σ_34 a) := m_G.ext (fun j _ _ => mcσ_34 j) gσ_5
              have wσ_34 : m_W (m_c X σ_34 a) (n + (σ_34.1 a 40).toInt) := (m_W.le (m_W.ext (fun j _ _ => mcσ_34 j) wσ_5) (by first | (clear hf ht hn hd hs gσ w0σ dnσ k5σ hh hQ if_1 gc_2_f_1 c_2 if_3 iz_4 mv40_σ_5 gσ_5 w0σ_5 dnσ_5 k5σ_5 iz_6 iz_7 if_8 gc_9_f_8 c_9 gc_10_f_8 ahpσ_30 bhpσ_30 chpσ_30 c_31 gc_32_f_8 c_32 wσ_5 gc_33_f_8 mv40_σ_34 gσ_34; omega) | omega))
              have kqσ_34 : ∀ j, 654 ≤ j → m_c X σ_34 a j = m_c X σ a j := fun j h => (mcσ_34 j).trans (kqσ_5 j h)
              have dnσ_34 : (σ.1 a 40).toInt ≤ (σ_34.1 a 40).toInt ∧ (σ_34.1 a 40).toInt ≤ 300 := (by first | (clear hf ht hn hd hs gσ w0σ dnσ k5σ hh hQ if_1 gc_2_f_1 c_2 if_3 iz_4 mv40_σ_5 gσ_5 w0σ_5 dnσ_5 k5σ_5 iz_6 iz_7 if_8 gc_9_f_8 c_9 gc_10_f_8 ahpσ_30 bhpσ_30 chpσ_30 c_31 gc_32_f_8 c_32 wσ_5 gc_33_f_8 mv40_σ_34 gσ_34 wσ_34; omega) | omega)
              have k5σ_34 : ∀ b g, q_kd X b = 35 → σ_34.1 b g = σ.1 b g := (fun b g q => (q_rdn hσ_34 (Or.inl (m_ne q ha (by decide)))).trans (k5σ_5 b g q))
              exact q_retv E hr hlk hI ⟨gσ_34, (by first | exact wσ_34 | exact m_W.le w0σ_34 (by omega)), kqσ_34, dnσ_34, k5σ_34, (hF.trans hout), fr_σ_34⟩ dX12_doOne_172
          · skip
            replace hF := q_ifp hF c_32
            have wσ_5 : m_W (m_c X σ_5 a) (n + (σ_5.1 a 40).toInt) := m_W.le w0σ_5 (by first | (clear hf ht hn hd hs gσ w0σ dnσ k5σ hh hQ if_1 gc_2_f_1 c_2 if_3 iz_4 mv40_σ_5 gσ_5 w0σ_5 dnσ_5 k5σ_5 iz_6 iz_7 if_8 gc_9_f_8 c_9 gc_10_f_8 ahpσ_30 bhpσ_30 chpσ_30 c_31 gc_32_f_8; omega) | omega)
            refine lv_iconst (v := 0) hx hb dX12_doOne_114 zki_0 ?_
            refine lv_istore (lv' := [(4, .int 0), (3, .int f_8), (2, .int z_7), (0, .ref a), (1, .int v1)]) hx hb dX12_doOne_115 hl (by decide) rfl (fun ls hl => ?_)
            have L_117_37 : ∀ (k_37 : Nat) (x_35 : Int32) (σ_36 : ST) (H : Heap) (locs : List Loc) (ls : Array Slot), (2147483647 - x_35.toInt).toNat < k_37 → (q_ow [(12, 38), (12, 39), (12, 40), (12, 41), (12, 42), (12, 43), (12, 44), (12, 45), (34, 99), (39, 99)] [] X σ σ_36) → (m_G (m_c X σ_36 a)) → (m_W (m_c X σ_36 a) (n + (σ_36.1 a 40).toInt)) → (∀ j, 654 ≤ j → m_c X σ_36 a j = m_c X σ a j) → ((σ.1 a 40).toInt ≤ (σ_36.1 a 40).toInt ∧ (σ_36.1 a 40).toInt ≤ 300) → (∀ b g, q_kd X b = 35 → σ_36.1 b g = σ.1 b g) → (F_X12_doOne_s_L117_4 X z_7 a v1 FA k_37 x_35 σ_36 = out) → q_I X 1 σ s.heap locs σ_36 H → lv_has ls 5 [(0, .ref a), (1, .int v1), (2, .int z_7), (3, .int f_8), (4, .int x_35)] → W p l e (q_rm (8 + 2 * d) (181 + 47 * d)) s m ([.ref a, .int v1] : List Value).toArray below meth c H locs 0 0 (MQ below (q_Qv X 1 σ (fun (σ' : ST) => (m_G (m_c X σ' a)) ∧ (m_W (m_c X σ' a) (n + (σ'.1 a 40).toInt)) ∧ (∀ j, 654 ≤ j → m_c X σ' a j = m_c X σ a j) ∧ ((σ.1 a 40).toInt ≤ (σ'.1 a 40).toInt ∧ (σ'.1 a 40).toInt ≤ 300) ∧ (∀ b g, q_kd X b = 35 → σ'.1 b g = σ.1 b g) ∧ σ' = F_X12_doOne_s X σ a v1 FA ∧ q_ow [(12, 38), (12, 39), (12, 40), (12, 41), (12, 42), (12, 43), (12, 44), (12, 45), (34, 99), (39, 99)] [] X σ σ')) ([.ref a, .int v1] : List Value).toArray s 0 0 (q_reg X)) (F0 m 117 ls []) := by
              clear hF
              intro k_37
              induction k_37 with
              | zero =>
                intro x_35 σ_36 H locs ls hms
                exact absurd hms (Nat.not_lt_zero _)
              | succ k_37 ih117 =>
                intro x_35 σ_36 H locs ls hm117 fr_σ_36 gσ_36 wσ_36 kqσ_36 dnσ_36 k5σ_36 hF hI hl
                replace hF := (F_X12_doOne_s_L117_4_s).symm.trans hF
                unfold F_X12_doOne_s_B117_4 at hF
                have q1 := kqσ_36 (656 + 9 * v1.toInt + 1) (by first | (clear hf ht hn hd hs gσ w0σ dnσ k5σ hh hQ if_1 gc_2_f_1 c_2 if_3 iz_4 mv40_σ_5 gσ_5 w0σ_5 dnσ_5 k5σ_5 iz_6 iz_7 if_8 gc_9_f_8 c_9 gc_10_f_8 ahpσ_30 bhpσ_30 chpσ_30 c_31 gc_32_f_8 wσ_5 hm117 gσ_36 wσ_36 dnσ_36 k5σ_36; omega) | omega)
                have q8 := kqσ_36 (656 + 9 * v1.toInt + 8) (by first | (clear hf ht hn hd hs gσ w0σ dnσ k5σ hh hQ if_1 gc_2_f_1 c_2 if_3 iz_4 mv40_σ_5 gσ_5 w0σ_5 dnσ_5 k5σ_5 iz_6 iz_7 if_8 gc_9_f_8 c_9 gc_10_f_8 ahpσ_30 bhpσ_30 chpσ_30 c_31 gc_32_f_8 wσ_5 hm117 gσ_36 wσ_36 dnσ_36 k5σ_36; omega) | omega)
                refine lv_iload hx hb dX12_doOne_117 (lv_at hl 4 rfl) ?_
                refine lv_aload_n hx hb dX12_doOne_119 rfl (lv_at hl 0 rfl) ?_
                refine gs_X12_35_12 E hI ha dX12_doOne_120 ?_
                refine lv_iload_n hx hb dX12_doOne_123 rfl (lv_at hl 2 rfl) ?_
                refine lv_iconst (v := 1) hx hb dX12_doOne_124 zki_1 ?_
                refine lv_iadd hx hb dX12_doOne_125 ?_
                refine lv_topi (fun z_38 ez_38 => ?_)
                replace hF := q_letX hF ez_38
                have iz_38 := q_addI (A := (656 + (9 * v1.toInt))) (B := 1) ez_38 iz_7 (by decide) (by first | (clear hf ht hn hd hs gσ w0σ dnσ k5σ hh hQ if_1 gc_2_f_1 c_2 if_3 iz_4 mv40_σ_5 gσ_5 w0σ_5 dnσ_5 k5σ_5 iz_6 iz_7 if_8 gc_9_f_8 c_9 gc_10_f_8 ahpσ_30 bhpσ_30 chpσ_30 c_31 gc_32_f_8 wσ_5 hm117 gσ_36 wσ_36 dnσ_36 k5σ_36; omega) | omega) (by first | (clear hf ht hn hd hs gσ w0σ dnσ k5σ hh hQ if_1 gc_2_f_1 c_2 if_3 iz_4 mv40_σ_5 gσ_5 w0σ_5 dnσ_5 k5σ_5 iz_6 iz_7 if_8 gc_9_f_8 c_9 gc_10_f_8 ahpσ_30 bhpσ_30 chpσ_30 c_31 gc_32_f_8 wσ_5 hm117 gσ_36 wσ_36 dnσ_36 k5σ_36; omega) | omega)
                refine q_iald E hI (q_tk (k' := 34) hI ha rfl (Nat.succ_ne_zero _)) ⟨by decide, rfl⟩ (by first | (clear hf ht hn hd hs gσ w0σ dnσ k5σ hh hQ if_1 gc_2_f_1 c_2 if_3 iz_4 mv40_σ_5 gσ_5 w0σ_5 dnσ_5 k5σ_5 iz_6 iz_7 if_8 gc_9_f_8 c_9 gc_10_f_8 ahpσ_30 bhpσ_30 chpσ_30 c_31 gc_32_f_8 wσ_5 hm117 gσ_36 wσ_36 dnσ_36 k5σ_36 iz_38; omega) | omega) (by rw [q_lnk (v := 4650) hI (q_tk (k' := 34) hI ha rfl (Nat.succ_ne_zero _)) rfl (by decide)]; omega) dX12_doOne_126 ?_
                refine lv_topi (fun f_39 ef_39 => ?_)
                replace hF := q_letX hF ef_39
                have if_39 : f_39.toInt = m_c X σ_36 a ((656 + (9 * v1.toInt)) + 1) := m_rd ef_39 iz_38
                have gc_40_x_35 := q_rng x_35
                have gc_40_f_39 := q_rng f_39
                refine q_icmp_ge (A := x_35.toInt) (B := f_39.toInt) E rfl rfl (tgt := 159) dX12_doOne_127 (by decide) (fun c_40 => ?_) (fun c_40 => ?_)
                · skip
                  replace hF := q_ifn hF (Int.not_lt.mpr c_40)
                  skip
                  refine lv_goto (tgt := 172) hx hb dX12_doOne_159 (by decide) ?_
                  exact q_retv E hr hlk hI ⟨gσ_36, (by first | exact wσ_36 | exact m_W.le w0σ_36 (by omega)), kqσ_36, dnσ_36, k5σ_36, (hF.trans hout), fr_σ_36⟩ dX12_doOne_172
                · skip
                  replace hF := q_ifp hF c_40
                  refine lv_aload_n hx hb dX12_doOne_130 rfl (lv_at hl 0 rfl) ?_
                  refine gs_X12_420_12 E hI ha dX12_doOne_131 ?_
                  refine lv_topi (fun f_41 ef_41 => ?_)
                  replace hF := q_letX hF ef_41
                  have if_41 : f_41.toInt = (σ_36.1 a 38).toInt := congrArg Int32.toInt ef_41
                  have bf_41 : 0 ≤ f_41.toInt ∧ f_41.toInt ≤ 1 := by rw [ef_41]; exact q_bd hI ha rfl
                  refine q_if_ne (A := f_41.toInt) E rfl (tgt := 159) dX12_doOne_134 (by decide) (fun c_42 => ?_) (fun c_42 => ?_)
                  · skip
                    replace hF := q_ifn hF c_42
                    skip
                    refine lv_goto (tgt := 172) hx hb dX12_doOne_159 (by decide) ?_
                    exact q_retv E hr hlk hI ⟨gσ_36, (by first | exact wσ_36 | exact m_W.le w0σ_36 (by omega)), kqσ_36, dnσ_36, k5σ_36, (hF.trans hout), fr_σ_36⟩ dX12_doOne_172
                  · skip
                    replace hF := q_ifp hF c_42
                    refine lv_aload_n hx hb dX12_doOne_137 rfl (lv_at hl 0 rfl) ?_
                    refine lv_iload_n hx hb dX12_doOne_138 rfl (lv_at hl 1 rfl) ?_
                    refine lv_iconst (v := 1) hx hb dX12_doOne_139 zki_1 ?_
                    refine lv_iadd hx hb dX12_doOne_140 ?_
                    refine lv_topi (fun z_43 ez_43 => ?_)
                    replace hF := q_letX hF ez_43
                    have iz_43 := q_addI (A := v1.toInt) (B := 1) ez_43 rfl (by decide) (by first | (clear hf ht hn hd hs gσ w0σ dnσ k5σ hh hQ if_1 gc_2_f_1 c_2 if_3 iz_4 mv40_σ_5 gσ_5 w0σ_5 dnσ_5 k5σ_5 iz_6 iz_7 if_8 gc_9_f_8 c_9 gc_10_f_8 ahpσ_30 bhpσ_30 chpσ_30 c_31 gc_32_f_8 wσ_5 hm117 gσ_36 wσ_36 dnσ_36 k5σ_36 iz_38 if_39 gc_40_x_35 gc_40_f_39 c_40 if_41 bf_41 c_42; omega) | omega) (by first | (clear hf ht hn hd hs gσ w0σ dnσ k5σ hh hQ if_1 gc_2_f_1 c_2 if_3 iz_4 mv40_σ_5 gσ_5 w0σ_5 dnσ_5 k5σ_5 iz_6 iz_7 if_8 gc_9_f_8 c_9 gc_10_f_8 ahpσ_30 bhpσ_30 chpσ_30 c_31 gc_32_f_8 wσ_5 hm117 gσ_36 wσ_36 dnσ_36 k5σ_36 iz_38 if_39 gc_40_x_35 gc_40_f_39 c_40 if_41 bf_41 c_42; omega) | omega)
                    refine lv_aload_n hx hb dX12_doOne_141 rfl (lv_at hl 0 rfl) ?_
                    refine gs_X12_35_12 E hI ha dX12_doOne_142 ?_
                    refine lv_iload_n hx hb dX12_doOne_145 rfl (lv_at hl 2 rfl) ?_
                    refine lv_bipush (v := 8) hx hb dX12_doOne_146 zkb_8 ?_
                    refine lv_iadd hx hb dX12_doOne_148 ?_
                    refine lv_topi (fun z_44 ez_44 => ?_)
                    replace hF := q_letX hF ez_44
                    have iz_44 := q_addI (A := (656 + (9 * v1.toInt))) (B := 8) ez_44 iz_7 (by decide) (by first | (clear hf ht hn hd hs gσ w0σ dnσ k5σ hh hQ if_1 gc_2_f_1 c_2 if_3 iz_4 mv40_σ_5 gσ_5 w0σ_5 dnσ_5 k5σ_5 iz_6 iz_7 if_8 gc_9_f_8 c_9 gc_10_f_8 ahpσ_30 bhpσ_30 chpσ_30 c_31 gc_32_f_8 wσ_5 hm117 gσ_36 wσ_36 dnσ_36 k5σ_36 iz_38 if_39 gc_40_x_35 gc_40_f_39 c_40 if_41 bf_41 c_42 iz_43; omega) | omega) (by first | (clear hf ht hn hd hs gσ w0σ dnσ k5σ hh hQ if_1 gc_2_f_1 c_2 if_3 iz_4 mv40_σ_5 gσ_5 w0σ_5 dnσ_5 k5σ_5 iz_6 iz_7 if_8 gc_9_f_8 c_9 gc_10_f_8 ahpσ_30 bhpσ_30 chpσ_30 c_31 gc_32_f_8 wσ_5 hm117 gσ_36 wσ_36 dnσ_36 k5σ_36 iz_38 if_39 gc_40_x_35 gc_40_f_39 c_40 if_41 bf_41 c_42 iz_43; omega) | omega)
                    refine q_iald E hI (q_tk (k' := 34) hI ha rfl (Nat.succ_ne_zero _)) ⟨by decide, rfl⟩ (by first | (clear hf ht hn hd hs gσ w0σ dnσ k5σ hh hQ if_1 gc_2_f_1 c_2 if_3 iz_4 mv40_σ_5 gσ_5 w0σ_5 dnσ_5 k5σ_5 iz_6 iz_7 if_8 gc_9_f_8 c_9 gc_10_f_8 ahpσ_30 bhpσ_30 chpσ_30 c_31 gc_32_f_8 wσ_5 hm117 gσ_36 wσ_36 dnσ_36 k5σ_36 iz_38 if_39 gc_40_x_35 gc_40_f_39 c_40 if_41 bf_41 c_42 iz_43 iz_44; omega) | omega) (by rw [q_lnk (v := 4650) hI (q_tk (k' := 34) hI ha rfl (Nat.succ_ne_zero _)) rfl (by decide)]; omega) dX12_doOne_149 ?_
                    refine lv_topi (fun f_45 ef_45 => ?_)
                    replace hF := q_letX hF ef_45
                    have if_45 : f_45.toInt = m_c X σ_36 a ((656 + (9 * v1.toInt)) + 8) := m_rd ef_45 iz_44
                    refine q_cv (q_runV (As := [.int z_43, .int f_45]) (rest := []) E (hml.trans hl.1.symm) hI (hA σ_36 z_43 f_45 gσ_36 wσ_36 (by omega) (by first | (clear hf ht hn hd hs gσ w0σ dnσ k5σ hh hQ if_1 gc_2_f_1 c_2 if_3 iz_4 mv40_σ_5 gσ_5 w0σ_5 dnσ_5 k5σ_5 iz_6 iz_7 if_8 gc_9_f_8 c_9 gc_10_f_8 ahpσ_30 bhpσ_30 chpσ_30 c_31 gc_32_f_8 wσ_5 hm117 gσ_36 wσ_36 dnσ_36 k5σ_36 iz_38 if_39 gc_40_x_35 gc_40_f_39 c_40 if_41 bf_41 c_42 iz_43 iz_44 if_45; omega) | omega) (by first | (clear hf ht hn hd hs gσ w0σ dnσ k5σ hh hQ if_1 gc_2_f_1 c_2 if_3 iz_4 mv40_σ_5 gσ_5 w0σ_5 dnσ_5 k5σ_5 iz_6 iz_7 if_8 gc_9_f_8 c_9 gc_10_f_8 ahpσ_30 bhpσ_30 chpσ_30 c_31 gc_32_f_8 wσ_5 hm117 gσ_36 wσ_36 dnσ_36 k5σ_36 iz_38 if_39 gc_40_x_35 gc_40_f_39 c_40 if_41 bf_41 c_42 iz_43 iz_44 if_45; omega) | omega) (by rw [kqσ_36 655 (by decide)]; omega)) kv_X12_435 ha ⟨rfl, by decide⟩ (show vwCl[11]? = some (RX12, TX12, 46) from rfl) rfl (by constructor <;> (simp only [q_rm]; omega)) ⟨Nat.le_refl _, Nat.le_refl _⟩ rfl (Nat.le_of_ble_eq_true rfl) dX12_doOne_150) hI (Nat.le_of_ble_eq_true rfl) (fun σ_47 H locs hpσ_47 hkσ_47 hI => ?_)
                    have ahpσ_47 := hpσ_47.1
                    have bhpσ_47 := hpσ_47.2.1
                    have chpσ_47 := hpσ_47.2.2.1
                    have dhpσ_47 := hpσ_47.2.2.2.1
                    have ehpσ_47 := hpσ_47.2.2.2.2.1
                    have fhpσ_47 := hpσ_47.2.2.2.2.2.1
                    have ghpσ_47 := hpσ_47.2.2.2.2.2.2
                    clear hpσ_47
                    have fr_σ_47 := fr_σ_36.call ghpσ_47 rfl rfl
                    replace hF := q_letX hF fhpσ_47
                    have gσ_47 : m_G (m_c X σ_47 a) := ahpσ_47
                    have wσ_47 : m_W (m_c X σ_47 a) (n + (σ_47.1 a 40).toInt) := bhpσ_47
                    have kqσ_47 : ∀ j, 654 ≤ j → m_c X σ_47 a j = m_c X σ a j := (fun j h => (chpσ_47 j h).trans (kqσ_36 j h))
                    have dnσ_47 : (σ.1 a 40).toInt ≤ (σ_47.1 a 40).toInt ∧ (σ_47.1 a 40).toInt ≤ 300 := (by first | (clear hf ht hn hd hs gσ w0σ dnσ k5σ hh hQ if_1 gc_2_f_1 c_2 if_3 iz_4 mv40_σ_5 gσ_5 w0σ_5 dnσ_5 k5σ_5 iz_6 iz_7 if_8 gc_9_f_8 c_9 gc_10_f_8 ahpσ_30 bhpσ_30 chpσ_30 c_31 gc_32_f_8 wσ_5 hm117 gσ_36 wσ_36 dnσ_36 k5σ_36 iz_38 if_39 gc_40_x_35 gc_40_f_39 c_40 if_41 bf_41 c_42 iz_43 iz_44 if_45 ahpσ_47 bhpσ_47 chpσ_47 dhpσ_47 ehpσ_47 fhpσ_47 gσ_47 wσ_47; omega) | omega)
                    have k5σ_47 : ∀ b g, q_kd X b = 35 → σ_47.1 b g = σ.1 b g := (fun b g q => (ehpσ_47 b g q).trans (k5σ_36 b g q))
                    obtain ⟨z_48, ez_48⟩ : ∃ y : Int32, y = x_35 + 1 := ⟨_, rfl⟩
                    replace hF := q_letX hF ez_48
                    refine lv_iinc (v := z_48) (lv' := [(4, .int z_48), (0, .ref a), (1, .int v1), (2, .int z_7), (3, .int f_8)]) hx hb dX12_doOne_153 hl (k := 4) rfl (by rw [ez_48]; rfl) (by decide) rfl (fun ls hl => ?_)
                    have iz_48 : z_48.toInt = x_35.toInt + 1 := q_inc ez_48 (by first | (clear hf ht hn hd hs gσ w0σ dnσ k5σ hh hQ if_1 gc_2_f_1 c_2 if_3 iz_4 mv40_σ_5 gσ_5 w0σ_5 dnσ_5 k5σ_5 iz_6 iz_7 if_8 gc_9_f_8 c_9 gc_10_f_8 ahpσ_30 bhpσ_30 chpσ_30 c_31 gc_32_f_8 wσ_5 hm117 gσ_36 wσ_36 dnσ_36 k5σ_36 iz_38 if_39 gc_40_x_35 gc_40_f_39 c_40 if_41 bf_41 c_42 iz_43 iz_44 if_45 ahpσ_47 bhpσ_47 chpσ_47 dhpσ_47 ehpσ_47 fhpσ_47 gσ_47 wσ_47 dnσ_47 k5σ_47; omega) | omega)
                    refine lv_goto (tgt := 117) hx hb dX12_doOne_156 (by decide) ?_
                    exact ih117 z_48 σ_47 _ _ ls (by first | (clear hf ht hn hd hs gσ w0σ dnσ k5σ hh hQ if_1 gc_2_f_1 c_2 if_3 iz_4 mv40_σ_5 gσ_5 w0σ_5 dnσ_5 k5σ_5 iz_6 iz_7 if_8 gc_9_f_8 c_9 gc_10_f_8 ahpσ_30 bhpσ_30 chpσ_30 c_31 gc_32_f_8 wσ_5 hm117 gσ_36 wσ_36 dnσ_36 k5σ_36 iz_38 if_39 gc_40_x_35 gc_40_f_39 c_40 if_41 bf_41 c_42 iz_43 iz_44 if_45 ahpσ_47 bhpσ_47 chpσ_47 dhpσ_47 ehpσ_47 fhpσ_47 gσ_47 wσ_47 dnσ_47 k5σ_47 iz_48; omega) | omega) fr_σ_47 gσ_47 wσ_47 kqσ_47 dnσ_47 k5σ_47 hF hI (lv_sub hl [1, 2, 3, 4, 0] rfl)
            have kc_49 : (0 : Int32).toInt = 0 := zt_0
            exact L_117_37 ((2147483647 - (0 : Int32).toInt).toNat + 1) 0 σ_5 _ _ ls (Nat.lt_succ_self _) fr_σ_5 gσ_5 wσ_5 kqσ_5 dnσ_5 k5σ_5 hF hI (lv_sub hl [3, 4, 2, 1, 0] rfl)
        · skip
          replace hF := q_ifn hF c_31
          replace c_31 := q_ifOne bhpσ_30 c_31
          have wσ_5 : m_W (m_c X σ_5 a) (n + (σ_5.1 a 40).toInt) := m_W.le w0σ_5 (by first | (clear hf ht hn hd hs gσ w0σ dnσ k5σ hh hQ gc_2_f_1 c_2 gσ_5 w0σ_5 dnσ_5 k5σ_5 iz_6 iz_7 if_8 gc_9_f_8 c_9 gc_10_f_8 c_10 ahpσ_30 bhpσ_30 chpσ_30 c_31; omega) | omega)
          have q8 := kqσ_5 (656 + 9 * v1.toInt + 8) (by first | (clear hf ht hn hd gσ w0σ dnσ k5σ hh hQ if_1 gc_2_f_1 c_2 if_3 iz_4 mv40_σ_5 gσ_5 w0σ_5 dnσ_5 k5σ_5 iz_6 iz_7 if_8 gc_9_f_8 c_9 gc_10_f_8 c_10 ahpσ_30 bhpσ_30 chpσ_30 c_31 wσ_5; omega) | omega)
          refine lv_aload_n hx hb dX12_doOne_90 rfl (lv_at hl 2 rfl) ?_
          refine lv_iload_n hx hb dX12_doOne_91 rfl (lv_at hl 3 rfl) ?_
          refine lv_iconst (v := 1) hx hb dX12_doOne_92 zki_1 ?_
          refine lv_iadd hx hb dX12_doOne_93 ?_
          refine lv_topi (fun z_50 ez_50 => ?_)
          replace hF := q_letX hF ez_50
          have iz_50 := q_addI (A := v1.toInt) (B := 1) ez_50 rfl (by decide) (by first | (clear hf ht hn hd gσ w0σ dnσ k5σ hh hQ if_1 gc_2_f_1 c_2 if_3 iz_4 mv40_σ_5 gσ_5 w0σ_5 dnσ_5 k5σ_5 iz_6 iz_7 if_8 gc_9_f_8 c_9 gc_10_f_8 c_10 ahpσ_30 bhpσ_30 chpσ_30 c_31 wσ_5; omega) | omega) (by first | (clear hf ht hn hd gσ w0σ dnσ k5σ hh if_1 gc_2_f_1 c_2 if_3 iz_4 mv40_σ_5 gσ_5 w0σ_5 dnσ_5 k5σ_5 iz_6 iz_7 if_8 gc_9_f_8 c_9 gc_10_f_8 c_10 ahpσ_30 bhpσ_30 chpσ_30 c_31 wσ_5; omega) | omega)
          refine lv_aload_n hx hb dX12_doOne_94 rfl (lv_at hl 2 rfl) ?_
          refine gs_X12_35_12 E hI ha dX12_doOne_95 ?_
          refine lv_iload_n hx hb dX12_doOne_98 rfl (lv_at hl 1 rfl) ?_
          refine lv_bipush (v := 8) hx hb dX12_doOne_99 zkb_8 ?_
          refine lv_iadd hx hb dX12_doOne_101 ?_
          refine lv_topi (fun z_51 ez_51 => ?_)
          replace hF := q_letX hF ez_51
          have iz_51 := q_addI (A := (656 + (9 * v1.toInt))) (B := 8) ez_51 iz_7 (by decide) (by first | (clear hf ht hn hd gσ w0σ dnσ k5σ hh hQ if_1 gc_2_f_1 c_2 if_3 iz_4 mv40_σ_5 gσ_5 w0σ_5 dnσ_5 k5σ_5 iz_6 iz_7 if_8 gc_9_f_8 c_9 gc_10_f_8 c_10 ahpσ_30 bhpσ_30 chpσ_30 c_31 wσ_5; omega) | omega) (by first | (clear hf ht hn hd gσ w0σ dnσ k5σ hh if_1 gc_2_f_1 c_2 if_3 iz_4 mv40_σ_5 gσ_5 w0σ_5 dnσ_5 k5σ_5 iz_6 iz_7 if_8 gc_9_f_8 c_9 gc_10_f_8 c_10 ahpσ_30 bhpσ_30 chpσ_30 c_31 wσ_5; omega) | omega)
          refine q_iald E hI (q_tk (k' := 34) hI ha rfl (Nat.succ_ne_zero _)) ⟨by decide, rfl⟩ (by first | (clear hf ht hn hd gσ w0σ dnσ k5σ hh if_1 gc_2_f_1 c_2 if_3 iz_4 mv40_σ_5 gσ_5 w0σ_5 dnσ_5 k5σ_5 iz_6 iz_7 if_8 gc_9_f_8 c_9 gc_10_f_8 c_10 ahpσ_30 bhpσ_30 chpσ_30 c_31 wσ_5; omega) | omega) (by rw [q_lnk (v := 4650) hI (q_tk (k' := 34) hI ha rfl (Nat.succ_ne_zero _)) rfl (by decide)]; omega) dX12_doOne_102 ?_
          refine lv_topi (fun f_52 ef_52 => ?_)
          replace hF := q_letX hF ef_52
          have if_52 : f_52.toInt = m_c X σ_5 a ((656 + (9 * v1.toInt)) + 8) := m_rd ef_52 iz_51
          refine q_cv (q_runV (As := [.int z_50, .int f_52]) (rest := []) E (hml.trans hl.1.symm) hI (hA σ_5 z_50 f_52 gσ_5 wσ_5 (by omega) (by first | (clear hf ht hn hs gσ w0σ dnσ k5σ hh hQ gc_2_f_1 c_2 gσ_5 w0σ_5 k5σ_5 iz_6 iz_7 if_8 gc_9_f_8 c_9 gc_10_f_8 c_10 ahpσ_30 bhpσ_30 chpσ_30 c_31 wσ_5 iz_50 iz_51 if_52; omega) | omega) (by first | (clear hf ht hn hd gσ w0σ dnσ k5σ hh hQ if_1 gc_2_f_1 c_2 if_3 iz_4 mv40_σ_5 gσ_5 w0σ_5 dnσ_5 k5σ_5 iz_6 iz_7 if_8 gc_9_f_8 c_9 gc_10_f_8 c_10 ahpσ_30 bhpσ_30 chpσ_30 c_31 wσ_5 iz_51 if_52; omega) | omega) (by rw [kqσ_5 655 (by decide)]; omega)) kv_X12_435 ha ⟨rfl, by decide⟩ (show vwCl[11]? = some (RX12, TX12, 46) from rfl) rfl (by constructor <;> (simp only [q_rm]; omega)) ⟨Nat.le_refl _, Nat.le_refl _⟩ rfl (Nat.le_of_ble_eq_true rfl) dX12_doOne_103) hI (Nat.le_of_ble_eq_true rfl) (fun σ_54 H locs hpσ_54 hkσ_54 hI => ?_)
          have ahpσ_54 := hpσ_54.1
          have bhpσ_54 := hpσ_54.2.1
          have chpσ_54 := hpσ_54.2.2.1
          have dhpσ_54 := hpσ_54.2.2.2.1
          have ehpσ_54 := hpσ_54.2.2.2.2.1
          have fhpσ_54 := hpσ_54.2.2.2.2.2.1
          have ghpσ_54 := hpσ_54.2.2.2.2.2.2
          clear hpσ_54
          have fr_σ_54 := fr_σ_5.call ghpσ_54 rfl rfl
          replace hF := q_letX hF fhpσ_54
          have gσ_54 : m_G (m_c X σ_54 a) := ahpσ_54
          have wσ_54 : m_W (m_c X σ_54 a) (n + (σ_54.1 a 40).toInt) := bhpσ_54
          have kqσ_54 : ∀ j, 654 ≤ j → m_c X σ_54 a j = m_c X σ a j := (fun j h => (chpσ_54 j h).trans (kqσ_5 j h))
          have dnσ_54 : (σ.1 a 40).toInt ≤ (σ_54.1 a 40).toInt ∧ (σ_54.1 a 40).toInt ≤ 300 := (by first | (clear hf ht hn hd hs gσ w0σ dnσ k5σ hh hQ gc_2_f_1 c_2 gσ_5 w0σ_5 dnσ_5 k5σ_5 iz_6 iz_7 if_8 gc_9_f_8 c_9 gc_10_f_8 c_10 ahpσ_30 bhpσ_30 chpσ_30 c_31 wσ_5 iz_50 iz_51 if_52 ahpσ_54 bhpσ_54 chpσ_54 ehpσ_54 fhpσ_54 gσ_54 wσ_54; omega) | omega)
          have k5σ_54 : ∀ b g, q_kd X b = 35 → σ_54.1 b g = σ.1 b g := (fun b g q => (ehpσ_54 b g q).trans (k5σ_5 b g q))
          refine lv_goto (tgt := 172) hx hb dX12_doOne_106 (by decide) ?_
          exact q_retv E hr hlk hI ⟨gσ_54, (by first | exact wσ_54 | exact m_W.le w0σ_54 (by omega)), kqσ_54, dnσ_54, k5σ_54, (hF.trans hout), fr_σ_54⟩ dX12_doOne_172
    · skip
      replace hF := q_ifp hF c_9
      refine lv_aload_n hx hb dX12_doOne_52 rfl (lv_at hl 2 rfl) ?_
      refine lv_dup hx hb dX12_doOne_53 rfl ?_
      refine gs_X12_426_12 E hI ha dX12_doOne_54 ?_
      refine lv_topi (fun f_55 ef_55 => ?_)
      replace hF := q_letX hF ef_55
      have if_55 : f_55.toInt = (σ_5.1 a 41).toInt := congrArg Int32.toInt ef_55
      refine lv_aload_n hx hb dX12_doOne_57 rfl (lv_at hl 2 rfl) ?_
      refine lv_iload_n hx hb dX12_doOne_58 rfl (lv_at hl 1 rfl) ?_
      refine q_ci (q_runV (As := [.int z_7]) (rest := [.int f_55, .ref a]) E (hml.trans hl.1.symm) hI (c_X12_does l X σ_5 a z_7 (n + (σ.1 a 40).toInt) ha (by rw [fxσ_5]; exact hG) (by rw [fxσ_5]; exact hW) (by first | (clear hf ht hs gσ w0σ dnσ k5σ hh hQ gc_2_f_1 c_2 gσ_5 w0σ_5 k5σ_5 iz_6 iz_7 if_8 gc_9_f_8 c_9 if_55; omega) | omega) (by first | (clear hf ht hn hd gσ w0σ dnσ k5σ hh if_1 gc_2_f_1 c_2 if_3 iz_4 mv40_σ_5 gσ_5 w0σ_5 dnσ_5 k5σ_5 iz_6 if_8 gc_9_f_8 c_9 if_55; omega) | omega) (by rw [fxσ_5]; exact (by rw [iz_7]; omega)) (by rw [fxσ_5]; exact (by rw [iz_7]; omega))) kv_X12_429 ha ⟨rfl, by decide⟩ (show vwCl[11]? = some (RX12, TX12, 46) from rfl) rfl (by constructor <;> (simp only [q_rm]; omega)) ⟨Nat.le_refl _, Nat.le_refl _⟩ rfl (Nat.le_of_ble_eq_true rfl) dX12_doOne_59) hI (Nat.le_of_ble_eq_true rfl) (fun r_56 σ_57 H locs hpσ_57 hkσ_57 hI => ?_)
      have ahpσ_57 := hpσ_57.1
      have bhpσ_57 := hpσ_57.2.1
      have chpσ_57 := hpσ_57.2.2.1
      have dhpσ_57 := hpσ_57.2.2.2.1
      have ehpσ_57 := hpσ_57.2.2.2.2.1
      have fhpσ_57 := hpσ_57.2.2.2.2.2.1
      have ghpσ_57 := hpσ_57.2.2.2.2.2.2
      clear hpσ_57
      rw [fxσ_5] at dhpσ_57
      have fr_σ_57 := fr_σ_5.call ghpσ_57 rfl rfl
      replace hF := q_biX hF fhpσ_57
      have gσ_57 : m_G (m_c X σ_57 a) := bhpσ_57
      have wσ_57 : m_W (m_c X σ_57 a) (n + (σ_57.1 a 40).toInt) := (m_W.le chpσ_57 (by have q := congrArg Int32.toInt (ehpσ_57 a 40 (Or.inr ⟨ha, rfl⟩)); omega))
      have kqσ_57 : ∀ j, 654 ≤ j → m_c X σ_57 a j = m_c X σ a j := dhpσ_57
      have dnσ_57 : (σ.1 a 40).toInt ≤ (σ_57.1 a 40).toInt ∧ (σ_57.1 a 40).toInt ≤ 300 := (by have q := congrArg Int32.toInt (ehpσ_57 a 40 (Or.inr ⟨ha, rfl⟩)); omega)
      have k5σ_57 : ∀ b g, q_kd X b = 35 → σ_57.1 b g = σ.1 b g := (fun b g q => (ehpσ_57 b g (Or.inl q)).trans (k5σ_5 b g q))
      refine q_if_eq (A := r_56.toInt) E rfl (tgt := 69) dX12_doOne_62 (by decide) (fun c_58 => ?_) (fun c_58 => ?_)
      · skip
        replace hF := q_ifp hF c_58
        refine lv_iconst (v := 1) hx hb dX12_doOne_69 zki_1 ?_
        refine lv_iadd hx hb dX12_doOne_70 ?_
        refine lv_topi (fun z_59 ez_59 => ?_)
        replace hF := q_letX hF ez_59
        refine ps_X12_426_12 E hI ha (by decide) dX12_doOne_71 (fun H locs σ_60 hσ_60 hI => ?_)
        replace hF := q_letX hF hσ_60
        have fr_σ_60 := fr_σ_57.si hσ_60 ha rfl
        have mv40_σ_60 : (σ_60.1 a 40).toInt = (σ_57.1 a 40).toInt := congrArg Int32.toInt (q_rdn hσ_60 (Or.inr (by decide)))
        have mcσ_60 := m_wo hσ_60 (m_ne ha (q_tk (f := 20) (k' := 34) hI ha rfl (by decide)) (by decide))
        have gσ_60 : m_G (m_c X σ_60 a) := m_G.ext (fun j _ _ => mcσ_60 j) gσ_57
        have wσ_60 : m_W (m_c X σ_60 a) (n + (σ_60.1 a 40).toInt) := (m_W.le (m_W.ext (fun j _ _ => mcσ_60 j) wσ_57) (by first | (clear hf ht hn hd hs gσ w0σ dnσ k5σ hh hQ if_1 gc_2_f_1 c_2 if_3 iz_4 mv40_σ_5 gσ_5 w0σ_5 dnσ_5 k5σ_5 iz_6 iz_7 if_8 gc_9_f_8 c_9 if_55 ahpσ_57 bhpσ_57 chpσ_57 dhpσ_57 ehpσ_57 fhpσ_57 gσ_57 wσ_57 dnσ_57 k5σ_57 c_58 gσ_60; omega) | omega))
        have kqσ_60 : ∀ j, 654 ≤ j → m_c X σ_60 a j = m_c X σ a j := fun j h => (mcσ_60 j).trans (kqσ_57 j h)
        have dnσ_60 : (σ.1 a 40).toInt ≤ (σ_60.1 a 40).toInt ∧ (σ_60.1 a 40).toInt ≤ 300 := (by first | (clear hf ht hn hd hs gσ w0σ dnσ k5σ hh hQ gc_2_f_1 c_2 gσ_5 w0σ_5 dnσ_5 k5σ_5 iz_6 iz_7 if_8 gc_9_f_8 c_9 if_55 ahpσ_57 bhpσ_57 chpσ_57 dhpσ_57 ehpσ_57 fhpσ_57 gσ_57 wσ_57 k5σ_57 c_58 gσ_60 wσ_60; omega) | omega)
        have k5σ_60 : ∀ b g, q_kd X b = 35 → σ_60.1 b g = σ.1 b g := (fun b g q => (q_rdn hσ_60 (Or.inl (m_ne q ha (by decide)))).trans (k5σ_57 b g q))
        refine lv_goto (tgt := 172) hx hb dX12_doOne_74 (by decide) ?_
        exact q_retv E hr hlk hI ⟨gσ_60, (by first | exact wσ_60 | exact m_W.le w0σ_60 (by omega)), kqσ_60, dnσ_60, k5σ_60, (hF.trans hout), fr_σ_60⟩ dX12_doOne_172
      · skip
        replace hF := q_ifn hF c_58
        replace c_58 := q_ifOne ahpσ_57 c_58
        refine lv_iconst (v := 0) hx hb dX12_doOne_65 zki_0 ?_
        refine lv_goto (tgt := 70) hx hb dX12_doOne_66 (by decide) ?_
        refine lv_iadd hx hb dX12_doOne_70 ?_
        refine lv_topi (fun z_61 ez_61 => ?_)
        replace hF := q_letX hF ez_61
        refine ps_X12_426_12 E hI ha (by decide) dX12_doOne_71 (fun H locs σ_62 hσ_62 hI => ?_)
        replace hF := q_letX hF hσ_62
        have fr_σ_62 := fr_σ_57.si hσ_62 ha rfl
        have mv40_σ_62 : (σ_62.1 a 40).toInt = (σ_57.1 a 40).toInt := congrArg Int32.toInt (q_rdn hσ_62 (Or.inr (by decide)))
        have mcσ_62 := m_wo hσ_62 (m_ne ha (q_tk (f := 20) (k' := 34) hI ha rfl (by decide)) (by decide))
        have gσ_62 : m_G (m_c X σ_62 a) := m_G.ext (fun j _ _ => mcσ_62 j) gσ_57
        have wσ_62 : m_W (m_c X σ_62 a) (n + (σ_62.1 a 40).toInt) := (m_W.le (m_W.ext (fun j _ _ => mcσ_62 j) wσ_57) (by first | (clear hf ht hn hd hs gσ w0σ dnσ k5σ hh hQ if_1 gc_2_f_1 c_2 if_3 iz_4 mv40_σ_5 gσ_5 w0σ_5 dnσ_5 k5σ_5 iz_6 iz_7 if_8 gc_9_f_8 c_9 if_55 ahpσ_57 bhpσ_57 chpσ_57 dhpσ_57 ehpσ_57 fhpσ_57 gσ_57 wσ_57 dnσ_57 k5σ_57 c_58 gσ_62; omega) | omega))
        have kqσ_62 : ∀ j, 654 ≤ j → m_c X σ_62 a j = m_c X σ a j := fun j h => (mcσ_62 j).trans (kqσ_57 j h)
        have dnσ_62 : (σ.1 a 40).toInt ≤ (σ_62.1 a 40).toInt ∧ (σ_62.1 a 40).toInt ≤ 300 := (by first | (clear hf ht hn hd hs gσ w0σ dnσ k5σ hh hQ gc_2_f_1 c_2 gσ_5 w0σ_5 dnσ_5 k5σ_5 iz_6 iz_7 if_8 gc_9_f_8 c_9 if_55 ahpσ_57 bhpσ_57 chpσ_57 dhpσ_57 ehpσ_57 fhpσ_57 gσ_57 wσ_57 k5σ_57 c_58 gσ_62 wσ_62; omega) | omega)
        have k5σ_62 : ∀ b g, q_kd X b = 35 → σ_62.1 b g = σ.1 b g := (fun b g q => (q_rdn hσ_62 (Or.inl (m_ne q ha (by decide)))).trans (k5σ_57 b g q))
        refine lv_goto (tgt := 172) hx hb dX12_doOne_74 (by decide) ?_
        exact q_retv E hr hlk hI ⟨gσ_62, (by first | exact wσ_62 | exact m_W.le w0σ_62 (by omega)), kqσ_62, dnσ_62, k5σ_62, (hF.trans hout), fr_σ_62⟩ dX12_doOne_172
  · skip
    replace hF := q_ifp hF c_2
    refine lv_aload_n hx hb dX12_doOne_10 rfl (lv_at hl 0 rfl) ?_
    refine lv_iconst (v := 1) hx hb dX12_doOne_11 zki_1 ?_
    refine ps_X12_420_12 E hI ha (by decide) (by decide) (by decide) dX12_doOne_12 (fun H locs σ_63 hσ_63 hI => ?_)
    replace hF := q_letX hF hσ_63
    have fr_σ_63 := fr_σ.si hσ_63 ha rfl
    have mv40_σ_63 : (σ_63.1 a 40).toInt = (σ.1 a 40).toInt := congrArg Int32.toInt (q_rdn hσ_63 (Or.inr (by decide)))
    have mcσ_63 := m_wo hσ_63 (m_ne ha (q_tk (f := 20) (k' := 34) hI ha rfl (by decide)) (by decide))
    have gσ_63 : m_G (m_c X σ_63 a) := m_G.ext (fun j _ _ => mcσ_63 j) gσ
    have w0σ_63 : m_W (m_c X σ_63 a) (n + (σ.1 a 40).toInt) := m_W.ext (fun j _ _ => mcσ_63 j) w0σ
    have kqσ_63 : ∀ j, 654 ≤ j → m_c X σ_63 a j = m_c X σ a j := fun j h => (mcσ_63 j).trans (kqσ j h)
    have dnσ_63 : (σ.1 a 40).toInt ≤ (σ_63.1 a 40).toInt ∧ (σ_63.1 a 40).toInt ≤ 300 := (by first | (clear hf ht hn hd hs gσ w0σ dnσ k5σ hh hQ gc_2_f_1 gσ_63 w0σ_63; omega) | omega)
    have k5σ_63 : ∀ b g, q_kd X b = 35 → σ_63.1 b g = σ.1 b g := (fun b g q => (q_rdn hσ_63 (Or.inl (m_ne q ha (by decide)))).trans (k5σ b g q))
    have fxσ_63 : m_c X σ_63 a = m_c X σ a := (funext mcσ_63).trans fxσ
    refine lv_aload_n hx hb dX12_doOne_15 rfl (lv_at hl 0 rfl) ?_
    refine lv_iconst (v := 1) hx hb dX12_doOne_16 zki_1 ?_
    refine ps_X12_423_12 E hI ha (by decide) dX12_doOne_17 (fun H locs σ_64 hσ_64 hI => ?_)
    replace hF := q_letX hF hσ_64
    have fr_σ_64 := fr_σ_63.si hσ_64 ha rfl
    have mv40_σ_64 : (σ_64.1 a 40).toInt = (σ_63.1 a 40).toInt := congrArg Int32.toInt (q_rdn hσ_64 (Or.inr (by decide)))
    have mcσ_64 := m_wo hσ_64 (m_ne ha (q_tk (f := 20) (k' := 34) hI ha rfl (by decide)) (by decide))
    have gσ_64 : m_G (m_c X σ_64 a) := m_G.ext (fun j _ _ => mcσ_64 j) gσ_63
    have w0σ_64 : m_W (m_c X σ_64 a) (n + (σ.1 a 40).toInt) := m_W.ext (fun j _ _ => mcσ_64 j) w0σ_63
    have kqσ_64 : ∀ j, 654 ≤ j → m_c X σ_64 a j = m_c X σ a j := fun j h => (mcσ_64 j).trans (kqσ_63 j h)
    have dnσ_64 : (σ.1 a 40).toInt ≤ (σ_64.1 a 40).toInt ∧ (σ_64.1 a 40).toInt ≤ 300 := (by first | (clear hf ht hn hd hs gσ w0σ dnσ k5σ hh hQ gc_2_f_1 gσ_63 w0σ_63 dnσ_63 k5σ_63 gσ_64 w0σ_64; omega) | omega)
    have k5σ_64 : ∀ b g, q_kd X b = 35 → σ_64.1 b g = σ.1 b g := (fun b g q => (q_rdn hσ_64 (Or.inl (m_ne q ha (by decide)))).trans (k5σ_63 b g q))
    have fxσ_64 : m_c X σ_64 a = m_c X σ a := (funext mcσ_64).trans fxσ_63
    exact q_retv E hr hlk hI ⟨gσ_64, (by first | exact wσ_64 | exact m_W.le w0σ_64 (by first | (clear hf ht hn hd hs gσ w0σ dnσ k5σ hh hQ gc_2_f_1 gσ_63 w0σ_63 dnσ_63 k5σ_63 gσ_64 w0σ_64 dnσ_64 k5σ_64; omega) | omega)), kqσ_64, dnσ_64, k5σ_64, (hF.trans hout), fr_σ_64⟩ dX12_doOne_20

set_option maxRecDepth 100000 in
set_option maxHeartbeats 4000000 in
theorem c_X12_doAll_s (l : Launch) (X : XW) (σ : ST) (a : Nat) (v1 : Int32) (v2 : Int32) (n : Int) (d : Nat) (FO : ST → Int32 → ST) (hO : ∀ (σ : ST) (v1 : Int32) (hG : m_G (m_c X σ a)) (hW : m_W (m_c X σ a) (n + (σ.1 a 40).toInt)) (hn : 0 ≤ n ∧ n ≤ 199500) (hd : 0 ≤ (σ.1 a 40).toInt ∧ (σ.1 a 40).toInt ≤ 300) (hs : 29 - (d : Int) ≤ v1.toInt ∧ 0 ≤ v1.toInt ∧ v1.toInt < m_c X σ a 655), Met l yX12_doOne (q_ws yX12_doOne cX12_doOne 5 none) (q_rm (8 + 2 * d) (181 + 47 * d)) (q_P X σ [.ref a, .int v1]) (q_Qv X 1 σ (fun (σ' : ST) => (m_G (m_c X σ' a)) ∧ (m_W (m_c X σ' a) (n + (σ'.1 a 40).toInt)) ∧ (∀ j, 654 ≤ j → m_c X σ' a j = m_c X σ a j) ∧ ((σ.1 a 40).toInt ≤ (σ'.1 a 40).toInt ∧ (σ'.1 a 40).toInt ≤ 300) ∧ (∀ b g, q_kd X b = 35 → σ'.1 b g = σ.1 b g) ∧ σ' = FO σ v1 ∧ q_ow [(12, 38), (12, 39), (12, 40), (12, 41), (12, 42), (12, 43), (12, 44), (12, 45), (34, 99), (39, 99)] [] X σ σ')) 0 0 (q_reg X)) (ha : q_kd X a = 12) (hG : m_G (m_c X σ a)) (hW : m_W (m_c X σ a) (n + (σ.1 a 40).toInt)) (hn : 0 ≤ n ∧ n ≤ 199500) (hd : 0 ≤ (σ.1 a 40).toInt ∧ (σ.1 a 40).toInt ≤ 300) (hf : 29 - (d : Int) ≤ v1.toInt ∧ 0 ≤ v1.toInt) (ht : v2.toInt ≤ m_c X σ a 655) : Met l yX12_doAll (q_ws yX12_doAll cX12_doAll 4 none) (q_rm (7 + 2 * (d + 1)) (158 + 47 * (d + 1))) (q_P X σ [.ref a, .int v1, .int v2]) (q_Qv X 1 σ (fun (σ' : ST) => (m_G (m_c X σ' a)) ∧ (m_W (m_c X σ' a) (n + (σ'.1 a 40).toInt)) ∧ (∀ j, 654 ≤ j → m_c X σ' a j = m_c X σ a j) ∧ ((σ.1 a 40).toInt ≤ (σ'.1 a 40).toInt ∧ (σ'.1 a 40).toInt ≤ 300) ∧ (∀ b g, q_kd X b = 35 → σ'.1 b g = σ.1 b g) ∧ σ' = F_X12_doAll_s X σ a v1 v2 FO ∧ q_ow [(12, 38), (12, 39), (12, 40), (12, 41), (12, 42), (12, 43), (12, 44), (12, 45), (34, 99), (39, 99)] [] X σ σ')) 0 0 (q_reg X) := by
  refine q_met 1 (by first | exact rfl | decide +kernel) rfl (Nat.le_of_ble_eq_true rfl) (fun p e s m below meth c E hml hr hlk hI ls hl => ?_)
  have hx := E.1
  have hb := E.2.1
  have hl : lv_has ls 4 [(0, .ref a), (1, .int v1), (2, .int v2)] := hl
  have gσ : m_G (m_c X σ a) := hG
  have wσ : m_W (m_c X σ a) (n + (σ.1 a 40).toInt) := hW
  have kqσ : ∀ j, 654 ≤ j → m_c X σ a j = m_c X σ a j := fun _ _ => rfl
  have dnσ : (σ.1 a 40).toInt ≤ (σ.1 a 40).toInt ∧ (σ.1 a 40).toInt ≤ 300 := (by first | (clear hs hn hf ht gσ wσ; omega) | omega)
  have k5σ : ∀ b g, q_kd X b = 35 → σ.1 b g = σ.1 b g := fun _ _ _ => rfl
  have fr_σ : q_ow [(12, 38), (12, 39), (12, 40), (12, 41), (12, 42), (12, 43), (12, 44), (12, 45), (34, 99), (39, 99)] [] X σ σ := q_ow.rf
  have hh := hG.hd
  have hQ := hG.2.2.2.2.2.1
  obtain ⟨out, hout⟩ : ∃ o, o = F_X12_doAll_s X σ a v1 v2 FO := ⟨_, rfl⟩
  have hF := hout.symm
  unfold F_X12_doAll_s at hF
  refine lv_iload_n hx hb dX12_doAll_0 rfl (lv_at hl 1 rfl) ?_
  refine lv_istore_n (lv' := [(3, .int v1), (0, .ref a), (1, .int v1), (2, .int v2)]) hx hb dX12_doAll_1 rfl hl (by decide) rfl (fun ls hl => ?_)
  have L_2_3 : ∀ (k_3 : Nat) (x_1 : Int32) (σ_2 : ST) (H : Heap) (locs : List Loc) (ls : Array Slot), (31 - x_1.toInt).toNat < k_3 → (29 - (d : Int) ≤ x_1.toInt ∧ 0 ≤ x_1.toInt) → (q_ow [(12, 38), (12, 39), (12, 40), (12, 41), (12, 42), (12, 43), (12, 44), (12, 45), (34, 99), (39, 99)] [] X σ σ_2) → (m_G (m_c X σ_2 a)) → (m_W (m_c X σ_2 a) (n + (σ_2.1 a 40).toInt)) → (∀ j, 654 ≤ j → m_c X σ_2 a j = m_c X σ a j) → ((σ.1 a 40).toInt ≤ (σ_2.1 a 40).toInt ∧ (σ_2.1 a 40).toInt ≤ 300) → (∀ b g, q_kd X b = 35 → σ_2.1 b g = σ.1 b g) → (F_X12_doAll_s_L2_1 X v2 a FO k_3 x_1 σ_2 = out) → q_I X 1 σ s.heap locs σ_2 H → lv_has ls 4 [(0, .ref a), (1, .int v1), (2, .int v2), (3, .int x_1)] → W p l e (q_rm (7 + 2 * (d + 1)) (158 + 47 * (d + 1))) s m ([.ref a, .int v1, .int v2] : List Value).toArray below meth c H locs 0 0 (MQ below (q_Qv X 1 σ (fun (σ' : ST) => (m_G (m_c X σ' a)) ∧ (m_W (m_c X σ' a) (n + (σ'.1 a 40).toInt)) ∧ (∀ j, 654 ≤ j → m_c X σ' a j = m_c X σ a j) ∧ ((σ.1 a 40).toInt ≤ (σ'.1 a 40).toInt ∧ (σ'.1 a 40).toInt ≤ 300) ∧ (∀ b g, q_kd X b = 35 → σ'.1 b g = σ.1 b g) ∧ σ' = F_X12_doAll_s X σ a v1 v2 FO ∧ q_ow [(12, 38), (12, 39), (12, 40), (12, 41), (12, 42), (12, 43), (12, 44), (12, 45), (34, 99), (39, 99)] [] X σ σ')) ([.ref a, .int v1, .int v2] : List Value).toArray s 0 0 (q_reg X)) (F0 m 2 ls []) := by
    clear hF
    intro k_3
    induction k_3 with
    | zero =>
      intro x_1 σ_2 H locs ls hms
      try clear kqσ; try clear dnσ; try clear fr_σ
      exact absurd hms (Nat.not_lt_zero _)
    | succ k_3 ih2 =>
      intro x_1 σ_2 H locs ls hm2 hge2 fr_σ_2 gσ_2 wσ_2 kqσ_2 dnσ_2 k5σ_2 hF hI hl
      replace hF := (F_X12_doAll_s_L2_1_s).symm.trans hF
      unfold F_X12_doAll_s_B2_1 at hF
      have q5 := kqσ_2 655 (by decide)
      refine lv_iload_n hx hb dX12_doAll_2 rfl (lv_at hl 3 rfl) ?_
      refine lv_iload_n hx hb dX12_doAll_3 rfl (lv_at hl 2 rfl) ?_
      have gc_4_x_1 := q_rng x_1
      have gc_4_v2 := q_rng v2
      refine q_icmp_ge (A := x_1.toInt) (B := v2.toInt) E rfl rfl (tgt := 39) dX12_doAll_4 (by decide) (fun c_4 => ?_) (fun c_4 => ?_)
      · skip
        replace hF := q_ifn hF (Int.not_lt.mpr c_4)
        skip
        exact q_retv E hr hlk hI ⟨gσ_2, (by first | exact wσ_2 | exact m_W.le w0σ_2 (by omega)), kqσ_2, dnσ_2, k5σ_2, (hF.trans hout), fr_σ_2⟩ dX12_doAll_39
      · skip
        replace hF := q_ifp hF c_4
        refine lv_aload_n hx hb dX12_doAll_7 rfl (lv_at hl 0 rfl) ?_
        refine gs_X12_420_12 E hI ha dX12_doAll_8 ?_
        refine lv_topi (fun f_5 ef_5 => ?_)
        replace hF := q_letX hF ef_5
        have if_5 : f_5.toInt = (σ_2.1 a 38).toInt := congrArg Int32.toInt ef_5
        have bf_5 : 0 ≤ f_5.toInt ∧ f_5.toInt ≤ 1 := by rw [ef_5]; exact q_bd hI ha rfl
        refine q_if_ne (A := f_5.toInt) E rfl (tgt := 39) dX12_doAll_11 (by decide) (fun c_6 => ?_) (fun c_6 => ?_)
        · skip
          replace hF := q_ifn hF c_6
          skip
          exact q_retv E hr hlk hI ⟨gσ_2, (by first | exact wσ_2 | exact m_W.le w0σ_2 (by omega)), kqσ_2, dnσ_2, k5σ_2, (hF.trans hout), fr_σ_2⟩ dX12_doAll_39
        · skip
          replace hF := q_ifp hF c_6
          refine lv_aload_n hx hb dX12_doAll_14 rfl (lv_at hl 0 rfl) ?_
          refine lv_iload_n hx hb dX12_doAll_15 rfl (lv_at hl 3 rfl) ?_
          refine q_cv (q_runV (As := [.int x_1]) (rest := []) E (hml.trans hl.1.symm) hI (hO σ_2 x_1 gσ_2 wσ_2 (by omega) (by first | (clear hs hn hf ht gσ wσ k5σ hh hQ hm2 hge2 gσ_2 wσ_2 k5σ_2 gc_4_x_1 gc_4_v2 c_4 if_5 bf_5 c_6; omega) | omega) (by first | (clear hs hn hd hf gσ wσ k5σ hh hQ hm2 gσ_2 wσ_2 dnσ_2 k5σ_2 gc_4_v2 if_5 bf_5 c_6; omega) | omega)) kv_X12_438 ha ⟨rfl, by decide⟩ (show vwCl[11]? = some (RX12, TX12, 46) from rfl) rfl (by constructor <;> (simp only [q_rm]; omega)) ⟨Nat.le_refl _, Nat.le_refl _⟩ rfl (Nat.le_of_ble_eq_true rfl) dX12_doAll_16) hI (Nat.le_of_ble_eq_true rfl) (fun σ_8 H locs hpσ_8 hkσ_8 hI => ?_)
          have ahpσ_8 := hpσ_8.1
          have bhpσ_8 := hpσ_8.2.1
          have chpσ_8 := hpσ_8.2.2.1
          have dhpσ_8 := hpσ_8.2.2.2.1
          have ehpσ_8 := hpσ_8.2.2.2.2.1
          have fhpσ_8 := hpσ_8.2.2.2.2.2.1
          have ghpσ_8 := hpσ_8.2.2.2.2.2.2
          clear hpσ_8
          have fr_σ_8 := fr_σ_2.call ghpσ_8 rfl rfl
          replace hF := q_letX hF fhpσ_8
          have gσ_8 : m_G (m_c X σ_8 a) := ahpσ_8
          have wσ_8 : m_W (m_c X σ_8 a) (n + (σ_8.1 a 40).toInt) := bhpσ_8
          have kqσ_8 : ∀ j, 654 ≤ j → m_c X σ_8 a j = m_c X σ a j := (fun j h => (chpσ_8 j h).trans (kqσ_2 j h))
          have dnσ_8 : (σ.1 a 40).toInt ≤ (σ_8.1 a 40).toInt ∧ (σ_8.1 a 40).toInt ≤ 300 := (by first | (clear hs hn hd hf ht gσ wσ k5σ hh hQ hm2 hge2 gσ_2 wσ_2 k5σ_2 gc_4_x_1 gc_4_v2 c_4 if_5 bf_5 c_6 ahpσ_8 bhpσ_8 chpσ_8 ehpσ_8 fhpσ_8 gσ_8 wσ_8; omega) | omega)
          have k5σ_8 : ∀ b g, q_kd X b = 35 → σ_8.1 b g = σ.1 b g := (fun b g q => (ehpσ_8 b g q).trans (k5σ_2 b g q))
          have q8 := kqσ_8 (656 + 9 * x_1.toInt + 8) (by first | (clear hs hn hd hf ht gσ wσ k5σ hh hQ hm2 gσ_2 wσ_2 dnσ_2 k5σ_2 gc_4_v2 c_4 if_5 bf_5 c_6 ahpσ_8 bhpσ_8 chpσ_8 dhpσ_8 ehpσ_8 fhpσ_8 gσ_8 wσ_8 dnσ_8 k5σ_8; omega) | omega)
          have st := hG.2.2.2.2.2.2 x_1.toInt (by first | (clear hs hn hd hf ht gσ wσ k5σ hh hQ hm2 gσ_2 wσ_2 dnσ_2 k5σ_2 gc_4_v2 c_4 if_5 bf_5 c_6 ahpσ_8 bhpσ_8 chpσ_8 dhpσ_8 ehpσ_8 fhpσ_8 gσ_8 wσ_8 dnσ_8 k5σ_8; omega) | omega) (by first | (clear hs hn hd hf gσ wσ k5σ hh hQ hm2 hge2 gσ_2 wσ_2 dnσ_2 k5σ_2 gc_4_x_1 gc_4_v2 if_5 bf_5 c_6 ahpσ_8 bhpσ_8 chpσ_8 dhpσ_8 ehpσ_8 fhpσ_8 gσ_8 wσ_8 dnσ_8 k5σ_8; omega) | omega)
          have s4 := st.2.2.2
          refine lv_aload_n hx hb dX12_doAll_19 rfl (lv_at hl 0 rfl) ?_
          refine gs_X12_35_12 E hI ha dX12_doAll_20 ?_
          refine lv_sipush (v := 656) hx hb dX12_doAll_23 zks_656 ?_
          refine lv_bipush (v := 9) hx hb dX12_doAll_26 zkb_9 ?_
          refine lv_iload_n hx hb dX12_doAll_28 rfl (lv_at hl 3 rfl) ?_
          refine lv_imul hx hb dX12_doAll_29 ?_
          refine lv_topi (fun z_9 ez_9 => ?_)
          replace hF := q_letX hF ez_9
          have iz_9 := q_mulI (A := 9) (B := x_1.toInt) ez_9 (by decide) rfl (by first | (clear hs hn hd hf ht gσ wσ k5σ hh hQ hm2 gσ_2 wσ_2 dnσ_2 k5σ_2 gc_4_v2 c_4 if_5 bf_5 c_6 ahpσ_8 bhpσ_8 chpσ_8 dhpσ_8 ehpσ_8 fhpσ_8 gσ_8 wσ_8 dnσ_8 k5σ_8; omega) | omega) (by first | (clear hs hn hd hf ht gσ wσ k5σ hh hm2 gσ_2 wσ_2 dnσ_2 k5σ_2 gc_4_v2 c_4 if_5 bf_5 c_6 ahpσ_8 bhpσ_8 chpσ_8 dhpσ_8 ehpσ_8 fhpσ_8 gσ_8 wσ_8 dnσ_8 k5σ_8; omega) | omega)
          refine lv_iadd hx hb dX12_doAll_30 ?_
          refine lv_topi (fun z_10 ez_10 => ?_)
          replace hF := q_letX hF ez_10
          have iz_10 := q_addI (A := 656) (B := (9 * x_1.toInt)) ez_10 (by decide) iz_9 (by first | (clear hs hn hd hf ht gσ wσ k5σ hh hQ hm2 gσ_2 wσ_2 dnσ_2 k5σ_2 gc_4_v2 c_4 if_5 bf_5 c_6 ahpσ_8 bhpσ_8 chpσ_8 dhpσ_8 ehpσ_8 fhpσ_8 gσ_8 wσ_8 dnσ_8 k5σ_8 iz_9; omega) | omega) (by first | (clear hs hn hd hf ht gσ wσ k5σ hh hm2 gσ_2 wσ_2 dnσ_2 k5σ_2 gc_4_v2 c_4 if_5 bf_5 c_6 ahpσ_8 bhpσ_8 chpσ_8 dhpσ_8 ehpσ_8 fhpσ_8 gσ_8 wσ_8 dnσ_8 k5σ_8 iz_9; omega) | omega)
          refine lv_bipush (v := 8) hx hb dX12_doAll_31 zkb_8 ?_
          refine lv_iadd hx hb dX12_doAll_33 ?_
          refine lv_topi (fun z_11 ez_11 => ?_)
          replace hF := q_letX hF ez_11
          have iz_11 := q_addI (A := (656 + (9 * x_1.toInt))) (B := 8) ez_11 iz_10 (by decide) (by first | (clear hs hn hd hf ht gσ wσ k5σ hh hQ hm2 gσ_2 wσ_2 dnσ_2 k5σ_2 gc_4_v2 c_4 if_5 bf_5 c_6 ahpσ_8 bhpσ_8 chpσ_8 dhpσ_8 ehpσ_8 fhpσ_8 gσ_8 wσ_8 dnσ_8 k5σ_8 iz_9 iz_10; omega) | omega) (by first | (clear hs hn hd hf ht gσ wσ k5σ hh hm2 gσ_2 wσ_2 dnσ_2 k5σ_2 gc_4_v2 c_4 if_5 bf_5 c_6 ahpσ_8 bhpσ_8 chpσ_8 dhpσ_8 ehpσ_8 fhpσ_8 gσ_8 wσ_8 dnσ_8 k5σ_8 iz_9 iz_10; omega) | omega)
          refine q_iald E hI (q_tk (k' := 34) hI ha rfl (Nat.succ_ne_zero _)) ⟨by decide, rfl⟩ (by first | (clear hs hn hd hf ht gσ wσ k5σ hh hQ hm2 gσ_2 wσ_2 dnσ_2 k5σ_2 if_5 bf_5 c_6 ahpσ_8 bhpσ_8 chpσ_8 dhpσ_8 ehpσ_8 fhpσ_8 gσ_8 wσ_8 dnσ_8 k5σ_8 iz_9 iz_10; omega) | omega) (by rw [q_lnk (v := 4650) hI (q_tk (k' := 34) hI ha rfl (Nat.succ_ne_zero _)) rfl (by decide)]; omega) dX12_doAll_34 ?_
          refine lv_topi (fun f_12 ef_12 => ?_)
          replace hF := q_letX hF ef_12
          have if_12 : f_12.toInt = m_c X σ_8 a ((656 + (9 * x_1.toInt)) + 8) := m_rd ef_12 iz_11
          refine lv_istore_n (lv' := [(3, .int f_12), (0, .ref a), (1, .int v1), (2, .int v2)]) hx hb dX12_doAll_35 rfl hl (by decide) rfl (fun ls hl => ?_)
          refine lv_goto (tgt := 2) hx hb dX12_doAll_36 (by decide) ?_
          exact ih2 f_12 σ_8 _ _ ls (by first | (clear hs hn hd hf ht gσ wσ k5σ hh gσ_2 wσ_2 dnσ_2 k5σ_2 gc_4_v2 c_4 if_5 bf_5 c_6 ahpσ_8 bhpσ_8 chpσ_8 dhpσ_8 ehpσ_8 fhpσ_8 gσ_8 wσ_8 dnσ_8 k5σ_8 iz_9 iz_10 iz_11; omega) | omega) (by first | (clear hs hn hd hf ht gσ wσ k5σ hh hQ hm2 gσ_2 wσ_2 dnσ_2 k5σ_2 gc_4_v2 c_4 if_5 bf_5 c_6 ahpσ_8 bhpσ_8 chpσ_8 dhpσ_8 ehpσ_8 fhpσ_8 gσ_8 wσ_8 dnσ_8 k5σ_8 iz_9 iz_10 iz_11; omega) | omega) fr_σ_8 gσ_8 wσ_8 kqσ_8 dnσ_8 k5σ_8 hF hI (lv_sub hl [1, 2, 3, 0] rfl)
  exact L_2_3 ((31 - v1.toInt).toNat + 1) v1 σ _ _ ls (Nat.lt_succ_self _) (by omega) fr_σ gσ wσ kqσ dnσ k5σ hF hI (lv_sub hl [1, 2, 3, 0] rfl)

/-- all depths -/
theorem c_X12_doAllN (l : Launch) (X : XW) (a : Nat) (n : Int) (ha : q_kd X a = 12) (d : Nat) (hd30 : d ≤ 30) : ∀ (σ : ST) (v1 v2 : Int32) (hG : m_G (m_c X σ a)) (hW : m_W (m_c X σ a) (n + (σ.1 a 40).toInt)) (hn : 0 ≤ n ∧ n ≤ 199500) (hd : 0 ≤ (σ.1 a 40).toInt ∧ (σ.1 a 40).toInt ≤ 300) (hf : 30 - (d : Int) ≤ v1.toInt ∧ 0 ≤ v1.toInt) (ht : v2.toInt ≤ m_c X σ a 655), Met l yX12_doAll (q_ws yX12_doAll cX12_doAll 4 none) (q_rm (7 + 2 * d) (158 + 47 * d)) (q_P X σ [.ref a, .int v1, .int v2]) (q_Qv X 1 σ (fun (σ' : ST) => (m_G (m_c X σ' a)) ∧ (m_W (m_c X σ' a) (n + (σ'.1 a 40).toInt)) ∧ (∀ j, 654 ≤ j → m_c X σ' a j = m_c X σ a j) ∧ ((σ.1 a 40).toInt ≤ (σ'.1 a 40).toInt ∧ (σ'.1 a 40).toInt ≤ 300) ∧ (∀ b g, q_kd X b = 35 → σ'.1 b g = σ.1 b g) ∧ σ' = F_X12_doAllN X a d σ v1 v2 ∧ q_ow [(12, 38), (12, 39), (12, 40), (12, 41), (12, 42), (12, 43), (12, 44), (12, 45), (34, 99), (39, 99)] [] X σ σ')) 0 0 (q_reg X) := by
  induction d with
  | zero =>
    intro σ v1 v2 hG hW hn hd hf ht
    exact c_X12_doAll_z l X σ a v1 v2 n ha hG hW hn hd (by first | (clear hd30 hn hd ht; omega) | omega) ht
  | succ d ih =>
    intro σ v1 v2 hG hW hn hd hf ht
    have hO : ∀ (σ : ST) (v1 : Int32) (hG : m_G (m_c X σ a)) (hW : m_W (m_c X σ a) (n + (σ.1 a 40).toInt)) (hn : 0 ≤ n ∧ n ≤ 199500) (hd : 0 ≤ (σ.1 a 40).toInt ∧ (σ.1 a 40).toInt ≤ 300) (hs : 29 - (d : Int) ≤ v1.toInt ∧ 0 ≤ v1.toInt ∧ v1.toInt < m_c X σ a 655), Met l yX12_doOne (q_ws yX12_doOne cX12_doOne 5 none) (q_rm (8 + 2 * d) (181 + 47 * d)) (q_P X σ [.ref a, .int v1]) (q_Qv X 1 σ (fun (σ' : ST) => (m_G (m_c X σ' a)) ∧ (m_W (m_c X σ' a) (n + (σ'.1 a 40).toInt)) ∧ (∀ j, 654 ≤ j → m_c X σ' a j = m_c X σ a j) ∧ ((σ.1 a 40).toInt ≤ (σ'.1 a 40).toInt ∧ (σ'.1 a 40).toInt ≤ 300) ∧ (∀ b g, q_kd X b = 35 → σ'.1 b g = σ.1 b g) ∧ σ' = (fun τ w => F_X12_doOne_s X τ a w (F_X12_doAllN X a d)) σ v1 ∧ q_ow [(12, 38), (12, 39), (12, 40), (12, 41), (12, 42), (12, 43), (12, 44), (12, 45), (34, 99), (39, 99)] [] X σ σ')) 0 0 (q_reg X) := fun σ v1 hG hW hn hd hs => c_X12_doOne_s l X σ a v1 n d (F_X12_doAllN X a d) (ih (by first | (clear hn hd hf ht; omega) | omega)) ha hG hW hn hd hs
    exact c_X12_doAll_s l X σ a v1 v2 n d (fun τ w => F_X12_doOne_s X τ a w (F_X12_doAllN X a d)) hO ha hG hW hn hd (by first | (clear hd30 hn hd ht; omega) | omega) ht

set_option maxRecDepth 100000 in
set_option maxHeartbeats 4000000 in
theorem c_X12_plays (l : Launch) (X : XW) (σ : ST) (a : Nat) (v1 : Int32) (n : Int) (ha : q_kd X a = 12) (hG : m_G (m_c X σ a)) (hW : m_W (m_c X σ a) n) (hn : 0 ≤ n ∧ n ≤ 199500) : Met l yX12_plays (q_ws yX12_plays cX12_plays 2 none) (q_rm 68 1591) (q_P X σ [.ref a, .int v1]) (q_Qv X 1 σ (fun (σ' : ST) => (m_G (m_c X σ' a)) ∧ (m_W (m_c X σ' a) (n + 300)) ∧ (∀ j, 654 ≤ j → m_c X σ' a j = m_c X σ a j) ∧ (∀ b g, q_kd X b = 35 → σ'.1 b g = σ.1 b g) ∧ σ' = F_X12_plays X σ a v1 ∧ q_ow [(12, 38), (12, 39), (12, 40), (12, 41), (12, 42), (12, 43), (12, 44), (12, 45), (34, 99), (39, 99)] [] X σ σ')) 0 0 (q_reg X) := by
  refine q_met 1 (by first | exact rfl | decide +kernel) rfl (Nat.le_of_ble_eq_true rfl) (fun p e s m below meth c E hml hr hlk hI ls hl => ?_)
  have hx := E.1
  have hb := E.2.1
  have hl : lv_has ls 2 [(0, .ref a), (1, .int v1)] := hl
  have gσ : m_G (m_c X σ a) := hG
  have w0σ : m_W (m_c X σ a) n := hW
  have kqσ : ∀ j, 654 ≤ j → m_c X σ a j = m_c X σ a j := fun _ _ => rfl
  have k5σ : ∀ b g, q_kd X b = 35 → σ.1 b g = σ.1 b g := fun _ _ _ => rfl
  have fr_σ : q_ow [(12, 38), (12, 39), (12, 40), (12, 41), (12, 42), (12, 43), (12, 44), (12, 45), (34, 99), (39, 99)] [] X σ σ := q_ow.rf
  have hh := hG.hd
  have hQ := hG.2.2.2.2.2.1
  obtain ⟨out, hout⟩ : ∃ o, o = F_X12_plays X σ a v1 := ⟨_, rfl⟩
  have hF := hout.symm
  unfold F_X12_plays at hF
  refine lv_aload_n hx hb dX12_plays_0 rfl (lv_at hl 0 rfl) ?_
  refine lv_iload_n hx hb dX12_plays_1 rfl (lv_at hl 1 rfl) ?_
  refine ps_X12_395_12 E hI ha (by decide) dX12_plays_2 (fun H locs σ_1 hσ_1 hI => ?_)
  replace hF := q_letX hF hσ_1
  have fr_σ_1 := fr_σ.si hσ_1 ha rfl
  have mv40_σ_1 : (σ_1.1 a 40).toInt = (σ.1 a 40).toInt := congrArg Int32.toInt (q_rdn hσ_1 (Or.inr (by decide)))
  have mcσ_1 := m_wo hσ_1 (m_ne ha (q_tk (f := 20) (k' := 34) hI ha rfl (by decide)) (by decide))
  have gσ_1 : m_G (m_c X σ_1 a) := m_G.ext (fun j _ _ => mcσ_1 j) gσ
  have w0σ_1 : m_W (m_c X σ_1 a) n := m_W.ext (fun j _ _ => mcσ_1 j) w0σ
  have kqσ_1 : ∀ j, 654 ≤ j → m_c X σ_1 a j = m_c X σ a j := fun j h => (mcσ_1 j).trans (kqσ j h)
  have k5σ_1 : ∀ b g, q_kd X b = 35 → σ_1.1 b g = σ.1 b g := (fun b g q => (q_rdn hσ_1 (Or.inl (m_ne q ha (by decide)))).trans (k5σ b g q))
  refine lv_aload_n hx hb dX12_plays_5 rfl (lv_at hl 0 rfl) ?_
  refine lv_iconst (v := 0) hx hb dX12_plays_6 zki_0 ?_
  refine ps_X12_417_12 E hI ha (by decide) dX12_plays_7 (fun H locs σ_2 hσ_2 hI => ?_)
  replace hF := q_letX hF hσ_2
  have fr_σ_2 := fr_σ_1.si hσ_2 ha rfl
  have mv40_σ_2 : (σ_2.1 a 40).toInt = 0 := by rw [q_rd hσ_2]; rfl
  have mcσ_2 := m_wo hσ_2 (m_ne ha (q_tk (f := 20) (k' := 34) hI ha rfl (by decide)) (by decide))
  have gσ_2 : m_G (m_c X σ_2 a) := m_G.ext (fun j _ _ => mcσ_2 j) gσ_1
  have w0σ_2 : m_W (m_c X σ_2 a) n := m_W.ext (fun j _ _ => mcσ_2 j) w0σ_1
  have kqσ_2 : ∀ j, 654 ≤ j → m_c X σ_2 a j = m_c X σ a j := fun j h => (mcσ_2 j).trans (kqσ_1 j h)
  have deσ_2 : 0 ≤ (σ_2.1 a 40).toInt ∧ (σ_2.1 a 40).toInt ≤ 300 := (by first | (clear hn gσ w0σ k5σ hh hQ mv40_σ_1 gσ_1 w0σ_1 k5σ_1 gσ_2 w0σ_2; omega) | omega)
  have k5σ_2 : ∀ b g, q_kd X b = 35 → σ_2.1 b g = σ.1 b g := (fun b g q => (q_rdn hσ_2 (Or.inl (m_ne q ha (by decide)))).trans (k5σ_1 b g q))
  refine lv_aload_n hx hb dX12_plays_10 rfl (lv_at hl 0 rfl) ?_
  refine lv_iconst (v := 0) hx hb dX12_plays_11 zki_0 ?_
  refine ps_X12_426_12 E hI ha (by decide) dX12_plays_12 (fun H locs σ_3 hσ_3 hI => ?_)
  replace hF := q_letX hF hσ_3
  have fr_σ_3 := fr_σ_2.si hσ_3 ha rfl
  have mv40_σ_3 : (σ_3.1 a 40).toInt = (σ_2.1 a 40).toInt := congrArg Int32.toInt (q_rdn hσ_3 (Or.inr (by decide)))
  have mcσ_3 := m_wo hσ_3 (m_ne ha (q_tk (f := 20) (k' := 34) hI ha rfl (by decide)) (by decide))
  have gσ_3 : m_G (m_c X σ_3 a) := m_G.ext (fun j _ _ => mcσ_3 j) gσ_2
  have w0σ_3 : m_W (m_c X σ_3 a) n := m_W.ext (fun j _ _ => mcσ_3 j) w0σ_2
  have kqσ_3 : ∀ j, 654 ≤ j → m_c X σ_3 a j = m_c X σ a j := fun j h => (mcσ_3 j).trans (kqσ_2 j h)
  have deσ_3 : 0 ≤ (σ_3.1 a 40).toInt ∧ (σ_3.1 a 40).toInt ≤ 300 := (by first | (clear hn gσ w0σ k5σ hh hQ mv40_σ_1 gσ_1 w0σ_1 k5σ_1 gσ_2 w0σ_2 k5σ_2 gσ_3 w0σ_3; omega) | omega)
  have k5σ_3 : ∀ b g, q_kd X b = 35 → σ_3.1 b g = σ.1 b g := (fun b g q => (q_rdn hσ_3 (Or.inl (m_ne q ha (by decide)))).trans (k5σ_2 b g q))
  refine lv_aload_n hx hb dX12_plays_15 rfl (lv_at hl 0 rfl) ?_
  refine lv_iconst (v := 0) hx hb dX12_plays_16 zki_0 ?_
  refine ps_X12_405_12 E hI ha (by decide) dX12_plays_17 (fun H locs σ_4 hσ_4 hI => ?_)
  replace hF := q_letX hF hσ_4
  have fr_σ_4 := fr_σ_3.si hσ_4 ha rfl
  have mv40_σ_4 : (σ_4.1 a 40).toInt = (σ_3.1 a 40).toInt := congrArg Int32.toInt (q_rdn hσ_4 (Or.inr (by decide)))
  have mcσ_4 := m_wo hσ_4 (m_ne ha (q_tk (f := 20) (k' := 34) hI ha rfl (by decide)) (by decide))
  have gσ_4 : m_G (m_c X σ_4 a) := m_G.ext (fun j _ _ => mcσ_4 j) gσ_3
  have w0σ_4 : m_W (m_c X σ_4 a) n := m_W.ext (fun j _ _ => mcσ_4 j) w0σ_3
  have kqσ_4 : ∀ j, 654 ≤ j → m_c X σ_4 a j = m_c X σ a j := fun j h => (mcσ_4 j).trans (kqσ_3 j h)
  have deσ_4 : 0 ≤ (σ_4.1 a 40).toInt ∧ (σ_4.1 a 40).toInt ≤ 300 := (by first | (clear hn gσ w0σ k5σ hh hQ mv40_σ_1 gσ_1 w0σ_1 k5σ_1 gσ_2 w0σ_2 k5σ_2 gσ_3 w0σ_3 k5σ_3 gσ_4 w0σ_4; omega) | omega)
  have k5σ_4 : ∀ b g, q_kd X b = 35 → σ_4.1 b g = σ.1 b g := (fun b g q => (q_rdn hσ_4 (Or.inl (m_ne q ha (by decide)))).trans (k5σ_3 b g q))
  refine lv_aload_n hx hb dX12_plays_20 rfl (lv_at hl 0 rfl) ?_
  refine lv_iconst (v := 0) hx hb dX12_plays_21 zki_0 ?_
  refine ps_X12_408_12 E hI ha (by decide) dX12_plays_22 (fun H locs σ_5 hσ_5 hI => ?_)
  replace hF := q_letX hF hσ_5
  have fr_σ_5 := fr_σ_4.si hσ_5 ha rfl
  have mv40_σ_5 : (σ_5.1 a 40).toInt = (σ_4.1 a 40).toInt := congrArg Int32.toInt (q_rdn hσ_5 (Or.inr (by decide)))
  have mcσ_5 := m_wo hσ_5 (m_ne ha (q_tk (f := 20) (k' := 34) hI ha rfl (by decide)) (by decide))
  have gσ_5 : m_G (m_c X σ_5 a) := m_G.ext (fun j _ _ => mcσ_5 j) gσ_4
  have w0σ_5 : m_W (m_c X σ_5 a) n := m_W.ext (fun j _ _ => mcσ_5 j) w0σ_4
  have kqσ_5 : ∀ j, 654 ≤ j → m_c X σ_5 a j = m_c X σ a j := fun j h => (mcσ_5 j).trans (kqσ_4 j h)
  have deσ_5 : 0 ≤ (σ_5.1 a 40).toInt ∧ (σ_5.1 a 40).toInt ≤ 300 := (by first | (clear hn gσ w0σ k5σ hh hQ mv40_σ_1 gσ_1 w0σ_1 k5σ_1 gσ_2 w0σ_2 k5σ_2 gσ_3 w0σ_3 k5σ_3 gσ_4 w0σ_4 k5σ_4 gσ_5 w0σ_5; omega) | omega)
  have k5σ_5 : ∀ b g, q_kd X b = 35 → σ_5.1 b g = σ.1 b g := (fun b g q => (q_rdn hσ_5 (Or.inl (m_ne q ha (by decide)))).trans (k5σ_4 b g q))
  refine lv_aload_n hx hb dX12_plays_25 rfl (lv_at hl 0 rfl) ?_
  refine lv_iconst (v := 0) hx hb dX12_plays_26 zki_0 ?_
  refine ps_X12_411_12 E hI ha (by decide) dX12_plays_27 (fun H locs σ_6 hσ_6 hI => ?_)
  replace hF := q_letX hF hσ_6
  have fr_σ_6 := fr_σ_5.si hσ_6 ha rfl
  have mv40_σ_6 : (σ_6.1 a 40).toInt = (σ_5.1 a 40).toInt := congrArg Int32.toInt (q_rdn hσ_6 (Or.inr (by decide)))
  have mcσ_6 := m_wo hσ_6 (m_ne ha (q_tk (f := 20) (k' := 34) hI ha rfl (by decide)) (by decide))
  have gσ_6 : m_G (m_c X σ_6 a) := m_G.ext (fun j _ _ => mcσ_6 j) gσ_5
  have w0σ_6 : m_W (m_c X σ_6 a) n := m_W.ext (fun j _ _ => mcσ_6 j) w0σ_5
  have kqσ_6 : ∀ j, 654 ≤ j → m_c X σ_6 a j = m_c X σ a j := fun j h => (mcσ_6 j).trans (kqσ_5 j h)
  have deσ_6 : 0 ≤ (σ_6.1 a 40).toInt ∧ (σ_6.1 a 40).toInt ≤ 300 := (by first | (clear hn gσ w0σ k5σ hh hQ mv40_σ_1 gσ_1 w0σ_1 k5σ_1 gσ_2 w0σ_2 k5σ_2 gσ_3 w0σ_3 k5σ_3 gσ_4 w0σ_4 k5σ_4 gσ_5 w0σ_5 k5σ_5 gσ_6 w0σ_6; omega) | omega)
  have k5σ_6 : ∀ b g, q_kd X b = 35 → σ_6.1 b g = σ.1 b g := (fun b g q => (q_rdn hσ_6 (Or.inl (m_ne q ha (by decide)))).trans (k5σ_5 b g q))
  refine lv_aload_n hx hb dX12_plays_30 rfl (lv_at hl 0 rfl) ?_
  refine lv_iconst (v := 0) hx hb dX12_plays_31 zki_0 ?_
  refine ps_X12_423_12 E hI ha (by decide) dX12_plays_32 (fun H locs σ_7 hσ_7 hI => ?_)
  replace hF := q_letX hF hσ_7
  have fr_σ_7 := fr_σ_6.si hσ_7 ha rfl
  have mv40_σ_7 : (σ_7.1 a 40).toInt = (σ_6.1 a 40).toInt := congrArg Int32.toInt (q_rdn hσ_7 (Or.inr (by decide)))
  have mcσ_7 := m_wo hσ_7 (m_ne ha (q_tk (f := 20) (k' := 34) hI ha rfl (by decide)) (by decide))
  have gσ_7 : m_G (m_c X σ_7 a) := m_G.ext (fun j _ _ => mcσ_7 j) gσ_6
  have w0σ_7 : m_W (m_c X σ_7 a) n := m_W.ext (fun j _ _ => mcσ_7 j) w0σ_6
  have kqσ_7 : ∀ j, 654 ≤ j → m_c X σ_7 a j = m_c X σ a j := fun j h => (mcσ_7 j).trans (kqσ_6 j h)
  have deσ_7 : 0 ≤ (σ_7.1 a 40).toInt ∧ (σ_7.1 a 40).toInt ≤ 300 := (by first | (clear hn gσ w0σ k5σ hh hQ mv40_σ_1 gσ_1 w0σ_1 k5σ_1 gσ_2 w0σ_2 k5σ_2 gσ_3 w0σ_3 k5σ_3 gσ_4 w0σ_4 k5σ_4 gσ_5 w0σ_5 k5σ_5 gσ_6 w0σ_6 k5σ_6 gσ_7 w0σ_7; omega) | omega)
  have k5σ_7 : ∀ b g, q_kd X b = 35 → σ_7.1 b g = σ.1 b g := (fun b g q => (q_rdn hσ_7 (Or.inl (m_ne q ha (by decide)))).trans (k5σ_6 b g q))
  refine lv_aload_n hx hb dX12_plays_35 rfl (lv_at hl 0 rfl) ?_
  refine lv_iconst (v := 0) hx hb dX12_plays_36 zki_0 ?_
  refine ps_X12_420_12 E hI ha (by decide) (by decide) (by decide) dX12_plays_37 (fun H locs σ_8 hσ_8 hI => ?_)
  replace hF := q_letX hF hσ_8
  have fr_σ_8 := fr_σ_7.si hσ_8 ha rfl
  have mv40_σ_8 : (σ_8.1 a 40).toInt = (σ_7.1 a 40).toInt := congrArg Int32.toInt (q_rdn hσ_8 (Or.inr (by decide)))
  have mcσ_8 := m_wo hσ_8 (m_ne ha (q_tk (f := 20) (k' := 34) hI ha rfl (by decide)) (by decide))
  have gσ_8 : m_G (m_c X σ_8 a) := m_G.ext (fun j _ _ => mcσ_8 j) gσ_7
  have w0σ_8 : m_W (m_c X σ_8 a) n := m_W.ext (fun j _ _ => mcσ_8 j) w0σ_7
  have kqσ_8 : ∀ j, 654 ≤ j → m_c X σ_8 a j = m_c X σ a j := fun j h => (mcσ_8 j).trans (kqσ_7 j h)
  have deσ_8 : 0 ≤ (σ_8.1 a 40).toInt ∧ (σ_8.1 a 40).toInt ≤ 300 := (by first | (clear hn gσ w0σ k5σ hh hQ mv40_σ_1 gσ_1 w0σ_1 k5σ_1 gσ_2 w0σ_2 k5σ_2 gσ_3 w0σ_3 k5σ_3 gσ_4 w0σ_4 k5σ_4 gσ_5 w0σ_5 k5σ_5 gσ_6 w0σ_6 k5σ_6 gσ_7 w0σ_7 k5σ_7 gσ_8 w0σ_8; omega) | omega)
  have k5σ_8 : ∀ b g, q_kd X b = 35 → σ_8.1 b g = σ.1 b g := (fun b g q => (q_rdn hσ_8 (Or.inl (m_ne q ha (by decide)))).trans (k5σ_7 b g q))
  refine lv_aload_n hx hb dX12_plays_40 rfl (lv_at hl 0 rfl) ?_
  refine lv_iconst (v := 0) hx hb dX12_plays_41 zki_0 ?_
  refine lv_aload_n hx hb dX12_plays_42 rfl (lv_at hl 0 rfl) ?_
  refine gs_X12_35_12 E hI ha dX12_plays_43 ?_
  refine lv_sipush (v := 655) hx hb dX12_plays_46 zks_655 ?_
  refine q_iald E hI (q_tk (k' := 34) hI ha rfl (Nat.succ_ne_zero _)) ⟨by decide, rfl⟩ (by decide) (by rw [q_lnk (v := 4650) hI (q_tk (k' := 34) hI ha rfl (Nat.succ_ne_zero _)) rfl (by decide)]; decide) dX12_plays_49 ?_
  refine lv_topi (fun f_9 ef_9 => ?_)
  replace hF := q_letX hF ef_9
  have if_9 : f_9.toInt = m_c X σ_8 a 655 := m_rd ef_9 (by decide)
  have kc_10 : (0 : Int32).toInt = 0 := zt_0
  refine q_cv (q_rV11_2 (rest := []) E (hml.trans hl.1.symm) hI (c_X12_doAllN l X a n ha 30 (by decide) σ_8 (0 : Int32) f_9 gσ_8 (m_W.le w0σ_8 (by first | (clear hn gσ w0σ k5σ hh hQ mv40_σ_1 gσ_1 w0σ_1 k5σ_1 gσ_2 w0σ_2 k5σ_2 gσ_3 w0σ_3 k5σ_3 gσ_4 w0σ_4 k5σ_4 gσ_5 w0σ_5 k5σ_5 gσ_6 w0σ_6 k5σ_6 gσ_7 w0σ_7 k5σ_7 gσ_8 w0σ_8 k5σ_8 if_9 kc_10; omega) | omega)) (by omega) (by omega) (by first | (clear hn gσ w0σ k5σ hh hQ mv40_σ_1 gσ_1 w0σ_1 k5σ_1 mv40_σ_2 gσ_2 w0σ_2 k5σ_2 mv40_σ_3 gσ_3 w0σ_3 k5σ_3 mv40_σ_4 gσ_4 w0σ_4 k5σ_4 mv40_σ_5 gσ_5 w0σ_5 k5σ_5 mv40_σ_6 gσ_6 w0σ_6 k5σ_6 mv40_σ_7 gσ_7 w0σ_7 k5σ_7 mv40_σ_8 gσ_8 w0σ_8 k5σ_8 if_9; omega) | omega) (by first | (clear hn gσ w0σ k5σ hh hQ mv40_σ_1 gσ_1 w0σ_1 k5σ_1 mv40_σ_2 gσ_2 w0σ_2 k5σ_2 mv40_σ_3 gσ_3 w0σ_3 k5σ_3 mv40_σ_4 gσ_4 w0σ_4 k5σ_4 mv40_σ_5 gσ_5 w0σ_5 k5σ_5 mv40_σ_6 gσ_6 w0σ_6 k5σ_6 mv40_σ_7 gσ_7 w0σ_7 k5σ_7 mv40_σ_8 gσ_8 w0σ_8 k5σ_8 kc_10; omega) | omega)) kv_X12_435 ha ⟨Nat.le_of_ble_eq_true rfl, Nat.le_of_ble_eq_true rfl⟩ (Nat.le_of_ble_eq_true rfl) dX12_plays_50) hI (Nat.le_of_ble_eq_true rfl) (fun σ_12 H locs hpσ_12 hkσ_12 hI => ?_)
  have ahpσ_12 := hpσ_12.1
  have bhpσ_12 := hpσ_12.2.1
  have chpσ_12 := hpσ_12.2.2.1
  have dhpσ_12 := hpσ_12.2.2.2.1
  have ehpσ_12 := hpσ_12.2.2.2.2.1
  have fhpσ_12 := hpσ_12.2.2.2.2.2.1
  have ghpσ_12 := hpσ_12.2.2.2.2.2.2
  clear hpσ_12
  have fr_σ_12 := fr_σ_8.call ghpσ_12 rfl rfl
  replace hF := q_letX hF fhpσ_12
  have gσ_12 : m_G (m_c X σ_12 a) := ahpσ_12
  have wσ_12 : m_W (m_c X σ_12 a) (n + (σ_12.1 a 40).toInt) := bhpσ_12
  have kqσ_12 : ∀ j, 654 ≤ j → m_c X σ_12 a j = m_c X σ a j := (fun j h => (chpσ_12 j h).trans (kqσ_8 j h))
  have deσ_12 : 0 ≤ (σ_12.1 a 40).toInt ∧ (σ_12.1 a 40).toInt ≤ 300 := (by first | (clear hn gσ w0σ k5σ hh hQ mv40_σ_1 gσ_1 w0σ_1 k5σ_1 gσ_2 w0σ_2 k5σ_2 gσ_3 w0σ_3 k5σ_3 gσ_4 w0σ_4 k5σ_4 gσ_5 w0σ_5 k5σ_5 gσ_6 w0σ_6 k5σ_6 gσ_7 w0σ_7 k5σ_7 gσ_8 w0σ_8 k5σ_8 if_9 kc_10 ahpσ_12 bhpσ_12 chpσ_12 ehpσ_12 fhpσ_12 gσ_12 wσ_12; omega) | omega)
  have k5σ_12 : ∀ b g, q_kd X b = 35 → σ_12.1 b g = σ.1 b g := (fun b g q => (ehpσ_12 b g q).trans (k5σ_8 b g q))
  exact q_retv E hr hlk hI ⟨gσ_12, (m_W.le wσ_12 (by first | (clear hn gσ w0σ k5σ hh hQ mv40_σ_1 gσ_1 w0σ_1 k5σ_1 gσ_2 w0σ_2 k5σ_2 gσ_3 w0σ_3 k5σ_3 gσ_4 w0σ_4 k5σ_4 gσ_5 w0σ_5 k5σ_5 gσ_6 w0σ_6 k5σ_6 gσ_7 w0σ_7 k5σ_7 gσ_8 w0σ_8 k5σ_8 if_9 kc_10 ahpσ_12 bhpσ_12 chpσ_12 ehpσ_12 fhpσ_12 gσ_12 wσ_12 k5σ_12; omega) | omega)), kqσ_12, k5σ_12, (hF.trans hout), fr_σ_12⟩ dX12_plays_53
end
/-! FROM 47.marks.a.lean.txt -/
section
section QS
variable {p : Program} {l : Launch} {e : Env} {R : Room} {s : State} {m : MethodId} {args : Array Value} {below : List Frame} {meth : Method} {c : Code} {H : Heap} {locs : List Loc} {cells slots : Nat} {Q : State → Prop} {cc : ByteArray} {X : XW} {n : Nat} {σ0 σ : ST} {H0 : Heap} {pc : Nat} {ls : Array Slot} {rest : List Value} {a : Nat}
theorem kv_X12_443 : q_okV RX12 443 RX12 yX12_plays cX12_plays 2 none 1 := ⟨(q_in_t9 (i := 146) (by first | rfl | decide +kernel) rfl), (q_in_t9 (i := 148) (by first | rfl | decide +kernel) rfl), (q_in_p (i := 105) (by decide +kernel) rfl), (q_in_t1 (i := 14) (by first | rfl | decide +kernel) rfl), (q_in_t9 (i := 149) (by first | rfl | decide +kernel) rfl), ⟨rfl, by decide, by decide, rfl⟩⟩
theorem gs_X12_423_12 (E : q_E p c cc s m args RX12 X) (hI : q_I X n σ0 H0 locs σ H) (ha : q_kd X a = 12) (hdg : decode cc pc = .ok (.getfield 423, 3)) (kk : W p l e R s m args below meth c H locs cells slots Q (F0 m (pc + 3) ls (.int (σ.1 a 45) :: rest))) : W p l e R s m args below meth c H locs cells slots Q (F0 m pc ls (.ref a :: rest)) :=
  q_getf (ref := "CheatHeapModel") E hI ha ⟨rfl, by decide⟩ (show vwCl[11]? = some (RX12, TX12, 46) from rfl) q_inX12 (f := 45) (by decide) (q_in_t7 (i := 30) (by first | rfl | decide +kernel) rfl) (Or.inl rfl) rfl hdg kk
theorem ps_X12_446_12 (E : q_E p c cc s m args RX12 X) (hI : q_I X n σ0 H0 locs σ H) (ha : q_kd X a = 12) {v : Int32} (hcl : n < 9) (h1 : 0 ≤ v.toInt) (h2 : v.toInt ≤ 1) (hdg : decode cc pc = .ok (.putfield 446, 3)) (kk : ∀ (H1 : Heap) (locs1 : List Loc) (σ1 : ST), σ1 = q_si σ a 37 v → q_I X n σ0 H0 locs1 σ1 H1 → W p l e R s m args below meth c H1 locs1 cells slots Q (F0 m (pc + 3) ls rest)) : W p l e R s m args below meth c H locs cells slots Q (F0 m pc ls (.int v :: .ref a :: rest)) :=
  q_puti (ref := "CheatHeapModel") E hI ha ⟨rfl, by decide⟩ (show vwCl[11]? = some (RX12, TX12, 46) from rfl) q_inX12 tyX12_ok nmX12 (f := 37) (by decide) (q_in_t7 (i := 22) (by first | rfl | decide +kernel) rfl) (Or.inl rfl) rfl rfl hcl hdg (q_inB rfl h1 h2) (Or.inr ⟨rfl, h1, h2⟩) (fun H1 l1 h => kk H1 l1 _ rfl h)
theorem gs_X12_38_12 (E : q_E p c cc s m args RX12 X) (hI : q_I X n σ0 H0 locs σ H) (ha : q_kd X a = 12) (hdg : decode cc pc = .ok (.getfield 38, 3)) (kk : W p l e R s m args below meth c H locs cells slots Q (F0 m (pc + 3) ls (.ref (q_rf X a 21) :: rest))) : W p l e R s m args below meth c H locs cells slots Q (F0 m pc ls (.ref a :: rest)) :=
  q_getf (ref := "CheatHeapModel") E hI ha ⟨rfl, by decide⟩ (show vwCl[11]? = some (RX12, TX12, 46) from rfl) q_inX12 (f := 21) (by decide) (q_in_t7 (i := 6) (by first | rfl | decide +kernel) rfl) (Or.inl rfl) rfl hdg kk
theorem kv_X12_451 : q_okV RX12 451 RX12 yX12_tries cX12_tries 8 (some .boolean) 4 := ⟨(q_in_t9 (i := 187) (by first | rfl | decide +kernel) rfl), (q_in_t9 (i := 189) (by first | rfl | decide +kernel) rfl), (q_in_p (i := 113) (by decide +kernel) rfl), (q_in_t1 (i := 14) (by first | rfl | decide +kernel) rfl), (q_in_t9 (i := 190) (by first | rfl | decide +kernel) rfl), ⟨rfl, by decide, by decide, rfl⟩⟩
theorem gs_X12_455_12 (E : q_E p c cc s m args RX12 X) (hI : q_I X n σ0 H0 locs σ H) (ha : q_kd X a = 12) (hdg : decode cc pc = .ok (.getfield 455, 3)) (kk : W p l e R s m args below meth c H locs cells slots Q (F0 m (pc + 3) ls (.int (σ.1 a 24) :: rest))) : W p l e R s m args below meth c H locs cells slots Q (F0 m pc ls (.ref a :: rest)) :=
  q_getf (ref := "CheatHeapModel") E hI ha ⟨rfl, by decide⟩ (show vwCl[11]? = some (RX12, TX12, 46) from rfl) q_inX12 (f := 24) (by decide) (q_in_t7 (i := 9) (by first | rfl | decide +kernel) rfl) (Or.inl rfl) rfl hdg kk
theorem ps_X12_455_12 (E : q_E p c cc s m args RX12 X) (hI : q_I X n σ0 H0 locs σ H) (ha : q_kd X a = 12) {v : Int32} (hcl : n < 1) (h1 : 0 ≤ v.toInt) (h2 : v.toInt ≤ 3) (hdg : decode cc pc = .ok (.putfield 455, 3)) (kk : ∀ (H1 : Heap) (locs1 : List Loc) (σ1 : ST), σ1 = q_si σ a 24 v → q_I X n σ0 H0 locs1 σ1 H1 → W p l e R s m args below meth c H1 locs1 cells slots Q (F0 m (pc + 3) ls rest)) : W p l e R s m args below meth c H locs cells slots Q (F0 m pc ls (.int v :: .ref a :: rest)) :=
  q_puti (ref := "CheatHeapModel") E hI ha ⟨rfl, by decide⟩ (show vwCl[11]? = some (RX12, TX12, 46) from rfl) q_inX12 tyX12_ok nmX12 (f := 24) (by decide) (q_in_t7 (i := 9) (by first | rfl | decide +kernel) rfl) (Or.inl rfl) rfl rfl hcl hdg (q_inB rfl h1 h2) (Or.inl rfl) (fun H1 l1 h => kk H1 l1 _ rfl h)
end QS
end
/-! FROM 47.marks.b00.lean.txt -/
section
set_option maxRecDepth 100000 in
set_option maxHeartbeats 4000000 in
theorem c_X12_play (l : Launch) (X : XW) (σ : ST) (a : Nat) (v1 : Int32) (n : Int) (ha : q_kd X a = 12) (hG : m_G (m_c X σ a)) (hW : m_W (m_c X σ a) n) (hn : 0 ≤ n ∧ n ≤ 199000) : Met l yX12_play (q_ws yX12_play cX12_play 2 (some .int)) (q_rm 69 1612) (q_P X σ [.ref a, .int v1]) (q_Qi X 1 σ (fun (r : Int32) (σ' : ST) => (m_G (m_c X σ' a)) ∧ (m_W (m_c X σ' a) (n + 301)) ∧ (∀ j, 930 ≤ j → j < 3720 → m_c X σ' a j = m_c X σ a j) ∧ (r, σ') = F_X12_play X σ a v1 ∧ q_ow [(12, 0), (12, 1), (12, 37), (12, 38), (12, 39), (12, 40), (12, 41), (12, 42), (12, 43), (12, 44), (12, 45), (34, 99), (39, 99), (41, 99)] [] X σ σ')) 0 0 (q_reg X) := by
  refine q_met 1 (by first | exact rfl | decide +kernel) rfl (Nat.le_of_ble_eq_true rfl) (fun p e s m below meth c E hml hr hlk hI ls hl => ?_)
  have hx := E.1
  have hb := E.2.1
  have hl : lv_has ls 2 [(0, .ref a), (1, .int v1)] := hl
  have gσ : m_G (m_c X σ a) := hG
  have wσ : m_W (m_c X σ a) n := hW
  have kqσ : ∀ j, 654 ≤ j → m_c X σ a j = m_c X σ a j := fun _ _ => rfl
  have fxσ : m_c X σ a = m_c X σ a := rfl
  have fr_σ : q_ow [(12, 0), (12, 1), (12, 37), (12, 38), (12, 39), (12, 40), (12, 41), (12, 42), (12, 43), (12, 44), (12, 45), (34, 99), (39, 99), (41, 99)] [] X σ σ := q_ow.rf
  have hh := hG.hd
  obtain ⟨out, hout⟩ : ∃ o, o = F_X12_play X σ a v1 := ⟨_, rfl⟩
  have hF := hout.symm
  unfold F_X12_play at hF
  refine lv_aload_n hx hb dX12_play_0 rfl (lv_at hl 0 rfl) ?_
  refine lv_iconst (v := 0) hx hb dX12_play_1 zki_0 ?_
  refine ps_X12_59_12 E hI ha (by decide) dX12_play_2 (fun H locs σ_1 hσ_1 hI => ?_)
  replace hF := q_letX hF hσ_1
  have fr_σ_1 := fr_σ.si hσ_1 ha rfl
  have mcσ_1 := m_wo hσ_1 (m_ne ha (q_tk (f := 20) (k' := 34) hI ha rfl (by decide)) (by decide))
  have gσ_1 : m_G (m_c X σ_1 a) := m_G.ext (fun j _ _ => mcσ_1 j) gσ
  have wσ_1 : m_W (m_c X σ_1 a) n := m_W.ext (fun j _ _ => mcσ_1 j) wσ
  have kqσ_1 : ∀ j, 654 ≤ j → m_c X σ_1 a j = m_c X σ a j := fun j h => (mcσ_1 j).trans (kqσ j h)
  have fxσ_1 : m_c X σ_1 a = m_c X σ a := (funext mcσ_1).trans fxσ
  refine lv_aload_n hx hb dX12_play_5 rfl (lv_at hl 0 rfl) ?_
  refine lv_iconst (v := 0) hx hb dX12_play_6 zki_0 ?_
  refine ps_X12_62_12 E hI ha (by decide) dX12_play_7 (fun H locs σ_2 hσ_2 hI => ?_)
  replace hF := q_letX hF hσ_2
  have fr_σ_2 := fr_σ_1.si hσ_2 ha rfl
  have mcσ_2 := m_wo hσ_2 (m_ne ha (q_tk (f := 20) (k' := 34) hI ha rfl (by decide)) (by decide))
  have gσ_2 : m_G (m_c X σ_2 a) := m_G.ext (fun j _ _ => mcσ_2 j) gσ_1
  have wσ_2 : m_W (m_c X σ_2 a) n := m_W.ext (fun j _ _ => mcσ_2 j) wσ_1
  have kqσ_2 : ∀ j, 654 ≤ j → m_c X σ_2 a j = m_c X σ a j := fun j h => (mcσ_2 j).trans (kqσ_1 j h)
  have fxσ_2 : m_c X σ_2 a = m_c X σ a := (funext mcσ_2).trans fxσ_1
  refine lv_iload_n hx hb dX12_play_10 rfl (lv_at hl 1 rfl) ?_
  refine lv_i2l hx hb dX12_play_11 rfl ?_
  refine lv_topl (fun y_3 ey_3 => ?_)
  replace hF := q_letX hF ey_3
  have ggy_3 := q_rng v1
  have iy_3 : y_3.toInt = v1.toInt := by rw [ey_3]; exact (q_i2l _).trans rfl
  refine lv_lconst (v := 0) hx hb dX12_play_12 (by decide) ?_
  refine lv_ldc2 (v := 9999) hx hb E.2.2.1 (E.2.2.2.1 _ (q_in_t9 (i := 145) (by first | rfl | decide +kernel) rfl)) dX12_play_13 ?_
  have kc_4 : (0 : Int64).toInt = 0 := rfl
  have kc_5 : (9999 : Int64).toInt = 9999 := rfl
  refine q_ci (q_runS (As := [.long y_3, .long 0, .long 9999]) (rest := []) E (hml.trans hl.1.symm) hI (c_X12_isIn l X σ_2 y_3 (0 : Int64) (9999 : Int64)) ks_X12_94 rfl ⟨Nat.le_of_ble_eq_true rfl, Nat.le_of_ble_eq_true rfl⟩ ⟨Nat.le_refl _, Nat.le_refl _⟩ rfl (Nat.le_of_ble_eq_true rfl) dX12_play_16) hI (Nat.le_of_ble_eq_true rfl) (fun r_6 σ_7 H locs hpσ_7 hkσ_7 hI => ?_)
  have ahpσ_7 := hpσ_7.1
  have bhpσ_7 := hpσ_7.2.1
  have chpσ_7 := hpσ_7.2.2.1
  have dhpσ_7 := hpσ_7.2.2.2
  clear hpσ_7
  replace hI := q_Irw ahpσ_7 hI
  replace hF := q_letX hF dhpσ_7
  refine q_if_ne (A := r_6.toInt) E rfl (tgt := 28) dX12_play_19 (by decide) (fun c_8 => ?_) (fun c_8 => ?_)
  · skip
    replace hF := q_ifn hF c_8
    replace c_8 := q_ifOne bhpσ_7 c_8
    replace chpσ_7 := q_ifYes chpσ_7 c_8
    refine lv_aload_n hx hb dX12_play_28 rfl (lv_at hl 0 rfl) ?_
    refine gs_X12_35_12 E hI ha dX12_play_29 ?_
    refine lv_sipush (v := 654) hx hb dX12_play_32 zks_654 ?_
    refine q_iald E hI (q_tk (k' := 34) hI ha rfl (Nat.succ_ne_zero _)) ⟨by decide, rfl⟩ (by decide) (by rw [q_lnk (v := 4650) hI (q_tk (k' := 34) hI ha rfl (Nat.succ_ne_zero _)) rfl (by decide)]; decide) dX12_play_35 ?_
    refine lv_topi (fun f_9 ef_9 => ?_)
    replace hF := q_letX hF ef_9
    have if_9 : f_9.toInt = m_c X σ a 654 := (m_rd ef_9 (by decide)).trans (congrFun fxσ_2 _)
    refine q_if_ne (A := f_9.toInt) E rfl (tgt := 46) dX12_play_36 (by decide) (fun c_10 => ?_) (fun c_10 => ?_)
    · skip
      replace hF := q_ifn hF c_10
      refine lv_aload_n hx hb dX12_play_46 rfl (lv_at hl 0 rfl) ?_
      refine lv_iload_n hx hb dX12_play_47 rfl (lv_at hl 1 rfl) ?_
      refine q_cv (q_rV11_1 (rest := []) E (hml.trans hl.1.symm) hI (c_X12_plays l X σ_2 a v1 n ha gσ_2 wσ_2 (by first | (clear gσ wσ hh gσ_1 wσ_1 gσ_2 wσ_2 ggy_3 iy_3 kc_4 kc_5 ahpσ_7 bhpσ_7 dhpσ_7 c_8 chpσ_7 if_9 c_10; omega) | omega)) kv_X12_443 ha ⟨Nat.le_of_ble_eq_true rfl, Nat.le_of_ble_eq_true rfl⟩ (Nat.le_of_ble_eq_true rfl) dX12_play_48) hI (Nat.le_of_ble_eq_true rfl) (fun σ_12 H locs hpσ_12 hkσ_12 hI => ?_)
      have ahpσ_12 := hpσ_12.1
      have bhpσ_12 := hpσ_12.2.1
      have chpσ_12 := hpσ_12.2.2.1
      have dhpσ_12 := hpσ_12.2.2.2.1
      have ehpσ_12 := hpσ_12.2.2.2.2.1
      have fhpσ_12 := hpσ_12.2.2.2.2.2
      clear hpσ_12
      have fr_σ_12 := fr_σ_2.call fhpσ_12 rfl rfl
      replace hF := q_letX hF ehpσ_12
      have gσ_12 : m_G (m_c X σ_12 a) := ahpσ_12
      have vσ_12 : m_W (m_c X σ_12 a) (n + 300) := bhpσ_12
      have kqσ_12 : ∀ j, 654 ≤ j → m_c X σ_12 a j = m_c X σ a j := (fun j h => (chpσ_12 j h).trans (kqσ_2 j h))
      refine lv_aload_n hx hb dX12_play_51 rfl (lv_at hl 0 rfl) ?_
      refine gs_X12_56_12 E hI ha dX12_play_52 ?_
      refine lv_iconst (v := 0) hx hb dX12_play_55 zki_0 ?_
      refine lv_aload_n hx hb dX12_play_56 rfl (lv_at hl 0 rfl) ?_
      refine gs_X12_426_12 E hI ha dX12_play_57 ?_
      refine lv_topi (fun f_13 ef_13 => ?_)
      replace hF := q_letX hF ef_13
      have if_13 : f_13.toInt = (σ_12.1 a 41).toInt := congrArg Int32.toInt ef_13
      refine q_iastN E hI (q_tk (k' := 41) hI ha rfl (Nat.succ_ne_zero _)) ⟨by decide, rfl⟩ (by decide) (by rw [q_lnk (v := 5) hI (q_tk (k' := 41) hI ha rfl (Nat.succ_ne_zero _)) rfl (by decide)]; decide) (show 1 < 9 by decide) (q_inU rfl) dX12_play_60 (fun H locs σ_14 hσ_14 hI => ?_)
      replace hF := q_letX hF hσ_14
      have fr_σ_14 := fr_σ_12.si hσ_14 (q_tk (k' := 41) hI ha rfl (Nat.succ_ne_zero _)) rfl
      have mcσ_14 := m_wo hσ_14 (m_ne (q_tk (k' := 41) hI ha rfl (Nat.succ_ne_zero _)) (q_tk (f := 20) (k' := 34) hI ha rfl (by decide)) (by decide))
      have gσ_14 : m_G (m_c X σ_14 a) := m_G.ext (fun j _ _ => mcσ_14 j) gσ_12
      have vσ_14 : m_W (m_c X σ_14 a) (n + 300) := m_W.ext (fun j _ _ => mcσ_14 j) vσ_12
      have kqσ_14 : ∀ j, 654 ≤ j → m_c X σ_14 a j = m_c X σ a j := fun j h => (mcσ_14 j).trans (kqσ_12 j h)
      refine lv_aload_n hx hb dX12_play_61 rfl (lv_at hl 0 rfl) ?_
      refine gs_X12_56_12 E hI ha dX12_play_62 ?_
      refine lv_iconst (v := 1) hx hb dX12_play_65 zki_1 ?_
      refine lv_aload_n hx hb dX12_play_66 rfl (lv_at hl 0 rfl) ?_
      refine gs_X12_405_12 E hI ha dX12_play_67 ?_
      refine lv_topi (fun f_15 ef_15 => ?_)
      replace hF := q_letX hF ef_15
      have if_15 : f_15.toInt = (σ_14.1 a 42).toInt := congrArg Int32.toInt ef_15
      refine q_iastN E hI (q_tk (k' := 41) hI ha rfl (Nat.succ_ne_zero _)) ⟨by decide, rfl⟩ (by decide) (by rw [q_lnk (v := 5) hI (q_tk (k' := 41) hI ha rfl (Nat.succ_ne_zero _)) rfl (by decide)]; decide) (show 1 < 9 by decide) (q_inU rfl) dX12_play_70 (fun H locs σ_16 hσ_16 hI => ?_)
      replace hF := q_letX hF hσ_16
      have fr_σ_16 := fr_σ_14.si hσ_16 (q_tk (k' := 41) hI ha rfl (Nat.succ_ne_zero _)) rfl
      have mcσ_16 := m_wo hσ_16 (m_ne (q_tk (k' := 41) hI ha rfl (Nat.succ_ne_zero _)) (q_tk (f := 20) (k' := 34) hI ha rfl (by decide)) (by decide))
      have gσ_16 : m_G (m_c X σ_16 a) := m_G.ext (fun j _ _ => mcσ_16 j) gσ_14
      have vσ_16 : m_W (m_c X σ_16 a) (n + 300) := m_W.ext (fun j _ _ => mcσ_16 j) vσ_14
      have kqσ_16 : ∀ j, 654 ≤ j → m_c X σ_16 a j = m_c X σ a j := fun j h => (mcσ_16 j).trans (kqσ_14 j h)
      refine lv_aload_n hx hb dX12_play_71 rfl (lv_at hl 0 rfl) ?_
      refine gs_X12_56_12 E hI ha dX12_play_72 ?_
      refine lv_iconst (v := 2) hx hb dX12_play_75 zki_2 ?_
      refine lv_aload_n hx hb dX12_play_76 rfl (lv_at hl 0 rfl) ?_
      refine gs_X12_408_12 E hI ha dX12_play_77 ?_
      refine lv_topi (fun f_17 ef_17 => ?_)
      replace hF := q_letX hF ef_17
      have if_17 : f_17.toInt = (σ_16.1 a 43).toInt := congrArg Int32.toInt ef_17
      refine q_iastN E hI (q_tk (k' := 41) hI ha rfl (Nat.succ_ne_zero _)) ⟨by decide, rfl⟩ (by decide) (by rw [q_lnk (v := 5) hI (q_tk (k' := 41) hI ha rfl (Nat.succ_ne_zero _)) rfl (by decide)]; decide) (show 1 < 9 by decide) (q_inU rfl) dX12_play_80 (fun H locs σ_18 hσ_18 hI => ?_)
      replace hF := q_letX hF hσ_18
      have fr_σ_18 := fr_σ_16.si hσ_18 (q_tk (k' := 41) hI ha rfl (Nat.succ_ne_zero _)) rfl
      have mcσ_18 := m_wo hσ_18 (m_ne (q_tk (k' := 41) hI ha rfl (Nat.succ_ne_zero _)) (q_tk (f := 20) (k' := 34) hI ha rfl (by decide)) (by decide))
      have gσ_18 : m_G (m_c X σ_18 a) := m_G.ext (fun j _ _ => mcσ_18 j) gσ_16
      have vσ_18 : m_W (m_c X σ_18 a) (n + 300) := m_W.ext (fun j _ _ => mcσ_18 j) vσ_16
      have kqσ_18 : ∀ j, 654 ≤ j → m_c X σ_18 a j = m_c X σ a j := fun j h => (mcσ_18 j).trans (kqσ_16 j h)
      refine lv_aload_n hx hb dX12_play_81 rfl (lv_at hl 0 rfl) ?_
      refine gs_X12_56_12 E hI ha dX12_play_82 ?_
      refine lv_iconst (v := 3) hx hb dX12_play_85 zki_3 ?_
      refine lv_aload_n hx hb dX12_play_86 rfl (lv_at hl 0 rfl) ?_
      refine gs_X12_411_12 E hI ha dX12_play_87 ?_
      refine lv_topi (fun f_19 ef_19 => ?_)
      replace hF := q_letX hF ef_19
      have if_19 : f_19.toInt = (σ_18.1 a 44).toInt := congrArg Int32.toInt ef_19
      refine q_iastN E hI (q_tk (k' := 41) hI ha rfl (Nat.succ_ne_zero _)) ⟨by decide, rfl⟩ (by decide) (by rw [q_lnk (v := 5) hI (q_tk (k' := 41) hI ha rfl (Nat.succ_ne_zero _)) rfl (by decide)]; decide) (show 1 < 9 by decide) (q_inU rfl) dX12_play_90 (fun H locs σ_20 hσ_20 hI => ?_)
      replace hF := q_letX hF hσ_20
      have fr_σ_20 := fr_σ_18.si hσ_20 (q_tk (k' := 41) hI ha rfl (Nat.succ_ne_zero _)) rfl
      have mcσ_20 := m_wo hσ_20 (m_ne (q_tk (k' := 41) hI ha rfl (Nat.succ_ne_zero _)) (q_tk (f := 20) (k' := 34) hI ha rfl (by decide)) (by decide))
      have gσ_20 : m_G (m_c X σ_20 a) := m_G.ext (fun j _ _ => mcσ_20 j) gσ_18
      have vσ_20 : m_W (m_c X σ_20 a) (n + 300) := m_W.ext (fun j _ _ => mcσ_20 j) vσ_18
      have kqσ_20 : ∀ j, 654 ≤ j → m_c X σ_20 a j = m_c X σ a j := fun j h => (mcσ_20 j).trans (kqσ_18 j h)
      refine lv_aload_n hx hb dX12_play_91 rfl (lv_at hl 0 rfl) ?_
      refine gs_X12_56_12 E hI ha dX12_play_92 ?_
      refine lv_iconst (v := 4) hx hb dX12_play_95 zki_4 ?_
      refine lv_aload_n hx hb dX12_play_96 rfl (lv_at hl 0 rfl) ?_
      refine gs_X12_423_12 E hI ha dX12_play_97 ?_
      refine lv_topi (fun f_21 ef_21 => ?_)
      replace hF := q_letX hF ef_21
      have if_21 : f_21.toInt = (σ_20.1 a 45).toInt := congrArg Int32.toInt ef_21
      refine q_iastN E hI (q_tk (k' := 41) hI ha rfl (Nat.succ_ne_zero _)) ⟨by decide, rfl⟩ (by decide) (by rw [q_lnk (v := 5) hI (q_tk (k' := 41) hI ha rfl (Nat.succ_ne_zero _)) rfl (by decide)]; decide) (show 1 < 9 by decide) (q_inU rfl) dX12_play_100 (fun H locs σ_22 hσ_22 hI => ?_)
      replace hF := q_letX hF hσ_22
      have fr_σ_22 := fr_σ_20.si hσ_22 (q_tk (k' := 41) hI ha rfl (Nat.succ_ne_zero _)) rfl
      have mcσ_22 := m_wo hσ_22 (m_ne (q_tk (k' := 41) hI ha rfl (Nat.succ_ne_zero _)) (q_tk (f := 20) (k' := 34) hI ha rfl (by decide)) (by decide))
      have gσ_22 : m_G (m_c X σ_22 a) := m_G.ext (fun j _ _ => mcσ_22 j) gσ_20
      have vσ_22 : m_W (m_c X σ_22 a) (n + 300) := m_W.ext (fun j _ _ => mcσ_22 j) vσ_20
      have kqσ_22 : ∀ j, 654 ≤ j → m_c X σ_22 a j = m_c X σ a j := fun j h => (mcσ_22 j).trans (kqσ_20 j h)
      refine lv_aload_n hx hb dX12_play_101 rfl (lv_at hl 0 rfl) ?_
      refine lv_iconst (v := 1) hx hb dX12_play_102 zki_1 ?_
      refine ps_X12_446_12 E hI ha (by decide) (by decide) (by decide) dX12_play_103 (fun H locs σ_23 hσ_23 hI => ?_)
      replace hF := q_letX hF hσ_23
      have fr_σ_23 := fr_σ_22.si hσ_23 ha rfl
      have mcσ_23 := m_wo hσ_23 (m_ne ha (q_tk (f := 20) (k' := 34) hI ha rfl (by decide)) (by decide))
      have gσ_23 : m_G (m_c X σ_23 a) := m_G.ext (fun j _ _ => mcσ_23 j) gσ_22
      have vσ_23 : m_W (m_c X σ_23 a) (n + 300) := m_W.ext (fun j _ _ => mcσ_23 j) vσ_22
      have kqσ_23 : ∀ j, 654 ≤ j → m_c X σ_23 a j = m_c X σ a j := fun j h => (mcσ_23 j).trans (kqσ_22 j h)
      refine lv_aload_n hx hb dX12_play_106 rfl (lv_at hl 0 rfl) ?_
      refine gs_X12_417_12 E hI ha dX12_play_107 ?_
      refine lv_topi (fun f_24 ef_24 => ?_)
      replace hF := q_letX hF ef_24
      have if_24 : f_24.toInt = (σ_23.1 a 40).toInt := congrArg Int32.toInt ef_24
      exact q_reti E hr hlk hI ⟨gσ_23, (by first | exact m_W.le vσ_23 (by first | (clear hn gσ wσ hh gσ_1 wσ_1 gσ_2 wσ_2 ggy_3 iy_3 kc_4 kc_5 ahpσ_7 bhpσ_7 dhpσ_7 c_8 chpσ_7 if_9 c_10 ahpσ_12 bhpσ_12 chpσ_12 dhpσ_12 ehpσ_12 fhpσ_12 gσ_12 vσ_12 if_13 gσ_14 vσ_14 if_15 gσ_16 vσ_16 if_17 gσ_18 vσ_18 if_19 gσ_20 vσ_20 if_21 gσ_22 vσ_22 gσ_23 vσ_23 if_24; omega) | omega) | exact m_W.le wσ_23 (by omega)), (fun j h0 h1 => kqσ_23 j (by first | (clear hn gσ wσ hh gσ_1 wσ_1 gσ_2 wσ_2 ggy_3 iy_3 kc_4 kc_5 ahpσ_7 bhpσ_7 dhpσ_7 c_8 chpσ_7 if_9 c_10 ahpσ_12 bhpσ_12 chpσ_12 dhpσ_12 ehpσ_12 fhpσ_12 gσ_12 vσ_12 if_13 gσ_14 vσ_14 if_15 gσ_16 vσ_16 if_17 gσ_18 vσ_18 if_19 gσ_20 vσ_20 if_21 gσ_22 vσ_22 gσ_23 vσ_23 if_24; omega) | omega)), (hF.trans hout), fr_σ_23⟩ dX12_play_110
    · skip
      replace hF := q_ifp hF c_10
      refine lv_aload_n hx hb dX12_play_39 rfl (lv_at hl 0 rfl) ?_
      refine lv_bipush (v := 8) hx hb dX12_play_40 zkb_8 ?_
      have kc_25 : (8 : Int32).toInt = 8 := zt_8
      refine q_ci (q_rV11_1 (rest := []) E (hml.trans hl.1.symm) hI (c_X12_refuse l X σ_2 a (8 : Int32) ha) kv_X12_284 ha ⟨Nat.le_of_ble_eq_true rfl, Nat.le_of_ble_eq_true rfl⟩ (Nat.le_of_ble_eq_true rfl) dX12_play_42) hI (Nat.le_of_ble_eq_true rfl) (fun r_26 σ_27 H locs hpσ_27 hkσ_27 hI => ?_)
      have ahpσ_27 := hpσ_27.1
      have bhpσ_27 := hpσ_27.2.1
      have chpσ_27 := hpσ_27.2.2
      clear hpσ_27
      have fr_σ_27 := fr_σ_2.call chpσ_27 rfl rfl
      replace hF := q_biX hF bhpσ_27
      have mcσ_27 := m_cK hkσ_27 hI.1 ha (by decide)
      have gσ_27 : m_G (m_c X σ_27 a) := m_G.ext (fun j _ _ => mcσ_27 j) gσ_2
      have wσ_27 : m_W (m_c X σ_27 a) n := m_W.ext (fun j _ _ => mcσ_27 j) wσ_2
      have kqσ_27 : ∀ j, 654 ≤ j → m_c X σ_27 a j = m_c X σ a j := fun j h => (mcσ_27 j).trans (kqσ_2 j h)
      have fxσ_27 : m_c X σ_27 a = m_c X σ a := (funext mcσ_27).trans fxσ_2
      exact q_reti E hr hlk hI ⟨gσ_27, (by first | exact m_W.le vσ_27 (by omega) | exact m_W.le wσ_27 (by first | (clear hn gσ wσ hh gσ_1 wσ_1 gσ_2 wσ_2 ggy_3 iy_3 kc_4 kc_5 ahpσ_7 bhpσ_7 dhpσ_7 c_8 chpσ_7 if_9 c_10 kc_25 ahpσ_27 bhpσ_27 chpσ_27 gσ_27 wσ_27; omega) | omega)), (fun j h0 h1 => kqσ_27 j (by first | (clear hn gσ wσ hh gσ_1 wσ_1 gσ_2 wσ_2 ggy_3 iy_3 kc_4 kc_5 ahpσ_7 bhpσ_7 dhpσ_7 c_8 chpσ_7 if_9 c_10 kc_25 ahpσ_27 bhpσ_27 chpσ_27 gσ_27 wσ_27; omega) | omega)), (hF.trans hout), fr_σ_27⟩ dX12_play_45
  · skip
    replace hF := q_ifp hF c_8
    replace chpσ_7 := q_ifNo chpσ_7 c_8
    refine lv_aload_n hx hb dX12_play_22 rfl (lv_at hl 0 rfl) ?_
    refine lv_iconst (v := 5) hx hb dX12_play_23 zki_5 ?_
    have kc_28 : (5 : Int32).toInt = 5 := zt_5
    refine q_ci (q_rV11_1 (rest := []) E (hml.trans hl.1.symm) hI (c_X12_refuse l X σ_2 a (5 : Int32) ha) kv_X12_284 ha ⟨Nat.le_of_ble_eq_true rfl, Nat.le_of_ble_eq_true rfl⟩ (Nat.le_of_ble_eq_true rfl) dX12_play_24) hI (Nat.le_of_ble_eq_true rfl) (fun r_29 σ_30 H locs hpσ_30 hkσ_30 hI => ?_)
    have ahpσ_30 := hpσ_30.1
    have bhpσ_30 := hpσ_30.2.1
    have chpσ_30 := hpσ_30.2.2
    clear hpσ_30
    have fr_σ_30 := fr_σ_2.call chpσ_30 rfl rfl
    replace hF := q_biX hF bhpσ_30
    have mcσ_30 := m_cK hkσ_30 hI.1 ha (by decide)
    have gσ_30 : m_G (m_c X σ_30 a) := m_G.ext (fun j _ _ => mcσ_30 j) gσ_2
    have wσ_30 : m_W (m_c X σ_30 a) n := m_W.ext (fun j _ _ => mcσ_30 j) wσ_2
    have kqσ_30 : ∀ j, 654 ≤ j → m_c X σ_30 a j = m_c X σ a j := fun j h => (mcσ_30 j).trans (kqσ_2 j h)
    have fxσ_30 : m_c X σ_30 a = m_c X σ a := (funext mcσ_30).trans fxσ_2
    exact q_reti E hr hlk hI ⟨gσ_30, (by first | exact m_W.le vσ_30 (by omega) | exact m_W.le wσ_30 (by first | (clear hn gσ wσ hh gσ_1 wσ_1 gσ_2 wσ_2 ggy_3 iy_3 kc_4 kc_5 ahpσ_7 bhpσ_7 dhpσ_7 c_8 chpσ_7 kc_28 ahpσ_30 bhpσ_30 chpσ_30 gσ_30 wσ_30; omega) | omega)), (fun j h0 h1 => kqσ_30 j (by first | (clear hn gσ wσ hh gσ_1 wσ_1 gσ_2 wσ_2 ggy_3 iy_3 kc_4 kc_5 ahpσ_7 bhpσ_7 dhpσ_7 c_8 chpσ_7 kc_28 ahpσ_30 bhpσ_30 chpσ_30 gσ_30 wσ_30; omega) | omega)), (hF.trans hout), fr_σ_30⟩ dX12_play_27

set_option maxRecDepth 100000 in
set_option maxHeartbeats 4000000 in
theorem c_X12_tries (l : Launch) (X : XW) (σ : ST) (a : Nat) (v1 : Int32) (v2 : Int32) (v3 : Int32) (v4 : Int32) (n : Int) (ha : q_kd X a = 12) (hG : m_G (m_c X σ a)) (hW : m_W (m_c X σ a) n) (hn : 0 ≤ n ∧ n ≤ 199000) : Met l yX12_tries (q_ws yX12_tries cX12_tries 8 (some .boolean)) (q_rm 69 1612) (q_P X σ [.ref a, .int v1, .int v2, .int v3, .int v4]) (q_Qi X 1 σ (fun (r : Int32) (σ' : ST) => (0 ≤ r.toInt ∧ r.toInt ≤ 1) ∧ (m_c X σ' a = m_c X σ a) ∧ (r, σ') = F_X12_tries X σ a v1 v2 v3 v4 ∧ q_ow [(12, 0), (12, 1), (12, 38), (12, 39), (12, 40), (12, 41), (12, 42), (12, 43), (12, 44), (12, 45), (34, 99), (35, 99), (39, 99)] [(12, 2), (12, 3)] X σ σ')) 0 0 (q_reg X) := by
  refine q_met 1 (by first | exact rfl | decide +kernel) rfl (Nat.le_of_ble_eq_true rfl) (fun p e s m below meth c E hml hr hlk hI ls hl => ?_)
  have hx := E.1
  have hb := E.2.1
  have hl : lv_has ls 8 [(0, .ref a), (1, .int v1), (2, .int v2), (3, .int v3), (4, .int v4)] := hl
  have fxσ : m_c X σ a = m_c X σ a := rfl
  have fr_σ : q_ow [(12, 0), (12, 1), (12, 38), (12, 39), (12, 40), (12, 41), (12, 42), (12, 43), (12, 44), (12, 45), (34, 99), (35, 99), (39, 99)] [(12, 2), (12, 3)] X σ σ := q_ow.rf
  have hh := hG.hd
  obtain ⟨out, hout⟩ : ∃ o, o = F_X12_tries X σ a v1 v2 v3 v4 := ⟨_, rfl⟩
  have hF := hout.symm
  unfold F_X12_tries at hF
  refine lv_aload_n hx hb dX12_tries_0 rfl (lv_at hl 0 rfl) ?_
  refine lv_iconst (v := 0) hx hb dX12_tries_1 zki_0 ?_
  refine ps_X12_59_12 E hI ha (by decide) dX12_tries_2 (fun H locs σ_1 hσ_1 hI => ?_)
  replace hF := q_letX hF hσ_1
  have fr_σ_1 := fr_σ.si hσ_1 ha rfl
  have mcσ_1 := m_wo hσ_1 (m_ne ha (q_tk (f := 20) (k' := 34) hI ha rfl (by decide)) (by decide))
  have fxσ_1 : m_c X σ_1 a = m_c X σ a := (funext mcσ_1).trans fxσ
  refine lv_aload_n hx hb dX12_tries_5 rfl (lv_at hl 0 rfl) ?_
  refine lv_iconst (v := 0) hx hb dX12_tries_6 zki_0 ?_
  refine ps_X12_62_12 E hI ha (by decide) dX12_tries_7 (fun H locs σ_2 hσ_2 hI => ?_)
  replace hF := q_letX hF hσ_2
  have fr_σ_2 := fr_σ_1.si hσ_2 ha rfl
  have mcσ_2 := m_wo hσ_2 (m_ne ha (q_tk (f := 20) (k' := 34) hI ha rfl (by decide)) (by decide))
  have fxσ_2 : m_c X σ_2 a = m_c X σ a := (funext mcσ_2).trans fxσ_1
  refine lv_aload_n hx hb dX12_tries_10 rfl (lv_at hl 0 rfl) ?_
  refine lv_iload_n hx hb dX12_tries_11 rfl (lv_at hl 1 rfl) ?_
  refine q_ci (q_rV11_1 (rest := []) E (hml.trans hl.1.symm) hI (c_X12_isPlayerAt l X σ_2 a v1 ha (by rw [fxσ_2]; exact hG)) kv_X12_290 ha ⟨Nat.le_of_ble_eq_true rfl, Nat.le_of_ble_eq_true rfl⟩ (Nat.le_of_ble_eq_true rfl) dX12_tries_12) hI (Nat.le_of_ble_eq_true rfl) (fun r_3 σ_4 H locs hpσ_4 hkσ_4 hI => ?_)
  have ahpσ_4 := hpσ_4.1
  have bhpσ_4 := hpσ_4.2.1
  have chpσ_4 := hpσ_4.2.2.1
  have dhpσ_4 := hpσ_4.2.2.2
  clear hpσ_4
  replace hI := q_Irw ahpσ_4 hI
  rw [fxσ_2] at chpσ_4
  replace hF := q_letX hF dhpσ_4
  refine q_if_ne (A := r_3.toInt) E rfl (tgt := 24) dX12_tries_15 (by decide) (fun c_5 => ?_) (fun c_5 => ?_)
  · skip
    replace hF := q_ifn hF c_5
    replace c_5 := q_ifOne bhpσ_4 c_5
    replace chpσ_4 := q_ifYes chpσ_4 c_5
    refine lv_iload_n hx hb dX12_tries_24 rfl (lv_at hl 3 rfl) ?_
    refine lv_i2l hx hb dX12_tries_25 rfl ?_
    refine lv_topl (fun y_6 ey_6 => ?_)
    replace hF := q_letX hF ey_6
    have ggy_6 := q_rng v3
    have iy_6 : y_6.toInt = v3.toInt := by rw [ey_6]; exact (q_i2l _).trans rfl
    refine lv_lconst (v := 1) hx hb dX12_tries_26 (by decide) ?_
    refine lv_ldc2 (v := 20) hx hb E.2.2.1 (E.2.2.2.1 _ (q_in_t9 (i := 191) (by first | rfl | decide +kernel) rfl)) dX12_tries_27 ?_
    have kc_7 : (1 : Int64).toInt = 1 := rfl
    have kc_8 : (20 : Int64).toInt = 20 := rfl
    refine q_ci (q_runS (As := [.long y_6, .long 1, .long 20]) (rest := []) E (hml.trans hl.1.symm) hI (c_X12_isIn l X σ_2 y_6 (1 : Int64) (20 : Int64)) ks_X12_94 rfl ⟨Nat.le_of_ble_eq_true rfl, Nat.le_of_ble_eq_true rfl⟩ ⟨Nat.le_refl _, Nat.le_refl _⟩ rfl (Nat.le_of_ble_eq_true rfl) dX12_tries_30) hI (Nat.le_of_ble_eq_true rfl) (fun r_9 σ_10 H locs hpσ_10 hkσ_10 hI => ?_)
    have ahpσ_10 := hpσ_10.1
    have bhpσ_10 := hpσ_10.2.1
    have chpσ_10 := hpσ_10.2.2.1
    have dhpσ_10 := hpσ_10.2.2.2
    clear hpσ_10
    replace hI := q_Irw ahpσ_10 hI
    replace hF := q_letX hF dhpσ_10
    refine q_if_eq (A := r_9.toInt) E rfl (tgt := 51) dX12_tries_33 (by decide) (fun c_11 => ?_) (fun c_11 => ?_)
    · skip
      replace hF := q_ifp hF c_11
      replace chpσ_10 := q_ifNo chpσ_10 c_11
      refine lv_aload_n hx hb dX12_tries_51 rfl (lv_at hl 0 rfl) ?_
      refine lv_iconst (v := 5) hx hb dX12_tries_52 zki_5 ?_
      have kc_12 : (5 : Int32).toInt = 5 := zt_5
      refine q_ci (q_rV11_1 (rest := []) E (hml.trans hl.1.symm) hI (c_X12_no l X σ_2 a (5 : Int32) ha) kv_X12_74 ha ⟨Nat.le_of_ble_eq_true rfl, Nat.le_of_ble_eq_true rfl⟩ (Nat.le_of_ble_eq_true rfl) dX12_tries_53) hI (Nat.le_of_ble_eq_true rfl) (fun r_13 σ_14 H locs hpσ_14 hkσ_14 hI => ?_)
      have ahpσ_14 := hpσ_14.1
      have bhpσ_14 := hpσ_14.2.1
      have chpσ_14 := hpσ_14.2.2.1
      have dhpσ_14 := hpσ_14.2.2.2
      clear hpσ_14
      have fr_σ_14 := fr_σ_2.call dhpσ_14 rfl rfl
      replace hF := q_biX hF chpσ_14
      have mcσ_14 := m_cK hkσ_14 hI.1 ha (by decide)
      have fxσ_14 : m_c X σ_14 a = m_c X σ a := (funext mcσ_14).trans fxσ_2
      exact q_retz E hr hlk hI ⟨by omega, by omega⟩ ⟨⟨by omega, by omega⟩, fxσ_14, (hF.trans hout), fr_σ_14⟩ dX12_tries_56
    · skip
      replace hF := q_ifn hF c_11
      replace c_11 := q_ifOne bhpσ_10 c_11
      replace chpσ_10 := q_ifYes chpσ_10 c_11
      refine lv_iload_n hx hb dX12_tries_36 rfl (lv_at hl 2 rfl) ?_
      refine lv_i2l hx hb dX12_tries_37 rfl ?_
      refine lv_topl (fun y_15 ey_15 => ?_)
      replace hF := q_letX hF ey_15
      have ggy_15 := q_rng v2
      have iy_15 : y_15.toInt = v2.toInt := by rw [ey_15]; exact (q_i2l _).trans rfl
      refine lv_lconst (v := 0) hx hb dX12_tries_38 (by decide) ?_
      refine lv_sipush (v := 10000) hx hb dX12_tries_39 zks_10000 ?_
      refine lv_iload_n hx hb dX12_tries_42 rfl (lv_at hl 3 rfl) ?_
      refine lv_isub hx hb dX12_tries_43 ?_
      refine lv_topi (fun z_16 ez_16 => ?_)
      replace hF := q_letX hF ez_16
      refine lv_i2l hx hb dX12_tries_44 rfl ?_
      refine lv_topl (fun y_17 ey_17 => ?_)
      replace hF := q_letX hF ey_17
      have ggy_17 := q_rng z_16
      have iy_17 : y_17.toInt = z_16.toInt := by rw [ey_17]; exact (q_i2l _).trans rfl
      have kc_18 : (0 : Int64).toInt = 0 := rfl
      refine q_ci (q_runS (As := [.long y_15, .long 0, .long y_17]) (rest := []) E (hml.trans hl.1.symm) hI (c_X12_isIn l X σ_2 y_15 (0 : Int64) y_17) ks_X12_94 rfl ⟨Nat.le_of_ble_eq_true rfl, Nat.le_of_ble_eq_true rfl⟩ ⟨Nat.le_refl _, Nat.le_refl _⟩ rfl (Nat.le_of_ble_eq_true rfl) dX12_tries_45) hI (Nat.le_of_ble_eq_true rfl) (fun r_19 σ_20 H locs hpσ_20 hkσ_20 hI => ?_)
      have ahpσ_20 := hpσ_20.1
      have bhpσ_20 := hpσ_20.2.1
      have chpσ_20 := hpσ_20.2.2.1
      have dhpσ_20 := hpσ_20.2.2.2
      clear hpσ_20
      replace hI := q_Irw ahpσ_20 hI
      replace hF := q_letX hF dhpσ_20
      refine q_if_ne (A := r_19.toInt) E rfl (tgt := 57) dX12_tries_48 (by decide) (fun c_21 => ?_) (fun c_21 => ?_)
      · skip
        replace hF := q_ifn hF c_21
        replace c_21 := q_ifOne bhpσ_20 c_21
        replace chpσ_20 := q_ifYes chpσ_20 c_21
        refine lv_aload_n hx hb dX12_tries_57 rfl (lv_at hl 0 rfl) ?_
        refine gs_X12_35_12 E hI ha dX12_tries_58 ?_
        refine lv_sipush (v := 654) hx hb dX12_tries_61 zks_654 ?_
        refine q_iald E hI (q_tk (k' := 34) hI ha rfl (Nat.succ_ne_zero _)) ⟨by decide, rfl⟩ (by decide) (by rw [q_lnk (v := 4650) hI (q_tk (k' := 34) hI ha rfl (Nat.succ_ne_zero _)) rfl (by decide)]; decide) dX12_tries_64 ?_
        refine lv_topi (fun f_22 ef_22 => ?_)
        replace hF := q_letX hF ef_22
        have if_22 : f_22.toInt = m_c X σ a 654 := (m_rd ef_22 (by decide)).trans (congrFun fxσ_2 _)
        refine q_if_ne (A := f_22.toInt) E rfl (tgt := 75) dX12_tries_65 (by decide) (fun c_23 => ?_) (fun c_23 => ?_)
        · skip
          replace hF := q_ifn hF c_23
          refine lv_iconst (v := 0) hx hb dX12_tries_75 zki_0 ?_
          refine lv_istore (lv' := [(5, .int 0), (0, .ref a), (1, .int v1), (2, .int v2), (3, .int v3), (4, .int v4)]) hx hb dX12_tries_76 hl (by decide) rfl (fun ls hl => ?_)
          have L_78_26 : ∀ (k_26 : Nat) (x_24 : Int32) (σ_25 : ST) (H : Heap) (locs : List Loc) (ls : Array Slot), (2147483647 - x_24.toInt).toNat < k_26 → (0 ≤ x_24.toInt ∧ x_24.toInt ≤ 654) → (∀ j, 0 ≤ j → j < x_24.toInt → m_of σ_25 (q_rf X a 21) j = m_c X σ a j) → (q_ow [(12, 0), (12, 1), (12, 38), (12, 39), (12, 40), (12, 41), (12, 42), (12, 43), (12, 44), (12, 45), (34, 99), (35, 99), (39, 99)] [(12, 2), (12, 3)] X σ σ_25) → (m_c X σ_25 a = m_c X σ a) → (F_X12_tries_L78_1 X a v3 v2 v4 v1 k_26 x_24 σ_25 = out) → q_I X 1 σ s.heap locs σ_25 H → lv_has ls 8 [(0, .ref a), (1, .int v1), (2, .int v2), (3, .int v3), (4, .int v4), (5, .int x_24)] → W p l e (q_rm 69 1612) s m ([.ref a, .int v1, .int v2, .int v3, .int v4] : List Value).toArray below meth c H locs 0 0 (MQ below (q_Qi X 1 σ (fun (r : Int32) (σ' : ST) => (0 ≤ r.toInt ∧ r.toInt ≤ 1) ∧ (m_c X σ' a = m_c X σ a) ∧ (r, σ') = F_X12_tries X σ a v1 v2 v3 v4 ∧ q_ow [(12, 0), (12, 1), (12, 38), (12, 39), (12, 40), (12, 41), (12, 42), (12, 43), (12, 44), (12, 45), (34, 99), (35, 99), (39, 99)] [(12, 2), (12, 3)] X σ σ')) ([.ref a, .int v1, .int v2, .int v3, .int v4] : List Value).toArray s 0 0 (q_reg X)) (F0 m 78 ls []) := by
            clear hF
            intro k_26
            induction k_26 with
            | zero =>
              intro x_24 σ_25 H locs ls hms
              exact absurd hms (Nat.not_lt_zero _)
            | succ k_26 ih78 =>
              intro x_24 σ_25 H locs ls hm78 hge78 klσ_25 fr_σ_25 fxσ_25 hF hI hl
              replace hF := (F_X12_tries_L78_1_s).symm.trans hF
              unfold F_X12_tries_B78_1 at hF
              refine lv_iload hx hb dX12_tries_78 (lv_at hl 5 rfl) ?_
              refine lv_sipush (v := 654) hx hb dX12_tries_80 zks_654 ?_
              have gc_27_x_24 := q_rng x_24
              refine q_icmp_ge (A := x_24.toInt) (B := 654) E rfl (by decide) (tgt := 106) dX12_tries_83 (by decide) (fun c_27 => ?_) (fun c_27 => ?_)
              · skip
                replace hF := q_ifn hF (Int.not_lt.mpr c_27)
                skip
                have kfσ_25 : ∀ j, 0 ≤ j → j < 654 → m_of σ_25 (q_rf X a 21) j = m_c X σ a j := fun j h0 h1 => klσ_25 j h0 (by first | (clear hn hh ahpσ_4 bhpσ_4 dhpσ_4 c_5 chpσ_4 ggy_6 iy_6 kc_7 kc_8 ahpσ_10 bhpσ_10 dhpσ_10 c_11 chpσ_10 ggy_15 iy_15 ggy_17 iy_17 kc_18 ahpσ_20 bhpσ_20 dhpσ_20 c_21 chpσ_20 if_22 c_23 hm78 gc_27_x_24; omega) | omega)
                refine lv_iconst (v := 0) hx hb dX12_tries_106 zki_0 ?_
                refine lv_istore (lv' := [(5, .int 0), (0, .ref a), (1, .int v1), (2, .int v2), (3, .int v3), (4, .int v4)]) hx hb dX12_tries_107 hl (by decide) rfl (fun ls hl => ?_)
                refine lv_iconst (v := 0) hx hb dX12_tries_109 zki_0 ?_
                refine lv_istore (lv' := [(6, .int 0), (5, .int 0), (0, .ref a), (1, .int v1), (2, .int v2), (3, .int v3), (4, .int v4)]) hx hb dX12_tries_110 hl (by decide) rfl (fun ls hl => ?_)
                have L_112_31 : ∀ (k_31 : Nat) (x_28 : Int32) (x_29 : Int32) (σ_30 : ST) (H : Heap) (locs : List Loc) (ls : Array Slot), (2147483647 - x_29.toInt).toNat < k_31 → (0 ≤ x_29.toInt) → (q_ow [(12, 0), (12, 1), (12, 38), (12, 39), (12, 40), (12, 41), (12, 42), (12, 43), (12, 44), (12, 45), (34, 99), (35, 99), (39, 99)] [(12, 2), (12, 3)] X σ σ_30) → (m_c X σ_30 a = m_c X σ a) → (∀ j, 0 ≤ j → j < 654 → m_of σ_30 (q_rf X a 21) j = m_c X σ a j) → (F_X12_tries_L112_3 X v3 v2 a v4 v1 k_31 x_28 x_29 σ_30 = out) → q_I X 1 σ s.heap locs σ_30 H → lv_has ls 8 [(0, .ref a), (1, .int v1), (2, .int v2), (3, .int v3), (4, .int v4), (5, .int x_28), (6, .int x_29)] → W p l e (q_rm 69 1612) s m ([.ref a, .int v1, .int v2, .int v3, .int v4] : List Value).toArray below meth c H locs 0 0 (MQ below (q_Qi X 1 σ (fun (r : Int32) (σ' : ST) => (0 ≤ r.toInt ∧ r.toInt ≤ 1) ∧ (m_c X σ' a = m_c X σ a) ∧ (r, σ') = F_X12_tries X σ a v1 v2 v3 v4 ∧ q_ow [(12, 0), (12, 1), (12, 38), (12, 39), (12, 40), (12, 41), (12, 42), (12, 43), (12, 44), (12, 45), (34, 99), (35, 99), (39, 99)] [(12, 2), (12, 3)] X σ σ')) ([.ref a, .int v1, .int v2, .int v3, .int v4] : List Value).toArray s 0 0 (q_reg X)) (F0 m 112 ls []) := by
                  clear hF
                  intro k_31
                  induction k_31 with
                  | zero =>
                    intro x_28 x_29 σ_30 H locs ls hms
                    try clear kfσ_25
                    exact absurd hms (Nat.not_lt_zero _)
                  | succ k_31 ih112 =>
                    intro x_28 x_29 σ_30 H locs ls hm112 hge112 fr_σ_30 fxσ_30 kfσ_30 hF hI hl
                    replace hF := (F_X12_tries_L112_3_s).symm.trans hF
                    unfold F_X12_tries_B112_3 at hF
                    refine lv_iload hx hb dX12_tries_112 (lv_at hl 6 rfl) ?_
                    refine lv_iload_n hx hb dX12_tries_114 rfl (lv_at hl 3 rfl) ?_
                    have gc_32_x_29 := q_rng x_29
                    have gc_32_v3 := q_rng v3
                    refine q_icmp_ge (A := x_29.toInt) (B := v3.toInt) E rfl rfl (tgt := 197) dX12_tries_115 (by decide) (fun c_32 => ?_) (fun c_32 => ?_)
                    · skip
                      replace hF := q_ifn hF (Int.not_lt.mpr c_32)
                      unfold F_X12_tries_E197_4 at hF
                      refine lv_aload_n hx hb dX12_tries_197 rfl (lv_at hl 0 rfl) ?_
                      refine lv_iload hx hb dX12_tries_198 (lv_at hl 5 rfl) ?_
                      refine lv_i2l hx hb dX12_tries_200 rfl ?_
                      refine lv_topl (fun y_33 ey_33 => ?_)
                      replace hF := q_letX hF ey_33
                      have ggy_33 := q_rng x_28
                      have iy_33 : y_33.toInt = x_28.toInt := by rw [ey_33]; exact (q_i2l _).trans rfl
                      refine lv_iload_n hx hb dX12_tries_201 rfl (lv_at hl 3 rfl) ?_
                      refine lv_i2l hx hb dX12_tries_202 rfl ?_
                      refine lv_topl (fun y_34 ey_34 => ?_)
                      replace hF := q_letX hF ey_34
                      have ggy_34 := q_rng v3
                      have iy_34 : y_34.toInt = v3.toInt := by rw [ey_34]; exact (q_i2l _).trans rfl
                      refine q_ci (q_rV11_2 (rest := []) E (hml.trans hl.1.symm) hI (c_X12_fraction l X σ_30 a y_33 y_34 ha (by first | (clear hn hh ahpσ_4 bhpσ_4 dhpσ_4 c_5 chpσ_4 ggy_6 ahpσ_10 bhpσ_10 dhpσ_10 c_11 ggy_15 iy_15 ggy_17 iy_17 kc_18 ahpσ_20 bhpσ_20 dhpσ_20 c_21 chpσ_20 if_22 c_23 hm78 hge78 gc_27_x_24 c_27 hm112 hge112 gc_32_x_29 gc_32_v3 c_32 ggy_33 iy_33 ggy_34; omega) | omega)) kv_X12_361 ha ⟨Nat.le_of_ble_eq_true rfl, Nat.le_of_ble_eq_true rfl⟩ (Nat.le_of_ble_eq_true rfl) dX12_tries_203) hI (Nat.le_of_ble_eq_true rfl) (fun r_35 σ_36 H locs hpσ_36 hkσ_36 hI => ?_)
                      have ahpσ_36 := hpσ_36.1
                      have bhpσ_36 := hpσ_36.2.1
                      have chpσ_36 := hpσ_36.2.2
                      clear hpσ_36
                      have fr_σ_36 := fr_σ_30.call chpσ_36 rfl rfl
                      replace hF := q_biX hF bhpσ_36
                      have mcσ_36 := m_cK hkσ_36 hI.1 ha (by decide)
                      have fxσ_36 : m_c X σ_36 a = m_c X σ a := (funext mcσ_36).trans fxσ_30
                      exact q_retz E hr hlk hI ⟨by omega, by omega⟩ ⟨⟨by omega, by omega⟩, fxσ_36, (hF.trans hout), fr_σ_36⟩ dX12_tries_206
                    · skip
                      replace hF := q_ifp hF c_32
                      refine lv_aload_n hx hb dX12_tries_118 rfl (lv_at hl 0 rfl) ?_
                      refine lv_iload_n hx hb dX12_tries_119 rfl (lv_at hl 2 rfl) ?_
                      refine lv_iload hx hb dX12_tries_120 (lv_at hl 6 rfl) ?_
                      refine lv_iadd hx hb dX12_tries_122 ?_
                      refine lv_topi (fun z_37 ez_37 => ?_)
                      replace hF := q_letX hF ez_37
                      refine q_cv (q_rV11_1 (rest := []) E (hml.trans hl.1.symm) hI (c_X12_plays l X σ_30 a z_37 n ha (by rw [fxσ_30]; exact hG) (by rw [fxσ_30]; exact hW) (by first | (clear hh ahpσ_4 bhpσ_4 dhpσ_4 c_5 chpσ_4 ggy_6 iy_6 kc_7 kc_8 ahpσ_10 bhpσ_10 dhpσ_10 c_11 chpσ_10 ggy_15 iy_15 ggy_17 iy_17 kc_18 ahpσ_20 bhpσ_20 dhpσ_20 c_21 chpσ_20 if_22 c_23 hm78 hge78 gc_27_x_24 c_27 hm112 hge112 gc_32_x_29 gc_32_v3 c_32; omega) | omega)) kv_X12_443 ha ⟨Nat.le_of_ble_eq_true rfl, Nat.le_of_ble_eq_true rfl⟩ (Nat.le_of_ble_eq_true rfl) dX12_tries_123) hI (Nat.le_of_ble_eq_true rfl) (fun σ_39 H locs hpσ_39 hkσ_39 hI => ?_)
                      have ahpσ_39 := hpσ_39.1
                      have bhpσ_39 := hpσ_39.2.1
                      have chpσ_39 := hpσ_39.2.2.1
                      have dhpσ_39 := hpσ_39.2.2.2.1
                      have ehpσ_39 := hpσ_39.2.2.2.2.1
                      have fhpσ_39 := hpσ_39.2.2.2.2.2
                      clear hpσ_39
                      have fr_σ_39 := fr_σ_30.call fhpσ_39 rfl rfl
                      replace hF := q_letX hF ehpσ_39
                      have gσ_39 : m_G (m_c X σ_39 a) := ahpσ_39
                      have kqσ_39 : ∀ j, 654 ≤ j → m_c X σ_39 a j = m_c X σ a j := (fun j h => (chpσ_39 j h).trans (congrFun fxσ_30 j))
                      have kfσ_39 : ∀ j, 0 ≤ j → j < 654 → m_of σ_39 (q_rf X a 21) j = m_c X σ a j := (fun j h0 h1 => (congrArg Int32.toInt (dhpσ_39 (q_rf X a 21) j.toNat (q_tk (k' := 35) hI ha rfl (Nat.succ_ne_zero _)))).trans (kfσ_30 j h0 h1))
                      refine lv_iload hx hb dX12_tries_126 (lv_at hl 5 rfl) ?_
                      refine lv_iload hx hb dX12_tries_128 (lv_at hl 4 rfl) ?_
                      refine q_if_eq (A := v4.toInt) E rfl (tgt := 152) dX12_tries_130 (by decide) (fun c_40 => ?_) (fun c_40 => ?_)
                      · skip
                        replace hF := q_ifp hF c_40
                        refine lv_aload_n hx hb dX12_tries_152 rfl (lv_at hl 0 rfl) ?_
                        refine lv_iload_n hx hb dX12_tries_153 rfl (lv_at hl 1 rfl) ?_
                        refine q_ci (q_rV11_1 (rest := [.int x_28]) E (hml.trans hl.1.symm) hI (c_X12_cardsOf l X σ_39 a v1 ha gσ_39 (by first | (clear hn ahpσ_4 bhpσ_4 dhpσ_4 c_5 ggy_6 iy_6 kc_7 kc_8 ahpσ_10 bhpσ_10 dhpσ_10 c_11 chpσ_10 ggy_15 iy_15 ggy_17 iy_17 kc_18 ahpσ_20 bhpσ_20 dhpσ_20 c_21 chpσ_20 if_22 c_23 hm78 hge78 gc_27_x_24 c_27 hm112 hge112 gc_32_x_29 gc_32_v3 c_32 ahpσ_39 bhpσ_39 chpσ_39 dhpσ_39 ehpσ_39 fhpσ_39 gσ_39 c_40; omega) | omega)) kv_X12_293 ha ⟨Nat.le_of_ble_eq_true rfl, Nat.le_of_ble_eq_true rfl⟩ (Nat.le_of_ble_eq_true rfl) dX12_tries_154) hI (Nat.le_of_ble_eq_true rfl) (fun r_41 σ_42 H locs hpσ_42 hkσ_42 hI => ?_)
                        have ahpσ_42 := hpσ_42.1
                        have bhpσ_42 := hpσ_42.2.1
                        have chpσ_42 := hpσ_42.2.2.1
                        have dhpσ_42 := hpσ_42.2.2.2
                        clear hpσ_42
                        replace hI := q_Irw ahpσ_42 hI
                        replace hF := q_letX hF dhpσ_42
                        refine lv_iadd hx hb dX12_tries_157 ?_
                        refine lv_topi (fun z_43 ez_43 => ?_)
                        replace hF := q_letX hF ez_43
                        refine lv_istore (lv' := [(5, .int z_43), (0, .ref a), (1, .int v1), (2, .int v2), (3, .int v3), (4, .int v4), (6, .int x_29)]) hx hb dX12_tries_158 hl (by decide) rfl (fun ls hl => ?_)
                        refine lv_iconst (v := 0) hx hb dX12_tries_160 zki_0 ?_
                        refine lv_istore (lv' := [(7, .int 0), (5, .int z_43), (0, .ref a), (1, .int v1), (2, .int v2), (3, .int v3), (4, .int v4), (6, .int x_29)]) hx hb dX12_tries_161 hl (by decide) rfl (fun ls hl => ?_)
                        have L_163_46 : ∀ (k_46 : Nat) (x_44 : Int32) (σ_45 : ST) (H : Heap) (locs : List Loc) (ls : Array Slot), (2147483647 - x_44.toInt).toNat < k_46 → (0 ≤ x_44.toInt ∧ x_44.toInt ≤ 654) → (∀ j, 0 ≤ j → j < x_44.toInt → m_c X σ_45 a j = m_c X σ a j) → (q_ow [(12, 0), (12, 1), (12, 38), (12, 39), (12, 40), (12, 41), (12, 42), (12, 43), (12, 44), (12, 45), (34, 99), (35, 99), (39, 99)] [(12, 2), (12, 3)] X σ σ_45) → (∀ j, 654 ≤ j → m_c X σ_45 a j = m_c X σ a j) → (∀ j, 0 ≤ j → j < 654 → m_of σ_45 (q_rf X a 21) j = m_c X σ a j) → (F_X12_tries_L163_5 X a x_29 (F_X12_tries_L112_3 X v3 v2 a v4 v1 k_31) z_43 k_46 x_44 σ_45 = out) → q_I X 1 σ s.heap locs σ_45 H → lv_has ls 8 [(0, .ref a), (1, .int v1), (2, .int v2), (3, .int v3), (4, .int v4), (5, .int z_43), (6, .int x_29), (7, .int x_44)] → W p l e (q_rm 69 1612) s m ([.ref a, .int v1, .int v2, .int v3, .int v4] : List Value).toArray below meth c H locs 0 0 (MQ below (q_Qi X 1 σ (fun (r : Int32) (σ' : ST) => (0 ≤ r.toInt ∧ r.toInt ≤ 1) ∧ (m_c X σ' a = m_c X σ a) ∧ (r, σ') = F_X12_tries X σ a v1 v2 v3 v4 ∧ q_ow [(12, 0), (12, 1), (12, 38), (12, 39), (12, 40), (12, 41), (12, 42), (12, 43), (12, 44), (12, 45), (34, 99), (35, 99), (39, 99)] [(12, 2), (12, 3)] X σ σ')) ([.ref a, .int v1, .int v2, .int v3, .int v4] : List Value).toArray s 0 0 (q_reg X)) (F0 m 163 ls []) := by
                          clear hF
                          intro k_46
                          induction k_46 with
                          | zero =>
                            intro x_44 σ_45 H locs ls hms
                            try clear ahpσ_42
                            exact absurd hms (Nat.not_lt_zero _)
                          | succ k_46 ih163 =>
                            intro x_44 σ_45 H locs ls hm163 hge163 rsσ_45 fr_σ_45 kqσ_45 kfσ_45 hF hI hl
                            replace hF := (F_X12_tries_L163_5_s).symm.trans hF
                            unfold F_X12_tries_B163_5 at hF
                            refine lv_iload hx hb dX12_tries_163 (lv_at hl 7 rfl) ?_
                            refine lv_sipush (v := 654) hx hb dX12_tries_165 zks_654 ?_
                            have gc_47_x_44 := q_rng x_44
                            refine q_icmp_ge (A := x_44.toInt) (B := 654) E rfl (by decide) (tgt := 191) dX12_tries_168 (by decide) (fun c_47 => ?_) (fun c_47 => ?_)
                            · skip
                              replace hF := q_ifn hF (Int.not_lt.mpr c_47)
                              unfold F_X12_tries_E191_6 at hF
                              have fxσ_45 : m_c X σ_45 a = m_c X σ a := m_c_ext (fun j hj => if h : j < 654 then rsσ_45 j hj (by first | (clear hn hh ahpσ_4 bhpσ_4 dhpσ_4 c_5 chpσ_4 ggy_6 iy_6 kc_7 kc_8 ahpσ_10 bhpσ_10 dhpσ_10 c_11 chpσ_10 ggy_15 iy_15 ggy_17 iy_17 kc_18 ahpσ_20 bhpσ_20 dhpσ_20 c_21 chpσ_20 if_22 c_23 hm78 hge78 gc_27_x_24 c_27 hm112 hge112 gc_32_x_29 gc_32_v3 c_32 ahpσ_39 bhpσ_39 chpσ_39 dhpσ_39 ehpσ_39 fhpσ_39 gσ_39 c_40 bhpσ_42 chpσ_42 dhpσ_42 hm163 gc_47_x_44; omega) | omega) else kqσ_45 j (by first | (clear hn hh ahpσ_4 bhpσ_4 dhpσ_4 c_5 chpσ_4 ggy_6 iy_6 kc_7 kc_8 ahpσ_10 bhpσ_10 dhpσ_10 c_11 chpσ_10 ggy_15 iy_15 ggy_17 iy_17 kc_18 ahpσ_20 bhpσ_20 dhpσ_20 c_21 chpσ_20 if_22 c_23 hm78 hge78 gc_27_x_24 c_27 hm112 hge112 gc_32_x_29 gc_32_v3 c_32 ahpσ_39 bhpσ_39 chpσ_39 dhpσ_39 ehpσ_39 fhpσ_39 gσ_39 c_40 bhpσ_42 chpσ_42 dhpσ_42 hm163 hge163 gc_47_x_44 c_47; omega) | omega))
                              obtain ⟨z_48, ez_48⟩ : ∃ y : Int32, y = x_29 + 1 := ⟨_, rfl⟩
                              replace hF := q_letX hF ez_48
                              refine lv_iinc (v := z_48) (lv' := [(6, .int z_48), (0, .ref a), (1, .int v1), (2, .int v2), (3, .int v3), (4, .int v4), (5, .int z_43), (7, .int x_44)]) hx hb dX12_tries_191 hl (k := 6) rfl (by rw [ez_48]; rfl) (by decide) rfl (fun ls hl => ?_)
                              have iz_48 : z_48.toInt = x_29.toInt + 1 := q_inc ez_48 (by first | (clear hn hh ahpσ_4 bhpσ_4 dhpσ_4 c_5 chpσ_4 ggy_6 kc_7 ahpσ_10 bhpσ_10 dhpσ_10 c_11 ggy_15 iy_15 ggy_17 iy_17 kc_18 ahpσ_20 bhpσ_20 dhpσ_20 c_21 chpσ_20 if_22 c_23 hm78 hge78 gc_27_x_24 c_27 hm112 gc_32_v3 ahpσ_39 bhpσ_39 chpσ_39 dhpσ_39 ehpσ_39 fhpσ_39 gσ_39 c_40 bhpσ_42 chpσ_42 dhpσ_42 hm163 hge163 gc_47_x_44 c_47; omega) | omega)
                              refine lv_goto (tgt := 112) hx hb dX12_tries_194 (by decide) ?_
                              exact ih112 z_43 z_48 σ_45 _ _ ls (by first | (clear hn hh ahpσ_4 bhpσ_4 dhpσ_4 c_5 chpσ_4 ggy_6 kc_7 ahpσ_10 bhpσ_10 dhpσ_10 c_11 ggy_15 iy_15 ggy_17 iy_17 kc_18 ahpσ_20 bhpσ_20 dhpσ_20 c_21 chpσ_20 if_22 c_23 hm78 hge78 gc_27_x_24 c_27 gc_32_v3 ahpσ_39 bhpσ_39 chpσ_39 dhpσ_39 ehpσ_39 fhpσ_39 gσ_39 c_40 bhpσ_42 chpσ_42 dhpσ_42 hm163 gc_47_x_44; omega) | omega) (by first | (clear hn hh ahpσ_4 bhpσ_4 dhpσ_4 c_5 chpσ_4 ggy_6 iy_6 kc_7 kc_8 ahpσ_10 bhpσ_10 dhpσ_10 c_11 chpσ_10 ggy_15 iy_15 ggy_17 iy_17 kc_18 ahpσ_20 bhpσ_20 dhpσ_20 c_21 chpσ_20 if_22 c_23 hm78 hge78 gc_27_x_24 c_27 hm112 gc_32_v3 c_32 ahpσ_39 bhpσ_39 chpσ_39 dhpσ_39 ehpσ_39 fhpσ_39 gσ_39 c_40 bhpσ_42 chpσ_42 dhpσ_42 hm163 hge163 gc_47_x_44 c_47; omega) | omega) fr_σ_45 fxσ_45 kfσ_45 hF hI (lv_sub hl [1, 2, 3, 4, 5, 6, 0] rfl)
                            · skip
                              replace hF := q_ifp hF c_47
                              refine lv_aload_n hx hb dX12_tries_171 rfl (lv_at hl 0 rfl) ?_
                              refine gs_X12_35_12 E hI ha dX12_tries_172 ?_
                              refine lv_iload hx hb dX12_tries_175 (lv_at hl 7 rfl) ?_
                              refine lv_aload_n hx hb dX12_tries_177 rfl (lv_at hl 0 rfl) ?_
                              refine gs_X12_38_12 E hI ha dX12_tries_178 ?_
                              refine lv_iload hx hb dX12_tries_181 (lv_at hl 7 rfl) ?_
                              refine q_iald E hI (q_tk (k' := 35) hI ha rfl (Nat.succ_ne_zero _)) ⟨by decide, rfl⟩ (by first | (clear hn hh ahpσ_4 bhpσ_4 dhpσ_4 c_5 chpσ_4 ggy_6 iy_6 kc_7 kc_8 ahpσ_10 bhpσ_10 dhpσ_10 c_11 chpσ_10 ggy_15 iy_15 ggy_17 iy_17 kc_18 ahpσ_20 bhpσ_20 dhpσ_20 c_21 chpσ_20 if_22 c_23 hm78 hge78 gc_27_x_24 c_27 hm112 hge112 gc_32_x_29 gc_32_v3 c_32 ahpσ_39 bhpσ_39 chpσ_39 dhpσ_39 ehpσ_39 fhpσ_39 gσ_39 c_40 bhpσ_42 chpσ_42 dhpσ_42 hm163 gc_47_x_44; omega) | omega) (by rw [q_lnk (v := 654) hI (q_tk (k' := 35) hI ha rfl (Nat.succ_ne_zero _)) rfl (by decide)]; omega) dX12_tries_183 ?_
                              refine lv_topi (fun f_49 ef_49 => ?_)
                              replace hF := q_letX hF ef_49
                              have krf_49 : f_49.toInt = m_of σ_45 (q_rf X a 21) x_44.toInt := by rw [ef_49]; rfl
                              refine q_iastN E hI (q_tk (k' := 34) hI ha rfl (Nat.succ_ne_zero _)) ⟨by decide, rfl⟩ (by first | (clear hn hh ahpσ_4 bhpσ_4 dhpσ_4 c_5 chpσ_4 ggy_6 iy_6 kc_7 kc_8 ahpσ_10 bhpσ_10 dhpσ_10 c_11 chpσ_10 ggy_15 iy_15 ggy_17 iy_17 kc_18 ahpσ_20 bhpσ_20 dhpσ_20 c_21 chpσ_20 if_22 c_23 hm78 hge78 gc_27_x_24 c_27 hm112 hge112 gc_32_x_29 gc_32_v3 c_32 ahpσ_39 bhpσ_39 chpσ_39 dhpσ_39 ehpσ_39 fhpσ_39 gσ_39 c_40 bhpσ_42 chpσ_42 dhpσ_42 hm163 gc_47_x_44; omega) | omega) (by rw [q_lnk (v := 4650) hI (q_tk (k' := 34) hI ha rfl (Nat.succ_ne_zero _)) rfl (by decide)]; omega) (show 1 < 2 by decide) (q_inU rfl) dX12_tries_184 (fun H locs σ_50 hσ_50 hI => ?_)
                              replace hF := q_letX hF hσ_50
                              have fr_σ_50 := fr_σ_45.si hσ_50 (q_tk (k' := 34) hI ha rfl (Nat.succ_ne_zero _)) rfl
                              have mcσ_50 := m_wr (v := f_49) (A := x_44.toInt) hσ_50 rfl (by first | (clear hn hh ahpσ_4 bhpσ_4 dhpσ_4 c_5 chpσ_4 ggy_6 iy_6 kc_7 kc_8 ahpσ_10 bhpσ_10 dhpσ_10 c_11 chpσ_10 ggy_15 iy_15 ggy_17 iy_17 kc_18 ahpσ_20 bhpσ_20 dhpσ_20 c_21 chpσ_20 if_22 c_23 hm78 hge78 gc_27_x_24 c_27 hm112 hge112 gc_32_x_29 gc_32_v3 c_32 ahpσ_39 bhpσ_39 chpσ_39 dhpσ_39 ehpσ_39 fhpσ_39 gσ_39 c_40 bhpσ_42 chpσ_42 dhpσ_42 hm163 gc_47_x_44; omega) | omega)
                              have kqσ_50 : ∀ j, 654 ≤ j → m_c X σ_50 a j = m_c X σ a j := fun j h => by rw [mcσ_50 j (by first | (clear hn hh ahpσ_4 bhpσ_4 dhpσ_4 c_5 chpσ_4 ggy_6 iy_6 kc_7 kc_8 ahpσ_10 bhpσ_10 dhpσ_10 c_11 chpσ_10 ggy_15 iy_15 ggy_17 iy_17 kc_18 ahpσ_20 bhpσ_20 dhpσ_20 c_21 chpσ_20 if_22 c_23 hm78 hge78 gc_27_x_24 c_27 hm112 hge112 gc_32_x_29 gc_32_v3 c_32 ahpσ_39 bhpσ_39 chpσ_39 dhpσ_39 ehpσ_39 fhpσ_39 gσ_39 c_40 bhpσ_42 chpσ_42 dhpσ_42 hm163 hge163 gc_47_x_44 c_47; omega) | omega), if_neg (by first | (clear hn hh ahpσ_4 bhpσ_4 dhpσ_4 c_5 chpσ_4 ggy_6 iy_6 kc_7 kc_8 ahpσ_10 bhpσ_10 dhpσ_10 c_11 chpσ_10 ggy_15 iy_15 ggy_17 iy_17 kc_18 ahpσ_20 bhpσ_20 dhpσ_20 c_21 chpσ_20 if_22 c_23 hm78 hge78 gc_27_x_24 c_27 hm112 hge112 gc_32_x_29 gc_32_v3 c_32 ahpσ_39 bhpσ_39 chpσ_39 dhpσ_39 ehpσ_39 fhpσ_39 gσ_39 c_40 bhpσ_42 chpσ_42 dhpσ_42 hm163 gc_47_x_44; omega) | omega)] <;> exact kqσ_45 j h
                              have kfσ_50 : ∀ j, 0 ≤ j → j < 654 → m_of σ_50 (q_rf X a 21) j = m_c X σ a j := fun j h0 h1 => (m_ofo hσ_50 (m_ne (q_tk (f := 21) (k' := 35) hI ha rfl (by decide)) (q_tk (k' := 34) hI ha rfl (Nat.succ_ne_zero _)) (by decide)) j).trans (kfσ_45 j h0 h1)
                              have rsσ_50x := rsσ_45
                              have kvσ_50 : (f_49).toInt = m_c X σ a x_44.toInt := by rw [krf_49]; exact kfσ_45 _ (by first | (clear hn hh ahpσ_4 bhpσ_4 dhpσ_4 c_5 chpσ_4 ggy_6 iy_6 kc_7 kc_8 ahpσ_10 bhpσ_10 dhpσ_10 c_11 chpσ_10 ggy_15 iy_15 ggy_17 iy_17 kc_18 ahpσ_20 bhpσ_20 dhpσ_20 c_21 chpσ_20 if_22 c_23 hm78 hge78 gc_27_x_24 c_27 hm112 hge112 gc_32_x_29 gc_32_v3 c_32 ahpσ_39 bhpσ_39 chpσ_39 dhpσ_39 ehpσ_39 fhpσ_39 gσ_39 c_40 bhpσ_42 chpσ_42 dhpσ_42 hm163 gc_47_x_44; omega) | omega) (by omega)
                              obtain ⟨z_51, ez_51⟩ : ∃ y : Int32, y = x_44 + 1 := ⟨_, rfl⟩
                              replace hF := q_letX hF ez_51
                              refine lv_iinc (v := z_51) (lv' := [(7, .int z_51), (0, .ref a), (1, .int v1), (2, .int v2), (3, .int v3), (4, .int v4), (5, .int z_43), (6, .int x_29)]) hx hb dX12_tries_185 hl (k := 7) rfl (by rw [ez_51]; rfl) (by decide) rfl (fun ls hl => ?_)
                              have iz_51 : z_51.toInt = x_44.toInt + 1 := q_inc ez_51 (by first | (clear hn hh ahpσ_4 bhpσ_4 dhpσ_4 c_5 chpσ_4 ggy_6 iy_6 kc_7 kc_8 ahpσ_10 bhpσ_10 dhpσ_10 c_11 chpσ_10 ggy_15 iy_15 ggy_17 iy_17 kc_18 ahpσ_20 bhpσ_20 dhpσ_20 c_21 chpσ_20 if_22 c_23 hm78 hge78 gc_27_x_24 c_27 hm112 hge112 gc_32_x_29 gc_32_v3 c_32 ahpσ_39 bhpσ_39 chpσ_39 dhpσ_39 ehpσ_39 fhpσ_39 gσ_39 c_40 bhpσ_42 chpσ_42 dhpσ_42 hm163 gc_47_x_44; omega) | omega)
                              refine lv_goto (tgt := 163) hx hb dX12_tries_188 (by decide) ?_
                              exact ih163 z_51 σ_50 _ _ ls (by first | (clear hn hh ahpσ_4 bhpσ_4 dhpσ_4 c_5 chpσ_4 ggy_6 iy_6 kc_7 kc_8 ahpσ_10 bhpσ_10 dhpσ_10 c_11 chpσ_10 ggy_15 iy_15 ggy_17 iy_17 kc_18 ahpσ_20 bhpσ_20 dhpσ_20 c_21 chpσ_20 if_22 c_23 hm78 hge78 gc_27_x_24 c_27 hm112 hge112 gc_32_x_29 gc_32_v3 c_32 ahpσ_39 bhpσ_39 chpσ_39 dhpσ_39 ehpσ_39 fhpσ_39 gσ_39 c_40 bhpσ_42 chpσ_42 dhpσ_42 gc_47_x_44; omega) | omega) (by first | (clear hn hh ahpσ_4 bhpσ_4 dhpσ_4 c_5 chpσ_4 ggy_6 iy_6 kc_7 kc_8 ahpσ_10 bhpσ_10 dhpσ_10 c_11 chpσ_10 ggy_15 iy_15 ggy_17 iy_17 kc_18 ahpσ_20 bhpσ_20 dhpσ_20 c_21 chpσ_20 if_22 c_23 hm78 hge78 gc_27_x_24 c_27 hm112 hge112 gc_32_x_29 gc_32_v3 c_32 ahpσ_39 bhpσ_39 chpσ_39 dhpσ_39 ehpσ_39 fhpσ_39 gσ_39 c_40 bhpσ_42 chpσ_42 dhpσ_42 hm163 gc_47_x_44; omega) | omega) (fun j h0 h1 => (by rw [mcσ_50 j h0]; split; (rename_i q; rw [q]; exact kvσ_50); exact rsσ_50x j h0 (by first | (clear hn hh ahpσ_4 bhpσ_4 dhpσ_4 c_5 chpσ_4 ggy_6 iy_6 kc_7 kc_8 ahpσ_10 bhpσ_10 dhpσ_10 c_11 chpσ_10 ggy_15 iy_15 ggy_17 iy_17 kc_18 ahpσ_20 bhpσ_20 dhpσ_20 c_21 chpσ_20 if_22 c_23 hm78 hge78 gc_27_x_24 c_27 hm112 hge112 gc_32_x_29 gc_32_v3 c_32 ahpσ_39 bhpσ_39 chpσ_39 dhpσ_39 ehpσ_39 fhpσ_39 gσ_39 c_40 bhpσ_42 chpσ_42 dhpσ_42 hm163 hge163 gc_47_x_44 c_47; omega) | omega))) fr_σ_50 kqσ_50 kfσ_50 hF hI (lv_sub hl [1, 2, 3, 4, 5, 6, 7, 0] rfl)
                        have kc_52 : (0 : Int32).toInt = 0 := zt_0
                        exact L_163_46 ((2147483647 - (0 : Int32).toInt).toNat + 1) 0 σ_39 _ _ ls (Nat.lt_succ_self _) (by decide) (fun j h0 h1 => by have q : (0 : Int32).toInt = 0 := rfl; omega) fr_σ_39 kqσ_39 kfσ_39 hF hI (lv_sub hl [2, 3, 4, 5, 6, 1, 7, 0] rfl)
                      · skip
                        replace hF := q_ifn hF c_40
                        refine lv_aload_n hx hb dX12_tries_133 rfl (lv_at hl 0 rfl) ?_
                        refine gs_X12_35_12 E hI ha dX12_tries_134 ?_
                        refine lv_bipush (v := 8) hx hb dX12_tries_137 zkb_8 ?_
                        refine q_iald E hI (q_tk (k' := 34) hI ha rfl (Nat.succ_ne_zero _)) ⟨by decide, rfl⟩ (by decide) (by rw [q_lnk (v := 4650) hI (q_tk (k' := 34) hI ha rfl (Nat.succ_ne_zero _)) rfl (by decide)]; decide) dX12_tries_139 ?_
                        refine lv_topi (fun f_53 ef_53 => ?_)
                        replace hF := q_letX hF ef_53
                        have if_53 : f_53.toInt = m_c X σ_39 a 8 := m_rd ef_53 (by decide)
                        refine lv_iload_n hx hb dX12_tries_140 rfl (lv_at hl 1 rfl) ?_
                        have gc_54_f_53 := q_rng f_53
                        have gc_54_v1 := q_rng v1
                        refine q_icmp_ne (A := f_53.toInt) (B := v1.toInt) E rfl rfl (tgt := 148) dX12_tries_141 (by decide) (fun c_54 => ?_) (fun c_54 => ?_)
                        · skip
                          replace hF := q_ifn hF c_54
                          refine lv_iconst (v := 0) hx hb dX12_tries_148 zki_0 ?_
                          refine lv_goto (tgt := 157) hx hb dX12_tries_149 (by decide) ?_
                          refine lv_iadd hx hb dX12_tries_157 ?_
                          refine lv_topi (fun z_55 ez_55 => ?_)
                          replace hF := q_letX hF ez_55
                          refine lv_istore (lv' := [(5, .int z_55), (0, .ref a), (1, .int v1), (2, .int v2), (3, .int v3), (4, .int v4), (6, .int x_29)]) hx hb dX12_tries_158 hl (by decide) rfl (fun ls hl => ?_)
                          refine lv_iconst (v := 0) hx hb dX12_tries_160 zki_0 ?_
                          refine lv_istore (lv' := [(7, .int 0), (5, .int z_55), (0, .ref a), (1, .int v1), (2, .int v2), (3, .int v3), (4, .int v4), (6, .int x_29)]) hx hb dX12_tries_161 hl (by decide) rfl (fun ls hl => ?_)
                          have L_163_58 : ∀ (k_58 : Nat) (x_56 : Int32) (σ_57 : ST) (H : Heap) (locs : List Loc) (ls : Array Slot), (2147483647 - x_56.toInt).toNat < k_58 → (0 ≤ x_56.toInt ∧ x_56.toInt ≤ 654) → (∀ j, 0 ≤ j → j < x_56.toInt → m_c X σ_57 a j = m_c X σ a j) → (q_ow [(12, 0), (12, 1), (12, 38), (12, 39), (12, 40), (12, 41), (12, 42), (12, 43), (12, 44), (12, 45), (34, 99), (35, 99), (39, 99)] [(12, 2), (12, 3)] X σ σ_57) → (∀ j, 654 ≤ j → m_c X σ_57 a j = m_c X σ a j) → (∀ j, 0 ≤ j → j < 654 → m_of σ_57 (q_rf X a 21) j = m_c X σ a j) → (F_X12_tries_L163_7 X a x_29 (F_X12_tries_L112_3 X v3 v2 a v4 v1 k_31) z_55 k_58 x_56 σ_57 = out) → q_I X 1 σ s.heap locs σ_57 H → lv_has ls 8 [(0, .ref a), (1, .int v1), (2, .int v2), (3, .int v3), (4, .int v4), (5, .int z_55), (6, .int x_29), (7, .int x_56)] → W p l e (q_rm 69 1612) s m ([.ref a, .int v1, .int v2, .int v3, .int v4] : List Value).toArray below meth c H locs 0 0 (MQ below (q_Qi X 1 σ (fun (r : Int32) (σ' : ST) => (0 ≤ r.toInt ∧ r.toInt ≤ 1) ∧ (m_c X σ' a = m_c X σ a) ∧ (r, σ') = F_X12_tries X σ a v1 v2 v3 v4 ∧ q_ow [(12, 0), (12, 1), (12, 38), (12, 39), (12, 40), (12, 41), (12, 42), (12, 43), (12, 44), (12, 45), (34, 99), (35, 99), (39, 99)] [(12, 2), (12, 3)] X σ σ')) ([.ref a, .int v1, .int v2, .int v3, .int v4] : List Value).toArray s 0 0 (q_reg X)) (F0 m 163 ls []) := by
                            clear hF
                            intro k_58
                            induction k_58 with
                            | zero =>
                              intro x_56 σ_57 H locs ls hms
                              exact absurd hms (Nat.not_lt_zero _)
                            | succ k_58 ih163 =>
                              intro x_56 σ_57 H locs ls hm163 hge163 rsσ_57 fr_σ_57 kqσ_57 kfσ_57 hF hI hl
                              replace hF := (F_X12_tries_L163_7_s).symm.trans hF
                              unfold F_X12_tries_B163_7 at hF
                              refine lv_iload hx hb dX12_tries_163 (lv_at hl 7 rfl) ?_
                              refine lv_sipush (v := 654) hx hb dX12_tries_165 zks_654 ?_
                              have gc_59_x_56 := q_rng x_56
                              refine q_icmp_ge (A := x_56.toInt) (B := 654) E rfl (by decide) (tgt := 191) dX12_tries_168 (by decide) (fun c_59 => ?_) (fun c_59 => ?_)
                              · skip
                                replace hF := q_ifn hF (Int.not_lt.mpr c_59)
                                unfold F_X12_tries_E191_8 at hF
                                have fxσ_57 : m_c X σ_57 a = m_c X σ a := m_c_ext (fun j hj => if h : j < 654 then rsσ_57 j hj (by first | (clear hn hh ahpσ_4 bhpσ_4 dhpσ_4 c_5 chpσ_4 ggy_6 iy_6 kc_7 kc_8 ahpσ_10 bhpσ_10 dhpσ_10 c_11 chpσ_10 ggy_15 iy_15 ggy_17 iy_17 kc_18 ahpσ_20 bhpσ_20 dhpσ_20 c_21 chpσ_20 if_22 c_23 hm78 hge78 gc_27_x_24 c_27 hm112 hge112 gc_32_x_29 gc_32_v3 c_32 ahpσ_39 bhpσ_39 chpσ_39 dhpσ_39 ehpσ_39 fhpσ_39 gσ_39 c_40 if_53 gc_54_f_53 gc_54_v1 c_54 hm163 gc_59_x_56; omega) | omega) else kqσ_57 j (by first | (clear hn hh ahpσ_4 bhpσ_4 dhpσ_4 c_5 chpσ_4 ggy_6 iy_6 kc_7 kc_8 ahpσ_10 bhpσ_10 dhpσ_10 c_11 chpσ_10 ggy_15 iy_15 ggy_17 iy_17 kc_18 ahpσ_20 bhpσ_20 dhpσ_20 c_21 chpσ_20 if_22 c_23 hm78 hge78 gc_27_x_24 c_27 hm112 hge112 gc_32_x_29 gc_32_v3 c_32 ahpσ_39 bhpσ_39 chpσ_39 dhpσ_39 ehpσ_39 fhpσ_39 gσ_39 c_40 if_53 gc_54_f_53 gc_54_v1 c_54 hm163 hge163 gc_59_x_56 c_59; omega) | omega))
                                obtain ⟨z_60, ez_60⟩ : ∃ y : Int32, y = x_29 + 1 := ⟨_, rfl⟩
                                replace hF := q_letX hF ez_60
                                refine lv_iinc (v := z_60) (lv' := [(6, .int z_60), (0, .ref a), (1, .int v1), (2, .int v2), (3, .int v3), (4, .int v4), (5, .int z_55), (7, .int x_56)]) hx hb dX12_tries_191 hl (k := 6) rfl (by rw [ez_60]; rfl) (by decide) rfl (fun ls hl => ?_)
                                have iz_60 : z_60.toInt = x_29.toInt + 1 := q_inc ez_60 (by first | (clear hn hh ahpσ_4 bhpσ_4 dhpσ_4 c_5 chpσ_4 ggy_6 kc_7 ahpσ_10 bhpσ_10 dhpσ_10 c_11 ggy_15 iy_15 ggy_17 iy_17 kc_18 ahpσ_20 bhpσ_20 dhpσ_20 c_21 chpσ_20 if_22 c_23 hm78 hge78 gc_27_x_24 c_27 hm112 gc_32_v3 ahpσ_39 bhpσ_39 chpσ_39 dhpσ_39 ehpσ_39 fhpσ_39 gσ_39 c_40 if_53 gc_54_f_53 gc_54_v1 c_54 hm163 hge163 gc_59_x_56 c_59; omega) | omega)
                                refine lv_goto (tgt := 112) hx hb dX12_tries_194 (by decide) ?_
                                exact ih112 z_55 z_60 σ_57 _ _ ls (by first | (clear hn hh ahpσ_4 bhpσ_4 dhpσ_4 c_5 chpσ_4 ggy_6 kc_7 ahpσ_10 bhpσ_10 dhpσ_10 c_11 ggy_15 iy_15 ggy_17 iy_17 kc_18 ahpσ_20 bhpσ_20 dhpσ_20 c_21 chpσ_20 if_22 c_23 hm78 hge78 gc_27_x_24 c_27 gc_32_v3 ahpσ_39 bhpσ_39 chpσ_39 dhpσ_39 ehpσ_39 fhpσ_39 gσ_39 if_53 gc_54_f_53 gc_54_v1 hm163 gc_59_x_56; omega) | omega) (by first | (clear hn hh ahpσ_4 bhpσ_4 dhpσ_4 c_5 chpσ_4 ggy_6 iy_6 kc_7 kc_8 ahpσ_10 bhpσ_10 dhpσ_10 c_11 chpσ_10 ggy_15 iy_15 ggy_17 iy_17 kc_18 ahpσ_20 bhpσ_20 dhpσ_20 c_21 chpσ_20 if_22 c_23 hm78 hge78 gc_27_x_24 c_27 hm112 gc_32_v3 c_32 ahpσ_39 bhpσ_39 chpσ_39 dhpσ_39 ehpσ_39 fhpσ_39 gσ_39 c_40 if_53 gc_54_f_53 gc_54_v1 c_54 hm163 hge163 gc_59_x_56 c_59; omega) | omega) fr_σ_57 fxσ_57 kfσ_57 hF hI (lv_sub hl [1, 2, 3, 4, 5, 6, 0] rfl)
                              · skip
                                replace hF := q_ifp hF c_59
                                refine lv_aload_n hx hb dX12_tries_171 rfl (lv_at hl 0 rfl) ?_
                                refine gs_X12_35_12 E hI ha dX12_tries_172 ?_
                                refine lv_iload hx hb dX12_tries_175 (lv_at hl 7 rfl) ?_
                                refine lv_aload_n hx hb dX12_tries_177 rfl (lv_at hl 0 rfl) ?_
                                refine gs_X12_38_12 E hI ha dX12_tries_178 ?_
                                refine lv_iload hx hb dX12_tries_181 (lv_at hl 7 rfl) ?_
                                refine q_iald E hI (q_tk (k' := 35) hI ha rfl (Nat.succ_ne_zero _)) ⟨by decide, rfl⟩ (by first | (clear hn hh ahpσ_4 bhpσ_4 dhpσ_4 c_5 chpσ_4 ggy_6 iy_6 kc_7 kc_8 ahpσ_10 bhpσ_10 dhpσ_10 c_11 chpσ_10 ggy_15 iy_15 ggy_17 iy_17 kc_18 ahpσ_20 bhpσ_20 dhpσ_20 c_21 chpσ_20 if_22 c_23 hm78 hge78 gc_27_x_24 c_27 hm112 hge112 gc_32_x_29 gc_32_v3 c_32 ahpσ_39 bhpσ_39 chpσ_39 dhpσ_39 ehpσ_39 fhpσ_39 gσ_39 c_40 if_53 gc_54_f_53 gc_54_v1 c_54 hm163 gc_59_x_56; omega) | omega) (by rw [q_lnk (v := 654) hI (q_tk (k' := 35) hI ha rfl (Nat.succ_ne_zero _)) rfl (by decide)]; omega) dX12_tries_183 ?_
                                refine lv_topi (fun f_61 ef_61 => ?_)
                                replace hF := q_letX hF ef_61
                                have krf_61 : f_61.toInt = m_of σ_57 (q_rf X a 21) x_56.toInt := by rw [ef_61]; rfl
                                refine q_iastN E hI (q_tk (k' := 34) hI ha rfl (Nat.succ_ne_zero _)) ⟨by decide, rfl⟩ (by first | (clear hn hh ahpσ_4 bhpσ_4 dhpσ_4 c_5 chpσ_4 ggy_6 iy_6 kc_7 kc_8 ahpσ_10 bhpσ_10 dhpσ_10 c_11 chpσ_10 ggy_15 iy_15 ggy_17 iy_17 kc_18 ahpσ_20 bhpσ_20 dhpσ_20 c_21 chpσ_20 if_22 c_23 hm78 hge78 gc_27_x_24 c_27 hm112 hge112 gc_32_x_29 gc_32_v3 c_32 ahpσ_39 bhpσ_39 chpσ_39 dhpσ_39 ehpσ_39 fhpσ_39 gσ_39 c_40 if_53 gc_54_f_53 gc_54_v1 c_54 hm163 gc_59_x_56; omega) | omega) (by rw [q_lnk (v := 4650) hI (q_tk (k' := 34) hI ha rfl (Nat.succ_ne_zero _)) rfl (by decide)]; omega) (show 1 < 2 by decide) (q_inU rfl) dX12_tries_184 (fun H locs σ_62 hσ_62 hI => ?_)
                                replace hF := q_letX hF hσ_62
                                have fr_σ_62 := fr_σ_57.si hσ_62 (q_tk (k' := 34) hI ha rfl (Nat.succ_ne_zero _)) rfl
                                have mcσ_62 := m_wr (v := f_61) (A := x_56.toInt) hσ_62 rfl (by first | (clear hn hh ahpσ_4 bhpσ_4 dhpσ_4 c_5 chpσ_4 ggy_6 iy_6 kc_7 kc_8 ahpσ_10 bhpσ_10 dhpσ_10 c_11 chpσ_10 ggy_15 iy_15 ggy_17 iy_17 kc_18 ahpσ_20 bhpσ_20 dhpσ_20 c_21 chpσ_20 if_22 c_23 hm78 hge78 gc_27_x_24 c_27 hm112 hge112 gc_32_x_29 gc_32_v3 c_32 ahpσ_39 bhpσ_39 chpσ_39 dhpσ_39 ehpσ_39 fhpσ_39 gσ_39 c_40 if_53 gc_54_f_53 gc_54_v1 c_54 hm163 gc_59_x_56; omega) | omega)
                                have kqσ_62 : ∀ j, 654 ≤ j → m_c X σ_62 a j = m_c X σ a j := fun j h => by rw [mcσ_62 j (by first | (clear hn hh ahpσ_4 bhpσ_4 dhpσ_4 c_5 chpσ_4 ggy_6 iy_6 kc_7 kc_8 ahpσ_10 bhpσ_10 dhpσ_10 c_11 chpσ_10 ggy_15 iy_15 ggy_17 iy_17 kc_18 ahpσ_20 bhpσ_20 dhpσ_20 c_21 chpσ_20 if_22 c_23 hm78 hge78 gc_27_x_24 c_27 hm112 hge112 gc_32_x_29 gc_32_v3 c_32 ahpσ_39 bhpσ_39 chpσ_39 dhpσ_39 ehpσ_39 fhpσ_39 gσ_39 c_40 if_53 gc_54_f_53 gc_54_v1 c_54 hm163 hge163 gc_59_x_56 c_59; omega) | omega), if_neg (by first | (clear hn hh ahpσ_4 bhpσ_4 dhpσ_4 c_5 chpσ_4 ggy_6 iy_6 kc_7 kc_8 ahpσ_10 bhpσ_10 dhpσ_10 c_11 chpσ_10 ggy_15 iy_15 ggy_17 iy_17 kc_18 ahpσ_20 bhpσ_20 dhpσ_20 c_21 chpσ_20 if_22 c_23 hm78 hge78 gc_27_x_24 c_27 hm112 hge112 gc_32_x_29 gc_32_v3 c_32 ahpσ_39 bhpσ_39 chpσ_39 dhpσ_39 ehpσ_39 fhpσ_39 gσ_39 c_40 if_53 gc_54_f_53 gc_54_v1 c_54 hm163 gc_59_x_56; omega) | omega)] <;> exact kqσ_57 j h
                                have kfσ_62 : ∀ j, 0 ≤ j → j < 654 → m_of σ_62 (q_rf X a 21) j = m_c X σ a j := fun j h0 h1 => (m_ofo hσ_62 (m_ne (q_tk (f := 21) (k' := 35) hI ha rfl (by decide)) (q_tk (k' := 34) hI ha rfl (Nat.succ_ne_zero _)) (by decide)) j).trans (kfσ_57 j h0 h1)
                                have rsσ_62x := rsσ_57
                                have kvσ_62 : (f_61).toInt = m_c X σ a x_56.toInt := by rw [krf_61]; exact kfσ_57 _ (by first | (clear hn hh ahpσ_4 bhpσ_4 dhpσ_4 c_5 chpσ_4 ggy_6 iy_6 kc_7 kc_8 ahpσ_10 bhpσ_10 dhpσ_10 c_11 chpσ_10 ggy_15 iy_15 ggy_17 iy_17 kc_18 ahpσ_20 bhpσ_20 dhpσ_20 c_21 chpσ_20 if_22 c_23 hm78 hge78 gc_27_x_24 c_27 hm112 hge112 gc_32_x_29 gc_32_v3 c_32 ahpσ_39 bhpσ_39 chpσ_39 dhpσ_39 ehpσ_39 fhpσ_39 gσ_39 c_40 if_53 gc_54_f_53 gc_54_v1 c_54 hm163 gc_59_x_56; omega) | omega) (by omega)
                                obtain ⟨z_63, ez_63⟩ : ∃ y : Int32, y = x_56 + 1 := ⟨_, rfl⟩
                                replace hF := q_letX hF ez_63
                                refine lv_iinc (v := z_63) (lv' := [(7, .int z_63), (0, .ref a), (1, .int v1), (2, .int v2), (3, .int v3), (4, .int v4), (5, .int z_55), (6, .int x_29)]) hx hb dX12_tries_185 hl (k := 7) rfl (by rw [ez_63]; rfl) (by decide) rfl (fun ls hl => ?_)
                                have iz_63 : z_63.toInt = x_56.toInt + 1 := q_inc ez_63 (by first | (clear hn hh ahpσ_4 bhpσ_4 dhpσ_4 c_5 chpσ_4 ggy_6 iy_6 kc_7 kc_8 ahpσ_10 bhpσ_10 dhpσ_10 c_11 chpσ_10 ggy_15 iy_15 ggy_17 iy_17 kc_18 ahpσ_20 bhpσ_20 dhpσ_20 c_21 chpσ_20 if_22 c_23 hm78 hge78 gc_27_x_24 c_27 hm112 hge112 gc_32_x_29 gc_32_v3 c_32 ahpσ_39 bhpσ_39 chpσ_39 dhpσ_39 ehpσ_39 fhpσ_39 gσ_39 c_40 if_53 gc_54_f_53 gc_54_v1 c_54 hm163 gc_59_x_56; omega) | omega)
                                refine lv_goto (tgt := 163) hx hb dX12_tries_188 (by decide) ?_
                                exact ih163 z_63 σ_62 _ _ ls (by first | (clear hn hh ahpσ_4 bhpσ_4 dhpσ_4 c_5 chpσ_4 ggy_6 iy_6 kc_7 kc_8 ahpσ_10 bhpσ_10 dhpσ_10 c_11 chpσ_10 ggy_15 iy_15 ggy_17 iy_17 kc_18 ahpσ_20 bhpσ_20 dhpσ_20 c_21 chpσ_20 if_22 c_23 hm78 hge78 gc_27_x_24 c_27 hm112 hge112 gc_32_x_29 gc_32_v3 c_32 ahpσ_39 bhpσ_39 chpσ_39 dhpσ_39 ehpσ_39 fhpσ_39 gσ_39 c_40 if_53 gc_54_f_53 gc_54_v1 c_54 gc_59_x_56; omega) | omega) (by first | (clear hn hh ahpσ_4 bhpσ_4 dhpσ_4 c_5 chpσ_4 ggy_6 iy_6 kc_7 kc_8 ahpσ_10 bhpσ_10 dhpσ_10 c_11 chpσ_10 ggy_15 iy_15 ggy_17 iy_17 kc_18 ahpσ_20 bhpσ_20 dhpσ_20 c_21 chpσ_20 if_22 c_23 hm78 hge78 gc_27_x_24 c_27 hm112 hge112 gc_32_x_29 gc_32_v3 c_32 ahpσ_39 bhpσ_39 chpσ_39 dhpσ_39 ehpσ_39 fhpσ_39 gσ_39 c_40 if_53 gc_54_f_53 gc_54_v1 c_54 hm163 gc_59_x_56; omega) | omega) (fun j h0 h1 => (by rw [mcσ_62 j h0]; split; (rename_i q; rw [q]; exact kvσ_62); exact rsσ_62x j h0 (by first | (clear hn hh ahpσ_4 bhpσ_4 dhpσ_4 c_5 chpσ_4 ggy_6 iy_6 kc_7 kc_8 ahpσ_10 bhpσ_10 dhpσ_10 c_11 chpσ_10 ggy_15 iy_15 ggy_17 iy_17 kc_18 ahpσ_20 bhpσ_20 dhpσ_20 c_21 chpσ_20 if_22 c_23 hm78 hge78 gc_27_x_24 c_27 hm112 hge112 gc_32_x_29 gc_32_v3 c_32 ahpσ_39 bhpσ_39 chpσ_39 dhpσ_39 ehpσ_39 fhpσ_39 gσ_39 c_40 if_53 gc_54_f_53 gc_54_v1 c_54 hm163 hge163 gc_59_x_56 c_59; omega) | omega))) fr_σ_62 kqσ_62 kfσ_62 hF hI (lv_sub hl [1, 2, 3, 4, 5, 6, 7, 0] rfl)
                          have kc_64 : (0 : Int32).toInt = 0 := zt_0
                          exact L_163_58 ((2147483647 - (0 : Int32).toInt).toNat + 1) 0 σ_39 _ _ ls (Nat.lt_succ_self _) (by decide) (fun j h0 h1 => by have q : (0 : Int32).toInt = 0 := rfl; omega) fr_σ_39 kqσ_39 kfσ_39 hF hI (lv_sub hl [2, 3, 4, 5, 6, 1, 7, 0] rfl)
                        · skip
                          replace hF := q_ifp hF c_54
                          refine lv_iconst (v := 1) hx hb dX12_tries_144 zki_1 ?_
                          refine lv_goto (tgt := 157) hx hb dX12_tries_145 (by decide) ?_
                          refine lv_iadd hx hb dX12_tries_157 ?_
                          refine lv_topi (fun z_65 ez_65 => ?_)
                          replace hF := q_letX hF ez_65
                          refine lv_istore (lv' := [(5, .int z_65), (0, .ref a), (1, .int v1), (2, .int v2), (3, .int v3), (4, .int v4), (6, .int x_29)]) hx hb dX12_tries_158 hl (by decide) rfl (fun ls hl => ?_)
                          refine lv_iconst (v := 0) hx hb dX12_tries_160 zki_0 ?_
                          refine lv_istore (lv' := [(7, .int 0), (5, .int z_65), (0, .ref a), (1, .int v1), (2, .int v2), (3, .int v3), (4, .int v4), (6, .int x_29)]) hx hb dX12_tries_161 hl (by decide) rfl (fun ls hl => ?_)
                          have L_163_68 : ∀ (k_68 : Nat) (x_66 : Int32) (σ_67 : ST) (H : Heap) (locs : List Loc) (ls : Array Slot), (2147483647 - x_66.toInt).toNat < k_68 → (0 ≤ x_66.toInt ∧ x_66.toInt ≤ 654) → (∀ j, 0 ≤ j → j < x_66.toInt → m_c X σ_67 a j = m_c X σ a j) → (q_ow [(12, 0), (12, 1), (12, 38), (12, 39), (12, 40), (12, 41), (12, 42), (12, 43), (12, 44), (12, 45), (34, 99), (35, 99), (39, 99)] [(12, 2), (12, 3)] X σ σ_67) → (∀ j, 654 ≤ j → m_c X σ_67 a j = m_c X σ a j) → (∀ j, 0 ≤ j → j < 654 → m_of σ_67 (q_rf X a 21) j = m_c X σ a j) → (F_X12_tries_L163_9 X a x_29 (F_X12_tries_L112_3 X v3 v2 a v4 v1 k_31) z_65 k_68 x_66 σ_67 = out) → q_I X 1 σ s.heap locs σ_67 H → lv_has ls 8 [(0, .ref a), (1, .int v1), (2, .int v2), (3, .int v3), (4, .int v4), (5, .int z_65), (6, .int x_29), (7, .int x_66)] → W p l e (q_rm 69 1612) s m ([.ref a, .int v1, .int v2, .int v3, .int v4] : List Value).toArray below meth c H locs 0 0 (MQ below (q_Qi X 1 σ (fun (r : Int32) (σ' : ST) => (0 ≤ r.toInt ∧ r.toInt ≤ 1) ∧ (m_c X σ' a = m_c X σ a) ∧ (r, σ') = F_X12_tries X σ a v1 v2 v3 v4 ∧ q_ow [(12, 0), (12, 1), (12, 38), (12, 39), (12, 40), (12, 41), (12, 42), (12, 43), (12, 44), (12, 45), (34, 99), (35, 99), (39, 99)] [(12, 2), (12, 3)] X σ σ')) ([.ref a, .int v1, .int v2, .int v3, .int v4] : List Value).toArray s 0 0 (q_reg X)) (F0 m 163 ls []) := by
                            clear hF
                            intro k_68
                            induction k_68 with
                            | zero =>
                              intro x_66 σ_67 H locs ls hms
                              exact absurd hms (Nat.not_lt_zero _)
                            | succ k_68 ih163 =>
                              intro x_66 σ_67 H locs ls hm163 hge163 rsσ_67 fr_σ_67 kqσ_67 kfσ_67 hF hI hl
                              replace hF := (F_X12_tries_L163_9_s).symm.trans hF
                              unfold F_X12_tries_B163_9 at hF
                              refine lv_iload hx hb dX12_tries_163 (lv_at hl 7 rfl) ?_
                              refine lv_sipush (v := 654) hx hb dX12_tries_165 zks_654 ?_
                              have gc_69_x_66 := q_rng x_66
                              refine q_icmp_ge (A := x_66.toInt) (B := 654) E rfl (by decide) (tgt := 191) dX12_tries_168 (by decide) (fun c_69 => ?_) (fun c_69 => ?_)
                              · skip
                                replace hF := q_ifn hF (Int.not_lt.mpr c_69)
                                unfold F_X12_tries_E191_10 at hF
                                have fxσ_67 : m_c X σ_67 a = m_c X σ a := m_c_ext (fun j hj => if h : j < 654 then rsσ_67 j hj (by first | (clear hn hh ahpσ_4 bhpσ_4 dhpσ_4 c_5 chpσ_4 ggy_6 iy_6 kc_7 kc_8 ahpσ_10 bhpσ_10 dhpσ_10 c_11 chpσ_10 ggy_15 iy_15 ggy_17 iy_17 kc_18 ahpσ_20 bhpσ_20 dhpσ_20 c_21 chpσ_20 if_22 c_23 hm78 hge78 gc_27_x_24 c_27 hm112 hge112 gc_32_x_29 gc_32_v3 c_32 ahpσ_39 bhpσ_39 chpσ_39 dhpσ_39 ehpσ_39 fhpσ_39 gσ_39 c_40 if_53 gc_54_f_53 gc_54_v1 c_54 hm163 gc_69_x_66; omega) | omega) else kqσ_67 j (by first | (clear hn hh ahpσ_4 bhpσ_4 dhpσ_4 c_5 chpσ_4 ggy_6 iy_6 kc_7 kc_8 ahpσ_10 bhpσ_10 dhpσ_10 c_11 chpσ_10 ggy_15 iy_15 ggy_17 iy_17 kc_18 ahpσ_20 bhpσ_20 dhpσ_20 c_21 chpσ_20 if_22 c_23 hm78 hge78 gc_27_x_24 c_27 hm112 hge112 gc_32_x_29 gc_32_v3 c_32 ahpσ_39 bhpσ_39 chpσ_39 dhpσ_39 ehpσ_39 fhpσ_39 gσ_39 c_40 if_53 gc_54_f_53 gc_54_v1 c_54 hm163 hge163 gc_69_x_66 c_69; omega) | omega))
                                obtain ⟨z_70, ez_70⟩ : ∃ y : Int32, y = x_29 + 1 := ⟨_, rfl⟩
                                replace hF := q_letX hF ez_70
                                refine lv_iinc (v := z_70) (lv' := [(6, .int z_70), (0, .ref a), (1, .int v1), (2, .int v2), (3, .int v3), (4, .int v4), (5, .int z_65), (7, .int x_66)]) hx hb dX12_tries_191 hl (k := 6) rfl (by rw [ez_70]; rfl) (by decide) rfl (fun ls hl => ?_)
                                have iz_70 : z_70.toInt = x_29.toInt + 1 := q_inc ez_70 (by first | (clear hn hh ahpσ_4 bhpσ_4 dhpσ_4 c_5 chpσ_4 ggy_6 kc_7 ahpσ_10 bhpσ_10 dhpσ_10 c_11 ggy_15 iy_15 ggy_17 iy_17 kc_18 ahpσ_20 bhpσ_20 dhpσ_20 c_21 chpσ_20 if_22 c_23 hm78 hge78 gc_27_x_24 c_27 hm112 gc_32_v3 ahpσ_39 bhpσ_39 chpσ_39 dhpσ_39 ehpσ_39 fhpσ_39 gσ_39 c_40 if_53 gc_54_f_53 gc_54_v1 c_54 hm163 hge163 gc_69_x_66 c_69; omega) | omega)
                                refine lv_goto (tgt := 112) hx hb dX12_tries_194 (by decide) ?_
                                exact ih112 z_65 z_70 σ_67 _ _ ls (by first | (clear hn hh ahpσ_4 bhpσ_4 dhpσ_4 c_5 chpσ_4 ggy_6 kc_7 ahpσ_10 bhpσ_10 dhpσ_10 c_11 ggy_15 iy_15 ggy_17 iy_17 kc_18 ahpσ_20 bhpσ_20 dhpσ_20 c_21 chpσ_20 if_22 c_23 hm78 hge78 gc_27_x_24 c_27 gc_32_v3 ahpσ_39 bhpσ_39 chpσ_39 dhpσ_39 ehpσ_39 fhpσ_39 gσ_39 if_53 gc_54_f_53 gc_54_v1 c_54 hm163 gc_69_x_66; omega) | omega) (by first | (clear hn hh ahpσ_4 bhpσ_4 dhpσ_4 c_5 chpσ_4 ggy_6 iy_6 kc_7 kc_8 ahpσ_10 bhpσ_10 dhpσ_10 c_11 chpσ_10 ggy_15 iy_15 ggy_17 iy_17 kc_18 ahpσ_20 bhpσ_20 dhpσ_20 c_21 chpσ_20 if_22 c_23 hm78 hge78 gc_27_x_24 c_27 hm112 gc_32_v3 c_32 ahpσ_39 bhpσ_39 chpσ_39 dhpσ_39 ehpσ_39 fhpσ_39 gσ_39 c_40 if_53 gc_54_f_53 gc_54_v1 c_54 hm163 hge163 gc_69_x_66 c_69; omega) | omega) fr_σ_67 fxσ_67 kfσ_67 hF hI (lv_sub hl [1, 2, 3, 4, 5, 6, 0] rfl)
                              · skip
                                replace hF := q_ifp hF c_69
                                refine lv_aload_n hx hb dX12_tries_171 rfl (lv_at hl 0 rfl) ?_
                                refine gs_X12_35_12 E hI ha dX12_tries_172 ?_
                                refine lv_iload hx hb dX12_tries_175 (lv_at hl 7 rfl) ?_
                                refine lv_aload_n hx hb dX12_tries_177 rfl (lv_at hl 0 rfl) ?_
                                refine gs_X12_38_12 E hI ha dX12_tries_178 ?_
                                refine lv_iload hx hb dX12_tries_181 (lv_at hl 7 rfl) ?_
                                refine q_iald E hI (q_tk (k' := 35) hI ha rfl (Nat.succ_ne_zero _)) ⟨by decide, rfl⟩ (by first | (clear hn hh ahpσ_4 bhpσ_4 dhpσ_4 c_5 chpσ_4 ggy_6 iy_6 kc_7 kc_8 ahpσ_10 bhpσ_10 dhpσ_10 c_11 chpσ_10 ggy_15 iy_15 ggy_17 iy_17 kc_18 ahpσ_20 bhpσ_20 dhpσ_20 c_21 chpσ_20 if_22 c_23 hm78 hge78 gc_27_x_24 c_27 hm112 hge112 gc_32_x_29 gc_32_v3 c_32 ahpσ_39 bhpσ_39 chpσ_39 dhpσ_39 ehpσ_39 fhpσ_39 gσ_39 c_40 if_53 gc_54_f_53 gc_54_v1 c_54 hm163 gc_69_x_66; omega) | omega) (by rw [q_lnk (v := 654) hI (q_tk (k' := 35) hI ha rfl (Nat.succ_ne_zero _)) rfl (by decide)]; omega) dX12_tries_183 ?_
                                refine lv_topi (fun f_71 ef_71 => ?_)
                                replace hF := q_letX hF ef_71
                                have krf_71 : f_71.toInt = m_of σ_67 (q_rf X a 21) x_66.toInt := by rw [ef_71]; rfl
                                refine q_iastN E hI (q_tk (k' := 34) hI ha rfl (Nat.succ_ne_zero _)) ⟨by decide, rfl⟩ (by first | (clear hn hh ahpσ_4 bhpσ_4 dhpσ_4 c_5 chpσ_4 ggy_6 iy_6 kc_7 kc_8 ahpσ_10 bhpσ_10 dhpσ_10 c_11 chpσ_10 ggy_15 iy_15 ggy_17 iy_17 kc_18 ahpσ_20 bhpσ_20 dhpσ_20 c_21 chpσ_20 if_22 c_23 hm78 hge78 gc_27_x_24 c_27 hm112 hge112 gc_32_x_29 gc_32_v3 c_32 ahpσ_39 bhpσ_39 chpσ_39 dhpσ_39 ehpσ_39 fhpσ_39 gσ_39 c_40 if_53 gc_54_f_53 gc_54_v1 c_54 hm163 gc_69_x_66; omega) | omega) (by rw [q_lnk (v := 4650) hI (q_tk (k' := 34) hI ha rfl (Nat.succ_ne_zero _)) rfl (by decide)]; omega) (show 1 < 2 by decide) (q_inU rfl) dX12_tries_184 (fun H locs σ_72 hσ_72 hI => ?_)
                                replace hF := q_letX hF hσ_72
                                have fr_σ_72 := fr_σ_67.si hσ_72 (q_tk (k' := 34) hI ha rfl (Nat.succ_ne_zero _)) rfl
                                have mcσ_72 := m_wr (v := f_71) (A := x_66.toInt) hσ_72 rfl (by first | (clear hn hh ahpσ_4 bhpσ_4 dhpσ_4 c_5 chpσ_4 ggy_6 iy_6 kc_7 kc_8 ahpσ_10 bhpσ_10 dhpσ_10 c_11 chpσ_10 ggy_15 iy_15 ggy_17 iy_17 kc_18 ahpσ_20 bhpσ_20 dhpσ_20 c_21 chpσ_20 if_22 c_23 hm78 hge78 gc_27_x_24 c_27 hm112 hge112 gc_32_x_29 gc_32_v3 c_32 ahpσ_39 bhpσ_39 chpσ_39 dhpσ_39 ehpσ_39 fhpσ_39 gσ_39 c_40 if_53 gc_54_f_53 gc_54_v1 c_54 hm163 gc_69_x_66; omega) | omega)
                                have kqσ_72 : ∀ j, 654 ≤ j → m_c X σ_72 a j = m_c X σ a j := fun j h => by rw [mcσ_72 j (by first | (clear hn hh ahpσ_4 bhpσ_4 dhpσ_4 c_5 chpσ_4 ggy_6 iy_6 kc_7 kc_8 ahpσ_10 bhpσ_10 dhpσ_10 c_11 chpσ_10 ggy_15 iy_15 ggy_17 iy_17 kc_18 ahpσ_20 bhpσ_20 dhpσ_20 c_21 chpσ_20 if_22 c_23 hm78 hge78 gc_27_x_24 c_27 hm112 hge112 gc_32_x_29 gc_32_v3 c_32 ahpσ_39 bhpσ_39 chpσ_39 dhpσ_39 ehpσ_39 fhpσ_39 gσ_39 c_40 if_53 gc_54_f_53 gc_54_v1 c_54 hm163 hge163 gc_69_x_66 c_69; omega) | omega), if_neg (by first | (clear hn hh ahpσ_4 bhpσ_4 dhpσ_4 c_5 chpσ_4 ggy_6 iy_6 kc_7 kc_8 ahpσ_10 bhpσ_10 dhpσ_10 c_11 chpσ_10 ggy_15 iy_15 ggy_17 iy_17 kc_18 ahpσ_20 bhpσ_20 dhpσ_20 c_21 chpσ_20 if_22 c_23 hm78 hge78 gc_27_x_24 c_27 hm112 hge112 gc_32_x_29 gc_32_v3 c_32 ahpσ_39 bhpσ_39 chpσ_39 dhpσ_39 ehpσ_39 fhpσ_39 gσ_39 c_40 if_53 gc_54_f_53 gc_54_v1 c_54 hm163 gc_69_x_66; omega) | omega)] <;> exact kqσ_67 j h
                                have kfσ_72 : ∀ j, 0 ≤ j → j < 654 → m_of σ_72 (q_rf X a 21) j = m_c X σ a j := fun j h0 h1 => (m_ofo hσ_72 (m_ne (q_tk (f := 21) (k' := 35) hI ha rfl (by decide)) (q_tk (k' := 34) hI ha rfl (Nat.succ_ne_zero _)) (by decide)) j).trans (kfσ_67 j h0 h1)
                                have rsσ_72x := rsσ_67
                                have kvσ_72 : (f_71).toInt = m_c X σ a x_66.toInt := by rw [krf_71]; exact kfσ_67 _ (by first | (clear hn hh ahpσ_4 bhpσ_4 dhpσ_4 c_5 chpσ_4 ggy_6 iy_6 kc_7 kc_8 ahpσ_10 bhpσ_10 dhpσ_10 c_11 chpσ_10 ggy_15 iy_15 ggy_17 iy_17 kc_18 ahpσ_20 bhpσ_20 dhpσ_20 c_21 chpσ_20 if_22 c_23 hm78 hge78 gc_27_x_24 c_27 hm112 hge112 gc_32_x_29 gc_32_v3 c_32 ahpσ_39 bhpσ_39 chpσ_39 dhpσ_39 ehpσ_39 fhpσ_39 gσ_39 c_40 if_53 gc_54_f_53 gc_54_v1 c_54 hm163 gc_69_x_66; omega) | omega) (by omega)
                                obtain ⟨z_73, ez_73⟩ : ∃ y : Int32, y = x_66 + 1 := ⟨_, rfl⟩
                                replace hF := q_letX hF ez_73
                                refine lv_iinc (v := z_73) (lv' := [(7, .int z_73), (0, .ref a), (1, .int v1), (2, .int v2), (3, .int v3), (4, .int v4), (5, .int z_65), (6, .int x_29)]) hx hb dX12_tries_185 hl (k := 7) rfl (by rw [ez_73]; rfl) (by decide) rfl (fun ls hl => ?_)
                                have iz_73 : z_73.toInt = x_66.toInt + 1 := q_inc ez_73 (by first | (clear hn hh ahpσ_4 bhpσ_4 dhpσ_4 c_5 chpσ_4 ggy_6 iy_6 kc_7 kc_8 ahpσ_10 bhpσ_10 dhpσ_10 c_11 chpσ_10 ggy_15 iy_15 ggy_17 iy_17 kc_18 ahpσ_20 bhpσ_20 dhpσ_20 c_21 chpσ_20 if_22 c_23 hm78 hge78 gc_27_x_24 c_27 hm112 hge112 gc_32_x_29 gc_32_v3 c_32 ahpσ_39 bhpσ_39 chpσ_39 dhpσ_39 ehpσ_39 fhpσ_39 gσ_39 c_40 if_53 gc_54_f_53 gc_54_v1 c_54 hm163 gc_69_x_66; omega) | omega)
                                refine lv_goto (tgt := 163) hx hb dX12_tries_188 (by decide) ?_
                                exact ih163 z_73 σ_72 _ _ ls (by first | (clear hn hh ahpσ_4 bhpσ_4 dhpσ_4 c_5 chpσ_4 ggy_6 iy_6 kc_7 kc_8 ahpσ_10 bhpσ_10 dhpσ_10 c_11 chpσ_10 ggy_15 iy_15 ggy_17 iy_17 kc_18 ahpσ_20 bhpσ_20 dhpσ_20 c_21 chpσ_20 if_22 c_23 hm78 hge78 gc_27_x_24 c_27 hm112 hge112 gc_32_x_29 gc_32_v3 c_32 ahpσ_39 bhpσ_39 chpσ_39 dhpσ_39 ehpσ_39 fhpσ_39 gσ_39 c_40 if_53 gc_54_f_53 gc_54_v1 c_54 gc_69_x_66; omega) | omega) (by first | (clear hn hh ahpσ_4 bhpσ_4 dhpσ_4 c_5 chpσ_4 ggy_6 iy_6 kc_7 kc_8 ahpσ_10 bhpσ_10 dhpσ_10 c_11 chpσ_10 ggy_15 iy_15 ggy_17 iy_17 kc_18 ahpσ_20 bhpσ_20 dhpσ_20 c_21 chpσ_20 if_22 c_23 hm78 hge78 gc_27_x_24 c_27 hm112 hge112 gc_32_x_29 gc_32_v3 c_32 ahpσ_39 bhpσ_39 chpσ_39 dhpσ_39 ehpσ_39 fhpσ_39 gσ_39 c_40 if_53 gc_54_f_53 gc_54_v1 c_54 hm163 gc_69_x_66; omega) | omega) (fun j h0 h1 => (by rw [mcσ_72 j h0]; split; (rename_i q; rw [q]; exact kvσ_72); exact rsσ_72x j h0 (by first | (clear hn hh ahpσ_4 bhpσ_4 dhpσ_4 c_5 chpσ_4 ggy_6 iy_6 kc_7 kc_8 ahpσ_10 bhpσ_10 dhpσ_10 c_11 chpσ_10 ggy_15 iy_15 ggy_17 iy_17 kc_18 ahpσ_20 bhpσ_20 dhpσ_20 c_21 chpσ_20 if_22 c_23 hm78 hge78 gc_27_x_24 c_27 hm112 hge112 gc_32_x_29 gc_32_v3 c_32 ahpσ_39 bhpσ_39 chpσ_39 dhpσ_39 ehpσ_39 fhpσ_39 gσ_39 c_40 if_53 gc_54_f_53 gc_54_v1 c_54 hm163 hge163 gc_69_x_66 c_69; omega) | omega))) fr_σ_72 kqσ_72 kfσ_72 hF hI (lv_sub hl [1, 2, 3, 4, 5, 6, 7, 0] rfl)
                          have kc_74 : (0 : Int32).toInt = 0 := zt_0
                          exact L_163_68 ((2147483647 - (0 : Int32).toInt).toNat + 1) 0 σ_39 _ _ ls (Nat.lt_succ_self _) (by decide) (fun j h0 h1 => by have q : (0 : Int32).toInt = 0 := rfl; omega) fr_σ_39 kqσ_39 kfσ_39 hF hI (lv_sub hl [2, 3, 4, 5, 6, 1, 7, 0] rfl)
                have kc_75 : (0 : Int32).toInt = 0 := zt_0
                exact L_112_31 ((2147483647 - (0 : Int32).toInt).toNat + 1) 0 0 σ_25 _ _ ls (Nat.lt_succ_self _) (by decide) fr_σ_25 fxσ_25 kfσ_25 hF hI (lv_sub hl [2, 3, 4, 5, 6, 1, 0] rfl)
              · skip
                replace hF := q_ifp hF c_27
                refine lv_aload_n hx hb dX12_tries_86 rfl (lv_at hl 0 rfl) ?_
                refine gs_X12_38_12 E hI ha dX12_tries_87 ?_
                refine lv_iload hx hb dX12_tries_90 (lv_at hl 5 rfl) ?_
                refine lv_aload_n hx hb dX12_tries_92 rfl (lv_at hl 0 rfl) ?_
                refine gs_X12_35_12 E hI ha dX12_tries_93 ?_
                refine lv_iload hx hb dX12_tries_96 (lv_at hl 5 rfl) ?_
                refine q_iald E hI (q_tk (k' := 34) hI ha rfl (Nat.succ_ne_zero _)) ⟨by decide, rfl⟩ (by first | (clear hn hh ahpσ_4 bhpσ_4 dhpσ_4 c_5 chpσ_4 ggy_6 iy_6 kc_7 kc_8 ahpσ_10 bhpσ_10 dhpσ_10 c_11 chpσ_10 ggy_15 iy_15 ggy_17 iy_17 kc_18 ahpσ_20 bhpσ_20 dhpσ_20 c_21 chpσ_20 if_22 c_23 hm78 gc_27_x_24; omega) | omega) (by rw [q_lnk (v := 4650) hI (q_tk (k' := 34) hI ha rfl (Nat.succ_ne_zero _)) rfl (by decide)]; omega) dX12_tries_98 ?_
                refine lv_topi (fun f_76 ef_76 => ?_)
                replace hF := q_letX hF ef_76
                have if_76 : f_76.toInt = m_c X σ a x_24.toInt := (m_rd ef_76 rfl).trans (congrFun fxσ_25 _)
                refine q_iastN E hI (q_tk (k' := 35) hI ha rfl (Nat.succ_ne_zero _)) ⟨by decide, rfl⟩ (by first | (clear hn hh ahpσ_4 bhpσ_4 dhpσ_4 c_5 chpσ_4 ggy_6 iy_6 kc_7 kc_8 ahpσ_10 bhpσ_10 dhpσ_10 c_11 chpσ_10 ggy_15 iy_15 ggy_17 iy_17 kc_18 ahpσ_20 bhpσ_20 dhpσ_20 c_21 chpσ_20 if_22 c_23 hm78 gc_27_x_24 if_76; omega) | omega) (by rw [q_lnk (v := 654) hI (q_tk (k' := 35) hI ha rfl (Nat.succ_ne_zero _)) rfl (by decide)]; omega) (show 1 < 9 by decide) (q_inU rfl) dX12_tries_99 (fun H locs σ_77 hσ_77 hI => ?_)
                replace hF := q_letX hF hσ_77
                have fr_σ_77 := fr_σ_25.si hσ_77 (q_tk (k' := 35) hI ha rfl (Nat.succ_ne_zero _)) rfl
                have mcσ_77 := m_wo hσ_77 (m_ne (q_tk (k' := 35) hI ha rfl (Nat.succ_ne_zero _)) (q_tk (f := 20) (k' := 34) hI ha rfl (by decide)) (by decide))
                have fxσ_77 : m_c X σ_77 a = m_c X σ a := (funext mcσ_77).trans fxσ_25
                have moσ_77 := m_ofw hσ_77 (rfl : x_24.toInt = _) (by first | (clear hn hh ahpσ_4 bhpσ_4 dhpσ_4 c_5 chpσ_4 ggy_6 iy_6 kc_7 kc_8 ahpσ_10 bhpσ_10 dhpσ_10 c_11 chpσ_10 ggy_15 iy_15 ggy_17 iy_17 kc_18 ahpσ_20 bhpσ_20 dhpσ_20 c_21 chpσ_20 if_22 c_23 hm78 gc_27_x_24 if_76; omega) | omega)
                have kvσ_77 := if_76
                have klσ_77x := klσ_25
                obtain ⟨z_78, ez_78⟩ : ∃ y : Int32, y = x_24 + 1 := ⟨_, rfl⟩
                replace hF := q_letX hF ez_78
                refine lv_iinc (v := z_78) (lv' := [(5, .int z_78), (0, .ref a), (1, .int v1), (2, .int v2), (3, .int v3), (4, .int v4)]) hx hb dX12_tries_100 hl (k := 5) rfl (by rw [ez_78]; rfl) (by decide) rfl (fun ls hl => ?_)
                have iz_78 : z_78.toInt = x_24.toInt + 1 := q_inc ez_78 (by first | (clear hn hh ahpσ_4 bhpσ_4 dhpσ_4 c_5 chpσ_4 ggy_6 iy_6 kc_7 kc_8 ahpσ_10 bhpσ_10 dhpσ_10 c_11 chpσ_10 ggy_15 iy_15 ggy_17 iy_17 kc_18 ahpσ_20 bhpσ_20 dhpσ_20 c_21 chpσ_20 if_22 c_23 hm78 gc_27_x_24 if_76; omega) | omega)
                refine lv_goto (tgt := 78) hx hb dX12_tries_103 (by decide) ?_
                exact ih78 z_78 σ_77 _ _ ls (by first | (clear hn hh ahpσ_4 bhpσ_4 dhpσ_4 c_5 chpσ_4 ggy_6 iy_6 kc_7 kc_8 ahpσ_10 bhpσ_10 dhpσ_10 c_11 chpσ_10 ggy_15 iy_15 ggy_17 iy_17 kc_18 ahpσ_20 bhpσ_20 dhpσ_20 c_21 chpσ_20 if_22 c_23 gc_27_x_24 if_76; omega) | omega) (by first | (clear hn hh ahpσ_4 bhpσ_4 dhpσ_4 c_5 chpσ_4 ggy_6 iy_6 kc_7 kc_8 ahpσ_10 bhpσ_10 dhpσ_10 c_11 chpσ_10 ggy_15 iy_15 ggy_17 iy_17 kc_18 ahpσ_20 bhpσ_20 dhpσ_20 c_21 chpσ_20 if_22 c_23 hm78 gc_27_x_24 if_76; omega) | omega) (fun j h0 h1 => by rw [moσ_77 j h0]; split; (rename_i q; rw [q]; exact kvσ_77); exact klσ_77x j h0 (by first | (clear hn hh ahpσ_4 bhpσ_4 dhpσ_4 c_5 chpσ_4 ggy_6 iy_6 kc_7 kc_8 ahpσ_10 bhpσ_10 dhpσ_10 c_11 chpσ_10 ggy_15 iy_15 ggy_17 iy_17 kc_18 ahpσ_20 bhpσ_20 dhpσ_20 c_21 chpσ_20 if_22 c_23 hm78 hge78 gc_27_x_24 c_27 if_76; omega) | omega)) fr_σ_77 fxσ_77 hF hI (lv_sub hl [1, 2, 3, 4, 5, 0] rfl)
          have kc_79 : (0 : Int32).toInt = 0 := zt_0
          exact L_78_26 ((2147483647 - (0 : Int32).toInt).toNat + 1) 0 σ_2 _ _ ls (Nat.lt_succ_self _) (by decide) (fun j h0 h1 => by have q : (0 : Int32).toInt = 0 := rfl; omega) fr_σ_2 fxσ_2 hF hI (lv_sub hl [1, 2, 3, 4, 5, 0] rfl)
        · skip
          replace hF := q_ifp hF c_23
          refine lv_aload_n hx hb dX12_tries_68 rfl (lv_at hl 0 rfl) ?_
          refine lv_bipush (v := 8) hx hb dX12_tries_69 zkb_8 ?_
          have kc_80 : (8 : Int32).toInt = 8 := zt_8
          refine q_ci (q_rV11_1 (rest := []) E (hml.trans hl.1.symm) hI (c_X12_no l X σ_2 a (8 : Int32) ha) kv_X12_74 ha ⟨Nat.le_of_ble_eq_true rfl, Nat.le_of_ble_eq_true rfl⟩ (Nat.le_of_ble_eq_true rfl) dX12_tries_71) hI (Nat.le_of_ble_eq_true rfl) (fun r_81 σ_82 H locs hpσ_82 hkσ_82 hI => ?_)
          have ahpσ_82 := hpσ_82.1
          have bhpσ_82 := hpσ_82.2.1
          have chpσ_82 := hpσ_82.2.2.1
          have dhpσ_82 := hpσ_82.2.2.2
          clear hpσ_82
          have fr_σ_82 := fr_σ_2.call dhpσ_82 rfl rfl
          replace hF := q_biX hF chpσ_82
          have mcσ_82 := m_cK hkσ_82 hI.1 ha (by decide)
          have fxσ_82 : m_c X σ_82 a = m_c X σ a := (funext mcσ_82).trans fxσ_2
          exact q_retz E hr hlk hI ⟨by omega, by omega⟩ ⟨⟨by omega, by omega⟩, fxσ_82, (hF.trans hout), fr_σ_82⟩ dX12_tries_74
      · skip
        replace hF := q_ifp hF c_21
        replace chpσ_20 := q_ifNo chpσ_20 c_21
        refine lv_aload_n hx hb dX12_tries_51 rfl (lv_at hl 0 rfl) ?_
        refine lv_iconst (v := 5) hx hb dX12_tries_52 zki_5 ?_
        have kc_83 : (5 : Int32).toInt = 5 := zt_5
        refine q_ci (q_rV11_1 (rest := []) E (hml.trans hl.1.symm) hI (c_X12_no l X σ_2 a (5 : Int32) ha) kv_X12_74 ha ⟨Nat.le_of_ble_eq_true rfl, Nat.le_of_ble_eq_true rfl⟩ (Nat.le_of_ble_eq_true rfl) dX12_tries_53) hI (Nat.le_of_ble_eq_true rfl) (fun r_84 σ_85 H locs hpσ_85 hkσ_85 hI => ?_)
        have ahpσ_85 := hpσ_85.1
        have bhpσ_85 := hpσ_85.2.1
        have chpσ_85 := hpσ_85.2.2.1
        have dhpσ_85 := hpσ_85.2.2.2
        clear hpσ_85
        have fr_σ_85 := fr_σ_2.call dhpσ_85 rfl rfl
        replace hF := q_biX hF chpσ_85
        have mcσ_85 := m_cK hkσ_85 hI.1 ha (by decide)
        have fxσ_85 : m_c X σ_85 a = m_c X σ a := (funext mcσ_85).trans fxσ_2
        exact q_retz E hr hlk hI ⟨by omega, by omega⟩ ⟨⟨by omega, by omega⟩, fxσ_85, (hF.trans hout), fr_σ_85⟩ dX12_tries_56
  · skip
    replace hF := q_ifp hF c_5
    replace chpσ_4 := q_ifNo chpσ_4 c_5
    refine lv_aload_n hx hb dX12_tries_18 rfl (lv_at hl 0 rfl) ?_
    refine lv_iconst (v := 2) hx hb dX12_tries_19 zki_2 ?_
    have kc_86 : (2 : Int32).toInt = 2 := zt_2
    refine q_ci (q_rV11_1 (rest := []) E (hml.trans hl.1.symm) hI (c_X12_no l X σ_2 a (2 : Int32) ha) kv_X12_74 ha ⟨Nat.le_of_ble_eq_true rfl, Nat.le_of_ble_eq_true rfl⟩ (Nat.le_of_ble_eq_true rfl) dX12_tries_20) hI (Nat.le_of_ble_eq_true rfl) (fun r_87 σ_88 H locs hpσ_88 hkσ_88 hI => ?_)
    have ahpσ_88 := hpσ_88.1
    have bhpσ_88 := hpσ_88.2.1
    have chpσ_88 := hpσ_88.2.2.1
    have dhpσ_88 := hpσ_88.2.2.2
    clear hpσ_88
    have fr_σ_88 := fr_σ_2.call dhpσ_88 rfl rfl
    replace hF := q_biX hF chpσ_88
    have mcσ_88 := m_cK hkσ_88 hI.1 ha (by decide)
    have fxσ_88 : m_c X σ_88 a = m_c X σ a := (funext mcσ_88).trans fxσ_2
    exact q_retz E hr hlk hI ⟨by omega, by omega⟩ ⟨⟨by omega, by omega⟩, fxσ_88, (hF.trans hout), fr_σ_88⟩ dX12_tries_23

set_option maxRecDepth 100000 in
set_option maxHeartbeats 4000000 in
theorem c_X12_wins (l : Launch) (X : XW) (σ : ST) (a : Nat) (v1 : Int32) (v2 : Int32) (v3 : Int32) (n : Int) (ha : q_kd X a = 12) (hG : m_G (m_c X σ a)) (hW : m_W (m_c X σ a) n) (hn : 0 ≤ n ∧ n ≤ 199000) : Met l yX12_wins (q_ws yX12_wins cX12_wins 4 (some .boolean)) (q_rm 70 1639) (q_P X σ [.ref a, .int v1, .int v2, .int v3]) (q_Qi X 1 σ (fun (r : Int32) (σ' : ST) => (0 ≤ r.toInt ∧ r.toInt ≤ 1) ∧ (m_c X σ' a = m_c X σ a) ∧ (r, σ') = F_X12_wins X σ a v1 v2 v3 ∧ q_ow [(12, 0), (12, 1), (12, 38), (12, 39), (12, 40), (12, 41), (12, 42), (12, 43), (12, 44), (12, 45), (34, 99), (35, 99), (39, 99)] [(12, 2), (12, 3)] X σ σ')) 0 0 (q_reg X) := by
  refine q_met 1 (by first | exact rfl | decide +kernel) rfl (Nat.le_of_ble_eq_true rfl) (fun p e s m below meth c E hml hr hlk hI ls hl => ?_)
  have hx := E.1
  have hb := E.2.1
  have hl : lv_has ls 4 [(0, .ref a), (1, .int v1), (2, .int v2), (3, .int v3)] := hl
  have fr_σ : q_ow [(12, 0), (12, 1), (12, 38), (12, 39), (12, 40), (12, 41), (12, 42), (12, 43), (12, 44), (12, 45), (34, 99), (35, 99), (39, 99)] [(12, 2), (12, 3)] X σ σ := q_ow.rf
  obtain ⟨out, hout⟩ : ∃ o, o = F_X12_wins X σ a v1 v2 v3 := ⟨_, rfl⟩
  have hF := hout.symm
  unfold F_X12_wins at hF
  refine lv_aload_n hx hb dX12_wins_0 rfl (lv_at hl 0 rfl) ?_
  refine lv_iload_n hx hb dX12_wins_1 rfl (lv_at hl 1 rfl) ?_
  refine lv_iload_n hx hb dX12_wins_2 rfl (lv_at hl 2 rfl) ?_
  refine lv_iload_n hx hb dX12_wins_3 rfl (lv_at hl 3 rfl) ?_
  refine lv_iconst (v := 1) hx hb dX12_wins_4 zki_1 ?_
  have kc_1 : (1 : Int32).toInt = 1 := zt_1
  refine q_ci (q_rV11_4 (rest := []) E (hml.trans hl.1.symm) hI (c_X12_tries l X σ a v1 v2 v3 (1 : Int32) n ha hG hW hn) kv_X12_451 ha ⟨Nat.le_of_ble_eq_true rfl, Nat.le_of_ble_eq_true rfl⟩ (Nat.le_of_ble_eq_true rfl) dX12_wins_5) hI (Nat.le_of_ble_eq_true rfl) (fun r_2 σ_3 H locs hpσ_3 hkσ_3 hI => ?_)
  have ahpσ_3 := hpσ_3.1
  have bhpσ_3 := hpσ_3.2.1
  have chpσ_3 := hpσ_3.2.2.1
  have dhpσ_3 := hpσ_3.2.2.2
  clear hpσ_3
  have fr_σ_3 := fr_σ.call dhpσ_3 rfl rfl
  replace hF := q_biX hF chpσ_3
  have tqσ_3 := bhpσ_3
  exact q_retz E hr hlk hI ⟨by omega, by omega⟩ ⟨⟨by omega, by omega⟩, tqσ_3, (hF.trans hout), fr_σ_3⟩ dX12_wins_8

set_option maxRecDepth 100000 in
set_option maxHeartbeats 4000000 in
theorem c_X12_left (l : Launch) (X : XW) (σ : ST) (a : Nat) (v1 : Int32) (v2 : Int32) (v3 : Int32) (n : Int) (ha : q_kd X a = 12) (hG : m_G (m_c X σ a)) (hW : m_W (m_c X σ a) n) (hn : 0 ≤ n ∧ n ≤ 199000) : Met l yX12_left (q_ws yX12_left cX12_left 4 (some .boolean)) (q_rm 70 1639) (q_P X σ [.ref a, .int v1, .int v2, .int v3]) (q_Qi X 1 σ (fun (r : Int32) (σ' : ST) => (0 ≤ r.toInt ∧ r.toInt ≤ 1) ∧ (m_c X σ' a = m_c X σ a) ∧ (r, σ') = F_X12_left X σ a v1 v2 v3 ∧ q_ow [(12, 0), (12, 1), (12, 38), (12, 39), (12, 40), (12, 41), (12, 42), (12, 43), (12, 44), (12, 45), (34, 99), (35, 99), (39, 99)] [(12, 2), (12, 3)] X σ σ')) 0 0 (q_reg X) := by
  refine q_met 1 (by first | exact rfl | decide +kernel) rfl (Nat.le_of_ble_eq_true rfl) (fun p e s m below meth c E hml hr hlk hI ls hl => ?_)
  have hx := E.1
  have hb := E.2.1
  have hl : lv_has ls 4 [(0, .ref a), (1, .int v1), (2, .int v2), (3, .int v3)] := hl
  have fr_σ : q_ow [(12, 0), (12, 1), (12, 38), (12, 39), (12, 40), (12, 41), (12, 42), (12, 43), (12, 44), (12, 45), (34, 99), (35, 99), (39, 99)] [(12, 2), (12, 3)] X σ σ := q_ow.rf
  obtain ⟨out, hout⟩ : ∃ o, o = F_X12_left X σ a v1 v2 v3 := ⟨_, rfl⟩
  have hF := hout.symm
  unfold F_X12_left at hF
  refine lv_aload_n hx hb dX12_left_0 rfl (lv_at hl 0 rfl) ?_
  refine lv_iload_n hx hb dX12_left_1 rfl (lv_at hl 1 rfl) ?_
  refine lv_iload_n hx hb dX12_left_2 rfl (lv_at hl 2 rfl) ?_
  refine lv_iload_n hx hb dX12_left_3 rfl (lv_at hl 3 rfl) ?_
  refine lv_iconst (v := 0) hx hb dX12_left_4 zki_0 ?_
  have kc_1 : (0 : Int32).toInt = 0 := zt_0
  refine q_ci (q_rV11_4 (rest := []) E (hml.trans hl.1.symm) hI (c_X12_tries l X σ a v1 v2 v3 (0 : Int32) n ha hG hW hn) kv_X12_451 ha ⟨Nat.le_of_ble_eq_true rfl, Nat.le_of_ble_eq_true rfl⟩ (Nat.le_of_ble_eq_true rfl) dX12_left_5) hI (Nat.le_of_ble_eq_true rfl) (fun r_2 σ_3 H locs hpσ_3 hkσ_3 hI => ?_)
  have ahpσ_3 := hpσ_3.1
  have bhpσ_3 := hpσ_3.2.1
  have chpσ_3 := hpσ_3.2.2.1
  have dhpσ_3 := hpσ_3.2.2.2
  clear hpσ_3
  have fr_σ_3 := fr_σ.call dhpσ_3 rfl rfl
  replace hF := q_biX hF chpσ_3
  have tqσ_3 := bhpσ_3
  exact q_retz E hr hlk hI ⟨by omega, by omega⟩ ⟨⟨by omega, by omega⟩, tqσ_3, (hF.trans hout), fr_σ_3⟩ dX12_left_8

set_option maxRecDepth 100000 in
set_option maxHeartbeats 4000000 in
theorem c_X12_mark (l : Launch) (X : XW) (σ : ST) (a : Nat) (n : Int) (ha : q_kd X a = 12) (hM : m_M (m_c X σ a) (σ.1 a 24).toInt n) : Met l yX12_mark (q_ws yX12_mark cX12_mark 1 (some .int)) (q_rm 1 23) (q_P X σ [.ref a]) (q_Qi X 0 σ (fun (r : Int32) (σ' : ST) => (q_KS (fun b g => b = a ∧ g = 24) 1 X σ σ') ∧ (m_M (m_c X σ' a) (σ'.1 a 24).toInt n) ∧ ((σ.1 a 24).toInt < 3 → (σ'.1 a 24).toInt = (σ.1 a 24).toInt + 1 ∧ r.toInt = (σ.1 a 24).toInt + 1) ∧ ((σ.1 a 24).toInt = 3 → (σ'.1 a 24).toInt = 3 ∧ r.toInt = -1) ∧ (r, σ') = F_X12_mark X σ a ∧ q_ow [(12, 0), (12, 1), (12, 24), (34, 99)] [(37, 99)] X σ σ')) 0 0 (q_reg X) := by
  refine q_met 0 (by first | exact rfl | decide +kernel) rfl (Nat.le_of_ble_eq_true rfl) (fun p e s m below meth c E hml hr hlk hI ls hl => ?_)
  have hx := E.1
  have hb := E.2.1
  have hl : lv_has ls 1 [(0, .ref a)] := hl
  have ks_σ : q_KS (fun b g => b = a ∧ g = 24) 1 X σ σ := q_KS.rf
  have fxσ : m_c X σ a = m_c X σ a := rfl
  have fr_σ : q_ow [(12, 0), (12, 1), (12, 24), (34, 99)] [(37, 99)] X σ σ := q_ow.rf
  have b24 := q_bd (f := 24) (lo := 0) (hi := 3) hI ha rfl
  obtain ⟨out, hout⟩ : ∃ o, o = F_X12_mark X σ a := ⟨_, rfl⟩
  have hF := hout.symm
  unfold F_X12_mark at hF
  refine lv_aload_n hx hb dX12_mark_0 rfl (lv_at hl 0 rfl) ?_
  refine lv_iconst (v := 0) hx hb dX12_mark_1 zki_0 ?_
  refine ps_X12_59_12 E hI ha (by decide) dX12_mark_2 (fun H locs σ_1 hσ_1 hI => ?_)
  replace hF := q_letX hF hσ_1
  have fr_σ_1 := fr_σ.si hσ_1 ha rfl
  have ks_σ_1 : q_KS (fun b g => b = a ∧ g = 24) 1 X σ σ_1 := ks_σ.si hσ_1 ha (show 1 < 9 by decide)
  have mv24_σ_1 : (σ_1.1 a 24).toInt = (σ.1 a 24).toInt := congrArg Int32.toInt (q_rdn hσ_1 (Or.inr (by decide)))
  have mcσ_1 := m_wo hσ_1 (m_ne ha (q_tk (f := 20) (k' := 34) hI ha rfl (by decide)) (by decide))
  have fxσ_1 : m_c X σ_1 a = m_c X σ a := (funext mcσ_1).trans fxσ
  refine lv_aload_n hx hb dX12_mark_5 rfl (lv_at hl 0 rfl) ?_
  refine lv_iconst (v := 0) hx hb dX12_mark_6 zki_0 ?_
  refine ps_X12_62_12 E hI ha (by decide) dX12_mark_7 (fun H locs σ_2 hσ_2 hI => ?_)
  replace hF := q_letX hF hσ_2
  have fr_σ_2 := fr_σ_1.si hσ_2 ha rfl
  have ks_σ_2 : q_KS (fun b g => b = a ∧ g = 24) 1 X σ σ_2 := ks_σ_1.si hσ_2 ha (show 1 < 9 by decide)
  have mv24_σ_2 : (σ_2.1 a 24).toInt = (σ_1.1 a 24).toInt := congrArg Int32.toInt (q_rdn hσ_2 (Or.inr (by decide)))
  have mcσ_2 := m_wo hσ_2 (m_ne ha (q_tk (f := 20) (k' := 34) hI ha rfl (by decide)) (by decide))
  have fxσ_2 : m_c X σ_2 a = m_c X σ a := (funext mcσ_2).trans fxσ_1
  refine lv_aload_n hx hb dX12_mark_10 rfl (lv_at hl 0 rfl) ?_
  refine gs_X12_455_12 E hI ha dX12_mark_11 ?_
  refine lv_topi (fun f_3 ef_3 => ?_)
  replace hF := q_letX hF ef_3
  have if_3 : f_3.toInt = (σ_2.1 a 24).toInt := congrArg Int32.toInt ef_3
  have bf_3 : 0 ≤ f_3.toInt ∧ f_3.toInt ≤ 3 := by rw [ef_3]; exact q_bd hI ha rfl
  refine lv_iconst (v := 3) hx hb dX12_mark_14 zki_3 ?_
  refine q_icmp_ne (A := f_3.toInt) (B := 3) E rfl (by decide) (tgt := 25) dX12_mark_15 (by decide) (fun c_4 => ?_) (fun c_4 => ?_)
  · skip
    replace hF := q_ifn hF c_4
    refine lv_aload_n hx hb dX12_mark_25 rfl (lv_at hl 0 rfl) ?_
    refine lv_dup hx hb dX12_mark_26 rfl ?_
    refine gs_X12_455_12 E hI ha dX12_mark_27 ?_
    refine lv_topi (fun f_5 ef_5 => ?_)
    replace hF := q_letX hF ef_5
    have if_5 : f_5.toInt = (σ_2.1 a 24).toInt := congrArg Int32.toInt ef_5
    have bf_5 : 0 ≤ f_5.toInt ∧ f_5.toInt ≤ 3 := by rw [ef_5]; exact q_bd hI ha rfl
    refine lv_iconst (v := 1) hx hb dX12_mark_30 zki_1 ?_
    refine lv_iadd hx hb dX12_mark_31 ?_
    refine lv_topi (fun z_6 ez_6 => ?_)
    replace hF := q_letX hF ez_6
    have iz_6 := q_addI (A := f_5.toInt) (B := 1) ez_6 rfl (by decide) (by first | (clear bf_3 c_4 bf_5; omega) | omega) (by first | (clear bf_3 c_4 bf_5; omega) | omega)
    refine ps_X12_455_12 E hI ha (by decide) (by first | (clear bf_3 c_4 bf_5; omega) | omega) (by first | (clear bf_3 bf_5; omega) | omega) dX12_mark_32 (fun H locs σ_7 hσ_7 hI => ?_)
    replace hF := q_letX hF hσ_7
    have fr_σ_7 := fr_σ_2.si hσ_7 ha rfl
    have ks_σ_7 : q_KS (fun b g => b = a ∧ g = 24) 1 X σ σ_7 := ks_σ_2.siS hσ_7 ⟨rfl, rfl⟩
    have mv24_σ_7 : (σ_7.1 a 24).toInt = z_6.toInt := congrArg Int32.toInt (q_rd hσ_7)
    have mcσ_7 := m_wo hσ_7 (m_ne ha (q_tk (f := 20) (k' := 34) hI ha rfl (by decide)) (by decide))
    have fxσ_7 : m_c X σ_7 a = m_c X σ a := (funext mcσ_7).trans fxσ_2
    refine lv_aload_n hx hb dX12_mark_35 rfl (lv_at hl 0 rfl) ?_
    refine lv_iconst (v := 0) hx hb dX12_mark_36 zki_0 ?_
    refine lv_aload_n hx hb dX12_mark_37 rfl (lv_at hl 0 rfl) ?_
    refine gs_X12_455_12 E hI ha dX12_mark_38 ?_
    refine lv_topi (fun f_8 ef_8 => ?_)
    replace hF := q_letX hF ef_8
    have if_8 : f_8.toInt = (σ_7.1 a 24).toInt := congrArg Int32.toInt ef_8
    have bf_8 : 0 ≤ f_8.toInt ∧ f_8.toInt ≤ 3 := by rw [ef_8]; exact q_bd hI ha rfl
    have kc_9 : (0 : Int32).toInt = 0 := zt_0
    refine q_cv (q_rV11_2 (rest := []) E (hml.trans hl.1.symm) hI (c_X12_copy l X σ_7 a (0 : Int32) f_8 ha (by first | (clear b24 mv24_σ_1 mv24_σ_2 if_3 bf_3 c_4 if_5 bf_5 iz_6 mv24_σ_7 if_8 bf_8; omega) | omega) (by omega) (by first | (clear bf_3 c_4 bf_5; omega) | omega)) kv_X12_261 ha ⟨Nat.le_of_ble_eq_true rfl, Nat.le_of_ble_eq_true rfl⟩ (Nat.le_of_ble_eq_true rfl) dX12_mark_41) hI (Nat.le_of_ble_eq_true rfl) (fun σ_11 H locs hpσ_11 hkσ_11 hI => ?_)
    have ahpσ_11 := hpσ_11.1
    have bhpσ_11 := hpσ_11.2.1
    have chpσ_11 := hpσ_11.2.2
    clear hpσ_11
    have fr_σ_11 := fr_σ_7.call chpσ_11 rfl rfl
    replace hF := q_letX hF bhpσ_11
    have mv24_σ_11 : (σ_11.1 a 24).toInt = (σ_7.1 a 24).toInt := congrArg Int32.toInt (hkσ_11 a 24 (by rw [ha]; decide))
    have ks_σ_11 : q_KS (fun b g => b = a ∧ g = 24) 1 X σ σ_11 := ks_σ_7.K hkσ_11 (by decide)
    have mmσ_11 : m_M (m_c X σ_11 a) ((σ.1 a 24).toInt + 1) n := m_M.mark (w := (0 : Int32).toInt) (z := f_8.toInt) hM (by first | (clear bf_3 c_4 bf_5 kc_9 ahpσ_11 bhpσ_11 chpσ_11; omega) | omega) (by decide) (by first | (clear b24 bf_3 c_4 bf_5 bf_8 kc_9 ahpσ_11 bhpσ_11 chpσ_11 mv24_σ_11; omega) | omega) (fun j hj => (by have q := ahpσ_11 j hj; rw [fxσ_7] at q; exact q))
    refine lv_aload_n hx hb dX12_mark_44 rfl (lv_at hl 0 rfl) ?_
    refine gs_X12_455_12 E hI ha dX12_mark_45 ?_
    refine lv_topi (fun f_12 ef_12 => ?_)
    replace hF := q_letX hF ef_12
    have if_12 : f_12.toInt = (σ_11.1 a 24).toInt := congrArg Int32.toInt ef_12
    have bf_12 : 0 ≤ f_12.toInt ∧ f_12.toInt ≤ 3 := by rw [ef_12]; exact q_bd hI ha rfl
    exact q_reti E hr hlk hI ⟨ks_σ_11, (by first | (have q : (σ_11.1 a 24).toInt = (σ.1 a 24).toInt := (by omega); rw [fxσ_11, q]; exact hM) | (have q : (σ_11.1 a 24).toInt = (σ.1 a 24).toInt + 1 := (by first | (clear b24 bf_3 c_4 bf_5 bf_8 kc_9 ahpσ_11 bhpσ_11 chpσ_11 if_12 bf_12; omega) | omega); rw [q]; exact mmσ_11)), (by first | (clear b24 bf_3 c_4 bf_5 bf_8 kc_9 ahpσ_11 bhpσ_11 chpσ_11 bf_12; omega) | omega), (by first | (clear bf_3 c_4 bf_5 kc_9 ahpσ_11 bhpσ_11 chpσ_11 bf_12; omega) | omega), (hF.trans hout), fr_σ_11⟩ dX12_mark_48
  · skip
    replace hF := q_ifp hF c_4
    refine lv_aload_n hx hb dX12_mark_18 rfl (lv_at hl 0 rfl) ?_
    refine lv_bipush (v := 7) hx hb dX12_mark_19 zkb_7 ?_
    have kc_13 : (7 : Int32).toInt = 7 := zt_7
    refine q_ci (q_rV11_1 (rest := []) E (hml.trans hl.1.symm) hI (c_X12_refuse l X σ_2 a (7 : Int32) ha) kv_X12_284 ha ⟨Nat.le_of_ble_eq_true rfl, Nat.le_of_ble_eq_true rfl⟩ (Nat.le_of_ble_eq_true rfl) dX12_mark_21) hI (Nat.le_of_ble_eq_true rfl) (fun r_14 σ_15 H locs hpσ_15 hkσ_15 hI => ?_)
    have ahpσ_15 := hpσ_15.1
    have bhpσ_15 := hpσ_15.2.1
    have chpσ_15 := hpσ_15.2.2
    clear hpσ_15
    have fr_σ_15 := fr_σ_2.call chpσ_15 rfl rfl
    replace hF := q_biX hF bhpσ_15
    have mv24_σ_15 : (σ_15.1 a 24).toInt = (σ_2.1 a 24).toInt := congrArg Int32.toInt ((q_K.le hkσ_15 (by decide) : q_K 8 X σ_2 σ_15) a 24 (by rw [ha]; decide))
    have mcσ_15 := m_cK hkσ_15 hI.1 ha (by decide)
    have fxσ_15 : m_c X σ_15 a = m_c X σ a := (funext mcσ_15).trans fxσ_2
    have ks_σ_15 : q_KS (fun b g => b = a ∧ g = 24) 1 X σ σ_15 := ks_σ_2.K hkσ_15 (by decide)
    exact q_reti E hr hlk hI ⟨ks_σ_15, (by first | (have q : (σ_15.1 a 24).toInt = (σ.1 a 24).toInt := (by first | (clear b24 bf_3 kc_13 ahpσ_15 bhpσ_15 chpσ_15; omega) | omega); rw [fxσ_15, q]; exact hM) | (have q : (σ_15.1 a 24).toInt = (σ.1 a 24).toInt + 1 := (by omega); rw [q]; exact mmσ_15)), (by first | (clear b24 bf_3 kc_13 ahpσ_15 bhpσ_15 chpσ_15 mv24_σ_15; omega) | omega), (by first | (clear b24 mv24_σ_1 mv24_σ_2 bf_3 kc_13 bhpσ_15 chpσ_15; omega) | omega), (hF.trans hout), fr_σ_15⟩ dX12_mark_24

set_option maxRecDepth 100000 in
set_option maxHeartbeats 4000000 in
theorem c_X12_back (l : Launch) (X : XW) (σ : ST) (a : Nat) (n : Int) (ha : q_kd X a = 12) (hM : m_M (m_c X σ a) (σ.1 a 24).toInt n) : Met l yX12_back (q_ws yX12_back cX12_back 1 (some .int)) (q_rm 1 23) (q_P X σ [.ref a]) (q_Qi X 0 σ (fun (r : Int32) (σ' : ST) => (q_KS (fun b g => b = a ∧ g = 24) 1 X σ σ') ∧ (m_M (m_c X σ' a) (σ'.1 a 24).toInt n) ∧ (0 < (σ.1 a 24).toInt → (σ'.1 a 24).toInt = (σ.1 a 24).toInt - 1 ∧ r.toInt = (σ.1 a 24).toInt - 1) ∧ ((σ.1 a 24).toInt = 0 → (σ'.1 a 24).toInt = 0 ∧ r.toInt = -1) ∧ (r, σ') = F_X12_back X σ a ∧ q_ow [(12, 0), (12, 1), (12, 24), (34, 99)] [(37, 99)] X σ σ')) 0 0 (q_reg X) := by
  refine q_met 0 (by first | exact rfl | decide +kernel) rfl (Nat.le_of_ble_eq_true rfl) (fun p e s m below meth c E hml hr hlk hI ls hl => ?_)
  have hx := E.1
  have hb := E.2.1
  have hl : lv_has ls 1 [(0, .ref a)] := hl
  have ks_σ : q_KS (fun b g => b = a ∧ g = 24) 1 X σ σ := q_KS.rf
  have fxσ : m_c X σ a = m_c X σ a := rfl
  have fr_σ : q_ow [(12, 0), (12, 1), (12, 24), (34, 99)] [(37, 99)] X σ σ := q_ow.rf
  have b24 := q_bd (f := 24) (lo := 0) (hi := 3) hI ha rfl
  obtain ⟨out, hout⟩ : ∃ o, o = F_X12_back X σ a := ⟨_, rfl⟩
  have hF := hout.symm
  unfold F_X12_back at hF
  refine lv_aload_n hx hb dX12_back_0 rfl (lv_at hl 0 rfl) ?_
  refine lv_iconst (v := 0) hx hb dX12_back_1 zki_0 ?_
  refine ps_X12_59_12 E hI ha (by decide) dX12_back_2 (fun H locs σ_1 hσ_1 hI => ?_)
  replace hF := q_letX hF hσ_1
  have fr_σ_1 := fr_σ.si hσ_1 ha rfl
  have ks_σ_1 : q_KS (fun b g => b = a ∧ g = 24) 1 X σ σ_1 := ks_σ.si hσ_1 ha (show 1 < 9 by decide)
  have mv24_σ_1 : (σ_1.1 a 24).toInt = (σ.1 a 24).toInt := congrArg Int32.toInt (q_rdn hσ_1 (Or.inr (by decide)))
  have mcσ_1 := m_wo hσ_1 (m_ne ha (q_tk (f := 20) (k' := 34) hI ha rfl (by decide)) (by decide))
  have fxσ_1 : m_c X σ_1 a = m_c X σ a := (funext mcσ_1).trans fxσ
  refine lv_aload_n hx hb dX12_back_5 rfl (lv_at hl 0 rfl) ?_
  refine lv_iconst (v := 0) hx hb dX12_back_6 zki_0 ?_
  refine ps_X12_62_12 E hI ha (by decide) dX12_back_7 (fun H locs σ_2 hσ_2 hI => ?_)
  replace hF := q_letX hF hσ_2
  have fr_σ_2 := fr_σ_1.si hσ_2 ha rfl
  have ks_σ_2 : q_KS (fun b g => b = a ∧ g = 24) 1 X σ σ_2 := ks_σ_1.si hσ_2 ha (show 1 < 9 by decide)
  have mv24_σ_2 : (σ_2.1 a 24).toInt = (σ_1.1 a 24).toInt := congrArg Int32.toInt (q_rdn hσ_2 (Or.inr (by decide)))
  have mcσ_2 := m_wo hσ_2 (m_ne ha (q_tk (f := 20) (k' := 34) hI ha rfl (by decide)) (by decide))
  have fxσ_2 : m_c X σ_2 a = m_c X σ a := (funext mcσ_2).trans fxσ_1
  refine lv_aload_n hx hb dX12_back_10 rfl (lv_at hl 0 rfl) ?_
  refine gs_X12_455_12 E hI ha dX12_back_11 ?_
  refine lv_topi (fun f_3 ef_3 => ?_)
  replace hF := q_letX hF ef_3
  have if_3 : f_3.toInt = (σ_2.1 a 24).toInt := congrArg Int32.toInt ef_3
  have bf_3 : 0 ≤ f_3.toInt ∧ f_3.toInt ≤ 3 := by rw [ef_3]; exact q_bd hI ha rfl
  refine q_if_ne (A := f_3.toInt) E rfl (tgt := 24) dX12_back_14 (by decide) (fun c_4 => ?_) (fun c_4 => ?_)
  · skip
    replace hF := q_ifn hF c_4
    refine lv_aload_n hx hb dX12_back_24 rfl (lv_at hl 0 rfl) ?_
    refine lv_aload_n hx hb dX12_back_25 rfl (lv_at hl 0 rfl) ?_
    refine gs_X12_455_12 E hI ha dX12_back_26 ?_
    refine lv_topi (fun f_5 ef_5 => ?_)
    replace hF := q_letX hF ef_5
    have if_5 : f_5.toInt = (σ_2.1 a 24).toInt := congrArg Int32.toInt ef_5
    have bf_5 : 0 ≤ f_5.toInt ∧ f_5.toInt ≤ 3 := by rw [ef_5]; exact q_bd hI ha rfl
    refine lv_iconst (v := 0) hx hb dX12_back_29 zki_0 ?_
    have kc_6 : (0 : Int32).toInt = 0 := zt_0
    refine q_cv (q_rV11_2 (rest := []) E (hml.trans hl.1.symm) hI (c_X12_copy l X σ_2 a f_5 (0 : Int32) ha (by first | (clear bf_3 c_4 bf_5 kc_6; omega) | omega) (by first | (clear b24 mv24_σ_1 mv24_σ_2 if_3 bf_3 c_4 if_5 bf_5; omega) | omega) (by first | (clear b24 mv24_σ_1 mv24_σ_2 bf_3 bf_5; omega) | omega)) kv_X12_261 ha ⟨Nat.le_of_ble_eq_true rfl, Nat.le_of_ble_eq_true rfl⟩ (Nat.le_of_ble_eq_true rfl) dX12_back_30) hI (Nat.le_of_ble_eq_true rfl) (fun σ_8 H locs hpσ_8 hkσ_8 hI => ?_)
    have ahpσ_8 := hpσ_8.1
    have bhpσ_8 := hpσ_8.2.1
    have chpσ_8 := hpσ_8.2.2
    clear hpσ_8
    have fr_σ_8 := fr_σ_2.call chpσ_8 rfl rfl
    replace hF := q_letX hF bhpσ_8
    have mv24_σ_8 : (σ_8.1 a 24).toInt = (σ_2.1 a 24).toInt := congrArg Int32.toInt (hkσ_8 a 24 (by rw [ha]; decide))
    have ks_σ_8 : q_KS (fun b g => b = a ∧ g = 24) 1 X σ σ_8 := ks_σ_2.K hkσ_8 (by decide)
    have mmσ_8 : m_M (m_c X σ_8 a) ((σ.1 a 24).toInt - 1) n := m_M.back (w := f_5.toInt) (z := (0 : Int32).toInt) hM (by first | (clear bf_3 bf_5 kc_6 ahpσ_8 bhpσ_8 chpσ_8; omega) | omega) (by first | (clear b24 bf_3 c_4 bf_5 kc_6 ahpσ_8 bhpσ_8 chpσ_8 mv24_σ_8; omega) | omega) (by decide) (fun j hj => (by have q := ahpσ_8 j hj; rw [fxσ_2] at q; exact q))
    refine lv_aload_n hx hb dX12_back_33 rfl (lv_at hl 0 rfl) ?_
    refine lv_dup hx hb dX12_back_34 rfl ?_
    refine gs_X12_455_12 E hI ha dX12_back_35 ?_
    refine lv_topi (fun f_9 ef_9 => ?_)
    replace hF := q_letX hF ef_9
    have if_9 : f_9.toInt = (σ_8.1 a 24).toInt := congrArg Int32.toInt ef_9
    have bf_9 : 0 ≤ f_9.toInt ∧ f_9.toInt ≤ 3 := by rw [ef_9]; exact q_bd hI ha rfl
    refine lv_iconst (v := 1) hx hb dX12_back_38 zki_1 ?_
    refine lv_isub hx hb dX12_back_39 ?_
    refine lv_topi (fun z_10 ez_10 => ?_)
    replace hF := q_letX hF ez_10
    have iz_10 := q_subI (A := f_9.toInt) (B := 1) ez_10 rfl (by decide) (by first | (clear bf_3 c_4 bf_5 kc_6 ahpσ_8 bhpσ_8 chpσ_8 bf_9; omega) | omega) (by first | (clear bf_3 c_4 bf_5 kc_6 ahpσ_8 bhpσ_8 chpσ_8 bf_9; omega) | omega)
    refine ps_X12_455_12 E hI ha (by decide) (by first | (clear bf_3 bf_5 kc_6 ahpσ_8 bhpσ_8 chpσ_8 bf_9; omega) | omega) (by first | (clear bf_3 c_4 bf_5 kc_6 ahpσ_8 bhpσ_8 chpσ_8 bf_9; omega) | omega) dX12_back_40 (fun H locs σ_11 hσ_11 hI => ?_)
    replace hF := q_letX hF hσ_11
    have fr_σ_11 := fr_σ_8.si hσ_11 ha rfl
    have ks_σ_11 : q_KS (fun b g => b = a ∧ g = 24) 1 X σ σ_11 := ks_σ_8.siS hσ_11 ⟨rfl, rfl⟩
    have mv24_σ_11 : (σ_11.1 a 24).toInt = z_10.toInt := congrArg Int32.toInt (q_rd hσ_11)
    have mcσ_11 := m_wo hσ_11 (m_ne ha (q_tk (f := 20) (k' := 34) hI ha rfl (by decide)) (by decide))
    have fyσ_11 : m_c X σ_11 a = m_c X σ_8 a := funext mcσ_11
    have mnσ_11 := mmσ_8
    rw [← fyσ_11] at mnσ_11
    refine lv_aload_n hx hb dX12_back_43 rfl (lv_at hl 0 rfl) ?_
    refine gs_X12_455_12 E hI ha dX12_back_44 ?_
    refine lv_topi (fun f_12 ef_12 => ?_)
    replace hF := q_letX hF ef_12
    have if_12 : f_12.toInt = (σ_11.1 a 24).toInt := congrArg Int32.toInt ef_12
    have bf_12 : 0 ≤ f_12.toInt ∧ f_12.toInt ≤ 3 := by rw [ef_12]; exact q_bd hI ha rfl
    exact q_reti E hr hlk hI ⟨ks_σ_11, (by first | (have q : (σ_11.1 a 24).toInt = (σ.1 a 24).toInt := (by omega); rw [fxσ_11, q]; exact hM) | (have q : (σ_11.1 a 24).toInt = (σ.1 a 24).toInt - 1 := (by first | (clear b24 bf_3 c_4 bf_5 kc_6 ahpσ_8 bhpσ_8 chpσ_8 bf_9 if_12 bf_12; omega) | omega); rw [q]; exact mnσ_11)), (by first | (clear b24 bf_3 c_4 bf_5 kc_6 ahpσ_8 bhpσ_8 chpσ_8 bf_9 bf_12; omega) | omega), (by first | (clear bf_3 c_4 bf_5 kc_6 ahpσ_8 bhpσ_8 chpσ_8 bf_9; omega) | omega), (hF.trans hout), fr_σ_11⟩ dX12_back_47
  · skip
    replace hF := q_ifp hF c_4
    refine lv_aload_n hx hb dX12_back_17 rfl (lv_at hl 0 rfl) ?_
    refine lv_bipush (v := 8) hx hb dX12_back_18 zkb_8 ?_
    have kc_13 : (8 : Int32).toInt = 8 := zt_8
    refine q_ci (q_rV11_1 (rest := []) E (hml.trans hl.1.symm) hI (c_X12_refuse l X σ_2 a (8 : Int32) ha) kv_X12_284 ha ⟨Nat.le_of_ble_eq_true rfl, Nat.le_of_ble_eq_true rfl⟩ (Nat.le_of_ble_eq_true rfl) dX12_back_20) hI (Nat.le_of_ble_eq_true rfl) (fun r_14 σ_15 H locs hpσ_15 hkσ_15 hI => ?_)
    have ahpσ_15 := hpσ_15.1
    have bhpσ_15 := hpσ_15.2.1
    have chpσ_15 := hpσ_15.2.2
    clear hpσ_15
    have fr_σ_15 := fr_σ_2.call chpσ_15 rfl rfl
    replace hF := q_biX hF bhpσ_15
    have mv24_σ_15 : (σ_15.1 a 24).toInt = (σ_2.1 a 24).toInt := congrArg Int32.toInt ((q_K.le hkσ_15 (by decide) : q_K 8 X σ_2 σ_15) a 24 (by rw [ha]; decide))
    have mcσ_15 := m_cK hkσ_15 hI.1 ha (by decide)
    have fxσ_15 : m_c X σ_15 a = m_c X σ a := (funext mcσ_15).trans fxσ_2
    have ks_σ_15 : q_KS (fun b g => b = a ∧ g = 24) 1 X σ σ_15 := ks_σ_2.K hkσ_15 (by decide)
    exact q_reti E hr hlk hI ⟨ks_σ_15, (by first | (have q : (σ_15.1 a 24).toInt = (σ.1 a 24).toInt := (by first | (clear b24 bf_3 kc_13 ahpσ_15 bhpσ_15 chpσ_15; omega) | omega); rw [fxσ_15, q]; exact hM) | (have q : (σ_15.1 a 24).toInt = (σ.1 a 24).toInt - 1 := (by omega); rw [q]; exact mnσ_15)), (by first | (clear b24 bf_3 kc_13 ahpσ_15 bhpσ_15 chpσ_15 mv24_σ_15; omega) | omega), (by first | (clear b24 mv24_σ_1 mv24_σ_2 bf_3 kc_13 bhpσ_15 chpσ_15; omega) | omega), (hF.trans hout), fr_σ_15⟩ dX12_back_23
end
/-! FROM 48a.ar.lean.txt -/
section
/-! ARITHMETIC of the exact answers -/
def ar_w (n : Int) : Int := Int.bmod n (2 ^ 32)
def ar_v (n : Int) : Int := Int.bmod n (2 ^ 64)
theorem ar_wr {n : Int} (h1 : -2147483648 ≤ n) (h2 : n ≤ 2147483647) : ar_w n = n := Int.bmod_eq_of_le (by omega) (by omega)
theorem ar_vr {n : Int} (h1 : -9223372036854775808 ≤ n) (h2 : n ≤ 9223372036854775807) : ar_v n = n := Int.bmod_eq_of_le (by omega) (by omega)
theorem ar_add (x y : Int32) : (x + y).toInt = ar_w (x.toInt + y.toInt) := Int32.toInt_add x y
theorem ar_sub (x y : Int32) : (x - y).toInt = ar_w (x.toInt - y.toInt) := Int32.toInt_sub x y
theorem ar_mul (x y : Int32) : (x * y).toInt = ar_w (x.toInt * y.toInt) := Int32.toInt_mul x y
theorem ar_neg (x : Int32) : (-x).toInt = ar_w (-x.toInt) := Int32.toInt_neg x
theorem ar_addl (x y : Int64) : (x + y).toInt = ar_v (x.toInt + y.toInt) := Int64.toInt_add x y
theorem ar_subl (x y : Int64) : (x - y).toInt = ar_v (x.toInt - y.toInt) := Int64.toInt_sub x y
theorem ar_mull (x y : Int64) : (x * y).toInt = ar_v (x.toInt * y.toInt) := Int64.toInt_mul x y
theorem ar_i2l (x : Int32) : x.toInt64.toInt = x.toInt := Int32.toInt_toInt64 x
theorem ar_cl (x : Int32) : x.toNatClampNeg = x.toInt.toNat := rfl
theorem ar_bd (x : Int32) : -2147483648 ≤ x.toInt ∧ x.toInt ≤ 2147483647 := q_rng x
theorem ar_m1 : (-1 : Int32).toInt = -1 := rfl
end
/-! FROM 48b.view.lean.txt -/
section
/-! THE CLASS'S GAMES AS ROWS OF NUMBERS -/
/-- a label for each object: 8192 for each game, 16 for each step of the way -/
def y_lc (L f : Nat) : Nat := if L = 1 ∧ f = 8 then 8193 else if L = 1 ∧ f = 9 then 16385 else if L = 26 then 8192 * (f + 3) + 1 else if L = 28 ∧ f = 8 then 49153 else L + 15 * (L % 8192) + f
def y_rl (k f : Nat) : Nat := match k with
  | 1 => match f with | 8 => 10 | 10 => 10 | _ => 0
  | 2 => match f with | 0 => 60 | 1 => 60 | 2 => 6 | 3 => 6 | 4 => 6 | 5 => 6 | 6 => 6 | _ => 0
  | 3 => match f with | 2 => 80 | 3 => 80 | 4 => 80 | 5 => 320 | _ => 0
  | 4 => match f with | 9 => 3 | _ => 0
  | 6 => match f with | 5 => 10 | 6 => 48 | 7 => 6 | _ => 0
  | 7 => match f with | 7 => 60 | _ => 0
  | 8 => match f with | 3 => 60 | 4 => 60 | 5 => 60 | 6 => 60 | 7 => 60 | _ => 0
  | 9 => match f with | 11 => 6 | _ => 0
  | _ => 0
/-- the objects and rows of a game: 0 game, 1 rules, 2 pile, 3 script, 4 dealt, 5 names, 6 nameLength, 7 held, 8 laid, 9 cards, 10 lying, 11 doubting, 12 shown, 13 untrue, 14 layer, 15 kindSaid, 16 size, 17 card, 18 action, 19 mate, 20 who, 21 comparison, 22 number, 23 wants, 24 rest -/
def y_gA (X : XW) (g id : Nat) : Nat := match id with
  | 0 => g
  | 1 => q_rf X g 0
  | 2 => q_rf X g 2
  | 3 => q_rf X g 3
  | 4 => q_rf X (q_rf X (q_rf X g 0) 5) 0
  | 5 => q_rf X (q_rf X (q_rf X g 0) 6) 0
  | 6 => q_rf X (q_rf X (q_rf X g 0) 7) 0
  | 7 => q_rf X (q_rf X (q_rf X g 1) 0) 0
  | 8 => q_rf X (q_rf X (q_rf X g 1) 1) 0
  | 9 => q_rf X (q_rf X (q_rf X g 1) 2) 0
  | 10 => q_rf X (q_rf X (q_rf X g 1) 3) 0
  | 11 => q_rf X (q_rf X (q_rf X g 1) 4) 0
  | 12 => q_rf X (q_rf X (q_rf X g 1) 5) 0
  | 13 => q_rf X (q_rf X (q_rf X g 1) 6) 0
  | 14 => q_rf X (q_rf X (q_rf X g 2) 2) 0
  | 15 => q_rf X (q_rf X (q_rf X g 2) 3) 0
  | 16 => q_rf X (q_rf X (q_rf X g 2) 4) 0
  | 17 => q_rf X (q_rf X (q_rf X g 2) 5) 0
  | 18 => q_rf X (q_rf X (q_rf X g 3) 3) 0
  | 19 => q_rf X (q_rf X (q_rf X g 3) 4) 0
  | 20 => q_rf X (q_rf X (q_rf X g 3) 5) 0
  | 21 => q_rf X (q_rf X (q_rf X g 3) 6) 0
  | 22 => q_rf X (q_rf X (q_rf X g 3) 7) 0
  | 23 => q_rf X (q_rf X g 8) 0
  | 24 => q_rf X (q_rf X g 10) 0
  | _ => q_rf X g 0
def y_co (id : Nat) : Nat := match id with | 0 => 1 | 1 => 16 | 2 => 18 | 3 => 19 | 4 => 4176 | 5 => 4192 | 6 => 4208 | 7 => 4352 | 8 => 4368 | 9 => 4384 | 10 => 4400 | 11 => 4416 | 12 => 4432 | 13 => 4448 | 14 => 4640 | 15 => 4656 | 16 => 4672 | 17 => 4688 | 18 => 4912 | 19 => 4928 | 20 => 4944 | 21 => 4960 | 22 => 4976 | 23 => 384 | 24 => 416 | _ => 0
def y_ki (id : Nat) : Nat := match id with | 0 => 1 | 1 => 6 | 2 => 3 | 3 => 8 | _ => 20
def y_gn (id : Nat) : Nat := match id with | 0 => 0 | 1 => 0 | 2 => 0 | 3 => 0 | 4 => 10 | 5 => 48 | 6 => 6 | 7 => 60 | 8 => 60 | 9 => 6 | 10 => 6 | 11 => 6 | 12 => 6 | 13 => 6 | 14 => 80 | 15 => 80 | 16 => 80 | 17 => 320 | 18 => 60 | 19 => 60 | 20 => 60 | 21 => 60 | 22 => 60 | 23 => 10 | 24 => 10 | _ => 0
def y_S (X : XW) (lb : Nat → Nat) : Prop := q_T X ∧ (∀ a f, q_rk (q_kd X a) f ≠ 0 → lb (q_rf X a f) = y_lc (lb a) f) ∧ ∀ a f, q_rk (q_kd X a) f = 5 → q_ln X (q_rf X (q_rf X a f) 0) = y_rl (q_kd X a) f
/-- g is the root of game o -/
def y_G (X : XW) (lb : Nat → Nat) (g o : Nat) : Prop := q_kd X g = 1 ∧ lb g = 8192 * o + 1 ∧ 1 ≤ o
theorem y_lcI {L o c f c' : Nat} (h : L = 8192 * o + c) (ho : 1 ≤ o) (hc : (decide (c < 8192) && (c + 15 * c + f == c')) = true) : y_lc L f = 8192 * o + c' := by
  have h1 : c < 8192 ∧ c + 15 * c + f = c' := by simpa using hc
  unfold y_lc
  rw [if_neg (by omega), if_neg (by omega), if_neg (by omega), if_neg (by omega)]
  omega
set_option maxHeartbeats 4000000 in
theorem y_gf {X : XW} {lb : Nat → Nat} {g o : Nat} (S : y_S X lb) (G : y_G X lb g o) : ∀ id, id < 25 → lb (y_gA X g id) = 8192 * o + y_co id ∧ q_kd X (y_gA X g id) = y_ki id ∧ (4 ≤ id → q_ln X (y_gA X g id) = y_gn id) := by
  obtain ⟨T, L, N⟩ := S
  obtain ⟨gk, gl, go⟩ := G
  have k_ : q_kd X g = 1 := gk
  have l_ : lb g = 8192 * o + 1 := gl
  have k_0 : q_kd X (q_rf X g 0) = 6 := (T.1 (g) 0 (by rw [k_]; decide)).trans (by rw [k_]; rfl)
  have l_0 : lb (q_rf X g 0) = 8192 * o + 16 := (L (g) 0 (by rw [k_]; decide)).trans (y_lcI l_ go (by decide))
  have k_1 : q_kd X (q_rf X g 1) = 2 := (T.1 (g) 1 (by rw [k_]; decide)).trans (by rw [k_]; rfl)
  have l_1 : lb (q_rf X g 1) = 8192 * o + 17 := (L (g) 1 (by rw [k_]; decide)).trans (y_lcI l_ go (by decide))
  have k_2 : q_kd X (q_rf X g 2) = 3 := (T.1 (g) 2 (by rw [k_]; decide)).trans (by rw [k_]; rfl)
  have l_2 : lb (q_rf X g 2) = 8192 * o + 18 := (L (g) 2 (by rw [k_]; decide)).trans (y_lcI l_ go (by decide))
  have k_3 : q_kd X (q_rf X g 3) = 8 := (T.1 (g) 3 (by rw [k_]; decide)).trans (by rw [k_]; rfl)
  have l_3 : lb (q_rf X g 3) = 8192 * o + 19 := (L (g) 3 (by rw [k_]; decide)).trans (y_lcI l_ go (by decide))
  have k_8 : q_kd X (q_rf X g 8) = 5 := (T.1 (g) 8 (by rw [k_]; decide)).trans (by rw [k_]; rfl)
  have l_8 : lb (q_rf X g 8) = 8192 * o + 24 := (L (g) 8 (by rw [k_]; decide)).trans (y_lcI l_ go (by decide))
  have k_10 : q_kd X (q_rf X g 10) = 5 := (T.1 (g) 10 (by rw [k_]; decide)).trans (by rw [k_]; rfl)
  have l_10 : lb (q_rf X g 10) = 8192 * o + 26 := (L (g) 10 (by rw [k_]; decide)).trans (y_lcI l_ go (by decide))
  have k_0_5 : q_kd X (q_rf X (q_rf X g 0) 5) = 5 := (T.1 (q_rf X g 0) 5 (by rw [k_0]; decide)).trans (by rw [k_0]; rfl)
  have l_0_5 : lb (q_rf X (q_rf X g 0) 5) = 8192 * o + 261 := (L (q_rf X g 0) 5 (by rw [k_0]; decide)).trans (y_lcI l_0 go (by decide))
  have k_0_6 : q_kd X (q_rf X (q_rf X g 0) 6) = 5 := (T.1 (q_rf X g 0) 6 (by rw [k_0]; decide)).trans (by rw [k_0]; rfl)
  have l_0_6 : lb (q_rf X (q_rf X g 0) 6) = 8192 * o + 262 := (L (q_rf X g 0) 6 (by rw [k_0]; decide)).trans (y_lcI l_0 go (by decide))
  have k_0_7 : q_kd X (q_rf X (q_rf X g 0) 7) = 5 := (T.1 (q_rf X g 0) 7 (by rw [k_0]; decide)).trans (by rw [k_0]; rfl)
  have l_0_7 : lb (q_rf X (q_rf X g 0) 7) = 8192 * o + 263 := (L (q_rf X g 0) 7 (by rw [k_0]; decide)).trans (y_lcI l_0 go (by decide))
  have k_1_0 : q_kd X (q_rf X (q_rf X g 1) 0) = 5 := (T.1 (q_rf X g 1) 0 (by rw [k_1]; decide)).trans (by rw [k_1]; rfl)
  have l_1_0 : lb (q_rf X (q_rf X g 1) 0) = 8192 * o + 272 := (L (q_rf X g 1) 0 (by rw [k_1]; decide)).trans (y_lcI l_1 go (by decide))
  have k_1_1 : q_kd X (q_rf X (q_rf X g 1) 1) = 5 := (T.1 (q_rf X g 1) 1 (by rw [k_1]; decide)).trans (by rw [k_1]; rfl)
  have l_1_1 : lb (q_rf X (q_rf X g 1) 1) = 8192 * o + 273 := (L (q_rf X g 1) 1 (by rw [k_1]; decide)).trans (y_lcI l_1 go (by decide))
  have k_1_2 : q_kd X (q_rf X (q_rf X g 1) 2) = 5 := (T.1 (q_rf X g 1) 2 (by rw [k_1]; decide)).trans (by rw [k_1]; rfl)
  have l_1_2 : lb (q_rf X (q_rf X g 1) 2) = 8192 * o + 274 := (L (q_rf X g 1) 2 (by rw [k_1]; decide)).trans (y_lcI l_1 go (by decide))
  have k_1_3 : q_kd X (q_rf X (q_rf X g 1) 3) = 5 := (T.1 (q_rf X g 1) 3 (by rw [k_1]; decide)).trans (by rw [k_1]; rfl)
  have l_1_3 : lb (q_rf X (q_rf X g 1) 3) = 8192 * o + 275 := (L (q_rf X g 1) 3 (by rw [k_1]; decide)).trans (y_lcI l_1 go (by decide))
  have k_1_4 : q_kd X (q_rf X (q_rf X g 1) 4) = 5 := (T.1 (q_rf X g 1) 4 (by rw [k_1]; decide)).trans (by rw [k_1]; rfl)
  have l_1_4 : lb (q_rf X (q_rf X g 1) 4) = 8192 * o + 276 := (L (q_rf X g 1) 4 (by rw [k_1]; decide)).trans (y_lcI l_1 go (by decide))
  have k_1_5 : q_kd X (q_rf X (q_rf X g 1) 5) = 5 := (T.1 (q_rf X g 1) 5 (by rw [k_1]; decide)).trans (by rw [k_1]; rfl)
  have l_1_5 : lb (q_rf X (q_rf X g 1) 5) = 8192 * o + 277 := (L (q_rf X g 1) 5 (by rw [k_1]; decide)).trans (y_lcI l_1 go (by decide))
  have k_1_6 : q_kd X (q_rf X (q_rf X g 1) 6) = 5 := (T.1 (q_rf X g 1) 6 (by rw [k_1]; decide)).trans (by rw [k_1]; rfl)
  have l_1_6 : lb (q_rf X (q_rf X g 1) 6) = 8192 * o + 278 := (L (q_rf X g 1) 6 (by rw [k_1]; decide)).trans (y_lcI l_1 go (by decide))
  have k_2_2 : q_kd X (q_rf X (q_rf X g 2) 2) = 5 := (T.1 (q_rf X g 2) 2 (by rw [k_2]; decide)).trans (by rw [k_2]; rfl)
  have l_2_2 : lb (q_rf X (q_rf X g 2) 2) = 8192 * o + 290 := (L (q_rf X g 2) 2 (by rw [k_2]; decide)).trans (y_lcI l_2 go (by decide))
  have k_2_3 : q_kd X (q_rf X (q_rf X g 2) 3) = 5 := (T.1 (q_rf X g 2) 3 (by rw [k_2]; decide)).trans (by rw [k_2]; rfl)
  have l_2_3 : lb (q_rf X (q_rf X g 2) 3) = 8192 * o + 291 := (L (q_rf X g 2) 3 (by rw [k_2]; decide)).trans (y_lcI l_2 go (by decide))
  have k_2_4 : q_kd X (q_rf X (q_rf X g 2) 4) = 5 := (T.1 (q_rf X g 2) 4 (by rw [k_2]; decide)).trans (by rw [k_2]; rfl)
  have l_2_4 : lb (q_rf X (q_rf X g 2) 4) = 8192 * o + 292 := (L (q_rf X g 2) 4 (by rw [k_2]; decide)).trans (y_lcI l_2 go (by decide))
  have k_2_5 : q_kd X (q_rf X (q_rf X g 2) 5) = 5 := (T.1 (q_rf X g 2) 5 (by rw [k_2]; decide)).trans (by rw [k_2]; rfl)
  have l_2_5 : lb (q_rf X (q_rf X g 2) 5) = 8192 * o + 293 := (L (q_rf X g 2) 5 (by rw [k_2]; decide)).trans (y_lcI l_2 go (by decide))
  have k_3_3 : q_kd X (q_rf X (q_rf X g 3) 3) = 5 := (T.1 (q_rf X g 3) 3 (by rw [k_3]; decide)).trans (by rw [k_3]; rfl)
  have l_3_3 : lb (q_rf X (q_rf X g 3) 3) = 8192 * o + 307 := (L (q_rf X g 3) 3 (by rw [k_3]; decide)).trans (y_lcI l_3 go (by decide))
  have k_3_4 : q_kd X (q_rf X (q_rf X g 3) 4) = 5 := (T.1 (q_rf X g 3) 4 (by rw [k_3]; decide)).trans (by rw [k_3]; rfl)
  have l_3_4 : lb (q_rf X (q_rf X g 3) 4) = 8192 * o + 308 := (L (q_rf X g 3) 4 (by rw [k_3]; decide)).trans (y_lcI l_3 go (by decide))
  have k_3_5 : q_kd X (q_rf X (q_rf X g 3) 5) = 5 := (T.1 (q_rf X g 3) 5 (by rw [k_3]; decide)).trans (by rw [k_3]; rfl)
  have l_3_5 : lb (q_rf X (q_rf X g 3) 5) = 8192 * o + 309 := (L (q_rf X g 3) 5 (by rw [k_3]; decide)).trans (y_lcI l_3 go (by decide))
  have k_3_6 : q_kd X (q_rf X (q_rf X g 3) 6) = 5 := (T.1 (q_rf X g 3) 6 (by rw [k_3]; decide)).trans (by rw [k_3]; rfl)
  have l_3_6 : lb (q_rf X (q_rf X g 3) 6) = 8192 * o + 310 := (L (q_rf X g 3) 6 (by rw [k_3]; decide)).trans (y_lcI l_3 go (by decide))
  have k_3_7 : q_kd X (q_rf X (q_rf X g 3) 7) = 5 := (T.1 (q_rf X g 3) 7 (by rw [k_3]; decide)).trans (by rw [k_3]; rfl)
  have l_3_7 : lb (q_rf X (q_rf X g 3) 7) = 8192 * o + 311 := (L (q_rf X g 3) 7 (by rw [k_3]; decide)).trans (y_lcI l_3 go (by decide))
  have k_8_0 : q_kd X (q_rf X (q_rf X g 8) 0) = 20 := (T.1 (q_rf X g 8) 0 (by rw [k_8]; decide)).trans (by rw [k_8]; rfl)
  have l_8_0 : lb (q_rf X (q_rf X g 8) 0) = 8192 * o + 384 := (L (q_rf X g 8) 0 (by rw [k_8]; decide)).trans (y_lcI l_8 go (by decide))
  have k_10_0 : q_kd X (q_rf X (q_rf X g 10) 0) = 20 := (T.1 (q_rf X g 10) 0 (by rw [k_10]; decide)).trans (by rw [k_10]; rfl)
  have l_10_0 : lb (q_rf X (q_rf X g 10) 0) = 8192 * o + 416 := (L (q_rf X g 10) 0 (by rw [k_10]; decide)).trans (y_lcI l_10 go (by decide))
  have k_0_5_0 : q_kd X (q_rf X (q_rf X (q_rf X g 0) 5) 0) = 20 := (T.1 (q_rf X (q_rf X g 0) 5) 0 (by rw [k_0_5]; decide)).trans (by rw [k_0_5]; rfl)
  have l_0_5_0 : lb (q_rf X (q_rf X (q_rf X g 0) 5) 0) = 8192 * o + 4176 := (L (q_rf X (q_rf X g 0) 5) 0 (by rw [k_0_5]; decide)).trans (y_lcI l_0_5 go (by decide))
  have k_0_6_0 : q_kd X (q_rf X (q_rf X (q_rf X g 0) 6) 0) = 20 := (T.1 (q_rf X (q_rf X g 0) 6) 0 (by rw [k_0_6]; decide)).trans (by rw [k_0_6]; rfl)
  have l_0_6_0 : lb (q_rf X (q_rf X (q_rf X g 0) 6) 0) = 8192 * o + 4192 := (L (q_rf X (q_rf X g 0) 6) 0 (by rw [k_0_6]; decide)).trans (y_lcI l_0_6 go (by decide))
  have k_0_7_0 : q_kd X (q_rf X (q_rf X (q_rf X g 0) 7) 0) = 20 := (T.1 (q_rf X (q_rf X g 0) 7) 0 (by rw [k_0_7]; decide)).trans (by rw [k_0_7]; rfl)
  have l_0_7_0 : lb (q_rf X (q_rf X (q_rf X g 0) 7) 0) = 8192 * o + 4208 := (L (q_rf X (q_rf X g 0) 7) 0 (by rw [k_0_7]; decide)).trans (y_lcI l_0_7 go (by decide))
  have k_1_0_0 : q_kd X (q_rf X (q_rf X (q_rf X g 1) 0) 0) = 20 := (T.1 (q_rf X (q_rf X g 1) 0) 0 (by rw [k_1_0]; decide)).trans (by rw [k_1_0]; rfl)
  have l_1_0_0 : lb (q_rf X (q_rf X (q_rf X g 1) 0) 0) = 8192 * o + 4352 := (L (q_rf X (q_rf X g 1) 0) 0 (by rw [k_1_0]; decide)).trans (y_lcI l_1_0 go (by decide))
  have k_1_1_0 : q_kd X (q_rf X (q_rf X (q_rf X g 1) 1) 0) = 20 := (T.1 (q_rf X (q_rf X g 1) 1) 0 (by rw [k_1_1]; decide)).trans (by rw [k_1_1]; rfl)
  have l_1_1_0 : lb (q_rf X (q_rf X (q_rf X g 1) 1) 0) = 8192 * o + 4368 := (L (q_rf X (q_rf X g 1) 1) 0 (by rw [k_1_1]; decide)).trans (y_lcI l_1_1 go (by decide))
  have k_1_2_0 : q_kd X (q_rf X (q_rf X (q_rf X g 1) 2) 0) = 20 := (T.1 (q_rf X (q_rf X g 1) 2) 0 (by rw [k_1_2]; decide)).trans (by rw [k_1_2]; rfl)
  have l_1_2_0 : lb (q_rf X (q_rf X (q_rf X g 1) 2) 0) = 8192 * o + 4384 := (L (q_rf X (q_rf X g 1) 2) 0 (by rw [k_1_2]; decide)).trans (y_lcI l_1_2 go (by decide))
  have k_1_3_0 : q_kd X (q_rf X (q_rf X (q_rf X g 1) 3) 0) = 20 := (T.1 (q_rf X (q_rf X g 1) 3) 0 (by rw [k_1_3]; decide)).trans (by rw [k_1_3]; rfl)
  have l_1_3_0 : lb (q_rf X (q_rf X (q_rf X g 1) 3) 0) = 8192 * o + 4400 := (L (q_rf X (q_rf X g 1) 3) 0 (by rw [k_1_3]; decide)).trans (y_lcI l_1_3 go (by decide))
  have k_1_4_0 : q_kd X (q_rf X (q_rf X (q_rf X g 1) 4) 0) = 20 := (T.1 (q_rf X (q_rf X g 1) 4) 0 (by rw [k_1_4]; decide)).trans (by rw [k_1_4]; rfl)
  have l_1_4_0 : lb (q_rf X (q_rf X (q_rf X g 1) 4) 0) = 8192 * o + 4416 := (L (q_rf X (q_rf X g 1) 4) 0 (by rw [k_1_4]; decide)).trans (y_lcI l_1_4 go (by decide))
  have k_1_5_0 : q_kd X (q_rf X (q_rf X (q_rf X g 1) 5) 0) = 20 := (T.1 (q_rf X (q_rf X g 1) 5) 0 (by rw [k_1_5]; decide)).trans (by rw [k_1_5]; rfl)
  have l_1_5_0 : lb (q_rf X (q_rf X (q_rf X g 1) 5) 0) = 8192 * o + 4432 := (L (q_rf X (q_rf X g 1) 5) 0 (by rw [k_1_5]; decide)).trans (y_lcI l_1_5 go (by decide))
  have k_1_6_0 : q_kd X (q_rf X (q_rf X (q_rf X g 1) 6) 0) = 20 := (T.1 (q_rf X (q_rf X g 1) 6) 0 (by rw [k_1_6]; decide)).trans (by rw [k_1_6]; rfl)
  have l_1_6_0 : lb (q_rf X (q_rf X (q_rf X g 1) 6) 0) = 8192 * o + 4448 := (L (q_rf X (q_rf X g 1) 6) 0 (by rw [k_1_6]; decide)).trans (y_lcI l_1_6 go (by decide))
  have k_2_2_0 : q_kd X (q_rf X (q_rf X (q_rf X g 2) 2) 0) = 20 := (T.1 (q_rf X (q_rf X g 2) 2) 0 (by rw [k_2_2]; decide)).trans (by rw [k_2_2]; rfl)
  have l_2_2_0 : lb (q_rf X (q_rf X (q_rf X g 2) 2) 0) = 8192 * o + 4640 := (L (q_rf X (q_rf X g 2) 2) 0 (by rw [k_2_2]; decide)).trans (y_lcI l_2_2 go (by decide))
  have k_2_3_0 : q_kd X (q_rf X (q_rf X (q_rf X g 2) 3) 0) = 20 := (T.1 (q_rf X (q_rf X g 2) 3) 0 (by rw [k_2_3]; decide)).trans (by rw [k_2_3]; rfl)
  have l_2_3_0 : lb (q_rf X (q_rf X (q_rf X g 2) 3) 0) = 8192 * o + 4656 := (L (q_rf X (q_rf X g 2) 3) 0 (by rw [k_2_3]; decide)).trans (y_lcI l_2_3 go (by decide))
  have k_2_4_0 : q_kd X (q_rf X (q_rf X (q_rf X g 2) 4) 0) = 20 := (T.1 (q_rf X (q_rf X g 2) 4) 0 (by rw [k_2_4]; decide)).trans (by rw [k_2_4]; rfl)
  have l_2_4_0 : lb (q_rf X (q_rf X (q_rf X g 2) 4) 0) = 8192 * o + 4672 := (L (q_rf X (q_rf X g 2) 4) 0 (by rw [k_2_4]; decide)).trans (y_lcI l_2_4 go (by decide))
  have k_2_5_0 : q_kd X (q_rf X (q_rf X (q_rf X g 2) 5) 0) = 20 := (T.1 (q_rf X (q_rf X g 2) 5) 0 (by rw [k_2_5]; decide)).trans (by rw [k_2_5]; rfl)
  have l_2_5_0 : lb (q_rf X (q_rf X (q_rf X g 2) 5) 0) = 8192 * o + 4688 := (L (q_rf X (q_rf X g 2) 5) 0 (by rw [k_2_5]; decide)).trans (y_lcI l_2_5 go (by decide))
  have k_3_3_0 : q_kd X (q_rf X (q_rf X (q_rf X g 3) 3) 0) = 20 := (T.1 (q_rf X (q_rf X g 3) 3) 0 (by rw [k_3_3]; decide)).trans (by rw [k_3_3]; rfl)
  have l_3_3_0 : lb (q_rf X (q_rf X (q_rf X g 3) 3) 0) = 8192 * o + 4912 := (L (q_rf X (q_rf X g 3) 3) 0 (by rw [k_3_3]; decide)).trans (y_lcI l_3_3 go (by decide))
  have k_3_4_0 : q_kd X (q_rf X (q_rf X (q_rf X g 3) 4) 0) = 20 := (T.1 (q_rf X (q_rf X g 3) 4) 0 (by rw [k_3_4]; decide)).trans (by rw [k_3_4]; rfl)
  have l_3_4_0 : lb (q_rf X (q_rf X (q_rf X g 3) 4) 0) = 8192 * o + 4928 := (L (q_rf X (q_rf X g 3) 4) 0 (by rw [k_3_4]; decide)).trans (y_lcI l_3_4 go (by decide))
  have k_3_5_0 : q_kd X (q_rf X (q_rf X (q_rf X g 3) 5) 0) = 20 := (T.1 (q_rf X (q_rf X g 3) 5) 0 (by rw [k_3_5]; decide)).trans (by rw [k_3_5]; rfl)
  have l_3_5_0 : lb (q_rf X (q_rf X (q_rf X g 3) 5) 0) = 8192 * o + 4944 := (L (q_rf X (q_rf X g 3) 5) 0 (by rw [k_3_5]; decide)).trans (y_lcI l_3_5 go (by decide))
  have k_3_6_0 : q_kd X (q_rf X (q_rf X (q_rf X g 3) 6) 0) = 20 := (T.1 (q_rf X (q_rf X g 3) 6) 0 (by rw [k_3_6]; decide)).trans (by rw [k_3_6]; rfl)
  have l_3_6_0 : lb (q_rf X (q_rf X (q_rf X g 3) 6) 0) = 8192 * o + 4960 := (L (q_rf X (q_rf X g 3) 6) 0 (by rw [k_3_6]; decide)).trans (y_lcI l_3_6 go (by decide))
  have k_3_7_0 : q_kd X (q_rf X (q_rf X (q_rf X g 3) 7) 0) = 20 := (T.1 (q_rf X (q_rf X g 3) 7) 0 (by rw [k_3_7]; decide)).trans (by rw [k_3_7]; rfl)
  have l_3_7_0 : lb (q_rf X (q_rf X (q_rf X g 3) 7) 0) = 8192 * o + 4976 := (L (q_rf X (q_rf X g 3) 7) 0 (by rw [k_3_7]; decide)).trans (y_lcI l_3_7 go (by decide))
  exact fun id h => match id, h with
    | 0, _ => ⟨l_, k_, fun h => absurd h (by decide)⟩
    | 1, _ => ⟨l_0, k_0, fun h => absurd h (by decide)⟩
    | 2, _ => ⟨l_2, k_2, fun h => absurd h (by decide)⟩
    | 3, _ => ⟨l_3, k_3, fun h => absurd h (by decide)⟩
    | 4, _ => ⟨l_0_5_0, k_0_5_0, fun _ => (N (q_rf X g 0) 5 (by rw [k_0]; decide)).trans (by rw [k_0]; rfl)⟩
    | 5, _ => ⟨l_0_6_0, k_0_6_0, fun _ => (N (q_rf X g 0) 6 (by rw [k_0]; decide)).trans (by rw [k_0]; rfl)⟩
    | 6, _ => ⟨l_0_7_0, k_0_7_0, fun _ => (N (q_rf X g 0) 7 (by rw [k_0]; decide)).trans (by rw [k_0]; rfl)⟩
    | 7, _ => ⟨l_1_0_0, k_1_0_0, fun _ => (N (q_rf X g 1) 0 (by rw [k_1]; decide)).trans (by rw [k_1]; rfl)⟩
    | 8, _ => ⟨l_1_1_0, k_1_1_0, fun _ => (N (q_rf X g 1) 1 (by rw [k_1]; decide)).trans (by rw [k_1]; rfl)⟩
    | 9, _ => ⟨l_1_2_0, k_1_2_0, fun _ => (N (q_rf X g 1) 2 (by rw [k_1]; decide)).trans (by rw [k_1]; rfl)⟩
    | 10, _ => ⟨l_1_3_0, k_1_3_0, fun _ => (N (q_rf X g 1) 3 (by rw [k_1]; decide)).trans (by rw [k_1]; rfl)⟩
    | 11, _ => ⟨l_1_4_0, k_1_4_0, fun _ => (N (q_rf X g 1) 4 (by rw [k_1]; decide)).trans (by rw [k_1]; rfl)⟩
    | 12, _ => ⟨l_1_5_0, k_1_5_0, fun _ => (N (q_rf X g 1) 5 (by rw [k_1]; decide)).trans (by rw [k_1]; rfl)⟩
    | 13, _ => ⟨l_1_6_0, k_1_6_0, fun _ => (N (q_rf X g 1) 6 (by rw [k_1]; decide)).trans (by rw [k_1]; rfl)⟩
    | 14, _ => ⟨l_2_2_0, k_2_2_0, fun _ => (N (q_rf X g 2) 2 (by rw [k_2]; decide)).trans (by rw [k_2]; rfl)⟩
    | 15, _ => ⟨l_2_3_0, k_2_3_0, fun _ => (N (q_rf X g 2) 3 (by rw [k_2]; decide)).trans (by rw [k_2]; rfl)⟩
    | 16, _ => ⟨l_2_4_0, k_2_4_0, fun _ => (N (q_rf X g 2) 4 (by rw [k_2]; decide)).trans (by rw [k_2]; rfl)⟩
    | 17, _ => ⟨l_2_5_0, k_2_5_0, fun _ => (N (q_rf X g 2) 5 (by rw [k_2]; decide)).trans (by rw [k_2]; rfl)⟩
    | 18, _ => ⟨l_3_3_0, k_3_3_0, fun _ => (N (q_rf X g 3) 3 (by rw [k_3]; decide)).trans (by rw [k_3]; rfl)⟩
    | 19, _ => ⟨l_3_4_0, k_3_4_0, fun _ => (N (q_rf X g 3) 4 (by rw [k_3]; decide)).trans (by rw [k_3]; rfl)⟩
    | 20, _ => ⟨l_3_5_0, k_3_5_0, fun _ => (N (q_rf X g 3) 5 (by rw [k_3]; decide)).trans (by rw [k_3]; rfl)⟩
    | 21, _ => ⟨l_3_6_0, k_3_6_0, fun _ => (N (q_rf X g 3) 6 (by rw [k_3]; decide)).trans (by rw [k_3]; rfl)⟩
    | 22, _ => ⟨l_3_7_0, k_3_7_0, fun _ => (N (q_rf X g 3) 7 (by rw [k_3]; decide)).trans (by rw [k_3]; rfl)⟩
    | 23, _ => ⟨l_8_0, k_8_0, fun _ => (N (g) 8 (by rw [k_]; decide)).trans (by rw [k_]; rfl)⟩
    | 24, _ => ⟨l_10_0, k_10_0, fun _ => (N (g) 10 (by rw [k_]; decide)).trans (by rw [k_]; rfl)⟩
    | (n + 25), h => absurd h (by omega)
end
/-! FROM 48c.rows.lean.txt -/
section
/-! a game's view: what its cells hold, place by place -/
def y_v (X : XW) (g : Nat) (σ : ST) : Nat → Int → Int := fun id i => if id < 25 ∧ 0 ≤ i then (σ.1 (y_gA X g id) i.toNat).toInt else 0
def y_up (V : Nat → Int → Int) (id : Nat) (i v : Int) : Nat → Int → Int := fun id' i' => if id' = id ∧ i' = i then v else V id' i'
def y_bl (V : Nat → Int → Int) (id : Nat) (n : Int) (f : Int → Int) : Nat → Int → Int := fun id' i' => if id' = id ∧ 0 ≤ i' ∧ i' < n then f i' else V id' i'
/-- from σ to τ nothing but the game's view has changed, to V -/
def y_W (X : XW) (lb : Nat → Nat) (g o : Nat) (σ τ : ST) (V : Nat → Int → Int) : Prop := (∀ b, lb b / 8192 ≠ o → ∀ f, τ.1 b f = σ.1 b f) ∧ τ.2 = σ.2 ∧ y_v X g τ = V
theorem y_co_inj : ∀ i, i < 25 → ∀ j, j < 25 → y_co i = y_co j → i = j := by decide
theorem y_co_lt : ∀ i, i < 25 → y_co i < 8192 := by decide
section Y
variable {X : XW} {lb : Nat → Nat} {g o : Nat} {σ τ : ST} {V : Nat → Int → Int}
theorem y_own (S : y_S X lb) (G : y_G X lb g o) {id : Nat} (h : id < 25) : lb (y_gA X g id) / 8192 = o := by
  have h1 := (y_gf S G id h).1
  have h2 := y_co_lt id h
  omega
theorem y_gA_inj (S : y_S X lb) (G : y_G X lb g o) {i j : Nat} (hi : i < 25) (hj : j < 25) (h : y_gA X g i = y_gA X g j) : i = j := by
  have h1 := (y_gf S G i hi).1
  have h2 := (y_gf S G j hj).1
  rw [h] at h1
  exact y_co_inj i hi j hj (by omega)
theorem y_gA_ne (S : y_S X lb) (G : y_G X lb g o) {id : Nat} (h : id < 25) {b : Nat} (hb : lb b / 8192 ≠ o) : b ≠ y_gA X g id := by
  rintro rfl
  exact hb (y_own S G h)
theorem y_len (S : y_S X lb) (a : Nat) : (q_len X a).toInt = (q_ln X a : Int) := by
  have h := S.1.2.2.1 a
  exact nI_toInt (by omega)
theorem y_ln (S : y_S X lb) (G : y_G X lb g o) {id : Nat} (h : 4 ≤ id ∧ id < 25) : q_ln X (y_gA X g id) = y_gn id := (y_gf S G id h.2).2.2 h.1
theorem y_v_rd {id : Nat} (h : id < 25) (x : Int32) (h0 : 0 ≤ x.toInt) : (σ.1 (y_gA X g id) x.toNatClampNeg).toInt = y_v X g σ id x.toInt := by
  unfold y_v
  rw [if_pos ⟨h, h0⟩]
  rfl
theorem y_v_rdn {id : Nat} (h : id < 25) (f : Nat) : (σ.1 (y_gA X g id) f).toInt = y_v X g σ id (f : Int) := by
  unfold y_v
  rw [if_pos ⟨h, Int.natCast_nonneg f⟩, Int.toNat_natCast]
theorem y_W.rf : y_W X lb g o σ σ (y_v X g σ) := ⟨fun _ _ _ => rfl, rfl, rfl⟩
theorem y_W.eq {V' : Nat → Int → Int} (w : y_W X lb g o σ τ V) (h : V = V') : y_W X lb g o σ τ V' := by
  subst h
  exact w
theorem y_W.tr {τ' : ST} {V' : Nat → Int → Int} (w : y_W X lb g o σ τ V) (w' : y_W X lb g o τ τ' V') : y_W X lb g o σ τ' V' := ⟨fun b hb f => (w'.1 b hb f).trans (w.1 b hb f), w'.2.1.trans w.2.1, w'.2.2⟩
theorem y_W.si (S : y_S X lb) (G : y_G X lb g o) (w : y_W X lb g o σ τ V) {id : Nat} (h : id < 25) (f : Nat) (v : Int32) : y_W X lb g o σ (q_si τ (y_gA X g id) f v) (y_up V id (f : Int) v.toInt) := by
  obtain ⟨w1, w2, w3⟩ := w
  refine ⟨fun b hb k => ?_, w2, ?_⟩
  · show (if b = y_gA X g id ∧ k = f then v else τ.1 b k) = _
    rw [if_neg (fun q => y_gA_ne S G h hb q.1)]
    exact w1 b hb k
  · subst w3
    funext j i
    show (if j < 25 ∧ 0 ≤ i then (if y_gA X g j = y_gA X g id ∧ i.toNat = f then v else τ.1 (y_gA X g j) i.toNat).toInt else 0) = if j = id ∧ i = (f : Int) then v.toInt else (if j < 25 ∧ 0 ≤ i then (τ.1 (y_gA X g j) i.toNat).toInt else 0)
    by_cases hj : j < 25 ∧ 0 ≤ i
    · rw [if_pos hj, if_pos hj]
      by_cases hq : j = id ∧ i = (f : Int)
      · obtain ⟨rfl, rfl⟩ := hq
        rw [if_pos ⟨rfl, Int.toNat_natCast f⟩, if_pos ⟨rfl, rfl⟩]
      · rw [if_neg hq, if_neg]
        rintro ⟨e1, e2⟩
        exact hq ⟨y_gA_inj S G hj.1 h e1, by omega⟩
    · rw [if_neg hj, if_neg hj]
      by_cases hq : j = id ∧ i = (f : Int)
      · obtain ⟨rfl, rfl⟩ := hq
        exact absurd ⟨h, Int.natCast_nonneg f⟩ hj
      · rw [if_neg hq]
theorem y_W.sx (S : y_S X lb) (G : y_G X lb g o) (w : y_W X lb g o σ τ V) {id : Nat} (h : id < 25) (x v : Int32) (h0 : 0 ≤ x.toInt) : y_W X lb g o σ (q_si τ (y_gA X g id) x.toNatClampNeg v) (y_up V id x.toInt v.toInt) := by
  have e : ((x.toNatClampNeg : Nat) : Int) = x.toInt := by rw [ar_cl]; omega
  have := w.si S G h x.toNatClampNeg v
  rw [e] at this
  exact this
/-- rows -/
theorem y_get (S : y_S X lb) (G : y_G X lb g o) (w : y_W X lb g o σ τ V) {id r : Nat} (h : 4 ≤ id ∧ id < 25) (hr : q_rf X r 0 = y_gA X g id) (x : Int32) : (F_X5_get X τ r x).toInt = if 0 ≤ x.toInt ∧ x.toInt < (y_gn id : Int) then V id x.toInt else 0 := by
  simp only [F_X5_get, ↓q_letE]
  rw [y_len S, hr, y_ln S G h]
  by_cases h0 : x.toInt < 0
  · rw [if_pos h0, if_neg (by omega)]
    rfl
  · rw [if_neg h0]
    by_cases h1 : x.toInt < (y_gn id : Int)
    · rw [if_pos h1, if_pos ⟨by omega, h1⟩, y_v_rd h.2 x (by omega), w.2.2]
    · rw [if_neg h1, if_neg (by omega)]
      rfl
theorem y_getI (S : y_S X lb) (G : y_G X lb g o) (w : y_W X lb g o σ τ V) {id r : Nat} (h : 4 ≤ id ∧ id < 25) (hr : q_rf X r 0 = y_gA X g id) {x : Int32} {i : Int} (hx : x.toInt = i) (h0 : 0 ≤ i) (h1 : i < (y_gn id : Int)) : (F_X5_get X τ r x).toInt = V id i := by
  subst hx
  rw [y_get S G w h hr, if_pos ⟨h0, h1⟩]
theorem y_W.set (S : y_S X lb) (G : y_G X lb g o) (w : y_W X lb g o σ τ V) {id r : Nat} (h : 4 ≤ id ∧ id < 25) (hr : q_rf X r 0 = y_gA X g id) (x v : Int32) (h0 : 0 ≤ x.toInt) (h1 : x.toInt < (y_gn id : Int)) : y_W X lb g o σ (F_X5_set X τ r x v) (y_up V id x.toInt v.toInt) := by
  simp only [F_X5_set, ↓q_letE]
  rw [y_len S, hr, y_ln S G h, if_neg (by omega), if_pos h1]
  exact w.sx S G h.2 x v h0
theorem y_W.add (S : y_S X lb) (G : y_G X lb g o) (w : y_W X lb g o σ τ V) {id r : Nat} (h : 4 ≤ id ∧ id < 25) (hr : q_rf X r 0 = y_gA X g id) (x v : Int32) (h0 : 0 ≤ x.toInt) (h1 : x.toInt < (y_gn id : Int)) : y_W X lb g o σ (F_X5_add X τ r x v) (y_up V id x.toInt (ar_w (V id x.toInt + v.toInt))) := by
  simp only [F_X5_add, ↓q_letE]
  rw [y_len S, hr, y_ln S G h, if_neg (by omega), if_pos h1]
  have e := w.sx S G h.2 x (τ.1 (y_gA X g id) x.toNatClampNeg + v) h0
  rw [ar_add, y_v_rd h.2 x h0, w.2.2] at e
  exact e
theorem y_bl0 {id : Nat} {f : Int → Int} : y_bl V id 0 f = V := by
  funext j i
  show (if j = id ∧ 0 ≤ i ∧ i < 0 then f i else V j i) = V j i
  rw [if_neg (by omega)]
theorem y_bl_s {id : Nat} {f : Int → Int} {n : Int} (h : 0 ≤ n) : y_up (y_bl V id n f) id n (f n) = y_bl V id (n + 1) f := by
  funext j i
  show (if j = id ∧ i = n then f n else if j = id ∧ 0 ≤ i ∧ i < n then f i else V j i) = if j = id ∧ 0 ≤ i ∧ i < n + 1 then f i else V j i
  by_cases q : j = id ∧ i = n
  · obtain ⟨rfl, rfl⟩ := q
    rw [if_pos ⟨rfl, rfl⟩, if_pos ⟨rfl, h, by omega⟩]
  · rw [if_neg q]
    by_cases q2 : j = id ∧ 0 ≤ i ∧ i < n
    · rw [if_pos q2, if_pos ⟨q2.1, q2.2.1, by omega⟩]
    · rw [if_neg q2, if_neg]
      rintro ⟨e1, e2, e3⟩
      exact q2 ⟨e1, e2, by have : i ≠ n := fun e => q ⟨e1, e⟩; omega⟩
theorem y_inc {x : Int32} (h : x.toInt < 2147483647) : (x + 1).toInt = x.toInt + 1 := q_inc rfl h
theorem y_clearL (S : y_S X lb) (G : y_G X lb g o) {id r : Nat} (h : 4 ≤ id ∧ id < 25) (hr : q_rf X r 0 = y_gA X g id) (k : Nat) : ∀ (x : Int32) (τ : ST), (2147483647 - x.toInt).toNat < k → 0 ≤ x.toInt → x.toInt ≤ (y_gn id : Int) → y_W X lb g o σ τ (y_bl V id x.toInt (fun _ => 0)) → y_W X lb g o σ (F_X5_clear_L2_1 X r k x τ) (y_bl V id (y_gn id : Int) (fun _ => 0)) := by
  induction k with
  | zero => intro x τ hm; exact absurd hm (Nat.not_lt_zero _)
  | succ k ih =>
    intro x τ hm h0 h1 w
    have hb := ar_bd x
    rw [F_X5_clear_L2_1_s]
    simp only [F_X5_clear_B2_1, ↓q_letE]
    rw [y_len S, hr, y_ln S G h]
    by_cases q : x.toInt < (y_gn id : Int)
    · rw [if_pos q]
      have hl : y_gn id ≤ 1000 := by
        have := S.1.2.2.1 (y_gA X g id)
        have z : ∀ i, i < 25 → y_gn i ≤ 1000 := by decide
        exact z id h.2
      have e : (x + 1).toInt = x.toInt + 1 := y_inc (by omega)
      refine ih (x + 1) _ (by omega) (by omega) (by omega) ?_
      rw [e]
      exact (w.sx S G h.2 x 0 h0).eq (y_bl_s h0)
    · rw [if_neg q]
      have e : x.toInt = (y_gn id : Int) := by omega
      rw [e] at w
      exact w
theorem y_W.clear (S : y_S X lb) (G : y_G X lb g o) (w : y_W X lb g o σ τ V) {id r : Nat} (h : 4 ≤ id ∧ id < 25) (hr : q_rf X r 0 = y_gA X g id) : y_W X lb g o σ (F_X5_clear X τ r) (y_bl V id (y_gn id : Int) (fun _ => 0)) := by
  unfold F_X5_clear
  refine y_clearL S G h hr _ 0 τ (by decide) (by decide) (Int.natCast_nonneg _) ?_
  exact w.eq y_bl0.symm
theorem y_copyL (S : y_S X lb) (G : y_G X lb g o) {id r r' : Nat} (h : 4 ≤ id ∧ id < 25) (hr : q_rf X r 0 = y_gA X g id) (hn : q_ln X (q_rf X r' 0) = y_gn id) (hb : q_rf X r' 0 ≠ y_gA X g id) (ρ : Nat → Int32) (k : Nat) : ∀ (x : Int32) (τ : ST), (2147483647 - x.toInt).toNat < k → 0 ≤ x.toInt → x.toInt ≤ (y_gn id : Int) → (∀ f, τ.1 (q_rf X r' 0) f = ρ f) → y_W X lb g o σ τ (y_bl V id x.toInt (fun i => (ρ i.toNat).toInt)) → y_W X lb g o σ (F_X5_copyFrom_L2_1 X r r' k x τ) (y_bl V id (y_gn id : Int) (fun i => (ρ i.toNat).toInt)) := by
  induction k with
  | zero => intro x τ hm; exact absurd hm (Nat.not_lt_zero _)
  | succ k ih =>
    intro x τ hm h0 h1 hρ w
    have hbd := ar_bd x
    rw [F_X5_copyFrom_L2_1_s]
    simp only [F_X5_copyFrom_B2_1, ↓q_letE]
    rw [y_len S, y_len S, hn, hr, y_ln S G h]
    by_cases q : x.toInt < (y_gn id : Int)
    · rw [if_pos q, if_pos q]
      have hl : y_gn id ≤ 1000 := by
        have z : ∀ i, i < 25 → y_gn i ≤ 1000 := by decide
        exact z id h.2
      have e : (x + 1).toInt = x.toInt + 1 := y_inc (by omega)
      refine ih (x + 1) _ (by omega) (by omega) (by omega) (fun f => ?_) ?_
      · rw [q_si_ne hb]
        exact hρ f
      · rw [e]
        have w2 := w.sx S G h.2 x (τ.1 (q_rf X r' 0) x.toNatClampNeg) h0
        rw [hρ] at w2 ⊢
        exact w2.eq (y_bl_s (f := fun i => (ρ i.toNat).toInt) h0)
    · rw [if_neg q]
      have e : x.toInt = (y_gn id : Int) := by omega
      rw [e] at w
      exact w
theorem y_W.copy (S : y_S X lb) (G : y_G X lb g o) (w : y_W X lb g o σ τ V) {id r r' : Nat} (h : 4 ≤ id ∧ id < 25) (hr : q_rf X r 0 = y_gA X g id) (hn : q_ln X (q_rf X r' 0) = y_gn id) (hb : q_rf X r' 0 ≠ y_gA X g id) : y_W X lb g o σ (F_X5_copyFrom X τ r r') (y_bl V id (y_gn id : Int) (fun i => (τ.1 (q_rf X r' 0) i.toNat).toInt)) := by
  unfold F_X5_copyFrom
  refine y_copyL S G h hr hn hb (fun f => τ.1 (q_rf X r' 0) f) _ 0 τ (by decide) (by decide) (Int.natCast_nonneg _) (fun _ => rfl) ?_
  exact w.eq y_bl0.symm
end Y
end
/-! FROM 48d.text.lean.txt -/
section
/-! TEXTS: tokens of a row of bytes B, the first n of them -/
def tx_D (B : Int → Int) (n p : Int) : Int := if 0 ≤ p ∧ p < n then B p else 0
def tx_run (P : Int → Prop) (n b e : Int) : Prop := b ≤ e ∧ (∀ j, b ≤ j → j < e → j < n ∧ P j) ∧ ¬ (e < n ∧ P e)
def tx_nv (B : Int → Int) (b : Int) : Nat → Int
  | 0 => 0
  | k + 1 => tx_nv B b k * 10 + B (b + (k : Int)) - 48
/-- a word's number, 5 bits a letter -/
def tx_wv (B : Int → Int) (b : Int) : Nat → Int
  | 0 => 0
  | k + 1 => tx_wv B b k * 32 + B (b + (k : Int)) - 96
def tx_bl (x : Int) : Prop := x = 10 ∨ x = 32
def tx_le (x : Int) : Prop := 97 ≤ x ∧ x ≤ 122
def tx_di (x : Int) : Prop := 48 ≤ x ∧ x ≤ 57
def tx_sg (x : Int) : Prop := x = 59 ∨ x = 60 ∨ x = 62 ∨ x = 61
/-- the token that begins at b -/
def tx_cls (B : Int → Int) (n b e ty val : Int) : Prop :=
  (n ≤ b ∧ ty = 0 ∧ e = b) ∨
   (b < n ∧ tx_le (B b) ∧ ty = 1 ∧ tx_run (fun j => tx_le (B j)) n b e) ∨
   (b < n ∧ tx_di (B b) ∧ tx_run (fun j => tx_di (B j)) n b e ∧ (4 < e - b ∧ ty = 4 ∨ e - b ≤ 4 ∧ ty = 2 ∧ val = tx_nv B b (e - b).toNat)) ∨
   (b < n ∧ ¬ tx_le (B b) ∧ ¬ tx_di (B b) ∧ e = b + 1 ∧ (tx_sg (B b) ∧ ty = 3 ∨ ¬ tx_sg (B b) ∧ ty = 4))
/-- the token behind place p -/
def tx_tok (B : Int → Int) (n p b e ty val : Int) : Prop := tx_run (fun j => tx_bl (B j)) n p b ∧ tx_cls B n b e ty val
theorem tx_run_u {P : Int → Prop} {n b e e' : Int} (h : tx_run P n b e) (h' : tx_run P n b e') : e = e' := by
  obtain ⟨h1, h2, h3⟩ := h
  obtain ⟨k1, k2, k3⟩ := h'
  rcases Int.lt_trichotomy e e' with q | q | q
  · exact absurd (k2 e h1 q) h3
  · exact q
  · exact absurd (h2 e' k1 q) k3
theorem tx_run_ne {P : Int → Prop} {n b e : Int} (h : tx_run P n b e) (hb : b < n ∧ P b) : b < e := by
  obtain ⟨h1, h2, h3⟩ := h
  rcases Int.lt_or_le b e with q | q
  · exact q
  · have : b = e := by omega
    subst this
    exact absurd hb h3
theorem tx_run_le {P : Int → Prop} {n b e : Int} (h : tx_run P n b e) (hb : b ≤ n) : e ≤ n := by
  rcases Int.lt_or_le n e with q | q
  · have := (h.2.1 n hb q).1
    omega
  · exact q
theorem tx_tok_b {B : Int → Int} {n p b e ty val : Int} (h : tx_tok B n p b e ty val) (hp : 0 ≤ p ∧ p ≤ n) : p ≤ b ∧ b ≤ n ∧ b ≤ e ∧ e ≤ n ∧ 0 ≤ ty ∧ ty ≤ 4 ∧ (ty ≠ 0 → b < e) ∧ (ty = 0 ↔ b = n) := by
  obtain ⟨h1, h2⟩ := h
  have a1 := h1.1
  have a2 := tx_run_le h1 hp.2
  rcases h2 with ⟨q1, q2, q3⟩ | ⟨q1, q2, q3, q4⟩ | ⟨q1, q2, q3, q4⟩ | ⟨q1, q2, q3, q4, q5⟩
  · omega
  · have b1 := tx_run_le q4 (by omega)
    have b2 := tx_run_ne q4 ⟨q1, q2⟩
    omega
  · have b1 := tx_run_le q3 (by omega)
    have b2 := tx_run_ne q3 ⟨q1, q2⟩
    omega
  · omega
/-- there is one token behind a place -/
theorem tx_tok_u {B : Int → Int} {n p b e ty val b' e' ty' val' : Int} (h : tx_tok B n p b e ty val) (h' : tx_tok B n p b' e' ty' val') : b' = b ∧ e' = e ∧ ty' = ty ∧ (ty = 2 → val' = val) := by
  obtain ⟨h1, h2⟩ := h
  obtain ⟨k1, k2⟩ := h'
  have e1 := tx_run_u k1 h1
  subst e1
  have nd : ∀ x, tx_le x → tx_di x → False := fun x a c => by unfold tx_le at a; unfold tx_di at c; omega
  rcases h2 with ⟨q1, q2, q3⟩ | ⟨q1, q2, q3, q4⟩ | ⟨q1, q2, q3, q4⟩ | ⟨q1, q2, q3, q4, q5⟩
  · rcases k2 with ⟨r1, r2, r3⟩ | ⟨r1, r2, r3, r4⟩ | ⟨r1, r2, r3, r4⟩ | ⟨r1, r2, r3, r4, r5⟩ <;> omega
  · rcases k2 with ⟨r1, r2, r3⟩ | ⟨r1, r2, r3, r4⟩ | ⟨r1, r2, r3, r4⟩ | ⟨r1, r2, r3, r4, r5⟩
    · omega
    · exact ⟨rfl, tx_run_u r4 q4, by omega, by omega⟩
    · exact (nd _ q2 r2).elim
    · exact absurd q2 r2
  · rcases k2 with ⟨r1, r2, r3⟩ | ⟨r1, r2, r3, r4⟩ | ⟨r1, r2, r3, r4⟩ | ⟨r1, r2, r3, r4, r5⟩
    · omega
    · exact (nd _ r2 q2).elim
    · have e2 := tx_run_u r3 q3
      subst e2
      rcases q4 with ⟨s1, s2⟩ | ⟨s1, s2, s3⟩
      · rcases r4 with ⟨t1, t2⟩ | ⟨t1, t2, t3⟩ <;> omega
      · rcases r4 with ⟨t1, t2⟩ | ⟨t1, t2, t3⟩
        · omega
        · exact ⟨rfl, rfl, by omega, fun _ => by rw [s3, t3]⟩
    · exact absurd q2 r3
  · rcases k2 with ⟨r1, r2, r3⟩ | ⟨r1, r2, r3, r4⟩ | ⟨r1, r2, r3, r4⟩ | ⟨r1, r2, r3, r4, r5⟩
    · omega
    · exact absurd r2 q2
    · exact absurd r2 q3
    · rcases q5 with ⟨s1, s2⟩ | ⟨s1, s2⟩
      · rcases r5 with ⟨t1, t2⟩ | ⟨t1, t2⟩
        · omega
        · exact absurd s1 t1
      · rcases r5 with ⟨t1, t2⟩ | ⟨t1, t2⟩
        · exact absurd t1 s1
        · omega
/-! cells kept but for those of S -/
def tk (S : Nat → Nat → Prop) (σ τ : ST) : Prop := (∀ b f, ¬ S b f → τ.1 b f = σ.1 b f) ∧ τ.2 = σ.2
theorem tk.rf {S : Nat → Nat → Prop} {σ : ST} : tk S σ σ := ⟨fun _ _ _ => rfl, rfl⟩
theorem tk.tr {S : Nat → Nat → Prop} {σ τ τ' : ST} (h : tk S σ τ) (h' : tk S τ τ') : tk S σ τ' := ⟨fun b f q => (h'.1 b f q).trans (h.1 b f q), h'.2.trans h.2⟩
theorem tk.mono {S S' : Nat → Nat → Prop} {σ τ : ST} (h : tk S σ τ) (hs : ∀ b f, S b f → S' b f) : tk S' σ τ := ⟨fun b f q => h.1 b f (fun z => q (hs b f z)), h.2⟩
theorem tk.si {S : Nat → Nat → Prop} {σ τ : ST} (h : tk S σ τ) {a f : Nat} (v : Int32) (hs : S a f) : tk S σ (q_si τ a f v) := by
  refine ⟨fun b g q => ?_, h.2⟩
  show (if b = a ∧ g = f then v else τ.1 b g) = _
  rw [if_neg]
  · exact h.1 b g q
  · rintro ⟨rfl, rfl⟩
    exact q hs
theorem si_eq (τ : ST) (a f : Nat) (v : Int32) : (q_si τ a f v).1 a f = v := by
  show (if a = a ∧ f = f then v else _) = v
  rw [if_pos ⟨rfl, rfl⟩]
theorem si_f {τ : ST} {a f : Nat} {v : Int32} {g : Nat} (h : g ≠ f) (b : Nat) : (q_si τ a f v).1 b g = τ.1 b g := by
  show (if b = a ∧ g = f then v else τ.1 b g) = _
  rw [if_neg (fun q => h q.2)]
end
