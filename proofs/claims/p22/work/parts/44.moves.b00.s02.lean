section
set_option maxRecDepth 100000 in
set_option maxHeartbeats 4000000 in
theorem c_X12_doubts (l : Launch) (X : XW) (σ : ST) (a : Nat) (v1 : Int32) (n : Int) (ha : q_kd X a = 12) (hG : m_G (m_c X σ a)) (hW : m_W (m_c X σ a) n) (hn : n ≤ 200000) (ho : m_c X σ a 7 = 1) (h0 : 0 ≤ v1.toInt ∧ v1.toInt < m_c X σ a 2) (hne : v1.toInt ≠ m_c X σ a 6) : Met l yX12_doubts (q_ws yX12_doubts cX12_doubts 4 (some .int)) (q_rm 2 45) (q_P X σ [.ref a, .int v1]) (q_Qi X 1 σ (fun (r : Int32) (σ' : ST) => (m_G (m_c X σ' a)) ∧ (m_W (m_c X σ' a) (n + 1)) ∧ (∀ j, 654 ≤ j → m_c X σ' a j = m_c X σ a j) ∧ (m_KD 40 X σ σ') ∧ (r, σ') = F_X12_doubts X σ a v1 ∧ q_ow [(34, 99)] [] X σ σ')) 0 0 (q_reg X) := by
  refine q_met 1 (by first | exact rfl | decide +kernel) rfl (Nat.le_of_ble_eq_true rfl) (fun p e s m below meth c E hml hr hlk hI ls hl => ?_)
  have hx := E.1
  have hb := E.2.1
  have hl : lv_has ls 4 [(0, .ref a), (1, .int v1)] := hl
  have gσ : m_G (m_c X σ a) := hG
  have wσ : m_W (m_c X σ a) n := hW
  have kqσ : ∀ j, 654 ≤ j → m_c X σ a j = m_c X σ a j := fun _ _ => rfl
  have kdσ : m_KD 40 X σ σ := m_KD.rf
  have k2σ : m_c X σ a 0 = m_c X σ a 0 ∧ m_c X σ a 2 = m_c X σ a 2 := ⟨rfl, rfl⟩
  have fr_σ : q_ow [(34, 99)] [] X σ σ := q_ow.rf
  have hh := hG.hd
  obtain ⟨out, hout⟩ : ∃ o, o = F_X12_doubts X σ a v1 := ⟨_, rfl⟩
  have hF := hout.symm
  unfold F_X12_doubts at hF
  refine lv_aload_n hx hb dX12_doubts_0 rfl (lv_at hl 0 rfl) ?_
  refine gs_X12_35_12 E hI ha dX12_doubts_1 ?_
  refine lv_bipush (v := 6) hx hb dX12_doubts_4 zkb_6 ?_
  refine q_iald E hI (q_tk (k' := 34) hI ha rfl (Nat.succ_ne_zero _)) ⟨by decide, rfl⟩ (by decide) (by rw [q_lnk (v := 4650) hI (q_tk (k' := 34) hI ha rfl (Nat.succ_ne_zero _)) rfl (by decide)]; decide) dX12_doubts_6 ?_
  refine lv_topi (fun f_1 ef_1 => ?_)
  replace hF := q_letX hF ef_1
  have if_1 : f_1.toInt = m_c X σ a 6 := m_rd ef_1 (by decide)
  refine lv_istore_n (lv' := [(2, .int f_1), (0, .ref a), (1, .int v1)]) hx hb dX12_doubts_7 rfl hl (by decide) rfl (fun ls hl => ?_)
  refine lv_aload_n hx hb dX12_doubts_8 rfl (lv_at hl 1 rfl) ?_
  refine lv_aload_n hx hb dX12_doubts_9 rfl (lv_at hl 1 rfl) ?_
  refine gs_X12_35_12 E hI ha dX12_doubts_10 ?_
  refine lv_bipush (v := 9) hx hb dX12_doubts_13 zkb_9 ?_
  refine q_iald E hI (q_tk (k' := 34) hI ha rfl (Nat.succ_ne_zero _)) ⟨by decide, rfl⟩ (by decide) (by rw [q_lnk (v := 4650) hI (q_tk (k' := 34) hI ha rfl (Nat.succ_ne_zero _)) rfl (by decide)]; decide) dX12_doubts_15 ?_
  refine lv_topi (fun f_2 ef_2 => ?_)
  replace hF := q_letX hF ef_2
  have if_2 : f_2.toInt = m_c X σ a 9 := m_rd ef_2 (by decide)
  refine lv_iconst (v := 1) hx hb dX12_doubts_16 zki_1 ?_
  refine lv_isub hx hb dX12_doubts_17 ?_
  refine lv_topi (fun z_3 ez_3 => ?_)
  replace hF := q_letX hF ez_3
  have iz_3 := q_subI (A := (m_c X σ a 9)) (B := 1) ez_3 if_2 (by decide) (by first | (clear hn h0 gσ wσ kdσ k2σ if_1; omega) | omega) (by first | (clear hn h0 gσ wσ kdσ k2σ if_1; omega) | omega)
  refine q_ci (q_rV11_1 (rest := []) E (hml.trans hl.1.symm) hI (c_X12_sortOf l X σ a z_3 ha gσ (by first | (clear hn h0 gσ wσ kdσ k2σ if_1; omega) | omega)) kv_X12_305 ha ⟨Nat.le_of_ble_eq_true rfl, Nat.le_of_ble_eq_true rfl⟩ (Nat.le_of_ble_eq_true rfl) dX12_doubts_18) hI (Nat.le_of_ble_eq_true rfl) (fun r_4 σ_5 H locs hpσ_5 hkσ_5 hI => ?_)
  have ahpσ_5 := hpσ_5.1
  have bhpσ_5 := hpσ_5.2.1
  have chpσ_5 := hpσ_5.2.2
  clear hpσ_5
  replace hI := q_Irw ahpσ_5 hI
  replace hF := q_letX hF chpσ_5
  have J_29_6 : ∀ (x_6 : Int32) (H : Heap) (locs : List Loc) (ls : Array Slot), (0 ≤ x_6.toInt ∧ x_6.toInt ≤ 1) → (F_X12_doubts_J29_1 X σ a f_1 v1 x_6 = out) → q_I X 1 σ s.heap locs σ H → lv_has ls 4 [(0, .ref a), (1, .int v1), (2, .int f_1)] → W p l e (q_rm 2 45) s m ([.ref a, .int v1] : List Value).toArray below meth c H locs 0 0 (MQ below (q_Qi X 1 σ (fun (r : Int32) (σ' : ST) => (m_G (m_c X σ' a)) ∧ (m_W (m_c X σ' a) (n + 1)) ∧ (∀ j, 654 ≤ j → m_c X σ' a j = m_c X σ a j) ∧ (m_KD 40 X σ σ') ∧ (r, σ') = F_X12_doubts X σ a v1 ∧ q_ow [(34, 99)] [] X σ σ')) ([.ref a, .int v1] : List Value).toArray s 0 0 (q_reg X)) (F0 m 29 ls [.int x_6]) := by
    clear hF
    intro x_6 H locs ls j29 hF hI hl
    unfold F_X12_doubts_J29_1 at hF
    refine lv_istore_n (lv' := [(3, .int x_6), (0, .ref a), (1, .int v1), (2, .int f_1)]) hx hb dX12_doubts_29 rfl hl (by decide) rfl (fun ls hl => ?_)
    refine lv_aload_n hx hb dX12_doubts_30 rfl (lv_at hl 1 rfl) ?_
    refine gs_X12_35_12 E hI ha dX12_doubts_31 ?_
    refine lv_bipush (v := 7) hx hb dX12_doubts_34 zkb_7 ?_
    refine lv_iconst (v := 0) hx hb dX12_doubts_36 zki_0 ?_
    have kc_8 : (0 : Int32).toInt = 0 := zt_0
    refine q_iastN E hI (q_tk (k' := 34) hI ha rfl (Nat.succ_ne_zero _)) ⟨by decide, rfl⟩ (by decide) (by rw [q_lnk (v := 4650) hI (q_tk (k' := 34) hI ha rfl (Nat.succ_ne_zero _)) rfl (by decide)]; decide) (show 1 < 2 by decide) (q_inU rfl) dX12_doubts_37 (fun H locs σ_7 hσ_7 hI => ?_)
    replace hF := q_letX hF hσ_7
    have fr_σ_7 := fr_σ.si hσ_7 (q_tk (k' := 34) hI ha rfl (Nat.succ_ne_zero _)) rfl
    have mcσ_7 := m_wr (v := (0 : Int32)) (A := 7) hσ_7 (by decide) (by decide)
    have gσ_7 : m_G (m_c X σ_7 a) := m_G.wr gσ mcσ_7 (by first | (clear hn h0 gσ wσ kdσ k2σ if_2 iz_3 ahpσ_5 bhpσ_5 chpσ_5 j29; omega) | omega)
    have wσ_7 : m_W (m_c X σ_7 a) n := m_W.wr wσ mcσ_7 (by first | (clear hn ho h0 gσ wσ kdσ k2σ hh if_1 if_2 iz_3 ahpσ_5 bhpσ_5 chpσ_5 j29 kc_8 gσ_7; omega) | omega)
    have kqσ_7 : ∀ j, 654 ≤ j → m_c X σ_7 a j = m_c X σ a j := fun j h => by rw [mcσ_7 j (by first | (clear hn ho h0 gσ wσ kdσ k2σ hh if_1 if_2 iz_3 ahpσ_5 bhpσ_5 chpσ_5 j29 kc_8 gσ_7 wσ_7; omega) | omega), if_neg (by first | (clear hn ho h0 gσ wσ kdσ k2σ hh if_1 if_2 iz_3 ahpσ_5 bhpσ_5 chpσ_5 j29 kc_8 gσ_7 wσ_7; omega) | omega)] <;> exact kqσ j h
    have kdσ_7 : m_KD 40 X σ σ_7 := kdσ.ar hσ_7 (q_tk (k' := 34) hI ha rfl (Nat.succ_ne_zero _)) (by decide) (by decide)
    have k2σ_7 : m_c X σ_7 a 0 = m_c X σ a 0 ∧ m_c X σ_7 a 2 = m_c X σ a 2 := ⟨by rw [mcσ_7 0 (by decide), if_neg (by first | (clear hn ho h0 gσ wσ kdσ k2σ hh if_1 if_2 iz_3 ahpσ_5 bhpσ_5 chpσ_5 j29 kc_8 gσ_7 wσ_7 kdσ_7; omega) | omega)] <;> exact k2σ.1, by rw [mcσ_7 2 (by decide), if_neg (by first | (clear hn ho h0 gσ wσ kdσ k2σ hh if_1 if_2 iz_3 ahpσ_5 bhpσ_5 chpσ_5 j29 kc_8 gσ_7 wσ_7 kdσ_7; omega) | omega)] <;> exact k2σ.2⟩
    have z7σ_7 : m_c X σ_7 a 7 = 0 := (by rw [mcσ_7 7 (by decide), if_pos rfl]; rfl)
    refine lv_aload_n hx hb dX12_doubts_38 rfl (lv_at hl 1 rfl) ?_
    refine gs_X12_35_12 E hI ha dX12_doubts_39 ?_
    refine lv_bipush (v := 22) hx hb dX12_doubts_42 zkb_22 ?_
    refine lv_iload_n hx hb dX12_doubts_44 rfl (lv_at hl 3 rfl) ?_
    refine lv_iadd hx hb dX12_doubts_45 ?_
    refine lv_topi (fun z_9 ez_9 => ?_)
    replace hF := q_letX hF ez_9
    have iz_9 := q_addI (A := 22) (B := (m_c X σ a 6)) ez_9 (by decide) if_1 (by first | (clear hn h0 gσ wσ kdσ k2σ if_2 iz_3 ahpσ_5 bhpσ_5 chpσ_5 j29 kc_8 gσ_7 wσ_7 kdσ_7 k2σ_7 z7σ_7; omega) | omega) (by first | (clear hn ho h0 gσ wσ kdσ k2σ if_2 iz_3 ahpσ_5 bhpσ_5 chpσ_5 j29 kc_8 gσ_7 wσ_7 kdσ_7 z7σ_7; omega) | omega)
    refine lv_dup2_11 hx hb dX12_doubts_46 rfl rfl ?_
    refine q_iald E hI (q_tk (k' := 34) hI ha rfl (Nat.succ_ne_zero _)) ⟨by decide, rfl⟩ (by first | (clear hn h0 gσ wσ kdσ k2σ if_2 iz_3 ahpσ_5 bhpσ_5 chpσ_5 j29 kc_8 gσ_7 wσ_7 kdσ_7 k2σ_7 z7σ_7; omega) | omega) (by rw [q_lnk (v := 4650) hI (q_tk (k' := 34) hI ha rfl (Nat.succ_ne_zero _)) rfl (by decide)]; omega) dX12_doubts_47 ?_
    refine lv_topi (fun f_10 ef_10 => ?_)
    replace hF := q_letX hF ef_10
    have if_10 : f_10.toInt = m_c X σ_7 a (22 + (m_c X σ a 6)) := m_rd ef_10 iz_9
    have qw := wσ_7 (m_c X σ a 6) (by first | (clear hn h0 gσ wσ kdσ k2σ if_2 iz_3 ahpσ_5 bhpσ_5 chpσ_5 j29 kc_8 gσ_7 wσ_7 kdσ_7 k2σ_7 z7σ_7 if_10; omega) | omega) (by first | (clear hn ho h0 gσ wσ kdσ k2σ if_2 iz_3 ahpσ_5 bhpσ_5 chpσ_5 j29 kc_8 gσ_7 wσ_7 kdσ_7 z7σ_7 if_10; omega) | omega)
    refine lv_iconst (v := 1) hx hb dX12_doubts_48 zki_1 ?_
    refine lv_iadd hx hb dX12_doubts_49 ?_
    refine lv_topi (fun z_11 ez_11 => ?_)
    replace hF := q_letX hF ez_11
    have iz_11 := q_addI (A := (m_c X σ_7 a (22 + (m_c X σ a 6)))) (B := 1) ez_11 if_10 (by decide) (by first | (clear hn ho h0 gσ wσ kdσ k2σ hh if_1 if_2 iz_3 ahpσ_5 bhpσ_5 chpσ_5 j29 kc_8 gσ_7 wσ_7 kdσ_7 k2σ_7 z7σ_7 iz_9 if_10; omega) | omega) (by first | (clear ho h0 gσ wσ kdσ k2σ hh if_1 if_2 iz_3 ahpσ_5 bhpσ_5 chpσ_5 j29 kc_8 gσ_7 wσ_7 kdσ_7 k2σ_7 z7σ_7 iz_9 if_10; omega) | omega)
    refine q_iastN E hI (q_tk (k' := 34) hI ha rfl (Nat.succ_ne_zero _)) ⟨by decide, rfl⟩ (by first | (clear hn h0 gσ wσ kdσ k2σ if_2 iz_3 ahpσ_5 bhpσ_5 chpσ_5 j29 kc_8 gσ_7 wσ_7 kdσ_7 k2σ_7 z7σ_7 if_10 qw iz_11; omega) | omega) (by rw [q_lnk (v := 4650) hI (q_tk (k' := 34) hI ha rfl (Nat.succ_ne_zero _)) rfl (by decide)]; omega) (show 1 < 2 by decide) (q_inU rfl) dX12_doubts_50 (fun H locs σ_12 hσ_12 hI => ?_)
    replace hF := q_letX hF hσ_12
    have fr_σ_12 := fr_σ_7.si hσ_12 (q_tk (k' := 34) hI ha rfl (Nat.succ_ne_zero _)) rfl
    have mcσ_12 := m_wr (v := z_11) (A := (22 + (m_c X σ a 6))) hσ_12 iz_9 (by first | (clear hn h0 gσ wσ kdσ k2σ if_2 iz_3 ahpσ_5 bhpσ_5 chpσ_5 j29 kc_8 gσ_7 wσ_7 kdσ_7 k2σ_7 z7σ_7 if_10 qw iz_11; omega) | omega)
    have gσ_12 : m_G (m_c X σ_12 a) := m_G.wr gσ_7 mcσ_12 (by first | (clear hn h0 gσ wσ kdσ k2σ if_2 iz_3 ahpσ_5 bhpσ_5 chpσ_5 j29 kc_8 gσ_7 wσ_7 kdσ_7 if_10; omega) | omega)
    have vσ_12 : m_W (m_c X σ_12 a) (n + 1) := wσ_7.shown mcσ_12 (by first | (clear hn h0 gσ wσ kdσ k2σ if_2 iz_3 ahpσ_5 bhpσ_5 chpσ_5 j29 kc_8 gσ_7 wσ_7 kdσ_7 z7σ_7 if_10 qw iz_11 gσ_12; omega) | omega) (by omega)
    have lsσ_12 : 0 ≤ m_c X σ_12 a (28 + m_c X σ a 6) ∧ m_c X σ_12 a (28 + m_c X σ a 6) + 1 ≤ m_c X σ_12 a (22 + m_c X σ a 6) ∧ m_c X σ_12 a (22 + m_c X σ a 6) ≤ 200001 := (by have q := wσ_7 (m_c X σ a 6) (by first | (clear hn h0 gσ wσ kdσ k2σ if_2 iz_3 ahpσ_5 bhpσ_5 chpσ_5 j29 kc_8 gσ_7 wσ_7 kdσ_7 k2σ_7 z7σ_7 if_10 qw iz_11 gσ_12 vσ_12; omega) | omega) (by first | (clear hn ho h0 gσ wσ kdσ k2σ if_2 iz_3 ahpσ_5 bhpσ_5 chpσ_5 j29 kc_8 gσ_7 wσ_7 kdσ_7 z7σ_7 if_10 qw iz_11 gσ_12 vσ_12; omega) | omega); rw [mcσ_12 (28 + m_c X σ a 6) (by first | (clear hn h0 gσ wσ kdσ k2σ if_2 iz_3 ahpσ_5 bhpσ_5 chpσ_5 j29 kc_8 gσ_7 wσ_7 kdσ_7 k2σ_7 z7σ_7 if_10 qw iz_11 gσ_12 vσ_12; omega) | omega), if_neg (by first | (clear hn ho h0 gσ wσ kdσ k2σ hh if_1 if_2 iz_3 ahpσ_5 bhpσ_5 chpσ_5 j29 kc_8 gσ_7 wσ_7 kdσ_7 k2σ_7 z7σ_7 iz_9 if_10 qw iz_11 gσ_12 vσ_12; omega) | omega), mcσ_12 (22 + m_c X σ a 6) (by first | (clear hn h0 gσ wσ kdσ k2σ if_2 iz_3 ahpσ_5 bhpσ_5 chpσ_5 j29 kc_8 gσ_7 wσ_7 kdσ_7 k2σ_7 z7σ_7 if_10 qw iz_11 gσ_12 vσ_12; omega) | omega), if_pos rfl]; omega)
    have kqσ_12 : ∀ j, 654 ≤ j → m_c X σ_12 a j = m_c X σ a j := fun j h => by rw [mcσ_12 j (by first | (clear hn ho h0 gσ wσ kdσ k2σ hh if_1 if_2 iz_3 ahpσ_5 bhpσ_5 chpσ_5 j29 kc_8 gσ_7 wσ_7 kdσ_7 k2σ_7 z7σ_7 iz_9 if_10 qw iz_11 gσ_12 vσ_12 lsσ_12; omega) | omega), if_neg (by first | (clear hn ho h0 gσ wσ kdσ k2σ if_2 iz_3 ahpσ_5 bhpσ_5 chpσ_5 j29 kc_8 gσ_7 wσ_7 kdσ_7 z7σ_7 if_10 qw iz_11 gσ_12 vσ_12 lsσ_12; omega) | omega)] <;> exact kqσ_7 j h
    have kdσ_12 : m_KD 40 X σ σ_12 := kdσ_7.ar hσ_12 (q_tk (k' := 34) hI ha rfl (Nat.succ_ne_zero _)) (by decide) (by decide)
    have k2σ_12 : m_c X σ_12 a 0 = m_c X σ a 0 ∧ m_c X σ_12 a 2 = m_c X σ a 2 := ⟨by rw [mcσ_12 0 (by decide), if_neg (by first | (clear hn h0 gσ wσ kdσ k2σ if_2 iz_3 ahpσ_5 bhpσ_5 chpσ_5 j29 kc_8 gσ_7 wσ_7 kdσ_7 k2σ_7 z7σ_7 if_10 qw iz_11 gσ_12 vσ_12 lsσ_12 kdσ_12; omega) | omega)] <;> exact k2σ_7.1, by rw [mcσ_12 2 (by decide), if_neg (by first | (clear hn h0 gσ wσ kdσ k2σ if_2 iz_3 ahpσ_5 bhpσ_5 chpσ_5 j29 kc_8 gσ_7 wσ_7 kdσ_7 k2σ_7 z7σ_7 if_10 qw iz_11 gσ_12 vσ_12 lsσ_12 kdσ_12; omega) | omega)] <;> exact k2σ_7.2⟩
    have z7σ_12 : m_c X σ_12 a 7 = 0 := (by rw [mcσ_12 7 (by decide), if_neg (by first | (clear hn h0 gσ wσ kdσ k2σ if_2 iz_3 ahpσ_5 bhpσ_5 chpσ_5 j29 kc_8 gσ_7 wσ_7 kdσ_7 k2σ_7 z7σ_7 if_10 qw iz_11 gσ_12 vσ_12 lsσ_12 kdσ_12 k2σ_12; omega) | omega)]; exact z7σ_7)
    refine lv_aload_n hx hb dX12_doubts_51 rfl (lv_at hl 1 rfl) ?_
    refine gs_X12_35_12 E hI ha dX12_doubts_52 ?_
    refine lv_bipush (v := 28) hx hb dX12_doubts_55 zkb_28 ?_
    refine lv_iload_n hx hb dX12_doubts_57 rfl (lv_at hl 3 rfl) ?_
    refine lv_iadd hx hb dX12_doubts_58 ?_
    refine lv_topi (fun z_13 ez_13 => ?_)
    replace hF := q_letX hF ez_13
    have iz_13 := q_addI (A := 28) (B := (m_c X σ a 6)) ez_13 (by decide) if_1 (by first | (clear hn h0 gσ wσ kdσ k2σ if_2 iz_3 ahpσ_5 bhpσ_5 chpσ_5 j29 kc_8 gσ_7 wσ_7 kdσ_7 k2σ_7 z7σ_7 if_10 qw iz_11 gσ_12 vσ_12 lsσ_12 kdσ_12 k2σ_12 z7σ_12; omega) | omega) (by first | (clear hn ho h0 gσ wσ kdσ k2σ if_2 iz_3 ahpσ_5 bhpσ_5 chpσ_5 j29 kc_8 gσ_7 wσ_7 kdσ_7 z7σ_7 if_10 qw iz_11 gσ_12 vσ_12 lsσ_12 kdσ_12 z7σ_12; omega) | omega)
    refine lv_dup2_11 hx hb dX12_doubts_59 rfl rfl ?_
    refine q_iald E hI (q_tk (k' := 34) hI ha rfl (Nat.succ_ne_zero _)) ⟨by decide, rfl⟩ (by first | (clear hn h0 gσ wσ kdσ k2σ if_2 iz_3 ahpσ_5 bhpσ_5 chpσ_5 j29 kc_8 gσ_7 wσ_7 kdσ_7 k2σ_7 z7σ_7 if_10 qw iz_11 gσ_12 vσ_12 lsσ_12 kdσ_12 k2σ_12 z7σ_12; omega) | omega) (by rw [q_lnk (v := 4650) hI (q_tk (k' := 34) hI ha rfl (Nat.succ_ne_zero _)) rfl (by decide)]; omega) dX12_doubts_60 ?_
    refine lv_topi (fun f_14 ef_14 => ?_)
    replace hF := q_letX hF ef_14
    have if_14 : f_14.toInt = m_c X σ_12 a (28 + (m_c X σ a 6)) := m_rd ef_14 iz_13
    refine lv_iload_n hx hb dX12_doubts_61 rfl (lv_at hl 0 rfl) ?_
    refine q_if_eq (A := x_6.toInt) E rfl (tgt := 69) dX12_doubts_62 (by decide) (fun c_15 => ?_) (fun c_15 => ?_)
    · skip
      replace hF := q_ifp hF c_15
      refine lv_iconst (v := 1) hx hb dX12_doubts_69 zki_1 ?_
      refine lv_iadd hx hb dX12_doubts_70 ?_
      refine lv_topi (fun z_16 ez_16 => ?_)
      replace hF := q_letX hF ez_16
      have iz_16 := q_addI (A := (m_c X σ_12 a (28 + (m_c X σ a 6)))) (B := 1) ez_16 if_14 (by decide) (by first | (clear hn ho h0 gσ wσ kdσ k2σ hh if_1 if_2 iz_3 ahpσ_5 bhpσ_5 chpσ_5 j29 kc_8 gσ_7 wσ_7 kdσ_7 k2σ_7 z7σ_7 iz_9 if_10 qw iz_11 gσ_12 vσ_12 kdσ_12 k2σ_12 z7σ_12 iz_13 c_15; omega) | omega) (by first | (clear hn ho h0 gσ wσ kdσ k2σ hh if_1 if_2 iz_3 ahpσ_5 bhpσ_5 chpσ_5 j29 kc_8 gσ_7 wσ_7 kdσ_7 k2σ_7 z7σ_7 iz_9 if_10 qw iz_11 gσ_12 vσ_12 kdσ_12 k2σ_12 z7σ_12 iz_13 c_15; omega) | omega)
      refine q_iastN E hI (q_tk (k' := 34) hI ha rfl (Nat.succ_ne_zero _)) ⟨by decide, rfl⟩ (by first | (clear hn h0 gσ wσ kdσ k2σ if_2 iz_3 ahpσ_5 bhpσ_5 chpσ_5 j29 kc_8 gσ_7 wσ_7 kdσ_7 k2σ_7 z7σ_7 if_10 qw iz_11 gσ_12 vσ_12 lsσ_12 kdσ_12 k2σ_12 z7σ_12 if_14 c_15 iz_16; omega) | omega) (by rw [q_lnk (v := 4650) hI (q_tk (k' := 34) hI ha rfl (Nat.succ_ne_zero _)) rfl (by decide)]; omega) (show 1 < 2 by decide) (q_inU rfl) dX12_doubts_71 (fun H locs σ_17 hσ_17 hI => ?_)
      replace hF := q_letX hF hσ_17
      have fr_σ_17 := fr_σ_12.si hσ_17 (q_tk (k' := 34) hI ha rfl (Nat.succ_ne_zero _)) rfl
      have mcσ_17 := m_wr (v := z_16) (A := (28 + (m_c X σ a 6))) hσ_17 iz_13 (by first | (clear hn h0 gσ wσ kdσ k2σ if_2 iz_3 ahpσ_5 bhpσ_5 chpσ_5 j29 kc_8 gσ_7 wσ_7 kdσ_7 k2σ_7 z7σ_7 if_10 qw iz_11 gσ_12 vσ_12 lsσ_12 kdσ_12 k2σ_12 z7σ_12 if_14 c_15 iz_16; omega) | omega)
      have gσ_17 : m_G (m_c X σ_17 a) := m_G.wr gσ_12 mcσ_17 (by first | (clear hn h0 gσ wσ kdσ k2σ if_2 iz_3 ahpσ_5 bhpσ_5 chpσ_5 j29 kc_8 gσ_7 wσ_7 kdσ_7 z7σ_7 if_10 qw iz_11 gσ_12 vσ_12 kdσ_12 c_15; omega) | omega)
      have vσ_17 : m_W (m_c X σ_17 a) (n + 1) := vσ_12.lied mcσ_17 (by first | (clear hn h0 gσ wσ kdσ k2σ if_2 iz_3 ahpσ_5 bhpσ_5 chpσ_5 j29 kc_8 gσ_7 wσ_7 kdσ_7 z7σ_7 if_10 qw iz_11 gσ_12 vσ_12 lsσ_12 kdσ_12 z7σ_12 if_14 c_15 iz_16 gσ_17; omega) | omega) (by first | (clear hn ho h0 gσ wσ kdσ k2σ hh if_1 if_2 iz_3 ahpσ_5 bhpσ_5 chpσ_5 j29 kc_8 gσ_7 wσ_7 kdσ_7 k2σ_7 z7σ_7 iz_9 if_10 qw iz_11 gσ_12 vσ_12 kdσ_12 k2σ_12 z7σ_12 iz_13 c_15 gσ_17; omega) | omega)
      have kqσ_17 : ∀ j, 654 ≤ j → m_c X σ_17 a j = m_c X σ a j := fun j h => by rw [mcσ_17 j (by first | (clear hn ho h0 gσ wσ kdσ k2σ hh if_1 if_2 iz_3 ahpσ_5 bhpσ_5 chpσ_5 j29 kc_8 gσ_7 wσ_7 kdσ_7 k2σ_7 z7σ_7 iz_9 if_10 qw iz_11 gσ_12 vσ_12 lsσ_12 kdσ_12 k2σ_12 z7σ_12 iz_13 if_14 c_15 iz_16 gσ_17 vσ_17; omega) | omega), if_neg (by first | (clear hn ho h0 gσ wσ kdσ k2σ if_2 iz_3 ahpσ_5 bhpσ_5 chpσ_5 j29 kc_8 gσ_7 wσ_7 kdσ_7 z7σ_7 if_10 qw iz_11 gσ_12 vσ_12 lsσ_12 kdσ_12 z7σ_12 if_14 c_15 iz_16 gσ_17 vσ_17; omega) | omega)] <;> exact kqσ_12 j h
      have kdσ_17 : m_KD 40 X σ σ_17 := kdσ_12.ar hσ_17 (q_tk (k' := 34) hI ha rfl (Nat.succ_ne_zero _)) (by decide) (by decide)
      have k2σ_17 : m_c X σ_17 a 0 = m_c X σ a 0 ∧ m_c X σ_17 a 2 = m_c X σ a 2 := ⟨by rw [mcσ_17 0 (by decide), if_neg (by first | (clear hn h0 gσ wσ kdσ k2σ if_2 iz_3 ahpσ_5 bhpσ_5 chpσ_5 j29 kc_8 gσ_7 wσ_7 kdσ_7 k2σ_7 z7σ_7 if_10 qw iz_11 gσ_12 vσ_12 lsσ_12 kdσ_12 k2σ_12 z7σ_12 if_14 c_15 iz_16 gσ_17 vσ_17 kdσ_17; omega) | omega)] <;> exact k2σ_12.1, by rw [mcσ_17 2 (by decide), if_neg (by first | (clear hn h0 gσ wσ kdσ k2σ if_2 iz_3 ahpσ_5 bhpσ_5 chpσ_5 j29 kc_8 gσ_7 wσ_7 kdσ_7 k2σ_7 z7σ_7 if_10 qw iz_11 gσ_12 vσ_12 lsσ_12 kdσ_12 k2σ_12 z7σ_12 if_14 c_15 iz_16 gσ_17 vσ_17 kdσ_17; omega) | omega)] <;> exact k2σ_12.2⟩
      have z7σ_17 : m_c X σ_17 a 7 = 0 := (by rw [mcσ_17 7 (by decide), if_neg (by first | (clear hn h0 gσ wσ kdσ k2σ if_2 iz_3 ahpσ_5 bhpσ_5 chpσ_5 j29 kc_8 gσ_7 wσ_7 kdσ_7 k2σ_7 z7σ_7 if_10 qw iz_11 gσ_12 vσ_12 lsσ_12 kdσ_12 k2σ_12 z7σ_12 if_14 c_15 iz_16 gσ_17 vσ_17 kdσ_17 k2σ_17; omega) | omega)]; exact z7σ_12)
      refine lv_iload_n hx hb dX12_doubts_72 rfl (lv_at hl 0 rfl) ?_
      have J_92_18 : ∀  (σ_18 : ST) (H : Heap) (locs : List Loc) (ls : Array Slot), (q_ow [(34, 99)] [] X σ σ_18) → (m_G (m_c X σ_18 a)) → (m_W (m_c X σ_18 a) (n + 1)) → (∀ j, 654 ≤ j → m_c X σ_18 a j = m_c X σ a j) → (m_KD 40 X σ σ_18) → (m_c X σ_18 a 0 = m_c X σ a 0 ∧ m_c X σ_18 a 2 = m_c X σ a 2) → (m_c X σ_18 a 7 = 0) → (F_X12_doubts_J92_2 X x_6 a f_1 v1 σ_18 = out) → q_I X 1 σ s.heap locs σ_18 H → lv_has ls 4 [(0, .ref a), (1, .int v1), (2, .int f_1), (3, .int x_6)] → W p l e (q_rm 2 45) s m ([.ref a, .int v1] : List Value).toArray below meth c H locs 0 0 (MQ below (q_Qi X 1 σ (fun (r : Int32) (σ' : ST) => (m_G (m_c X σ' a)) ∧ (m_W (m_c X σ' a) (n + 1)) ∧ (∀ j, 654 ≤ j → m_c X σ' a j = m_c X σ a j) ∧ (m_KD 40 X σ σ') ∧ (r, σ') = F_X12_doubts X σ a v1 ∧ q_ow [(34, 99)] [] X σ σ')) ([.ref a, .int v1] : List Value).toArray s 0 0 (q_reg X)) (F0 m 92 ls []) := by
        clear hF
        intro σ_18 H locs ls fr_σ_18 gσ_18 vσ_18 kqσ_18 kdσ_18 k2σ_18 z7σ_18 hF hI hl
        try clear kqσ; try clear kdσ; try clear fr_σ; try clear ahpσ_5; try clear fr_σ_17; try clear mcσ_17; try clear kqσ_17; try clear kdσ_17
        unfold F_X12_doubts_J92_2 at hF
        refine lv_aload_n hx hb dX12_doubts_92 rfl (lv_at hl 0 rfl) ?_
        refine lv_iload_n hx hb dX12_doubts_93 rfl (lv_at hl 3 rfl) ?_
        refine q_if_eq (A := x_6.toInt) E rfl (tgt := 101) dX12_doubts_94 (by decide) (fun c_19 => ?_) (fun c_19 => ?_)
        · skip
          replace hF := q_ifp hF c_19
          refine lv_iload_n hx hb dX12_doubts_101 rfl (lv_at hl 2 rfl) ?_
          have J_105_20 : ∀  (σ_20 : ST) (H : Heap) (locs : List Loc) (ls : Array Slot), (q_ow [(34, 99)] [] X σ σ_20) → (m_G (m_c X σ_20 a)) → (m_W (m_c X σ_20 a) (n + 1)) → (∀ j, 654 ≤ j → m_c X σ_20 a j = m_c X σ a j) → (m_KD 40 X σ σ_20) → (m_c X σ_20 a 0 = m_c X σ a 0 ∧ m_c X σ_20 a 2 = m_c X σ a 2) → (m_c X σ_20 a 7 = 0) → (F_X12_doubts_J105_3 X a x_6 v1 f_1 σ_20 = out) → q_I X 1 σ s.heap locs σ_20 H → lv_has ls 4 [(0, .ref a), (1, .int v1), (2, .int f_1), (3, .int x_6)] → W p l e (q_rm 2 45) s m ([.ref a, .int v1] : List Value).toArray below meth c H locs 0 0 (MQ below (q_Qi X 1 σ (fun (r : Int32) (σ' : ST) => (m_G (m_c X σ' a)) ∧ (m_W (m_c X σ' a) (n + 1)) ∧ (∀ j, 654 ≤ j → m_c X σ' a j = m_c X σ a j) ∧ (m_KD 40 X σ σ') ∧ (r, σ') = F_X12_doubts X σ a v1 ∧ q_ow [(34, 99)] [] X σ σ')) ([.ref a, .int v1] : List Value).toArray s 0 0 (q_reg X)) (F0 m 105 ls []) := by
            clear hF
            intro σ_20 H locs ls fr_σ_20 gσ_20 vσ_20 kqσ_20 kdσ_20 k2σ_20 z7σ_20 hF hI hl
            unfold F_X12_doubts_J105_3 at hF
            refine lv_aload_n hx hb dX12_doubts_105 rfl (lv_at hl 0 rfl) ?_
            refine gs_X12_35_12 E hI ha dX12_doubts_106 ?_
            refine lv_iconst (v := 5) hx hb dX12_doubts_109 zki_5 ?_
            refine lv_aload_n hx hb dX12_doubts_110 rfl (lv_at hl 0 rfl) ?_
            refine lv_iconst (v := 0) hx hb dX12_doubts_111 zki_0 ?_
            have kc_21 : (0 : Int32).toInt = 0 := zt_0
            refine q_ci (q_rV11_1 (rest := [.int 5, .ref (q_rf X a 20)]) E (hml.trans hl.1.symm) hI (c_X12_nextKind l X σ_20 a (0 : Int32) ha gσ_20) kv_X12_315 ha ⟨Nat.le_of_ble_eq_true rfl, Nat.le_of_ble_eq_true rfl⟩ (Nat.le_of_ble_eq_true rfl) dX12_doubts_112) hI (Nat.le_of_ble_eq_true rfl) (fun r_22 σ_23 H locs hpσ_23 hkσ_23 hI => ?_)
            have ahpσ_23 := hpσ_23.1
            have bhpσ_23 := hpσ_23.2.1
            have chpσ_23 := hpσ_23.2.2
            clear hpσ_23
            replace hI := q_Irw ahpσ_23 hI
            replace hF := q_letX hF chpσ_23
            refine q_iastN E hI (q_tk (k' := 34) hI ha rfl (Nat.succ_ne_zero _)) ⟨by decide, rfl⟩ (by decide) (by rw [q_lnk (v := 4650) hI (q_tk (k' := 34) hI ha rfl (Nat.succ_ne_zero _)) rfl (by decide)]; decide) (show 1 < 2 by decide) (q_inU rfl) dX12_doubts_115 (fun H locs σ_24 hσ_24 hI => ?_)
            replace hF := q_letX hF hσ_24
            have fr_σ_24 := fr_σ_20.si hσ_24 (q_tk (k' := 34) hI ha rfl (Nat.succ_ne_zero _)) rfl
            have mcσ_24 := m_wr (v := r_22) (A := 5) hσ_24 (by decide) (by decide)
            have gσ_24 : m_G (m_c X σ_24 a) := m_G.wr gσ_20 mcσ_24 (by first | (clear hn ho h0 gσ wσ k2σ hh if_1 if_2 iz_3 bhpσ_5 chpσ_5 j29 kc_8 gσ_7 wσ_7 kdσ_7 k2σ_7 z7σ_7 iz_9 if_10 qw iz_11 gσ_12 vσ_12 lsσ_12 kdσ_12 k2σ_12 z7σ_12 iz_13 if_14 c_15 iz_16 gσ_17 vσ_17 k2σ_17 z7σ_17 gσ_18 vσ_18 kdσ_18 k2σ_18 z7σ_18 c_19 gσ_20 vσ_20 kdσ_20 k2σ_20 kc_21 ahpσ_23 chpσ_23; omega) | omega)
            have vσ_24 : m_W (m_c X σ_24 a) (n + 1) := m_W.wr vσ_20 mcσ_24 (by first | (clear hn ho h0 gσ wσ k2σ hh if_1 if_2 iz_3 bhpσ_5 chpσ_5 j29 kc_8 gσ_7 wσ_7 kdσ_7 k2σ_7 z7σ_7 iz_9 if_10 qw iz_11 gσ_12 vσ_12 lsσ_12 kdσ_12 k2σ_12 z7σ_12 iz_13 if_14 c_15 iz_16 gσ_17 vσ_17 k2σ_17 z7σ_17 gσ_18 vσ_18 kdσ_18 k2σ_18 z7σ_18 c_19 gσ_20 vσ_20 kdσ_20 k2σ_20 z7σ_20 kc_21 ahpσ_23 bhpσ_23 chpσ_23 gσ_24; omega) | omega)
            have kqσ_24 : ∀ j, 654 ≤ j → m_c X σ_24 a j = m_c X σ a j := fun j h => by rw [mcσ_24 j (by first | (clear hn ho h0 gσ wσ k2σ hh if_1 if_2 iz_3 bhpσ_5 chpσ_5 j29 kc_8 gσ_7 wσ_7 kdσ_7 k2σ_7 z7σ_7 iz_9 if_10 qw iz_11 gσ_12 vσ_12 lsσ_12 kdσ_12 k2σ_12 z7σ_12 iz_13 if_14 c_15 iz_16 gσ_17 vσ_17 k2σ_17 z7σ_17 gσ_18 vσ_18 kdσ_18 k2σ_18 z7σ_18 c_19 gσ_20 vσ_20 kdσ_20 k2σ_20 z7σ_20 kc_21 ahpσ_23 bhpσ_23 chpσ_23 gσ_24 vσ_24; omega) | omega), if_neg (by first | (clear hn ho h0 gσ wσ k2σ hh if_1 if_2 iz_3 bhpσ_5 chpσ_5 j29 kc_8 gσ_7 wσ_7 kdσ_7 k2σ_7 z7σ_7 iz_9 if_10 qw iz_11 gσ_12 vσ_12 lsσ_12 kdσ_12 k2σ_12 z7σ_12 iz_13 if_14 c_15 iz_16 gσ_17 vσ_17 k2σ_17 z7σ_17 gσ_18 vσ_18 kdσ_18 k2σ_18 z7σ_18 c_19 gσ_20 vσ_20 kdσ_20 k2σ_20 z7σ_20 kc_21 ahpσ_23 bhpσ_23 chpσ_23 gσ_24 vσ_24; omega) | omega)] <;> exact kqσ_20 j h
            have kdσ_24 : m_KD 40 X σ σ_24 := kdσ_20.ar hσ_24 (q_tk (k' := 34) hI ha rfl (Nat.succ_ne_zero _)) (by decide) (by decide)
            have k2σ_24 : m_c X σ_24 a 0 = m_c X σ a 0 ∧ m_c X σ_24 a 2 = m_c X σ a 2 := ⟨by rw [mcσ_24 0 (by decide), if_neg (by first | (clear hn ho h0 gσ wσ k2σ hh if_1 if_2 iz_3 bhpσ_5 chpσ_5 j29 kc_8 gσ_7 wσ_7 kdσ_7 k2σ_7 z7σ_7 iz_9 if_10 qw iz_11 gσ_12 vσ_12 lsσ_12 kdσ_12 k2σ_12 z7σ_12 iz_13 if_14 c_15 iz_16 gσ_17 vσ_17 k2σ_17 z7σ_17 gσ_18 vσ_18 kdσ_18 k2σ_18 z7σ_18 c_19 gσ_20 vσ_20 kdσ_20 k2σ_20 z7σ_20 kc_21 ahpσ_23 bhpσ_23 chpσ_23 gσ_24 vσ_24 kdσ_24; omega) | omega)] <;> exact k2σ_20.1, by rw [mcσ_24 2 (by decide), if_neg (by first | (clear hn ho h0 gσ wσ k2σ hh if_1 if_2 iz_3 bhpσ_5 chpσ_5 j29 kc_8 gσ_7 wσ_7 kdσ_7 k2σ_7 z7σ_7 iz_9 if_10 qw iz_11 gσ_12 vσ_12 lsσ_12 kdσ_12 k2σ_12 z7σ_12 iz_13 if_14 c_15 iz_16 gσ_17 vσ_17 k2σ_17 z7σ_17 gσ_18 vσ_18 kdσ_18 k2σ_18 z7σ_18 c_19 gσ_20 vσ_20 kdσ_20 k2σ_20 z7σ_20 kc_21 ahpσ_23 bhpσ_23 chpσ_23 gσ_24 vσ_24 kdσ_24; omega) | omega)] <;> exact k2σ_20.2⟩
            have z7σ_24 : m_c X σ_24 a 7 = 0 := (by rw [mcσ_24 7 (by decide), if_neg (by first | (clear hn ho h0 gσ wσ k2σ hh if_1 if_2 iz_3 bhpσ_5 chpσ_5 j29 kc_8 gσ_7 wσ_7 kdσ_7 k2σ_7 z7σ_7 iz_9 if_10 qw iz_11 gσ_12 vσ_12 lsσ_12 kdσ_12 k2σ_12 z7σ_12 iz_13 if_14 c_15 iz_16 gσ_17 vσ_17 k2σ_17 z7σ_17 gσ_18 vσ_18 kdσ_18 k2σ_18 z7σ_18 c_19 gσ_20 vσ_20 kdσ_20 k2σ_20 z7σ_20 kc_21 ahpσ_23 bhpσ_23 chpσ_23 gσ_24 vσ_24 kdσ_24 k2σ_24; omega) | omega)]; exact z7σ_20)
            refine lv_aload_n hx hb dX12_doubts_116 rfl (lv_at hl 0 rfl) ?_
            refine gs_X12_35_12 E hI ha dX12_doubts_117 ?_
            refine lv_bipush (v := 6) hx hb dX12_doubts_120 zkb_6 ?_
            refine lv_iload_n hx hb dX12_doubts_122 rfl (lv_at hl 3 rfl) ?_
            refine q_if_eq (A := x_6.toInt) E rfl (tgt := 130) dX12_doubts_123 (by decide) (fun c_25 => ?_) (fun c_25 => ?_)
            · skip
              replace hF := q_ifp hF c_25
              refine lv_iload_n hx hb dX12_doubts_130 rfl (lv_at hl 1 rfl) ?_
              refine q_iastN E hI (q_tk (k' := 34) hI ha rfl (Nat.succ_ne_zero _)) ⟨by decide, rfl⟩ (by decide) (by rw [q_lnk (v := 4650) hI (q_tk (k' := 34) hI ha rfl (Nat.succ_ne_zero _)) rfl (by decide)]; decide) (show 1 < 2 by decide) (q_inU rfl) dX12_doubts_131 (fun H locs σ_26 hσ_26 hI => ?_)
              replace hF := q_letX hF hσ_26
              have fr_σ_26 := fr_σ_24.si hσ_26 (q_tk (k' := 34) hI ha rfl (Nat.succ_ne_zero _)) rfl
              have mcσ_26 := m_wr (v := v1) (A := 6) hσ_26 (by decide) (by decide)
              have gσ_26 : m_G (m_c X σ_26 a) := m_G.wr gσ_24 mcσ_26 (by first | (clear hn ho h0 gσ wσ k2σ hh if_1 if_2 iz_3 bhpσ_5 chpσ_5 j29 kc_8 gσ_7 wσ_7 kdσ_7 z7σ_7 iz_9 if_10 qw iz_11 gσ_12 vσ_12 lsσ_12 kdσ_12 z7σ_12 iz_13 if_14 c_15 iz_16 gσ_17 vσ_17 z7σ_17 gσ_18 vσ_18 kdσ_18 z7σ_18 c_19 gσ_20 vσ_20 kdσ_20 z7σ_20 kc_21 ahpσ_23 bhpσ_23 chpσ_23 gσ_24 vσ_24 kdσ_24 c_25; omega) | omega)
              have vσ_26 : m_W (m_c X σ_26 a) (n + 1) := m_W.wr vσ_24 mcσ_26 (by first | (clear hn ho h0 gσ wσ k2σ hh if_1 if_2 iz_3 bhpσ_5 chpσ_5 j29 kc_8 gσ_7 wσ_7 kdσ_7 k2σ_7 z7σ_7 iz_9 if_10 qw iz_11 gσ_12 vσ_12 lsσ_12 kdσ_12 k2σ_12 z7σ_12 iz_13 if_14 c_15 iz_16 gσ_17 vσ_17 k2σ_17 z7σ_17 gσ_18 vσ_18 kdσ_18 k2σ_18 z7σ_18 c_19 gσ_20 vσ_20 kdσ_20 k2σ_20 z7σ_20 kc_21 ahpσ_23 bhpσ_23 chpσ_23 gσ_24 vσ_24 kdσ_24 k2σ_24 z7σ_24 c_25 gσ_26; omega) | omega)
              have kqσ_26 : ∀ j, 654 ≤ j → m_c X σ_26 a j = m_c X σ a j := fun j h => by rw [mcσ_26 j (by first | (clear hn ho h0 gσ wσ k2σ hh if_1 if_2 iz_3 bhpσ_5 chpσ_5 j29 kc_8 gσ_7 wσ_7 kdσ_7 k2σ_7 z7σ_7 iz_9 if_10 qw iz_11 gσ_12 vσ_12 lsσ_12 kdσ_12 k2σ_12 z7σ_12 iz_13 if_14 c_15 iz_16 gσ_17 vσ_17 k2σ_17 z7σ_17 gσ_18 vσ_18 kdσ_18 k2σ_18 z7σ_18 c_19 gσ_20 vσ_20 kdσ_20 k2σ_20 z7σ_20 kc_21 ahpσ_23 bhpσ_23 chpσ_23 gσ_24 vσ_24 kdσ_24 k2σ_24 z7σ_24 c_25 gσ_26 vσ_26; omega) | omega), if_neg (by first | (clear hn ho h0 gσ wσ k2σ hh if_1 if_2 iz_3 bhpσ_5 chpσ_5 j29 kc_8 gσ_7 wσ_7 kdσ_7 k2σ_7 z7σ_7 iz_9 if_10 qw iz_11 gσ_12 vσ_12 lsσ_12 kdσ_12 k2σ_12 z7σ_12 iz_13 if_14 c_15 iz_16 gσ_17 vσ_17 k2σ_17 z7σ_17 gσ_18 vσ_18 kdσ_18 k2σ_18 z7σ_18 c_19 gσ_20 vσ_20 kdσ_20 k2σ_20 z7σ_20 kc_21 ahpσ_23 bhpσ_23 chpσ_23 gσ_24 vσ_24 kdσ_24 k2σ_24 z7σ_24 c_25 gσ_26 vσ_26; omega) | omega)] <;> exact kqσ_24 j h
              have kdσ_26 : m_KD 40 X σ σ_26 := kdσ_24.ar hσ_26 (q_tk (k' := 34) hI ha rfl (Nat.succ_ne_zero _)) (by decide) (by decide)
              have k2σ_26 : m_c X σ_26 a 0 = m_c X σ a 0 ∧ m_c X σ_26 a 2 = m_c X σ a 2 := ⟨by rw [mcσ_26 0 (by decide), if_neg (by first | (clear hn ho h0 gσ wσ k2σ hh if_1 if_2 iz_3 bhpσ_5 chpσ_5 j29 kc_8 gσ_7 wσ_7 kdσ_7 k2σ_7 z7σ_7 iz_9 if_10 qw iz_11 gσ_12 vσ_12 lsσ_12 kdσ_12 k2σ_12 z7σ_12 iz_13 if_14 c_15 iz_16 gσ_17 vσ_17 k2σ_17 z7σ_17 gσ_18 vσ_18 kdσ_18 k2σ_18 z7σ_18 c_19 gσ_20 vσ_20 kdσ_20 k2σ_20 z7σ_20 kc_21 ahpσ_23 bhpσ_23 chpσ_23 gσ_24 vσ_24 kdσ_24 k2σ_24 z7σ_24 c_25 gσ_26 vσ_26 kdσ_26; omega) | omega)] <;> exact k2σ_24.1, by rw [mcσ_26 2 (by decide), if_neg (by first | (clear hn ho h0 gσ wσ k2σ hh if_1 if_2 iz_3 bhpσ_5 chpσ_5 j29 kc_8 gσ_7 wσ_7 kdσ_7 k2σ_7 z7σ_7 iz_9 if_10 qw iz_11 gσ_12 vσ_12 lsσ_12 kdσ_12 k2σ_12 z7σ_12 iz_13 if_14 c_15 iz_16 gσ_17 vσ_17 k2σ_17 z7σ_17 gσ_18 vσ_18 kdσ_18 k2σ_18 z7σ_18 c_19 gσ_20 vσ_20 kdσ_20 k2σ_20 z7σ_20 kc_21 ahpσ_23 bhpσ_23 chpσ_23 gσ_24 vσ_24 kdσ_24 k2σ_24 z7σ_24 c_25 gσ_26 vσ_26 kdσ_26; omega) | omega)] <;> exact k2σ_24.2⟩
              have z7σ_26 : m_c X σ_26 a 7 = 0 := (by rw [mcσ_26 7 (by decide), if_neg (by first | (clear hn ho h0 gσ wσ k2σ hh if_1 if_2 iz_3 bhpσ_5 chpσ_5 j29 kc_8 gσ_7 wσ_7 kdσ_7 k2σ_7 z7σ_7 iz_9 if_10 qw iz_11 gσ_12 vσ_12 lsσ_12 kdσ_12 k2σ_12 z7σ_12 iz_13 if_14 c_15 iz_16 gσ_17 vσ_17 k2σ_17 z7σ_17 gσ_18 vσ_18 kdσ_18 k2σ_18 z7σ_18 c_19 gσ_20 vσ_20 kdσ_20 k2σ_20 z7σ_20 kc_21 ahpσ_23 bhpσ_23 chpσ_23 gσ_24 vσ_24 kdσ_24 k2σ_24 z7σ_24 c_25 gσ_26 vσ_26 kdσ_26 k2σ_26; omega) | omega)]; exact z7σ_24)
              refine lv_iload_n hx hb dX12_doubts_132 rfl (lv_at hl 3 rfl) ?_
              refine q_if_eq (A := x_6.toInt) E rfl (tgt := 140) dX12_doubts_133 (by decide) (fun c_27 => ?_) (fun c_27 => ?_)
              · skip
                replace hF := q_ifp hF c_27
                refine lv_iload_n hx hb dX12_doubts_140 rfl (lv_at hl 2 rfl) ?_
                exact q_reti E hr hlk hI ⟨gσ_26, vσ_26, kqσ_26, kdσ_26, (hF.trans hout), fr_σ_26⟩ dX12_doubts_141
              · skip
                replace hF := q_ifn hF c_27
                refine lv_iload_n hx hb dX12_doubts_136 rfl (lv_at hl 1 rfl) ?_
                refine lv_goto (tgt := 141) hx hb dX12_doubts_137 (by decide) ?_
                exact q_reti E hr hlk hI ⟨gσ_26, vσ_26, kqσ_26, kdσ_26, (hF.trans hout), fr_σ_26⟩ dX12_doubts_141
            · skip
              replace hF := q_ifn hF c_25
              refine lv_iload_n hx hb dX12_doubts_126 rfl (lv_at hl 2 rfl) ?_
              refine lv_goto (tgt := 131) hx hb dX12_doubts_127 (by decide) ?_
              refine q_iastN E hI (q_tk (k' := 34) hI ha rfl (Nat.succ_ne_zero _)) ⟨by decide, rfl⟩ (by decide) (by rw [q_lnk (v := 4650) hI (q_tk (k' := 34) hI ha rfl (Nat.succ_ne_zero _)) rfl (by decide)]; decide) (show 1 < 2 by decide) (q_inU rfl) dX12_doubts_131 (fun H locs σ_28 hσ_28 hI => ?_)
              replace hF := q_letX hF hσ_28
              have fr_σ_28 := fr_σ_24.si hσ_28 (q_tk (k' := 34) hI ha rfl (Nat.succ_ne_zero _)) rfl
              have mcσ_28 := m_wr (v := f_1) (A := 6) hσ_28 (by decide) (by decide)
              have gσ_28 : m_G (m_c X σ_28 a) := m_G.wr gσ_24 mcσ_28 (by first | (clear hn h0 gσ wσ k2σ if_2 iz_3 bhpσ_5 chpσ_5 j29 kc_8 gσ_7 wσ_7 kdσ_7 z7σ_7 if_10 qw iz_11 gσ_12 vσ_12 lsσ_12 kdσ_12 z7σ_12 if_14 c_15 iz_16 gσ_17 vσ_17 z7σ_17 gσ_18 vσ_18 kdσ_18 z7σ_18 c_19 gσ_20 vσ_20 kdσ_20 z7σ_20 kc_21 ahpσ_23 bhpσ_23 chpσ_23 gσ_24 vσ_24 kdσ_24 c_25; omega) | omega)
              have vσ_28 : m_W (m_c X σ_28 a) (n + 1) := m_W.wr vσ_24 mcσ_28 (by first | (clear hn ho h0 gσ wσ k2σ hh if_1 if_2 iz_3 bhpσ_5 chpσ_5 j29 kc_8 gσ_7 wσ_7 kdσ_7 k2σ_7 z7σ_7 iz_9 if_10 qw iz_11 gσ_12 vσ_12 lsσ_12 kdσ_12 k2σ_12 z7σ_12 iz_13 if_14 c_15 iz_16 gσ_17 vσ_17 k2σ_17 z7σ_17 gσ_18 vσ_18 kdσ_18 k2σ_18 z7σ_18 c_19 gσ_20 vσ_20 kdσ_20 k2σ_20 z7σ_20 kc_21 ahpσ_23 bhpσ_23 chpσ_23 gσ_24 vσ_24 kdσ_24 k2σ_24 z7σ_24 c_25 gσ_28; omega) | omega)
              have kqσ_28 : ∀ j, 654 ≤ j → m_c X σ_28 a j = m_c X σ a j := fun j h => by rw [mcσ_28 j (by first | (clear hn ho h0 gσ wσ k2σ hh if_1 if_2 iz_3 bhpσ_5 chpσ_5 j29 kc_8 gσ_7 wσ_7 kdσ_7 k2σ_7 z7σ_7 iz_9 if_10 qw iz_11 gσ_12 vσ_12 lsσ_12 kdσ_12 k2σ_12 z7σ_12 iz_13 if_14 c_15 iz_16 gσ_17 vσ_17 k2σ_17 z7σ_17 gσ_18 vσ_18 kdσ_18 k2σ_18 z7σ_18 c_19 gσ_20 vσ_20 kdσ_20 k2σ_20 z7σ_20 kc_21 ahpσ_23 bhpσ_23 chpσ_23 gσ_24 vσ_24 kdσ_24 k2σ_24 z7σ_24 c_25 gσ_28 vσ_28; omega) | omega), if_neg (by first | (clear hn ho h0 gσ wσ k2σ hh if_1 if_2 iz_3 bhpσ_5 chpσ_5 j29 kc_8 gσ_7 wσ_7 kdσ_7 k2σ_7 z7σ_7 iz_9 if_10 qw iz_11 gσ_12 vσ_12 lsσ_12 kdσ_12 k2σ_12 z7σ_12 iz_13 if_14 c_15 iz_16 gσ_17 vσ_17 k2σ_17 z7σ_17 gσ_18 vσ_18 kdσ_18 k2σ_18 z7σ_18 c_19 gσ_20 vσ_20 kdσ_20 k2σ_20 z7σ_20 kc_21 ahpσ_23 bhpσ_23 chpσ_23 gσ_24 vσ_24 kdσ_24 k2σ_24 z7σ_24 c_25 gσ_28 vσ_28; omega) | omega)] <;> exact kqσ_24 j h
              have kdσ_28 : m_KD 40 X σ σ_28 := kdσ_24.ar hσ_28 (q_tk (k' := 34) hI ha rfl (Nat.succ_ne_zero _)) (by decide) (by decide)
              have k2σ_28 : m_c X σ_28 a 0 = m_c X σ a 0 ∧ m_c X σ_28 a 2 = m_c X σ a 2 := ⟨by rw [mcσ_28 0 (by decide), if_neg (by first | (clear hn ho h0 gσ wσ k2σ hh if_1 if_2 iz_3 bhpσ_5 chpσ_5 j29 kc_8 gσ_7 wσ_7 kdσ_7 k2σ_7 z7σ_7 iz_9 if_10 qw iz_11 gσ_12 vσ_12 lsσ_12 kdσ_12 k2σ_12 z7σ_12 iz_13 if_14 c_15 iz_16 gσ_17 vσ_17 k2σ_17 z7σ_17 gσ_18 vσ_18 kdσ_18 k2σ_18 z7σ_18 c_19 gσ_20 vσ_20 kdσ_20 k2σ_20 z7σ_20 kc_21 ahpσ_23 bhpσ_23 chpσ_23 gσ_24 vσ_24 kdσ_24 k2σ_24 z7σ_24 c_25 gσ_28 vσ_28 kdσ_28; omega) | omega)] <;> exact k2σ_24.1, by rw [mcσ_28 2 (by decide), if_neg (by first | (clear hn ho h0 gσ wσ k2σ hh if_1 if_2 iz_3 bhpσ_5 chpσ_5 j29 kc_8 gσ_7 wσ_7 kdσ_7 k2σ_7 z7σ_7 iz_9 if_10 qw iz_11 gσ_12 vσ_12 lsσ_12 kdσ_12 k2σ_12 z7σ_12 iz_13 if_14 c_15 iz_16 gσ_17 vσ_17 k2σ_17 z7σ_17 gσ_18 vσ_18 kdσ_18 k2σ_18 z7σ_18 c_19 gσ_20 vσ_20 kdσ_20 k2σ_20 z7σ_20 kc_21 ahpσ_23 bhpσ_23 chpσ_23 gσ_24 vσ_24 kdσ_24 k2σ_24 z7σ_24 c_25 gσ_28 vσ_28 kdσ_28; omega) | omega)] <;> exact k2σ_24.2⟩
              have z7σ_28 : m_c X σ_28 a 7 = 0 := (by rw [mcσ_28 7 (by decide), if_neg (by first | (clear hn ho h0 gσ wσ k2σ hh if_1 if_2 iz_3 bhpσ_5 chpσ_5 j29 kc_8 gσ_7 wσ_7 kdσ_7 k2σ_7 z7σ_7 iz_9 if_10 qw iz_11 gσ_12 vσ_12 lsσ_12 kdσ_12 k2σ_12 z7σ_12 iz_13 if_14 c_15 iz_16 gσ_17 vσ_17 k2σ_17 z7σ_17 gσ_18 vσ_18 kdσ_18 k2σ_18 z7σ_18 c_19 gσ_20 vσ_20 kdσ_20 k2σ_20 z7σ_20 kc_21 ahpσ_23 bhpσ_23 chpσ_23 gσ_24 vσ_24 kdσ_24 k2σ_24 z7σ_24 c_25 gσ_28 vσ_28 kdσ_28 k2σ_28; omega) | omega)]; exact z7σ_24)
              refine lv_iload_n hx hb dX12_doubts_132 rfl (lv_at hl 3 rfl) ?_
              refine q_if_eq (A := x_6.toInt) E rfl (tgt := 140) dX12_doubts_133 (by decide) (fun c_29 => ?_) (fun c_29 => ?_)
              · skip
                replace hF := q_ifp hF c_29
                refine lv_iload_n hx hb dX12_doubts_140 rfl (lv_at hl 2 rfl) ?_
                exact q_reti E hr hlk hI ⟨gσ_28, vσ_28, kqσ_28, kdσ_28, (hF.trans hout), fr_σ_28⟩ dX12_doubts_141
              · skip
                replace hF := q_ifn hF c_29
                refine lv_iload_n hx hb dX12_doubts_136 rfl (lv_at hl 1 rfl) ?_
                refine lv_goto (tgt := 141) hx hb dX12_doubts_137 (by decide) ?_
                exact q_reti E hr hlk hI ⟨gσ_28, vσ_28, kqσ_28, kdσ_28, (hF.trans hout), fr_σ_28⟩ dX12_doubts_141
          refine q_cv (q_rV11_1 (rest := []) E (hml.trans hl.1.symm) hI (c_X12_takes l X σ_18 a f_1 ha gσ_18 (by first | (clear hn h0 gσ wσ k2σ if_2 iz_3 bhpσ_5 chpσ_5 j29 kc_8 gσ_7 wσ_7 kdσ_7 z7σ_7 if_10 qw iz_11 gσ_12 vσ_12 lsσ_12 kdσ_12 z7σ_12 if_14 c_15 iz_16 gσ_17 vσ_17 z7σ_17 gσ_18 vσ_18 kdσ_18 z7σ_18 c_19; omega) | omega) (by omega)) kv_X12_325 ha ⟨Nat.le_of_ble_eq_true rfl, Nat.le_of_ble_eq_true rfl⟩ (Nat.le_of_ble_eq_true rfl) dX12_doubts_102) hI (Nat.le_of_ble_eq_true rfl) (fun σ_31 H locs hpσ_31 hkσ_31 hI => ?_)
          have ahpσ_31 := hpσ_31.1
          have bhpσ_31 := hpσ_31.2.1
          have chpσ_31 := hpσ_31.2.2.1
          have dhpσ_31 := hpσ_31.2.2.2.1
          have ehpσ_31 := hpσ_31.2.2.2.2
          clear hpσ_31
          have fr_σ_31 := fr_σ_18.call ehpσ_31 rfl rfl
          replace hF := q_letX hF dhpσ_31
          have gσ_31 : m_G (m_c X σ_31 a) := ahpσ_31
          have vσ_31 : m_W (m_c X σ_31 a) (n + 1) := m_W.ext (fun j h0 h1 => bhpσ_31 j (by first | (clear hn ho h0 gσ wσ k2σ hh if_1 if_2 iz_3 bhpσ_5 chpσ_5 j29 kc_8 gσ_7 wσ_7 kdσ_7 k2σ_7 z7σ_7 iz_9 if_10 qw iz_11 gσ_12 vσ_12 lsσ_12 kdσ_12 k2σ_12 z7σ_12 iz_13 if_14 c_15 iz_16 gσ_17 vσ_17 k2σ_17 z7σ_17 gσ_18 vσ_18 kdσ_18 k2σ_18 z7σ_18 c_19 ahpσ_31 bhpσ_31 chpσ_31 dhpσ_31 ehpσ_31 gσ_31; omega) | omega) (by first | (clear hn ho h0 gσ wσ k2σ hh if_1 if_2 iz_3 bhpσ_5 chpσ_5 j29 kc_8 gσ_7 wσ_7 kdσ_7 k2σ_7 z7σ_7 iz_9 if_10 qw iz_11 gσ_12 vσ_12 lsσ_12 kdσ_12 k2σ_12 z7σ_12 iz_13 if_14 c_15 iz_16 gσ_17 vσ_17 k2σ_17 z7σ_17 gσ_18 vσ_18 kdσ_18 k2σ_18 z7σ_18 c_19 ahpσ_31 bhpσ_31 chpσ_31 dhpσ_31 ehpσ_31 gσ_31; omega) | omega)) vσ_18
          have kqσ_31 : ∀ j, 654 ≤ j → m_c X σ_31 a j = m_c X σ a j := (fun j h => (bhpσ_31 j (by first | (clear hn ho h0 gσ wσ k2σ hh if_1 if_2 iz_3 bhpσ_5 chpσ_5 j29 kc_8 gσ_7 wσ_7 kdσ_7 k2σ_7 z7σ_7 iz_9 if_10 qw iz_11 gσ_12 vσ_12 lsσ_12 kdσ_12 k2σ_12 z7σ_12 iz_13 if_14 c_15 iz_16 gσ_17 vσ_17 k2σ_17 z7σ_17 gσ_18 vσ_18 kdσ_18 k2σ_18 z7σ_18 c_19 ahpσ_31 bhpσ_31 chpσ_31 dhpσ_31 ehpσ_31 gσ_31 vσ_31; omega) | omega) (by first | (clear hn ho h0 gσ wσ k2σ hh if_1 if_2 iz_3 bhpσ_5 chpσ_5 j29 kc_8 gσ_7 wσ_7 kdσ_7 k2σ_7 z7σ_7 iz_9 if_10 qw iz_11 gσ_12 vσ_12 lsσ_12 kdσ_12 k2σ_12 z7σ_12 iz_13 if_14 c_15 iz_16 gσ_17 vσ_17 k2σ_17 z7σ_17 gσ_18 vσ_18 kdσ_18 k2σ_18 z7σ_18 c_19 ahpσ_31 bhpσ_31 chpσ_31 dhpσ_31 ehpσ_31 gσ_31 vσ_31; omega) | omega)).trans (kqσ_18 j h))
          have kdσ_31 : m_KD 40 X σ σ_31 := kdσ_18.tr chpσ_31
          have k2σ_31 : m_c X σ_31 a 0 = m_c X σ a 0 ∧ m_c X σ_31 a 2 = m_c X σ a 2 := ⟨(bhpσ_31 0 (by decide) (by decide)).trans k2σ_18.1, (bhpσ_31 2 (by decide) (by decide)).trans k2σ_18.2⟩
          have z7σ_31 : m_c X σ_31 a 7 = 0 := (bhpσ_31 7 (by decide) (by decide)).trans z7σ_18
          exact J_105_20 σ_31 _ _ ls fr_σ_31 gσ_31 vσ_31 kqσ_31 kdσ_31 k2σ_31 z7σ_31 hF hI (lv_sub hl [0, 1, 2, 3] rfl)
        · skip
          replace hF := q_ifn hF c_19
          refine lv_iload_n hx hb dX12_doubts_97 rfl (lv_at hl 1 rfl) ?_
          refine lv_goto (tgt := 102) hx hb dX12_doubts_98 (by decide) ?_
          have J_105_32 : ∀  (σ_32 : ST) (H : Heap) (locs : List Loc) (ls : Array Slot), (q_ow [(34, 99)] [] X σ σ_32) → (m_G (m_c X σ_32 a)) → (m_W (m_c X σ_32 a) (n + 1)) → (∀ j, 654 ≤ j → m_c X σ_32 a j = m_c X σ a j) → (m_KD 40 X σ σ_32) → (m_c X σ_32 a 0 = m_c X σ a 0 ∧ m_c X σ_32 a 2 = m_c X σ a 2) → (m_c X σ_32 a 7 = 0) → (F_X12_doubts_J105_4 X a x_6 v1 f_1 σ_32 = out) → q_I X 1 σ s.heap locs σ_32 H → lv_has ls 4 [(0, .ref a), (1, .int v1), (2, .int f_1), (3, .int x_6)] → W p l e (q_rm 2 45) s m ([.ref a, .int v1] : List Value).toArray below meth c H locs 0 0 (MQ below (q_Qi X 1 σ (fun (r : Int32) (σ' : ST) => (m_G (m_c X σ' a)) ∧ (m_W (m_c X σ' a) (n + 1)) ∧ (∀ j, 654 ≤ j → m_c X σ' a j = m_c X σ a j) ∧ (m_KD 40 X σ σ') ∧ (r, σ') = F_X12_doubts X σ a v1 ∧ q_ow [(34, 99)] [] X σ σ')) ([.ref a, .int v1] : List Value).toArray s 0 0 (q_reg X)) (F0 m 105 ls []) := by
            clear hF
            intro σ_32 H locs ls fr_σ_32 gσ_32 vσ_32 kqσ_32 kdσ_32 k2σ_32 z7σ_32 hF hI hl
            unfold F_X12_doubts_J105_4 at hF
            refine lv_aload_n hx hb dX12_doubts_105 rfl (lv_at hl 0 rfl) ?_
            refine gs_X12_35_12 E hI ha dX12_doubts_106 ?_
            refine lv_iconst (v := 5) hx hb dX12_doubts_109 zki_5 ?_
            refine lv_aload_n hx hb dX12_doubts_110 rfl (lv_at hl 0 rfl) ?_
            refine lv_iconst (v := 0) hx hb dX12_doubts_111 zki_0 ?_
            have kc_33 : (0 : Int32).toInt = 0 := zt_0
            refine q_ci (q_rV11_1 (rest := [.int 5, .ref (q_rf X a 20)]) E (hml.trans hl.1.symm) hI (c_X12_nextKind l X σ_32 a (0 : Int32) ha gσ_32) kv_X12_315 ha ⟨Nat.le_of_ble_eq_true rfl, Nat.le_of_ble_eq_true rfl⟩ (Nat.le_of_ble_eq_true rfl) dX12_doubts_112) hI (Nat.le_of_ble_eq_true rfl) (fun r_34 σ_35 H locs hpσ_35 hkσ_35 hI => ?_)
            have ahpσ_35 := hpσ_35.1
            have bhpσ_35 := hpσ_35.2.1
            have chpσ_35 := hpσ_35.2.2
            clear hpσ_35
            replace hI := q_Irw ahpσ_35 hI
            replace hF := q_letX hF chpσ_35
            refine q_iastN E hI (q_tk (k' := 34) hI ha rfl (Nat.succ_ne_zero _)) ⟨by decide, rfl⟩ (by decide) (by rw [q_lnk (v := 4650) hI (q_tk (k' := 34) hI ha rfl (Nat.succ_ne_zero _)) rfl (by decide)]; decide) (show 1 < 2 by decide) (q_inU rfl) dX12_doubts_115 (fun H locs σ_36 hσ_36 hI => ?_)
            replace hF := q_letX hF hσ_36
            have fr_σ_36 := fr_σ_32.si hσ_36 (q_tk (k' := 34) hI ha rfl (Nat.succ_ne_zero _)) rfl
            have mcσ_36 := m_wr (v := r_34) (A := 5) hσ_36 (by decide) (by decide)
            have gσ_36 : m_G (m_c X σ_36 a) := m_G.wr gσ_32 mcσ_36 (by first | (clear hn ho h0 gσ wσ k2σ hh if_1 if_2 iz_3 bhpσ_5 chpσ_5 j29 kc_8 gσ_7 wσ_7 kdσ_7 k2σ_7 z7σ_7 iz_9 if_10 qw iz_11 gσ_12 vσ_12 lsσ_12 kdσ_12 k2σ_12 z7σ_12 iz_13 if_14 c_15 iz_16 gσ_17 vσ_17 k2σ_17 z7σ_17 gσ_18 vσ_18 kdσ_18 k2σ_18 z7σ_18 c_19 gσ_32 vσ_32 kdσ_32 k2σ_32 kc_33 ahpσ_35 chpσ_35; omega) | omega)
            have vσ_36 : m_W (m_c X σ_36 a) (n + 1) := m_W.wr vσ_32 mcσ_36 (by first | (clear hn ho h0 gσ wσ k2σ hh if_1 if_2 iz_3 bhpσ_5 chpσ_5 j29 kc_8 gσ_7 wσ_7 kdσ_7 k2σ_7 z7σ_7 iz_9 if_10 qw iz_11 gσ_12 vσ_12 lsσ_12 kdσ_12 k2σ_12 z7σ_12 iz_13 if_14 c_15 iz_16 gσ_17 vσ_17 k2σ_17 z7σ_17 gσ_18 vσ_18 kdσ_18 k2σ_18 z7σ_18 c_19 gσ_32 vσ_32 kdσ_32 k2σ_32 z7σ_32 kc_33 ahpσ_35 bhpσ_35 chpσ_35 gσ_36; omega) | omega)
            have kqσ_36 : ∀ j, 654 ≤ j → m_c X σ_36 a j = m_c X σ a j := fun j h => by rw [mcσ_36 j (by first | (clear hn ho h0 gσ wσ k2σ hh if_1 if_2 iz_3 bhpσ_5 chpσ_5 j29 kc_8 gσ_7 wσ_7 kdσ_7 k2σ_7 z7σ_7 iz_9 if_10 qw iz_11 gσ_12 vσ_12 lsσ_12 kdσ_12 k2σ_12 z7σ_12 iz_13 if_14 c_15 iz_16 gσ_17 vσ_17 k2σ_17 z7σ_17 gσ_18 vσ_18 kdσ_18 k2σ_18 z7σ_18 c_19 gσ_32 vσ_32 kdσ_32 k2σ_32 z7σ_32 kc_33 ahpσ_35 bhpσ_35 chpσ_35 gσ_36 vσ_36; omega) | omega), if_neg (by first | (clear hn ho h0 gσ wσ k2σ hh if_1 if_2 iz_3 bhpσ_5 chpσ_5 j29 kc_8 gσ_7 wσ_7 kdσ_7 k2σ_7 z7σ_7 iz_9 if_10 qw iz_11 gσ_12 vσ_12 lsσ_12 kdσ_12 k2σ_12 z7σ_12 iz_13 if_14 c_15 iz_16 gσ_17 vσ_17 k2σ_17 z7σ_17 gσ_18 vσ_18 kdσ_18 k2σ_18 z7σ_18 c_19 gσ_32 vσ_32 kdσ_32 k2σ_32 z7σ_32 kc_33 ahpσ_35 bhpσ_35 chpσ_35 gσ_36 vσ_36; omega) | omega)] <;> exact kqσ_32 j h
            have kdσ_36 : m_KD 40 X σ σ_36 := kdσ_32.ar hσ_36 (q_tk (k' := 34) hI ha rfl (Nat.succ_ne_zero _)) (by decide) (by decide)
            have k2σ_36 : m_c X σ_36 a 0 = m_c X σ a 0 ∧ m_c X σ_36 a 2 = m_c X σ a 2 := ⟨by rw [mcσ_36 0 (by decide), if_neg (by first | (clear hn ho h0 gσ wσ k2σ hh if_1 if_2 iz_3 bhpσ_5 chpσ_5 j29 kc_8 gσ_7 wσ_7 kdσ_7 k2σ_7 z7σ_7 iz_9 if_10 qw iz_11 gσ_12 vσ_12 lsσ_12 kdσ_12 k2σ_12 z7σ_12 iz_13 if_14 c_15 iz_16 gσ_17 vσ_17 k2σ_17 z7σ_17 gσ_18 vσ_18 kdσ_18 k2σ_18 z7σ_18 c_19 gσ_32 vσ_32 kdσ_32 k2σ_32 z7σ_32 kc_33 ahpσ_35 bhpσ_35 chpσ_35 gσ_36 vσ_36 kdσ_36; omega) | omega)] <;> exact k2σ_32.1, by rw [mcσ_36 2 (by decide), if_neg (by first | (clear hn ho h0 gσ wσ k2σ hh if_1 if_2 iz_3 bhpσ_5 chpσ_5 j29 kc_8 gσ_7 wσ_7 kdσ_7 k2σ_7 z7σ_7 iz_9 if_10 qw iz_11 gσ_12 vσ_12 lsσ_12 kdσ_12 k2σ_12 z7σ_12 iz_13 if_14 c_15 iz_16 gσ_17 vσ_17 k2σ_17 z7σ_17 gσ_18 vσ_18 kdσ_18 k2σ_18 z7σ_18 c_19 gσ_32 vσ_32 kdσ_32 k2σ_32 z7σ_32 kc_33 ahpσ_35 bhpσ_35 chpσ_35 gσ_36 vσ_36 kdσ_36; omega) | omega)] <;> exact k2σ_32.2⟩
            have z7σ_36 : m_c X σ_36 a 7 = 0 := (by rw [mcσ_36 7 (by decide), if_neg (by first | (clear hn ho h0 gσ wσ k2σ hh if_1 if_2 iz_3 bhpσ_5 chpσ_5 j29 kc_8 gσ_7 wσ_7 kdσ_7 k2σ_7 z7σ_7 iz_9 if_10 qw iz_11 gσ_12 vσ_12 lsσ_12 kdσ_12 k2σ_12 z7σ_12 iz_13 if_14 c_15 iz_16 gσ_17 vσ_17 k2σ_17 z7σ_17 gσ_18 vσ_18 kdσ_18 k2σ_18 z7σ_18 c_19 gσ_32 vσ_32 kdσ_32 k2σ_32 z7σ_32 kc_33 ahpσ_35 bhpσ_35 chpσ_35 gσ_36 vσ_36 kdσ_36 k2σ_36; omega) | omega)]; exact z7σ_32)
            refine lv_aload_n hx hb dX12_doubts_116 rfl (lv_at hl 0 rfl) ?_
            refine gs_X12_35_12 E hI ha dX12_doubts_117 ?_
            refine lv_bipush (v := 6) hx hb dX12_doubts_120 zkb_6 ?_
            refine lv_iload_n hx hb dX12_doubts_122 rfl (lv_at hl 3 rfl) ?_
            refine q_if_eq (A := x_6.toInt) E rfl (tgt := 130) dX12_doubts_123 (by decide) (fun c_37 => ?_) (fun c_37 => ?_)
            · skip
              replace hF := q_ifp hF c_37
              refine lv_iload_n hx hb dX12_doubts_130 rfl (lv_at hl 1 rfl) ?_
              refine q_iastN E hI (q_tk (k' := 34) hI ha rfl (Nat.succ_ne_zero _)) ⟨by decide, rfl⟩ (by decide) (by rw [q_lnk (v := 4650) hI (q_tk (k' := 34) hI ha rfl (Nat.succ_ne_zero _)) rfl (by decide)]; decide) (show 1 < 2 by decide) (q_inU rfl) dX12_doubts_131 (fun H locs σ_38 hσ_38 hI => ?_)
              replace hF := q_letX hF hσ_38
              have fr_σ_38 := fr_σ_36.si hσ_38 (q_tk (k' := 34) hI ha rfl (Nat.succ_ne_zero _)) rfl
              have mcσ_38 := m_wr (v := v1) (A := 6) hσ_38 (by decide) (by decide)
              have gσ_38 : m_G (m_c X σ_38 a) := m_G.wr gσ_36 mcσ_38 (by first | (clear hn ho h0 gσ wσ k2σ hh if_1 if_2 iz_3 bhpσ_5 chpσ_5 j29 kc_8 gσ_7 wσ_7 kdσ_7 z7σ_7 iz_9 if_10 qw iz_11 gσ_12 vσ_12 lsσ_12 kdσ_12 z7σ_12 iz_13 if_14 c_15 iz_16 gσ_17 vσ_17 z7σ_17 gσ_18 vσ_18 kdσ_18 z7σ_18 c_19 gσ_32 vσ_32 kdσ_32 z7σ_32 kc_33 ahpσ_35 bhpσ_35 chpσ_35 gσ_36 vσ_36 kdσ_36 c_37; omega) | omega)
              have vσ_38 : m_W (m_c X σ_38 a) (n + 1) := m_W.wr vσ_36 mcσ_38 (by first | (clear hn ho h0 gσ wσ k2σ hh if_1 if_2 iz_3 bhpσ_5 chpσ_5 j29 kc_8 gσ_7 wσ_7 kdσ_7 k2σ_7 z7σ_7 iz_9 if_10 qw iz_11 gσ_12 vσ_12 lsσ_12 kdσ_12 k2σ_12 z7σ_12 iz_13 if_14 c_15 iz_16 gσ_17 vσ_17 k2σ_17 z7σ_17 gσ_18 vσ_18 kdσ_18 k2σ_18 z7σ_18 c_19 gσ_32 vσ_32 kdσ_32 k2σ_32 z7σ_32 kc_33 ahpσ_35 bhpσ_35 chpσ_35 gσ_36 vσ_36 kdσ_36 k2σ_36 z7σ_36 c_37 gσ_38; omega) | omega)
              have kqσ_38 : ∀ j, 654 ≤ j → m_c X σ_38 a j = m_c X σ a j := fun j h => by rw [mcσ_38 j (by first | (clear hn ho h0 gσ wσ k2σ hh if_1 if_2 iz_3 bhpσ_5 chpσ_5 j29 kc_8 gσ_7 wσ_7 kdσ_7 k2σ_7 z7σ_7 iz_9 if_10 qw iz_11 gσ_12 vσ_12 lsσ_12 kdσ_12 k2σ_12 z7σ_12 iz_13 if_14 c_15 iz_16 gσ_17 vσ_17 k2σ_17 z7σ_17 gσ_18 vσ_18 kdσ_18 k2σ_18 z7σ_18 c_19 gσ_32 vσ_32 kdσ_32 k2σ_32 z7σ_32 kc_33 ahpσ_35 bhpσ_35 chpσ_35 gσ_36 vσ_36 kdσ_36 k2σ_36 z7σ_36 c_37 gσ_38 vσ_38; omega) | omega), if_neg (by first | (clear hn ho h0 gσ wσ k2σ hh if_1 if_2 iz_3 bhpσ_5 chpσ_5 j29 kc_8 gσ_7 wσ_7 kdσ_7 k2σ_7 z7σ_7 iz_9 if_10 qw iz_11 gσ_12 vσ_12 lsσ_12 kdσ_12 k2σ_12 z7σ_12 iz_13 if_14 c_15 iz_16 gσ_17 vσ_17 k2σ_17 z7σ_17 gσ_18 vσ_18 kdσ_18 k2σ_18 z7σ_18 c_19 gσ_32 vσ_32 kdσ_32 k2σ_32 z7σ_32 kc_33 ahpσ_35 bhpσ_35 chpσ_35 gσ_36 vσ_36 kdσ_36 k2σ_36 z7σ_36 c_37 gσ_38 vσ_38; omega) | omega)] <;> exact kqσ_36 j h
              have kdσ_38 : m_KD 40 X σ σ_38 := kdσ_36.ar hσ_38 (q_tk (k' := 34) hI ha rfl (Nat.succ_ne_zero _)) (by decide) (by decide)
              have k2σ_38 : m_c X σ_38 a 0 = m_c X σ a 0 ∧ m_c X σ_38 a 2 = m_c X σ a 2 := ⟨by rw [mcσ_38 0 (by decide), if_neg (by first | (clear hn ho h0 gσ wσ k2σ hh if_1 if_2 iz_3 bhpσ_5 chpσ_5 j29 kc_8 gσ_7 wσ_7 kdσ_7 k2σ_7 z7σ_7 iz_9 if_10 qw iz_11 gσ_12 vσ_12 lsσ_12 kdσ_12 k2σ_12 z7σ_12 iz_13 if_14 c_15 iz_16 gσ_17 vσ_17 k2σ_17 z7σ_17 gσ_18 vσ_18 kdσ_18 k2σ_18 z7σ_18 c_19 gσ_32 vσ_32 kdσ_32 k2σ_32 z7σ_32 kc_33 ahpσ_35 bhpσ_35 chpσ_35 gσ_36 vσ_36 kdσ_36 k2σ_36 z7σ_36 c_37 gσ_38 vσ_38 kdσ_38; omega) | omega)] <;> exact k2σ_36.1, by rw [mcσ_38 2 (by decide), if_neg (by first | (clear hn ho h0 gσ wσ k2σ hh if_1 if_2 iz_3 bhpσ_5 chpσ_5 j29 kc_8 gσ_7 wσ_7 kdσ_7 k2σ_7 z7σ_7 iz_9 if_10 qw iz_11 gσ_12 vσ_12 lsσ_12 kdσ_12 k2σ_12 z7σ_12 iz_13 if_14 c_15 iz_16 gσ_17 vσ_17 k2σ_17 z7σ_17 gσ_18 vσ_18 kdσ_18 k2σ_18 z7σ_18 c_19 gσ_32 vσ_32 kdσ_32 k2σ_32 z7σ_32 kc_33 ahpσ_35 bhpσ_35 chpσ_35 gσ_36 vσ_36 kdσ_36 k2σ_36 z7σ_36 c_37 gσ_38 vσ_38 kdσ_38; omega) | omega)] <;> exact k2σ_36.2⟩
              have z7σ_38 : m_c X σ_38 a 7 = 0 := (by rw [mcσ_38 7 (by decide), if_neg (by first | (clear hn ho h0 gσ wσ k2σ hh if_1 if_2 iz_3 bhpσ_5 chpσ_5 j29 kc_8 gσ_7 wσ_7 kdσ_7 k2σ_7 z7σ_7 iz_9 if_10 qw iz_11 gσ_12 vσ_12 lsσ_12 kdσ_12 k2σ_12 z7σ_12 iz_13 if_14 c_15 iz_16 gσ_17 vσ_17 k2σ_17 z7σ_17 gσ_18 vσ_18 kdσ_18 k2σ_18 z7σ_18 c_19 gσ_32 vσ_32 kdσ_32 k2σ_32 z7σ_32 kc_33 ahpσ_35 bhpσ_35 chpσ_35 gσ_36 vσ_36 kdσ_36 k2σ_36 z7σ_36 c_37 gσ_38 vσ_38 kdσ_38 k2σ_38; omega) | omega)]; exact z7σ_36)
              refine lv_iload_n hx hb dX12_doubts_132 rfl (lv_at hl 3 rfl) ?_
              refine q_if_eq (A := x_6.toInt) E rfl (tgt := 140) dX12_doubts_133 (by decide) (fun c_39 => ?_) (fun c_39 => ?_)
              · skip
                replace hF := q_ifp hF c_39
                refine lv_iload_n hx hb dX12_doubts_140 rfl (lv_at hl 2 rfl) ?_
                exact q_reti E hr hlk hI ⟨gσ_38, vσ_38, kqσ_38, kdσ_38, (hF.trans hout), fr_σ_38⟩ dX12_doubts_141
              · skip
                replace hF := q_ifn hF c_39
                refine lv_iload_n hx hb dX12_doubts_136 rfl (lv_at hl 1 rfl) ?_
                refine lv_goto (tgt := 141) hx hb dX12_doubts_137 (by decide) ?_
                exact q_reti E hr hlk hI ⟨gσ_38, vσ_38, kqσ_38, kdσ_38, (hF.trans hout), fr_σ_38⟩ dX12_doubts_141
            · skip
              replace hF := q_ifn hF c_37
              refine lv_iload_n hx hb dX12_doubts_126 rfl (lv_at hl 2 rfl) ?_
              refine lv_goto (tgt := 131) hx hb dX12_doubts_127 (by decide) ?_
              refine q_iastN E hI (q_tk (k' := 34) hI ha rfl (Nat.succ_ne_zero _)) ⟨by decide, rfl⟩ (by decide) (by rw [q_lnk (v := 4650) hI (q_tk (k' := 34) hI ha rfl (Nat.succ_ne_zero _)) rfl (by decide)]; decide) (show 1 < 2 by decide) (q_inU rfl) dX12_doubts_131 (fun H locs σ_40 hσ_40 hI => ?_)
              replace hF := q_letX hF hσ_40
              have fr_σ_40 := fr_σ_36.si hσ_40 (q_tk (k' := 34) hI ha rfl (Nat.succ_ne_zero _)) rfl
              have mcσ_40 := m_wr (v := f_1) (A := 6) hσ_40 (by decide) (by decide)
              have gσ_40 : m_G (m_c X σ_40 a) := m_G.wr gσ_36 mcσ_40 (by first | (clear hn h0 gσ wσ k2σ if_2 iz_3 bhpσ_5 chpσ_5 j29 kc_8 gσ_7 wσ_7 kdσ_7 z7σ_7 if_10 qw iz_11 gσ_12 vσ_12 lsσ_12 kdσ_12 z7σ_12 if_14 c_15 iz_16 gσ_17 vσ_17 z7σ_17 gσ_18 vσ_18 kdσ_18 z7σ_18 c_19 gσ_32 vσ_32 kdσ_32 z7σ_32 kc_33 ahpσ_35 bhpσ_35 chpσ_35 gσ_36 vσ_36 kdσ_36 c_37; omega) | omega)
              have vσ_40 : m_W (m_c X σ_40 a) (n + 1) := m_W.wr vσ_36 mcσ_40 (by first | (clear hn ho h0 gσ wσ k2σ hh if_1 if_2 iz_3 bhpσ_5 chpσ_5 j29 kc_8 gσ_7 wσ_7 kdσ_7 k2σ_7 z7σ_7 iz_9 if_10 qw iz_11 gσ_12 vσ_12 lsσ_12 kdσ_12 k2σ_12 z7σ_12 iz_13 if_14 c_15 iz_16 gσ_17 vσ_17 k2σ_17 z7σ_17 gσ_18 vσ_18 kdσ_18 k2σ_18 z7σ_18 c_19 gσ_32 vσ_32 kdσ_32 k2σ_32 z7σ_32 kc_33 ahpσ_35 bhpσ_35 chpσ_35 gσ_36 vσ_36 kdσ_36 k2σ_36 z7σ_36 c_37 gσ_40; omega) | omega)
              have kqσ_40 : ∀ j, 654 ≤ j → m_c X σ_40 a j = m_c X σ a j := fun j h => by rw [mcσ_40 j (by first | (clear hn ho h0 gσ wσ k2σ hh if_1 if_2 iz_3 bhpσ_5 chpσ_5 j29 kc_8 gσ_7 wσ_7 kdσ_7 k2σ_7 z7σ_7 iz_9 if_10 qw iz_11 gσ_12 vσ_12 lsσ_12 kdσ_12 k2σ_12 z7σ_12 iz_13 if_14 c_15 iz_16 gσ_17 vσ_17 k2σ_17 z7σ_17 gσ_18 vσ_18 kdσ_18 k2σ_18 z7σ_18 c_19 gσ_32 vσ_32 kdσ_32 k2σ_32 z7σ_32 kc_33 ahpσ_35 bhpσ_35 chpσ_35 gσ_36 vσ_36 kdσ_36 k2σ_36 z7σ_36 c_37 gσ_40 vσ_40; omega) | omega), if_neg (by first | (clear hn ho h0 gσ wσ k2σ hh if_1 if_2 iz_3 bhpσ_5 chpσ_5 j29 kc_8 gσ_7 wσ_7 kdσ_7 k2σ_7 z7σ_7 iz_9 if_10 qw iz_11 gσ_12 vσ_12 lsσ_12 kdσ_12 k2σ_12 z7σ_12 iz_13 if_14 c_15 iz_16 gσ_17 vσ_17 k2σ_17 z7σ_17 gσ_18 vσ_18 kdσ_18 k2σ_18 z7σ_18 c_19 gσ_32 vσ_32 kdσ_32 k2σ_32 z7σ_32 kc_33 ahpσ_35 bhpσ_35 chpσ_35 gσ_36 vσ_36 kdσ_36 k2σ_36 z7σ_36 c_37 gσ_40 vσ_40; omega) | omega)] <;> exact kqσ_36 j h
              have kdσ_40 : m_KD 40 X σ σ_40 := kdσ_36.ar hσ_40 (q_tk (k' := 34) hI ha rfl (Nat.succ_ne_zero _)) (by decide) (by decide)
              have k2σ_40 : m_c X σ_40 a 0 = m_c X σ a 0 ∧ m_c X σ_40 a 2 = m_c X σ a 2 := ⟨by rw [mcσ_40 0 (by decide), if_neg (by first | (clear hn ho h0 gσ wσ k2σ hh if_1 if_2 iz_3 bhpσ_5 chpσ_5 j29 kc_8 gσ_7 wσ_7 kdσ_7 k2σ_7 z7σ_7 iz_9 if_10 qw iz_11 gσ_12 vσ_12 lsσ_12 kdσ_12 k2σ_12 z7σ_12 iz_13 if_14 c_15 iz_16 gσ_17 vσ_17 k2σ_17 z7σ_17 gσ_18 vσ_18 kdσ_18 k2σ_18 z7σ_18 c_19 gσ_32 vσ_32 kdσ_32 k2σ_32 z7σ_32 kc_33 ahpσ_35 bhpσ_35 chpσ_35 gσ_36 vσ_36 kdσ_36 k2σ_36 z7σ_36 c_37 gσ_40 vσ_40 kdσ_40; omega) | omega)] <;> exact k2σ_36.1, by rw [mcσ_40 2 (by decide), if_neg (by first | (clear hn ho h0 gσ wσ k2σ hh if_1 if_2 iz_3 bhpσ_5 chpσ_5 j29 kc_8 gσ_7 wσ_7 kdσ_7 k2σ_7 z7σ_7 iz_9 if_10 qw iz_11 gσ_12 vσ_12 lsσ_12 kdσ_12 k2σ_12 z7σ_12 iz_13 if_14 c_15 iz_16 gσ_17 vσ_17 k2σ_17 z7σ_17 gσ_18 vσ_18 kdσ_18 k2σ_18 z7σ_18 c_19 gσ_32 vσ_32 kdσ_32 k2σ_32 z7σ_32 kc_33 ahpσ_35 bhpσ_35 chpσ_35 gσ_36 vσ_36 kdσ_36 k2σ_36 z7σ_36 c_37 gσ_40 vσ_40 kdσ_40; omega) | omega)] <;> exact k2σ_36.2⟩
              have z7σ_40 : m_c X σ_40 a 7 = 0 := (by rw [mcσ_40 7 (by decide), if_neg (by first | (clear hn ho h0 gσ wσ k2σ hh if_1 if_2 iz_3 bhpσ_5 chpσ_5 j29 kc_8 gσ_7 wσ_7 kdσ_7 k2σ_7 z7σ_7 iz_9 if_10 qw iz_11 gσ_12 vσ_12 lsσ_12 kdσ_12 k2σ_12 z7σ_12 iz_13 if_14 c_15 iz_16 gσ_17 vσ_17 k2σ_17 z7σ_17 gσ_18 vσ_18 kdσ_18 k2σ_18 z7σ_18 c_19 gσ_32 vσ_32 kdσ_32 k2σ_32 z7σ_32 kc_33 ahpσ_35 bhpσ_35 chpσ_35 gσ_36 vσ_36 kdσ_36 k2σ_36 z7σ_36 c_37 gσ_40 vσ_40 kdσ_40 k2σ_40; omega) | omega)]; exact z7σ_36)
              refine lv_iload_n hx hb dX12_doubts_132 rfl (lv_at hl 3 rfl) ?_
              refine q_if_eq (A := x_6.toInt) E rfl (tgt := 140) dX12_doubts_133 (by decide) (fun c_41 => ?_) (fun c_41 => ?_)
              · skip
                replace hF := q_ifp hF c_41
                refine lv_iload_n hx hb dX12_doubts_140 rfl (lv_at hl 2 rfl) ?_
                exact q_reti E hr hlk hI ⟨gσ_40, vσ_40, kqσ_40, kdσ_40, (hF.trans hout), fr_σ_40⟩ dX12_doubts_141
              · skip
                replace hF := q_ifn hF c_41
                refine lv_iload_n hx hb dX12_doubts_136 rfl (lv_at hl 1 rfl) ?_
                refine lv_goto (tgt := 141) hx hb dX12_doubts_137 (by decide) ?_
                exact q_reti E hr hlk hI ⟨gσ_40, vσ_40, kqσ_40, kdσ_40, (hF.trans hout), fr_σ_40⟩ dX12_doubts_141
          refine q_cv (q_rV11_1 (rest := []) E (hml.trans hl.1.symm) hI (c_X12_takes l X σ_18 a v1 ha gσ_18 (by first | (clear hn ho h0 gσ wσ k2σ if_1 if_2 iz_3 bhpσ_5 chpσ_5 j29 kc_8 gσ_7 wσ_7 kdσ_7 z7σ_7 iz_9 if_10 qw iz_11 gσ_12 vσ_12 lsσ_12 kdσ_12 z7σ_12 iz_13 if_14 c_15 iz_16 gσ_17 vσ_17 z7σ_17 gσ_18 vσ_18 kdσ_18 z7σ_18 c_19; omega) | omega) (by omega)) kv_X12_325 ha ⟨Nat.le_of_ble_eq_true rfl, Nat.le_of_ble_eq_true rfl⟩ (Nat.le_of_ble_eq_true rfl) dX12_doubts_102) hI (Nat.le_of_ble_eq_true rfl) (fun σ_43 H locs hpσ_43 hkσ_43 hI => ?_)
          have ahpσ_43 := hpσ_43.1
          have bhpσ_43 := hpσ_43.2.1
          have chpσ_43 := hpσ_43.2.2.1
          have dhpσ_43 := hpσ_43.2.2.2.1
          have ehpσ_43 := hpσ_43.2.2.2.2
          clear hpσ_43
          have fr_σ_43 := fr_σ_18.call ehpσ_43 rfl rfl
          replace hF := q_letX hF dhpσ_43
          have gσ_43 : m_G (m_c X σ_43 a) := ahpσ_43
          have vσ_43 : m_W (m_c X σ_43 a) (n + 1) := m_W.ext (fun j h0 h1 => bhpσ_43 j (by first | (clear hn ho h0 gσ wσ k2σ hh if_1 if_2 iz_3 bhpσ_5 chpσ_5 j29 kc_8 gσ_7 wσ_7 kdσ_7 k2σ_7 z7σ_7 iz_9 if_10 qw iz_11 gσ_12 vσ_12 lsσ_12 kdσ_12 k2σ_12 z7σ_12 iz_13 if_14 c_15 iz_16 gσ_17 vσ_17 k2σ_17 z7σ_17 gσ_18 vσ_18 kdσ_18 k2σ_18 z7σ_18 c_19 ahpσ_43 bhpσ_43 chpσ_43 dhpσ_43 ehpσ_43 gσ_43; omega) | omega) (by first | (clear hn ho h0 gσ wσ k2σ hh if_1 if_2 iz_3 bhpσ_5 chpσ_5 j29 kc_8 gσ_7 wσ_7 kdσ_7 k2σ_7 z7σ_7 iz_9 if_10 qw iz_11 gσ_12 vσ_12 lsσ_12 kdσ_12 k2σ_12 z7σ_12 iz_13 if_14 c_15 iz_16 gσ_17 vσ_17 k2σ_17 z7σ_17 gσ_18 vσ_18 kdσ_18 k2σ_18 z7σ_18 c_19 ahpσ_43 bhpσ_43 chpσ_43 dhpσ_43 ehpσ_43 gσ_43; omega) | omega)) vσ_18
          have kqσ_43 : ∀ j, 654 ≤ j → m_c X σ_43 a j = m_c X σ a j := (fun j h => (bhpσ_43 j (by first | (clear hn ho h0 gσ wσ k2σ hh if_1 if_2 iz_3 bhpσ_5 chpσ_5 j29 kc_8 gσ_7 wσ_7 kdσ_7 k2σ_7 z7σ_7 iz_9 if_10 qw iz_11 gσ_12 vσ_12 lsσ_12 kdσ_12 k2σ_12 z7σ_12 iz_13 if_14 c_15 iz_16 gσ_17 vσ_17 k2σ_17 z7σ_17 gσ_18 vσ_18 kdσ_18 k2σ_18 z7σ_18 c_19 ahpσ_43 bhpσ_43 chpσ_43 dhpσ_43 ehpσ_43 gσ_43 vσ_43; omega) | omega) (by first | (clear hn ho h0 gσ wσ k2σ hh if_1 if_2 iz_3 bhpσ_5 chpσ_5 j29 kc_8 gσ_7 wσ_7 kdσ_7 k2σ_7 z7σ_7 iz_9 if_10 qw iz_11 gσ_12 vσ_12 lsσ_12 kdσ_12 k2σ_12 z7σ_12 iz_13 if_14 c_15 iz_16 gσ_17 vσ_17 k2σ_17 z7σ_17 gσ_18 vσ_18 kdσ_18 k2σ_18 z7σ_18 c_19 ahpσ_43 bhpσ_43 chpσ_43 dhpσ_43 ehpσ_43 gσ_43 vσ_43; omega) | omega)).trans (kqσ_18 j h))
          have kdσ_43 : m_KD 40 X σ σ_43 := kdσ_18.tr chpσ_43
          have k2σ_43 : m_c X σ_43 a 0 = m_c X σ a 0 ∧ m_c X σ_43 a 2 = m_c X σ a 2 := ⟨(bhpσ_43 0 (by decide) (by decide)).trans k2σ_18.1, (bhpσ_43 2 (by decide) (by decide)).trans k2σ_18.2⟩
          have z7σ_43 : m_c X σ_43 a 7 = 0 := (bhpσ_43 7 (by decide) (by decide)).trans z7σ_18
          exact J_105_32 σ_43 _ _ ls fr_σ_43 gσ_43 vσ_43 kqσ_43 kdσ_43 k2σ_43 z7σ_43 hF hI (lv_sub hl [0, 1, 2, 3] rfl)
      refine q_if_eq (A := x_6.toInt) E rfl (tgt := 92) dX12_doubts_73 (by decide) (fun c_44 => ?_) (fun c_44 => ?_)
      · skip
        replace hF := q_ifp hF c_44
        exact J_92_18 σ_17 _ _ ls fr_σ_17 gσ_17 vσ_17 kqσ_17 kdσ_17 k2σ_17 z7σ_17 hF hI (lv_sub hl [1, 2, 3, 0] rfl)
      · skip
        replace hF := q_ifn hF c_44
        refine lv_aload_n hx hb dX12_doubts_76 rfl (lv_at hl 1 rfl) ?_
        refine lv_iload_n hx hb dX12_doubts_77 rfl (lv_at hl 3 rfl) ?_
        refine q_ci (q_rV11_1 (rest := []) E (hml.trans hl.1.symm) hI (c_X12_cardsOf l X σ_17 a f_1 ha gσ_17 (by first | (clear hn h0 gσ wσ k2σ if_2 iz_3 bhpσ_5 chpσ_5 j29 kc_8 gσ_7 wσ_7 kdσ_7 z7σ_7 if_10 qw iz_11 gσ_12 vσ_12 lsσ_12 kdσ_12 z7σ_12 if_14 c_15 iz_16 gσ_17 vσ_17 z7σ_17 c_44; omega) | omega)) kv_X12_293 ha ⟨Nat.le_of_ble_eq_true rfl, Nat.le_of_ble_eq_true rfl⟩ (Nat.le_of_ble_eq_true rfl) dX12_doubts_78) hI (Nat.le_of_ble_eq_true rfl) (fun r_45 σ_46 H locs hpσ_46 hkσ_46 hI => ?_)
        have ahpσ_46 := hpσ_46.1
        have bhpσ_46 := hpσ_46.2.1
        have chpσ_46 := hpσ_46.2.2.1
        have dhpσ_46 := hpσ_46.2.2.2
        clear hpσ_46
        replace hI := q_Irw ahpσ_46 hI
        replace hF := q_letX hF dhpσ_46
        refine q_if_ne (A := r_45.toInt) E rfl (tgt := 92) dX12_doubts_81 (by decide) (fun c_47 => ?_) (fun c_47 => ?_)
        · skip
          replace hF := q_ifn hF c_47
          exact J_92_18 σ_17 _ _ ls fr_σ_17 gσ_17 vσ_17 kqσ_17 kdσ_17 k2σ_17 z7σ_17 hF hI (lv_sub hl [1, 2, 3, 0] rfl)
        · skip
          replace hF := q_ifp hF c_47
          refine lv_aload_n hx hb dX12_doubts_84 rfl (lv_at hl 1 rfl) ?_
          refine gs_X12_35_12 E hI ha dX12_doubts_85 ?_
          refine lv_bipush (v := 8) hx hb dX12_doubts_88 zkb_8 ?_
          refine lv_iload_n hx hb dX12_doubts_90 rfl (lv_at hl 3 rfl) ?_
          refine q_iastN E hI (q_tk (k' := 34) hI ha rfl (Nat.succ_ne_zero _)) ⟨by decide, rfl⟩ (by decide) (by rw [q_lnk (v := 4650) hI (q_tk (k' := 34) hI ha rfl (Nat.succ_ne_zero _)) rfl (by decide)]; decide) (show 1 < 2 by decide) (q_inU rfl) dX12_doubts_91 (fun H locs σ_48 hσ_48 hI => ?_)
          replace hF := q_letX hF hσ_48
          have fr_σ_48 := fr_σ_17.si hσ_48 (q_tk (k' := 34) hI ha rfl (Nat.succ_ne_zero _)) rfl
          have mcσ_48 := m_wr (v := f_1) (A := 8) hσ_48 (by decide) (by decide)
          have gσ_48 : m_G (m_c X σ_48 a) := m_G.wr gσ_17 mcσ_48 (by first | (clear hn h0 gσ wσ k2σ if_2 iz_3 bhpσ_5 chpσ_5 j29 kc_8 gσ_7 wσ_7 kdσ_7 z7σ_7 if_10 qw iz_11 gσ_12 vσ_12 lsσ_12 kdσ_12 z7σ_12 if_14 c_15 iz_16 gσ_17 vσ_17 c_44 ahpσ_46 bhpσ_46 chpσ_46 dhpσ_46 c_47; omega) | omega)
          have vσ_48 : m_W (m_c X σ_48 a) (n + 1) := m_W.wr vσ_17 mcσ_48 (by first | (clear hn ho h0 gσ wσ k2σ hh if_1 if_2 iz_3 bhpσ_5 chpσ_5 j29 kc_8 gσ_7 wσ_7 kdσ_7 k2σ_7 z7σ_7 iz_9 if_10 qw iz_11 gσ_12 vσ_12 lsσ_12 kdσ_12 k2σ_12 z7σ_12 iz_13 if_14 c_15 iz_16 gσ_17 vσ_17 k2σ_17 z7σ_17 c_44 ahpσ_46 bhpσ_46 chpσ_46 dhpσ_46 c_47 gσ_48; omega) | omega)
          have kqσ_48 : ∀ j, 654 ≤ j → m_c X σ_48 a j = m_c X σ a j := fun j h => by rw [mcσ_48 j (by first | (clear hn ho h0 gσ wσ k2σ hh if_1 if_2 iz_3 bhpσ_5 chpσ_5 j29 kc_8 gσ_7 wσ_7 kdσ_7 k2σ_7 z7σ_7 iz_9 if_10 qw iz_11 gσ_12 vσ_12 lsσ_12 kdσ_12 k2σ_12 z7σ_12 iz_13 if_14 c_15 iz_16 gσ_17 vσ_17 k2σ_17 z7σ_17 c_44 ahpσ_46 bhpσ_46 chpσ_46 dhpσ_46 c_47 gσ_48 vσ_48; omega) | omega), if_neg (by first | (clear hn ho h0 gσ wσ k2σ hh if_1 if_2 iz_3 bhpσ_5 chpσ_5 j29 kc_8 gσ_7 wσ_7 kdσ_7 k2σ_7 z7σ_7 iz_9 if_10 qw iz_11 gσ_12 vσ_12 lsσ_12 kdσ_12 k2σ_12 z7σ_12 iz_13 if_14 c_15 iz_16 gσ_17 vσ_17 k2σ_17 z7σ_17 c_44 ahpσ_46 bhpσ_46 chpσ_46 dhpσ_46 c_47 gσ_48 vσ_48; omega) | omega)] <;> exact kqσ_17 j h
          have kdσ_48 : m_KD 40 X σ σ_48 := kdσ_17.ar hσ_48 (q_tk (k' := 34) hI ha rfl (Nat.succ_ne_zero _)) (by decide) (by decide)
          have k2σ_48 : m_c X σ_48 a 0 = m_c X σ a 0 ∧ m_c X σ_48 a 2 = m_c X σ a 2 := ⟨by rw [mcσ_48 0 (by decide), if_neg (by first | (clear hn ho h0 gσ wσ k2σ hh if_1 if_2 iz_3 bhpσ_5 chpσ_5 j29 kc_8 gσ_7 wσ_7 kdσ_7 k2σ_7 z7σ_7 iz_9 if_10 qw iz_11 gσ_12 vσ_12 lsσ_12 kdσ_12 k2σ_12 z7σ_12 iz_13 if_14 c_15 iz_16 gσ_17 vσ_17 k2σ_17 z7σ_17 c_44 ahpσ_46 bhpσ_46 chpσ_46 dhpσ_46 c_47 gσ_48 vσ_48 kdσ_48; omega) | omega)] <;> exact k2σ_17.1, by rw [mcσ_48 2 (by decide), if_neg (by first | (clear hn ho h0 gσ wσ k2σ hh if_1 if_2 iz_3 bhpσ_5 chpσ_5 j29 kc_8 gσ_7 wσ_7 kdσ_7 k2σ_7 z7σ_7 iz_9 if_10 qw iz_11 gσ_12 vσ_12 lsσ_12 kdσ_12 k2σ_12 z7σ_12 iz_13 if_14 c_15 iz_16 gσ_17 vσ_17 k2σ_17 z7σ_17 c_44 ahpσ_46 bhpσ_46 chpσ_46 dhpσ_46 c_47 gσ_48 vσ_48 kdσ_48; omega) | omega)] <;> exact k2σ_17.2⟩
          have z7σ_48 : m_c X σ_48 a 7 = 0 := (by rw [mcσ_48 7 (by decide), if_neg (by first | (clear hn ho h0 gσ wσ k2σ hh if_1 if_2 iz_3 bhpσ_5 chpσ_5 j29 kc_8 gσ_7 wσ_7 kdσ_7 k2σ_7 z7σ_7 iz_9 if_10 qw iz_11 gσ_12 vσ_12 lsσ_12 kdσ_12 k2σ_12 z7σ_12 iz_13 if_14 c_15 iz_16 gσ_17 vσ_17 k2σ_17 z7σ_17 c_44 ahpσ_46 bhpσ_46 chpσ_46 dhpσ_46 c_47 gσ_48 vσ_48 kdσ_48 k2σ_48; omega) | omega)]; exact z7σ_17)
          exact J_92_18 σ_48 _ _ ls fr_σ_48 gσ_48 vσ_48 kqσ_48 kdσ_48 k2σ_48 z7σ_48 hF hI (lv_sub hl [1, 2, 3, 0] rfl)
    · skip
      replace hF := q_ifn hF c_15
      refine lv_iconst (v := 0) hx hb dX12_doubts_65 zki_0 ?_
      refine lv_goto (tgt := 70) hx hb dX12_doubts_66 (by decide) ?_
      refine lv_iadd hx hb dX12_doubts_70 ?_
      refine lv_topi (fun z_49 ez_49 => ?_)
      replace hF := q_letX hF ez_49
      have iz_49 := q_addI (A := (m_c X σ_12 a (28 + (m_c X σ a 6)))) (B := 0) ez_49 if_14 (by decide) (by first | (clear hn ho h0 gσ wσ k2σ hh if_1 if_2 iz_3 bhpσ_5 chpσ_5 j29 kc_8 gσ_7 wσ_7 kdσ_7 k2σ_7 z7σ_7 iz_9 if_10 qw iz_11 gσ_12 vσ_12 kdσ_12 k2σ_12 z7σ_12 iz_13 c_15; omega) | omega) (by first | (clear hn ho h0 gσ wσ k2σ hh if_1 if_2 iz_3 bhpσ_5 chpσ_5 j29 kc_8 gσ_7 wσ_7 kdσ_7 k2σ_7 z7σ_7 iz_9 if_10 qw iz_11 gσ_12 vσ_12 kdσ_12 k2σ_12 z7σ_12 iz_13 c_15; omega) | omega)
      refine q_iastN E hI (q_tk (k' := 34) hI ha rfl (Nat.succ_ne_zero _)) ⟨by decide, rfl⟩ (by first | (clear hn h0 gσ wσ k2σ if_2 iz_3 bhpσ_5 chpσ_5 j29 kc_8 gσ_7 wσ_7 kdσ_7 k2σ_7 z7σ_7 if_10 qw iz_11 gσ_12 vσ_12 lsσ_12 kdσ_12 k2σ_12 z7σ_12 if_14 c_15 iz_49; omega) | omega) (by rw [q_lnk (v := 4650) hI (q_tk (k' := 34) hI ha rfl (Nat.succ_ne_zero _)) rfl (by decide)]; omega) (show 1 < 2 by decide) (q_inU rfl) dX12_doubts_71 (fun H locs σ_50 hσ_50 hI => ?_)
      replace hF := q_letX hF hσ_50
      have fr_σ_50 := fr_σ_12.si hσ_50 (q_tk (k' := 34) hI ha rfl (Nat.succ_ne_zero _)) rfl
      have mcσ_50 := m_wr (v := z_49) (A := (28 + (m_c X σ a 6))) hσ_50 iz_13 (by first | (clear hn h0 gσ wσ k2σ if_2 iz_3 bhpσ_5 chpσ_5 j29 kc_8 gσ_7 wσ_7 kdσ_7 k2σ_7 z7σ_7 if_10 qw iz_11 gσ_12 vσ_12 lsσ_12 kdσ_12 k2σ_12 z7σ_12 if_14 c_15 iz_49; omega) | omega)
      have gσ_50 : m_G (m_c X σ_50 a) := m_G.wr gσ_12 mcσ_50 (by first | (clear hn h0 gσ wσ k2σ if_2 iz_3 bhpσ_5 chpσ_5 j29 kc_8 gσ_7 wσ_7 kdσ_7 z7σ_7 if_10 qw iz_11 gσ_12 vσ_12 kdσ_12 c_15; omega) | omega)
      have vσ_50 : m_W (m_c X σ_50 a) (n + 1) := vσ_12.lied mcσ_50 (by first | (clear hn h0 gσ wσ k2σ if_2 iz_3 bhpσ_5 chpσ_5 j29 kc_8 gσ_7 wσ_7 kdσ_7 z7σ_7 if_10 qw iz_11 gσ_12 vσ_12 lsσ_12 kdσ_12 z7σ_12 if_14 c_15 iz_49 gσ_50; omega) | omega) (by first | (clear hn ho h0 gσ wσ k2σ hh if_1 if_2 iz_3 bhpσ_5 chpσ_5 j29 kc_8 gσ_7 wσ_7 kdσ_7 k2σ_7 z7σ_7 iz_9 if_10 qw iz_11 gσ_12 vσ_12 kdσ_12 k2σ_12 z7σ_12 iz_13 c_15 gσ_50; omega) | omega)
      have kqσ_50 : ∀ j, 654 ≤ j → m_c X σ_50 a j = m_c X σ a j := fun j h => by rw [mcσ_50 j (by first | (clear hn ho h0 gσ wσ k2σ hh if_1 if_2 iz_3 bhpσ_5 chpσ_5 j29 kc_8 gσ_7 wσ_7 kdσ_7 k2σ_7 z7σ_7 iz_9 if_10 qw iz_11 gσ_12 vσ_12 lsσ_12 kdσ_12 k2σ_12 z7σ_12 iz_13 if_14 c_15 iz_49 gσ_50 vσ_50; omega) | omega), if_neg (by first | (clear hn ho h0 gσ wσ k2σ if_2 iz_3 bhpσ_5 chpσ_5 j29 kc_8 gσ_7 wσ_7 kdσ_7 z7σ_7 if_10 qw iz_11 gσ_12 vσ_12 lsσ_12 kdσ_12 z7σ_12 if_14 c_15 iz_49 gσ_50 vσ_50; omega) | omega)] <;> exact kqσ_12 j h
      have kdσ_50 : m_KD 40 X σ σ_50 := kdσ_12.ar hσ_50 (q_tk (k' := 34) hI ha rfl (Nat.succ_ne_zero _)) (by decide) (by decide)
      have k2σ_50 : m_c X σ_50 a 0 = m_c X σ a 0 ∧ m_c X σ_50 a 2 = m_c X σ a 2 := ⟨by rw [mcσ_50 0 (by decide), if_neg (by first | (clear hn h0 gσ wσ k2σ if_2 iz_3 bhpσ_5 chpσ_5 j29 kc_8 gσ_7 wσ_7 kdσ_7 k2σ_7 z7σ_7 if_10 qw iz_11 gσ_12 vσ_12 lsσ_12 kdσ_12 k2σ_12 z7σ_12 if_14 c_15 iz_49 gσ_50 vσ_50 kdσ_50; omega) | omega)] <;> exact k2σ_12.1, by rw [mcσ_50 2 (by decide), if_neg (by first | (clear hn h0 gσ wσ k2σ if_2 iz_3 bhpσ_5 chpσ_5 j29 kc_8 gσ_7 wσ_7 kdσ_7 k2σ_7 z7σ_7 if_10 qw iz_11 gσ_12 vσ_12 lsσ_12 kdσ_12 k2σ_12 z7σ_12 if_14 c_15 iz_49 gσ_50 vσ_50 kdσ_50; omega) | omega)] <;> exact k2σ_12.2⟩
      have z7σ_50 : m_c X σ_50 a 7 = 0 := (by rw [mcσ_50 7 (by decide), if_neg (by first | (clear hn h0 gσ wσ k2σ if_2 iz_3 bhpσ_5 chpσ_5 j29 kc_8 gσ_7 wσ_7 kdσ_7 k2σ_7 z7σ_7 if_10 qw iz_11 gσ_12 vσ_12 lsσ_12 kdσ_12 k2σ_12 z7σ_12 if_14 c_15 iz_49 gσ_50 vσ_50 kdσ_50 k2σ_50; omega) | omega)]; exact z7σ_12)
      refine lv_iload_n hx hb dX12_doubts_72 rfl (lv_at hl 0 rfl) ?_
      have J_92_51 : ∀  (σ_51 : ST) (H : Heap) (locs : List Loc) (ls : Array Slot), (q_ow [(34, 99)] [] X σ σ_51) → (m_G (m_c X σ_51 a)) → (m_W (m_c X σ_51 a) (n + 1)) → (∀ j, 654 ≤ j → m_c X σ_51 a j = m_c X σ a j) → (m_KD 40 X σ σ_51) → (m_c X σ_51 a 0 = m_c X σ a 0 ∧ m_c X σ_51 a 2 = m_c X σ a 2) → (m_c X σ_51 a 7 = 0) → (F_X12_doubts_J92_5 X x_6 a f_1 v1 σ_51 = out) → q_I X 1 σ s.heap locs σ_51 H → lv_has ls 4 [(0, .ref a), (1, .int v1), (2, .int f_1), (3, .int x_6)] → W p l e (q_rm 2 45) s m ([.ref a, .int v1] : List Value).toArray below meth c H locs 0 0 (MQ below (q_Qi X 1 σ (fun (r : Int32) (σ' : ST) => (m_G (m_c X σ' a)) ∧ (m_W (m_c X σ' a) (n + 1)) ∧ (∀ j, 654 ≤ j → m_c X σ' a j = m_c X σ a j) ∧ (m_KD 40 X σ σ') ∧ (r, σ') = F_X12_doubts X σ a v1 ∧ q_ow [(34, 99)] [] X σ σ')) ([.ref a, .int v1] : List Value).toArray s 0 0 (q_reg X)) (F0 m 92 ls []) := by
        clear hF
        intro σ_51 H locs ls fr_σ_51 gσ_51 vσ_51 kqσ_51 kdσ_51 k2σ_51 z7σ_51 hF hI hl
        try clear fr_σ_50; try clear mcσ_50; try clear kqσ_50; try clear kdσ_50
        unfold F_X12_doubts_J92_5 at hF
        refine lv_aload_n hx hb dX12_doubts_92 rfl (lv_at hl 0 rfl) ?_
        refine lv_iload_n hx hb dX12_doubts_93 rfl (lv_at hl 3 rfl) ?_
        refine q_if_eq (A := x_6.toInt) E rfl (tgt := 101) dX12_doubts_94 (by decide) (fun c_52 => ?_) (fun c_52 => ?_)
        · skip
          replace hF := q_ifp hF c_52
          refine lv_iload_n hx hb dX12_doubts_101 rfl (lv_at hl 2 rfl) ?_
          have J_105_53 : ∀  (σ_53 : ST) (H : Heap) (locs : List Loc) (ls : Array Slot), (q_ow [(34, 99)] [] X σ σ_53) → (m_G (m_c X σ_53 a)) → (m_W (m_c X σ_53 a) (n + 1)) → (∀ j, 654 ≤ j → m_c X σ_53 a j = m_c X σ a j) → (m_KD 40 X σ σ_53) → (m_c X σ_53 a 0 = m_c X σ a 0 ∧ m_c X σ_53 a 2 = m_c X σ a 2) → (m_c X σ_53 a 7 = 0) → (F_X12_doubts_J105_6 X a x_6 v1 f_1 σ_53 = out) → q_I X 1 σ s.heap locs σ_53 H → lv_has ls 4 [(0, .ref a), (1, .int v1), (2, .int f_1), (3, .int x_6)] → W p l e (q_rm 2 45) s m ([.ref a, .int v1] : List Value).toArray below meth c H locs 0 0 (MQ below (q_Qi X 1 σ (fun (r : Int32) (σ' : ST) => (m_G (m_c X σ' a)) ∧ (m_W (m_c X σ' a) (n + 1)) ∧ (∀ j, 654 ≤ j → m_c X σ' a j = m_c X σ a j) ∧ (m_KD 40 X σ σ') ∧ (r, σ') = F_X12_doubts X σ a v1 ∧ q_ow [(34, 99)] [] X σ σ')) ([.ref a, .int v1] : List Value).toArray s 0 0 (q_reg X)) (F0 m 105 ls []) := by
            clear hF
            intro σ_53 H locs ls fr_σ_53 gσ_53 vσ_53 kqσ_53 kdσ_53 k2σ_53 z7σ_53 hF hI hl
            unfold F_X12_doubts_J105_6 at hF
            refine lv_aload_n hx hb dX12_doubts_105 rfl (lv_at hl 0 rfl) ?_
            refine gs_X12_35_12 E hI ha dX12_doubts_106 ?_
            refine lv_iconst (v := 5) hx hb dX12_doubts_109 zki_5 ?_
            refine lv_aload_n hx hb dX12_doubts_110 rfl (lv_at hl 0 rfl) ?_
            refine lv_iconst (v := 0) hx hb dX12_doubts_111 zki_0 ?_
            have kc_54 : (0 : Int32).toInt = 0 := zt_0
            refine q_ci (q_rV11_1 (rest := [.int 5, .ref (q_rf X a 20)]) E (hml.trans hl.1.symm) hI (c_X12_nextKind l X σ_53 a (0 : Int32) ha gσ_53) kv_X12_315 ha ⟨Nat.le_of_ble_eq_true rfl, Nat.le_of_ble_eq_true rfl⟩ (Nat.le_of_ble_eq_true rfl) dX12_doubts_112) hI (Nat.le_of_ble_eq_true rfl) (fun r_55 σ_56 H locs hpσ_56 hkσ_56 hI => ?_)
            have ahpσ_56 := hpσ_56.1
            have bhpσ_56 := hpσ_56.2.1
            have chpσ_56 := hpσ_56.2.2
            clear hpσ_56
            replace hI := q_Irw ahpσ_56 hI
            replace hF := q_letX hF chpσ_56
            refine q_iastN E hI (q_tk (k' := 34) hI ha rfl (Nat.succ_ne_zero _)) ⟨by decide, rfl⟩ (by decide) (by rw [q_lnk (v := 4650) hI (q_tk (k' := 34) hI ha rfl (Nat.succ_ne_zero _)) rfl (by decide)]; decide) (show 1 < 2 by decide) (q_inU rfl) dX12_doubts_115 (fun H locs σ_57 hσ_57 hI => ?_)
            replace hF := q_letX hF hσ_57
            have fr_σ_57 := fr_σ_53.si hσ_57 (q_tk (k' := 34) hI ha rfl (Nat.succ_ne_zero _)) rfl
            have mcσ_57 := m_wr (v := r_55) (A := 5) hσ_57 (by decide) (by decide)
            have gσ_57 : m_G (m_c X σ_57 a) := m_G.wr gσ_53 mcσ_57 (by first | (clear hn ho h0 gσ wσ k2σ hh if_1 if_2 iz_3 bhpσ_5 chpσ_5 j29 kc_8 gσ_7 wσ_7 kdσ_7 k2σ_7 z7σ_7 iz_9 if_10 qw iz_11 gσ_12 vσ_12 lsσ_12 kdσ_12 k2σ_12 z7σ_12 iz_13 if_14 c_15 iz_49 gσ_50 vσ_50 k2σ_50 z7σ_50 gσ_51 vσ_51 kdσ_51 k2σ_51 z7σ_51 c_52 gσ_53 vσ_53 kdσ_53 k2σ_53 kc_54 ahpσ_56 chpσ_56; omega) | omega)
            have vσ_57 : m_W (m_c X σ_57 a) (n + 1) := m_W.wr vσ_53 mcσ_57 (by first | (clear hn ho h0 gσ wσ k2σ hh if_1 if_2 iz_3 bhpσ_5 chpσ_5 j29 kc_8 gσ_7 wσ_7 kdσ_7 k2σ_7 z7σ_7 iz_9 if_10 qw iz_11 gσ_12 vσ_12 lsσ_12 kdσ_12 k2σ_12 z7σ_12 iz_13 if_14 c_15 iz_49 gσ_50 vσ_50 k2σ_50 z7σ_50 gσ_51 vσ_51 kdσ_51 k2σ_51 z7σ_51 c_52 gσ_53 vσ_53 kdσ_53 k2σ_53 z7σ_53 kc_54 ahpσ_56 bhpσ_56 chpσ_56 gσ_57; omega) | omega)
            have kqσ_57 : ∀ j, 654 ≤ j → m_c X σ_57 a j = m_c X σ a j := fun j h => by rw [mcσ_57 j (by first | (clear hn ho h0 gσ wσ k2σ hh if_1 if_2 iz_3 bhpσ_5 chpσ_5 j29 kc_8 gσ_7 wσ_7 kdσ_7 k2σ_7 z7σ_7 iz_9 if_10 qw iz_11 gσ_12 vσ_12 lsσ_12 kdσ_12 k2σ_12 z7σ_12 iz_13 if_14 c_15 iz_49 gσ_50 vσ_50 k2σ_50 z7σ_50 gσ_51 vσ_51 kdσ_51 k2σ_51 z7σ_51 c_52 gσ_53 vσ_53 kdσ_53 k2σ_53 z7σ_53 kc_54 ahpσ_56 bhpσ_56 chpσ_56 gσ_57 vσ_57; omega) | omega), if_neg (by first | (clear hn ho h0 gσ wσ k2σ hh if_1 if_2 iz_3 bhpσ_5 chpσ_5 j29 kc_8 gσ_7 wσ_7 kdσ_7 k2σ_7 z7σ_7 iz_9 if_10 qw iz_11 gσ_12 vσ_12 lsσ_12 kdσ_12 k2σ_12 z7σ_12 iz_13 if_14 c_15 iz_49 gσ_50 vσ_50 k2σ_50 z7σ_50 gσ_51 vσ_51 kdσ_51 k2σ_51 z7σ_51 c_52 gσ_53 vσ_53 kdσ_53 k2σ_53 z7σ_53 kc_54 ahpσ_56 bhpσ_56 chpσ_56 gσ_57 vσ_57; omega) | omega)] <;> exact kqσ_53 j h
            have kdσ_57 : m_KD 40 X σ σ_57 := kdσ_53.ar hσ_57 (q_tk (k' := 34) hI ha rfl (Nat.succ_ne_zero _)) (by decide) (by decide)
            have k2σ_57 : m_c X σ_57 a 0 = m_c X σ a 0 ∧ m_c X σ_57 a 2 = m_c X σ a 2 := ⟨by rw [mcσ_57 0 (by decide), if_neg (by first | (clear hn ho h0 gσ wσ k2σ hh if_1 if_2 iz_3 bhpσ_5 chpσ_5 j29 kc_8 gσ_7 wσ_7 kdσ_7 k2σ_7 z7σ_7 iz_9 if_10 qw iz_11 gσ_12 vσ_12 lsσ_12 kdσ_12 k2σ_12 z7σ_12 iz_13 if_14 c_15 iz_49 gσ_50 vσ_50 k2σ_50 z7σ_50 gσ_51 vσ_51 kdσ_51 k2σ_51 z7σ_51 c_52 gσ_53 vσ_53 kdσ_53 k2σ_53 z7σ_53 kc_54 ahpσ_56 bhpσ_56 chpσ_56 gσ_57 vσ_57 kdσ_57; omega) | omega)] <;> exact k2σ_53.1, by rw [mcσ_57 2 (by decide), if_neg (by first | (clear hn ho h0 gσ wσ k2σ hh if_1 if_2 iz_3 bhpσ_5 chpσ_5 j29 kc_8 gσ_7 wσ_7 kdσ_7 k2σ_7 z7σ_7 iz_9 if_10 qw iz_11 gσ_12 vσ_12 lsσ_12 kdσ_12 k2σ_12 z7σ_12 iz_13 if_14 c_15 iz_49 gσ_50 vσ_50 k2σ_50 z7σ_50 gσ_51 vσ_51 kdσ_51 k2σ_51 z7σ_51 c_52 gσ_53 vσ_53 kdσ_53 k2σ_53 z7σ_53 kc_54 ahpσ_56 bhpσ_56 chpσ_56 gσ_57 vσ_57 kdσ_57; omega) | omega)] <;> exact k2σ_53.2⟩
            have z7σ_57 : m_c X σ_57 a 7 = 0 := (by rw [mcσ_57 7 (by decide), if_neg (by first | (clear hn ho h0 gσ wσ k2σ hh if_1 if_2 iz_3 bhpσ_5 chpσ_5 j29 kc_8 gσ_7 wσ_7 kdσ_7 k2σ_7 z7σ_7 iz_9 if_10 qw iz_11 gσ_12 vσ_12 lsσ_12 kdσ_12 k2σ_12 z7σ_12 iz_13 if_14 c_15 iz_49 gσ_50 vσ_50 k2σ_50 z7σ_50 gσ_51 vσ_51 kdσ_51 k2σ_51 z7σ_51 c_52 gσ_53 vσ_53 kdσ_53 k2σ_53 z7σ_53 kc_54 ahpσ_56 bhpσ_56 chpσ_56 gσ_57 vσ_57 kdσ_57 k2σ_57; omega) | omega)]; exact z7σ_53)
            refine lv_aload_n hx hb dX12_doubts_116 rfl (lv_at hl 0 rfl) ?_
            refine gs_X12_35_12 E hI ha dX12_doubts_117 ?_
            refine lv_bipush (v := 6) hx hb dX12_doubts_120 zkb_6 ?_
            refine lv_iload_n hx hb dX12_doubts_122 rfl (lv_at hl 3 rfl) ?_
            refine q_if_eq (A := x_6.toInt) E rfl (tgt := 130) dX12_doubts_123 (by decide) (fun c_58 => ?_) (fun c_58 => ?_)
            · skip
              replace hF := q_ifp hF c_58
              refine lv_iload_n hx hb dX12_doubts_130 rfl (lv_at hl 1 rfl) ?_
              refine q_iastN E hI (q_tk (k' := 34) hI ha rfl (Nat.succ_ne_zero _)) ⟨by decide, rfl⟩ (by decide) (by rw [q_lnk (v := 4650) hI (q_tk (k' := 34) hI ha rfl (Nat.succ_ne_zero _)) rfl (by decide)]; decide) (show 1 < 2 by decide) (q_inU rfl) dX12_doubts_131 (fun H locs σ_59 hσ_59 hI => ?_)
              replace hF := q_letX hF hσ_59
              have fr_σ_59 := fr_σ_57.si hσ_59 (q_tk (k' := 34) hI ha rfl (Nat.succ_ne_zero _)) rfl
              have mcσ_59 := m_wr (v := v1) (A := 6) hσ_59 (by decide) (by decide)
              have gσ_59 : m_G (m_c X σ_59 a) := m_G.wr gσ_57 mcσ_59 (by first | (clear hn ho h0 gσ wσ k2σ hh if_1 if_2 iz_3 bhpσ_5 chpσ_5 j29 kc_8 gσ_7 wσ_7 kdσ_7 z7σ_7 iz_9 if_10 qw iz_11 gσ_12 vσ_12 lsσ_12 kdσ_12 z7σ_12 iz_13 if_14 c_15 iz_49 gσ_50 vσ_50 z7σ_50 gσ_51 vσ_51 kdσ_51 z7σ_51 c_52 gσ_53 vσ_53 kdσ_53 z7σ_53 kc_54 ahpσ_56 bhpσ_56 chpσ_56 gσ_57 vσ_57 kdσ_57 c_58; omega) | omega)
              have vσ_59 : m_W (m_c X σ_59 a) (n + 1) := m_W.wr vσ_57 mcσ_59 (by first | (clear hn ho h0 gσ wσ k2σ hh if_1 if_2 iz_3 bhpσ_5 chpσ_5 j29 kc_8 gσ_7 wσ_7 kdσ_7 k2σ_7 z7σ_7 iz_9 if_10 qw iz_11 gσ_12 vσ_12 lsσ_12 kdσ_12 k2σ_12 z7σ_12 iz_13 if_14 c_15 iz_49 gσ_50 vσ_50 k2σ_50 z7σ_50 gσ_51 vσ_51 kdσ_51 k2σ_51 z7σ_51 c_52 gσ_53 vσ_53 kdσ_53 k2σ_53 z7σ_53 kc_54 ahpσ_56 bhpσ_56 chpσ_56 gσ_57 vσ_57 kdσ_57 k2σ_57 z7σ_57 c_58 gσ_59; omega) | omega)
              have kqσ_59 : ∀ j, 654 ≤ j → m_c X σ_59 a j = m_c X σ a j := fun j h => by rw [mcσ_59 j (by first | (clear hn ho h0 gσ wσ k2σ hh if_1 if_2 iz_3 bhpσ_5 chpσ_5 j29 kc_8 gσ_7 wσ_7 kdσ_7 k2σ_7 z7σ_7 iz_9 if_10 qw iz_11 gσ_12 vσ_12 lsσ_12 kdσ_12 k2σ_12 z7σ_12 iz_13 if_14 c_15 iz_49 gσ_50 vσ_50 k2σ_50 z7σ_50 gσ_51 vσ_51 kdσ_51 k2σ_51 z7σ_51 c_52 gσ_53 vσ_53 kdσ_53 k2σ_53 z7σ_53 kc_54 ahpσ_56 bhpσ_56 chpσ_56 gσ_57 vσ_57 kdσ_57 k2σ_57 z7σ_57 c_58 gσ_59 vσ_59; omega) | omega), if_neg (by first | (clear hn ho h0 gσ wσ k2σ hh if_1 if_2 iz_3 bhpσ_5 chpσ_5 j29 kc_8 gσ_7 wσ_7 kdσ_7 k2σ_7 z7σ_7 iz_9 if_10 qw iz_11 gσ_12 vσ_12 lsσ_12 kdσ_12 k2σ_12 z7σ_12 iz_13 if_14 c_15 iz_49 gσ_50 vσ_50 k2σ_50 z7σ_50 gσ_51 vσ_51 kdσ_51 k2σ_51 z7σ_51 c_52 gσ_53 vσ_53 kdσ_53 k2σ_53 z7σ_53 kc_54 ahpσ_56 bhpσ_56 chpσ_56 gσ_57 vσ_57 kdσ_57 k2σ_57 z7σ_57 c_58 gσ_59 vσ_59; omega) | omega)] <;> exact kqσ_57 j h
              have kdσ_59 : m_KD 40 X σ σ_59 := kdσ_57.ar hσ_59 (q_tk (k' := 34) hI ha rfl (Nat.succ_ne_zero _)) (by decide) (by decide)
              have k2σ_59 : m_c X σ_59 a 0 = m_c X σ a 0 ∧ m_c X σ_59 a 2 = m_c X σ a 2 := ⟨by rw [mcσ_59 0 (by decide), if_neg (by first | (clear hn ho h0 gσ wσ k2σ hh if_1 if_2 iz_3 bhpσ_5 chpσ_5 j29 kc_8 gσ_7 wσ_7 kdσ_7 k2σ_7 z7σ_7 iz_9 if_10 qw iz_11 gσ_12 vσ_12 lsσ_12 kdσ_12 k2σ_12 z7σ_12 iz_13 if_14 c_15 iz_49 gσ_50 vσ_50 k2σ_50 z7σ_50 gσ_51 vσ_51 kdσ_51 k2σ_51 z7σ_51 c_52 gσ_53 vσ_53 kdσ_53 k2σ_53 z7σ_53 kc_54 ahpσ_56 bhpσ_56 chpσ_56 gσ_57 vσ_57 kdσ_57 k2σ_57 z7σ_57 c_58 gσ_59 vσ_59 kdσ_59; omega) | omega)] <;> exact k2σ_57.1, by rw [mcσ_59 2 (by decide), if_neg (by first | (clear hn ho h0 gσ wσ k2σ hh if_1 if_2 iz_3 bhpσ_5 chpσ_5 j29 kc_8 gσ_7 wσ_7 kdσ_7 k2σ_7 z7σ_7 iz_9 if_10 qw iz_11 gσ_12 vσ_12 lsσ_12 kdσ_12 k2σ_12 z7σ_12 iz_13 if_14 c_15 iz_49 gσ_50 vσ_50 k2σ_50 z7σ_50 gσ_51 vσ_51 kdσ_51 k2σ_51 z7σ_51 c_52 gσ_53 vσ_53 kdσ_53 k2σ_53 z7σ_53 kc_54 ahpσ_56 bhpσ_56 chpσ_56 gσ_57 vσ_57 kdσ_57 k2σ_57 z7σ_57 c_58 gσ_59 vσ_59 kdσ_59; omega) | omega)] <;> exact k2σ_57.2⟩
              have z7σ_59 : m_c X σ_59 a 7 = 0 := (by rw [mcσ_59 7 (by decide), if_neg (by first | (clear hn ho h0 gσ wσ k2σ hh if_1 if_2 iz_3 bhpσ_5 chpσ_5 j29 kc_8 gσ_7 wσ_7 kdσ_7 k2σ_7 z7σ_7 iz_9 if_10 qw iz_11 gσ_12 vσ_12 lsσ_12 kdσ_12 k2σ_12 z7σ_12 iz_13 if_14 c_15 iz_49 gσ_50 vσ_50 k2σ_50 z7σ_50 gσ_51 vσ_51 kdσ_51 k2σ_51 z7σ_51 c_52 gσ_53 vσ_53 kdσ_53 k2σ_53 z7σ_53 kc_54 ahpσ_56 bhpσ_56 chpσ_56 gσ_57 vσ_57 kdσ_57 k2σ_57 z7σ_57 c_58 gσ_59 vσ_59 kdσ_59 k2σ_59; omega) | omega)]; exact z7σ_57)
              refine lv_iload_n hx hb dX12_doubts_132 rfl (lv_at hl 3 rfl) ?_
              refine q_if_eq (A := x_6.toInt) E rfl (tgt := 140) dX12_doubts_133 (by decide) (fun c_60 => ?_) (fun c_60 => ?_)
              · skip
                replace hF := q_ifp hF c_60
                refine lv_iload_n hx hb dX12_doubts_140 rfl (lv_at hl 2 rfl) ?_
                exact q_reti E hr hlk hI ⟨gσ_59, vσ_59, kqσ_59, kdσ_59, (hF.trans hout), fr_σ_59⟩ dX12_doubts_141
              · skip
                replace hF := q_ifn hF c_60
                refine lv_iload_n hx hb dX12_doubts_136 rfl (lv_at hl 1 rfl) ?_
                refine lv_goto (tgt := 141) hx hb dX12_doubts_137 (by decide) ?_
                exact q_reti E hr hlk hI ⟨gσ_59, vσ_59, kqσ_59, kdσ_59, (hF.trans hout), fr_σ_59⟩ dX12_doubts_141
            · skip
              replace hF := q_ifn hF c_58
              refine lv_iload_n hx hb dX12_doubts_126 rfl (lv_at hl 2 rfl) ?_
              refine lv_goto (tgt := 131) hx hb dX12_doubts_127 (by decide) ?_
              refine q_iastN E hI (q_tk (k' := 34) hI ha rfl (Nat.succ_ne_zero _)) ⟨by decide, rfl⟩ (by decide) (by rw [q_lnk (v := 4650) hI (q_tk (k' := 34) hI ha rfl (Nat.succ_ne_zero _)) rfl (by decide)]; decide) (show 1 < 2 by decide) (q_inU rfl) dX12_doubts_131 (fun H locs σ_61 hσ_61 hI => ?_)
              replace hF := q_letX hF hσ_61
              have fr_σ_61 := fr_σ_57.si hσ_61 (q_tk (k' := 34) hI ha rfl (Nat.succ_ne_zero _)) rfl
              have mcσ_61 := m_wr (v := f_1) (A := 6) hσ_61 (by decide) (by decide)
              have gσ_61 : m_G (m_c X σ_61 a) := m_G.wr gσ_57 mcσ_61 (by first | (clear hn h0 gσ wσ k2σ if_2 iz_3 bhpσ_5 chpσ_5 j29 kc_8 gσ_7 wσ_7 kdσ_7 z7σ_7 if_10 qw iz_11 gσ_12 vσ_12 lsσ_12 kdσ_12 z7σ_12 if_14 c_15 iz_49 gσ_50 vσ_50 z7σ_50 gσ_51 vσ_51 kdσ_51 z7σ_51 c_52 gσ_53 vσ_53 kdσ_53 z7σ_53 kc_54 ahpσ_56 bhpσ_56 chpσ_56 gσ_57 vσ_57 kdσ_57 c_58; omega) | omega)
              have vσ_61 : m_W (m_c X σ_61 a) (n + 1) := m_W.wr vσ_57 mcσ_61 (by first | (clear hn ho h0 gσ wσ k2σ hh if_1 if_2 iz_3 bhpσ_5 chpσ_5 j29 kc_8 gσ_7 wσ_7 kdσ_7 k2σ_7 z7σ_7 iz_9 if_10 qw iz_11 gσ_12 vσ_12 lsσ_12 kdσ_12 k2σ_12 z7σ_12 iz_13 if_14 c_15 iz_49 gσ_50 vσ_50 k2σ_50 z7σ_50 gσ_51 vσ_51 kdσ_51 k2σ_51 z7σ_51 c_52 gσ_53 vσ_53 kdσ_53 k2σ_53 z7σ_53 kc_54 ahpσ_56 bhpσ_56 chpσ_56 gσ_57 vσ_57 kdσ_57 k2σ_57 z7σ_57 c_58 gσ_61; omega) | omega)
              have kqσ_61 : ∀ j, 654 ≤ j → m_c X σ_61 a j = m_c X σ a j := fun j h => by rw [mcσ_61 j (by first | (clear hn ho h0 gσ wσ k2σ hh if_1 if_2 iz_3 bhpσ_5 chpσ_5 j29 kc_8 gσ_7 wσ_7 kdσ_7 k2σ_7 z7σ_7 iz_9 if_10 qw iz_11 gσ_12 vσ_12 lsσ_12 kdσ_12 k2σ_12 z7σ_12 iz_13 if_14 c_15 iz_49 gσ_50 vσ_50 k2σ_50 z7σ_50 gσ_51 vσ_51 kdσ_51 k2σ_51 z7σ_51 c_52 gσ_53 vσ_53 kdσ_53 k2σ_53 z7σ_53 kc_54 ahpσ_56 bhpσ_56 chpσ_56 gσ_57 vσ_57 kdσ_57 k2σ_57 z7σ_57 c_58 gσ_61 vσ_61; omega) | omega), if_neg (by first | (clear hn ho h0 gσ wσ k2σ hh if_1 if_2 iz_3 bhpσ_5 chpσ_5 j29 kc_8 gσ_7 wσ_7 kdσ_7 k2σ_7 z7σ_7 iz_9 if_10 qw iz_11 gσ_12 vσ_12 lsσ_12 kdσ_12 k2σ_12 z7σ_12 iz_13 if_14 c_15 iz_49 gσ_50 vσ_50 k2σ_50 z7σ_50 gσ_51 vσ_51 kdσ_51 k2σ_51 z7σ_51 c_52 gσ_53 vσ_53 kdσ_53 k2σ_53 z7σ_53 kc_54 ahpσ_56 bhpσ_56 chpσ_56 gσ_57 vσ_57 kdσ_57 k2σ_57 z7σ_57 c_58 gσ_61 vσ_61; omega) | omega)] <;> exact kqσ_57 j h
              have kdσ_61 : m_KD 40 X σ σ_61 := kdσ_57.ar hσ_61 (q_tk (k' := 34) hI ha rfl (Nat.succ_ne_zero _)) (by decide) (by decide)
              have k2σ_61 : m_c X σ_61 a 0 = m_c X σ a 0 ∧ m_c X σ_61 a 2 = m_c X σ a 2 := ⟨by rw [mcσ_61 0 (by decide), if_neg (by first | (clear hn ho h0 gσ wσ k2σ hh if_1 if_2 iz_3 bhpσ_5 chpσ_5 j29 kc_8 gσ_7 wσ_7 kdσ_7 k2σ_7 z7σ_7 iz_9 if_10 qw iz_11 gσ_12 vσ_12 lsσ_12 kdσ_12 k2σ_12 z7σ_12 iz_13 if_14 c_15 iz_49 gσ_50 vσ_50 k2σ_50 z7σ_50 gσ_51 vσ_51 kdσ_51 k2σ_51 z7σ_51 c_52 gσ_53 vσ_53 kdσ_53 k2σ_53 z7σ_53 kc_54 ahpσ_56 bhpσ_56 chpσ_56 gσ_57 vσ_57 kdσ_57 k2σ_57 z7σ_57 c_58 gσ_61 vσ_61 kdσ_61; omega) | omega)] <;> exact k2σ_57.1, by rw [mcσ_61 2 (by decide), if_neg (by first | (clear hn ho h0 gσ wσ k2σ hh if_1 if_2 iz_3 bhpσ_5 chpσ_5 j29 kc_8 gσ_7 wσ_7 kdσ_7 k2σ_7 z7σ_7 iz_9 if_10 qw iz_11 gσ_12 vσ_12 lsσ_12 kdσ_12 k2σ_12 z7σ_12 iz_13 if_14 c_15 iz_49 gσ_50 vσ_50 k2σ_50 z7σ_50 gσ_51 vσ_51 kdσ_51 k2σ_51 z7σ_51 c_52 gσ_53 vσ_53 kdσ_53 k2σ_53 z7σ_53 kc_54 ahpσ_56 bhpσ_56 chpσ_56 gσ_57 vσ_57 kdσ_57 k2σ_57 z7σ_57 c_58 gσ_61 vσ_61 kdσ_61; omega) | omega)] <;> exact k2σ_57.2⟩
              have z7σ_61 : m_c X σ_61 a 7 = 0 := (by rw [mcσ_61 7 (by decide), if_neg (by first | (clear hn ho h0 gσ wσ k2σ hh if_1 if_2 iz_3 bhpσ_5 chpσ_5 j29 kc_8 gσ_7 wσ_7 kdσ_7 k2σ_7 z7σ_7 iz_9 if_10 qw iz_11 gσ_12 vσ_12 lsσ_12 kdσ_12 k2σ_12 z7σ_12 iz_13 if_14 c_15 iz_49 gσ_50 vσ_50 k2σ_50 z7σ_50 gσ_51 vσ_51 kdσ_51 k2σ_51 z7σ_51 c_52 gσ_53 vσ_53 kdσ_53 k2σ_53 z7σ_53 kc_54 ahpσ_56 bhpσ_56 chpσ_56 gσ_57 vσ_57 kdσ_57 k2σ_57 z7σ_57 c_58 gσ_61 vσ_61 kdσ_61 k2σ_61; omega) | omega)]; exact z7σ_57)
              refine lv_iload_n hx hb dX12_doubts_132 rfl (lv_at hl 3 rfl) ?_
              refine q_if_eq (A := x_6.toInt) E rfl (tgt := 140) dX12_doubts_133 (by decide) (fun c_62 => ?_) (fun c_62 => ?_)
              · skip
                replace hF := q_ifp hF c_62
                refine lv_iload_n hx hb dX12_doubts_140 rfl (lv_at hl 2 rfl) ?_
                exact q_reti E hr hlk hI ⟨gσ_61, vσ_61, kqσ_61, kdσ_61, (hF.trans hout), fr_σ_61⟩ dX12_doubts_141
              · skip
                replace hF := q_ifn hF c_62
                refine lv_iload_n hx hb dX12_doubts_136 rfl (lv_at hl 1 rfl) ?_
                refine lv_goto (tgt := 141) hx hb dX12_doubts_137 (by decide) ?_
                exact q_reti E hr hlk hI ⟨gσ_61, vσ_61, kqσ_61, kdσ_61, (hF.trans hout), fr_σ_61⟩ dX12_doubts_141
          refine q_cv (q_rV11_1 (rest := []) E (hml.trans hl.1.symm) hI (c_X12_takes l X σ_51 a f_1 ha gσ_51 (by first | (clear hn h0 gσ wσ k2σ if_2 iz_3 bhpσ_5 chpσ_5 j29 kc_8 gσ_7 wσ_7 kdσ_7 z7σ_7 if_10 qw iz_11 gσ_12 vσ_12 lsσ_12 kdσ_12 z7σ_12 if_14 c_15 iz_49 gσ_50 vσ_50 z7σ_50 gσ_51 vσ_51 kdσ_51 z7σ_51 c_52; omega) | omega) (by omega)) kv_X12_325 ha ⟨Nat.le_of_ble_eq_true rfl, Nat.le_of_ble_eq_true rfl⟩ (Nat.le_of_ble_eq_true rfl) dX12_doubts_102) hI (Nat.le_of_ble_eq_true rfl) (fun σ_64 H locs hpσ_64 hkσ_64 hI => ?_)
          have ahpσ_64 := hpσ_64.1
          have bhpσ_64 := hpσ_64.2.1
          have chpσ_64 := hpσ_64.2.2.1
          have dhpσ_64 := hpσ_64.2.2.2.1
          have ehpσ_64 := hpσ_64.2.2.2.2
          clear hpσ_64
          have fr_σ_64 := fr_σ_51.call ehpσ_64 rfl rfl
          replace hF := q_letX hF dhpσ_64
          have gσ_64 : m_G (m_c X σ_64 a) := ahpσ_64
          have vσ_64 : m_W (m_c X σ_64 a) (n + 1) := m_W.ext (fun j h0 h1 => bhpσ_64 j (by first | (clear hn ho h0 gσ wσ k2σ hh if_1 if_2 iz_3 bhpσ_5 chpσ_5 j29 kc_8 gσ_7 wσ_7 kdσ_7 k2σ_7 z7σ_7 iz_9 if_10 qw iz_11 gσ_12 vσ_12 lsσ_12 kdσ_12 k2σ_12 z7σ_12 iz_13 if_14 c_15 iz_49 gσ_50 vσ_50 k2σ_50 z7σ_50 gσ_51 vσ_51 kdσ_51 k2σ_51 z7σ_51 c_52 ahpσ_64 bhpσ_64 chpσ_64 dhpσ_64 ehpσ_64 gσ_64; omega) | omega) (by first | (clear hn ho h0 gσ wσ k2σ hh if_1 if_2 iz_3 bhpσ_5 chpσ_5 j29 kc_8 gσ_7 wσ_7 kdσ_7 k2σ_7 z7σ_7 iz_9 if_10 qw iz_11 gσ_12 vσ_12 lsσ_12 kdσ_12 k2σ_12 z7σ_12 iz_13 if_14 c_15 iz_49 gσ_50 vσ_50 k2σ_50 z7σ_50 gσ_51 vσ_51 kdσ_51 k2σ_51 z7σ_51 c_52 ahpσ_64 bhpσ_64 chpσ_64 dhpσ_64 ehpσ_64 gσ_64; omega) | omega)) vσ_51
          have kqσ_64 : ∀ j, 654 ≤ j → m_c X σ_64 a j = m_c X σ a j := (fun j h => (bhpσ_64 j (by first | (clear hn ho h0 gσ wσ k2σ hh if_1 if_2 iz_3 bhpσ_5 chpσ_5 j29 kc_8 gσ_7 wσ_7 kdσ_7 k2σ_7 z7σ_7 iz_9 if_10 qw iz_11 gσ_12 vσ_12 lsσ_12 kdσ_12 k2σ_12 z7σ_12 iz_13 if_14 c_15 iz_49 gσ_50 vσ_50 k2σ_50 z7σ_50 gσ_51 vσ_51 kdσ_51 k2σ_51 z7σ_51 c_52 ahpσ_64 bhpσ_64 chpσ_64 dhpσ_64 ehpσ_64 gσ_64 vσ_64; omega) | omega) (by first | (clear hn ho h0 gσ wσ k2σ hh if_1 if_2 iz_3 bhpσ_5 chpσ_5 j29 kc_8 gσ_7 wσ_7 kdσ_7 k2σ_7 z7σ_7 iz_9 if_10 qw iz_11 gσ_12 vσ_12 lsσ_12 kdσ_12 k2σ_12 z7σ_12 iz_13 if_14 c_15 iz_49 gσ_50 vσ_50 k2σ_50 z7σ_50 gσ_51 vσ_51 kdσ_51 k2σ_51 z7σ_51 c_52 ahpσ_64 bhpσ_64 chpσ_64 dhpσ_64 ehpσ_64 gσ_64 vσ_64; omega) | omega)).trans (kqσ_51 j h))
          have kdσ_64 : m_KD 40 X σ σ_64 := kdσ_51.tr chpσ_64
          have k2σ_64 : m_c X σ_64 a 0 = m_c X σ a 0 ∧ m_c X σ_64 a 2 = m_c X σ a 2 := ⟨(bhpσ_64 0 (by decide) (by decide)).trans k2σ_51.1, (bhpσ_64 2 (by decide) (by decide)).trans k2σ_51.2⟩
          have z7σ_64 : m_c X σ_64 a 7 = 0 := (bhpσ_64 7 (by decide) (by decide)).trans z7σ_51
          exact J_105_53 σ_64 _ _ ls fr_σ_64 gσ_64 vσ_64 kqσ_64 kdσ_64 k2σ_64 z7σ_64 hF hI (lv_sub hl [0, 1, 2, 3] rfl)
        · skip
          replace hF := q_ifn hF c_52
          refine lv_iload_n hx hb dX12_doubts_97 rfl (lv_at hl 1 rfl) ?_
          refine lv_goto (tgt := 102) hx hb dX12_doubts_98 (by decide) ?_
          have J_105_65 : ∀  (σ_65 : ST) (H : Heap) (locs : List Loc) (ls : Array Slot), (q_ow [(34, 99)] [] X σ σ_65) → (m_G (m_c X σ_65 a)) → (m_W (m_c X σ_65 a) (n + 1)) → (∀ j, 654 ≤ j → m_c X σ_65 a j = m_c X σ a j) → (m_KD 40 X σ σ_65) → (m_c X σ_65 a 0 = m_c X σ a 0 ∧ m_c X σ_65 a 2 = m_c X σ a 2) → (m_c X σ_65 a 7 = 0) → (F_X12_doubts_J105_7 X a x_6 v1 f_1 σ_65 = out) → q_I X 1 σ s.heap locs σ_65 H → lv_has ls 4 [(0, .ref a), (1, .int v1), (2, .int f_1), (3, .int x_6)] → W p l e (q_rm 2 45) s m ([.ref a, .int v1] : List Value).toArray below meth c H locs 0 0 (MQ below (q_Qi X 1 σ (fun (r : Int32) (σ' : ST) => (m_G (m_c X σ' a)) ∧ (m_W (m_c X σ' a) (n + 1)) ∧ (∀ j, 654 ≤ j → m_c X σ' a j = m_c X σ a j) ∧ (m_KD 40 X σ σ') ∧ (r, σ') = F_X12_doubts X σ a v1 ∧ q_ow [(34, 99)] [] X σ σ')) ([.ref a, .int v1] : List Value).toArray s 0 0 (q_reg X)) (F0 m 105 ls []) := by
            clear hF
            intro σ_65 H locs ls fr_σ_65 gσ_65 vσ_65 kqσ_65 kdσ_65 k2σ_65 z7σ_65 hF hI hl
            unfold F_X12_doubts_J105_7 at hF
            refine lv_aload_n hx hb dX12_doubts_105 rfl (lv_at hl 0 rfl) ?_
            refine gs_X12_35_12 E hI ha dX12_doubts_106 ?_
            refine lv_iconst (v := 5) hx hb dX12_doubts_109 zki_5 ?_
            refine lv_aload_n hx hb dX12_doubts_110 rfl (lv_at hl 0 rfl) ?_
            refine lv_iconst (v := 0) hx hb dX12_doubts_111 zki_0 ?_
            have kc_66 : (0 : Int32).toInt = 0 := zt_0
            refine q_ci (q_rV11_1 (rest := [.int 5, .ref (q_rf X a 20)]) E (hml.trans hl.1.symm) hI (c_X12_nextKind l X σ_65 a (0 : Int32) ha gσ_65) kv_X12_315 ha ⟨Nat.le_of_ble_eq_true rfl, Nat.le_of_ble_eq_true rfl⟩ (Nat.le_of_ble_eq_true rfl) dX12_doubts_112) hI (Nat.le_of_ble_eq_true rfl) (fun r_67 σ_68 H locs hpσ_68 hkσ_68 hI => ?_)
            have ahpσ_68 := hpσ_68.1
            have bhpσ_68 := hpσ_68.2.1
            have chpσ_68 := hpσ_68.2.2
            clear hpσ_68
            replace hI := q_Irw ahpσ_68 hI
            replace hF := q_letX hF chpσ_68
            refine q_iastN E hI (q_tk (k' := 34) hI ha rfl (Nat.succ_ne_zero _)) ⟨by decide, rfl⟩ (by decide) (by rw [q_lnk (v := 4650) hI (q_tk (k' := 34) hI ha rfl (Nat.succ_ne_zero _)) rfl (by decide)]; decide) (show 1 < 2 by decide) (q_inU rfl) dX12_doubts_115 (fun H locs σ_69 hσ_69 hI => ?_)
            replace hF := q_letX hF hσ_69
            have fr_σ_69 := fr_σ_65.si hσ_69 (q_tk (k' := 34) hI ha rfl (Nat.succ_ne_zero _)) rfl
            have mcσ_69 := m_wr (v := r_67) (A := 5) hσ_69 (by decide) (by decide)
            have gσ_69 : m_G (m_c X σ_69 a) := m_G.wr gσ_65 mcσ_69 (by first | (clear hn ho h0 gσ wσ k2σ hh if_1 if_2 iz_3 bhpσ_5 chpσ_5 j29 kc_8 gσ_7 wσ_7 kdσ_7 k2σ_7 z7σ_7 iz_9 if_10 qw iz_11 gσ_12 vσ_12 lsσ_12 kdσ_12 k2σ_12 z7σ_12 iz_13 if_14 c_15 iz_49 gσ_50 vσ_50 k2σ_50 z7σ_50 gσ_51 vσ_51 kdσ_51 k2σ_51 z7σ_51 c_52 gσ_65 vσ_65 kdσ_65 k2σ_65 kc_66 ahpσ_68 chpσ_68; omega) | omega)
            have vσ_69 : m_W (m_c X σ_69 a) (n + 1) := m_W.wr vσ_65 mcσ_69 (by first | (clear hn ho h0 gσ wσ k2σ hh if_1 if_2 iz_3 bhpσ_5 chpσ_5 j29 kc_8 gσ_7 wσ_7 kdσ_7 k2σ_7 z7σ_7 iz_9 if_10 qw iz_11 gσ_12 vσ_12 lsσ_12 kdσ_12 k2σ_12 z7σ_12 iz_13 if_14 c_15 iz_49 gσ_50 vσ_50 k2σ_50 z7σ_50 gσ_51 vσ_51 kdσ_51 k2σ_51 z7σ_51 c_52 gσ_65 vσ_65 kdσ_65 k2σ_65 z7σ_65 kc_66 ahpσ_68 bhpσ_68 chpσ_68 gσ_69; omega) | omega)
            have kqσ_69 : ∀ j, 654 ≤ j → m_c X σ_69 a j = m_c X σ a j := fun j h => by rw [mcσ_69 j (by first | (clear hn ho h0 gσ wσ k2σ hh if_1 if_2 iz_3 bhpσ_5 chpσ_5 j29 kc_8 gσ_7 wσ_7 kdσ_7 k2σ_7 z7σ_7 iz_9 if_10 qw iz_11 gσ_12 vσ_12 lsσ_12 kdσ_12 k2σ_12 z7σ_12 iz_13 if_14 c_15 iz_49 gσ_50 vσ_50 k2σ_50 z7σ_50 gσ_51 vσ_51 kdσ_51 k2σ_51 z7σ_51 c_52 gσ_65 vσ_65 kdσ_65 k2σ_65 z7σ_65 kc_66 ahpσ_68 bhpσ_68 chpσ_68 gσ_69 vσ_69; omega) | omega), if_neg (by first | (clear hn ho h0 gσ wσ k2σ hh if_1 if_2 iz_3 bhpσ_5 chpσ_5 j29 kc_8 gσ_7 wσ_7 kdσ_7 k2σ_7 z7σ_7 iz_9 if_10 qw iz_11 gσ_12 vσ_12 lsσ_12 kdσ_12 k2σ_12 z7σ_12 iz_13 if_14 c_15 iz_49 gσ_50 vσ_50 k2σ_50 z7σ_50 gσ_51 vσ_51 kdσ_51 k2σ_51 z7σ_51 c_52 gσ_65 vσ_65 kdσ_65 k2σ_65 z7σ_65 kc_66 ahpσ_68 bhpσ_68 chpσ_68 gσ_69 vσ_69; omega) | omega)] <;> exact kqσ_65 j h
            have kdσ_69 : m_KD 40 X σ σ_69 := kdσ_65.ar hσ_69 (q_tk (k' := 34) hI ha rfl (Nat.succ_ne_zero _)) (by decide) (by decide)
            have k2σ_69 : m_c X σ_69 a 0 = m_c X σ a 0 ∧ m_c X σ_69 a 2 = m_c X σ a 2 := ⟨by rw [mcσ_69 0 (by decide), if_neg (by first | (clear hn ho h0 gσ wσ k2σ hh if_1 if_2 iz_3 bhpσ_5 chpσ_5 j29 kc_8 gσ_7 wσ_7 kdσ_7 k2σ_7 z7σ_7 iz_9 if_10 qw iz_11 gσ_12 vσ_12 lsσ_12 kdσ_12 k2σ_12 z7σ_12 iz_13 if_14 c_15 iz_49 gσ_50 vσ_50 k2σ_50 z7σ_50 gσ_51 vσ_51 kdσ_51 k2σ_51 z7σ_51 c_52 gσ_65 vσ_65 kdσ_65 k2σ_65 z7σ_65 kc_66 ahpσ_68 bhpσ_68 chpσ_68 gσ_69 vσ_69 kdσ_69; omega) | omega)] <;> exact k2σ_65.1, by rw [mcσ_69 2 (by decide), if_neg (by first | (clear hn ho h0 gσ wσ k2σ hh if_1 if_2 iz_3 bhpσ_5 chpσ_5 j29 kc_8 gσ_7 wσ_7 kdσ_7 k2σ_7 z7σ_7 iz_9 if_10 qw iz_11 gσ_12 vσ_12 lsσ_12 kdσ_12 k2σ_12 z7σ_12 iz_13 if_14 c_15 iz_49 gσ_50 vσ_50 k2σ_50 z7σ_50 gσ_51 vσ_51 kdσ_51 k2σ_51 z7σ_51 c_52 gσ_65 vσ_65 kdσ_65 k2σ_65 z7σ_65 kc_66 ahpσ_68 bhpσ_68 chpσ_68 gσ_69 vσ_69 kdσ_69; omega) | omega)] <;> exact k2σ_65.2⟩
            have z7σ_69 : m_c X σ_69 a 7 = 0 := (by rw [mcσ_69 7 (by decide), if_neg (by first | (clear hn ho h0 gσ wσ k2σ hh if_1 if_2 iz_3 bhpσ_5 chpσ_5 j29 kc_8 gσ_7 wσ_7 kdσ_7 k2σ_7 z7σ_7 iz_9 if_10 qw iz_11 gσ_12 vσ_12 lsσ_12 kdσ_12 k2σ_12 z7σ_12 iz_13 if_14 c_15 iz_49 gσ_50 vσ_50 k2σ_50 z7σ_50 gσ_51 vσ_51 kdσ_51 k2σ_51 z7σ_51 c_52 gσ_65 vσ_65 kdσ_65 k2σ_65 z7σ_65 kc_66 ahpσ_68 bhpσ_68 chpσ_68 gσ_69 vσ_69 kdσ_69 k2σ_69; omega) | omega)]; exact z7σ_65)
            refine lv_aload_n hx hb dX12_doubts_116 rfl (lv_at hl 0 rfl) ?_
            refine gs_X12_35_12 E hI ha dX12_doubts_117 ?_
            refine lv_bipush (v := 6) hx hb dX12_doubts_120 zkb_6 ?_
            refine lv_iload_n hx hb dX12_doubts_122 rfl (lv_at hl 3 rfl) ?_
            refine q_if_eq (A := x_6.toInt) E rfl (tgt := 130) dX12_doubts_123 (by decide) (fun c_70 => ?_) (fun c_70 => ?_)
            · skip
              replace hF := q_ifp hF c_70
              refine lv_iload_n hx hb dX12_doubts_130 rfl (lv_at hl 1 rfl) ?_
              refine q_iastN E hI (q_tk (k' := 34) hI ha rfl (Nat.succ_ne_zero _)) ⟨by decide, rfl⟩ (by decide) (by rw [q_lnk (v := 4650) hI (q_tk (k' := 34) hI ha rfl (Nat.succ_ne_zero _)) rfl (by decide)]; decide) (show 1 < 2 by decide) (q_inU rfl) dX12_doubts_131 (fun H locs σ_71 hσ_71 hI => ?_)
              replace hF := q_letX hF hσ_71
              have fr_σ_71 := fr_σ_69.si hσ_71 (q_tk (k' := 34) hI ha rfl (Nat.succ_ne_zero _)) rfl
              have mcσ_71 := m_wr (v := v1) (A := 6) hσ_71 (by decide) (by decide)
              have gσ_71 : m_G (m_c X σ_71 a) := m_G.wr gσ_69 mcσ_71 (by first | (clear hn ho h0 gσ wσ k2σ hh if_1 if_2 iz_3 bhpσ_5 chpσ_5 j29 kc_8 gσ_7 wσ_7 kdσ_7 z7σ_7 iz_9 if_10 qw iz_11 gσ_12 vσ_12 lsσ_12 kdσ_12 z7σ_12 iz_13 if_14 c_15 iz_49 gσ_50 vσ_50 z7σ_50 gσ_51 vσ_51 kdσ_51 z7σ_51 c_52 gσ_65 vσ_65 kdσ_65 z7σ_65 kc_66 ahpσ_68 bhpσ_68 chpσ_68 gσ_69 vσ_69 kdσ_69 c_70; omega) | omega)
              have vσ_71 : m_W (m_c X σ_71 a) (n + 1) := m_W.wr vσ_69 mcσ_71 (by first | (clear hn ho h0 gσ wσ k2σ hh if_1 if_2 iz_3 bhpσ_5 chpσ_5 j29 kc_8 gσ_7 wσ_7 kdσ_7 k2σ_7 z7σ_7 iz_9 if_10 qw iz_11 gσ_12 vσ_12 lsσ_12 kdσ_12 k2σ_12 z7σ_12 iz_13 if_14 c_15 iz_49 gσ_50 vσ_50 k2σ_50 z7σ_50 gσ_51 vσ_51 kdσ_51 k2σ_51 z7σ_51 c_52 gσ_65 vσ_65 kdσ_65 k2σ_65 z7σ_65 kc_66 ahpσ_68 bhpσ_68 chpσ_68 gσ_69 vσ_69 kdσ_69 k2σ_69 z7σ_69 c_70 gσ_71; omega) | omega)
              have kqσ_71 : ∀ j, 654 ≤ j → m_c X σ_71 a j = m_c X σ a j := fun j h => by rw [mcσ_71 j (by first | (clear hn ho h0 gσ wσ k2σ hh if_1 if_2 iz_3 bhpσ_5 chpσ_5 j29 kc_8 gσ_7 wσ_7 kdσ_7 k2σ_7 z7σ_7 iz_9 if_10 qw iz_11 gσ_12 vσ_12 lsσ_12 kdσ_12 k2σ_12 z7σ_12 iz_13 if_14 c_15 iz_49 gσ_50 vσ_50 k2σ_50 z7σ_50 gσ_51 vσ_51 kdσ_51 k2σ_51 z7σ_51 c_52 gσ_65 vσ_65 kdσ_65 k2σ_65 z7σ_65 kc_66 ahpσ_68 bhpσ_68 chpσ_68 gσ_69 vσ_69 kdσ_69 k2σ_69 z7σ_69 c_70 gσ_71 vσ_71; omega) | omega), if_neg (by first | (clear hn ho h0 gσ wσ k2σ hh if_1 if_2 iz_3 bhpσ_5 chpσ_5 j29 kc_8 gσ_7 wσ_7 kdσ_7 k2σ_7 z7σ_7 iz_9 if_10 qw iz_11 gσ_12 vσ_12 lsσ_12 kdσ_12 k2σ_12 z7σ_12 iz_13 if_14 c_15 iz_49 gσ_50 vσ_50 k2σ_50 z7σ_50 gσ_51 vσ_51 kdσ_51 k2σ_51 z7σ_51 c_52 gσ_65 vσ_65 kdσ_65 k2σ_65 z7σ_65 kc_66 ahpσ_68 bhpσ_68 chpσ_68 gσ_69 vσ_69 kdσ_69 k2σ_69 z7σ_69 c_70 gσ_71 vσ_71; omega) | omega)] <;> exact kqσ_69 j h
              have kdσ_71 : m_KD 40 X σ σ_71 := kdσ_69.ar hσ_71 (q_tk (k' := 34) hI ha rfl (Nat.succ_ne_zero _)) (by decide) (by decide)
              have k2σ_71 : m_c X σ_71 a 0 = m_c X σ a 0 ∧ m_c X σ_71 a 2 = m_c X σ a 2 := ⟨by rw [mcσ_71 0 (by decide), if_neg (by first | (clear hn ho h0 gσ wσ k2σ hh if_1 if_2 iz_3 bhpσ_5 chpσ_5 j29 kc_8 gσ_7 wσ_7 kdσ_7 k2σ_7 z7σ_7 iz_9 if_10 qw iz_11 gσ_12 vσ_12 lsσ_12 kdσ_12 k2σ_12 z7σ_12 iz_13 if_14 c_15 iz_49 gσ_50 vσ_50 k2σ_50 z7σ_50 gσ_51 vσ_51 kdσ_51 k2σ_51 z7σ_51 c_52 gσ_65 vσ_65 kdσ_65 k2σ_65 z7σ_65 kc_66 ahpσ_68 bhpσ_68 chpσ_68 gσ_69 vσ_69 kdσ_69 k2σ_69 z7σ_69 c_70 gσ_71 vσ_71 kdσ_71; omega) | omega)] <;> exact k2σ_69.1, by rw [mcσ_71 2 (by decide), if_neg (by first | (clear hn ho h0 gσ wσ k2σ hh if_1 if_2 iz_3 bhpσ_5 chpσ_5 j29 kc_8 gσ_7 wσ_7 kdσ_7 k2σ_7 z7σ_7 iz_9 if_10 qw iz_11 gσ_12 vσ_12 lsσ_12 kdσ_12 k2σ_12 z7σ_12 iz_13 if_14 c_15 iz_49 gσ_50 vσ_50 k2σ_50 z7σ_50 gσ_51 vσ_51 kdσ_51 k2σ_51 z7σ_51 c_52 gσ_65 vσ_65 kdσ_65 k2σ_65 z7σ_65 kc_66 ahpσ_68 bhpσ_68 chpσ_68 gσ_69 vσ_69 kdσ_69 k2σ_69 z7σ_69 c_70 gσ_71 vσ_71 kdσ_71; omega) | omega)] <;> exact k2σ_69.2⟩
              have z7σ_71 : m_c X σ_71 a 7 = 0 := (by rw [mcσ_71 7 (by decide), if_neg (by first | (clear hn ho h0 gσ wσ k2σ hh if_1 if_2 iz_3 bhpσ_5 chpσ_5 j29 kc_8 gσ_7 wσ_7 kdσ_7 k2σ_7 z7σ_7 iz_9 if_10 qw iz_11 gσ_12 vσ_12 lsσ_12 kdσ_12 k2σ_12 z7σ_12 iz_13 if_14 c_15 iz_49 gσ_50 vσ_50 k2σ_50 z7σ_50 gσ_51 vσ_51 kdσ_51 k2σ_51 z7σ_51 c_52 gσ_65 vσ_65 kdσ_65 k2σ_65 z7σ_65 kc_66 ahpσ_68 bhpσ_68 chpσ_68 gσ_69 vσ_69 kdσ_69 k2σ_69 z7σ_69 c_70 gσ_71 vσ_71 kdσ_71 k2σ_71; omega) | omega)]; exact z7σ_69)
              refine lv_iload_n hx hb dX12_doubts_132 rfl (lv_at hl 3 rfl) ?_
              refine q_if_eq (A := x_6.toInt) E rfl (tgt := 140) dX12_doubts_133 (by decide) (fun c_72 => ?_) (fun c_72 => ?_)
              · skip
                replace hF := q_ifp hF c_72
                refine lv_iload_n hx hb dX12_doubts_140 rfl (lv_at hl 2 rfl) ?_
                exact q_reti E hr hlk hI ⟨gσ_71, vσ_71, kqσ_71, kdσ_71, (hF.trans hout), fr_σ_71⟩ dX12_doubts_141
              · skip
                replace hF := q_ifn hF c_72
                refine lv_iload_n hx hb dX12_doubts_136 rfl (lv_at hl 1 rfl) ?_
                refine lv_goto (tgt := 141) hx hb dX12_doubts_137 (by decide) ?_
                exact q_reti E hr hlk hI ⟨gσ_71, vσ_71, kqσ_71, kdσ_71, (hF.trans hout), fr_σ_71⟩ dX12_doubts_141
            · skip
              replace hF := q_ifn hF c_70
              refine lv_iload_n hx hb dX12_doubts_126 rfl (lv_at hl 2 rfl) ?_
              refine lv_goto (tgt := 131) hx hb dX12_doubts_127 (by decide) ?_
              refine q_iastN E hI (q_tk (k' := 34) hI ha rfl (Nat.succ_ne_zero _)) ⟨by decide, rfl⟩ (by decide) (by rw [q_lnk (v := 4650) hI (q_tk (k' := 34) hI ha rfl (Nat.succ_ne_zero _)) rfl (by decide)]; decide) (show 1 < 2 by decide) (q_inU rfl) dX12_doubts_131 (fun H locs σ_73 hσ_73 hI => ?_)
              replace hF := q_letX hF hσ_73
              have fr_σ_73 := fr_σ_69.si hσ_73 (q_tk (k' := 34) hI ha rfl (Nat.succ_ne_zero _)) rfl
              have mcσ_73 := m_wr (v := f_1) (A := 6) hσ_73 (by decide) (by decide)
              have gσ_73 : m_G (m_c X σ_73 a) := m_G.wr gσ_69 mcσ_73 (by first | (clear hn h0 gσ wσ k2σ if_2 iz_3 bhpσ_5 chpσ_5 j29 kc_8 gσ_7 wσ_7 kdσ_7 z7σ_7 if_10 qw iz_11 gσ_12 vσ_12 lsσ_12 kdσ_12 z7σ_12 if_14 c_15 iz_49 gσ_50 vσ_50 z7σ_50 gσ_51 vσ_51 kdσ_51 z7σ_51 c_52 gσ_65 vσ_65 kdσ_65 z7σ_65 kc_66 ahpσ_68 bhpσ_68 chpσ_68 gσ_69 vσ_69 kdσ_69 c_70; omega) | omega)
              have vσ_73 : m_W (m_c X σ_73 a) (n + 1) := m_W.wr vσ_69 mcσ_73 (by first | (clear hn ho h0 gσ wσ k2σ hh if_1 if_2 iz_3 bhpσ_5 chpσ_5 j29 kc_8 gσ_7 wσ_7 kdσ_7 k2σ_7 z7σ_7 iz_9 if_10 qw iz_11 gσ_12 vσ_12 lsσ_12 kdσ_12 k2σ_12 z7σ_12 iz_13 if_14 c_15 iz_49 gσ_50 vσ_50 k2σ_50 z7σ_50 gσ_51 vσ_51 kdσ_51 k2σ_51 z7σ_51 c_52 gσ_65 vσ_65 kdσ_65 k2σ_65 z7σ_65 kc_66 ahpσ_68 bhpσ_68 chpσ_68 gσ_69 vσ_69 kdσ_69 k2σ_69 z7σ_69 c_70 gσ_73; omega) | omega)
              have kqσ_73 : ∀ j, 654 ≤ j → m_c X σ_73 a j = m_c X σ a j := fun j h => by rw [mcσ_73 j (by first | (clear hn ho h0 gσ wσ k2σ hh if_1 if_2 iz_3 bhpσ_5 chpσ_5 j29 kc_8 gσ_7 wσ_7 kdσ_7 k2σ_7 z7σ_7 iz_9 if_10 qw iz_11 gσ_12 vσ_12 lsσ_12 kdσ_12 k2σ_12 z7σ_12 iz_13 if_14 c_15 iz_49 gσ_50 vσ_50 k2σ_50 z7σ_50 gσ_51 vσ_51 kdσ_51 k2σ_51 z7σ_51 c_52 gσ_65 vσ_65 kdσ_65 k2σ_65 z7σ_65 kc_66 ahpσ_68 bhpσ_68 chpσ_68 gσ_69 vσ_69 kdσ_69 k2σ_69 z7σ_69 c_70 gσ_73 vσ_73; omega) | omega), if_neg (by first | (clear hn ho h0 gσ wσ k2σ hh if_1 if_2 iz_3 bhpσ_5 chpσ_5 j29 kc_8 gσ_7 wσ_7 kdσ_7 k2σ_7 z7σ_7 iz_9 if_10 qw iz_11 gσ_12 vσ_12 lsσ_12 kdσ_12 k2σ_12 z7σ_12 iz_13 if_14 c_15 iz_49 gσ_50 vσ_50 k2σ_50 z7σ_50 gσ_51 vσ_51 kdσ_51 k2σ_51 z7σ_51 c_52 gσ_65 vσ_65 kdσ_65 k2σ_65 z7σ_65 kc_66 ahpσ_68 bhpσ_68 chpσ_68 gσ_69 vσ_69 kdσ_69 k2σ_69 z7σ_69 c_70 gσ_73 vσ_73; omega) | omega)] <;> exact kqσ_69 j h
              have kdσ_73 : m_KD 40 X σ σ_73 := kdσ_69.ar hσ_73 (q_tk (k' := 34) hI ha rfl (Nat.succ_ne_zero _)) (by decide) (by decide)
              have k2σ_73 : m_c X σ_73 a 0 = m_c X σ a 0 ∧ m_c X σ_73 a 2 = m_c X σ a 2 := ⟨by rw [mcσ_73 0 (by decide), if_neg (by first | (clear hn ho h0 gσ wσ k2σ hh if_1 if_2 iz_3 bhpσ_5 chpσ_5 j29 kc_8 gσ_7 wσ_7 kdσ_7 k2σ_7 z7σ_7 iz_9 if_10 qw iz_11 gσ_12 vσ_12 lsσ_12 kdσ_12 k2σ_12 z7σ_12 iz_13 if_14 c_15 iz_49 gσ_50 vσ_50 k2σ_50 z7σ_50 gσ_51 vσ_51 kdσ_51 k2σ_51 z7σ_51 c_52 gσ_65 vσ_65 kdσ_65 k2σ_65 z7σ_65 kc_66 ahpσ_68 bhpσ_68 chpσ_68 gσ_69 vσ_69 kdσ_69 k2σ_69 z7σ_69 c_70 gσ_73 vσ_73 kdσ_73; omega) | omega)] <;> exact k2σ_69.1, by rw [mcσ_73 2 (by decide), if_neg (by first | (clear hn ho h0 gσ wσ k2σ hh if_1 if_2 iz_3 bhpσ_5 chpσ_5 j29 kc_8 gσ_7 wσ_7 kdσ_7 k2σ_7 z7σ_7 iz_9 if_10 qw iz_11 gσ_12 vσ_12 lsσ_12 kdσ_12 k2σ_12 z7σ_12 iz_13 if_14 c_15 iz_49 gσ_50 vσ_50 k2σ_50 z7σ_50 gσ_51 vσ_51 kdσ_51 k2σ_51 z7σ_51 c_52 gσ_65 vσ_65 kdσ_65 k2σ_65 z7σ_65 kc_66 ahpσ_68 bhpσ_68 chpσ_68 gσ_69 vσ_69 kdσ_69 k2σ_69 z7σ_69 c_70 gσ_73 vσ_73 kdσ_73; omega) | omega)] <;> exact k2σ_69.2⟩
              have z7σ_73 : m_c X σ_73 a 7 = 0 := (by rw [mcσ_73 7 (by decide), if_neg (by first | (clear hn ho h0 gσ wσ k2σ hh if_1 if_2 iz_3 bhpσ_5 chpσ_5 j29 kc_8 gσ_7 wσ_7 kdσ_7 k2σ_7 z7σ_7 iz_9 if_10 qw iz_11 gσ_12 vσ_12 lsσ_12 kdσ_12 k2σ_12 z7σ_12 iz_13 if_14 c_15 iz_49 gσ_50 vσ_50 k2σ_50 z7σ_50 gσ_51 vσ_51 kdσ_51 k2σ_51 z7σ_51 c_52 gσ_65 vσ_65 kdσ_65 k2σ_65 z7σ_65 kc_66 ahpσ_68 bhpσ_68 chpσ_68 gσ_69 vσ_69 kdσ_69 k2σ_69 z7σ_69 c_70 gσ_73 vσ_73 kdσ_73 k2σ_73; omega) | omega)]; exact z7σ_69)
              refine lv_iload_n hx hb dX12_doubts_132 rfl (lv_at hl 3 rfl) ?_
              refine q_if_eq (A := x_6.toInt) E rfl (tgt := 140) dX12_doubts_133 (by decide) (fun c_74 => ?_) (fun c_74 => ?_)
              · skip
                replace hF := q_ifp hF c_74
                refine lv_iload_n hx hb dX12_doubts_140 rfl (lv_at hl 2 rfl) ?_
                exact q_reti E hr hlk hI ⟨gσ_73, vσ_73, kqσ_73, kdσ_73, (hF.trans hout), fr_σ_73⟩ dX12_doubts_141
              · skip
                replace hF := q_ifn hF c_74
                refine lv_iload_n hx hb dX12_doubts_136 rfl (lv_at hl 1 rfl) ?_
                refine lv_goto (tgt := 141) hx hb dX12_doubts_137 (by decide) ?_
                exact q_reti E hr hlk hI ⟨gσ_73, vσ_73, kqσ_73, kdσ_73, (hF.trans hout), fr_σ_73⟩ dX12_doubts_141
          refine q_cv (q_rV11_1 (rest := []) E (hml.trans hl.1.symm) hI (c_X12_takes l X σ_51 a v1 ha gσ_51 (by first | (clear hn ho h0 gσ wσ k2σ if_1 if_2 iz_3 bhpσ_5 chpσ_5 j29 kc_8 gσ_7 wσ_7 kdσ_7 z7σ_7 iz_9 if_10 qw iz_11 gσ_12 vσ_12 lsσ_12 kdσ_12 z7σ_12 iz_13 if_14 c_15 iz_49 gσ_50 vσ_50 z7σ_50 gσ_51 vσ_51 kdσ_51 z7σ_51 c_52; omega) | omega) (by omega)) kv_X12_325 ha ⟨Nat.le_of_ble_eq_true rfl, Nat.le_of_ble_eq_true rfl⟩ (Nat.le_of_ble_eq_true rfl) dX12_doubts_102) hI (Nat.le_of_ble_eq_true rfl) (fun σ_76 H locs hpσ_76 hkσ_76 hI => ?_)
          have ahpσ_76 := hpσ_76.1
          have bhpσ_76 := hpσ_76.2.1
          have chpσ_76 := hpσ_76.2.2.1
          have dhpσ_76 := hpσ_76.2.2.2.1
          have ehpσ_76 := hpσ_76.2.2.2.2
          clear hpσ_76
          have fr_σ_76 := fr_σ_51.call ehpσ_76 rfl rfl
          replace hF := q_letX hF dhpσ_76
          have gσ_76 : m_G (m_c X σ_76 a) := ahpσ_76
          have vσ_76 : m_W (m_c X σ_76 a) (n + 1) := m_W.ext (fun j h0 h1 => bhpσ_76 j (by first | (clear hn ho h0 gσ wσ k2σ hh if_1 if_2 iz_3 bhpσ_5 chpσ_5 j29 kc_8 gσ_7 wσ_7 kdσ_7 k2σ_7 z7σ_7 iz_9 if_10 qw iz_11 gσ_12 vσ_12 lsσ_12 kdσ_12 k2σ_12 z7σ_12 iz_13 if_14 c_15 iz_49 gσ_50 vσ_50 k2σ_50 z7σ_50 gσ_51 vσ_51 kdσ_51 k2σ_51 z7σ_51 c_52 ahpσ_76 bhpσ_76 chpσ_76 dhpσ_76 ehpσ_76 gσ_76; omega) | omega) (by first | (clear hn ho h0 gσ wσ k2σ hh if_1 if_2 iz_3 bhpσ_5 chpσ_5 j29 kc_8 gσ_7 wσ_7 kdσ_7 k2σ_7 z7σ_7 iz_9 if_10 qw iz_11 gσ_12 vσ_12 lsσ_12 kdσ_12 k2σ_12 z7σ_12 iz_13 if_14 c_15 iz_49 gσ_50 vσ_50 k2σ_50 z7σ_50 gσ_51 vσ_51 kdσ_51 k2σ_51 z7σ_51 c_52 ahpσ_76 bhpσ_76 chpσ_76 dhpσ_76 ehpσ_76 gσ_76; omega) | omega)) vσ_51
          have kqσ_76 : ∀ j, 654 ≤ j → m_c X σ_76 a j = m_c X σ a j := (fun j h => (bhpσ_76 j (by first | (clear hn ho h0 gσ wσ k2σ hh if_1 if_2 iz_3 bhpσ_5 chpσ_5 j29 kc_8 gσ_7 wσ_7 kdσ_7 k2σ_7 z7σ_7 iz_9 if_10 qw iz_11 gσ_12 vσ_12 lsσ_12 kdσ_12 k2σ_12 z7σ_12 iz_13 if_14 c_15 iz_49 gσ_50 vσ_50 k2σ_50 z7σ_50 gσ_51 vσ_51 kdσ_51 k2σ_51 z7σ_51 c_52 ahpσ_76 bhpσ_76 chpσ_76 dhpσ_76 ehpσ_76 gσ_76 vσ_76; omega) | omega) (by first | (clear hn ho h0 gσ wσ k2σ hh if_1 if_2 iz_3 bhpσ_5 chpσ_5 j29 kc_8 gσ_7 wσ_7 kdσ_7 k2σ_7 z7σ_7 iz_9 if_10 qw iz_11 gσ_12 vσ_12 lsσ_12 kdσ_12 k2σ_12 z7σ_12 iz_13 if_14 c_15 iz_49 gσ_50 vσ_50 k2σ_50 z7σ_50 gσ_51 vσ_51 kdσ_51 k2σ_51 z7σ_51 c_52 ahpσ_76 bhpσ_76 chpσ_76 dhpσ_76 ehpσ_76 gσ_76 vσ_76; omega) | omega)).trans (kqσ_51 j h))
          have kdσ_76 : m_KD 40 X σ σ_76 := kdσ_51.tr chpσ_76
          have k2σ_76 : m_c X σ_76 a 0 = m_c X σ a 0 ∧ m_c X σ_76 a 2 = m_c X σ a 2 := ⟨(bhpσ_76 0 (by decide) (by decide)).trans k2σ_51.1, (bhpσ_76 2 (by decide) (by decide)).trans k2σ_51.2⟩
          have z7σ_76 : m_c X σ_76 a 7 = 0 := (bhpσ_76 7 (by decide) (by decide)).trans z7σ_51
          exact J_105_65 σ_76 _ _ ls fr_σ_76 gσ_76 vσ_76 kqσ_76 kdσ_76 k2σ_76 z7σ_76 hF hI (lv_sub hl [0, 1, 2, 3] rfl)
      refine q_if_eq (A := x_6.toInt) E rfl (tgt := 92) dX12_doubts_73 (by decide) (fun c_77 => ?_) (fun c_77 => ?_)
      · skip
        replace hF := q_ifp hF c_77
        exact J_92_51 σ_50 _ _ ls fr_σ_50 gσ_50 vσ_50 kqσ_50 kdσ_50 k2σ_50 z7σ_50 hF hI (lv_sub hl [1, 2, 3, 0] rfl)
      · skip
        replace hF := q_ifn hF c_77
        refine lv_aload_n hx hb dX12_doubts_76 rfl (lv_at hl 1 rfl) ?_
        refine lv_iload_n hx hb dX12_doubts_77 rfl (lv_at hl 3 rfl) ?_
        refine q_ci (q_rV11_1 (rest := []) E (hml.trans hl.1.symm) hI (c_X12_cardsOf l X σ_50 a f_1 ha gσ_50 (by first | (clear hn h0 gσ wσ k2σ if_2 iz_3 bhpσ_5 chpσ_5 j29 kc_8 gσ_7 wσ_7 kdσ_7 z7σ_7 if_10 qw iz_11 gσ_12 vσ_12 lsσ_12 kdσ_12 z7σ_12 if_14 c_15 iz_49 gσ_50 vσ_50 z7σ_50 c_77; omega) | omega)) kv_X12_293 ha ⟨Nat.le_of_ble_eq_true rfl, Nat.le_of_ble_eq_true rfl⟩ (Nat.le_of_ble_eq_true rfl) dX12_doubts_78) hI (Nat.le_of_ble_eq_true rfl) (fun r_78 σ_79 H locs hpσ_79 hkσ_79 hI => ?_)
        have ahpσ_79 := hpσ_79.1
        have bhpσ_79 := hpσ_79.2.1
        have chpσ_79 := hpσ_79.2.2.1
        have dhpσ_79 := hpσ_79.2.2.2
        clear hpσ_79
        replace hI := q_Irw ahpσ_79 hI
        replace hF := q_letX hF dhpσ_79
        refine q_if_ne (A := r_78.toInt) E rfl (tgt := 92) dX12_doubts_81 (by decide) (fun c_80 => ?_) (fun c_80 => ?_)
        · skip
          replace hF := q_ifn hF c_80
          exact J_92_51 σ_50 _ _ ls fr_σ_50 gσ_50 vσ_50 kqσ_50 kdσ_50 k2σ_50 z7σ_50 hF hI (lv_sub hl [1, 2, 3, 0] rfl)
        · skip
          replace hF := q_ifp hF c_80
          refine lv_aload_n hx hb dX12_doubts_84 rfl (lv_at hl 1 rfl) ?_
          refine gs_X12_35_12 E hI ha dX12_doubts_85 ?_
          refine lv_bipush (v := 8) hx hb dX12_doubts_88 zkb_8 ?_
          refine lv_iload_n hx hb dX12_doubts_90 rfl (lv_at hl 3 rfl) ?_
          refine q_iastN E hI (q_tk (k' := 34) hI ha rfl (Nat.succ_ne_zero _)) ⟨by decide, rfl⟩ (by decide) (by rw [q_lnk (v := 4650) hI (q_tk (k' := 34) hI ha rfl (Nat.succ_ne_zero _)) rfl (by decide)]; decide) (show 1 < 2 by decide) (q_inU rfl) dX12_doubts_91 (fun H locs σ_81 hσ_81 hI => ?_)
          replace hF := q_letX hF hσ_81
          have fr_σ_81 := fr_σ_50.si hσ_81 (q_tk (k' := 34) hI ha rfl (Nat.succ_ne_zero _)) rfl
          have mcσ_81 := m_wr (v := f_1) (A := 8) hσ_81 (by decide) (by decide)
          have gσ_81 : m_G (m_c X σ_81 a) := m_G.wr gσ_50 mcσ_81 (by first | (clear hn h0 gσ wσ k2σ if_2 iz_3 bhpσ_5 chpσ_5 j29 kc_8 gσ_7 wσ_7 kdσ_7 z7σ_7 if_10 qw iz_11 gσ_12 vσ_12 lsσ_12 kdσ_12 z7σ_12 if_14 c_15 iz_49 gσ_50 vσ_50 c_77 ahpσ_79 bhpσ_79 chpσ_79 dhpσ_79 c_80; omega) | omega)
          have vσ_81 : m_W (m_c X σ_81 a) (n + 1) := m_W.wr vσ_50 mcσ_81 (by first | (clear hn ho h0 gσ wσ k2σ hh if_1 if_2 iz_3 bhpσ_5 chpσ_5 j29 kc_8 gσ_7 wσ_7 kdσ_7 k2σ_7 z7σ_7 iz_9 if_10 qw iz_11 gσ_12 vσ_12 lsσ_12 kdσ_12 k2σ_12 z7σ_12 iz_13 if_14 c_15 iz_49 gσ_50 vσ_50 k2σ_50 z7σ_50 c_77 ahpσ_79 bhpσ_79 chpσ_79 dhpσ_79 c_80 gσ_81; omega) | omega)
          have kqσ_81 : ∀ j, 654 ≤ j → m_c X σ_81 a j = m_c X σ a j := fun j h => by rw [mcσ_81 j (by first | (clear hn ho h0 gσ wσ k2σ hh if_1 if_2 iz_3 bhpσ_5 chpσ_5 j29 kc_8 gσ_7 wσ_7 kdσ_7 k2σ_7 z7σ_7 iz_9 if_10 qw iz_11 gσ_12 vσ_12 lsσ_12 kdσ_12 k2σ_12 z7σ_12 iz_13 if_14 c_15 iz_49 gσ_50 vσ_50 k2σ_50 z7σ_50 c_77 ahpσ_79 bhpσ_79 chpσ_79 dhpσ_79 c_80 gσ_81 vσ_81; omega) | omega), if_neg (by first | (clear hn ho h0 gσ wσ k2σ hh if_1 if_2 iz_3 bhpσ_5 chpσ_5 j29 kc_8 gσ_7 wσ_7 kdσ_7 k2σ_7 z7σ_7 iz_9 if_10 qw iz_11 gσ_12 vσ_12 lsσ_12 kdσ_12 k2σ_12 z7σ_12 iz_13 if_14 c_15 iz_49 gσ_50 vσ_50 k2σ_50 z7σ_50 c_77 ahpσ_79 bhpσ_79 chpσ_79 dhpσ_79 c_80 gσ_81 vσ_81; omega) | omega)] <;> exact kqσ_50 j h
          have kdσ_81 : m_KD 40 X σ σ_81 := kdσ_50.ar hσ_81 (q_tk (k' := 34) hI ha rfl (Nat.succ_ne_zero _)) (by decide) (by decide)
          have k2σ_81 : m_c X σ_81 a 0 = m_c X σ a 0 ∧ m_c X σ_81 a 2 = m_c X σ a 2 := ⟨by rw [mcσ_81 0 (by decide), if_neg (by first | (clear hn ho h0 gσ wσ k2σ hh if_1 if_2 iz_3 bhpσ_5 chpσ_5 j29 kc_8 gσ_7 wσ_7 kdσ_7 k2σ_7 z7σ_7 iz_9 if_10 qw iz_11 gσ_12 vσ_12 lsσ_12 kdσ_12 k2σ_12 z7σ_12 iz_13 if_14 c_15 iz_49 gσ_50 vσ_50 k2σ_50 z7σ_50 c_77 ahpσ_79 bhpσ_79 chpσ_79 dhpσ_79 c_80 gσ_81 vσ_81 kdσ_81; omega) | omega)] <;> exact k2σ_50.1, by rw [mcσ_81 2 (by decide), if_neg (by first | (clear hn ho h0 gσ wσ k2σ hh if_1 if_2 iz_3 bhpσ_5 chpσ_5 j29 kc_8 gσ_7 wσ_7 kdσ_7 k2σ_7 z7σ_7 iz_9 if_10 qw iz_11 gσ_12 vσ_12 lsσ_12 kdσ_12 k2σ_12 z7σ_12 iz_13 if_14 c_15 iz_49 gσ_50 vσ_50 k2σ_50 z7σ_50 c_77 ahpσ_79 bhpσ_79 chpσ_79 dhpσ_79 c_80 gσ_81 vσ_81 kdσ_81; omega) | omega)] <;> exact k2σ_50.2⟩
          have z7σ_81 : m_c X σ_81 a 7 = 0 := (by rw [mcσ_81 7 (by decide), if_neg (by first | (clear hn ho h0 gσ wσ k2σ hh if_1 if_2 iz_3 bhpσ_5 chpσ_5 j29 kc_8 gσ_7 wσ_7 kdσ_7 k2σ_7 z7σ_7 iz_9 if_10 qw iz_11 gσ_12 vσ_12 lsσ_12 kdσ_12 k2σ_12 z7σ_12 iz_13 if_14 c_15 iz_49 gσ_50 vσ_50 k2σ_50 z7σ_50 c_77 ahpσ_79 bhpσ_79 chpσ_79 dhpσ_79 c_80 gσ_81 vσ_81 kdσ_81 k2σ_81; omega) | omega)]; exact z7σ_50)
          exact J_92_51 σ_81 _ _ ls fr_σ_81 gσ_81 vσ_81 kqσ_81 kdσ_81 k2σ_81 z7σ_81 hF hI (lv_sub hl [1, 2, 3, 0] rfl)
  refine q_if_ne (A := r_4.toInt) E rfl (tgt := 28) dX12_doubts_21 (by decide) (fun c_82 => ?_) (fun c_82 => ?_)
  · skip
    replace hF := q_ifn hF c_82
    refine lv_iconst (v := 0) hx hb dX12_doubts_28 zki_0 ?_
    have kc_83 : (0 : Int32).toInt = 0 := zt_0
    exact J_29_6 0 _ _ ls (by first | (clear hn ho h0 gσ wσ k2σ hh if_1 if_2 iz_3 bhpσ_5 chpσ_5 c_82; omega) | omega) hF hI (lv_sub hl [1, 2, 0] rfl)
  · skip
    replace hF := q_ifp hF c_82
    refine lv_iconst (v := 1) hx hb dX12_doubts_24 zki_1 ?_
    refine lv_goto (tgt := 29) hx hb dX12_doubts_25 (by decide) ?_
    have kc_84 : (1 : Int32).toInt = 1 := zt_1
    exact J_29_6 1 _ _ ls (by first | (clear hn ho h0 gσ wσ k2σ hh if_1 if_2 iz_3 bhpσ_5 chpσ_5 c_82; omega) | omega) hF hI (lv_sub hl [1, 2, 0] rfl)
end
