section
set_option maxRecDepth 100000 in
set_option maxHeartbeats 4000000 in
theorem c_X12_blinds (l : Launch) (X : XW) (σ : ST) (a : Nat) (v1 : Int32) (ha : q_kd X a = 12) (hG : m_G (m_c X σ a)) (h0 : 0 ≤ v1.toInt ∧ v1.toInt < m_c X σ a 2) (ho : m_c X σ a 7 = 1) (hp : v1.toInt ≠ m_c X σ a 6) : Met l yX12_blinds (q_ws yX12_blinds cX12_blinds 3 none) (q_rm 5 114) (q_P X σ [.ref a, .int v1]) (q_Qv X 8 σ (fun (σ' : ST) => (0 ≤ (σ'.2.1 a 30).toInt ∧ (σ'.2.1 a 30).toInt ≤ 409600000000 ∧ 1 ≤ (σ'.2.1 a 31).toInt ∧ (σ'.2.1 a 31).toInt ≤ 409600000000) ∧ σ' = F_X12_blinds X σ a v1 ∧ q_ow [] [(12, 30), (12, 31)] X σ σ')) 0 0 (q_reg X) := by
  refine q_met 8 (by first | exact rfl | decide +kernel) rfl (Nat.le_of_ble_eq_true rfl) (fun p e s m below meth c E hml hr hlk hI ls hl => ?_)
  have hx := E.1
  have hb := E.2.1
  have hl : lv_has ls 3 [(0, .ref a), (1, .int v1)] := hl
  have feσ : m_c X σ a = m_c X σ a := rfl
  have fr_σ : q_ow [] [(12, 30), (12, 31)] X σ σ := q_ow.rf
  have hh := hG.hd
  have vo := hG.V_open (p := v1.toInt) (by first | (clear h0 ho hp hh; omega) | omega) (by first | (clear h0 ho hp hh; omega) | omega) ho hp
  obtain ⟨out, hout⟩ : ∃ o, o = F_X12_blinds X σ a v1 := ⟨_, rfl⟩
  have hF := hout.symm
  unfold F_X12_blinds at hF
  refine lv_aload_n hx hb dX12_blinds_0 rfl (lv_at hl 0 rfl) ?_
  refine gs_X12_35_12 E hI ha dX12_blinds_1 ?_
  refine lv_aload_n hx hb dX12_blinds_4 rfl (lv_at hl 0 rfl) ?_
  refine gs_X12_35_12 E hI ha dX12_blinds_5 ?_
  refine lv_bipush (v := 9) hx hb dX12_blinds_8 zkb_9 ?_
  refine q_iald E hI (q_tk (k' := 34) hI ha rfl (Nat.succ_ne_zero _)) ⟨by decide, rfl⟩ (by decide) (by rw [q_lnk (v := 4650) hI (q_tk (k' := 34) hI ha rfl (Nat.succ_ne_zero _)) rfl (by decide)]; decide) dX12_blinds_10 ?_
  refine lv_topi (fun f_1 ef_1 => ?_)
  replace hF := q_letX hF ef_1
  have if_1 : f_1.toInt = m_c X σ a 9 := m_rd ef_1 (by decide)
  refine lv_iconst (v := 1) hx hb dX12_blinds_11 zki_1 ?_
  refine lv_isub hx hb dX12_blinds_12 ?_
  refine lv_topi (fun z_2 ez_2 => ?_)
  replace hF := q_letX hF ez_2
  have iz_2 := q_subI (A := (m_c X σ a 9)) (B := 1) ez_2 if_1 (by decide) (by first | (clear h0 hp vo; omega) | omega) (by first | (clear h0 hp vo; omega) | omega)
  refine q_ci (q_runS (As := [.int z_2]) (rest := [.ref (q_rf X a 20)]) E (hml.trans hl.1.symm) hI (c_X12_laid l X σ z_2 (by first | (clear h0 hp vo; omega) | omega)) ks_X12_279 rfl ⟨Nat.le_of_ble_eq_true rfl, Nat.le_of_ble_eq_true rfl⟩ ⟨Nat.le_refl _, Nat.le_refl _⟩ rfl (Nat.le_of_ble_eq_true rfl) dX12_blinds_13) hI (Nat.le_of_ble_eq_true rfl) (fun r_3 σ_4 H locs hpσ_4 hkσ_4 hI => ?_)
  have ahpσ_4 := hpσ_4.1
  have bhpσ_4 := hpσ_4.2.1
  have chpσ_4 := hpσ_4.2.2
  clear hpσ_4
  replace hI := q_Irw ahpσ_4 hI
  replace hF := q_letX hF chpσ_4
  have ir_3 : r_3.toInt = (94 + 7 * ((m_c X σ a 9) - 1)) := (by first | (clear h0 ho hp hh vo ahpσ_4 chpσ_4; omega) | omega)
  refine lv_iconst (v := 2) hx hb dX12_blinds_16 zki_2 ?_
  refine lv_iadd hx hb dX12_blinds_17 ?_
  refine lv_topi (fun z_5 ez_5 => ?_)
  replace hF := q_letX hF ez_5
  have iz_5 := q_addI (A := (94 + 7 * ((m_c X σ a 9) - 1))) (B := 2) ez_5 ir_3 (by decide) (by first | (clear h0 hp vo ahpσ_4 bhpσ_4 chpσ_4 ir_3; omega) | omega) (by first | (clear h0 hp vo ahpσ_4 bhpσ_4 chpσ_4 ir_3; omega) | omega)
  refine q_iald E hI (q_tk (k' := 34) hI ha rfl (Nat.succ_ne_zero _)) ⟨by decide, rfl⟩ (by first | (clear h0 hp vo ahpσ_4 bhpσ_4 chpσ_4 ir_3; omega) | omega) (by rw [q_lnk (v := 4650) hI (q_tk (k' := 34) hI ha rfl (Nat.succ_ne_zero _)) rfl (by decide)]; omega) dX12_blinds_18 ?_
  refine lv_topi (fun f_6 ef_6 => ?_)
  replace hF := q_letX hF ef_6
  have if_6 : f_6.toInt = m_c X σ a ((94 + 7 * ((m_c X σ a 9) - 1)) + 2) := m_rd ef_6 iz_5
  refine lv_istore_n (lv' := [(2, .int f_6), (0, .ref a), (1, .int v1)]) hx hb dX12_blinds_19 rfl hl (by decide) rfl (fun ls hl => ?_)
  refine lv_aload_n hx hb dX12_blinds_20 rfl (lv_at hl 1 rfl) ?_
  refine lv_aload_n hx hb dX12_blinds_21 rfl (lv_at hl 1 rfl) ?_
  refine lv_iload_n hx hb dX12_blinds_22 rfl (lv_at hl 2 rfl) ?_
  refine lv_aload_n hx hb dX12_blinds_23 rfl (lv_at hl 1 rfl) ?_
  refine gs_X12_35_12 E hI ha dX12_blinds_24 ?_
  refine lv_iconst (v := 5) hx hb dX12_blinds_27 zki_5 ?_
  refine q_iald E hI (q_tk (k' := 34) hI ha rfl (Nat.succ_ne_zero _)) ⟨by decide, rfl⟩ (by decide) (by rw [q_lnk (v := 4650) hI (q_tk (k' := 34) hI ha rfl (Nat.succ_ne_zero _)) rfl (by decide)]; decide) dX12_blinds_28 ?_
  refine lv_topi (fun f_7 ef_7 => ?_)
  replace hF := q_letX hF ef_7
  have if_7 : f_7.toInt = m_c X σ a 5 := m_rd ef_7 (by decide)
  refine q_ci (q_rV11_2 (rest := [.ref a]) E (hml.trans hl.1.symm) hI (c_X12_unknownOf l X σ a v1 f_7 ha hG (by omega) (by first | (clear h0 ho hp vo if_1 iz_2 ahpσ_4 bhpσ_4 chpσ_4 ir_3 iz_5 if_6; omega) | omega)) kv_X12_336 ha ⟨Nat.le_of_ble_eq_true rfl, Nat.le_of_ble_eq_true rfl⟩ (Nat.le_of_ble_eq_true rfl) dX12_blinds_29) hI (Nat.le_of_ble_eq_true rfl) (fun r_8 σ_9 H locs hpσ_9 hkσ_9 hI => ?_)
  have ahpσ_9 := hpσ_9.1
  have bhpσ_9 := hpσ_9.2.1
  have chpσ_9 := hpσ_9.2.2.1
  have dhpσ_9 := hpσ_9.2.2.2
  clear hpσ_9
  replace hI := q_Irw ahpσ_9 hI
  replace hF := q_letX hF dhpσ_9
  have ir_8 : r_8.toInt = (m_U (m_c X σ a) v1.toInt (m_c X σ a 5)) := (by first | exact bhpσ_9 | (rw [bhpσ_9, if_7]) | (simp only [bhpσ_9, if_7]))
  refine lv_iload_n hx hb dX12_blinds_32 rfl (lv_at hl 0 rfl) ?_
  refine q_cl_ (q_runS (As := [.int r_8, .int f_6]) (rest := [.ref a]) E (hml.trans hl.1.symm) hI (c_X12_choose l X σ r_8 f_6 (by first | (clear h0 ho hp hh vo if_1 iz_2 ahpσ_4 bhpσ_4 chpσ_4 ir_3 iz_5 if_6 if_7 ahpσ_9 dhpσ_9; omega) | omega) (by first | (clear h0 ho hp hh if_1 iz_2 ahpσ_4 bhpσ_4 chpσ_4 ir_3 iz_5 if_7 ahpσ_9 bhpσ_9 chpσ_9 dhpσ_9 ir_8; omega) | omega)) ks_X12_342 rfl ⟨Nat.le_of_ble_eq_true rfl, Nat.le_of_ble_eq_true rfl⟩ ⟨Nat.le_refl _, Nat.le_refl _⟩ rfl (Nat.le_of_ble_eq_true rfl) dX12_blinds_33) hI (Nat.le_of_ble_eq_true rfl) (fun r_10 σ_11 H locs hpσ_11 hkσ_11 hI => ?_)
  have ahpσ_11 := hpσ_11.1
  have bhpσ_11 := hpσ_11.2.1
  have chpσ_11 := hpσ_11.2.2.1
  have dhpσ_11 := hpσ_11.2.2.2
  clear hpσ_11
  replace hI := q_Irw ahpσ_11 hI
  replace hF := q_letX hF dhpσ_11
  refine ps_X12_346_12 E hI ha  dX12_blinds_36 (fun H locs σ_12 hσ_12 hI => ?_)
  replace hF := q_letX hF hσ_12
  have fr_σ_12 := fr_σ.sl hσ_12 ha rfl
  have mcσ_12 := m_wl (X := X) hσ_12 a
  have feσ_12 : m_c X σ_12 a = m_c X σ a := (funext mcσ_12).trans feσ
  have btσ_12 : 0 ≤ (σ_12.2.1 a 30).toInt ∧ (σ_12.2.1 a 30).toInt ≤ 409600000000 := (by rw [m_ll hσ_12]; omega)
  refine lv_aload_n hx hb dX12_blinds_39 rfl (lv_at hl 1 rfl) ?_
  refine lv_aload_n hx hb dX12_blinds_40 rfl (lv_at hl 1 rfl) ?_
  refine lv_iload_n hx hb dX12_blinds_41 rfl (lv_at hl 2 rfl) ?_
  refine q_ci (q_rV11_1 (rest := [.ref a]) E (hml.trans hl.1.symm) hI (c_X12_unknownAll l X σ_12 a v1 ha (by rw [feσ_12]; exact hG) (by rw [feσ_12]; exact (by omega))) kv_X12_339 ha ⟨Nat.le_of_ble_eq_true rfl, Nat.le_of_ble_eq_true rfl⟩ (Nat.le_of_ble_eq_true rfl) dX12_blinds_42) hI (Nat.le_of_ble_eq_true rfl) (fun r_13 σ_14 H locs hpσ_14 hkσ_14 hI => ?_)
  have ahpσ_14 := hpσ_14.1
  have bhpσ_14 := hpσ_14.2.1
  have chpσ_14 := hpσ_14.2.2.1
  have dhpσ_14 := hpσ_14.2.2.2
  clear hpσ_14
  replace hI := q_Irw ahpσ_14 hI
  rw [feσ_12] at bhpσ_14
  replace hF := q_letX hF dhpσ_14
  have ir_13 : r_13.toInt = (m_V (m_c X σ a) v1.toInt (m_c X σ a 0).toNat) := (by first | exact bhpσ_14 | (rw [bhpσ_14]) | (simp only [bhpσ_14]))
  refine lv_iload_n hx hb dX12_blinds_45 rfl (lv_at hl 0 rfl) ?_
  refine q_cl_ (q_runS (As := [.int r_13, .int f_6]) (rest := [.ref a]) E (hml.trans hl.1.symm) hI (c_X12_choose l X σ_12 r_13 f_6 (by omega) (by first | (clear h0 ho hp hh if_1 iz_2 ahpσ_4 bhpσ_4 chpσ_4 ir_3 iz_5 if_7 ahpσ_9 bhpσ_9 chpσ_9 dhpσ_9 ir_8 ahpσ_11 bhpσ_11 chpσ_11 dhpσ_11 ahpσ_14 bhpσ_14 chpσ_14 dhpσ_14 ir_13; omega) | omega)) ks_X12_342 rfl ⟨Nat.le_of_ble_eq_true rfl, Nat.le_of_ble_eq_true rfl⟩ ⟨Nat.le_refl _, Nat.le_refl _⟩ rfl (Nat.le_of_ble_eq_true rfl) dX12_blinds_46) hI (Nat.le_of_ble_eq_true rfl) (fun r_15 σ_16 H locs hpσ_16 hkσ_16 hI => ?_)
  have ahpσ_16 := hpσ_16.1
  have bhpσ_16 := hpσ_16.2.1
  have chpσ_16 := hpσ_16.2.2.1
  have dhpσ_16 := hpσ_16.2.2.2
  clear hpσ_16
  replace hI := q_Irw ahpσ_16 hI
  replace hF := q_letX hF dhpσ_16
  refine ps_X12_349_12 E hI ha  dX12_blinds_49 (fun H locs σ_17 hσ_17 hI => ?_)
  replace hF := q_letX hF hσ_17
  have fr_σ_17 := fr_σ_12.sl hσ_17 ha rfl
  have mcσ_17 := m_wl (X := X) hσ_17 a
  have feσ_17 : m_c X σ_17 a = m_c X σ a := (funext mcσ_17).trans feσ_12
  have btσ_17 : 0 ≤ (σ_17.2.1 a 30).toInt ∧ (σ_17.2.1 a 30).toInt ≤ 409600000000 := (by rw [m_lln hσ_17 (Or.inr (by decide))]; exact btσ_12)
  have bbσ_17 : 1 ≤ (σ_17.2.1 a 31).toInt ∧ (σ_17.2.1 a 31).toInt ≤ 409600000000 := (by rw [m_ll hσ_17]; omega)
  exact q_retv E hr hlk hI ⟨⟨btσ_17.1, btσ_17.2, bbσ_17.1, bbσ_17.2⟩, (hF.trans hout), fr_σ_17⟩ dX12_blinds_52
end
