section
set_option maxRecDepth 100000 in
set_option maxHeartbeats 4000000 in
theorem c_X12_isImpossible (l : Launch) (X : XW) (σ : ST) (a : Nat) (v1 : Int32) (ha : q_kd X a = 12) (hG : m_G (m_c X σ a)) (h0 : 0 ≤ v1.toInt ∧ v1.toInt < m_c X σ a 2) (ho : 1 ≤ m_c X σ a 9) : Met l yX12_isImpossible (q_ws yX12_isImpossible cX12_isImpossible 2 (some .boolean)) (q_rm 4 91) (q_P X σ [.ref a, .int v1]) (q_Qi X 9 σ (fun (r : Int32) (σ' : ST) => σ' = σ ∧ (0 ≤ r.toInt ∧ r.toInt ≤ 1) ∧ r = F_X12_isImpossible X σ a v1)) 0 0 (q_reg X) := by
  refine q_met 9 (by first | exact rfl | decide +kernel) rfl (Nat.le_of_ble_eq_true rfl) (fun p e s m below meth c E hml hr hlk hI ls hl => ?_)
  have hx := E.1
  have hb := E.2.1
  have hl : lv_has ls 2 [(0, .ref a), (1, .int v1)] := hl
  have hh := hG.hd
  obtain ⟨out, hout⟩ : ∃ o, o = F_X12_isImpossible X σ a v1 := ⟨_, rfl⟩
  have hF := hout.symm
  unfold F_X12_isImpossible at hF
  refine lv_aload_n hx hb dX12_isImpossible_0 rfl (lv_at hl 0 rfl) ?_
  refine lv_iload_n hx hb dX12_isImpossible_1 rfl (lv_at hl 1 rfl) ?_
  refine lv_aload_n hx hb dX12_isImpossible_2 rfl (lv_at hl 0 rfl) ?_
  refine gs_X12_35_12 E hI ha dX12_isImpossible_3 ?_
  refine lv_iconst (v := 5) hx hb dX12_isImpossible_6 zki_5 ?_
  refine q_iald E hI (q_tk (k' := 34) hI ha rfl (Nat.succ_ne_zero _)) ⟨by decide, rfl⟩ (by decide) (by rw [q_lnk (v := 4650) hI (q_tk (k' := 34) hI ha rfl (Nat.succ_ne_zero _)) rfl (by decide)]; decide) dX12_isImpossible_7 ?_
  refine lv_topi (fun f_1 ef_1 => ?_)
  replace hF := q_letX hF ef_1
  have if_1 : f_1.toInt = m_c X σ a 5 := m_rd ef_1 (by decide)
  refine q_ci (q_rV11_2 (rest := []) E (hml.trans hl.1.symm) hI (c_X12_unknownOf l X σ a v1 f_1 ha hG (by omega) (by first | (clear h0 ho; omega) | omega)) kv_X12_336 ha ⟨Nat.le_of_ble_eq_true rfl, Nat.le_of_ble_eq_true rfl⟩ (Nat.le_of_ble_eq_true rfl) dX12_isImpossible_8) hI (Nat.le_of_ble_eq_true rfl) (fun r_2 σ_3 H locs hpσ_3 hkσ_3 hI => ?_)
  have ahpσ_3 := hpσ_3.1
  have bhpσ_3 := hpσ_3.2.1
  have chpσ_3 := hpσ_3.2.2.1
  have dhpσ_3 := hpσ_3.2.2.2
  clear hpσ_3
  replace hI := q_Irw ahpσ_3 hI
  replace hF := q_letX hF dhpσ_3
  have ir_2 : r_2.toInt = (m_U (m_c X σ a) v1.toInt (m_c X σ a 5)) := (by first | exact bhpσ_3 | (rw [bhpσ_3, if_1]) | (simp only [bhpσ_3, if_1]))
  refine lv_aload_n hx hb dX12_isImpossible_11 rfl (lv_at hl 0 rfl) ?_
  refine gs_X12_35_12 E hI ha dX12_isImpossible_12 ?_
  refine lv_aload_n hx hb dX12_isImpossible_15 rfl (lv_at hl 0 rfl) ?_
  refine gs_X12_35_12 E hI ha dX12_isImpossible_16 ?_
  refine lv_bipush (v := 9) hx hb dX12_isImpossible_19 zkb_9 ?_
  refine q_iald E hI (q_tk (k' := 34) hI ha rfl (Nat.succ_ne_zero _)) ⟨by decide, rfl⟩ (by decide) (by rw [q_lnk (v := 4650) hI (q_tk (k' := 34) hI ha rfl (Nat.succ_ne_zero _)) rfl (by decide)]; decide) dX12_isImpossible_21 ?_
  refine lv_topi (fun f_4 ef_4 => ?_)
  replace hF := q_letX hF ef_4
  have if_4 : f_4.toInt = m_c X σ a 9 := m_rd ef_4 (by decide)
  refine lv_iconst (v := 1) hx hb dX12_isImpossible_22 zki_1 ?_
  refine lv_isub hx hb dX12_isImpossible_23 ?_
  refine lv_topi (fun z_5 ez_5 => ?_)
  replace hF := q_letX hF ez_5
  have iz_5 := q_subI (A := (m_c X σ a 9)) (B := 1) ez_5 if_4 (by decide) (by first | (clear h0 if_1 ahpσ_3 bhpσ_3 chpσ_3 dhpσ_3 ir_2; omega) | omega) (by first | (clear h0 if_1 ahpσ_3 bhpσ_3 chpσ_3 dhpσ_3 ir_2; omega) | omega)
  refine q_ci (q_runS (As := [.int z_5]) (rest := [.ref (q_rf X a 20), .int r_2]) E (hml.trans hl.1.symm) hI (c_X12_laid l X σ z_5 (by first | (clear h0 if_1 ahpσ_3 bhpσ_3 chpσ_3 dhpσ_3 ir_2; omega) | omega)) ks_X12_279 rfl ⟨Nat.le_of_ble_eq_true rfl, Nat.le_of_ble_eq_true rfl⟩ ⟨Nat.le_refl _, Nat.le_refl _⟩ rfl (Nat.le_of_ble_eq_true rfl) dX12_isImpossible_24) hI (Nat.le_of_ble_eq_true rfl) (fun r_6 σ_7 H locs hpσ_7 hkσ_7 hI => ?_)
  have ahpσ_7 := hpσ_7.1
  have bhpσ_7 := hpσ_7.2.1
  have chpσ_7 := hpσ_7.2.2
  clear hpσ_7
  replace hI := q_Irw ahpσ_7 hI
  replace hF := q_letX hF chpσ_7
  have ir_6 : r_6.toInt = (94 + 7 * ((m_c X σ a 9) - 1)) := (by first | (clear h0 ho hh if_1 ahpσ_3 bhpσ_3 chpσ_3 dhpσ_3 ir_2 ahpσ_7 chpσ_7; omega) | omega)
  refine lv_iconst (v := 2) hx hb dX12_isImpossible_27 zki_2 ?_
  refine lv_iadd hx hb dX12_isImpossible_28 ?_
  refine lv_topi (fun z_8 ez_8 => ?_)
  replace hF := q_letX hF ez_8
  have iz_8 := q_addI (A := (94 + 7 * ((m_c X σ a 9) - 1))) (B := 2) ez_8 ir_6 (by decide) (by first | (clear h0 if_1 ahpσ_3 bhpσ_3 chpσ_3 dhpσ_3 ir_2 ahpσ_7 bhpσ_7 chpσ_7 ir_6; omega) | omega) (by first | (clear h0 if_1 ahpσ_3 bhpσ_3 chpσ_3 dhpσ_3 ir_2 ahpσ_7 bhpσ_7 chpσ_7 ir_6; omega) | omega)
  refine q_iald E hI (q_tk (k' := 34) hI ha rfl (Nat.succ_ne_zero _)) ⟨by decide, rfl⟩ (by first | (clear h0 if_1 ahpσ_3 bhpσ_3 chpσ_3 dhpσ_3 ir_2 ahpσ_7 bhpσ_7 chpσ_7 ir_6; omega) | omega) (by rw [q_lnk (v := 4650) hI (q_tk (k' := 34) hI ha rfl (Nat.succ_ne_zero _)) rfl (by decide)]; omega) dX12_isImpossible_29 ?_
  refine lv_topi (fun f_9 ef_9 => ?_)
  replace hF := q_letX hF ef_9
  have if_9 : f_9.toInt = m_c X σ a ((94 + 7 * ((m_c X σ a 9) - 1)) + 2) := m_rd ef_9 iz_8
  refine q_icmp_ge (A := r_2.toInt) (B := f_9.toInt) E rfl rfl (tgt := 37) dX12_isImpossible_30 (by decide) (fun c_10 => ?_) (fun c_10 => ?_)
  · skip
    replace hF := q_ifn hF (Int.not_lt.mpr c_10)
    refine lv_iconst (v := 0) hx hb dX12_isImpossible_37 zki_0 ?_
    have hrv : (0 : Int32).toInt = 0 := zt_0
    exact q_retz E hr hlk hI ⟨by decide, by decide⟩ ⟨rfl, ⟨by decide, by decide⟩, (hF.trans hout)⟩ dX12_isImpossible_38
  · skip
    replace hF := q_ifp hF c_10
    refine lv_iconst (v := 1) hx hb dX12_isImpossible_33 zki_1 ?_
    refine lv_goto (tgt := 38) hx hb dX12_isImpossible_34 (by decide) ?_
    have hrv : (1 : Int32).toInt = 1 := zt_1
    exact q_retz E hr hlk hI ⟨by decide, by decide⟩ ⟨rfl, ⟨by decide, by decide⟩, (hF.trans hout)⟩ dX12_isImpossible_38
end
