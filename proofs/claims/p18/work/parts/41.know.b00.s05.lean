section
set_option maxRecDepth 100000 in
set_option maxHeartbeats 4000000 in
theorem c_X12_behindOf (l : Launch) (X : XW) (σ : ST) (a : Nat) (v1 : Int32) (ha : q_kd X a = 12) (hG : m_G (m_c X σ a)) (h0 : 0 ≤ v1.toInt ∧ v1.toInt < m_c X σ a 2) : Met l yX12_behindOf (q_ws yX12_behindOf cX12_behindOf 2 (some .int)) (q_rm 0 0) (q_P X σ [.ref a, .int v1]) (q_Qi X 9 σ (fun (r : Int32) (σ' : ST) => σ' = σ ∧ (0 ≤ r.toInt ∧ r.toInt < m_c X σ a 2) ∧ ((v1.toInt + 1 < m_c X σ a 2 → r.toInt = v1.toInt + 1) ∧ (v1.toInt + 1 = m_c X σ a 2 → r.toInt = 0)) ∧ r = F_X12_behindOf X σ a v1)) 0 0 (q_reg X) := by
  refine q_met 9 (by first | exact rfl | decide +kernel) rfl (Nat.le_of_ble_eq_true rfl) (fun p e s m below meth c E hml hr hlk hI ls hl => ?_)
  have hx := E.1
  have hb := E.2.1
  have hl : lv_has ls 2 [(0, .ref a), (1, .int v1)] := hl
  have hh := hG.hd
  obtain ⟨out, hout⟩ : ∃ o, o = F_X12_behindOf X σ a v1 := ⟨_, rfl⟩
  have hF := hout.symm
  unfold F_X12_behindOf at hF
  refine lv_iload_n hx hb dX12_behindOf_0 rfl (lv_at hl 1 rfl) ?_
  refine lv_iconst (v := 1) hx hb dX12_behindOf_1 zki_1 ?_
  refine lv_iadd hx hb dX12_behindOf_2 ?_
  refine lv_topi (fun z_1 ez_1 => ?_)
  replace hF := q_letX hF ez_1
  have iz_1 := q_addI (A := v1.toInt) (B := 1) ez_1 rfl (by decide) (by first | (clear h0 hh; omega) | omega) (by first | (clear h0; omega) | omega)
  refine lv_aload_n hx hb dX12_behindOf_3 rfl (lv_at hl 0 rfl) ?_
  refine gs_X12_35_12 E hI ha dX12_behindOf_4 ?_
  refine lv_iconst (v := 2) hx hb dX12_behindOf_7 zki_2 ?_
  refine q_iald E hI (q_tk (k' := 34) hI ha rfl (Nat.succ_ne_zero _)) ⟨by decide, rfl⟩ (by decide) (by rw [q_lnk (v := 4650) hI (q_tk (k' := 34) hI ha rfl (Nat.succ_ne_zero _)) rfl (by decide)]; decide) dX12_behindOf_8 ?_
  refine lv_topi (fun f_2 ef_2 => ?_)
  replace hF := q_letX hF ef_2
  have if_2 : f_2.toInt = m_c X σ a 2 := m_rd ef_2 (by decide)
  refine lv_irem hx hb dX12_behindOf_9 (q_ne0 (by first | (clear h0 hh; omega) | omega)) ?_
  refine lv_topi (fun z_3 ez_3 => ?_)
  replace hF := q_letX hF (ez_3.trans (q_remI _ _))
  have rmz_3 := m_rem ez_3 (by first | (clear h0 hh if_2; omega) | omega) (by first | (clear h0; omega) | omega)
  exact q_reti E hr hlk hI ⟨rfl, (by first | (clear h0 hh iz_1; omega) | omega), (by first | (clear h0 hh; omega) | omega), (hF.trans hout)⟩ dX12_behindOf_10

set_option maxRecDepth 100000 in
set_option maxHeartbeats 4000000 in
theorem c_X12_waitsOf (l : Launch) (X : XW) (σ : ST) (a : Nat) (v1 : Int32) (ha : q_kd X a = 12) (hG : m_G (m_c X σ a)) (h0 : 0 ≤ v1.toInt ∧ v1.toInt < m_c X σ a 2) : Met l yX12_waitsOf (q_ws yX12_waitsOf cX12_waitsOf 3 (some .int)) (q_rm 1 21) (q_P X σ [.ref a, .int v1]) (q_Qi X 9 σ (fun (r : Int32) (σ' : ST) => σ' = σ ∧ (0 ≤ r.toInt ∧ r.toInt < m_c X σ a 2) ∧ r = F_X12_waitsOf X σ a v1)) 0 0 (q_reg X) := by
  refine q_met 9 (by first | exact rfl | decide +kernel) rfl (Nat.le_of_ble_eq_true rfl) (fun p e s m below meth c E hml hr hlk hI ls hl => ?_)
  have hx := E.1
  have hb := E.2.1
  have hl : lv_has ls 3 [(0, .ref a), (1, .int v1)] := hl
  have hh := hG.hd
  obtain ⟨out, hout⟩ : ∃ o, o = F_X12_waitsOf X σ a v1 := ⟨_, rfl⟩
  have hF := hout.symm
  unfold F_X12_waitsOf at hF
  refine lv_aload_n hx hb dX12_waitsOf_0 rfl (lv_at hl 0 rfl) ?_
  refine gs_X12_35_12 E hI ha dX12_waitsOf_1 ?_
  refine lv_bipush (v := 7) hx hb dX12_waitsOf_4 zkb_7 ?_
  refine q_iald E hI (q_tk (k' := 34) hI ha rfl (Nat.succ_ne_zero _)) ⟨by decide, rfl⟩ (by decide) (by rw [q_lnk (v := 4650) hI (q_tk (k' := 34) hI ha rfl (Nat.succ_ne_zero _)) rfl (by decide)]; decide) dX12_waitsOf_6 ?_
  refine lv_topi (fun f_1 ef_1 => ?_)
  replace hF := q_letX hF ef_1
  have if_1 : f_1.toInt = m_c X σ a 7 := m_rd ef_1 (by decide)
  refine lv_iconst (v := 1) hx hb dX12_waitsOf_7 zki_1 ?_
  refine q_icmp_ne (A := f_1.toInt) (B := 1) E rfl (by decide) (tgt := 25) dX12_waitsOf_8 (by decide) (fun c_2 => ?_) (fun c_2 => ?_)
  · skip
    replace hF := q_ifn hF c_2
    refine lv_aload_n hx hb dX12_waitsOf_25 rfl (lv_at hl 0 rfl) ?_
    refine gs_X12_35_12 E hI ha dX12_waitsOf_26 ?_
    refine lv_bipush (v := 6) hx hb dX12_waitsOf_29 zkb_6 ?_
    refine q_iald E hI (q_tk (k' := 34) hI ha rfl (Nat.succ_ne_zero _)) ⟨by decide, rfl⟩ (by decide) (by rw [q_lnk (v := 4650) hI (q_tk (k' := 34) hI ha rfl (Nat.succ_ne_zero _)) rfl (by decide)]; decide) dX12_waitsOf_31 ?_
    refine lv_topi (fun f_3 ef_3 => ?_)
    replace hF := q_letX hF ef_3
    have if_3 : f_3.toInt = m_c X σ a 6 := m_rd ef_3 (by decide)
    refine lv_istore_n (lv' := [(2, .int f_3), (0, .ref a), (1, .int v1)]) hx hb dX12_waitsOf_32 rfl hl (by decide) rfl (fun ls hl => ?_)
    refine lv_iload_n hx hb dX12_waitsOf_33 rfl (lv_at hl 2 rfl) ?_
    refine lv_iload_n hx hb dX12_waitsOf_34 rfl (lv_at hl 0 rfl) ?_
    refine lv_isub hx hb dX12_waitsOf_35 ?_
    refine lv_topi (fun z_4 ez_4 => ?_)
    replace hF := q_letX hF ez_4
    have iz_4 := q_subI (A := v1.toInt) (B := (m_c X σ a 6)) ez_4 rfl if_3 (by first | (clear h0 if_1 c_2; omega) | omega) (by first | (clear h0 if_1 c_2; omega) | omega)
    refine lv_aload_n hx hb dX12_waitsOf_36 rfl (lv_at hl 1 rfl) ?_
    refine gs_X12_35_12 E hI ha dX12_waitsOf_37 ?_
    refine lv_iconst (v := 2) hx hb dX12_waitsOf_40 zki_2 ?_
    refine q_iald E hI (q_tk (k' := 34) hI ha rfl (Nat.succ_ne_zero _)) ⟨by decide, rfl⟩ (by decide) (by rw [q_lnk (v := 4650) hI (q_tk (k' := 34) hI ha rfl (Nat.succ_ne_zero _)) rfl (by decide)]; decide) dX12_waitsOf_41 ?_
    refine lv_topi (fun f_5 ef_5 => ?_)
    replace hF := q_letX hF ef_5
    have if_5 : f_5.toInt = m_c X σ a 2 := m_rd ef_5 (by decide)
    refine lv_iadd hx hb dX12_waitsOf_42 ?_
    refine lv_topi (fun z_6 ez_6 => ?_)
    replace hF := q_letX hF ez_6
    have iz_6 := q_addI (A := (v1.toInt - (m_c X σ a 6))) (B := (m_c X σ a 2)) ez_6 iz_4 if_5 (by first | (clear h0 if_1 c_2; omega) | omega) (by first | (clear h0 if_1 c_2; omega) | omega)
    refine lv_aload_n hx hb dX12_waitsOf_43 rfl (lv_at hl 1 rfl) ?_
    refine gs_X12_35_12 E hI ha dX12_waitsOf_44 ?_
    refine lv_iconst (v := 2) hx hb dX12_waitsOf_47 zki_2 ?_
    refine q_iald E hI (q_tk (k' := 34) hI ha rfl (Nat.succ_ne_zero _)) ⟨by decide, rfl⟩ (by decide) (by rw [q_lnk (v := 4650) hI (q_tk (k' := 34) hI ha rfl (Nat.succ_ne_zero _)) rfl (by decide)]; decide) dX12_waitsOf_48 ?_
    refine lv_topi (fun f_7 ef_7 => ?_)
    replace hF := q_letX hF ef_7
    have if_7 : f_7.toInt = m_c X σ a 2 := m_rd ef_7 (by decide)
    refine lv_irem hx hb dX12_waitsOf_49 (q_ne0 (by first | (clear h0 hh if_1 c_2; omega) | omega)) ?_
    refine lv_topi (fun z_8 ez_8 => ?_)
    replace hF := q_letX hF (ez_8.trans (q_remI _ _))
    have rmz_8 := m_rem ez_8 (by first | (clear h0 if_1 c_2; omega) | omega) (by first | (clear h0 if_1 c_2; omega) | omega)
    exact q_reti E hr hlk hI ⟨rfl, (by first | (clear h0 hh if_1 c_2 if_3 iz_4 iz_6; omega) | omega), (hF.trans hout)⟩ dX12_waitsOf_50
  · skip
    replace hF := q_ifp hF c_2
    refine lv_aload_n hx hb dX12_waitsOf_11 rfl (lv_at hl 0 rfl) ?_
    refine lv_aload_n hx hb dX12_waitsOf_12 rfl (lv_at hl 0 rfl) ?_
    refine gs_X12_35_12 E hI ha dX12_waitsOf_13 ?_
    refine lv_bipush (v := 6) hx hb dX12_waitsOf_16 zkb_6 ?_
    refine q_iald E hI (q_tk (k' := 34) hI ha rfl (Nat.succ_ne_zero _)) ⟨by decide, rfl⟩ (by decide) (by rw [q_lnk (v := 4650) hI (q_tk (k' := 34) hI ha rfl (Nat.succ_ne_zero _)) rfl (by decide)]; decide) dX12_waitsOf_18 ?_
    refine lv_topi (fun f_9 ef_9 => ?_)
    replace hF := q_letX hF ef_9
    have if_9 : f_9.toInt = m_c X σ a 6 := m_rd ef_9 (by decide)
    refine q_ci (q_rV11_1 (rest := []) E (hml.trans hl.1.symm) hI (c_X12_behindOf l X σ a f_9 ha hG (by first | (clear h0; omega) | omega)) kv_X12_319 ha ⟨Nat.le_of_ble_eq_true rfl, Nat.le_of_ble_eq_true rfl⟩ (Nat.le_of_ble_eq_true rfl) dX12_waitsOf_19) hI (Nat.le_of_ble_eq_true rfl) (fun r_10 σ_11 H locs hpσ_11 hkσ_11 hI => ?_)
    have ahpσ_11 := hpσ_11.1
    have bhpσ_11 := hpσ_11.2.1
    have chpσ_11 := hpσ_11.2.2.1
    have dhpσ_11 := hpσ_11.2.2.2
    clear hpσ_11
    replace hI := q_Irw ahpσ_11 hI
    replace hF := q_letX hF dhpσ_11
    refine lv_goto (tgt := 32) hx hb dX12_waitsOf_22 (by decide) ?_
    refine lv_istore_n (lv' := [(2, .int r_10), (0, .ref a), (1, .int v1)]) hx hb dX12_waitsOf_32 rfl hl (by decide) rfl (fun ls hl => ?_)
    refine lv_iload_n hx hb dX12_waitsOf_33 rfl (lv_at hl 2 rfl) ?_
    refine lv_iload_n hx hb dX12_waitsOf_34 rfl (lv_at hl 0 rfl) ?_
    refine lv_isub hx hb dX12_waitsOf_35 ?_
    refine lv_topi (fun z_12 ez_12 => ?_)
    replace hF := q_letX hF ez_12
    have iz_12 := q_subI (A := v1.toInt) (B := r_10.toInt) ez_12 rfl rfl (by first | (clear h0 if_1 c_2 if_9 ahpσ_11 chpσ_11 dhpσ_11; omega) | omega) (by first | (clear h0 if_1 c_2 if_9 ahpσ_11 chpσ_11 dhpσ_11; omega) | omega)
    refine lv_aload_n hx hb dX12_waitsOf_36 rfl (lv_at hl 1 rfl) ?_
    refine gs_X12_35_12 E hI ha dX12_waitsOf_37 ?_
    refine lv_iconst (v := 2) hx hb dX12_waitsOf_40 zki_2 ?_
    refine q_iald E hI (q_tk (k' := 34) hI ha rfl (Nat.succ_ne_zero _)) ⟨by decide, rfl⟩ (by decide) (by rw [q_lnk (v := 4650) hI (q_tk (k' := 34) hI ha rfl (Nat.succ_ne_zero _)) rfl (by decide)]; decide) dX12_waitsOf_41 ?_
    refine lv_topi (fun f_13 ef_13 => ?_)
    replace hF := q_letX hF ef_13
    have if_13 : f_13.toInt = m_c X σ a 2 := m_rd ef_13 (by decide)
    refine lv_iadd hx hb dX12_waitsOf_42 ?_
    refine lv_topi (fun z_14 ez_14 => ?_)
    replace hF := q_letX hF ez_14
    have iz_14 := q_addI (A := (v1.toInt - r_10.toInt)) (B := (m_c X σ a 2)) ez_14 iz_12 if_13 (by first | (clear h0 hh if_1 c_2 if_9 ahpσ_11 chpσ_11 dhpσ_11; omega) | omega) (by first | (clear h0 ahpσ_11 chpσ_11 dhpσ_11; omega) | omega)
    refine lv_aload_n hx hb dX12_waitsOf_43 rfl (lv_at hl 1 rfl) ?_
    refine gs_X12_35_12 E hI ha dX12_waitsOf_44 ?_
    refine lv_iconst (v := 2) hx hb dX12_waitsOf_47 zki_2 ?_
    refine q_iald E hI (q_tk (k' := 34) hI ha rfl (Nat.succ_ne_zero _)) ⟨by decide, rfl⟩ (by decide) (by rw [q_lnk (v := 4650) hI (q_tk (k' := 34) hI ha rfl (Nat.succ_ne_zero _)) rfl (by decide)]; decide) dX12_waitsOf_48 ?_
    refine lv_topi (fun f_15 ef_15 => ?_)
    replace hF := q_letX hF ef_15
    have if_15 : f_15.toInt = m_c X σ a 2 := m_rd ef_15 (by decide)
    refine lv_irem hx hb dX12_waitsOf_49 (q_ne0 (by first | (clear h0 hh if_1 c_2 if_9 ahpσ_11 bhpσ_11 chpσ_11 dhpσ_11; omega) | omega)) ?_
    refine lv_topi (fun z_16 ez_16 => ?_)
    replace hF := q_letX hF (ez_16.trans (q_remI _ _))
    have rmz_16 := m_rem ez_16 (by first | (clear h0 hh if_1 c_2 if_9 ahpσ_11 chpσ_11 dhpσ_11; omega) | omega) (by first | (clear h0 if_1 c_2 if_9 ahpσ_11 bhpσ_11 chpσ_11 dhpσ_11; omega) | omega)
    exact q_reti E hr hlk hI ⟨rfl, (by first | (clear h0 hh if_1 c_2 if_9 ahpσ_11 bhpσ_11 chpσ_11 dhpσ_11 iz_12 iz_14; omega) | omega), (hF.trans hout)⟩ dX12_waitsOf_50
end
