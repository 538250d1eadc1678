section
set_option maxRecDepth 100000 in
set_option maxHeartbeats 4000000 in
theorem c_X12_knownOf (l : Launch) (X : XW) (σ : ST) (a : Nat) (v1 : Int32) (v2 : Int32) (ha : q_kd X a = 12) (hG : m_G (m_c X σ a)) (h0 : 0 ≤ v1.toInt ∧ v1.toInt ≤ 5) (h1 : 0 ≤ v2.toInt ∧ v2.toInt ≤ 9) : Met l yX12_knownOf (q_ws yX12_knownOf cX12_knownOf 3 (some .int)) (q_rm 2 46) (q_P X σ [.ref a, .int v1, .int v2]) (q_Qi X 9 σ (fun (r : Int32) (σ' : ST) => σ' = σ ∧ (r.toInt = m_c X σ a (34 + 10 * v1.toInt + v2.toInt) + m_A (m_c X σ a) v1.toInt v2.toInt (m_c X σ a 9).toNat) ∧ r = F_X12_knownOf X σ a v1 v2)) 0 0 (q_reg X) := by
  refine q_met 9 (by first | exact rfl | decide +kernel) rfl (Nat.le_of_ble_eq_true rfl) (fun p e s m below meth c E hml hr hlk hI ls hl => ?_)
  have hx := E.1
  have hb := E.2.1
  have hl : lv_has ls 3 [(0, .ref a), (1, .int v1), (2, .int v2)] := hl
  have hh := hG.hd
  obtain ⟨out, hout⟩ : ∃ o, o = F_X12_knownOf X σ a v1 v2 := ⟨_, rfl⟩
  have hF := hout.symm
  unfold F_X12_knownOf at hF
  refine lv_aload_n hx hb dX12_knownOf_0 rfl (lv_at hl 0 rfl) ?_
  refine lv_iload_n hx hb dX12_knownOf_1 rfl (lv_at hl 1 rfl) ?_
  refine lv_iload_n hx hb dX12_knownOf_2 rfl (lv_at hl 2 rfl) ?_
  refine q_ci (q_rV11_2 (rest := []) E (hml.trans hl.1.symm) hI (c_X12_handOf l X σ a v1 v2 ha (by omega) (by omega)) kv_X12_276 ha ⟨Nat.le_of_ble_eq_true rfl, Nat.le_of_ble_eq_true rfl⟩ (Nat.le_of_ble_eq_true rfl) dX12_knownOf_3) hI (Nat.le_of_ble_eq_true rfl) (fun r_1 σ_2 H locs hpσ_2 hkσ_2 hI => ?_)
  have ahpσ_2 := hpσ_2.1
  have bhpσ_2 := hpσ_2.2.1
  have chpσ_2 := hpσ_2.2.2
  clear hpσ_2
  replace hI := q_Irw ahpσ_2 hI
  replace hF := q_letX hF chpσ_2
  have ir_1 : r_1.toInt = (m_c X σ a (34 + 10 * v1.toInt + v2.toInt)) := (by first | exact bhpσ_2 | (rw [bhpσ_2]) | (simp only [bhpσ_2]))
  have hbr_1 := hG.h80 (p := v1.toInt) (k := v2.toInt) (by first | (clear h0 h1 hh ahpσ_2 bhpσ_2 chpσ_2 ir_1; omega) | omega) (by first | (clear h0 h1 hh ahpσ_2 bhpσ_2 chpσ_2 ir_1; omega) | omega) (by first | (clear h0 h1 hh ahpσ_2 bhpσ_2 chpσ_2 ir_1; omega) | omega) (by first | (clear h0 h1 hh ahpσ_2 bhpσ_2 chpσ_2 ir_1; omega) | omega)
  refine lv_aload_n hx hb dX12_knownOf_6 rfl (lv_at hl 0 rfl) ?_
  refine lv_iload_n hx hb dX12_knownOf_7 rfl (lv_at hl 1 rfl) ?_
  refine lv_iload_n hx hb dX12_knownOf_8 rfl (lv_at hl 2 rfl) ?_
  refine q_ci (q_rV11_2 (rest := [.int r_1]) E (hml.trans hl.1.symm) hI (c_X12_laidOf l X σ a v1 v2 ha hG) kv_X12_296 ha ⟨Nat.le_of_ble_eq_true rfl, Nat.le_of_ble_eq_true rfl⟩ (Nat.le_of_ble_eq_true rfl) dX12_knownOf_9) hI (Nat.le_of_ble_eq_true rfl) (fun r_3 σ_4 H locs hpσ_4 hkσ_4 hI => ?_)
  have ahpσ_4 := hpσ_4.1
  have bhpσ_4 := hpσ_4.2.1
  have chpσ_4 := hpσ_4.2.2.1
  have dhpσ_4 := hpσ_4.2.2.2
  clear hpσ_4
  replace hI := q_Irw ahpσ_4 hI
  replace hF := q_letX hF dhpσ_4
  have ir_3 : r_3.toInt = (m_A (m_c X σ a) v1.toInt v2.toInt (m_c X σ a 9).toNat) := (by first | exact bhpσ_4 | (rw [bhpσ_4]) | (simp only [bhpσ_4]))
  refine lv_iadd hx hb dX12_knownOf_12 ?_
  refine lv_topi (fun z_5 ez_5 => ?_)
  replace hF := q_letX hF ez_5
  have iz_5 := q_addI (A := (m_c X σ a (34 + 10 * v1.toInt + v2.toInt))) (B := (m_A (m_c X σ a) v1.toInt v2.toInt (m_c X σ a 9).toNat)) ez_5 ir_1 ir_3 (by first | (clear h0 h1 hh ahpσ_2 bhpσ_2 chpσ_2 ir_1 ahpσ_4 dhpσ_4 ir_3; omega) | omega) (by first | (clear h0 h1 hh ahpσ_2 bhpσ_2 chpσ_2 ir_1 ahpσ_4 dhpσ_4 ir_3; omega) | omega)
  exact q_reti E hr hlk hI ⟨rfl, (by omega), (hF.trans hout)⟩ dX12_knownOf_13

set_option maxRecDepth 100000 in
set_option maxHeartbeats 4000000 in
theorem c_X12_unknownOf (l : Launch) (X : XW) (σ : ST) (a : Nat) (v1 : Int32) (v2 : Int32) (ha : q_kd X a = 12) (hG : m_G (m_c X σ a)) (h0 : 0 ≤ v1.toInt ∧ v1.toInt < m_c X σ a 2) (h1 : 0 ≤ v2.toInt ∧ v2.toInt ≤ 9) : Met l yX12_unknownOf (q_ws yX12_unknownOf cX12_unknownOf 3 (some .int)) (q_rm 3 69) (q_P X σ [.ref a, .int v1, .int v2]) (q_Qi X 9 σ (fun (r : Int32) (σ' : ST) => σ' = σ ∧ (r.toInt = m_U (m_c X σ a) v1.toInt v2.toInt) ∧ (0 ≤ r.toInt ∧ r.toInt ≤ 80) ∧ r = F_X12_unknownOf X σ a v1 v2)) 0 0 (q_reg X) := by
  refine q_met 9 (by first | exact rfl | decide +kernel) rfl (Nat.le_of_ble_eq_true rfl) (fun p e s m below meth c E hml hr hlk hI ls hl => ?_)
  have hx := E.1
  have hb := E.2.1
  have hl : lv_has ls 3 [(0, .ref a), (1, .int v1), (2, .int v2)] := hl
  have hh := hG.hd
  have ub := hG.U_bd (p := v1.toInt) (k := v2.toInt) (by first | (clear h0 h1 hh; omega) | omega) (by first | (clear h0 h1 hh; omega) | omega) (by first | (clear h0 h1 hh; omega) | omega) (by first | (clear h0 h1 hh; omega) | omega)
  have ib := hG.I_bd (k := v2.toInt) (by first | (clear h0 h1 hh ub; omega) | omega) (by first | (clear h0 h1 hh ub; omega) | omega)
  unfold m_U at ub
  obtain ⟨out, hout⟩ : ∃ o, o = F_X12_unknownOf X σ a v1 v2 := ⟨_, rfl⟩
  have hF := hout.symm
  unfold F_X12_unknownOf at hF
  refine lv_aload_n hx hb dX12_unknownOf_0 rfl (lv_at hl 0 rfl) ?_
  refine lv_iload_n hx hb dX12_unknownOf_1 rfl (lv_at hl 2 rfl) ?_
  refine q_ci (q_rV11_1 (rest := []) E (hml.trans hl.1.symm) hI (c_X12_inGameOf l X σ a v2 ha hG (by omega)) kv_X12_302 ha ⟨Nat.le_of_ble_eq_true rfl, Nat.le_of_ble_eq_true rfl⟩ (Nat.le_of_ble_eq_true rfl) dX12_unknownOf_2) hI (Nat.le_of_ble_eq_true rfl) (fun r_1 σ_2 H locs hpσ_2 hkσ_2 hI => ?_)
  have ahpσ_2 := hpσ_2.1
  have bhpσ_2 := hpσ_2.2.1
  have chpσ_2 := hpσ_2.2.2.1
  have dhpσ_2 := hpσ_2.2.2.2
  clear hpσ_2
  replace hI := q_Irw ahpσ_2 hI
  replace hF := q_letX hF dhpσ_2
  have ir_1 : r_1.toInt = (m_I (m_c X σ a) v2.toInt) := (by first | exact bhpσ_2 | (rw [bhpσ_2]) | (simp only [bhpσ_2]))
  refine lv_aload_n hx hb dX12_unknownOf_5 rfl (lv_at hl 0 rfl) ?_
  refine lv_iload_n hx hb dX12_unknownOf_6 rfl (lv_at hl 1 rfl) ?_
  refine lv_iload_n hx hb dX12_unknownOf_7 rfl (lv_at hl 2 rfl) ?_
  refine q_ci (q_rV11_2 (rest := [.int r_1]) E (hml.trans hl.1.symm) hI (c_X12_knownOf l X σ a v1 v2 ha hG (by first | (clear h0 h1 ub ahpσ_2 bhpσ_2 chpσ_2 dhpσ_2 ir_1; omega) | omega) (by omega)) kv_X12_333 ha ⟨Nat.le_of_ble_eq_true rfl, Nat.le_of_ble_eq_true rfl⟩ (Nat.le_of_ble_eq_true rfl) dX12_unknownOf_8) hI (Nat.le_of_ble_eq_true rfl) (fun r_3 σ_4 H locs hpσ_4 hkσ_4 hI => ?_)
  have ahpσ_4 := hpσ_4.1
  have bhpσ_4 := hpσ_4.2.1
  have chpσ_4 := hpσ_4.2.2
  clear hpσ_4
  replace hI := q_Irw ahpσ_4 hI
  replace hF := q_letX hF chpσ_4
  have ir_3 : r_3.toInt = (m_c X σ a (34 + 10 * v1.toInt + v2.toInt) + m_A (m_c X σ a) v1.toInt v2.toInt (m_c X σ a 9).toNat) := (by first | exact bhpσ_4 | (rw [bhpσ_4]) | (simp only [bhpσ_4]))
  refine lv_isub hx hb dX12_unknownOf_11 ?_
  refine lv_topi (fun z_5 ez_5 => ?_)
  replace hF := q_letX hF ez_5
  have iz_5 := q_subI (A := (m_I (m_c X σ a) v2.toInt)) (B := (m_c X σ a (34 + 10 * v1.toInt + v2.toInt) + m_A (m_c X σ a) v1.toInt v2.toInt (m_c X σ a 9).toNat)) ez_5 ir_1 ir_3 (by first | (clear h0 h1 hh ahpσ_2 chpσ_2 dhpσ_2 ir_1 ahpσ_4 chpσ_4 ir_3; omega) | omega) (by first | (clear h0 h1 hh ahpσ_2 chpσ_2 dhpσ_2 ir_1 ahpσ_4 chpσ_4 ir_3; omega) | omega)
  exact q_reti E hr hlk hI ⟨rfl, (by unfold m_U; omega), (by first | (clear h0 h1 hh ahpσ_2 chpσ_2 dhpσ_2 ir_1 ahpσ_4 chpσ_4 ir_3; omega) | omega), (hF.trans hout)⟩ dX12_unknownOf_12
end
