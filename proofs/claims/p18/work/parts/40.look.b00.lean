set_option maxRecDepth 100000 in
set_option maxHeartbeats 4000000 in
theorem c_X12_isPlayerAt (l : Launch) (X : XW) (σ : ST) (a : Nat) (v1 : Int32) (ha : q_kd X a = 12) (hG : m_G (m_c X σ a)) : Met l yX12_isPlayerAt (q_ws yX12_isPlayerAt cX12_isPlayerAt 2 (some .boolean)) (q_rm 1 25) (q_P X σ [.ref a, .int v1]) (q_Qi X 9 σ (fun (r : Int32) (σ' : ST) => σ' = σ ∧ (0 ≤ r.toInt ∧ r.toInt ≤ 1) ∧ (r.toInt = 1 ↔ (0 ≤ v1.toInt ∧ v1.toInt < m_c X σ a 2)) ∧ r = F_X12_isPlayerAt X σ a v1)) 0 0 (q_reg X) := by
  refine q_met 9 (by first | exact rfl | decide +kernel) rfl (Nat.le_of_ble_eq_true rfl) (fun p e s m below meth c E hml hr hlk hI ls hl => ?_)
  have hx := E.1
  have hb := E.2.1
  have hl : lv_has ls 2 [(0, .ref a), (1, .int v1)] := hl
  have hh := hG.hd
  obtain ⟨out, hout⟩ : ∃ o, o = F_X12_isPlayerAt X σ a v1 := ⟨_, rfl⟩
  have hF := hout.symm
  unfold F_X12_isPlayerAt at hF
  refine lv_iload_n hx hb dX12_isPlayerAt_0 rfl (lv_at hl 1 rfl) ?_
  refine lv_i2l hx hb dX12_isPlayerAt_1 rfl ?_
  refine lv_topl (fun y_1 ey_1 => ?_)
  replace hF := q_letX hF ey_1
  have ggy_1 := q_rng v1
  have iy_1 : y_1.toInt = v1.toInt := by rw [ey_1]; exact (q_i2l _).trans rfl
  refine lv_lconst (v := 0) hx hb dX12_isPlayerAt_2 (by decide) ?_
  refine lv_aload_n hx hb dX12_isPlayerAt_3 rfl (lv_at hl 0 rfl) ?_
  refine gs_X12_35_12 E hI ha dX12_isPlayerAt_4 ?_
  refine lv_iconst (v := 2) hx hb dX12_isPlayerAt_7 zki_2 ?_
  refine q_iald E hI (q_tk (k' := 34) hI ha rfl (Nat.succ_ne_zero _)) ⟨by decide, rfl⟩ (by decide) (by rw [q_lnk (v := 4650) hI (q_tk (k' := 34) hI ha rfl (Nat.succ_ne_zero _)) rfl (by decide)]; decide) dX12_isPlayerAt_8 ?_
  refine lv_topi (fun f_2 ef_2 => ?_)
  replace hF := q_letX hF ef_2
  have if_2 : f_2.toInt = m_c X σ a 2 := m_rd ef_2 (by decide)
  refine lv_iconst (v := 1) hx hb dX12_isPlayerAt_9 zki_1 ?_
  refine lv_isub hx hb dX12_isPlayerAt_10 ?_
  refine lv_topi (fun z_3 ez_3 => ?_)
  replace hF := q_letX hF ez_3
  have iz_3 := q_subI (A := (m_c X σ a 2)) (B := 1) ez_3 if_2 (by decide) (by first | (clear ggy_1 iy_1; omega) | omega) (by first | (clear ggy_1 iy_1; omega) | omega)
  refine lv_i2l hx hb dX12_isPlayerAt_11 rfl ?_
  refine lv_topl (fun y_4 ey_4 => ?_)
  replace hF := q_letX hF ey_4
  have ggy_4 := q_rng z_3
  have iy_4 : y_4.toInt = z_3.toInt := by rw [ey_4]; exact (q_i2l _).trans rfl
  have kc_5 : (0 : Int64).toInt = 0 := rfl
  refine q_ci (q_runS (As := [.long y_1, .long 0, .long y_4]) (rest := []) E (hml.trans hl.1.symm) hI (c_X12_isIn l X σ y_1 (0 : Int64) y_4) ks_X12_94 rfl ⟨Nat.le_of_ble_eq_true rfl, Nat.le_of_ble_eq_true rfl⟩ ⟨Nat.le_refl _, Nat.le_refl _⟩ rfl (Nat.le_of_ble_eq_true rfl) dX12_isPlayerAt_12) hI (Nat.le_of_ble_eq_true rfl) (fun r_6 σ_7 H locs hpσ_7 hkσ_7 hI => ?_)
  have ahpσ_7 := hpσ_7.1
  have bhpσ_7 := hpσ_7.2.1
  have chpσ_7 := hpσ_7.2.2.1
  have dhpσ_7 := hpσ_7.2.2.2
  clear hpσ_7
  replace hI := q_Irw ahpσ_7 hI
  replace hF := q_letX hF dhpσ_7
  exact q_retz E hr hlk hI ⟨by omega, by omega⟩ ⟨rfl, ⟨by omega, by omega⟩, (by first | (clear ggy_4 ahpσ_7 dhpσ_7; omega) | omega), (hF.trans hout)⟩ dX12_isPlayerAt_15

set_option maxRecDepth 100000 in
set_option maxHeartbeats 4000000 in
theorem c_X12_isKindAt (l : Launch) (X : XW) (σ : ST) (a : Nat) (v1 : Int32) (ha : q_kd X a = 12) (hG : m_G (m_c X σ a)) : Met l yX12_isKindAt (q_ws yX12_isKindAt cX12_isKindAt 2 (some .boolean)) (q_rm 1 25) (q_P X σ [.ref a, .int v1]) (q_Qi X 9 σ (fun (r : Int32) (σ' : ST) => σ' = σ ∧ (0 ≤ r.toInt ∧ r.toInt ≤ 1) ∧ (r.toInt = 1 ↔ (0 ≤ v1.toInt ∧ v1.toInt < m_c X σ a 0)) ∧ r = F_X12_isKindAt X σ a v1)) 0 0 (q_reg X) := by
  refine q_met 9 (by first | exact rfl | decide +kernel) rfl (Nat.le_of_ble_eq_true rfl) (fun p e s m below meth c E hml hr hlk hI ls hl => ?_)
  have hx := E.1
  have hb := E.2.1
  have hl : lv_has ls 2 [(0, .ref a), (1, .int v1)] := hl
  have hh := hG.hd
  obtain ⟨out, hout⟩ : ∃ o, o = F_X12_isKindAt X σ a v1 := ⟨_, rfl⟩
  have hF := hout.symm
  unfold F_X12_isKindAt at hF
  refine lv_iload_n hx hb dX12_isKindAt_0 rfl (lv_at hl 1 rfl) ?_
  refine lv_i2l hx hb dX12_isKindAt_1 rfl ?_
  refine lv_topl (fun y_1 ey_1 => ?_)
  replace hF := q_letX hF ey_1
  have ggy_1 := q_rng v1
  have iy_1 : y_1.toInt = v1.toInt := by rw [ey_1]; exact (q_i2l _).trans rfl
  refine lv_lconst (v := 0) hx hb dX12_isKindAt_2 (by decide) ?_
  refine lv_aload_n hx hb dX12_isKindAt_3 rfl (lv_at hl 0 rfl) ?_
  refine gs_X12_35_12 E hI ha dX12_isKindAt_4 ?_
  refine lv_iconst (v := 0) hx hb dX12_isKindAt_7 zki_0 ?_
  refine q_iald E hI (q_tk (k' := 34) hI ha rfl (Nat.succ_ne_zero _)) ⟨by decide, rfl⟩ (by decide) (by rw [q_lnk (v := 4650) hI (q_tk (k' := 34) hI ha rfl (Nat.succ_ne_zero _)) rfl (by decide)]; decide) dX12_isKindAt_8 ?_
  refine lv_topi (fun f_2 ef_2 => ?_)
  replace hF := q_letX hF ef_2
  have if_2 : f_2.toInt = m_c X σ a 0 := m_rd ef_2 (by decide)
  refine lv_iconst (v := 1) hx hb dX12_isKindAt_9 zki_1 ?_
  refine lv_isub hx hb dX12_isKindAt_10 ?_
  refine lv_topi (fun z_3 ez_3 => ?_)
  replace hF := q_letX hF ez_3
  have iz_3 := q_subI (A := (m_c X σ a 0)) (B := 1) ez_3 if_2 (by decide) (by first | (clear ggy_1 iy_1; omega) | omega) (by first | (clear ggy_1 iy_1; omega) | omega)
  refine lv_i2l hx hb dX12_isKindAt_11 rfl ?_
  refine lv_topl (fun y_4 ey_4 => ?_)
  replace hF := q_letX hF ey_4
  have ggy_4 := q_rng z_3
  have iy_4 : y_4.toInt = z_3.toInt := by rw [ey_4]; exact (q_i2l _).trans rfl
  have kc_5 : (0 : Int64).toInt = 0 := rfl
  refine q_ci (q_runS (As := [.long y_1, .long 0, .long y_4]) (rest := []) E (hml.trans hl.1.symm) hI (c_X12_isIn l X σ y_1 (0 : Int64) y_4) ks_X12_94 rfl ⟨Nat.le_of_ble_eq_true rfl, Nat.le_of_ble_eq_true rfl⟩ ⟨Nat.le_refl _, Nat.le_refl _⟩ rfl (Nat.le_of_ble_eq_true rfl) dX12_isKindAt_12) hI (Nat.le_of_ble_eq_true rfl) (fun r_6 σ_7 H locs hpσ_7 hkσ_7 hI => ?_)
  have ahpσ_7 := hpσ_7.1
  have bhpσ_7 := hpσ_7.2.1
  have chpσ_7 := hpσ_7.2.2.1
  have dhpσ_7 := hpσ_7.2.2.2
  clear hpσ_7
  replace hI := q_Irw ahpσ_7 hI
  replace hF := q_letX hF dhpσ_7
  exact q_retz E hr hlk hI ⟨by omega, by omega⟩ ⟨rfl, ⟨by omega, by omega⟩, (by first | (clear ggy_4 ahpσ_7 dhpσ_7; omega) | omega), (hF.trans hout)⟩ dX12_isKindAt_15

set_option maxRecDepth 100000 in
set_option maxHeartbeats 4000000 in
theorem c_X12_isTray (l : Launch) (X : XW) (σ : ST) (a : Nat) (v1 : Int32) (ha : q_kd X a = 12) : Met l yX12_isTray (q_ws yX12_isTray cX12_isTray 2 (some .boolean)) (q_rm 1 25) (q_P X σ [.ref a, .int v1]) (q_Qi X 9 σ (fun (r : Int32) (σ' : ST) => σ' = σ ∧ (0 ≤ r.toInt ∧ r.toInt ≤ 1) ∧ (r.toInt = 1 ↔ (0 ≤ v1.toInt ∧ v1.toInt < 4)) ∧ r = F_X12_isTray X σ a v1)) 0 0 (q_reg X) := by
  refine q_met 9 (by first | exact rfl | decide +kernel) rfl (Nat.le_of_ble_eq_true rfl) (fun p e s m below meth c E hml hr hlk hI ls hl => ?_)
  have hx := E.1
  have hb := E.2.1
  have hl : lv_has ls 2 [(0, .ref a), (1, .int v1)] := hl
  obtain ⟨out, hout⟩ : ∃ o, o = F_X12_isTray X σ a v1 := ⟨_, rfl⟩
  have hF := hout.symm
  unfold F_X12_isTray at hF
  refine lv_iload_n hx hb dX12_isTray_0 rfl (lv_at hl 1 rfl) ?_
  refine lv_i2l hx hb dX12_isTray_1 rfl ?_
  refine lv_topl (fun y_1 ey_1 => ?_)
  replace hF := q_letX hF ey_1
  have ggy_1 := q_rng v1
  have iy_1 : y_1.toInt = v1.toInt := by rw [ey_1]; exact (q_i2l _).trans rfl
  refine lv_lconst (v := 0) hx hb dX12_isTray_2 (by decide) ?_
  refine lv_ldc2 (v := 3) hx hb E.2.2.1 (E.2.2.2.1 _ (q_in_t8 (i := 167) (by first | rfl | decide +kernel) rfl)) dX12_isTray_3 ?_
  have kc_2 : (0 : Int64).toInt = 0 := rfl
  have kc_3 : (3 : Int64).toInt = 3 := rfl
  refine q_ci (q_runS (As := [.long y_1, .long 0, .long 3]) (rest := []) E (hml.trans hl.1.symm) hI (c_X12_isIn l X σ y_1 (0 : Int64) (3 : Int64)) ks_X12_94 rfl ⟨Nat.le_of_ble_eq_true rfl, Nat.le_of_ble_eq_true rfl⟩ ⟨Nat.le_refl _, Nat.le_refl _⟩ rfl (Nat.le_of_ble_eq_true rfl) dX12_isTray_6) hI (Nat.le_of_ble_eq_true rfl) (fun r_4 σ_5 H locs hpσ_5 hkσ_5 hI => ?_)
  have ahpσ_5 := hpσ_5.1
  have bhpσ_5 := hpσ_5.2.1
  have chpσ_5 := hpσ_5.2.2.1
  have dhpσ_5 := hpσ_5.2.2.2
  clear hpσ_5
  replace hI := q_Irw ahpσ_5 hI
  replace hF := q_letX hF dhpσ_5
  exact q_retz E hr hlk hI ⟨by omega, by omega⟩ ⟨rfl, ⟨by omega, by omega⟩, (by first | (clear ahpσ_5 dhpσ_5; omega) | omega), (hF.trans hout)⟩ dX12_isTray_9

set_option maxRecDepth 100000 in
set_option maxHeartbeats 4000000 in
theorem c_X12_handOf (l : Launch) (X : XW) (σ : ST) (a : Nat) (v1 : Int32) (v2 : Int32) (ha : q_kd X a = 12) (h0 : 0 ≤ v1.toInt ∧ v1.toInt ≤ 5) (h1 : 0 ≤ v2.toInt ∧ v2.toInt ≤ 9) : Met l yX12_handOf (q_ws yX12_handOf cX12_handOf 3 (some .int)) (q_rm 0 0) (q_P X σ [.ref a, .int v1, .int v2]) (q_Qi X 9 σ (fun (r : Int32) (σ' : ST) => σ' = σ ∧ (r.toInt = m_c X σ a (34 + 10 * v1.toInt + v2.toInt)) ∧ r = F_X12_handOf X σ a v1 v2)) 0 0 (q_reg X) := by
  refine q_met 9 (by first | exact rfl | decide +kernel) rfl (Nat.le_of_ble_eq_true rfl) (fun p e s m below meth c E hml hr hlk hI ls hl => ?_)
  have hx := E.1
  have hb := E.2.1
  have hl : lv_has ls 3 [(0, .ref a), (1, .int v1), (2, .int v2)] := hl
  obtain ⟨out, hout⟩ : ∃ o, o = F_X12_handOf X σ a v1 v2 := ⟨_, rfl⟩
  have hF := hout.symm
  unfold F_X12_handOf at hF
  refine lv_aload_n hx hb dX12_handOf_0 rfl (lv_at hl 0 rfl) ?_
  refine gs_X12_35_12 E hI ha dX12_handOf_1 ?_
  refine lv_bipush (v := 34) hx hb dX12_handOf_4 zkb_34 ?_
  refine lv_bipush (v := 10) hx hb dX12_handOf_6 zkb_10 ?_
  refine lv_iload_n hx hb dX12_handOf_8 rfl (lv_at hl 1 rfl) ?_
  refine lv_imul hx hb dX12_handOf_9 ?_
  refine lv_topi (fun z_1 ez_1 => ?_)
  replace hF := q_letX hF ez_1
  have iz_1 := q_mulI (A := 10) (B := v1.toInt) ez_1 (by decide) rfl (by first | (clear h0 h1; omega) | omega) (by first | (clear h0 h1; omega) | omega)
  refine lv_iadd hx hb dX12_handOf_10 ?_
  refine lv_topi (fun z_2 ez_2 => ?_)
  replace hF := q_letX hF ez_2
  have iz_2 := q_addI (A := 34) (B := (10 * v1.toInt)) ez_2 (by decide) iz_1 (by first | (clear h0 h1 iz_1; omega) | omega) (by first | (clear h0 h1 iz_1; omega) | omega)
  refine lv_iload_n hx hb dX12_handOf_11 rfl (lv_at hl 2 rfl) ?_
  refine lv_iadd hx hb dX12_handOf_12 ?_
  refine lv_topi (fun z_3 ez_3 => ?_)
  replace hF := q_letX hF ez_3
  have iz_3 := q_addI (A := (34 + (10 * v1.toInt))) (B := v2.toInt) ez_3 iz_2 rfl (by first | (clear h0 h1 iz_1 iz_2; omega) | omega) (by first | (clear h0 h1 iz_1 iz_2; omega) | omega)
  refine q_iald E hI (q_tk (k' := 34) hI ha rfl (Nat.succ_ne_zero _)) ⟨by decide, rfl⟩ (by first | (clear h0 h1 iz_1 iz_2; omega) | omega) (by rw [q_lnk (v := 4650) hI (q_tk (k' := 34) hI ha rfl (Nat.succ_ne_zero _)) rfl (by decide)]; omega) dX12_handOf_13 ?_
  refine lv_topi (fun f_4 ef_4 => ?_)
  replace hF := q_letX hF ef_4
  have if_4 : f_4.toInt = m_c X σ a ((34 + (10 * v1.toInt)) + v2.toInt) := m_rd ef_4 iz_3
  exact q_reti E hr hlk hI ⟨rfl, if_4, (hF.trans hout)⟩ dX12_handOf_14

set_option maxRecDepth 100000 in
set_option maxHeartbeats 4000000 in
theorem c_X12_laid (l : Launch) (X : XW) (σ : ST) (v0 : Int32) (h0 : 0 ≤ v0.toInt ∧ v0.toInt ≤ 100) : Met l yX12_laid (q_ws yX12_laid cX12_laid 1 (some .int)) (q_rm 0 0) (q_P X σ [.int v0]) (q_Qi X 9 σ (fun (r : Int32) (σ' : ST) => σ' = σ ∧ (r.toInt = 94 + 7 * v0.toInt) ∧ r = F_X12_laid X σ v0)) 0 0 (q_reg X) := by
  refine q_met 9 (by first | exact rfl | decide +kernel) rfl (Nat.le_of_ble_eq_true rfl) (fun p e s m below meth c E hml hr hlk hI ls hl => ?_)
  have hx := E.1
  have hb := E.2.1
  have hl : lv_has ls 1 [(0, .int v0)] := hl
  obtain ⟨out, hout⟩ : ∃ o, o = F_X12_laid X σ v0 := ⟨_, rfl⟩
  have hF := hout.symm
  unfold F_X12_laid at hF
  refine lv_bipush (v := 94) hx hb dX12_laid_0 zkb_94 ?_
  refine lv_bipush (v := 7) hx hb dX12_laid_2 zkb_7 ?_
  refine lv_iload_n hx hb dX12_laid_4 rfl (lv_at hl 0 rfl) ?_
  refine lv_imul hx hb dX12_laid_5 ?_
  refine lv_topi (fun z_1 ez_1 => ?_)
  replace hF := q_letX hF ez_1
  have iz_1 := q_mulI (A := 7) (B := v0.toInt) ez_1 (by decide) rfl (by first | (clear h0; omega) | omega) (by first | (clear h0; omega) | omega)
  refine lv_iadd hx hb dX12_laid_6 ?_
  refine lv_topi (fun z_2 ez_2 => ?_)
  replace hF := q_letX hF ez_2
  have iz_2 := q_addI (A := 94) (B := (7 * v0.toInt)) ez_2 (by decide) iz_1 (by first | (clear h0 iz_1; omega) | omega) (by first | (clear h0 iz_1; omega) | omega)
  exact q_reti E hr hlk hI ⟨rfl, (by omega), (hF.trans hout)⟩ dX12_laid_7

set_option maxRecDepth 100000 in
set_option maxHeartbeats 4000000 in
theorem c_X12_cardsOf (l : Launch) (X : XW) (σ : ST) (a : Nat) (v1 : Int32) (ha : q_kd X a = 12) (hG : m_G (m_c X σ a)) (h0 : 0 ≤ v1.toInt ∧ v1.toInt ≤ 5) : Met l yX12_cardsOf (q_ws yX12_cardsOf cX12_cardsOf 4 (some .int)) (q_rm 1 22) (q_P X σ [.ref a, .int v1]) (q_Qi X 9 σ (fun (r : Int32) (σ' : ST) => σ' = σ ∧ (r.toInt = m_S (m_c X σ a) (34 + 10 * v1.toInt) 10) ∧ (0 ≤ r.toInt ∧ r.toInt ≤ 80) ∧ r = F_X12_cardsOf X σ a v1)) 0 0 (q_reg X) := by
  refine q_met 9 (by first | exact rfl | decide +kernel) rfl (Nat.le_of_ble_eq_true rfl) (fun p e s m below meth c E hml hr hlk hI ls hl => ?_)
  have hx := E.1
  have hb := E.2.1
  have hl : lv_has ls 4 [(0, .ref a), (1, .int v1)] := hl
  have hh := hG.hd
  obtain ⟨out, hout⟩ : ∃ o, o = F_X12_cardsOf X σ a v1 := ⟨_, rfl⟩
  have hF := hout.symm
  unfold F_X12_cardsOf at hF
  refine lv_iconst (v := 0) hx hb dX12_cardsOf_0 zki_0 ?_
  refine lv_istore_n (lv' := [(2, .int 0), (0, .ref a), (1, .int v1)]) hx hb dX12_cardsOf_1 rfl hl (by decide) rfl (fun ls hl => ?_)
  refine lv_iconst (v := 0) hx hb dX12_cardsOf_2 zki_0 ?_
  refine lv_istore_n (lv' := [(3, .int 0), (2, .int 0), (0, .ref a), (1, .int v1)]) hx hb dX12_cardsOf_3 rfl hl (by decide) rfl (fun ls hl => ?_)
  have L_4_3 : ∀ (k_3 : Nat) (x_1 : Int32) (x_2 : Int32) (H : Heap) (locs : List Loc) (ls : Array Slot), (2147483647 - x_2.toInt).toNat < k_3 → (0 ≤ x_2.toInt ∧ x_2.toInt ≤ 10) → (x_1.toInt = m_S (m_c X σ a) (34 + 10 * v1.toInt) x_2.toInt.toNat) → (F_X12_cardsOf_L4_1 X σ a v1 k_3 x_1 x_2 = out) → q_I X 9 σ s.heap locs σ H → lv_has ls 4 [(0, .ref a), (1, .int v1), (2, .int x_1), (3, .int x_2)] → W p l e (q_rm 1 22) s m ([.ref a, .int v1] : List Value).toArray below meth c H locs 0 0 (MQ below (q_Qi X 9 σ (fun (r : Int32) (σ' : ST) => σ' = σ ∧ (r.toInt = m_S (m_c X σ a) (34 + 10 * v1.toInt) 10) ∧ (0 ≤ r.toInt ∧ r.toInt ≤ 80) ∧ r = F_X12_cardsOf X σ a v1)) ([.ref a, .int v1] : List Value).toArray s 0 0 (q_reg X)) (F0 m 4 ls []) := by
    clear hF
    intro k_3
    induction k_3 with
    | zero =>
      intro x_1 x_2 H locs ls hms
      exact absurd hms (Nat.not_lt_zero _)
    | succ k_3 ih4 =>
      intro x_1 x_2 H locs ls hm4 hge4 hs4 hF hI hl
      replace hF := (F_X12_cardsOf_L4_1_s).symm.trans hF
      unfold F_X12_cardsOf_B4_1 at hF
      have sb := hG.S80 (p := v1.toInt) (k := x_2.toInt) (by first | (clear h0 hh hm4 hge4 hs4; omega) | omega) (by first | (clear h0 hh hm4 hge4 hs4; omega) | omega) (by first | (clear h0 hh hm4 hs4; omega) | omega) (by first | (clear h0 hh hm4 hs4; omega) | omega)
      have ps := m_S_succ (m_c X σ a) (34 + 10 * v1.toInt) x_2.toInt hge4.1
      refine lv_iload_n hx hb dX12_cardsOf_4 rfl (lv_at hl 3 rfl) ?_
      refine lv_bipush (v := 10) hx hb dX12_cardsOf_5 zkb_10 ?_
      have gc_4_x_2 := q_rng x_2
      refine q_icmp_ge (A := x_2.toInt) (B := 10) E rfl (by decide) (tgt := 25) dX12_cardsOf_7 (by decide) (fun c_4 => ?_) (fun c_4 => ?_)
      · skip
        replace hF := q_ifn hF (Int.not_lt.mpr c_4)
        skip
        refine lv_iload_n hx hb dX12_cardsOf_25 rfl (lv_at hl 2 rfl) ?_
        exact q_reti E hr hlk hI ⟨rfl, (by have q : x_2.toInt.toNat = 10 := (by first | (clear h0 hh hm4 hs4 sb ps gc_4_x_2; omega) | omega); rw [q] at hs4; exact hs4), (by first | (clear h0 hh hm4 hge4 gc_4_x_2 c_4; omega) | omega), (hF.trans hout)⟩ dX12_cardsOf_26
      · skip
        replace hF := q_ifp hF c_4
        refine lv_iload_n hx hb dX12_cardsOf_10 rfl (lv_at hl 2 rfl) ?_
        refine lv_aload_n hx hb dX12_cardsOf_11 rfl (lv_at hl 0 rfl) ?_
        refine lv_iload_n hx hb dX12_cardsOf_12 rfl (lv_at hl 1 rfl) ?_
        refine lv_iload_n hx hb dX12_cardsOf_13 rfl (lv_at hl 3 rfl) ?_
        refine q_ci (q_rV11_2 (rest := [.int x_1]) E (hml.trans hl.1.symm) hI (c_X12_handOf l X σ a v1 x_2 ha (by omega) (by first | (clear h0 hh hm4 hs4 sb ps gc_4_x_2; omega) | omega)) kv_X12_276 ha ⟨Nat.le_of_ble_eq_true rfl, Nat.le_of_ble_eq_true rfl⟩ (Nat.le_of_ble_eq_true rfl) dX12_cardsOf_14) hI (Nat.le_of_ble_eq_true rfl) (fun r_5 σ_6 H locs hpσ_6 hkσ_6 hI => ?_)
        have ahpσ_6 := hpσ_6.1
        have bhpσ_6 := hpσ_6.2.1
        have chpσ_6 := hpσ_6.2.2
        clear hpσ_6
        replace hI := q_Irw ahpσ_6 hI
        replace hF := q_letX hF chpσ_6
        have ir_5 : r_5.toInt = (m_c X σ a (34 + 10 * v1.toInt + x_2.toInt)) := (by first | exact bhpσ_6 | (rw [bhpσ_6]) | (simp only [bhpσ_6]))
        have hbr_5 := hG.h80 (p := v1.toInt) (k := x_2.toInt) (by first | (clear h0 hh hm4 hge4 hs4 sb ps gc_4_x_2 c_4 ahpσ_6 bhpσ_6 chpσ_6 ir_5; omega) | omega) (by first | (clear h0 hh hm4 hge4 hs4 sb ps gc_4_x_2 c_4 ahpσ_6 bhpσ_6 chpσ_6 ir_5; omega) | omega) (by first | (clear h0 hh hm4 hs4 sb ps gc_4_x_2 ahpσ_6 bhpσ_6 chpσ_6 ir_5; omega) | omega) (by omega)
        refine lv_iadd hx hb dX12_cardsOf_17 ?_
        refine lv_topi (fun z_7 ez_7 => ?_)
        replace hF := q_letX hF ez_7
        have iz_7 := q_addI (A := x_1.toInt) (B := (m_c X σ a (34 + 10 * v1.toInt + x_2.toInt))) ez_7 rfl ir_5 (by first | (clear h0 hh hm4 hge4 gc_4_x_2 c_4 ahpσ_6 chpσ_6 ir_5; omega) | omega) (by first | (clear h0 hh hm4 hge4 gc_4_x_2 c_4 ahpσ_6 chpσ_6 ir_5; omega) | omega)
        refine lv_istore_n (lv' := [(2, .int z_7), (0, .ref a), (1, .int v1), (3, .int x_2)]) hx hb dX12_cardsOf_18 rfl hl (by decide) rfl (fun ls hl => ?_)
        obtain ⟨z_8, ez_8⟩ : ∃ y : Int32, y = x_2 + 1 := ⟨_, rfl⟩
        replace hF := q_letX hF ez_8
        refine lv_iinc (v := z_8) (lv' := [(3, .int z_8), (2, .int z_7), (0, .ref a), (1, .int v1)]) hx hb dX12_cardsOf_19 hl (k := 3) rfl (by rw [ez_8]; rfl) (by decide) rfl (fun ls hl => ?_)
        have iz_8 : z_8.toInt = x_2.toInt + 1 := q_inc ez_8 (by first | (clear h0 hh hm4 hs4 sb ps gc_4_x_2 ahpσ_6 bhpσ_6 chpσ_6 ir_5 hbr_5 iz_7; omega) | omega)
        have pz := ps
        rw [← iz_8] at pz
        refine lv_goto (tgt := 4) hx hb dX12_cardsOf_22 (by decide) ?_
        exact ih4 z_7 z_8 _ _ ls (by first | (clear h0 hh hs4 sb ps gc_4_x_2 ahpσ_6 bhpσ_6 chpσ_6 ir_5 hbr_5 iz_7 pz; omega) | omega) (by first | (clear h0 hh hm4 hs4 sb ps gc_4_x_2 ahpσ_6 bhpσ_6 chpσ_6 ir_5 hbr_5 iz_7 pz; omega) | omega) (by first | (clear h0 hh hm4 hge4 sb gc_4_x_2 c_4 ahpσ_6 bhpσ_6 chpσ_6 ir_5 hbr_5 iz_8; omega) | omega) hF hI (lv_sub hl [2, 3, 1, 0] rfl)
  have kc_9 : (0 : Int32).toInt = 0 := zt_0
  exact L_4_3 ((2147483647 - (0 : Int32).toInt).toNat + 1) 0 0 _ _ ls (Nat.lt_succ_self _) (by decide) rfl hF hI (lv_sub hl [2, 3, 1, 0] rfl)

set_option maxRecDepth 100000 in
set_option maxHeartbeats 4000000 in
theorem c_X12_heapMany (l : Launch) (X : XW) (σ : ST) (a : Nat) (ha : q_kd X a = 12) (hG : m_G (m_c X σ a)) : Met l yX12_heapMany (q_ws yX12_heapMany cX12_heapMany 3 (some .int)) (q_rm 1 20) (q_P X σ [.ref a]) (q_Qi X 9 σ (fun (r : Int32) (σ' : ST) => σ' = σ ∧ (r.toInt = m_L (m_c X σ a) (m_c X σ a 9).toNat) ∧ (0 ≤ r.toInt ∧ r.toInt ≤ 80) ∧ r = F_X12_heapMany X σ a)) 0 0 (q_reg X) := by
  refine q_met 9 (by first | exact rfl | decide +kernel) rfl (Nat.le_of_ble_eq_true rfl) (fun p e s m below meth c E hml hr hlk hI ls hl => ?_)
  have hx := E.1
  have hb := E.2.1
  have hl : lv_has ls 3 [(0, .ref a)] := hl
  have hh := hG.hd
  obtain ⟨out, hout⟩ : ∃ o, o = F_X12_heapMany X σ a := ⟨_, rfl⟩
  have hF := hout.symm
  unfold F_X12_heapMany at hF
  refine lv_iconst (v := 0) hx hb dX12_heapMany_0 zki_0 ?_
  refine lv_istore_n (lv' := [(1, .int 0), (0, .ref a)]) hx hb dX12_heapMany_1 rfl hl (by decide) rfl (fun ls hl => ?_)
  refine lv_iconst (v := 0) hx hb dX12_heapMany_2 zki_0 ?_
  refine lv_istore_n (lv' := [(2, .int 0), (1, .int 0), (0, .ref a)]) hx hb dX12_heapMany_3 rfl hl (by decide) rfl (fun ls hl => ?_)
  have L_4_3 : ∀ (k_3 : Nat) (x_1 : Int32) (x_2 : Int32) (H : Heap) (locs : List Loc) (ls : Array Slot), (2147483647 - x_2.toInt).toNat < k_3 → (0 ≤ x_2.toInt ∧ x_2.toInt ≤ m_c X σ a 9) → (x_1.toInt = m_L (m_c X σ a) x_2.toInt.toNat) → (F_X12_heapMany_L4_1 X σ a k_3 x_1 x_2 = out) → q_I X 9 σ s.heap locs σ H → lv_has ls 3 [(0, .ref a), (1, .int x_1), (2, .int x_2)] → W p l e (q_rm 1 20) s m ([.ref a] : List Value).toArray below meth c H locs 0 0 (MQ below (q_Qi X 9 σ (fun (r : Int32) (σ' : ST) => σ' = σ ∧ (r.toInt = m_L (m_c X σ a) (m_c X σ a 9).toNat) ∧ (0 ≤ r.toInt ∧ r.toInt ≤ 80) ∧ r = F_X12_heapMany X σ a)) ([.ref a] : List Value).toArray s 0 0 (q_reg X)) (F0 m 4 ls []) := by
    clear hF
    intro k_3
    induction k_3 with
    | zero =>
      intro x_1 x_2 H locs ls hms
      exact absurd hms (Nat.not_lt_zero _)
    | succ k_3 ih4 =>
      intro x_1 x_2 H locs ls hm4 hge4 hs4 hF hI hl
      replace hF := (F_X12_heapMany_L4_1_s).symm.trans hF
      unfold F_X12_heapMany_B4_1 at hF
      have sb := hG.L80 (k := x_2.toInt) (by first | (clear hh hm4 hs4; omega) | omega) (by first | (clear hh hm4 hs4; omega) | omega)
      have ps := m_L_succ (m_c X σ a) x_2.toInt hge4.1
      refine lv_iload_n hx hb dX12_heapMany_4 rfl (lv_at hl 2 rfl) ?_
      refine lv_aload_n hx hb dX12_heapMany_5 rfl (lv_at hl 0 rfl) ?_
      refine gs_X12_35_12 E hI ha dX12_heapMany_6 ?_
      refine lv_bipush (v := 9) hx hb dX12_heapMany_9 zkb_9 ?_
      refine q_iald E hI (q_tk (k' := 34) hI ha rfl (Nat.succ_ne_zero _)) ⟨by decide, rfl⟩ (by decide) (by rw [q_lnk (v := 4650) hI (q_tk (k' := 34) hI ha rfl (Nat.succ_ne_zero _)) rfl (by decide)]; decide) dX12_heapMany_11 ?_
      refine lv_topi (fun f_4 ef_4 => ?_)
      replace hF := q_letX hF ef_4
      have if_4 : f_4.toInt = m_c X σ a 9 := m_rd ef_4 (by decide)
      have gc_5_x_2 := q_rng x_2
      have gc_5_f_4 := q_rng f_4
      refine q_icmp_ge (A := x_2.toInt) (B := f_4.toInt) E rfl rfl (tgt := 35) dX12_heapMany_12 (by decide) (fun c_5 => ?_) (fun c_5 => ?_)
      · skip
        replace hF := q_ifn hF (Int.not_lt.mpr c_5)
        skip
        refine lv_iload_n hx hb dX12_heapMany_35 rfl (lv_at hl 1 rfl) ?_
        exact q_reti E hr hlk hI ⟨rfl, (by have q : x_2.toInt = m_c X σ a 9 := (by first | (clear hh hm4 hs4 sb ps gc_5_x_2 gc_5_f_4; omega) | omega); rw [q] at hs4; exact hs4), (by first | (clear hh hm4 hge4 if_4 gc_5_x_2 gc_5_f_4 c_5; omega) | omega), (hF.trans hout)⟩ dX12_heapMany_36
      · skip
        replace hF := q_ifp hF c_5
        refine lv_iload_n hx hb dX12_heapMany_15 rfl (lv_at hl 1 rfl) ?_
        refine lv_aload_n hx hb dX12_heapMany_16 rfl (lv_at hl 0 rfl) ?_
        refine gs_X12_35_12 E hI ha dX12_heapMany_17 ?_
        refine lv_iload_n hx hb dX12_heapMany_20 rfl (lv_at hl 2 rfl) ?_
        refine q_ci (q_runS (As := [.int x_2]) (rest := [.ref (q_rf X a 20), .int x_1]) E (hml.trans hl.1.symm) hI (c_X12_laid l X σ x_2 (by first | (clear hm4 hs4 sb ps gc_5_f_4; omega) | omega)) ks_X12_279 rfl ⟨Nat.le_of_ble_eq_true rfl, Nat.le_of_ble_eq_true rfl⟩ ⟨Nat.le_refl _, Nat.le_refl _⟩ rfl (Nat.le_of_ble_eq_true rfl) dX12_heapMany_21) hI (Nat.le_of_ble_eq_true rfl) (fun r_6 σ_7 H locs hpσ_7 hkσ_7 hI => ?_)
        have ahpσ_7 := hpσ_7.1
        have bhpσ_7 := hpσ_7.2.1
        have chpσ_7 := hpσ_7.2.2
        clear hpσ_7
        replace hI := q_Irw ahpσ_7 hI
        replace hF := q_letX hF chpσ_7
        have ir_6 : r_6.toInt = (94 + 7 * x_2.toInt) := (by omega)
        refine lv_iconst (v := 2) hx hb dX12_heapMany_24 zki_2 ?_
        refine lv_iadd hx hb dX12_heapMany_25 ?_
        refine lv_topi (fun z_8 ez_8 => ?_)
        replace hF := q_letX hF ez_8
        have iz_8 := q_addI (A := (94 + 7 * x_2.toInt)) (B := 2) ez_8 ir_6 (by decide) (by first | (clear hh hm4 hs4 sb ps if_4 gc_5_f_4 c_5 ahpσ_7 bhpσ_7 chpσ_7 ir_6; omega) | omega) (by first | (clear hm4 hs4 sb ps gc_5_f_4 ahpσ_7 bhpσ_7 chpσ_7 ir_6; omega) | omega)
        refine q_iald E hI (q_tk (k' := 34) hI ha rfl (Nat.succ_ne_zero _)) ⟨by decide, rfl⟩ (by first | (clear hh hm4 hs4 sb ps if_4 gc_5_f_4 c_5 ahpσ_7 bhpσ_7 chpσ_7 ir_6; omega) | omega) (by rw [q_lnk (v := 4650) hI (q_tk (k' := 34) hI ha rfl (Nat.succ_ne_zero _)) rfl (by decide)]; omega) dX12_heapMany_26 ?_
        refine lv_topi (fun f_9 ef_9 => ?_)
        replace hF := q_letX hF ef_9
        have if_9 : f_9.toInt = m_c X σ a ((94 + 7 * x_2.toInt) + 2) := m_rd ef_9 iz_8
        have hbf_9 := (hG.2.2.1 x_2.toInt (by first | (clear hh hm4 hs4 sb ps if_4 gc_5_f_4 c_5 ahpσ_7 bhpσ_7 chpσ_7 ir_6 iz_8 if_9; omega) | omega) (by first | (clear hh hm4 hge4 hs4 sb ps gc_5_x_2 gc_5_f_4 ahpσ_7 bhpσ_7 chpσ_7 ir_6 iz_8 if_9; omega) | omega)).1
        refine lv_iadd hx hb dX12_heapMany_27 ?_
        refine lv_topi (fun z_10 ez_10 => ?_)
        replace hF := q_letX hF ez_10
        have iz_10 := q_addI (A := x_1.toInt) (B := (m_c X σ a ((94 + 7 * x_2.toInt) + 2))) ez_10 rfl if_9 (by first | (clear hh hm4 hge4 if_4 gc_5_x_2 gc_5_f_4 c_5 ahpσ_7 bhpσ_7 chpσ_7 ir_6 iz_8; omega) | omega) (by first | (clear hh hm4 hge4 if_4 gc_5_x_2 gc_5_f_4 c_5 ahpσ_7 bhpσ_7 chpσ_7 ir_6 iz_8; omega) | omega)
        refine lv_istore_n (lv' := [(1, .int z_10), (0, .ref a), (2, .int x_2)]) hx hb dX12_heapMany_28 rfl hl (by decide) rfl (fun ls hl => ?_)
        obtain ⟨z_11, ez_11⟩ : ∃ y : Int32, y = x_2 + 1 := ⟨_, rfl⟩
        replace hF := q_letX hF ez_11
        refine lv_iinc (v := z_11) (lv' := [(2, .int z_11), (1, .int z_10), (0, .ref a)]) hx hb dX12_heapMany_29 hl (k := 2) rfl (by rw [ez_11]; rfl) (by decide) rfl (fun ls hl => ?_)
        have iz_11 : z_11.toInt = x_2.toInt + 1 := q_inc ez_11 (by first | (clear hm4 hs4 sb ps gc_5_f_4 ahpσ_7 bhpσ_7 chpσ_7 ir_6 iz_8 if_9 hbf_9 iz_10; omega) | omega)
        have pz := ps
        rw [← iz_11] at pz
        refine lv_goto (tgt := 4) hx hb dX12_heapMany_32 (by decide) ?_
        exact ih4 z_10 z_11 _ _ ls (by first | (clear hs4 sb ps gc_5_f_4 ahpσ_7 bhpσ_7 chpσ_7 ir_6 iz_8 if_9 hbf_9 iz_10 pz; omega) | omega) (by first | (clear hh hm4 hs4 sb ps gc_5_f_4 ahpσ_7 bhpσ_7 chpσ_7 ir_6 iz_8 if_9 hbf_9 iz_10 pz; omega) | omega) (by first | (clear hh hm4 hge4 sb if_4 gc_5_x_2 gc_5_f_4 c_5 ahpσ_7 bhpσ_7 chpσ_7 ir_6 iz_8 if_9 hbf_9 iz_11; omega) | omega) hF hI (lv_sub hl [2, 1, 0] rfl)
  have kc_12 : (0 : Int32).toInt = 0 := zt_0
  exact L_4_3 ((2147483647 - (0 : Int32).toInt).toNat + 1) 0 0 _ _ ls (Nat.lt_succ_self _) (by have q : (0 : Int32).toInt = 0 := rfl; omega) rfl hF hI (lv_sub hl [2, 1, 0] rfl)

set_option maxRecDepth 100000 in
set_option maxHeartbeats 4000000 in
theorem c_X12_laidOf (l : Launch) (X : XW) (σ : ST) (a : Nat) (v1 : Int32) (v2 : Int32) (ha : q_kd X a = 12) (hG : m_G (m_c X σ a)) : Met l yX12_laidOf (q_ws yX12_laidOf cX12_laidOf 7 (some .int)) (q_rm 1 20) (q_P X σ [.ref a, .int v1, .int v2]) (q_Qi X 9 σ (fun (r : Int32) (σ' : ST) => σ' = σ ∧ (r.toInt = m_A (m_c X σ a) v1.toInt v2.toInt (m_c X σ a 9).toNat) ∧ (0 ≤ r.toInt ∧ r.toInt ≤ 80) ∧ r = F_X12_laidOf X σ a v1 v2)) 0 0 (q_reg X) := by
  refine q_met 9 (by first | exact rfl | decide +kernel) rfl (Nat.le_of_ble_eq_true rfl) (fun p e s m below meth c E hml hr hlk hI ls hl => ?_)
  have hx := E.1
  have hb := E.2.1
  have hl : lv_has ls 7 [(0, .ref a), (1, .int v1), (2, .int v2)] := hl
  have hh := hG.hd
  obtain ⟨out, hout⟩ : ∃ o, o = F_X12_laidOf X σ a v1 v2 := ⟨_, rfl⟩
  have hF := hout.symm
  unfold F_X12_laidOf at hF
  refine lv_iconst (v := 0) hx hb dX12_laidOf_0 zki_0 ?_
  refine lv_istore_n (lv' := [(3, .int 0), (0, .ref a), (1, .int v1), (2, .int v2)]) hx hb dX12_laidOf_1 rfl hl (by decide) rfl (fun ls hl => ?_)
  refine lv_iconst (v := 0) hx hb dX12_laidOf_2 zki_0 ?_
  refine lv_istore (lv' := [(4, .int 0), (3, .int 0), (0, .ref a), (1, .int v1), (2, .int v2)]) hx hb dX12_laidOf_3 hl (by decide) rfl (fun ls hl => ?_)
  have L_5_3 : ∀ (k_3 : Nat) (x_1 : Int32) (x_2 : Int32) (H : Heap) (locs : List Loc) (ls : Array Slot), (2147483647 - x_2.toInt).toNat < k_3 → (0 ≤ x_2.toInt ∧ x_2.toInt ≤ m_c X σ a 9) → (x_1.toInt = m_A (m_c X σ a) v1.toInt v2.toInt x_2.toInt.toNat) → (F_X12_laidOf_L5_1 X σ a v1 v2 k_3 x_1 x_2 = out) → q_I X 9 σ s.heap locs σ H → lv_has ls 7 [(0, .ref a), (1, .int v1), (2, .int v2), (3, .int x_1), (4, .int x_2)] → W p l e (q_rm 1 20) s m ([.ref a, .int v1, .int v2] : List Value).toArray below meth c H locs 0 0 (MQ below (q_Qi X 9 σ (fun (r : Int32) (σ' : ST) => σ' = σ ∧ (r.toInt = m_A (m_c X σ a) v1.toInt v2.toInt (m_c X σ a 9).toNat) ∧ (0 ≤ r.toInt ∧ r.toInt ≤ 80) ∧ r = F_X12_laidOf X σ a v1 v2)) ([.ref a, .int v1, .int v2] : List Value).toArray s 0 0 (q_reg X)) (F0 m 5 ls []) := by
    clear hF
    intro k_3
    induction k_3 with
    | zero =>
      intro x_1 x_2 H locs ls hms
      exact absurd hms (Nat.not_lt_zero _)
    | succ k_3 ih5 =>
      intro x_1 x_2 H locs ls hm5 hge5 hs5 hF hI hl
      replace hF := (F_X12_laidOf_L5_1_s).symm.trans hF
      unfold F_X12_laidOf_B5_1 at hF
      have sb := hG.A_bd v1.toInt v2.toInt x_2.toInt.toNat (by first | (clear hm5 hs5; omega) | omega)
      have sl := hG.L80 (k := x_2.toInt) (by first | (clear hh hm5 hs5 sb; omega) | omega) (by first | (clear hh hm5 hs5 sb; omega) | omega)
      have ps := m_A_succ (m_c X σ a) v1.toInt v2.toInt x_2.toInt hge5.1
      refine lv_iload hx hb dX12_laidOf_5 (lv_at hl 4 rfl) ?_
      refine lv_aload_n hx hb dX12_laidOf_7 rfl (lv_at hl 0 rfl) ?_
      refine gs_X12_35_12 E hI ha dX12_laidOf_8 ?_
      refine lv_bipush (v := 9) hx hb dX12_laidOf_11 zkb_9 ?_
      refine q_iald E hI (q_tk (k' := 34) hI ha rfl (Nat.succ_ne_zero _)) ⟨by decide, rfl⟩ (by decide) (by rw [q_lnk (v := 4650) hI (q_tk (k' := 34) hI ha rfl (Nat.succ_ne_zero _)) rfl (by decide)]; decide) dX12_laidOf_13 ?_
      refine lv_topi (fun f_4 ef_4 => ?_)
      replace hF := q_letX hF ef_4
      have if_4 : f_4.toInt = m_c X σ a 9 := m_rd ef_4 (by decide)
      have gc_5_x_2 := q_rng x_2
      have gc_5_f_4 := q_rng f_4
      refine q_icmp_ge (A := x_2.toInt) (B := f_4.toInt) E rfl rfl (tgt := 99) dX12_laidOf_14 (by decide) (fun c_5 => ?_) (fun c_5 => ?_)
      · skip
        replace hF := q_ifn hF (Int.not_lt.mpr c_5)
        skip
        refine lv_iload_n hx hb dX12_laidOf_99 rfl (lv_at hl 3 rfl) ?_
        exact q_reti E hr hlk hI ⟨rfl, (by have q : x_2.toInt = m_c X σ a 9 := (by first | (clear hh hm5 hs5 sb sl ps gc_5_x_2 gc_5_f_4; omega) | omega); rw [q] at hs5; exact hs5), (by first | (clear hh hm5 hge5 if_4 gc_5_x_2 gc_5_f_4 c_5; omega) | omega), (hF.trans hout)⟩ dX12_laidOf_100
      · skip
        replace hF := q_ifp hF c_5
        refine lv_iload hx hb dX12_laidOf_17 (lv_at hl 4 rfl) ?_
        refine q_ci (q_runS (As := [.int x_2]) (rest := []) E (hml.trans hl.1.symm) hI (c_X12_laid l X σ x_2 (by first | (clear hm5 hs5 sb sl ps gc_5_f_4; omega) | omega)) ks_X12_279 rfl ⟨Nat.le_of_ble_eq_true rfl, Nat.le_of_ble_eq_true rfl⟩ ⟨Nat.le_refl _, Nat.le_refl _⟩ rfl (Nat.le_of_ble_eq_true rfl) dX12_laidOf_19) hI (Nat.le_of_ble_eq_true rfl) (fun r_6 σ_7 H locs hpσ_7 hkσ_7 hI => ?_)
        have ahpσ_7 := hpσ_7.1
        have bhpσ_7 := hpσ_7.2.1
        have chpσ_7 := hpσ_7.2.2
        clear hpσ_7
        replace hI := q_Irw ahpσ_7 hI
        replace hF := q_letX hF chpσ_7
        have ir_6 : r_6.toInt = (94 + 7 * x_2.toInt) := (by omega)
        refine lv_istore (lv' := [(5, .int r_6), (0, .ref a), (1, .int v1), (2, .int v2), (3, .int x_1), (4, .int x_2)]) hx hb dX12_laidOf_22 hl (by decide) rfl (fun ls hl => ?_)
        refine lv_iload_n hx hb dX12_laidOf_24 rfl (lv_at hl 2 rfl) ?_
        have J_42_7 : ∀  (H : Heap) (locs : List Loc) (ls : Array Slot), (¬ (0 ≤ v1.toInt ∧ m_c X σ a (94 + 7 * x_2.toInt) ≠ v1.toInt)) → (F_X12_laidOf_J42_3 X r_6 σ a v2 x_2 (F_X12_laidOf_L5_1 X σ a v1 v2 k_3) x_1 = out) → q_I X 9 σ s.heap locs σ H → lv_has ls 7 [(0, .ref a), (1, .int v1), (2, .int v2), (3, .int x_1), (4, .int x_2), (5, .int r_6)] → W p l e (q_rm 1 20) s m ([.ref a, .int v1, .int v2] : List Value).toArray below meth c H locs 0 0 (MQ below (q_Qi X 9 σ (fun (r : Int32) (σ' : ST) => σ' = σ ∧ (r.toInt = m_A (m_c X σ a) v1.toInt v2.toInt (m_c X σ a 9).toNat) ∧ (0 ≤ r.toInt ∧ r.toInt ≤ 80) ∧ r = F_X12_laidOf X σ a v1 v2)) ([.ref a, .int v1, .int v2] : List Value).toArray s 0 0 (q_reg X)) (F0 m 42 ls []) := by
          clear hF
          intro  H locs ls j42 hF hI hl
          unfold F_X12_laidOf_J42_3 at hF
          rw [if_neg j42] at ps
          have hy := hG.2.2.1 x_2.toInt (by first | (clear hh hm5 hs5 sb sl ps if_4 gc_5_f_4 c_5 ahpσ_7 bhpσ_7 chpσ_7 ir_6 j42; omega) | omega) (by first | (clear hh hm5 hge5 hs5 sb sl ps gc_5_x_2 gc_5_f_4 ahpσ_7 bhpσ_7 chpσ_7 ir_6 j42; omega) | omega)
          have hy1 := hy.1
          refine lv_iconst (v := 0) hx hb dX12_laidOf_42 zki_0 ?_
          refine lv_istore (lv' := [(6, .int 0), (0, .ref a), (1, .int v1), (2, .int v2), (3, .int x_1), (4, .int x_2), (5, .int r_6)]) hx hb dX12_laidOf_43 hl (by decide) rfl (fun ls hl => ?_)
          have L_45_10 : ∀ (k_10 : Nat) (x_8 : Int32) (x_9 : Int32) (H : Heap) (locs : List Loc) (ls : Array Slot), (2147483647 - x_9.toInt).toNat < k_10 → (0 ≤ x_9.toInt ∧ x_9.toInt ≤ m_c X σ a (94 + 7 * x_2.toInt + 2)) → (x_8.toInt = m_A (m_c X σ a) v1.toInt v2.toInt x_2.toInt.toNat + m_K (m_c X σ a) (94 + 7 * x_2.toInt) v2.toInt x_9.toInt.toNat) → (F_X12_laidOf_L45_4 X r_6 σ a v2 x_2 (F_X12_laidOf_L5_1 X σ a v1 v2 k_3) k_10 x_8 x_9 = out) → q_I X 9 σ s.heap locs σ H → lv_has ls 7 [(0, .ref a), (1, .int v1), (2, .int v2), (3, .int x_8), (4, .int x_2), (5, .int r_6), (6, .int x_9)] → W p l e (q_rm 1 20) s m ([.ref a, .int v1, .int v2] : List Value).toArray below meth c H locs 0 0 (MQ below (q_Qi X 9 σ (fun (r : Int32) (σ' : ST) => σ' = σ ∧ (r.toInt = m_A (m_c X σ a) v1.toInt v2.toInt (m_c X σ a 9).toNat) ∧ (0 ≤ r.toInt ∧ r.toInt ≤ 80) ∧ r = F_X12_laidOf X σ a v1 v2)) ([.ref a, .int v1, .int v2] : List Value).toArray s 0 0 (q_reg X)) (F0 m 45 ls []) := by
            clear hF
            intro k_10
            induction k_10 with
            | zero =>
              intro x_8 x_9 H locs ls hms
              exact absurd hms (Nat.not_lt_zero _)
            | succ k_10 ih45 =>
              intro x_8 x_9 H locs ls hm45 hge45 hs45 hF hI hl
              replace hF := (F_X12_laidOf_L45_4_s).symm.trans hF
              unfold F_X12_laidOf_B45_4 at hF
              have kb := m_K_bd (m_c X σ a) (94 + 7 * x_2.toInt) v2.toInt x_9.toInt.toNat
              have ps2 := m_K_succ (m_c X σ a) (94 + 7 * x_2.toInt) v2.toInt x_9.toInt hge45.1
              refine lv_iload hx hb dX12_laidOf_45 (lv_at hl 6 rfl) ?_
              refine lv_aload_n hx hb dX12_laidOf_47 rfl (lv_at hl 0 rfl) ?_
              refine gs_X12_35_12 E hI ha dX12_laidOf_48 ?_
              refine lv_iload hx hb dX12_laidOf_51 (lv_at hl 5 rfl) ?_
              refine lv_iconst (v := 2) hx hb dX12_laidOf_53 zki_2 ?_
              refine lv_iadd hx hb dX12_laidOf_54 ?_
              refine lv_topi (fun z_11 ez_11 => ?_)
              replace hF := q_letX hF ez_11
              have iz_11 := q_addI (A := (94 + 7 * x_2.toInt)) (B := 2) ez_11 ir_6 (by decide) (by first | (clear hh hm5 hs5 sb sl ps if_4 gc_5_f_4 c_5 ahpσ_7 bhpσ_7 chpσ_7 ir_6 j42 hy hy1 hm45 hge45 hs45 kb ps2; omega) | omega) (by first | (clear hm5 hs5 sb sl ps gc_5_f_4 ahpσ_7 bhpσ_7 chpσ_7 ir_6 j42 hy hy1 hm45 hge45 hs45 kb ps2; omega) | omega)
              refine q_iald E hI (q_tk (k' := 34) hI ha rfl (Nat.succ_ne_zero _)) ⟨by decide, rfl⟩ (by first | (clear hh hm5 hs5 sb sl ps if_4 gc_5_f_4 c_5 ahpσ_7 bhpσ_7 chpσ_7 ir_6 j42 hy hy1 hm45 hge45 hs45 kb ps2; omega) | omega) (by rw [q_lnk (v := 4650) hI (q_tk (k' := 34) hI ha rfl (Nat.succ_ne_zero _)) rfl (by decide)]; omega) dX12_laidOf_55 ?_
              refine lv_topi (fun f_12 ef_12 => ?_)
              replace hF := q_letX hF ef_12
              have if_12 : f_12.toInt = m_c X σ a ((94 + 7 * x_2.toInt) + 2) := m_rd ef_12 iz_11
              have gc_13_x_9 := q_rng x_9
              have gc_13_f_12 := q_rng f_12
              refine q_icmp_ge (A := x_9.toInt) (B := f_12.toInt) E rfl rfl (tgt := 93) dX12_laidOf_56 (by decide) (fun c_13 => ?_) (fun c_13 => ?_)
              · skip
                replace hF := q_ifn hF (Int.not_lt.mpr c_13)
                have q6 : x_9.toInt = m_c X σ a (94 + 7 * x_2.toInt + 2) := (by first | (clear hh hm5 hge5 hs5 sb sl ps if_4 gc_5_x_2 gc_5_f_4 c_5 ahpσ_7 bhpσ_7 chpσ_7 ir_6 j42 hy hy1 hm45 hs45 kb ps2 iz_11 gc_13_x_9 gc_13_f_12; omega) | omega)
                rw [q6] at hs45
                unfold F_X12_laidOf_E93_5 at hF
                obtain ⟨z_14, ez_14⟩ : ∃ y : Int32, y = x_2 + 1 := ⟨_, rfl⟩
                replace hF := q_letX hF ez_14
                refine lv_iinc (v := z_14) (lv' := [(4, .int z_14), (0, .ref a), (1, .int v1), (2, .int v2), (3, .int x_8), (5, .int r_6), (6, .int x_9)]) hx hb dX12_laidOf_93 hl (k := 4) rfl (by rw [ez_14]; rfl) (by decide) rfl (fun ls hl => ?_)
                have iz_14 : z_14.toInt = x_2.toInt + 1 := q_inc ez_14 (by first | (clear hm5 hs5 sb sl ps gc_5_f_4 ahpσ_7 bhpσ_7 chpσ_7 ir_6 j42 hy hy1 hm45 hge45 hs45 kb ps2 iz_11 if_12 gc_13_x_9 gc_13_f_12 c_13; omega) | omega)
                have pz := ps
                rw [← iz_14] at pz
                refine lv_goto (tgt := 5) hx hb dX12_laidOf_96 (by decide) ?_
                exact ih5 x_8 z_14 _ _ ls (by first | (clear hs5 sb sl ps gc_5_f_4 ahpσ_7 bhpσ_7 chpσ_7 ir_6 hy1 hm45 hs45 kb ps2 iz_11 gc_13_x_9 gc_13_f_12 pz; omega) | omega) (by first | (clear hh hm5 hs5 sb sl ps gc_5_f_4 ahpσ_7 bhpσ_7 chpσ_7 ir_6 j42 hy hy1 hm45 hge45 hs45 kb ps2 iz_11 if_12 gc_13_x_9 gc_13_f_12 c_13 pz; omega) | omega) (by first | (clear hh hm5 hge5 hs5 sb sl if_4 gc_5_x_2 gc_5_f_4 c_5 ahpσ_7 bhpσ_7 chpσ_7 ir_6 j42 hy hy1 hm45 hge45 kb ps2 iz_11 if_12 gc_13_x_9 gc_13_f_12 c_13 iz_14; omega) | omega) hF hI (lv_sub hl [1, 2, 3, 4, 0] rfl)
              · skip
                replace hF := q_ifp hF c_13
                refine lv_iload_n hx hb dX12_laidOf_59 rfl (lv_at hl 3 rfl) ?_
                refine lv_iload_n hx hb dX12_laidOf_60 rfl (lv_at hl 2 rfl) ?_
                refine q_if_lt (A := v2.toInt) E rfl (tgt := 80) dX12_laidOf_61 (by decide) (fun c_15 => ?_) (fun c_15 => ?_)
                · skip
                  replace hF := q_ifp hF c_15
                  rw [if_pos (by first | (clear hh hm5 hge5 hs5 sb sl ps if_4 gc_5_x_2 gc_5_f_4 c_5 ahpσ_7 bhpσ_7 chpσ_7 ir_6 j42 hy hy1 hm45 hge45 hs45 kb ps2 iz_11 if_12 gc_13_x_9 gc_13_f_12 c_13; omega) | omega)] at ps2
                  refine lv_iconst (v := 1) hx hb dX12_laidOf_80 zki_1 ?_
                  refine lv_goto (tgt := 85) hx hb dX12_laidOf_81 (by decide) ?_
                  refine lv_iadd hx hb dX12_laidOf_85 ?_
                  refine lv_topi (fun z_16 ez_16 => ?_)
                  replace hF := q_letX hF ez_16
                  have iz_16 := q_addI (A := x_8.toInt) (B := 1) ez_16 rfl (by decide) (by first | (clear hh hm5 hge5 hs5 if_4 gc_5_x_2 gc_5_f_4 c_5 ahpσ_7 bhpσ_7 chpσ_7 ir_6 j42 hy hy1 hm45 hge45 iz_11 if_12 gc_13_x_9 gc_13_f_12 c_13 c_15; omega) | omega) (by first | (clear hh hm5 hge5 hs5 if_4 gc_5_x_2 gc_5_f_4 c_5 ahpσ_7 bhpσ_7 chpσ_7 ir_6 j42 hy1 hm45 hge45 iz_11 gc_13_x_9 gc_13_f_12 c_15; omega) | omega)
                  refine lv_istore_n (lv' := [(3, .int z_16), (0, .ref a), (1, .int v1), (2, .int v2), (4, .int x_2), (5, .int r_6), (6, .int x_9)]) hx hb dX12_laidOf_86 rfl hl (by decide) rfl (fun ls hl => ?_)
                  obtain ⟨z_17, ez_17⟩ : ∃ y : Int32, y = x_9 + 1 := ⟨_, rfl⟩
                  replace hF := q_letX hF ez_17
                  refine lv_iinc (v := z_17) (lv' := [(6, .int z_17), (3, .int z_16), (0, .ref a), (1, .int v1), (2, .int v2), (4, .int x_2), (5, .int r_6)]) hx hb dX12_laidOf_87 hl (k := 6) rfl (by rw [ez_17]; rfl) (by decide) rfl (fun ls hl => ?_)
                  have iz_17 : z_17.toInt = x_9.toInt + 1 := q_inc ez_17 (by first | (clear hh hm5 hge5 hs5 sb sl ps if_4 gc_5_x_2 gc_5_f_4 c_5 ahpσ_7 bhpσ_7 chpσ_7 ir_6 j42 hy1 hm45 hs45 kb ps2 iz_11 gc_13_f_12 c_15 iz_16; omega) | omega)
                  have pz2 := ps2
                  rw [← iz_17] at pz2
                  refine lv_goto (tgt := 45) hx hb dX12_laidOf_90 (by decide) ?_
                  exact ih45 z_16 z_17 _ _ ls (by first | (clear hh hm5 hge5 hs5 sb sl ps if_4 gc_5_x_2 gc_5_f_4 c_5 ahpσ_7 bhpσ_7 chpσ_7 ir_6 j42 hy1 hs45 kb ps2 iz_11 gc_13_f_12 c_15 iz_16 pz2; omega) | omega) (by first | (clear hh hm5 hge5 hs5 sb sl ps if_4 gc_5_x_2 gc_5_f_4 c_5 ahpσ_7 bhpσ_7 chpσ_7 ir_6 j42 hy hy1 hm45 hs45 kb ps2 iz_11 gc_13_f_12 c_15 iz_16 pz2; omega) | omega) (by first | (clear hh hm5 hge5 hs5 sb sl if_4 gc_5_x_2 gc_5_f_4 c_5 ahpσ_7 bhpσ_7 chpσ_7 ir_6 j42 hy hy1 hm45 hge45 kb iz_11 if_12 gc_13_x_9 gc_13_f_12 c_13 c_15 iz_17; omega) | omega) hF hI (lv_sub hl [2, 3, 4, 1, 5, 6, 0] rfl)
                · skip
                  replace hF := q_ifn hF (Int.not_lt.mpr c_15)
                  refine lv_aload_n hx hb dX12_laidOf_64 rfl (lv_at hl 0 rfl) ?_
                  refine gs_X12_35_12 E hI ha dX12_laidOf_65 ?_
                  refine lv_iload hx hb dX12_laidOf_68 (lv_at hl 5 rfl) ?_
                  refine lv_iconst (v := 3) hx hb dX12_laidOf_70 zki_3 ?_
                  refine lv_iadd hx hb dX12_laidOf_71 ?_
                  refine lv_topi (fun z_18 ez_18 => ?_)
                  replace hF := q_letX hF ez_18
                  have iz_18 := q_addI (A := (94 + 7 * x_2.toInt)) (B := 3) ez_18 ir_6 (by decide) (by first | (clear hh hm5 hs5 sb sl ps if_4 gc_5_f_4 c_5 ahpσ_7 bhpσ_7 chpσ_7 ir_6 j42 hy hy1 hm45 hge45 hs45 kb ps2 iz_11 if_12 gc_13_x_9 gc_13_f_12 c_13 c_15; omega) | omega) (by first | (clear hm5 hs5 sb sl ps gc_5_f_4 ahpσ_7 bhpσ_7 chpσ_7 ir_6 j42 hy hy1 hm45 hge45 hs45 kb ps2 iz_11 if_12 gc_13_x_9 gc_13_f_12 c_13 c_15; omega) | omega)
                  refine lv_iload hx hb dX12_laidOf_72 (lv_at hl 6 rfl) ?_
                  refine lv_iadd hx hb dX12_laidOf_74 ?_
                  refine lv_topi (fun z_19 ez_19 => ?_)
                  replace hF := q_letX hF ez_19
                  have iz_19 := q_addI (A := ((94 + 7 * x_2.toInt) + 3)) (B := x_9.toInt) ez_19 iz_18 rfl (by first | (clear hh hm5 hs5 sb sl ps if_4 gc_5_f_4 c_5 ahpσ_7 bhpσ_7 chpσ_7 ir_6 j42 hy hy1 hm45 hs45 kb ps2 iz_11 if_12 gc_13_f_12 c_13 c_15 iz_18; omega) | omega) (by first | (clear hm5 hge5 hs5 sb sl ps gc_5_x_2 gc_5_f_4 ahpσ_7 bhpσ_7 chpσ_7 ir_6 j42 hy1 hm45 hs45 kb ps2 iz_11 gc_13_f_12 c_15 iz_18; omega) | omega)
                  refine q_iald E hI (q_tk (k' := 34) hI ha rfl (Nat.succ_ne_zero _)) ⟨by decide, rfl⟩ (by first | (clear hh hm5 hs5 sb sl ps if_4 gc_5_f_4 c_5 ahpσ_7 bhpσ_7 chpσ_7 ir_6 j42 hy1 hm45 hs45 kb ps2 iz_11 gc_13_f_12 c_15 iz_18; omega) | omega) (by rw [q_lnk (v := 4650) hI (q_tk (k' := 34) hI ha rfl (Nat.succ_ne_zero _)) rfl (by decide)]; omega) dX12_laidOf_75 ?_
                  refine lv_topi (fun f_20 ef_20 => ?_)
                  replace hF := q_letX hF ef_20
                  have if_20 : f_20.toInt = m_c X σ a (((94 + 7 * x_2.toInt) + 3) + x_9.toInt) := m_rd ef_20 iz_19
                  refine lv_iload_n hx hb dX12_laidOf_76 rfl (lv_at hl 2 rfl) ?_
                  have gc_21_f_20 := q_rng f_20
                  have gc_21_v2 := q_rng v2
                  refine q_icmp_ne (A := f_20.toInt) (B := v2.toInt) E rfl rfl (tgt := 84) dX12_laidOf_77 (by decide) (fun c_21 => ?_) (fun c_21 => ?_)
                  · skip
                    replace hF := q_ifn hF c_21
                    rw [if_neg (by first | (clear hh hm5 hge5 hs5 sb sl ps if_4 gc_5_x_2 gc_5_f_4 c_5 ahpσ_7 bhpσ_7 chpσ_7 ir_6 j42 hy hy1 hm45 hge45 hs45 kb ps2 iz_11 if_12 gc_13_x_9 gc_13_f_12 c_13 iz_18 iz_19 gc_21_f_20; omega) | omega)] at ps2
                    refine lv_iconst (v := 0) hx hb dX12_laidOf_84 zki_0 ?_
                    refine lv_iadd hx hb dX12_laidOf_85 ?_
                    refine lv_topi (fun z_22 ez_22 => ?_)
                    replace hF := q_letX hF ez_22
                    have iz_22 := q_addI (A := x_8.toInt) (B := 0) ez_22 rfl (by decide) (by first | (clear hh hm5 hge5 hs5 if_4 gc_5_x_2 gc_5_f_4 c_5 ahpσ_7 bhpσ_7 chpσ_7 ir_6 j42 hy hy1 hm45 hge45 iz_11 if_12 gc_13_x_9 gc_13_f_12 c_13 c_15 iz_18 iz_19 if_20 gc_21_f_20 gc_21_v2 c_21; omega) | omega) (by first | (clear hh hm5 hge5 hs5 if_4 gc_5_x_2 gc_5_f_4 c_5 ahpσ_7 bhpσ_7 chpσ_7 ir_6 j42 hy1 hm45 iz_11 gc_13_f_12 c_15 iz_18 if_20 gc_21_f_20 gc_21_v2; omega) | omega)
                    refine lv_istore_n (lv' := [(3, .int z_22), (0, .ref a), (1, .int v1), (2, .int v2), (4, .int x_2), (5, .int r_6), (6, .int x_9)]) hx hb dX12_laidOf_86 rfl hl (by decide) rfl (fun ls hl => ?_)
                    obtain ⟨z_23, ez_23⟩ : ∃ y : Int32, y = x_9 + 1 := ⟨_, rfl⟩
                    replace hF := q_letX hF ez_23
                    refine lv_iinc (v := z_23) (lv' := [(6, .int z_23), (3, .int z_22), (0, .ref a), (1, .int v1), (2, .int v2), (4, .int x_2), (5, .int r_6)]) hx hb dX12_laidOf_87 hl (k := 6) rfl (by rw [ez_23]; rfl) (by decide) rfl (fun ls hl => ?_)
                    have iz_23 : z_23.toInt = x_9.toInt + 1 := q_inc ez_23 (by first | (clear hh hm5 hge5 hs5 sb sl ps if_4 gc_5_x_2 gc_5_f_4 c_5 ahpσ_7 bhpσ_7 chpσ_7 ir_6 j42 hy1 hm45 hs45 kb ps2 iz_11 gc_13_f_12 c_15 iz_18 if_20 gc_21_f_20 gc_21_v2 c_21 iz_22; omega) | omega)
                    have pz2 := ps2
                    rw [← iz_23] at pz2
                    refine lv_goto (tgt := 45) hx hb dX12_laidOf_90 (by decide) ?_
                    exact ih45 z_22 z_23 _ _ ls (by first | (clear hh hm5 hge5 hs5 sb sl ps if_4 gc_5_x_2 gc_5_f_4 c_5 ahpσ_7 bhpσ_7 chpσ_7 ir_6 j42 hy1 hs45 kb ps2 iz_11 gc_13_f_12 c_15 iz_18 if_20 gc_21_f_20 gc_21_v2 iz_22 pz2; omega) | omega) (by first | (clear hh hm5 hge5 hs5 sb sl ps if_4 gc_5_x_2 gc_5_f_4 c_5 ahpσ_7 bhpσ_7 chpσ_7 ir_6 j42 hy hy1 hm45 hs45 kb ps2 iz_11 gc_13_f_12 c_15 iz_18 if_20 gc_21_f_20 gc_21_v2 c_21 iz_22 pz2; omega) | omega) (by first | (clear hh hm5 hge5 hs5 sb sl if_4 gc_5_x_2 gc_5_f_4 c_5 ahpσ_7 bhpσ_7 chpσ_7 ir_6 j42 hy hy1 hm45 hge45 kb iz_11 if_12 gc_13_x_9 gc_13_f_12 c_13 c_15 iz_18 iz_19 if_20 gc_21_f_20 gc_21_v2 c_21 iz_23; omega) | omega) hF hI (lv_sub hl [2, 3, 4, 1, 5, 6, 0] rfl)
                  · skip
                    replace hF := q_ifp hF c_21
                    rw [if_pos (by first | (clear hh hm5 hge5 hs5 sb sl ps if_4 gc_5_x_2 gc_5_f_4 c_5 ahpσ_7 bhpσ_7 chpσ_7 ir_6 j42 hy hy1 hm45 hge45 hs45 kb ps2 iz_11 if_12 gc_13_x_9 gc_13_f_12 c_13 c_15 iz_18 iz_19 gc_21_f_20 gc_21_v2; omega) | omega)] at ps2
                    refine lv_iconst (v := 1) hx hb dX12_laidOf_80 zki_1 ?_
                    refine lv_goto (tgt := 85) hx hb dX12_laidOf_81 (by decide) ?_
                    refine lv_iadd hx hb dX12_laidOf_85 ?_
                    refine lv_topi (fun z_24 ez_24 => ?_)
                    replace hF := q_letX hF ez_24
                    have iz_24 := q_addI (A := x_8.toInt) (B := 1) ez_24 rfl (by decide) (by first | (clear hh hm5 hge5 hs5 if_4 gc_5_x_2 gc_5_f_4 c_5 ahpσ_7 bhpσ_7 chpσ_7 ir_6 j42 hy hy1 hm45 hge45 iz_11 if_12 gc_13_x_9 gc_13_f_12 c_13 c_15 iz_18 iz_19 if_20 gc_21_f_20 gc_21_v2 c_21; omega) | omega) (by first | (clear hh hm5 hge5 hs5 if_4 gc_5_x_2 gc_5_f_4 c_5 ahpσ_7 bhpσ_7 chpσ_7 ir_6 j42 hy1 hm45 iz_11 gc_13_f_12 c_15 iz_18 if_20 gc_21_f_20 gc_21_v2 c_21; omega) | omega)
                    refine lv_istore_n (lv' := [(3, .int z_24), (0, .ref a), (1, .int v1), (2, .int v2), (4, .int x_2), (5, .int r_6), (6, .int x_9)]) hx hb dX12_laidOf_86 rfl hl (by decide) rfl (fun ls hl => ?_)
                    obtain ⟨z_25, ez_25⟩ : ∃ y : Int32, y = x_9 + 1 := ⟨_, rfl⟩
                    replace hF := q_letX hF ez_25
                    refine lv_iinc (v := z_25) (lv' := [(6, .int z_25), (3, .int z_24), (0, .ref a), (1, .int v1), (2, .int v2), (4, .int x_2), (5, .int r_6)]) hx hb dX12_laidOf_87 hl (k := 6) rfl (by rw [ez_25]; rfl) (by decide) rfl (fun ls hl => ?_)
                    have iz_25 : z_25.toInt = x_9.toInt + 1 := q_inc ez_25 (by first | (clear hh hm5 hge5 hs5 sb sl ps if_4 gc_5_x_2 gc_5_f_4 c_5 ahpσ_7 bhpσ_7 chpσ_7 ir_6 j42 hy1 hm45 hs45 kb ps2 iz_11 gc_13_f_12 c_15 iz_18 if_20 gc_21_f_20 gc_21_v2 c_21 iz_24; omega) | omega)
                    have pz2 := ps2
                    rw [← iz_25] at pz2
                    refine lv_goto (tgt := 45) hx hb dX12_laidOf_90 (by decide) ?_
                    exact ih45 z_24 z_25 _ _ ls (by first | (clear hh hm5 hge5 hs5 sb sl ps if_4 gc_5_x_2 gc_5_f_4 c_5 ahpσ_7 bhpσ_7 chpσ_7 ir_6 j42 hy1 hs45 kb ps2 iz_11 gc_13_f_12 c_15 iz_18 if_20 gc_21_f_20 gc_21_v2 c_21 iz_24 pz2; omega) | omega) (by first | (clear hh hm5 hge5 hs5 sb sl ps if_4 gc_5_x_2 gc_5_f_4 c_5 ahpσ_7 bhpσ_7 chpσ_7 ir_6 j42 hy hy1 hm45 hs45 kb ps2 iz_11 gc_13_f_12 c_15 iz_18 if_20 gc_21_f_20 gc_21_v2 c_21 iz_24 pz2; omega) | omega) (by first | (clear hh hm5 hge5 hs5 sb sl if_4 gc_5_x_2 gc_5_f_4 c_5 ahpσ_7 bhpσ_7 chpσ_7 ir_6 j42 hy hy1 hm45 hge45 kb iz_11 if_12 gc_13_x_9 gc_13_f_12 c_13 c_15 iz_18 iz_19 if_20 gc_21_f_20 gc_21_v2 c_21 iz_25; omega) | omega) hF hI (lv_sub hl [2, 3, 4, 1, 5, 6, 0] rfl)
          have kc_26 : (0 : Int32).toInt = 0 := zt_0
          exact L_45_10 ((2147483647 - (0 : Int32).toInt).toNat + 1) x_1 0 _ _ ls (Nat.lt_succ_self _) (by have q : (0 : Int32).toInt = 0 := rfl; omega) (by rw [hs5]; exact (Int.add_zero _).symm) hF hI (lv_sub hl [1, 2, 3, 4, 5, 6, 0] rfl)
        refine q_if_lt (A := v1.toInt) E rfl (tgt := 42) dX12_laidOf_25 (by decide) (fun c_27 => ?_) (fun c_27 => ?_)
        · skip
          replace hF := q_ifp hF c_27
          exact J_42_7 _ _ ls (by first | (clear hh hm5 hge5 hs5 sb sl ps if_4 gc_5_x_2 gc_5_f_4 c_5 ahpσ_7 bhpσ_7 chpσ_7 ir_6; omega) | omega) hF hI (lv_sub hl [1, 2, 3, 4, 5, 0] rfl)
        · skip
          replace hF := q_ifn hF (Int.not_lt.mpr c_27)
          refine lv_aload_n hx hb dX12_laidOf_28 rfl (lv_at hl 1 rfl) ?_
          refine gs_X12_35_12 E hI ha dX12_laidOf_29 ?_
          refine lv_iload hx hb dX12_laidOf_32 (lv_at hl 0 rfl) ?_
          refine q_iald E hI (q_tk (k' := 34) hI ha rfl (Nat.succ_ne_zero _)) ⟨by decide, rfl⟩ (by first | (clear hh hm5 hs5 sb sl ps if_4 gc_5_f_4 c_5 ahpσ_7 chpσ_7 ir_6 c_27; omega) | omega) (by rw [q_lnk (v := 4650) hI (q_tk (k' := 34) hI ha rfl (Nat.succ_ne_zero _)) rfl (by decide)]; omega) dX12_laidOf_34 ?_
          refine lv_topi (fun f_28 ef_28 => ?_)
          replace hF := q_letX hF ef_28
          have if_28 : f_28.toInt = m_c X σ a (94 + 7 * x_2.toInt) := m_rd ef_28 ir_6
          refine lv_iload_n hx hb dX12_laidOf_35 rfl (lv_at hl 2 rfl) ?_
          have gc_29_f_28 := q_rng f_28
          have gc_29_v1 := q_rng v1
          refine q_icmp_eq (A := f_28.toInt) (B := v1.toInt) E rfl rfl (tgt := 42) dX12_laidOf_36 (by decide) (fun c_29 => ?_) (fun c_29 => ?_)
          · skip
            replace hF := q_ifp hF c_29
            exact J_42_7 _ _ ls (by first | (clear hh hm5 hge5 hs5 sb sl ps if_4 gc_5_x_2 gc_5_f_4 c_5 ahpσ_7 bhpσ_7 chpσ_7 ir_6 c_27 gc_29_f_28 gc_29_v1; omega) | omega) hF hI (lv_sub hl [1, 2, 3, 4, 5, 0] rfl)
          · skip
            replace hF := q_ifn hF c_29
            rw [if_pos (by first | (clear hh hm5 hge5 hs5 sb sl ps if_4 gc_5_x_2 gc_5_f_4 c_5 ahpσ_7 bhpσ_7 chpσ_7 ir_6 gc_29_f_28; omega) | omega)] at ps
            refine lv_goto (tgt := 93) hx hb dX12_laidOf_39 (by decide) ?_
            obtain ⟨z_30, ez_30⟩ : ∃ y : Int32, y = x_2 + 1 := ⟨_, rfl⟩
            replace hF := q_letX hF ez_30
            refine lv_iinc (v := z_30) (lv' := [(4, .int z_30), (5, .int r_6), (0, .ref a), (1, .int v1), (2, .int v2), (3, .int x_1)]) hx hb dX12_laidOf_93 hl (k := 5) rfl (by rw [ez_30]; rfl) (by decide) rfl (fun ls hl => ?_)
            have iz_30 : z_30.toInt = x_2.toInt + 1 := q_inc ez_30 (by first | (clear hm5 hs5 sb sl ps gc_5_f_4 ahpσ_7 bhpσ_7 chpσ_7 ir_6 c_27 if_28 gc_29_f_28 gc_29_v1 c_29; omega) | omega)
            have pz := ps
            rw [← iz_30] at pz
            refine lv_goto (tgt := 5) hx hb dX12_laidOf_96 (by decide) ?_
            exact ih5 x_1 z_30 _ _ ls (by first | (clear hs5 sb sl ps gc_5_f_4 ahpσ_7 bhpσ_7 chpσ_7 ir_6 c_27 if_28 gc_29_f_28 gc_29_v1 pz; omega) | omega) (by first | (clear hh hm5 hs5 sb sl ps gc_5_f_4 ahpσ_7 bhpσ_7 chpσ_7 ir_6 c_27 if_28 gc_29_f_28 gc_29_v1 c_29 pz; omega) | omega) (by first | (clear hh hm5 hge5 sb sl if_4 gc_5_x_2 gc_5_f_4 c_5 ahpσ_7 bhpσ_7 chpσ_7 ir_6 c_27 if_28 gc_29_f_28 gc_29_v1 c_29 iz_30; omega) | omega) hF hI (lv_sub hl [2, 3, 4, 5, 0] rfl)
  have kc_31 : (0 : Int32).toInt = 0 := zt_0
  exact L_5_3 ((2147483647 - (0 : Int32).toInt).toNat + 1) 0 0 _ _ ls (Nat.lt_succ_self _) (by have q : (0 : Int32).toInt = 0 := rfl; omega) rfl hF hI (lv_sub hl [2, 3, 4, 1, 0] rfl)

set_option maxRecDepth 100000 in
set_option maxHeartbeats 4000000 in
theorem c_X12_inGameOf (l : Launch) (X : XW) (σ : ST) (a : Nat) (v1 : Int32) (ha : q_kd X a = 12) (hG : m_G (m_c X σ a)) (h0 : 0 ≤ v1.toInt ∧ v1.toInt ≤ 9) : Met l yX12_inGameOf (q_ws yX12_inGameOf cX12_inGameOf 4 (some .int)) (q_rm 2 46) (q_P X σ [.ref a, .int v1]) (q_Qi X 9 σ (fun (r : Int32) (σ' : ST) => σ' = σ ∧ (r.toInt = m_I (m_c X σ a) v1.toInt) ∧ (0 ≤ r.toInt ∧ r.toInt ≤ 80) ∧ r = F_X12_inGameOf X σ a v1)) 0 0 (q_reg X) := by
  refine q_met 9 (by first | exact rfl | decide +kernel) rfl (Nat.le_of_ble_eq_true rfl) (fun p e s m below meth c E hml hr hlk hI ls hl => ?_)
  have hx := E.1
  have hb := E.2.1
  have hl : lv_has ls 4 [(0, .ref a), (1, .int v1)] := hl
  have hh := hG.hd
  obtain ⟨out, hout⟩ : ∃ o, o = F_X12_inGameOf X σ a v1 := ⟨_, rfl⟩
  have hF := hout.symm
  unfold F_X12_inGameOf at hF
  refine lv_aload_n hx hb dX12_inGameOf_0 rfl (lv_at hl 0 rfl) ?_
  refine lv_iconst (v := (-1)) hx hb dX12_inGameOf_1 zki_m1 ?_
  refine lv_iload_n hx hb dX12_inGameOf_2 rfl (lv_at hl 1 rfl) ?_
  have kc_1 : ((-1) : Int32).toInt = (-1) := zt_m1
  refine q_ci (q_rV11_2 (rest := []) E (hml.trans hl.1.symm) hI (c_X12_laidOf l X σ a ((-1) : Int32) v1 ha hG) kv_X12_296 ha ⟨Nat.le_of_ble_eq_true rfl, Nat.le_of_ble_eq_true rfl⟩ (Nat.le_of_ble_eq_true rfl) dX12_inGameOf_3) hI (Nat.le_of_ble_eq_true rfl) (fun r_2 σ_3 H locs hpσ_3 hkσ_3 hI => ?_)
  have ahpσ_3 := hpσ_3.1
  have bhpσ_3 := hpσ_3.2.1
  have chpσ_3 := hpσ_3.2.2.1
  have dhpσ_3 := hpσ_3.2.2.2
  clear hpσ_3
  replace hI := q_Irw ahpσ_3 hI
  replace hF := q_letX hF dhpσ_3
  have ir_2 : r_2.toInt = (m_A (m_c X σ a) (-1) v1.toInt (m_c X σ a 9).toNat) := (by first | exact bhpσ_3 | (rw [bhpσ_3]) | (simp only [bhpσ_3]))
  refine lv_istore_n (lv' := [(2, .int r_2), (0, .ref a), (1, .int v1)]) hx hb dX12_inGameOf_6 rfl hl (by decide) rfl (fun ls hl => ?_)
  refine lv_iconst (v := 0) hx hb dX12_inGameOf_7 zki_0 ?_
  refine lv_istore_n (lv' := [(3, .int 0), (2, .int r_2), (0, .ref a), (1, .int v1)]) hx hb dX12_inGameOf_8 rfl hl (by decide) rfl (fun ls hl => ?_)
  have L_9_6 : ∀ (k_6 : Nat) (x_4 : Int32) (x_5 : Int32) (H : Heap) (locs : List Loc) (ls : Array Slot), (2147483647 - x_5.toInt).toNat < k_6 → (0 ≤ x_5.toInt ∧ x_5.toInt ≤ m_c X σ a 2) → (x_4.toInt = m_A (m_c X σ a) (-1) v1.toInt (m_c X σ a 9).toNat + m_P (m_c X σ a) v1.toInt x_5.toInt.toNat) → (F_X12_inGameOf_L9_1 X σ a v1 k_6 x_4 x_5 = out) → q_I X 9 σ s.heap locs σ H → lv_has ls 4 [(0, .ref a), (1, .int v1), (2, .int x_4), (3, .int x_5)] → W p l e (q_rm 2 46) s m ([.ref a, .int v1] : List Value).toArray below meth c H locs 0 0 (MQ below (q_Qi X 9 σ (fun (r : Int32) (σ' : ST) => σ' = σ ∧ (r.toInt = m_I (m_c X σ a) v1.toInt) ∧ (0 ≤ r.toInt ∧ r.toInt ≤ 80) ∧ r = F_X12_inGameOf X σ a v1)) ([.ref a, .int v1] : List Value).toArray s 0 0 (q_reg X)) (F0 m 9 ls []) := by
    clear hF
    intro k_6
    induction k_6 with
    | zero =>
      intro x_4 x_5 H locs ls hms
      exact absurd hms (Nat.not_lt_zero _)
    | succ k_6 ih9 =>
      intro x_4 x_5 H locs ls hm9 hge9 hs9 hF hI hl
      replace hF := (F_X12_inGameOf_L9_1_s).symm.trans hF
      unfold F_X12_inGameOf_B9_1 at hF
      have sa := hG.A_bd (-1) v1.toInt (m_c X σ a 9).toNat (by first | (clear h0 kc_1 ahpσ_3 bhpσ_3 chpσ_3 dhpσ_3 ir_2 hm9 hge9 hs9; omega) | omega)
      have sb := hG.Pbd (k := v1.toInt) (by first | (clear h0 hh kc_1 ahpσ_3 bhpσ_3 chpσ_3 dhpσ_3 ir_2 hm9 hge9 hs9 sa; omega) | omega) (by first | (clear h0 hh kc_1 ahpσ_3 bhpσ_3 chpσ_3 dhpσ_3 ir_2 hm9 hge9 hs9 sa; omega) | omega) x_5.toInt.toNat (by first | (clear h0 kc_1 ahpσ_3 bhpσ_3 chpσ_3 dhpσ_3 ir_2 hm9 hs9 sa; omega) | omega)
      have sc := hG.Sall (10 * x_5.toInt.toNat) (by first | (clear h0 kc_1 ahpσ_3 bhpσ_3 chpσ_3 dhpσ_3 ir_2 hm9 hs9 sa sb; omega) | omega)
      have sd := hG.tot
      have ps := m_P_succ (m_c X σ a) v1.toInt x_5.toInt hge9.1
      refine lv_iload_n hx hb dX12_inGameOf_9 rfl (lv_at hl 3 rfl) ?_
      refine lv_aload_n hx hb dX12_inGameOf_10 rfl (lv_at hl 0 rfl) ?_
      refine gs_X12_35_12 E hI ha dX12_inGameOf_11 ?_
      refine lv_iconst (v := 2) hx hb dX12_inGameOf_14 zki_2 ?_
      refine q_iald E hI (q_tk (k' := 34) hI ha rfl (Nat.succ_ne_zero _)) ⟨by decide, rfl⟩ (by decide) (by rw [q_lnk (v := 4650) hI (q_tk (k' := 34) hI ha rfl (Nat.succ_ne_zero _)) rfl (by decide)]; decide) dX12_inGameOf_15 ?_
      refine lv_topi (fun f_7 ef_7 => ?_)
      replace hF := q_letX hF ef_7
      have if_7 : f_7.toInt = m_c X σ a 2 := m_rd ef_7 (by decide)
      have gc_8_x_5 := q_rng x_5
      have gc_8_f_7 := q_rng f_7
      refine q_icmp_ge (A := x_5.toInt) (B := f_7.toInt) E rfl rfl (tgt := 34) dX12_inGameOf_16 (by decide) (fun c_8 => ?_) (fun c_8 => ?_)
      · skip
        replace hF := q_ifn hF (Int.not_lt.mpr c_8)
        skip
        refine lv_iload_n hx hb dX12_inGameOf_34 rfl (lv_at hl 2 rfl) ?_
        exact q_reti E hr hlk hI ⟨rfl, (by have q : x_5.toInt = m_c X σ a 2 := (by first | (clear h0 hh kc_1 ahpσ_3 bhpσ_3 chpσ_3 dhpσ_3 ir_2 hm9 hs9 sa sb sc sd ps gc_8_x_5 gc_8_f_7; omega) | omega); rw [q] at hs9; exact hs9), (by have q : x_5.toInt = m_c X σ a 2 := (by first | (clear h0 hh kc_1 ahpσ_3 bhpσ_3 chpσ_3 dhpσ_3 ir_2 hm9 hs9 sa sb sc sd ps gc_8_x_5 gc_8_f_7; omega) | omega); rw [q] at hs9; have w := hG.I_bd (k := v1.toInt) (by first | (clear h0 hh kc_1 ahpσ_3 bhpσ_3 chpσ_3 dhpσ_3 ir_2 hm9 hge9 hs9 sa sb sc sd ps if_7 gc_8_x_5 gc_8_f_7 c_8; omega) | omega) (by first | (clear h0 hh kc_1 ahpσ_3 bhpσ_3 chpσ_3 dhpσ_3 ir_2 hm9 hge9 hs9 sa sb sc sd ps if_7 gc_8_x_5 gc_8_f_7 c_8; omega) | omega); unfold m_I at w; omega), (hF.trans hout)⟩ dX12_inGameOf_35
      · skip
        replace hF := q_ifp hF c_8
        refine lv_iload_n hx hb dX12_inGameOf_19 rfl (lv_at hl 2 rfl) ?_
        refine lv_aload_n hx hb dX12_inGameOf_20 rfl (lv_at hl 0 rfl) ?_
        refine lv_iload_n hx hb dX12_inGameOf_21 rfl (lv_at hl 3 rfl) ?_
        refine lv_iload_n hx hb dX12_inGameOf_22 rfl (lv_at hl 1 rfl) ?_
        refine q_ci (q_rV11_2 (rest := [.int x_4]) E (hml.trans hl.1.symm) hI (c_X12_handOf l X σ a x_5 v1 ha (by first | (clear h0 kc_1 ahpσ_3 bhpσ_3 chpσ_3 dhpσ_3 ir_2 hm9 hs9 sa sb sc sd ps gc_8_f_7; omega) | omega) (by omega)) kv_X12_276 ha ⟨Nat.le_of_ble_eq_true rfl, Nat.le_of_ble_eq_true rfl⟩ (Nat.le_of_ble_eq_true rfl) dX12_inGameOf_23) hI (Nat.le_of_ble_eq_true rfl) (fun r_9 σ_10 H locs hpσ_10 hkσ_10 hI => ?_)
        have ahpσ_10 := hpσ_10.1
        have bhpσ_10 := hpσ_10.2.1
        have chpσ_10 := hpσ_10.2.2
        clear hpσ_10
        replace hI := q_Irw ahpσ_10 hI
        replace hF := q_letX hF chpσ_10
        have ir_9 : r_9.toInt = (m_c X σ a (34 + 10 * x_5.toInt + v1.toInt)) := (by first | exact bhpσ_10 | (rw [bhpσ_10]) | (simp only [bhpσ_10]))
        have hbr_9 := hG.h80 (p := x_5.toInt) (k := v1.toInt) (by first | (clear h0 hh kc_1 ahpσ_3 bhpσ_3 chpσ_3 dhpσ_3 ir_2 hm9 hs9 sa sb sc sd ps if_7 gc_8_f_7 c_8 ahpσ_10 bhpσ_10 chpσ_10 ir_9; omega) | omega) (by first | (clear h0 kc_1 ahpσ_3 bhpσ_3 chpσ_3 dhpσ_3 ir_2 hm9 hs9 sa sb sc sd ps gc_8_f_7 ahpσ_10 bhpσ_10 chpσ_10 ir_9; omega) | omega) (by first | (clear h0 hh kc_1 ahpσ_3 bhpσ_3 chpσ_3 dhpσ_3 ir_2 hm9 hge9 hs9 sa sb sc sd ps if_7 gc_8_x_5 gc_8_f_7 c_8 ahpσ_10 bhpσ_10 chpσ_10 ir_9; omega) | omega) (by first | (clear h0 hh kc_1 ahpσ_3 bhpσ_3 chpσ_3 dhpσ_3 ir_2 hm9 hge9 hs9 sa sb sc sd ps if_7 gc_8_x_5 gc_8_f_7 c_8 ahpσ_10 bhpσ_10 chpσ_10 ir_9; omega) | omega)
        refine lv_iadd hx hb dX12_inGameOf_26 ?_
        refine lv_topi (fun z_11 ez_11 => ?_)
        replace hF := q_letX hF ez_11
        have iz_11 := q_addI (A := x_4.toInt) (B := (m_c X σ a (34 + 10 * x_5.toInt + v1.toInt))) ez_11 rfl ir_9 (by first | (clear h0 hh kc_1 ahpσ_3 dhpσ_3 hm9 hge9 if_7 gc_8_x_5 gc_8_f_7 c_8 ahpσ_10 chpσ_10 ir_9; omega) | omega) (by first | (clear h0 hh kc_1 ahpσ_3 dhpσ_3 hm9 hge9 if_7 gc_8_x_5 gc_8_f_7 c_8 ahpσ_10 chpσ_10 ir_9; omega) | omega)
        refine lv_istore_n (lv' := [(2, .int z_11), (0, .ref a), (1, .int v1), (3, .int x_5)]) hx hb dX12_inGameOf_27 rfl hl (by decide) rfl (fun ls hl => ?_)
        obtain ⟨z_12, ez_12⟩ : ∃ y : Int32, y = x_5 + 1 := ⟨_, rfl⟩
        replace hF := q_letX hF ez_12
        refine lv_iinc (v := z_12) (lv' := [(3, .int z_12), (2, .int z_11), (0, .ref a), (1, .int v1)]) hx hb dX12_inGameOf_28 hl (k := 3) rfl (by rw [ez_12]; rfl) (by decide) rfl (fun ls hl => ?_)
        have iz_12 : z_12.toInt = x_5.toInt + 1 := q_inc ez_12 (by first | (clear h0 kc_1 ahpσ_3 bhpσ_3 chpσ_3 dhpσ_3 ir_2 hm9 hs9 sa sb sc sd ps gc_8_f_7 ahpσ_10 bhpσ_10 chpσ_10 ir_9 hbr_9 iz_11; omega) | omega)
        have pz := ps
        rw [← iz_12] at pz
        refine lv_goto (tgt := 9) hx hb dX12_inGameOf_31 (by decide) ?_
        exact ih9 z_11 z_12 _ _ ls (by first | (clear h0 kc_1 ahpσ_3 bhpσ_3 chpσ_3 dhpσ_3 ir_2 hs9 sa sb sc sd ps gc_8_f_7 ahpσ_10 bhpσ_10 chpσ_10 ir_9 hbr_9 iz_11 pz; omega) | omega) (by first | (clear h0 hh kc_1 ahpσ_3 bhpσ_3 chpσ_3 dhpσ_3 ir_2 hm9 hs9 sa sb sc sd ps gc_8_f_7 ahpσ_10 bhpσ_10 chpσ_10 ir_9 hbr_9 iz_11 pz; omega) | omega) (by first | (clear h0 hh kc_1 ahpσ_3 bhpσ_3 chpσ_3 dhpσ_3 ir_2 hm9 hge9 sa sb sc sd if_7 gc_8_x_5 gc_8_f_7 c_8 ahpσ_10 chpσ_10 ir_9 hbr_9 iz_12; omega) | omega) hF hI (lv_sub hl [2, 3, 1, 0] rfl)
  have kc_13 : (0 : Int32).toInt = 0 := zt_0
  exact L_9_6 ((2147483647 - (0 : Int32).toInt).toNat + 1) r_2 0 _ _ ls (Nat.lt_succ_self _) (by have q : (0 : Int32).toInt = 0 := rfl; omega) (by have q : m_P (m_c X σ a) v1.toInt (0 : Int32).toInt.toNat = 0 := rfl; omega) hF hI (lv_sub hl [2, 3, 1, 0] rfl)

set_option maxRecDepth 100000 in
set_option maxHeartbeats 4000000 in
theorem c_X12_sortOf (l : Launch) (X : XW) (σ : ST) (a : Nat) (v1 : Int32) (ha : q_kd X a = 12) (hG : m_G (m_c X σ a)) (h0 : 0 ≤ v1.toInt ∧ v1.toInt < m_c X σ a 9) : Met l yX12_sortOf (q_ws yX12_sortOf cX12_sortOf 5 (some .int)) (q_rm 1 20) (q_P X σ [.ref a, .int v1]) (q_Qi X 9 σ (fun (r : Int32) (σ' : ST) => σ' = σ ∧ (0 ≤ r.toInt ∧ r.toInt ≤ 2) ∧ r = F_X12_sortOf X σ a v1)) 0 0 (q_reg X) := by
  refine q_met 9 (by first | exact rfl | decide +kernel) rfl (Nat.le_of_ble_eq_true rfl) (fun p e s m below meth c E hml hr hlk hI ls hl => ?_)
  have hx := E.1
  have hb := E.2.1
  have hl : lv_has ls 5 [(0, .ref a), (1, .int v1)] := hl
  have hh := hG.hd
  obtain ⟨out, hout⟩ : ∃ o, o = F_X12_sortOf X σ a v1 := ⟨_, rfl⟩
  have hF := hout.symm
  unfold F_X12_sortOf at hF
  refine lv_iload_n hx hb dX12_sortOf_0 rfl (lv_at hl 1 rfl) ?_
  refine q_ci (q_runS (As := [.int v1]) (rest := []) E (hml.trans hl.1.symm) hI (c_X12_laid l X σ v1 (by first | (clear h0; omega) | omega)) ks_X12_279 rfl ⟨Nat.le_of_ble_eq_true rfl, Nat.le_of_ble_eq_true rfl⟩ ⟨Nat.le_refl _, Nat.le_refl _⟩ rfl (Nat.le_of_ble_eq_true rfl) dX12_sortOf_1) hI (Nat.le_of_ble_eq_true rfl) (fun r_1 σ_2 H locs hpσ_2 hkσ_2 hI => ?_)
  have ahpσ_2 := hpσ_2.1
  have bhpσ_2 := hpσ_2.2.1
  have chpσ_2 := hpσ_2.2.2
  clear hpσ_2
  replace hI := q_Irw ahpσ_2 hI
  replace hF := q_letX hF chpσ_2
  have ir_1 : r_1.toInt = (94 + 7 * v1.toInt) := (by omega)
  have hy := (hG.2.2.1 v1.toInt (by first | (clear h0 hh ahpσ_2 bhpσ_2 chpσ_2 ir_1; omega) | omega) (by first | (clear h0 hh ahpσ_2 bhpσ_2 chpσ_2 ir_1; omega) | omega)).1
  have hlw := bhpσ_2
  refine lv_istore_n (lv' := [(2, .int r_1), (0, .ref a), (1, .int v1)]) hx hb dX12_sortOf_4 rfl hl (by decide) rfl (fun ls hl => ?_)
  refine lv_iconst (v := 0) hx hb dX12_sortOf_5 zki_0 ?_
  refine lv_istore_n (lv' := [(3, .int 0), (2, .int r_1), (0, .ref a), (1, .int v1)]) hx hb dX12_sortOf_6 rfl hl (by decide) rfl (fun ls hl => ?_)
  refine lv_iconst (v := 0) hx hb dX12_sortOf_7 zki_0 ?_
  refine lv_istore (lv' := [(4, .int 0), (3, .int 0), (2, .int r_1), (0, .ref a), (1, .int v1)]) hx hb dX12_sortOf_8 hl (by decide) rfl (fun ls hl => ?_)
  have L_10_5 : ∀ (k_5 : Nat) (x_3 : Int32) (x_4 : Int32) (H : Heap) (locs : List Loc) (ls : Array Slot), (2147483647 - x_4.toInt).toNat < k_5 → (0 ≤ x_4.toInt ∧ 0 ≤ x_3.toInt ∧ x_3.toInt ≤ x_4.toInt) → (F_X12_sortOf_L10_1 X r_1 σ a k_5 x_3 x_4 = out) → q_I X 9 σ s.heap locs σ H → lv_has ls 5 [(0, .ref a), (1, .int v1), (2, .int r_1), (3, .int x_3), (4, .int x_4)] → W p l e (q_rm 1 20) s m ([.ref a, .int v1] : List Value).toArray below meth c H locs 0 0 (MQ below (q_Qi X 9 σ (fun (r : Int32) (σ' : ST) => σ' = σ ∧ (0 ≤ r.toInt ∧ r.toInt ≤ 2) ∧ r = F_X12_sortOf X σ a v1)) ([.ref a, .int v1] : List Value).toArray s 0 0 (q_reg X)) (F0 m 10 ls []) := by
    clear hF
    intro k_5
    induction k_5 with
    | zero =>
      intro x_3 x_4 H locs ls hms
      exact absurd hms (Nat.not_lt_zero _)
    | succ k_5 ih10 =>
      intro x_3 x_4 H locs ls hm10 hge10 hF hI hl
      replace hF := (F_X12_sortOf_L10_1_s).symm.trans hF
      unfold F_X12_sortOf_B10_1 at hF
      refine lv_iload hx hb dX12_sortOf_10 (lv_at hl 4 rfl) ?_
      refine lv_aload_n hx hb dX12_sortOf_12 rfl (lv_at hl 0 rfl) ?_
      refine gs_X12_35_12 E hI ha dX12_sortOf_13 ?_
      refine lv_iload_n hx hb dX12_sortOf_16 rfl (lv_at hl 2 rfl) ?_
      refine lv_iconst (v := 2) hx hb dX12_sortOf_17 zki_2 ?_
      refine lv_iadd hx hb dX12_sortOf_18 ?_
      refine lv_topi (fun z_6 ez_6 => ?_)
      replace hF := q_letX hF ez_6
      have iz_6 := q_addI (A := (94 + 7 * v1.toInt)) (B := 2) ez_6 ir_1 (by decide) (by first | (clear h0 hh ahpσ_2 bhpσ_2 chpσ_2 ir_1 hy hm10 hge10; omega) | omega) (by first | (clear h0 ahpσ_2 bhpσ_2 chpσ_2 ir_1 hy hm10 hge10; omega) | omega)
      refine q_iald E hI (q_tk (k' := 34) hI ha rfl (Nat.succ_ne_zero _)) ⟨by decide, rfl⟩ (by first | (clear h0 hh ahpσ_2 bhpσ_2 chpσ_2 ir_1 hy hm10 hge10; omega) | omega) (by rw [q_lnk (v := 4650) hI (q_tk (k' := 34) hI ha rfl (Nat.succ_ne_zero _)) rfl (by decide)]; omega) dX12_sortOf_19 ?_
      refine lv_topi (fun f_7 ef_7 => ?_)
      replace hF := q_letX hF ef_7
      have if_7 : f_7.toInt = m_c X σ a ((94 + 7 * v1.toInt) + 2) := m_rd ef_7 iz_6
      have gc_8_x_4 := q_rng x_4
      have gc_8_f_7 := q_rng f_7
      refine q_icmp_ge (A := x_4.toInt) (B := f_7.toInt) E rfl rfl (tgt := 59) dX12_sortOf_20 (by decide) (fun c_8 => ?_) (fun c_8 => ?_)
      · skip
        replace hF := q_ifn hF (Int.not_lt.mpr c_8)
        unfold F_X12_sortOf_E59_2 at hF
        refine lv_iload_n hx hb dX12_sortOf_59 rfl (lv_at hl 3 rfl) ?_
        refine lv_aload_n hx hb dX12_sortOf_60 rfl (lv_at hl 0 rfl) ?_
        refine gs_X12_35_12 E hI ha dX12_sortOf_61 ?_
        refine lv_iload_n hx hb dX12_sortOf_64 rfl (lv_at hl 2 rfl) ?_
        refine lv_iconst (v := 2) hx hb dX12_sortOf_65 zki_2 ?_
        refine lv_iadd hx hb dX12_sortOf_66 ?_
        refine lv_topi (fun z_9 ez_9 => ?_)
        replace hF := q_letX hF ez_9
        have iz_9 := q_addI (A := (94 + 7 * v1.toInt)) (B := 2) ez_9 ir_1 (by decide) (by first | (clear h0 hh ahpσ_2 bhpσ_2 chpσ_2 ir_1 hy hm10 hge10 iz_6 if_7 gc_8_x_4 gc_8_f_7 c_8; omega) | omega) (by first | (clear h0 ahpσ_2 bhpσ_2 chpσ_2 ir_1 hy hm10 hge10 iz_6 if_7 gc_8_x_4 gc_8_f_7 c_8; omega) | omega)
        refine q_iald E hI (q_tk (k' := 34) hI ha rfl (Nat.succ_ne_zero _)) ⟨by decide, rfl⟩ (by first | (clear h0 hh ahpσ_2 bhpσ_2 chpσ_2 ir_1 hy hm10 hge10 iz_6 if_7 gc_8_x_4 gc_8_f_7 c_8; omega) | omega) (by rw [q_lnk (v := 4650) hI (q_tk (k' := 34) hI ha rfl (Nat.succ_ne_zero _)) rfl (by decide)]; omega) dX12_sortOf_67 ?_
        refine lv_topi (fun f_10 ef_10 => ?_)
        replace hF := q_letX hF ef_10
        have if_10 : f_10.toInt = m_c X σ a ((94 + 7 * v1.toInt) + 2) := m_rd ef_10 iz_9
        have gc_11_x_3 := q_rng x_3
        have gc_11_f_10 := q_rng f_10
        refine q_icmp_ne (A := x_3.toInt) (B := f_10.toInt) E rfl rfl (tgt := 75) dX12_sortOf_68 (by decide) (fun c_11 => ?_) (fun c_11 => ?_)
        · skip
          replace hF := q_ifn hF c_11
          refine lv_iload_n hx hb dX12_sortOf_75 rfl (lv_at hl 3 rfl) ?_
          refine q_if_ne (A := x_3.toInt) E rfl (tgt := 83) dX12_sortOf_76 (by decide) (fun c_12 => ?_) (fun c_12 => ?_)
          · skip
            replace hF := q_ifn hF c_12
            refine lv_iconst (v := 1) hx hb dX12_sortOf_83 zki_1 ?_
            have hrv : (1 : Int32).toInt = 1 := zt_1
            exact q_reti E hr hlk hI ⟨rfl, (by first | (clear h0 hh ahpσ_2 bhpσ_2 chpσ_2 ir_1 hy hm10 hge10 iz_6 if_7 gc_8_x_4 gc_8_f_7 c_8 iz_9 if_10 gc_11_x_3 gc_11_f_10 c_11 c_12; omega) | omega), (hF.trans hout)⟩ dX12_sortOf_84
          · skip
            replace hF := q_ifp hF c_12
            refine lv_iconst (v := 2) hx hb dX12_sortOf_79 zki_2 ?_
            refine lv_goto (tgt := 84) hx hb dX12_sortOf_80 (by decide) ?_
            have hrv : (2 : Int32).toInt = 2 := zt_2
            exact q_reti E hr hlk hI ⟨rfl, (by first | (clear h0 hh ahpσ_2 bhpσ_2 chpσ_2 ir_1 hy hm10 hge10 iz_6 if_7 gc_8_x_4 gc_8_f_7 c_8 iz_9 if_10 gc_11_x_3 gc_11_f_10 c_11 c_12; omega) | omega), (hF.trans hout)⟩ dX12_sortOf_84
        · skip
          replace hF := q_ifp hF c_11
          refine lv_iconst (v := 0) hx hb dX12_sortOf_71 zki_0 ?_
          refine lv_goto (tgt := 84) hx hb dX12_sortOf_72 (by decide) ?_
          have hrv : (0 : Int32).toInt = 0 := zt_0
          exact q_reti E hr hlk hI ⟨rfl, (by first | (clear h0 hh ahpσ_2 bhpσ_2 chpσ_2 ir_1 hy hm10 hge10 iz_6 if_7 gc_8_x_4 gc_8_f_7 c_8 iz_9 if_10 gc_11_x_3 gc_11_f_10 c_11; omega) | omega), (hF.trans hout)⟩ dX12_sortOf_84
      · skip
        replace hF := q_ifp hF c_8
        refine lv_iload_n hx hb dX12_sortOf_23 rfl (lv_at hl 3 rfl) ?_
        refine lv_aload_n hx hb dX12_sortOf_24 rfl (lv_at hl 0 rfl) ?_
        refine gs_X12_35_12 E hI ha dX12_sortOf_25 ?_
        refine lv_iload_n hx hb dX12_sortOf_28 rfl (lv_at hl 2 rfl) ?_
        refine lv_iconst (v := 3) hx hb dX12_sortOf_29 zki_3 ?_
        refine lv_iadd hx hb dX12_sortOf_30 ?_
        refine lv_topi (fun z_13 ez_13 => ?_)
        replace hF := q_letX hF ez_13
        have iz_13 := q_addI (A := (94 + 7 * v1.toInt)) (B := 3) ez_13 ir_1 (by decide) (by first | (clear h0 hh ahpσ_2 bhpσ_2 chpσ_2 ir_1 hy hm10 hge10 iz_6 if_7 gc_8_x_4 gc_8_f_7 c_8; omega) | omega) (by first | (clear h0 ahpσ_2 bhpσ_2 chpσ_2 ir_1 hy hm10 hge10 iz_6 if_7 gc_8_x_4 gc_8_f_7 c_8; omega) | omega)
        refine lv_iload hx hb dX12_sortOf_31 (lv_at hl 4 rfl) ?_
        refine lv_iadd hx hb dX12_sortOf_33 ?_
        refine lv_topi (fun z_14 ez_14 => ?_)
        replace hF := q_letX hF ez_14
        have iz_14 := q_addI (A := ((94 + 7 * v1.toInt) + 3)) (B := x_4.toInt) ez_14 iz_13 rfl (by first | (clear h0 hh ahpσ_2 bhpσ_2 chpσ_2 ir_1 hy hm10 iz_6 if_7 gc_8_f_7 c_8 iz_13; omega) | omega) (by first | (clear h0 ahpσ_2 bhpσ_2 chpσ_2 ir_1 hm10 iz_6 gc_8_f_7 iz_13; omega) | omega)
        refine q_iald E hI (q_tk (k' := 34) hI ha rfl (Nat.succ_ne_zero _)) ⟨by decide, rfl⟩ (by first | (clear h0 hh ahpσ_2 bhpσ_2 chpσ_2 ir_1 hm10 iz_6 gc_8_f_7 iz_13; omega) | omega) (by rw [q_lnk (v := 4650) hI (q_tk (k' := 34) hI ha rfl (Nat.succ_ne_zero _)) rfl (by decide)]; omega) dX12_sortOf_34 ?_
        refine lv_topi (fun f_15 ef_15 => ?_)
        replace hF := q_letX hF ef_15
        have if_15 : f_15.toInt = m_c X σ a (((94 + 7 * v1.toInt) + 3) + x_4.toInt) := m_rd ef_15 iz_14
        refine lv_aload_n hx hb dX12_sortOf_35 rfl (lv_at hl 0 rfl) ?_
        refine gs_X12_35_12 E hI ha dX12_sortOf_36 ?_
        refine lv_iload_n hx hb dX12_sortOf_39 rfl (lv_at hl 2 rfl) ?_
        refine lv_iconst (v := 1) hx hb dX12_sortOf_40 zki_1 ?_
        refine lv_iadd hx hb dX12_sortOf_41 ?_
        refine lv_topi (fun z_16 ez_16 => ?_)
        replace hF := q_letX hF ez_16
        have iz_16 := q_addI (A := (94 + 7 * v1.toInt)) (B := 1) ez_16 ir_1 (by decide) (by first | (clear h0 hh ahpσ_2 bhpσ_2 chpσ_2 ir_1 hy hm10 hge10 iz_6 if_7 gc_8_x_4 gc_8_f_7 c_8 iz_13 iz_14 if_15; omega) | omega) (by first | (clear h0 ahpσ_2 bhpσ_2 chpσ_2 ir_1 hy hm10 hge10 iz_6 if_7 gc_8_x_4 gc_8_f_7 c_8 iz_13 iz_14 if_15; omega) | omega)
        refine q_iald E hI (q_tk (k' := 34) hI ha rfl (Nat.succ_ne_zero _)) ⟨by decide, rfl⟩ (by first | (clear h0 hh ahpσ_2 bhpσ_2 chpσ_2 ir_1 hy hm10 hge10 iz_6 if_7 gc_8_x_4 gc_8_f_7 c_8 iz_13 iz_14 if_15; omega) | omega) (by rw [q_lnk (v := 4650) hI (q_tk (k' := 34) hI ha rfl (Nat.succ_ne_zero _)) rfl (by decide)]; omega) dX12_sortOf_42 ?_
        refine lv_topi (fun f_17 ef_17 => ?_)
        replace hF := q_letX hF ef_17
        have if_17 : f_17.toInt = m_c X σ a ((94 + 7 * v1.toInt) + 1) := m_rd ef_17 iz_16
        have gc_18_f_15 := q_rng f_15
        have gc_18_f_17 := q_rng f_17
        refine q_icmp_ne (A := f_15.toInt) (B := f_17.toInt) E rfl rfl (tgt := 50) dX12_sortOf_43 (by decide) (fun c_18 => ?_) (fun c_18 => ?_)
        · skip
          replace hF := q_ifn hF c_18
          refine lv_iconst (v := 0) hx hb dX12_sortOf_50 zki_0 ?_
          refine lv_iadd hx hb dX12_sortOf_51 ?_
          refine lv_topi (fun z_19 ez_19 => ?_)
          replace hF := q_letX hF ez_19
          have iz_19 := q_addI (A := x_3.toInt) (B := 0) ez_19 rfl (by decide) (by first | (clear h0 hh ahpσ_2 bhpσ_2 chpσ_2 ir_1 hy hm10 iz_6 if_7 gc_8_x_4 gc_8_f_7 c_8 iz_13 iz_14 if_15 iz_16 if_17 gc_18_f_15 gc_18_f_17 c_18; omega) | omega) (by first | (clear h0 hh ahpσ_2 bhpσ_2 chpσ_2 ir_1 hy hm10 iz_6 if_7 gc_8_f_7 c_8 iz_13 if_15 iz_16 if_17 gc_18_f_15 gc_18_f_17 c_18; omega) | omega)
          refine lv_istore_n (lv' := [(3, .int z_19), (0, .ref a), (1, .int v1), (2, .int r_1), (4, .int x_4)]) hx hb dX12_sortOf_52 rfl hl (by decide) rfl (fun ls hl => ?_)
          obtain ⟨z_20, ez_20⟩ : ∃ y : Int32, y = x_4 + 1 := ⟨_, rfl⟩
          replace hF := q_letX hF ez_20
          refine lv_iinc (v := z_20) (lv' := [(4, .int z_20), (3, .int z_19), (0, .ref a), (1, .int v1), (2, .int r_1)]) hx hb dX12_sortOf_53 hl (k := 4) rfl (by rw [ez_20]; rfl) (by decide) rfl (fun ls hl => ?_)
          have iz_20 : z_20.toInt = x_4.toInt + 1 := q_inc ez_20 (by first | (clear h0 hh ahpσ_2 bhpσ_2 chpσ_2 ir_1 hm10 iz_6 gc_8_f_7 iz_13 if_15 iz_16 if_17 gc_18_f_15 gc_18_f_17 c_18 iz_19; omega) | omega)
          refine lv_goto (tgt := 10) hx hb dX12_sortOf_56 (by decide) ?_
          exact ih10 z_19 z_20 _ _ ls (by first | (clear h0 hh ahpσ_2 bhpσ_2 chpσ_2 ir_1 iz_6 gc_8_f_7 iz_13 if_15 iz_16 if_17 gc_18_f_15 gc_18_f_17 iz_19; omega) | omega) (by first | (clear h0 hh ahpσ_2 bhpσ_2 chpσ_2 ir_1 hy hm10 iz_6 if_7 gc_8_f_7 c_8 iz_13 if_15 iz_16 if_17 gc_18_f_15 gc_18_f_17 c_18; omega) | omega) hF hI (lv_sub hl [2, 3, 4, 1, 0] rfl)
        · skip
          replace hF := q_ifp hF c_18
          refine lv_iconst (v := 1) hx hb dX12_sortOf_46 zki_1 ?_
          refine lv_goto (tgt := 51) hx hb dX12_sortOf_47 (by decide) ?_
          refine lv_iadd hx hb dX12_sortOf_51 ?_
          refine lv_topi (fun z_21 ez_21 => ?_)
          replace hF := q_letX hF ez_21
          have iz_21 := q_addI (A := x_3.toInt) (B := 1) ez_21 rfl (by decide) (by first | (clear h0 hh ahpσ_2 bhpσ_2 chpσ_2 ir_1 hy hm10 iz_6 if_7 gc_8_x_4 gc_8_f_7 c_8 iz_13 iz_14 if_15 iz_16 if_17 gc_18_f_15 gc_18_f_17 c_18; omega) | omega) (by first | (clear h0 hh ahpσ_2 bhpσ_2 chpσ_2 ir_1 hm10 iz_6 gc_8_f_7 iz_13 if_15 iz_16 if_17 gc_18_f_15 gc_18_f_17 c_18; omega) | omega)
          refine lv_istore_n (lv' := [(3, .int z_21), (0, .ref a), (1, .int v1), (2, .int r_1), (4, .int x_4)]) hx hb dX12_sortOf_52 rfl hl (by decide) rfl (fun ls hl => ?_)
          obtain ⟨z_22, ez_22⟩ : ∃ y : Int32, y = x_4 + 1 := ⟨_, rfl⟩
          replace hF := q_letX hF ez_22
          refine lv_iinc (v := z_22) (lv' := [(4, .int z_22), (3, .int z_21), (0, .ref a), (1, .int v1), (2, .int r_1)]) hx hb dX12_sortOf_53 hl (k := 4) rfl (by rw [ez_22]; rfl) (by decide) rfl (fun ls hl => ?_)
          have iz_22 : z_22.toInt = x_4.toInt + 1 := q_inc ez_22 (by first | (clear h0 hh ahpσ_2 bhpσ_2 chpσ_2 ir_1 hm10 iz_6 gc_8_f_7 iz_13 if_15 iz_16 if_17 gc_18_f_15 gc_18_f_17 c_18 iz_21; omega) | omega)
          refine lv_goto (tgt := 10) hx hb dX12_sortOf_56 (by decide) ?_
          exact ih10 z_21 z_22 _ _ ls (by first | (clear h0 hh ahpσ_2 bhpσ_2 chpσ_2 ir_1 iz_6 gc_8_f_7 iz_13 if_15 iz_16 if_17 gc_18_f_15 gc_18_f_17 c_18 iz_21; omega) | omega) (by first | (clear h0 hh ahpσ_2 bhpσ_2 chpσ_2 ir_1 hy hm10 iz_6 if_7 gc_8_f_7 c_8 iz_13 if_15 iz_16 if_17 gc_18_f_15 gc_18_f_17 c_18; omega) | omega) hF hI (lv_sub hl [2, 3, 4, 1, 0] rfl)
  have kc_23 : (0 : Int32).toInt = 0 := zt_0
  exact L_10_5 ((2147483647 - (0 : Int32).toInt).toNat + 1) 0 0 _ _ ls (Nat.lt_succ_self _) (by decide) hF hI (lv_sub hl [3, 4, 2, 1, 0] rfl)
