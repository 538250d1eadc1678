/-! FROM 40.look.b00.lean.txt -/
section
set_option maxRecDepth 100000 in
set_option maxHeartbeats 4000000 in
theorem c_X12_isPlayerAt (l : Launch) (X : XW) (σ : ST) (a : Nat) (v1 : Int32) (ha : q_kd X a = 12) (hG : m_G (m_c X σ a)) : Met l yX12_isPlayerAt (q_ws yX12_isPlayerAt cX12_isPlayerAt 2 (some .boolean)) (q_rm 1 25) (q_P X σ [.ref a, .int v1]) (q_Qi X 9 σ (fun (r : Int32) (σ' : ST) => σ' = σ ∧ (0 ≤ r.toInt ∧ r.toInt ≤ 1) ∧ (r.toInt = 1 ↔ (0 ≤ v1.toInt ∧ v1.toInt < m_c X σ a 2)) ∧ r = F_X12_isPlayerAt X σ a v1)) 0 0 (q_reg X) := by
  refine q_met 9 (by first | exact rfl | decide +kernel) rfl (Nat.le_of_ble_eq_true rfl) (fun p e s m below meth c E hml hr hlk hI ls hl => ?_)
  have hx := E.1
  have hb := E.2.1
  have hl : lv_has ls 2 [(0, .ref a), (1, .int v1)] := hl
  have hh := hG.hd
  obtain ⟨out, hout⟩ : ∃ o, o = F_X12_isPlayerAt X σ a v1 := ⟨_, rfl⟩
  have hF := hout.symm
  unfold F_X12_isPlayerAt at hF
  refine lv_iload_n hx hb dX12_isPlayerAt_0 rfl (lv_at hl 1 rfl) ?_
  refine lv_i2l hx hb dX12_isPlayerAt_1 rfl ?_
  refine lv_topl (fun y_1 ey_1 => ?_)
  replace hF := q_letX hF ey_1
  have ggy_1 := q_rng v1
  have iy_1 : y_1.toInt = v1.toInt := by rw [ey_1]; exact (q_i2l _).trans rfl
  refine lv_lconst (v := 0) hx hb dX12_isPlayerAt_2 (by decide) ?_
  refine lv_aload_n hx hb dX12_isPlayerAt_3 rfl (lv_at hl 0 rfl) ?_
  refine gs_X12_35_12 E hI ha dX12_isPlayerAt_4 ?_
  refine lv_iconst (v := 2) hx hb dX12_isPlayerAt_7 zki_2 ?_
  refine q_iald E hI (q_tk (k' := 34) hI ha rfl (Nat.succ_ne_zero _)) ⟨by decide, rfl⟩ (by decide) (by rw [q_lnk (v := 4650) hI (q_tk (k' := 34) hI ha rfl (Nat.succ_ne_zero _)) rfl (by decide)]; decide) dX12_isPlayerAt_8 ?_
  refine lv_topi (fun f_2 ef_2 => ?_)
  replace hF := q_letX hF ef_2
  have if_2 : f_2.toInt = m_c X σ a 2 := m_rd ef_2 (by decide)
  refine lv_iconst (v := 1) hx hb dX12_isPlayerAt_9 zki_1 ?_
  refine lv_isub hx hb dX12_isPlayerAt_10 ?_
  refine lv_topi (fun z_3 ez_3 => ?_)
  replace hF := q_letX hF ez_3
  have iz_3 := q_subI (A := (m_c X σ a 2)) (B := 1) ez_3 if_2 (by decide) (by first | (clear ggy_1 iy_1; omega) | omega) (by first | (clear ggy_1 iy_1; omega) | omega)
  refine lv_i2l hx hb dX12_isPlayerAt_11 rfl ?_
  refine lv_topl (fun y_4 ey_4 => ?_)
  replace hF := q_letX hF ey_4
  have ggy_4 := q_rng z_3
  have iy_4 : y_4.toInt = z_3.toInt := by rw [ey_4]; exact (q_i2l _).trans rfl
  have kc_5 : (0 : Int64).toInt = 0 := rfl
  refine q_ci (q_runS (As := [.long y_1, .long 0, .long y_4]) (rest := []) E (hml.trans hl.1.symm) hI (c_X12_isIn l X σ y_1 (0 : Int64) y_4) ks_X12_94 rfl ⟨Nat.le_of_ble_eq_true rfl, Nat.le_of_ble_eq_true rfl⟩ ⟨Nat.le_refl _, Nat.le_refl _⟩ rfl (Nat.le_of_ble_eq_true rfl) dX12_isPlayerAt_12) hI (Nat.le_of_ble_eq_true rfl) (fun r_6 σ_7 H locs hpσ_7 hkσ_7 hI => ?_)
  have ahpσ_7 := hpσ_7.1
  have bhpσ_7 := hpσ_7.2.1
  have chpσ_7 := hpσ_7.2.2.1
  have dhpσ_7 := hpσ_7.2.2.2
  clear hpσ_7
  replace hI := q_Irw ahpσ_7 hI
  replace hF := q_letX hF dhpσ_7
  exact q_retz E hr hlk hI ⟨by omega, by omega⟩ ⟨rfl, ⟨by omega, by omega⟩, (by first | (clear ggy_4 ahpσ_7 dhpσ_7; omega) | omega), (hF.trans hout)⟩ dX12_isPlayerAt_15

set_option maxRecDepth 100000 in
set_option maxHeartbeats 4000000 in
theorem c_X12_isKindAt (l : Launch) (X : XW) (σ : ST) (a : Nat) (v1 : Int32) (ha : q_kd X a = 12) (hG : m_G (m_c X σ a)) : Met l yX12_isKindAt (q_ws yX12_isKindAt cX12_isKindAt 2 (some .boolean)) (q_rm 1 25) (q_P X σ [.ref a, .int v1]) (q_Qi X 9 σ (fun (r : Int32) (σ' : ST) => σ' = σ ∧ (0 ≤ r.toInt ∧ r.toInt ≤ 1) ∧ (r.toInt = 1 ↔ (0 ≤ v1.toInt ∧ v1.toInt < m_c X σ a 0)) ∧ r = F_X12_isKindAt X σ a v1)) 0 0 (q_reg X) := by
  refine q_met 9 (by first | exact rfl | decide +kernel) rfl (Nat.le_of_ble_eq_true rfl) (fun p e s m below meth c E hml hr hlk hI ls hl => ?_)
  have hx := E.1
  have hb := E.2.1
  have hl : lv_has ls 2 [(0, .ref a), (1, .int v1)] := hl
  have hh := hG.hd
  obtain ⟨out, hout⟩ : ∃ o, o = F_X12_isKindAt X σ a v1 := ⟨_, rfl⟩
  have hF := hout.symm
  unfold F_X12_isKindAt at hF
  refine lv_iload_n hx hb dX12_isKindAt_0 rfl (lv_at hl 1 rfl) ?_
  refine lv_i2l hx hb dX12_isKindAt_1 rfl ?_
  refine lv_topl (fun y_1 ey_1 => ?_)
  replace hF := q_letX hF ey_1
  have ggy_1 := q_rng v1
  have iy_1 : y_1.toInt = v1.toInt := by rw [ey_1]; exact (q_i2l _).trans rfl
  refine lv_lconst (v := 0) hx hb dX12_isKindAt_2 (by decide) ?_
  refine lv_aload_n hx hb dX12_isKindAt_3 rfl (lv_at hl 0 rfl) ?_
  refine gs_X12_35_12 E hI ha dX12_isKindAt_4 ?_
  refine lv_iconst (v := 0) hx hb dX12_isKindAt_7 zki_0 ?_
  refine q_iald E hI (q_tk (k' := 34) hI ha rfl (Nat.succ_ne_zero _)) ⟨by decide, rfl⟩ (by decide) (by rw [q_lnk (v := 4650) hI (q_tk (k' := 34) hI ha rfl (Nat.succ_ne_zero _)) rfl (by decide)]; decide) dX12_isKindAt_8 ?_
  refine lv_topi (fun f_2 ef_2 => ?_)
  replace hF := q_letX hF ef_2
  have if_2 : f_2.toInt = m_c X σ a 0 := m_rd ef_2 (by decide)
  refine lv_iconst (v := 1) hx hb dX12_isKindAt_9 zki_1 ?_
  refine lv_isub hx hb dX12_isKindAt_10 ?_
  refine lv_topi (fun z_3 ez_3 => ?_)
  replace hF := q_letX hF ez_3
  have iz_3 := q_subI (A := (m_c X σ a 0)) (B := 1) ez_3 if_2 (by decide) (by first | (clear ggy_1 iy_1; omega) | omega) (by first | (clear ggy_1 iy_1; omega) | omega)
  refine lv_i2l hx hb dX12_isKindAt_11 rfl ?_
  refine lv_topl (fun y_4 ey_4 => ?_)
  replace hF := q_letX hF ey_4
  have ggy_4 := q_rng z_3
  have iy_4 : y_4.toInt = z_3.toInt := by rw [ey_4]; exact (q_i2l _).trans rfl
  have kc_5 : (0 : Int64).toInt = 0 := rfl
  refine q_ci (q_runS (As := [.long y_1, .long 0, .long y_4]) (rest := []) E (hml.trans hl.1.symm) hI (c_X12_isIn l X σ y_1 (0 : Int64) y_4) ks_X12_94 rfl ⟨Nat.le_of_ble_eq_true rfl, Nat.le_of_ble_eq_true rfl⟩ ⟨Nat.le_refl _, Nat.le_refl _⟩ rfl (Nat.le_of_ble_eq_true rfl) dX12_isKindAt_12) hI (Nat.le_of_ble_eq_true rfl) (fun r_6 σ_7 H locs hpσ_7 hkσ_7 hI => ?_)
  have ahpσ_7 := hpσ_7.1
  have bhpσ_7 := hpσ_7.2.1
  have chpσ_7 := hpσ_7.2.2.1
  have dhpσ_7 := hpσ_7.2.2.2
  clear hpσ_7
  replace hI := q_Irw ahpσ_7 hI
  replace hF := q_letX hF dhpσ_7
  exact q_retz E hr hlk hI ⟨by omega, by omega⟩ ⟨rfl, ⟨by omega, by omega⟩, (by first | (clear ggy_4 ahpσ_7 dhpσ_7; omega) | omega), (hF.trans hout)⟩ dX12_isKindAt_15

set_option maxRecDepth 100000 in
set_option maxHeartbeats 4000000 in
theorem c_X12_isTray (l : Launch) (X : XW) (σ : ST) (a : Nat) (v1 : Int32) (ha : q_kd X a = 12) : Met l yX12_isTray (q_ws yX12_isTray cX12_isTray 2 (some .boolean)) (q_rm 1 25) (q_P X σ [.ref a, .int v1]) (q_Qi X 9 σ (fun (r : Int32) (σ' : ST) => σ' = σ ∧ (0 ≤ r.toInt ∧ r.toInt ≤ 1) ∧ (r.toInt = 1 ↔ (0 ≤ v1.toInt ∧ v1.toInt < 4)) ∧ r = F_X12_isTray X σ a v1)) 0 0 (q_reg X) := by
  refine q_met 9 (by first | exact rfl | decide +kernel) rfl (Nat.le_of_ble_eq_true rfl) (fun p e s m below meth c E hml hr hlk hI ls hl => ?_)
  have hx := E.1
  have hb := E.2.1
  have hl : lv_has ls 2 [(0, .ref a), (1, .int v1)] := hl
  obtain ⟨out, hout⟩ : ∃ o, o = F_X12_isTray X σ a v1 := ⟨_, rfl⟩
  have hF := hout.symm
  unfold F_X12_isTray at hF
  refine lv_iload_n hx hb dX12_isTray_0 rfl (lv_at hl 1 rfl) ?_
  refine lv_i2l hx hb dX12_isTray_1 rfl ?_
  refine lv_topl (fun y_1 ey_1 => ?_)
  replace hF := q_letX hF ey_1
  have ggy_1 := q_rng v1
  have iy_1 : y_1.toInt = v1.toInt := by rw [ey_1]; exact (q_i2l _).trans rfl
  refine lv_lconst (v := 0) hx hb dX12_isTray_2 (by decide) ?_
  refine lv_ldc2 (v := 3) hx hb E.2.2.1 (E.2.2.2.1 _ (q_in_t8 (i := 167) (by first | rfl | decide +kernel) rfl)) dX12_isTray_3 ?_
  have kc_2 : (0 : Int64).toInt = 0 := rfl
  have kc_3 : (3 : Int64).toInt = 3 := rfl
  refine q_ci (q_runS (As := [.long y_1, .long 0, .long 3]) (rest := []) E (hml.trans hl.1.symm) hI (c_X12_isIn l X σ y_1 (0 : Int64) (3 : Int64)) ks_X12_94 rfl ⟨Nat.le_of_ble_eq_true rfl, Nat.le_of_ble_eq_true rfl⟩ ⟨Nat.le_refl _, Nat.le_refl _⟩ rfl (Nat.le_of_ble_eq_true rfl) dX12_isTray_6) hI (Nat.le_of_ble_eq_true rfl) (fun r_4 σ_5 H locs hpσ_5 hkσ_5 hI => ?_)
  have ahpσ_5 := hpσ_5.1
  have bhpσ_5 := hpσ_5.2.1
  have chpσ_5 := hpσ_5.2.2.1
  have dhpσ_5 := hpσ_5.2.2.2
  clear hpσ_5
  replace hI := q_Irw ahpσ_5 hI
  replace hF := q_letX hF dhpσ_5
  exact q_retz E hr hlk hI ⟨by omega, by omega⟩ ⟨rfl, ⟨by omega, by omega⟩, (by first | (clear ahpσ_5 dhpσ_5; omega) | omega), (hF.trans hout)⟩ dX12_isTray_9

set_option maxRecDepth 100000 in
set_option maxHeartbeats 4000000 in
theorem c_X12_handOf (l : Launch) (X : XW) (σ : ST) (a : Nat) (v1 : Int32) (v2 : Int32) (ha : q_kd X a = 12) (h0 : 0 ≤ v1.toInt ∧ v1.toInt ≤ 5) (h1 : 0 ≤ v2.toInt ∧ v2.toInt ≤ 9) : Met l yX12_handOf (q_ws yX12_handOf cX12_handOf 3 (some .int)) (q_rm 0 0) (q_P X σ [.ref a, .int v1, .int v2]) (q_Qi X 9 σ (fun (r : Int32) (σ' : ST) => σ' = σ ∧ (r.toInt = m_c X σ a (34 + 10 * v1.toInt + v2.toInt)) ∧ r = F_X12_handOf X σ a v1 v2)) 0 0 (q_reg X) := by
  refine q_met 9 (by first | exact rfl | decide +kernel) rfl (Nat.le_of_ble_eq_true rfl) (fun p e s m below meth c E hml hr hlk hI ls hl => ?_)
  have hx := E.1
  have hb := E.2.1
  have hl : lv_has ls 3 [(0, .ref a), (1, .int v1), (2, .int v2)] := hl
  obtain ⟨out, hout⟩ : ∃ o, o = F_X12_handOf X σ a v1 v2 := ⟨_, rfl⟩
  have hF := hout.symm
  unfold F_X12_handOf at hF
  refine lv_aload_n hx hb dX12_handOf_0 rfl (lv_at hl 0 rfl) ?_
  refine gs_X12_35_12 E hI ha dX12_handOf_1 ?_
  refine lv_bipush (v := 34) hx hb dX12_handOf_4 zkb_34 ?_
  refine lv_bipush (v := 10) hx hb dX12_handOf_6 zkb_10 ?_
  refine lv_iload_n hx hb dX12_handOf_8 rfl (lv_at hl 1 rfl) ?_
  refine lv_imul hx hb dX12_handOf_9 ?_
  refine lv_topi (fun z_1 ez_1 => ?_)
  replace hF := q_letX hF ez_1
  have iz_1 := q_mulI (A := 10) (B := v1.toInt) ez_1 (by decide) rfl (by first | (clear h0 h1; omega) | omega) (by first | (clear h0 h1; omega) | omega)
  refine lv_iadd hx hb dX12_handOf_10 ?_
  refine lv_topi (fun z_2 ez_2 => ?_)
  replace hF := q_letX hF ez_2
  have iz_2 := q_addI (A := 34) (B := (10 * v1.toInt)) ez_2 (by decide) iz_1 (by first | (clear h0 h1 iz_1; omega) | omega) (by first | (clear h0 h1 iz_1; omega) | omega)
  refine lv_iload_n hx hb dX12_handOf_11 rfl (lv_at hl 2 rfl) ?_
  refine lv_iadd hx hb dX12_handOf_12 ?_
  refine lv_topi (fun z_3 ez_3 => ?_)
  replace hF := q_letX hF ez_3
  have iz_3 := q_addI (A := (34 + (10 * v1.toInt))) (B := v2.toInt) ez_3 iz_2 rfl (by first | (clear h0 h1 iz_1 iz_2; omega) | omega) (by first | (clear h0 h1 iz_1 iz_2; omega) | omega)
  refine q_iald E hI (q_tk (k' := 34) hI ha rfl (Nat.succ_ne_zero _)) ⟨by decide, rfl⟩ (by first | (clear h0 h1 iz_1 iz_2; omega) | omega) (by rw [q_lnk (v := 4650) hI (q_tk (k' := 34) hI ha rfl (Nat.succ_ne_zero _)) rfl (by decide)]; omega) dX12_handOf_13 ?_
  refine lv_topi (fun f_4 ef_4 => ?_)
  replace hF := q_letX hF ef_4
  have if_4 : f_4.toInt = m_c X σ a ((34 + (10 * v1.toInt)) + v2.toInt) := m_rd ef_4 iz_3
  exact q_reti E hr hlk hI ⟨rfl, if_4, (hF.trans hout)⟩ dX12_handOf_14

set_option maxRecDepth 100000 in
set_option maxHeartbeats 4000000 in
theorem c_X12_laid (l : Launch) (X : XW) (σ : ST) (v0 : Int32) (h0 : 0 ≤ v0.toInt ∧ v0.toInt ≤ 100) : Met l yX12_laid (q_ws yX12_laid cX12_laid 1 (some .int)) (q_rm 0 0) (q_P X σ [.int v0]) (q_Qi X 9 σ (fun (r : Int32) (σ' : ST) => σ' = σ ∧ (r.toInt = 94 + 7 * v0.toInt) ∧ r = F_X12_laid X σ v0)) 0 0 (q_reg X) := by
  refine q_met 9 (by first | exact rfl | decide +kernel) rfl (Nat.le_of_ble_eq_true rfl) (fun p e s m below meth c E hml hr hlk hI ls hl => ?_)
  have hx := E.1
  have hb := E.2.1
  have hl : lv_has ls 1 [(0, .int v0)] := hl
  obtain ⟨out, hout⟩ : ∃ o, o = F_X12_laid X σ v0 := ⟨_, rfl⟩
  have hF := hout.symm
  unfold F_X12_laid at hF
  refine lv_bipush (v := 94) hx hb dX12_laid_0 zkb_94 ?_
  refine lv_bipush (v := 7) hx hb dX12_laid_2 zkb_7 ?_
  refine lv_iload_n hx hb dX12_laid_4 rfl (lv_at hl 0 rfl) ?_
  refine lv_imul hx hb dX12_laid_5 ?_
  refine lv_topi (fun z_1 ez_1 => ?_)
  replace hF := q_letX hF ez_1
  have iz_1 := q_mulI (A := 7) (B := v0.toInt) ez_1 (by decide) rfl (by first | (clear h0; omega) | omega) (by first | (clear h0; omega) | omega)
  refine lv_iadd hx hb dX12_laid_6 ?_
  refine lv_topi (fun z_2 ez_2 => ?_)
  replace hF := q_letX hF ez_2
  have iz_2 := q_addI (A := 94) (B := (7 * v0.toInt)) ez_2 (by decide) iz_1 (by first | (clear h0 iz_1; omega) | omega) (by first | (clear h0 iz_1; omega) | omega)
  exact q_reti E hr hlk hI ⟨rfl, (by omega), (hF.trans hout)⟩ dX12_laid_7

set_option maxRecDepth 100000 in
set_option maxHeartbeats 4000000 in
theorem c_X12_cardsOf (l : Launch) (X : XW) (σ : ST) (a : Nat) (v1 : Int32) (ha : q_kd X a = 12) (hG : m_G (m_c X σ a)) (h0 : 0 ≤ v1.toInt ∧ v1.toInt ≤ 5) : Met l yX12_cardsOf (q_ws yX12_cardsOf cX12_cardsOf 4 (some .int)) (q_rm 1 22) (q_P X σ [.ref a, .int v1]) (q_Qi X 9 σ (fun (r : Int32) (σ' : ST) => σ' = σ ∧ (r.toInt = m_S (m_c X σ a) (34 + 10 * v1.toInt) 10) ∧ (0 ≤ r.toInt ∧ r.toInt ≤ 80) ∧ r = F_X12_cardsOf X σ a v1)) 0 0 (q_reg X) := by
  refine q_met 9 (by first | exact rfl | decide +kernel) rfl (Nat.le_of_ble_eq_true rfl) (fun p e s m below meth c E hml hr hlk hI ls hl => ?_)
  have hx := E.1
  have hb := E.2.1
  have hl : lv_has ls 4 [(0, .ref a), (1, .int v1)] := hl
  have hh := hG.hd
  obtain ⟨out, hout⟩ : ∃ o, o = F_X12_cardsOf X σ a v1 := ⟨_, rfl⟩
  have hF := hout.symm
  unfold F_X12_cardsOf at hF
  refine lv_iconst (v := 0) hx hb dX12_cardsOf_0 zki_0 ?_
  refine lv_istore_n (lv' := [(2, .int 0), (0, .ref a), (1, .int v1)]) hx hb dX12_cardsOf_1 rfl hl (by decide) rfl (fun ls hl => ?_)
  refine lv_iconst (v := 0) hx hb dX12_cardsOf_2 zki_0 ?_
  refine lv_istore_n (lv' := [(3, .int 0), (2, .int 0), (0, .ref a), (1, .int v1)]) hx hb dX12_cardsOf_3 rfl hl (by decide) rfl (fun ls hl => ?_)
  have L_4_3 : ∀ (k_3 : Nat) (x_1 : Int32) (x_2 : Int32) (H : Heap) (locs : List Loc) (ls : Array Slot), (2147483647 - x_2.toInt).toNat < k_3 → (0 ≤ x_2.toInt ∧ x_2.toInt ≤ 10) → (x_1.toInt = m_S (m_c X σ a) (34 + 10 * v1.toInt) x_2.toInt.toNat) → (F_X12_cardsOf_L4_1 X σ a v1 k_3 x_1 x_2 = out) → q_I X 9 σ s.heap locs σ H → lv_has ls 4 [(0, .ref a), (1, .int v1), (2, .int x_1), (3, .int x_2)] → W p l e (q_rm 1 22) s m ([.ref a, .int v1] : List Value).toArray below meth c H locs 0 0 (MQ below (q_Qi X 9 σ (fun (r : Int32) (σ' : ST) => σ' = σ ∧ (r.toInt = m_S (m_c X σ a) (34 + 10 * v1.toInt) 10) ∧ (0 ≤ r.toInt ∧ r.toInt ≤ 80) ∧ r = F_X12_cardsOf X σ a v1)) ([.ref a, .int v1] : List Value).toArray s 0 0 (q_reg X)) (F0 m 4 ls []) := by
    clear hF
    intro k_3
    induction k_3 with
    | zero =>
      intro x_1 x_2 H locs ls hms
      exact absurd hms (Nat.not_lt_zero _)
    | succ k_3 ih4 =>
      intro x_1 x_2 H locs ls hm4 hge4 hs4 hF hI hl
      replace hF := (F_X12_cardsOf_L4_1_s).symm.trans hF
      unfold F_X12_cardsOf_B4_1 at hF
      have sb := hG.S80 (p := v1.toInt) (k := x_2.toInt) (by first | (clear h0 hh hm4 hge4 hs4; omega) | omega) (by first | (clear h0 hh hm4 hge4 hs4; omega) | omega) (by first | (clear h0 hh hm4 hs4; omega) | omega) (by first | (clear h0 hh hm4 hs4; omega) | omega)
      have ps := m_S_succ (m_c X σ a) (34 + 10 * v1.toInt) x_2.toInt hge4.1
      refine lv_iload_n hx hb dX12_cardsOf_4 rfl (lv_at hl 3 rfl) ?_
      refine lv_bipush (v := 10) hx hb dX12_cardsOf_5 zkb_10 ?_
      have gc_4_x_2 := q_rng x_2
      refine q_icmp_ge (A := x_2.toInt) (B := 10) E rfl (by decide) (tgt := 25) dX12_cardsOf_7 (by decide) (fun c_4 => ?_) (fun c_4 => ?_)
      · skip
        replace hF := q_ifn hF (Int.not_lt.mpr c_4)
        skip
        refine lv_iload_n hx hb dX12_cardsOf_25 rfl (lv_at hl 2 rfl) ?_
        exact q_reti E hr hlk hI ⟨rfl, (by have q : x_2.toInt.toNat = 10 := (by first | (clear h0 hh hm4 hs4 sb ps gc_4_x_2; omega) | omega); rw [q] at hs4; exact hs4), (by first | (clear h0 hh hm4 hge4 gc_4_x_2 c_4; omega) | omega), (hF.trans hout)⟩ dX12_cardsOf_26
      · skip
        replace hF := q_ifp hF c_4
        refine lv_iload_n hx hb dX12_cardsOf_10 rfl (lv_at hl 2 rfl) ?_
        refine lv_aload_n hx hb dX12_cardsOf_11 rfl (lv_at hl 0 rfl) ?_
        refine lv_iload_n hx hb dX12_cardsOf_12 rfl (lv_at hl 1 rfl) ?_
        refine lv_iload_n hx hb dX12_cardsOf_13 rfl (lv_at hl 3 rfl) ?_
        refine q_ci (q_rV11_2 (rest := [.int x_1]) E (hml.trans hl.1.symm) hI (c_X12_handOf l X σ a v1 x_2 ha (by omega) (by first | (clear h0 hh hm4 hs4 sb ps gc_4_x_2; omega) | omega)) kv_X12_276 ha ⟨Nat.le_of_ble_eq_true rfl, Nat.le_of_ble_eq_true rfl⟩ (Nat.le_of_ble_eq_true rfl) dX12_cardsOf_14) hI (Nat.le_of_ble_eq_true rfl) (fun r_5 σ_6 H locs hpσ_6 hkσ_6 hI => ?_)
        have ahpσ_6 := hpσ_6.1
        have bhpσ_6 := hpσ_6.2.1
        have chpσ_6 := hpσ_6.2.2
        clear hpσ_6
        replace hI := q_Irw ahpσ_6 hI
        replace hF := q_letX hF chpσ_6
        have ir_5 : r_5.toInt = (m_c X σ a (34 + 10 * v1.toInt + x_2.toInt)) := (by first | exact bhpσ_6 | (rw [bhpσ_6]) | (simp only [bhpσ_6]))
        have hbr_5 := hG.h80 (p := v1.toInt) (k := x_2.toInt) (by first | (clear h0 hh hm4 hge4 hs4 sb ps gc_4_x_2 c_4 ahpσ_6 bhpσ_6 chpσ_6 ir_5; omega) | omega) (by first | (clear h0 hh hm4 hge4 hs4 sb ps gc_4_x_2 c_4 ahpσ_6 bhpσ_6 chpσ_6 ir_5; omega) | omega) (by first | (clear h0 hh hm4 hs4 sb ps gc_4_x_2 ahpσ_6 bhpσ_6 chpσ_6 ir_5; omega) | omega) (by omega)
        refine lv_iadd hx hb dX12_cardsOf_17 ?_
        refine lv_topi (fun z_7 ez_7 => ?_)
        replace hF := q_letX hF ez_7
        have iz_7 := q_addI (A := x_1.toInt) (B := (m_c X σ a (34 + 10 * v1.toInt + x_2.toInt))) ez_7 rfl ir_5 (by first | (clear h0 hh hm4 hge4 gc_4_x_2 c_4 ahpσ_6 chpσ_6 ir_5; omega) | omega) (by first | (clear h0 hh hm4 hge4 gc_4_x_2 c_4 ahpσ_6 chpσ_6 ir_5; omega) | omega)
        refine lv_istore_n (lv' := [(2, .int z_7), (0, .ref a), (1, .int v1), (3, .int x_2)]) hx hb dX12_cardsOf_18 rfl hl (by decide) rfl (fun ls hl => ?_)
        obtain ⟨z_8, ez_8⟩ : ∃ y : Int32, y = x_2 + 1 := ⟨_, rfl⟩
        replace hF := q_letX hF ez_8
        refine lv_iinc (v := z_8) (lv' := [(3, .int z_8), (2, .int z_7), (0, .ref a), (1, .int v1)]) hx hb dX12_cardsOf_19 hl (k := 3) rfl (by rw [ez_8]; rfl) (by decide) rfl (fun ls hl => ?_)
        have iz_8 : z_8.toInt = x_2.toInt + 1 := q_inc ez_8 (by first | (clear h0 hh hm4 hs4 sb ps gc_4_x_2 ahpσ_6 bhpσ_6 chpσ_6 ir_5 hbr_5 iz_7; omega) | omega)
        have pz := ps
        rw [← iz_8] at pz
        refine lv_goto (tgt := 4) hx hb dX12_cardsOf_22 (by decide) ?_
        exact ih4 z_7 z_8 _ _ ls (by first | (clear h0 hh hs4 sb ps gc_4_x_2 ahpσ_6 bhpσ_6 chpσ_6 ir_5 hbr_5 iz_7 pz; omega) | omega) (by first | (clear h0 hh hm4 hs4 sb ps gc_4_x_2 ahpσ_6 bhpσ_6 chpσ_6 ir_5 hbr_5 iz_7 pz; omega) | omega) (by first | (clear h0 hh hm4 hge4 sb gc_4_x_2 c_4 ahpσ_6 bhpσ_6 chpσ_6 ir_5 hbr_5 iz_8; omega) | omega) hF hI (lv_sub hl [2, 3, 1, 0] rfl)
  have kc_9 : (0 : Int32).toInt = 0 := zt_0
  exact L_4_3 ((2147483647 - (0 : Int32).toInt).toNat + 1) 0 0 _ _ ls (Nat.lt_succ_self _) (by decide) rfl hF hI (lv_sub hl [2, 3, 1, 0] rfl)

set_option maxRecDepth 100000 in
set_option maxHeartbeats 4000000 in
theorem c_X12_heapMany (l : Launch) (X : XW) (σ : ST) (a : Nat) (ha : q_kd X a = 12) (hG : m_G (m_c X σ a)) : Met l yX12_heapMany (q_ws yX12_heapMany cX12_heapMany 3 (some .int)) (q_rm 1 20) (q_P X σ [.ref a]) (q_Qi X 9 σ (fun (r : Int32) (σ' : ST) => σ' = σ ∧ (r.toInt = m_L (m_c X σ a) (m_c X σ a 9).toNat) ∧ (0 ≤ r.toInt ∧ r.toInt ≤ 80) ∧ r = F_X12_heapMany X σ a)) 0 0 (q_reg X) := by
  refine q_met 9 (by first | exact rfl | decide +kernel) rfl (Nat.le_of_ble_eq_true rfl) (fun p e s m below meth c E hml hr hlk hI ls hl => ?_)
  have hx := E.1
  have hb := E.2.1
  have hl : lv_has ls 3 [(0, .ref a)] := hl
  have hh := hG.hd
  obtain ⟨out, hout⟩ : ∃ o, o = F_X12_heapMany X σ a := ⟨_, rfl⟩
  have hF := hout.symm
  unfold F_X12_heapMany at hF
  refine lv_iconst (v := 0) hx hb dX12_heapMany_0 zki_0 ?_
  refine lv_istore_n (lv' := [(1, .int 0), (0, .ref a)]) hx hb dX12_heapMany_1 rfl hl (by decide) rfl (fun ls hl => ?_)
  refine lv_iconst (v := 0) hx hb dX12_heapMany_2 zki_0 ?_
  refine lv_istore_n (lv' := [(2, .int 0), (1, .int 0), (0, .ref a)]) hx hb dX12_heapMany_3 rfl hl (by decide) rfl (fun ls hl => ?_)
  have L_4_3 : ∀ (k_3 : Nat) (x_1 : Int32) (x_2 : Int32) (H : Heap) (locs : List Loc) (ls : Array Slot), (2147483647 - x_2.toInt).toNat < k_3 → (0 ≤ x_2.toInt ∧ x_2.toInt ≤ m_c X σ a 9) → (x_1.toInt = m_L (m_c X σ a) x_2.toInt.toNat) → (F_X12_heapMany_L4_1 X σ a k_3 x_1 x_2 = out) → q_I X 9 σ s.heap locs σ H → lv_has ls 3 [(0, .ref a), (1, .int x_1), (2, .int x_2)] → W p l e (q_rm 1 20) s m ([.ref a] : List Value).toArray below meth c H locs 0 0 (MQ below (q_Qi X 9 σ (fun (r : Int32) (σ' : ST) => σ' = σ ∧ (r.toInt = m_L (m_c X σ a) (m_c X σ a 9).toNat) ∧ (0 ≤ r.toInt ∧ r.toInt ≤ 80) ∧ r = F_X12_heapMany X σ a)) ([.ref a] : List Value).toArray s 0 0 (q_reg X)) (F0 m 4 ls []) := by
    clear hF
    intro k_3
    induction k_3 with
    | zero =>
      intro x_1 x_2 H locs ls hms
      exact absurd hms (Nat.not_lt_zero _)
    | succ k_3 ih4 =>
      intro x_1 x_2 H locs ls hm4 hge4 hs4 hF hI hl
      replace hF := (F_X12_heapMany_L4_1_s).symm.trans hF
      unfold F_X12_heapMany_B4_1 at hF
      have sb := hG.L80 (k := x_2.toInt) (by first | (clear hh hm4 hs4; omega) | omega) (by first | (clear hh hm4 hs4; omega) | omega)
      have ps := m_L_succ (m_c X σ a) x_2.toInt hge4.1
      refine lv_iload_n hx hb dX12_heapMany_4 rfl (lv_at hl 2 rfl) ?_
      refine lv_aload_n hx hb dX12_heapMany_5 rfl (lv_at hl 0 rfl) ?_
      refine gs_X12_35_12 E hI ha dX12_heapMany_6 ?_
      refine lv_bipush (v := 9) hx hb dX12_heapMany_9 zkb_9 ?_
      refine q_iald E hI (q_tk (k' := 34) hI ha rfl (Nat.succ_ne_zero _)) ⟨by decide, rfl⟩ (by decide) (by rw [q_lnk (v := 4650) hI (q_tk (k' := 34) hI ha rfl (Nat.succ_ne_zero _)) rfl (by decide)]; decide) dX12_heapMany_11 ?_
      refine lv_topi (fun f_4 ef_4 => ?_)
      replace hF := q_letX hF ef_4
      have if_4 : f_4.toInt = m_c X σ a 9 := m_rd ef_4 (by decide)
      have gc_5_x_2 := q_rng x_2
      have gc_5_f_4 := q_rng f_4
      refine q_icmp_ge (A := x_2.toInt) (B := f_4.toInt) E rfl rfl (tgt := 35) dX12_heapMany_12 (by decide) (fun c_5 => ?_) (fun c_5 => ?_)
      · skip
        replace hF := q_ifn hF (Int.not_lt.mpr c_5)
        skip
        refine lv_iload_n hx hb dX12_heapMany_35 rfl (lv_at hl 1 rfl) ?_
        exact q_reti E hr hlk hI ⟨rfl, (by have q : x_2.toInt = m_c X σ a 9 := (by first | (clear hh hm4 hs4 sb ps gc_5_x_2 gc_5_f_4; omega) | omega); rw [q] at hs4; exact hs4), (by first | (clear hh hm4 hge4 if_4 gc_5_x_2 gc_5_f_4 c_5; omega) | omega), (hF.trans hout)⟩ dX12_heapMany_36
      · skip
        replace hF := q_ifp hF c_5
        refine lv_iload_n hx hb dX12_heapMany_15 rfl (lv_at hl 1 rfl) ?_
        refine lv_aload_n hx hb dX12_heapMany_16 rfl (lv_at hl 0 rfl) ?_
        refine gs_X12_35_12 E hI ha dX12_heapMany_17 ?_
        refine lv_iload_n hx hb dX12_heapMany_20 rfl (lv_at hl 2 rfl) ?_
        refine q_ci (q_runS (As := [.int x_2]) (rest := [.ref (q_rf X a 20), .int x_1]) E (hml.trans hl.1.symm) hI (c_X12_laid l X σ x_2 (by first | (clear hm4 hs4 sb ps gc_5_f_4; omega) | omega)) ks_X12_279 rfl ⟨Nat.le_of_ble_eq_true rfl, Nat.le_of_ble_eq_true rfl⟩ ⟨Nat.le_refl _, Nat.le_refl _⟩ rfl (Nat.le_of_ble_eq_true rfl) dX12_heapMany_21) hI (Nat.le_of_ble_eq_true rfl) (fun r_6 σ_7 H locs hpσ_7 hkσ_7 hI => ?_)
        have ahpσ_7 := hpσ_7.1
        have bhpσ_7 := hpσ_7.2.1
        have chpσ_7 := hpσ_7.2.2
        clear hpσ_7
        replace hI := q_Irw ahpσ_7 hI
        replace hF := q_letX hF chpσ_7
        have ir_6 : r_6.toInt = (94 + 7 * x_2.toInt) := (by omega)
        refine lv_iconst (v := 2) hx hb dX12_heapMany_24 zki_2 ?_
        refine lv_iadd hx hb dX12_heapMany_25 ?_
        refine lv_topi (fun z_8 ez_8 => ?_)
        replace hF := q_letX hF ez_8
        have iz_8 := q_addI (A := (94 + 7 * x_2.toInt)) (B := 2) ez_8 ir_6 (by decide) (by first | (clear hh hm4 hs4 sb ps if_4 gc_5_f_4 c_5 ahpσ_7 bhpσ_7 chpσ_7 ir_6; omega) | omega) (by first | (clear hm4 hs4 sb ps gc_5_f_4 ahpσ_7 bhpσ_7 chpσ_7 ir_6; omega) | omega)
        refine q_iald E hI (q_tk (k' := 34) hI ha rfl (Nat.succ_ne_zero _)) ⟨by decide, rfl⟩ (by first | (clear hh hm4 hs4 sb ps if_4 gc_5_f_4 c_5 ahpσ_7 bhpσ_7 chpσ_7 ir_6; omega) | omega) (by rw [q_lnk (v := 4650) hI (q_tk (k' := 34) hI ha rfl (Nat.succ_ne_zero _)) rfl (by decide)]; omega) dX12_heapMany_26 ?_
        refine lv_topi (fun f_9 ef_9 => ?_)
        replace hF := q_letX hF ef_9
        have if_9 : f_9.toInt = m_c X σ a ((94 + 7 * x_2.toInt) + 2) := m_rd ef_9 iz_8
        have hbf_9 := (hG.2.2.1 x_2.toInt (by first | (clear hh hm4 hs4 sb ps if_4 gc_5_f_4 c_5 ahpσ_7 bhpσ_7 chpσ_7 ir_6 iz_8 if_9; omega) | omega) (by first | (clear hh hm4 hge4 hs4 sb ps gc_5_x_2 gc_5_f_4 ahpσ_7 bhpσ_7 chpσ_7 ir_6 iz_8 if_9; omega) | omega)).1
        refine lv_iadd hx hb dX12_heapMany_27 ?_
        refine lv_topi (fun z_10 ez_10 => ?_)
        replace hF := q_letX hF ez_10
        have iz_10 := q_addI (A := x_1.toInt) (B := (m_c X σ a ((94 + 7 * x_2.toInt) + 2))) ez_10 rfl if_9 (by first | (clear hh hm4 hge4 if_4 gc_5_x_2 gc_5_f_4 c_5 ahpσ_7 bhpσ_7 chpσ_7 ir_6 iz_8; omega) | omega) (by first | (clear hh hm4 hge4 if_4 gc_5_x_2 gc_5_f_4 c_5 ahpσ_7 bhpσ_7 chpσ_7 ir_6 iz_8; omega) | omega)
        refine lv_istore_n (lv' := [(1, .int z_10), (0, .ref a), (2, .int x_2)]) hx hb dX12_heapMany_28 rfl hl (by decide) rfl (fun ls hl => ?_)
        obtain ⟨z_11, ez_11⟩ : ∃ y : Int32, y = x_2 + 1 := ⟨_, rfl⟩
        replace hF := q_letX hF ez_11
        refine lv_iinc (v := z_11) (lv' := [(2, .int z_11), (1, .int z_10), (0, .ref a)]) hx hb dX12_heapMany_29 hl (k := 2) rfl (by rw [ez_11]; rfl) (by decide) rfl (fun ls hl => ?_)
        have iz_11 : z_11.toInt = x_2.toInt + 1 := q_inc ez_11 (by first | (clear hm4 hs4 sb ps gc_5_f_4 ahpσ_7 bhpσ_7 chpσ_7 ir_6 iz_8 if_9 hbf_9 iz_10; omega) | omega)
        have pz := ps
        rw [← iz_11] at pz
        refine lv_goto (tgt := 4) hx hb dX12_heapMany_32 (by decide) ?_
        exact ih4 z_10 z_11 _ _ ls (by first | (clear hs4 sb ps gc_5_f_4 ahpσ_7 bhpσ_7 chpσ_7 ir_6 iz_8 if_9 hbf_9 iz_10 pz; omega) | omega) (by first | (clear hh hm4 hs4 sb ps gc_5_f_4 ahpσ_7 bhpσ_7 chpσ_7 ir_6 iz_8 if_9 hbf_9 iz_10 pz; omega) | omega) (by first | (clear hh hm4 hge4 sb if_4 gc_5_x_2 gc_5_f_4 c_5 ahpσ_7 bhpσ_7 chpσ_7 ir_6 iz_8 if_9 hbf_9 iz_11; omega) | omega) hF hI (lv_sub hl [2, 1, 0] rfl)
  have kc_12 : (0 : Int32).toInt = 0 := zt_0
  exact L_4_3 ((2147483647 - (0 : Int32).toInt).toNat + 1) 0 0 _ _ ls (Nat.lt_succ_self _) (by have q : (0 : Int32).toInt = 0 := rfl; omega) rfl hF hI (lv_sub hl [2, 1, 0] rfl)

set_option maxRecDepth 100000 in
set_option maxHeartbeats 4000000 in
theorem c_X12_laidOf (l : Launch) (X : XW) (σ : ST) (a : Nat) (v1 : Int32) (v2 : Int32) (ha : q_kd X a = 12) (hG : m_G (m_c X σ a)) : Met l yX12_laidOf (q_ws yX12_laidOf cX12_laidOf 7 (some .int)) (q_rm 1 20) (q_P X σ [.ref a, .int v1, .int v2]) (q_Qi X 9 σ (fun (r : Int32) (σ' : ST) => σ' = σ ∧ (r.toInt = m_A (m_c X σ a) v1.toInt v2.toInt (m_c X σ a 9).toNat) ∧ (0 ≤ r.toInt ∧ r.toInt ≤ 80) ∧ r = F_X12_laidOf X σ a v1 v2)) 0 0 (q_reg X) := by
  refine q_met 9 (by first | exact rfl | decide +kernel) rfl (Nat.le_of_ble_eq_true rfl) (fun p e s m below meth c E hml hr hlk hI ls hl => ?_)
  have hx := E.1
  have hb := E.2.1
  have hl : lv_has ls 7 [(0, .ref a), (1, .int v1), (2, .int v2)] := hl
  have hh := hG.hd
  obtain ⟨out, hout⟩ : ∃ o, o = F_X12_laidOf X σ a v1 v2 := ⟨_, rfl⟩
  have hF := hout.symm
  unfold F_X12_laidOf at hF
  refine lv_iconst (v := 0) hx hb dX12_laidOf_0 zki_0 ?_
  refine lv_istore_n (lv' := [(3, .int 0), (0, .ref a), (1, .int v1), (2, .int v2)]) hx hb dX12_laidOf_1 rfl hl (by decide) rfl (fun ls hl => ?_)
  refine lv_iconst (v := 0) hx hb dX12_laidOf_2 zki_0 ?_
  refine lv_istore (lv' := [(4, .int 0), (3, .int 0), (0, .ref a), (1, .int v1), (2, .int v2)]) hx hb dX12_laidOf_3 hl (by decide) rfl (fun ls hl => ?_)
  have L_5_3 : ∀ (k_3 : Nat) (x_1 : Int32) (x_2 : Int32) (H : Heap) (locs : List Loc) (ls : Array Slot), (2147483647 - x_2.toInt).toNat < k_3 → (0 ≤ x_2.toInt ∧ x_2.toInt ≤ m_c X σ a 9) → (x_1.toInt = m_A (m_c X σ a) v1.toInt v2.toInt x_2.toInt.toNat) → (F_X12_laidOf_L5_1 X σ a v1 v2 k_3 x_1 x_2 = out) → q_I X 9 σ s.heap locs σ H → lv_has ls 7 [(0, .ref a), (1, .int v1), (2, .int v2), (3, .int x_1), (4, .int x_2)] → W p l e (q_rm 1 20) s m ([.ref a, .int v1, .int v2] : List Value).toArray below meth c H locs 0 0 (MQ below (q_Qi X 9 σ (fun (r : Int32) (σ' : ST) => σ' = σ ∧ (r.toInt = m_A (m_c X σ a) v1.toInt v2.toInt (m_c X σ a 9).toNat) ∧ (0 ≤ r.toInt ∧ r.toInt ≤ 80) ∧ r = F_X12_laidOf X σ a v1 v2)) ([.ref a, .int v1, .int v2] : List Value).toArray s 0 0 (q_reg X)) (F0 m 5 ls []) := by
    clear hF
    intro k_3
    induction k_3 with
    | zero =>
      intro x_1 x_2 H locs ls hms
      exact absurd hms (Nat.not_lt_zero _)
    | succ k_3 ih5 =>
      intro x_1 x_2 H locs ls hm5 hge5 hs5 hF hI hl
      replace hF := (F_X12_laidOf_L5_1_s).symm.trans hF
      unfold F_X12_laidOf_B5_1 at hF
      have sb := hG.A_bd v1.toInt v2.toInt x_2.toInt.toNat (by first | (clear hm5 hs5; omega) | omega)
      have sl := hG.L80 (k := x_2.toInt) (by first | (clear hh hm5 hs5 sb; omega) | omega) (by first | (clear hh hm5 hs5 sb; omega) | omega)
      have ps := m_A_succ (m_c X σ a) v1.toInt v2.toInt x_2.toInt hge5.1
      refine lv_iload hx hb dX12_laidOf_5 (lv_at hl 4 rfl) ?_
      refine lv_aload_n hx hb dX12_laidOf_7 rfl (lv_at hl 0 rfl) ?_
      refine gs_X12_35_12 E hI ha dX12_laidOf_8 ?_
      refine lv_bipush (v := 9) hx hb dX12_laidOf_11 zkb_9 ?_
      refine q_iald E hI (q_tk (k' := 34) hI ha rfl (Nat.succ_ne_zero _)) ⟨by decide, rfl⟩ (by decide) (by rw [q_lnk (v := 4650) hI (q_tk (k' := 34) hI ha rfl (Nat.succ_ne_zero _)) rfl (by decide)]; decide) dX12_laidOf_13 ?_
      refine lv_topi (fun f_4 ef_4 => ?_)
      replace hF := q_letX hF ef_4
      have if_4 : f_4.toInt = m_c X σ a 9 := m_rd ef_4 (by decide)
      have gc_5_x_2 := q_rng x_2
      have gc_5_f_4 := q_rng f_4
      refine q_icmp_ge (A := x_2.toInt) (B := f_4.toInt) E rfl rfl (tgt := 99) dX12_laidOf_14 (by decide) (fun c_5 => ?_) (fun c_5 => ?_)
      · skip
        replace hF := q_ifn hF (Int.not_lt.mpr c_5)
        skip
        refine lv_iload_n hx hb dX12_laidOf_99 rfl (lv_at hl 3 rfl) ?_
        exact q_reti E hr hlk hI ⟨rfl, (by have q : x_2.toInt = m_c X σ a 9 := (by first | (clear hh hm5 hs5 sb sl ps gc_5_x_2 gc_5_f_4; omega) | omega); rw [q] at hs5; exact hs5), (by first | (clear hh hm5 hge5 if_4 gc_5_x_2 gc_5_f_4 c_5; omega) | omega), (hF.trans hout)⟩ dX12_laidOf_100
      · skip
        replace hF := q_ifp hF c_5
        refine lv_iload hx hb dX12_laidOf_17 (lv_at hl 4 rfl) ?_
        refine q_ci (q_runS (As := [.int x_2]) (rest := []) E (hml.trans hl.1.symm) hI (c_X12_laid l X σ x_2 (by first | (clear hm5 hs5 sb sl ps gc_5_f_4; omega) | omega)) ks_X12_279 rfl ⟨Nat.le_of_ble_eq_true rfl, Nat.le_of_ble_eq_true rfl⟩ ⟨Nat.le_refl _, Nat.le_refl _⟩ rfl (Nat.le_of_ble_eq_true rfl) dX12_laidOf_19) hI (Nat.le_of_ble_eq_true rfl) (fun r_6 σ_7 H locs hpσ_7 hkσ_7 hI => ?_)
        have ahpσ_7 := hpσ_7.1
        have bhpσ_7 := hpσ_7.2.1
        have chpσ_7 := hpσ_7.2.2
        clear hpσ_7
        replace hI := q_Irw ahpσ_7 hI
        replace hF := q_letX hF chpσ_7
        have ir_6 : r_6.toInt = (94 + 7 * x_2.toInt) := (by omega)
        refine lv_istore (lv' := [(5, .int r_6), (0, .ref a), (1, .int v1), (2, .int v2), (3, .int x_1), (4, .int x_2)]) hx hb dX12_laidOf_22 hl (by decide) rfl (fun ls hl => ?_)
        refine lv_iload_n hx hb dX12_laidOf_24 rfl (lv_at hl 2 rfl) ?_
        have J_42_7 : ∀  (H : Heap) (locs : List Loc) (ls : Array Slot), (¬ (0 ≤ v1.toInt ∧ m_c X σ a (94 + 7 * x_2.toInt) ≠ v1.toInt)) → (F_X12_laidOf_J42_3 X r_6 σ a v2 x_2 (F_X12_laidOf_L5_1 X σ a v1 v2 k_3) x_1 = out) → q_I X 9 σ s.heap locs σ H → lv_has ls 7 [(0, .ref a), (1, .int v1), (2, .int v2), (3, .int x_1), (4, .int x_2), (5, .int r_6)] → W p l e (q_rm 1 20) s m ([.ref a, .int v1, .int v2] : List Value).toArray below meth c H locs 0 0 (MQ below (q_Qi X 9 σ (fun (r : Int32) (σ' : ST) => σ' = σ ∧ (r.toInt = m_A (m_c X σ a) v1.toInt v2.toInt (m_c X σ a 9).toNat) ∧ (0 ≤ r.toInt ∧ r.toInt ≤ 80) ∧ r = F_X12_laidOf X σ a v1 v2)) ([.ref a, .int v1, .int v2] : List Value).toArray s 0 0 (q_reg X)) (F0 m 42 ls []) := by
          clear hF
          intro  H locs ls j42 hF hI hl
          unfold F_X12_laidOf_J42_3 at hF
          rw [if_neg j42] at ps
          have hy := hG.2.2.1 x_2.toInt (by first | (clear hh hm5 hs5 sb sl ps if_4 gc_5_f_4 c_5 ahpσ_7 bhpσ_7 chpσ_7 ir_6 j42; omega) | omega) (by first | (clear hh hm5 hge5 hs5 sb sl ps gc_5_x_2 gc_5_f_4 ahpσ_7 bhpσ_7 chpσ_7 ir_6 j42; omega) | omega)
          have hy1 := hy.1
          refine lv_iconst (v := 0) hx hb dX12_laidOf_42 zki_0 ?_
          refine lv_istore (lv' := [(6, .int 0), (0, .ref a), (1, .int v1), (2, .int v2), (3, .int x_1), (4, .int x_2), (5, .int r_6)]) hx hb dX12_laidOf_43 hl (by decide) rfl (fun ls hl => ?_)
          have L_45_10 : ∀ (k_10 : Nat) (x_8 : Int32) (x_9 : Int32) (H : Heap) (locs : List Loc) (ls : Array Slot), (2147483647 - x_9.toInt).toNat < k_10 → (0 ≤ x_9.toInt ∧ x_9.toInt ≤ m_c X σ a (94 + 7 * x_2.toInt + 2)) → (x_8.toInt = m_A (m_c X σ a) v1.toInt v2.toInt x_2.toInt.toNat + m_K (m_c X σ a) (94 + 7 * x_2.toInt) v2.toInt x_9.toInt.toNat) → (F_X12_laidOf_L45_4 X r_6 σ a v2 x_2 (F_X12_laidOf_L5_1 X σ a v1 v2 k_3) k_10 x_8 x_9 = out) → q_I X 9 σ s.heap locs σ H → lv_has ls 7 [(0, .ref a), (1, .int v1), (2, .int v2), (3, .int x_8), (4, .int x_2), (5, .int r_6), (6, .int x_9)] → W p l e (q_rm 1 20) s m ([.ref a, .int v1, .int v2] : List Value).toArray below meth c H locs 0 0 (MQ below (q_Qi X 9 σ (fun (r : Int32) (σ' : ST) => σ' = σ ∧ (r.toInt = m_A (m_c X σ a) v1.toInt v2.toInt (m_c X σ a 9).toNat) ∧ (0 ≤ r.toInt ∧ r.toInt ≤ 80) ∧ r = F_X12_laidOf X σ a v1 v2)) ([.ref a, .int v1, .int v2] : List Value).toArray s 0 0 (q_reg X)) (F0 m 45 ls []) := by
            clear hF
            intro k_10
            induction k_10 with
            | zero =>
              intro x_8 x_9 H locs ls hms
              exact absurd hms (Nat.not_lt_zero _)
            | succ k_10 ih45 =>
              intro x_8 x_9 H locs ls hm45 hge45 hs45 hF hI hl
              replace hF := (F_X12_laidOf_L45_4_s).symm.trans hF
              unfold F_X12_laidOf_B45_4 at hF
              have kb := m_K_bd (m_c X σ a) (94 + 7 * x_2.toInt) v2.toInt x_9.toInt.toNat
              have ps2 := m_K_succ (m_c X σ a) (94 + 7 * x_2.toInt) v2.toInt x_9.toInt hge45.1
              refine lv_iload hx hb dX12_laidOf_45 (lv_at hl 6 rfl) ?_
              refine lv_aload_n hx hb dX12_laidOf_47 rfl (lv_at hl 0 rfl) ?_
              refine gs_X12_35_12 E hI ha dX12_laidOf_48 ?_
              refine lv_iload hx hb dX12_laidOf_51 (lv_at hl 5 rfl) ?_
              refine lv_iconst (v := 2) hx hb dX12_laidOf_53 zki_2 ?_
              refine lv_iadd hx hb dX12_laidOf_54 ?_
              refine lv_topi (fun z_11 ez_11 => ?_)
              replace hF := q_letX hF ez_11
              have iz_11 := q_addI (A := (94 + 7 * x_2.toInt)) (B := 2) ez_11 ir_6 (by decide) (by first | (clear hh hm5 hs5 sb sl ps if_4 gc_5_f_4 c_5 ahpσ_7 bhpσ_7 chpσ_7 ir_6 j42 hy hy1 hm45 hge45 hs45 kb ps2; omega) | omega) (by first | (clear hm5 hs5 sb sl ps gc_5_f_4 ahpσ_7 bhpσ_7 chpσ_7 ir_6 j42 hy hy1 hm45 hge45 hs45 kb ps2; omega) | omega)
              refine q_iald E hI (q_tk (k' := 34) hI ha rfl (Nat.succ_ne_zero _)) ⟨by decide, rfl⟩ (by first | (clear hh hm5 hs5 sb sl ps if_4 gc_5_f_4 c_5 ahpσ_7 bhpσ_7 chpσ_7 ir_6 j42 hy hy1 hm45 hge45 hs45 kb ps2; omega) | omega) (by rw [q_lnk (v := 4650) hI (q_tk (k' := 34) hI ha rfl (Nat.succ_ne_zero _)) rfl (by decide)]; omega) dX12_laidOf_55 ?_
              refine lv_topi (fun f_12 ef_12 => ?_)
              replace hF := q_letX hF ef_12
              have if_12 : f_12.toInt = m_c X σ a ((94 + 7 * x_2.toInt) + 2) := m_rd ef_12 iz_11
              have gc_13_x_9 := q_rng x_9
              have gc_13_f_12 := q_rng f_12
              refine q_icmp_ge (A := x_9.toInt) (B := f_12.toInt) E rfl rfl (tgt := 93) dX12_laidOf_56 (by decide) (fun c_13 => ?_) (fun c_13 => ?_)
              · skip
                replace hF := q_ifn hF (Int.not_lt.mpr c_13)
                have q6 : x_9.toInt = m_c X σ a (94 + 7 * x_2.toInt + 2) := (by first | (clear hh hm5 hge5 hs5 sb sl ps if_4 gc_5_x_2 gc_5_f_4 c_5 ahpσ_7 bhpσ_7 chpσ_7 ir_6 j42 hy hy1 hm45 hs45 kb ps2 iz_11 gc_13_x_9 gc_13_f_12; omega) | omega)
                rw [q6] at hs45
                unfold F_X12_laidOf_E93_5 at hF
                obtain ⟨z_14, ez_14⟩ : ∃ y : Int32, y = x_2 + 1 := ⟨_, rfl⟩
                replace hF := q_letX hF ez_14
                refine lv_iinc (v := z_14) (lv' := [(4, .int z_14), (0, .ref a), (1, .int v1), (2, .int v2), (3, .int x_8), (5, .int r_6), (6, .int x_9)]) hx hb dX12_laidOf_93 hl (k := 4) rfl (by rw [ez_14]; rfl) (by decide) rfl (fun ls hl => ?_)
                have iz_14 : z_14.toInt = x_2.toInt + 1 := q_inc ez_14 (by first | (clear hm5 hs5 sb sl ps gc_5_f_4 ahpσ_7 bhpσ_7 chpσ_7 ir_6 j42 hy hy1 hm45 hge45 hs45 kb ps2 iz_11 if_12 gc_13_x_9 gc_13_f_12 c_13; omega) | omega)
                have pz := ps
                rw [← iz_14] at pz
                refine lv_goto (tgt := 5) hx hb dX12_laidOf_96 (by decide) ?_
                exact ih5 x_8 z_14 _ _ ls (by first | (clear hs5 sb sl ps gc_5_f_4 ahpσ_7 bhpσ_7 chpσ_7 ir_6 hy1 hm45 hs45 kb ps2 iz_11 gc_13_x_9 gc_13_f_12 pz; omega) | omega) (by first | (clear hh hm5 hs5 sb sl ps gc_5_f_4 ahpσ_7 bhpσ_7 chpσ_7 ir_6 j42 hy hy1 hm45 hge45 hs45 kb ps2 iz_11 if_12 gc_13_x_9 gc_13_f_12 c_13 pz; omega) | omega) (by first | (clear hh hm5 hge5 hs5 sb sl if_4 gc_5_x_2 gc_5_f_4 c_5 ahpσ_7 bhpσ_7 chpσ_7 ir_6 j42 hy hy1 hm45 hge45 kb ps2 iz_11 if_12 gc_13_x_9 gc_13_f_12 c_13 iz_14; omega) | omega) hF hI (lv_sub hl [1, 2, 3, 4, 0] rfl)
              · skip
                replace hF := q_ifp hF c_13
                refine lv_iload_n hx hb dX12_laidOf_59 rfl (lv_at hl 3 rfl) ?_
                refine lv_iload_n hx hb dX12_laidOf_60 rfl (lv_at hl 2 rfl) ?_
                refine q_if_lt (A := v2.toInt) E rfl (tgt := 80) dX12_laidOf_61 (by decide) (fun c_15 => ?_) (fun c_15 => ?_)
                · skip
                  replace hF := q_ifp hF c_15
                  rw [if_pos (by first | (clear hh hm5 hge5 hs5 sb sl ps if_4 gc_5_x_2 gc_5_f_4 c_5 ahpσ_7 bhpσ_7 chpσ_7 ir_6 j42 hy hy1 hm45 hge45 hs45 kb ps2 iz_11 if_12 gc_13_x_9 gc_13_f_12 c_13; omega) | omega)] at ps2
                  refine lv_iconst (v := 1) hx hb dX12_laidOf_80 zki_1 ?_
                  refine lv_goto (tgt := 85) hx hb dX12_laidOf_81 (by decide) ?_
                  refine lv_iadd hx hb dX12_laidOf_85 ?_
                  refine lv_topi (fun z_16 ez_16 => ?_)
                  replace hF := q_letX hF ez_16
                  have iz_16 := q_addI (A := x_8.toInt) (B := 1) ez_16 rfl (by decide) (by first | (clear hh hm5 hge5 hs5 if_4 gc_5_x_2 gc_5_f_4 c_5 ahpσ_7 bhpσ_7 chpσ_7 ir_6 j42 hy hy1 hm45 hge45 iz_11 if_12 gc_13_x_9 gc_13_f_12 c_13 c_15; omega) | omega) (by first | (clear hh hm5 hge5 hs5 if_4 gc_5_x_2 gc_5_f_4 c_5 ahpσ_7 bhpσ_7 chpσ_7 ir_6 j42 hy1 hm45 hge45 iz_11 gc_13_x_9 gc_13_f_12 c_15; omega) | omega)
                  refine lv_istore_n (lv' := [(3, .int z_16), (0, .ref a), (1, .int v1), (2, .int v2), (4, .int x_2), (5, .int r_6), (6, .int x_9)]) hx hb dX12_laidOf_86 rfl hl (by decide) rfl (fun ls hl => ?_)
                  obtain ⟨z_17, ez_17⟩ : ∃ y : Int32, y = x_9 + 1 := ⟨_, rfl⟩
                  replace hF := q_letX hF ez_17
                  refine lv_iinc (v := z_17) (lv' := [(6, .int z_17), (3, .int z_16), (0, .ref a), (1, .int v1), (2, .int v2), (4, .int x_2), (5, .int r_6)]) hx hb dX12_laidOf_87 hl (k := 6) rfl (by rw [ez_17]; rfl) (by decide) rfl (fun ls hl => ?_)
                  have iz_17 : z_17.toInt = x_9.toInt + 1 := q_inc ez_17 (by first | (clear hh hm5 hge5 hs5 sb sl ps if_4 gc_5_x_2 gc_5_f_4 c_5 ahpσ_7 bhpσ_7 chpσ_7 ir_6 j42 hy1 hm45 hs45 kb ps2 iz_11 gc_13_f_12 c_15 iz_16; omega) | omega)
                  have pz2 := ps2
                  rw [← iz_17] at pz2
                  refine lv_goto (tgt := 45) hx hb dX12_laidOf_90 (by decide) ?_
                  exact ih45 z_16 z_17 _ _ ls (by first | (clear hh hm5 hge5 hs5 sb sl ps if_4 gc_5_x_2 gc_5_f_4 c_5 ahpσ_7 bhpσ_7 chpσ_7 ir_6 j42 hy1 hs45 kb ps2 iz_11 gc_13_f_12 c_15 iz_16 pz2; omega) | omega) (by first | (clear hh hm5 hge5 hs5 sb sl ps if_4 gc_5_x_2 gc_5_f_4 c_5 ahpσ_7 bhpσ_7 chpσ_7 ir_6 j42 hy hy1 hm45 hs45 kb ps2 iz_11 gc_13_f_12 c_15 iz_16 pz2; omega) | omega) (by first | (clear hh hm5 hge5 hs5 sb sl if_4 gc_5_x_2 gc_5_f_4 c_5 ahpσ_7 bhpσ_7 chpσ_7 ir_6 j42 hy hy1 hm45 hge45 kb iz_11 if_12 gc_13_x_9 gc_13_f_12 c_13 c_15 iz_17; omega) | omega) hF hI (lv_sub hl [2, 3, 4, 1, 5, 6, 0] rfl)
                · skip
                  replace hF := q_ifn hF (Int.not_lt.mpr c_15)
                  refine lv_aload_n hx hb dX12_laidOf_64 rfl (lv_at hl 0 rfl) ?_
                  refine gs_X12_35_12 E hI ha dX12_laidOf_65 ?_
                  refine lv_iload hx hb dX12_laidOf_68 (lv_at hl 5 rfl) ?_
                  refine lv_iconst (v := 3) hx hb dX12_laidOf_70 zki_3 ?_
                  refine lv_iadd hx hb dX12_laidOf_71 ?_
                  refine lv_topi (fun z_18 ez_18 => ?_)
                  replace hF := q_letX hF ez_18
                  have iz_18 := q_addI (A := (94 + 7 * x_2.toInt)) (B := 3) ez_18 ir_6 (by decide) (by first | (clear hh hm5 hs5 sb sl ps if_4 gc_5_f_4 c_5 ahpσ_7 bhpσ_7 chpσ_7 ir_6 j42 hy hy1 hm45 hge45 hs45 kb ps2 iz_11 if_12 gc_13_x_9 gc_13_f_12 c_13 c_15; omega) | omega) (by first | (clear hm5 hs5 sb sl ps gc_5_f_4 ahpσ_7 bhpσ_7 chpσ_7 ir_6 j42 hy hy1 hm45 hge45 hs45 kb ps2 iz_11 if_12 gc_13_x_9 gc_13_f_12 c_13 c_15; omega) | omega)
                  refine lv_iload hx hb dX12_laidOf_72 (lv_at hl 6 rfl) ?_
                  refine lv_iadd hx hb dX12_laidOf_74 ?_
                  refine lv_topi (fun z_19 ez_19 => ?_)
                  replace hF := q_letX hF ez_19
                  have iz_19 := q_addI (A := ((94 + 7 * x_2.toInt) + 3)) (B := x_9.toInt) ez_19 iz_18 rfl (by first | (clear hh hm5 hs5 sb sl ps if_4 gc_5_f_4 c_5 ahpσ_7 bhpσ_7 chpσ_7 ir_6 j42 hy hy1 hm45 hs45 kb ps2 iz_11 if_12 gc_13_f_12 c_13 c_15 iz_18; omega) | omega) (by first | (clear hm5 hge5 hs5 sb sl ps gc_5_x_2 gc_5_f_4 ahpσ_7 bhpσ_7 chpσ_7 ir_6 j42 hy1 hm45 hs45 kb ps2 iz_11 gc_13_f_12 c_15 iz_18; omega) | omega)
                  refine q_iald E hI (q_tk (k' := 34) hI ha rfl (Nat.succ_ne_zero _)) ⟨by decide, rfl⟩ (by first | (clear hh hm5 hs5 sb sl ps if_4 gc_5_f_4 c_5 ahpσ_7 bhpσ_7 chpσ_7 ir_6 j42 hy1 hm45 hs45 kb ps2 iz_11 gc_13_f_12 c_15 iz_18; omega) | omega) (by rw [q_lnk (v := 4650) hI (q_tk (k' := 34) hI ha rfl (Nat.succ_ne_zero _)) rfl (by decide)]; omega) dX12_laidOf_75 ?_
                  refine lv_topi (fun f_20 ef_20 => ?_)
                  replace hF := q_letX hF ef_20
                  have if_20 : f_20.toInt = m_c X σ a (((94 + 7 * x_2.toInt) + 3) + x_9.toInt) := m_rd ef_20 iz_19
                  refine lv_iload_n hx hb dX12_laidOf_76 rfl (lv_at hl 2 rfl) ?_
                  have gc_21_f_20 := q_rng f_20
                  have gc_21_v2 := q_rng v2
                  refine q_icmp_ne (A := f_20.toInt) (B := v2.toInt) E rfl rfl (tgt := 84) dX12_laidOf_77 (by decide) (fun c_21 => ?_) (fun c_21 => ?_)
                  · skip
                    replace hF := q_ifn hF c_21
                    rw [if_neg (by first | (clear hh hm5 hge5 hs5 sb sl ps if_4 gc_5_x_2 gc_5_f_4 c_5 ahpσ_7 bhpσ_7 chpσ_7 ir_6 j42 hy hy1 hm45 hge45 hs45 kb ps2 iz_11 if_12 gc_13_x_9 gc_13_f_12 c_13 iz_18 iz_19 gc_21_f_20; omega) | omega)] at ps2
                    refine lv_iconst (v := 0) hx hb dX12_laidOf_84 zki_0 ?_
                    refine lv_iadd hx hb dX12_laidOf_85 ?_
                    refine lv_topi (fun z_22 ez_22 => ?_)
                    replace hF := q_letX hF ez_22
                    have iz_22 := q_addI (A := x_8.toInt) (B := 0) ez_22 rfl (by decide) (by first | (clear hh hm5 hge5 hs5 if_4 gc_5_x_2 gc_5_f_4 c_5 ahpσ_7 bhpσ_7 chpσ_7 ir_6 j42 hy hy1 hm45 hge45 iz_11 if_12 gc_13_x_9 gc_13_f_12 c_13 c_15 iz_18 iz_19 if_20 gc_21_f_20 gc_21_v2 c_21; omega) | omega) (by first | (clear hh hm5 hge5 hs5 if_4 gc_5_x_2 gc_5_f_4 c_5 ahpσ_7 bhpσ_7 chpσ_7 ir_6 j42 hy1 hm45 iz_11 gc_13_f_12 c_15 iz_18 if_20 gc_21_f_20 gc_21_v2; omega) | omega)
                    refine lv_istore_n (lv' := [(3, .int z_22), (0, .ref a), (1, .int v1), (2, .int v2), (4, .int x_2), (5, .int r_6), (6, .int x_9)]) hx hb dX12_laidOf_86 rfl hl (by decide) rfl (fun ls hl => ?_)
                    obtain ⟨z_23, ez_23⟩ : ∃ y : Int32, y = x_9 + 1 := ⟨_, rfl⟩
                    replace hF := q_letX hF ez_23
                    refine lv_iinc (v := z_23) (lv' := [(6, .int z_23), (3, .int z_22), (0, .ref a), (1, .int v1), (2, .int v2), (4, .int x_2), (5, .int r_6)]) hx hb dX12_laidOf_87 hl (k := 6) rfl (by rw [ez_23]; rfl) (by decide) rfl (fun ls hl => ?_)
                    have iz_23 : z_23.toInt = x_9.toInt + 1 := q_inc ez_23 (by first | (clear hh hm5 hge5 hs5 sb sl ps if_4 gc_5_x_2 gc_5_f_4 c_5 ahpσ_7 bhpσ_7 chpσ_7 ir_6 j42 hy1 hm45 hs45 kb ps2 iz_11 gc_13_f_12 c_15 iz_18 if_20 gc_21_f_20 gc_21_v2 c_21 iz_22; omega) | omega)
                    have pz2 := ps2
                    rw [← iz_23] at pz2
                    refine lv_goto (tgt := 45) hx hb dX12_laidOf_90 (by decide) ?_
                    exact ih45 z_22 z_23 _ _ ls (by first | (clear hh hm5 hge5 hs5 sb sl ps if_4 gc_5_x_2 gc_5_f_4 c_5 ahpσ_7 bhpσ_7 chpσ_7 ir_6 j42 hy1 hs45 kb ps2 iz_11 gc_13_f_12 c_15 iz_18 if_20 gc_21_f_20 gc_21_v2 iz_22 pz2; omega) | omega) (by first | (clear hh hm5 hge5 hs5 sb sl ps if_4 gc_5_x_2 gc_5_f_4 c_5 ahpσ_7 bhpσ_7 chpσ_7 ir_6 j42 hy hy1 hm45 hs45 kb ps2 iz_11 gc_13_f_12 c_15 iz_18 if_20 gc_21_f_20 gc_21_v2 c_21 iz_22 pz2; omega) | omega) (by first | (clear hh hm5 hge5 hs5 sb sl if_4 gc_5_x_2 gc_5_f_4 c_5 ahpσ_7 bhpσ_7 chpσ_7 ir_6 j42 hy hy1 hm45 hge45 kb iz_11 if_12 gc_13_x_9 gc_13_f_12 c_13 c_15 iz_18 iz_19 if_20 gc_21_f_20 gc_21_v2 c_21 iz_23; omega) | omega) hF hI (lv_sub hl [2, 3, 4, 1, 5, 6, 0] rfl)
                  · skip
                    replace hF := q_ifp hF c_21
                    rw [if_pos (by first | (clear hh hm5 hge5 hs5 sb sl ps if_4 gc_5_x_2 gc_5_f_4 c_5 ahpσ_7 bhpσ_7 chpσ_7 ir_6 j42 hy hy1 hm45 hge45 hs45 kb ps2 iz_11 if_12 gc_13_x_9 gc_13_f_12 c_13 c_15 iz_18 iz_19 gc_21_f_20 gc_21_v2; omega) | omega)] at ps2
                    refine lv_iconst (v := 1) hx hb dX12_laidOf_80 zki_1 ?_
                    refine lv_goto (tgt := 85) hx hb dX12_laidOf_81 (by decide) ?_
                    refine lv_iadd hx hb dX12_laidOf_85 ?_
                    refine lv_topi (fun z_24 ez_24 => ?_)
                    replace hF := q_letX hF ez_24
                    have iz_24 := q_addI (A := x_8.toInt) (B := 1) ez_24 rfl (by decide) (by first | (clear hh hm5 hge5 hs5 if_4 gc_5_x_2 gc_5_f_4 c_5 ahpσ_7 bhpσ_7 chpσ_7 ir_6 j42 hy hy1 hm45 hge45 iz_11 if_12 gc_13_x_9 gc_13_f_12 c_13 c_15 iz_18 iz_19 if_20 gc_21_f_20 gc_21_v2 c_21; omega) | omega) (by first | (clear hh hm5 hge5 hs5 if_4 gc_5_x_2 gc_5_f_4 c_5 ahpσ_7 bhpσ_7 chpσ_7 ir_6 j42 hy1 hm45 iz_11 gc_13_f_12 c_15 iz_18 if_20 gc_21_f_20 gc_21_v2 c_21; omega) | omega)
                    refine lv_istore_n (lv' := [(3, .int z_24), (0, .ref a), (1, .int v1), (2, .int v2), (4, .int x_2), (5, .int r_6), (6, .int x_9)]) hx hb dX12_laidOf_86 rfl hl (by decide) rfl (fun ls hl => ?_)
                    obtain ⟨z_25, ez_25⟩ : ∃ y : Int32, y = x_9 + 1 := ⟨_, rfl⟩
                    replace hF := q_letX hF ez_25
                    refine lv_iinc (v := z_25) (lv' := [(6, .int z_25), (3, .int z_24), (0, .ref a), (1, .int v1), (2, .int v2), (4, .int x_2), (5, .int r_6)]) hx hb dX12_laidOf_87 hl (k := 6) rfl (by rw [ez_25]; rfl) (by decide) rfl (fun ls hl => ?_)
                    have iz_25 : z_25.toInt = x_9.toInt + 1 := q_inc ez_25 (by first | (clear hh hm5 hge5 hs5 sb sl ps if_4 gc_5_x_2 gc_5_f_4 c_5 ahpσ_7 bhpσ_7 chpσ_7 ir_6 j42 hy1 hm45 hs45 kb ps2 iz_11 gc_13_f_12 c_15 iz_18 if_20 gc_21_f_20 gc_21_v2 c_21 iz_24; omega) | omega)
                    have pz2 := ps2
                    rw [← iz_25] at pz2
                    refine lv_goto (tgt := 45) hx hb dX12_laidOf_90 (by decide) ?_
                    exact ih45 z_24 z_25 _ _ ls (by first | (clear hh hm5 hge5 hs5 sb sl ps if_4 gc_5_x_2 gc_5_f_4 c_5 ahpσ_7 bhpσ_7 chpσ_7 ir_6 j42 hy1 hs45 kb ps2 iz_11 gc_13_f_12 c_15 iz_18 if_20 gc_21_f_20 gc_21_v2 c_21 iz_24 pz2; omega) | omega) (by first | (clear hh hm5 hge5 hs5 sb sl ps if_4 gc_5_x_2 gc_5_f_4 c_5 ahpσ_7 bhpσ_7 chpσ_7 ir_6 j42 hy hy1 hm45 hs45 kb ps2 iz_11 gc_13_f_12 c_15 iz_18 if_20 gc_21_f_20 gc_21_v2 c_21 iz_24 pz2; omega) | omega) (by first | (clear hh hm5 hge5 hs5 sb sl if_4 gc_5_x_2 gc_5_f_4 c_5 ahpσ_7 bhpσ_7 chpσ_7 ir_6 j42 hy hy1 hm45 hge45 kb iz_11 if_12 gc_13_x_9 gc_13_f_12 c_13 c_15 iz_18 iz_19 if_20 gc_21_f_20 gc_21_v2 c_21 iz_25; omega) | omega) hF hI (lv_sub hl [2, 3, 4, 1, 5, 6, 0] rfl)
          have kc_26 : (0 : Int32).toInt = 0 := zt_0
          exact L_45_10 ((2147483647 - (0 : Int32).toInt).toNat + 1) x_1 0 _ _ ls (Nat.lt_succ_self _) (by have q : (0 : Int32).toInt = 0 := rfl; omega) (by rw [hs5]; exact (Int.add_zero _).symm) hF hI (lv_sub hl [1, 2, 3, 4, 5, 6, 0] rfl)
        refine q_if_lt (A := v1.toInt) E rfl (tgt := 42) dX12_laidOf_25 (by decide) (fun c_27 => ?_) (fun c_27 => ?_)
        · skip
          replace hF := q_ifp hF c_27
          exact J_42_7 _ _ ls (by first | (clear hh hm5 hge5 hs5 sb sl ps if_4 gc_5_x_2 gc_5_f_4 c_5 ahpσ_7 bhpσ_7 chpσ_7 ir_6; omega) | omega) hF hI (lv_sub hl [1, 2, 3, 4, 5, 0] rfl)
        · skip
          replace hF := q_ifn hF (Int.not_lt.mpr c_27)
          refine lv_aload_n hx hb dX12_laidOf_28 rfl (lv_at hl 1 rfl) ?_
          refine gs_X12_35_12 E hI ha dX12_laidOf_29 ?_
          refine lv_iload hx hb dX12_laidOf_32 (lv_at hl 0 rfl) ?_
          refine q_iald E hI (q_tk (k' := 34) hI ha rfl (Nat.succ_ne_zero _)) ⟨by decide, rfl⟩ (by first | (clear hh hm5 hs5 sb sl ps if_4 gc_5_f_4 c_5 ahpσ_7 chpσ_7 ir_6 c_27; omega) | omega) (by rw [q_lnk (v := 4650) hI (q_tk (k' := 34) hI ha rfl (Nat.succ_ne_zero _)) rfl (by decide)]; omega) dX12_laidOf_34 ?_
          refine lv_topi (fun f_28 ef_28 => ?_)
          replace hF := q_letX hF ef_28
          have if_28 : f_28.toInt = m_c X σ a (94 + 7 * x_2.toInt) := m_rd ef_28 ir_6
          refine lv_iload_n hx hb dX12_laidOf_35 rfl (lv_at hl 2 rfl) ?_
          have gc_29_f_28 := q_rng f_28
          have gc_29_v1 := q_rng v1
          refine q_icmp_eq (A := f_28.toInt) (B := v1.toInt) E rfl rfl (tgt := 42) dX12_laidOf_36 (by decide) (fun c_29 => ?_) (fun c_29 => ?_)
          · skip
            replace hF := q_ifp hF c_29
            exact J_42_7 _ _ ls (by first | (clear hh hm5 hge5 hs5 sb sl ps if_4 gc_5_x_2 gc_5_f_4 c_5 ahpσ_7 bhpσ_7 chpσ_7 ir_6 c_27 gc_29_f_28 gc_29_v1; omega) | omega) hF hI (lv_sub hl [1, 2, 3, 4, 5, 0] rfl)
          · skip
            replace hF := q_ifn hF c_29
            rw [if_pos (by first | (clear hh hm5 hge5 hs5 sb sl ps if_4 gc_5_x_2 gc_5_f_4 c_5 ahpσ_7 bhpσ_7 chpσ_7 ir_6 gc_29_f_28; omega) | omega)] at ps
            refine lv_goto (tgt := 93) hx hb dX12_laidOf_39 (by decide) ?_
            obtain ⟨z_30, ez_30⟩ : ∃ y : Int32, y = x_2 + 1 := ⟨_, rfl⟩
            replace hF := q_letX hF ez_30
            refine lv_iinc (v := z_30) (lv' := [(4, .int z_30), (5, .int r_6), (0, .ref a), (1, .int v1), (2, .int v2), (3, .int x_1)]) hx hb dX12_laidOf_93 hl (k := 5) rfl (by rw [ez_30]; rfl) (by decide) rfl (fun ls hl => ?_)
            have iz_30 : z_30.toInt = x_2.toInt + 1 := q_inc ez_30 (by first | (clear hm5 hs5 sb sl ps gc_5_f_4 ahpσ_7 bhpσ_7 chpσ_7 ir_6 c_27 if_28 gc_29_f_28 gc_29_v1 c_29; omega) | omega)
            have pz := ps
            rw [← iz_30] at pz
            refine lv_goto (tgt := 5) hx hb dX12_laidOf_96 (by decide) ?_
            exact ih5 x_1 z_30 _ _ ls (by first | (clear hs5 sb sl ps gc_5_f_4 ahpσ_7 bhpσ_7 chpσ_7 ir_6 c_27 if_28 gc_29_f_28 gc_29_v1 pz; omega) | omega) (by first | (clear hh hm5 hs5 sb sl ps gc_5_f_4 ahpσ_7 bhpσ_7 chpσ_7 ir_6 c_27 if_28 gc_29_f_28 gc_29_v1 c_29 pz; omega) | omega) (by first | (clear hh hm5 hge5 sb sl if_4 gc_5_x_2 gc_5_f_4 c_5 ahpσ_7 bhpσ_7 chpσ_7 ir_6 c_27 if_28 gc_29_f_28 gc_29_v1 c_29 iz_30; omega) | omega) hF hI (lv_sub hl [2, 3, 4, 5, 0] rfl)
  have kc_31 : (0 : Int32).toInt = 0 := zt_0
  exact L_5_3 ((2147483647 - (0 : Int32).toInt).toNat + 1) 0 0 _ _ ls (Nat.lt_succ_self _) (by have q : (0 : Int32).toInt = 0 := rfl; omega) rfl hF hI (lv_sub hl [2, 3, 4, 1, 0] rfl)

set_option maxRecDepth 100000 in
set_option maxHeartbeats 4000000 in
theorem c_X12_inGameOf (l : Launch) (X : XW) (σ : ST) (a : Nat) (v1 : Int32) (ha : q_kd X a = 12) (hG : m_G (m_c X σ a)) (h0 : 0 ≤ v1.toInt ∧ v1.toInt ≤ 9) : Met l yX12_inGameOf (q_ws yX12_inGameOf cX12_inGameOf 4 (some .int)) (q_rm 2 46) (q_P X σ [.ref a, .int v1]) (q_Qi X 9 σ (fun (r : Int32) (σ' : ST) => σ' = σ ∧ (r.toInt = m_I (m_c X σ a) v1.toInt) ∧ (0 ≤ r.toInt ∧ r.toInt ≤ 80) ∧ r = F_X12_inGameOf X σ a v1)) 0 0 (q_reg X) := by
  refine q_met 9 (by first | exact rfl | decide +kernel) rfl (Nat.le_of_ble_eq_true rfl) (fun p e s m below meth c E hml hr hlk hI ls hl => ?_)
  have hx := E.1
  have hb := E.2.1
  have hl : lv_has ls 4 [(0, .ref a), (1, .int v1)] := hl
  have hh := hG.hd
  obtain ⟨out, hout⟩ : ∃ o, o = F_X12_inGameOf X σ a v1 := ⟨_, rfl⟩
  have hF := hout.symm
  unfold F_X12_inGameOf at hF
  refine lv_aload_n hx hb dX12_inGameOf_0 rfl (lv_at hl 0 rfl) ?_
  refine lv_iconst (v := (-1)) hx hb dX12_inGameOf_1 zki_m1 ?_
  refine lv_iload_n hx hb dX12_inGameOf_2 rfl (lv_at hl 1 rfl) ?_
  have kc_1 : ((-1) : Int32).toInt = (-1) := zt_m1
  refine q_ci (q_rV11_2 (rest := []) E (hml.trans hl.1.symm) hI (c_X12_laidOf l X σ a ((-1) : Int32) v1 ha hG) kv_X12_296 ha ⟨Nat.le_of_ble_eq_true rfl, Nat.le_of_ble_eq_true rfl⟩ (Nat.le_of_ble_eq_true rfl) dX12_inGameOf_3) hI (Nat.le_of_ble_eq_true rfl) (fun r_2 σ_3 H locs hpσ_3 hkσ_3 hI => ?_)
  have ahpσ_3 := hpσ_3.1
  have bhpσ_3 := hpσ_3.2.1
  have chpσ_3 := hpσ_3.2.2.1
  have dhpσ_3 := hpσ_3.2.2.2
  clear hpσ_3
  replace hI := q_Irw ahpσ_3 hI
  replace hF := q_letX hF dhpσ_3
  have ir_2 : r_2.toInt = (m_A (m_c X σ a) (-1) v1.toInt (m_c X σ a 9).toNat) := (by first | exact bhpσ_3 | (rw [bhpσ_3]) | (simp only [bhpσ_3]))
  refine lv_istore_n (lv' := [(2, .int r_2), (0, .ref a), (1, .int v1)]) hx hb dX12_inGameOf_6 rfl hl (by decide) rfl (fun ls hl => ?_)
  refine lv_iconst (v := 0) hx hb dX12_inGameOf_7 zki_0 ?_
  refine lv_istore_n (lv' := [(3, .int 0), (2, .int r_2), (0, .ref a), (1, .int v1)]) hx hb dX12_inGameOf_8 rfl hl (by decide) rfl (fun ls hl => ?_)
  have L_9_6 : ∀ (k_6 : Nat) (x_4 : Int32) (x_5 : Int32) (H : Heap) (locs : List Loc) (ls : Array Slot), (2147483647 - x_5.toInt).toNat < k_6 → (0 ≤ x_5.toInt ∧ x_5.toInt ≤ m_c X σ a 2) → (x_4.toInt = m_A (m_c X σ a) (-1) v1.toInt (m_c X σ a 9).toNat + m_P (m_c X σ a) v1.toInt x_5.toInt.toNat) → (F_X12_inGameOf_L9_1 X σ a v1 k_6 x_4 x_5 = out) → q_I X 9 σ s.heap locs σ H → lv_has ls 4 [(0, .ref a), (1, .int v1), (2, .int x_4), (3, .int x_5)] → W p l e (q_rm 2 46) s m ([.ref a, .int v1] : List Value).toArray below meth c H locs 0 0 (MQ below (q_Qi X 9 σ (fun (r : Int32) (σ' : ST) => σ' = σ ∧ (r.toInt = m_I (m_c X σ a) v1.toInt) ∧ (0 ≤ r.toInt ∧ r.toInt ≤ 80) ∧ r = F_X12_inGameOf X σ a v1)) ([.ref a, .int v1] : List Value).toArray s 0 0 (q_reg X)) (F0 m 9 ls []) := by
    clear hF
    intro k_6
    induction k_6 with
    | zero =>
      intro x_4 x_5 H locs ls hms
      exact absurd hms (Nat.not_lt_zero _)
    | succ k_6 ih9 =>
      intro x_4 x_5 H locs ls hm9 hge9 hs9 hF hI hl
      replace hF := (F_X12_inGameOf_L9_1_s).symm.trans hF
      unfold F_X12_inGameOf_B9_1 at hF
      have sa := hG.A_bd (-1) v1.toInt (m_c X σ a 9).toNat (by first | (clear h0 kc_1 ahpσ_3 bhpσ_3 chpσ_3 dhpσ_3 ir_2 hm9 hge9 hs9; omega) | omega)
      have sb := hG.Pbd (k := v1.toInt) (by first | (clear h0 hh kc_1 ahpσ_3 bhpσ_3 chpσ_3 dhpσ_3 ir_2 hm9 hge9 hs9 sa; omega) | omega) (by first | (clear h0 hh kc_1 ahpσ_3 bhpσ_3 chpσ_3 dhpσ_3 ir_2 hm9 hge9 hs9 sa; omega) | omega) x_5.toInt.toNat (by first | (clear h0 kc_1 ahpσ_3 bhpσ_3 chpσ_3 dhpσ_3 ir_2 hm9 hs9 sa; omega) | omega)
      have sc := hG.Sall (10 * x_5.toInt.toNat) (by first | (clear h0 kc_1 ahpσ_3 bhpσ_3 chpσ_3 dhpσ_3 ir_2 hm9 hs9 sa sb; omega) | omega)
      have sd := hG.tot
      have ps := m_P_succ (m_c X σ a) v1.toInt x_5.toInt hge9.1
      refine lv_iload_n hx hb dX12_inGameOf_9 rfl (lv_at hl 3 rfl) ?_
      refine lv_aload_n hx hb dX12_inGameOf_10 rfl (lv_at hl 0 rfl) ?_
      refine gs_X12_35_12 E hI ha dX12_inGameOf_11 ?_
      refine lv_iconst (v := 2) hx hb dX12_inGameOf_14 zki_2 ?_
      refine q_iald E hI (q_tk (k' := 34) hI ha rfl (Nat.succ_ne_zero _)) ⟨by decide, rfl⟩ (by decide) (by rw [q_lnk (v := 4650) hI (q_tk (k' := 34) hI ha rfl (Nat.succ_ne_zero _)) rfl (by decide)]; decide) dX12_inGameOf_15 ?_
      refine lv_topi (fun f_7 ef_7 => ?_)
      replace hF := q_letX hF ef_7
      have if_7 : f_7.toInt = m_c X σ a 2 := m_rd ef_7 (by decide)
      have gc_8_x_5 := q_rng x_5
      have gc_8_f_7 := q_rng f_7
      refine q_icmp_ge (A := x_5.toInt) (B := f_7.toInt) E rfl rfl (tgt := 34) dX12_inGameOf_16 (by decide) (fun c_8 => ?_) (fun c_8 => ?_)
      · skip
        replace hF := q_ifn hF (Int.not_lt.mpr c_8)
        skip
        refine lv_iload_n hx hb dX12_inGameOf_34 rfl (lv_at hl 2 rfl) ?_
        exact q_reti E hr hlk hI ⟨rfl, (by have q : x_5.toInt = m_c X σ a 2 := (by first | (clear h0 hh kc_1 ahpσ_3 bhpσ_3 chpσ_3 dhpσ_3 ir_2 hm9 hs9 sa sb sc sd ps gc_8_x_5 gc_8_f_7; omega) | omega); rw [q] at hs9; exact hs9), (by have q : x_5.toInt = m_c X σ a 2 := (by first | (clear h0 hh kc_1 ahpσ_3 bhpσ_3 chpσ_3 dhpσ_3 ir_2 hm9 hs9 sa sb sc sd ps gc_8_x_5 gc_8_f_7; omega) | omega); rw [q] at hs9; have w := hG.I_bd (k := v1.toInt) (by first | (clear h0 hh kc_1 ahpσ_3 bhpσ_3 chpσ_3 dhpσ_3 ir_2 hm9 hge9 hs9 sa sb sc sd ps if_7 gc_8_x_5 gc_8_f_7 c_8; omega) | omega) (by first | (clear h0 hh kc_1 ahpσ_3 bhpσ_3 chpσ_3 dhpσ_3 ir_2 hm9 hge9 hs9 sa sb sc sd ps if_7 gc_8_x_5 gc_8_f_7 c_8; omega) | omega); unfold m_I at w; omega), (hF.trans hout)⟩ dX12_inGameOf_35
      · skip
        replace hF := q_ifp hF c_8
        refine lv_iload_n hx hb dX12_inGameOf_19 rfl (lv_at hl 2 rfl) ?_
        refine lv_aload_n hx hb dX12_inGameOf_20 rfl (lv_at hl 0 rfl) ?_
        refine lv_iload_n hx hb dX12_inGameOf_21 rfl (lv_at hl 3 rfl) ?_
        refine lv_iload_n hx hb dX12_inGameOf_22 rfl (lv_at hl 1 rfl) ?_
        refine q_ci (q_rV11_2 (rest := [.int x_4]) E (hml.trans hl.1.symm) hI (c_X12_handOf l X σ a x_5 v1 ha (by first | (clear h0 kc_1 ahpσ_3 bhpσ_3 chpσ_3 dhpσ_3 ir_2 hm9 hs9 sa sb sc sd ps gc_8_f_7; omega) | omega) (by omega)) kv_X12_276 ha ⟨Nat.le_of_ble_eq_true rfl, Nat.le_of_ble_eq_true rfl⟩ (Nat.le_of_ble_eq_true rfl) dX12_inGameOf_23) hI (Nat.le_of_ble_eq_true rfl) (fun r_9 σ_10 H locs hpσ_10 hkσ_10 hI => ?_)
        have ahpσ_10 := hpσ_10.1
        have bhpσ_10 := hpσ_10.2.1
        have chpσ_10 := hpσ_10.2.2
        clear hpσ_10
        replace hI := q_Irw ahpσ_10 hI
        replace hF := q_letX hF chpσ_10
        have ir_9 : r_9.toInt = (m_c X σ a (34 + 10 * x_5.toInt + v1.toInt)) := (by first | exact bhpσ_10 | (rw [bhpσ_10]) | (simp only [bhpσ_10]))
        have hbr_9 := hG.h80 (p := x_5.toInt) (k := v1.toInt) (by first | (clear h0 hh kc_1 ahpσ_3 bhpσ_3 chpσ_3 dhpσ_3 ir_2 hm9 hs9 sa sb sc sd ps if_7 gc_8_f_7 c_8 ahpσ_10 bhpσ_10 chpσ_10 ir_9; omega) | omega) (by first | (clear h0 kc_1 ahpσ_3 bhpσ_3 chpσ_3 dhpσ_3 ir_2 hm9 hs9 sa sb sc sd ps gc_8_f_7 ahpσ_10 bhpσ_10 chpσ_10 ir_9; omega) | omega) (by first | (clear h0 hh kc_1 ahpσ_3 bhpσ_3 chpσ_3 dhpσ_3 ir_2 hm9 hge9 hs9 sa sb sc sd ps if_7 gc_8_x_5 gc_8_f_7 c_8 ahpσ_10 bhpσ_10 chpσ_10 ir_9; omega) | omega) (by first | (clear h0 hh kc_1 ahpσ_3 bhpσ_3 chpσ_3 dhpσ_3 ir_2 hm9 hge9 hs9 sa sb sc sd ps if_7 gc_8_x_5 gc_8_f_7 c_8 ahpσ_10 bhpσ_10 chpσ_10 ir_9; omega) | omega)
        refine lv_iadd hx hb dX12_inGameOf_26 ?_
        refine lv_topi (fun z_11 ez_11 => ?_)
        replace hF := q_letX hF ez_11
        have iz_11 := q_addI (A := x_4.toInt) (B := (m_c X σ a (34 + 10 * x_5.toInt + v1.toInt))) ez_11 rfl ir_9 (by first | (clear h0 hh kc_1 ahpσ_3 dhpσ_3 hm9 hge9 if_7 gc_8_x_5 gc_8_f_7 c_8 ahpσ_10 chpσ_10 ir_9; omega) | omega) (by first | (clear h0 hh kc_1 ahpσ_3 dhpσ_3 hm9 hge9 if_7 gc_8_x_5 gc_8_f_7 c_8 ahpσ_10 chpσ_10 ir_9; omega) | omega)
        refine lv_istore_n (lv' := [(2, .int z_11), (0, .ref a), (1, .int v1), (3, .int x_5)]) hx hb dX12_inGameOf_27 rfl hl (by decide) rfl (fun ls hl => ?_)
        obtain ⟨z_12, ez_12⟩ : ∃ y : Int32, y = x_5 + 1 := ⟨_, rfl⟩
        replace hF := q_letX hF ez_12
        refine lv_iinc (v := z_12) (lv' := [(3, .int z_12), (2, .int z_11), (0, .ref a), (1, .int v1)]) hx hb dX12_inGameOf_28 hl (k := 3) rfl (by rw [ez_12]; rfl) (by decide) rfl (fun ls hl => ?_)
        have iz_12 : z_12.toInt = x_5.toInt + 1 := q_inc ez_12 (by first | (clear h0 kc_1 ahpσ_3 bhpσ_3 chpσ_3 dhpσ_3 ir_2 hm9 hs9 sa sb sc sd ps gc_8_f_7 ahpσ_10 bhpσ_10 chpσ_10 ir_9 hbr_9 iz_11; omega) | omega)
        have pz := ps
        rw [← iz_12] at pz
        refine lv_goto (tgt := 9) hx hb dX12_inGameOf_31 (by decide) ?_
        exact ih9 z_11 z_12 _ _ ls (by first | (clear h0 kc_1 ahpσ_3 bhpσ_3 chpσ_3 dhpσ_3 ir_2 hs9 sa sb sc sd ps gc_8_f_7 ahpσ_10 bhpσ_10 chpσ_10 ir_9 hbr_9 iz_11 pz; omega) | omega) (by first | (clear h0 hh kc_1 ahpσ_3 bhpσ_3 chpσ_3 dhpσ_3 ir_2 hm9 hs9 sa sb sc sd ps gc_8_f_7 ahpσ_10 bhpσ_10 chpσ_10 ir_9 hbr_9 iz_11 pz; omega) | omega) (by first | (clear h0 hh kc_1 ahpσ_3 bhpσ_3 chpσ_3 dhpσ_3 ir_2 hm9 hge9 sa sb sc sd if_7 gc_8_x_5 gc_8_f_7 c_8 ahpσ_10 chpσ_10 ir_9 hbr_9 iz_12; omega) | omega) hF hI (lv_sub hl [2, 3, 1, 0] rfl)
  have kc_13 : (0 : Int32).toInt = 0 := zt_0
  exact L_9_6 ((2147483647 - (0 : Int32).toInt).toNat + 1) r_2 0 _ _ ls (Nat.lt_succ_self _) (by have q : (0 : Int32).toInt = 0 := rfl; omega) (by have q : m_P (m_c X σ a) v1.toInt (0 : Int32).toInt.toNat = 0 := rfl; omega) hF hI (lv_sub hl [2, 3, 1, 0] rfl)

set_option maxRecDepth 100000 in
set_option maxHeartbeats 4000000 in
theorem c_X12_sortOf (l : Launch) (X : XW) (σ : ST) (a : Nat) (v1 : Int32) (ha : q_kd X a = 12) (hG : m_G (m_c X σ a)) (h0 : 0 ≤ v1.toInt ∧ v1.toInt < m_c X σ a 9) : Met l yX12_sortOf (q_ws yX12_sortOf cX12_sortOf 5 (some .int)) (q_rm 1 20) (q_P X σ [.ref a, .int v1]) (q_Qi X 9 σ (fun (r : Int32) (σ' : ST) => σ' = σ ∧ (0 ≤ r.toInt ∧ r.toInt ≤ 2) ∧ r = F_X12_sortOf X σ a v1)) 0 0 (q_reg X) := by
  refine q_met 9 (by first | exact rfl | decide +kernel) rfl (Nat.le_of_ble_eq_true rfl) (fun p e s m below meth c E hml hr hlk hI ls hl => ?_)
  have hx := E.1
  have hb := E.2.1
  have hl : lv_has ls 5 [(0, .ref a), (1, .int v1)] := hl
  have hh := hG.hd
  obtain ⟨out, hout⟩ : ∃ o, o = F_X12_sortOf X σ a v1 := ⟨_, rfl⟩
  have hF := hout.symm
  unfold F_X12_sortOf at hF
  refine lv_iload_n hx hb dX12_sortOf_0 rfl (lv_at hl 1 rfl) ?_
  refine q_ci (q_runS (As := [.int v1]) (rest := []) E (hml.trans hl.1.symm) hI (c_X12_laid l X σ v1 (by first | (clear h0; omega) | omega)) ks_X12_279 rfl ⟨Nat.le_of_ble_eq_true rfl, Nat.le_of_ble_eq_true rfl⟩ ⟨Nat.le_refl _, Nat.le_refl _⟩ rfl (Nat.le_of_ble_eq_true rfl) dX12_sortOf_1) hI (Nat.le_of_ble_eq_true rfl) (fun r_1 σ_2 H locs hpσ_2 hkσ_2 hI => ?_)
  have ahpσ_2 := hpσ_2.1
  have bhpσ_2 := hpσ_2.2.1
  have chpσ_2 := hpσ_2.2.2
  clear hpσ_2
  replace hI := q_Irw ahpσ_2 hI
  replace hF := q_letX hF chpσ_2
  have ir_1 : r_1.toInt = (94 + 7 * v1.toInt) := (by omega)
  have hy := (hG.2.2.1 v1.toInt (by first | (clear h0 hh ahpσ_2 bhpσ_2 chpσ_2 ir_1; omega) | omega) (by first | (clear h0 hh ahpσ_2 bhpσ_2 chpσ_2 ir_1; omega) | omega)).1
  have hlw := bhpσ_2
  refine lv_istore_n (lv' := [(2, .int r_1), (0, .ref a), (1, .int v1)]) hx hb dX12_sortOf_4 rfl hl (by decide) rfl (fun ls hl => ?_)
  refine lv_iconst (v := 0) hx hb dX12_sortOf_5 zki_0 ?_
  refine lv_istore_n (lv' := [(3, .int 0), (2, .int r_1), (0, .ref a), (1, .int v1)]) hx hb dX12_sortOf_6 rfl hl (by decide) rfl (fun ls hl => ?_)
  refine lv_iconst (v := 0) hx hb dX12_sortOf_7 zki_0 ?_
  refine lv_istore (lv' := [(4, .int 0), (3, .int 0), (2, .int r_1), (0, .ref a), (1, .int v1)]) hx hb dX12_sortOf_8 hl (by decide) rfl (fun ls hl => ?_)
  have L_10_5 : ∀ (k_5 : Nat) (x_3 : Int32) (x_4 : Int32) (H : Heap) (locs : List Loc) (ls : Array Slot), (2147483647 - x_4.toInt).toNat < k_5 → (0 ≤ x_4.toInt ∧ 0 ≤ x_3.toInt ∧ x_3.toInt ≤ x_4.toInt) → (F_X12_sortOf_L10_1 X r_1 σ a k_5 x_3 x_4 = out) → q_I X 9 σ s.heap locs σ H → lv_has ls 5 [(0, .ref a), (1, .int v1), (2, .int r_1), (3, .int x_3), (4, .int x_4)] → W p l e (q_rm 1 20) s m ([.ref a, .int v1] : List Value).toArray below meth c H locs 0 0 (MQ below (q_Qi X 9 σ (fun (r : Int32) (σ' : ST) => σ' = σ ∧ (0 ≤ r.toInt ∧ r.toInt ≤ 2) ∧ r = F_X12_sortOf X σ a v1)) ([.ref a, .int v1] : List Value).toArray s 0 0 (q_reg X)) (F0 m 10 ls []) := by
    clear hF
    intro k_5
    induction k_5 with
    | zero =>
      intro x_3 x_4 H locs ls hms
      exact absurd hms (Nat.not_lt_zero _)
    | succ k_5 ih10 =>
      intro x_3 x_4 H locs ls hm10 hge10 hF hI hl
      replace hF := (F_X12_sortOf_L10_1_s).symm.trans hF
      unfold F_X12_sortOf_B10_1 at hF
      refine lv_iload hx hb dX12_sortOf_10 (lv_at hl 4 rfl) ?_
      refine lv_aload_n hx hb dX12_sortOf_12 rfl (lv_at hl 0 rfl) ?_
      refine gs_X12_35_12 E hI ha dX12_sortOf_13 ?_
      refine lv_iload_n hx hb dX12_sortOf_16 rfl (lv_at hl 2 rfl) ?_
      refine lv_iconst (v := 2) hx hb dX12_sortOf_17 zki_2 ?_
      refine lv_iadd hx hb dX12_sortOf_18 ?_
      refine lv_topi (fun z_6 ez_6 => ?_)
      replace hF := q_letX hF ez_6
      have iz_6 := q_addI (A := (94 + 7 * v1.toInt)) (B := 2) ez_6 ir_1 (by decide) (by first | (clear h0 hh ahpσ_2 bhpσ_2 chpσ_2 ir_1 hy hm10 hge10; omega) | omega) (by first | (clear h0 ahpσ_2 bhpσ_2 chpσ_2 ir_1 hy hm10 hge10; omega) | omega)
      refine q_iald E hI (q_tk (k' := 34) hI ha rfl (Nat.succ_ne_zero _)) ⟨by decide, rfl⟩ (by first | (clear h0 hh ahpσ_2 bhpσ_2 chpσ_2 ir_1 hy hm10 hge10; omega) | omega) (by rw [q_lnk (v := 4650) hI (q_tk (k' := 34) hI ha rfl (Nat.succ_ne_zero _)) rfl (by decide)]; omega) dX12_sortOf_19 ?_
      refine lv_topi (fun f_7 ef_7 => ?_)
      replace hF := q_letX hF ef_7
      have if_7 : f_7.toInt = m_c X σ a ((94 + 7 * v1.toInt) + 2) := m_rd ef_7 iz_6
      have gc_8_x_4 := q_rng x_4
      have gc_8_f_7 := q_rng f_7
      refine q_icmp_ge (A := x_4.toInt) (B := f_7.toInt) E rfl rfl (tgt := 59) dX12_sortOf_20 (by decide) (fun c_8 => ?_) (fun c_8 => ?_)
      · skip
        replace hF := q_ifn hF (Int.not_lt.mpr c_8)
        unfold F_X12_sortOf_E59_2 at hF
        refine lv_iload_n hx hb dX12_sortOf_59 rfl (lv_at hl 3 rfl) ?_
        refine lv_aload_n hx hb dX12_sortOf_60 rfl (lv_at hl 0 rfl) ?_
        refine gs_X12_35_12 E hI ha dX12_sortOf_61 ?_
        refine lv_iload_n hx hb dX12_sortOf_64 rfl (lv_at hl 2 rfl) ?_
        refine lv_iconst (v := 2) hx hb dX12_sortOf_65 zki_2 ?_
        refine lv_iadd hx hb dX12_sortOf_66 ?_
        refine lv_topi (fun z_9 ez_9 => ?_)
        replace hF := q_letX hF ez_9
        have iz_9 := q_addI (A := (94 + 7 * v1.toInt)) (B := 2) ez_9 ir_1 (by decide) (by first | (clear h0 hh ahpσ_2 bhpσ_2 chpσ_2 ir_1 hy hm10 hge10 iz_6 if_7 gc_8_x_4 gc_8_f_7 c_8; omega) | omega) (by first | (clear h0 ahpσ_2 bhpσ_2 chpσ_2 ir_1 hy hm10 hge10 iz_6 if_7 gc_8_x_4 gc_8_f_7 c_8; omega) | omega)
        refine q_iald E hI (q_tk (k' := 34) hI ha rfl (Nat.succ_ne_zero _)) ⟨by decide, rfl⟩ (by first | (clear h0 hh ahpσ_2 bhpσ_2 chpσ_2 ir_1 hy hm10 hge10 iz_6 if_7 gc_8_x_4 gc_8_f_7 c_8; omega) | omega) (by rw [q_lnk (v := 4650) hI (q_tk (k' := 34) hI ha rfl (Nat.succ_ne_zero _)) rfl (by decide)]; omega) dX12_sortOf_67 ?_
        refine lv_topi (fun f_10 ef_10 => ?_)
        replace hF := q_letX hF ef_10
        have if_10 : f_10.toInt = m_c X σ a ((94 + 7 * v1.toInt) + 2) := m_rd ef_10 iz_9
        have gc_11_x_3 := q_rng x_3
        have gc_11_f_10 := q_rng f_10
        refine q_icmp_ne (A := x_3.toInt) (B := f_10.toInt) E rfl rfl (tgt := 75) dX12_sortOf_68 (by decide) (fun c_11 => ?_) (fun c_11 => ?_)
        · skip
          replace hF := q_ifn hF c_11
          refine lv_iload_n hx hb dX12_sortOf_75 rfl (lv_at hl 3 rfl) ?_
          refine q_if_ne (A := x_3.toInt) E rfl (tgt := 83) dX12_sortOf_76 (by decide) (fun c_12 => ?_) (fun c_12 => ?_)
          · skip
            replace hF := q_ifn hF c_12
            refine lv_iconst (v := 1) hx hb dX12_sortOf_83 zki_1 ?_
            have hrv : (1 : Int32).toInt = 1 := zt_1
            exact q_reti E hr hlk hI ⟨rfl, (by first | (clear h0 hh ahpσ_2 bhpσ_2 chpσ_2 ir_1 hy hm10 hge10 iz_6 if_7 gc_8_x_4 gc_8_f_7 c_8 iz_9 if_10 gc_11_x_3 gc_11_f_10 c_11 c_12; omega) | omega), (hF.trans hout)⟩ dX12_sortOf_84
          · skip
            replace hF := q_ifp hF c_12
            refine lv_iconst (v := 2) hx hb dX12_sortOf_79 zki_2 ?_
            refine lv_goto (tgt := 84) hx hb dX12_sortOf_80 (by decide) ?_
            have hrv : (2 : Int32).toInt = 2 := zt_2
            exact q_reti E hr hlk hI ⟨rfl, (by first | (clear h0 hh ahpσ_2 bhpσ_2 chpσ_2 ir_1 hy hm10 hge10 iz_6 if_7 gc_8_x_4 gc_8_f_7 c_8 iz_9 if_10 gc_11_x_3 gc_11_f_10 c_11 c_12; omega) | omega), (hF.trans hout)⟩ dX12_sortOf_84
        · skip
          replace hF := q_ifp hF c_11
          refine lv_iconst (v := 0) hx hb dX12_sortOf_71 zki_0 ?_
          refine lv_goto (tgt := 84) hx hb dX12_sortOf_72 (by decide) ?_
          have hrv : (0 : Int32).toInt = 0 := zt_0
          exact q_reti E hr hlk hI ⟨rfl, (by first | (clear h0 hh ahpσ_2 bhpσ_2 chpσ_2 ir_1 hy hm10 hge10 iz_6 if_7 gc_8_x_4 gc_8_f_7 c_8 iz_9 if_10 gc_11_x_3 gc_11_f_10 c_11; omega) | omega), (hF.trans hout)⟩ dX12_sortOf_84
      · skip
        replace hF := q_ifp hF c_8
        refine lv_iload_n hx hb dX12_sortOf_23 rfl (lv_at hl 3 rfl) ?_
        refine lv_aload_n hx hb dX12_sortOf_24 rfl (lv_at hl 0 rfl) ?_
        refine gs_X12_35_12 E hI ha dX12_sortOf_25 ?_
        refine lv_iload_n hx hb dX12_sortOf_28 rfl (lv_at hl 2 rfl) ?_
        refine lv_iconst (v := 3) hx hb dX12_sortOf_29 zki_3 ?_
        refine lv_iadd hx hb dX12_sortOf_30 ?_
        refine lv_topi (fun z_13 ez_13 => ?_)
        replace hF := q_letX hF ez_13
        have iz_13 := q_addI (A := (94 + 7 * v1.toInt)) (B := 3) ez_13 ir_1 (by decide) (by first | (clear h0 hh ahpσ_2 bhpσ_2 chpσ_2 ir_1 hy hm10 hge10 iz_6 if_7 gc_8_x_4 gc_8_f_7 c_8; omega) | omega) (by first | (clear h0 ahpσ_2 bhpσ_2 chpσ_2 ir_1 hy hm10 hge10 iz_6 if_7 gc_8_x_4 gc_8_f_7 c_8; omega) | omega)
        refine lv_iload hx hb dX12_sortOf_31 (lv_at hl 4 rfl) ?_
        refine lv_iadd hx hb dX12_sortOf_33 ?_
        refine lv_topi (fun z_14 ez_14 => ?_)
        replace hF := q_letX hF ez_14
        have iz_14 := q_addI (A := ((94 + 7 * v1.toInt) + 3)) (B := x_4.toInt) ez_14 iz_13 rfl (by first | (clear h0 hh ahpσ_2 bhpσ_2 chpσ_2 ir_1 hy hm10 iz_6 if_7 gc_8_f_7 c_8 iz_13; omega) | omega) (by first | (clear h0 ahpσ_2 bhpσ_2 chpσ_2 ir_1 hm10 iz_6 gc_8_f_7 iz_13; omega) | omega)
        refine q_iald E hI (q_tk (k' := 34) hI ha rfl (Nat.succ_ne_zero _)) ⟨by decide, rfl⟩ (by first | (clear h0 hh ahpσ_2 bhpσ_2 chpσ_2 ir_1 hm10 iz_6 gc_8_f_7 iz_13; omega) | omega) (by rw [q_lnk (v := 4650) hI (q_tk (k' := 34) hI ha rfl (Nat.succ_ne_zero _)) rfl (by decide)]; omega) dX12_sortOf_34 ?_
        refine lv_topi (fun f_15 ef_15 => ?_)
        replace hF := q_letX hF ef_15
        have if_15 : f_15.toInt = m_c X σ a (((94 + 7 * v1.toInt) + 3) + x_4.toInt) := m_rd ef_15 iz_14
        refine lv_aload_n hx hb dX12_sortOf_35 rfl (lv_at hl 0 rfl) ?_
        refine gs_X12_35_12 E hI ha dX12_sortOf_36 ?_
        refine lv_iload_n hx hb dX12_sortOf_39 rfl (lv_at hl 2 rfl) ?_
        refine lv_iconst (v := 1) hx hb dX12_sortOf_40 zki_1 ?_
        refine lv_iadd hx hb dX12_sortOf_41 ?_
        refine lv_topi (fun z_16 ez_16 => ?_)
        replace hF := q_letX hF ez_16
        have iz_16 := q_addI (A := (94 + 7 * v1.toInt)) (B := 1) ez_16 ir_1 (by decide) (by first | (clear h0 hh ahpσ_2 bhpσ_2 chpσ_2 ir_1 hy hm10 hge10 iz_6 if_7 gc_8_x_4 gc_8_f_7 c_8 iz_13 iz_14 if_15; omega) | omega) (by first | (clear h0 ahpσ_2 bhpσ_2 chpσ_2 ir_1 hy hm10 hge10 iz_6 if_7 gc_8_x_4 gc_8_f_7 c_8 iz_13 iz_14 if_15; omega) | omega)
        refine q_iald E hI (q_tk (k' := 34) hI ha rfl (Nat.succ_ne_zero _)) ⟨by decide, rfl⟩ (by first | (clear h0 hh ahpσ_2 bhpσ_2 chpσ_2 ir_1 hy hm10 hge10 iz_6 if_7 gc_8_x_4 gc_8_f_7 c_8 iz_13 iz_14 if_15; omega) | omega) (by rw [q_lnk (v := 4650) hI (q_tk (k' := 34) hI ha rfl (Nat.succ_ne_zero _)) rfl (by decide)]; omega) dX12_sortOf_42 ?_
        refine lv_topi (fun f_17 ef_17 => ?_)
        replace hF := q_letX hF ef_17
        have if_17 : f_17.toInt = m_c X σ a ((94 + 7 * v1.toInt) + 1) := m_rd ef_17 iz_16
        have gc_18_f_15 := q_rng f_15
        have gc_18_f_17 := q_rng f_17
        refine q_icmp_ne (A := f_15.toInt) (B := f_17.toInt) E rfl rfl (tgt := 50) dX12_sortOf_43 (by decide) (fun c_18 => ?_) (fun c_18 => ?_)
        · skip
          replace hF := q_ifn hF c_18
          refine lv_iconst (v := 0) hx hb dX12_sortOf_50 zki_0 ?_
          refine lv_iadd hx hb dX12_sortOf_51 ?_
          refine lv_topi (fun z_19 ez_19 => ?_)
          replace hF := q_letX hF ez_19
          have iz_19 := q_addI (A := x_3.toInt) (B := 0) ez_19 rfl (by decide) (by first | (clear h0 hh ahpσ_2 bhpσ_2 chpσ_2 ir_1 hy hm10 iz_6 if_7 gc_8_x_4 gc_8_f_7 c_8 iz_13 iz_14 if_15 iz_16 if_17 gc_18_f_15 gc_18_f_17 c_18; omega) | omega) (by first | (clear h0 hh ahpσ_2 bhpσ_2 chpσ_2 ir_1 hy hm10 iz_6 if_7 gc_8_f_7 c_8 iz_13 if_15 iz_16 if_17 gc_18_f_15 gc_18_f_17 c_18; omega) | omega)
          refine lv_istore_n (lv' := [(3, .int z_19), (0, .ref a), (1, .int v1), (2, .int r_1), (4, .int x_4)]) hx hb dX12_sortOf_52 rfl hl (by decide) rfl (fun ls hl => ?_)
          obtain ⟨z_20, ez_20⟩ : ∃ y : Int32, y = x_4 + 1 := ⟨_, rfl⟩
          replace hF := q_letX hF ez_20
          refine lv_iinc (v := z_20) (lv' := [(4, .int z_20), (3, .int z_19), (0, .ref a), (1, .int v1), (2, .int r_1)]) hx hb dX12_sortOf_53 hl (k := 4) rfl (by rw [ez_20]; rfl) (by decide) rfl (fun ls hl => ?_)
          have iz_20 : z_20.toInt = x_4.toInt + 1 := q_inc ez_20 (by first | (clear h0 hh ahpσ_2 bhpσ_2 chpσ_2 ir_1 hm10 iz_6 gc_8_f_7 iz_13 if_15 iz_16 if_17 gc_18_f_15 gc_18_f_17 c_18 iz_19; omega) | omega)
          refine lv_goto (tgt := 10) hx hb dX12_sortOf_56 (by decide) ?_
          exact ih10 z_19 z_20 _ _ ls (by first | (clear h0 hh ahpσ_2 bhpσ_2 chpσ_2 ir_1 iz_6 gc_8_f_7 iz_13 if_15 iz_16 if_17 gc_18_f_15 gc_18_f_17 iz_19; omega) | omega) (by first | (clear h0 hh ahpσ_2 bhpσ_2 chpσ_2 ir_1 hy hm10 iz_6 if_7 gc_8_f_7 c_8 iz_13 if_15 iz_16 if_17 gc_18_f_15 gc_18_f_17 c_18; omega) | omega) hF hI (lv_sub hl [2, 3, 4, 1, 0] rfl)
        · skip
          replace hF := q_ifp hF c_18
          refine lv_iconst (v := 1) hx hb dX12_sortOf_46 zki_1 ?_
          refine lv_goto (tgt := 51) hx hb dX12_sortOf_47 (by decide) ?_
          refine lv_iadd hx hb dX12_sortOf_51 ?_
          refine lv_topi (fun z_21 ez_21 => ?_)
          replace hF := q_letX hF ez_21
          have iz_21 := q_addI (A := x_3.toInt) (B := 1) ez_21 rfl (by decide) (by first | (clear h0 hh ahpσ_2 bhpσ_2 chpσ_2 ir_1 hy hm10 iz_6 if_7 gc_8_x_4 gc_8_f_7 c_8 iz_13 iz_14 if_15 iz_16 if_17 gc_18_f_15 gc_18_f_17 c_18; omega) | omega) (by first | (clear h0 hh ahpσ_2 bhpσ_2 chpσ_2 ir_1 hm10 iz_6 gc_8_f_7 iz_13 if_15 iz_16 if_17 gc_18_f_15 gc_18_f_17 c_18; omega) | omega)
          refine lv_istore_n (lv' := [(3, .int z_21), (0, .ref a), (1, .int v1), (2, .int r_1), (4, .int x_4)]) hx hb dX12_sortOf_52 rfl hl (by decide) rfl (fun ls hl => ?_)
          obtain ⟨z_22, ez_22⟩ : ∃ y : Int32, y = x_4 + 1 := ⟨_, rfl⟩
          replace hF := q_letX hF ez_22
          refine lv_iinc (v := z_22) (lv' := [(4, .int z_22), (3, .int z_21), (0, .ref a), (1, .int v1), (2, .int r_1)]) hx hb dX12_sortOf_53 hl (k := 4) rfl (by rw [ez_22]; rfl) (by decide) rfl (fun ls hl => ?_)
          have iz_22 : z_22.toInt = x_4.toInt + 1 := q_inc ez_22 (by first | (clear h0 hh ahpσ_2 bhpσ_2 chpσ_2 ir_1 hm10 iz_6 gc_8_f_7 iz_13 if_15 iz_16 if_17 gc_18_f_15 gc_18_f_17 c_18 iz_21; omega) | omega)
          refine lv_goto (tgt := 10) hx hb dX12_sortOf_56 (by decide) ?_
          exact ih10 z_21 z_22 _ _ ls (by first | (clear h0 hh ahpσ_2 bhpσ_2 chpσ_2 ir_1 iz_6 gc_8_f_7 iz_13 if_15 iz_16 if_17 gc_18_f_15 gc_18_f_17 c_18 iz_21; omega) | omega) (by first | (clear h0 hh ahpσ_2 bhpσ_2 chpσ_2 ir_1 hy hm10 iz_6 if_7 gc_8_f_7 c_8 iz_13 if_15 iz_16 if_17 gc_18_f_15 gc_18_f_17 c_18; omega) | omega) hF hI (lv_sub hl [2, 3, 4, 1, 0] rfl)
  have kc_23 : (0 : Int32).toInt = 0 := zt_0
  exact L_10_5 ((2147483647 - (0 : Int32).toInt).toNat + 1) 0 0 _ _ ls (Nat.lt_succ_self _) (by decide) hF hI (lv_sub hl [3, 4, 2, 1, 0] rfl)
end
/-! FROM 41.know.a.lean.txt -/
section
section QS
variable {p : Program} {l : Launch} {e : Env} {R : Room} {s : State} {m : MethodId} {args : Array Value} {below : List Frame} {meth : Method} {c : Code} {H : Heap} {locs : List Loc} {cells slots : Nat} {Q : State → Prop} {cc : ByteArray} {X : XW} {n : Nat} {σ0 σ : ST} {H0 : Heap} {pc : Nat} {ls : Array Slot} {rest : List Value} {a : Nat}
theorem kv_X12_302 : q_okV RX12 302 RX12 yX12_inGameOf cX12_inGameOf 4 (some .int) 1 := ⟨(q_in_t8 (i := 159) (by first | rfl | decide +kernel) rfl), (q_in_t8 (i := 161) (by first | rfl | decide +kernel) rfl), (q_in_p (i := 85) (by decide +kernel) rfl), (q_in_t1 (i := 14) (by first | rfl | decide +kernel) rfl), (q_in_t8 (i := 162) (by first | rfl | decide +kernel) rfl), ⟨rfl, by decide, by decide, rfl⟩⟩
theorem kv_X12_333 : q_okV RX12 333 RX12 yX12_knownOf cX12_knownOf 3 (some .int) 2 := ⟨(q_in_t8 (i := 229) (by first | rfl | decide +kernel) rfl), (q_in_t8 (i := 231) (by first | rfl | decide +kernel) rfl), (q_in_p (i := 94) (by decide +kernel) rfl), (q_in_t1 (i := 14) (by first | rfl | decide +kernel) rfl), (q_in_t8 (i := 232) (by first | rfl | decide +kernel) rfl), ⟨rfl, by decide, by decide, rfl⟩⟩
theorem kv_X12_336 : q_okV RX12 336 RX12 yX12_unknownOf cX12_unknownOf 3 (some .int) 2 := ⟨(q_in_t9 (i := 1) (by first | rfl | decide +kernel) rfl), (q_in_t9 (i := 3) (by first | rfl | decide +kernel) rfl), (q_in_p (i := 96) (by decide +kernel) rfl), (q_in_t1 (i := 14) (by first | rfl | decide +kernel) rfl), (q_in_t9 (i := 4) (by first | rfl | decide +kernel) rfl), ⟨rfl, by decide, by decide, rfl⟩⟩
theorem ks_X12_68 : q_okS RX12 68 yJ9_abs_067f4 cJ9_abs_067f4 2 (some .long) 1 := ⟨(q_in_t9 (i := 32) (by first | rfl | decide +kernel) rfl), (q_in_t5 (i := 224) (by first | rfl | decide +kernel) rfl), (q_in_t1 (i := 5) (by first | rfl | decide +kernel) rfl), (q_in_t5 (i := 225) (by first | rfl | decide +kernel) rfl), ⟨by decide, by decide, rfl⟩⟩
theorem ps_X12_65_12 (E : q_E p c cc s m args RX12 X) (hI : q_I X n σ0 H0 locs σ H) (ha : q_kd X a = 12) {v : Int64} (hdg : decode cc pc = .ok (.putfield 65, 3)) (kk : ∀ (H1 : Heap) (locs1 : List Loc) (σ1 : ST), σ1 = q_sl σ a 2 v → q_I X n σ0 H0 locs1 σ1 H1 → W p l e R s m args below meth c H1 locs1 cells slots Q (F0 m (pc + 3) ls rest)) : W p l e R s m args below meth c H locs cells slots Q (F0 m pc ls (.long v :: .ref a :: rest)) :=
  q_putl E hI ha ⟨rfl, by decide⟩ (show vwCl[11]? = some (RX12, TX12, 46) from rfl) q_inX12 tyX12_ok nmX12 (f := 2) (by decide) (q_in_t6 (i := 227) (by first | rfl | decide +kernel) rfl) (Or.inl rfl) rfl rfl rfl hdg (fun H1 l1 h => kk H1 l1 _ rfl h)
theorem ps_X12_7_12 (E : q_E p c cc s m args RX12 X) (hI : q_I X n σ0 H0 locs σ H) (ha : q_kd X a = 12) {v : Int64} (hdg : decode cc pc = .ok (.putfield 7, 3)) (kk : ∀ (H1 : Heap) (locs1 : List Loc) (σ1 : ST), σ1 = q_sl σ a 3 v → q_I X n σ0 H0 locs1 σ1 H1 → W p l e R s m args below meth c H1 locs1 cells slots Q (F0 m (pc + 3) ls rest)) : W p l e R s m args below meth c H locs cells slots Q (F0 m pc ls (.long v :: .ref a :: rest)) :=
  q_putl E hI ha ⟨rfl, by decide⟩ (show vwCl[11]? = some (RX12, TX12, 46) from rfl) q_inX12 tyX12_ok nmX12 (f := 3) (by decide) (q_in_t6 (i := 228) (by first | rfl | decide +kernel) rfl) (Or.inl rfl) rfl rfl rfl hdg (fun H1 l1 h => kk H1 l1 _ rfl h)
theorem kv_X12_319 : q_okV RX12 319 RX12 yX12_behindOf cX12_behindOf 2 (some .int) 1 := ⟨(q_in_t8 (i := 204) (by first | rfl | decide +kernel) rfl), (q_in_t8 (i := 206) (by first | rfl | decide +kernel) rfl), (q_in_p (i := 91) (by decide +kernel) rfl), (q_in_t1 (i := 14) (by first | rfl | decide +kernel) rfl), (q_in_t8 (i := 207) (by first | rfl | decide +kernel) rfl), ⟨rfl, by decide, by decide, rfl⟩⟩
theorem kv_X12_367 : q_okV RX12 367 RX12 yX12_waitsOf cX12_waitsOf 3 (some .int) 1 := ⟨(q_in_t9 (i := 62) (by first | rfl | decide +kernel) rfl), (q_in_t9 (i := 64) (by first | rfl | decide +kernel) rfl), (q_in_p (i := 101) (by decide +kernel) rfl), (q_in_t1 (i := 14) (by first | rfl | decide +kernel) rfl), (q_in_t9 (i := 65) (by first | rfl | decide +kernel) rfl), ⟨rfl, by decide, by decide, rfl⟩⟩
theorem kv_X12_315 : q_okV RX12 315 RX12 yX12_nextKind cX12_nextKind 3 (some .int) 1 := ⟨(q_in_t8 (i := 200) (by first | rfl | decide +kernel) rfl), (q_in_t8 (i := 202) (by first | rfl | decide +kernel) rfl), (q_in_p (i := 90) (by decide +kernel) rfl), (q_in_t1 (i := 14) (by first | rfl | decide +kernel) rfl), (q_in_t8 (i := 203) (by first | rfl | decide +kernel) rfl), ⟨rfl, by decide, by decide, rfl⟩⟩
theorem kv_X12_290 : q_okV RX12 290 RX12 yX12_isPlayerAt cX12_isPlayerAt 2 (some .boolean) 1 := ⟨(q_in_t8 (i := 131) (by first | rfl | decide +kernel) rfl), (q_in_t8 (i := 133) (by first | rfl | decide +kernel) rfl), (q_in_p (i := 80) (by decide +kernel) rfl), (q_in_t1 (i := 14) (by first | rfl | decide +kernel) rfl), (q_in_t8 (i := 134) (by first | rfl | decide +kernel) rfl), ⟨rfl, by decide, by decide, rfl⟩⟩
theorem kv_X12_287 : q_okV RX12 287 RX12 yX12_heapMany cX12_heapMany 3 (some .int) 0 := ⟨(q_in_t8 (i := 120) (by first | rfl | decide +kernel) rfl), (q_in_t8 (i := 122) (by first | rfl | decide +kernel) rfl), (q_in_p (i := 79) (by decide +kernel) rfl), (q_in_t1 (i := 14) (by first | rfl | decide +kernel) rfl), (q_in_t8 (i := 123) (by first | rfl | decide +kernel) rfl), ⟨rfl, by decide, by decide, rfl⟩⟩
theorem kv_X12_293 : q_okV RX12 293 RX12 yX12_cardsOf cX12_cardsOf 4 (some .int) 1 := ⟨(q_in_t8 (i := 135) (by first | rfl | decide +kernel) rfl), (q_in_t8 (i := 137) (by first | rfl | decide +kernel) rfl), (q_in_p (i := 81) (by decide +kernel) rfl), (q_in_t1 (i := 14) (by first | rfl | decide +kernel) rfl), (q_in_t8 (i := 138) (by first | rfl | decide +kernel) rfl), ⟨rfl, by decide, by decide, rfl⟩⟩
end QS
end
/-! FROM 41.know.b00.lean.txt -/
section
set_option maxRecDepth 100000 in
set_option maxHeartbeats 4000000 in
theorem c_X12_knownOf (l : Launch) (X : XW) (σ : ST) (a : Nat) (v1 : Int32) (v2 : Int32) (ha : q_kd X a = 12) (hG : m_G (m_c X σ a)) (h0 : 0 ≤ v1.toInt ∧ v1.toInt ≤ 5) (h1 : 0 ≤ v2.toInt ∧ v2.toInt ≤ 9) : Met l yX12_knownOf (q_ws yX12_knownOf cX12_knownOf 3 (some .int)) (q_rm 2 46) (q_P X σ [.ref a, .int v1, .int v2]) (q_Qi X 9 σ (fun (r : Int32) (σ' : ST) => σ' = σ ∧ (r.toInt = m_c X σ a (34 + 10 * v1.toInt + v2.toInt) + m_A (m_c X σ a) v1.toInt v2.toInt (m_c X σ a 9).toNat) ∧ r = F_X12_knownOf X σ a v1 v2)) 0 0 (q_reg X) := by
  refine q_met 9 (by first | exact rfl | decide +kernel) rfl (Nat.le_of_ble_eq_true rfl) (fun p e s m below meth c E hml hr hlk hI ls hl => ?_)
  have hx := E.1
  have hb := E.2.1
  have hl : lv_has ls 3 [(0, .ref a), (1, .int v1), (2, .int v2)] := hl
  have hh := hG.hd
  obtain ⟨out, hout⟩ : ∃ o, o = F_X12_knownOf X σ a v1 v2 := ⟨_, rfl⟩
  have hF := hout.symm
  unfold F_X12_knownOf at hF
  refine lv_aload_n hx hb dX12_knownOf_0 rfl (lv_at hl 0 rfl) ?_
  refine lv_iload_n hx hb dX12_knownOf_1 rfl (lv_at hl 1 rfl) ?_
  refine lv_iload_n hx hb dX12_knownOf_2 rfl (lv_at hl 2 rfl) ?_
  refine q_ci (q_rV11_2 (rest := []) E (hml.trans hl.1.symm) hI (c_X12_handOf l X σ a v1 v2 ha (by omega) (by omega)) kv_X12_276 ha ⟨Nat.le_of_ble_eq_true rfl, Nat.le_of_ble_eq_true rfl⟩ (Nat.le_of_ble_eq_true rfl) dX12_knownOf_3) hI (Nat.le_of_ble_eq_true rfl) (fun r_1 σ_2 H locs hpσ_2 hkσ_2 hI => ?_)
  have ahpσ_2 := hpσ_2.1
  have bhpσ_2 := hpσ_2.2.1
  have chpσ_2 := hpσ_2.2.2
  clear hpσ_2
  replace hI := q_Irw ahpσ_2 hI
  replace hF := q_letX hF chpσ_2
  have ir_1 : r_1.toInt = (m_c X σ a (34 + 10 * v1.toInt + v2.toInt)) := (by first | exact bhpσ_2 | (rw [bhpσ_2]) | (simp only [bhpσ_2]))
  have hbr_1 := hG.h80 (p := v1.toInt) (k := v2.toInt) (by first | (clear h0 h1 hh ahpσ_2 bhpσ_2 chpσ_2 ir_1; omega) | omega) (by first | (clear h0 h1 hh ahpσ_2 bhpσ_2 chpσ_2 ir_1; omega) | omega) (by first | (clear h0 h1 hh ahpσ_2 bhpσ_2 chpσ_2 ir_1; omega) | omega) (by first | (clear h0 h1 hh ahpσ_2 bhpσ_2 chpσ_2 ir_1; omega) | omega)
  refine lv_aload_n hx hb dX12_knownOf_6 rfl (lv_at hl 0 rfl) ?_
  refine lv_iload_n hx hb dX12_knownOf_7 rfl (lv_at hl 1 rfl) ?_
  refine lv_iload_n hx hb dX12_knownOf_8 rfl (lv_at hl 2 rfl) ?_
  refine q_ci (q_rV11_2 (rest := [.int r_1]) E (hml.trans hl.1.symm) hI (c_X12_laidOf l X σ a v1 v2 ha hG) kv_X12_296 ha ⟨Nat.le_of_ble_eq_true rfl, Nat.le_of_ble_eq_true rfl⟩ (Nat.le_of_ble_eq_true rfl) dX12_knownOf_9) hI (Nat.le_of_ble_eq_true rfl) (fun r_3 σ_4 H locs hpσ_4 hkσ_4 hI => ?_)
  have ahpσ_4 := hpσ_4.1
  have bhpσ_4 := hpσ_4.2.1
  have chpσ_4 := hpσ_4.2.2.1
  have dhpσ_4 := hpσ_4.2.2.2
  clear hpσ_4
  replace hI := q_Irw ahpσ_4 hI
  replace hF := q_letX hF dhpσ_4
  have ir_3 : r_3.toInt = (m_A (m_c X σ a) v1.toInt v2.toInt (m_c X σ a 9).toNat) := (by first | exact bhpσ_4 | (rw [bhpσ_4]) | (simp only [bhpσ_4]))
  refine lv_iadd hx hb dX12_knownOf_12 ?_
  refine lv_topi (fun z_5 ez_5 => ?_)
  replace hF := q_letX hF ez_5
  have iz_5 := q_addI (A := (m_c X σ a (34 + 10 * v1.toInt + v2.toInt))) (B := (m_A (m_c X σ a) v1.toInt v2.toInt (m_c X σ a 9).toNat)) ez_5 ir_1 ir_3 (by first | (clear h0 h1 hh ahpσ_2 bhpσ_2 chpσ_2 ir_1 ahpσ_4 dhpσ_4 ir_3; omega) | omega) (by first | (clear h0 h1 hh ahpσ_2 bhpσ_2 chpσ_2 ir_1 ahpσ_4 dhpσ_4 ir_3; omega) | omega)
  exact q_reti E hr hlk hI ⟨rfl, (by omega), (hF.trans hout)⟩ dX12_knownOf_13

set_option maxRecDepth 100000 in
set_option maxHeartbeats 4000000 in
theorem c_X12_unknownOf (l : Launch) (X : XW) (σ : ST) (a : Nat) (v1 : Int32) (v2 : Int32) (ha : q_kd X a = 12) (hG : m_G (m_c X σ a)) (h0 : 0 ≤ v1.toInt ∧ v1.toInt < m_c X σ a 2) (h1 : 0 ≤ v2.toInt ∧ v2.toInt ≤ 9) : Met l yX12_unknownOf (q_ws yX12_unknownOf cX12_unknownOf 3 (some .int)) (q_rm 3 69) (q_P X σ [.ref a, .int v1, .int v2]) (q_Qi X 9 σ (fun (r : Int32) (σ' : ST) => σ' = σ ∧ (r.toInt = m_U (m_c X σ a) v1.toInt v2.toInt) ∧ (0 ≤ r.toInt ∧ r.toInt ≤ 80) ∧ r = F_X12_unknownOf X σ a v1 v2)) 0 0 (q_reg X) := by
  refine q_met 9 (by first | exact rfl | decide +kernel) rfl (Nat.le_of_ble_eq_true rfl) (fun p e s m below meth c E hml hr hlk hI ls hl => ?_)
  have hx := E.1
  have hb := E.2.1
  have hl : lv_has ls 3 [(0, .ref a), (1, .int v1), (2, .int v2)] := hl
  have hh := hG.hd
  have ub := hG.U_bd (p := v1.toInt) (k := v2.toInt) (by first | (clear h0 h1 hh; omega) | omega) (by first | (clear h0 h1 hh; omega) | omega) (by first | (clear h0 h1 hh; omega) | omega) (by first | (clear h0 h1 hh; omega) | omega)
  have ib := hG.I_bd (k := v2.toInt) (by first | (clear h0 h1 hh ub; omega) | omega) (by first | (clear h0 h1 hh ub; omega) | omega)
  unfold m_U at ub
  obtain ⟨out, hout⟩ : ∃ o, o = F_X12_unknownOf X σ a v1 v2 := ⟨_, rfl⟩
  have hF := hout.symm
  unfold F_X12_unknownOf at hF
  refine lv_aload_n hx hb dX12_unknownOf_0 rfl (lv_at hl 0 rfl) ?_
  refine lv_iload_n hx hb dX12_unknownOf_1 rfl (lv_at hl 2 rfl) ?_
  refine q_ci (q_rV11_1 (rest := []) E (hml.trans hl.1.symm) hI (c_X12_inGameOf l X σ a v2 ha hG (by omega)) kv_X12_302 ha ⟨Nat.le_of_ble_eq_true rfl, Nat.le_of_ble_eq_true rfl⟩ (Nat.le_of_ble_eq_true rfl) dX12_unknownOf_2) hI (Nat.le_of_ble_eq_true rfl) (fun r_1 σ_2 H locs hpσ_2 hkσ_2 hI => ?_)
  have ahpσ_2 := hpσ_2.1
  have bhpσ_2 := hpσ_2.2.1
  have chpσ_2 := hpσ_2.2.2.1
  have dhpσ_2 := hpσ_2.2.2.2
  clear hpσ_2
  replace hI := q_Irw ahpσ_2 hI
  replace hF := q_letX hF dhpσ_2
  have ir_1 : r_1.toInt = (m_I (m_c X σ a) v2.toInt) := (by first | exact bhpσ_2 | (rw [bhpσ_2]) | (simp only [bhpσ_2]))
  refine lv_aload_n hx hb dX12_unknownOf_5 rfl (lv_at hl 0 rfl) ?_
  refine lv_iload_n hx hb dX12_unknownOf_6 rfl (lv_at hl 1 rfl) ?_
  refine lv_iload_n hx hb dX12_unknownOf_7 rfl (lv_at hl 2 rfl) ?_
  refine q_ci (q_rV11_2 (rest := [.int r_1]) E (hml.trans hl.1.symm) hI (c_X12_knownOf l X σ a v1 v2 ha hG (by first | (clear h0 h1 ub ahpσ_2 bhpσ_2 chpσ_2 dhpσ_2 ir_1; omega) | omega) (by omega)) kv_X12_333 ha ⟨Nat.le_of_ble_eq_true rfl, Nat.le_of_ble_eq_true rfl⟩ (Nat.le_of_ble_eq_true rfl) dX12_unknownOf_8) hI (Nat.le_of_ble_eq_true rfl) (fun r_3 σ_4 H locs hpσ_4 hkσ_4 hI => ?_)
  have ahpσ_4 := hpσ_4.1
  have bhpσ_4 := hpσ_4.2.1
  have chpσ_4 := hpσ_4.2.2
  clear hpσ_4
  replace hI := q_Irw ahpσ_4 hI
  replace hF := q_letX hF chpσ_4
  have ir_3 : r_3.toInt = (m_c X σ a (34 + 10 * v1.toInt + v2.toInt) + m_A (m_c X σ a) v1.toInt v2.toInt (m_c X σ a 9).toNat) := (by first | exact bhpσ_4 | (rw [bhpσ_4]) | (simp only [bhpσ_4]))
  refine lv_isub hx hb dX12_unknownOf_11 ?_
  refine lv_topi (fun z_5 ez_5 => ?_)
  replace hF := q_letX hF ez_5
  have iz_5 := q_subI (A := (m_I (m_c X σ a) v2.toInt)) (B := (m_c X σ a (34 + 10 * v1.toInt + v2.toInt) + m_A (m_c X σ a) v1.toInt v2.toInt (m_c X σ a 9).toNat)) ez_5 ir_1 ir_3 (by first | (clear h0 h1 hh ahpσ_2 chpσ_2 dhpσ_2 ir_1 ahpσ_4 chpσ_4 ir_3; omega) | omega) (by first | (clear h0 h1 hh ahpσ_2 chpσ_2 dhpσ_2 ir_1 ahpσ_4 chpσ_4 ir_3; omega) | omega)
  exact q_reti E hr hlk hI ⟨rfl, (by unfold m_U; omega), (by first | (clear h0 h1 hh ahpσ_2 chpσ_2 dhpσ_2 ir_1 ahpσ_4 chpσ_4 ir_3; omega) | omega), (hF.trans hout)⟩ dX12_unknownOf_12

set_option maxRecDepth 100000 in
set_option maxHeartbeats 4000000 in
theorem c_X12_unknownAll (l : Launch) (X : XW) (σ : ST) (a : Nat) (v1 : Int32) (ha : q_kd X a = 12) (hG : m_G (m_c X σ a)) (h0 : 0 ≤ v1.toInt ∧ v1.toInt < m_c X σ a 2) : Met l yX12_unknownAll (q_ws yX12_unknownAll cX12_unknownAll 4 (some .int)) (q_rm 4 91) (q_P X σ [.ref a, .int v1]) (q_Qi X 9 σ (fun (r : Int32) (σ' : ST) => σ' = σ ∧ (r.toInt = m_V (m_c X σ a) v1.toInt (m_c X σ a 0).toNat) ∧ (0 ≤ r.toInt ∧ r.toInt ≤ 800) ∧ r = F_X12_unknownAll X σ a v1)) 0 0 (q_reg X) := by
  refine q_met 9 (by first | exact rfl | decide +kernel) rfl (Nat.le_of_ble_eq_true rfl) (fun p e s m below meth c E hml hr hlk hI ls hl => ?_)
  have hx := E.1
  have hb := E.2.1
  have hl : lv_has ls 4 [(0, .ref a), (1, .int v1)] := hl
  have hh := hG.hd
  obtain ⟨out, hout⟩ : ∃ o, o = F_X12_unknownAll X σ a v1 := ⟨_, rfl⟩
  have hF := hout.symm
  unfold F_X12_unknownAll at hF
  refine lv_iconst (v := 0) hx hb dX12_unknownAll_0 zki_0 ?_
  refine lv_istore_n (lv' := [(2, .int 0), (0, .ref a), (1, .int v1)]) hx hb dX12_unknownAll_1 rfl hl (by decide) rfl (fun ls hl => ?_)
  refine lv_iconst (v := 0) hx hb dX12_unknownAll_2 zki_0 ?_
  refine lv_istore_n (lv' := [(3, .int 0), (2, .int 0), (0, .ref a), (1, .int v1)]) hx hb dX12_unknownAll_3 rfl hl (by decide) rfl (fun ls hl => ?_)
  have L_4_3 : ∀ (k_3 : Nat) (x_1 : Int32) (x_2 : Int32) (H : Heap) (locs : List Loc) (ls : Array Slot), (2147483647 - x_2.toInt).toNat < k_3 → (0 ≤ x_2.toInt ∧ x_2.toInt ≤ m_c X σ a 0) → (x_1.toInt = m_V (m_c X σ a) v1.toInt x_2.toInt.toNat) → (F_X12_unknownAll_L4_1 X σ a v1 k_3 x_1 x_2 = out) → q_I X 9 σ s.heap locs σ H → lv_has ls 4 [(0, .ref a), (1, .int v1), (2, .int x_1), (3, .int x_2)] → W p l e (q_rm 4 91) s m ([.ref a, .int v1] : List Value).toArray below meth c H locs 0 0 (MQ below (q_Qi X 9 σ (fun (r : Int32) (σ' : ST) => σ' = σ ∧ (r.toInt = m_V (m_c X σ a) v1.toInt (m_c X σ a 0).toNat) ∧ (0 ≤ r.toInt ∧ r.toInt ≤ 800) ∧ r = F_X12_unknownAll X σ a v1)) ([.ref a, .int v1] : List Value).toArray s 0 0 (q_reg X)) (F0 m 4 ls []) := by
    clear hF
    intro k_3
    induction k_3 with
    | zero =>
      intro x_1 x_2 H locs ls hms
      exact absurd hms (Nat.not_lt_zero _)
    | succ k_3 ih4 =>
      intro x_1 x_2 H locs ls hm4 hge4 hs4 hF hI hl
      replace hF := (F_X12_unknownAll_L4_1_s).symm.trans hF
      unfold F_X12_unknownAll_B4_1 at hF
      have sb := hG.V_bd (p := v1.toInt) (by first | (clear h0 hh hm4 hge4 hs4; omega) | omega) (by first | (clear h0 hh hm4 hge4 hs4; omega) | omega) x_2.toInt.toNat (by first | (clear h0 hm4 hs4; omega) | omega)
      have ps := m_V_succ (m_c X σ a) v1.toInt x_2.toInt hge4.1
      refine lv_iload_n hx hb dX12_unknownAll_4 rfl (lv_at hl 3 rfl) ?_
      refine lv_aload_n hx hb dX12_unknownAll_5 rfl (lv_at hl 0 rfl) ?_
      refine gs_X12_35_12 E hI ha dX12_unknownAll_6 ?_
      refine lv_iconst (v := 0) hx hb dX12_unknownAll_9 zki_0 ?_
      refine q_iald E hI (q_tk (k' := 34) hI ha rfl (Nat.succ_ne_zero _)) ⟨by decide, rfl⟩ (by decide) (by rw [q_lnk (v := 4650) hI (q_tk (k' := 34) hI ha rfl (Nat.succ_ne_zero _)) rfl (by decide)]; decide) dX12_unknownAll_10 ?_
      refine lv_topi (fun f_4 ef_4 => ?_)
      replace hF := q_letX hF ef_4
      have if_4 : f_4.toInt = m_c X σ a 0 := m_rd ef_4 (by decide)
      have gc_5_x_2 := q_rng x_2
      have gc_5_f_4 := q_rng f_4
      refine q_icmp_ge (A := x_2.toInt) (B := f_4.toInt) E rfl rfl (tgt := 29) dX12_unknownAll_11 (by decide) (fun c_5 => ?_) (fun c_5 => ?_)
      · skip
        replace hF := q_ifn hF (Int.not_lt.mpr c_5)
        skip
        refine lv_iload_n hx hb dX12_unknownAll_29 rfl (lv_at hl 2 rfl) ?_
        exact q_reti E hr hlk hI ⟨rfl, (by have q : x_2.toInt = m_c X σ a 0 := (by first | (clear h0 hh hm4 hs4 sb ps gc_5_x_2 gc_5_f_4; omega) | omega); rw [q] at hs4; exact hs4), (by first | (clear h0 hm4 gc_5_x_2 gc_5_f_4; omega) | omega), (hF.trans hout)⟩ dX12_unknownAll_30
      · skip
        replace hF := q_ifp hF c_5
        refine lv_iload_n hx hb dX12_unknownAll_14 rfl (lv_at hl 2 rfl) ?_
        refine lv_aload_n hx hb dX12_unknownAll_15 rfl (lv_at hl 0 rfl) ?_
        refine lv_iload_n hx hb dX12_unknownAll_16 rfl (lv_at hl 1 rfl) ?_
        refine lv_iload_n hx hb dX12_unknownAll_17 rfl (lv_at hl 3 rfl) ?_
        refine q_ci (q_rV11_2 (rest := [.int x_1]) E (hml.trans hl.1.symm) hI (c_X12_unknownOf l X σ a v1 x_2 ha hG (by omega) (by first | (clear h0 hm4 hs4 sb ps gc_5_f_4; omega) | omega)) kv_X12_336 ha ⟨Nat.le_of_ble_eq_true rfl, Nat.le_of_ble_eq_true rfl⟩ (Nat.le_of_ble_eq_true rfl) dX12_unknownAll_18) hI (Nat.le_of_ble_eq_true rfl) (fun r_6 σ_7 H locs hpσ_7 hkσ_7 hI => ?_)
        have ahpσ_7 := hpσ_7.1
        have bhpσ_7 := hpσ_7.2.1
        have chpσ_7 := hpσ_7.2.2.1
        have dhpσ_7 := hpσ_7.2.2.2
        clear hpσ_7
        replace hI := q_Irw ahpσ_7 hI
        replace hF := q_letX hF dhpσ_7
        have ir_6 : r_6.toInt = (m_U (m_c X σ a) v1.toInt x_2.toInt) := (by first | exact bhpσ_7 | (rw [bhpσ_7]) | (simp only [bhpσ_7]))
        refine lv_iadd hx hb dX12_unknownAll_21 ?_
        refine lv_topi (fun z_8 ez_8 => ?_)
        replace hF := q_letX hF ez_8
        have iz_8 := q_addI (A := x_1.toInt) (B := (m_U (m_c X σ a) v1.toInt x_2.toInt)) ez_8 rfl ir_6 (by first | (clear h0 hh hm4 hge4 if_4 gc_5_x_2 gc_5_f_4 c_5 ahpσ_7 dhpσ_7 ir_6; omega) | omega) (by first | (clear h0 hm4 hge4 gc_5_x_2 gc_5_f_4 ahpσ_7 dhpσ_7 ir_6; omega) | omega)
        refine lv_istore_n (lv' := [(2, .int z_8), (0, .ref a), (1, .int v1), (3, .int x_2)]) hx hb dX12_unknownAll_22 rfl hl (by decide) rfl (fun ls hl => ?_)
        obtain ⟨z_9, ez_9⟩ : ∃ y : Int32, y = x_2 + 1 := ⟨_, rfl⟩
        replace hF := q_letX hF ez_9
        refine lv_iinc (v := z_9) (lv' := [(3, .int z_9), (2, .int z_8), (0, .ref a), (1, .int v1)]) hx hb dX12_unknownAll_23 hl (k := 3) rfl (by rw [ez_9]; rfl) (by decide) rfl (fun ls hl => ?_)
        have iz_9 : z_9.toInt = x_2.toInt + 1 := q_inc ez_9 (by first | (clear h0 hm4 hs4 sb ps gc_5_f_4 ahpσ_7 bhpσ_7 chpσ_7 dhpσ_7 ir_6 iz_8; omega) | omega)
        have pz := ps
        rw [← iz_9] at pz
        refine lv_goto (tgt := 4) hx hb dX12_unknownAll_26 (by decide) ?_
        exact ih4 z_8 z_9 _ _ ls (by first | (clear h0 hs4 sb ps gc_5_f_4 ahpσ_7 bhpσ_7 chpσ_7 dhpσ_7 ir_6 iz_8 pz; omega) | omega) (by first | (clear h0 hh hm4 hs4 sb ps gc_5_f_4 ahpσ_7 bhpσ_7 chpσ_7 dhpσ_7 ir_6 iz_8 pz; omega) | omega) (by first | (clear h0 hh hm4 hge4 sb if_4 gc_5_x_2 gc_5_f_4 c_5 ahpσ_7 bhpσ_7 chpσ_7 dhpσ_7 ir_6 iz_9; omega) | omega) hF hI (lv_sub hl [2, 3, 1, 0] rfl)
  have kc_10 : (0 : Int32).toInt = 0 := zt_0
  exact L_4_3 ((2147483647 - (0 : Int32).toInt).toNat + 1) 0 0 _ _ ls (Nat.lt_succ_self _) (by have q : (0 : Int32).toInt = 0 := rfl; omega) rfl hF hI (lv_sub hl [2, 3, 1, 0] rfl)

set_option maxRecDepth 100000 in
set_option maxHeartbeats 4000000 in
theorem c_X12_choose (l : Launch) (X : XW) (σ : ST) (v0 : Int32) (v1 : Int32) (h0 : 0 ≤ v0.toInt ∧ v0.toInt ≤ 800) (h1 : 0 ≤ v1.toInt ∧ v1.toInt ≤ 4) : Met l yX12_choose (q_ws yX12_choose cX12_choose 5 (some .long)) (q_rm 0 0) (q_P X σ [.int v0, .int v1]) (q_Ql X 9 σ (fun (r : Int64) (σ' : ST) => σ' = σ ∧ (0 ≤ r.toInt ∧ r.toInt ≤ 409600000000) ∧ (v1.toInt ≤ v0.toInt → 1 ≤ r.toInt) ∧ r = F_X12_choose X σ v0 v1)) 0 0 (q_reg X) := by
  refine q_met 9 (by first | exact rfl | decide +kernel) rfl (Nat.le_of_ble_eq_true rfl) (fun p e s m below meth c E hml hr hlk hI ls hl => ?_)
  have hx := E.1
  have hb := E.2.1
  have hl : lv_has ls 5 [(0, .int v0), (1, .int v1)] := hl
  obtain ⟨out, hout⟩ : ∃ o, o = F_X12_choose X σ v0 v1 := ⟨_, rfl⟩
  have hF := hout.symm
  unfold F_X12_choose at hF
  refine lv_iload_n hx hb dX12_choose_0 rfl (lv_at hl 1 rfl) ?_
  refine lv_iload_n hx hb dX12_choose_1 rfl (lv_at hl 0 rfl) ?_
  have gc_1_v1 := q_rng v1
  have gc_1_v0 := q_rng v0
  refine q_icmp_le (A := v1.toInt) (B := v0.toInt) E rfl rfl (tgt := 7) dX12_choose_2 (by decide) (fun c_1 => ?_) (fun c_1 => ?_)
  · skip
    replace hF := q_ifn hF (Int.not_lt.mpr c_1)
    refine lv_lconst (v := 1) hx hb dX12_choose_7 (by decide) ?_
    refine lv_lstore_n (lv' := [(2, .long 1), (0, .int v0), (1, .int v1)]) hx hb dX12_choose_8 rfl hl (by decide) rfl (fun ls hl => ?_)
    refine lv_iconst (v := 1) hx hb dX12_choose_9 zki_1 ?_
    refine lv_istore (lv' := [(4, .int 1), (2, .long 1), (0, .int v0), (1, .int v1)]) hx hb dX12_choose_10 hl (by decide) rfl (fun ls hl => ?_)
    have L_12_4 : ∀ (k_4 : Nat) (w_2 : Int64) (x_3 : Int32) (H : Heap) (locs : List Loc) (ls : Array Slot), (2147483647 - x_3.toInt).toNat < k_4 → (1 ≤ x_3.toInt ∧ x_3.toInt ≤ v1.toInt + 1 ∧ 1 ≤ w_2.toInt) → ((x_3.toInt = 1 ∧ w_2.toInt ≤ 1 ∨ x_3.toInt = 2 ∧ w_2.toInt ≤ 800 ∨ x_3.toInt = 3 ∧ w_2.toInt ≤ 640000 ∨ x_3.toInt = 4 ∧ w_2.toInt ≤ 512000000 ∨ x_3.toInt = 5 ∧ w_2.toInt ≤ 409600000000)) → (F_X12_choose_L12_1 X v1 v0 k_4 w_2 x_3 = out) → q_I X 9 σ s.heap locs σ H → lv_has ls 5 [(0, .int v0), (1, .int v1), (2, .long w_2), (4, .int x_3)] → W p l e (q_rm 0 0) s m ([.int v0, .int v1] : List Value).toArray below meth c H locs 0 0 (MQ below (q_Ql X 9 σ (fun (r : Int64) (σ' : ST) => σ' = σ ∧ (0 ≤ r.toInt ∧ r.toInt ≤ 409600000000) ∧ (v1.toInt ≤ v0.toInt → 1 ≤ r.toInt) ∧ r = F_X12_choose X σ v0 v1)) ([.int v0, .int v1] : List Value).toArray s 0 0 (q_reg X)) (F0 m 12 ls []) := by
      clear hF
      intro k_4
      induction k_4 with
      | zero =>
        intro w_2 x_3 H locs ls hms
        exact absurd hms (Nat.not_lt_zero _)
      | succ k_4 ih12 =>
        intro w_2 x_3 H locs ls hm12 hge12 hc12 hF hI hl
        replace hF := (F_X12_choose_L12_1_s).symm.trans hF
        unfold F_X12_choose_B12_1 at hF
        refine lv_iload hx hb dX12_choose_12 (lv_at hl 3 rfl) ?_
        refine lv_iload_n hx hb dX12_choose_14 rfl (lv_at hl 1 rfl) ?_
        have gc_5_x_3 := q_rng x_3
        have gc_5_v1 := q_rng v1
        refine q_icmp_gt (A := x_3.toInt) (B := v1.toInt) E rfl rfl (tgt := 38) dX12_choose_15 (by decide) (fun c_5 => ?_) (fun c_5 => ?_)
        · skip
          replace hF := q_ifp hF c_5
          skip
          refine lv_lload_n hx hb dX12_choose_38 rfl (lv_at hl 2 rfl) ?_
          exact q_retl E hr hlk hI ⟨rfl, (by first | (clear h0 h1 gc_1_v1 gc_1_v0 c_1 hm12 gc_5_x_3 gc_5_v1 c_5; omega) | omega), (by first | (clear h0 h1 gc_1_v1 gc_1_v0 c_1 hm12 hc12 gc_5_x_3 gc_5_v1 c_5; omega) | omega), (hF.trans hout)⟩ dX12_choose_39
        · skip
          replace hF := q_ifn hF (Int.not_lt.mpr c_5)
          refine lv_lload_n hx hb dX12_choose_18 rfl (lv_at hl 2 rfl) ?_
          refine lv_iload_n hx hb dX12_choose_19 rfl (lv_at hl 0 rfl) ?_
          refine lv_iload_n hx hb dX12_choose_20 rfl (lv_at hl 1 rfl) ?_
          refine lv_isub hx hb dX12_choose_21 ?_
          refine lv_topi (fun z_6 ez_6 => ?_)
          replace hF := q_letX hF ez_6
          have iz_6 := q_subI (A := v0.toInt) (B := v1.toInt) ez_6 rfl rfl (by first | (clear h0 h1 gc_1_v1 gc_1_v0 hm12 hge12 hc12 gc_5_x_3 gc_5_v1 c_5; omega) | omega) (by first | (clear h0 h1 gc_1_v1 gc_1_v0 c_1 hm12 hge12 hc12 gc_5_x_3 gc_5_v1 c_5; omega) | omega)
          refine lv_iload hx hb dX12_choose_22 (lv_at hl 3 rfl) ?_
          refine lv_iadd hx hb dX12_choose_24 ?_
          refine lv_topi (fun z_7 ez_7 => ?_)
          replace hF := q_letX hF ez_7
          have iz_7 := q_addI (A := (v0.toInt - v1.toInt)) (B := x_3.toInt) ez_7 iz_6 rfl (by first | (clear h0 h1 gc_1_v1 gc_1_v0 hm12 hc12 gc_5_v1 c_5; omega) | omega) (by first | (clear h0 h1 gc_1_v1 gc_1_v0 c_1 hm12 hge12 hc12 gc_5_x_3 gc_5_v1; omega) | omega)
          refine lv_i2l hx hb dX12_choose_25 rfl ?_
          refine lv_topl (fun y_8 ey_8 => ?_)
          replace hF := q_letX hF ey_8
          have ggy_8 := q_rng z_7
          have iy_8 : y_8.toInt = z_7.toInt := by rw [ey_8]; exact (q_i2l _).trans rfl
          have mb := m_mulI (a := w_2.toInt) (A := 512000000) (b := y_8.toInt) (B := 800) (by first | (clear h0 h1 gc_1_v1 gc_1_v0 c_1 hm12 hc12 gc_5_x_3 gc_5_v1 c_5 iz_6 iz_7 ggy_8 iy_8; omega) | omega) (by first | (clear h0 h1 gc_1_v1 gc_1_v0 hm12 hge12 gc_5_x_3 gc_5_v1; omega) | omega) (by first | (clear h0 h1 gc_1_v1 gc_1_v0 hm12 hc12 gc_5_v1; omega) | omega) (by first | (clear h0 h1 gc_1_v1 gc_1_v0 c_1 hm12 hge12 hc12 gc_5_x_3 gc_5_v1; omega) | omega)
          refine lv_lmul hx hb dX12_choose_26 ?_
          refine lv_topl (fun y_9 ey_9 => ?_)
          replace hF := q_letX hF ey_9
          have iy_9 := q_mulJ (A := w_2.toInt) (B := y_8.toInt) ey_9 rfl rfl (by first | (clear h0 h1 gc_1_v1 gc_1_v0 c_1 hm12 hge12 hc12 gc_5_x_3 gc_5_v1 c_5 iz_6 iz_7 ggy_8 iy_8; omega) | omega) (by first | (clear h0 h1 gc_1_v1 gc_1_v0 c_1 hm12 hge12 hc12 gc_5_x_3 gc_5_v1 c_5 iz_6 iz_7 ggy_8 iy_8; omega) | omega)
          refine lv_iload hx hb dX12_choose_27 (lv_at hl 3 rfl) ?_
          refine lv_i2l hx hb dX12_choose_29 rfl ?_
          refine lv_topl (fun y_10 ey_10 => ?_)
          replace hF := q_letX hF ey_10
          have ggy_10 := q_rng x_3
          have iy_10 : y_10.toInt = x_3.toInt := by rw [ey_10]; exact (q_i2l _).trans rfl
          refine lv_ldiv hx hb dX12_choose_30 (q_ne0l (by first | (clear h0 h1 gc_1_v1 gc_1_v0 c_1 hm12 hc12 gc_5_v1 c_5 ggy_8 mb iy_9 ggy_10; omega) | omega)) ?_
          refine lv_topl (fun y_11 ey_11 => ?_)
          replace hF := q_letX hF ey_11
          have dvy_11 := m_chs (i := x_3.toInt) ey_11 iy_9 iy_10 (by first | (clear h0 h1 gc_1_v1 gc_1_v0 c_1 hm12 hc12 gc_5_x_3 gc_5_v1 c_5 iz_6 iz_7 ggy_8 iy_8 mb iy_9 ggy_10 iy_10; omega) | omega) (by first | (clear h0 h1 gc_1_v1 gc_1_v0 c_1 hm12 hc12 gc_5_v1 c_5 ggy_8 mb iy_9 ggy_10; omega) | omega) (by first | (clear h0 h1 gc_1_v1 gc_1_v0 hm12 hge12 hc12 gc_5_x_3 gc_5_v1 c_5 ggy_8 mb iy_9 ggy_10; omega) | omega) (by first | (clear h0 h1 gc_1_v1 gc_1_v0 hm12 hc12 gc_5_v1 mb iy_9 ggy_10; omega) | omega) (by first | (clear h0 h1 gc_1_v1 gc_1_v0 c_1 hm12 hge12 gc_5_x_3 gc_5_v1 ggy_8 mb iy_9 ggy_10; omega) | omega)
          refine lv_lstore_n (lv' := [(2, .long y_11), (0, .int v0), (1, .int v1), (4, .int x_3)]) hx hb dX12_choose_31 rfl hl (by decide) rfl (fun ls hl => ?_)
          obtain ⟨z_12, ez_12⟩ : ∃ y : Int32, y = x_3 + 1 := ⟨_, rfl⟩
          replace hF := q_letX hF ez_12
          refine lv_iinc (v := z_12) (lv' := [(4, .int z_12), (2, .long y_11), (0, .int v0), (1, .int v1)]) hx hb dX12_choose_32 hl (k := 3) rfl (by rw [ez_12]; rfl) (by decide) rfl (fun ls hl => ?_)
          have iz_12 : z_12.toInt = x_3.toInt + 1 := q_inc ez_12 (by first | (clear h0 h1 gc_1_v1 gc_1_v0 c_1 hm12 hc12 gc_5_v1 ggy_8 mb iy_9 ggy_10 dvy_11; omega) | omega)
          refine lv_goto (tgt := 12) hx hb dX12_choose_35 (by decide) ?_
          exact ih12 y_11 z_12 _ _ ls (by first | (clear h0 h1 gc_1_v1 gc_1_v0 c_1 gc_5_v1 ggy_8 mb iy_9 ggy_10 dvy_11; omega) | omega) (by first | (clear h0 h1 gc_1_v1 gc_1_v0 c_1 hm12 hc12 gc_5_v1 ggy_8 mb iy_9 ggy_10; omega) | omega) (by first | (clear h0 h1 gc_1_v1 gc_1_v0 c_1 hm12 gc_5_v1 ggy_8 mb iy_9 ggy_10; omega) | omega) hF hI (lv_sub hl [2, 3, 1, 0] rfl)
    have kc_13 : (1 : Int32).toInt = 1 := zt_1
    exact L_12_4 ((2147483647 - (1 : Int32).toInt).toNat + 1) 1 1 _ _ ls (Nat.lt_succ_self _) (by have q : (1 : Int32).toInt = 1 := rfl; have q2 : (1 : Int64).toInt = 1 := rfl; omega) (Or.inl (by decide)) hF hI (lv_sub hl [2, 3, 1, 0] rfl)
  · skip
    replace hF := q_ifp hF c_1
    refine lv_lconst (v := 0) hx hb dX12_choose_5 (by decide) ?_
    have hrv : (0 : Int64).toInt = 0 := rfl
    exact q_retl E hr hlk hI ⟨rfl, (by first | (clear h0 h1 gc_1_v1 gc_1_v0 c_1; omega) | omega), (by first | (clear h0 h1 gc_1_v1 gc_1_v0 hrv; omega) | omega), (hF.trans hout)⟩ dX12_choose_6

set_option maxRecDepth 100000 in
set_option maxHeartbeats 4000000 in
theorem c_J9_abs_m (l : Launch) (X : XW) (σ : ST) (v0 : Int64) : Met l yJ9_abs_067f4 (q_ws yJ9_abs_067f4 cJ9_abs_067f4 2 (some .long)) (q_rm 0 0) (q_P X σ [.long v0]) (q_Ql X 9 σ (fun (r : Int64) (σ' : ST) => σ' = σ ∧ (r.toInt = 0 → v0.toInt = 0) ∧ r = F_J9_abs_m X σ v0)) 0 0 (q_reg X) := by
  refine q_met 9 (by first | exact q_j9 (n := "abs") (d := "(J)J") (by decide) | decide +kernel) rfl (Nat.le_of_ble_eq_true rfl) (fun p e s m below meth c E hml hr hlk hI ls hl => ?_)
  have hx := E.1
  have hb := E.2.1
  have hl : lv_has ls 2 [(0, .long v0)] := hl
  obtain ⟨out, hout⟩ : ∃ o, o = F_J9_abs_m X σ v0 := ⟨_, rfl⟩
  have hF := hout.symm
  unfold F_J9_abs_m at hF
  refine lv_lload_n hx hb dJ9_abs_067f4_0 rfl (lv_at hl 0 rfl) ?_
  refine lv_lconst (v := 0) hx hb dJ9_abs_067f4_1 (by decide) ?_
  have kc_2 : (0 : Int64).toInt = 0 := rfl
  refine q_lcmpX E dJ9_abs_067f4_2 (fun z_1 ez_1 hz_1 => ?_)
  replace hF := q_letX hF ez_1
  refine q_if_ge (A := z_1.toInt) E rfl (tgt := 11) dJ9_abs_067f4_3 (by decide) (fun c_3 => ?_) (fun c_3 => ?_)
  · skip
    replace hF := q_ifn hF (Int.not_lt.mpr c_3)
    refine lv_lload_n hx hb dJ9_abs_067f4_11 rfl (lv_at hl 0 rfl) ?_
    exact q_retl E hr hlk hI ⟨rfl, (by omega), (hF.trans hout)⟩ dJ9_abs_067f4_12
  · skip
    replace hF := q_ifp hF c_3
    refine lv_lload_n hx hb dJ9_abs_067f4_6 rfl (lv_at hl 0 rfl) ?_
    refine lv_lneg hx hb dJ9_abs_067f4_7 ?_
    refine lv_topl (fun y_4 ey_4 => ?_)
    replace hF := q_letX hF ey_4
    have ngy_4 := m_neg0 ey_4
    refine lv_goto (tgt := 12) hx hb dJ9_abs_067f4_8 (by decide) ?_
    exact q_retl E hr hlk hI ⟨rfl, (by omega), (hF.trans hout)⟩ dJ9_abs_067f4_12

set_option maxRecDepth 100000 in
set_option maxHeartbeats 4000000 in
theorem c_X12_fraction (l : Launch) (X : XW) (σ : ST) (a : Nat) (v1 : Int64) (v2 : Int64) (ha : q_kd X a = 12) (h0 : v1.toInt ≠ 0 ∨ v2.toInt ≠ 0) : Met l yX12_fraction (q_ws yX12_fraction cX12_fraction 11 (some .boolean)) (q_rm 1 21) (q_P X σ [.ref a, .long v1, .long v2]) (q_Qi X 8 σ (fun (r : Int32) (σ' : ST) => (0 ≤ r.toInt ∧ r.toInt ≤ 1) ∧ (r, σ') = F_X12_fraction X σ a v1 v2 ∧ q_ow [] [(12, 2), (12, 3)] X σ σ')) 0 0 (q_reg X) := by
  refine q_met 8 (by first | exact rfl | decide +kernel) rfl (Nat.le_of_ble_eq_true rfl) (fun p e s m below meth c E hml hr hlk hI ls hl => ?_)
  have hx := E.1
  have hb := E.2.1
  have hl : lv_has ls 11 [(0, .ref a), (1, .long v1), (3, .long v2)] := hl
  have fr_σ : q_ow [] [(12, 2), (12, 3)] X σ σ := q_ow.rf
  obtain ⟨out, hout⟩ : ∃ o, o = F_X12_fraction X σ a v1 v2 := ⟨_, rfl⟩
  have hF := hout.symm
  unfold F_X12_fraction at hF
  refine lv_lload_n hx hb dX12_fraction_0 rfl (lv_at hl 1 rfl) ?_
  refine q_cl_ (q_runS (As := [.long v1]) (rest := []) E (hml.trans hl.1.symm) hI (c_J9_abs_m l X σ v1) ks_X12_68 rfl ⟨Nat.le_of_ble_eq_true rfl, Nat.le_of_ble_eq_true rfl⟩ ⟨Nat.le_refl _, Nat.le_refl _⟩ rfl (Nat.le_of_ble_eq_true rfl) dX12_fraction_1) hI (Nat.le_of_ble_eq_true rfl) (fun r_1 σ_2 H locs hpσ_2 hkσ_2 hI => ?_)
  have ahpσ_2 := hpσ_2.1
  have bhpσ_2 := hpσ_2.2.1
  have chpσ_2 := hpσ_2.2.2
  clear hpσ_2
  replace hI := q_Irw ahpσ_2 hI
  replace hF := q_letX hF chpσ_2
  refine lv_lstore (lv' := [(5, .long r_1), (0, .ref a), (1, .long v1), (3, .long v2)]) hx hb dX12_fraction_4 hl (by decide) rfl (fun ls hl => ?_)
  refine lv_lload_n hx hb dX12_fraction_6 rfl (lv_at hl 3 rfl) ?_
  refine lv_lstore (lv' := [(7, .long v2), (5, .long r_1), (0, .ref a), (1, .long v1), (3, .long v2)]) hx hb dX12_fraction_7 hl (by decide) rfl (fun ls hl => ?_)
  have L_9_5 : ∀ (k_5 : Nat) (w_3 : Int64) (w_4 : Int64) (H : Heap) (locs : List Loc) (ls : Array Slot), (w_4.toInt.natAbs) < k_5 → (w_3.toInt ≠ 0 ∨ w_4.toInt ≠ 0) → (F_X12_fraction_L9_1 X v1 σ a v2 k_5 w_3 w_4 = out) → q_I X 8 σ s.heap locs σ H → lv_has ls 11 [(0, .ref a), (1, .long v1), (3, .long v2), (5, .long w_3), (7, .long w_4)] → W p l e (q_rm 1 21) s m ([.ref a, .long v1, .long v2] : List Value).toArray below meth c H locs 0 0 (MQ below (q_Qi X 8 σ (fun (r : Int32) (σ' : ST) => (0 ≤ r.toInt ∧ r.toInt ≤ 1) ∧ (r, σ') = F_X12_fraction X σ a v1 v2 ∧ q_ow [] [(12, 2), (12, 3)] X σ σ')) ([.ref a, .long v1, .long v2] : List Value).toArray s 0 0 (q_reg X)) (F0 m 9 ls []) := by
    clear hF
    intro k_5
    induction k_5 with
    | zero =>
      intro w_3 w_4 H locs ls hms
      exact absurd hms (Nat.not_lt_zero _)
    | succ k_5 ih9 =>
      intro w_3 w_4 H locs ls hm9 hf9 hF hI hl
      replace hF := (F_X12_fraction_L9_1_s).symm.trans hF
      unfold F_X12_fraction_B9_1 at hF
      refine lv_lload hx hb dX12_fraction_9 (lv_at hl 4 rfl) ?_
      refine lv_lconst (v := 0) hx hb dX12_fraction_11 (by decide) ?_
      have kc_7 : (0 : Int64).toInt = 0 := rfl
      refine q_lcmpX E dX12_fraction_12 (fun z_6 ez_6 hz_6 => ?_)
      replace hF := q_letX hF ez_6
      refine q_if_eq (A := z_6.toInt) E rfl (tgt := 34) dX12_fraction_13 (by decide) (fun c_8 => ?_) (fun c_8 => ?_)
      · skip
        replace hF := q_ifp hF c_8
        unfold F_X12_fraction_E34_2 at hF
        refine lv_aload_n hx hb dX12_fraction_34 rfl (lv_at hl 0 rfl) ?_
        refine lv_lload_n hx hb dX12_fraction_35 rfl (lv_at hl 1 rfl) ?_
        refine lv_lload hx hb dX12_fraction_36 (lv_at hl 3 rfl) ?_
        refine lv_ldiv hx hb dX12_fraction_38 (q_ne0l (by first | (clear h0 ahpσ_2 bhpσ_2 chpσ_2 hm9; omega) | omega)) ?_
        refine lv_topl (fun y_9 ey_9 => ?_)
        replace hF := q_letX hF ey_9
        refine ps_X12_65_12 E hI ha  dX12_fraction_39 (fun H locs σ_10 hσ_10 hI => ?_)
        replace hF := q_letX hF hσ_10
        have fr_σ_10 := fr_σ.sl hσ_10 ha rfl
        refine lv_aload_n hx hb dX12_fraction_42 rfl (lv_at hl 0 rfl) ?_
        refine lv_lload_n hx hb dX12_fraction_43 rfl (lv_at hl 2 rfl) ?_
        refine lv_lload hx hb dX12_fraction_44 (lv_at hl 3 rfl) ?_
        refine lv_ldiv hx hb dX12_fraction_46 (q_ne0l (by first | (clear h0 ahpσ_2 bhpσ_2 chpσ_2 hm9; omega) | omega)) ?_
        refine lv_topl (fun y_11 ey_11 => ?_)
        replace hF := q_letX hF ey_11
        refine ps_X12_7_12 E hI ha  dX12_fraction_47 (fun H locs σ_12 hσ_12 hI => ?_)
        replace hF := q_letX hF hσ_12
        have fr_σ_12 := fr_σ_10.sl hσ_12 ha rfl
        refine lv_iconst (v := 1) hx hb dX12_fraction_50 zki_1 ?_
        have hrv : (1 : Int32).toInt = 1 := zt_1
        exact q_retz E hr hlk hI ⟨by decide, by decide⟩ ⟨⟨by decide, by decide⟩, (hF.trans hout), fr_σ_12⟩ dX12_fraction_51
      · skip
        replace hF := q_ifn hF c_8
        refine lv_lload hx hb dX12_fraction_16 (lv_at hl 3 rfl) ?_
        refine lv_lload hx hb dX12_fraction_18 (lv_at hl 4 rfl) ?_
        refine lv_lrem hx hb dX12_fraction_20 (q_ne0l (by first | (clear h0 ahpσ_2 bhpσ_2 chpσ_2 w_3 hm9 hf9; omega) | omega)) ?_
        refine lv_topl (fun y_13 ey_13 => ?_)
        replace hF := q_letX hF (ey_13.trans (q_remJ _ _))
        have rmy_13 := m_remabs ey_13 (by first | (clear h0 ahpσ_2 bhpσ_2 chpσ_2 w_3 hm9 hf9; omega) | omega)
        refine lv_lstore (lv' := [(9, .long y_13), (0, .ref a), (1, .long v1), (3, .long v2), (5, .long w_3), (7, .long w_4)]) hx hb dX12_fraction_21 hl (by decide) rfl (fun ls hl => ?_)
        refine lv_lload hx hb dX12_fraction_23 (lv_at hl 5 rfl) ?_
        refine lv_lstore (lv' := [(5, .long w_4), (9, .long y_13), (0, .ref a), (1, .long v1), (3, .long v2), (7, .long w_4)]) hx hb dX12_fraction_25 hl (by decide) rfl (fun ls hl => ?_)
        refine lv_lload hx hb dX12_fraction_27 (lv_at hl 1 rfl) ?_
        refine lv_lstore (lv' := [(7, .long y_13), (5, .long w_4), (9, .long y_13), (0, .ref a), (1, .long v1), (3, .long v2)]) hx hb dX12_fraction_29 hl (by decide) rfl (fun ls hl => ?_)
        refine lv_goto (tgt := 9) hx hb dX12_fraction_31 (by decide) ?_
        exact ih9 w_4 y_13 _ _ ls (by first | (clear h0 ahpσ_2 bhpσ_2 chpσ_2 w_3 hf9 kc_7 hz_6 c_8; omega) | omega) (by first | (clear h0 ahpσ_2 bhpσ_2 chpσ_2 w_3 hm9 hf9 rmy_13; omega) | omega) hF hI (lv_sub hl [3, 4, 5, 1, 0] rfl)
  exact L_9_5 ((v2.toInt.natAbs) + 1) r_1 v2 _ _ ls (Nat.lt_succ_self _) (by first | (clear h0 ahpσ_2 chpσ_2; omega) | omega) hF hI (lv_sub hl [2, 3, 4, 1, 0] rfl)

set_option maxRecDepth 100000 in
set_option maxHeartbeats 4000000 in
theorem c_X12_nextKind (l : Launch) (X : XW) (σ : ST) (a : Nat) (v1 : Int32) (ha : q_kd X a = 12) (hG : m_G (m_c X σ a)) : Met l yX12_nextKind (q_ws yX12_nextKind cX12_nextKind 3 (some .int)) (q_rm 0 0) (q_P X σ [.ref a, .int v1]) (q_Qi X 9 σ (fun (r : Int32) (σ' : ST) => σ' = σ ∧ (0 ≤ r.toInt ∧ r.toInt < m_c X σ a 0) ∧ r = F_X12_nextKind X σ a v1)) 0 0 (q_reg X) := by
  refine q_met 9 (by first | exact rfl | decide +kernel) rfl (Nat.le_of_ble_eq_true rfl) (fun p e s m below meth c E hml hr hlk hI ls hl => ?_)
  have hx := E.1
  have hb := E.2.1
  have hl : lv_has ls 3 [(0, .ref a), (1, .int v1)] := hl
  have hh := hG.hd
  obtain ⟨out, hout⟩ : ∃ o, o = F_X12_nextKind X σ a v1 := ⟨_, rfl⟩
  have hF := hout.symm
  unfold F_X12_nextKind at hF
  refine lv_aload_n hx hb dX12_nextKind_0 rfl (lv_at hl 0 rfl) ?_
  refine gs_X12_35_12 E hI ha dX12_nextKind_1 ?_
  refine lv_iconst (v := 0) hx hb dX12_nextKind_4 zki_0 ?_
  refine q_iald E hI (q_tk (k' := 34) hI ha rfl (Nat.succ_ne_zero _)) ⟨by decide, rfl⟩ (by decide) (by rw [q_lnk (v := 4650) hI (q_tk (k' := 34) hI ha rfl (Nat.succ_ne_zero _)) rfl (by decide)]; decide) dX12_nextKind_5 ?_
  refine lv_topi (fun f_1 ef_1 => ?_)
  replace hF := q_letX hF ef_1
  have if_1 : f_1.toInt = m_c X σ a 0 := m_rd ef_1 (by decide)
  refine lv_istore_n (lv' := [(2, .int f_1), (0, .ref a), (1, .int v1)]) hx hb dX12_nextKind_6 rfl hl (by decide) rfl (fun ls hl => ?_)
  refine lv_aload_n hx hb dX12_nextKind_7 rfl (lv_at hl 1 rfl) ?_
  refine gs_X12_35_12 E hI ha dX12_nextKind_8 ?_
  refine lv_iconst (v := 3) hx hb dX12_nextKind_11 zki_3 ?_
  refine q_iald E hI (q_tk (k' := 34) hI ha rfl (Nat.succ_ne_zero _)) ⟨by decide, rfl⟩ (by decide) (by rw [q_lnk (v := 4650) hI (q_tk (k' := 34) hI ha rfl (Nat.succ_ne_zero _)) rfl (by decide)]; decide) dX12_nextKind_12 ?_
  refine lv_topi (fun f_2 ef_2 => ?_)
  replace hF := q_letX hF ef_2
  have if_2 : f_2.toInt = m_c X σ a 3 := m_rd ef_2 (by decide)
  refine q_if_eq (A := f_2.toInt) E rfl (tgt := 30) dX12_nextKind_13 (by decide) (fun c_3 => ?_) (fun c_3 => ?_)
  · skip
    replace hF := q_ifp hF c_3
    refine lv_aload_n hx hb dX12_nextKind_30 rfl (lv_at hl 1 rfl) ?_
    refine gs_X12_35_12 E hI ha dX12_nextKind_31 ?_
    refine lv_iconst (v := 5) hx hb dX12_nextKind_34 zki_5 ?_
    refine q_iald E hI (q_tk (k' := 34) hI ha rfl (Nat.succ_ne_zero _)) ⟨by decide, rfl⟩ (by decide) (by rw [q_lnk (v := 4650) hI (q_tk (k' := 34) hI ha rfl (Nat.succ_ne_zero _)) rfl (by decide)]; decide) dX12_nextKind_35 ?_
    refine lv_topi (fun f_4 ef_4 => ?_)
    replace hF := q_letX hF ef_4
    have if_4 : f_4.toInt = m_c X σ a 5 := m_rd ef_4 (by decide)
    refine lv_iconst (v := 1) hx hb dX12_nextKind_36 zki_1 ?_
    refine lv_iadd hx hb dX12_nextKind_37 ?_
    refine lv_topi (fun z_5 ez_5 => ?_)
    replace hF := q_letX hF ez_5
    have iz_5 := q_addI (A := (m_c X σ a 5)) (B := 1) ez_5 if_4 (by decide) (by first | (clear if_1 if_2 c_3; omega) | omega) (by first | (clear if_2 c_3; omega) | omega)
    refine lv_iload_n hx hb dX12_nextKind_38 rfl (lv_at hl 0 rfl) ?_
    refine lv_irem hx hb dX12_nextKind_39 (q_ne0 (by first | (clear if_2 c_3 if_4 iz_5; omega) | omega)) ?_
    refine lv_topi (fun z_6 ez_6 => ?_)
    replace hF := q_letX hF (ez_6.trans (q_remI _ _))
    have rmz_6 := m_rem ez_6 (by first | (clear if_1 if_2 c_3; omega) | omega) (by first | (clear if_2 c_3 if_4 iz_5; omega) | omega)
    exact q_reti E hr hlk hI ⟨rfl, (by first | (clear hh if_2 c_3 if_4 iz_5; omega) | omega), (hF.trans hout)⟩ dX12_nextKind_40
  · skip
    replace hF := q_ifn hF c_3
    refine lv_aload_n hx hb dX12_nextKind_16 rfl (lv_at hl 1 rfl) ?_
    refine gs_X12_35_12 E hI ha dX12_nextKind_17 ?_
    refine lv_iconst (v := 3) hx hb dX12_nextKind_20 zki_3 ?_
    refine q_iald E hI (q_tk (k' := 34) hI ha rfl (Nat.succ_ne_zero _)) ⟨by decide, rfl⟩ (by decide) (by rw [q_lnk (v := 4650) hI (q_tk (k' := 34) hI ha rfl (Nat.succ_ne_zero _)) rfl (by decide)]; decide) dX12_nextKind_21 ?_
    refine lv_topi (fun f_7 ef_7 => ?_)
    replace hF := q_letX hF ef_7
    have if_7 : f_7.toInt = m_c X σ a 3 := m_rd ef_7 (by decide)
    refine lv_iconst (v := 1) hx hb dX12_nextKind_22 zki_1 ?_
    refine q_icmp_eq (A := f_7.toInt) (B := 1) E rfl (by decide) (tgt := 41) dX12_nextKind_23 (by decide) (fun c_8 => ?_) (fun c_8 => ?_)
    · skip
      replace hF := q_ifp hF c_8
      refine lv_aload_n hx hb dX12_nextKind_41 rfl (lv_at hl 1 rfl) ?_
      refine gs_X12_35_12 E hI ha dX12_nextKind_42 ?_
      refine lv_iconst (v := 3) hx hb dX12_nextKind_45 zki_3 ?_
      refine q_iald E hI (q_tk (k' := 34) hI ha rfl (Nat.succ_ne_zero _)) ⟨by decide, rfl⟩ (by decide) (by rw [q_lnk (v := 4650) hI (q_tk (k' := 34) hI ha rfl (Nat.succ_ne_zero _)) rfl (by decide)]; decide) dX12_nextKind_46 ?_
      refine lv_topi (fun f_9 ef_9 => ?_)
      replace hF := q_letX hF ef_9
      have if_9 : f_9.toInt = m_c X σ a 3 := m_rd ef_9 (by decide)
      refine lv_iconst (v := 1) hx hb dX12_nextKind_47 zki_1 ?_
      refine q_icmp_ne (A := f_9.toInt) (B := 1) E rfl (by decide) (tgt := 66) dX12_nextKind_48 (by decide) (fun c_10 => ?_) (fun c_10 => ?_)
      · skip
        replace hF := q_ifn hF c_10
        refine lv_aload_n hx hb dX12_nextKind_66 rfl (lv_at hl 1 rfl) ?_
        refine gs_X12_35_12 E hI ha dX12_nextKind_67 ?_
        refine lv_iconst (v := 5) hx hb dX12_nextKind_70 zki_5 ?_
        refine q_iald E hI (q_tk (k' := 34) hI ha rfl (Nat.succ_ne_zero _)) ⟨by decide, rfl⟩ (by decide) (by rw [q_lnk (v := 4650) hI (q_tk (k' := 34) hI ha rfl (Nat.succ_ne_zero _)) rfl (by decide)]; decide) dX12_nextKind_71 ?_
        refine lv_topi (fun f_11 ef_11 => ?_)
        replace hF := q_letX hF ef_11
        have if_11 : f_11.toInt = m_c X σ a 5 := m_rd ef_11 (by decide)
        exact q_reti E hr hlk hI ⟨rfl, (by first | (clear if_2 c_3 if_7 c_8 if_9 c_10; omega) | omega), (hF.trans hout)⟩ dX12_nextKind_72
      · skip
        replace hF := q_ifp hF c_10
        refine lv_aload_n hx hb dX12_nextKind_51 rfl (lv_at hl 1 rfl) ?_
        refine gs_X12_35_12 E hI ha dX12_nextKind_52 ?_
        refine lv_iconst (v := 5) hx hb dX12_nextKind_55 zki_5 ?_
        refine q_iald E hI (q_tk (k' := 34) hI ha rfl (Nat.succ_ne_zero _)) ⟨by decide, rfl⟩ (by decide) (by rw [q_lnk (v := 4650) hI (q_tk (k' := 34) hI ha rfl (Nat.succ_ne_zero _)) rfl (by decide)]; decide) dX12_nextKind_56 ?_
        refine lv_topi (fun f_12 ef_12 => ?_)
        replace hF := q_letX hF ef_12
        have if_12 : f_12.toInt = m_c X σ a 5 := m_rd ef_12 (by decide)
        refine lv_iload_n hx hb dX12_nextKind_57 rfl (lv_at hl 0 rfl) ?_
        refine lv_iadd hx hb dX12_nextKind_58 ?_
        refine lv_topi (fun z_13 ez_13 => ?_)
        replace hF := q_letX hF ez_13
        have iz_13 := q_addI (A := (m_c X σ a 5)) (B := (m_c X σ a 0)) ez_13 if_12 if_1 (by first | (clear if_2 c_3 if_7 c_8 if_9 c_10; omega) | omega) (by first | (clear if_2 c_3 if_7 c_8 if_9 c_10; omega) | omega)
        refine lv_iconst (v := 1) hx hb dX12_nextKind_59 zki_1 ?_
        refine lv_isub hx hb dX12_nextKind_60 ?_
        refine lv_topi (fun z_14 ez_14 => ?_)
        replace hF := q_letX hF ez_14
        have iz_14 := q_subI (A := ((m_c X σ a 5) + (m_c X σ a 0))) (B := 1) ez_14 iz_13 (by decide) (by first | (clear if_2 c_3 if_7 c_8 if_9 c_10; omega) | omega) (by first | (clear if_2 c_3 if_7 c_8 if_9 c_10; omega) | omega)
        refine lv_iload_n hx hb dX12_nextKind_61 rfl (lv_at hl 0 rfl) ?_
        refine lv_irem hx hb dX12_nextKind_62 (q_ne0 (by first | (clear if_2 c_3 if_7 c_8 if_9 c_10; omega) | omega)) ?_
        refine lv_topi (fun z_15 ez_15 => ?_)
        replace hF := q_letX hF (ez_15.trans (q_remI _ _))
        have rmz_15 := m_rem ez_15 (by first | (clear if_2 c_3 if_7 c_8 if_9 c_10; omega) | omega) (by first | (clear if_2 c_3 if_7 c_8 if_9 c_10; omega) | omega)
        refine lv_goto (tgt := 72) hx hb dX12_nextKind_63 (by decide) ?_
        exact q_reti E hr hlk hI ⟨rfl, (by first | (clear hh if_2 c_3 if_7 c_8 if_9 c_10; omega) | omega), (hF.trans hout)⟩ dX12_nextKind_72
    · skip
      replace hF := q_ifn hF c_8
      refine lv_iload_n hx hb dX12_nextKind_26 rfl (lv_at hl 2 rfl) ?_
      refine q_if_ne (A := v1.toInt) E rfl (tgt := 41) dX12_nextKind_27 (by decide) (fun c_16 => ?_) (fun c_16 => ?_)
      · skip
        replace hF := q_ifn hF c_16
        refine lv_aload_n hx hb dX12_nextKind_41 rfl (lv_at hl 1 rfl) ?_
        refine gs_X12_35_12 E hI ha dX12_nextKind_42 ?_
        refine lv_iconst (v := 3) hx hb dX12_nextKind_45 zki_3 ?_
        refine q_iald E hI (q_tk (k' := 34) hI ha rfl (Nat.succ_ne_zero _)) ⟨by decide, rfl⟩ (by decide) (by rw [q_lnk (v := 4650) hI (q_tk (k' := 34) hI ha rfl (Nat.succ_ne_zero _)) rfl (by decide)]; decide) dX12_nextKind_46 ?_
        refine lv_topi (fun f_17 ef_17 => ?_)
        replace hF := q_letX hF ef_17
        have if_17 : f_17.toInt = m_c X σ a 3 := m_rd ef_17 (by decide)
        refine lv_iconst (v := 1) hx hb dX12_nextKind_47 zki_1 ?_
        refine q_icmp_ne (A := f_17.toInt) (B := 1) E rfl (by decide) (tgt := 66) dX12_nextKind_48 (by decide) (fun c_18 => ?_) (fun c_18 => ?_)
        · skip
          replace hF := q_ifn hF c_18
          refine lv_aload_n hx hb dX12_nextKind_66 rfl (lv_at hl 1 rfl) ?_
          refine gs_X12_35_12 E hI ha dX12_nextKind_67 ?_
          refine lv_iconst (v := 5) hx hb dX12_nextKind_70 zki_5 ?_
          refine q_iald E hI (q_tk (k' := 34) hI ha rfl (Nat.succ_ne_zero _)) ⟨by decide, rfl⟩ (by decide) (by rw [q_lnk (v := 4650) hI (q_tk (k' := 34) hI ha rfl (Nat.succ_ne_zero _)) rfl (by decide)]; decide) dX12_nextKind_71 ?_
          refine lv_topi (fun f_19 ef_19 => ?_)
          replace hF := q_letX hF ef_19
          have if_19 : f_19.toInt = m_c X σ a 5 := m_rd ef_19 (by decide)
          exact q_reti E hr hlk hI ⟨rfl, (by first | (clear if_2 c_3 if_7 c_8 c_16 if_17 c_18; omega) | omega), (hF.trans hout)⟩ dX12_nextKind_72
        · skip
          replace hF := q_ifp hF c_18
          refine lv_aload_n hx hb dX12_nextKind_51 rfl (lv_at hl 1 rfl) ?_
          refine gs_X12_35_12 E hI ha dX12_nextKind_52 ?_
          refine lv_iconst (v := 5) hx hb dX12_nextKind_55 zki_5 ?_
          refine q_iald E hI (q_tk (k' := 34) hI ha rfl (Nat.succ_ne_zero _)) ⟨by decide, rfl⟩ (by decide) (by rw [q_lnk (v := 4650) hI (q_tk (k' := 34) hI ha rfl (Nat.succ_ne_zero _)) rfl (by decide)]; decide) dX12_nextKind_56 ?_
          refine lv_topi (fun f_20 ef_20 => ?_)
          replace hF := q_letX hF ef_20
          have if_20 : f_20.toInt = m_c X σ a 5 := m_rd ef_20 (by decide)
          refine lv_iload_n hx hb dX12_nextKind_57 rfl (lv_at hl 0 rfl) ?_
          refine lv_iadd hx hb dX12_nextKind_58 ?_
          refine lv_topi (fun z_21 ez_21 => ?_)
          replace hF := q_letX hF ez_21
          have iz_21 := q_addI (A := (m_c X σ a 5)) (B := (m_c X σ a 0)) ez_21 if_20 if_1 (by first | (clear if_2 c_3 if_7 c_8 c_16 if_17 c_18; omega) | omega) (by first | (clear if_2 c_3 if_7 c_8 c_16 if_17 c_18; omega) | omega)
          refine lv_iconst (v := 1) hx hb dX12_nextKind_59 zki_1 ?_
          refine lv_isub hx hb dX12_nextKind_60 ?_
          refine lv_topi (fun z_22 ez_22 => ?_)
          replace hF := q_letX hF ez_22
          have iz_22 := q_subI (A := ((m_c X σ a 5) + (m_c X σ a 0))) (B := 1) ez_22 iz_21 (by decide) (by first | (clear if_2 c_3 if_7 c_8 c_16 if_17 c_18; omega) | omega) (by first | (clear if_2 c_3 if_7 c_8 c_16 if_17 c_18; omega) | omega)
          refine lv_iload_n hx hb dX12_nextKind_61 rfl (lv_at hl 0 rfl) ?_
          refine lv_irem hx hb dX12_nextKind_62 (q_ne0 (by first | (clear if_2 c_3 if_7 c_8 c_16 if_17 c_18; omega) | omega)) ?_
          refine lv_topi (fun z_23 ez_23 => ?_)
          replace hF := q_letX hF (ez_23.trans (q_remI _ _))
          have rmz_23 := m_rem ez_23 (by first | (clear if_2 c_3 if_7 c_8 c_16 if_17 c_18; omega) | omega) (by first | (clear if_2 c_3 if_7 c_8 c_16 if_17 c_18; omega) | omega)
          refine lv_goto (tgt := 72) hx hb dX12_nextKind_63 (by decide) ?_
          exact q_reti E hr hlk hI ⟨rfl, (by first | (clear hh if_2 c_3 if_7 c_8 c_16 if_17 c_18; omega) | omega), (hF.trans hout)⟩ dX12_nextKind_72
      · skip
        replace hF := q_ifp hF c_16
        refine lv_aload_n hx hb dX12_nextKind_30 rfl (lv_at hl 1 rfl) ?_
        refine gs_X12_35_12 E hI ha dX12_nextKind_31 ?_
        refine lv_iconst (v := 5) hx hb dX12_nextKind_34 zki_5 ?_
        refine q_iald E hI (q_tk (k' := 34) hI ha rfl (Nat.succ_ne_zero _)) ⟨by decide, rfl⟩ (by decide) (by rw [q_lnk (v := 4650) hI (q_tk (k' := 34) hI ha rfl (Nat.succ_ne_zero _)) rfl (by decide)]; decide) dX12_nextKind_35 ?_
        refine lv_topi (fun f_24 ef_24 => ?_)
        replace hF := q_letX hF ef_24
        have if_24 : f_24.toInt = m_c X σ a 5 := m_rd ef_24 (by decide)
        refine lv_iconst (v := 1) hx hb dX12_nextKind_36 zki_1 ?_
        refine lv_iadd hx hb dX12_nextKind_37 ?_
        refine lv_topi (fun z_25 ez_25 => ?_)
        replace hF := q_letX hF ez_25
        have iz_25 := q_addI (A := (m_c X σ a 5)) (B := 1) ez_25 if_24 (by decide) (by first | (clear if_1 if_2 c_3 if_7 c_8 c_16; omega) | omega) (by first | (clear if_2 c_3 if_7 c_8 c_16; omega) | omega)
        refine lv_iload_n hx hb dX12_nextKind_38 rfl (lv_at hl 0 rfl) ?_
        refine lv_irem hx hb dX12_nextKind_39 (q_ne0 (by first | (clear if_2 c_3 if_7 c_8 c_16 if_24 iz_25; omega) | omega)) ?_
        refine lv_topi (fun z_26 ez_26 => ?_)
        replace hF := q_letX hF (ez_26.trans (q_remI _ _))
        have rmz_26 := m_rem ez_26 (by first | (clear if_1 if_2 c_3 if_7 c_8 c_16; omega) | omega) (by first | (clear if_2 c_3 if_7 c_8 c_16 if_24 iz_25; omega) | omega)
        exact q_reti E hr hlk hI ⟨rfl, (by first | (clear hh if_2 c_3 if_7 c_8 c_16 if_24 iz_25; omega) | omega), (hF.trans hout)⟩ dX12_nextKind_40

set_option maxRecDepth 100000 in
set_option maxHeartbeats 4000000 in
theorem c_X12_behindOf (l : Launch) (X : XW) (σ : ST) (a : Nat) (v1 : Int32) (ha : q_kd X a = 12) (hG : m_G (m_c X σ a)) (h0 : 0 ≤ v1.toInt ∧ v1.toInt < m_c X σ a 2) : Met l yX12_behindOf (q_ws yX12_behindOf cX12_behindOf 2 (some .int)) (q_rm 0 0) (q_P X σ [.ref a, .int v1]) (q_Qi X 9 σ (fun (r : Int32) (σ' : ST) => σ' = σ ∧ (0 ≤ r.toInt ∧ r.toInt < m_c X σ a 2) ∧ ((v1.toInt + 1 < m_c X σ a 2 → r.toInt = v1.toInt + 1) ∧ (v1.toInt + 1 = m_c X σ a 2 → r.toInt = 0)) ∧ r = F_X12_behindOf X σ a v1)) 0 0 (q_reg X) := by
  refine q_met 9 (by first | exact rfl | decide +kernel) rfl (Nat.le_of_ble_eq_true rfl) (fun p e s m below meth c E hml hr hlk hI ls hl => ?_)
  have hx := E.1
  have hb := E.2.1
  have hl : lv_has ls 2 [(0, .ref a), (1, .int v1)] := hl
  have hh := hG.hd
  obtain ⟨out, hout⟩ : ∃ o, o = F_X12_behindOf X σ a v1 := ⟨_, rfl⟩
  have hF := hout.symm
  unfold F_X12_behindOf at hF
  refine lv_iload_n hx hb dX12_behindOf_0 rfl (lv_at hl 1 rfl) ?_
  refine lv_iconst (v := 1) hx hb dX12_behindOf_1 zki_1 ?_
  refine lv_iadd hx hb dX12_behindOf_2 ?_
  refine lv_topi (fun z_1 ez_1 => ?_)
  replace hF := q_letX hF ez_1
  have iz_1 := q_addI (A := v1.toInt) (B := 1) ez_1 rfl (by decide) (by first | (clear h0 hh; omega) | omega) (by first | (clear h0; omega) | omega)
  refine lv_aload_n hx hb dX12_behindOf_3 rfl (lv_at hl 0 rfl) ?_
  refine gs_X12_35_12 E hI ha dX12_behindOf_4 ?_
  refine lv_iconst (v := 2) hx hb dX12_behindOf_7 zki_2 ?_
  refine q_iald E hI (q_tk (k' := 34) hI ha rfl (Nat.succ_ne_zero _)) ⟨by decide, rfl⟩ (by decide) (by rw [q_lnk (v := 4650) hI (q_tk (k' := 34) hI ha rfl (Nat.succ_ne_zero _)) rfl (by decide)]; decide) dX12_behindOf_8 ?_
  refine lv_topi (fun f_2 ef_2 => ?_)
  replace hF := q_letX hF ef_2
  have if_2 : f_2.toInt = m_c X σ a 2 := m_rd ef_2 (by decide)
  refine lv_irem hx hb dX12_behindOf_9 (q_ne0 (by first | (clear h0 hh; omega) | omega)) ?_
  refine lv_topi (fun z_3 ez_3 => ?_)
  replace hF := q_letX hF (ez_3.trans (q_remI _ _))
  have rmz_3 := m_rem ez_3 (by first | (clear h0 hh if_2; omega) | omega) (by first | (clear h0; omega) | omega)
  exact q_reti E hr hlk hI ⟨rfl, (by first | (clear h0 hh iz_1; omega) | omega), (by first | (clear h0 hh; omega) | omega), (hF.trans hout)⟩ dX12_behindOf_10

set_option maxRecDepth 100000 in
set_option maxHeartbeats 4000000 in
theorem c_X12_waitsOf (l : Launch) (X : XW) (σ : ST) (a : Nat) (v1 : Int32) (ha : q_kd X a = 12) (hG : m_G (m_c X σ a)) (h0 : 0 ≤ v1.toInt ∧ v1.toInt < m_c X σ a 2) : Met l yX12_waitsOf (q_ws yX12_waitsOf cX12_waitsOf 3 (some .int)) (q_rm 1 21) (q_P X σ [.ref a, .int v1]) (q_Qi X 9 σ (fun (r : Int32) (σ' : ST) => σ' = σ ∧ (0 ≤ r.toInt ∧ r.toInt < m_c X σ a 2) ∧ r = F_X12_waitsOf X σ a v1)) 0 0 (q_reg X) := by
  refine q_met 9 (by first | exact rfl | decide +kernel) rfl (Nat.le_of_ble_eq_true rfl) (fun p e s m below meth c E hml hr hlk hI ls hl => ?_)
  have hx := E.1
  have hb := E.2.1
  have hl : lv_has ls 3 [(0, .ref a), (1, .int v1)] := hl
  have hh := hG.hd
  obtain ⟨out, hout⟩ : ∃ o, o = F_X12_waitsOf X σ a v1 := ⟨_, rfl⟩
  have hF := hout.symm
  unfold F_X12_waitsOf at hF
  refine lv_aload_n hx hb dX12_waitsOf_0 rfl (lv_at hl 0 rfl) ?_
  refine gs_X12_35_12 E hI ha dX12_waitsOf_1 ?_
  refine lv_bipush (v := 7) hx hb dX12_waitsOf_4 zkb_7 ?_
  refine q_iald E hI (q_tk (k' := 34) hI ha rfl (Nat.succ_ne_zero _)) ⟨by decide, rfl⟩ (by decide) (by rw [q_lnk (v := 4650) hI (q_tk (k' := 34) hI ha rfl (Nat.succ_ne_zero _)) rfl (by decide)]; decide) dX12_waitsOf_6 ?_
  refine lv_topi (fun f_1 ef_1 => ?_)
  replace hF := q_letX hF ef_1
  have if_1 : f_1.toInt = m_c X σ a 7 := m_rd ef_1 (by decide)
  refine lv_iconst (v := 1) hx hb dX12_waitsOf_7 zki_1 ?_
  refine q_icmp_ne (A := f_1.toInt) (B := 1) E rfl (by decide) (tgt := 25) dX12_waitsOf_8 (by decide) (fun c_2 => ?_) (fun c_2 => ?_)
  · skip
    replace hF := q_ifn hF c_2
    refine lv_aload_n hx hb dX12_waitsOf_25 rfl (lv_at hl 0 rfl) ?_
    refine gs_X12_35_12 E hI ha dX12_waitsOf_26 ?_
    refine lv_bipush (v := 6) hx hb dX12_waitsOf_29 zkb_6 ?_
    refine q_iald E hI (q_tk (k' := 34) hI ha rfl (Nat.succ_ne_zero _)) ⟨by decide, rfl⟩ (by decide) (by rw [q_lnk (v := 4650) hI (q_tk (k' := 34) hI ha rfl (Nat.succ_ne_zero _)) rfl (by decide)]; decide) dX12_waitsOf_31 ?_
    refine lv_topi (fun f_3 ef_3 => ?_)
    replace hF := q_letX hF ef_3
    have if_3 : f_3.toInt = m_c X σ a 6 := m_rd ef_3 (by decide)
    refine lv_istore_n (lv' := [(2, .int f_3), (0, .ref a), (1, .int v1)]) hx hb dX12_waitsOf_32 rfl hl (by decide) rfl (fun ls hl => ?_)
    refine lv_iload_n hx hb dX12_waitsOf_33 rfl (lv_at hl 2 rfl) ?_
    refine lv_iload_n hx hb dX12_waitsOf_34 rfl (lv_at hl 0 rfl) ?_
    refine lv_isub hx hb dX12_waitsOf_35 ?_
    refine lv_topi (fun z_4 ez_4 => ?_)
    replace hF := q_letX hF ez_4
    have iz_4 := q_subI (A := v1.toInt) (B := (m_c X σ a 6)) ez_4 rfl if_3 (by first | (clear h0 if_1 c_2; omega) | omega) (by first | (clear h0 if_1 c_2; omega) | omega)
    refine lv_aload_n hx hb dX12_waitsOf_36 rfl (lv_at hl 1 rfl) ?_
    refine gs_X12_35_12 E hI ha dX12_waitsOf_37 ?_
    refine lv_iconst (v := 2) hx hb dX12_waitsOf_40 zki_2 ?_
    refine q_iald E hI (q_tk (k' := 34) hI ha rfl (Nat.succ_ne_zero _)) ⟨by decide, rfl⟩ (by decide) (by rw [q_lnk (v := 4650) hI (q_tk (k' := 34) hI ha rfl (Nat.succ_ne_zero _)) rfl (by decide)]; decide) dX12_waitsOf_41 ?_
    refine lv_topi (fun f_5 ef_5 => ?_)
    replace hF := q_letX hF ef_5
    have if_5 : f_5.toInt = m_c X σ a 2 := m_rd ef_5 (by decide)
    refine lv_iadd hx hb dX12_waitsOf_42 ?_
    refine lv_topi (fun z_6 ez_6 => ?_)
    replace hF := q_letX hF ez_6
    have iz_6 := q_addI (A := (v1.toInt - (m_c X σ a 6))) (B := (m_c X σ a 2)) ez_6 iz_4 if_5 (by first | (clear h0 if_1 c_2; omega) | omega) (by first | (clear h0 if_1 c_2; omega) | omega)
    refine lv_aload_n hx hb dX12_waitsOf_43 rfl (lv_at hl 1 rfl) ?_
    refine gs_X12_35_12 E hI ha dX12_waitsOf_44 ?_
    refine lv_iconst (v := 2) hx hb dX12_waitsOf_47 zki_2 ?_
    refine q_iald E hI (q_tk (k' := 34) hI ha rfl (Nat.succ_ne_zero _)) ⟨by decide, rfl⟩ (by decide) (by rw [q_lnk (v := 4650) hI (q_tk (k' := 34) hI ha rfl (Nat.succ_ne_zero _)) rfl (by decide)]; decide) dX12_waitsOf_48 ?_
    refine lv_topi (fun f_7 ef_7 => ?_)
    replace hF := q_letX hF ef_7
    have if_7 : f_7.toInt = m_c X σ a 2 := m_rd ef_7 (by decide)
    refine lv_irem hx hb dX12_waitsOf_49 (q_ne0 (by first | (clear h0 hh if_1 c_2; omega) | omega)) ?_
    refine lv_topi (fun z_8 ez_8 => ?_)
    replace hF := q_letX hF (ez_8.trans (q_remI _ _))
    have rmz_8 := m_rem ez_8 (by first | (clear h0 if_1 c_2; omega) | omega) (by first | (clear h0 if_1 c_2; omega) | omega)
    exact q_reti E hr hlk hI ⟨rfl, (by first | (clear h0 hh if_1 c_2 if_3 iz_4 iz_6; omega) | omega), (hF.trans hout)⟩ dX12_waitsOf_50
  · skip
    replace hF := q_ifp hF c_2
    refine lv_aload_n hx hb dX12_waitsOf_11 rfl (lv_at hl 0 rfl) ?_
    refine lv_aload_n hx hb dX12_waitsOf_12 rfl (lv_at hl 0 rfl) ?_
    refine gs_X12_35_12 E hI ha dX12_waitsOf_13 ?_
    refine lv_bipush (v := 6) hx hb dX12_waitsOf_16 zkb_6 ?_
    refine q_iald E hI (q_tk (k' := 34) hI ha rfl (Nat.succ_ne_zero _)) ⟨by decide, rfl⟩ (by decide) (by rw [q_lnk (v := 4650) hI (q_tk (k' := 34) hI ha rfl (Nat.succ_ne_zero _)) rfl (by decide)]; decide) dX12_waitsOf_18 ?_
    refine lv_topi (fun f_9 ef_9 => ?_)
    replace hF := q_letX hF ef_9
    have if_9 : f_9.toInt = m_c X σ a 6 := m_rd ef_9 (by decide)
    refine q_ci (q_rV11_1 (rest := []) E (hml.trans hl.1.symm) hI (c_X12_behindOf l X σ a f_9 ha hG (by first | (clear h0; omega) | omega)) kv_X12_319 ha ⟨Nat.le_of_ble_eq_true rfl, Nat.le_of_ble_eq_true rfl⟩ (Nat.le_of_ble_eq_true rfl) dX12_waitsOf_19) hI (Nat.le_of_ble_eq_true rfl) (fun r_10 σ_11 H locs hpσ_11 hkσ_11 hI => ?_)
    have ahpσ_11 := hpσ_11.1
    have bhpσ_11 := hpσ_11.2.1
    have chpσ_11 := hpσ_11.2.2.1
    have dhpσ_11 := hpσ_11.2.2.2
    clear hpσ_11
    replace hI := q_Irw ahpσ_11 hI
    replace hF := q_letX hF dhpσ_11
    refine lv_goto (tgt := 32) hx hb dX12_waitsOf_22 (by decide) ?_
    refine lv_istore_n (lv' := [(2, .int r_10), (0, .ref a), (1, .int v1)]) hx hb dX12_waitsOf_32 rfl hl (by decide) rfl (fun ls hl => ?_)
    refine lv_iload_n hx hb dX12_waitsOf_33 rfl (lv_at hl 2 rfl) ?_
    refine lv_iload_n hx hb dX12_waitsOf_34 rfl (lv_at hl 0 rfl) ?_
    refine lv_isub hx hb dX12_waitsOf_35 ?_
    refine lv_topi (fun z_12 ez_12 => ?_)
    replace hF := q_letX hF ez_12
    have iz_12 := q_subI (A := v1.toInt) (B := r_10.toInt) ez_12 rfl rfl (by first | (clear h0 if_1 c_2 if_9 ahpσ_11 chpσ_11 dhpσ_11; omega) | omega) (by first | (clear h0 if_1 c_2 if_9 ahpσ_11 chpσ_11 dhpσ_11; omega) | omega)
    refine lv_aload_n hx hb dX12_waitsOf_36 rfl (lv_at hl 1 rfl) ?_
    refine gs_X12_35_12 E hI ha dX12_waitsOf_37 ?_
    refine lv_iconst (v := 2) hx hb dX12_waitsOf_40 zki_2 ?_
    refine q_iald E hI (q_tk (k' := 34) hI ha rfl (Nat.succ_ne_zero _)) ⟨by decide, rfl⟩ (by decide) (by rw [q_lnk (v := 4650) hI (q_tk (k' := 34) hI ha rfl (Nat.succ_ne_zero _)) rfl (by decide)]; decide) dX12_waitsOf_41 ?_
    refine lv_topi (fun f_13 ef_13 => ?_)
    replace hF := q_letX hF ef_13
    have if_13 : f_13.toInt = m_c X σ a 2 := m_rd ef_13 (by decide)
    refine lv_iadd hx hb dX12_waitsOf_42 ?_
    refine lv_topi (fun z_14 ez_14 => ?_)
    replace hF := q_letX hF ez_14
    have iz_14 := q_addI (A := (v1.toInt - r_10.toInt)) (B := (m_c X σ a 2)) ez_14 iz_12 if_13 (by first | (clear h0 hh if_1 c_2 if_9 ahpσ_11 chpσ_11 dhpσ_11; omega) | omega) (by first | (clear h0 ahpσ_11 chpσ_11 dhpσ_11; omega) | omega)
    refine lv_aload_n hx hb dX12_waitsOf_43 rfl (lv_at hl 1 rfl) ?_
    refine gs_X12_35_12 E hI ha dX12_waitsOf_44 ?_
    refine lv_iconst (v := 2) hx hb dX12_waitsOf_47 zki_2 ?_
    refine q_iald E hI (q_tk (k' := 34) hI ha rfl (Nat.succ_ne_zero _)) ⟨by decide, rfl⟩ (by decide) (by rw [q_lnk (v := 4650) hI (q_tk (k' := 34) hI ha rfl (Nat.succ_ne_zero _)) rfl (by decide)]; decide) dX12_waitsOf_48 ?_
    refine lv_topi (fun f_15 ef_15 => ?_)
    replace hF := q_letX hF ef_15
    have if_15 : f_15.toInt = m_c X σ a 2 := m_rd ef_15 (by decide)
    refine lv_irem hx hb dX12_waitsOf_49 (q_ne0 (by first | (clear h0 hh if_1 c_2 if_9 ahpσ_11 bhpσ_11 chpσ_11 dhpσ_11; omega) | omega)) ?_
    refine lv_topi (fun z_16 ez_16 => ?_)
    replace hF := q_letX hF (ez_16.trans (q_remI _ _))
    have rmz_16 := m_rem ez_16 (by first | (clear h0 hh if_1 c_2 if_9 ahpσ_11 chpσ_11 dhpσ_11; omega) | omega) (by first | (clear h0 if_1 c_2 if_9 ahpσ_11 bhpσ_11 chpσ_11 dhpσ_11; omega) | omega)
    exact q_reti E hr hlk hI ⟨rfl, (by first | (clear h0 hh if_1 c_2 if_9 ahpσ_11 bhpσ_11 chpσ_11 dhpσ_11 iz_12 iz_14; omega) | omega), (hF.trans hout)⟩ dX12_waitsOf_50

set_option maxRecDepth 100000 in
set_option maxHeartbeats 4000000 in
theorem c_X12_fallsTo (l : Launch) (X : XW) (σ : ST) (a : Nat) (v1 : Int32) (v2 : Int32) (ha : q_kd X a = 12) (hG : m_G (m_c X σ a)) (h0 : 0 ≤ v1.toInt ∧ v1.toInt < m_c X σ a 2) (h1 : 0 ≤ v2.toInt ∧ v2.toInt ≤ 60) : Met l yX12_fallsTo (q_ws yX12_fallsTo cX12_fallsTo 5 (some .int)) (q_rm 2 43) (q_P X σ [.ref a, .int v1, .int v2]) (q_Qi X 9 σ (fun (r : Int32) (σ' : ST) => σ' = σ ∧ (0 ≤ r.toInt ∧ r.toInt < m_c X σ a 0) ∧ r = F_X12_fallsTo X σ a v1 v2)) 0 0 (q_reg X) := by
  refine q_met 9 (by first | exact rfl | decide +kernel) rfl (Nat.le_of_ble_eq_true rfl) (fun p e s m below meth c E hml hr hlk hI ls hl => ?_)
  have hx := E.1
  have hb := E.2.1
  have hl : lv_has ls 5 [(0, .ref a), (1, .int v1), (2, .int v2)] := hl
  have hh := hG.hd
  obtain ⟨out, hout⟩ : ∃ o, o = F_X12_fallsTo X σ a v1 v2 := ⟨_, rfl⟩
  have hF := hout.symm
  unfold F_X12_fallsTo at hF
  refine lv_aload_n hx hb dX12_fallsTo_0 rfl (lv_at hl 0 rfl) ?_
  refine gs_X12_35_12 E hI ha dX12_fallsTo_1 ?_
  refine lv_bipush (v := 7) hx hb dX12_fallsTo_4 zkb_7 ?_
  refine q_iald E hI (q_tk (k' := 34) hI ha rfl (Nat.succ_ne_zero _)) ⟨by decide, rfl⟩ (by decide) (by rw [q_lnk (v := 4650) hI (q_tk (k' := 34) hI ha rfl (Nat.succ_ne_zero _)) rfl (by decide)]; decide) dX12_fallsTo_6 ?_
  refine lv_topi (fun f_1 ef_1 => ?_)
  replace hF := q_letX hF ef_1
  have if_1 : f_1.toInt = m_c X σ a 7 := m_rd ef_1 (by decide)
  refine lv_iconst (v := 1) hx hb dX12_fallsTo_7 zki_1 ?_
  have J_25_2 : ∀ (x_2 : Int32) (H : Heap) (locs : List Loc) (ls : Array Slot), (0 ≤ x_2.toInt ∧ x_2.toInt < m_c X σ a 0) → (F_X12_fallsTo_J25_1 X σ a v1 v2 x_2 = out) → q_I X 9 σ s.heap locs σ H → lv_has ls 5 [(0, .ref a), (1, .int v1), (2, .int v2)] → W p l e (q_rm 2 43) s m ([.ref a, .int v1, .int v2] : List Value).toArray below meth c H locs 0 0 (MQ below (q_Qi X 9 σ (fun (r : Int32) (σ' : ST) => σ' = σ ∧ (0 ≤ r.toInt ∧ r.toInt < m_c X σ a 0) ∧ r = F_X12_fallsTo X σ a v1 v2)) ([.ref a, .int v1, .int v2] : List Value).toArray s 0 0 (q_reg X)) (F0 m 25 ls [.int x_2]) := by
    clear hF
    intro x_2 H locs ls j25 hF hI hl
    unfold F_X12_fallsTo_J25_1 at hF
    refine lv_istore_n (lv' := [(3, .int x_2), (0, .ref a), (1, .int v1), (2, .int v2)]) hx hb dX12_fallsTo_25 rfl hl (by decide) rfl (fun ls hl => ?_)
    refine lv_aload_n hx hb dX12_fallsTo_26 rfl (lv_at hl 1 rfl) ?_
    refine lv_iload_n hx hb dX12_fallsTo_27 rfl (lv_at hl 2 rfl) ?_
    refine q_ci (q_rV11_1 (rest := []) E (hml.trans hl.1.symm) hI (c_X12_waitsOf l X σ a v1 ha hG (by omega)) kv_X12_367 ha ⟨Nat.le_of_ble_eq_true rfl, Nat.le_of_ble_eq_true rfl⟩ (Nat.le_of_ble_eq_true rfl) dX12_fallsTo_28) hI (Nat.le_of_ble_eq_true rfl) (fun r_3 σ_4 H locs hpσ_4 hkσ_4 hI => ?_)
    have ahpσ_4 := hpσ_4.1
    have bhpσ_4 := hpσ_4.2.1
    have chpσ_4 := hpσ_4.2.2
    clear hpσ_4
    replace hI := q_Irw ahpσ_4 hI
    replace hF := q_letX hF chpσ_4
    refine lv_iload_n hx hb dX12_fallsTo_31 rfl (lv_at hl 3 rfl) ?_
    refine lv_aload_n hx hb dX12_fallsTo_32 rfl (lv_at hl 1 rfl) ?_
    refine gs_X12_35_12 E hI ha dX12_fallsTo_33 ?_
    refine lv_iconst (v := 2) hx hb dX12_fallsTo_36 zki_2 ?_
    refine q_iald E hI (q_tk (k' := 34) hI ha rfl (Nat.succ_ne_zero _)) ⟨by decide, rfl⟩ (by decide) (by rw [q_lnk (v := 4650) hI (q_tk (k' := 34) hI ha rfl (Nat.succ_ne_zero _)) rfl (by decide)]; decide) dX12_fallsTo_37 ?_
    refine lv_topi (fun f_5 ef_5 => ?_)
    replace hF := q_letX hF ef_5
    have if_5 : f_5.toInt = m_c X σ a 2 := m_rd ef_5 (by decide)
    have mb := m_mulI (a := v2.toInt) (A := 60) (b := (m_c X σ a 2)) (B := 6) (by first | (clear h0 h1 hh if_1 j25 ahpσ_4 bhpσ_4 chpσ_4 if_5; omega) | omega) (by first | (clear h0 h1 hh if_1 j25 ahpσ_4 bhpσ_4 chpσ_4 if_5; omega) | omega) (by first | (clear h0 h1 if_1 j25 ahpσ_4 bhpσ_4 chpσ_4; omega) | omega) (by first | (clear h0 h1 if_1 j25 ahpσ_4 bhpσ_4 chpσ_4; omega) | omega)
    refine lv_imul hx hb dX12_fallsTo_38 ?_
    refine lv_topi (fun z_6 ez_6 => ?_)
    replace hF := q_letX hF ez_6
    have iz_6 := q_mulI (A := v2.toInt) (B := (m_c X σ a 2)) ez_6 rfl if_5 (by first | (clear h0 h1 hh if_1 j25 ahpσ_4 bhpσ_4 chpσ_4 if_5; omega) | omega) (by first | (clear h0 h1 hh if_1 j25 ahpσ_4 bhpσ_4 chpσ_4 if_5; omega) | omega)
    refine lv_iadd hx hb dX12_fallsTo_39 ?_
    refine lv_topi (fun z_7 ez_7 => ?_)
    replace hF := q_letX hF ez_7
    have iz_7 := q_addI (A := r_3.toInt) (B := (v2.toInt * (m_c X σ a 2))) ez_7 rfl iz_6 (by first | (clear h0 h1 hh if_1 j25 ahpσ_4 chpσ_4 if_5; omega) | omega) (by first | (clear h0 h1 if_1 j25 ahpσ_4 chpσ_4; omega) | omega)
    refine lv_aload_n hx hb dX12_fallsTo_40 rfl (lv_at hl 1 rfl) ?_
    refine gs_X12_35_12 E hI ha dX12_fallsTo_41 ?_
    refine lv_iconst (v := 0) hx hb dX12_fallsTo_44 zki_0 ?_
    refine q_iald E hI (q_tk (k' := 34) hI ha rfl (Nat.succ_ne_zero _)) ⟨by decide, rfl⟩ (by decide) (by rw [q_lnk (v := 4650) hI (q_tk (k' := 34) hI ha rfl (Nat.succ_ne_zero _)) rfl (by decide)]; decide) dX12_fallsTo_45 ?_
    refine lv_topi (fun f_8 ef_8 => ?_)
    replace hF := q_letX hF ef_8
    have if_8 : f_8.toInt = m_c X σ a 0 := m_rd ef_8 (by decide)
    refine lv_irem hx hb dX12_fallsTo_46 (q_ne0 (by first | (clear h0 h1 if_1 j25 ahpσ_4 bhpσ_4 chpσ_4 if_5 mb iz_6 iz_7; omega) | omega)) ?_
    refine lv_topi (fun z_9 ez_9 => ?_)
    replace hF := q_letX hF (ez_9.trans (q_remI _ _))
    have rmz_9 := m_rem ez_9 (by first | (clear h0 h1 hh if_1 j25 ahpσ_4 chpσ_4 if_5 if_8; omega) | omega) (by first | (clear h0 h1 if_1 j25 ahpσ_4 bhpσ_4 chpσ_4 if_5 mb iz_6 iz_7; omega) | omega)
    refine lv_istore (lv' := [(4, .int z_9), (3, .int x_2), (0, .ref a), (1, .int v1), (2, .int v2)]) hx hb dX12_fallsTo_47 hl (by decide) rfl (fun ls hl => ?_)
    refine lv_aload_n hx hb dX12_fallsTo_49 rfl (lv_at hl 2 rfl) ?_
    refine gs_X12_35_12 E hI ha dX12_fallsTo_50 ?_
    refine lv_iconst (v := 3) hx hb dX12_fallsTo_53 zki_3 ?_
    refine q_iald E hI (q_tk (k' := 34) hI ha rfl (Nat.succ_ne_zero _)) ⟨by decide, rfl⟩ (by decide) (by rw [q_lnk (v := 4650) hI (q_tk (k' := 34) hI ha rfl (Nat.succ_ne_zero _)) rfl (by decide)]; decide) dX12_fallsTo_54 ?_
    refine lv_topi (fun f_10 ef_10 => ?_)
    replace hF := q_letX hF ef_10
    have if_10 : f_10.toInt = m_c X σ a 3 := m_rd ef_10 (by decide)
    refine q_if_ne (A := f_10.toInt) E rfl (tgt := 72) dX12_fallsTo_55 (by decide) (fun c_11 => ?_) (fun c_11 => ?_)
    · skip
      replace hF := q_ifn hF c_11
      refine lv_aload_n hx hb dX12_fallsTo_72 rfl (lv_at hl 2 rfl) ?_
      refine gs_X12_35_12 E hI ha dX12_fallsTo_73 ?_
      refine lv_iconst (v := 3) hx hb dX12_fallsTo_76 zki_3 ?_
      refine q_iald E hI (q_tk (k' := 34) hI ha rfl (Nat.succ_ne_zero _)) ⟨by decide, rfl⟩ (by decide) (by rw [q_lnk (v := 4650) hI (q_tk (k' := 34) hI ha rfl (Nat.succ_ne_zero _)) rfl (by decide)]; decide) dX12_fallsTo_77 ?_
      refine lv_topi (fun f_12 ef_12 => ?_)
      replace hF := q_letX hF ef_12
      have if_12 : f_12.toInt = m_c X σ a 3 := m_rd ef_12 (by decide)
      refine lv_iconst (v := 1) hx hb dX12_fallsTo_78 zki_1 ?_
      refine q_icmp_ne (A := f_12.toInt) (B := 1) E rfl (by decide) (tgt := 103) dX12_fallsTo_79 (by decide) (fun c_13 => ?_) (fun c_13 => ?_)
      · skip
        replace hF := q_ifn hF c_13
        refine lv_iload_n hx hb dX12_fallsTo_103 rfl (lv_at hl 1 rfl) ?_
        exact q_reti E hr hlk hI ⟨rfl, (by omega), (hF.trans hout)⟩ dX12_fallsTo_104
      · skip
        replace hF := q_ifp hF c_13
        refine lv_iload_n hx hb dX12_fallsTo_82 rfl (lv_at hl 1 rfl) ?_
        refine lv_aload_n hx hb dX12_fallsTo_83 rfl (lv_at hl 2 rfl) ?_
        refine gs_X12_35_12 E hI ha dX12_fallsTo_84 ?_
        refine lv_iconst (v := 0) hx hb dX12_fallsTo_87 zki_0 ?_
        refine q_iald E hI (q_tk (k' := 34) hI ha rfl (Nat.succ_ne_zero _)) ⟨by decide, rfl⟩ (by decide) (by rw [q_lnk (v := 4650) hI (q_tk (k' := 34) hI ha rfl (Nat.succ_ne_zero _)) rfl (by decide)]; decide) dX12_fallsTo_88 ?_
        refine lv_topi (fun f_14 ef_14 => ?_)
        replace hF := q_letX hF ef_14
        have if_14 : f_14.toInt = m_c X σ a 0 := m_rd ef_14 (by decide)
        refine lv_iadd hx hb dX12_fallsTo_89 ?_
        refine lv_topi (fun z_15 ez_15 => ?_)
        replace hF := q_letX hF ez_15
        have iz_15 := q_addI (A := x_2.toInt) (B := (m_c X σ a 0)) ez_15 rfl if_14 (by first | (clear h0 h1 if_1 ahpσ_4 bhpσ_4 chpσ_4 if_5 mb iz_6 iz_7 rmz_9 if_10 c_11 if_12 c_13; omega) | omega) (by first | (clear h0 h1 if_1 ahpσ_4 bhpσ_4 chpσ_4 if_5 mb iz_6 iz_7 rmz_9 if_10 c_11 if_12 c_13; omega) | omega)
        refine lv_iload hx hb dX12_fallsTo_90 (lv_at hl 0 rfl) ?_
        refine lv_isub hx hb dX12_fallsTo_92 ?_
        refine lv_topi (fun z_16 ez_16 => ?_)
        replace hF := q_letX hF ez_16
        have iz_16 := q_subI (A := (x_2.toInt + (m_c X σ a 0))) (B := z_9.toInt) ez_16 iz_15 rfl (by first | (clear h0 h1 hh if_1 ahpσ_4 bhpσ_4 chpσ_4 if_5 mb iz_6 iz_7 if_10 c_11 if_12 c_13; omega) | omega) (by first | (clear h0 h1 if_1 ahpσ_4 bhpσ_4 chpσ_4 if_5 mb iz_6 iz_7 if_10 c_11 if_12 c_13; omega) | omega)
        refine lv_aload_n hx hb dX12_fallsTo_93 rfl (lv_at hl 2 rfl) ?_
        refine gs_X12_35_12 E hI ha dX12_fallsTo_94 ?_
        refine lv_iconst (v := 0) hx hb dX12_fallsTo_97 zki_0 ?_
        refine q_iald E hI (q_tk (k' := 34) hI ha rfl (Nat.succ_ne_zero _)) ⟨by decide, rfl⟩ (by decide) (by rw [q_lnk (v := 4650) hI (q_tk (k' := 34) hI ha rfl (Nat.succ_ne_zero _)) rfl (by decide)]; decide) dX12_fallsTo_98 ?_
        refine lv_topi (fun f_17 ef_17 => ?_)
        replace hF := q_letX hF ef_17
        have if_17 : f_17.toInt = m_c X σ a 0 := m_rd ef_17 (by decide)
        refine lv_irem hx hb dX12_fallsTo_99 (q_ne0 (by first | (clear h0 h1 if_1 j25 ahpσ_4 bhpσ_4 chpσ_4 if_5 mb iz_6 iz_7 rmz_9 if_10 c_11 if_12 c_13 iz_15 iz_16; omega) | omega)) ?_
        refine lv_topi (fun z_18 ez_18 => ?_)
        replace hF := q_letX hF (ez_18.trans (q_remI _ _))
        have rmz_18 := m_rem ez_18 (by first | (clear h0 h1 hh if_1 ahpσ_4 bhpσ_4 chpσ_4 if_5 mb iz_6 iz_7 if_10 c_11 if_12 c_13; omega) | omega) (by first | (clear h0 h1 if_1 j25 ahpσ_4 bhpσ_4 chpσ_4 if_5 mb iz_6 iz_7 rmz_9 if_10 c_11 if_12 c_13 iz_15 iz_16; omega) | omega)
        refine lv_goto (tgt := 104) hx hb dX12_fallsTo_100 (by decide) ?_
        exact q_reti E hr hlk hI ⟨rfl, (by first | (clear h0 h1 hh if_1 j25 ahpσ_4 bhpσ_4 chpσ_4 if_5 mb iz_6 iz_7 rmz_9 if_10 c_11 if_12 c_13 iz_15 iz_16; omega) | omega), (hF.trans hout)⟩ dX12_fallsTo_104
    · skip
      replace hF := q_ifp hF c_11
      refine lv_iload_n hx hb dX12_fallsTo_58 rfl (lv_at hl 1 rfl) ?_
      refine lv_iload hx hb dX12_fallsTo_59 (lv_at hl 0 rfl) ?_
      refine lv_iadd hx hb dX12_fallsTo_61 ?_
      refine lv_topi (fun z_19 ez_19 => ?_)
      replace hF := q_letX hF ez_19
      have iz_19 := q_addI (A := x_2.toInt) (B := z_9.toInt) ez_19 rfl rfl (by first | (clear h0 h1 hh if_1 ahpσ_4 bhpσ_4 chpσ_4 if_5 mb iz_6 iz_7 if_8 if_10 c_11; omega) | omega) (by first | (clear h0 h1 if_1 ahpσ_4 bhpσ_4 chpσ_4 if_5 mb iz_6 iz_7 if_10 c_11; omega) | omega)
      refine lv_aload_n hx hb dX12_fallsTo_62 rfl (lv_at hl 2 rfl) ?_
      refine gs_X12_35_12 E hI ha dX12_fallsTo_63 ?_
      refine lv_iconst (v := 0) hx hb dX12_fallsTo_66 zki_0 ?_
      refine q_iald E hI (q_tk (k' := 34) hI ha rfl (Nat.succ_ne_zero _)) ⟨by decide, rfl⟩ (by decide) (by rw [q_lnk (v := 4650) hI (q_tk (k' := 34) hI ha rfl (Nat.succ_ne_zero _)) rfl (by decide)]; decide) dX12_fallsTo_67 ?_
      refine lv_topi (fun f_20 ef_20 => ?_)
      replace hF := q_letX hF ef_20
      have if_20 : f_20.toInt = m_c X σ a 0 := m_rd ef_20 (by decide)
      refine lv_irem hx hb dX12_fallsTo_68 (q_ne0 (by first | (clear h0 h1 if_1 j25 ahpσ_4 bhpσ_4 chpσ_4 if_5 mb iz_6 iz_7 rmz_9 if_10 c_11 iz_19; omega) | omega)) ?_
      refine lv_topi (fun z_21 ez_21 => ?_)
      replace hF := q_letX hF (ez_21.trans (q_remI _ _))
      have rmz_21 := m_rem ez_21 (by first | (clear h0 h1 hh if_1 ahpσ_4 bhpσ_4 chpσ_4 if_5 mb iz_6 iz_7 if_8 if_10 c_11 if_20; omega) | omega) (by first | (clear h0 h1 if_1 j25 ahpσ_4 bhpσ_4 chpσ_4 if_5 mb iz_6 iz_7 rmz_9 if_10 c_11 iz_19; omega) | omega)
      refine lv_goto (tgt := 104) hx hb dX12_fallsTo_69 (by decide) ?_
      exact q_reti E hr hlk hI ⟨rfl, (by first | (clear h0 h1 hh if_1 j25 ahpσ_4 bhpσ_4 chpσ_4 if_5 mb iz_6 iz_7 rmz_9 if_10 c_11 iz_19; omega) | omega), (hF.trans hout)⟩ dX12_fallsTo_104
  refine q_icmp_ne (A := f_1.toInt) (B := 1) E rfl (by decide) (tgt := 19) dX12_fallsTo_8 (by decide) (fun c_22 => ?_) (fun c_22 => ?_)
  · skip
    replace hF := q_ifn hF c_22
    refine lv_aload_n hx hb dX12_fallsTo_19 rfl (lv_at hl 0 rfl) ?_
    refine gs_X12_35_12 E hI ha dX12_fallsTo_20 ?_
    refine lv_iconst (v := 5) hx hb dX12_fallsTo_23 zki_5 ?_
    refine q_iald E hI (q_tk (k' := 34) hI ha rfl (Nat.succ_ne_zero _)) ⟨by decide, rfl⟩ (by decide) (by rw [q_lnk (v := 4650) hI (q_tk (k' := 34) hI ha rfl (Nat.succ_ne_zero _)) rfl (by decide)]; decide) dX12_fallsTo_24 ?_
    refine lv_topi (fun f_23 ef_23 => ?_)
    replace hF := q_letX hF ef_23
    have if_23 : f_23.toInt = m_c X σ a 5 := m_rd ef_23 (by decide)
    exact J_25_2 f_23 _ _ ls (by first | (clear h0 h1 if_1 c_22; omega) | omega) hF hI (lv_sub hl [0, 1, 2] rfl)
  · skip
    replace hF := q_ifp hF c_22
    refine lv_aload_n hx hb dX12_fallsTo_11 rfl (lv_at hl 0 rfl) ?_
    refine lv_iconst (v := 1) hx hb dX12_fallsTo_12 zki_1 ?_
    have kc_24 : (1 : Int32).toInt = 1 := zt_1
    refine q_ci (q_rV11_1 (rest := []) E (hml.trans hl.1.symm) hI (c_X12_nextKind l X σ a (1 : Int32) ha hG) kv_X12_315 ha ⟨Nat.le_of_ble_eq_true rfl, Nat.le_of_ble_eq_true rfl⟩ (Nat.le_of_ble_eq_true rfl) dX12_fallsTo_13) hI (Nat.le_of_ble_eq_true rfl) (fun r_25 σ_26 H locs hpσ_26 hkσ_26 hI => ?_)
    have ahpσ_26 := hpσ_26.1
    have bhpσ_26 := hpσ_26.2.1
    have chpσ_26 := hpσ_26.2.2
    clear hpσ_26
    replace hI := q_Irw ahpσ_26 hI
    replace hF := q_letX hF chpσ_26
    refine lv_goto (tgt := 25) hx hb dX12_fallsTo_16 (by decide) ?_
    exact J_25_2 r_25 _ _ ls (by omega) hF hI (lv_sub hl [0, 1, 2] rfl)

set_option maxRecDepth 100000 in
set_option maxHeartbeats 4000000 in
theorem c_X12_isImpossible (l : Launch) (X : XW) (σ : ST) (a : Nat) (v1 : Int32) (ha : q_kd X a = 12) (hG : m_G (m_c X σ a)) (h0 : 0 ≤ v1.toInt ∧ v1.toInt < m_c X σ a 2) (ho : 1 ≤ m_c X σ a 9) : Met l yX12_isImpossible (q_ws yX12_isImpossible cX12_isImpossible 2 (some .boolean)) (q_rm 4 91) (q_P X σ [.ref a, .int v1]) (q_Qi X 9 σ (fun (r : Int32) (σ' : ST) => σ' = σ ∧ (0 ≤ r.toInt ∧ r.toInt ≤ 1) ∧ r = F_X12_isImpossible X σ a v1)) 0 0 (q_reg X) := by
  refine q_met 9 (by first | exact rfl | decide +kernel) rfl (Nat.le_of_ble_eq_true rfl) (fun p e s m below meth c E hml hr hlk hI ls hl => ?_)
  have hx := E.1
  have hb := E.2.1
  have hl : lv_has ls 2 [(0, .ref a), (1, .int v1)] := hl
  have hh := hG.hd
  obtain ⟨out, hout⟩ : ∃ o, o = F_X12_isImpossible X σ a v1 := ⟨_, rfl⟩
  have hF := hout.symm
  unfold F_X12_isImpossible at hF
  refine lv_aload_n hx hb dX12_isImpossible_0 rfl (lv_at hl 0 rfl) ?_
  refine lv_iload_n hx hb dX12_isImpossible_1 rfl (lv_at hl 1 rfl) ?_
  refine lv_aload_n hx hb dX12_isImpossible_2 rfl (lv_at hl 0 rfl) ?_
  refine gs_X12_35_12 E hI ha dX12_isImpossible_3 ?_
  refine lv_iconst (v := 5) hx hb dX12_isImpossible_6 zki_5 ?_
  refine q_iald E hI (q_tk (k' := 34) hI ha rfl (Nat.succ_ne_zero _)) ⟨by decide, rfl⟩ (by decide) (by rw [q_lnk (v := 4650) hI (q_tk (k' := 34) hI ha rfl (Nat.succ_ne_zero _)) rfl (by decide)]; decide) dX12_isImpossible_7 ?_
  refine lv_topi (fun f_1 ef_1 => ?_)
  replace hF := q_letX hF ef_1
  have if_1 : f_1.toInt = m_c X σ a 5 := m_rd ef_1 (by decide)
  refine q_ci (q_rV11_2 (rest := []) E (hml.trans hl.1.symm) hI (c_X12_unknownOf l X σ a v1 f_1 ha hG (by omega) (by first | (clear h0 ho; omega) | omega)) kv_X12_336 ha ⟨Nat.le_of_ble_eq_true rfl, Nat.le_of_ble_eq_true rfl⟩ (Nat.le_of_ble_eq_true rfl) dX12_isImpossible_8) hI (Nat.le_of_ble_eq_true rfl) (fun r_2 σ_3 H locs hpσ_3 hkσ_3 hI => ?_)
  have ahpσ_3 := hpσ_3.1
  have bhpσ_3 := hpσ_3.2.1
  have chpσ_3 := hpσ_3.2.2.1
  have dhpσ_3 := hpσ_3.2.2.2
  clear hpσ_3
  replace hI := q_Irw ahpσ_3 hI
  replace hF := q_letX hF dhpσ_3
  have ir_2 : r_2.toInt = (m_U (m_c X σ a) v1.toInt (m_c X σ a 5)) := (by first | exact bhpσ_3 | (rw [bhpσ_3, if_1]) | (simp only [bhpσ_3, if_1]))
  refine lv_aload_n hx hb dX12_isImpossible_11 rfl (lv_at hl 0 rfl) ?_
  refine gs_X12_35_12 E hI ha dX12_isImpossible_12 ?_
  refine lv_aload_n hx hb dX12_isImpossible_15 rfl (lv_at hl 0 rfl) ?_
  refine gs_X12_35_12 E hI ha dX12_isImpossible_16 ?_
  refine lv_bipush (v := 9) hx hb dX12_isImpossible_19 zkb_9 ?_
  refine q_iald E hI (q_tk (k' := 34) hI ha rfl (Nat.succ_ne_zero _)) ⟨by decide, rfl⟩ (by decide) (by rw [q_lnk (v := 4650) hI (q_tk (k' := 34) hI ha rfl (Nat.succ_ne_zero _)) rfl (by decide)]; decide) dX12_isImpossible_21 ?_
  refine lv_topi (fun f_4 ef_4 => ?_)
  replace hF := q_letX hF ef_4
  have if_4 : f_4.toInt = m_c X σ a 9 := m_rd ef_4 (by decide)
  refine lv_iconst (v := 1) hx hb dX12_isImpossible_22 zki_1 ?_
  refine lv_isub hx hb dX12_isImpossible_23 ?_
  refine lv_topi (fun z_5 ez_5 => ?_)
  replace hF := q_letX hF ez_5
  have iz_5 := q_subI (A := (m_c X σ a 9)) (B := 1) ez_5 if_4 (by decide) (by first | (clear h0 if_1 ahpσ_3 bhpσ_3 chpσ_3 dhpσ_3 ir_2; omega) | omega) (by first | (clear h0 if_1 ahpσ_3 bhpσ_3 chpσ_3 dhpσ_3 ir_2; omega) | omega)
  refine q_ci (q_runS (As := [.int z_5]) (rest := [.ref (q_rf X a 20), .int r_2]) E (hml.trans hl.1.symm) hI (c_X12_laid l X σ z_5 (by first | (clear h0 if_1 ahpσ_3 bhpσ_3 chpσ_3 dhpσ_3 ir_2; omega) | omega)) ks_X12_279 rfl ⟨Nat.le_of_ble_eq_true rfl, Nat.le_of_ble_eq_true rfl⟩ ⟨Nat.le_refl _, Nat.le_refl _⟩ rfl (Nat.le_of_ble_eq_true rfl) dX12_isImpossible_24) hI (Nat.le_of_ble_eq_true rfl) (fun r_6 σ_7 H locs hpσ_7 hkσ_7 hI => ?_)
  have ahpσ_7 := hpσ_7.1
  have bhpσ_7 := hpσ_7.2.1
  have chpσ_7 := hpσ_7.2.2
  clear hpσ_7
  replace hI := q_Irw ahpσ_7 hI
  replace hF := q_letX hF chpσ_7
  have ir_6 : r_6.toInt = (94 + 7 * ((m_c X σ a 9) - 1)) := (by first | (clear h0 ho hh if_1 ahpσ_3 bhpσ_3 chpσ_3 dhpσ_3 ir_2 ahpσ_7 chpσ_7; omega) | omega)
  refine lv_iconst (v := 2) hx hb dX12_isImpossible_27 zki_2 ?_
  refine lv_iadd hx hb dX12_isImpossible_28 ?_
  refine lv_topi (fun z_8 ez_8 => ?_)
  replace hF := q_letX hF ez_8
  have iz_8 := q_addI (A := (94 + 7 * ((m_c X σ a 9) - 1))) (B := 2) ez_8 ir_6 (by decide) (by first | (clear h0 if_1 ahpσ_3 bhpσ_3 chpσ_3 dhpσ_3 ir_2 ahpσ_7 bhpσ_7 chpσ_7 ir_6; omega) | omega) (by first | (clear h0 if_1 ahpσ_3 bhpσ_3 chpσ_3 dhpσ_3 ir_2 ahpσ_7 bhpσ_7 chpσ_7 ir_6; omega) | omega)
  refine q_iald E hI (q_tk (k' := 34) hI ha rfl (Nat.succ_ne_zero _)) ⟨by decide, rfl⟩ (by first | (clear h0 if_1 ahpσ_3 bhpσ_3 chpσ_3 dhpσ_3 ir_2 ahpσ_7 bhpσ_7 chpσ_7 ir_6; omega) | omega) (by rw [q_lnk (v := 4650) hI (q_tk (k' := 34) hI ha rfl (Nat.succ_ne_zero _)) rfl (by decide)]; omega) dX12_isImpossible_29 ?_
  refine lv_topi (fun f_9 ef_9 => ?_)
  replace hF := q_letX hF ef_9
  have if_9 : f_9.toInt = m_c X σ a ((94 + 7 * ((m_c X σ a 9) - 1)) + 2) := m_rd ef_9 iz_8
  refine q_icmp_ge (A := r_2.toInt) (B := f_9.toInt) E rfl rfl (tgt := 37) dX12_isImpossible_30 (by decide) (fun c_10 => ?_) (fun c_10 => ?_)
  · skip
    replace hF := q_ifn hF (Int.not_lt.mpr c_10)
    refine lv_iconst (v := 0) hx hb dX12_isImpossible_37 zki_0 ?_
    have hrv : (0 : Int32).toInt = 0 := zt_0
    exact q_retz E hr hlk hI ⟨by decide, by decide⟩ ⟨rfl, ⟨by decide, by decide⟩, (hF.trans hout)⟩ dX12_isImpossible_38
  · skip
    replace hF := q_ifp hF c_10
    refine lv_iconst (v := 1) hx hb dX12_isImpossible_33 zki_1 ?_
    refine lv_goto (tgt := 38) hx hb dX12_isImpossible_34 (by decide) ?_
    have hrv : (1 : Int32).toInt = 1 := zt_1
    exact q_retz E hr hlk hI ⟨by decide, by decide⟩ ⟨rfl, ⟨by decide, by decide⟩, (hF.trans hout)⟩ dX12_isImpossible_38

set_option maxRecDepth 100000 in
set_option maxHeartbeats 4000000 in
theorem c_X12_whyNot (l : Launch) (X : XW) (σ : ST) (a : Nat) (v1 : Int32) (ha : q_kd X a = 12) (hG : m_G (m_c X σ a)) : Met l yX12_whyNot (q_ws yX12_whyNot cX12_whyNot 2 (some .int)) (q_rm 2 46) (q_P X σ [.ref a, .int v1]) (q_Qi X 9 σ (fun (r : Int32) (σ' : ST) => σ' = σ ∧ (0 ≤ r.toInt) ∧ (r.toInt = 0 → (0 ≤ v1.toInt ∧ v1.toInt < m_c X σ a 2 ∧ m_c X σ a 7 = 1 ∧ v1.toInt ≠ m_c X σ a 6)) ∧ r = F_X12_whyNot X σ a v1)) 0 0 (q_reg X) := by
  refine q_met 9 (by first | exact rfl | decide +kernel) rfl (Nat.le_of_ble_eq_true rfl) (fun p e s m below meth c E hml hr hlk hI ls hl => ?_)
  have hx := E.1
  have hb := E.2.1
  have hl : lv_has ls 2 [(0, .ref a), (1, .int v1)] := hl
  have hh := hG.hd
  obtain ⟨out, hout⟩ : ∃ o, o = F_X12_whyNot X σ a v1 := ⟨_, rfl⟩
  have hF := hout.symm
  unfold F_X12_whyNot at hF
  refine lv_aload_n hx hb dX12_whyNot_0 rfl (lv_at hl 0 rfl) ?_
  refine lv_iload_n hx hb dX12_whyNot_1 rfl (lv_at hl 1 rfl) ?_
  refine q_ci (q_rV11_1 (rest := []) E (hml.trans hl.1.symm) hI (c_X12_isPlayerAt l X σ a v1 ha hG) kv_X12_290 ha ⟨Nat.le_of_ble_eq_true rfl, Nat.le_of_ble_eq_true rfl⟩ (Nat.le_of_ble_eq_true rfl) dX12_whyNot_2) hI (Nat.le_of_ble_eq_true rfl) (fun r_1 σ_2 H locs hpσ_2 hkσ_2 hI => ?_)
  have ahpσ_2 := hpσ_2.1
  have bhpσ_2 := hpσ_2.2.1
  have chpσ_2 := hpσ_2.2.2.1
  have dhpσ_2 := hpσ_2.2.2.2
  clear hpσ_2
  replace hI := q_Irw ahpσ_2 hI
  replace hF := q_letX hF dhpσ_2
  refine q_if_ne (A := r_1.toInt) E rfl (tgt := 12) dX12_whyNot_5 (by decide) (fun c_3 => ?_) (fun c_3 => ?_)
  · skip
    replace hF := q_ifn hF c_3
    replace c_3 := q_ifOne bhpσ_2 c_3
    replace chpσ_2 := q_ifYes chpσ_2 c_3
    refine lv_aload_n hx hb dX12_whyNot_12 rfl (lv_at hl 0 rfl) ?_
    refine gs_X12_35_12 E hI ha dX12_whyNot_13 ?_
    refine lv_bipush (v := 7) hx hb dX12_whyNot_16 zkb_7 ?_
    refine q_iald E hI (q_tk (k' := 34) hI ha rfl (Nat.succ_ne_zero _)) ⟨by decide, rfl⟩ (by decide) (by rw [q_lnk (v := 4650) hI (q_tk (k' := 34) hI ha rfl (Nat.succ_ne_zero _)) rfl (by decide)]; decide) dX12_whyNot_18 ?_
    refine lv_topi (fun f_4 ef_4 => ?_)
    replace hF := q_letX hF ef_4
    have if_4 : f_4.toInt = m_c X σ a 7 := m_rd ef_4 (by decide)
    refine q_if_ne (A := f_4.toInt) E rfl (tgt := 27) dX12_whyNot_19 (by decide) (fun c_5 => ?_) (fun c_5 => ?_)
    · skip
      replace hF := q_ifn hF c_5
      refine lv_aload_n hx hb dX12_whyNot_27 rfl (lv_at hl 0 rfl) ?_
      refine gs_X12_35_12 E hI ha dX12_whyNot_28 ?_
      refine lv_bipush (v := 6) hx hb dX12_whyNot_31 zkb_6 ?_
      refine q_iald E hI (q_tk (k' := 34) hI ha rfl (Nat.succ_ne_zero _)) ⟨by decide, rfl⟩ (by decide) (by rw [q_lnk (v := 4650) hI (q_tk (k' := 34) hI ha rfl (Nat.succ_ne_zero _)) rfl (by decide)]; decide) dX12_whyNot_33 ?_
      refine lv_topi (fun f_6 ef_6 => ?_)
      replace hF := q_letX hF ef_6
      have if_6 : f_6.toInt = m_c X σ a 6 := m_rd ef_6 (by decide)
      refine lv_iload_n hx hb dX12_whyNot_34 rfl (lv_at hl 1 rfl) ?_
      refine q_icmp_ne (A := f_6.toInt) (B := v1.toInt) E rfl rfl (tgt := 42) dX12_whyNot_35 (by decide) (fun c_7 => ?_) (fun c_7 => ?_)
      · skip
        replace hF := q_ifn hF c_7
        refine lv_iconst (v := 0) hx hb dX12_whyNot_42 zki_0 ?_
        have hrv : (0 : Int32).toInt = 0 := zt_0
        exact q_reti E hr hlk hI ⟨rfl, (by first | (clear hh ahpσ_2 bhpσ_2 dhpσ_2 c_3 chpσ_2 if_4 c_5 if_6 c_7; omega) | omega), (by first | (clear ahpσ_2 bhpσ_2 dhpσ_2 c_3 hrv; omega) | omega), (hF.trans hout)⟩ dX12_whyNot_43
      · skip
        replace hF := q_ifp hF c_7
        refine lv_iconst (v := 5) hx hb dX12_whyNot_38 zki_5 ?_
        refine lv_goto (tgt := 43) hx hb dX12_whyNot_39 (by decide) ?_
        have hrv : (5 : Int32).toInt = 5 := zt_5
        exact q_reti E hr hlk hI ⟨rfl, (by first | (clear hh ahpσ_2 bhpσ_2 dhpσ_2 c_3 chpσ_2 if_4 c_5 if_6 c_7; omega) | omega), (by first | (clear hh ahpσ_2 bhpσ_2 dhpσ_2 c_3 chpσ_2 if_4 c_5 if_6 c_7; omega) | omega), (hF.trans hout)⟩ dX12_whyNot_43
    · skip
      replace hF := q_ifp hF c_5
      refine lv_bipush (v := 8) hx hb dX12_whyNot_22 zkb_8 ?_
      refine lv_goto (tgt := 43) hx hb dX12_whyNot_24 (by decide) ?_
      have hrv : (8 : Int32).toInt = 8 := zt_8
      exact q_reti E hr hlk hI ⟨rfl, (by first | (clear hh ahpσ_2 bhpσ_2 dhpσ_2 c_3 chpσ_2 if_4 c_5; omega) | omega), (by first | (clear hh ahpσ_2 bhpσ_2 dhpσ_2 c_3 chpσ_2 if_4 c_5; omega) | omega), (hF.trans hout)⟩ dX12_whyNot_43
  · skip
    replace hF := q_ifp hF c_3
    replace chpσ_2 := q_ifNo chpσ_2 c_3
    refine lv_iconst (v := 2) hx hb dX12_whyNot_8 zki_2 ?_
    refine lv_goto (tgt := 43) hx hb dX12_whyNot_9 (by decide) ?_
    have hrv : (2 : Int32).toInt = 2 := zt_2
    exact q_reti E hr hlk hI ⟨rfl, (by first | (clear hh ahpσ_2 bhpσ_2 dhpσ_2 c_3 chpσ_2; omega) | omega), (by first | (clear hh ahpσ_2 bhpσ_2 dhpσ_2 c_3 chpσ_2; omega) | omega), (hF.trans hout)⟩ dX12_whyNot_43

set_option maxRecDepth 100000 in
set_option maxHeartbeats 4000000 in
theorem c_X12_otherKind (l : Launch) (X : XW) (σ : ST) (a : Nat) (v1 : Int32) (ha : q_kd X a = 12) (hG : m_G (m_c X σ a)) (h0 : 0 ≤ v1.toInt ∧ v1.toInt ≤ 5) : Met l yX12_otherKind (q_ws yX12_otherKind cX12_otherKind 4 (some .int)) (q_rm 1 22) (q_P X σ [.ref a, .int v1]) (q_Qi X 9 σ (fun (r : Int32) (σ' : ST) => σ' = σ ∧ (m_ok (m_c X σ a) v1.toInt r.toInt (m_c X σ a 0)) ∧ (-1 ≤ r.toInt ∧ r.toInt < m_c X σ a 0) ∧ r = F_X12_otherKind X σ a v1)) 0 0 (q_reg X) := by
  refine q_met 9 (by first | exact rfl | decide +kernel) rfl (Nat.le_of_ble_eq_true rfl) (fun p e s m below meth c E hml hr hlk hI ls hl => ?_)
  have hx := E.1
  have hb := E.2.1
  have hl : lv_has ls 4 [(0, .ref a), (1, .int v1)] := hl
  have hh := hG.hd
  obtain ⟨out, hout⟩ : ∃ o, o = F_X12_otherKind X σ a v1 := ⟨_, rfl⟩
  have hF := hout.symm
  unfold F_X12_otherKind at hF
  refine lv_iconst (v := (-1)) hx hb dX12_otherKind_0 zki_m1 ?_
  refine lv_istore_n (lv' := [(2, .int (-1)), (0, .ref a), (1, .int v1)]) hx hb dX12_otherKind_1 rfl hl (by decide) rfl (fun ls hl => ?_)
  refine lv_iconst (v := 0) hx hb dX12_otherKind_2 zki_0 ?_
  refine lv_istore_n (lv' := [(3, .int 0), (2, .int (-1)), (0, .ref a), (1, .int v1)]) hx hb dX12_otherKind_3 rfl hl (by decide) rfl (fun ls hl => ?_)
  have L_4_3 : ∀ (k_3 : Nat) (x_1 : Int32) (x_2 : Int32) (H : Heap) (locs : List Loc) (ls : Array Slot), (2147483647 - x_2.toInt).toNat < k_3 → (0 ≤ x_2.toInt ∧ x_2.toInt ≤ m_c X σ a 0 ∧ -1 ≤ x_1.toInt ∧ x_1.toInt < m_c X σ a 0) → (m_ok (m_c X σ a) v1.toInt x_1.toInt x_2.toInt) → (F_X12_otherKind_L4_1 X σ a v1 k_3 x_1 x_2 = out) → q_I X 9 σ s.heap locs σ H → lv_has ls 4 [(0, .ref a), (1, .int v1), (2, .int x_1), (3, .int x_2)] → W p l e (q_rm 1 22) s m ([.ref a, .int v1] : List Value).toArray below meth c H locs 0 0 (MQ below (q_Qi X 9 σ (fun (r : Int32) (σ' : ST) => σ' = σ ∧ (m_ok (m_c X σ a) v1.toInt r.toInt (m_c X σ a 0)) ∧ (-1 ≤ r.toInt ∧ r.toInt < m_c X σ a 0) ∧ r = F_X12_otherKind X σ a v1)) ([.ref a, .int v1] : List Value).toArray s 0 0 (q_reg X)) (F0 m 4 ls []) := by
    clear hF
    intro k_3
    induction k_3 with
    | zero =>
      intro x_1 x_2 H locs ls hms
      exact absurd hms (Nat.not_lt_zero _)
    | succ k_3 ih4 =>
      intro x_1 x_2 H locs ls hm4 hge4 ok4 hF hI hl
      replace hF := (F_X12_otherKind_L4_1_s).symm.trans hF
      unfold F_X12_otherKind_B4_1 at hF
      refine lv_iload_n hx hb dX12_otherKind_4 rfl (lv_at hl 3 rfl) ?_
      refine lv_aload_n hx hb dX12_otherKind_5 rfl (lv_at hl 0 rfl) ?_
      refine gs_X12_35_12 E hI ha dX12_otherKind_6 ?_
      refine lv_iconst (v := 0) hx hb dX12_otherKind_9 zki_0 ?_
      refine q_iald E hI (q_tk (k' := 34) hI ha rfl (Nat.succ_ne_zero _)) ⟨by decide, rfl⟩ (by decide) (by rw [q_lnk (v := 4650) hI (q_tk (k' := 34) hI ha rfl (Nat.succ_ne_zero _)) rfl (by decide)]; decide) dX12_otherKind_10 ?_
      refine lv_topi (fun f_4 ef_4 => ?_)
      replace hF := q_letX hF ef_4
      have if_4 : f_4.toInt = m_c X σ a 0 := m_rd ef_4 (by decide)
      have gc_5_x_2 := q_rng x_2
      have gc_5_f_4 := q_rng f_4
      refine q_icmp_ge (A := x_2.toInt) (B := f_4.toInt) E rfl rfl (tgt := 60) dX12_otherKind_11 (by decide) (fun c_5 => ?_) (fun c_5 => ?_)
      · skip
        replace hF := q_ifn hF (Int.not_lt.mpr c_5)
        skip
        refine lv_iload_n hx hb dX12_otherKind_60 rfl (lv_at hl 2 rfl) ?_
        exact q_reti E hr hlk hI ⟨rfl, (by have q : x_2.toInt = m_c X σ a 0 := (by first | (clear h0 hh hm4 gc_5_x_2 gc_5_f_4; omega) | omega); rw [q] at ok4; exact ok4), (by first | (clear h0 hh hm4 gc_5_x_2 gc_5_f_4 c_5; omega) | omega), (hF.trans hout)⟩ dX12_otherKind_61
      · skip
        replace hF := q_ifp hF c_5
        refine lv_iload_n hx hb dX12_otherKind_14 rfl (lv_at hl 3 rfl) ?_
        refine lv_aload_n hx hb dX12_otherKind_15 rfl (lv_at hl 0 rfl) ?_
        refine gs_X12_35_12 E hI ha dX12_otherKind_16 ?_
        refine lv_iconst (v := 5) hx hb dX12_otherKind_19 zki_5 ?_
        refine q_iald E hI (q_tk (k' := 34) hI ha rfl (Nat.succ_ne_zero _)) ⟨by decide, rfl⟩ (by decide) (by rw [q_lnk (v := 4650) hI (q_tk (k' := 34) hI ha rfl (Nat.succ_ne_zero _)) rfl (by decide)]; decide) dX12_otherKind_20 ?_
        refine lv_topi (fun f_6 ef_6 => ?_)
        replace hF := q_letX hF ef_6
        have if_6 : f_6.toInt = m_c X σ a 5 := m_rd ef_6 (by decide)
        have gc_7_x_2 := q_rng x_2
        have gc_7_f_6 := q_rng f_6
        refine q_icmp_eq (A := x_2.toInt) (B := f_6.toInt) E rfl rfl (tgt := 54) dX12_otherKind_21 (by decide) (fun c_7 => ?_) (fun c_7 => ?_)
        · skip
          replace hF := q_ifp hF c_7
          obtain ⟨z_8, ez_8⟩ : ∃ y : Int32, y = x_2 + 1 := ⟨_, rfl⟩
          replace hF := q_letX hF ez_8
          refine lv_iinc (v := z_8) (lv' := [(3, .int z_8), (0, .ref a), (1, .int v1), (2, .int x_1)]) hx hb dX12_otherKind_54 hl (k := 3) rfl (by rw [ez_8]; rfl) (by decide) rfl (fun ls hl => ?_)
          have iz_8 : z_8.toInt = x_2.toInt + 1 := q_inc ez_8 (by first | (clear h0 hm4 hge4 gc_5_x_2 gc_5_f_4 gc_7_x_2; omega) | omega)
          refine lv_goto (tgt := 4) hx hb dX12_otherKind_57 (by decide) ?_
          exact ih4 x_1 z_8 _ _ ls (by first | (clear h0 hge4 gc_5_x_2 gc_5_f_4 gc_7_x_2; omega) | omega) (by first | (clear h0 hm4 gc_5_x_2 gc_5_f_4 gc_7_x_2; omega) | omega) (by rw [iz_8]; first | exact ok4.skip (Or.inl (by first | (clear h0 hh hm4 hge4 if_4 gc_5_x_2 gc_5_f_4 c_5 gc_7_x_2 gc_7_f_6 iz_8; omega) | omega)) | exact ok4.skip (Or.inr (by omega)) | exact m_ok.set (by omega) (by omega) (by omega) | exact ok4.old (by omega)) hF hI (lv_sub hl [1, 2, 3, 0] rfl)
        · skip
          replace hF := q_ifn hF c_7
          refine lv_aload_n hx hb dX12_otherKind_24 rfl (lv_at hl 0 rfl) ?_
          refine lv_iload_n hx hb dX12_otherKind_25 rfl (lv_at hl 1 rfl) ?_
          refine lv_iload_n hx hb dX12_otherKind_26 rfl (lv_at hl 3 rfl) ?_
          refine q_ci (q_rV11_2 (rest := []) E (hml.trans hl.1.symm) hI (c_X12_handOf l X σ a v1 x_2 ha (by omega) (by first | (clear h0 hm4 gc_5_f_4 if_6 gc_7_x_2 gc_7_f_6 c_7; omega) | omega)) kv_X12_276 ha ⟨Nat.le_of_ble_eq_true rfl, Nat.le_of_ble_eq_true rfl⟩ (Nat.le_of_ble_eq_true rfl) dX12_otherKind_27) hI (Nat.le_of_ble_eq_true rfl) (fun r_9 σ_10 H locs hpσ_10 hkσ_10 hI => ?_)
          have ahpσ_10 := hpσ_10.1
          have bhpσ_10 := hpσ_10.2.1
          have chpσ_10 := hpσ_10.2.2
          clear hpσ_10
          replace hI := q_Irw ahpσ_10 hI
          replace hF := q_letX hF chpσ_10
          have ir_9 : r_9.toInt = (m_c X σ a (34 + 10 * v1.toInt + x_2.toInt)) := (by first | exact bhpσ_10 | (rw [bhpσ_10]) | (simp only [bhpσ_10]))
          refine q_if_le (A := r_9.toInt) E rfl (tgt := 54) dX12_otherKind_30 (by decide) (fun c_11 => ?_) (fun c_11 => ?_)
          · skip
            replace hF := q_ifn hF (Int.not_lt.mpr c_11)
            obtain ⟨z_12, ez_12⟩ : ∃ y : Int32, y = x_2 + 1 := ⟨_, rfl⟩
            replace hF := q_letX hF ez_12
            refine lv_iinc (v := z_12) (lv' := [(3, .int z_12), (0, .ref a), (1, .int v1), (2, .int x_1)]) hx hb dX12_otherKind_54 hl (k := 3) rfl (by rw [ez_12]; rfl) (by decide) rfl (fun ls hl => ?_)
            have iz_12 : z_12.toInt = x_2.toInt + 1 := q_inc ez_12 (by first | (clear h0 hm4 gc_5_f_4 if_6 gc_7_x_2 gc_7_f_6 c_7 ahpσ_10 bhpσ_10 chpσ_10 ir_9 c_11; omega) | omega)
            refine lv_goto (tgt := 4) hx hb dX12_otherKind_57 (by decide) ?_
            exact ih4 x_1 z_12 _ _ ls (by first | (clear h0 gc_5_f_4 if_6 gc_7_x_2 gc_7_f_6 ahpσ_10 bhpσ_10 chpσ_10 ir_9 c_11; omega) | omega) (by first | (clear h0 hh hm4 gc_5_f_4 if_6 gc_7_x_2 gc_7_f_6 c_7 ahpσ_10 bhpσ_10 chpσ_10 ir_9 c_11; omega) | omega) (by rw [iz_12]; first | exact ok4.skip (Or.inl (by omega)) | exact ok4.skip (Or.inr (by first | (clear h0 hh hm4 hge4 if_4 gc_5_x_2 gc_5_f_4 c_5 if_6 gc_7_x_2 gc_7_f_6 c_7 ahpσ_10 chpσ_10 ir_9 iz_12; omega) | omega)) | exact m_ok.set (by omega) (by omega) (by omega) | exact ok4.old (by omega)) hF hI (lv_sub hl [1, 2, 3, 0] rfl)
          · skip
            replace hF := q_ifp hF c_11
            refine lv_iload_n hx hb dX12_otherKind_33 rfl (lv_at hl 2 rfl) ?_
            refine q_if_lt (A := x_1.toInt) E rfl (tgt := 52) dX12_otherKind_34 (by decide) (fun c_13 => ?_) (fun c_13 => ?_)
            · skip
              replace hF := q_ifp hF c_13
              refine lv_iload_n hx hb dX12_otherKind_52 rfl (lv_at hl 3 rfl) ?_
              refine lv_istore_n (lv' := [(2, .int x_2), (0, .ref a), (1, .int v1), (3, .int x_2)]) hx hb dX12_otherKind_53 rfl hl (by decide) rfl (fun ls hl => ?_)
              obtain ⟨z_14, ez_14⟩ : ∃ y : Int32, y = x_2 + 1 := ⟨_, rfl⟩
              replace hF := q_letX hF ez_14
              refine lv_iinc (v := z_14) (lv' := [(3, .int z_14), (2, .int x_2), (0, .ref a), (1, .int v1)]) hx hb dX12_otherKind_54 hl (k := 3) rfl (by rw [ez_14]; rfl) (by decide) rfl (fun ls hl => ?_)
              have iz_14 : z_14.toInt = x_2.toInt + 1 := q_inc ez_14 (by first | (clear h0 hm4 gc_5_f_4 if_6 gc_7_x_2 gc_7_f_6 c_7 ahpσ_10 bhpσ_10 chpσ_10 ir_9 c_11 c_13; omega) | omega)
              refine lv_goto (tgt := 4) hx hb dX12_otherKind_57 (by decide) ?_
              exact ih4 x_2 z_14 _ _ ls (by first | (clear h0 gc_5_f_4 if_6 gc_7_x_2 gc_7_f_6 ahpσ_10 bhpσ_10 chpσ_10 ir_9 c_11 c_13; omega) | omega) (by first | (clear h0 hh hm4 gc_5_f_4 if_6 gc_7_x_2 gc_7_f_6 c_7 ahpσ_10 bhpσ_10 chpσ_10 ir_9 c_11 c_13; omega) | omega) (by rw [iz_14]; first | exact ok4.skip (Or.inl (by omega)) | exact ok4.skip (Or.inr (by omega)) | exact m_ok.set (by first | (clear h0 hh hm4 if_4 gc_5_f_4 c_5 if_6 gc_7_x_2 gc_7_f_6 c_7 ahpσ_10 bhpσ_10 chpσ_10 ir_9 c_11 c_13; omega) | omega) (by first | (clear h0 hh hm4 hge4 if_4 gc_5_x_2 gc_5_f_4 c_5 gc_7_x_2 gc_7_f_6 ahpσ_10 bhpσ_10 chpσ_10 ir_9 c_11 c_13; omega) | omega) (by first | (clear h0 hh hm4 hge4 if_4 gc_5_x_2 gc_5_f_4 c_5 if_6 gc_7_x_2 gc_7_f_6 c_7 ahpσ_10 chpσ_10 ir_9 c_13 iz_14; omega) | omega) | exact ok4.old (by omega)) hF hI (lv_sub hl [2, 3, 1, 0] rfl)
            · skip
              replace hF := q_ifn hF (Int.not_lt.mpr c_13)
              refine lv_aload_n hx hb dX12_otherKind_37 rfl (lv_at hl 0 rfl) ?_
              refine lv_iload_n hx hb dX12_otherKind_38 rfl (lv_at hl 1 rfl) ?_
              refine lv_iload_n hx hb dX12_otherKind_39 rfl (lv_at hl 3 rfl) ?_
              refine q_ci (q_rV11_2 (rest := []) E (hml.trans hl.1.symm) hI (c_X12_handOf l X σ a v1 x_2 ha (by omega) (by first | (clear h0 hm4 gc_5_f_4 if_6 gc_7_x_2 gc_7_f_6 c_7 ahpσ_10 bhpσ_10 chpσ_10 ir_9 c_11 c_13; omega) | omega)) kv_X12_276 ha ⟨Nat.le_of_ble_eq_true rfl, Nat.le_of_ble_eq_true rfl⟩ (Nat.le_of_ble_eq_true rfl) dX12_otherKind_40) hI (Nat.le_of_ble_eq_true rfl) (fun r_15 σ_16 H locs hpσ_16 hkσ_16 hI => ?_)
              have ahpσ_16 := hpσ_16.1
              have bhpσ_16 := hpσ_16.2.1
              have chpσ_16 := hpσ_16.2.2
              clear hpσ_16
              replace hI := q_Irw ahpσ_16 hI
              replace hF := q_letX hF chpσ_16
              have ir_15 : r_15.toInt = (m_c X σ a (34 + 10 * v1.toInt + x_2.toInt)) := (by first | exact bhpσ_16 | (rw [bhpσ_16]) | (simp only [bhpσ_16]))
              refine lv_aload_n hx hb dX12_otherKind_43 rfl (lv_at hl 0 rfl) ?_
              refine lv_iload_n hx hb dX12_otherKind_44 rfl (lv_at hl 1 rfl) ?_
              refine lv_iload_n hx hb dX12_otherKind_45 rfl (lv_at hl 2 rfl) ?_
              refine q_ci (q_rV11_2 (rest := [.int r_15]) E (hml.trans hl.1.symm) hI (c_X12_handOf l X σ a v1 x_1 ha (by omega) (by first | (clear h0 hm4 gc_5_x_2 gc_5_f_4 c_5 if_6 gc_7_x_2 gc_7_f_6 c_7 ahpσ_10 bhpσ_10 chpσ_10 ir_9 c_11 ahpσ_16 bhpσ_16 chpσ_16 ir_15; omega) | omega)) kv_X12_276 ha ⟨Nat.le_of_ble_eq_true rfl, Nat.le_of_ble_eq_true rfl⟩ (Nat.le_of_ble_eq_true rfl) dX12_otherKind_46) hI (Nat.le_of_ble_eq_true rfl) (fun r_17 σ_18 H locs hpσ_18 hkσ_18 hI => ?_)
              have ahpσ_18 := hpσ_18.1
              have bhpσ_18 := hpσ_18.2.1
              have chpσ_18 := hpσ_18.2.2
              clear hpσ_18
              replace hI := q_Irw ahpσ_18 hI
              replace hF := q_letX hF chpσ_18
              have ir_17 : r_17.toInt = (m_c X σ a (34 + 10 * v1.toInt + x_1.toInt)) := (by first | exact bhpσ_18 | (rw [bhpσ_18]) | (simp only [bhpσ_18]))
              have gc_19_r_15 := q_rng r_15
              have gc_19_r_17 := q_rng r_17
              refine q_icmp_le (A := r_15.toInt) (B := r_17.toInt) E rfl rfl (tgt := 54) dX12_otherKind_49 (by decide) (fun c_19 => ?_) (fun c_19 => ?_)
              · skip
                replace hF := q_ifn hF (Int.not_lt.mpr c_19)
                obtain ⟨z_20, ez_20⟩ : ∃ y : Int32, y = x_2 + 1 := ⟨_, rfl⟩
                replace hF := q_letX hF ez_20
                refine lv_iinc (v := z_20) (lv' := [(3, .int z_20), (0, .ref a), (1, .int v1), (2, .int x_1)]) hx hb dX12_otherKind_54 hl (k := 3) rfl (by rw [ez_20]; rfl) (by decide) rfl (fun ls hl => ?_)
                have iz_20 : z_20.toInt = x_2.toInt + 1 := q_inc ez_20 (by first | (clear h0 hm4 gc_5_f_4 if_6 gc_7_x_2 gc_7_f_6 c_7 ahpσ_10 bhpσ_10 chpσ_10 ir_9 c_11 c_13 ahpσ_16 bhpσ_16 chpσ_16 ir_15 ahpσ_18 bhpσ_18 chpσ_18 ir_17 gc_19_r_15 gc_19_r_17 c_19; omega) | omega)
                refine lv_goto (tgt := 4) hx hb dX12_otherKind_57 (by decide) ?_
                exact ih4 x_1 z_20 _ _ ls (by first | (clear h0 gc_5_f_4 if_6 gc_7_x_2 gc_7_f_6 ahpσ_10 bhpσ_10 chpσ_10 ir_9 c_11 c_13 ahpσ_16 bhpσ_16 chpσ_16 ir_15 ahpσ_18 bhpσ_18 chpσ_18 ir_17 gc_19_r_15 gc_19_r_17 c_19; omega) | omega) (by first | (clear h0 hh hm4 gc_5_f_4 if_6 gc_7_x_2 gc_7_f_6 c_7 ahpσ_10 bhpσ_10 chpσ_10 ir_9 c_11 ahpσ_16 bhpσ_16 chpσ_16 ir_15 ahpσ_18 bhpσ_18 chpσ_18 ir_17 gc_19_r_15 gc_19_r_17 c_19; omega) | omega) (by rw [iz_20]; first | exact ok4.skip (Or.inl (by omega)) | exact ok4.skip (Or.inr (by omega)) | exact m_ok.set (by omega) (by omega) (by omega) | exact ok4.old (by omega)) hF hI (lv_sub hl [1, 2, 3, 0] rfl)
              · skip
                replace hF := q_ifp hF c_19
                refine lv_iload_n hx hb dX12_otherKind_52 rfl (lv_at hl 3 rfl) ?_
                refine lv_istore_n (lv' := [(2, .int x_2), (0, .ref a), (1, .int v1), (3, .int x_2)]) hx hb dX12_otherKind_53 rfl hl (by decide) rfl (fun ls hl => ?_)
                obtain ⟨z_21, ez_21⟩ : ∃ y : Int32, y = x_2 + 1 := ⟨_, rfl⟩
                replace hF := q_letX hF ez_21
                refine lv_iinc (v := z_21) (lv' := [(3, .int z_21), (2, .int x_2), (0, .ref a), (1, .int v1)]) hx hb dX12_otherKind_54 hl (k := 3) rfl (by rw [ez_21]; rfl) (by decide) rfl (fun ls hl => ?_)
                have iz_21 : z_21.toInt = x_2.toInt + 1 := q_inc ez_21 (by first | (clear h0 hm4 gc_5_f_4 if_6 gc_7_x_2 gc_7_f_6 c_7 ahpσ_10 bhpσ_10 chpσ_10 ir_9 c_11 c_13 ahpσ_16 bhpσ_16 chpσ_16 ir_15 ahpσ_18 bhpσ_18 chpσ_18 ir_17 gc_19_r_15 gc_19_r_17 c_19; omega) | omega)
                refine lv_goto (tgt := 4) hx hb dX12_otherKind_57 (by decide) ?_
                exact ih4 x_2 z_21 _ _ ls (by first | (clear h0 gc_5_f_4 if_6 gc_7_x_2 gc_7_f_6 ahpσ_10 bhpσ_10 chpσ_10 ir_9 c_11 c_13 ahpσ_16 bhpσ_16 chpσ_16 ir_15 ahpσ_18 bhpσ_18 chpσ_18 ir_17 gc_19_r_15 gc_19_r_17 c_19; omega) | omega) (by first | (clear h0 hh hm4 gc_5_f_4 if_6 gc_7_x_2 gc_7_f_6 c_7 ahpσ_10 bhpσ_10 chpσ_10 ir_9 c_11 c_13 ahpσ_16 bhpσ_16 chpσ_16 ir_15 ahpσ_18 bhpσ_18 chpσ_18 ir_17 gc_19_r_15 gc_19_r_17 c_19; omega) | omega) (by rw [iz_21]; first | exact ok4.skip (Or.inl (by omega)) | exact ok4.skip (Or.inr (by omega)) | exact m_ok.set (by first | (clear h0 hh hm4 if_4 gc_5_f_4 c_5 if_6 gc_7_x_2 gc_7_f_6 c_7 ahpσ_10 bhpσ_10 chpσ_10 ir_9 c_11 c_13 ahpσ_16 bhpσ_16 chpσ_16 ir_15 ahpσ_18 bhpσ_18 chpσ_18 ir_17 gc_19_r_15 gc_19_r_17 c_19; omega) | omega) (by first | (clear h0 hh hm4 hge4 if_4 gc_5_x_2 gc_5_f_4 c_5 gc_7_x_2 gc_7_f_6 ahpσ_10 bhpσ_10 chpσ_10 ir_9 c_11 c_13 ahpσ_16 bhpσ_16 chpσ_16 ir_15 ahpσ_18 bhpσ_18 chpσ_18 ir_17 gc_19_r_15 gc_19_r_17 c_19; omega) | omega) (by first | (clear h0 hh hm4 hge4 if_4 gc_5_x_2 gc_5_f_4 c_5 if_6 gc_7_x_2 gc_7_f_6 c_7 ahpσ_10 chpσ_10 ir_9 c_13 ahpσ_16 chpσ_16 ir_15 ahpσ_18 bhpσ_18 chpσ_18 ir_17 gc_19_r_17 c_19 iz_21; omega) | omega) | exact ok4.old (by omega)) hF hI (lv_sub hl [2, 3, 1, 0] rfl)
  have kc_22 : ((-1) : Int32).toInt = (-1) := zt_m1
  have kc_23 : (0 : Int32).toInt = 0 := zt_0
  exact L_4_3 ((2147483647 - (0 : Int32).toInt).toNat + 1) (-1) 0 _ _ ls (Nat.lt_succ_self _) (by have q : (0 : Int32).toInt = 0 := rfl; have q1 : ((-1) : Int32).toInt = -1 := rfl; omega) (m_ok.start _ _) hF hI (lv_sub hl [2, 3, 1, 0] rfl)

set_option maxRecDepth 100000 in
set_option maxHeartbeats 4000000 in
theorem c_X12_isSo (l : Launch) (X : XW) (σ : ST) (a : Nat) (v1 : Int32) (ha : q_kd X a = 12) (hG : m_G (m_c X σ a)) (hw : 656 ≤ v1.toInt ∧ v1.toInt ≤ 917) (ht : m_tst (m_c X σ a) v1.toInt) : Met l yX12_isSo (q_ws yX12_isSo cX12_isSo 4 (some .boolean)) (q_rm 2 45) (q_P X σ [.ref a, .int v1]) (q_Qi X 9 σ (fun (r : Int32) (σ' : ST) => σ' = σ ∧ (0 ≤ r.toInt ∧ r.toInt ≤ 1) ∧ r = F_X12_isSo X σ a v1)) 0 0 (q_reg X) := by
  refine q_met 9 (by first | exact rfl | decide +kernel) rfl (Nat.le_of_ble_eq_true rfl) (fun p e s m below meth c E hml hr hlk hI ls hl => ?_)
  have hx := E.1
  have hb := E.2.1
  have hl : lv_has ls 4 [(0, .ref a), (1, .int v1)] := hl
  have hh := hG.hd
  obtain ⟨ta, tb⟩ := ht
  obtain ⟨out, hout⟩ : ∃ o, o = F_X12_isSo X σ a v1 := ⟨_, rfl⟩
  have hF := hout.symm
  unfold F_X12_isSo at hF
  refine lv_aload_n hx hb dX12_isSo_0 rfl (lv_at hl 0 rfl) ?_
  refine gs_X12_35_12 E hI ha dX12_isSo_1 ?_
  refine lv_iload_n hx hb dX12_isSo_4 rfl (lv_at hl 1 rfl) ?_
  refine lv_bipush (v := 6) hx hb dX12_isSo_5 zkb_6 ?_
  refine lv_iadd hx hb dX12_isSo_7 ?_
  refine lv_topi (fun z_1 ez_1 => ?_)
  replace hF := q_letX hF ez_1
  have iz_1 := q_addI (A := v1.toInt) (B := 6) ez_1 rfl (by decide) (by first | (clear ht hh ta tb; omega) | omega) (by first | (clear ht hh ta tb; omega) | omega)
  refine q_iald E hI (q_tk (k' := 34) hI ha rfl (Nat.succ_ne_zero _)) ⟨by decide, rfl⟩ (by first | (clear ht hh ta tb; omega) | omega) (by rw [q_lnk (v := 4650) hI (q_tk (k' := 34) hI ha rfl (Nat.succ_ne_zero _)) rfl (by decide)]; omega) dX12_isSo_8 ?_
  refine lv_topi (fun f_2 ef_2 => ?_)
  replace hF := q_letX hF ef_2
  have if_2 : f_2.toInt = m_c X σ a (v1.toInt + 6) := m_rd ef_2 iz_1
  refine lv_istore_n (lv' := [(2, .int f_2), (0, .ref a), (1, .int v1)]) hx hb dX12_isSo_9 rfl hl (by decide) rfl (fun ls hl => ?_)
  refine lv_iload_n hx hb dX12_isSo_10 rfl (lv_at hl 0 rfl) ?_
  refine lv_iconst (v := 3) hx hb dX12_isSo_11 zki_3 ?_
  refine q_icmp_ne (A := f_2.toInt) (B := 3) E rfl (by decide) (tgt := 31) dX12_isSo_12 (by decide) (fun c_3 => ?_) (fun c_3 => ?_)
  · skip
    replace hF := q_ifn hF c_3
    refine lv_iload_n hx hb dX12_isSo_31 rfl (lv_at hl 0 rfl) ?_
    have J_78_4 : ∀ (x_4 : Int32) (H : Heap) (locs : List Loc) (ls : Array Slot), (F_X12_isSo_J78_1 X v1 σ a x_4 = out) → q_I X 9 σ s.heap locs σ H → lv_has ls 4 [(0, .ref a), (1, .int v1), (2, .int f_2)] → W p l e (q_rm 2 45) s m ([.ref a, .int v1] : List Value).toArray below meth c H locs 0 0 (MQ below (q_Qi X 9 σ (fun (r : Int32) (σ' : ST) => σ' = σ ∧ (0 ≤ r.toInt ∧ r.toInt ≤ 1) ∧ r = F_X12_isSo X σ a v1)) ([.ref a, .int v1] : List Value).toArray s 0 0 (q_reg X)) (F0 m 78 ls [.int x_4]) := by
      clear hF
      intro x_4 H locs ls  hF hI hl
      unfold F_X12_isSo_J78_1 at hF
      refine lv_istore_n (lv' := [(3, .int x_4), (0, .ref a), (1, .int v1), (2, .int f_2)]) hx hb dX12_isSo_78 rfl hl (by decide) rfl (fun ls hl => ?_)
      refine lv_aload_n hx hb dX12_isSo_79 rfl (lv_at hl 1 rfl) ?_
      refine gs_X12_35_12 E hI ha dX12_isSo_80 ?_
      refine lv_iload_n hx hb dX12_isSo_83 rfl (lv_at hl 2 rfl) ?_
      refine lv_bipush (v := 7) hx hb dX12_isSo_84 zkb_7 ?_
      refine lv_iadd hx hb dX12_isSo_86 ?_
      refine lv_topi (fun z_5 ez_5 => ?_)
      replace hF := q_letX hF ez_5
      have iz_5 := q_addI (A := v1.toInt) (B := 7) ez_5 rfl (by decide) (by first | (clear ht hh ta tb if_2 c_3; omega) | omega) (by first | (clear ht hh ta tb if_2 c_3; omega) | omega)
      refine q_iald E hI (q_tk (k' := 34) hI ha rfl (Nat.succ_ne_zero _)) ⟨by decide, rfl⟩ (by first | (clear ht hh ta tb if_2 c_3; omega) | omega) (by rw [q_lnk (v := 4650) hI (q_tk (k' := 34) hI ha rfl (Nat.succ_ne_zero _)) rfl (by decide)]; omega) dX12_isSo_87 ?_
      refine lv_topi (fun f_6 ef_6 => ?_)
      replace hF := q_letX hF ef_6
      have if_6 : f_6.toInt = m_c X σ a (v1.toInt + 7) := m_rd ef_6 iz_5
      refine lv_bipush (v := 60) hx hb dX12_isSo_88 zkb_60 ?_
      refine q_icmp_ne (A := f_6.toInt) (B := 60) E rfl (by decide) (tgt := 113) dX12_isSo_90 (by decide) (fun c_7 => ?_) (fun c_7 => ?_)
      · skip
        replace hF := q_ifn hF c_7
        refine lv_aload_n hx hb dX12_isSo_113 rfl (lv_at hl 1 rfl) ?_
        refine gs_X12_35_12 E hI ha dX12_isSo_114 ?_
        refine lv_iload_n hx hb dX12_isSo_117 rfl (lv_at hl 2 rfl) ?_
        refine lv_bipush (v := 7) hx hb dX12_isSo_118 zkb_7 ?_
        refine lv_iadd hx hb dX12_isSo_120 ?_
        refine lv_topi (fun z_8 ez_8 => ?_)
        replace hF := q_letX hF ez_8
        have iz_8 := q_addI (A := v1.toInt) (B := 7) ez_8 rfl (by decide) (by first | (clear ht hh ta tb if_2 c_3 if_6 c_7; omega) | omega) (by first | (clear ht hh ta tb if_2 c_3 if_6 c_7; omega) | omega)
        refine q_iald E hI (q_tk (k' := 34) hI ha rfl (Nat.succ_ne_zero _)) ⟨by decide, rfl⟩ (by first | (clear ht hh ta tb if_2 c_3 if_6 c_7; omega) | omega) (by rw [q_lnk (v := 4650) hI (q_tk (k' := 34) hI ha rfl (Nat.succ_ne_zero _)) rfl (by decide)]; omega) dX12_isSo_121 ?_
        refine lv_topi (fun f_9 ef_9 => ?_)
        replace hF := q_letX hF ef_9
        have if_9 : f_9.toInt = m_c X σ a (v1.toInt + 7) := m_rd ef_9 iz_8
        refine lv_bipush (v := 62) hx hb dX12_isSo_122 zkb_62 ?_
        refine q_icmp_ne (A := f_9.toInt) (B := 62) E rfl (by decide) (tgt := 147) dX12_isSo_124 (by decide) (fun c_10 => ?_) (fun c_10 => ?_)
        · skip
          replace hF := q_ifn hF c_10
          refine lv_iload_n hx hb dX12_isSo_147 rfl (lv_at hl 0 rfl) ?_
          refine lv_aload_n hx hb dX12_isSo_148 rfl (lv_at hl 1 rfl) ?_
          refine gs_X12_35_12 E hI ha dX12_isSo_149 ?_
          refine lv_iload_n hx hb dX12_isSo_152 rfl (lv_at hl 2 rfl) ?_
          refine lv_iconst (v := 2) hx hb dX12_isSo_153 zki_2 ?_
          refine lv_iadd hx hb dX12_isSo_154 ?_
          refine lv_topi (fun z_11 ez_11 => ?_)
          replace hF := q_letX hF ez_11
          have iz_11 := q_addI (A := v1.toInt) (B := 2) ez_11 rfl (by decide) (by first | (clear ht hh ta tb if_2 c_3 if_6 c_7 if_9 c_10; omega) | omega) (by first | (clear ht hh ta tb if_2 c_3 if_6 c_7 if_9 c_10; omega) | omega)
          refine q_iald E hI (q_tk (k' := 34) hI ha rfl (Nat.succ_ne_zero _)) ⟨by decide, rfl⟩ (by first | (clear ht hh ta tb if_2 c_3 if_6 c_7 if_9 c_10; omega) | omega) (by rw [q_lnk (v := 4650) hI (q_tk (k' := 34) hI ha rfl (Nat.succ_ne_zero _)) rfl (by decide)]; omega) dX12_isSo_155 ?_
          refine lv_topi (fun f_12 ef_12 => ?_)
          replace hF := q_letX hF ef_12
          have if_12 : f_12.toInt = m_c X σ a (v1.toInt + 2) := m_rd ef_12 iz_11
          refine q_icmp_ne (A := x_4.toInt) (B := f_12.toInt) E rfl rfl (tgt := 163) dX12_isSo_156 (by decide) (fun c_13 => ?_) (fun c_13 => ?_)
          · skip
            replace hF := q_ifn hF c_13
            refine lv_iconst (v := 0) hx hb dX12_isSo_163 zki_0 ?_
            have hrv : (0 : Int32).toInt = 0 := zt_0
            exact q_retz E hr hlk hI ⟨by decide, by decide⟩ ⟨rfl, ⟨by decide, by decide⟩, (hF.trans hout)⟩ dX12_isSo_164
          · skip
            replace hF := q_ifp hF c_13
            refine lv_iconst (v := 1) hx hb dX12_isSo_159 zki_1 ?_
            refine lv_goto (tgt := 164) hx hb dX12_isSo_160 (by decide) ?_
            have hrv : (1 : Int32).toInt = 1 := zt_1
            exact q_retz E hr hlk hI ⟨by decide, by decide⟩ ⟨rfl, ⟨by decide, by decide⟩, (hF.trans hout)⟩ dX12_isSo_164
        · skip
          replace hF := q_ifp hF c_10
          refine lv_iload_n hx hb dX12_isSo_127 rfl (lv_at hl 0 rfl) ?_
          refine lv_aload_n hx hb dX12_isSo_128 rfl (lv_at hl 1 rfl) ?_
          refine gs_X12_35_12 E hI ha dX12_isSo_129 ?_
          refine lv_iload_n hx hb dX12_isSo_132 rfl (lv_at hl 2 rfl) ?_
          refine lv_iconst (v := 2) hx hb dX12_isSo_133 zki_2 ?_
          refine lv_iadd hx hb dX12_isSo_134 ?_
          refine lv_topi (fun z_14 ez_14 => ?_)
          replace hF := q_letX hF ez_14
          have iz_14 := q_addI (A := v1.toInt) (B := 2) ez_14 rfl (by decide) (by first | (clear ht hh ta tb if_2 c_3 if_6 c_7 if_9 c_10; omega) | omega) (by first | (clear ht hh ta tb if_2 c_3 if_6 c_7 if_9 c_10; omega) | omega)
          refine q_iald E hI (q_tk (k' := 34) hI ha rfl (Nat.succ_ne_zero _)) ⟨by decide, rfl⟩ (by first | (clear ht hh ta tb if_2 c_3 if_6 c_7 if_9 c_10; omega) | omega) (by rw [q_lnk (v := 4650) hI (q_tk (k' := 34) hI ha rfl (Nat.succ_ne_zero _)) rfl (by decide)]; omega) dX12_isSo_135 ?_
          refine lv_topi (fun f_15 ef_15 => ?_)
          replace hF := q_letX hF ef_15
          have if_15 : f_15.toInt = m_c X σ a (v1.toInt + 2) := m_rd ef_15 iz_14
          refine q_icmp_le (A := x_4.toInt) (B := f_15.toInt) E rfl rfl (tgt := 143) dX12_isSo_136 (by decide) (fun c_16 => ?_) (fun c_16 => ?_)
          · skip
            replace hF := q_ifn hF (Int.not_lt.mpr c_16)
            refine lv_iconst (v := 0) hx hb dX12_isSo_143 zki_0 ?_
            refine lv_goto (tgt := 164) hx hb dX12_isSo_144 (by decide) ?_
            have hrv : (0 : Int32).toInt = 0 := zt_0
            exact q_retz E hr hlk hI ⟨by decide, by decide⟩ ⟨rfl, ⟨by decide, by decide⟩, (hF.trans hout)⟩ dX12_isSo_164
          · skip
            replace hF := q_ifp hF c_16
            refine lv_iconst (v := 1) hx hb dX12_isSo_139 zki_1 ?_
            refine lv_goto (tgt := 164) hx hb dX12_isSo_140 (by decide) ?_
            have hrv : (1 : Int32).toInt = 1 := zt_1
            exact q_retz E hr hlk hI ⟨by decide, by decide⟩ ⟨rfl, ⟨by decide, by decide⟩, (hF.trans hout)⟩ dX12_isSo_164
      · skip
        replace hF := q_ifp hF c_7
        refine lv_iload_n hx hb dX12_isSo_93 rfl (lv_at hl 0 rfl) ?_
        refine lv_aload_n hx hb dX12_isSo_94 rfl (lv_at hl 1 rfl) ?_
        refine gs_X12_35_12 E hI ha dX12_isSo_95 ?_
        refine lv_iload_n hx hb dX12_isSo_98 rfl (lv_at hl 2 rfl) ?_
        refine lv_iconst (v := 2) hx hb dX12_isSo_99 zki_2 ?_
        refine lv_iadd hx hb dX12_isSo_100 ?_
        refine lv_topi (fun z_17 ez_17 => ?_)
        replace hF := q_letX hF ez_17
        have iz_17 := q_addI (A := v1.toInt) (B := 2) ez_17 rfl (by decide) (by first | (clear ht hh ta tb if_2 c_3 if_6 c_7; omega) | omega) (by first | (clear ht hh ta tb if_2 c_3 if_6 c_7; omega) | omega)
        refine q_iald E hI (q_tk (k' := 34) hI ha rfl (Nat.succ_ne_zero _)) ⟨by decide, rfl⟩ (by first | (clear ht hh ta tb if_2 c_3 if_6 c_7; omega) | omega) (by rw [q_lnk (v := 4650) hI (q_tk (k' := 34) hI ha rfl (Nat.succ_ne_zero _)) rfl (by decide)]; omega) dX12_isSo_101 ?_
        refine lv_topi (fun f_18 ef_18 => ?_)
        replace hF := q_letX hF ef_18
        have if_18 : f_18.toInt = m_c X σ a (v1.toInt + 2) := m_rd ef_18 iz_17
        refine q_icmp_ge (A := x_4.toInt) (B := f_18.toInt) E rfl rfl (tgt := 109) dX12_isSo_102 (by decide) (fun c_19 => ?_) (fun c_19 => ?_)
        · skip
          replace hF := q_ifn hF (Int.not_lt.mpr c_19)
          refine lv_iconst (v := 0) hx hb dX12_isSo_109 zki_0 ?_
          refine lv_goto (tgt := 164) hx hb dX12_isSo_110 (by decide) ?_
          have hrv : (0 : Int32).toInt = 0 := zt_0
          exact q_retz E hr hlk hI ⟨by decide, by decide⟩ ⟨rfl, ⟨by decide, by decide⟩, (hF.trans hout)⟩ dX12_isSo_164
        · skip
          replace hF := q_ifp hF c_19
          refine lv_iconst (v := 1) hx hb dX12_isSo_105 zki_1 ?_
          refine lv_goto (tgt := 164) hx hb dX12_isSo_106 (by decide) ?_
          have hrv : (1 : Int32).toInt = 1 := zt_1
          exact q_retz E hr hlk hI ⟨by decide, by decide⟩ ⟨rfl, ⟨by decide, by decide⟩, (hF.trans hout)⟩ dX12_isSo_164
    refine q_if_ne (A := f_2.toInt) E rfl (tgt := 50) dX12_isSo_32 (by decide) (fun c_20 => ?_) (fun c_20 => ?_)
    · skip
      replace hF := q_ifn hF c_20
      refine lv_iload_n hx hb dX12_isSo_50 rfl (lv_at hl 0 rfl) ?_
      refine lv_iconst (v := 1) hx hb dX12_isSo_51 zki_1 ?_
      refine q_icmp_ne (A := f_2.toInt) (B := 1) E rfl (by decide) (tgt := 62) dX12_isSo_52 (by decide) (fun c_21 => ?_) (fun c_21 => ?_)
      · skip
        replace hF := q_ifn hF c_21
        refine lv_aload_n hx hb dX12_isSo_62 rfl (lv_at hl 1 rfl) ?_
        refine gs_X12_35_12 E hI ha dX12_isSo_63 ?_
        refine lv_bipush (v := 22) hx hb dX12_isSo_66 zkb_22 ?_
        refine lv_aload_n hx hb dX12_isSo_68 rfl (lv_at hl 1 rfl) ?_
        refine gs_X12_35_12 E hI ha dX12_isSo_69 ?_
        refine lv_iload_n hx hb dX12_isSo_72 rfl (lv_at hl 2 rfl) ?_
        refine lv_iconst (v := 1) hx hb dX12_isSo_73 zki_1 ?_
        refine lv_iadd hx hb dX12_isSo_74 ?_
        refine lv_topi (fun z_22 ez_22 => ?_)
        replace hF := q_letX hF ez_22
        have iz_22 := q_addI (A := v1.toInt) (B := 1) ez_22 rfl (by decide) (by first | (clear ht hh ta tb if_2 c_3 c_20 c_21; omega) | omega) (by first | (clear ht hh ta tb if_2 c_3 c_20 c_21; omega) | omega)
        refine q_iald E hI (q_tk (k' := 34) hI ha rfl (Nat.succ_ne_zero _)) ⟨by decide, rfl⟩ (by first | (clear ht hh ta tb if_2 c_3 c_20 c_21; omega) | omega) (by rw [q_lnk (v := 4650) hI (q_tk (k' := 34) hI ha rfl (Nat.succ_ne_zero _)) rfl (by decide)]; omega) dX12_isSo_75 ?_
        refine lv_topi (fun f_23 ef_23 => ?_)
        replace hF := q_letX hF ef_23
        have if_23 : f_23.toInt = m_c X σ a (v1.toInt + 1) := m_rd ef_23 iz_22
        refine lv_iadd hx hb dX12_isSo_76 ?_
        refine lv_topi (fun z_24 ez_24 => ?_)
        replace hF := q_letX hF ez_24
        have iz_24 := q_addI (A := 22) (B := (m_c X σ a (v1.toInt + 1))) ez_24 (by decide) if_23 (by first | (clear hw ht hh iz_1 iz_22 if_23; omega) | omega) (by first | (clear hw ht hh iz_1 iz_22 if_23; omega) | omega)
        refine q_iald E hI (q_tk (k' := 34) hI ha rfl (Nat.succ_ne_zero _)) ⟨by decide, rfl⟩ (by first | (clear hw ht hh iz_1 iz_22 if_23; omega) | omega) (by rw [q_lnk (v := 4650) hI (q_tk (k' := 34) hI ha rfl (Nat.succ_ne_zero _)) rfl (by decide)]; omega) dX12_isSo_77 ?_
        refine lv_topi (fun f_25 ef_25 => ?_)
        replace hF := q_letX hF ef_25
        have if_25 : f_25.toInt = m_c X σ a (22 + (m_c X σ a (v1.toInt + 1))) := m_rd ef_25 iz_24
        exact J_78_4 f_25 _ _ ls hF hI (lv_sub hl [1, 2, 0] rfl)
      · skip
        replace hF := q_ifp hF c_21
        refine lv_aload_n hx hb dX12_isSo_55 rfl (lv_at hl 1 rfl) ?_
        refine q_ci (q_rV11_0 (rest := []) E (hml.trans hl.1.symm) hI (c_X12_heapMany l X σ a ha hG) kv_X12_287 ha ⟨Nat.le_of_ble_eq_true rfl, Nat.le_of_ble_eq_true rfl⟩ (Nat.le_of_ble_eq_true rfl) dX12_isSo_56) hI (Nat.le_of_ble_eq_true rfl) (fun r_26 σ_27 H locs hpσ_27 hkσ_27 hI => ?_)
        have ahpσ_27 := hpσ_27.1
        have bhpσ_27 := hpσ_27.2.1
        have chpσ_27 := hpσ_27.2.2.1
        have dhpσ_27 := hpσ_27.2.2.2
        clear hpσ_27
        replace hI := q_Irw ahpσ_27 hI
        replace hF := q_letX hF dhpσ_27
        refine lv_goto (tgt := 78) hx hb dX12_isSo_59 (by decide) ?_
        exact J_78_4 r_26 _ _ ls hF hI (lv_sub hl [1, 2, 0] rfl)
    · skip
      replace hF := q_ifp hF c_20
      refine lv_aload_n hx hb dX12_isSo_35 rfl (lv_at hl 1 rfl) ?_
      refine lv_aload_n hx hb dX12_isSo_36 rfl (lv_at hl 1 rfl) ?_
      refine gs_X12_35_12 E hI ha dX12_isSo_37 ?_
      refine lv_iload_n hx hb dX12_isSo_40 rfl (lv_at hl 2 rfl) ?_
      refine lv_iconst (v := 1) hx hb dX12_isSo_41 zki_1 ?_
      refine lv_iadd hx hb dX12_isSo_42 ?_
      refine lv_topi (fun z_28 ez_28 => ?_)
      replace hF := q_letX hF ez_28
      have iz_28 := q_addI (A := v1.toInt) (B := 1) ez_28 rfl (by decide) (by first | (clear ht hh ta tb if_2 c_3 c_20; omega) | omega) (by first | (clear ht hh ta tb if_2 c_3 c_20; omega) | omega)
      refine q_iald E hI (q_tk (k' := 34) hI ha rfl (Nat.succ_ne_zero _)) ⟨by decide, rfl⟩ (by first | (clear ht hh ta tb if_2 c_3 c_20; omega) | omega) (by rw [q_lnk (v := 4650) hI (q_tk (k' := 34) hI ha rfl (Nat.succ_ne_zero _)) rfl (by decide)]; omega) dX12_isSo_43 ?_
      refine lv_topi (fun f_29 ef_29 => ?_)
      replace hF := q_letX hF ef_29
      have if_29 : f_29.toInt = m_c X σ a (v1.toInt + 1) := m_rd ef_29 iz_28
      refine q_ci (q_rV11_1 (rest := []) E (hml.trans hl.1.symm) hI (c_X12_cardsOf l X σ a f_29 ha hG (by first | (clear hw ht hh ta iz_1 iz_28; omega) | omega)) kv_X12_293 ha ⟨Nat.le_of_ble_eq_true rfl, Nat.le_of_ble_eq_true rfl⟩ (Nat.le_of_ble_eq_true rfl) dX12_isSo_44) hI (Nat.le_of_ble_eq_true rfl) (fun r_30 σ_31 H locs hpσ_31 hkσ_31 hI => ?_)
      have ahpσ_31 := hpσ_31.1
      have bhpσ_31 := hpσ_31.2.1
      have chpσ_31 := hpσ_31.2.2.1
      have dhpσ_31 := hpσ_31.2.2.2
      clear hpσ_31
      replace hI := q_Irw ahpσ_31 hI
      replace hF := q_letX hF dhpσ_31
      refine lv_goto (tgt := 78) hx hb dX12_isSo_47 (by decide) ?_
      exact J_78_4 r_30 _ _ ls hF hI (lv_sub hl [1, 2, 0] rfl)
  · skip
    replace hF := q_ifp hF c_3
    refine lv_aload_n hx hb dX12_isSo_15 rfl (lv_at hl 1 rfl) ?_
    refine gs_X12_35_12 E hI ha dX12_isSo_16 ?_
    refine lv_bipush (v := 8) hx hb dX12_isSo_19 zkb_8 ?_
    refine q_iald E hI (q_tk (k' := 34) hI ha rfl (Nat.succ_ne_zero _)) ⟨by decide, rfl⟩ (by decide) (by rw [q_lnk (v := 4650) hI (q_tk (k' := 34) hI ha rfl (Nat.succ_ne_zero _)) rfl (by decide)]; decide) dX12_isSo_21 ?_
    refine lv_topi (fun f_32 ef_32 => ?_)
    replace hF := q_letX hF ef_32
    have if_32 : f_32.toInt = m_c X σ a 8 := m_rd ef_32 (by decide)
    refine q_if_lt (A := f_32.toInt) E rfl (tgt := 29) dX12_isSo_22 (by decide) (fun c_33 => ?_) (fun c_33 => ?_)
    · skip
      replace hF := q_ifp hF c_33
      refine lv_iconst (v := 0) hx hb dX12_isSo_29 zki_0 ?_
      have hrv : (0 : Int32).toInt = 0 := zt_0
      exact q_retz E hr hlk hI ⟨by decide, by decide⟩ ⟨rfl, ⟨by decide, by decide⟩, (hF.trans hout)⟩ dX12_isSo_30
    · skip
      replace hF := q_ifn hF (Int.not_lt.mpr c_33)
      refine lv_iconst (v := 1) hx hb dX12_isSo_25 zki_1 ?_
      refine lv_goto (tgt := 30) hx hb dX12_isSo_26 (by decide) ?_
      have hrv : (1 : Int32).toInt = 1 := zt_1
      exact q_retz E hr hlk hI ⟨by decide, by decide⟩ ⟨rfl, ⟨by decide, by decide⟩, (hF.trans hout)⟩ dX12_isSo_30
end
