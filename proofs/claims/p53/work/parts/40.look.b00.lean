/-! FROM 40.look.b00.lean.txt -/
section
set_option maxRecDepth 100000 in
set_option maxHeartbeats 4000000 in
theorem c_X12_isPlayerAt (l : Launch) (X : XW) (σ : ST) (a : Nat) (v1 : Int32) (ha : q_kd X a = 12) (hG : m_G (m_c X σ a)) : Met l yX12_isPlayerAt (q_ws yX12_isPlayerAt cX12_isPlayerAt 2 (some .boolean)) (q_rm 1 25) (q_P X σ [.ref a, .int v1]) (q_Qi X 9 σ (fun (r : Int32) (σ' : ST) => σ' = σ ∧ (0 ≤ r.toInt ∧ r.toInt ≤ 1) ∧ (r.toInt = 1 ↔ (0 ≤ v1.toInt ∧ v1.toInt < m_c X σ a 2)) ∧ r = F_X12_isPlayerAt X σ a v1)) 0 0 (q_reg X) := by
  refine q_met 9 (by first | exact rfl | decide +kernel) rfl (Nat.le_of_ble_eq_true rfl) (fun p e s m below meth c E hml hr hlk hI ls hl => ?_)
  have hx := E.1
  have hb := E.2.1
  have hl : lv_has ls 2 [(0, .ref a), (1, .int v1)] := hl
  have hh := hG.hd
  obtain ⟨out, hout⟩ : ∃ o, o = F_X12_isPlayerAt X σ a v1 := ⟨_, rfl⟩
  have hF := hout.symm
  unfold F_X12_isPlayerAt at hF
  refine lv_iload_n hx hb dX12_isPlayerAt_0 rfl (lv_at hl 1 rfl) ?_
  refine lv_i2l hx hb dX12_isPlayerAt_1 rfl ?_
  refine lv_topl (fun y_1 ey_1 => ?_)
  replace hF := q_letX hF ey_1
  have ggy_1 := q_rng v1
  have iy_1 : y_1.toInt = v1.toInt := by rw [ey_1]; exact (q_i2l _).trans rfl
  refine lv_lconst (v := 0) hx hb dX12_isPlayerAt_2 (by decide) ?_
  refine lv_aload_n hx hb dX12_isPlayerAt_3 rfl (lv_at hl 0 rfl) ?_
  refine gs_X12_35_12 E hI ha dX12_isPlayerAt_4 ?_
  refine lv_iconst (v := 2) hx hb dX12_isPlayerAt_7 zki_2 ?_
  refine q_iald E hI (q_tk (k' := 34) hI ha rfl (Nat.succ_ne_zero _)) ⟨by decide, rfl⟩ (by decide) (by rw [q_lnk (v := 4650) hI (q_tk (k' := 34) hI ha rfl (Nat.succ_ne_zero _)) rfl (by decide)]; decide) dX12_isPlayerAt_8 ?_
  refine lv_topi (fun f_2 ef_2 => ?_)
  replace hF := q_letX hF ef_2
  have if_2 : f_2.toInt = m_c X σ a 2 := m_rd ef_2 (by decide)
  refine lv_iconst (v := 1) hx hb dX12_isPlayerAt_9 zki_1 ?_
  refine lv_isub hx hb dX12_isPlayerAt_10 ?_
  refine lv_topi (fun z_3 ez_3 => ?_)
  replace hF := q_letX hF ez_3
  have iz_3 := q_subI (A := (m_c X σ a 2)) (B := 1) ez_3 if_2 (by decide) (by first | (clear ggy_1 iy_1; omega) | omega) (by first | (clear ggy_1 iy_1; omega) | omega)
  refine lv_i2l hx hb dX12_isPlayerAt_11 rfl ?_
  refine lv_topl (fun y_4 ey_4 => ?_)
  replace hF := q_letX hF ey_4
  have ggy_4 := q_rng z_3
  have iy_4 : y_4.toInt = z_3.toInt := by rw [ey_4]; exact (q_i2l _).trans rfl
  have kc_5 : (0 : Int64).toInt = 0 := rfl
  refine q_ci (q_runS (As := [.long y_1, .long 0, .long y_4]) (rest := []) E (hml.trans hl.1.symm) hI (c_X12_isIn l X σ y_1 (0 : Int64) y_4) ks_X12_94 rfl ⟨Nat.le_of_ble_eq_true rfl, Nat.le_of_ble_eq_true rfl⟩ ⟨Nat.le_refl _, Nat.le_refl _⟩ rfl (Nat.le_of_ble_eq_true rfl) dX12_isPlayerAt_12) hI (Nat.le_of_ble_eq_true rfl) (fun r_6 σ_7 H locs hpσ_7 hkσ_7 hI => ?_)
  have ahpσ_7 := hpσ_7.1
  have bhpσ_7 := hpσ_7.2.1
  have chpσ_7 := hpσ_7.2.2.1
  have dhpσ_7 := hpσ_7.2.2.2
  clear hpσ_7
  replace hI := q_Irw ahpσ_7 hI
  replace hF := q_letX hF dhpσ_7
  exact q_retz E hr hlk hI ⟨by omega, by omega⟩ ⟨rfl, ⟨by omega, by omega⟩, (by first | (clear ggy_4 ahpσ_7 dhpσ_7; omega) | omega), (hF.trans hout)⟩ dX12_isPlayerAt_15

set_option maxRecDepth 100000 in
set_option maxHeartbeats 4000000 in
theorem c_X12_isKindAt (l : Launch) (X : XW) (σ : ST) (a : Nat) (v1 : Int32) (ha : q_kd X a = 12) (hG : m_G (m_c X σ a)) : Met l yX12_isKindAt (q_ws yX12_isKindAt cX12_isKindAt 2 (some .boolean)) (q_rm 1 25) (q_P X σ [.ref a, .int v1]) (q_Qi X 9 σ (fun (r : Int32) (σ' : ST) => σ' = σ ∧ (0 ≤ r.toInt ∧ r.toInt ≤ 1) ∧ (r.toInt = 1 ↔ (0 ≤ v1.toInt ∧ v1.toInt < m_c X σ a 0)) ∧ r = F_X12_isKindAt X σ a v1)) 0 0 (q_reg X) := by
  refine q_met 9 (by first | exact rfl | decide +kernel) rfl (Nat.le_of_ble_eq_true rfl) (fun p e s m below meth c E hml hr hlk hI ls hl => ?_)
  have hx := E.1
  have hb := E.2.1
  have hl : lv_has ls 2 [(0, .ref a), (1, .int v1)] := hl
  have hh := hG.hd
  obtain ⟨out, hout⟩ : ∃ o, o = F_X12_isKindAt X σ a v1 := ⟨_, rfl⟩
  have hF := hout.symm
  unfold F_X12_isKindAt at hF
  refine lv_iload_n hx hb dX12_isKindAt_0 rfl (lv_at hl 1 rfl) ?_
  refine lv_i2l hx hb dX12_isKindAt_1 rfl ?_
  refine lv_topl (fun y_1 ey_1 => ?_)
  replace hF := q_letX hF ey_1
  have ggy_1 := q_rng v1
  have iy_1 : y_1.toInt = v1.toInt := by rw [ey_1]; exact (q_i2l _).trans rfl
  refine lv_lconst (v := 0) hx hb dX12_isKindAt_2 (by decide) ?_
  refine lv_aload_n hx hb dX12_isKindAt_3 rfl (lv_at hl 0 rfl) ?_
  refine gs_X12_35_12 E hI ha dX12_isKindAt_4 ?_
  refine lv_iconst (v := 0) hx hb dX12_isKindAt_7 zki_0 ?_
  refine q_iald E hI (q_tk (k' := 34) hI ha rfl (Nat.succ_ne_zero _)) ⟨by decide, rfl⟩ (by decide) (by rw [q_lnk (v := 4650) hI (q_tk (k' := 34) hI ha rfl (Nat.succ_ne_zero _)) rfl (by decide)]; decide) dX12_isKindAt_8 ?_
  refine lv_topi (fun f_2 ef_2 => ?_)
  replace hF := q_letX hF ef_2
  have if_2 : f_2.toInt = m_c X σ a 0 := m_rd ef_2 (by decide)
  refine lv_iconst (v := 1) hx hb dX12_isKindAt_9 zki_1 ?_
  refine lv_isub hx hb dX12_isKindAt_10 ?_
  refine lv_topi (fun z_3 ez_3 => ?_)
  replace hF := q_letX hF ez_3
  have iz_3 := q_subI (A := (m_c X σ a 0)) (B := 1) ez_3 if_2 (by decide) (by first | (clear ggy_1 iy_1; omega) | omega) (by first | (clear ggy_1 iy_1; omega) | omega)
  refine lv_i2l hx hb dX12_isKindAt_11 rfl ?_
  refine lv_topl (fun y_4 ey_4 => ?_)
  replace hF := q_letX hF ey_4
  have ggy_4 := q_rng z_3
  have iy_4 : y_4.toInt = z_3.toInt := by rw [ey_4]; exact (q_i2l _).trans rfl
  have kc_5 : (0 : Int64).toInt = 0 := rfl
  refine q_ci (q_runS (As := [.long y_1, .long 0, .long y_4]) (rest := []) E (hml.trans hl.1.symm) hI (c_X12_isIn l X σ y_1 (0 : Int64) y_4) ks_X12_94 rfl ⟨Nat.le_of_ble_eq_true rfl, Nat.le_of_ble_eq_true rfl⟩ ⟨Nat.le_refl _, Nat.le_refl _⟩ rfl (Nat.le_of_ble_eq_true rfl) dX12_isKindAt_12) hI (Nat.le_of_ble_eq_true rfl) (fun r_6 σ_7 H locs hpσ_7 hkσ_7 hI => ?_)
  have ahpσ_7 := hpσ_7.1
  have bhpσ_7 := hpσ_7.2.1
  have chpσ_7 := hpσ_7.2.2.1
  have dhpσ_7 := hpσ_7.2.2.2
  clear hpσ_7
  replace hI := q_Irw ahpσ_7 hI
  replace hF := q_letX hF dhpσ_7
  exact q_retz E hr hlk hI ⟨by omega, by omega⟩ ⟨rfl, ⟨by omega, by omega⟩, (by first | (clear ggy_4 ahpσ_7 dhpσ_7; omega) | omega), (hF.trans hout)⟩ dX12_isKindAt_15

set_option maxRecDepth 100000 in
set_option maxHeartbeats 4000000 in
theorem c_X12_isTray (l : Launch) (X : XW) (σ : ST) (a : Nat) (v1 : Int32) (ha : q_kd X a = 12) : Met l yX12_isTray (q_ws yX12_isTray cX12_isTray 2 (some .boolean)) (q_rm 1 25) (q_P X σ [.ref a, .int v1]) (q_Qi X 9 σ (fun (r : Int32) (σ' : ST) => σ' = σ ∧ (0 ≤ r.toInt ∧ r.toInt ≤ 1) ∧ (r.toInt = 1 ↔ (0 ≤ v1.toInt ∧ v1.toInt < 4)) ∧ r = F_X12_isTray X σ a v1)) 0 0 (q_reg X) := by
  refine q_met 9 (by first | exact rfl | decide +kernel) rfl (Nat.le_of_ble_eq_true rfl) (fun p e s m below meth c E hml hr hlk hI ls hl => ?_)
  have hx := E.1
  have hb := E.2.1
  have hl : lv_has ls 2 [(0, .ref a), (1, .int v1)] := hl
  obtain ⟨out, hout⟩ : ∃ o, o = F_X12_isTray X σ a v1 := ⟨_, rfl⟩
  have hF := hout.symm
  unfold F_X12_isTray at hF
  refine lv_iload_n hx hb dX12_isTray_0 rfl (lv_at hl 1 rfl) ?_
  refine lv_i2l hx hb dX12_isTray_1 rfl ?_
  refine lv_topl (fun y_1 ey_1 => ?_)
  replace hF := q_letX hF ey_1
  have ggy_1 := q_rng v1
  have iy_1 : y_1.toInt = v1.toInt := by rw [ey_1]; exact (q_i2l _).trans rfl
  refine lv_lconst (v := 0) hx hb dX12_isTray_2 (by decide) ?_
  refine lv_ldc2 (v := 3) hx hb E.2.2.1 (E.2.2.2.1 _ (q_in_t8 (i := 167) (by first | rfl | decide +kernel) rfl)) dX12_isTray_3 ?_
  have kc_2 : (0 : Int64).toInt = 0 := rfl
  have kc_3 : (3 : Int64).toInt = 3 := rfl
  refine q_ci (q_runS (As := [.long y_1, .long 0, .long 3]) (rest := []) E (hml.trans hl.1.symm) hI (c_X12_isIn l X σ y_1 (0 : Int64) (3 : Int64)) ks_X12_94 rfl ⟨Nat.le_of_ble_eq_true rfl, Nat.le_of_ble_eq_true rfl⟩ ⟨Nat.le_refl _, Nat.le_refl _⟩ rfl (Nat.le_of_ble_eq_true rfl) dX12_isTray_6) hI (Nat.le_of_ble_eq_true rfl) (fun r_4 σ_5 H locs hpσ_5 hkσ_5 hI => ?_)
  have ahpσ_5 := hpσ_5.1
  have bhpσ_5 := hpσ_5.2.1
  have chpσ_5 := hpσ_5.2.2.1
  have dhpσ_5 := hpσ_5.2.2.2
  clear hpσ_5
  replace hI := q_Irw ahpσ_5 hI
  replace hF := q_letX hF dhpσ_5
  exact q_retz E hr hlk hI ⟨by omega, by omega⟩ ⟨rfl, ⟨by omega, by omega⟩, (by first | (clear ahpσ_5 dhpσ_5; omega) | omega), (hF.trans hout)⟩ dX12_isTray_9

set_option maxRecDepth 100000 in
set_option maxHeartbeats 4000000 in
theorem c_X12_handOf (l : Launch) (X : XW) (σ : ST) (a : Nat) (v1 : Int32) (v2 : Int32) (ha : q_kd X a = 12) (h0 : 0 ≤ v1.toInt ∧ v1.toInt ≤ 5) (h1 : 0 ≤ v2.toInt ∧ v2.toInt ≤ 9) : Met l yX12_handOf (q_ws yX12_handOf cX12_handOf 3 (some .int)) (q_rm 0 0) (q_P X σ [.ref a, .int v1, .int v2]) (q_Qi X 9 σ (fun (r : Int32) (σ' : ST) => σ' = σ ∧ (r.toInt = m_c X σ a (34 + 10 * v1.toInt + v2.toInt)) ∧ r = F_X12_handOf X σ a v1 v2)) 0 0 (q_reg X) := by
  refine q_met 9 (by first | exact rfl | decide +kernel) rfl (Nat.le_of_ble_eq_true rfl) (fun p e s m below meth c E hml hr hlk hI ls hl => ?_)
  have hx := E.1
  have hb := E.2.1
  have hl : lv_has ls 3 [(0, .ref a), (1, .int v1), (2, .int v2)] := hl
  obtain ⟨out, hout⟩ : ∃ o, o = F_X12_handOf X σ a v1 v2 := ⟨_, rfl⟩
  have hF := hout.symm
  unfold F_X12_handOf at hF
  refine lv_aload_n hx hb dX12_handOf_0 rfl (lv_at hl 0 rfl) ?_
  refine gs_X12_35_12 E hI ha dX12_handOf_1 ?_
  refine lv_bipush (v := 34) hx hb dX12_handOf_4 zkb_34 ?_
  refine lv_bipush (v := 10) hx hb dX12_handOf_6 zkb_10 ?_
  refine lv_iload_n hx hb dX12_handOf_8 rfl (lv_at hl 1 rfl) ?_
  refine lv_imul hx hb dX12_handOf_9 ?_
  refine lv_topi (fun z_1 ez_1 => ?_)
  replace hF := q_letX hF ez_1
  have iz_1 := q_mulI (A := 10) (B := v1.toInt) ez_1 (by decide) rfl (by first | (clear h0 h1; omega) | omega) (by first | (clear h0 h1; omega) | omega)
  refine lv_iadd hx hb dX12_handOf_10 ?_
  refine lv_topi (fun z_2 ez_2 => ?_)
  replace hF := q_letX hF ez_2
  have iz_2 := q_addI (A := 34) (B := (10 * v1.toInt)) ez_2 (by decide) iz_1 (by first | (clear h0 h1 iz_1; omega) | omega) (by first | (clear h0 h1 iz_1; omega) | omega)
  refine lv_iload_n hx hb dX12_handOf_11 rfl (lv_at hl 2 rfl) ?_
  refine lv_iadd hx hb dX12_handOf_12 ?_
  refine lv_topi (fun z_3 ez_3 => ?_)
  replace hF := q_letX hF ez_3
  have iz_3 := q_addI (A := (34 + (10 * v1.toInt))) (B := v2.toInt) ez_3 iz_2 rfl (by first | (clear h0 h1 iz_1 iz_2; omega) | omega) (by first | (clear h0 h1 iz_1 iz_2; omega) | omega)
  refine q_iald E hI (q_tk (k' := 34) hI ha rfl (Nat.succ_ne_zero _)) ⟨by decide, rfl⟩ (by first | (clear h0 h1 iz_1 iz_2; omega) | omega) (by rw [q_lnk (v := 4650) hI (q_tk (k' := 34) hI ha rfl (Nat.succ_ne_zero _)) rfl (by decide)]; omega) dX12_handOf_13 ?_
  refine lv_topi (fun f_4 ef_4 => ?_)
  replace hF := q_letX hF ef_4
  have if_4 : f_4.toInt = m_c X σ a ((34 + (10 * v1.toInt)) + v2.toInt) := m_rd ef_4 iz_3
  exact q_reti E hr hlk hI ⟨rfl, if_4, (hF.trans hout)⟩ dX12_handOf_14

set_option maxRecDepth 100000 in
set_option maxHeartbeats 4000000 in
theorem c_X12_laid (l : Launch) (X : XW) (σ : ST) (v0 : Int32) (h0 : 0 ≤ v0.toInt ∧ v0.toInt ≤ 100) : Met l yX12_laid (q_ws yX12_laid cX12_laid 1 (some .int)) (q_rm 0 0) (q_P X σ [.int v0]) (q_Qi X 9 σ (fun (r : Int32) (σ' : ST) => σ' = σ ∧ (r.toInt = 94 + 7 * v0.toInt) ∧ r = F_X12_laid X σ v0)) 0 0 (q_reg X) := by
  refine q_met 9 (by first | exact rfl | decide +kernel) rfl (Nat.le_of_ble_eq_true rfl) (fun p e s m below meth c E hml hr hlk hI ls hl => ?_)
  have hx := E.1
  have hb := E.2.1
  have hl : lv_has ls 1 [(0, .int v0)] := hl
  obtain ⟨out, hout⟩ : ∃ o, o = F_X12_laid X σ v0 := ⟨_, rfl⟩
  have hF := hout.symm
  unfold F_X12_laid at hF
  refine lv_bipush (v := 94) hx hb dX12_laid_0 zkb_94 ?_
  refine lv_bipush (v := 7) hx hb dX12_laid_2 zkb_7 ?_
  refine lv_iload_n hx hb dX12_laid_4 rfl (lv_at hl 0 rfl) ?_
  refine lv_imul hx hb dX12_laid_5 ?_
  refine lv_topi (fun z_1 ez_1 => ?_)
  replace hF := q_letX hF ez_1
  have iz_1 := q_mulI (A := 7) (B := v0.toInt) ez_1 (by decide) rfl (by first | (clear h0; omega) | omega) (by first | (clear h0; omega) | omega)
  refine lv_iadd hx hb dX12_laid_6 ?_
  refine lv_topi (fun z_2 ez_2 => ?_)
  replace hF := q_letX hF ez_2
  have iz_2 := q_addI (A := 94) (B := (7 * v0.toInt)) ez_2 (by decide) iz_1 (by first | (clear h0 iz_1; omega) | omega) (by first | (clear h0 iz_1; omega) | omega)
  exact q_reti E hr hlk hI ⟨rfl, (by omega), (hF.trans hout)⟩ dX12_laid_7

set_option maxRecDepth 100000 in
set_option maxHeartbeats 4000000 in
theorem c_X12_cardsOf (l : Launch) (X : XW) (σ : ST) (a : Nat) (v1 : Int32) (ha : q_kd X a = 12) (hG : m_G (m_c X σ a)) (h0 : 0 ≤ v1.toInt ∧ v1.toInt ≤ 5) : Met l yX12_cardsOf (q_ws yX12_cardsOf cX12_cardsOf 4 (some .int)) (q_rm 1 22) (q_P X σ [.ref a, .int v1]) (q_Qi X 9 σ (fun (r : Int32) (σ' : ST) => σ' = σ ∧ (r.toInt = m_S (m_c X σ a) (34 + 10 * v1.toInt) 10) ∧ (0 ≤ r.toInt ∧ r.toInt ≤ 80) ∧ r = F_X12_cardsOf X σ a v1)) 0 0 (q_reg X) := by
  refine q_met 9 (by first | exact rfl | decide +kernel) rfl (Nat.le_of_ble_eq_true rfl) (fun p e s m below meth c E hml hr hlk hI ls hl => ?_)
  have hx := E.1
  have hb := E.2.1
  have hl : lv_has ls 4 [(0, .ref a), (1, .int v1)] := hl
  have hh := hG.hd
  obtain ⟨out, hout⟩ : ∃ o, o = F_X12_cardsOf X σ a v1 := ⟨_, rfl⟩
  have hF := hout.symm
  unfold F_X12_cardsOf at hF
  refine lv_iconst (v := 0) hx hb dX12_cardsOf_0 zki_0 ?_
  refine lv_istore_n (lv' := [(2, .int 0), (0, .ref a), (1, .int v1)]) hx hb dX12_cardsOf_1 rfl hl (by decide) rfl (fun ls hl => ?_)
  refine lv_iconst (v := 0) hx hb dX12_cardsOf_2 zki_0 ?_
  refine lv_istore_n (lv' := [(3, .int 0), (2, .int 0), (0, .ref a), (1, .int v1)]) hx hb dX12_cardsOf_3 rfl hl (by decide) rfl (fun ls hl => ?_)
  have L_4_3 : ∀ (k_3 : Nat) (x_1 : Int32) (x_2 : Int32) (H : Heap) (locs : List Loc) (ls : Array Slot), (2147483647 - x_2.toInt).toNat < k_3 → (0 ≤ x_2.toInt ∧ x_2.toInt ≤ 10) → (x_1.toInt = m_S (m_c X σ a) (34 + 10 * v1.toInt) x_2.toInt.toNat) → (F_X12_cardsOf_L4_1 X σ a v1 k_3 x_1 x_2 = out) → q_I X 9 σ s.heap locs σ H → lv_has ls 4 [(0, .ref a), (1, .int v1), (2, .int x_1), (3, .int x_2)] → W p l e (q_rm 1 22) s m ([.ref a, .int v1] : List Value).toArray below meth c H locs 0 0 (MQ below (q_Qi X 9 σ (fun (r : Int32) (σ' : ST) => σ' = σ ∧ (r.toInt = m_S (m_c X σ a) (34 + 10 * v1.toInt) 10) ∧ (0 ≤ r.toInt ∧ r.toInt ≤ 80) ∧ r = F_X12_cardsOf X σ a v1)) ([.ref a, .int v1] : List Value).toArray s 0 0 (q_reg X)) (F0 m 4 ls []) := by
    clear hF
    intro k_3
    induction k_3 with
    | zero =>
      intro x_1 x_2 H locs ls hms
      exact absurd hms (Nat.not_lt_zero _)
    | succ k_3 ih4 =>
      intro x_1 x_2 H locs ls hm4 hge4 hs4 hF hI hl
      replace hF := (F_X12_cardsOf_L4_1_s).symm.trans hF
      unfold F_X12_cardsOf_B4_1 at hF
      have sb := hG.S80 (p := v1.toInt) (k := x_2.toInt) (by first | (clear h0 hh hm4 hge4 hs4; omega) | omega) (by first | (clear h0 hh hm4 hge4 hs4; omega) | omega) (by first | (clear h0 hh hm4 hs4; omega) | omega) (by first | (clear h0 hh hm4 hs4; omega) | omega)
      have ps := m_S_succ (m_c X σ a) (34 + 10 * v1.toInt) x_2.toInt hge4.1
      refine lv_iload_n hx hb dX12_cardsOf_4 rfl (lv_at hl 3 rfl) ?_
      refine lv_bipush (v := 10) hx hb dX12_cardsOf_5 zkb_10 ?_
      have gc_4_x_2 := q_rng x_2
      refine q_icmp_ge (A := x_2.toInt) (B := 10) E rfl (by decide) (tgt := 25) dX12_cardsOf_7 (by decide) (fun c_4 => ?_) (fun c_4 => ?_)
      · skip
        replace hF := q_ifn hF (Int.not_lt.mpr c_4)
        skip
        refine lv_iload_n hx hb dX12_cardsOf_25 rfl (lv_at hl 2 rfl) ?_
        exact q_reti E hr hlk hI ⟨rfl, (by have q : x_2.toInt.toNat = 10 := (by first | (clear h0 hh hm4 hs4 sb ps gc_4_x_2; omega) | omega); rw [q] at hs4; exact hs4), (by first | (clear h0 hh hm4 hge4 gc_4_x_2 c_4; omega) | omega), (hF.trans hout)⟩ dX12_cardsOf_26
      · skip
        replace hF := q_ifp hF c_4
        refine lv_iload_n hx hb dX12_cardsOf_10 rfl (lv_at hl 2 rfl) ?_
        refine lv_aload_n hx hb dX12_cardsOf_11 rfl (lv_at hl 0 rfl) ?_
        refine lv_iload_n hx hb dX12_cardsOf_12 rfl (lv_at hl 1 rfl) ?_
        refine lv_iload_n hx hb dX12_cardsOf_13 rfl (lv_at hl 3 rfl) ?_
        refine q_ci (q_rV11_2 (rest := [.int x_1]) E (hml.trans hl.1.symm) hI (c_X12_handOf l X σ a v1 x_2 ha (by omega) (by first | (clear h0 hh hm4 hs4 sb ps gc_4_x_2; omega) | omega)) kv_X12_276 ha ⟨Nat.le_of_ble_eq_true rfl, Nat.le_of_ble_eq_true rfl⟩ (Nat.le_of_ble_eq_true rfl) dX12_cardsOf_14) hI (Nat.le_of_ble_eq_true rfl) (fun r_5 σ_6 H locs hpσ_6 hkσ_6 hI => ?_)
        have ahpσ_6 := hpσ_6.1
        have bhpσ_6 := hpσ_6.2.1
        have chpσ_6 := hpσ_6.2.2
        clear hpσ_6
        replace hI := q_Irw ahpσ_6 hI
        replace hF := q_letX hF chpσ_6
        have ir_5 : r_5.toInt = (m_c X σ a (34 + 10 * v1.toInt + x_2.toInt)) := (by first | exact bhpσ_6 | (rw [bhpσ_6]) | (simp only [bhpσ_6]))
        have hbr_5 := hG.h80 (p := v1.toInt) (k := x_2.toInt) (by first | (clear h0 hh hm4 hge4 hs4 sb ps gc_4_x_2 c_4 ahpσ_6 bhpσ_6 chpσ_6 ir_5; omega) | omega) (by first | (clear h0 hh hm4 hge4 hs4 sb ps gc_4_x_2 c_4 ahpσ_6 bhpσ_6 chpσ_6 ir_5; omega) | omega) (by first | (clear h0 hh hm4 hs4 sb ps gc_4_x_2 ahpσ_6 bhpσ_6 chpσ_6 ir_5; omega) | omega) (by omega)
        refine lv_iadd hx hb dX12_cardsOf_17 ?_
        refine lv_topi (fun z_7 ez_7 => ?_)
        replace hF := q_letX hF ez_7
        have iz_7 := q_addI (A := x_1.toInt) (B := (m_c X σ a (34 + 10 * v1.toInt + x_2.toInt))) ez_7 rfl ir_5 (by first | (clear h0 hh hm4 hge4 gc_4_x_2 c_4 ahpσ_6 chpσ_6 ir_5; omega) | omega) (by first | (clear h0 hh hm4 hge4 gc_4_x_2 c_4 ahpσ_6 chpσ_6 ir_5; omega) | omega)
        refine lv_istore_n (lv' := [(2, .int z_7), (0, .ref a), (1, .int v1), (3, .int x_2)]) hx hb dX12_cardsOf_18 rfl hl (by decide) rfl (fun ls hl => ?_)
        obtain ⟨z_8, ez_8⟩ : ∃ y : Int32, y = x_2 + 1 := ⟨_, rfl⟩
        replace hF := q_letX hF ez_8
        refine lv_iinc (v := z_8) (lv' := [(3, .int z_8), (2, .int z_7), (0, .ref a), (1, .int v1)]) hx hb dX12_cardsOf_19 hl (k := 3) rfl (by rw [ez_8]; rfl) (by decide) rfl (fun ls hl => ?_)
        have iz_8 : z_8.toInt = x_2.toInt + 1 := q_inc ez_8 (by first | (clear h0 hh hm4 hs4 sb ps gc_4_x_2 ahpσ_6 bhpσ_6 chpσ_6 ir_5 hbr_5 iz_7; omega) | omega)
        have pz := ps
        rw [← iz_8] at pz
        refine lv_goto (tgt := 4) hx hb dX12_cardsOf_22 (by decide) ?_
        exact ih4 z_7 z_8 _ _ ls (by first | (clear h0 hh hs4 sb ps gc_4_x_2 ahpσ_6 bhpσ_6 chpσ_6 ir_5 hbr_5 iz_7 pz; omega) | omega) (by first | (clear h0 hh hm4 hs4 sb ps gc_4_x_2 ahpσ_6 bhpσ_6 chpσ_6 ir_5 hbr_5 iz_7 pz; omega) | omega) (by first | (clear h0 hh hm4 hge4 sb gc_4_x_2 c_4 ahpσ_6 bhpσ_6 chpσ_6 ir_5 hbr_5 iz_8; omega) | omega) hF hI (lv_sub hl [2, 3, 1, 0] rfl)
  have kc_9 : (0 : Int32).toInt = 0 := zt_0
  exact L_4_3 ((2147483647 - (0 : Int32).toInt).toNat + 1) 0 0 _ _ ls (Nat.lt_succ_self _) (by decide) rfl hF hI (lv_sub hl [2, 3, 1, 0] rfl)

set_option maxRecDepth 100000 in
set_option maxHeartbeats 4000000 in
theorem c_X12_heapMany (l : Launch) (X : XW) (σ : ST) (a : Nat) (ha : q_kd X a = 12) (hG : m_G (m_c X σ a)) : Met l yX12_heapMany (q_ws yX12_heapMany cX12_heapMany 3 (some .int)) (q_rm 1 20) (q_P X σ [.ref a]) (q_Qi X 9 σ (fun (r : Int32) (σ' : ST) => σ' = σ ∧ (r.toInt = m_L (m_c X σ a) (m_c X σ a 9).toNat) ∧ (0 ≤ r.toInt ∧ r.toInt ≤ 80) ∧ r = F_X12_heapMany X σ a)) 0 0 (q_reg X) := by
  refine q_met 9 (by first | exact rfl | decide +kernel) rfl (Nat.le_of_ble_eq_true rfl) (fun p e s m below meth c E hml hr hlk hI ls hl => ?_)
  have hx := E.1
  have hb := E.2.1
  have hl : lv_has ls 3 [(0, .ref a)] := hl
  have hh := hG.hd
  obtain ⟨out, hout⟩ : ∃ o, o = F_X12_heapMany X σ a := ⟨_, rfl⟩
  have hF := hout.symm
  unfold F_X12_heapMany at hF
  refine lv_iconst (v := 0) hx hb dX12_heapMany_0 zki_0 ?_
  refine lv_istore_n (lv' := [(1, .int 0), (0, .ref a)]) hx hb dX12_heapMany_1 rfl hl (by decide) rfl (fun ls hl => ?_)
  refine lv_iconst (v := 0) hx hb dX12_heapMany_2 zki_0 ?_
  refine lv_istore_n (lv' := [(2, .int 0), (1, .int 0), (0, .ref a)]) hx hb dX12_heapMany_3 rfl hl (by decide) rfl (fun ls hl => ?_)
  have L_4_3 : ∀ (k_3 : Nat) (x_1 : Int32) (x_2 : Int32) (H : Heap) (locs : List Loc) (ls : Array Slot), (2147483647 - x_2.toInt).toNat < k_3 → (0 ≤ x_2.toInt ∧ x_2.toInt ≤ m_c X σ a 9) → (x_1.toInt = m_L (m_c X σ a) x_2.toInt.toNat) → (F_X12_heapMany_L4_1 X σ a k_3 x_1 x_2 = out) → q_I X 9 σ s.heap locs σ H → lv_has ls 3 [(0, .ref a), (1, .int x_1), (2, .int x_2)] → W p l e (q_rm 1 20) s m ([.ref a] : List Value).toArray below meth c H locs 0 0 (MQ below (q_Qi X 9 σ (fun (r : Int32) (σ' : ST) => σ' = σ ∧ (r.toInt = m_L (m_c X σ a) (m_c X σ a 9).toNat) ∧ (0 ≤ r.toInt ∧ r.toInt ≤ 80) ∧ r = F_X12_heapMany X σ a)) ([.ref a] : List Value).toArray s 0 0 (q_reg X)) (F0 m 4 ls []) := by
    clear hF
    intro k_3
    induction k_3 with
    | zero =>
      intro x_1 x_2 H locs ls hms
      exact absurd hms (Nat.not_lt_zero _)
    | succ k_3 ih4 =>
      intro x_1 x_2 H locs ls hm4 hge4 hs4 hF hI hl
      replace hF := (F_X12_heapMany_L4_1_s).symm.trans hF
      unfold F_X12_heapMany_B4_1 at hF
      have sb := hG.L80 (k := x_2.toInt) (by first | (clear hh hm4 hs4; omega) | omega) (by first | (clear hh hm4 hs4; omega) | omega)
      have ps := m_L_succ (m_c X σ a) x_2.toInt hge4.1
      refine lv_iload_n hx hb dX12_heapMany_4 rfl (lv_at hl 2 rfl) ?_
      refine lv_aload_n hx hb dX12_heapMany_5 rfl (lv_at hl 0 rfl) ?_
      refine gs_X12_35_12 E hI ha dX12_heapMany_6 ?_
      refine lv_bipush (v := 9) hx hb dX12_heapMany_9 zkb_9 ?_
      refine q_iald E hI (q_tk (k' := 34) hI ha rfl (Nat.succ_ne_zero _)) ⟨by decide, rfl⟩ (by decide) (by rw [q_lnk (v := 4650) hI (q_tk (k' := 34) hI ha rfl (Nat.succ_ne_zero _)) rfl (by decide)]; decide) dX12_heapMany_11 ?_
      refine lv_topi (fun f_4 ef_4 => ?_)
      replace hF := q_letX hF ef_4
      have if_4 : f_4.toInt = m_c X σ a 9 := m_rd ef_4 (by decide)
      have gc_5_x_2 := q_rng x_2
      have gc_5_f_4 := q_rng f_4
      refine q_icmp_ge (A := x_2.toInt) (B := f_4.toInt) E rfl rfl (tgt := 35) dX12_heapMany_12 (by decide) (fun c_5 => ?_) (fun c_5 => ?_)
      · skip
        replace hF := q_ifn hF (Int.not_lt.mpr c_5)
        skip
        refine lv_iload_n hx hb dX12_heapMany_35 rfl (lv_at hl 1 rfl) ?_
        exact q_reti E hr hlk hI ⟨rfl, (by have q : x_2.toInt = m_c X σ a 9 := (by first | (clear hh hm4 hs4 sb ps gc_5_x_2 gc_5_f_4; omega) | omega); rw [q] at hs4; exact hs4), (by first | (clear hh hm4 hge4 if_4 gc_5_x_2 gc_5_f_4 c_5; omega) | omega), (hF.trans hout)⟩ dX12_heapMany_36
      · skip
        replace hF := q_ifp hF c_5
        refine lv_iload_n hx hb dX12_heapMany_15 rfl (lv_at hl 1 rfl) ?_
        refine lv_aload_n hx hb dX12_heapMany_16 rfl (lv_at hl 0 rfl) ?_
        refine gs_X12_35_12 E hI ha dX12_heapMany_17 ?_
        refine lv_iload_n hx hb dX12_heapMany_20 rfl (lv_at hl 2 rfl) ?_
        refine q_ci (q_runS (As := [.int x_2]) (rest := [.ref (q_rf X a 20), .int x_1]) E (hml.trans hl.1.symm) hI (c_X12_laid l X σ x_2 (by first | (clear hm4 hs4 sb ps gc_5_f_4; omega) | omega)) ks_X12_279 rfl ⟨Nat.le_of_ble_eq_true rfl, Nat.le_of_ble_eq_true rfl⟩ ⟨Nat.le_refl _, Nat.le_refl _⟩ rfl (Nat.le_of_ble_eq_true rfl) dX12_heapMany_21) hI (Nat.le_of_ble_eq_true rfl) (fun r_6 σ_7 H locs hpσ_7 hkσ_7 hI => ?_)
        have ahpσ_7 := hpσ_7.1
        have bhpσ_7 := hpσ_7.2.1
        have chpσ_7 := hpσ_7.2.2
        clear hpσ_7
        replace hI := q_Irw ahpσ_7 hI
        replace hF := q_letX hF chpσ_7
        have ir_6 : r_6.toInt = (94 + 7 * x_2.toInt) := (by omega)
        refine lv_iconst (v := 2) hx hb dX12_heapMany_24 zki_2 ?_
        refine lv_iadd hx hb dX12_heapMany_25 ?_
        refine lv_topi (fun z_8 ez_8 => ?_)
        replace hF := q_letX hF ez_8
        have iz_8 := q_addI (A := (94 + 7 * x_2.toInt)) (B := 2) ez_8 ir_6 (by decide) (by first | (clear hh hm4 hs4 sb ps if_4 gc_5_f_4 c_5 ahpσ_7 bhpσ_7 chpσ_7 ir_6; omega) | omega) (by first | (clear hm4 hs4 sb ps gc_5_f_4 ahpσ_7 bhpσ_7 chpσ_7 ir_6; omega) | omega)
        refine q_iald E hI (q_tk (k' := 34) hI ha rfl (Nat.succ_ne_zero _)) ⟨by decide, rfl⟩ (by first | (clear hh hm4 hs4 sb ps if_4 gc_5_f_4 c_5 ahpσ_7 bhpσ_7 chpσ_7 ir_6; omega) | omega) (by rw [q_lnk (v := 4650) hI (q_tk (k' := 34) hI ha rfl (Nat.succ_ne_zero _)) rfl (by decide)]; omega) dX12_heapMany_26 ?_
        refine lv_topi (fun f_9 ef_9 => ?_)
        replace hF := q_letX hF ef_9
        have if_9 : f_9.toInt = m_c X σ a ((94 + 7 * x_2.toInt) + 2) := m_rd ef_9 iz_8
        have hbf_9 := (hG.2.2.1 x_2.toInt (by first | (clear hh hm4 hs4 sb ps if_4 gc_5_f_4 c_5 ahpσ_7 bhpσ_7 chpσ_7 ir_6 iz_8 if_9; omega) | omega) (by first | (clear hh hm4 hge4 hs4 sb ps gc_5_x_2 gc_5_f_4 ahpσ_7 bhpσ_7 chpσ_7 ir_6 iz_8 if_9; omega) | omega)).1
        refine lv_iadd hx hb dX12_heapMany_27 ?_
        refine lv_topi (fun z_10 ez_10 => ?_)
        replace hF := q_letX hF ez_10
        have iz_10 := q_addI (A := x_1.toInt) (B := (m_c X σ a ((94 + 7 * x_2.toInt) + 2))) ez_10 rfl if_9 (by first | (clear hh hm4 hge4 if_4 gc_5_x_2 gc_5_f_4 c_5 ahpσ_7 bhpσ_7 chpσ_7 ir_6 iz_8; omega) | omega) (by first | (clear hh hm4 hge4 if_4 gc_5_x_2 gc_5_f_4 c_5 ahpσ_7 bhpσ_7 chpσ_7 ir_6 iz_8; omega) | omega)
        refine lv_istore_n (lv' := [(1, .int z_10), (0, .ref a), (2, .int x_2)]) hx hb dX12_heapMany_28 rfl hl (by decide) rfl (fun ls hl => ?_)
        obtain ⟨z_11, ez_11⟩ : ∃ y : Int32, y = x_2 + 1 := ⟨_, rfl⟩
        replace hF := q_letX hF ez_11
        refine lv_iinc (v := z_11) (lv' := [(2, .int z_11), (1, .int z_10), (0, .ref a)]) hx hb dX12_heapMany_29 hl (k := 2) rfl (by rw [ez_11]; rfl) (by decide) rfl (fun ls hl => ?_)
        have iz_11 : z_11.toInt = x_2.toInt + 1 := q_inc ez_11 (by first | (clear hm4 hs4 sb ps gc_5_f_4 ahpσ_7 bhpσ_7 chpσ_7 ir_6 iz_8 if_9 hbf_9 iz_10; omega) | omega)
        have pz := ps
        rw [← iz_11] at pz
        refine lv_goto (tgt := 4) hx hb dX12_heapMany_32 (by decide) ?_
        exact ih4 z_10 z_11 _ _ ls (by first | (clear hs4 sb ps gc_5_f_4 ahpσ_7 bhpσ_7 chpσ_7 ir_6 iz_8 if_9 hbf_9 iz_10 pz; omega) | omega) (by first | (clear hh hm4 hs4 sb ps gc_5_f_4 ahpσ_7 bhpσ_7 chpσ_7 ir_6 iz_8 if_9 hbf_9 iz_10 pz; omega) | omega) (by first | (clear hh hm4 hge4 sb if_4 gc_5_x_2 gc_5_f_4 c_5 ahpσ_7 bhpσ_7 chpσ_7 ir_6 iz_8 if_9 hbf_9 iz_11; omega) | omega) hF hI (lv_sub hl [2, 1, 0] rfl)
  have kc_12 : (0 : Int32).toInt = 0 := zt_0
  exact L_4_3 ((2147483647 - (0 : Int32).toInt).toNat + 1) 0 0 _ _ ls (Nat.lt_succ_self _) (by have q : (0 : Int32).toInt = 0 := rfl; omega) rfl hF hI (lv_sub hl [2, 1, 0] rfl)

set_option maxRecDepth 100000 in
set_option maxHeartbeats 4000000 in
theorem c_X12_laidOf (l : Launch) (X : XW) (σ : ST) (a : Nat) (v1 : Int32) (v2 : Int32) (ha : q_kd X a = 12) (hG : m_G (m_c X σ a)) : Met l yX12_laidOf (q_ws yX12_laidOf cX12_laidOf 7 (some .int)) (q_rm 1 20) (q_P X σ [.ref a, .int v1, .int v2]) (q_Qi X 9 σ (fun (r : Int32) (σ' : ST) => σ' = σ ∧ (r.toInt = m_A (m_c X σ a) v1.toInt v2.toInt (m_c X σ a 9).toNat) ∧ (0 ≤ r.toInt ∧ r.toInt ≤ 80) ∧ r = F_X12_laidOf X σ a v1 v2)) 0 0 (q_reg X) := by
  refine q_met 9 (by first | exact rfl | decide +kernel) rfl (Nat.le_of_ble_eq_true rfl) (fun p e s m below meth c E hml hr hlk hI ls hl => ?_)
  have hx := E.1
  have hb := E.2.1
  have hl : lv_has ls 7 [(0, .ref a), (1, .int v1), (2, .int v2)] := hl
  have hh := hG.hd
  obtain ⟨out, hout⟩ : ∃ o, o = F_X12_laidOf X σ a v1 v2 := ⟨_, rfl⟩
  have hF := hout.symm
  unfold F_X12_laidOf at hF
  refine lv_iconst (v := 0) hx hb dX12_laidOf_0 zki_0 ?_
  refine lv_istore_n (lv' := [(3, .int 0), (0, .ref a), (1, .int v1), (2, .int v2)]) hx hb dX12_laidOf_1 rfl hl (by decide) rfl (fun ls hl => ?_)
  refine lv_iconst (v := 0) hx hb dX12_laidOf_2 zki_0 ?_
  refine lv_istore (lv' := [(4, .int 0), (3, .int 0), (0, .ref a), (1, .int v1), (2, .int v2)]) hx hb dX12_laidOf_3 hl (by decide) rfl (fun ls hl => ?_)
  have L_5_3 : ∀ (k_3 : Nat) (x_1 : Int32) (x_2 : Int32) (H : Heap) (locs : List Loc) (ls : Array Slot), (2147483647 - x_2.toInt).toNat < k_3 → (0 ≤ x_2.toInt ∧ x_2.toInt ≤ m_c X σ a 9) → (x_1.toInt = m_A (m_c X σ a) v1.toInt v2.toInt x_2.toInt.toNat) → (F_X12_laidOf_L5_1 X σ a v1 v2 k_3 x_1 x_2 = out) → q_I X 9 σ s.heap locs σ H → lv_has ls 7 [(0, .ref a), (1, .int v1), (2, .int v2), (3, .int x_1), (4, .int x_2)] → W p l e (q_rm 1 20) s m ([.ref a, .int v1, .int v2] : List Value).toArray below meth c H locs 0 0 (MQ below (q_Qi X 9 σ (fun (r : Int32) (σ' : ST) => σ' = σ ∧ (r.toInt = m_A (m_c X σ a) v1.toInt v2.toInt (m_c X σ a 9).toNat) ∧ (0 ≤ r.toInt ∧ r.toInt ≤ 80) ∧ r = F_X12_laidOf X σ a v1 v2)) ([.ref a, .int v1, .int v2] : List Value).toArray s 0 0 (q_reg X)) (F0 m 5 ls []) := by
    clear hF
    intro k_3
    induction k_3 with
    | zero =>
      intro x_1 x_2 H locs ls hms
      exact absurd hms (Nat.not_lt_zero _)
    | succ k_3 ih5 =>
      intro x_1 x_2 H locs ls hm5 hge5 hs5 hF hI hl
      replace hF := (F_X12_laidOf_L5_1_s).symm.trans hF
      unfold F_X12_laidOf_B5_1 at hF
      have sb := hG.A_bd v1.toInt v2.toInt x_2.toInt.toNat (by first | (clear hm5 hs5; omega) | omega)
      have sl := hG.L80 (k := x_2.toInt) (by first | (clear hh hm5 hs5 sb; omega) | omega) (by first | (clear hh hm5 hs5 sb; omega) | omega)
      have ps := m_A_succ (m_c X σ a) v1.toInt v2.toInt x_2.toInt hge5.1
      refine lv_iload hx hb dX12_laidOf_5 (lv_at hl 4 rfl) ?_
      refine lv_aload_n hx hb dX12_laidOf_7 rfl (lv_at hl 0 rfl) ?_
      refine gs_X12_35_12 E hI ha dX12_laidOf_8 ?_
      refine lv_bipush (v := 9) hx hb dX12_laidOf_11 zkb_9 ?_
      refine q_iald E hI (q_tk (k' := 34) hI ha rfl (Nat.succ_ne_zero _)) ⟨by decide, rfl⟩ (by decide) (by rw [q_lnk (v := 4650) hI (q_tk (k' := 34) hI ha rfl (Nat.succ_ne_zero _)) rfl (by decide)]; decide) dX12_laidOf_13 ?_
      refine lv_topi (fun f_4 ef_4 => ?_)
      replace hF := q_letX hF ef_4
      have if_4 : f_4.toInt = m_c X σ a 9 := m_rd ef_4 (by decide)
      have gc_5_x_2 := q_rng x_2
      have gc_5_f_4 := q_rng f_4
      refine q_icmp_ge (A := x_2.toInt) (B := f_4.toInt) E rfl rfl (tgt := 99) dX12_laidOf_14 (by decide) (fun c_5 => ?_) (fun c_5 => ?_)
      · skip
        replace hF := q_ifn hF (Int.not_lt.mpr c_5)
        skip
        refine lv_iload_n hx hb dX12_laidOf_99 rfl (lv_at hl 3 rfl) ?_
        exact q_reti E hr hlk hI ⟨rfl, (by have q : x_2.toInt = m_c X σ a 9 := (by first | (clear hh hm5 hs5 sb sl ps gc_5_x_2 gc_5_f_4; omega) | omega); rw [q] at hs5; exact hs5), (by first | (clear hh hm5 hge5 if_4 gc_5_x_2 gc_5_f_4 c_5; omega) | omega), (hF.trans hout)⟩ dX12_laidOf_100
      · skip
        replace hF := q_ifp hF c_5
        refine lv_iload hx hb dX12_laidOf_17 (lv_at hl 4 rfl) ?_
        refine q_ci (q_runS (As := [.int x_2]) (rest := []) E (hml.trans hl.1.symm) hI (c_X12_laid l X σ x_2 (by first | (clear hm5 hs5 sb sl ps gc_5_f_4; omega) | omega)) ks_X12_279 rfl ⟨Nat.le_of_ble_eq_true rfl, Nat.le_of_ble_eq_true rfl⟩ ⟨Nat.le_refl _, Nat.le_refl _⟩ rfl (Nat.le_of_ble_eq_true rfl) dX12_laidOf_19) hI (Nat.le_of_ble_eq_true rfl) (fun r_6 σ_7 H locs hpσ_7 hkσ_7 hI => ?_)
        have ahpσ_7 := hpσ_7.1
        have bhpσ_7 := hpσ_7.2.1
        have chpσ_7 := hpσ_7.2.2
        clear hpσ_7
        replace hI := q_Irw ahpσ_7 hI
        replace hF := q_letX hF chpσ_7
        have ir_6 : r_6.toInt = (94 + 7 * x_2.toInt) := (by omega)
        refine lv_istore (lv' := [(5, .int r_6), (0, .ref a), (1, .int v1), (2, .int v2), (3, .int x_1), (4, .int x_2)]) hx hb dX12_laidOf_22 hl (by decide) rfl (fun ls hl => ?_)
        refine lv_iload_n hx hb dX12_laidOf_24 rfl (lv_at hl 2 rfl) ?_
        have J_42_7 : ∀  (H : Heap) (locs : List Loc) (ls : Array Slot), (¬ (0 ≤ v1.toInt ∧ m_c X σ a (94 + 7 * x_2.toInt) ≠ v1.toInt)) → (F_X12_laidOf_J42_3 X r_6 σ a v2 x_2 (F_X12_laidOf_L5_1 X σ a v1 v2 k_3) x_1 = out) → q_I X 9 σ s.heap locs σ H → lv_has ls 7 [(0, .ref a), (1, .int v1), (2, .int v2), (3, .int x_1), (4, .int x_2), (5, .int r_6)] → W p l e (q_rm 1 20) s m ([.ref a, .int v1, .int v2] : List Value).toArray below meth c H locs 0 0 (MQ below (q_Qi X 9 σ (fun (r : Int32) (σ' : ST) => σ' = σ ∧ (r.toInt = m_A (m_c X σ a) v1.toInt v2.toInt (m_c X σ a 9).toNat) ∧ (0 ≤ r.toInt ∧ r.toInt ≤ 80) ∧ r = F_X12_laidOf X σ a v1 v2)) ([.ref a, .int v1, .int v2] : List Value).toArray s 0 0 (q_reg X)) (F0 m 42 ls []) := by
          clear hF
          intro  H locs ls j42 hF hI hl
          unfold F_X12_laidOf_J42_3 at hF
          rw [if_neg j42] at ps
          have hy := hG.2.2.1 x_2.toInt (by first | (clear hh hm5 hs5 sb sl ps if_4 gc_5_f_4 c_5 ahpσ_7 bhpσ_7 chpσ_7 ir_6 j42; omega) | omega) (by first | (clear hh hm5 hge5 hs5 sb sl ps gc_5_x_2 gc_5_f_4 ahpσ_7 bhpσ_7 chpσ_7 ir_6 j42; omega) | omega)
          have hy1 := hy.1
          refine lv_iconst (v := 0) hx hb dX12_laidOf_42 zki_0 ?_
          refine lv_istore (lv' := [(6, .int 0), (0, .ref a), (1, .int v1), (2, .int v2), (3, .int x_1), (4, .int x_2), (5, .int r_6)]) hx hb dX12_laidOf_43 hl (by decide) rfl (fun ls hl => ?_)
          have L_45_10 : ∀ (k_10 : Nat) (x_8 : Int32) (x_9 : Int32) (H : Heap) (locs : List Loc) (ls : Array Slot), (2147483647 - x_9.toInt).toNat < k_10 → (0 ≤ x_9.toInt ∧ x_9.toInt ≤ m_c X σ a (94 + 7 * x_2.toInt + 2)) → (x_8.toInt = m_A (m_c X σ a) v1.toInt v2.toInt x_2.toInt.toNat + m_K (m_c X σ a) (94 + 7 * x_2.toInt) v2.toInt x_9.toInt.toNat) → (F_X12_laidOf_L45_4 X r_6 σ a v2 x_2 (F_X12_laidOf_L5_1 X σ a v1 v2 k_3) k_10 x_8 x_9 = out) → q_I X 9 σ s.heap locs σ H → lv_has ls 7 [(0, .ref a), (1, .int v1), (2, .int v2), (3, .int x_8), (4, .int x_2), (5, .int r_6), (6, .int x_9)] → W p l e (q_rm 1 20) s m ([.ref a, .int v1, .int v2] : List Value).toArray below meth c H locs 0 0 (MQ below (q_Qi X 9 σ (fun (r : Int32) (σ' : ST) => σ' = σ ∧ (r.toInt = m_A (m_c X σ a) v1.toInt v2.toInt (m_c X σ a 9).toNat) ∧ (0 ≤ r.toInt ∧ r.toInt ≤ 80) ∧ r = F_X12_laidOf X σ a v1 v2)) ([.ref a, .int v1, .int v2] : List Value).toArray s 0 0 (q_reg X)) (F0 m 45 ls []) := by
            clear hF
            intro k_10
            induction k_10 with
            | zero =>
              intro x_8 x_9 H locs ls hms
              exact absurd hms (Nat.not_lt_zero _)
            | succ k_10 ih45 =>
              intro x_8 x_9 H locs ls hm45 hge45 hs45 hF hI hl
              replace hF := (F_X12_laidOf_L45_4_s).symm.trans hF
              unfold F_X12_laidOf_B45_4 at hF
              have kb := m_K_bd (m_c X σ a) (94 + 7 * x_2.toInt) v2.toInt x_9.toInt.toNat
              have ps2 := m_K_succ (m_c X σ a) (94 + 7 * x_2.toInt) v2.toInt x_9.toInt hge45.1
              refine lv_iload hx hb dX12_laidOf_45 (lv_at hl 6 rfl) ?_
              refine lv_aload_n hx hb dX12_laidOf_47 rfl (lv_at hl 0 rfl) ?_
              refine gs_X12_35_12 E hI ha dX12_laidOf_48 ?_
              refine lv_iload hx hb dX12_laidOf_51 (lv_at hl 5 rfl) ?_
              refine lv_iconst (v := 2) hx hb dX12_laidOf_53 zki_2 ?_
              refine lv_iadd hx hb dX12_laidOf_54 ?_
              refine lv_topi (fun z_11 ez_11 => ?_)
              replace hF := q_letX hF ez_11
              have iz_11 := q_addI (A := (94 + 7 * x_2.toInt)) (B := 2) ez_11 ir_6 (by decide) (by first | (clear hh hm5 hs5 sb sl ps if_4 gc_5_f_4 c_5 ahpσ_7 bhpσ_7 chpσ_7 ir_6 j42 hy hy1 hm45 hge45 hs45 kb ps2; omega) | omega) (by first | (clear hm5 hs5 sb sl ps gc_5_f_4 ahpσ_7 bhpσ_7 chpσ_7 ir_6 j42 hy hy1 hm45 hge45 hs45 kb ps2; omega) | omega)
              refine q_iald E hI (q_tk (k' := 34) hI ha rfl (Nat.succ_ne_zero _)) ⟨by decide, rfl⟩ (by first | (clear hh hm5 hs5 sb sl ps if_4 gc_5_f_4 c_5 ahpσ_7 bhpσ_7 chpσ_7 ir_6 j42 hy hy1 hm45 hge45 hs45 kb ps2; omega) | omega) (by rw [q_lnk (v := 4650) hI (q_tk (k' := 34) hI ha rfl (Nat.succ_ne_zero _)) rfl (by decide)]; omega) dX12_laidOf_55 ?_
              refine lv_topi (fun f_12 ef_12 => ?_)
              replace hF := q_letX hF ef_12
              have if_12 : f_12.toInt = m_c X σ a ((94 + 7 * x_2.toInt) + 2) := m_rd ef_12 iz_11
              have gc_13_x_9 := q_rng x_9
              have gc_13_f_12 := q_rng f_12
              refine q_icmp_ge (A := x_9.toInt) (B := f_12.toInt) E rfl rfl (tgt := 93) dX12_laidOf_56 (by decide) (fun c_13 => ?_) (fun c_13 => ?_)
              · skip
                replace hF := q_ifn hF (Int.not_lt.mpr c_13)
                have q6 : x_9.toInt = m_c X σ a (94 + 7 * x_2.toInt + 2) := (by first | (clear hh hm5 hge5 hs5 sb sl ps if_4 gc_5_x_2 gc_5_f_4 c_5 ahpσ_7 bhpσ_7 chpσ_7 ir_6 j42 hy hy1 hm45 hs45 kb ps2 iz_11 gc_13_x_9 gc_13_f_12; omega) | omega)
                rw [q6] at hs45
                unfold F_X12_laidOf_E93_5 at hF
                obtain ⟨z_14, ez_14⟩ : ∃ y : Int32, y = x_2 + 1 := ⟨_, rfl⟩
                replace hF := q_letX hF ez_14
                refine lv_iinc (v := z_14) (lv' := [(4, .int z_14), (0, .ref a), (1, .int v1), (2, .int v2), (3, .int x_8), (5, .int r_6), (6, .int x_9)]) hx hb dX12_laidOf_93 hl (k := 4) rfl (by rw [ez_14]; rfl) (by decide) rfl (fun ls hl => ?_)
                have iz_14 : z_14.toInt = x_2.toInt + 1 := q_inc ez_14 (by first | (clear hm5 hs5 sb sl ps gc_5_f_4 ahpσ_7 bhpσ_7 chpσ_7 ir_6 j42 hy hy1 hm45 hge45 hs45 kb ps2 iz_11 if_12 gc_13_x_9 gc_13_f_12 c_13; omega) | omega)
                have pz := ps
                rw [← iz_14] at pz
                refine lv_goto (tgt := 5) hx hb dX12_laidOf_96 (by decide) ?_
                exact ih5 x_8 z_14 _ _ ls (by first | (clear hs5 sb sl ps gc_5_f_4 ahpσ_7 bhpσ_7 chpσ_7 ir_6 hy1 hm45 hs45 kb ps2 iz_11 gc_13_x_9 gc_13_f_12 pz; omega) | omega) (by first | (clear hh hm5 hs5 sb sl ps gc_5_f_4 ahpσ_7 bhpσ_7 chpσ_7 ir_6 j42 hy hy1 hm45 hge45 hs45 kb ps2 iz_11 if_12 gc_13_x_9 gc_13_f_12 c_13 pz; omega) | omega) (by first | (clear hh hm5 hge5 hs5 sb sl if_4 gc_5_x_2 gc_5_f_4 c_5 ahpσ_7 bhpσ_7 chpσ_7 ir_6 j42 hy hy1 hm45 hge45 kb ps2 iz_11 if_12 gc_13_x_9 gc_13_f_12 c_13 iz_14; omega) | omega) hF hI (lv_sub hl [1, 2, 3, 4, 0] rfl)
              · skip
                replace hF := q_ifp hF c_13
                refine lv_iload_n hx hb dX12_laidOf_59 rfl (lv_at hl 3 rfl) ?_
                refine lv_iload_n hx hb dX12_laidOf_60 rfl (lv_at hl 2 rfl) ?_
                refine q_if_lt (A := v2.toInt) E rfl (tgt := 80) dX12_laidOf_61 (by decide) (fun c_15 => ?_) (fun c_15 => ?_)
                · skip
                  replace hF := q_ifp hF c_15
                  rw [if_pos (by first | (clear hh hm5 hge5 hs5 sb sl ps if_4 gc_5_x_2 gc_5_f_4 c_5 ahpσ_7 bhpσ_7 chpσ_7 ir_6 j42 hy hy1 hm45 hge45 hs45 kb ps2 iz_11 if_12 gc_13_x_9 gc_13_f_12 c_13; omega) | omega)] at ps2
                  refine lv_iconst (v := 1) hx hb dX12_laidOf_80 zki_1 ?_
                  refine lv_goto (tgt := 85) hx hb dX12_laidOf_81 (by decide) ?_
                  refine lv_iadd hx hb dX12_laidOf_85 ?_
                  refine lv_topi (fun z_16 ez_16 => ?_)
                  replace hF := q_letX hF ez_16
                  have iz_16 := q_addI (A := x_8.toInt) (B := 1) ez_16 rfl (by decide) (by first | (clear hh hm5 hge5 hs5 if_4 gc_5_x_2 gc_5_f_4 c_5 ahpσ_7 bhpσ_7 chpσ_7 ir_6 j42 hy hy1 hm45 hge45 iz_11 if_12 gc_13_x_9 gc_13_f_12 c_13 c_15; omega) | omega) (by first | (clear hh hm5 hge5 hs5 if_4 gc_5_x_2 gc_5_f_4 c_5 ahpσ_7 bhpσ_7 chpσ_7 ir_6 j42 hy1 hm45 hge45 iz_11 gc_13_x_9 gc_13_f_12 c_15; omega) | omega)
                  refine lv_istore_n (lv' := [(3, .int z_16), (0, .ref a), (1, .int v1), (2, .int v2), (4, .int x_2), (5, .int r_6), (6, .int x_9)]) hx hb dX12_laidOf_86 rfl hl (by decide) rfl (fun ls hl => ?_)
                  obtain ⟨z_17, ez_17⟩ : ∃ y : Int32, y = x_9 + 1 := ⟨_, rfl⟩
                  replace hF := q_letX hF ez_17
                  refine lv_iinc (v := z_17) (lv' := [(6, .int z_17), (3, .int z_16), (0, .ref a), (1, .int v1), (2, .int v2), (4, .int x_2), (5, .int r_6)]) hx hb dX12_laidOf_87 hl (k := 6) rfl (by rw [ez_17]; rfl) (by decide) rfl (fun ls hl => ?_)
                  have iz_17 : z_17.toInt = x_9.toInt + 1 := q_inc ez_17 (by first | (clear hh hm5 hge5 hs5 sb sl ps if_4 gc_5_x_2 gc_5_f_4 c_5 ahpσ_7 bhpσ_7 chpσ_7 ir_6 j42 hy1 hm45 hs45 kb ps2 iz_11 gc_13_f_12 c_15 iz_16; omega) | omega)
                  have pz2 := ps2
                  rw [← iz_17] at pz2
                  refine lv_goto (tgt := 45) hx hb dX12_laidOf_90 (by decide) ?_
                  exact ih45 z_16 z_17 _ _ ls (by first | (clear hh hm5 hge5 hs5 sb sl ps if_4 gc_5_x_2 gc_5_f_4 c_5 ahpσ_7 bhpσ_7 chpσ_7 ir_6 j42 hy1 hs45 kb ps2 iz_11 gc_13_f_12 c_15 iz_16 pz2; omega) | omega) (by first | (clear hh hm5 hge5 hs5 sb sl ps if_4 gc_5_x_2 gc_5_f_4 c_5 ahpσ_7 bhpσ_7 chpσ_7 ir_6 j42 hy hy1 hm45 hs45 kb ps2 iz_11 gc_13_f_12 c_15 iz_16 pz2; omega) | omega) (by first | (clear hh hm5 hge5 hs5 sb sl if_4 gc_5_x_2 gc_5_f_4 c_5 ahpσ_7 bhpσ_7 chpσ_7 ir_6 j42 hy hy1 hm45 hge45 kb iz_11 if_12 gc_13_x_9 gc_13_f_12 c_13 c_15 iz_17; omega) | omega) hF hI (lv_sub hl [2, 3, 4, 1, 5, 6, 0] rfl)
                · skip
                  replace hF := q_ifn hF (Int.not_lt.mpr c_15)
                  refine lv_aload_n hx hb dX12_laidOf_64 rfl (lv_at hl 0 rfl) ?_
                  refine gs_X12_35_12 E hI ha dX12_laidOf_65 ?_
                  refine lv_iload hx hb dX12_laidOf_68 (lv_at hl 5 rfl) ?_
                  refine lv_iconst (v := 3) hx hb dX12_laidOf_70 zki_3 ?_
                  refine lv_iadd hx hb dX12_laidOf_71 ?_
                  refine lv_topi (fun z_18 ez_18 => ?_)
                  replace hF := q_letX hF ez_18
                  have iz_18 := q_addI (A := (94 + 7 * x_2.toInt)) (B := 3) ez_18 ir_6 (by decide) (by first | (clear hh hm5 hs5 sb sl ps if_4 gc_5_f_4 c_5 ahpσ_7 bhpσ_7 chpσ_7 ir_6 j42 hy hy1 hm45 hge45 hs45 kb ps2 iz_11 if_12 gc_13_x_9 gc_13_f_12 c_13 c_15; omega) | omega) (by first | (clear hm5 hs5 sb sl ps gc_5_f_4 ahpσ_7 bhpσ_7 chpσ_7 ir_6 j42 hy hy1 hm45 hge45 hs45 kb ps2 iz_11 if_12 gc_13_x_9 gc_13_f_12 c_13 c_15; omega) | omega)
                  refine lv_iload hx hb dX12_laidOf_72 (lv_at hl 6 rfl) ?_
                  refine lv_iadd hx hb dX12_laidOf_74 ?_
                  refine lv_topi (fun z_19 ez_19 => ?_)
                  replace hF := q_letX hF ez_19
                  have iz_19 := q_addI (A := ((94 + 7 * x_2.toInt) + 3)) (B := x_9.toInt) ez_19 iz_18 rfl (by first | (clear hh hm5 hs5 sb sl ps if_4 gc_5_f_4 c_5 ahpσ_7 bhpσ_7 chpσ_7 ir_6 j42 hy hy1 hm45 hs45 kb ps2 iz_11 if_12 gc_13_f_12 c_13 c_15 iz_18; omega) | omega) (by first | (clear hm5 hge5 hs5 sb sl ps gc_5_x_2 gc_5_f_4 ahpσ_7 bhpσ_7 chpσ_7 ir_6 j42 hy1 hm45 hs45 kb ps2 iz_11 gc_13_f_12 c_15 iz_18; omega) | omega)
                  refine q_iald E hI (q_tk (k' := 34) hI ha rfl (Nat.succ_ne_zero _)) ⟨by decide, rfl⟩ (by first | (clear hh hm5 hs5 sb sl ps if_4 gc_5_f_4 c_5 ahpσ_7 bhpσ_7 chpσ_7 ir_6 j42 hy1 hm45 hs45 kb ps2 iz_11 gc_13_f_12 c_15 iz_18; omega) | omega) (by rw [q_lnk (v := 4650) hI (q_tk (k' := 34) hI ha rfl (Nat.succ_ne_zero _)) rfl (by decide)]; omega) dX12_laidOf_75 ?_
                  refine lv_topi (fun f_20 ef_20 => ?_)
                  replace hF := q_letX hF ef_20
                  have if_20 : f_20.toInt = m_c X σ a (((94 + 7 * x_2.toInt) + 3) + x_9.toInt) := m_rd ef_20 iz_19
                  refine lv_iload_n hx hb dX12_laidOf_76 rfl (lv_at hl 2 rfl) ?_
                  have gc_21_f_20 := q_rng f_20
                  have gc_21_v2 := q_rng v2
                  refine q_icmp_ne (A := f_20.toInt) (B := v2.toInt) E rfl rfl (tgt := 84) dX12_laidOf_77 (by decide) (fun c_21 => ?_) (fun c_21 => ?_)
                  · skip
                    replace hF := q_ifn hF c_21
                    rw [if_neg (by first | (clear hh hm5 hge5 hs5 sb sl ps if_4 gc_5_x_2 gc_5_f_4 c_5 ahpσ_7 bhpσ_7 chpσ_7 ir_6 j42 hy hy1 hm45 hge45 hs45 kb ps2 iz_11 if_12 gc_13_x_9 gc_13_f_12 c_13 iz_18 iz_19 gc_21_f_20; omega) | omega)] at ps2
                    refine lv_iconst (v := 0) hx hb dX12_laidOf_84 zki_0 ?_
                    refine lv_iadd hx hb dX12_laidOf_85 ?_
                    refine lv_topi (fun z_22 ez_22 => ?_)
                    replace hF := q_letX hF ez_22
                    have iz_22 := q_addI (A := x_8.toInt) (B := 0) ez_22 rfl (by decide) (by first | (clear hh hm5 hge5 hs5 if_4 gc_5_x_2 gc_5_f_4 c_5 ahpσ_7 bhpσ_7 chpσ_7 ir_6 j42 hy hy1 hm45 hge45 iz_11 if_12 gc_13_x_9 gc_13_f_12 c_13 c_15 iz_18 iz_19 if_20 gc_21_f_20 gc_21_v2 c_21; omega) | omega) (by first | (clear hh hm5 hge5 hs5 if_4 gc_5_x_2 gc_5_f_4 c_5 ahpσ_7 bhpσ_7 chpσ_7 ir_6 j42 hy1 hm45 iz_11 gc_13_f_12 c_15 iz_18 if_20 gc_21_f_20 gc_21_v2; omega) | omega)
                    refine lv_istore_n (lv' := [(3, .int z_22), (0, .ref a), (1, .int v1), (2, .int v2), (4, .int x_2), (5, .int r_6), (6, .int x_9)]) hx hb dX12_laidOf_86 rfl hl (by decide) rfl (fun ls hl => ?_)
                    obtain ⟨z_23, ez_23⟩ : ∃ y : Int32, y = x_9 + 1 := ⟨_, rfl⟩
                    replace hF := q_letX hF ez_23
                    refine lv_iinc (v := z_23) (lv' := [(6, .int z_23), (3, .int z_22), (0, .ref a), (1, .int v1), (2, .int v2), (4, .int x_2), (5, .int r_6)]) hx hb dX12_laidOf_87 hl (k := 6) rfl (by rw [ez_23]; rfl) (by decide) rfl (fun ls hl => ?_)
                    have iz_23 : z_23.toInt = x_9.toInt + 1 := q_inc ez_23 (by first | (clear hh hm5 hge5 hs5 sb sl ps if_4 gc_5_x_2 gc_5_f_4 c_5 ahpσ_7 bhpσ_7 chpσ_7 ir_6 j42 hy1 hm45 hs45 kb ps2 iz_11 gc_13_f_12 c_15 iz_18 if_20 gc_21_f_20 gc_21_v2 c_21 iz_22; omega) | omega)
                    have pz2 := ps2
                    rw [← iz_23] at pz2
                    refine lv_goto (tgt := 45) hx hb dX12_laidOf_90 (by decide) ?_
                    exact ih45 z_22 z_23 _ _ ls (by first | (clear hh hm5 hge5 hs5 sb sl ps if_4 gc_5_x_2 gc_5_f_4 c_5 ahpσ_7 bhpσ_7 chpσ_7 ir_6 j42 hy1 hs45 kb ps2 iz_11 gc_13_f_12 c_15 iz_18 if_20 gc_21_f_20 gc_21_v2 iz_22 pz2; omega) | omega) (by first | (clear hh hm5 hge5 hs5 sb sl ps if_4 gc_5_x_2 gc_5_f_4 c_5 ahpσ_7 bhpσ_7 chpσ_7 ir_6 j42 hy hy1 hm45 hs45 kb ps2 iz_11 gc_13_f_12 c_15 iz_18 if_20 gc_21_f_20 gc_21_v2 c_21 iz_22 pz2; omega) | omega) (by first | (clear hh hm5 hge5 hs5 sb sl if_4 gc_5_x_2 gc_5_f_4 c_5 ahpσ_7 bhpσ_7 chpσ_7 ir_6 j42 hy hy1 hm45 hge45 kb iz_11 if_12 gc_13_x_9 gc_13_f_12 c_13 c_15 iz_18 iz_19 if_20 gc_21_f_20 gc_21_v2 c_21 iz_23; omega) | omega) hF hI (lv_sub hl [2, 3, 4, 1, 5, 6, 0] rfl)
                  · skip
                    replace hF := q_ifp hF c_21
                    rw [if_pos (by first | (clear hh hm5 hge5 hs5 sb sl ps if_4 gc_5_x_2 gc_5_f_4 c_5 ahpσ_7 bhpσ_7 chpσ_7 ir_6 j42 hy hy1 hm45 hge45 hs45 kb ps2 iz_11 if_12 gc_13_x_9 gc_13_f_12 c_13 c_15 iz_18 iz_19 gc_21_f_20 gc_21_v2; omega) | omega)] at ps2
                    refine lv_iconst (v := 1) hx hb dX12_laidOf_80 zki_1 ?_
                    refine lv_goto (tgt := 85) hx hb dX12_laidOf_81 (by decide) ?_
                    refine lv_iadd hx hb dX12_laidOf_85 ?_
                    refine lv_topi (fun z_24 ez_24 => ?_)
                    replace hF := q_letX hF ez_24
                    have iz_24 := q_addI (A := x_8.toInt) (B := 1) ez_24 rfl (by decide) (by first | (clear hh hm5 hge5 hs5 if_4 gc_5_x_2 gc_5_f_4 c_5 ahpσ_7 bhpσ_7 chpσ_7 ir_6 j42 hy hy1 hm45 hge45 iz_11 if_12 gc_13_x_9 gc_13_f_12 c_13 c_15 iz_18 iz_19 if_20 gc_21_f_20 gc_21_v2 c_21; omega) | omega) (by first | (clear hh hm5 hge5 hs5 if_4 gc_5_x_2 gc_5_f_4 c_5 ahpσ_7 bhpσ_7 chpσ_7 ir_6 j42 hy1 hm45 iz_11 gc_13_f_12 c_15 iz_18 if_20 gc_21_f_20 gc_21_v2 c_21; omega) | omega)
                    refine lv_istore_n (lv' := [(3, .int z_24), (0, .ref a), (1, .int v1), (2, .int v2), (4, .int x_2), (5, .int r_6), (6, .int x_9)]) hx hb dX12_laidOf_86 rfl hl (by decide) rfl (fun ls hl => ?_)
                    obtain ⟨z_25, ez_25⟩ : ∃ y : Int32, y = x_9 + 1 := ⟨_, rfl⟩
                    replace hF := q_letX hF ez_25
                    refine lv_iinc (v := z_25) (lv' := [(6, .int z_25), (3, .int z_24), (0, .ref a), (1, .int v1), (2, .int v2), (4, .int x_2), (5, .int r_6)]) hx hb dX12_laidOf_87 hl (k := 6) rfl (by rw [ez_25]; rfl) (by decide) rfl (fun ls hl => ?_)
                    have iz_25 : z_25.toInt = x_9.toInt + 1 := q_inc ez_25 (by first | (clear hh hm5 hge5 hs5 sb sl ps if_4 gc_5_x_2 gc_5_f_4 c_5 ahpσ_7 bhpσ_7 chpσ_7 ir_6 j42 hy1 hm45 hs45 kb ps2 iz_11 gc_13_f_12 c_15 iz_18 if_20 gc_21_f_20 gc_21_v2 c_21 iz_24; omega) | omega)
                    have pz2 := ps2
                    rw [← iz_25] at pz2
                    refine lv_goto (tgt := 45) hx hb dX12_laidOf_90 (by decide) ?_
                    exact ih45 z_24 z_25 _ _ ls (by first | (clear hh hm5 hge5 hs5 sb sl ps if_4 gc_5_x_2 gc_5_f_4 c_5 ahpσ_7 bhpσ_7 chpσ_7 ir_6 j42 hy1 hs45 kb ps2 iz_11 gc_13_f_12 c_15 iz_18 if_20 gc_21_f_20 gc_21_v2 c_21 iz_24 pz2; omega) | omega) (by first | (clear hh hm5 hge5 hs5 sb sl ps if_4 gc_5_x_2 gc_5_f_4 c_5 ahpσ_7 bhpσ_7 chpσ_7 ir_6 j42 hy hy1 hm45 hs45 kb ps2 iz_11 gc_13_f_12 c_15 iz_18 if_20 gc_21_f_20 gc_21_v2 c_21 iz_24 pz2; omega) | omega) (by first | (clear hh hm5 hge5 hs5 sb sl if_4 gc_5_x_2 gc_5_f_4 c_5 ahpσ_7 bhpσ_7 chpσ_7 ir_6 j42 hy hy1 hm45 hge45 kb iz_11 if_12 gc_13_x_9 gc_13_f_12 c_13 c_15 iz_18 iz_19 if_20 gc_21_f_20 gc_21_v2 c_21 iz_25; omega) | omega) hF hI (lv_sub hl [2, 3, 4, 1, 5, 6, 0] rfl)
          have kc_26 : (0 : Int32).toInt = 0 := zt_0
          exact L_45_10 ((2147483647 - (0 : Int32).toInt).toNat + 1) x_1 0 _ _ ls (Nat.lt_succ_self _) (by have q : (0 : Int32).toInt = 0 := rfl; omega) (by rw [hs5]; exact (Int.add_zero _).symm) hF hI (lv_sub hl [1, 2, 3, 4, 5, 6, 0] rfl)
        refine q_if_lt (A := v1.toInt) E rfl (tgt := 42) dX12_laidOf_25 (by decide) (fun c_27 => ?_) (fun c_27 => ?_)
        · skip
          replace hF := q_ifp hF c_27
          exact J_42_7 _ _ ls (by first | (clear hh hm5 hge5 hs5 sb sl ps if_4 gc_5_x_2 gc_5_f_4 c_5 ahpσ_7 bhpσ_7 chpσ_7 ir_6; omega) | omega) hF hI (lv_sub hl [1, 2, 3, 4, 5, 0] rfl)
        · skip
          replace hF := q_ifn hF (Int.not_lt.mpr c_27)
          refine lv_aload_n hx hb dX12_laidOf_28 rfl (lv_at hl 1 rfl) ?_
          refine gs_X12_35_12 E hI ha dX12_laidOf_29 ?_
          refine lv_iload hx hb dX12_laidOf_32 (lv_at hl 0 rfl) ?_
          refine q_iald E hI (q_tk (k' := 34) hI ha rfl (Nat.succ_ne_zero _)) ⟨by decide, rfl⟩ (by first | (clear hh hm5 hs5 sb sl ps if_4 gc_5_f_4 c_5 ahpσ_7 chpσ_7 ir_6 c_27; omega) | omega) (by rw [q_lnk (v := 4650) hI (q_tk (k' := 34) hI ha rfl (Nat.succ_ne_zero _)) rfl (by decide)]; omega) dX12_laidOf_34 ?_
          refine lv_topi (fun f_28 ef_28 => ?_)
          replace hF := q_letX hF ef_28
          have if_28 : f_28.toInt = m_c X σ a (94 + 7 * x_2.toInt) := m_rd ef_28 ir_6
          refine lv_iload_n hx hb dX12_laidOf_35 rfl (lv_at hl 2 rfl) ?_
          have gc_29_f_28 := q_rng f_28
          have gc_29_v1 := q_rng v1
          refine q_icmp_eq (A := f_28.toInt) (B := v1.toInt) E rfl rfl (tgt := 42) dX12_laidOf_36 (by decide) (fun c_29 => ?_) (fun c_29 => ?_)
          · skip
            replace hF := q_ifp hF c_29
            exact J_42_7 _ _ ls (by first | (clear hh hm5 hge5 hs5 sb sl ps if_4 gc_5_x_2 gc_5_f_4 c_5 ahpσ_7 bhpσ_7 chpσ_7 ir_6 c_27 gc_29_f_28 gc_29_v1; omega) | omega) hF hI (lv_sub hl [1, 2, 3, 4, 5, 0] rfl)
          · skip
            replace hF := q_ifn hF c_29
            rw [if_pos (by first | (clear hh hm5 hge5 hs5 sb sl ps if_4 gc_5_x_2 gc_5_f_4 c_5 ahpσ_7 bhpσ_7 chpσ_7 ir_6 gc_29_f_28; omega) | omega)] at ps
            refine lv_goto (tgt := 93) hx hb dX12_laidOf_39 (by decide) ?_
            obtain ⟨z_30, ez_30⟩ : ∃ y : Int32, y = x_2 + 1 := ⟨_, rfl⟩
            replace hF := q_letX hF ez_30
            refine lv_iinc (v := z_30) (lv' := [(4, .int z_30), (5, .int r_6), (0, .ref a), (1, .int v1), (2, .int v2), (3, .int x_1)]) hx hb dX12_laidOf_93 hl (k := 5) rfl (by rw [ez_30]; rfl) (by decide) rfl (fun ls hl => ?_)
            have iz_30 : z_30.toInt = x_2.toInt + 1 := q_inc ez_30 (by first | (clear hm5 hs5 sb sl ps gc_5_f_4 ahpσ_7 bhpσ_7 chpσ_7 ir_6 c_27 if_28 gc_29_f_28 gc_29_v1 c_29; omega) | omega)
            have pz := ps
            rw [← iz_30] at pz
            refine lv_goto (tgt := 5) hx hb dX12_laidOf_96 (by decide) ?_
            exact ih5 x_1 z_30 _ _ ls (by first | (clear hs5 sb sl ps gc_5_f_4 ahpσ_7 bhpσ_7 chpσ_7 ir_6 c_27 if_28 gc_29_f_28 gc_29_v1 pz; omega) | omega) (by first | (clear hh hm5 hs5 sb sl ps gc_5_f_4 ahpσ_7 bhpσ_7 chpσ_7 ir_6 c_27 if_28 gc_29_f_28 gc_29_v1 c_29 pz; omega) | omega) (by first | (clear hh hm5 hge5 sb sl if_4 gc_5_x_2 gc_5_f_4 c_5 ahpσ_7 bhpσ_7 chpσ_7 ir_6 c_27 if_28 gc_29_f_28 gc_29_v1 c_29 iz_30; omega) | omega) hF hI (lv_sub hl [2, 3, 4, 5, 0] rfl)
  have kc_31 : (0 : Int32).toInt = 0 := zt_0
  exact L_5_3 ((2147483647 - (0 : Int32).toInt).toNat + 1) 0 0 _ _ ls (Nat.lt_succ_self _) (by have q : (0 : Int32).toInt = 0 := rfl; omega) rfl hF hI (lv_sub hl [2, 3, 4, 1, 0] rfl)

set_option maxRecDepth 100000 in
set_option maxHeartbeats 4000000 in
theorem c_X12_inGameOf (l : Launch) (X : XW) (σ : ST) (a : Nat) (v1 : Int32) (ha : q_kd X a = 12) (hG : m_G (m_c X σ a)) (h0 : 0 ≤ v1.toInt ∧ v1.toInt ≤ 9) : Met l yX12_inGameOf (q_ws yX12_inGameOf cX12_inGameOf 4 (some .int)) (q_rm 2 46) (q_P X σ [.ref a, .int v1]) (q_Qi X 9 σ (fun (r : Int32) (σ' : ST) => σ' = σ ∧ (r.toInt = m_I (m_c X σ a) v1.toInt) ∧ (0 ≤ r.toInt ∧ r.toInt ≤ 80) ∧ r = F_X12_inGameOf X σ a v1)) 0 0 (q_reg X) := by
  refine q_met 9 (by first | exact rfl | decide +kernel) rfl (Nat.le_of_ble_eq_true rfl) (fun p e s m below meth c E hml hr hlk hI ls hl => ?_)
  have hx := E.1
  have hb := E.2.1
  have hl : lv_has ls 4 [(0, .ref a), (1, .int v1)] := hl
  have hh := hG.hd
  obtain ⟨out, hout⟩ : ∃ o, o = F_X12_inGameOf X σ a v1 := ⟨_, rfl⟩
  have hF := hout.symm
  unfold F_X12_inGameOf at hF
  refine lv_aload_n hx hb dX12_inGameOf_0 rfl (lv_at hl 0 rfl) ?_
  refine lv_iconst (v := (-1)) hx hb dX12_inGameOf_1 zki_m1 ?_
  refine lv_iload_n hx hb dX12_inGameOf_2 rfl (lv_at hl 1 rfl) ?_
  have kc_1 : ((-1) : Int32).toInt = (-1) := zt_m1
  refine q_ci (q_rV11_2 (rest := []) E (hml.trans hl.1.symm) hI (c_X12_laidOf l X σ a ((-1) : Int32) v1 ha hG) kv_X12_296 ha ⟨Nat.le_of_ble_eq_true rfl, Nat.le_of_ble_eq_true rfl⟩ (Nat.le_of_ble_eq_true rfl) dX12_inGameOf_3) hI (Nat.le_of_ble_eq_true rfl) (fun r_2 σ_3 H locs hpσ_3 hkσ_3 hI => ?_)
  have ahpσ_3 := hpσ_3.1
  have bhpσ_3 := hpσ_3.2.1
  have chpσ_3 := hpσ_3.2.2.1
  have dhpσ_3 := hpσ_3.2.2.2
  clear hpσ_3
  replace hI := q_Irw ahpσ_3 hI
  replace hF := q_letX hF dhpσ_3
  have ir_2 : r_2.toInt = (m_A (m_c X σ a) (-1) v1.toInt (m_c X σ a 9).toNat) := (by first | exact bhpσ_3 | (rw [bhpσ_3]) | (simp only [bhpσ_3]))
  refine lv_istore_n (lv' := [(2, .int r_2), (0, .ref a), (1, .int v1)]) hx hb dX12_inGameOf_6 rfl hl (by decide) rfl (fun ls hl => ?_)
  refine lv_iconst (v := 0) hx hb dX12_inGameOf_7 zki_0 ?_
  refine lv_istore_n (lv' := [(3, .int 0), (2, .int r_2), (0, .ref a), (1, .int v1)]) hx hb dX12_inGameOf_8 rfl hl (by decide) rfl (fun ls hl => ?_)
  have L_9_6 : ∀ (k_6 : Nat) (x_4 : Int32) (x_5 : Int32) (H : Heap) (locs : List Loc) (ls : Array Slot), (2147483647 - x_5.toInt).toNat < k_6 → (0 ≤ x_5.toInt ∧ x_5.toInt ≤ m_c X σ a 2) → (x_4.toInt = m_A (m_c X σ a) (-1) v1.toInt (m_c X σ a 9).toNat + m_P (m_c X σ a) v1.toInt x_5.toInt.toNat) → (F_X12_inGameOf_L9_1 X σ a v1 k_6 x_4 x_5 = out) → q_I X 9 σ s.heap locs σ H → lv_has ls 4 [(0, .ref a), (1, .int v1), (2, .int x_4), (3, .int x_5)] → W p l e (q_rm 2 46) s m ([.ref a, .int v1] : List Value).toArray below meth c H locs 0 0 (MQ below (q_Qi X 9 σ (fun (r : Int32) (σ' : ST) => σ' = σ ∧ (r.toInt = m_I (m_c X σ a) v1.toInt) ∧ (0 ≤ r.toInt ∧ r.toInt ≤ 80) ∧ r = F_X12_inGameOf X σ a v1)) ([.ref a, .int v1] : List Value).toArray s 0 0 (q_reg X)) (F0 m 9 ls []) := by
    clear hF
    intro k_6
    induction k_6 with
    | zero =>
      intro x_4 x_5 H locs ls hms
      exact absurd hms (Nat.not_lt_zero _)
    | succ k_6 ih9 =>
      intro x_4 x_5 H locs ls hm9 hge9 hs9 hF hI hl
      replace hF := (F_X12_inGameOf_L9_1_s).symm.trans hF
      unfold F_X12_inGameOf_B9_1 at hF
      have sa := hG.A_bd (-1) v1.toInt (m_c X σ a 9).toNat (by first | (clear h0 kc_1 ahpσ_3 bhpσ_3 chpσ_3 dhpσ_3 ir_2 hm9 hge9 hs9; omega) | omega)
      have sb := hG.Pbd (k := v1.toInt) (by first | (clear h0 hh kc_1 ahpσ_3 bhpσ_3 chpσ_3 dhpσ_3 ir_2 hm9 hge9 hs9 sa; omega) | omega) (by first | (clear h0 hh kc_1 ahpσ_3 bhpσ_3 chpσ_3 dhpσ_3 ir_2 hm9 hge9 hs9 sa; omega) | omega) x_5.toInt.toNat (by first | (clear h0 kc_1 ahpσ_3 bhpσ_3 chpσ_3 dhpσ_3 ir_2 hm9 hs9 sa; omega) | omega)
      have sc := hG.Sall (10 * x_5.toInt.toNat) (by first | (clear h0 kc_1 ahpσ_3 bhpσ_3 chpσ_3 dhpσ_3 ir_2 hm9 hs9 sa sb; omega) | omega)
      have sd := hG.tot
      have ps := m_P_succ (m_c X σ a) v1.toInt x_5.toInt hge9.1
      refine lv_iload_n hx hb dX12_inGameOf_9 rfl (lv_at hl 3 rfl) ?_
      refine lv_aload_n hx hb dX12_inGameOf_10 rfl (lv_at hl 0 rfl) ?_
      refine gs_X12_35_12 E hI ha dX12_inGameOf_11 ?_
      refine lv_iconst (v := 2) hx hb dX12_inGameOf_14 zki_2 ?_
      refine q_iald E hI (q_tk (k' := 34) hI ha rfl (Nat.succ_ne_zero _)) ⟨by decide, rfl⟩ (by decide) (by rw [q_lnk (v := 4650) hI (q_tk (k' := 34) hI ha rfl (Nat.succ_ne_zero _)) rfl (by decide)]; decide) dX12_inGameOf_15 ?_
      refine lv_topi (fun f_7 ef_7 => ?_)
      replace hF := q_letX hF ef_7
      have if_7 : f_7.toInt = m_c X σ a 2 := m_rd ef_7 (by decide)
      have gc_8_x_5 := q_rng x_5
      have gc_8_f_7 := q_rng f_7
      refine q_icmp_ge (A := x_5.toInt) (B := f_7.toInt) E rfl rfl (tgt := 34) dX12_inGameOf_16 (by decide) (fun c_8 => ?_) (fun c_8 => ?_)
      · skip
        replace hF := q_ifn hF (Int.not_lt.mpr c_8)
        skip
        refine lv_iload_n hx hb dX12_inGameOf_34 rfl (lv_at hl 2 rfl) ?_
        exact q_reti E hr hlk hI ⟨rfl, (by have q : x_5.toInt = m_c X σ a 2 := (by first | (clear h0 hh kc_1 ahpσ_3 bhpσ_3 chpσ_3 dhpσ_3 ir_2 hm9 hs9 sa sb sc sd ps gc_8_x_5 gc_8_f_7; omega) | omega); rw [q] at hs9; exact hs9), (by have q : x_5.toInt = m_c X σ a 2 := (by first | (clear h0 hh kc_1 ahpσ_3 bhpσ_3 chpσ_3 dhpσ_3 ir_2 hm9 hs9 sa sb sc sd ps gc_8_x_5 gc_8_f_7; omega) | omega); rw [q] at hs9; have w := hG.I_bd (k := v1.toInt) (by first | (clear h0 hh kc_1 ahpσ_3 bhpσ_3 chpσ_3 dhpσ_3 ir_2 hm9 hge9 hs9 sa sb sc sd ps if_7 gc_8_x_5 gc_8_f_7 c_8; omega) | omega) (by first | (clear h0 hh kc_1 ahpσ_3 bhpσ_3 chpσ_3 dhpσ_3 ir_2 hm9 hge9 hs9 sa sb sc sd ps if_7 gc_8_x_5 gc_8_f_7 c_8; omega) | omega); unfold m_I at w; omega), (hF.trans hout)⟩ dX12_inGameOf_35
      · skip
        replace hF := q_ifp hF c_8
        refine lv_iload_n hx hb dX12_inGameOf_19 rfl (lv_at hl 2 rfl) ?_
        refine lv_aload_n hx hb dX12_inGameOf_20 rfl (lv_at hl 0 rfl) ?_
        refine lv_iload_n hx hb dX12_inGameOf_21 rfl (lv_at hl 3 rfl) ?_
        refine lv_iload_n hx hb dX12_inGameOf_22 rfl (lv_at hl 1 rfl) ?_
        refine q_ci (q_rV11_2 (rest := [.int x_4]) E (hml.trans hl.1.symm) hI (c_X12_handOf l X σ a x_5 v1 ha (by first | (clear h0 kc_1 ahpσ_3 bhpσ_3 chpσ_3 dhpσ_3 ir_2 hm9 hs9 sa sb sc sd ps gc_8_f_7; omega) | omega) (by omega)) kv_X12_276 ha ⟨Nat.le_of_ble_eq_true rfl, Nat.le_of_ble_eq_true rfl⟩ (Nat.le_of_ble_eq_true rfl) dX12_inGameOf_23) hI (Nat.le_of_ble_eq_true rfl) (fun r_9 σ_10 H locs hpσ_10 hkσ_10 hI => ?_)
        have ahpσ_10 := hpσ_10.1
        have bhpσ_10 := hpσ_10.2.1
        have chpσ_10 := hpσ_10.2.2
        clear hpσ_10
        replace hI := q_Irw ahpσ_10 hI
        replace hF := q_letX hF chpσ_10
        have ir_9 : r_9.toInt = (m_c X σ a (34 + 10 * x_5.toInt + v1.toInt)) := (by first | exact bhpσ_10 | (rw [bhpσ_10]) | (simp only [bhpσ_10]))
        have hbr_9 := hG.h80 (p := x_5.toInt) (k := v1.toInt) (by first | (clear h0 hh kc_1 ahpσ_3 bhpσ_3 chpσ_3 dhpσ_3 ir_2 hm9 hs9 sa sb sc sd ps if_7 gc_8_f_7 c_8 ahpσ_10 bhpσ_10 chpσ_10 ir_9; omega) | omega) (by first | (clear h0 kc_1 ahpσ_3 bhpσ_3 chpσ_3 dhpσ_3 ir_2 hm9 hs9 sa sb sc sd ps gc_8_f_7 ahpσ_10 bhpσ_10 chpσ_10 ir_9; omega) | omega) (by first | (clear h0 hh kc_1 ahpσ_3 bhpσ_3 chpσ_3 dhpσ_3 ir_2 hm9 hge9 hs9 sa sb sc sd ps if_7 gc_8_x_5 gc_8_f_7 c_8 ahpσ_10 bhpσ_10 chpσ_10 ir_9; omega) | omega) (by first | (clear h0 hh kc_1 ahpσ_3 bhpσ_3 chpσ_3 dhpσ_3 ir_2 hm9 hge9 hs9 sa sb sc sd ps if_7 gc_8_x_5 gc_8_f_7 c_8 ahpσ_10 bhpσ_10 chpσ_10 ir_9; omega) | omega)
        refine lv_iadd hx hb dX12_inGameOf_26 ?_
        refine lv_topi (fun z_11 ez_11 => ?_)
        replace hF := q_letX hF ez_11
        have iz_11 := q_addI (A := x_4.toInt) (B := (m_c X σ a (34 + 10 * x_5.toInt + v1.toInt))) ez_11 rfl ir_9 (by first | (clear h0 hh kc_1 ahpσ_3 dhpσ_3 hm9 hge9 if_7 gc_8_x_5 gc_8_f_7 c_8 ahpσ_10 chpσ_10 ir_9; omega) | omega) (by first | (clear h0 hh kc_1 ahpσ_3 dhpσ_3 hm9 hge9 if_7 gc_8_x_5 gc_8_f_7 c_8 ahpσ_10 chpσ_10 ir_9; omega) | omega)
        refine lv_istore_n (lv' := [(2, .int z_11), (0, .ref a), (1, .int v1), (3, .int x_5)]) hx hb dX12_inGameOf_27 rfl hl (by decide) rfl (fun ls hl => ?_)
        obtain ⟨z_12, ez_12⟩ : ∃ y : Int32, y = x_5 + 1 := ⟨_, rfl⟩
        replace hF := q_letX hF ez_12
        refine lv_iinc (v := z_12) (lv' := [(3, .int z_12), (2, .int z_11), (0, .ref a), (1, .int v1)]) hx hb dX12_inGameOf_28 hl (k := 3) rfl (by rw [ez_12]; rfl) (by decide) rfl (fun ls hl => ?_)
        have iz_12 : z_12.toInt = x_5.toInt + 1 := q_inc ez_12 (by first | (clear h0 kc_1 ahpσ_3 bhpσ_3 chpσ_3 dhpσ_3 ir_2 hm9 hs9 sa sb sc sd ps gc_8_f_7 ahpσ_10 bhpσ_10 chpσ_10 ir_9 hbr_9 iz_11; omega) | omega)
        have pz := ps
        rw [← iz_12] at pz
        refine lv_goto (tgt := 9) hx hb dX12_inGameOf_31 (by decide) ?_
        exact ih9 z_11 z_12 _ _ ls (by first | (clear h0 kc_1 ahpσ_3 bhpσ_3 chpσ_3 dhpσ_3 ir_2 hs9 sa sb sc sd ps gc_8_f_7 ahpσ_10 bhpσ_10 chpσ_10 ir_9 hbr_9 iz_11 pz; omega) | omega) (by first | (clear h0 hh kc_1 ahpσ_3 bhpσ_3 chpσ_3 dhpσ_3 ir_2 hm9 hs9 sa sb sc sd ps gc_8_f_7 ahpσ_10 bhpσ_10 chpσ_10 ir_9 hbr_9 iz_11 pz; omega) | omega) (by first | (clear h0 hh kc_1 ahpσ_3 bhpσ_3 chpσ_3 dhpσ_3 ir_2 hm9 hge9 sa sb sc sd if_7 gc_8_x_5 gc_8_f_7 c_8 ahpσ_10 chpσ_10 ir_9 hbr_9 iz_12; omega) | omega) hF hI (lv_sub hl [2, 3, 1, 0] rfl)
  have kc_13 : (0 : Int32).toInt = 0 := zt_0
  exact L_9_6 ((2147483647 - (0 : Int32).toInt).toNat + 1) r_2 0 _ _ ls (Nat.lt_succ_self _) (by have q : (0 : Int32).toInt = 0 := rfl; omega) (by have q : m_P (m_c X σ a) v1.toInt (0 : Int32).toInt.toNat = 0 := rfl; omega) hF hI (lv_sub hl [2, 3, 1, 0] rfl)

set_option maxRecDepth 100000 in
set_option maxHeartbeats 4000000 in
theorem c_X12_sortOf (l : Launch) (X : XW) (σ : ST) (a : Nat) (v1 : Int32) (ha : q_kd X a = 12) (hG : m_G (m_c X σ a)) (h0 : 0 ≤ v1.toInt ∧ v1.toInt < m_c X σ a 9) : Met l yX12_sortOf (q_ws yX12_sortOf cX12_sortOf 5 (some .int)) (q_rm 1 20) (q_P X σ [.ref a, .int v1]) (q_Qi X 9 σ (fun (r : Int32) (σ' : ST) => σ' = σ ∧ (0 ≤ r.toInt ∧ r.toInt ≤ 2) ∧ r = F_X12_sortOf X σ a v1)) 0 0 (q_reg X) := by
  refine q_met 9 (by first | exact rfl | decide +kernel) rfl (Nat.le_of_ble_eq_true rfl) (fun p e s m below meth c E hml hr hlk hI ls hl => ?_)
  have hx := E.1
  have hb := E.2.1
  have hl : lv_has ls 5 [(0, .ref a), (1, .int v1)] := hl
  have hh := hG.hd
  obtain ⟨out, hout⟩ : ∃ o, o = F_X12_sortOf X σ a v1 := ⟨_, rfl⟩
  have hF := hout.symm
  unfold F_X12_sortOf at hF
  refine lv_iload_n hx hb dX12_sortOf_0 rfl (lv_at hl 1 rfl) ?_
  refine q_ci (q_runS (As := [.int v1]) (rest := []) E (hml.trans hl.1.symm) hI (c_X12_laid l X σ v1 (by first | (clear h0; omega) | omega)) ks_X12_279 rfl ⟨Nat.le_of_ble_eq_true rfl, Nat.le_of_ble_eq_true rfl⟩ ⟨Nat.le_refl _, Nat.le_refl _⟩ rfl (Nat.le_of_ble_eq_true rfl) dX12_sortOf_1) hI (Nat.le_of_ble_eq_true rfl) (fun r_1 σ_2 H locs hpσ_2 hkσ_2 hI => ?_)
  have ahpσ_2 := hpσ_2.1
  have bhpσ_2 := hpσ_2.2.1
  have chpσ_2 := hpσ_2.2.2
  clear hpσ_2
  replace hI := q_Irw ahpσ_2 hI
  replace hF := q_letX hF chpσ_2
  have ir_1 : r_1.toInt = (94 + 7 * v1.toInt) := (by omega)
  have hy := (hG.2.2.1 v1.toInt (by first | (clear h0 hh ahpσ_2 bhpσ_2 chpσ_2 ir_1; omega) | omega) (by first | (clear h0 hh ahpσ_2 bhpσ_2 chpσ_2 ir_1; omega) | omega)).1
  have hlw := bhpσ_2
  refine lv_istore_n (lv' := [(2, .int r_1), (0, .ref a), (1, .int v1)]) hx hb dX12_sortOf_4 rfl hl (by decide) rfl (fun ls hl => ?_)
  refine lv_iconst (v := 0) hx hb dX12_sortOf_5 zki_0 ?_
  refine lv_istore_n (lv' := [(3, .int 0), (2, .int r_1), (0, .ref a), (1, .int v1)]) hx hb dX12_sortOf_6 rfl hl (by decide) rfl (fun ls hl => ?_)
  refine lv_iconst (v := 0) hx hb dX12_sortOf_7 zki_0 ?_
  refine lv_istore (lv' := [(4, .int 0), (3, .int 0), (2, .int r_1), (0, .ref a), (1, .int v1)]) hx hb dX12_sortOf_8 hl (by decide) rfl (fun ls hl => ?_)
  have L_10_5 : ∀ (k_5 : Nat) (x_3 : Int32) (x_4 : Int32) (H : Heap) (locs : List Loc) (ls : Array Slot), (2147483647 - x_4.toInt).toNat < k_5 → (0 ≤ x_4.toInt ∧ 0 ≤ x_3.toInt ∧ x_3.toInt ≤ x_4.toInt) → (F_X12_sortOf_L10_1 X r_1 σ a k_5 x_3 x_4 = out) → q_I X 9 σ s.heap locs σ H → lv_has ls 5 [(0, .ref a), (1, .int v1), (2, .int r_1), (3, .int x_3), (4, .int x_4)] → W p l e (q_rm 1 20) s m ([.ref a, .int v1] : List Value).toArray below meth c H locs 0 0 (MQ below (q_Qi X 9 σ (fun (r : Int32) (σ' : ST) => σ' = σ ∧ (0 ≤ r.toInt ∧ r.toInt ≤ 2) ∧ r = F_X12_sortOf X σ a v1)) ([.ref a, .int v1] : List Value).toArray s 0 0 (q_reg X)) (F0 m 10 ls []) := by
    clear hF
    intro k_5
    induction k_5 with
    | zero =>
      intro x_3 x_4 H locs ls hms
      exact absurd hms (Nat.not_lt_zero _)
    | succ k_5 ih10 =>
      intro x_3 x_4 H locs ls hm10 hge10 hF hI hl
      replace hF := (F_X12_sortOf_L10_1_s).symm.trans hF
      unfold F_X12_sortOf_B10_1 at hF
      refine lv_iload hx hb dX12_sortOf_10 (lv_at hl 4 rfl) ?_
      refine lv_aload_n hx hb dX12_sortOf_12 rfl (lv_at hl 0 rfl) ?_
      refine gs_X12_35_12 E hI ha dX12_sortOf_13 ?_
      refine lv_iload_n hx hb dX12_sortOf_16 rfl (lv_at hl 2 rfl) ?_
      refine lv_iconst (v := 2) hx hb dX12_sortOf_17 zki_2 ?_
      refine lv_iadd hx hb dX12_sortOf_18 ?_
      refine lv_topi (fun z_6 ez_6 => ?_)
      replace hF := q_letX hF ez_6
      have iz_6 := q_addI (A := (94 + 7 * v1.toInt)) (B := 2) ez_6 ir_1 (by decide) (by first | (clear h0 hh ahpσ_2 bhpσ_2 chpσ_2 ir_1 hy hm10 hge10; omega) | omega) (by first | (clear h0 ahpσ_2 bhpσ_2 chpσ_2 ir_1 hy hm10 hge10; omega) | omega)
      refine q_iald E hI (q_tk (k' := 34) hI ha rfl (Nat.succ_ne_zero _)) ⟨by decide, rfl⟩ (by first | (clear h0 hh ahpσ_2 bhpσ_2 chpσ_2 ir_1 hy hm10 hge10; omega) | omega) (by rw [q_lnk (v := 4650) hI (q_tk (k' := 34) hI ha rfl (Nat.succ_ne_zero _)) rfl (by decide)]; omega) dX12_sortOf_19 ?_
      refine lv_topi (fun f_7 ef_7 => ?_)
      replace hF := q_letX hF ef_7
      have if_7 : f_7.toInt = m_c X σ a ((94 + 7 * v1.toInt) + 2) := m_rd ef_7 iz_6
      have gc_8_x_4 := q_rng x_4
      have gc_8_f_7 := q_rng f_7
      refine q_icmp_ge (A := x_4.toInt) (B := f_7.toInt) E rfl rfl (tgt := 59) dX12_sortOf_20 (by decide) (fun c_8 => ?_) (fun c_8 => ?_)
      · skip
        replace hF := q_ifn hF (Int.not_lt.mpr c_8)
        unfold F_X12_sortOf_E59_2 at hF
        refine lv_iload_n hx hb dX12_sortOf_59 rfl (lv_at hl 3 rfl) ?_
        refine lv_aload_n hx hb dX12_sortOf_60 rfl (lv_at hl 0 rfl) ?_
        refine gs_X12_35_12 E hI ha dX12_sortOf_61 ?_
        refine lv_iload_n hx hb dX12_sortOf_64 rfl (lv_at hl 2 rfl) ?_
        refine lv_iconst (v := 2) hx hb dX12_sortOf_65 zki_2 ?_
        refine lv_iadd hx hb dX12_sortOf_66 ?_
        refine lv_topi (fun z_9 ez_9 => ?_)
        replace hF := q_letX hF ez_9
        have iz_9 := q_addI (A := (94 + 7 * v1.toInt)) (B := 2) ez_9 ir_1 (by decide) (by first | (clear h0 hh ahpσ_2 bhpσ_2 chpσ_2 ir_1 hy hm10 hge10 iz_6 if_7 gc_8_x_4 gc_8_f_7 c_8; omega) | omega) (by first | (clear h0 ahpσ_2 bhpσ_2 chpσ_2 ir_1 hy hm10 hge10 iz_6 if_7 gc_8_x_4 gc_8_f_7 c_8; omega) | omega)
        refine q_iald E hI (q_tk (k' := 34) hI ha rfl (Nat.succ_ne_zero _)) ⟨by decide, rfl⟩ (by first | (clear h0 hh ahpσ_2 bhpσ_2 chpσ_2 ir_1 hy hm10 hge10 iz_6 if_7 gc_8_x_4 gc_8_f_7 c_8; omega) | omega) (by rw [q_lnk (v := 4650) hI (q_tk (k' := 34) hI ha rfl (Nat.succ_ne_zero _)) rfl (by decide)]; omega) dX12_sortOf_67 ?_
        refine lv_topi (fun f_10 ef_10 => ?_)
        replace hF := q_letX hF ef_10
        have if_10 : f_10.toInt = m_c X σ a ((94 + 7 * v1.toInt) + 2) := m_rd ef_10 iz_9
        have gc_11_x_3 := q_rng x_3
        have gc_11_f_10 := q_rng f_10
        refine q_icmp_ne (A := x_3.toInt) (B := f_10.toInt) E rfl rfl (tgt := 75) dX12_sortOf_68 (by decide) (fun c_11 => ?_) (fun c_11 => ?_)
        · skip
          replace hF := q_ifn hF c_11
          refine lv_iload_n hx hb dX12_sortOf_75 rfl (lv_at hl 3 rfl) ?_
          refine q_if_ne (A := x_3.toInt) E rfl (tgt := 83) dX12_sortOf_76 (by decide) (fun c_12 => ?_) (fun c_12 => ?_)
          · skip
            replace hF := q_ifn hF c_12
            refine lv_iconst (v := 1) hx hb dX12_sortOf_83 zki_1 ?_
            have hrv : (1 : Int32).toInt = 1 := zt_1
            exact q_reti E hr hlk hI ⟨rfl, (by first | (clear h0 hh ahpσ_2 bhpσ_2 chpσ_2 ir_1 hy hm10 hge10 iz_6 if_7 gc_8_x_4 gc_8_f_7 c_8 iz_9 if_10 gc_11_x_3 gc_11_f_10 c_11 c_12; omega) | omega), (hF.trans hout)⟩ dX12_sortOf_84
          · skip
            replace hF := q_ifp hF c_12
            refine lv_iconst (v := 2) hx hb dX12_sortOf_79 zki_2 ?_
            refine lv_goto (tgt := 84) hx hb dX12_sortOf_80 (by decide) ?_
            have hrv : (2 : Int32).toInt = 2 := zt_2
            exact q_reti E hr hlk hI ⟨rfl, (by first | (clear h0 hh ahpσ_2 bhpσ_2 chpσ_2 ir_1 hy hm10 hge10 iz_6 if_7 gc_8_x_4 gc_8_f_7 c_8 iz_9 if_10 gc_11_x_3 gc_11_f_10 c_11 c_12; omega) | omega), (hF.trans hout)⟩ dX12_sortOf_84
        · skip
          replace hF := q_ifp hF c_11
          refine lv_iconst (v := 0) hx hb dX12_sortOf_71 zki_0 ?_
          refine lv_goto (tgt := 84) hx hb dX12_sortOf_72 (by decide) ?_
          have hrv : (0 : Int32).toInt = 0 := zt_0
          exact q_reti E hr hlk hI ⟨rfl, (by first | (clear h0 hh ahpσ_2 bhpσ_2 chpσ_2 ir_1 hy hm10 hge10 iz_6 if_7 gc_8_x_4 gc_8_f_7 c_8 iz_9 if_10 gc_11_x_3 gc_11_f_10 c_11; omega) | omega), (hF.trans hout)⟩ dX12_sortOf_84
      · skip
        replace hF := q_ifp hF c_8
        refine lv_iload_n hx hb dX12_sortOf_23 rfl (lv_at hl 3 rfl) ?_
        refine lv_aload_n hx hb dX12_sortOf_24 rfl (lv_at hl 0 rfl) ?_
        refine gs_X12_35_12 E hI ha dX12_sortOf_25 ?_
        refine lv_iload_n hx hb dX12_sortOf_28 rfl (lv_at hl 2 rfl) ?_
        refine lv_iconst (v := 3) hx hb dX12_sortOf_29 zki_3 ?_
        refine lv_iadd hx hb dX12_sortOf_30 ?_
        refine lv_topi (fun z_13 ez_13 => ?_)
        replace hF := q_letX hF ez_13
        have iz_13 := q_addI (A := (94 + 7 * v1.toInt)) (B := 3) ez_13 ir_1 (by decide) (by first | (clear h0 hh ahpσ_2 bhpσ_2 chpσ_2 ir_1 hy hm10 hge10 iz_6 if_7 gc_8_x_4 gc_8_f_7 c_8; omega) | omega) (by first | (clear h0 ahpσ_2 bhpσ_2 chpσ_2 ir_1 hy hm10 hge10 iz_6 if_7 gc_8_x_4 gc_8_f_7 c_8; omega) | omega)
        refine lv_iload hx hb dX12_sortOf_31 (lv_at hl 4 rfl) ?_
        refine lv_iadd hx hb dX12_sortOf_33 ?_
        refine lv_topi (fun z_14 ez_14 => ?_)
        replace hF := q_letX hF ez_14
        have iz_14 := q_addI (A := ((94 + 7 * v1.toInt) + 3)) (B := x_4.toInt) ez_14 iz_13 rfl (by first | (clear h0 hh ahpσ_2 bhpσ_2 chpσ_2 ir_1 hy hm10 iz_6 if_7 gc_8_f_7 c_8 iz_13; omega) | omega) (by first | (clear h0 ahpσ_2 bhpσ_2 chpσ_2 ir_1 hm10 iz_6 gc_8_f_7 iz_13; omega) | omega)
        refine q_iald E hI (q_tk (k' := 34) hI ha rfl (Nat.succ_ne_zero _)) ⟨by decide, rfl⟩ (by first | (clear h0 hh ahpσ_2 bhpσ_2 chpσ_2 ir_1 hm10 iz_6 gc_8_f_7 iz_13; omega) | omega) (by rw [q_lnk (v := 4650) hI (q_tk (k' := 34) hI ha rfl (Nat.succ_ne_zero _)) rfl (by decide)]; omega) dX12_sortOf_34 ?_
        refine lv_topi (fun f_15 ef_15 => ?_)
        replace hF := q_letX hF ef_15
        have if_15 : f_15.toInt = m_c X σ a (((94 + 7 * v1.toInt) + 3) + x_4.toInt) := m_rd ef_15 iz_14
        refine lv_aload_n hx hb dX12_sortOf_35 rfl (lv_at hl 0 rfl) ?_
        refine gs_X12_35_12 E hI ha dX12_sortOf_36 ?_
        refine lv_iload_n hx hb dX12_sortOf_39 rfl (lv_at hl 2 rfl) ?_
        refine lv_iconst (v := 1) hx hb dX12_sortOf_40 zki_1 ?_
        refine lv_iadd hx hb dX12_sortOf_41 ?_
        refine lv_topi (fun z_16 ez_16 => ?_)
        replace hF := q_letX hF ez_16
        have iz_16 := q_addI (A := (94 + 7 * v1.toInt)) (B := 1) ez_16 ir_1 (by decide) (by first | (clear h0 hh ahpσ_2 bhpσ_2 chpσ_2 ir_1 hy hm10 hge10 iz_6 if_7 gc_8_x_4 gc_8_f_7 c_8 iz_13 iz_14 if_15; omega) | omega) (by first | (clear h0 ahpσ_2 bhpσ_2 chpσ_2 ir_1 hy hm10 hge10 iz_6 if_7 gc_8_x_4 gc_8_f_7 c_8 iz_13 iz_14 if_15; omega) | omega)
        refine q_iald E hI (q_tk (k' := 34) hI ha rfl (Nat.succ_ne_zero _)) ⟨by decide, rfl⟩ (by first | (clear h0 hh ahpσ_2 bhpσ_2 chpσ_2 ir_1 hy hm10 hge10 iz_6 if_7 gc_8_x_4 gc_8_f_7 c_8 iz_13 iz_14 if_15; omega) | omega) (by rw [q_lnk (v := 4650) hI (q_tk (k' := 34) hI ha rfl (Nat.succ_ne_zero _)) rfl (by decide)]; omega) dX12_sortOf_42 ?_
        refine lv_topi (fun f_17 ef_17 => ?_)
        replace hF := q_letX hF ef_17
        have if_17 : f_17.toInt = m_c X σ a ((94 + 7 * v1.toInt) + 1) := m_rd ef_17 iz_16
        have gc_18_f_15 := q_rng f_15
        have gc_18_f_17 := q_rng f_17
        refine q_icmp_ne (A := f_15.toInt) (B := f_17.toInt) E rfl rfl (tgt := 50) dX12_sortOf_43 (by decide) (fun c_18 => ?_) (fun c_18 => ?_)
        · skip
          replace hF := q_ifn hF c_18
          refine lv_iconst (v := 0) hx hb dX12_sortOf_50 zki_0 ?_
          refine lv_iadd hx hb dX12_sortOf_51 ?_
          refine lv_topi (fun z_19 ez_19 => ?_)
          replace hF := q_letX hF ez_19
          have iz_19 := q_addI (A := x_3.toInt) (B := 0) ez_19 rfl (by decide) (by first | (clear h0 hh ahpσ_2 bhpσ_2 chpσ_2 ir_1 hy hm10 iz_6 if_7 gc_8_x_4 gc_8_f_7 c_8 iz_13 iz_14 if_15 iz_16 if_17 gc_18_f_15 gc_18_f_17 c_18; omega) | omega) (by first | (clear h0 hh ahpσ_2 bhpσ_2 chpσ_2 ir_1 hy hm10 iz_6 if_7 gc_8_f_7 c_8 iz_13 if_15 iz_16 if_17 gc_18_f_15 gc_18_f_17 c_18; omega) | omega)
          refine lv_istore_n (lv' := [(3, .int z_19), (0, .ref a), (1, .int v1), (2, .int r_1), (4, .int x_4)]) hx hb dX12_sortOf_52 rfl hl (by decide) rfl (fun ls hl => ?_)
          obtain ⟨z_20, ez_20⟩ : ∃ y : Int32, y = x_4 + 1 := ⟨_, rfl⟩
          replace hF := q_letX hF ez_20
          refine lv_iinc (v := z_20) (lv' := [(4, .int z_20), (3, .int z_19), (0, .ref a), (1, .int v1), (2, .int r_1)]) hx hb dX12_sortOf_53 hl (k := 4) rfl (by rw [ez_20]; rfl) (by decide) rfl (fun ls hl => ?_)
          have iz_20 : z_20.toInt = x_4.toInt + 1 := q_inc ez_20 (by first | (clear h0 hh ahpσ_2 bhpσ_2 chpσ_2 ir_1 hm10 iz_6 gc_8_f_7 iz_13 if_15 iz_16 if_17 gc_18_f_15 gc_18_f_17 c_18 iz_19; omega) | omega)
          refine lv_goto (tgt := 10) hx hb dX12_sortOf_56 (by decide) ?_
          exact ih10 z_19 z_20 _ _ ls (by first | (clear h0 hh ahpσ_2 bhpσ_2 chpσ_2 ir_1 iz_6 gc_8_f_7 iz_13 if_15 iz_16 if_17 gc_18_f_15 gc_18_f_17 iz_19; omega) | omega) (by first | (clear h0 hh ahpσ_2 bhpσ_2 chpσ_2 ir_1 hy hm10 iz_6 if_7 gc_8_f_7 c_8 iz_13 if_15 iz_16 if_17 gc_18_f_15 gc_18_f_17 c_18; omega) | omega) hF hI (lv_sub hl [2, 3, 4, 1, 0] rfl)
        · skip
          replace hF := q_ifp hF c_18
          refine lv_iconst (v := 1) hx hb dX12_sortOf_46 zki_1 ?_
          refine lv_goto (tgt := 51) hx hb dX12_sortOf_47 (by decide) ?_
          refine lv_iadd hx hb dX12_sortOf_51 ?_
          refine lv_topi (fun z_21 ez_21 => ?_)
          replace hF := q_letX hF ez_21
          have iz_21 := q_addI (A := x_3.toInt) (B := 1) ez_21 rfl (by decide) (by first | (clear h0 hh ahpσ_2 bhpσ_2 chpσ_2 ir_1 hy hm10 iz_6 if_7 gc_8_x_4 gc_8_f_7 c_8 iz_13 iz_14 if_15 iz_16 if_17 gc_18_f_15 gc_18_f_17 c_18; omega) | omega) (by first | (clear h0 hh ahpσ_2 bhpσ_2 chpσ_2 ir_1 hm10 iz_6 gc_8_f_7 iz_13 if_15 iz_16 if_17 gc_18_f_15 gc_18_f_17 c_18; omega) | omega)
          refine lv_istore_n (lv' := [(3, .int z_21), (0, .ref a), (1, .int v1), (2, .int r_1), (4, .int x_4)]) hx hb dX12_sortOf_52 rfl hl (by decide) rfl (fun ls hl => ?_)
          obtain ⟨z_22, ez_22⟩ : ∃ y : Int32, y = x_4 + 1 := ⟨_, rfl⟩
          replace hF := q_letX hF ez_22
          refine lv_iinc (v := z_22) (lv' := [(4, .int z_22), (3, .int z_21), (0, .ref a), (1, .int v1), (2, .int r_1)]) hx hb dX12_sortOf_53 hl (k := 4) rfl (by rw [ez_22]; rfl) (by decide) rfl (fun ls hl => ?_)
          have iz_22 : z_22.toInt = x_4.toInt + 1 := q_inc ez_22 (by first | (clear h0 hh ahpσ_2 bhpσ_2 chpσ_2 ir_1 hm10 iz_6 gc_8_f_7 iz_13 if_15 iz_16 if_17 gc_18_f_15 gc_18_f_17 c_18 iz_21; omega) | omega)
          refine lv_goto (tgt := 10) hx hb dX12_sortOf_56 (by decide) ?_
          exact ih10 z_21 z_22 _ _ ls (by first | (clear h0 hh ahpσ_2 bhpσ_2 chpσ_2 ir_1 iz_6 gc_8_f_7 iz_13 if_15 iz_16 if_17 gc_18_f_15 gc_18_f_17 c_18 iz_21; omega) | omega) (by first | (clear h0 hh ahpσ_2 bhpσ_2 chpσ_2 ir_1 hy hm10 iz_6 if_7 gc_8_f_7 c_8 iz_13 if_15 iz_16 if_17 gc_18_f_15 gc_18_f_17 c_18; omega) | omega) hF hI (lv_sub hl [2, 3, 4, 1, 0] rfl)
  have kc_23 : (0 : Int32).toInt = 0 := zt_0
  exact L_10_5 ((2147483647 - (0 : Int32).toInt).toNat + 1) 0 0 _ _ ls (Nat.lt_succ_self _) (by decide) hF hI (lv_sub hl [3, 4, 2, 1, 0] rfl)
end
/-! FROM 41.know.a.lean.txt -/
section
section QS
variable {p : Program} {l : Launch} {e : Env} {R : Room} {s : State} {m : MethodId} {args : Array Value} {below : List Frame} {meth : Method} {c : Code} {H : Heap} {locs : List Loc} {cells slots : Nat} {Q : State → Prop} {cc : ByteArray} {X : XW} {n : Nat} {σ0 σ : ST} {H0 : Heap} {pc : Nat} {ls : Array Slot} {rest : List Value} {a : Nat}
theorem kv_X12_302 : q_okV RX12 302 RX12 yX12_inGameOf cX12_inGameOf 4 (some .int) 1 := ⟨(q_in_t8 (i := 159) (by first | rfl | decide +kernel) rfl), (q_in_t8 (i := 161) (by first | rfl | decide +kernel) rfl), (q_in_p (i := 85) (by decide +kernel) rfl), (q_in_t1 (i := 14) (by first | rfl | decide +kernel) rfl), (q_in_t8 (i := 162) (by first | rfl | decide +kernel) rfl), ⟨rfl, by decide, by decide, rfl⟩⟩
theorem kv_X12_333 : q_okV RX12 333 RX12 yX12_knownOf cX12_knownOf 3 (some .int) 2 := ⟨(q_in_t8 (i := 229) (by first | rfl | decide +kernel) rfl), (q_in_t8 (i := 231) (by first | rfl | decide +kernel) rfl), (q_in_p (i := 94) (by decide +kernel) rfl), (q_in_t1 (i := 14) (by first | rfl | decide +kernel) rfl), (q_in_t8 (i := 232) (by first | rfl | decide +kernel) rfl), ⟨rfl, by decide, by decide, rfl⟩⟩
theorem kv_X12_336 : q_okV RX12 336 RX12 yX12_unknownOf cX12_unknownOf 3 (some .int) 2 := ⟨(q_in_t9 (i := 1) (by first | rfl | decide +kernel) rfl), (q_in_t9 (i := 3) (by first | rfl | decide +kernel) rfl), (q_in_p (i := 96) (by decide +kernel) rfl), (q_in_t1 (i := 14) (by first | rfl | decide +kernel) rfl), (q_in_t9 (i := 4) (by first | rfl | decide +kernel) rfl), ⟨rfl, by decide, by decide, rfl⟩⟩
theorem ks_X12_68 : q_okS RX12 68 yJ9_abs_067f4 cJ9_abs_067f4 2 (some .long) 1 := ⟨(q_in_t9 (i := 32) (by first | rfl | decide +kernel) rfl), (q_in_t5 (i := 224) (by first | rfl | decide +kernel) rfl), (q_in_t1 (i := 5) (by first | rfl | decide +kernel) rfl), (q_in_t5 (i := 225) (by first | rfl | decide +kernel) rfl), ⟨by decide, by decide, rfl⟩⟩
theorem ps_X12_65_12 (E : q_E p c cc s m args RX12 X) (hI : q_I X n σ0 H0 locs σ H) (ha : q_kd X a = 12) {v : Int64} (hdg : decode cc pc = .ok (.putfield 65, 3)) (kk : ∀ (H1 : Heap) (locs1 : List Loc) (σ1 : ST), σ1 = q_sl σ a 2 v → q_I X n σ0 H0 locs1 σ1 H1 → W p l e R s m args below meth c H1 locs1 cells slots Q (F0 m (pc + 3) ls rest)) : W p l e R s m args below meth c H locs cells slots Q (F0 m pc ls (.long v :: .ref a :: rest)) :=
  q_putl E hI ha ⟨rfl, by decide⟩ (show vwCl[11]? = some (RX12, TX12, 46) from rfl) q_inX12 tyX12_ok nmX12 (f := 2) (by decide) (q_in_t6 (i := 227) (by first | rfl | decide +kernel) rfl) (Or.inl rfl) rfl rfl rfl hdg (fun H1 l1 h => kk H1 l1 _ rfl h)
theorem ps_X12_7_12 (E : q_E p c cc s m args RX12 X) (hI : q_I X n σ0 H0 locs σ H) (ha : q_kd X a = 12) {v : Int64} (hdg : decode cc pc = .ok (.putfield 7, 3)) (kk : ∀ (H1 : Heap) (locs1 : List Loc) (σ1 : ST), σ1 = q_sl σ a 3 v → q_I X n σ0 H0 locs1 σ1 H1 → W p l e R s m args below meth c H1 locs1 cells slots Q (F0 m (pc + 3) ls rest)) : W p l e R s m args below meth c H locs cells slots Q (F0 m pc ls (.long v :: .ref a :: rest)) :=
  q_putl E hI ha ⟨rfl, by decide⟩ (show vwCl[11]? = some (RX12, TX12, 46) from rfl) q_inX12 tyX12_ok nmX12 (f := 3) (by decide) (q_in_t6 (i := 228) (by first | rfl | decide +kernel) rfl) (Or.inl rfl) rfl rfl rfl hdg (fun H1 l1 h => kk H1 l1 _ rfl h)
theorem kv_X12_319 : q_okV RX12 319 RX12 yX12_behindOf cX12_behindOf 2 (some .int) 1 := ⟨(q_in_t8 (i := 204) (by first | rfl | decide +kernel) rfl), (q_in_t8 (i := 206) (by first | rfl | decide +kernel) rfl), (q_in_p (i := 91) (by decide +kernel) rfl), (q_in_t1 (i := 14) (by first | rfl | decide +kernel) rfl), (q_in_t8 (i := 207) (by first | rfl | decide +kernel) rfl), ⟨rfl, by decide, by decide, rfl⟩⟩
theorem kv_X12_367 : q_okV RX12 367 RX12 yX12_waitsOf cX12_waitsOf 3 (some .int) 1 := ⟨(q_in_t9 (i := 62) (by first | rfl | decide +kernel) rfl), (q_in_t9 (i := 64) (by first | rfl | decide +kernel) rfl), (q_in_p (i := 101) (by decide +kernel) rfl), (q_in_t1 (i := 14) (by first | rfl | decide +kernel) rfl), (q_in_t9 (i := 65) (by first | rfl | decide +kernel) rfl), ⟨rfl, by decide, by decide, rfl⟩⟩
theorem kv_X12_315 : q_okV RX12 315 RX12 yX12_nextKind cX12_nextKind 3 (some .int) 1 := ⟨(q_in_t8 (i := 200) (by first | rfl | decide +kernel) rfl), (q_in_t8 (i := 202) (by first | rfl | decide +kernel) rfl), (q_in_p (i := 90) (by decide +kernel) rfl), (q_in_t1 (i := 14) (by first | rfl | decide +kernel) rfl), (q_in_t8 (i := 203) (by first | rfl | decide +kernel) rfl), ⟨rfl, by decide, by decide, rfl⟩⟩
theorem kv_X12_290 : q_okV RX12 290 RX12 yX12_isPlayerAt cX12_isPlayerAt 2 (some .boolean) 1 := ⟨(q_in_t8 (i := 131) (by first | rfl | decide +kernel) rfl), (q_in_t8 (i := 133) (by first | rfl | decide +kernel) rfl), (q_in_p (i := 80) (by decide +kernel) rfl), (q_in_t1 (i := 14) (by first | rfl | decide +kernel) rfl), (q_in_t8 (i := 134) (by first | rfl | decide +kernel) rfl), ⟨rfl, by decide, by decide, rfl⟩⟩
theorem kv_X12_287 : q_okV RX12 287 RX12 yX12_heapMany cX12_heapMany 3 (some .int) 0 := ⟨(q_in_t8 (i := 120) (by first | rfl | decide +kernel) rfl), (q_in_t8 (i := 122) (by first | rfl | decide +kernel) rfl), (q_in_p (i := 79) (by decide +kernel) rfl), (q_in_t1 (i := 14) (by first | rfl | decide +kernel) rfl), (q_in_t8 (i := 123) (by first | rfl | decide +kernel) rfl), ⟨rfl, by decide, by decide, rfl⟩⟩
theorem kv_X12_293 : q_okV RX12 293 RX12 yX12_cardsOf cX12_cardsOf 4 (some .int) 1 := ⟨(q_in_t8 (i := 135) (by first | rfl | decide +kernel) rfl), (q_in_t8 (i := 137) (by first | rfl | decide +kernel) rfl), (q_in_p (i := 81) (by decide +kernel) rfl), (q_in_t1 (i := 14) (by first | rfl | decide +kernel) rfl), (q_in_t8 (i := 138) (by first | rfl | decide +kernel) rfl), ⟨rfl, by decide, by decide, rfl⟩⟩
end QS
end
/-! FROM 41.know.b00.lean.txt -/
section
set_option maxRecDepth 100000 in
set_option maxHeartbeats 4000000 in
theorem c_X12_knownOf (l : Launch) (X : XW) (σ : ST) (a : Nat) (v1 : Int32) (v2 : Int32) (ha : q_kd X a = 12) (hG : m_G (m_c X σ a)) (h0 : 0 ≤ v1.toInt ∧ v1.toInt ≤ 5) (h1 : 0 ≤ v2.toInt ∧ v2.toInt ≤ 9) : Met l yX12_knownOf (q_ws yX12_knownOf cX12_knownOf 3 (some .int)) (q_rm 2 46) (q_P X σ [.ref a, .int v1, .int v2]) (q_Qi X 9 σ (fun (r : Int32) (σ' : ST) => σ' = σ ∧ (r.toInt = m_c X σ a (34 + 10 * v1.toInt + v2.toInt) + m_A (m_c X σ a) v1.toInt v2.toInt (m_c X σ a 9).toNat) ∧ r = F_X12_knownOf X σ a v1 v2)) 0 0 (q_reg X) := by
  refine q_met 9 (by first | exact rfl | decide +kernel) rfl (Nat.le_of_ble_eq_true rfl) (fun p e s m below meth c E hml hr hlk hI ls hl => ?_)
  have hx := E.1
  have hb := E.2.1
  have hl : lv_has ls 3 [(0, .ref a), (1, .int v1), (2, .int v2)] := hl
  have hh := hG.hd
  obtain ⟨out, hout⟩ : ∃ o, o = F_X12_knownOf X σ a v1 v2 := ⟨_, rfl⟩
  have hF := hout.symm
  unfold F_X12_knownOf at hF
  refine lv_aload_n hx hb dX12_knownOf_0 rfl (lv_at hl 0 rfl) ?_
  refine lv_iload_n hx hb dX12_knownOf_1 rfl (lv_at hl 1 rfl) ?_
  refine lv_iload_n hx hb dX12_knownOf_2 rfl (lv_at hl 2 rfl) ?_
  refine q_ci (q_rV11_2 (rest := []) E (hml.trans hl.1.symm) hI (c_X12_handOf l X σ a v1 v2 ha (by omega) (by omega)) kv_X12_276 ha ⟨Nat.le_of_ble_eq_true rfl, Nat.le_of_ble_eq_true rfl⟩ (Nat.le_of_ble_eq_true rfl) dX12_knownOf_3) hI (Nat.le_of_ble_eq_true rfl) (fun r_1 σ_2 H locs hpσ_2 hkσ_2 hI => ?_)
  have ahpσ_2 := hpσ_2.1
  have bhpσ_2 := hpσ_2.2.1
  have chpσ_2 := hpσ_2.2.2
  clear hpσ_2
  replace hI := q_Irw ahpσ_2 hI
  replace hF := q_letX hF chpσ_2
  have ir_1 : r_1.toInt = (m_c X σ a (34 + 10 * v1.toInt + v2.toInt)) := (by first | exact bhpσ_2 | (rw [bhpσ_2]) | (simp only [bhpσ_2]))
  have hbr_1 := hG.h80 (p := v1.toInt) (k := v2.toInt) (by first | (clear h0 h1 hh ahpσ_2 bhpσ_2 chpσ_2 ir_1; omega) | omega) (by first | (clear h0 h1 hh ahpσ_2 bhpσ_2 chpσ_2 ir_1; omega) | omega) (by first | (clear h0 h1 hh ahpσ_2 bhpσ_2 chpσ_2 ir_1; omega) | omega) (by first | (clear h0 h1 hh ahpσ_2 bhpσ_2 chpσ_2 ir_1; omega) | omega)
  refine lv_aload_n hx hb dX12_knownOf_6 rfl (lv_at hl 0 rfl) ?_
  refine lv_iload_n hx hb dX12_knownOf_7 rfl (lv_at hl 1 rfl) ?_
  refine lv_iload_n hx hb dX12_knownOf_8 rfl (lv_at hl 2 rfl) ?_
  refine q_ci (q_rV11_2 (rest := [.int r_1]) E (hml.trans hl.1.symm) hI (c_X12_laidOf l X σ a v1 v2 ha hG) kv_X12_296 ha ⟨Nat.le_of_ble_eq_true rfl, Nat.le_of_ble_eq_true rfl⟩ (Nat.le_of_ble_eq_true rfl) dX12_knownOf_9) hI (Nat.le_of_ble_eq_true rfl) (fun r_3 σ_4 H locs hpσ_4 hkσ_4 hI => ?_)
  have ahpσ_4 := hpσ_4.1
  have bhpσ_4 := hpσ_4.2.1
  have chpσ_4 := hpσ_4.2.2.1
  have dhpσ_4 := hpσ_4.2.2.2
  clear hpσ_4
  replace hI := q_Irw ahpσ_4 hI
  replace hF := q_letX hF dhpσ_4
  have ir_3 : r_3.toInt = (m_A (m_c X σ a) v1.toInt v2.toInt (m_c X σ a 9).toNat) := (by first | exact bhpσ_4 | (rw [bhpσ_4]) | (simp only [bhpσ_4]))
  refine lv_iadd hx hb dX12_knownOf_12 ?_
  refine lv_topi (fun z_5 ez_5 => ?_)
  replace hF := q_letX hF ez_5
  have iz_5 := q_addI (A := (m_c X σ a (34 + 10 * v1.toInt + v2.toInt))) (B := (m_A (m_c X σ a) v1.toInt v2.toInt (m_c X σ a 9).toNat)) ez_5 ir_1 ir_3 (by first | (clear h0 h1 hh ahpσ_2 bhpσ_2 chpσ_2 ir_1 ahpσ_4 dhpσ_4 ir_3; omega) | omega) (by first | (clear h0 h1 hh ahpσ_2 bhpσ_2 chpσ_2 ir_1 ahpσ_4 dhpσ_4 ir_3; omega) | omega)
  exact q_reti E hr hlk hI ⟨rfl, (by omega), (hF.trans hout)⟩ dX12_knownOf_13

set_option maxRecDepth 100000 in
set_option maxHeartbeats 4000000 in
theorem c_X12_unknownOf (l : Launch) (X : XW) (σ : ST) (a : Nat) (v1 : Int32) (v2 : Int32) (ha : q_kd X a = 12) (hG : m_G (m_c X σ a)) (h0 : 0 ≤ v1.toInt ∧ v1.toInt < m_c X σ a 2) (h1 : 0 ≤ v2.toInt ∧ v2.toInt ≤ 9) : Met l yX12_unknownOf (q_ws yX12_unknownOf cX12_unknownOf 3 (some .int)) (q_rm 3 69) (q_P X σ [.ref a, .int v1, .int v2]) (q_Qi X 9 σ (fun (r : Int32) (σ' : ST) => σ' = σ ∧ (r.toInt = m_U (m_c X σ a) v1.toInt v2.toInt) ∧ (0 ≤ r.toInt ∧ r.toInt ≤ 80) ∧ r = F_X12_unknownOf X σ a v1 v2)) 0 0 (q_reg X) := by
  refine q_met 9 (by first | exact rfl | decide +kernel) rfl (Nat.le_of_ble_eq_true rfl) (fun p e s m below meth c E hml hr hlk hI ls hl => ?_)
  have hx := E.1
  have hb := E.2.1
  have hl : lv_has ls 3 [(0, .ref a), (1, .int v1), (2, .int v2)] := hl
  have hh := hG.hd
  have ub := hG.U_bd (p := v1.toInt) (k := v2.toInt) (by first | (clear h0 h1 hh; omega) | omega) (by first | (clear h0 h1 hh; omega) | omega) (by first | (clear h0 h1 hh; omega) | omega) (by first | (clear h0 h1 hh; omega) | omega)
  have ib := hG.I_bd (k := v2.toInt) (by first | (clear h0 h1 hh ub; omega) | omega) (by first | (clear h0 h1 hh ub; omega) | omega)
  unfold m_U at ub
  obtain ⟨out, hout⟩ : ∃ o, o = F_X12_unknownOf X σ a v1 v2 := ⟨_, rfl⟩
  have hF := hout.symm
  unfold F_X12_unknownOf at hF
  refine lv_aload_n hx hb dX12_unknownOf_0 rfl (lv_at hl 0 rfl) ?_
  refine lv_iload_n hx hb dX12_unknownOf_1 rfl (lv_at hl 2 rfl) ?_
  refine q_ci (q_rV11_1 (rest := []) E (hml.trans hl.1.symm) hI (c_X12_inGameOf l X σ a v2 ha hG (by omega)) kv_X12_302 ha ⟨Nat.le_of_ble_eq_true rfl, Nat.le_of_ble_eq_true rfl⟩ (Nat.le_of_ble_eq_true rfl) dX12_unknownOf_2) hI (Nat.le_of_ble_eq_true rfl) (fun r_1 σ_2 H locs hpσ_2 hkσ_2 hI => ?_)
  have ahpσ_2 := hpσ_2.1
  have bhpσ_2 := hpσ_2.2.1
  have chpσ_2 := hpσ_2.2.2.1
  have dhpσ_2 := hpσ_2.2.2.2
  clear hpσ_2
  replace hI := q_Irw ahpσ_2 hI
  replace hF := q_letX hF dhpσ_2
  have ir_1 : r_1.toInt = (m_I (m_c X σ a) v2.toInt) := (by first | exact bhpσ_2 | (rw [bhpσ_2]) | (simp only [bhpσ_2]))
  refine lv_aload_n hx hb dX12_unknownOf_5 rfl (lv_at hl 0 rfl) ?_
  refine lv_iload_n hx hb dX12_unknownOf_6 rfl (lv_at hl 1 rfl) ?_
  refine lv_iload_n hx hb dX12_unknownOf_7 rfl (lv_at hl 2 rfl) ?_
  refine q_ci (q_rV11_2 (rest := [.int r_1]) E (hml.trans hl.1.symm) hI (c_X12_knownOf l X σ a v1 v2 ha hG (by first | (clear h0 h1 ub ahpσ_2 bhpσ_2 chpσ_2 dhpσ_2 ir_1; omega) | omega) (by omega)) kv_X12_333 ha ⟨Nat.le_of_ble_eq_true rfl, Nat.le_of_ble_eq_true rfl⟩ (Nat.le_of_ble_eq_true rfl) dX12_unknownOf_8) hI (Nat.le_of_ble_eq_true rfl) (fun r_3 σ_4 H locs hpσ_4 hkσ_4 hI => ?_)
  have ahpσ_4 := hpσ_4.1
  have bhpσ_4 := hpσ_4.2.1
  have chpσ_4 := hpσ_4.2.2
  clear hpσ_4
  replace hI := q_Irw ahpσ_4 hI
  replace hF := q_letX hF chpσ_4
  have ir_3 : r_3.toInt = (m_c X σ a (34 + 10 * v1.toInt + v2.toInt) + m_A (m_c X σ a) v1.toInt v2.toInt (m_c X σ a 9).toNat) := (by first | exact bhpσ_4 | (rw [bhpσ_4]) | (simp only [bhpσ_4]))
  refine lv_isub hx hb dX12_unknownOf_11 ?_
  refine lv_topi (fun z_5 ez_5 => ?_)
  replace hF := q_letX hF ez_5
  have iz_5 := q_subI (A := (m_I (m_c X σ a) v2.toInt)) (B := (m_c X σ a (34 + 10 * v1.toInt + v2.toInt) + m_A (m_c X σ a) v1.toInt v2.toInt (m_c X σ a 9).toNat)) ez_5 ir_1 ir_3 (by first | (clear h0 h1 hh ahpσ_2 chpσ_2 dhpσ_2 ir_1 ahpσ_4 chpσ_4 ir_3; omega) | omega) (by first | (clear h0 h1 hh ahpσ_2 chpσ_2 dhpσ_2 ir_1 ahpσ_4 chpσ_4 ir_3; omega) | omega)
  exact q_reti E hr hlk hI ⟨rfl, (by unfold m_U; omega), (by first | (clear h0 h1 hh ahpσ_2 chpσ_2 dhpσ_2 ir_1 ahpσ_4 chpσ_4 ir_3; omega) | omega), (hF.trans hout)⟩ dX12_unknownOf_12

set_option maxRecDepth 100000 in
set_option maxHeartbeats 4000000 in
theorem c_X12_unknownAll (l : Launch) (X : XW) (σ : ST) (a : Nat) (v1 : Int32) (ha : q_kd X a = 12) (hG : m_G (m_c X σ a)) (h0 : 0 ≤ v1.toInt ∧ v1.toInt < m_c X σ a 2) : Met l yX12_unknownAll (q_ws yX12_unknownAll cX12_unknownAll 4 (some .int)) (q_rm 4 91) (q_P X σ [.ref a, .int v1]) (q_Qi X 9 σ (fun (r : Int32) (σ' : ST) => σ' = σ ∧ (r.toInt = m_V (m_c X σ a) v1.toInt (m_c X σ a 0).toNat) ∧ (0 ≤ r.toInt ∧ r.toInt ≤ 800) ∧ r = F_X12_unknownAll X σ a v1)) 0 0 (q_reg X) := by
  refine q_met 9 (by first | exact rfl | decide +kernel) rfl (Nat.le_of_ble_eq_true rfl) (fun p e s m below meth c E hml hr hlk hI ls hl => ?_)
  have hx := E.1
  have hb := E.2.1
  have hl : lv_has ls 4 [(0, .ref a), (1, .int v1)] := hl
  have hh := hG.hd
  obtain ⟨out, hout⟩ : ∃ o, o = F_X12_unknownAll X σ a v1 := ⟨_, rfl⟩
  have hF := hout.symm
  unfold F_X12_unknownAll at hF
  refine lv_iconst (v := 0) hx hb dX12_unknownAll_0 zki_0 ?_
  refine lv_istore_n (lv' := [(2, .int 0), (0, .ref a), (1, .int v1)]) hx hb dX12_unknownAll_1 rfl hl (by decide) rfl (fun ls hl => ?_)
  refine lv_iconst (v := 0) hx hb dX12_unknownAll_2 zki_0 ?_
  refine lv_istore_n (lv' := [(3, .int 0), (2, .int 0), (0, .ref a), (1, .int v1)]) hx hb dX12_unknownAll_3 rfl hl (by decide) rfl (fun ls hl => ?_)
  have L_4_3 : ∀ (k_3 : Nat) (x_1 : Int32) (x_2 : Int32) (H : Heap) (locs : List Loc) (ls : Array Slot), (2147483647 - x_2.toInt).toNat < k_3 → (0 ≤ x_2.toInt ∧ x_2.toInt ≤ m_c X σ a 0) → (x_1.toInt = m_V (m_c X σ a) v1.toInt x_2.toInt.toNat) → (F_X12_unknownAll_L4_1 X σ a v1 k_3 x_1 x_2 = out) → q_I X 9 σ s.heap locs σ H → lv_has ls 4 [(0, .ref a), (1, .int v1), (2, .int x_1), (3, .int x_2)] → W p l e (q_rm 4 91) s m ([.ref a, .int v1] : List Value).toArray below meth c H locs 0 0 (MQ below (q_Qi X 9 σ (fun (r : Int32) (σ' : ST) => σ' = σ ∧ (r.toInt = m_V (m_c X σ a) v1.toInt (m_c X σ a 0).toNat) ∧ (0 ≤ r.toInt ∧ r.toInt ≤ 800) ∧ r = F_X12_unknownAll X σ a v1)) ([.ref a, .int v1] : List Value).toArray s 0 0 (q_reg X)) (F0 m 4 ls []) := by
    clear hF
    intro k_3
    induction k_3 with
    | zero =>
      intro x_1 x_2 H locs ls hms
      exact absurd hms (Nat.not_lt_zero _)
    | succ k_3 ih4 =>
      intro x_1 x_2 H locs ls hm4 hge4 hs4 hF hI hl
      replace hF := (F_X12_unknownAll_L4_1_s).symm.trans hF
      unfold F_X12_unknownAll_B4_1 at hF
      have sb := hG.V_bd (p := v1.toInt) (by first | (clear h0 hh hm4 hge4 hs4; omega) | omega) (by first | (clear h0 hh hm4 hge4 hs4; omega) | omega) x_2.toInt.toNat (by first | (clear h0 hm4 hs4; omega) | omega)
      have ps := m_V_succ (m_c X σ a) v1.toInt x_2.toInt hge4.1
      refine lv_iload_n hx hb dX12_unknownAll_4 rfl (lv_at hl 3 rfl) ?_
      refine lv_aload_n hx hb dX12_unknownAll_5 rfl (lv_at hl 0 rfl) ?_
      refine gs_X12_35_12 E hI ha dX12_unknownAll_6 ?_
      refine lv_iconst (v := 0) hx hb dX12_unknownAll_9 zki_0 ?_
      refine q_iald E hI (q_tk (k' := 34) hI ha rfl (Nat.succ_ne_zero _)) ⟨by decide, rfl⟩ (by decide) (by rw [q_lnk (v := 4650) hI (q_tk (k' := 34) hI ha rfl (Nat.succ_ne_zero _)) rfl (by decide)]; decide) dX12_unknownAll_10 ?_
      refine lv_topi (fun f_4 ef_4 => ?_)
      replace hF := q_letX hF ef_4
      have if_4 : f_4.toInt = m_c X σ a 0 := m_rd ef_4 (by decide)
      have gc_5_x_2 := q_rng x_2
      have gc_5_f_4 := q_rng f_4
      refine q_icmp_ge (A := x_2.toInt) (B := f_4.toInt) E rfl rfl (tgt := 29) dX12_unknownAll_11 (by decide) (fun c_5 => ?_) (fun c_5 => ?_)
      · skip
        replace hF := q_ifn hF (Int.not_lt.mpr c_5)
        skip
        refine lv_iload_n hx hb dX12_unknownAll_29 rfl (lv_at hl 2 rfl) ?_
        exact q_reti E hr hlk hI ⟨rfl, (by have q : x_2.toInt = m_c X σ a 0 := (by first | (clear h0 hh hm4 hs4 sb ps gc_5_x_2 gc_5_f_4; omega) | omega); rw [q] at hs4; exact hs4), (by first | (clear h0 hm4 gc_5_x_2 gc_5_f_4; omega) | omega), (hF.trans hout)⟩ dX12_unknownAll_30
      · skip
        replace hF := q_ifp hF c_5
        refine lv_iload_n hx hb dX12_unknownAll_14 rfl (lv_at hl 2 rfl) ?_
        refine lv_aload_n hx hb dX12_unknownAll_15 rfl (lv_at hl 0 rfl) ?_
        refine lv_iload_n hx hb dX12_unknownAll_16 rfl (lv_at hl 1 rfl) ?_
        refine lv_iload_n hx hb dX12_unknownAll_17 rfl (lv_at hl 3 rfl) ?_
        refine q_ci (q_rV11_2 (rest := [.int x_1]) E (hml.trans hl.1.symm) hI (c_X12_unknownOf l X σ a v1 x_2 ha hG (by omega) (by first | (clear h0 hm4 hs4 sb ps gc_5_f_4; omega) | omega)) kv_X12_336 ha ⟨Nat.le_of_ble_eq_true rfl, Nat.le_of_ble_eq_true rfl⟩ (Nat.le_of_ble_eq_true rfl) dX12_unknownAll_18) hI (Nat.le_of_ble_eq_true rfl) (fun r_6 σ_7 H locs hpσ_7 hkσ_7 hI => ?_)
        have ahpσ_7 := hpσ_7.1
        have bhpσ_7 := hpσ_7.2.1
        have chpσ_7 := hpσ_7.2.2.1
        have dhpσ_7 := hpσ_7.2.2.2
        clear hpσ_7
        replace hI := q_Irw ahpσ_7 hI
        replace hF := q_letX hF dhpσ_7
        have ir_6 : r_6.toInt = (m_U (m_c X σ a) v1.toInt x_2.toInt) := (by first | exact bhpσ_7 | (rw [bhpσ_7]) | (simp only [bhpσ_7]))
        refine lv_iadd hx hb dX12_unknownAll_21 ?_
        refine lv_topi (fun z_8 ez_8 => ?_)
        replace hF := q_letX hF ez_8
        have iz_8 := q_addI (A := x_1.toInt) (B := (m_U (m_c X σ a) v1.toInt x_2.toInt)) ez_8 rfl ir_6 (by first | (clear h0 hh hm4 hge4 if_4 gc_5_x_2 gc_5_f_4 c_5 ahpσ_7 dhpσ_7 ir_6; omega) | omega) (by first | (clear h0 hm4 hge4 gc_5_x_2 gc_5_f_4 ahpσ_7 dhpσ_7 ir_6; omega) | omega)
        refine lv_istore_n (lv' := [(2, .int z_8), (0, .ref a), (1, .int v1), (3, .int x_2)]) hx hb dX12_unknownAll_22 rfl hl (by decide) rfl (fun ls hl => ?_)
        obtain ⟨z_9, ez_9⟩ : ∃ y : Int32, y = x_2 + 1 := ⟨_, rfl⟩
        replace hF := q_letX hF ez_9
        refine lv_iinc (v := z_9) (lv' := [(3, .int z_9), (2, .int z_8), (0, .ref a), (1, .int v1)]) hx hb dX12_unknownAll_23 hl (k := 3) rfl (by rw [ez_9]; rfl) (by decide) rfl (fun ls hl => ?_)
        have iz_9 : z_9.toInt = x_2.toInt + 1 := q_inc ez_9 (by first | (clear h0 hm4 hs4 sb ps gc_5_f_4 ahpσ_7 bhpσ_7 chpσ_7 dhpσ_7 ir_6 iz_8; omega) | omega)
        have pz := ps
        rw [← iz_9] at pz
        refine lv_goto (tgt := 4) hx hb dX12_unknownAll_26 (by decide) ?_
        exact ih4 z_8 z_9 _ _ ls (by first | (clear h0 hs4 sb ps gc_5_f_4 ahpσ_7 bhpσ_7 chpσ_7 dhpσ_7 ir_6 iz_8 pz; omega) | omega) (by first | (clear h0 hh hm4 hs4 sb ps gc_5_f_4 ahpσ_7 bhpσ_7 chpσ_7 dhpσ_7 ir_6 iz_8 pz; omega) | omega) (by first | (clear h0 hh hm4 hge4 sb if_4 gc_5_x_2 gc_5_f_4 c_5 ahpσ_7 bhpσ_7 chpσ_7 dhpσ_7 ir_6 iz_9; omega) | omega) hF hI (lv_sub hl [2, 3, 1, 0] rfl)
  have kc_10 : (0 : Int32).toInt = 0 := zt_0
  exact L_4_3 ((2147483647 - (0 : Int32).toInt).toNat + 1) 0 0 _ _ ls (Nat.lt_succ_self _) (by have q : (0 : Int32).toInt = 0 := rfl; omega) rfl hF hI (lv_sub hl [2, 3, 1, 0] rfl)

set_option maxRecDepth 100000 in
set_option maxHeartbeats 4000000 in
theorem c_X12_choose (l : Launch) (X : XW) (σ : ST) (v0 : Int32) (v1 : Int32) (h0 : 0 ≤ v0.toInt ∧ v0.toInt ≤ 800) (h1 : 0 ≤ v1.toInt ∧ v1.toInt ≤ 4) : Met l yX12_choose (q_ws yX12_choose cX12_choose 5 (some .long)) (q_rm 0 0) (q_P X σ [.int v0, .int v1]) (q_Ql X 9 σ (fun (r : Int64) (σ' : ST) => σ' = σ ∧ (0 ≤ r.toInt ∧ r.toInt ≤ 409600000000) ∧ (v1.toInt ≤ v0.toInt → 1 ≤ r.toInt) ∧ r = F_X12_choose X σ v0 v1)) 0 0 (q_reg X) := by
  refine q_met 9 (by first | exact rfl | decide +kernel) rfl (Nat.le_of_ble_eq_true rfl) (fun p e s m below meth c E hml hr hlk hI ls hl => ?_)
  have hx := E.1
  have hb := E.2.1
  have hl : lv_has ls 5 [(0, .int v0), (1, .int v1)] := hl
  obtain ⟨out, hout⟩ : ∃ o, o = F_X12_choose X σ v0 v1 := ⟨_, rfl⟩
  have hF := hout.symm
  unfold F_X12_choose at hF
  refine lv_iload_n hx hb dX12_choose_0 rfl (lv_at hl 1 rfl) ?_
  refine lv_iload_n hx hb dX12_choose_1 rfl (lv_at hl 0 rfl) ?_
  have gc_1_v1 := q_rng v1
  have gc_1_v0 := q_rng v0
  refine q_icmp_le (A := v1.toInt) (B := v0.toInt) E rfl rfl (tgt := 7) dX12_choose_2 (by decide) (fun c_1 => ?_) (fun c_1 => ?_)
  · skip
    replace hF := q_ifn hF (Int.not_lt.mpr c_1)
    refine lv_lconst (v := 1) hx hb dX12_choose_7 (by decide) ?_
    refine lv_lstore_n (lv' := [(2, .long 1), (0, .int v0), (1, .int v1)]) hx hb dX12_choose_8 rfl hl (by decide) rfl (fun ls hl => ?_)
    refine lv_iconst (v := 1) hx hb dX12_choose_9 zki_1 ?_
    refine lv_istore (lv' := [(4, .int 1), (2, .long 1), (0, .int v0), (1, .int v1)]) hx hb dX12_choose_10 hl (by decide) rfl (fun ls hl => ?_)
    have L_12_4 : ∀ (k_4 : Nat) (w_2 : Int64) (x_3 : Int32) (H : Heap) (locs : List Loc) (ls : Array Slot), (2147483647 - x_3.toInt).toNat < k_4 → (1 ≤ x_3.toInt ∧ x_3.toInt ≤ v1.toInt + 1 ∧ 1 ≤ w_2.toInt) → ((x_3.toInt = 1 ∧ w_2.toInt ≤ 1 ∨ x_3.toInt = 2 ∧ w_2.toInt ≤ 800 ∨ x_3.toInt = 3 ∧ w_2.toInt ≤ 640000 ∨ x_3.toInt = 4 ∧ w_2.toInt ≤ 512000000 ∨ x_3.toInt = 5 ∧ w_2.toInt ≤ 409600000000)) → (F_X12_choose_L12_1 X v1 v0 k_4 w_2 x_3 = out) → q_I X 9 σ s.heap locs σ H → lv_has ls 5 [(0, .int v0), (1, .int v1), (2, .long w_2), (4, .int x_3)] → W p l e (q_rm 0 0) s m ([.int v0, .int v1] : List Value).toArray below meth c H locs 0 0 (MQ below (q_Ql X 9 σ (fun (r : Int64) (σ' : ST) => σ' = σ ∧ (0 ≤ r.toInt ∧ r.toInt ≤ 409600000000) ∧ (v1.toInt ≤ v0.toInt → 1 ≤ r.toInt) ∧ r = F_X12_choose X σ v0 v1)) ([.int v0, .int v1] : List Value).toArray s 0 0 (q_reg X)) (F0 m 12 ls []) := by
      clear hF
      intro k_4
      induction k_4 with
      | zero =>
        intro w_2 x_3 H locs ls hms
        exact absurd hms (Nat.not_lt_zero _)
      | succ k_4 ih12 =>
        intro w_2 x_3 H locs ls hm12 hge12 hc12 hF hI hl
        replace hF := (F_X12_choose_L12_1_s).symm.trans hF
        unfold F_X12_choose_B12_1 at hF
        refine lv_iload hx hb dX12_choose_12 (lv_at hl 3 rfl) ?_
        refine lv_iload_n hx hb dX12_choose_14 rfl (lv_at hl 1 rfl) ?_
        have gc_5_x_3 := q_rng x_3
        have gc_5_v1 := q_rng v1
        refine q_icmp_gt (A := x_3.toInt) (B := v1.toInt) E rfl rfl (tgt := 38) dX12_choose_15 (by decide) (fun c_5 => ?_) (fun c_5 => ?_)
        · skip
          replace hF := q_ifp hF c_5
          skip
          refine lv_lload_n hx hb dX12_choose_38 rfl (lv_at hl 2 rfl) ?_
          exact q_retl E hr hlk hI ⟨rfl, (by first | (clear h0 h1 gc_1_v1 gc_1_v0 c_1 hm12 gc_5_x_3 gc_5_v1 c_5; omega) | omega), (by first | (clear h0 h1 gc_1_v1 gc_1_v0 c_1 hm12 hc12 gc_5_x_3 gc_5_v1 c_5; omega) | omega), (hF.trans hout)⟩ dX12_choose_39
        · skip
          replace hF := q_ifn hF (Int.not_lt.mpr c_5)
          refine lv_lload_n hx hb dX12_choose_18 rfl (lv_at hl 2 rfl) ?_
          refine lv_iload_n hx hb dX12_choose_19 rfl (lv_at hl 0 rfl) ?_
          refine lv_iload_n hx hb dX12_choose_20 rfl (lv_at hl 1 rfl) ?_
          refine lv_isub hx hb dX12_choose_21 ?_
          refine lv_topi (fun z_6 ez_6 => ?_)
          replace hF := q_letX hF ez_6
          have iz_6 := q_subI (A := v0.toInt) (B := v1.toInt) ez_6 rfl rfl (by first | (clear h0 h1 gc_1_v1 gc_1_v0 hm12 hge12 hc12 gc_5_x_3 gc_5_v1 c_5; omega) | omega) (by first | (clear h0 h1 gc_1_v1 gc_1_v0 c_1 hm12 hge12 hc12 gc_5_x_3 gc_5_v1 c_5; omega) | omega)
          refine lv_iload hx hb dX12_choose_22 (lv_at hl 3 rfl) ?_
          refine lv_iadd hx hb dX12_choose_24 ?_
          refine lv_topi (fun z_7 ez_7 => ?_)
          replace hF := q_letX hF ez_7
          have iz_7 := q_addI (A := (v0.toInt - v1.toInt)) (B := x_3.toInt) ez_7 iz_6 rfl (by first | (clear h0 h1 gc_1_v1 gc_1_v0 hm12 hc12 gc_5_v1 c_5; omega) | omega) (by first | (clear h0 h1 gc_1_v1 gc_1_v0 c_1 hm12 hge12 hc12 gc_5_x_3 gc_5_v1; omega) | omega)
          refine lv_i2l hx hb dX12_choose_25 rfl ?_
          refine lv_topl (fun y_8 ey_8 => ?_)
          replace hF := q_letX hF ey_8
          have ggy_8 := q_rng z_7
          have iy_8 : y_8.toInt = z_7.toInt := by rw [ey_8]; exact (q_i2l _).trans rfl
          have mb := m_mulI (a := w_2.toInt) (A := 512000000) (b := y_8.toInt) (B := 800) (by first | (clear h0 h1 gc_1_v1 gc_1_v0 c_1 hm12 hc12 gc_5_x_3 gc_5_v1 c_5 iz_6 iz_7 ggy_8 iy_8; omega) | omega) (by first | (clear h0 h1 gc_1_v1 gc_1_v0 hm12 hge12 gc_5_x_3 gc_5_v1; omega) | omega) (by first | (clear h0 h1 gc_1_v1 gc_1_v0 hm12 hc12 gc_5_v1; omega) | omega) (by first | (clear h0 h1 gc_1_v1 gc_1_v0 c_1 hm12 hge12 hc12 gc_5_x_3 gc_5_v1; omega) | omega)
          refine lv_lmul hx hb dX12_choose_26 ?_
          refine lv_topl (fun y_9 ey_9 => ?_)
          replace hF := q_letX hF ey_9
          have iy_9 := q_mulJ (A := w_2.toInt) (B := y_8.toInt) ey_9 rfl rfl (by first | (clear h0 h1 gc_1_v1 gc_1_v0 c_1 hm12 hge12 hc12 gc_5_x_3 gc_5_v1 c_5 iz_6 iz_7 ggy_8 iy_8; omega) | omega) (by first | (clear h0 h1 gc_1_v1 gc_1_v0 c_1 hm12 hge12 hc12 gc_5_x_3 gc_5_v1 c_5 iz_6 iz_7 ggy_8 iy_8; omega) | omega)
          refine lv_iload hx hb dX12_choose_27 (lv_at hl 3 rfl) ?_
          refine lv_i2l hx hb dX12_choose_29 rfl ?_
          refine lv_topl (fun y_10 ey_10 => ?_)
          replace hF := q_letX hF ey_10
          have ggy_10 := q_rng x_3
          have iy_10 : y_10.toInt = x_3.toInt := by rw [ey_10]; exact (q_i2l _).trans rfl
          refine lv_ldiv hx hb dX12_choose_30 (q_ne0l (by first | (clear h0 h1 gc_1_v1 gc_1_v0 c_1 hm12 hc12 gc_5_v1 c_5 ggy_8 mb iy_9 ggy_10; omega) | omega)) ?_
          refine lv_topl (fun y_11 ey_11 => ?_)
          replace hF := q_letX hF ey_11
          have dvy_11 := m_chs (i := x_3.toInt) ey_11 iy_9 iy_10 (by first | (clear h0 h1 gc_1_v1 gc_1_v0 c_1 hm12 hc12 gc_5_x_3 gc_5_v1 c_5 iz_6 iz_7 ggy_8 iy_8 mb iy_9 ggy_10 iy_10; omega) | omega) (by first | (clear h0 h1 gc_1_v1 gc_1_v0 c_1 hm12 hc12 gc_5_v1 c_5 ggy_8 mb iy_9 ggy_10; omega) | omega) (by first | (clear h0 h1 gc_1_v1 gc_1_v0 hm12 hge12 hc12 gc_5_x_3 gc_5_v1 c_5 ggy_8 mb iy_9 ggy_10; omega) | omega) (by first | (clear h0 h1 gc_1_v1 gc_1_v0 hm12 hc12 gc_5_v1 mb iy_9 ggy_10; omega) | omega) (by first | (clear h0 h1 gc_1_v1 gc_1_v0 c_1 hm12 hge12 gc_5_x_3 gc_5_v1 ggy_8 mb iy_9 ggy_10; omega) | omega)
          refine lv_lstore_n (lv' := [(2, .long y_11), (0, .int v0), (1, .int v1), (4, .int x_3)]) hx hb dX12_choose_31 rfl hl (by decide) rfl (fun ls hl => ?_)
          obtain ⟨z_12, ez_12⟩ : ∃ y : Int32, y = x_3 + 1 := ⟨_, rfl⟩
          replace hF := q_letX hF ez_12
          refine lv_iinc (v := z_12) (lv' := [(4, .int z_12), (2, .long y_11), (0, .int v0), (1, .int v1)]) hx hb dX12_choose_32 hl (k := 3) rfl (by rw [ez_12]; rfl) (by decide) rfl (fun ls hl => ?_)
          have iz_12 : z_12.toInt = x_3.toInt + 1 := q_inc ez_12 (by first | (clear h0 h1 gc_1_v1 gc_1_v0 c_1 hm12 hc12 gc_5_v1 ggy_8 mb iy_9 ggy_10 dvy_11; omega) | omega)
          refine lv_goto (tgt := 12) hx hb dX12_choose_35 (by decide) ?_
          exact ih12 y_11 z_12 _ _ ls (by first | (clear h0 h1 gc_1_v1 gc_1_v0 c_1 gc_5_v1 ggy_8 mb iy_9 ggy_10 dvy_11; omega) | omega) (by first | (clear h0 h1 gc_1_v1 gc_1_v0 c_1 hm12 hc12 gc_5_v1 ggy_8 mb iy_9 ggy_10; omega) | omega) (by first | (clear h0 h1 gc_1_v1 gc_1_v0 c_1 hm12 gc_5_v1 ggy_8 mb iy_9 ggy_10; omega) | omega) hF hI (lv_sub hl [2, 3, 1, 0] rfl)
    have kc_13 : (1 : Int32).toInt = 1 := zt_1
    exact L_12_4 ((2147483647 - (1 : Int32).toInt).toNat + 1) 1 1 _ _ ls (Nat.lt_succ_self _) (by have q : (1 : Int32).toInt = 1 := rfl; have q2 : (1 : Int64).toInt = 1 := rfl; omega) (Or.inl (by decide)) hF hI (lv_sub hl [2, 3, 1, 0] rfl)
  · skip
    replace hF := q_ifp hF c_1
    refine lv_lconst (v := 0) hx hb dX12_choose_5 (by decide) ?_
    have hrv : (0 : Int64).toInt = 0 := rfl
    exact q_retl E hr hlk hI ⟨rfl, (by first | (clear h0 h1 gc_1_v1 gc_1_v0 c_1; omega) | omega), (by first | (clear h0 h1 gc_1_v1 gc_1_v0 hrv; omega) | omega), (hF.trans hout)⟩ dX12_choose_6

set_option maxRecDepth 100000 in
set_option maxHeartbeats 4000000 in
theorem c_J9_abs_m (l : Launch) (X : XW) (σ : ST) (v0 : Int64) : Met l yJ9_abs_067f4 (q_ws yJ9_abs_067f4 cJ9_abs_067f4 2 (some .long)) (q_rm 0 0) (q_P X σ [.long v0]) (q_Ql X 9 σ (fun (r : Int64) (σ' : ST) => σ' = σ ∧ (r.toInt = 0 → v0.toInt = 0) ∧ r = F_J9_abs_m X σ v0)) 0 0 (q_reg X) := by
  refine q_met 9 (by first | exact q_j9 (n := "abs") (d := "(J)J") (by decide) | decide +kernel) rfl (Nat.le_of_ble_eq_true rfl) (fun p e s m below meth c E hml hr hlk hI ls hl => ?_)
  have hx := E.1
  have hb := E.2.1
  have hl : lv_has ls 2 [(0, .long v0)] := hl
  obtain ⟨out, hout⟩ : ∃ o, o = F_J9_abs_m X σ v0 := ⟨_, rfl⟩
  have hF := hout.symm
  unfold F_J9_abs_m at hF
  refine lv_lload_n hx hb dJ9_abs_067f4_0 rfl (lv_at hl 0 rfl) ?_
  refine lv_lconst (v := 0) hx hb dJ9_abs_067f4_1 (by decide) ?_
  have kc_2 : (0 : Int64).toInt = 0 := rfl
  refine q_lcmpX E dJ9_abs_067f4_2 (fun z_1 ez_1 hz_1 => ?_)
  replace hF := q_letX hF ez_1
  refine q_if_ge (A := z_1.toInt) E rfl (tgt := 11) dJ9_abs_067f4_3 (by decide) (fun c_3 => ?_) (fun c_3 => ?_)
  · skip
    replace hF := q_ifn hF (Int.not_lt.mpr c_3)
    refine lv_lload_n hx hb dJ9_abs_067f4_11 rfl (lv_at hl 0 rfl) ?_
    exact q_retl E hr hlk hI ⟨rfl, (by omega), (hF.trans hout)⟩ dJ9_abs_067f4_12
  · skip
    replace hF := q_ifp hF c_3
    refine lv_lload_n hx hb dJ9_abs_067f4_6 rfl (lv_at hl 0 rfl) ?_
    refine lv_lneg hx hb dJ9_abs_067f4_7 ?_
    refine lv_topl (fun y_4 ey_4 => ?_)
    replace hF := q_letX hF ey_4
    have ngy_4 := m_neg0 ey_4
    refine lv_goto (tgt := 12) hx hb dJ9_abs_067f4_8 (by decide) ?_
    exact q_retl E hr hlk hI ⟨rfl, (by omega), (hF.trans hout)⟩ dJ9_abs_067f4_12

set_option maxRecDepth 100000 in
set_option maxHeartbeats 4000000 in
theorem c_X12_fraction (l : Launch) (X : XW) (σ : ST) (a : Nat) (v1 : Int64) (v2 : Int64) (ha : q_kd X a = 12) (h0 : v1.toInt ≠ 0 ∨ v2.toInt ≠ 0) : Met l yX12_fraction (q_ws yX12_fraction cX12_fraction 11 (some .boolean)) (q_rm 1 21) (q_P X σ [.ref a, .long v1, .long v2]) (q_Qi X 8 σ (fun (r : Int32) (σ' : ST) => (0 ≤ r.toInt ∧ r.toInt ≤ 1) ∧ (r, σ') = F_X12_fraction X σ a v1 v2 ∧ q_ow [] [(12, 2), (12, 3)] X σ σ')) 0 0 (q_reg X) := by
  refine q_met 8 (by first | exact rfl | decide +kernel) rfl (Nat.le_of_ble_eq_true rfl) (fun p e s m below meth c E hml hr hlk hI ls hl => ?_)
  have hx := E.1
  have hb := E.2.1
  have hl : lv_has ls 11 [(0, .ref a), (1, .long v1), (3, .long v2)] := hl
  have fr_σ : q_ow [] [(12, 2), (12, 3)] X σ σ := q_ow.rf
  obtain ⟨out, hout⟩ : ∃ o, o = F_X12_fraction X σ a v1 v2 := ⟨_, rfl⟩
  have hF := hout.symm
  unfold F_X12_fraction at hF
  refine lv_lload_n hx hb dX12_fraction_0 rfl (lv_at hl 1 rfl) ?_
  refine q_cl_ (q_runS (As := [.long v1]) (rest := []) E (hml.trans hl.1.symm) hI (c_J9_abs_m l X σ v1) ks_X12_68 rfl ⟨Nat.le_of_ble_eq_true rfl, Nat.le_of_ble_eq_true rfl⟩ ⟨Nat.le_refl _, Nat.le_refl _⟩ rfl (Nat.le_of_ble_eq_true rfl) dX12_fraction_1) hI (Nat.le_of_ble_eq_true rfl) (fun r_1 σ_2 H locs hpσ_2 hkσ_2 hI => ?_)
  have ahpσ_2 := hpσ_2.1
  have bhpσ_2 := hpσ_2.2.1
  have chpσ_2 := hpσ_2.2.2
  clear hpσ_2
  replace hI := q_Irw ahpσ_2 hI
  replace hF := q_letX hF chpσ_2
  refine lv_lstore (lv' := [(5, .long r_1), (0, .ref a), (1, .long v1), (3, .long v2)]) hx hb dX12_fraction_4 hl (by decide) rfl (fun ls hl => ?_)
  refine lv_lload_n hx hb dX12_fraction_6 rfl (lv_at hl 3 rfl) ?_
  refine lv_lstore (lv' := [(7, .long v2), (5, .long r_1), (0, .ref a), (1, .long v1), (3, .long v2)]) hx hb dX12_fraction_7 hl (by decide) rfl (fun ls hl => ?_)
  have L_9_5 : ∀ (k_5 : Nat) (w_3 : Int64) (w_4 : Int64) (H : Heap) (locs : List Loc) (ls : Array Slot), (w_4.toInt.natAbs) < k_5 → (w_3.toInt ≠ 0 ∨ w_4.toInt ≠ 0) → (F_X12_fraction_L9_1 X v1 σ a v2 k_5 w_3 w_4 = out) → q_I X 8 σ s.heap locs σ H → lv_has ls 11 [(0, .ref a), (1, .long v1), (3, .long v2), (5, .long w_3), (7, .long w_4)] → W p l e (q_rm 1 21) s m ([.ref a, .long v1, .long v2] : List Value).toArray below meth c H locs 0 0 (MQ below (q_Qi X 8 σ (fun (r : Int32) (σ' : ST) => (0 ≤ r.toInt ∧ r.toInt ≤ 1) ∧ (r, σ') = F_X12_fraction X σ a v1 v2 ∧ q_ow [] [(12, 2), (12, 3)] X σ σ')) ([.ref a, .long v1, .long v2] : List Value).toArray s 0 0 (q_reg X)) (F0 m 9 ls []) := by
    clear hF
    intro k_5
    induction k_5 with
    | zero =>
      intro w_3 w_4 H locs ls hms
      exact absurd hms (Nat.not_lt_zero _)
    | succ k_5 ih9 =>
      intro w_3 w_4 H locs ls hm9 hf9 hF hI hl
      replace hF := (F_X12_fraction_L9_1_s).symm.trans hF
      unfold F_X12_fraction_B9_1 at hF
      refine lv_lload hx hb dX12_fraction_9 (lv_at hl 4 rfl) ?_
      refine lv_lconst (v := 0) hx hb dX12_fraction_11 (by decide) ?_
      have kc_7 : (0 : Int64).toInt = 0 := rfl
      refine q_lcmpX E dX12_fraction_12 (fun z_6 ez_6 hz_6 => ?_)
      replace hF := q_letX hF ez_6
      refine q_if_eq (A := z_6.toInt) E rfl (tgt := 34) dX12_fraction_13 (by decide) (fun c_8 => ?_) (fun c_8 => ?_)
      · skip
        replace hF := q_ifp hF c_8
        unfold F_X12_fraction_E34_2 at hF
        refine lv_aload_n hx hb dX12_fraction_34 rfl (lv_at hl 0 rfl) ?_
        refine lv_lload_n hx hb dX12_fraction_35 rfl (lv_at hl 1 rfl) ?_
        refine lv_lload hx hb dX12_fraction_36 (lv_at hl 3 rfl) ?_
        refine lv_ldiv hx hb dX12_fraction_38 (q_ne0l (by first | (clear h0 ahpσ_2 bhpσ_2 chpσ_2 hm9; omega) | omega)) ?_
        refine lv_topl (fun y_9 ey_9 => ?_)
        replace hF := q_letX hF ey_9
        refine ps_X12_65_12 E hI ha  dX12_fraction_39 (fun H locs σ_10 hσ_10 hI => ?_)
        replace hF := q_letX hF hσ_10
        have fr_σ_10 := fr_σ.sl hσ_10 ha rfl
        refine lv_aload_n hx hb dX12_fraction_42 rfl (lv_at hl 0 rfl) ?_
        refine lv_lload_n hx hb dX12_fraction_43 rfl (lv_at hl 2 rfl) ?_
        refine lv_lload hx hb dX12_fraction_44 (lv_at hl 3 rfl) ?_
        refine lv_ldiv hx hb dX12_fraction_46 (q_ne0l (by first | (clear h0 ahpσ_2 bhpσ_2 chpσ_2 hm9; omega) | omega)) ?_
        refine lv_topl (fun y_11 ey_11 => ?_)
        replace hF := q_letX hF ey_11
        refine ps_X12_7_12 E hI ha  dX12_fraction_47 (fun H locs σ_12 hσ_12 hI => ?_)
        replace hF := q_letX hF hσ_12
        have fr_σ_12 := fr_σ_10.sl hσ_12 ha rfl
        refine lv_iconst (v := 1) hx hb dX12_fraction_50 zki_1 ?_
        have hrv : (1 : Int32).toInt = 1 := zt_1
        exact q_retz E hr hlk hI ⟨by decide, by decide⟩ ⟨⟨by decide, by decide⟩, (hF.trans hout), fr_σ_12⟩ dX12_fraction_51
      · skip
        replace hF := q_ifn hF c_8
        refine lv_lload hx hb dX12_fraction_16 (lv_at hl 3 rfl) ?_
        refine lv_lload hx hb dX12_fraction_18 (lv_at hl 4 rfl) ?_
        refine lv_lrem hx hb dX12_fraction_20 (q_ne0l (by first | (clear h0 ahpσ_2 bhpσ_2 chpσ_2 w_3 hm9 hf9; omega) | omega)) ?_
        refine lv_topl (fun y_13 ey_13 => ?_)
        replace hF := q_letX hF (ey_13.trans (q_remJ _ _))
        have rmy_13 := m_remabs ey_13 (by first | (clear h0 ahpσ_2 bhpσ_2 chpσ_2 w_3 hm9 hf9; omega) | omega)
        refine lv_lstore (lv' := [(9, .long y_13), (0, .ref a), (1, .long v1), (3, .long v2), (5, .long w_3), (7, .long w_4)]) hx hb dX12_fraction_21 hl (by decide) rfl (fun ls hl => ?_)
        refine lv_lload hx hb dX12_fraction_23 (lv_at hl 5 rfl) ?_
        refine lv_lstore (lv' := [(5, .long w_4), (9, .long y_13), (0, .ref a), (1, .long v1), (3, .long v2), (7, .long w_4)]) hx hb dX12_fraction_25 hl (by decide) rfl (fun ls hl => ?_)
        refine lv_lload hx hb dX12_fraction_27 (lv_at hl 1 rfl) ?_
        refine lv_lstore (lv' := [(7, .long y_13), (5, .long w_4), (9, .long y_13), (0, .ref a), (1, .long v1), (3, .long v2)]) hx hb dX12_fraction_29 hl (by decide) rfl (fun ls hl => ?_)
        refine lv_goto (tgt := 9) hx hb dX12_fraction_31 (by decide) ?_
        exact ih9 w_4 y_13 _ _ ls (by first | (clear h0 ahpσ_2 bhpσ_2 chpσ_2 w_3 hf9 kc_7 hz_6 c_8; omega) | omega) (by first | (clear h0 ahpσ_2 bhpσ_2 chpσ_2 w_3 hm9 hf9 rmy_13; omega) | omega) hF hI (lv_sub hl [3, 4, 5, 1, 0] rfl)
  exact L_9_5 ((v2.toInt.natAbs) + 1) r_1 v2 _ _ ls (Nat.lt_succ_self _) (by first | (clear h0 ahpσ_2 chpσ_2; omega) | omega) hF hI (lv_sub hl [2, 3, 4, 1, 0] rfl)

set_option maxRecDepth 100000 in
set_option maxHeartbeats 4000000 in
theorem c_X12_nextKind (l : Launch) (X : XW) (σ : ST) (a : Nat) (v1 : Int32) (ha : q_kd X a = 12) (hG : m_G (m_c X σ a)) : Met l yX12_nextKind (q_ws yX12_nextKind cX12_nextKind 3 (some .int)) (q_rm 0 0) (q_P X σ [.ref a, .int v1]) (q_Qi X 9 σ (fun (r : Int32) (σ' : ST) => σ' = σ ∧ (0 ≤ r.toInt ∧ r.toInt < m_c X σ a 0) ∧ r = F_X12_nextKind X σ a v1)) 0 0 (q_reg X) := by
  refine q_met 9 (by first | exact rfl | decide +kernel) rfl (Nat.le_of_ble_eq_true rfl) (fun p e s m below meth c E hml hr hlk hI ls hl => ?_)
  have hx := E.1
  have hb := E.2.1
  have hl : lv_has ls 3 [(0, .ref a), (1, .int v1)] := hl
  have hh := hG.hd
  obtain ⟨out, hout⟩ : ∃ o, o = F_X12_nextKind X σ a v1 := ⟨_, rfl⟩
  have hF := hout.symm
  unfold F_X12_nextKind at hF
  refine lv_aload_n hx hb dX12_nextKind_0 rfl (lv_at hl 0 rfl) ?_
  refine gs_X12_35_12 E hI ha dX12_nextKind_1 ?_
  refine lv_iconst (v := 0) hx hb dX12_nextKind_4 zki_0 ?_
  refine q_iald E hI (q_tk (k' := 34) hI ha rfl (Nat.succ_ne_zero _)) ⟨by decide, rfl⟩ (by decide) (by rw [q_lnk (v := 4650) hI (q_tk (k' := 34) hI ha rfl (Nat.succ_ne_zero _)) rfl (by decide)]; decide) dX12_nextKind_5 ?_
  refine lv_topi (fun f_1 ef_1 => ?_)
  replace hF := q_letX hF ef_1
  have if_1 : f_1.toInt = m_c X σ a 0 := m_rd ef_1 (by decide)
  refine lv_istore_n (lv' := [(2, .int f_1), (0, .ref a), (1, .int v1)]) hx hb dX12_nextKind_6 rfl hl (by decide) rfl (fun ls hl => ?_)
  refine lv_aload_n hx hb dX12_nextKind_7 rfl (lv_at hl 1 rfl) ?_
  refine gs_X12_35_12 E hI ha dX12_nextKind_8 ?_
  refine lv_iconst (v := 3) hx hb dX12_nextKind_11 zki_3 ?_
  refine q_iald E hI (q_tk (k' := 34) hI ha rfl (Nat.succ_ne_zero _)) ⟨by decide, rfl⟩ (by decide) (by rw [q_lnk (v := 4650) hI (q_tk (k' := 34) hI ha rfl (Nat.succ_ne_zero _)) rfl (by decide)]; decide) dX12_nextKind_12 ?_
  refine lv_topi (fun f_2 ef_2 => ?_)
  replace hF := q_letX hF ef_2
  have if_2 : f_2.toInt = m_c X σ a 3 := m_rd ef_2 (by decide)
  refine q_if_eq (A := f_2.toInt) E rfl (tgt := 30) dX12_nextKind_13 (by decide) (fun c_3 => ?_) (fun c_3 => ?_)
  · skip
    replace hF := q_ifp hF c_3
    refine lv_aload_n hx hb dX12_nextKind_30 rfl (lv_at hl 1 rfl) ?_
    refine gs_X12_35_12 E hI ha dX12_nextKind_31 ?_
    refine lv_iconst (v := 5) hx hb dX12_nextKind_34 zki_5 ?_
    refine q_iald E hI (q_tk (k' := 34) hI ha rfl (Nat.succ_ne_zero _)) ⟨by decide, rfl⟩ (by decide) (by rw [q_lnk (v := 4650) hI (q_tk (k' := 34) hI ha rfl (Nat.succ_ne_zero _)) rfl (by decide)]; decide) dX12_nextKind_35 ?_
    refine lv_topi (fun f_4 ef_4 => ?_)
    replace hF := q_letX hF ef_4
    have if_4 : f_4.toInt = m_c X σ a 5 := m_rd ef_4 (by decide)
    refine lv_iconst (v := 1) hx hb dX12_nextKind_36 zki_1 ?_
    refine lv_iadd hx hb dX12_nextKind_37 ?_
    refine lv_topi (fun z_5 ez_5 => ?_)
    replace hF := q_letX hF ez_5
    have iz_5 := q_addI (A := (m_c X σ a 5)) (B := 1) ez_5 if_4 (by decide) (by first | (clear if_1 if_2 c_3; omega) | omega) (by first | (clear if_2 c_3; omega) | omega)
    refine lv_iload_n hx hb dX12_nextKind_38 rfl (lv_at hl 0 rfl) ?_
    refine lv_irem hx hb dX12_nextKind_39 (q_ne0 (by first | (clear if_2 c_3 if_4 iz_5; omega) | omega)) ?_
    refine lv_topi (fun z_6 ez_6 => ?_)
    replace hF := q_letX hF (ez_6.trans (q_remI _ _))
    have rmz_6 := m_rem ez_6 (by first | (clear if_1 if_2 c_3; omega) | omega) (by first | (clear if_2 c_3 if_4 iz_5; omega) | omega)
    exact q_reti E hr hlk hI ⟨rfl, (by first | (clear hh if_2 c_3 if_4 iz_5; omega) | omega), (hF.trans hout)⟩ dX12_nextKind_40
  · skip
    replace hF := q_ifn hF c_3
    refine lv_aload_n hx hb dX12_nextKind_16 rfl (lv_at hl 1 rfl) ?_
    refine gs_X12_35_12 E hI ha dX12_nextKind_17 ?_
    refine lv_iconst (v := 3) hx hb dX12_nextKind_20 zki_3 ?_
    refine q_iald E hI (q_tk (k' := 34) hI ha rfl (Nat.succ_ne_zero _)) ⟨by decide, rfl⟩ (by decide) (by rw [q_lnk (v := 4650) hI (q_tk (k' := 34) hI ha rfl (Nat.succ_ne_zero _)) rfl (by decide)]; decide) dX12_nextKind_21 ?_
    refine lv_topi (fun f_7 ef_7 => ?_)
    replace hF := q_letX hF ef_7
    have if_7 : f_7.toInt = m_c X σ a 3 := m_rd ef_7 (by decide)
    refine lv_iconst (v := 1) hx hb dX12_nextKind_22 zki_1 ?_
    refine q_icmp_eq (A := f_7.toInt) (B := 1) E rfl (by decide) (tgt := 41) dX12_nextKind_23 (by decide) (fun c_8 => ?_) (fun c_8 => ?_)
    · skip
      replace hF := q_ifp hF c_8
      refine lv_aload_n hx hb dX12_nextKind_41 rfl (lv_at hl 1 rfl) ?_
      refine gs_X12_35_12 E hI ha dX12_nextKind_42 ?_
      refine lv_iconst (v := 3) hx hb dX12_nextKind_45 zki_3 ?_
      refine q_iald E hI (q_tk (k' := 34) hI ha rfl (Nat.succ_ne_zero _)) ⟨by decide, rfl⟩ (by decide) (by rw [q_lnk (v := 4650) hI (q_tk (k' := 34) hI ha rfl (Nat.succ_ne_zero _)) rfl (by decide)]; decide) dX12_nextKind_46 ?_
      refine lv_topi (fun f_9 ef_9 => ?_)
      replace hF := q_letX hF ef_9
      have if_9 : f_9.toInt = m_c X σ a 3 := m_rd ef_9 (by decide)
      refine lv_iconst (v := 1) hx hb dX12_nextKind_47 zki_1 ?_
      refine q_icmp_ne (A := f_9.toInt) (B := 1) E rfl (by decide) (tgt := 66) dX12_nextKind_48 (by decide) (fun c_10 => ?_) (fun c_10 => ?_)
      · skip
        replace hF := q_ifn hF c_10
        refine lv_aload_n hx hb dX12_nextKind_66 rfl (lv_at hl 1 rfl) ?_
        refine gs_X12_35_12 E hI ha dX12_nextKind_67 ?_
        refine lv_iconst (v := 5) hx hb dX12_nextKind_70 zki_5 ?_
        refine q_iald E hI (q_tk (k' := 34) hI ha rfl (Nat.succ_ne_zero _)) ⟨by decide, rfl⟩ (by decide) (by rw [q_lnk (v := 4650) hI (q_tk (k' := 34) hI ha rfl (Nat.succ_ne_zero _)) rfl (by decide)]; decide) dX12_nextKind_71 ?_
        refine lv_topi (fun f_11 ef_11 => ?_)
        replace hF := q_letX hF ef_11
        have if_11 : f_11.toInt = m_c X σ a 5 := m_rd ef_11 (by decide)
        exact q_reti E hr hlk hI ⟨rfl, (by first | (clear if_2 c_3 if_7 c_8 if_9 c_10; omega) | omega), (hF.trans hout)⟩ dX12_nextKind_72
      · skip
        replace hF := q_ifp hF c_10
        refine lv_aload_n hx hb dX12_nextKind_51 rfl (lv_at hl 1 rfl) ?_
        refine gs_X12_35_12 E hI ha dX12_nextKind_52 ?_
        refine lv_iconst (v := 5) hx hb dX12_nextKind_55 zki_5 ?_
        refine q_iald E hI (q_tk (k' := 34) hI ha rfl (Nat.succ_ne_zero _)) ⟨by decide, rfl⟩ (by decide) (by rw [q_lnk (v := 4650) hI (q_tk (k' := 34) hI ha rfl (Nat.succ_ne_zero _)) rfl (by decide)]; decide) dX12_nextKind_56 ?_
        refine lv_topi (fun f_12 ef_12 => ?_)
        replace hF := q_letX hF ef_12
        have if_12 : f_12.toInt = m_c X σ a 5 := m_rd ef_12 (by decide)
        refine lv_iload_n hx hb dX12_nextKind_57 rfl (lv_at hl 0 rfl) ?_
        refine lv_iadd hx hb dX12_nextKind_58 ?_
        refine lv_topi (fun z_13 ez_13 => ?_)
        replace hF := q_letX hF ez_13
        have iz_13 := q_addI (A := (m_c X σ a 5)) (B := (m_c X σ a 0)) ez_13 if_12 if_1 (by first | (clear if_2 c_3 if_7 c_8 if_9 c_10; omega) | omega) (by first | (clear if_2 c_3 if_7 c_8 if_9 c_10; omega) | omega)
        refine lv_iconst (v := 1) hx hb dX12_nextKind_59 zki_1 ?_
        refine lv_isub hx hb dX12_nextKind_60 ?_
        refine lv_topi (fun z_14 ez_14 => ?_)
        replace hF := q_letX hF ez_14
        have iz_14 := q_subI (A := ((m_c X σ a 5) + (m_c X σ a 0))) (B := 1) ez_14 iz_13 (by decide) (by first | (clear if_2 c_3 if_7 c_8 if_9 c_10; omega) | omega) (by first | (clear if_2 c_3 if_7 c_8 if_9 c_10; omega) | omega)
        refine lv_iload_n hx hb dX12_nextKind_61 rfl (lv_at hl 0 rfl) ?_
        refine lv_irem hx hb dX12_nextKind_62 (q_ne0 (by first | (clear if_2 c_3 if_7 c_8 if_9 c_10; omega) | omega)) ?_
        refine lv_topi (fun z_15 ez_15 => ?_)
        replace hF := q_letX hF (ez_15.trans (q_remI _ _))
        have rmz_15 := m_rem ez_15 (by first | (clear if_2 c_3 if_7 c_8 if_9 c_10; omega) | omega) (by first | (clear if_2 c_3 if_7 c_8 if_9 c_10; omega) | omega)
        refine lv_goto (tgt := 72) hx hb dX12_nextKind_63 (by decide) ?_
        exact q_reti E hr hlk hI ⟨rfl, (by first | (clear hh if_2 c_3 if_7 c_8 if_9 c_10; omega) | omega), (hF.trans hout)⟩ dX12_nextKind_72
    · skip
      replace hF := q_ifn hF c_8
      refine lv_iload_n hx hb dX12_nextKind_26 rfl (lv_at hl 2 rfl) ?_
      refine q_if_ne (A := v1.toInt) E rfl (tgt := 41) dX12_nextKind_27 (by decide) (fun c_16 => ?_) (fun c_16 => ?_)
      · skip
        replace hF := q_ifn hF c_16
        refine lv_aload_n hx hb dX12_nextKind_41 rfl (lv_at hl 1 rfl) ?_
        refine gs_X12_35_12 E hI ha dX12_nextKind_42 ?_
        refine lv_iconst (v := 3) hx hb dX12_nextKind_45 zki_3 ?_
        refine q_iald E hI (q_tk (k' := 34) hI ha rfl (Nat.succ_ne_zero _)) ⟨by decide, rfl⟩ (by decide) (by rw [q_lnk (v := 4650) hI (q_tk (k' := 34) hI ha rfl (Nat.succ_ne_zero _)) rfl (by decide)]; decide) dX12_nextKind_46 ?_
        refine lv_topi (fun f_17 ef_17 => ?_)
        replace hF := q_letX hF ef_17
        have if_17 : f_17.toInt = m_c X σ a 3 := m_rd ef_17 (by decide)
        refine lv_iconst (v := 1) hx hb dX12_nextKind_47 zki_1 ?_
        refine q_icmp_ne (A := f_17.toInt) (B := 1) E rfl (by decide) (tgt := 66) dX12_nextKind_48 (by decide) (fun c_18 => ?_) (fun c_18 => ?_)
        · skip
          replace hF := q_ifn hF c_18
          refine lv_aload_n hx hb dX12_nextKind_66 rfl (lv_at hl 1 rfl) ?_
          refine gs_X12_35_12 E hI ha dX12_nextKind_67 ?_
          refine lv_iconst (v := 5) hx hb dX12_nextKind_70 zki_5 ?_
          refine q_iald E hI (q_tk (k' := 34) hI ha rfl (Nat.succ_ne_zero _)) ⟨by decide, rfl⟩ (by decide) (by rw [q_lnk (v := 4650) hI (q_tk (k' := 34) hI ha rfl (Nat.succ_ne_zero _)) rfl (by decide)]; decide) dX12_nextKind_71 ?_
          refine lv_topi (fun f_19 ef_19 => ?_)
          replace hF := q_letX hF ef_19
          have if_19 : f_19.toInt = m_c X σ a 5 := m_rd ef_19 (by decide)
          exact q_reti E hr hlk hI ⟨rfl, (by first | (clear if_2 c_3 if_7 c_8 c_16 if_17 c_18; omega) | omega), (hF.trans hout)⟩ dX12_nextKind_72
        · skip
          replace hF := q_ifp hF c_18
          refine lv_aload_n hx hb dX12_nextKind_51 rfl (lv_at hl 1 rfl) ?_
          refine gs_X12_35_12 E hI ha dX12_nextKind_52 ?_
          refine lv_iconst (v := 5) hx hb dX12_nextKind_55 zki_5 ?_
          refine q_iald E hI (q_tk (k' := 34) hI ha rfl (Nat.succ_ne_zero _)) ⟨by decide, rfl⟩ (by decide) (by rw [q_lnk (v := 4650) hI (q_tk (k' := 34) hI ha rfl (Nat.succ_ne_zero _)) rfl (by decide)]; decide) dX12_nextKind_56 ?_
          refine lv_topi (fun f_20 ef_20 => ?_)
          replace hF := q_letX hF ef_20
          have if_20 : f_20.toInt = m_c X σ a 5 := m_rd ef_20 (by decide)
          refine lv_iload_n hx hb dX12_nextKind_57 rfl (lv_at hl 0 rfl) ?_
          refine lv_iadd hx hb dX12_nextKind_58 ?_
          refine lv_topi (fun z_21 ez_21 => ?_)
          replace hF := q_letX hF ez_21
          have iz_21 := q_addI (A := (m_c X σ a 5)) (B := (m_c X σ a 0)) ez_21 if_20 if_1 (by first | (clear if_2 c_3 if_7 c_8 c_16 if_17 c_18; omega) | omega) (by first | (clear if_2 c_3 if_7 c_8 c_16 if_17 c_18; omega) | omega)
          refine lv_iconst (v := 1) hx hb dX12_nextKind_59 zki_1 ?_
          refine lv_isub hx hb dX12_nextKind_60 ?_
          refine lv_topi (fun z_22 ez_22 => ?_)
          replace hF := q_letX hF ez_22
          have iz_22 := q_subI (A := ((m_c X σ a 5) + (m_c X σ a 0))) (B := 1) ez_22 iz_21 (by decide) (by first | (clear if_2 c_3 if_7 c_8 c_16 if_17 c_18; omega) | omega) (by first | (clear if_2 c_3 if_7 c_8 c_16 if_17 c_18; omega) | omega)
          refine lv_iload_n hx hb dX12_nextKind_61 rfl (lv_at hl 0 rfl) ?_
          refine lv_irem hx hb dX12_nextKind_62 (q_ne0 (by first | (clear if_2 c_3 if_7 c_8 c_16 if_17 c_18; omega) | omega)) ?_
          refine lv_topi (fun z_23 ez_23 => ?_)
          replace hF := q_letX hF (ez_23.trans (q_remI _ _))
          have rmz_23 := m_rem ez_23 (by first | (clear if_2 c_3 if_7 c_8 c_16 if_17 c_18; omega) | omega) (by first | (clear if_2 c_3 if_7 c_8 c_16 if_17 c_18; omega) | omega)
          refine lv_goto (tgt := 72) hx hb dX12_nextKind_63 (by decide) ?_
          exact q_reti E hr hlk hI ⟨rfl, (by first | (clear hh if_2 c_3 if_7 c_8 c_16 if_17 c_18; omega) | omega), (hF.trans hout)⟩ dX12_nextKind_72
      · skip
        replace hF := q_ifp hF c_16
        refine lv_aload_n hx hb dX12_nextKind_30 rfl (lv_at hl 1 rfl) ?_
        refine gs_X12_35_12 E hI ha dX12_nextKind_31 ?_
        refine lv_iconst (v := 5) hx hb dX12_nextKind_34 zki_5 ?_
        refine q_iald E hI (q_tk (k' := 34) hI ha rfl (Nat.succ_ne_zero _)) ⟨by decide, rfl⟩ (by decide) (by rw [q_lnk (v := 4650) hI (q_tk (k' := 34) hI ha rfl (Nat.succ_ne_zero _)) rfl (by decide)]; decide) dX12_nextKind_35 ?_
        refine lv_topi (fun f_24 ef_24 => ?_)
        replace hF := q_letX hF ef_24
        have if_24 : f_24.toInt = m_c X σ a 5 := m_rd ef_24 (by decide)
        refine lv_iconst (v := 1) hx hb dX12_nextKind_36 zki_1 ?_
        refine lv_iadd hx hb dX12_nextKind_37 ?_
        refine lv_topi (fun z_25 ez_25 => ?_)
        replace hF := q_letX hF ez_25
        have iz_25 := q_addI (A := (m_c X σ a 5)) (B := 1) ez_25 if_24 (by decide) (by first | (clear if_1 if_2 c_3 if_7 c_8 c_16; omega) | omega) (by first | (clear if_2 c_3 if_7 c_8 c_16; omega) | omega)
        refine lv_iload_n hx hb dX12_nextKind_38 rfl (lv_at hl 0 rfl) ?_
        refine lv_irem hx hb dX12_nextKind_39 (q_ne0 (by first | (clear if_2 c_3 if_7 c_8 c_16 if_24 iz_25; omega) | omega)) ?_
        refine lv_topi (fun z_26 ez_26 => ?_)
        replace hF := q_letX hF (ez_26.trans (q_remI _ _))
        have rmz_26 := m_rem ez_26 (by first | (clear if_1 if_2 c_3 if_7 c_8 c_16; omega) | omega) (by first | (clear if_2 c_3 if_7 c_8 c_16 if_24 iz_25; omega) | omega)
        exact q_reti E hr hlk hI ⟨rfl, (by first | (clear hh if_2 c_3 if_7 c_8 c_16 if_24 iz_25; omega) | omega), (hF.trans hout)⟩ dX12_nextKind_40

set_option maxRecDepth 100000 in
set_option maxHeartbeats 4000000 in
theorem c_X12_behindOf (l : Launch) (X : XW) (σ : ST) (a : Nat) (v1 : Int32) (ha : q_kd X a = 12) (hG : m_G (m_c X σ a)) (h0 : 0 ≤ v1.toInt ∧ v1.toInt < m_c X σ a 2) : Met l yX12_behindOf (q_ws yX12_behindOf cX12_behindOf 2 (some .int)) (q_rm 0 0) (q_P X σ [.ref a, .int v1]) (q_Qi X 9 σ (fun (r : Int32) (σ' : ST) => σ' = σ ∧ (0 ≤ r.toInt ∧ r.toInt < m_c X σ a 2) ∧ ((v1.toInt + 1 < m_c X σ a 2 → r.toInt = v1.toInt + 1) ∧ (v1.toInt + 1 = m_c X σ a 2 → r.toInt = 0)) ∧ r = F_X12_behindOf X σ a v1)) 0 0 (q_reg X) := by
  refine q_met 9 (by first | exact rfl | decide +kernel) rfl (Nat.le_of_ble_eq_true rfl) (fun p e s m below meth c E hml hr hlk hI ls hl => ?_)
  have hx := E.1
  have hb := E.2.1
  have hl : lv_has ls 2 [(0, .ref a), (1, .int v1)] := hl
  have hh := hG.hd
  obtain ⟨out, hout⟩ : ∃ o, o = F_X12_behindOf X σ a v1 := ⟨_, rfl⟩
  have hF := hout.symm
  unfold F_X12_behindOf at hF
  refine lv_iload_n hx hb dX12_behindOf_0 rfl (lv_at hl 1 rfl) ?_
  refine lv_iconst (v := 1) hx hb dX12_behindOf_1 zki_1 ?_
  refine lv_iadd hx hb dX12_behindOf_2 ?_
  refine lv_topi (fun z_1 ez_1 => ?_)
  replace hF := q_letX hF ez_1
  have iz_1 := q_addI (A := v1.toInt) (B := 1) ez_1 rfl (by decide) (by first | (clear h0 hh; omega) | omega) (by first | (clear h0; omega) | omega)
  refine lv_aload_n hx hb dX12_behindOf_3 rfl (lv_at hl 0 rfl) ?_
  refine gs_X12_35_12 E hI ha dX12_behindOf_4 ?_
  refine lv_iconst (v := 2) hx hb dX12_behindOf_7 zki_2 ?_
  refine q_iald E hI (q_tk (k' := 34) hI ha rfl (Nat.succ_ne_zero _)) ⟨by decide, rfl⟩ (by decide) (by rw [q_lnk (v := 4650) hI (q_tk (k' := 34) hI ha rfl (Nat.succ_ne_zero _)) rfl (by decide)]; decide) dX12_behindOf_8 ?_
  refine lv_topi (fun f_2 ef_2 => ?_)
  replace hF := q_letX hF ef_2
  have if_2 : f_2.toInt = m_c X σ a 2 := m_rd ef_2 (by decide)
  refine lv_irem hx hb dX12_behindOf_9 (q_ne0 (by first | (clear h0 hh; omega) | omega)) ?_
  refine lv_topi (fun z_3 ez_3 => ?_)
  replace hF := q_letX hF (ez_3.trans (q_remI _ _))
  have rmz_3 := m_rem ez_3 (by first | (clear h0 hh if_2; omega) | omega) (by first | (clear h0; omega) | omega)
  exact q_reti E hr hlk hI ⟨rfl, (by first | (clear h0 hh iz_1; omega) | omega), (by first | (clear h0 hh; omega) | omega), (hF.trans hout)⟩ dX12_behindOf_10

set_option maxRecDepth 100000 in
set_option maxHeartbeats 4000000 in
theorem c_X12_waitsOf (l : Launch) (X : XW) (σ : ST) (a : Nat) (v1 : Int32) (ha : q_kd X a = 12) (hG : m_G (m_c X σ a)) (h0 : 0 ≤ v1.toInt ∧ v1.toInt < m_c X σ a 2) : Met l yX12_waitsOf (q_ws yX12_waitsOf cX12_waitsOf 3 (some .int)) (q_rm 1 21) (q_P X σ [.ref a, .int v1]) (q_Qi X 9 σ (fun (r : Int32) (σ' : ST) => σ' = σ ∧ (0 ≤ r.toInt ∧ r.toInt < m_c X σ a 2) ∧ r = F_X12_waitsOf X σ a v1)) 0 0 (q_reg X) := by
  refine q_met 9 (by first | exact rfl | decide +kernel) rfl (Nat.le_of_ble_eq_true rfl) (fun p e s m below meth c E hml hr hlk hI ls hl => ?_)
  have hx := E.1
  have hb := E.2.1
  have hl : lv_has ls 3 [(0, .ref a), (1, .int v1)] := hl
  have hh := hG.hd
  obtain ⟨out, hout⟩ : ∃ o, o = F_X12_waitsOf X σ a v1 := ⟨_, rfl⟩
  have hF := hout.symm
  unfold F_X12_waitsOf at hF
  refine lv_aload_n hx hb dX12_waitsOf_0 rfl (lv_at hl 0 rfl) ?_
  refine gs_X12_35_12 E hI ha dX12_waitsOf_1 ?_
  refine lv_bipush (v := 7) hx hb dX12_waitsOf_4 zkb_7 ?_
  refine q_iald E hI (q_tk (k' := 34) hI ha rfl (Nat.succ_ne_zero _)) ⟨by decide, rfl⟩ (by decide) (by rw [q_lnk (v := 4650) hI (q_tk (k' := 34) hI ha rfl (Nat.succ_ne_zero _)) rfl (by decide)]; decide) dX12_waitsOf_6 ?_
  refine lv_topi (fun f_1 ef_1 => ?_)
  replace hF := q_letX hF ef_1
  have if_1 : f_1.toInt = m_c X σ a 7 := m_rd ef_1 (by decide)
  refine lv_iconst (v := 1) hx hb dX12_waitsOf_7 zki_1 ?_
  refine q_icmp_ne (A := f_1.toInt) (B := 1) E rfl (by decide) (tgt := 25) dX12_waitsOf_8 (by decide) (fun c_2 => ?_) (fun c_2 => ?_)
  · skip
    replace hF := q_ifn hF c_2
    refine lv_aload_n hx hb dX12_waitsOf_25 rfl (lv_at hl 0 rfl) ?_
    refine gs_X12_35_12 E hI ha dX12_waitsOf_26 ?_
    refine lv_bipush (v := 6) hx hb dX12_waitsOf_29 zkb_6 ?_
    refine q_iald E hI (q_tk (k' := 34) hI ha rfl (Nat.succ_ne_zero _)) ⟨by decide, rfl⟩ (by decide) (by rw [q_lnk (v := 4650) hI (q_tk (k' := 34) hI ha rfl (Nat.succ_ne_zero _)) rfl (by decide)]; decide) dX12_waitsOf_31 ?_
    refine lv_topi (fun f_3 ef_3 => ?_)
    replace hF := q_letX hF ef_3
    have if_3 : f_3.toInt = m_c X σ a 6 := m_rd ef_3 (by decide)
    refine lv_istore_n (lv' := [(2, .int f_3), (0, .ref a), (1, .int v1)]) hx hb dX12_waitsOf_32 rfl hl (by decide) rfl (fun ls hl => ?_)
    refine lv_iload_n hx hb dX12_waitsOf_33 rfl (lv_at hl 2 rfl) ?_
    refine lv_iload_n hx hb dX12_waitsOf_34 rfl (lv_at hl 0 rfl) ?_
    refine lv_isub hx hb dX12_waitsOf_35 ?_
    refine lv_topi (fun z_4 ez_4 => ?_)
    replace hF := q_letX hF ez_4
    have iz_4 := q_subI (A := v1.toInt) (B := (m_c X σ a 6)) ez_4 rfl if_3 (by first | (clear h0 if_1 c_2; omega) | omega) (by first | (clear h0 if_1 c_2; omega) | omega)
    refine lv_aload_n hx hb dX12_waitsOf_36 rfl (lv_at hl 1 rfl) ?_
    refine gs_X12_35_12 E hI ha dX12_waitsOf_37 ?_
    refine lv_iconst (v := 2) hx hb dX12_waitsOf_40 zki_2 ?_
    refine q_iald E hI (q_tk (k' := 34) hI ha rfl (Nat.succ_ne_zero _)) ⟨by decide, rfl⟩ (by decide) (by rw [q_lnk (v := 4650) hI (q_tk (k' := 34) hI ha rfl (Nat.succ_ne_zero _)) rfl (by decide)]; decide) dX12_waitsOf_41 ?_
    refine lv_topi (fun f_5 ef_5 => ?_)
    replace hF := q_letX hF ef_5
    have if_5 : f_5.toInt = m_c X σ a 2 := m_rd ef_5 (by decide)
    refine lv_iadd hx hb dX12_waitsOf_42 ?_
    refine lv_topi (fun z_6 ez_6 => ?_)
    replace hF := q_letX hF ez_6
    have iz_6 := q_addI (A := (v1.toInt - (m_c X σ a 6))) (B := (m_c X σ a 2)) ez_6 iz_4 if_5 (by first | (clear h0 if_1 c_2; omega) | omega) (by first | (clear h0 if_1 c_2; omega) | omega)
    refine lv_aload_n hx hb dX12_waitsOf_43 rfl (lv_at hl 1 rfl) ?_
    refine gs_X12_35_12 E hI ha dX12_waitsOf_44 ?_
    refine lv_iconst (v := 2) hx hb dX12_waitsOf_47 zki_2 ?_
    refine q_iald E hI (q_tk (k' := 34) hI ha rfl (Nat.succ_ne_zero _)) ⟨by decide, rfl⟩ (by decide) (by rw [q_lnk (v := 4650) hI (q_tk (k' := 34) hI ha rfl (Nat.succ_ne_zero _)) rfl (by decide)]; decide) dX12_waitsOf_48 ?_
    refine lv_topi (fun f_7 ef_7 => ?_)
    replace hF := q_letX hF ef_7
    have if_7 : f_7.toInt = m_c X σ a 2 := m_rd ef_7 (by decide)
    refine lv_irem hx hb dX12_waitsOf_49 (q_ne0 (by first | (clear h0 hh if_1 c_2; omega) | omega)) ?_
    refine lv_topi (fun z_8 ez_8 => ?_)
    replace hF := q_letX hF (ez_8.trans (q_remI _ _))
    have rmz_8 := m_rem ez_8 (by first | (clear h0 if_1 c_2; omega) | omega) (by first | (clear h0 if_1 c_2; omega) | omega)
    exact q_reti E hr hlk hI ⟨rfl, (by first | (clear h0 hh if_1 c_2 if_3 iz_4 iz_6; omega) | omega), (hF.trans hout)⟩ dX12_waitsOf_50
  · skip
    replace hF := q_ifp hF c_2
    refine lv_aload_n hx hb dX12_waitsOf_11 rfl (lv_at hl 0 rfl) ?_
    refine lv_aload_n hx hb dX12_waitsOf_12 rfl (lv_at hl 0 rfl) ?_
    refine gs_X12_35_12 E hI ha dX12_waitsOf_13 ?_
    refine lv_bipush (v := 6) hx hb dX12_waitsOf_16 zkb_6 ?_
    refine q_iald E hI (q_tk (k' := 34) hI ha rfl (Nat.succ_ne_zero _)) ⟨by decide, rfl⟩ (by decide) (by rw [q_lnk (v := 4650) hI (q_tk (k' := 34) hI ha rfl (Nat.succ_ne_zero _)) rfl (by decide)]; decide) dX12_waitsOf_18 ?_
    refine lv_topi (fun f_9 ef_9 => ?_)
    replace hF := q_letX hF ef_9
    have if_9 : f_9.toInt = m_c X σ a 6 := m_rd ef_9 (by decide)
    refine q_ci (q_rV11_1 (rest := []) E (hml.trans hl.1.symm) hI (c_X12_behindOf l X σ a f_9 ha hG (by first | (clear h0; omega) | omega)) kv_X12_319 ha ⟨Nat.le_of_ble_eq_true rfl, Nat.le_of_ble_eq_true rfl⟩ (Nat.le_of_ble_eq_true rfl) dX12_waitsOf_19) hI (Nat.le_of_ble_eq_true rfl) (fun r_10 σ_11 H locs hpσ_11 hkσ_11 hI => ?_)
    have ahpσ_11 := hpσ_11.1
    have bhpσ_11 := hpσ_11.2.1
    have chpσ_11 := hpσ_11.2.2.1
    have dhpσ_11 := hpσ_11.2.2.2
    clear hpσ_11
    replace hI := q_Irw ahpσ_11 hI
    replace hF := q_letX hF dhpσ_11
    refine lv_goto (tgt := 32) hx hb dX12_waitsOf_22 (by decide) ?_
    refine lv_istore_n (lv' := [(2, .int r_10), (0, .ref a), (1, .int v1)]) hx hb dX12_waitsOf_32 rfl hl (by decide) rfl (fun ls hl => ?_)
    refine lv_iload_n hx hb dX12_waitsOf_33 rfl (lv_at hl 2 rfl) ?_
    refine lv_iload_n hx hb dX12_waitsOf_34 rfl (lv_at hl 0 rfl) ?_
    refine lv_isub hx hb dX12_waitsOf_35 ?_
    refine lv_topi (fun z_12 ez_12 => ?_)
    replace hF := q_letX hF ez_12
    have iz_12 := q_subI (A := v1.toInt) (B := r_10.toInt) ez_12 rfl rfl (by first | (clear h0 if_1 c_2 if_9 ahpσ_11 chpσ_11 dhpσ_11; omega) | omega) (by first | (clear h0 if_1 c_2 if_9 ahpσ_11 chpσ_11 dhpσ_11; omega) | omega)
    refine lv_aload_n hx hb dX12_waitsOf_36 rfl (lv_at hl 1 rfl) ?_
    refine gs_X12_35_12 E hI ha dX12_waitsOf_37 ?_
    refine lv_iconst (v := 2) hx hb dX12_waitsOf_40 zki_2 ?_
    refine q_iald E hI (q_tk (k' := 34) hI ha rfl (Nat.succ_ne_zero _)) ⟨by decide, rfl⟩ (by decide) (by rw [q_lnk (v := 4650) hI (q_tk (k' := 34) hI ha rfl (Nat.succ_ne_zero _)) rfl (by decide)]; decide) dX12_waitsOf_41 ?_
    refine lv_topi (fun f_13 ef_13 => ?_)
    replace hF := q_letX hF ef_13
    have if_13 : f_13.toInt = m_c X σ a 2 := m_rd ef_13 (by decide)
    refine lv_iadd hx hb dX12_waitsOf_42 ?_
    refine lv_topi (fun z_14 ez_14 => ?_)
    replace hF := q_letX hF ez_14
    have iz_14 := q_addI (A := (v1.toInt - r_10.toInt)) (B := (m_c X σ a 2)) ez_14 iz_12 if_13 (by first | (clear h0 hh if_1 c_2 if_9 ahpσ_11 chpσ_11 dhpσ_11; omega) | omega) (by first | (clear h0 ahpσ_11 chpσ_11 dhpσ_11; omega) | omega)
    refine lv_aload_n hx hb dX12_waitsOf_43 rfl (lv_at hl 1 rfl) ?_
    refine gs_X12_35_12 E hI ha dX12_waitsOf_44 ?_
    refine lv_iconst (v := 2) hx hb dX12_waitsOf_47 zki_2 ?_
    refine q_iald E hI (q_tk (k' := 34) hI ha rfl (Nat.succ_ne_zero _)) ⟨by decide, rfl⟩ (by decide) (by rw [q_lnk (v := 4650) hI (q_tk (k' := 34) hI ha rfl (Nat.succ_ne_zero _)) rfl (by decide)]; decide) dX12_waitsOf_48 ?_
    refine lv_topi (fun f_15 ef_15 => ?_)
    replace hF := q_letX hF ef_15
    have if_15 : f_15.toInt = m_c X σ a 2 := m_rd ef_15 (by decide)
    refine lv_irem hx hb dX12_waitsOf_49 (q_ne0 (by first | (clear h0 hh if_1 c_2 if_9 ahpσ_11 bhpσ_11 chpσ_11 dhpσ_11; omega) | omega)) ?_
    refine lv_topi (fun z_16 ez_16 => ?_)
    replace hF := q_letX hF (ez_16.trans (q_remI _ _))
    have rmz_16 := m_rem ez_16 (by first | (clear h0 hh if_1 c_2 if_9 ahpσ_11 chpσ_11 dhpσ_11; omega) | omega) (by first | (clear h0 if_1 c_2 if_9 ahpσ_11 bhpσ_11 chpσ_11 dhpσ_11; omega) | omega)
    exact q_reti E hr hlk hI ⟨rfl, (by first | (clear h0 hh if_1 c_2 if_9 ahpσ_11 bhpσ_11 chpσ_11 dhpσ_11 iz_12 iz_14; omega) | omega), (hF.trans hout)⟩ dX12_waitsOf_50

set_option maxRecDepth 100000 in
set_option maxHeartbeats 4000000 in
theorem c_X12_fallsTo (l : Launch) (X : XW) (σ : ST) (a : Nat) (v1 : Int32) (v2 : Int32) (ha : q_kd X a = 12) (hG : m_G (m_c X σ a)) (h0 : 0 ≤ v1.toInt ∧ v1.toInt < m_c X σ a 2) (h1 : 0 ≤ v2.toInt ∧ v2.toInt ≤ 60) : Met l yX12_fallsTo (q_ws yX12_fallsTo cX12_fallsTo 5 (some .int)) (q_rm 2 43) (q_P X σ [.ref a, .int v1, .int v2]) (q_Qi X 9 σ (fun (r : Int32) (σ' : ST) => σ' = σ ∧ (0 ≤ r.toInt ∧ r.toInt < m_c X σ a 0) ∧ r = F_X12_fallsTo X σ a v1 v2)) 0 0 (q_reg X) := by
  refine q_met 9 (by first | exact rfl | decide +kernel) rfl (Nat.le_of_ble_eq_true rfl) (fun p e s m below meth c E hml hr hlk hI ls hl => ?_)
  have hx := E.1
  have hb := E.2.1
  have hl : lv_has ls 5 [(0, .ref a), (1, .int v1), (2, .int v2)] := hl
  have hh := hG.hd
  obtain ⟨out, hout⟩ : ∃ o, o = F_X12_fallsTo X σ a v1 v2 := ⟨_, rfl⟩
  have hF := hout.symm
  unfold F_X12_fallsTo at hF
  refine lv_aload_n hx hb dX12_fallsTo_0 rfl (lv_at hl 0 rfl) ?_
  refine gs_X12_35_12 E hI ha dX12_fallsTo_1 ?_
  refine lv_bipush (v := 7) hx hb dX12_fallsTo_4 zkb_7 ?_
  refine q_iald E hI (q_tk (k' := 34) hI ha rfl (Nat.succ_ne_zero _)) ⟨by decide, rfl⟩ (by decide) (by rw [q_lnk (v := 4650) hI (q_tk (k' := 34) hI ha rfl (Nat.succ_ne_zero _)) rfl (by decide)]; decide) dX12_fallsTo_6 ?_
  refine lv_topi (fun f_1 ef_1 => ?_)
  replace hF := q_letX hF ef_1
  have if_1 : f_1.toInt = m_c X σ a 7 := m_rd ef_1 (by decide)
  refine lv_iconst (v := 1) hx hb dX12_fallsTo_7 zki_1 ?_
  have J_25_2 : ∀ (x_2 : Int32) (H : Heap) (locs : List Loc) (ls : Array Slot), (0 ≤ x_2.toInt ∧ x_2.toInt < m_c X σ a 0) → (F_X12_fallsTo_J25_1 X σ a v1 v2 x_2 = out) → q_I X 9 σ s.heap locs σ H → lv_has ls 5 [(0, .ref a), (1, .int v1), (2, .int v2)] → W p l e (q_rm 2 43) s m ([.ref a, .int v1, .int v2] : List Value).toArray below meth c H locs 0 0 (MQ below (q_Qi X 9 σ (fun (r : Int32) (σ' : ST) => σ' = σ ∧ (0 ≤ r.toInt ∧ r.toInt < m_c X σ a 0) ∧ r = F_X12_fallsTo X σ a v1 v2)) ([.ref a, .int v1, .int v2] : List Value).toArray s 0 0 (q_reg X)) (F0 m 25 ls [.int x_2]) := by
    clear hF
    intro x_2 H locs ls j25 hF hI hl
    unfold F_X12_fallsTo_J25_1 at hF
    refine lv_istore_n (lv' := [(3, .int x_2), (0, .ref a), (1, .int v1), (2, .int v2)]) hx hb dX12_fallsTo_25 rfl hl (by decide) rfl (fun ls hl => ?_)
    refine lv_aload_n hx hb dX12_fallsTo_26 rfl (lv_at hl 1 rfl) ?_
    refine lv_iload_n hx hb dX12_fallsTo_27 rfl (lv_at hl 2 rfl) ?_
    refine q_ci (q_rV11_1 (rest := []) E (hml.trans hl.1.symm) hI (c_X12_waitsOf l X σ a v1 ha hG (by omega)) kv_X12_367 ha ⟨Nat.le_of_ble_eq_true rfl, Nat.le_of_ble_eq_true rfl⟩ (Nat.le_of_ble_eq_true rfl) dX12_fallsTo_28) hI (Nat.le_of_ble_eq_true rfl) (fun r_3 σ_4 H locs hpσ_4 hkσ_4 hI => ?_)
    have ahpσ_4 := hpσ_4.1
    have bhpσ_4 := hpσ_4.2.1
    have chpσ_4 := hpσ_4.2.2
    clear hpσ_4
    replace hI := q_Irw ahpσ_4 hI
    replace hF := q_letX hF chpσ_4
    refine lv_iload_n hx hb dX12_fallsTo_31 rfl (lv_at hl 3 rfl) ?_
    refine lv_aload_n hx hb dX12_fallsTo_32 rfl (lv_at hl 1 rfl) ?_
    refine gs_X12_35_12 E hI ha dX12_fallsTo_33 ?_
    refine lv_iconst (v := 2) hx hb dX12_fallsTo_36 zki_2 ?_
    refine q_iald E hI (q_tk (k' := 34) hI ha rfl (Nat.succ_ne_zero _)) ⟨by decide, rfl⟩ (by decide) (by rw [q_lnk (v := 4650) hI (q_tk (k' := 34) hI ha rfl (Nat.succ_ne_zero _)) rfl (by decide)]; decide) dX12_fallsTo_37 ?_
    refine lv_topi (fun f_5 ef_5 => ?_)
    replace hF := q_letX hF ef_5
    have if_5 : f_5.toInt = m_c X σ a 2 := m_rd ef_5 (by decide)
    have mb := m_mulI (a := v2.toInt) (A := 60) (b := (m_c X σ a 2)) (B := 6) (by first | (clear h0 h1 hh if_1 j25 ahpσ_4 bhpσ_4 chpσ_4 if_5; omega) | omega) (by first | (clear h0 h1 hh if_1 j25 ahpσ_4 bhpσ_4 chpσ_4 if_5; omega) | omega) (by first | (clear h0 h1 if_1 j25 ahpσ_4 bhpσ_4 chpσ_4; omega) | omega) (by first | (clear h0 h1 if_1 j25 ahpσ_4 bhpσ_4 chpσ_4; omega) | omega)
    refine lv_imul hx hb dX12_fallsTo_38 ?_
    refine lv_topi (fun z_6 ez_6 => ?_)
    replace hF := q_letX hF ez_6
    have iz_6 := q_mulI (A := v2.toInt) (B := (m_c X σ a 2)) ez_6 rfl if_5 (by first | (clear h0 h1 hh if_1 j25 ahpσ_4 bhpσ_4 chpσ_4 if_5; omega) | omega) (by first | (clear h0 h1 hh if_1 j25 ahpσ_4 bhpσ_4 chpσ_4 if_5; omega) | omega)
    refine lv_iadd hx hb dX12_fallsTo_39 ?_
    refine lv_topi (fun z_7 ez_7 => ?_)
    replace hF := q_letX hF ez_7
    have iz_7 := q_addI (A := r_3.toInt) (B := (v2.toInt * (m_c X σ a 2))) ez_7 rfl iz_6 (by first | (clear h0 h1 hh if_1 j25 ahpσ_4 chpσ_4 if_5; omega) | omega) (by first | (clear h0 h1 if_1 j25 ahpσ_4 chpσ_4; omega) | omega)
    refine lv_aload_n hx hb dX12_fallsTo_40 rfl (lv_at hl 1 rfl) ?_
    refine gs_X12_35_12 E hI ha dX12_fallsTo_41 ?_
    refine lv_iconst (v := 0) hx hb dX12_fallsTo_44 zki_0 ?_
    refine q_iald E hI (q_tk (k' := 34) hI ha rfl (Nat.succ_ne_zero _)) ⟨by decide, rfl⟩ (by decide) (by rw [q_lnk (v := 4650) hI (q_tk (k' := 34) hI ha rfl (Nat.succ_ne_zero _)) rfl (by decide)]; decide) dX12_fallsTo_45 ?_
    refine lv_topi (fun f_8 ef_8 => ?_)
    replace hF := q_letX hF ef_8
    have if_8 : f_8.toInt = m_c X σ a 0 := m_rd ef_8 (by decide)
    refine lv_irem hx hb dX12_fallsTo_46 (q_ne0 (by first | (clear h0 h1 if_1 j25 ahpσ_4 bhpσ_4 chpσ_4 if_5 mb iz_6 iz_7; omega) | omega)) ?_
    refine lv_topi (fun z_9 ez_9 => ?_)
    replace hF := q_letX hF (ez_9.trans (q_remI _ _))
    have rmz_9 := m_rem ez_9 (by first | (clear h0 h1 hh if_1 j25 ahpσ_4 chpσ_4 if_5 if_8; omega) | omega) (by first | (clear h0 h1 if_1 j25 ahpσ_4 bhpσ_4 chpσ_4 if_5 mb iz_6 iz_7; omega) | omega)
    refine lv_istore (lv' := [(4, .int z_9), (3, .int x_2), (0, .ref a), (1, .int v1), (2, .int v2)]) hx hb dX12_fallsTo_47 hl (by decide) rfl (fun ls hl => ?_)
    refine lv_aload_n hx hb dX12_fallsTo_49 rfl (lv_at hl 2 rfl) ?_
    refine gs_X12_35_12 E hI ha dX12_fallsTo_50 ?_
    refine lv_iconst (v := 3) hx hb dX12_fallsTo_53 zki_3 ?_
    refine q_iald E hI (q_tk (k' := 34) hI ha rfl (Nat.succ_ne_zero _)) ⟨by decide, rfl⟩ (by decide) (by rw [q_lnk (v := 4650) hI (q_tk (k' := 34) hI ha rfl (Nat.succ_ne_zero _)) rfl (by decide)]; decide) dX12_fallsTo_54 ?_
    refine lv_topi (fun f_10 ef_10 => ?_)
    replace hF := q_letX hF ef_10
    have if_10 : f_10.toInt = m_c X σ a 3 := m_rd ef_10 (by decide)
    refine q_if_ne (A := f_10.toInt) E rfl (tgt := 72) dX12_fallsTo_55 (by decide) (fun c_11 => ?_) (fun c_11 => ?_)
    · skip
      replace hF := q_ifn hF c_11
      refine lv_aload_n hx hb dX12_fallsTo_72 rfl (lv_at hl 2 rfl) ?_
      refine gs_X12_35_12 E hI ha dX12_fallsTo_73 ?_
      refine lv_iconst (v := 3) hx hb dX12_fallsTo_76 zki_3 ?_
      refine q_iald E hI (q_tk (k' := 34) hI ha rfl (Nat.succ_ne_zero _)) ⟨by decide, rfl⟩ (by decide) (by rw [q_lnk (v := 4650) hI (q_tk (k' := 34) hI ha rfl (Nat.succ_ne_zero _)) rfl (by decide)]; decide) dX12_fallsTo_77 ?_
      refine lv_topi (fun f_12 ef_12 => ?_)
      replace hF := q_letX hF ef_12
      have if_12 : f_12.toInt = m_c X σ a 3 := m_rd ef_12 (by decide)
      refine lv_iconst (v := 1) hx hb dX12_fallsTo_78 zki_1 ?_
      refine q_icmp_ne (A := f_12.toInt) (B := 1) E rfl (by decide) (tgt := 103) dX12_fallsTo_79 (by decide) (fun c_13 => ?_) (fun c_13 => ?_)
      · skip
        replace hF := q_ifn hF c_13
        refine lv_iload_n hx hb dX12_fallsTo_103 rfl (lv_at hl 1 rfl) ?_
        exact q_reti E hr hlk hI ⟨rfl, (by omega), (hF.trans hout)⟩ dX12_fallsTo_104
      · skip
        replace hF := q_ifp hF c_13
        refine lv_iload_n hx hb dX12_fallsTo_82 rfl (lv_at hl 1 rfl) ?_
        refine lv_aload_n hx hb dX12_fallsTo_83 rfl (lv_at hl 2 rfl) ?_
        refine gs_X12_35_12 E hI ha dX12_fallsTo_84 ?_
        refine lv_iconst (v := 0) hx hb dX12_fallsTo_87 zki_0 ?_
        refine q_iald E hI (q_tk (k' := 34) hI ha rfl (Nat.succ_ne_zero _)) ⟨by decide, rfl⟩ (by decide) (by rw [q_lnk (v := 4650) hI (q_tk (k' := 34) hI ha rfl (Nat.succ_ne_zero _)) rfl (by decide)]; decide) dX12_fallsTo_88 ?_
        refine lv_topi (fun f_14 ef_14 => ?_)
        replace hF := q_letX hF ef_14
        have if_14 : f_14.toInt = m_c X σ a 0 := m_rd ef_14 (by decide)
        refine lv_iadd hx hb dX12_fallsTo_89 ?_
        refine lv_topi (fun z_15 ez_15 => ?_)
        replace hF := q_letX hF ez_15
        have iz_15 := q_addI (A := x_2.toInt) (B := (m_c X σ a 0)) ez_15 rfl if_14 (by first | (clear h0 h1 if_1 ahpσ_4 bhpσ_4 chpσ_4 if_5 mb iz_6 iz_7 rmz_9 if_10 c_11 if_12 c_13; omega) | omega) (by first | (clear h0 h1 if_1 ahpσ_4 bhpσ_4 chpσ_4 if_5 mb iz_6 iz_7 rmz_9 if_10 c_11 if_12 c_13; omega) | omega)
        refine lv_iload hx hb dX12_fallsTo_90 (lv_at hl 0 rfl) ?_
        refine lv_isub hx hb dX12_fallsTo_92 ?_
        refine lv_topi (fun z_16 ez_16 => ?_)
        replace hF := q_letX hF ez_16
        have iz_16 := q_subI (A := (x_2.toInt + (m_c X σ a 0))) (B := z_9.toInt) ez_16 iz_15 rfl (by first | (clear h0 h1 hh if_1 ahpσ_4 bhpσ_4 chpσ_4 if_5 mb iz_6 iz_7 if_10 c_11 if_12 c_13; omega) | omega) (by first | (clear h0 h1 if_1 ahpσ_4 bhpσ_4 chpσ_4 if_5 mb iz_6 iz_7 if_10 c_11 if_12 c_13; omega) | omega)
        refine lv_aload_n hx hb dX12_fallsTo_93 rfl (lv_at hl 2 rfl) ?_
        refine gs_X12_35_12 E hI ha dX12_fallsTo_94 ?_
        refine lv_iconst (v := 0) hx hb dX12_fallsTo_97 zki_0 ?_
        refine q_iald E hI (q_tk (k' := 34) hI ha rfl (Nat.succ_ne_zero _)) ⟨by decide, rfl⟩ (by decide) (by rw [q_lnk (v := 4650) hI (q_tk (k' := 34) hI ha rfl (Nat.succ_ne_zero _)) rfl (by decide)]; decide) dX12_fallsTo_98 ?_
        refine lv_topi (fun f_17 ef_17 => ?_)
        replace hF := q_letX hF ef_17
        have if_17 : f_17.toInt = m_c X σ a 0 := m_rd ef_17 (by decide)
        refine lv_irem hx hb dX12_fallsTo_99 (q_ne0 (by first | (clear h0 h1 if_1 j25 ahpσ_4 bhpσ_4 chpσ_4 if_5 mb iz_6 iz_7 rmz_9 if_10 c_11 if_12 c_13 iz_15 iz_16; omega) | omega)) ?_
        refine lv_topi (fun z_18 ez_18 => ?_)
        replace hF := q_letX hF (ez_18.trans (q_remI _ _))
        have rmz_18 := m_rem ez_18 (by first | (clear h0 h1 hh if_1 ahpσ_4 bhpσ_4 chpσ_4 if_5 mb iz_6 iz_7 if_10 c_11 if_12 c_13; omega) | omega) (by first | (clear h0 h1 if_1 j25 ahpσ_4 bhpσ_4 chpσ_4 if_5 mb iz_6 iz_7 rmz_9 if_10 c_11 if_12 c_13 iz_15 iz_16; omega) | omega)
        refine lv_goto (tgt := 104) hx hb dX12_fallsTo_100 (by decide) ?_
        exact q_reti E hr hlk hI ⟨rfl, (by first | (clear h0 h1 hh if_1 j25 ahpσ_4 bhpσ_4 chpσ_4 if_5 mb iz_6 iz_7 rmz_9 if_10 c_11 if_12 c_13 iz_15 iz_16; omega) | omega), (hF.trans hout)⟩ dX12_fallsTo_104
    · skip
      replace hF := q_ifp hF c_11
      refine lv_iload_n hx hb dX12_fallsTo_58 rfl (lv_at hl 1 rfl) ?_
      refine lv_iload hx hb dX12_fallsTo_59 (lv_at hl 0 rfl) ?_
      refine lv_iadd hx hb dX12_fallsTo_61 ?_
      refine lv_topi (fun z_19 ez_19 => ?_)
      replace hF := q_letX hF ez_19
      have iz_19 := q_addI (A := x_2.toInt) (B := z_9.toInt) ez_19 rfl rfl (by first | (clear h0 h1 hh if_1 ahpσ_4 bhpσ_4 chpσ_4 if_5 mb iz_6 iz_7 if_8 if_10 c_11; omega) | omega) (by first | (clear h0 h1 if_1 ahpσ_4 bhpσ_4 chpσ_4 if_5 mb iz_6 iz_7 if_10 c_11; omega) | omega)
      refine lv_aload_n hx hb dX12_fallsTo_62 rfl (lv_at hl 2 rfl) ?_
      refine gs_X12_35_12 E hI ha dX12_fallsTo_63 ?_
      refine lv_iconst (v := 0) hx hb dX12_fallsTo_66 zki_0 ?_
      refine q_iald E hI (q_tk (k' := 34) hI ha rfl (Nat.succ_ne_zero _)) ⟨by decide, rfl⟩ (by decide) (by rw [q_lnk (v := 4650) hI (q_tk (k' := 34) hI ha rfl (Nat.succ_ne_zero _)) rfl (by decide)]; decide) dX12_fallsTo_67 ?_
      refine lv_topi (fun f_20 ef_20 => ?_)
      replace hF := q_letX hF ef_20
      have if_20 : f_20.toInt = m_c X σ a 0 := m_rd ef_20 (by decide)
      refine lv_irem hx hb dX12_fallsTo_68 (q_ne0 (by first | (clear h0 h1 if_1 j25 ahpσ_4 bhpσ_4 chpσ_4 if_5 mb iz_6 iz_7 rmz_9 if_10 c_11 iz_19; omega) | omega)) ?_
      refine lv_topi (fun z_21 ez_21 => ?_)
      replace hF := q_letX hF (ez_21.trans (q_remI _ _))
      have rmz_21 := m_rem ez_21 (by first | (clear h0 h1 hh if_1 ahpσ_4 bhpσ_4 chpσ_4 if_5 mb iz_6 iz_7 if_8 if_10 c_11 if_20; omega) | omega) (by first | (clear h0 h1 if_1 j25 ahpσ_4 bhpσ_4 chpσ_4 if_5 mb iz_6 iz_7 rmz_9 if_10 c_11 iz_19; omega) | omega)
      refine lv_goto (tgt := 104) hx hb dX12_fallsTo_69 (by decide) ?_
      exact q_reti E hr hlk hI ⟨rfl, (by first | (clear h0 h1 hh if_1 j25 ahpσ_4 bhpσ_4 chpσ_4 if_5 mb iz_6 iz_7 rmz_9 if_10 c_11 iz_19; omega) | omega), (hF.trans hout)⟩ dX12_fallsTo_104
  refine q_icmp_ne (A := f_1.toInt) (B := 1) E rfl (by decide) (tgt := 19) dX12_fallsTo_8 (by decide) (fun c_22 => ?_) (fun c_22 => ?_)
  · skip
    replace hF := q_ifn hF c_22
    refine lv_aload_n hx hb dX12_fallsTo_19 rfl (lv_at hl 0 rfl) ?_
    refine gs_X12_35_12 E hI ha dX12_fallsTo_20 ?_
    refine lv_iconst (v := 5) hx hb dX12_fallsTo_23 zki_5 ?_
    refine q_iald E hI (q_tk (k' := 34) hI ha rfl (Nat.succ_ne_zero _)) ⟨by decide, rfl⟩ (by decide) (by rw [q_lnk (v := 4650) hI (q_tk (k' := 34) hI ha rfl (Nat.succ_ne_zero _)) rfl (by decide)]; decide) dX12_fallsTo_24 ?_
    refine lv_topi (fun f_23 ef_23 => ?_)
    replace hF := q_letX hF ef_23
    have if_23 : f_23.toInt = m_c X σ a 5 := m_rd ef_23 (by decide)
    exact J_25_2 f_23 _ _ ls (by first | (clear h0 h1 if_1 c_22; omega) | omega) hF hI (lv_sub hl [0, 1, 2] rfl)
  · skip
    replace hF := q_ifp hF c_22
    refine lv_aload_n hx hb dX12_fallsTo_11 rfl (lv_at hl 0 rfl) ?_
    refine lv_iconst (v := 1) hx hb dX12_fallsTo_12 zki_1 ?_
    have kc_24 : (1 : Int32).toInt = 1 := zt_1
    refine q_ci (q_rV11_1 (rest := []) E (hml.trans hl.1.symm) hI (c_X12_nextKind l X σ a (1 : Int32) ha hG) kv_X12_315 ha ⟨Nat.le_of_ble_eq_true rfl, Nat.le_of_ble_eq_true rfl⟩ (Nat.le_of_ble_eq_true rfl) dX12_fallsTo_13) hI (Nat.le_of_ble_eq_true rfl) (fun r_25 σ_26 H locs hpσ_26 hkσ_26 hI => ?_)
    have ahpσ_26 := hpσ_26.1
    have bhpσ_26 := hpσ_26.2.1
    have chpσ_26 := hpσ_26.2.2
    clear hpσ_26
    replace hI := q_Irw ahpσ_26 hI
    replace hF := q_letX hF chpσ_26
    refine lv_goto (tgt := 25) hx hb dX12_fallsTo_16 (by decide) ?_
    exact J_25_2 r_25 _ _ ls (by omega) hF hI (lv_sub hl [0, 1, 2] rfl)

set_option maxRecDepth 100000 in
set_option maxHeartbeats 4000000 in
theorem c_X12_isImpossible (l : Launch) (X : XW) (σ : ST) (a : Nat) (v1 : Int32) (ha : q_kd X a = 12) (hG : m_G (m_c X σ a)) (h0 : 0 ≤ v1.toInt ∧ v1.toInt < m_c X σ a 2) (ho : 1 ≤ m_c X σ a 9) : Met l yX12_isImpossible (q_ws yX12_isImpossible cX12_isImpossible 2 (some .boolean)) (q_rm 4 91) (q_P X σ [.ref a, .int v1]) (q_Qi X 9 σ (fun (r : Int32) (σ' : ST) => σ' = σ ∧ (0 ≤ r.toInt ∧ r.toInt ≤ 1) ∧ r = F_X12_isImpossible X σ a v1)) 0 0 (q_reg X) := by
  refine q_met 9 (by first | exact rfl | decide +kernel) rfl (Nat.le_of_ble_eq_true rfl) (fun p e s m below meth c E hml hr hlk hI ls hl => ?_)
  have hx := E.1
  have hb := E.2.1
  have hl : lv_has ls 2 [(0, .ref a), (1, .int v1)] := hl
  have hh := hG.hd
  obtain ⟨out, hout⟩ : ∃ o, o = F_X12_isImpossible X σ a v1 := ⟨_, rfl⟩
  have hF := hout.symm
  unfold F_X12_isImpossible at hF
  refine lv_aload_n hx hb dX12_isImpossible_0 rfl (lv_at hl 0 rfl) ?_
  refine lv_iload_n hx hb dX12_isImpossible_1 rfl (lv_at hl 1 rfl) ?_
  refine lv_aload_n hx hb dX12_isImpossible_2 rfl (lv_at hl 0 rfl) ?_
  refine gs_X12_35_12 E hI ha dX12_isImpossible_3 ?_
  refine lv_iconst (v := 5) hx hb dX12_isImpossible_6 zki_5 ?_
  refine q_iald E hI (q_tk (k' := 34) hI ha rfl (Nat.succ_ne_zero _)) ⟨by decide, rfl⟩ (by decide) (by rw [q_lnk (v := 4650) hI (q_tk (k' := 34) hI ha rfl (Nat.succ_ne_zero _)) rfl (by decide)]; decide) dX12_isImpossible_7 ?_
  refine lv_topi (fun f_1 ef_1 => ?_)
  replace hF := q_letX hF ef_1
  have if_1 : f_1.toInt = m_c X σ a 5 := m_rd ef_1 (by decide)
  refine q_ci (q_rV11_2 (rest := []) E (hml.trans hl.1.symm) hI (c_X12_unknownOf l X σ a v1 f_1 ha hG (by omega) (by first | (clear h0 ho; omega) | omega)) kv_X12_336 ha ⟨Nat.le_of_ble_eq_true rfl, Nat.le_of_ble_eq_true rfl⟩ (Nat.le_of_ble_eq_true rfl) dX12_isImpossible_8) hI (Nat.le_of_ble_eq_true rfl) (fun r_2 σ_3 H locs hpσ_3 hkσ_3 hI => ?_)
  have ahpσ_3 := hpσ_3.1
  have bhpσ_3 := hpσ_3.2.1
  have chpσ_3 := hpσ_3.2.2.1
  have dhpσ_3 := hpσ_3.2.2.2
  clear hpσ_3
  replace hI := q_Irw ahpσ_3 hI
  replace hF := q_letX hF dhpσ_3
  have ir_2 : r_2.toInt = (m_U (m_c X σ a) v1.toInt (m_c X σ a 5)) := (by first | exact bhpσ_3 | (rw [bhpσ_3, if_1]) | (simp only [bhpσ_3, if_1]))
  refine lv_aload_n hx hb dX12_isImpossible_11 rfl (lv_at hl 0 rfl) ?_
  refine gs_X12_35_12 E hI ha dX12_isImpossible_12 ?_
  refine lv_aload_n hx hb dX12_isImpossible_15 rfl (lv_at hl 0 rfl) ?_
  refine gs_X12_35_12 E hI ha dX12_isImpossible_16 ?_
  refine lv_bipush (v := 9) hx hb dX12_isImpossible_19 zkb_9 ?_
  refine q_iald E hI (q_tk (k' := 34) hI ha rfl (Nat.succ_ne_zero _)) ⟨by decide, rfl⟩ (by decide) (by rw [q_lnk (v := 4650) hI (q_tk (k' := 34) hI ha rfl (Nat.succ_ne_zero _)) rfl (by decide)]; decide) dX12_isImpossible_21 ?_
  refine lv_topi (fun f_4 ef_4 => ?_)
  replace hF := q_letX hF ef_4
  have if_4 : f_4.toInt = m_c X σ a 9 := m_rd ef_4 (by decide)
  refine lv_iconst (v := 1) hx hb dX12_isImpossible_22 zki_1 ?_
  refine lv_isub hx hb dX12_isImpossible_23 ?_
  refine lv_topi (fun z_5 ez_5 => ?_)
  replace hF := q_letX hF ez_5
  have iz_5 := q_subI (A := (m_c X σ a 9)) (B := 1) ez_5 if_4 (by decide) (by first | (clear h0 if_1 ahpσ_3 bhpσ_3 chpσ_3 dhpσ_3 ir_2; omega) | omega) (by first | (clear h0 if_1 ahpσ_3 bhpσ_3 chpσ_3 dhpσ_3 ir_2; omega) | omega)
  refine q_ci (q_runS (As := [.int z_5]) (rest := [.ref (q_rf X a 20), .int r_2]) E (hml.trans hl.1.symm) hI (c_X12_laid l X σ z_5 (by first | (clear h0 if_1 ahpσ_3 bhpσ_3 chpσ_3 dhpσ_3 ir_2; omega) | omega)) ks_X12_279 rfl ⟨Nat.le_of_ble_eq_true rfl, Nat.le_of_ble_eq_true rfl⟩ ⟨Nat.le_refl _, Nat.le_refl _⟩ rfl (Nat.le_of_ble_eq_true rfl) dX12_isImpossible_24) hI (Nat.le_of_ble_eq_true rfl) (fun r_6 σ_7 H locs hpσ_7 hkσ_7 hI => ?_)
  have ahpσ_7 := hpσ_7.1
  have bhpσ_7 := hpσ_7.2.1
  have chpσ_7 := hpσ_7.2.2
  clear hpσ_7
  replace hI := q_Irw ahpσ_7 hI
  replace hF := q_letX hF chpσ_7
  have ir_6 : r_6.toInt = (94 + 7 * ((m_c X σ a 9) - 1)) := (by first | (clear h0 ho hh if_1 ahpσ_3 bhpσ_3 chpσ_3 dhpσ_3 ir_2 ahpσ_7 chpσ_7; omega) | omega)
  refine lv_iconst (v := 2) hx hb dX12_isImpossible_27 zki_2 ?_
  refine lv_iadd hx hb dX12_isImpossible_28 ?_
  refine lv_topi (fun z_8 ez_8 => ?_)
  replace hF := q_letX hF ez_8
  have iz_8 := q_addI (A := (94 + 7 * ((m_c X σ a 9) - 1))) (B := 2) ez_8 ir_6 (by decide) (by first | (clear h0 if_1 ahpσ_3 bhpσ_3 chpσ_3 dhpσ_3 ir_2 ahpσ_7 bhpσ_7 chpσ_7 ir_6; omega) | omega) (by first | (clear h0 if_1 ahpσ_3 bhpσ_3 chpσ_3 dhpσ_3 ir_2 ahpσ_7 bhpσ_7 chpσ_7 ir_6; omega) | omega)
  refine q_iald E hI (q_tk (k' := 34) hI ha rfl (Nat.succ_ne_zero _)) ⟨by decide, rfl⟩ (by first | (clear h0 if_1 ahpσ_3 bhpσ_3 chpσ_3 dhpσ_3 ir_2 ahpσ_7 bhpσ_7 chpσ_7 ir_6; omega) | omega) (by rw [q_lnk (v := 4650) hI (q_tk (k' := 34) hI ha rfl (Nat.succ_ne_zero _)) rfl (by decide)]; omega) dX12_isImpossible_29 ?_
  refine lv_topi (fun f_9 ef_9 => ?_)
  replace hF := q_letX hF ef_9
  have if_9 : f_9.toInt = m_c X σ a ((94 + 7 * ((m_c X σ a 9) - 1)) + 2) := m_rd ef_9 iz_8
  refine q_icmp_ge (A := r_2.toInt) (B := f_9.toInt) E rfl rfl (tgt := 37) dX12_isImpossible_30 (by decide) (fun c_10 => ?_) (fun c_10 => ?_)
  · skip
    replace hF := q_ifn hF (Int.not_lt.mpr c_10)
    refine lv_iconst (v := 0) hx hb dX12_isImpossible_37 zki_0 ?_
    have hrv : (0 : Int32).toInt = 0 := zt_0
    exact q_retz E hr hlk hI ⟨by decide, by decide⟩ ⟨rfl, ⟨by decide, by decide⟩, (hF.trans hout)⟩ dX12_isImpossible_38
  · skip
    replace hF := q_ifp hF c_10
    refine lv_iconst (v := 1) hx hb dX12_isImpossible_33 zki_1 ?_
    refine lv_goto (tgt := 38) hx hb dX12_isImpossible_34 (by decide) ?_
    have hrv : (1 : Int32).toInt = 1 := zt_1
    exact q_retz E hr hlk hI ⟨by decide, by decide⟩ ⟨rfl, ⟨by decide, by decide⟩, (hF.trans hout)⟩ dX12_isImpossible_38

set_option maxRecDepth 100000 in
set_option maxHeartbeats 4000000 in
theorem c_X12_whyNot (l : Launch) (X : XW) (σ : ST) (a : Nat) (v1 : Int32) (ha : q_kd X a = 12) (hG : m_G (m_c X σ a)) : Met l yX12_whyNot (q_ws yX12_whyNot cX12_whyNot 2 (some .int)) (q_rm 2 46) (q_P X σ [.ref a, .int v1]) (q_Qi X 9 σ (fun (r : Int32) (σ' : ST) => σ' = σ ∧ (0 ≤ r.toInt) ∧ (r.toInt = 0 → (0 ≤ v1.toInt ∧ v1.toInt < m_c X σ a 2 ∧ m_c X σ a 7 = 1 ∧ v1.toInt ≠ m_c X σ a 6)) ∧ r = F_X12_whyNot X σ a v1)) 0 0 (q_reg X) := by
  refine q_met 9 (by first | exact rfl | decide +kernel) rfl (Nat.le_of_ble_eq_true rfl) (fun p e s m below meth c E hml hr hlk hI ls hl => ?_)
  have hx := E.1
  have hb := E.2.1
  have hl : lv_has ls 2 [(0, .ref a), (1, .int v1)] := hl
  have hh := hG.hd
  obtain ⟨out, hout⟩ : ∃ o, o = F_X12_whyNot X σ a v1 := ⟨_, rfl⟩
  have hF := hout.symm
  unfold F_X12_whyNot at hF
  refine lv_aload_n hx hb dX12_whyNot_0 rfl (lv_at hl 0 rfl) ?_
  refine lv_iload_n hx hb dX12_whyNot_1 rfl (lv_at hl 1 rfl) ?_
  refine q_ci (q_rV11_1 (rest := []) E (hml.trans hl.1.symm) hI (c_X12_isPlayerAt l X σ a v1 ha hG) kv_X12_290 ha ⟨Nat.le_of_ble_eq_true rfl, Nat.le_of_ble_eq_true rfl⟩ (Nat.le_of_ble_eq_true rfl) dX12_whyNot_2) hI (Nat.le_of_ble_eq_true rfl) (fun r_1 σ_2 H locs hpσ_2 hkσ_2 hI => ?_)
  have ahpσ_2 := hpσ_2.1
  have bhpσ_2 := hpσ_2.2.1
  have chpσ_2 := hpσ_2.2.2.1
  have dhpσ_2 := hpσ_2.2.2.2
  clear hpσ_2
  replace hI := q_Irw ahpσ_2 hI
  replace hF := q_letX hF dhpσ_2
  refine q_if_ne (A := r_1.toInt) E rfl (tgt := 12) dX12_whyNot_5 (by decide) (fun c_3 => ?_) (fun c_3 => ?_)
  · skip
    replace hF := q_ifn hF c_3
    replace c_3 := q_ifOne bhpσ_2 c_3
    replace chpσ_2 := q_ifYes chpσ_2 c_3
    refine lv_aload_n hx hb dX12_whyNot_12 rfl (lv_at hl 0 rfl) ?_
    refine gs_X12_35_12 E hI ha dX12_whyNot_13 ?_
    refine lv_bipush (v := 7) hx hb dX12_whyNot_16 zkb_7 ?_
    refine q_iald E hI (q_tk (k' := 34) hI ha rfl (Nat.succ_ne_zero _)) ⟨by decide, rfl⟩ (by decide) (by rw [q_lnk (v := 4650) hI (q_tk (k' := 34) hI ha rfl (Nat.succ_ne_zero _)) rfl (by decide)]; decide) dX12_whyNot_18 ?_
    refine lv_topi (fun f_4 ef_4 => ?_)
    replace hF := q_letX hF ef_4
    have if_4 : f_4.toInt = m_c X σ a 7 := m_rd ef_4 (by decide)
    refine q_if_ne (A := f_4.toInt) E rfl (tgt := 27) dX12_whyNot_19 (by decide) (fun c_5 => ?_) (fun c_5 => ?_)
    · skip
      replace hF := q_ifn hF c_5
      refine lv_aload_n hx hb dX12_whyNot_27 rfl (lv_at hl 0 rfl) ?_
      refine gs_X12_35_12 E hI ha dX12_whyNot_28 ?_
      refine lv_bipush (v := 6) hx hb dX12_whyNot_31 zkb_6 ?_
      refine q_iald E hI (q_tk (k' := 34) hI ha rfl (Nat.succ_ne_zero _)) ⟨by decide, rfl⟩ (by decide) (by rw [q_lnk (v := 4650) hI (q_tk (k' := 34) hI ha rfl (Nat.succ_ne_zero _)) rfl (by decide)]; decide) dX12_whyNot_33 ?_
      refine lv_topi (fun f_6 ef_6 => ?_)
      replace hF := q_letX hF ef_6
      have if_6 : f_6.toInt = m_c X σ a 6 := m_rd ef_6 (by decide)
      refine lv_iload_n hx hb dX12_whyNot_34 rfl (lv_at hl 1 rfl) ?_
      refine q_icmp_ne (A := f_6.toInt) (B := v1.toInt) E rfl rfl (tgt := 42) dX12_whyNot_35 (by decide) (fun c_7 => ?_) (fun c_7 => ?_)
      · skip
        replace hF := q_ifn hF c_7
        refine lv_iconst (v := 0) hx hb dX12_whyNot_42 zki_0 ?_
        have hrv : (0 : Int32).toInt = 0 := zt_0
        exact q_reti E hr hlk hI ⟨rfl, (by first | (clear hh ahpσ_2 bhpσ_2 dhpσ_2 c_3 chpσ_2 if_4 c_5 if_6 c_7; omega) | omega), (by first | (clear ahpσ_2 bhpσ_2 dhpσ_2 c_3 hrv; omega) | omega), (hF.trans hout)⟩ dX12_whyNot_43
      · skip
        replace hF := q_ifp hF c_7
        refine lv_iconst (v := 5) hx hb dX12_whyNot_38 zki_5 ?_
        refine lv_goto (tgt := 43) hx hb dX12_whyNot_39 (by decide) ?_
        have hrv : (5 : Int32).toInt = 5 := zt_5
        exact q_reti E hr hlk hI ⟨rfl, (by first | (clear hh ahpσ_2 bhpσ_2 dhpσ_2 c_3 chpσ_2 if_4 c_5 if_6 c_7; omega) | omega), (by first | (clear hh ahpσ_2 bhpσ_2 dhpσ_2 c_3 chpσ_2 if_4 c_5 if_6 c_7; omega) | omega), (hF.trans hout)⟩ dX12_whyNot_43
    · skip
      replace hF := q_ifp hF c_5
      refine lv_bipush (v := 8) hx hb dX12_whyNot_22 zkb_8 ?_
      refine lv_goto (tgt := 43) hx hb dX12_whyNot_24 (by decide) ?_
      have hrv : (8 : Int32).toInt = 8 := zt_8
      exact q_reti E hr hlk hI ⟨rfl, (by first | (clear hh ahpσ_2 bhpσ_2 dhpσ_2 c_3 chpσ_2 if_4 c_5; omega) | omega), (by first | (clear hh ahpσ_2 bhpσ_2 dhpσ_2 c_3 chpσ_2 if_4 c_5; omega) | omega), (hF.trans hout)⟩ dX12_whyNot_43
  · skip
    replace hF := q_ifp hF c_3
    replace chpσ_2 := q_ifNo chpσ_2 c_3
    refine lv_iconst (v := 2) hx hb dX12_whyNot_8 zki_2 ?_
    refine lv_goto (tgt := 43) hx hb dX12_whyNot_9 (by decide) ?_
    have hrv : (2 : Int32).toInt = 2 := zt_2
    exact q_reti E hr hlk hI ⟨rfl, (by first | (clear hh ahpσ_2 bhpσ_2 dhpσ_2 c_3 chpσ_2; omega) | omega), (by first | (clear hh ahpσ_2 bhpσ_2 dhpσ_2 c_3 chpσ_2; omega) | omega), (hF.trans hout)⟩ dX12_whyNot_43

set_option maxRecDepth 100000 in
set_option maxHeartbeats 4000000 in
theorem c_X12_otherKind (l : Launch) (X : XW) (σ : ST) (a : Nat) (v1 : Int32) (ha : q_kd X a = 12) (hG : m_G (m_c X σ a)) (h0 : 0 ≤ v1.toInt ∧ v1.toInt ≤ 5) : Met l yX12_otherKind (q_ws yX12_otherKind cX12_otherKind 4 (some .int)) (q_rm 1 22) (q_P X σ [.ref a, .int v1]) (q_Qi X 9 σ (fun (r : Int32) (σ' : ST) => σ' = σ ∧ (m_ok (m_c X σ a) v1.toInt r.toInt (m_c X σ a 0)) ∧ (-1 ≤ r.toInt ∧ r.toInt < m_c X σ a 0) ∧ r = F_X12_otherKind X σ a v1)) 0 0 (q_reg X) := by
  refine q_met 9 (by first | exact rfl | decide +kernel) rfl (Nat.le_of_ble_eq_true rfl) (fun p e s m below meth c E hml hr hlk hI ls hl => ?_)
  have hx := E.1
  have hb := E.2.1
  have hl : lv_has ls 4 [(0, .ref a), (1, .int v1)] := hl
  have hh := hG.hd
  obtain ⟨out, hout⟩ : ∃ o, o = F_X12_otherKind X σ a v1 := ⟨_, rfl⟩
  have hF := hout.symm
  unfold F_X12_otherKind at hF
  refine lv_iconst (v := (-1)) hx hb dX12_otherKind_0 zki_m1 ?_
  refine lv_istore_n (lv' := [(2, .int (-1)), (0, .ref a), (1, .int v1)]) hx hb dX12_otherKind_1 rfl hl (by decide) rfl (fun ls hl => ?_)
  refine lv_iconst (v := 0) hx hb dX12_otherKind_2 zki_0 ?_
  refine lv_istore_n (lv' := [(3, .int 0), (2, .int (-1)), (0, .ref a), (1, .int v1)]) hx hb dX12_otherKind_3 rfl hl (by decide) rfl (fun ls hl => ?_)
  have L_4_3 : ∀ (k_3 : Nat) (x_1 : Int32) (x_2 : Int32) (H : Heap) (locs : List Loc) (ls : Array Slot), (2147483647 - x_2.toInt).toNat < k_3 → (0 ≤ x_2.toInt ∧ x_2.toInt ≤ m_c X σ a 0 ∧ -1 ≤ x_1.toInt ∧ x_1.toInt < m_c X σ a 0) → (m_ok (m_c X σ a) v1.toInt x_1.toInt x_2.toInt) → (F_X12_otherKind_L4_1 X σ a v1 k_3 x_1 x_2 = out) → q_I X 9 σ s.heap locs σ H → lv_has ls 4 [(0, .ref a), (1, .int v1), (2, .int x_1), (3, .int x_2)] → W p l e (q_rm 1 22) s m ([.ref a, .int v1] : List Value).toArray below meth c H locs 0 0 (MQ below (q_Qi X 9 σ (fun (r : Int32) (σ' : ST) => σ' = σ ∧ (m_ok (m_c X σ a) v1.toInt r.toInt (m_c X σ a 0)) ∧ (-1 ≤ r.toInt ∧ r.toInt < m_c X σ a 0) ∧ r = F_X12_otherKind X σ a v1)) ([.ref a, .int v1] : List Value).toArray s 0 0 (q_reg X)) (F0 m 4 ls []) := by
    clear hF
    intro k_3
    induction k_3 with
    | zero =>
      intro x_1 x_2 H locs ls hms
      exact absurd hms (Nat.not_lt_zero _)
    | succ k_3 ih4 =>
      intro x_1 x_2 H locs ls hm4 hge4 ok4 hF hI hl
      replace hF := (F_X12_otherKind_L4_1_s).symm.trans hF
      unfold F_X12_otherKind_B4_1 at hF
      refine lv_iload_n hx hb dX12_otherKind_4 rfl (lv_at hl 3 rfl) ?_
      refine lv_aload_n hx hb dX12_otherKind_5 rfl (lv_at hl 0 rfl) ?_
      refine gs_X12_35_12 E hI ha dX12_otherKind_6 ?_
      refine lv_iconst (v := 0) hx hb dX12_otherKind_9 zki_0 ?_
      refine q_iald E hI (q_tk (k' := 34) hI ha rfl (Nat.succ_ne_zero _)) ⟨by decide, rfl⟩ (by decide) (by rw [q_lnk (v := 4650) hI (q_tk (k' := 34) hI ha rfl (Nat.succ_ne_zero _)) rfl (by decide)]; decide) dX12_otherKind_10 ?_
      refine lv_topi (fun f_4 ef_4 => ?_)
      replace hF := q_letX hF ef_4
      have if_4 : f_4.toInt = m_c X σ a 0 := m_rd ef_4 (by decide)
      have gc_5_x_2 := q_rng x_2
      have gc_5_f_4 := q_rng f_4
      refine q_icmp_ge (A := x_2.toInt) (B := f_4.toInt) E rfl rfl (tgt := 60) dX12_otherKind_11 (by decide) (fun c_5 => ?_) (fun c_5 => ?_)
      · skip
        replace hF := q_ifn hF (Int.not_lt.mpr c_5)
        skip
        refine lv_iload_n hx hb dX12_otherKind_60 rfl (lv_at hl 2 rfl) ?_
        exact q_reti E hr hlk hI ⟨rfl, (by have q : x_2.toInt = m_c X σ a 0 := (by first | (clear h0 hh hm4 gc_5_x_2 gc_5_f_4; omega) | omega); rw [q] at ok4; exact ok4), (by first | (clear h0 hh hm4 gc_5_x_2 gc_5_f_4 c_5; omega) | omega), (hF.trans hout)⟩ dX12_otherKind_61
      · skip
        replace hF := q_ifp hF c_5
        refine lv_iload_n hx hb dX12_otherKind_14 rfl (lv_at hl 3 rfl) ?_
        refine lv_aload_n hx hb dX12_otherKind_15 rfl (lv_at hl 0 rfl) ?_
        refine gs_X12_35_12 E hI ha dX12_otherKind_16 ?_
        refine lv_iconst (v := 5) hx hb dX12_otherKind_19 zki_5 ?_
        refine q_iald E hI (q_tk (k' := 34) hI ha rfl (Nat.succ_ne_zero _)) ⟨by decide, rfl⟩ (by decide) (by rw [q_lnk (v := 4650) hI (q_tk (k' := 34) hI ha rfl (Nat.succ_ne_zero _)) rfl (by decide)]; decide) dX12_otherKind_20 ?_
        refine lv_topi (fun f_6 ef_6 => ?_)
        replace hF := q_letX hF ef_6
        have if_6 : f_6.toInt = m_c X σ a 5 := m_rd ef_6 (by decide)
        have gc_7_x_2 := q_rng x_2
        have gc_7_f_6 := q_rng f_6
        refine q_icmp_eq (A := x_2.toInt) (B := f_6.toInt) E rfl rfl (tgt := 54) dX12_otherKind_21 (by decide) (fun c_7 => ?_) (fun c_7 => ?_)
        · skip
          replace hF := q_ifp hF c_7
          obtain ⟨z_8, ez_8⟩ : ∃ y : Int32, y = x_2 + 1 := ⟨_, rfl⟩
          replace hF := q_letX hF ez_8
          refine lv_iinc (v := z_8) (lv' := [(3, .int z_8), (0, .ref a), (1, .int v1), (2, .int x_1)]) hx hb dX12_otherKind_54 hl (k := 3) rfl (by rw [ez_8]; rfl) (by decide) rfl (fun ls hl => ?_)
          have iz_8 : z_8.toInt = x_2.toInt + 1 := q_inc ez_8 (by first | (clear h0 hm4 hge4 gc_5_x_2 gc_5_f_4 gc_7_x_2; omega) | omega)
          refine lv_goto (tgt := 4) hx hb dX12_otherKind_57 (by decide) ?_
          exact ih4 x_1 z_8 _ _ ls (by first | (clear h0 hge4 gc_5_x_2 gc_5_f_4 gc_7_x_2; omega) | omega) (by first | (clear h0 hm4 gc_5_x_2 gc_5_f_4 gc_7_x_2; omega) | omega) (by rw [iz_8]; first | exact ok4.skip (Or.inl (by first | (clear h0 hh hm4 hge4 if_4 gc_5_x_2 gc_5_f_4 c_5 gc_7_x_2 gc_7_f_6 iz_8; omega) | omega)) | exact ok4.skip (Or.inr (by omega)) | exact m_ok.set (by omega) (by omega) (by omega) | exact ok4.old (by omega)) hF hI (lv_sub hl [1, 2, 3, 0] rfl)
        · skip
          replace hF := q_ifn hF c_7
          refine lv_aload_n hx hb dX12_otherKind_24 rfl (lv_at hl 0 rfl) ?_
          refine lv_iload_n hx hb dX12_otherKind_25 rfl (lv_at hl 1 rfl) ?_
          refine lv_iload_n hx hb dX12_otherKind_26 rfl (lv_at hl 3 rfl) ?_
          refine q_ci (q_rV11_2 (rest := []) E (hml.trans hl.1.symm) hI (c_X12_handOf l X σ a v1 x_2 ha (by omega) (by first | (clear h0 hm4 gc_5_f_4 if_6 gc_7_x_2 gc_7_f_6 c_7; omega) | omega)) kv_X12_276 ha ⟨Nat.le_of_ble_eq_true rfl, Nat.le_of_ble_eq_true rfl⟩ (Nat.le_of_ble_eq_true rfl) dX12_otherKind_27) hI (Nat.le_of_ble_eq_true rfl) (fun r_9 σ_10 H locs hpσ_10 hkσ_10 hI => ?_)
          have ahpσ_10 := hpσ_10.1
          have bhpσ_10 := hpσ_10.2.1
          have chpσ_10 := hpσ_10.2.2
          clear hpσ_10
          replace hI := q_Irw ahpσ_10 hI
          replace hF := q_letX hF chpσ_10
          have ir_9 : r_9.toInt = (m_c X σ a (34 + 10 * v1.toInt + x_2.toInt)) := (by first | exact bhpσ_10 | (rw [bhpσ_10]) | (simp only [bhpσ_10]))
          refine q_if_le (A := r_9.toInt) E rfl (tgt := 54) dX12_otherKind_30 (by decide) (fun c_11 => ?_) (fun c_11 => ?_)
          · skip
            replace hF := q_ifn hF (Int.not_lt.mpr c_11)
            obtain ⟨z_12, ez_12⟩ : ∃ y : Int32, y = x_2 + 1 := ⟨_, rfl⟩
            replace hF := q_letX hF ez_12
            refine lv_iinc (v := z_12) (lv' := [(3, .int z_12), (0, .ref a), (1, .int v1), (2, .int x_1)]) hx hb dX12_otherKind_54 hl (k := 3) rfl (by rw [ez_12]; rfl) (by decide) rfl (fun ls hl => ?_)
            have iz_12 : z_12.toInt = x_2.toInt + 1 := q_inc ez_12 (by first | (clear h0 hm4 gc_5_f_4 if_6 gc_7_x_2 gc_7_f_6 c_7 ahpσ_10 bhpσ_10 chpσ_10 ir_9 c_11; omega) | omega)
            refine lv_goto (tgt := 4) hx hb dX12_otherKind_57 (by decide) ?_
            exact ih4 x_1 z_12 _ _ ls (by first | (clear h0 gc_5_f_4 if_6 gc_7_x_2 gc_7_f_6 ahpσ_10 bhpσ_10 chpσ_10 ir_9 c_11; omega) | omega) (by first | (clear h0 hh hm4 gc_5_f_4 if_6 gc_7_x_2 gc_7_f_6 c_7 ahpσ_10 bhpσ_10 chpσ_10 ir_9 c_11; omega) | omega) (by rw [iz_12]; first | exact ok4.skip (Or.inl (by omega)) | exact ok4.skip (Or.inr (by first | (clear h0 hh hm4 hge4 if_4 gc_5_x_2 gc_5_f_4 c_5 if_6 gc_7_x_2 gc_7_f_6 c_7 ahpσ_10 chpσ_10 ir_9 iz_12; omega) | omega)) | exact m_ok.set (by omega) (by omega) (by omega) | exact ok4.old (by omega)) hF hI (lv_sub hl [1, 2, 3, 0] rfl)
          · skip
            replace hF := q_ifp hF c_11
            refine lv_iload_n hx hb dX12_otherKind_33 rfl (lv_at hl 2 rfl) ?_
            refine q_if_lt (A := x_1.toInt) E rfl (tgt := 52) dX12_otherKind_34 (by decide) (fun c_13 => ?_) (fun c_13 => ?_)
            · skip
              replace hF := q_ifp hF c_13
              refine lv_iload_n hx hb dX12_otherKind_52 rfl (lv_at hl 3 rfl) ?_
              refine lv_istore_n (lv' := [(2, .int x_2), (0, .ref a), (1, .int v1), (3, .int x_2)]) hx hb dX12_otherKind_53 rfl hl (by decide) rfl (fun ls hl => ?_)
              obtain ⟨z_14, ez_14⟩ : ∃ y : Int32, y = x_2 + 1 := ⟨_, rfl⟩
              replace hF := q_letX hF ez_14
              refine lv_iinc (v := z_14) (lv' := [(3, .int z_14), (2, .int x_2), (0, .ref a), (1, .int v1)]) hx hb dX12_otherKind_54 hl (k := 3) rfl (by rw [ez_14]; rfl) (by decide) rfl (fun ls hl => ?_)
              have iz_14 : z_14.toInt = x_2.toInt + 1 := q_inc ez_14 (by first | (clear h0 hm4 gc_5_f_4 if_6 gc_7_x_2 gc_7_f_6 c_7 ahpσ_10 bhpσ_10 chpσ_10 ir_9 c_11 c_13; omega) | omega)
              refine lv_goto (tgt := 4) hx hb dX12_otherKind_57 (by decide) ?_
              exact ih4 x_2 z_14 _ _ ls (by first | (clear h0 gc_5_f_4 if_6 gc_7_x_2 gc_7_f_6 ahpσ_10 bhpσ_10 chpσ_10 ir_9 c_11 c_13; omega) | omega) (by first | (clear h0 hh hm4 gc_5_f_4 if_6 gc_7_x_2 gc_7_f_6 c_7 ahpσ_10 bhpσ_10 chpσ_10 ir_9 c_11 c_13; omega) | omega) (by rw [iz_14]; first | exact ok4.skip (Or.inl (by omega)) | exact ok4.skip (Or.inr (by omega)) | exact m_ok.set (by first | (clear h0 hh hm4 if_4 gc_5_f_4 c_5 if_6 gc_7_x_2 gc_7_f_6 c_7 ahpσ_10 bhpσ_10 chpσ_10 ir_9 c_11 c_13; omega) | omega) (by first | (clear h0 hh hm4 hge4 if_4 gc_5_x_2 gc_5_f_4 c_5 gc_7_x_2 gc_7_f_6 ahpσ_10 bhpσ_10 chpσ_10 ir_9 c_11 c_13; omega) | omega) (by first | (clear h0 hh hm4 hge4 if_4 gc_5_x_2 gc_5_f_4 c_5 if_6 gc_7_x_2 gc_7_f_6 c_7 ahpσ_10 chpσ_10 ir_9 c_13 iz_14; omega) | omega) | exact ok4.old (by omega)) hF hI (lv_sub hl [2, 3, 1, 0] rfl)
            · skip
              replace hF := q_ifn hF (Int.not_lt.mpr c_13)
              refine lv_aload_n hx hb dX12_otherKind_37 rfl (lv_at hl 0 rfl) ?_
              refine lv_iload_n hx hb dX12_otherKind_38 rfl (lv_at hl 1 rfl) ?_
              refine lv_iload_n hx hb dX12_otherKind_39 rfl (lv_at hl 3 rfl) ?_
              refine q_ci (q_rV11_2 (rest := []) E (hml.trans hl.1.symm) hI (c_X12_handOf l X σ a v1 x_2 ha (by omega) (by first | (clear h0 hm4 gc_5_f_4 if_6 gc_7_x_2 gc_7_f_6 c_7 ahpσ_10 bhpσ_10 chpσ_10 ir_9 c_11 c_13; omega) | omega)) kv_X12_276 ha ⟨Nat.le_of_ble_eq_true rfl, Nat.le_of_ble_eq_true rfl⟩ (Nat.le_of_ble_eq_true rfl) dX12_otherKind_40) hI (Nat.le_of_ble_eq_true rfl) (fun r_15 σ_16 H locs hpσ_16 hkσ_16 hI => ?_)
              have ahpσ_16 := hpσ_16.1
              have bhpσ_16 := hpσ_16.2.1
              have chpσ_16 := hpσ_16.2.2
              clear hpσ_16
              replace hI := q_Irw ahpσ_16 hI
              replace hF := q_letX hF chpσ_16
              have ir_15 : r_15.toInt = (m_c X σ a (34 + 10 * v1.toInt + x_2.toInt)) := (by first | exact bhpσ_16 | (rw [bhpσ_16]) | (simp only [bhpσ_16]))
              refine lv_aload_n hx hb dX12_otherKind_43 rfl (lv_at hl 0 rfl) ?_
              refine lv_iload_n hx hb dX12_otherKind_44 rfl (lv_at hl 1 rfl) ?_
              refine lv_iload_n hx hb dX12_otherKind_45 rfl (lv_at hl 2 rfl) ?_
              refine q_ci (q_rV11_2 (rest := [.int r_15]) E (hml.trans hl.1.symm) hI (c_X12_handOf l X σ a v1 x_1 ha (by omega) (by first | (clear h0 hm4 gc_5_x_2 gc_5_f_4 c_5 if_6 gc_7_x_2 gc_7_f_6 c_7 ahpσ_10 bhpσ_10 chpσ_10 ir_9 c_11 ahpσ_16 bhpσ_16 chpσ_16 ir_15; omega) | omega)) kv_X12_276 ha ⟨Nat.le_of_ble_eq_true rfl, Nat.le_of_ble_eq_true rfl⟩ (Nat.le_of_ble_eq_true rfl) dX12_otherKind_46) hI (Nat.le_of_ble_eq_true rfl) (fun r_17 σ_18 H locs hpσ_18 hkσ_18 hI => ?_)
              have ahpσ_18 := hpσ_18.1
              have bhpσ_18 := hpσ_18.2.1
              have chpσ_18 := hpσ_18.2.2
              clear hpσ_18
              replace hI := q_Irw ahpσ_18 hI
              replace hF := q_letX hF chpσ_18
              have ir_17 : r_17.toInt = (m_c X σ a (34 + 10 * v1.toInt + x_1.toInt)) := (by first | exact bhpσ_18 | (rw [bhpσ_18]) | (simp only [bhpσ_18]))
              have gc_19_r_15 := q_rng r_15
              have gc_19_r_17 := q_rng r_17
              refine q_icmp_le (A := r_15.toInt) (B := r_17.toInt) E rfl rfl (tgt := 54) dX12_otherKind_49 (by decide) (fun c_19 => ?_) (fun c_19 => ?_)
              · skip
                replace hF := q_ifn hF (Int.not_lt.mpr c_19)
                obtain ⟨z_20, ez_20⟩ : ∃ y : Int32, y = x_2 + 1 := ⟨_, rfl⟩
                replace hF := q_letX hF ez_20
                refine lv_iinc (v := z_20) (lv' := [(3, .int z_20), (0, .ref a), (1, .int v1), (2, .int x_1)]) hx hb dX12_otherKind_54 hl (k := 3) rfl (by rw [ez_20]; rfl) (by decide) rfl (fun ls hl => ?_)
                have iz_20 : z_20.toInt = x_2.toInt + 1 := q_inc ez_20 (by first | (clear h0 hm4 gc_5_f_4 if_6 gc_7_x_2 gc_7_f_6 c_7 ahpσ_10 bhpσ_10 chpσ_10 ir_9 c_11 c_13 ahpσ_16 bhpσ_16 chpσ_16 ir_15 ahpσ_18 bhpσ_18 chpσ_18 ir_17 gc_19_r_15 gc_19_r_17 c_19; omega) | omega)
                refine lv_goto (tgt := 4) hx hb dX12_otherKind_57 (by decide) ?_
                exact ih4 x_1 z_20 _ _ ls (by first | (clear h0 gc_5_f_4 if_6 gc_7_x_2 gc_7_f_6 ahpσ_10 bhpσ_10 chpσ_10 ir_9 c_11 c_13 ahpσ_16 bhpσ_16 chpσ_16 ir_15 ahpσ_18 bhpσ_18 chpσ_18 ir_17 gc_19_r_15 gc_19_r_17 c_19; omega) | omega) (by first | (clear h0 hh hm4 gc_5_f_4 if_6 gc_7_x_2 gc_7_f_6 c_7 ahpσ_10 bhpσ_10 chpσ_10 ir_9 c_11 ahpσ_16 bhpσ_16 chpσ_16 ir_15 ahpσ_18 bhpσ_18 chpσ_18 ir_17 gc_19_r_15 gc_19_r_17 c_19; omega) | omega) (by rw [iz_20]; first | exact ok4.skip (Or.inl (by omega)) | exact ok4.skip (Or.inr (by omega)) | exact m_ok.set (by omega) (by omega) (by omega) | exact ok4.old (by omega)) hF hI (lv_sub hl [1, 2, 3, 0] rfl)
              · skip
                replace hF := q_ifp hF c_19
                refine lv_iload_n hx hb dX12_otherKind_52 rfl (lv_at hl 3 rfl) ?_
                refine lv_istore_n (lv' := [(2, .int x_2), (0, .ref a), (1, .int v1), (3, .int x_2)]) hx hb dX12_otherKind_53 rfl hl (by decide) rfl (fun ls hl => ?_)
                obtain ⟨z_21, ez_21⟩ : ∃ y : Int32, y = x_2 + 1 := ⟨_, rfl⟩
                replace hF := q_letX hF ez_21
                refine lv_iinc (v := z_21) (lv' := [(3, .int z_21), (2, .int x_2), (0, .ref a), (1, .int v1)]) hx hb dX12_otherKind_54 hl (k := 3) rfl (by rw [ez_21]; rfl) (by decide) rfl (fun ls hl => ?_)
                have iz_21 : z_21.toInt = x_2.toInt + 1 := q_inc ez_21 (by first | (clear h0 hm4 gc_5_f_4 if_6 gc_7_x_2 gc_7_f_6 c_7 ahpσ_10 bhpσ_10 chpσ_10 ir_9 c_11 c_13 ahpσ_16 bhpσ_16 chpσ_16 ir_15 ahpσ_18 bhpσ_18 chpσ_18 ir_17 gc_19_r_15 gc_19_r_17 c_19; omega) | omega)
                refine lv_goto (tgt := 4) hx hb dX12_otherKind_57 (by decide) ?_
                exact ih4 x_2 z_21 _ _ ls (by first | (clear h0 gc_5_f_4 if_6 gc_7_x_2 gc_7_f_6 ahpσ_10 bhpσ_10 chpσ_10 ir_9 c_11 c_13 ahpσ_16 bhpσ_16 chpσ_16 ir_15 ahpσ_18 bhpσ_18 chpσ_18 ir_17 gc_19_r_15 gc_19_r_17 c_19; omega) | omega) (by first | (clear h0 hh hm4 gc_5_f_4 if_6 gc_7_x_2 gc_7_f_6 c_7 ahpσ_10 bhpσ_10 chpσ_10 ir_9 c_11 c_13 ahpσ_16 bhpσ_16 chpσ_16 ir_15 ahpσ_18 bhpσ_18 chpσ_18 ir_17 gc_19_r_15 gc_19_r_17 c_19; omega) | omega) (by rw [iz_21]; first | exact ok4.skip (Or.inl (by omega)) | exact ok4.skip (Or.inr (by omega)) | exact m_ok.set (by first | (clear h0 hh hm4 if_4 gc_5_f_4 c_5 if_6 gc_7_x_2 gc_7_f_6 c_7 ahpσ_10 bhpσ_10 chpσ_10 ir_9 c_11 c_13 ahpσ_16 bhpσ_16 chpσ_16 ir_15 ahpσ_18 bhpσ_18 chpσ_18 ir_17 gc_19_r_15 gc_19_r_17 c_19; omega) | omega) (by first | (clear h0 hh hm4 hge4 if_4 gc_5_x_2 gc_5_f_4 c_5 gc_7_x_2 gc_7_f_6 ahpσ_10 bhpσ_10 chpσ_10 ir_9 c_11 c_13 ahpσ_16 bhpσ_16 chpσ_16 ir_15 ahpσ_18 bhpσ_18 chpσ_18 ir_17 gc_19_r_15 gc_19_r_17 c_19; omega) | omega) (by first | (clear h0 hh hm4 hge4 if_4 gc_5_x_2 gc_5_f_4 c_5 if_6 gc_7_x_2 gc_7_f_6 c_7 ahpσ_10 chpσ_10 ir_9 c_13 ahpσ_16 chpσ_16 ir_15 ahpσ_18 bhpσ_18 chpσ_18 ir_17 gc_19_r_17 c_19 iz_21; omega) | omega) | exact ok4.old (by omega)) hF hI (lv_sub hl [2, 3, 1, 0] rfl)
  have kc_22 : ((-1) : Int32).toInt = (-1) := zt_m1
  have kc_23 : (0 : Int32).toInt = 0 := zt_0
  exact L_4_3 ((2147483647 - (0 : Int32).toInt).toNat + 1) (-1) 0 _ _ ls (Nat.lt_succ_self _) (by have q : (0 : Int32).toInt = 0 := rfl; have q1 : ((-1) : Int32).toInt = -1 := rfl; omega) (m_ok.start _ _) hF hI (lv_sub hl [2, 3, 1, 0] rfl)

set_option maxRecDepth 100000 in
set_option maxHeartbeats 4000000 in
theorem c_X12_isSo (l : Launch) (X : XW) (σ : ST) (a : Nat) (v1 : Int32) (ha : q_kd X a = 12) (hG : m_G (m_c X σ a)) (hw : 656 ≤ v1.toInt ∧ v1.toInt ≤ 917) (ht : m_tst (m_c X σ a) v1.toInt) : Met l yX12_isSo (q_ws yX12_isSo cX12_isSo 4 (some .boolean)) (q_rm 2 45) (q_P X σ [.ref a, .int v1]) (q_Qi X 9 σ (fun (r : Int32) (σ' : ST) => σ' = σ ∧ (0 ≤ r.toInt ∧ r.toInt ≤ 1) ∧ r = F_X12_isSo X σ a v1)) 0 0 (q_reg X) := by
  refine q_met 9 (by first | exact rfl | decide +kernel) rfl (Nat.le_of_ble_eq_true rfl) (fun p e s m below meth c E hml hr hlk hI ls hl => ?_)
  have hx := E.1
  have hb := E.2.1
  have hl : lv_has ls 4 [(0, .ref a), (1, .int v1)] := hl
  have hh := hG.hd
  obtain ⟨ta, tb⟩ := ht
  obtain ⟨out, hout⟩ : ∃ o, o = F_X12_isSo X σ a v1 := ⟨_, rfl⟩
  have hF := hout.symm
  unfold F_X12_isSo at hF
  refine lv_aload_n hx hb dX12_isSo_0 rfl (lv_at hl 0 rfl) ?_
  refine gs_X12_35_12 E hI ha dX12_isSo_1 ?_
  refine lv_iload_n hx hb dX12_isSo_4 rfl (lv_at hl 1 rfl) ?_
  refine lv_bipush (v := 6) hx hb dX12_isSo_5 zkb_6 ?_
  refine lv_iadd hx hb dX12_isSo_7 ?_
  refine lv_topi (fun z_1 ez_1 => ?_)
  replace hF := q_letX hF ez_1
  have iz_1 := q_addI (A := v1.toInt) (B := 6) ez_1 rfl (by decide) (by first | (clear ht hh ta tb; omega) | omega) (by first | (clear ht hh ta tb; omega) | omega)
  refine q_iald E hI (q_tk (k' := 34) hI ha rfl (Nat.succ_ne_zero _)) ⟨by decide, rfl⟩ (by first | (clear ht hh ta tb; omega) | omega) (by rw [q_lnk (v := 4650) hI (q_tk (k' := 34) hI ha rfl (Nat.succ_ne_zero _)) rfl (by decide)]; omega) dX12_isSo_8 ?_
  refine lv_topi (fun f_2 ef_2 => ?_)
  replace hF := q_letX hF ef_2
  have if_2 : f_2.toInt = m_c X σ a (v1.toInt + 6) := m_rd ef_2 iz_1
  refine lv_istore_n (lv' := [(2, .int f_2), (0, .ref a), (1, .int v1)]) hx hb dX12_isSo_9 rfl hl (by decide) rfl (fun ls hl => ?_)
  refine lv_iload_n hx hb dX12_isSo_10 rfl (lv_at hl 0 rfl) ?_
  refine lv_iconst (v := 3) hx hb dX12_isSo_11 zki_3 ?_
  refine q_icmp_ne (A := f_2.toInt) (B := 3) E rfl (by decide) (tgt := 31) dX12_isSo_12 (by decide) (fun c_3 => ?_) (fun c_3 => ?_)
  · skip
    replace hF := q_ifn hF c_3
    refine lv_iload_n hx hb dX12_isSo_31 rfl (lv_at hl 0 rfl) ?_
    have J_78_4 : ∀ (x_4 : Int32) (H : Heap) (locs : List Loc) (ls : Array Slot), (F_X12_isSo_J78_1 X v1 σ a x_4 = out) → q_I X 9 σ s.heap locs σ H → lv_has ls 4 [(0, .ref a), (1, .int v1), (2, .int f_2)] → W p l e (q_rm 2 45) s m ([.ref a, .int v1] : List Value).toArray below meth c H locs 0 0 (MQ below (q_Qi X 9 σ (fun (r : Int32) (σ' : ST) => σ' = σ ∧ (0 ≤ r.toInt ∧ r.toInt ≤ 1) ∧ r = F_X12_isSo X σ a v1)) ([.ref a, .int v1] : List Value).toArray s 0 0 (q_reg X)) (F0 m 78 ls [.int x_4]) := by
      clear hF
      intro x_4 H locs ls  hF hI hl
      unfold F_X12_isSo_J78_1 at hF
      refine lv_istore_n (lv' := [(3, .int x_4), (0, .ref a), (1, .int v1), (2, .int f_2)]) hx hb dX12_isSo_78 rfl hl (by decide) rfl (fun ls hl => ?_)
      refine lv_aload_n hx hb dX12_isSo_79 rfl (lv_at hl 1 rfl) ?_
      refine gs_X12_35_12 E hI ha dX12_isSo_80 ?_
      refine lv_iload_n hx hb dX12_isSo_83 rfl (lv_at hl 2 rfl) ?_
      refine lv_bipush (v := 7) hx hb dX12_isSo_84 zkb_7 ?_
      refine lv_iadd hx hb dX12_isSo_86 ?_
      refine lv_topi (fun z_5 ez_5 => ?_)
      replace hF := q_letX hF ez_5
      have iz_5 := q_addI (A := v1.toInt) (B := 7) ez_5 rfl (by decide) (by first | (clear ht hh ta tb if_2 c_3; omega) | omega) (by first | (clear ht hh ta tb if_2 c_3; omega) | omega)
      refine q_iald E hI (q_tk (k' := 34) hI ha rfl (Nat.succ_ne_zero _)) ⟨by decide, rfl⟩ (by first | (clear ht hh ta tb if_2 c_3; omega) | omega) (by rw [q_lnk (v := 4650) hI (q_tk (k' := 34) hI ha rfl (Nat.succ_ne_zero _)) rfl (by decide)]; omega) dX12_isSo_87 ?_
      refine lv_topi (fun f_6 ef_6 => ?_)
      replace hF := q_letX hF ef_6
      have if_6 : f_6.toInt = m_c X σ a (v1.toInt + 7) := m_rd ef_6 iz_5
      refine lv_bipush (v := 60) hx hb dX12_isSo_88 zkb_60 ?_
      refine q_icmp_ne (A := f_6.toInt) (B := 60) E rfl (by decide) (tgt := 113) dX12_isSo_90 (by decide) (fun c_7 => ?_) (fun c_7 => ?_)
      · skip
        replace hF := q_ifn hF c_7
        refine lv_aload_n hx hb dX12_isSo_113 rfl (lv_at hl 1 rfl) ?_
        refine gs_X12_35_12 E hI ha dX12_isSo_114 ?_
        refine lv_iload_n hx hb dX12_isSo_117 rfl (lv_at hl 2 rfl) ?_
        refine lv_bipush (v := 7) hx hb dX12_isSo_118 zkb_7 ?_
        refine lv_iadd hx hb dX12_isSo_120 ?_
        refine lv_topi (fun z_8 ez_8 => ?_)
        replace hF := q_letX hF ez_8
        have iz_8 := q_addI (A := v1.toInt) (B := 7) ez_8 rfl (by decide) (by first | (clear ht hh ta tb if_2 c_3 if_6 c_7; omega) | omega) (by first | (clear ht hh ta tb if_2 c_3 if_6 c_7; omega) | omega)
        refine q_iald E hI (q_tk (k' := 34) hI ha rfl (Nat.succ_ne_zero _)) ⟨by decide, rfl⟩ (by first | (clear ht hh ta tb if_2 c_3 if_6 c_7; omega) | omega) (by rw [q_lnk (v := 4650) hI (q_tk (k' := 34) hI ha rfl (Nat.succ_ne_zero _)) rfl (by decide)]; omega) dX12_isSo_121 ?_
        refine lv_topi (fun f_9 ef_9 => ?_)
        replace hF := q_letX hF ef_9
        have if_9 : f_9.toInt = m_c X σ a (v1.toInt + 7) := m_rd ef_9 iz_8
        refine lv_bipush (v := 62) hx hb dX12_isSo_122 zkb_62 ?_
        refine q_icmp_ne (A := f_9.toInt) (B := 62) E rfl (by decide) (tgt := 147) dX12_isSo_124 (by decide) (fun c_10 => ?_) (fun c_10 => ?_)
        · skip
          replace hF := q_ifn hF c_10
          refine lv_iload_n hx hb dX12_isSo_147 rfl (lv_at hl 0 rfl) ?_
          refine lv_aload_n hx hb dX12_isSo_148 rfl (lv_at hl 1 rfl) ?_
          refine gs_X12_35_12 E hI ha dX12_isSo_149 ?_
          refine lv_iload_n hx hb dX12_isSo_152 rfl (lv_at hl 2 rfl) ?_
          refine lv_iconst (v := 2) hx hb dX12_isSo_153 zki_2 ?_
          refine lv_iadd hx hb dX12_isSo_154 ?_
          refine lv_topi (fun z_11 ez_11 => ?_)
          replace hF := q_letX hF ez_11
          have iz_11 := q_addI (A := v1.toInt) (B := 2) ez_11 rfl (by decide) (by first | (clear ht hh ta tb if_2 c_3 if_6 c_7 if_9 c_10; omega) | omega) (by first | (clear ht hh ta tb if_2 c_3 if_6 c_7 if_9 c_10; omega) | omega)
          refine q_iald E hI (q_tk (k' := 34) hI ha rfl (Nat.succ_ne_zero _)) ⟨by decide, rfl⟩ (by first | (clear ht hh ta tb if_2 c_3 if_6 c_7 if_9 c_10; omega) | omega) (by rw [q_lnk (v := 4650) hI (q_tk (k' := 34) hI ha rfl (Nat.succ_ne_zero _)) rfl (by decide)]; omega) dX12_isSo_155 ?_
          refine lv_topi (fun f_12 ef_12 => ?_)
          replace hF := q_letX hF ef_12
          have if_12 : f_12.toInt = m_c X σ a (v1.toInt + 2) := m_rd ef_12 iz_11
          refine q_icmp_ne (A := x_4.toInt) (B := f_12.toInt) E rfl rfl (tgt := 163) dX12_isSo_156 (by decide) (fun c_13 => ?_) (fun c_13 => ?_)
          · skip
            replace hF := q_ifn hF c_13
            refine lv_iconst (v := 0) hx hb dX12_isSo_163 zki_0 ?_
            have hrv : (0 : Int32).toInt = 0 := zt_0
            exact q_retz E hr hlk hI ⟨by decide, by decide⟩ ⟨rfl, ⟨by decide, by decide⟩, (hF.trans hout)⟩ dX12_isSo_164
          · skip
            replace hF := q_ifp hF c_13
            refine lv_iconst (v := 1) hx hb dX12_isSo_159 zki_1 ?_
            refine lv_goto (tgt := 164) hx hb dX12_isSo_160 (by decide) ?_
            have hrv : (1 : Int32).toInt = 1 := zt_1
            exact q_retz E hr hlk hI ⟨by decide, by decide⟩ ⟨rfl, ⟨by decide, by decide⟩, (hF.trans hout)⟩ dX12_isSo_164
        · skip
          replace hF := q_ifp hF c_10
          refine lv_iload_n hx hb dX12_isSo_127 rfl (lv_at hl 0 rfl) ?_
          refine lv_aload_n hx hb dX12_isSo_128 rfl (lv_at hl 1 rfl) ?_
          refine gs_X12_35_12 E hI ha dX12_isSo_129 ?_
          refine lv_iload_n hx hb dX12_isSo_132 rfl (lv_at hl 2 rfl) ?_
          refine lv_iconst (v := 2) hx hb dX12_isSo_133 zki_2 ?_
          refine lv_iadd hx hb dX12_isSo_134 ?_
          refine lv_topi (fun z_14 ez_14 => ?_)
          replace hF := q_letX hF ez_14
          have iz_14 := q_addI (A := v1.toInt) (B := 2) ez_14 rfl (by decide) (by first | (clear ht hh ta tb if_2 c_3 if_6 c_7 if_9 c_10; omega) | omega) (by first | (clear ht hh ta tb if_2 c_3 if_6 c_7 if_9 c_10; omega) | omega)
          refine q_iald E hI (q_tk (k' := 34) hI ha rfl (Nat.succ_ne_zero _)) ⟨by decide, rfl⟩ (by first | (clear ht hh ta tb if_2 c_3 if_6 c_7 if_9 c_10; omega) | omega) (by rw [q_lnk (v := 4650) hI (q_tk (k' := 34) hI ha rfl (Nat.succ_ne_zero _)) rfl (by decide)]; omega) dX12_isSo_135 ?_
          refine lv_topi (fun f_15 ef_15 => ?_)
          replace hF := q_letX hF ef_15
          have if_15 : f_15.toInt = m_c X σ a (v1.toInt + 2) := m_rd ef_15 iz_14
          refine q_icmp_le (A := x_4.toInt) (B := f_15.toInt) E rfl rfl (tgt := 143) dX12_isSo_136 (by decide) (fun c_16 => ?_) (fun c_16 => ?_)
          · skip
            replace hF := q_ifn hF (Int.not_lt.mpr c_16)
            refine lv_iconst (v := 0) hx hb dX12_isSo_143 zki_0 ?_
            refine lv_goto (tgt := 164) hx hb dX12_isSo_144 (by decide) ?_
            have hrv : (0 : Int32).toInt = 0 := zt_0
            exact q_retz E hr hlk hI ⟨by decide, by decide⟩ ⟨rfl, ⟨by decide, by decide⟩, (hF.trans hout)⟩ dX12_isSo_164
          · skip
            replace hF := q_ifp hF c_16
            refine lv_iconst (v := 1) hx hb dX12_isSo_139 zki_1 ?_
            refine lv_goto (tgt := 164) hx hb dX12_isSo_140 (by decide) ?_
            have hrv : (1 : Int32).toInt = 1 := zt_1
            exact q_retz E hr hlk hI ⟨by decide, by decide⟩ ⟨rfl, ⟨by decide, by decide⟩, (hF.trans hout)⟩ dX12_isSo_164
      · skip
        replace hF := q_ifp hF c_7
        refine lv_iload_n hx hb dX12_isSo_93 rfl (lv_at hl 0 rfl) ?_
        refine lv_aload_n hx hb dX12_isSo_94 rfl (lv_at hl 1 rfl) ?_
        refine gs_X12_35_12 E hI ha dX12_isSo_95 ?_
        refine lv_iload_n hx hb dX12_isSo_98 rfl (lv_at hl 2 rfl) ?_
        refine lv_iconst (v := 2) hx hb dX12_isSo_99 zki_2 ?_
        refine lv_iadd hx hb dX12_isSo_100 ?_
        refine lv_topi (fun z_17 ez_17 => ?_)
        replace hF := q_letX hF ez_17
        have iz_17 := q_addI (A := v1.toInt) (B := 2) ez_17 rfl (by decide) (by first | (clear ht hh ta tb if_2 c_3 if_6 c_7; omega) | omega) (by first | (clear ht hh ta tb if_2 c_3 if_6 c_7; omega) | omega)
        refine q_iald E hI (q_tk (k' := 34) hI ha rfl (Nat.succ_ne_zero _)) ⟨by decide, rfl⟩ (by first | (clear ht hh ta tb if_2 c_3 if_6 c_7; omega) | omega) (by rw [q_lnk (v := 4650) hI (q_tk (k' := 34) hI ha rfl (Nat.succ_ne_zero _)) rfl (by decide)]; omega) dX12_isSo_101 ?_
        refine lv_topi (fun f_18 ef_18 => ?_)
        replace hF := q_letX hF ef_18
        have if_18 : f_18.toInt = m_c X σ a (v1.toInt + 2) := m_rd ef_18 iz_17
        refine q_icmp_ge (A := x_4.toInt) (B := f_18.toInt) E rfl rfl (tgt := 109) dX12_isSo_102 (by decide) (fun c_19 => ?_) (fun c_19 => ?_)
        · skip
          replace hF := q_ifn hF (Int.not_lt.mpr c_19)
          refine lv_iconst (v := 0) hx hb dX12_isSo_109 zki_0 ?_
          refine lv_goto (tgt := 164) hx hb dX12_isSo_110 (by decide) ?_
          have hrv : (0 : Int32).toInt = 0 := zt_0
          exact q_retz E hr hlk hI ⟨by decide, by decide⟩ ⟨rfl, ⟨by decide, by decide⟩, (hF.trans hout)⟩ dX12_isSo_164
        · skip
          replace hF := q_ifp hF c_19
          refine lv_iconst (v := 1) hx hb dX12_isSo_105 zki_1 ?_
          refine lv_goto (tgt := 164) hx hb dX12_isSo_106 (by decide) ?_
          have hrv : (1 : Int32).toInt = 1 := zt_1
          exact q_retz E hr hlk hI ⟨by decide, by decide⟩ ⟨rfl, ⟨by decide, by decide⟩, (hF.trans hout)⟩ dX12_isSo_164
    refine q_if_ne (A := f_2.toInt) E rfl (tgt := 50) dX12_isSo_32 (by decide) (fun c_20 => ?_) (fun c_20 => ?_)
    · skip
      replace hF := q_ifn hF c_20
      refine lv_iload_n hx hb dX12_isSo_50 rfl (lv_at hl 0 rfl) ?_
      refine lv_iconst (v := 1) hx hb dX12_isSo_51 zki_1 ?_
      refine q_icmp_ne (A := f_2.toInt) (B := 1) E rfl (by decide) (tgt := 62) dX12_isSo_52 (by decide) (fun c_21 => ?_) (fun c_21 => ?_)
      · skip
        replace hF := q_ifn hF c_21
        refine lv_aload_n hx hb dX12_isSo_62 rfl (lv_at hl 1 rfl) ?_
        refine gs_X12_35_12 E hI ha dX12_isSo_63 ?_
        refine lv_bipush (v := 22) hx hb dX12_isSo_66 zkb_22 ?_
        refine lv_aload_n hx hb dX12_isSo_68 rfl (lv_at hl 1 rfl) ?_
        refine gs_X12_35_12 E hI ha dX12_isSo_69 ?_
        refine lv_iload_n hx hb dX12_isSo_72 rfl (lv_at hl 2 rfl) ?_
        refine lv_iconst (v := 1) hx hb dX12_isSo_73 zki_1 ?_
        refine lv_iadd hx hb dX12_isSo_74 ?_
        refine lv_topi (fun z_22 ez_22 => ?_)
        replace hF := q_letX hF ez_22
        have iz_22 := q_addI (A := v1.toInt) (B := 1) ez_22 rfl (by decide) (by first | (clear ht hh ta tb if_2 c_3 c_20 c_21; omega) | omega) (by first | (clear ht hh ta tb if_2 c_3 c_20 c_21; omega) | omega)
        refine q_iald E hI (q_tk (k' := 34) hI ha rfl (Nat.succ_ne_zero _)) ⟨by decide, rfl⟩ (by first | (clear ht hh ta tb if_2 c_3 c_20 c_21; omega) | omega) (by rw [q_lnk (v := 4650) hI (q_tk (k' := 34) hI ha rfl (Nat.succ_ne_zero _)) rfl (by decide)]; omega) dX12_isSo_75 ?_
        refine lv_topi (fun f_23 ef_23 => ?_)
        replace hF := q_letX hF ef_23
        have if_23 : f_23.toInt = m_c X σ a (v1.toInt + 1) := m_rd ef_23 iz_22
        refine lv_iadd hx hb dX12_isSo_76 ?_
        refine lv_topi (fun z_24 ez_24 => ?_)
        replace hF := q_letX hF ez_24
        have iz_24 := q_addI (A := 22) (B := (m_c X σ a (v1.toInt + 1))) ez_24 (by decide) if_23 (by first | (clear hw ht hh iz_1 iz_22 if_23; omega) | omega) (by first | (clear hw ht hh iz_1 iz_22 if_23; omega) | omega)
        refine q_iald E hI (q_tk (k' := 34) hI ha rfl (Nat.succ_ne_zero _)) ⟨by decide, rfl⟩ (by first | (clear hw ht hh iz_1 iz_22 if_23; omega) | omega) (by rw [q_lnk (v := 4650) hI (q_tk (k' := 34) hI ha rfl (Nat.succ_ne_zero _)) rfl (by decide)]; omega) dX12_isSo_77 ?_
        refine lv_topi (fun f_25 ef_25 => ?_)
        replace hF := q_letX hF ef_25
        have if_25 : f_25.toInt = m_c X σ a (22 + (m_c X σ a (v1.toInt + 1))) := m_rd ef_25 iz_24
        exact J_78_4 f_25 _ _ ls hF hI (lv_sub hl [1, 2, 0] rfl)
      · skip
        replace hF := q_ifp hF c_21
        refine lv_aload_n hx hb dX12_isSo_55 rfl (lv_at hl 1 rfl) ?_
        refine q_ci (q_rV11_0 (rest := []) E (hml.trans hl.1.symm) hI (c_X12_heapMany l X σ a ha hG) kv_X12_287 ha ⟨Nat.le_of_ble_eq_true rfl, Nat.le_of_ble_eq_true rfl⟩ (Nat.le_of_ble_eq_true rfl) dX12_isSo_56) hI (Nat.le_of_ble_eq_true rfl) (fun r_26 σ_27 H locs hpσ_27 hkσ_27 hI => ?_)
        have ahpσ_27 := hpσ_27.1
        have bhpσ_27 := hpσ_27.2.1
        have chpσ_27 := hpσ_27.2.2.1
        have dhpσ_27 := hpσ_27.2.2.2
        clear hpσ_27
        replace hI := q_Irw ahpσ_27 hI
        replace hF := q_letX hF dhpσ_27
        refine lv_goto (tgt := 78) hx hb dX12_isSo_59 (by decide) ?_
        exact J_78_4 r_26 _ _ ls hF hI (lv_sub hl [1, 2, 0] rfl)
    · skip
      replace hF := q_ifp hF c_20
      refine lv_aload_n hx hb dX12_isSo_35 rfl (lv_at hl 1 rfl) ?_
      refine lv_aload_n hx hb dX12_isSo_36 rfl (lv_at hl 1 rfl) ?_
      refine gs_X12_35_12 E hI ha dX12_isSo_37 ?_
      refine lv_iload_n hx hb dX12_isSo_40 rfl (lv_at hl 2 rfl) ?_
      refine lv_iconst (v := 1) hx hb dX12_isSo_41 zki_1 ?_
      refine lv_iadd hx hb dX12_isSo_42 ?_
      refine lv_topi (fun z_28 ez_28 => ?_)
      replace hF := q_letX hF ez_28
      have iz_28 := q_addI (A := v1.toInt) (B := 1) ez_28 rfl (by decide) (by first | (clear ht hh ta tb if_2 c_3 c_20; omega) | omega) (by first | (clear ht hh ta tb if_2 c_3 c_20; omega) | omega)
      refine q_iald E hI (q_tk (k' := 34) hI ha rfl (Nat.succ_ne_zero _)) ⟨by decide, rfl⟩ (by first | (clear ht hh ta tb if_2 c_3 c_20; omega) | omega) (by rw [q_lnk (v := 4650) hI (q_tk (k' := 34) hI ha rfl (Nat.succ_ne_zero _)) rfl (by decide)]; omega) dX12_isSo_43 ?_
      refine lv_topi (fun f_29 ef_29 => ?_)
      replace hF := q_letX hF ef_29
      have if_29 : f_29.toInt = m_c X σ a (v1.toInt + 1) := m_rd ef_29 iz_28
      refine q_ci (q_rV11_1 (rest := []) E (hml.trans hl.1.symm) hI (c_X12_cardsOf l X σ a f_29 ha hG (by first | (clear hw ht hh ta iz_1 iz_28; omega) | omega)) kv_X12_293 ha ⟨Nat.le_of_ble_eq_true rfl, Nat.le_of_ble_eq_true rfl⟩ (Nat.le_of_ble_eq_true rfl) dX12_isSo_44) hI (Nat.le_of_ble_eq_true rfl) (fun r_30 σ_31 H locs hpσ_31 hkσ_31 hI => ?_)
      have ahpσ_31 := hpσ_31.1
      have bhpσ_31 := hpσ_31.2.1
      have chpσ_31 := hpσ_31.2.2.1
      have dhpσ_31 := hpσ_31.2.2.2
      clear hpσ_31
      replace hI := q_Irw ahpσ_31 hI
      replace hF := q_letX hF dhpσ_31
      refine lv_goto (tgt := 78) hx hb dX12_isSo_47 (by decide) ?_
      exact J_78_4 r_30 _ _ ls hF hI (lv_sub hl [1, 2, 0] rfl)
  · skip
    replace hF := q_ifp hF c_3
    refine lv_aload_n hx hb dX12_isSo_15 rfl (lv_at hl 1 rfl) ?_
    refine gs_X12_35_12 E hI ha dX12_isSo_16 ?_
    refine lv_bipush (v := 8) hx hb dX12_isSo_19 zkb_8 ?_
    refine q_iald E hI (q_tk (k' := 34) hI ha rfl (Nat.succ_ne_zero _)) ⟨by decide, rfl⟩ (by decide) (by rw [q_lnk (v := 4650) hI (q_tk (k' := 34) hI ha rfl (Nat.succ_ne_zero _)) rfl (by decide)]; decide) dX12_isSo_21 ?_
    refine lv_topi (fun f_32 ef_32 => ?_)
    replace hF := q_letX hF ef_32
    have if_32 : f_32.toInt = m_c X σ a 8 := m_rd ef_32 (by decide)
    refine q_if_lt (A := f_32.toInt) E rfl (tgt := 29) dX12_isSo_22 (by decide) (fun c_33 => ?_) (fun c_33 => ?_)
    · skip
      replace hF := q_ifp hF c_33
      refine lv_iconst (v := 0) hx hb dX12_isSo_29 zki_0 ?_
      have hrv : (0 : Int32).toInt = 0 := zt_0
      exact q_retz E hr hlk hI ⟨by decide, by decide⟩ ⟨rfl, ⟨by decide, by decide⟩, (hF.trans hout)⟩ dX12_isSo_30
    · skip
      replace hF := q_ifn hF (Int.not_lt.mpr c_33)
      refine lv_iconst (v := 1) hx hb dX12_isSo_25 zki_1 ?_
      refine lv_goto (tgt := 30) hx hb dX12_isSo_26 (by decide) ?_
      have hrv : (1 : Int32).toInt = 1 := zt_1
      exact q_retz E hr hlk hI ⟨by decide, by decide⟩ ⟨rfl, ⟨by decide, by decide⟩, (hF.trans hout)⟩ dX12_isSo_30
end
/-! FROM 42.odds.a.lean.txt -/
section
section QS
variable {p : Program} {l : Launch} {e : Env} {R : Room} {s : State} {m : MethodId} {args : Array Value} {below : List Frame} {meth : Method} {c : Code} {H : Heap} {locs : List Loc} {cells slots : Nat} {Q : State → Prop} {cc : ByteArray} {X : XW} {n : Nat} {σ0 σ : ST} {H0 : Heap} {pc : Nat} {ls : Array Slot} {rest : List Value} {a : Nat}
theorem ks_X12_342 : q_okS RX12 342 yX12_choose cX12_choose 5 (some .long) 2 := ⟨(q_in_t9 (i := 25) (by first | rfl | decide +kernel) rfl), (q_in_t9 (i := 26) (by first | rfl | decide +kernel) rfl), (q_in_t1 (i := 14) (by first | rfl | decide +kernel) rfl), (q_in_t9 (i := 27) (by first | rfl | decide +kernel) rfl), ⟨by decide, by decide, rfl⟩⟩
theorem ps_X12_346_12 (E : q_E p c cc s m args RX12 X) (hI : q_I X n σ0 H0 locs σ H) (ha : q_kd X a = 12) {v : Int64} (hdg : decode cc pc = .ok (.putfield 346, 3)) (kk : ∀ (H1 : Heap) (locs1 : List Loc) (σ1 : ST), σ1 = q_sl σ a 30 v → q_I X n σ0 H0 locs1 σ1 H1 → W p l e R s m args below meth c H1 locs1 cells slots Q (F0 m (pc + 3) ls rest)) : W p l e R s m args below meth c H locs cells slots Q (F0 m pc ls (.long v :: .ref a :: rest)) :=
  q_putl E hI ha ⟨rfl, by decide⟩ (show vwCl[11]? = some (RX12, TX12, 46) from rfl) q_inX12 tyX12_ok nmX12 (f := 30) (by decide) (q_in_t7 (i := 15) (by first | rfl | decide +kernel) rfl) (Or.inl rfl) rfl rfl rfl hdg (fun H1 l1 h => kk H1 l1 _ rfl h)
theorem kv_X12_339 : q_okV RX12 339 RX12 yX12_unknownAll cX12_unknownAll 4 (some .int) 1 := ⟨(q_in_t8 (i := 237) (by first | rfl | decide +kernel) rfl), (q_in_t8 (i := 239) (by first | rfl | decide +kernel) rfl), (q_in_p (i := 95) (by decide +kernel) rfl), (q_in_t1 (i := 14) (by first | rfl | decide +kernel) rfl), (q_in_t9 (i := 0) (by first | rfl | decide +kernel) rfl), ⟨rfl, by decide, by decide, rfl⟩⟩
theorem ps_X12_349_12 (E : q_E p c cc s m args RX12 X) (hI : q_I X n σ0 H0 locs σ H) (ha : q_kd X a = 12) {v : Int64} (hdg : decode cc pc = .ok (.putfield 349, 3)) (kk : ∀ (H1 : Heap) (locs1 : List Loc) (σ1 : ST), σ1 = q_sl σ a 31 v → q_I X n σ0 H0 locs1 σ1 H1 → W p l e R s m args below meth c H1 locs1 cells slots Q (F0 m (pc + 3) ls rest)) : W p l e R s m args below meth c H locs cells slots Q (F0 m pc ls (.long v :: .ref a :: rest)) :=
  q_putl E hI ha ⟨rfl, by decide⟩ (show vwCl[11]? = some (RX12, TX12, 46) from rfl) q_inX12 tyX12_ok nmX12 (f := 31) (by decide) (q_in_t7 (i := 16) (by first | rfl | decide +kernel) rfl) (Or.inl rfl) rfl rfl rfl hdg (fun H1 l1 h => kk H1 l1 _ rfl h)
theorem kv_X12_284 : q_okV RX12 284 RX12 yX12_refuse cX12_refuse 2 (some .int) 1 := ⟨(q_in_t8 (i := 116) (by first | rfl | decide +kernel) rfl), (q_in_t8 (i := 118) (by first | rfl | decide +kernel) rfl), (q_in_p (i := 78) (by decide +kernel) rfl), (q_in_t1 (i := 14) (by first | rfl | decide +kernel) rfl), (q_in_t8 (i := 119) (by first | rfl | decide +kernel) rfl), ⟨rfl, by decide, by decide, rfl⟩⟩
theorem kv_X12_299 : q_okV RX12 299 RX12 yX12_isKindAt cX12_isKindAt 2 (some .boolean) 1 := ⟨(q_in_t8 (i := 151) (by first | rfl | decide +kernel) rfl), (q_in_t8 (i := 153) (by first | rfl | decide +kernel) rfl), (q_in_p (i := 84) (by decide +kernel) rfl), (q_in_t1 (i := 14) (by first | rfl | decide +kernel) rfl), (q_in_t8 (i := 154) (by first | rfl | decide +kernel) rfl), ⟨rfl, by decide, by decide, rfl⟩⟩
theorem kv_X12_305 : q_okV RX12 305 RX12 yX12_sortOf cX12_sortOf 5 (some .int) 1 := ⟨(q_in_t8 (i := 168) (by first | rfl | decide +kernel) rfl), (q_in_t8 (i := 170) (by first | rfl | decide +kernel) rfl), (q_in_p (i := 86) (by decide +kernel) rfl), (q_in_t1 (i := 14) (by first | rfl | decide +kernel) rfl), (q_in_t8 (i := 171) (by first | rfl | decide +kernel) rfl), ⟨rfl, by decide, by decide, rfl⟩⟩
theorem kv_X12_308 : q_okV RX12 308 RX12 yX12_isTray cX12_isTray 2 (some .boolean) 1 := ⟨(q_in_t8 (i := 180) (by first | rfl | decide +kernel) rfl), (q_in_t8 (i := 182) (by first | rfl | decide +kernel) rfl), (q_in_p (i := 87) (by decide +kernel) rfl), (q_in_t1 (i := 14) (by first | rfl | decide +kernel) rfl), (q_in_t8 (i := 183) (by first | rfl | decide +kernel) rfl), ⟨rfl, by decide, by decide, rfl⟩⟩
theorem kv_X12_352 : q_okV RX12 352 RX12 yX12_whyNot cX12_whyNot 2 (some .int) 1 := ⟨(q_in_t9 (i := 9) (by first | rfl | decide +kernel) rfl), (q_in_t9 (i := 11) (by first | rfl | decide +kernel) rfl), (q_in_p (i := 97) (by decide +kernel) rfl), (q_in_t1 (i := 14) (by first | rfl | decide +kernel) rfl), (q_in_t9 (i := 12) (by first | rfl | decide +kernel) rfl), ⟨rfl, by decide, by decide, rfl⟩⟩
theorem kv_X12_355 : q_okV RX12 355 RX12 yX12_isImpossible cX12_isImpossible 2 (some .boolean) 1 := ⟨(q_in_t9 (i := 13) (by first | rfl | decide +kernel) rfl), (q_in_t9 (i := 15) (by first | rfl | decide +kernel) rfl), (q_in_p (i := 98) (by decide +kernel) rfl), (q_in_t1 (i := 14) (by first | rfl | decide +kernel) rfl), (q_in_t9 (i := 16) (by first | rfl | decide +kernel) rfl), ⟨rfl, by decide, by decide, rfl⟩⟩
theorem kv_X12_358 : q_okV RX12 358 RX12 yX12_blinds cX12_blinds 3 none 1 := ⟨(q_in_t9 (i := 21) (by first | rfl | decide +kernel) rfl), (q_in_t9 (i := 23) (by first | rfl | decide +kernel) rfl), (q_in_p (i := 99) (by decide +kernel) rfl), (q_in_t1 (i := 14) (by first | rfl | decide +kernel) rfl), (q_in_t9 (i := 24) (by first | rfl | decide +kernel) rfl), ⟨rfl, by decide, by decide, rfl⟩⟩
theorem gs_X12_346_12 (E : q_E p c cc s m args RX12 X) (hI : q_I X n σ0 H0 locs σ H) (ha : q_kd X a = 12) (hdg : decode cc pc = .ok (.getfield 346, 3)) (kk : W p l e R s m args below meth c H locs cells slots Q (F0 m (pc + 3) ls (.long (σ.2.1 a 30) :: rest))) : W p l e R s m args below meth c H locs cells slots Q (F0 m pc ls (.ref a :: rest)) :=
  q_getf (ref := "CheatHeapModel") E hI ha ⟨rfl, by decide⟩ (show vwCl[11]? = some (RX12, TX12, 46) from rfl) q_inX12 (f := 30) (by decide) (q_in_t7 (i := 15) (by first | rfl | decide +kernel) rfl) (Or.inl rfl) rfl hdg kk
theorem gs_X12_349_12 (E : q_E p c cc s m args RX12 X) (hI : q_I X n σ0 H0 locs σ H) (ha : q_kd X a = 12) (hdg : decode cc pc = .ok (.getfield 349, 3)) (kk : W p l e R s m args below meth c H locs cells slots Q (F0 m (pc + 3) ls (.long (σ.2.1 a 31) :: rest))) : W p l e R s m args below meth c H locs cells slots Q (F0 m pc ls (.ref a :: rest)) :=
  q_getf (ref := "CheatHeapModel") E hI ha ⟨rfl, by decide⟩ (show vwCl[11]? = some (RX12, TX12, 46) from rfl) q_inX12 (f := 31) (by decide) (q_in_t7 (i := 16) (by first | rfl | decide +kernel) rfl) (Or.inl rfl) rfl hdg kk
theorem kv_X12_361 : q_okV RX12 361 RX12 yX12_fraction cX12_fraction 11 (some .boolean) 2 := ⟨(q_in_t9 (i := 28) (by first | rfl | decide +kernel) rfl), (q_in_t9 (i := 30) (by first | rfl | decide +kernel) rfl), (q_in_p (i := 100) (by decide +kernel) rfl), (q_in_t1 (i := 14) (by first | rfl | decide +kernel) rfl), (q_in_t9 (i := 31) (by first | rfl | decide +kernel) rfl), ⟨rfl, by decide, by decide, rfl⟩⟩
end QS
end
/-! FROM 42.odds.b00.lean.txt -/
section
set_option maxRecDepth 100000 in
set_option maxHeartbeats 4000000 in
theorem c_X12_blinds (l : Launch) (X : XW) (σ : ST) (a : Nat) (v1 : Int32) (ha : q_kd X a = 12) (hG : m_G (m_c X σ a)) (h0 : 0 ≤ v1.toInt ∧ v1.toInt < m_c X σ a 2) (ho : m_c X σ a 7 = 1) (hp : v1.toInt ≠ m_c X σ a 6) : Met l yX12_blinds (q_ws yX12_blinds cX12_blinds 3 none) (q_rm 5 114) (q_P X σ [.ref a, .int v1]) (q_Qv X 8 σ (fun (σ' : ST) => (0 ≤ (σ'.2.1 a 30).toInt ∧ (σ'.2.1 a 30).toInt ≤ 409600000000 ∧ 1 ≤ (σ'.2.1 a 31).toInt ∧ (σ'.2.1 a 31).toInt ≤ 409600000000) ∧ σ' = F_X12_blinds X σ a v1 ∧ q_ow [] [(12, 30), (12, 31)] X σ σ')) 0 0 (q_reg X) := by
  refine q_met 8 (by first | exact rfl | decide +kernel) rfl (Nat.le_of_ble_eq_true rfl) (fun p e s m below meth c E hml hr hlk hI ls hl => ?_)
  have hx := E.1
  have hb := E.2.1
  have hl : lv_has ls 3 [(0, .ref a), (1, .int v1)] := hl
  have feσ : m_c X σ a = m_c X σ a := rfl
  have fr_σ : q_ow [] [(12, 30), (12, 31)] X σ σ := q_ow.rf
  have hh := hG.hd
  have vo := hG.V_open (p := v1.toInt) (by first | (clear h0 ho hp hh; omega) | omega) (by first | (clear h0 ho hp hh; omega) | omega) ho hp
  obtain ⟨out, hout⟩ : ∃ o, o = F_X12_blinds X σ a v1 := ⟨_, rfl⟩
  have hF := hout.symm
  unfold F_X12_blinds at hF
  refine lv_aload_n hx hb dX12_blinds_0 rfl (lv_at hl 0 rfl) ?_
  refine gs_X12_35_12 E hI ha dX12_blinds_1 ?_
  refine lv_aload_n hx hb dX12_blinds_4 rfl (lv_at hl 0 rfl) ?_
  refine gs_X12_35_12 E hI ha dX12_blinds_5 ?_
  refine lv_bipush (v := 9) hx hb dX12_blinds_8 zkb_9 ?_
  refine q_iald E hI (q_tk (k' := 34) hI ha rfl (Nat.succ_ne_zero _)) ⟨by decide, rfl⟩ (by decide) (by rw [q_lnk (v := 4650) hI (q_tk (k' := 34) hI ha rfl (Nat.succ_ne_zero _)) rfl (by decide)]; decide) dX12_blinds_10 ?_
  refine lv_topi (fun f_1 ef_1 => ?_)
  replace hF := q_letX hF ef_1
  have if_1 : f_1.toInt = m_c X σ a 9 := m_rd ef_1 (by decide)
  refine lv_iconst (v := 1) hx hb dX12_blinds_11 zki_1 ?_
  refine lv_isub hx hb dX12_blinds_12 ?_
  refine lv_topi (fun z_2 ez_2 => ?_)
  replace hF := q_letX hF ez_2
  have iz_2 := q_subI (A := (m_c X σ a 9)) (B := 1) ez_2 if_1 (by decide) (by first | (clear h0 hp vo; omega) | omega) (by first | (clear h0 hp vo; omega) | omega)
  refine q_ci (q_runS (As := [.int z_2]) (rest := [.ref (q_rf X a 20)]) E (hml.trans hl.1.symm) hI (c_X12_laid l X σ z_2 (by first | (clear h0 hp vo; omega) | omega)) ks_X12_279 rfl ⟨Nat.le_of_ble_eq_true rfl, Nat.le_of_ble_eq_true rfl⟩ ⟨Nat.le_refl _, Nat.le_refl _⟩ rfl (Nat.le_of_ble_eq_true rfl) dX12_blinds_13) hI (Nat.le_of_ble_eq_true rfl) (fun r_3 σ_4 H locs hpσ_4 hkσ_4 hI => ?_)
  have ahpσ_4 := hpσ_4.1
  have bhpσ_4 := hpσ_4.2.1
  have chpσ_4 := hpσ_4.2.2
  clear hpσ_4
  replace hI := q_Irw ahpσ_4 hI
  replace hF := q_letX hF chpσ_4
  have ir_3 : r_3.toInt = (94 + 7 * ((m_c X σ a 9) - 1)) := (by first | (clear h0 ho hp hh vo ahpσ_4 chpσ_4; omega) | omega)
  refine lv_iconst (v := 2) hx hb dX12_blinds_16 zki_2 ?_
  refine lv_iadd hx hb dX12_blinds_17 ?_
  refine lv_topi (fun z_5 ez_5 => ?_)
  replace hF := q_letX hF ez_5
  have iz_5 := q_addI (A := (94 + 7 * ((m_c X σ a 9) - 1))) (B := 2) ez_5 ir_3 (by decide) (by first | (clear h0 hp vo ahpσ_4 bhpσ_4 chpσ_4 ir_3; omega) | omega) (by first | (clear h0 hp vo ahpσ_4 bhpσ_4 chpσ_4 ir_3; omega) | omega)
  refine q_iald E hI (q_tk (k' := 34) hI ha rfl (Nat.succ_ne_zero _)) ⟨by decide, rfl⟩ (by first | (clear h0 hp vo ahpσ_4 bhpσ_4 chpσ_4 ir_3; omega) | omega) (by rw [q_lnk (v := 4650) hI (q_tk (k' := 34) hI ha rfl (Nat.succ_ne_zero _)) rfl (by decide)]; omega) dX12_blinds_18 ?_
  refine lv_topi (fun f_6 ef_6 => ?_)
  replace hF := q_letX hF ef_6
  have if_6 : f_6.toInt = m_c X σ a ((94 + 7 * ((m_c X σ a 9) - 1)) + 2) := m_rd ef_6 iz_5
  refine lv_istore_n (lv' := [(2, .int f_6), (0, .ref a), (1, .int v1)]) hx hb dX12_blinds_19 rfl hl (by decide) rfl (fun ls hl => ?_)
  refine lv_aload_n hx hb dX12_blinds_20 rfl (lv_at hl 1 rfl) ?_
  refine lv_aload_n hx hb dX12_blinds_21 rfl (lv_at hl 1 rfl) ?_
  refine lv_iload_n hx hb dX12_blinds_22 rfl (lv_at hl 2 rfl) ?_
  refine lv_aload_n hx hb dX12_blinds_23 rfl (lv_at hl 1 rfl) ?_
  refine gs_X12_35_12 E hI ha dX12_blinds_24 ?_
  refine lv_iconst (v := 5) hx hb dX12_blinds_27 zki_5 ?_
  refine q_iald E hI (q_tk (k' := 34) hI ha rfl (Nat.succ_ne_zero _)) ⟨by decide, rfl⟩ (by decide) (by rw [q_lnk (v := 4650) hI (q_tk (k' := 34) hI ha rfl (Nat.succ_ne_zero _)) rfl (by decide)]; decide) dX12_blinds_28 ?_
  refine lv_topi (fun f_7 ef_7 => ?_)
  replace hF := q_letX hF ef_7
  have if_7 : f_7.toInt = m_c X σ a 5 := m_rd ef_7 (by decide)
  refine q_ci (q_rV11_2 (rest := [.ref a]) E (hml.trans hl.1.symm) hI (c_X12_unknownOf l X σ a v1 f_7 ha hG (by omega) (by first | (clear h0 ho hp vo if_1 iz_2 ahpσ_4 bhpσ_4 chpσ_4 ir_3 iz_5 if_6; omega) | omega)) kv_X12_336 ha ⟨Nat.le_of_ble_eq_true rfl, Nat.le_of_ble_eq_true rfl⟩ (Nat.le_of_ble_eq_true rfl) dX12_blinds_29) hI (Nat.le_of_ble_eq_true rfl) (fun r_8 σ_9 H locs hpσ_9 hkσ_9 hI => ?_)
  have ahpσ_9 := hpσ_9.1
  have bhpσ_9 := hpσ_9.2.1
  have chpσ_9 := hpσ_9.2.2.1
  have dhpσ_9 := hpσ_9.2.2.2
  clear hpσ_9
  replace hI := q_Irw ahpσ_9 hI
  replace hF := q_letX hF dhpσ_9
  have ir_8 : r_8.toInt = (m_U (m_c X σ a) v1.toInt (m_c X σ a 5)) := (by first | exact bhpσ_9 | (rw [bhpσ_9, if_7]) | (simp only [bhpσ_9, if_7]))
  refine lv_iload_n hx hb dX12_blinds_32 rfl (lv_at hl 0 rfl) ?_
  refine q_cl_ (q_runS (As := [.int r_8, .int f_6]) (rest := [.ref a]) E (hml.trans hl.1.symm) hI (c_X12_choose l X σ r_8 f_6 (by first | (clear h0 ho hp hh vo if_1 iz_2 ahpσ_4 bhpσ_4 chpσ_4 ir_3 iz_5 if_6 if_7 ahpσ_9 dhpσ_9; omega) | omega) (by first | (clear h0 ho hp hh if_1 iz_2 ahpσ_4 bhpσ_4 chpσ_4 ir_3 iz_5 if_7 ahpσ_9 bhpσ_9 chpσ_9 dhpσ_9 ir_8; omega) | omega)) ks_X12_342 rfl ⟨Nat.le_of_ble_eq_true rfl, Nat.le_of_ble_eq_true rfl⟩ ⟨Nat.le_refl _, Nat.le_refl _⟩ rfl (Nat.le_of_ble_eq_true rfl) dX12_blinds_33) hI (Nat.le_of_ble_eq_true rfl) (fun r_10 σ_11 H locs hpσ_11 hkσ_11 hI => ?_)
  have ahpσ_11 := hpσ_11.1
  have bhpσ_11 := hpσ_11.2.1
  have chpσ_11 := hpσ_11.2.2.1
  have dhpσ_11 := hpσ_11.2.2.2
  clear hpσ_11
  replace hI := q_Irw ahpσ_11 hI
  replace hF := q_letX hF dhpσ_11
  refine ps_X12_346_12 E hI ha  dX12_blinds_36 (fun H locs σ_12 hσ_12 hI => ?_)
  replace hF := q_letX hF hσ_12
  have fr_σ_12 := fr_σ.sl hσ_12 ha rfl
  have mcσ_12 := m_wl (X := X) hσ_12 a
  have feσ_12 : m_c X σ_12 a = m_c X σ a := (funext mcσ_12).trans feσ
  have btσ_12 : 0 ≤ (σ_12.2.1 a 30).toInt ∧ (σ_12.2.1 a 30).toInt ≤ 409600000000 := (by rw [m_ll hσ_12]; omega)
  refine lv_aload_n hx hb dX12_blinds_39 rfl (lv_at hl 1 rfl) ?_
  refine lv_aload_n hx hb dX12_blinds_40 rfl (lv_at hl 1 rfl) ?_
  refine lv_iload_n hx hb dX12_blinds_41 rfl (lv_at hl 2 rfl) ?_
  refine q_ci (q_rV11_1 (rest := [.ref a]) E (hml.trans hl.1.symm) hI (c_X12_unknownAll l X σ_12 a v1 ha (by rw [feσ_12]; exact hG) (by rw [feσ_12]; exact (by omega))) kv_X12_339 ha ⟨Nat.le_of_ble_eq_true rfl, Nat.le_of_ble_eq_true rfl⟩ (Nat.le_of_ble_eq_true rfl) dX12_blinds_42) hI (Nat.le_of_ble_eq_true rfl) (fun r_13 σ_14 H locs hpσ_14 hkσ_14 hI => ?_)
  have ahpσ_14 := hpσ_14.1
  have bhpσ_14 := hpσ_14.2.1
  have chpσ_14 := hpσ_14.2.2.1
  have dhpσ_14 := hpσ_14.2.2.2
  clear hpσ_14
  replace hI := q_Irw ahpσ_14 hI
  rw [feσ_12] at bhpσ_14
  replace hF := q_letX hF dhpσ_14
  have ir_13 : r_13.toInt = (m_V (m_c X σ a) v1.toInt (m_c X σ a 0).toNat) := (by first | exact bhpσ_14 | (rw [bhpσ_14]) | (simp only [bhpσ_14]))
  refine lv_iload_n hx hb dX12_blinds_45 rfl (lv_at hl 0 rfl) ?_
  refine q_cl_ (q_runS (As := [.int r_13, .int f_6]) (rest := [.ref a]) E (hml.trans hl.1.symm) hI (c_X12_choose l X σ_12 r_13 f_6 (by omega) (by first | (clear h0 ho hp hh if_1 iz_2 ahpσ_4 bhpσ_4 chpσ_4 ir_3 iz_5 if_7 ahpσ_9 bhpσ_9 chpσ_9 dhpσ_9 ir_8 ahpσ_11 bhpσ_11 chpσ_11 dhpσ_11 ahpσ_14 bhpσ_14 chpσ_14 dhpσ_14 ir_13; omega) | omega)) ks_X12_342 rfl ⟨Nat.le_of_ble_eq_true rfl, Nat.le_of_ble_eq_true rfl⟩ ⟨Nat.le_refl _, Nat.le_refl _⟩ rfl (Nat.le_of_ble_eq_true rfl) dX12_blinds_46) hI (Nat.le_of_ble_eq_true rfl) (fun r_15 σ_16 H locs hpσ_16 hkσ_16 hI => ?_)
  have ahpσ_16 := hpσ_16.1
  have bhpσ_16 := hpσ_16.2.1
  have chpσ_16 := hpσ_16.2.2.1
  have dhpσ_16 := hpσ_16.2.2.2
  clear hpσ_16
  replace hI := q_Irw ahpσ_16 hI
  replace hF := q_letX hF dhpσ_16
  refine ps_X12_349_12 E hI ha  dX12_blinds_49 (fun H locs σ_17 hσ_17 hI => ?_)
  replace hF := q_letX hF hσ_17
  have fr_σ_17 := fr_σ_12.sl hσ_17 ha rfl
  have mcσ_17 := m_wl (X := X) hσ_17 a
  have feσ_17 : m_c X σ_17 a = m_c X σ a := (funext mcσ_17).trans feσ_12
  have btσ_17 : 0 ≤ (σ_17.2.1 a 30).toInt ∧ (σ_17.2.1 a 30).toInt ≤ 409600000000 := (by rw [m_lln hσ_17 (Or.inr (by decide))]; exact btσ_12)
  have bbσ_17 : 1 ≤ (σ_17.2.1 a 31).toInt ∧ (σ_17.2.1 a 31).toInt ≤ 409600000000 := (by rw [m_ll hσ_17]; omega)
  exact q_retv E hr hlk hI ⟨⟨btσ_17.1, btσ_17.2, bbσ_17.1, bbσ_17.2⟩, (hF.trans hout), fr_σ_17⟩ dX12_blinds_52

set_option maxRecDepth 100000 in
set_option maxHeartbeats 4000000 in
theorem c_X12_many (l : Launch) (X : XW) (σ : ST) (a : Nat) (v1 : Int32) (ha : q_kd X a = 12) (hG : m_G (m_c X σ a)) : Met l yX12_many (q_ws yX12_many cX12_many 2 (some .int)) (q_rm 2 42) (q_P X σ [.ref a, .int v1]) (q_Qi X 8 σ (fun (r : Int32) (σ' : ST) => (r, σ') = F_X12_many X σ a v1 ∧ q_ow [(12, 0), (12, 1)] [] X σ σ')) 0 0 (q_reg X) := by
  refine q_met 8 (by first | exact rfl | decide +kernel) rfl (Nat.le_of_ble_eq_true rfl) (fun p e s m below meth c E hml hr hlk hI ls hl => ?_)
  have hx := E.1
  have hb := E.2.1
  have hl : lv_has ls 2 [(0, .ref a), (1, .int v1)] := hl
  have feσ : m_c X σ a = m_c X σ a := rfl
  have fr_σ : q_ow [(12, 0), (12, 1)] [] X σ σ := q_ow.rf
  have hh := hG.hd
  obtain ⟨out, hout⟩ : ∃ o, o = F_X12_many X σ a v1 := ⟨_, rfl⟩
  have hF := hout.symm
  unfold F_X12_many at hF
  refine lv_aload_n hx hb dX12_many_0 rfl (lv_at hl 0 rfl) ?_
  refine lv_iconst (v := 0) hx hb dX12_many_1 zki_0 ?_
  refine ps_X12_59_12 E hI ha (by decide) dX12_many_2 (fun H locs σ_1 hσ_1 hI => ?_)
  replace hF := q_letX hF hσ_1
  have fr_σ_1 := fr_σ.si hσ_1 ha rfl
  have mcσ_1 := m_wo hσ_1 (m_ne ha (q_tk (f := 20) (k' := 34) hI ha rfl (by decide)) (by decide))
  have feσ_1 : m_c X σ_1 a = m_c X σ a := (funext mcσ_1).trans feσ
  refine lv_aload_n hx hb dX12_many_5 rfl (lv_at hl 0 rfl) ?_
  refine lv_iconst (v := 0) hx hb dX12_many_6 zki_0 ?_
  refine ps_X12_62_12 E hI ha (by decide) dX12_many_7 (fun H locs σ_2 hσ_2 hI => ?_)
  replace hF := q_letX hF hσ_2
  have fr_σ_2 := fr_σ_1.si hσ_2 ha rfl
  have mcσ_2 := m_wo hσ_2 (m_ne ha (q_tk (f := 20) (k' := 34) hI ha rfl (by decide)) (by decide))
  have feσ_2 : m_c X σ_2 a = m_c X σ a := (funext mcσ_2).trans feσ_1
  refine lv_iload_n hx hb dX12_many_10 rfl (lv_at hl 1 rfl) ?_
  refine lv_i2l hx hb dX12_many_11 rfl ?_
  refine lv_topl (fun y_3 ey_3 => ?_)
  replace hF := q_letX hF ey_3
  have ggy_3 := q_rng v1
  have iy_3 : y_3.toInt = v1.toInt := by rw [ey_3]; exact (q_i2l _).trans rfl
  refine lv_lconst (v := 0) hx hb dX12_many_12 (by decide) ?_
  refine lv_ldc2 (v := 10) hx hb E.2.2.1 (E.2.2.2.1 _ (q_in_t8 (i := 115) (by first | rfl | decide +kernel) rfl)) dX12_many_13 ?_
  have kc_4 : (0 : Int64).toInt = 0 := rfl
  have kc_5 : (10 : Int64).toInt = 10 := rfl
  refine q_ci (q_runS (As := [.long y_3, .long 0, .long 10]) (rest := []) E (hml.trans hl.1.symm) hI (c_X12_isIn l X σ_2 y_3 (0 : Int64) (10 : Int64)) ks_X12_94 rfl ⟨Nat.le_of_ble_eq_true rfl, Nat.le_of_ble_eq_true rfl⟩ ⟨Nat.le_refl _, Nat.le_refl _⟩ rfl (Nat.le_of_ble_eq_true rfl) dX12_many_16) hI (Nat.le_of_ble_eq_true rfl) (fun r_6 σ_7 H locs hpσ_7 hkσ_7 hI => ?_)
  have ahpσ_7 := hpσ_7.1
  have bhpσ_7 := hpσ_7.2.1
  have chpσ_7 := hpσ_7.2.2.1
  have dhpσ_7 := hpσ_7.2.2.2
  clear hpσ_7
  replace hI := q_Irw ahpσ_7 hI
  replace hF := q_letX hF dhpσ_7
  refine q_if_ne (A := r_6.toInt) E rfl (tgt := 28) dX12_many_19 (by decide) (fun c_8 => ?_) (fun c_8 => ?_)
  · skip
    replace hF := q_ifn hF c_8
    replace c_8 := q_ifOne bhpσ_7 c_8
    replace chpσ_7 := q_ifYes chpσ_7 c_8
    refine lv_iload_n hx hb dX12_many_28 rfl (lv_at hl 1 rfl) ?_
    by_cases c_9 : v1.toInt = 6
    · refine lv_tableIn (off := 35) (tgt := 64) hx hb dX12_many_29 (by first | (clear hh ggy_3 kc_4 kc_5 ahpσ_7 bhpσ_7 dhpσ_7 c_8 chpσ_7; omega) | omega) (by first | (clear hh ggy_3 kc_4 kc_5 ahpσ_7 bhpσ_7 dhpσ_7 c_8 chpσ_7; omega) | omega) (by rw [c_9]; rfl) (by decide) ?_
      replace hF := q_ifp hF c_9
      refine lv_aload_n hx hb dX12_many_64 rfl (lv_at hl 0 rfl) ?_
      refine gs_X12_35_12 E hI ha dX12_many_65 ?_
      refine lv_bipush (v := 6) hx hb dX12_many_68 zkb_6 ?_
      refine q_iald E hI (q_tk (k' := 34) hI ha rfl (Nat.succ_ne_zero _)) ⟨by decide, rfl⟩ (by decide) (by rw [q_lnk (v := 4650) hI (q_tk (k' := 34) hI ha rfl (Nat.succ_ne_zero _)) rfl (by decide)]; decide) dX12_many_70 ?_
      refine lv_topi (fun f_10 ef_10 => ?_)
      replace hF := q_letX hF ef_10
      have if_10 : f_10.toInt = m_c X σ a 6 := (m_rd ef_10 (by decide)).trans (congrFun feσ_2 _)
      refine q_if_ge (A := f_10.toInt) E rfl (tgt := 83) dX12_many_71 (by decide) (fun c_11 => ?_) (fun c_11 => ?_)
      · skip
        replace hF := q_ifn hF (Int.not_lt.mpr c_11)
        refine lv_aload_n hx hb dX12_many_83 rfl (lv_at hl 0 rfl) ?_
        refine gs_X12_35_12 E hI ha dX12_many_84 ?_
        refine lv_bipush (v := 6) hx hb dX12_many_87 zkb_6 ?_
        refine q_iald E hI (q_tk (k' := 34) hI ha rfl (Nat.succ_ne_zero _)) ⟨by decide, rfl⟩ (by decide) (by rw [q_lnk (v := 4650) hI (q_tk (k' := 34) hI ha rfl (Nat.succ_ne_zero _)) rfl (by decide)]; decide) dX12_many_89 ?_
        refine lv_topi (fun f_12 ef_12 => ?_)
        replace hF := q_letX hF ef_12
        have if_12 : f_12.toInt = m_c X σ a 6 := (m_rd ef_12 (by decide)).trans (congrFun feσ_2 _)
        exact q_reti E hr hlk hI ⟨(hF.trans hout), fr_σ_2⟩ dX12_many_90
      · skip
        replace hF := q_ifp hF c_11
        refine lv_aload_n hx hb dX12_many_74 rfl (lv_at hl 0 rfl) ?_
        refine lv_bipush (v := 8) hx hb dX12_many_75 zkb_8 ?_
        have kc_13 : (8 : Int32).toInt = 8 := zt_8
        refine q_ci (q_rV11_1 (rest := []) E (hml.trans hl.1.symm) hI (c_X12_refuse l X σ_2 a (8 : Int32) ha) kv_X12_284 ha ⟨Nat.le_of_ble_eq_true rfl, Nat.le_of_ble_eq_true rfl⟩ (Nat.le_of_ble_eq_true rfl) dX12_many_77) hI (Nat.le_of_ble_eq_true rfl) (fun r_14 σ_15 H locs hpσ_15 hkσ_15 hI => ?_)
        have ahpσ_15 := hpσ_15.1
        have bhpσ_15 := hpσ_15.2.1
        have chpσ_15 := hpσ_15.2.2
        clear hpσ_15
        have fr_σ_15 := fr_σ_2.call chpσ_15 rfl rfl
        replace hF := q_biX hF bhpσ_15
        have mcσ_15 := m_cK hkσ_15 hI.1 ha (by decide)
        have feσ_15 : m_c X σ_15 a = m_c X σ a := (funext mcσ_15).trans feσ_2
        refine lv_goto (tgt := 90) hx hb dX12_many_80 (by decide) ?_
        exact q_reti E hr hlk hI ⟨(hF.trans hout), fr_σ_15⟩ dX12_many_90
    replace hF := q_ifn hF c_9
    by_cases c_16 : v1.toInt = 7
    · refine lv_tableIn (off := 62) (tgt := 91) hx hb dX12_many_29 (by first | (clear hh ggy_3 kc_4 kc_5 ahpσ_7 bhpσ_7 dhpσ_7 c_8 chpσ_7; omega) | omega) (by first | (clear hh ggy_3 kc_4 kc_5 ahpσ_7 bhpσ_7 dhpσ_7 c_8 chpσ_7; omega) | omega) (by rw [c_16]; rfl) (by decide) ?_
      replace hF := q_ifp hF c_16
      refine lv_aload_n hx hb dX12_many_91 rfl (lv_at hl 0 rfl) ?_
      refine q_ci (q_rV11_0 (rest := []) E (hml.trans hl.1.symm) hI (c_X12_heapMany l X σ_2 a ha (by rw [feσ_2]; exact hG)) kv_X12_287 ha ⟨Nat.le_of_ble_eq_true rfl, Nat.le_of_ble_eq_true rfl⟩ (Nat.le_of_ble_eq_true rfl) dX12_many_92) hI (Nat.le_of_ble_eq_true rfl) (fun r_17 σ_18 H locs hpσ_18 hkσ_18 hI => ?_)
      have ahpσ_18 := hpσ_18.1
      have bhpσ_18 := hpσ_18.2.1
      have chpσ_18 := hpσ_18.2.2.1
      have dhpσ_18 := hpσ_18.2.2.2
      clear hpσ_18
      replace hI := q_Irw ahpσ_18 hI
      rw [feσ_2] at bhpσ_18
      replace hF := q_letX hF dhpσ_18
      exact q_reti E hr hlk hI ⟨(hF.trans hout), fr_σ_2⟩ dX12_many_95
    replace hF := q_ifn hF c_16
    by_cases c_19 : v1.toInt = 8
    · refine lv_tableIn (off := 67) (tgt := 96) hx hb dX12_many_29 (by first | (clear hh ggy_3 kc_4 kc_5 ahpσ_7 bhpσ_7 dhpσ_7 c_8 chpσ_7; omega) | omega) (by first | (clear hh ggy_3 kc_4 kc_5 ahpσ_7 bhpσ_7 dhpσ_7 c_8 chpσ_7; omega) | omega) (by rw [c_19]; rfl) (by decide) ?_
      replace hF := q_ifp hF c_19
      refine lv_aload_n hx hb dX12_many_96 rfl (lv_at hl 0 rfl) ?_
      refine gs_X12_35_12 E hI ha dX12_many_97 ?_
      refine lv_bipush (v := 7) hx hb dX12_many_100 zkb_7 ?_
      refine q_iald E hI (q_tk (k' := 34) hI ha rfl (Nat.succ_ne_zero _)) ⟨by decide, rfl⟩ (by decide) (by rw [q_lnk (v := 4650) hI (q_tk (k' := 34) hI ha rfl (Nat.succ_ne_zero _)) rfl (by decide)]; decide) dX12_many_102 ?_
      refine lv_topi (fun f_20 ef_20 => ?_)
      replace hF := q_letX hF ef_20
      have if_20 : f_20.toInt = m_c X σ a 7 := (m_rd ef_20 (by decide)).trans (congrFun feσ_2 _)
      exact q_reti E hr hlk hI ⟨(hF.trans hout), fr_σ_2⟩ dX12_many_103
    replace hF := q_ifn hF c_19
    by_cases c_21 : v1.toInt = 9
    · refine lv_tableIn (off := 75) (tgt := 104) hx hb dX12_many_29 (by first | (clear hh ggy_3 kc_4 kc_5 ahpσ_7 bhpσ_7 dhpσ_7 c_8 chpσ_7; omega) | omega) (by first | (clear hh ggy_3 kc_4 kc_5 ahpσ_7 bhpσ_7 dhpσ_7 c_8 chpσ_7; omega) | omega) (by rw [c_21]; rfl) (by decide) ?_
      replace hF := q_ifp hF c_21
      refine lv_aload_n hx hb dX12_many_104 rfl (lv_at hl 0 rfl) ?_
      refine gs_X12_35_12 E hI ha dX12_many_105 ?_
      refine lv_bipush (v := 8) hx hb dX12_many_108 zkb_8 ?_
      refine q_iald E hI (q_tk (k' := 34) hI ha rfl (Nat.succ_ne_zero _)) ⟨by decide, rfl⟩ (by decide) (by rw [q_lnk (v := 4650) hI (q_tk (k' := 34) hI ha rfl (Nat.succ_ne_zero _)) rfl (by decide)]; decide) dX12_many_110 ?_
      refine lv_topi (fun f_22 ef_22 => ?_)
      replace hF := q_letX hF ef_22
      have if_22 : f_22.toInt = m_c X σ a 8 := (m_rd ef_22 (by decide)).trans (congrFun feσ_2 _)
      refine q_if_ge (A := f_22.toInt) E rfl (tgt := 123) dX12_many_111 (by decide) (fun c_23 => ?_) (fun c_23 => ?_)
      · skip
        replace hF := q_ifn hF (Int.not_lt.mpr c_23)
        refine lv_aload_n hx hb dX12_many_123 rfl (lv_at hl 0 rfl) ?_
        refine gs_X12_35_12 E hI ha dX12_many_124 ?_
        refine lv_bipush (v := 8) hx hb dX12_many_127 zkb_8 ?_
        refine q_iald E hI (q_tk (k' := 34) hI ha rfl (Nat.succ_ne_zero _)) ⟨by decide, rfl⟩ (by decide) (by rw [q_lnk (v := 4650) hI (q_tk (k' := 34) hI ha rfl (Nat.succ_ne_zero _)) rfl (by decide)]; decide) dX12_many_129 ?_
        refine lv_topi (fun f_24 ef_24 => ?_)
        replace hF := q_letX hF ef_24
        have if_24 : f_24.toInt = m_c X σ a 8 := (m_rd ef_24 (by decide)).trans (congrFun feσ_2 _)
        exact q_reti E hr hlk hI ⟨(hF.trans hout), fr_σ_2⟩ dX12_many_130
      · skip
        replace hF := q_ifp hF c_23
        refine lv_aload_n hx hb dX12_many_114 rfl (lv_at hl 0 rfl) ?_
        refine lv_bipush (v := 8) hx hb dX12_many_115 zkb_8 ?_
        have kc_25 : (8 : Int32).toInt = 8 := zt_8
        refine q_ci (q_rV11_1 (rest := []) E (hml.trans hl.1.symm) hI (c_X12_refuse l X σ_2 a (8 : Int32) ha) kv_X12_284 ha ⟨Nat.le_of_ble_eq_true rfl, Nat.le_of_ble_eq_true rfl⟩ (Nat.le_of_ble_eq_true rfl) dX12_many_117) hI (Nat.le_of_ble_eq_true rfl) (fun r_26 σ_27 H locs hpσ_27 hkσ_27 hI => ?_)
        have ahpσ_27 := hpσ_27.1
        have bhpσ_27 := hpσ_27.2.1
        have chpσ_27 := hpσ_27.2.2
        clear hpσ_27
        have fr_σ_27 := fr_σ_2.call chpσ_27 rfl rfl
        replace hF := q_biX hF bhpσ_27
        have mcσ_27 := m_cK hkσ_27 hI.1 ha (by decide)
        have feσ_27 : m_c X σ_27 a = m_c X σ a := (funext mcσ_27).trans feσ_2
        refine lv_goto (tgt := 130) hx hb dX12_many_120 (by decide) ?_
        exact q_reti E hr hlk hI ⟨(hF.trans hout), fr_σ_27⟩ dX12_many_130
    replace hF := q_ifn hF c_21
    by_cases c_28 : v1.toInt = 10
    · refine lv_tableIn (off := 102) (tgt := 131) hx hb dX12_many_29 (by first | (clear hh ggy_3 kc_4 kc_5 ahpσ_7 bhpσ_7 dhpσ_7 c_8 chpσ_7; omega) | omega) (by first | (clear hh ggy_3 kc_4 kc_5 ahpσ_7 bhpσ_7 dhpσ_7 c_8 chpσ_7; omega) | omega) (by rw [c_28]; rfl) (by decide) ?_
      replace hF := q_ifp hF c_28
      refine lv_aload_n hx hb dX12_many_131 rfl (lv_at hl 0 rfl) ?_
      refine gs_X12_35_12 E hI ha dX12_many_132 ?_
      refine lv_bipush (v := 9) hx hb dX12_many_135 zkb_9 ?_
      refine q_iald E hI (q_tk (k' := 34) hI ha rfl (Nat.succ_ne_zero _)) ⟨by decide, rfl⟩ (by decide) (by rw [q_lnk (v := 4650) hI (q_tk (k' := 34) hI ha rfl (Nat.succ_ne_zero _)) rfl (by decide)]; decide) dX12_many_137 ?_
      refine lv_topi (fun f_29 ef_29 => ?_)
      replace hF := q_letX hF ef_29
      have if_29 : f_29.toInt = m_c X σ a 9 := (m_rd ef_29 (by decide)).trans (congrFun feσ_2 _)
      exact q_reti E hr hlk hI ⟨(hF.trans hout), fr_σ_2⟩ dX12_many_138
    replace hF := q_ifn hF c_28
    refine lv_tableOut (tgt := 139) hx hb dX12_many_29 (by first | (clear hh kc_4 kc_5 ahpσ_7 bhpσ_7 dhpσ_7 c_8 chpσ_7; omega) | omega) (by decide) ?_
    refine lv_aload_n hx hb dX12_many_139 rfl (lv_at hl 0 rfl) ?_
    refine gs_X12_35_12 E hI ha dX12_many_140 ?_
    refine lv_iload_n hx hb dX12_many_143 rfl (lv_at hl 1 rfl) ?_
    refine q_iald E hI (q_tk (k' := 34) hI ha rfl (Nat.succ_ne_zero _)) ⟨by decide, rfl⟩ (by first | (clear hh kc_5 ahpσ_7 bhpσ_7 dhpσ_7 c_8; omega) | omega) (by rw [q_lnk (v := 4650) hI (q_tk (k' := 34) hI ha rfl (Nat.succ_ne_zero _)) rfl (by decide)]; omega) dX12_many_144 ?_
    refine lv_topi (fun f_30 ef_30 => ?_)
    replace hF := q_letX hF ef_30
    have if_30 : f_30.toInt = m_c X σ a v1.toInt := (m_rd ef_30 rfl).trans (congrFun feσ_2 _)
    exact q_reti E hr hlk hI ⟨(hF.trans hout), fr_σ_2⟩ dX12_many_145
  · skip
    replace hF := q_ifp hF c_8
    replace chpσ_7 := q_ifNo chpσ_7 c_8
    refine lv_aload_n hx hb dX12_many_22 rfl (lv_at hl 0 rfl) ?_
    refine lv_iconst (v := 5) hx hb dX12_many_23 zki_5 ?_
    have kc_31 : (5 : Int32).toInt = 5 := zt_5
    refine q_ci (q_rV11_1 (rest := []) E (hml.trans hl.1.symm) hI (c_X12_refuse l X σ_2 a (5 : Int32) ha) kv_X12_284 ha ⟨Nat.le_of_ble_eq_true rfl, Nat.le_of_ble_eq_true rfl⟩ (Nat.le_of_ble_eq_true rfl) dX12_many_24) hI (Nat.le_of_ble_eq_true rfl) (fun r_32 σ_33 H locs hpσ_33 hkσ_33 hI => ?_)
    have ahpσ_33 := hpσ_33.1
    have bhpσ_33 := hpσ_33.2.1
    have chpσ_33 := hpσ_33.2.2
    clear hpσ_33
    have fr_σ_33 := fr_σ_2.call chpσ_33 rfl rfl
    replace hF := q_biX hF bhpσ_33
    have mcσ_33 := m_cK hkσ_33 hI.1 ha (by decide)
    have feσ_33 : m_c X σ_33 a = m_c X σ a := (funext mcσ_33).trans feσ_2
    exact q_reti E hr hlk hI ⟨(hF.trans hout), fr_σ_33⟩ dX12_many_27

set_option maxRecDepth 100000 in
set_option maxHeartbeats 4000000 in
theorem c_X12_player (l : Launch) (X : XW) (σ : ST) (a : Nat) (v1 : Int32) (v2 : Int32) (ha : q_kd X a = 12) (hG : m_G (m_c X σ a)) : Met l yX12_player (q_ws yX12_player cX12_player 3 (some .int)) (q_rm 2 46) (q_P X σ [.ref a, .int v1, .int v2]) (q_Qi X 8 σ (fun (r : Int32) (σ' : ST) => (r, σ') = F_X12_player X σ a v1 v2 ∧ q_ow [(12, 0), (12, 1)] [] X σ σ')) 0 0 (q_reg X) := by
  refine q_met 8 (by first | exact rfl | decide +kernel) rfl (Nat.le_of_ble_eq_true rfl) (fun p e s m below meth c E hml hr hlk hI ls hl => ?_)
  have hx := E.1
  have hb := E.2.1
  have hl : lv_has ls 3 [(0, .ref a), (1, .int v1), (2, .int v2)] := hl
  have feσ : m_c X σ a = m_c X σ a := rfl
  have fr_σ : q_ow [(12, 0), (12, 1)] [] X σ σ := q_ow.rf
  have hh := hG.hd
  obtain ⟨out, hout⟩ : ∃ o, o = F_X12_player X σ a v1 v2 := ⟨_, rfl⟩
  have hF := hout.symm
  unfold F_X12_player at hF
  refine lv_aload_n hx hb dX12_player_0 rfl (lv_at hl 0 rfl) ?_
  refine lv_iconst (v := 0) hx hb dX12_player_1 zki_0 ?_
  refine ps_X12_59_12 E hI ha (by decide) dX12_player_2 (fun H locs σ_1 hσ_1 hI => ?_)
  replace hF := q_letX hF hσ_1
  have fr_σ_1 := fr_σ.si hσ_1 ha rfl
  have mcσ_1 := m_wo hσ_1 (m_ne ha (q_tk (f := 20) (k' := 34) hI ha rfl (by decide)) (by decide))
  have feσ_1 : m_c X σ_1 a = m_c X σ a := (funext mcσ_1).trans feσ
  refine lv_aload_n hx hb dX12_player_5 rfl (lv_at hl 0 rfl) ?_
  refine lv_iconst (v := 0) hx hb dX12_player_6 zki_0 ?_
  refine ps_X12_62_12 E hI ha (by decide) dX12_player_7 (fun H locs σ_2 hσ_2 hI => ?_)
  replace hF := q_letX hF hσ_2
  have fr_σ_2 := fr_σ_1.si hσ_2 ha rfl
  have mcσ_2 := m_wo hσ_2 (m_ne ha (q_tk (f := 20) (k' := 34) hI ha rfl (by decide)) (by decide))
  have feσ_2 : m_c X σ_2 a = m_c X σ a := (funext mcσ_2).trans feσ_1
  refine lv_aload_n hx hb dX12_player_10 rfl (lv_at hl 0 rfl) ?_
  refine lv_iload_n hx hb dX12_player_11 rfl (lv_at hl 1 rfl) ?_
  refine q_ci (q_rV11_1 (rest := []) E (hml.trans hl.1.symm) hI (c_X12_isPlayerAt l X σ_2 a v1 ha (by rw [feσ_2]; exact hG)) kv_X12_290 ha ⟨Nat.le_of_ble_eq_true rfl, Nat.le_of_ble_eq_true rfl⟩ (Nat.le_of_ble_eq_true rfl) dX12_player_12) hI (Nat.le_of_ble_eq_true rfl) (fun r_3 σ_4 H locs hpσ_4 hkσ_4 hI => ?_)
  have ahpσ_4 := hpσ_4.1
  have bhpσ_4 := hpσ_4.2.1
  have chpσ_4 := hpσ_4.2.2.1
  have dhpσ_4 := hpσ_4.2.2.2
  clear hpσ_4
  replace hI := q_Irw ahpσ_4 hI
  rw [feσ_2] at chpσ_4
  replace hF := q_letX hF dhpσ_4
  refine q_if_ne (A := r_3.toInt) E rfl (tgt := 24) dX12_player_15 (by decide) (fun c_5 => ?_) (fun c_5 => ?_)
  · skip
    replace hF := q_ifn hF c_5
    replace c_5 := q_ifOne bhpσ_4 c_5
    replace chpσ_4 := q_ifYes chpσ_4 c_5
    refine lv_iload_n hx hb dX12_player_24 rfl (lv_at hl 2 rfl) ?_
    by_cases c_6 : v2.toInt = 0
    · refine lv_tableIn (off := 39) (tgt := 64) hx hb dX12_player_25 (by first | (clear hh ahpσ_4 bhpσ_4 dhpσ_4 c_5 chpσ_4; omega) | omega) (by first | (clear hh ahpσ_4 bhpσ_4 dhpσ_4 c_5 chpσ_4; omega) | omega) (by rw [c_6]; rfl) (by decide) ?_
      replace hF := q_ifp hF c_6
      refine lv_aload_n hx hb dX12_player_64 rfl (lv_at hl 0 rfl) ?_
      refine gs_X12_35_12 E hI ha dX12_player_65 ?_
      refine lv_bipush (v := 10) hx hb dX12_player_68 zkb_10 ?_
      refine lv_iload_n hx hb dX12_player_70 rfl (lv_at hl 1 rfl) ?_
      refine lv_iadd hx hb dX12_player_71 ?_
      refine lv_topi (fun z_7 ez_7 => ?_)
      replace hF := q_letX hF ez_7
      have iz_7 := q_addI (A := 10) (B := v1.toInt) ez_7 (by decide) rfl (by first | (clear hh ahpσ_4 bhpσ_4 dhpσ_4 c_5; omega) | omega) (by first | (clear ahpσ_4 bhpσ_4 dhpσ_4 c_5; omega) | omega)
      refine q_iald E hI (q_tk (k' := 34) hI ha rfl (Nat.succ_ne_zero _)) ⟨by decide, rfl⟩ (by first | (clear hh ahpσ_4 bhpσ_4 dhpσ_4 c_5; omega) | omega) (by rw [q_lnk (v := 4650) hI (q_tk (k' := 34) hI ha rfl (Nat.succ_ne_zero _)) rfl (by decide)]; omega) dX12_player_72 ?_
      refine lv_topi (fun f_8 ef_8 => ?_)
      replace hF := q_letX hF ef_8
      have if_8 : f_8.toInt = m_c X σ a (10 + v1.toInt) := (m_rd ef_8 iz_7).trans (congrFun feσ_2 _)
      exact q_reti E hr hlk hI ⟨(hF.trans hout), fr_σ_2⟩ dX12_player_73
    replace hF := q_ifn hF c_6
    by_cases c_9 : v2.toInt = 1
    · refine lv_tableIn (off := 49) (tgt := 74) hx hb dX12_player_25 (by first | (clear hh ahpσ_4 bhpσ_4 dhpσ_4 c_5 chpσ_4; omega) | omega) (by first | (clear hh ahpσ_4 bhpσ_4 dhpσ_4 c_5 chpσ_4; omega) | omega) (by rw [c_9]; rfl) (by decide) ?_
      replace hF := q_ifp hF c_9
      refine lv_aload_n hx hb dX12_player_74 rfl (lv_at hl 0 rfl) ?_
      refine gs_X12_35_12 E hI ha dX12_player_75 ?_
      refine lv_bipush (v := 16) hx hb dX12_player_78 zkb_16 ?_
      refine lv_iload_n hx hb dX12_player_80 rfl (lv_at hl 1 rfl) ?_
      refine lv_iadd hx hb dX12_player_81 ?_
      refine lv_topi (fun z_10 ez_10 => ?_)
      replace hF := q_letX hF ez_10
      have iz_10 := q_addI (A := 16) (B := v1.toInt) ez_10 (by decide) rfl (by first | (clear hh ahpσ_4 bhpσ_4 dhpσ_4 c_5; omega) | omega) (by first | (clear ahpσ_4 bhpσ_4 dhpσ_4 c_5; omega) | omega)
      refine q_iald E hI (q_tk (k' := 34) hI ha rfl (Nat.succ_ne_zero _)) ⟨by decide, rfl⟩ (by first | (clear hh ahpσ_4 bhpσ_4 dhpσ_4 c_5; omega) | omega) (by rw [q_lnk (v := 4650) hI (q_tk (k' := 34) hI ha rfl (Nat.succ_ne_zero _)) rfl (by decide)]; omega) dX12_player_82 ?_
      refine lv_topi (fun f_11 ef_11 => ?_)
      replace hF := q_letX hF ef_11
      have if_11 : f_11.toInt = m_c X σ a (16 + v1.toInt) := (m_rd ef_11 iz_10).trans (congrFun feσ_2 _)
      exact q_reti E hr hlk hI ⟨(hF.trans hout), fr_σ_2⟩ dX12_player_83
    replace hF := q_ifn hF c_9
    by_cases c_12 : v2.toInt = 2
    · refine lv_tableIn (off := 59) (tgt := 84) hx hb dX12_player_25 (by first | (clear hh ahpσ_4 bhpσ_4 dhpσ_4 c_5 chpσ_4; omega) | omega) (by first | (clear hh ahpσ_4 bhpσ_4 dhpσ_4 c_5 chpσ_4; omega) | omega) (by rw [c_12]; rfl) (by decide) ?_
      replace hF := q_ifp hF c_12
      refine lv_aload_n hx hb dX12_player_84 rfl (lv_at hl 0 rfl) ?_
      refine lv_iload_n hx hb dX12_player_85 rfl (lv_at hl 1 rfl) ?_
      refine q_ci (q_rV11_1 (rest := []) E (hml.trans hl.1.symm) hI (c_X12_cardsOf l X σ_2 a v1 ha (by rw [feσ_2]; exact hG) (by first | (clear ahpσ_4 bhpσ_4 dhpσ_4 c_5; omega) | omega)) kv_X12_293 ha ⟨Nat.le_of_ble_eq_true rfl, Nat.le_of_ble_eq_true rfl⟩ (Nat.le_of_ble_eq_true rfl) dX12_player_86) hI (Nat.le_of_ble_eq_true rfl) (fun r_13 σ_14 H locs hpσ_14 hkσ_14 hI => ?_)
      have ahpσ_14 := hpσ_14.1
      have bhpσ_14 := hpσ_14.2.1
      have chpσ_14 := hpσ_14.2.2.1
      have dhpσ_14 := hpσ_14.2.2.2
      clear hpσ_14
      replace hI := q_Irw ahpσ_14 hI
      rw [feσ_2] at bhpσ_14
      replace hF := q_letX hF dhpσ_14
      exact q_reti E hr hlk hI ⟨(hF.trans hout), fr_σ_2⟩ dX12_player_89
    replace hF := q_ifn hF c_12
    by_cases c_15 : v2.toInt = 3
    · refine lv_tableIn (off := 65) (tgt := 90) hx hb dX12_player_25 (by first | (clear hh ahpσ_4 bhpσ_4 dhpσ_4 c_5 chpσ_4; omega) | omega) (by first | (clear hh ahpσ_4 bhpσ_4 dhpσ_4 c_5 chpσ_4; omega) | omega) (by rw [c_15]; rfl) (by decide) ?_
      replace hF := q_ifp hF c_15
      refine lv_aload_n hx hb dX12_player_90 rfl (lv_at hl 0 rfl) ?_
      refine gs_X12_35_12 E hI ha dX12_player_91 ?_
      refine lv_bipush (v := 22) hx hb dX12_player_94 zkb_22 ?_
      refine lv_iload_n hx hb dX12_player_96 rfl (lv_at hl 1 rfl) ?_
      refine lv_iadd hx hb dX12_player_97 ?_
      refine lv_topi (fun z_16 ez_16 => ?_)
      replace hF := q_letX hF ez_16
      have iz_16 := q_addI (A := 22) (B := v1.toInt) ez_16 (by decide) rfl (by first | (clear hh ahpσ_4 bhpσ_4 dhpσ_4 c_5; omega) | omega) (by first | (clear ahpσ_4 bhpσ_4 dhpσ_4 c_5; omega) | omega)
      refine q_iald E hI (q_tk (k' := 34) hI ha rfl (Nat.succ_ne_zero _)) ⟨by decide, rfl⟩ (by first | (clear hh ahpσ_4 bhpσ_4 dhpσ_4 c_5; omega) | omega) (by rw [q_lnk (v := 4650) hI (q_tk (k' := 34) hI ha rfl (Nat.succ_ne_zero _)) rfl (by decide)]; omega) dX12_player_98 ?_
      refine lv_topi (fun f_17 ef_17 => ?_)
      replace hF := q_letX hF ef_17
      have if_17 : f_17.toInt = m_c X σ a (22 + v1.toInt) := (m_rd ef_17 iz_16).trans (congrFun feσ_2 _)
      exact q_reti E hr hlk hI ⟨(hF.trans hout), fr_σ_2⟩ dX12_player_99
    replace hF := q_ifn hF c_15
    by_cases c_18 : v2.toInt = 4
    · refine lv_tableIn (off := 75) (tgt := 100) hx hb dX12_player_25 (by first | (clear hh ahpσ_4 bhpσ_4 dhpσ_4 c_5 chpσ_4; omega) | omega) (by first | (clear hh ahpσ_4 bhpσ_4 dhpσ_4 c_5 chpσ_4; omega) | omega) (by rw [c_18]; rfl) (by decide) ?_
      replace hF := q_ifp hF c_18
      refine lv_aload_n hx hb dX12_player_100 rfl (lv_at hl 0 rfl) ?_
      refine gs_X12_35_12 E hI ha dX12_player_101 ?_
      refine lv_bipush (v := 28) hx hb dX12_player_104 zkb_28 ?_
      refine lv_iload_n hx hb dX12_player_106 rfl (lv_at hl 1 rfl) ?_
      refine lv_iadd hx hb dX12_player_107 ?_
      refine lv_topi (fun z_19 ez_19 => ?_)
      replace hF := q_letX hF ez_19
      have iz_19 := q_addI (A := 28) (B := v1.toInt) ez_19 (by decide) rfl (by first | (clear hh ahpσ_4 bhpσ_4 dhpσ_4 c_5; omega) | omega) (by first | (clear ahpσ_4 bhpσ_4 dhpσ_4 c_5; omega) | omega)
      refine q_iald E hI (q_tk (k' := 34) hI ha rfl (Nat.succ_ne_zero _)) ⟨by decide, rfl⟩ (by first | (clear hh ahpσ_4 bhpσ_4 dhpσ_4 c_5; omega) | omega) (by rw [q_lnk (v := 4650) hI (q_tk (k' := 34) hI ha rfl (Nat.succ_ne_zero _)) rfl (by decide)]; omega) dX12_player_108 ?_
      refine lv_topi (fun f_20 ef_20 => ?_)
      replace hF := q_letX hF ef_20
      have if_20 : f_20.toInt = m_c X σ a (28 + v1.toInt) := (m_rd ef_20 iz_19).trans (congrFun feσ_2 _)
      exact q_reti E hr hlk hI ⟨(hF.trans hout), fr_σ_2⟩ dX12_player_109
    replace hF := q_ifn hF c_18
    by_cases c_21 : v2.toInt = 5
    · refine lv_tableIn (off := 85) (tgt := 110) hx hb dX12_player_25 (by first | (clear hh ahpσ_4 bhpσ_4 dhpσ_4 c_5 chpσ_4; omega) | omega) (by first | (clear hh ahpσ_4 bhpσ_4 dhpσ_4 c_5 chpσ_4; omega) | omega) (by rw [c_21]; rfl) (by decide) ?_
      replace hF := q_ifp hF c_21
      refine lv_aload_n hx hb dX12_player_110 rfl (lv_at hl 0 rfl) ?_
      refine lv_iload_n hx hb dX12_player_111 rfl (lv_at hl 1 rfl) ?_
      refine lv_iconst (v := (-1)) hx hb dX12_player_112 zki_m1 ?_
      have kc_22 : ((-1) : Int32).toInt = (-1) := zt_m1
      refine q_ci (q_rV11_2 (rest := []) E (hml.trans hl.1.symm) hI (c_X12_laidOf l X σ_2 a v1 ((-1) : Int32) ha (by rw [feσ_2]; exact hG)) kv_X12_296 ha ⟨Nat.le_of_ble_eq_true rfl, Nat.le_of_ble_eq_true rfl⟩ (Nat.le_of_ble_eq_true rfl) dX12_player_113) hI (Nat.le_of_ble_eq_true rfl) (fun r_23 σ_24 H locs hpσ_24 hkσ_24 hI => ?_)
      have ahpσ_24 := hpσ_24.1
      have bhpσ_24 := hpσ_24.2.1
      have chpσ_24 := hpσ_24.2.2.1
      have dhpσ_24 := hpσ_24.2.2.2
      clear hpσ_24
      replace hI := q_Irw ahpσ_24 hI
      rw [feσ_2] at bhpσ_24
      replace hF := q_letX hF dhpσ_24
      have ir_23 : r_23.toInt = (m_A (m_c X σ a) v1.toInt (-1) (m_c X σ a 9).toNat) := (by first | exact bhpσ_24 | (rw [bhpσ_24]) | (simp only [bhpσ_24]))
      exact q_reti E hr hlk hI ⟨(hF.trans hout), fr_σ_2⟩ dX12_player_116
    replace hF := q_ifn hF c_21
    refine lv_tableOut (tgt := 117) hx hb dX12_player_25 (by first | (clear hh ahpσ_4 bhpσ_4 dhpσ_4 c_5 chpσ_4; omega) | omega) (by decide) ?_
    refine lv_aload_n hx hb dX12_player_117 rfl (lv_at hl 0 rfl) ?_
    refine lv_iconst (v := 5) hx hb dX12_player_118 zki_5 ?_
    have kc_25 : (5 : Int32).toInt = 5 := zt_5
    refine q_ci (q_rV11_1 (rest := []) E (hml.trans hl.1.symm) hI (c_X12_refuse l X σ_2 a (5 : Int32) ha) kv_X12_284 ha ⟨Nat.le_of_ble_eq_true rfl, Nat.le_of_ble_eq_true rfl⟩ (Nat.le_of_ble_eq_true rfl) dX12_player_119) hI (Nat.le_of_ble_eq_true rfl) (fun r_26 σ_27 H locs hpσ_27 hkσ_27 hI => ?_)
    have ahpσ_27 := hpσ_27.1
    have bhpσ_27 := hpσ_27.2.1
    have chpσ_27 := hpσ_27.2.2
    clear hpσ_27
    have fr_σ_27 := fr_σ_2.call chpσ_27 rfl rfl
    replace hF := q_biX hF bhpσ_27
    have mcσ_27 := m_cK hkσ_27 hI.1 ha (by decide)
    have feσ_27 : m_c X σ_27 a = m_c X σ a := (funext mcσ_27).trans feσ_2
    exact q_reti E hr hlk hI ⟨(hF.trans hout), fr_σ_27⟩ dX12_player_122
  · skip
    replace hF := q_ifp hF c_5
    replace chpσ_4 := q_ifNo chpσ_4 c_5
    refine lv_aload_n hx hb dX12_player_18 rfl (lv_at hl 0 rfl) ?_
    refine lv_iconst (v := 2) hx hb dX12_player_19 zki_2 ?_
    have kc_28 : (2 : Int32).toInt = 2 := zt_2
    refine q_ci (q_rV11_1 (rest := []) E (hml.trans hl.1.symm) hI (c_X12_refuse l X σ_2 a (2 : Int32) ha) kv_X12_284 ha ⟨Nat.le_of_ble_eq_true rfl, Nat.le_of_ble_eq_true rfl⟩ (Nat.le_of_ble_eq_true rfl) dX12_player_20) hI (Nat.le_of_ble_eq_true rfl) (fun r_29 σ_30 H locs hpσ_30 hkσ_30 hI => ?_)
    have ahpσ_30 := hpσ_30.1
    have bhpσ_30 := hpσ_30.2.1
    have chpσ_30 := hpσ_30.2.2
    clear hpσ_30
    have fr_σ_30 := fr_σ_2.call chpσ_30 rfl rfl
    replace hF := q_biX hF bhpσ_30
    have mcσ_30 := m_cK hkσ_30 hI.1 ha (by decide)
    have feσ_30 : m_c X σ_30 a = m_c X σ a := (funext mcσ_30).trans feσ_2
    exact q_reti E hr hlk hI ⟨(hF.trans hout), fr_σ_30⟩ dX12_player_23

set_option maxRecDepth 100000 in
set_option maxHeartbeats 4000000 in
theorem c_X12_hand (l : Launch) (X : XW) (σ : ST) (a : Nat) (v1 : Int32) (v2 : Int32) (ha : q_kd X a = 12) (hG : m_G (m_c X σ a)) : Met l yX12_hand (q_ws yX12_hand cX12_hand 3 (some .int)) (q_rm 2 46) (q_P X σ [.ref a, .int v1, .int v2]) (q_Qi X 8 σ (fun (r : Int32) (σ' : ST) => (r, σ') = F_X12_hand X σ a v1 v2 ∧ q_ow [(12, 0), (12, 1)] [] X σ σ')) 0 0 (q_reg X) := by
  refine q_met 8 (by first | exact rfl | decide +kernel) rfl (Nat.le_of_ble_eq_true rfl) (fun p e s m below meth c E hml hr hlk hI ls hl => ?_)
  have hx := E.1
  have hb := E.2.1
  have hl : lv_has ls 3 [(0, .ref a), (1, .int v1), (2, .int v2)] := hl
  have feσ : m_c X σ a = m_c X σ a := rfl
  have fr_σ : q_ow [(12, 0), (12, 1)] [] X σ σ := q_ow.rf
  have hh := hG.hd
  obtain ⟨out, hout⟩ : ∃ o, o = F_X12_hand X σ a v1 v2 := ⟨_, rfl⟩
  have hF := hout.symm
  unfold F_X12_hand at hF
  refine lv_aload_n hx hb dX12_hand_0 rfl (lv_at hl 0 rfl) ?_
  refine lv_iconst (v := 0) hx hb dX12_hand_1 zki_0 ?_
  refine ps_X12_59_12 E hI ha (by decide) dX12_hand_2 (fun H locs σ_1 hσ_1 hI => ?_)
  replace hF := q_letX hF hσ_1
  have fr_σ_1 := fr_σ.si hσ_1 ha rfl
  have mcσ_1 := m_wo hσ_1 (m_ne ha (q_tk (f := 20) (k' := 34) hI ha rfl (by decide)) (by decide))
  have feσ_1 : m_c X σ_1 a = m_c X σ a := (funext mcσ_1).trans feσ
  refine lv_aload_n hx hb dX12_hand_5 rfl (lv_at hl 0 rfl) ?_
  refine lv_iconst (v := 0) hx hb dX12_hand_6 zki_0 ?_
  refine ps_X12_62_12 E hI ha (by decide) dX12_hand_7 (fun H locs σ_2 hσ_2 hI => ?_)
  replace hF := q_letX hF hσ_2
  have fr_σ_2 := fr_σ_1.si hσ_2 ha rfl
  have mcσ_2 := m_wo hσ_2 (m_ne ha (q_tk (f := 20) (k' := 34) hI ha rfl (by decide)) (by decide))
  have feσ_2 : m_c X σ_2 a = m_c X σ a := (funext mcσ_2).trans feσ_1
  refine lv_aload_n hx hb dX12_hand_10 rfl (lv_at hl 0 rfl) ?_
  refine lv_iload_n hx hb dX12_hand_11 rfl (lv_at hl 1 rfl) ?_
  refine q_ci (q_rV11_1 (rest := []) E (hml.trans hl.1.symm) hI (c_X12_isPlayerAt l X σ_2 a v1 ha (by rw [feσ_2]; exact hG)) kv_X12_290 ha ⟨Nat.le_of_ble_eq_true rfl, Nat.le_of_ble_eq_true rfl⟩ (Nat.le_of_ble_eq_true rfl) dX12_hand_12) hI (Nat.le_of_ble_eq_true rfl) (fun r_3 σ_4 H locs hpσ_4 hkσ_4 hI => ?_)
  have ahpσ_4 := hpσ_4.1
  have bhpσ_4 := hpσ_4.2.1
  have chpσ_4 := hpσ_4.2.2.1
  have dhpσ_4 := hpσ_4.2.2.2
  clear hpσ_4
  replace hI := q_Irw ahpσ_4 hI
  rw [feσ_2] at chpσ_4
  replace hF := q_letX hF dhpσ_4
  refine q_if_eq (A := r_3.toInt) E rfl (tgt := 35) dX12_hand_15 (by decide) (fun c_5 => ?_) (fun c_5 => ?_)
  · skip
    replace hF := q_ifp hF c_5
    replace chpσ_4 := q_ifNo chpσ_4 c_5
    refine lv_aload_n hx hb dX12_hand_35 rfl (lv_at hl 0 rfl) ?_
    refine lv_iconst (v := 2) hx hb dX12_hand_36 zki_2 ?_
    have kc_6 : (2 : Int32).toInt = 2 := zt_2
    refine q_ci (q_rV11_1 (rest := []) E (hml.trans hl.1.symm) hI (c_X12_refuse l X σ_2 a (2 : Int32) ha) kv_X12_284 ha ⟨Nat.le_of_ble_eq_true rfl, Nat.le_of_ble_eq_true rfl⟩ (Nat.le_of_ble_eq_true rfl) dX12_hand_37) hI (Nat.le_of_ble_eq_true rfl) (fun r_7 σ_8 H locs hpσ_8 hkσ_8 hI => ?_)
    have ahpσ_8 := hpσ_8.1
    have bhpσ_8 := hpσ_8.2.1
    have chpσ_8 := hpσ_8.2.2
    clear hpσ_8
    have fr_σ_8 := fr_σ_2.call chpσ_8 rfl rfl
    replace hF := q_biX hF bhpσ_8
    have mcσ_8 := m_cK hkσ_8 hI.1 ha (by decide)
    have feσ_8 : m_c X σ_8 a = m_c X σ a := (funext mcσ_8).trans feσ_2
    exact q_reti E hr hlk hI ⟨(hF.trans hout), fr_σ_8⟩ dX12_hand_40
  · skip
    replace hF := q_ifn hF c_5
    replace c_5 := q_ifOne bhpσ_4 c_5
    replace chpσ_4 := q_ifYes chpσ_4 c_5
    refine lv_aload_n hx hb dX12_hand_18 rfl (lv_at hl 0 rfl) ?_
    refine lv_iload_n hx hb dX12_hand_19 rfl (lv_at hl 2 rfl) ?_
    refine q_ci (q_rV11_1 (rest := []) E (hml.trans hl.1.symm) hI (c_X12_isKindAt l X σ_2 a v2 ha (by rw [feσ_2]; exact hG)) kv_X12_299 ha ⟨Nat.le_of_ble_eq_true rfl, Nat.le_of_ble_eq_true rfl⟩ (Nat.le_of_ble_eq_true rfl) dX12_hand_20) hI (Nat.le_of_ble_eq_true rfl) (fun r_9 σ_10 H locs hpσ_10 hkσ_10 hI => ?_)
    have ahpσ_10 := hpσ_10.1
    have bhpσ_10 := hpσ_10.2.1
    have chpσ_10 := hpσ_10.2.2.1
    have dhpσ_10 := hpσ_10.2.2.2
    clear hpσ_10
    replace hI := q_Irw ahpσ_10 hI
    rw [feσ_2] at chpσ_10
    replace hF := q_letX hF dhpσ_10
    refine q_if_eq (A := r_9.toInt) E rfl (tgt := 35) dX12_hand_23 (by decide) (fun c_11 => ?_) (fun c_11 => ?_)
    · skip
      replace hF := q_ifp hF c_11
      replace chpσ_10 := q_ifNo chpσ_10 c_11
      refine lv_aload_n hx hb dX12_hand_35 rfl (lv_at hl 0 rfl) ?_
      refine lv_iconst (v := 2) hx hb dX12_hand_36 zki_2 ?_
      have kc_12 : (2 : Int32).toInt = 2 := zt_2
      refine q_ci (q_rV11_1 (rest := []) E (hml.trans hl.1.symm) hI (c_X12_refuse l X σ_2 a (2 : Int32) ha) kv_X12_284 ha ⟨Nat.le_of_ble_eq_true rfl, Nat.le_of_ble_eq_true rfl⟩ (Nat.le_of_ble_eq_true rfl) dX12_hand_37) hI (Nat.le_of_ble_eq_true rfl) (fun r_13 σ_14 H locs hpσ_14 hkσ_14 hI => ?_)
      have ahpσ_14 := hpσ_14.1
      have bhpσ_14 := hpσ_14.2.1
      have chpσ_14 := hpσ_14.2.2
      clear hpσ_14
      have fr_σ_14 := fr_σ_2.call chpσ_14 rfl rfl
      replace hF := q_biX hF bhpσ_14
      have mcσ_14 := m_cK hkσ_14 hI.1 ha (by decide)
      have feσ_14 : m_c X σ_14 a = m_c X σ a := (funext mcσ_14).trans feσ_2
      exact q_reti E hr hlk hI ⟨(hF.trans hout), fr_σ_14⟩ dX12_hand_40
    · skip
      replace hF := q_ifn hF c_11
      replace c_11 := q_ifOne bhpσ_10 c_11
      replace chpσ_10 := q_ifYes chpσ_10 c_11
      refine lv_aload_n hx hb dX12_hand_26 rfl (lv_at hl 0 rfl) ?_
      refine lv_iload_n hx hb dX12_hand_27 rfl (lv_at hl 1 rfl) ?_
      refine lv_iload_n hx hb dX12_hand_28 rfl (lv_at hl 2 rfl) ?_
      refine q_ci (q_rV11_2 (rest := []) E (hml.trans hl.1.symm) hI (c_X12_handOf l X σ_2 a v1 v2 ha (by first | (clear ahpσ_4 bhpσ_4 dhpσ_4 c_5 ahpσ_10 bhpσ_10 dhpσ_10 c_11 chpσ_10; omega) | omega) (by first | (clear ahpσ_4 bhpσ_4 dhpσ_4 c_5 chpσ_4 ahpσ_10 bhpσ_10 dhpσ_10 c_11; omega) | omega)) kv_X12_276 ha ⟨Nat.le_of_ble_eq_true rfl, Nat.le_of_ble_eq_true rfl⟩ (Nat.le_of_ble_eq_true rfl) dX12_hand_29) hI (Nat.le_of_ble_eq_true rfl) (fun r_15 σ_16 H locs hpσ_16 hkσ_16 hI => ?_)
      have ahpσ_16 := hpσ_16.1
      have bhpσ_16 := hpσ_16.2.1
      have chpσ_16 := hpσ_16.2.2
      clear hpσ_16
      replace hI := q_Irw ahpσ_16 hI
      rw [feσ_2] at bhpσ_16
      replace hF := q_letX hF chpσ_16
      have ir_15 : r_15.toInt = (m_c X σ a (34 + 10 * v1.toInt + v2.toInt)) := (by first | exact bhpσ_16 | (rw [bhpσ_16]) | (simp only [bhpσ_16]))
      refine lv_goto (tgt := 40) hx hb dX12_hand_32 (by decide) ?_
      exact q_reti E hr hlk hI ⟨(hF.trans hout), fr_σ_2⟩ dX12_hand_40

set_option maxRecDepth 100000 in
set_option maxHeartbeats 4000000 in
theorem c_X12_inGame (l : Launch) (X : XW) (σ : ST) (a : Nat) (v1 : Int32) (ha : q_kd X a = 12) (hG : m_G (m_c X σ a)) : Met l yX12_inGame (q_ws yX12_inGame cX12_inGame 2 (some .int)) (q_rm 3 69) (q_P X σ [.ref a, .int v1]) (q_Qi X 8 σ (fun (r : Int32) (σ' : ST) => (r, σ') = F_X12_inGame X σ a v1 ∧ q_ow [(12, 0), (12, 1)] [] X σ σ')) 0 0 (q_reg X) := by
  refine q_met 8 (by first | exact rfl | decide +kernel) rfl (Nat.le_of_ble_eq_true rfl) (fun p e s m below meth c E hml hr hlk hI ls hl => ?_)
  have hx := E.1
  have hb := E.2.1
  have hl : lv_has ls 2 [(0, .ref a), (1, .int v1)] := hl
  have feσ : m_c X σ a = m_c X σ a := rfl
  have fr_σ : q_ow [(12, 0), (12, 1)] [] X σ σ := q_ow.rf
  have hh := hG.hd
  obtain ⟨out, hout⟩ : ∃ o, o = F_X12_inGame X σ a v1 := ⟨_, rfl⟩
  have hF := hout.symm
  unfold F_X12_inGame at hF
  refine lv_aload_n hx hb dX12_inGame_0 rfl (lv_at hl 0 rfl) ?_
  refine lv_iconst (v := 0) hx hb dX12_inGame_1 zki_0 ?_
  refine ps_X12_59_12 E hI ha (by decide) dX12_inGame_2 (fun H locs σ_1 hσ_1 hI => ?_)
  replace hF := q_letX hF hσ_1
  have fr_σ_1 := fr_σ.si hσ_1 ha rfl
  have mcσ_1 := m_wo hσ_1 (m_ne ha (q_tk (f := 20) (k' := 34) hI ha rfl (by decide)) (by decide))
  have feσ_1 : m_c X σ_1 a = m_c X σ a := (funext mcσ_1).trans feσ
  refine lv_aload_n hx hb dX12_inGame_5 rfl (lv_at hl 0 rfl) ?_
  refine lv_iconst (v := 0) hx hb dX12_inGame_6 zki_0 ?_
  refine ps_X12_62_12 E hI ha (by decide) dX12_inGame_7 (fun H locs σ_2 hσ_2 hI => ?_)
  replace hF := q_letX hF hσ_2
  have fr_σ_2 := fr_σ_1.si hσ_2 ha rfl
  have mcσ_2 := m_wo hσ_2 (m_ne ha (q_tk (f := 20) (k' := 34) hI ha rfl (by decide)) (by decide))
  have feσ_2 : m_c X σ_2 a = m_c X σ a := (funext mcσ_2).trans feσ_1
  refine lv_aload_n hx hb dX12_inGame_10 rfl (lv_at hl 0 rfl) ?_
  refine lv_iload_n hx hb dX12_inGame_11 rfl (lv_at hl 1 rfl) ?_
  refine q_ci (q_rV11_1 (rest := []) E (hml.trans hl.1.symm) hI (c_X12_isKindAt l X σ_2 a v1 ha (by rw [feσ_2]; exact hG)) kv_X12_299 ha ⟨Nat.le_of_ble_eq_true rfl, Nat.le_of_ble_eq_true rfl⟩ (Nat.le_of_ble_eq_true rfl) dX12_inGame_12) hI (Nat.le_of_ble_eq_true rfl) (fun r_3 σ_4 H locs hpσ_4 hkσ_4 hI => ?_)
  have ahpσ_4 := hpσ_4.1
  have bhpσ_4 := hpσ_4.2.1
  have chpσ_4 := hpσ_4.2.2.1
  have dhpσ_4 := hpσ_4.2.2.2
  clear hpσ_4
  replace hI := q_Irw ahpσ_4 hI
  rw [feσ_2] at chpσ_4
  replace hF := q_letX hF dhpσ_4
  refine q_if_eq (A := r_3.toInt) E rfl (tgt := 26) dX12_inGame_15 (by decide) (fun c_5 => ?_) (fun c_5 => ?_)
  · skip
    replace hF := q_ifp hF c_5
    replace chpσ_4 := q_ifNo chpσ_4 c_5
    refine lv_aload_n hx hb dX12_inGame_26 rfl (lv_at hl 0 rfl) ?_
    refine lv_iconst (v := 2) hx hb dX12_inGame_27 zki_2 ?_
    have kc_6 : (2 : Int32).toInt = 2 := zt_2
    refine q_ci (q_rV11_1 (rest := []) E (hml.trans hl.1.symm) hI (c_X12_refuse l X σ_2 a (2 : Int32) ha) kv_X12_284 ha ⟨Nat.le_of_ble_eq_true rfl, Nat.le_of_ble_eq_true rfl⟩ (Nat.le_of_ble_eq_true rfl) dX12_inGame_28) hI (Nat.le_of_ble_eq_true rfl) (fun r_7 σ_8 H locs hpσ_8 hkσ_8 hI => ?_)
    have ahpσ_8 := hpσ_8.1
    have bhpσ_8 := hpσ_8.2.1
    have chpσ_8 := hpσ_8.2.2
    clear hpσ_8
    have fr_σ_8 := fr_σ_2.call chpσ_8 rfl rfl
    replace hF := q_biX hF bhpσ_8
    have mcσ_8 := m_cK hkσ_8 hI.1 ha (by decide)
    have feσ_8 : m_c X σ_8 a = m_c X σ a := (funext mcσ_8).trans feσ_2
    exact q_reti E hr hlk hI ⟨(hF.trans hout), fr_σ_8⟩ dX12_inGame_31
  · skip
    replace hF := q_ifn hF c_5
    replace c_5 := q_ifOne bhpσ_4 c_5
    replace chpσ_4 := q_ifYes chpσ_4 c_5
    refine lv_aload_n hx hb dX12_inGame_18 rfl (lv_at hl 0 rfl) ?_
    refine lv_iload_n hx hb dX12_inGame_19 rfl (lv_at hl 1 rfl) ?_
    refine q_ci (q_rV11_1 (rest := []) E (hml.trans hl.1.symm) hI (c_X12_inGameOf l X σ_2 a v1 ha (by rw [feσ_2]; exact hG) (by first | (clear ahpσ_4 bhpσ_4 dhpσ_4 c_5; omega) | omega)) kv_X12_302 ha ⟨Nat.le_of_ble_eq_true rfl, Nat.le_of_ble_eq_true rfl⟩ (Nat.le_of_ble_eq_true rfl) dX12_inGame_20) hI (Nat.le_of_ble_eq_true rfl) (fun r_9 σ_10 H locs hpσ_10 hkσ_10 hI => ?_)
    have ahpσ_10 := hpσ_10.1
    have bhpσ_10 := hpσ_10.2.1
    have chpσ_10 := hpσ_10.2.2.1
    have dhpσ_10 := hpσ_10.2.2.2
    clear hpσ_10
    replace hI := q_Irw ahpσ_10 hI
    rw [feσ_2] at bhpσ_10
    replace hF := q_letX hF dhpσ_10
    have ir_9 : r_9.toInt = (m_I (m_c X σ a) v1.toInt) := (by first | exact bhpσ_10 | (rw [bhpσ_10]) | (simp only [bhpσ_10]))
    refine lv_goto (tgt := 31) hx hb dX12_inGame_23 (by decide) ?_
    exact q_reti E hr hlk hI ⟨(hF.trans hout), fr_σ_2⟩ dX12_inGame_31

set_option maxRecDepth 100000 in
set_option maxHeartbeats 4000000 in
theorem c_X12_laying (l : Launch) (X : XW) (σ : ST) (a : Nat) (v1 : Int32) (v2 : Int32) (ha : q_kd X a = 12) (hG : m_G (m_c X σ a)) : Met l yX12_laying (q_ws yX12_laying cX12_laying 3 (some .int)) (q_rm 2 44) (q_P X σ [.ref a, .int v1, .int v2]) (q_Qi X 8 σ (fun (r : Int32) (σ' : ST) => (r, σ') = F_X12_laying X σ a v1 v2 ∧ q_ow [(12, 0), (12, 1)] [] X σ σ')) 0 0 (q_reg X) := by
  refine q_met 8 (by first | exact rfl | decide +kernel) rfl (Nat.le_of_ble_eq_true rfl) (fun p e s m below meth c E hml hr hlk hI ls hl => ?_)
  have hx := E.1
  have hb := E.2.1
  have hl : lv_has ls 3 [(0, .ref a), (1, .int v1), (2, .int v2)] := hl
  have feσ : m_c X σ a = m_c X σ a := rfl
  have fr_σ : q_ow [(12, 0), (12, 1)] [] X σ σ := q_ow.rf
  have hh := hG.hd
  obtain ⟨out, hout⟩ : ∃ o, o = F_X12_laying X σ a v1 v2 := ⟨_, rfl⟩
  have hF := hout.symm
  unfold F_X12_laying at hF
  refine lv_aload_n hx hb dX12_laying_0 rfl (lv_at hl 0 rfl) ?_
  refine lv_iconst (v := 0) hx hb dX12_laying_1 zki_0 ?_
  refine ps_X12_59_12 E hI ha (by decide) dX12_laying_2 (fun H locs σ_1 hσ_1 hI => ?_)
  replace hF := q_letX hF hσ_1
  have fr_σ_1 := fr_σ.si hσ_1 ha rfl
  have mcσ_1 := m_wo hσ_1 (m_ne ha (q_tk (f := 20) (k' := 34) hI ha rfl (by decide)) (by decide))
  have feσ_1 : m_c X σ_1 a = m_c X σ a := (funext mcσ_1).trans feσ
  refine lv_aload_n hx hb dX12_laying_5 rfl (lv_at hl 0 rfl) ?_
  refine lv_iconst (v := 0) hx hb dX12_laying_6 zki_0 ?_
  refine ps_X12_62_12 E hI ha (by decide) dX12_laying_7 (fun H locs σ_2 hσ_2 hI => ?_)
  replace hF := q_letX hF hσ_2
  have fr_σ_2 := fr_σ_1.si hσ_2 ha rfl
  have mcσ_2 := m_wo hσ_2 (m_ne ha (q_tk (f := 20) (k' := 34) hI ha rfl (by decide)) (by decide))
  have feσ_2 : m_c X σ_2 a = m_c X σ a := (funext mcσ_2).trans feσ_1
  refine lv_iload_n hx hb dX12_laying_10 rfl (lv_at hl 2 rfl) ?_
  refine lv_i2l hx hb dX12_laying_11 rfl ?_
  refine lv_topl (fun y_3 ey_3 => ?_)
  replace hF := q_letX hF ey_3
  have ggy_3 := q_rng v2
  have iy_3 : y_3.toInt = v2.toInt := by rw [ey_3]; exact (q_i2l _).trans rfl
  refine lv_lconst (v := 0) hx hb dX12_laying_12 (by decide) ?_
  refine lv_ldc2 (v := 3) hx hb E.2.2.1 (E.2.2.2.1 _ (q_in_t8 (i := 167) (by first | rfl | decide +kernel) rfl)) dX12_laying_13 ?_
  have kc_4 : (0 : Int64).toInt = 0 := rfl
  have kc_5 : (3 : Int64).toInt = 3 := rfl
  refine q_ci (q_runS (As := [.long y_3, .long 0, .long 3]) (rest := []) E (hml.trans hl.1.symm) hI (c_X12_isIn l X σ_2 y_3 (0 : Int64) (3 : Int64)) ks_X12_94 rfl ⟨Nat.le_of_ble_eq_true rfl, Nat.le_of_ble_eq_true rfl⟩ ⟨Nat.le_refl _, Nat.le_refl _⟩ rfl (Nat.le_of_ble_eq_true rfl) dX12_laying_16) hI (Nat.le_of_ble_eq_true rfl) (fun r_6 σ_7 H locs hpσ_7 hkσ_7 hI => ?_)
  have ahpσ_7 := hpσ_7.1
  have bhpσ_7 := hpσ_7.2.1
  have chpσ_7 := hpσ_7.2.2.1
  have dhpσ_7 := hpσ_7.2.2.2
  clear hpσ_7
  replace hI := q_Irw ahpσ_7 hI
  replace hF := q_letX hF dhpσ_7
  refine q_if_ne (A := r_6.toInt) E rfl (tgt := 28) dX12_laying_19 (by decide) (fun c_8 => ?_) (fun c_8 => ?_)
  · skip
    replace hF := q_ifn hF c_8
    replace c_8 := q_ifOne bhpσ_7 c_8
    replace chpσ_7 := q_ifYes chpσ_7 c_8
    refine lv_iload_n hx hb dX12_laying_28 rfl (lv_at hl 1 rfl) ?_
    refine lv_i2l hx hb dX12_laying_29 rfl ?_
    refine lv_topl (fun y_9 ey_9 => ?_)
    replace hF := q_letX hF ey_9
    have ggy_9 := q_rng v1
    have iy_9 : y_9.toInt = v1.toInt := by rw [ey_9]; exact (q_i2l _).trans rfl
    refine lv_lconst (v := 0) hx hb dX12_laying_30 (by decide) ?_
    refine lv_aload_n hx hb dX12_laying_31 rfl (lv_at hl 0 rfl) ?_
    refine gs_X12_35_12 E hI ha dX12_laying_32 ?_
    refine lv_bipush (v := 9) hx hb dX12_laying_35 zkb_9 ?_
    refine q_iald E hI (q_tk (k' := 34) hI ha rfl (Nat.succ_ne_zero _)) ⟨by decide, rfl⟩ (by decide) (by rw [q_lnk (v := 4650) hI (q_tk (k' := 34) hI ha rfl (Nat.succ_ne_zero _)) rfl (by decide)]; decide) dX12_laying_37 ?_
    refine lv_topi (fun f_10 ef_10 => ?_)
    replace hF := q_letX hF ef_10
    have if_10 : f_10.toInt = m_c X σ a 9 := (m_rd ef_10 (by decide)).trans (congrFun feσ_2 _)
    refine lv_iconst (v := 1) hx hb dX12_laying_38 zki_1 ?_
    refine lv_isub hx hb dX12_laying_39 ?_
    refine lv_topi (fun z_11 ez_11 => ?_)
    replace hF := q_letX hF ez_11
    have iz_11 := q_subI (A := (m_c X σ a 9)) (B := 1) ez_11 if_10 (by decide) (by first | (clear ggy_3 iy_3 kc_4 kc_5 ahpσ_7 bhpσ_7 dhpσ_7 c_8 chpσ_7 ggy_9 iy_9; omega) | omega) (by first | (clear ggy_3 iy_3 kc_4 kc_5 ahpσ_7 bhpσ_7 dhpσ_7 c_8 chpσ_7 ggy_9 iy_9; omega) | omega)
    refine lv_i2l hx hb dX12_laying_40 rfl ?_
    refine lv_topl (fun y_12 ey_12 => ?_)
    replace hF := q_letX hF ey_12
    have ggy_12 := q_rng z_11
    have iy_12 : y_12.toInt = z_11.toInt := by rw [ey_12]; exact (q_i2l _).trans rfl
    have kc_13 : (0 : Int64).toInt = 0 := rfl
    refine q_ci (q_runS (As := [.long y_9, .long 0, .long y_12]) (rest := []) E (hml.trans hl.1.symm) hI (c_X12_isIn l X σ_2 y_9 (0 : Int64) y_12) ks_X12_94 rfl ⟨Nat.le_of_ble_eq_true rfl, Nat.le_of_ble_eq_true rfl⟩ ⟨Nat.le_refl _, Nat.le_refl _⟩ rfl (Nat.le_of_ble_eq_true rfl) dX12_laying_41) hI (Nat.le_of_ble_eq_true rfl) (fun r_14 σ_15 H locs hpσ_15 hkσ_15 hI => ?_)
    have ahpσ_15 := hpσ_15.1
    have bhpσ_15 := hpσ_15.2.1
    have chpσ_15 := hpσ_15.2.2.1
    have dhpσ_15 := hpσ_15.2.2.2
    clear hpσ_15
    replace hI := q_Irw ahpσ_15 hI
    replace hF := q_letX hF dhpσ_15
    refine q_if_ne (A := r_14.toInt) E rfl (tgt := 54) dX12_laying_44 (by decide) (fun c_16 => ?_) (fun c_16 => ?_)
    · skip
      replace hF := q_ifn hF c_16
      replace c_16 := q_ifOne bhpσ_15 c_16
      replace chpσ_15 := q_ifYes chpσ_15 c_16
      refine lv_iload_n hx hb dX12_laying_54 rfl (lv_at hl 2 rfl) ?_
      refine lv_iconst (v := 3) hx hb dX12_laying_55 zki_3 ?_
      refine q_icmp_ne (A := v2.toInt) (B := 3) E rfl (by decide) (tgt := 67) dX12_laying_56 (by decide) (fun c_17 => ?_) (fun c_17 => ?_)
      · skip
        replace hF := q_ifn hF c_17
        refine lv_aload_n hx hb dX12_laying_67 rfl (lv_at hl 0 rfl) ?_
        refine gs_X12_35_12 E hI ha dX12_laying_68 ?_
        refine lv_iload_n hx hb dX12_laying_71 rfl (lv_at hl 1 rfl) ?_
        refine q_ci (q_runS (As := [.int v1]) (rest := [.ref (q_rf X a 20)]) E (hml.trans hl.1.symm) hI (c_X12_laid l X σ_2 v1 (by first | (clear ggy_3 iy_3 kc_5 ahpσ_7 bhpσ_7 dhpσ_7 c_8 chpσ_7 ggy_12 kc_13 ahpσ_15 bhpσ_15 dhpσ_15 c_16 c_17; omega) | omega)) ks_X12_279 rfl ⟨Nat.le_of_ble_eq_true rfl, Nat.le_of_ble_eq_true rfl⟩ ⟨Nat.le_refl _, Nat.le_refl _⟩ rfl (Nat.le_of_ble_eq_true rfl) dX12_laying_72) hI (Nat.le_of_ble_eq_true rfl) (fun r_18 σ_19 H locs hpσ_19 hkσ_19 hI => ?_)
        have ahpσ_19 := hpσ_19.1
        have bhpσ_19 := hpσ_19.2.1
        have chpσ_19 := hpσ_19.2.2
        clear hpσ_19
        replace hI := q_Irw ahpσ_19 hI
        replace hF := q_letX hF chpσ_19
        have ir_18 : r_18.toInt = (94 + 7 * v1.toInt) := (by omega)
        refine lv_iload_n hx hb dX12_laying_75 rfl (lv_at hl 2 rfl) ?_
        refine lv_iadd hx hb dX12_laying_76 ?_
        refine lv_topi (fun z_20 ez_20 => ?_)
        replace hF := q_letX hF ez_20
        have iz_20 := q_addI (A := (94 + 7 * v1.toInt)) (B := v2.toInt) ez_20 ir_18 rfl (by first | (clear hh ggy_3 kc_5 ahpσ_7 bhpσ_7 dhpσ_7 c_8 if_10 iz_11 ggy_12 iy_12 kc_13 ahpσ_15 bhpσ_15 dhpσ_15 c_16 c_17 ahpσ_19 bhpσ_19 chpσ_19 ir_18; omega) | omega) (by first | (clear ggy_3 kc_4 ahpσ_7 bhpσ_7 dhpσ_7 c_8 ggy_9 ggy_12 kc_13 ahpσ_15 bhpσ_15 dhpσ_15 c_16 c_17 ahpσ_19 bhpσ_19 chpσ_19 ir_18; omega) | omega)
        refine q_iald E hI (q_tk (k' := 34) hI ha rfl (Nat.succ_ne_zero _)) ⟨by decide, rfl⟩ (by first | (clear hh ahpσ_7 bhpσ_7 dhpσ_7 c_8 if_10 iz_11 ggy_12 iy_12 kc_13 ahpσ_15 bhpσ_15 dhpσ_15 c_16 c_17 ahpσ_19 bhpσ_19 chpσ_19 ir_18; omega) | omega) (by rw [q_lnk (v := 4650) hI (q_tk (k' := 34) hI ha rfl (Nat.succ_ne_zero _)) rfl (by decide)]; omega) dX12_laying_77 ?_
        refine lv_topi (fun f_21 ef_21 => ?_)
        replace hF := q_letX hF ef_21
        have if_21 : f_21.toInt = m_c X σ a ((94 + 7 * v1.toInt) + v2.toInt) := (m_rd ef_21 iz_20).trans (congrFun feσ_2 _)
        exact q_reti E hr hlk hI ⟨(hF.trans hout), fr_σ_2⟩ dX12_laying_78
      · skip
        replace hF := q_ifp hF c_17
        refine lv_aload_n hx hb dX12_laying_59 rfl (lv_at hl 0 rfl) ?_
        refine lv_iload_n hx hb dX12_laying_60 rfl (lv_at hl 1 rfl) ?_
        refine q_ci (q_rV11_1 (rest := []) E (hml.trans hl.1.symm) hI (c_X12_sortOf l X σ_2 a v1 ha (by rw [feσ_2]; exact hG) (by rw [feσ_2]; exact (by first | (clear hh ggy_3 iy_3 kc_5 ahpσ_7 bhpσ_7 dhpσ_7 c_8 chpσ_7 ggy_12 kc_13 ahpσ_15 bhpσ_15 dhpσ_15 c_16 c_17; omega) | omega))) kv_X12_305 ha ⟨Nat.le_of_ble_eq_true rfl, Nat.le_of_ble_eq_true rfl⟩ (Nat.le_of_ble_eq_true rfl) dX12_laying_61) hI (Nat.le_of_ble_eq_true rfl) (fun r_22 σ_23 H locs hpσ_23 hkσ_23 hI => ?_)
        have ahpσ_23 := hpσ_23.1
        have bhpσ_23 := hpσ_23.2.1
        have chpσ_23 := hpσ_23.2.2
        clear hpσ_23
        replace hI := q_Irw ahpσ_23 hI
        replace hF := q_letX hF chpσ_23
        refine lv_goto (tgt := 78) hx hb dX12_laying_64 (by decide) ?_
        exact q_reti E hr hlk hI ⟨(hF.trans hout), fr_σ_2⟩ dX12_laying_78
    · skip
      replace hF := q_ifp hF c_16
      replace chpσ_15 := q_ifNo chpσ_15 c_16
      refine lv_aload_n hx hb dX12_laying_47 rfl (lv_at hl 0 rfl) ?_
      refine lv_bipush (v := 8) hx hb dX12_laying_48 zkb_8 ?_
      have kc_24 : (8 : Int32).toInt = 8 := zt_8
      refine q_ci (q_rV11_1 (rest := []) E (hml.trans hl.1.symm) hI (c_X12_refuse l X σ_2 a (8 : Int32) ha) kv_X12_284 ha ⟨Nat.le_of_ble_eq_true rfl, Nat.le_of_ble_eq_true rfl⟩ (Nat.le_of_ble_eq_true rfl) dX12_laying_50) hI (Nat.le_of_ble_eq_true rfl) (fun r_25 σ_26 H locs hpσ_26 hkσ_26 hI => ?_)
      have ahpσ_26 := hpσ_26.1
      have bhpσ_26 := hpσ_26.2.1
      have chpσ_26 := hpσ_26.2.2
      clear hpσ_26
      have fr_σ_26 := fr_σ_2.call chpσ_26 rfl rfl
      replace hF := q_biX hF bhpσ_26
      have mcσ_26 := m_cK hkσ_26 hI.1 ha (by decide)
      have feσ_26 : m_c X σ_26 a = m_c X σ a := (funext mcσ_26).trans feσ_2
      exact q_reti E hr hlk hI ⟨(hF.trans hout), fr_σ_26⟩ dX12_laying_53
  · skip
    replace hF := q_ifp hF c_8
    replace chpσ_7 := q_ifNo chpσ_7 c_8
    refine lv_aload_n hx hb dX12_laying_22 rfl (lv_at hl 0 rfl) ?_
    refine lv_iconst (v := 5) hx hb dX12_laying_23 zki_5 ?_
    have kc_27 : (5 : Int32).toInt = 5 := zt_5
    refine q_ci (q_rV11_1 (rest := []) E (hml.trans hl.1.symm) hI (c_X12_refuse l X σ_2 a (5 : Int32) ha) kv_X12_284 ha ⟨Nat.le_of_ble_eq_true rfl, Nat.le_of_ble_eq_true rfl⟩ (Nat.le_of_ble_eq_true rfl) dX12_laying_24) hI (Nat.le_of_ble_eq_true rfl) (fun r_28 σ_29 H locs hpσ_29 hkσ_29 hI => ?_)
    have ahpσ_29 := hpσ_29.1
    have bhpσ_29 := hpσ_29.2.1
    have chpσ_29 := hpσ_29.2.2
    clear hpσ_29
    have fr_σ_29 := fr_σ_2.call chpσ_29 rfl rfl
    replace hF := q_biX hF bhpσ_29
    have mcσ_29 := m_cK hkσ_29 hI.1 ha (by decide)
    have feσ_29 : m_c X σ_29 a = m_c X σ a := (funext mcσ_29).trans feσ_2
    exact q_reti E hr hlk hI ⟨(hF.trans hout), fr_σ_29⟩ dX12_laying_27

set_option maxRecDepth 100000 in
set_option maxHeartbeats 4000000 in
theorem c_X12_cardOf (l : Launch) (X : XW) (σ : ST) (a : Nat) (v1 : Int32) (v2 : Int32) (ha : q_kd X a = 12) (hG : m_G (m_c X σ a)) : Met l yX12_cardOf (q_ws yX12_cardOf cX12_cardOf 3 (some .int)) (q_rm 1 25) (q_P X σ [.ref a, .int v1, .int v2]) (q_Qi X 8 σ (fun (r : Int32) (σ' : ST) => (r, σ') = F_X12_cardOf X σ a v1 v2 ∧ q_ow [(12, 0), (12, 1)] [] X σ σ')) 0 0 (q_reg X) := by
  refine q_met 8 (by first | exact rfl | decide +kernel) rfl (Nat.le_of_ble_eq_true rfl) (fun p e s m below meth c E hml hr hlk hI ls hl => ?_)
  have hx := E.1
  have hb := E.2.1
  have hl : lv_has ls 3 [(0, .ref a), (1, .int v1), (2, .int v2)] := hl
  have feσ : m_c X σ a = m_c X σ a := rfl
  have fr_σ : q_ow [(12, 0), (12, 1)] [] X σ σ := q_ow.rf
  have hh := hG.hd
  obtain ⟨out, hout⟩ : ∃ o, o = F_X12_cardOf X σ a v1 v2 := ⟨_, rfl⟩
  have hF := hout.symm
  unfold F_X12_cardOf at hF
  refine lv_aload_n hx hb dX12_cardOf_0 rfl (lv_at hl 0 rfl) ?_
  refine lv_iconst (v := 0) hx hb dX12_cardOf_1 zki_0 ?_
  refine ps_X12_59_12 E hI ha (by decide) dX12_cardOf_2 (fun H locs σ_1 hσ_1 hI => ?_)
  replace hF := q_letX hF hσ_1
  have fr_σ_1 := fr_σ.si hσ_1 ha rfl
  have mcσ_1 := m_wo hσ_1 (m_ne ha (q_tk (f := 20) (k' := 34) hI ha rfl (by decide)) (by decide))
  have feσ_1 : m_c X σ_1 a = m_c X σ a := (funext mcσ_1).trans feσ
  refine lv_aload_n hx hb dX12_cardOf_5 rfl (lv_at hl 0 rfl) ?_
  refine lv_iconst (v := 0) hx hb dX12_cardOf_6 zki_0 ?_
  refine ps_X12_62_12 E hI ha (by decide) dX12_cardOf_7 (fun H locs σ_2 hσ_2 hI => ?_)
  replace hF := q_letX hF hσ_2
  have fr_σ_2 := fr_σ_1.si hσ_2 ha rfl
  have mcσ_2 := m_wo hσ_2 (m_ne ha (q_tk (f := 20) (k' := 34) hI ha rfl (by decide)) (by decide))
  have feσ_2 : m_c X σ_2 a = m_c X σ a := (funext mcσ_2).trans feσ_1
  refine lv_iload_n hx hb dX12_cardOf_10 rfl (lv_at hl 1 rfl) ?_
  refine lv_i2l hx hb dX12_cardOf_11 rfl ?_
  refine lv_topl (fun y_3 ey_3 => ?_)
  replace hF := q_letX hF ey_3
  have ggy_3 := q_rng v1
  have iy_3 : y_3.toInt = v1.toInt := by rw [ey_3]; exact (q_i2l _).trans rfl
  refine lv_lconst (v := 0) hx hb dX12_cardOf_12 (by decide) ?_
  refine lv_aload_n hx hb dX12_cardOf_13 rfl (lv_at hl 0 rfl) ?_
  refine gs_X12_35_12 E hI ha dX12_cardOf_14 ?_
  refine lv_bipush (v := 9) hx hb dX12_cardOf_17 zkb_9 ?_
  refine q_iald E hI (q_tk (k' := 34) hI ha rfl (Nat.succ_ne_zero _)) ⟨by decide, rfl⟩ (by decide) (by rw [q_lnk (v := 4650) hI (q_tk (k' := 34) hI ha rfl (Nat.succ_ne_zero _)) rfl (by decide)]; decide) dX12_cardOf_19 ?_
  refine lv_topi (fun f_4 ef_4 => ?_)
  replace hF := q_letX hF ef_4
  have if_4 : f_4.toInt = m_c X σ a 9 := (m_rd ef_4 (by decide)).trans (congrFun feσ_2 _)
  refine lv_iconst (v := 1) hx hb dX12_cardOf_20 zki_1 ?_
  refine lv_isub hx hb dX12_cardOf_21 ?_
  refine lv_topi (fun z_5 ez_5 => ?_)
  replace hF := q_letX hF ez_5
  have iz_5 := q_subI (A := (m_c X σ a 9)) (B := 1) ez_5 if_4 (by decide) (by first | (clear ggy_3 iy_3; omega) | omega) (by first | (clear ggy_3 iy_3; omega) | omega)
  refine lv_i2l hx hb dX12_cardOf_22 rfl ?_
  refine lv_topl (fun y_6 ey_6 => ?_)
  replace hF := q_letX hF ey_6
  have ggy_6 := q_rng z_5
  have iy_6 : y_6.toInt = z_5.toInt := by rw [ey_6]; exact (q_i2l _).trans rfl
  have kc_7 : (0 : Int64).toInt = 0 := rfl
  refine q_ci (q_runS (As := [.long y_3, .long 0, .long y_6]) (rest := []) E (hml.trans hl.1.symm) hI (c_X12_isIn l X σ_2 y_3 (0 : Int64) y_6) ks_X12_94 rfl ⟨Nat.le_of_ble_eq_true rfl, Nat.le_of_ble_eq_true rfl⟩ ⟨Nat.le_refl _, Nat.le_refl _⟩ rfl (Nat.le_of_ble_eq_true rfl) dX12_cardOf_23) hI (Nat.le_of_ble_eq_true rfl) (fun r_8 σ_9 H locs hpσ_9 hkσ_9 hI => ?_)
  have ahpσ_9 := hpσ_9.1
  have bhpσ_9 := hpσ_9.2.1
  have chpσ_9 := hpσ_9.2.2.1
  have dhpσ_9 := hpσ_9.2.2.2
  clear hpσ_9
  replace hI := q_Irw ahpσ_9 hI
  replace hF := q_letX hF dhpσ_9
  refine q_if_eq (A := r_8.toInt) E rfl (tgt := 52) dX12_cardOf_26 (by decide) (fun c_10 => ?_) (fun c_10 => ?_)
  · skip
    replace hF := q_ifp hF c_10
    replace chpσ_9 := q_ifNo chpσ_9 c_10
    refine lv_aload_n hx hb dX12_cardOf_52 rfl (lv_at hl 0 rfl) ?_
    refine lv_bipush (v := 8) hx hb dX12_cardOf_53 zkb_8 ?_
    have kc_11 : (8 : Int32).toInt = 8 := zt_8
    refine q_ci (q_rV11_1 (rest := []) E (hml.trans hl.1.symm) hI (c_X12_refuse l X σ_2 a (8 : Int32) ha) kv_X12_284 ha ⟨Nat.le_of_ble_eq_true rfl, Nat.le_of_ble_eq_true rfl⟩ (Nat.le_of_ble_eq_true rfl) dX12_cardOf_55) hI (Nat.le_of_ble_eq_true rfl) (fun r_12 σ_13 H locs hpσ_13 hkσ_13 hI => ?_)
    have ahpσ_13 := hpσ_13.1
    have bhpσ_13 := hpσ_13.2.1
    have chpσ_13 := hpσ_13.2.2
    clear hpσ_13
    have fr_σ_13 := fr_σ_2.call chpσ_13 rfl rfl
    replace hF := q_biX hF bhpσ_13
    have mcσ_13 := m_cK hkσ_13 hI.1 ha (by decide)
    have feσ_13 : m_c X σ_13 a = m_c X σ a := (funext mcσ_13).trans feσ_2
    exact q_reti E hr hlk hI ⟨(hF.trans hout), fr_σ_13⟩ dX12_cardOf_58
  · skip
    replace hF := q_ifn hF c_10
    replace c_10 := q_ifOne bhpσ_9 c_10
    replace chpσ_9 := q_ifYes chpσ_9 c_10
    have hy := (hG.2.2.1 v1.toInt (by first | (clear hh if_4 iz_5 ggy_6 iy_6 ahpσ_9 bhpσ_9 dhpσ_9 c_10; omega) | omega) (by first | (clear hh ggy_3 ggy_6 kc_7 ahpσ_9 bhpσ_9 dhpσ_9 c_10; omega) | omega)).1
    refine lv_iload_n hx hb dX12_cardOf_29 rfl (lv_at hl 2 rfl) ?_
    refine lv_i2l hx hb dX12_cardOf_30 rfl ?_
    refine lv_topl (fun y_14 ey_14 => ?_)
    replace hF := q_letX hF ey_14
    have ggy_14 := q_rng v2
    have iy_14 : y_14.toInt = v2.toInt := by rw [ey_14]; exact (q_i2l _).trans rfl
    refine lv_lconst (v := 0) hx hb dX12_cardOf_31 (by decide) ?_
    refine lv_aload_n hx hb dX12_cardOf_32 rfl (lv_at hl 0 rfl) ?_
    refine gs_X12_35_12 E hI ha dX12_cardOf_33 ?_
    refine lv_iload_n hx hb dX12_cardOf_36 rfl (lv_at hl 1 rfl) ?_
    refine q_ci (q_runS (As := [.int v1]) (rest := [.ref (q_rf X a 20), .long 0, .long y_14]) E (hml.trans hl.1.symm) hI (c_X12_laid l X σ_2 v1 (by first | (clear ggy_6 ahpσ_9 bhpσ_9 dhpσ_9 c_10 hy ggy_14 iy_14; omega) | omega)) ks_X12_279 rfl ⟨Nat.le_of_ble_eq_true rfl, Nat.le_of_ble_eq_true rfl⟩ ⟨Nat.le_refl _, Nat.le_refl _⟩ rfl (Nat.le_of_ble_eq_true rfl) dX12_cardOf_37) hI (Nat.le_of_ble_eq_true rfl) (fun r_15 σ_16 H locs hpσ_16 hkσ_16 hI => ?_)
    have ahpσ_16 := hpσ_16.1
    have bhpσ_16 := hpσ_16.2.1
    have chpσ_16 := hpσ_16.2.2
    clear hpσ_16
    replace hI := q_Irw ahpσ_16 hI
    replace hF := q_letX hF chpσ_16
    have ir_15 : r_15.toInt = (94 + 7 * v1.toInt) := (by omega)
    refine lv_iconst (v := 2) hx hb dX12_cardOf_40 zki_2 ?_
    refine lv_iadd hx hb dX12_cardOf_41 ?_
    refine lv_topi (fun z_17 ez_17 => ?_)
    replace hF := q_letX hF ez_17
    have iz_17 := q_addI (A := (94 + 7 * v1.toInt)) (B := 2) ez_17 ir_15 (by decide) (by first | (clear hh if_4 iz_5 ggy_6 iy_6 ahpσ_9 bhpσ_9 dhpσ_9 c_10 hy ggy_14 iy_14 ahpσ_16 bhpσ_16 chpσ_16 ir_15; omega) | omega) (by first | (clear ggy_6 kc_7 ahpσ_9 bhpσ_9 dhpσ_9 c_10 hy ggy_14 iy_14 ahpσ_16 bhpσ_16 chpσ_16 ir_15; omega) | omega)
    refine q_iald E hI (q_tk (k' := 34) hI ha rfl (Nat.succ_ne_zero _)) ⟨by decide, rfl⟩ (by first | (clear hh ggy_3 if_4 iz_5 ggy_6 iy_6 ahpσ_9 bhpσ_9 dhpσ_9 c_10 hy ggy_14 iy_14 ahpσ_16 bhpσ_16 chpσ_16 ir_15; omega) | omega) (by rw [q_lnk (v := 4650) hI (q_tk (k' := 34) hI ha rfl (Nat.succ_ne_zero _)) rfl (by decide)]; omega) dX12_cardOf_42 ?_
    refine lv_topi (fun f_18 ef_18 => ?_)
    replace hF := q_letX hF ef_18
    have if_18 : f_18.toInt = m_c X σ a ((94 + 7 * v1.toInt) + 2) := (m_rd ef_18 iz_17).trans (congrFun feσ_2 _)
    refine lv_iconst (v := 1) hx hb dX12_cardOf_43 zki_1 ?_
    refine lv_isub hx hb dX12_cardOf_44 ?_
    refine lv_topi (fun z_19 ez_19 => ?_)
    replace hF := q_letX hF ez_19
    have iz_19 := q_subI (A := (m_c X σ a ((94 + 7 * v1.toInt) + 2))) (B := 1) ez_19 if_18 (by decide) (by first | (clear hh ggy_3 iy_3 if_4 iz_5 ggy_6 iy_6 kc_7 ahpσ_9 bhpσ_9 dhpσ_9 c_10 chpσ_9 ggy_14 iy_14 ahpσ_16 bhpσ_16 chpσ_16 ir_15 iz_17; omega) | omega) (by first | (clear hh ggy_3 iy_3 if_4 iz_5 ggy_6 iy_6 kc_7 ahpσ_9 bhpσ_9 dhpσ_9 c_10 chpσ_9 ggy_14 iy_14 ahpσ_16 bhpσ_16 chpσ_16 ir_15 iz_17; omega) | omega)
    refine lv_i2l hx hb dX12_cardOf_45 rfl ?_
    refine lv_topl (fun y_20 ey_20 => ?_)
    replace hF := q_letX hF ey_20
    have ggy_20 := q_rng z_19
    have iy_20 : y_20.toInt = z_19.toInt := by rw [ey_20]; exact (q_i2l _).trans rfl
    have kc_21 : (0 : Int64).toInt = 0 := rfl
    refine q_ci (q_runS (As := [.long y_14, .long 0, .long y_20]) (rest := []) E (hml.trans hl.1.symm) hI (c_X12_isIn l X σ_2 y_14 (0 : Int64) y_20) ks_X12_94 rfl ⟨Nat.le_of_ble_eq_true rfl, Nat.le_of_ble_eq_true rfl⟩ ⟨Nat.le_refl _, Nat.le_refl _⟩ rfl (Nat.le_of_ble_eq_true rfl) dX12_cardOf_46) hI (Nat.le_of_ble_eq_true rfl) (fun r_22 σ_23 H locs hpσ_23 hkσ_23 hI => ?_)
    have ahpσ_23 := hpσ_23.1
    have bhpσ_23 := hpσ_23.2.1
    have chpσ_23 := hpσ_23.2.2.1
    have dhpσ_23 := hpσ_23.2.2.2
    clear hpσ_23
    replace hI := q_Irw ahpσ_23 hI
    replace hF := q_letX hF dhpσ_23
    refine q_if_ne (A := r_22.toInt) E rfl (tgt := 59) dX12_cardOf_49 (by decide) (fun c_24 => ?_) (fun c_24 => ?_)
    · skip
      replace hF := q_ifn hF c_24
      replace c_24 := q_ifOne bhpσ_23 c_24
      replace chpσ_23 := q_ifYes chpσ_23 c_24
      refine lv_aload_n hx hb dX12_cardOf_59 rfl (lv_at hl 0 rfl) ?_
      refine gs_X12_35_12 E hI ha dX12_cardOf_60 ?_
      refine lv_iload_n hx hb dX12_cardOf_63 rfl (lv_at hl 1 rfl) ?_
      refine q_ci (q_runS (As := [.int v1]) (rest := [.ref (q_rf X a 20)]) E (hml.trans hl.1.symm) hI (c_X12_laid l X σ_2 v1 (by first | (clear ggy_6 ahpσ_9 bhpσ_9 dhpσ_9 c_10 hy ggy_14 iy_14 ahpσ_16 bhpσ_16 chpσ_16 ir_15 iz_17 if_18 iz_19 ggy_20 iy_20 kc_21 ahpσ_23 bhpσ_23 dhpσ_23 c_24 chpσ_23; omega) | omega)) ks_X12_279 rfl ⟨Nat.le_of_ble_eq_true rfl, Nat.le_of_ble_eq_true rfl⟩ ⟨Nat.le_refl _, Nat.le_refl _⟩ rfl (Nat.le_of_ble_eq_true rfl) dX12_cardOf_64) hI (Nat.le_of_ble_eq_true rfl) (fun r_25 σ_26 H locs hpσ_26 hkσ_26 hI => ?_)
      have ahpσ_26 := hpσ_26.1
      have bhpσ_26 := hpσ_26.2.1
      have chpσ_26 := hpσ_26.2.2
      clear hpσ_26
      replace hI := q_Irw ahpσ_26 hI
      replace hF := q_letX hF chpσ_26
      have ir_25 : r_25.toInt = (94 + 7 * v1.toInt) := (by omega)
      refine lv_iconst (v := 3) hx hb dX12_cardOf_67 zki_3 ?_
      refine lv_iadd hx hb dX12_cardOf_68 ?_
      refine lv_topi (fun z_27 ez_27 => ?_)
      replace hF := q_letX hF ez_27
      have iz_27 := q_addI (A := (94 + 7 * v1.toInt)) (B := 3) ez_27 ir_25 (by decide) (by first | (clear hh if_4 iz_5 ggy_6 iy_6 ahpσ_9 bhpσ_9 dhpσ_9 c_10 hy ggy_14 iy_14 ahpσ_16 bhpσ_16 chpσ_16 ir_15 iz_17 if_18 iz_19 ggy_20 iy_20 kc_21 ahpσ_23 bhpσ_23 dhpσ_23 c_24 chpσ_23 ahpσ_26 bhpσ_26 chpσ_26 ir_25; omega) | omega) (by first | (clear ggy_6 kc_7 ahpσ_9 bhpσ_9 dhpσ_9 c_10 hy ggy_14 iy_14 ahpσ_16 bhpσ_16 chpσ_16 ir_15 iz_17 if_18 iz_19 ggy_20 iy_20 kc_21 ahpσ_23 bhpσ_23 dhpσ_23 c_24 chpσ_23 ahpσ_26 bhpσ_26 chpσ_26 ir_25; omega) | omega)
      refine lv_iload_n hx hb dX12_cardOf_69 rfl (lv_at hl 2 rfl) ?_
      refine lv_iadd hx hb dX12_cardOf_70 ?_
      refine lv_topi (fun z_28 ez_28 => ?_)
      replace hF := q_letX hF ez_28
      have iz_28 := q_addI (A := ((94 + 7 * v1.toInt) + 3)) (B := v2.toInt) ez_28 iz_27 rfl (by first | (clear hh ggy_3 if_4 iz_5 ggy_6 iy_6 ahpσ_9 bhpσ_9 dhpσ_9 c_10 hy ahpσ_16 bhpσ_16 chpσ_16 ir_15 iz_17 if_18 iz_19 ggy_20 iy_20 kc_21 ahpσ_23 bhpσ_23 dhpσ_23 c_24 ahpσ_26 bhpσ_26 chpσ_26 ir_25 iz_27; omega) | omega) (by first | (clear ggy_3 ggy_6 kc_7 ahpσ_9 bhpσ_9 dhpσ_9 c_10 ggy_14 ahpσ_16 bhpσ_16 chpσ_16 ir_15 iz_17 ggy_20 kc_21 ahpσ_23 bhpσ_23 dhpσ_23 c_24 ahpσ_26 bhpσ_26 chpσ_26 ir_25 iz_27; omega) | omega)
      refine q_iald E hI (q_tk (k' := 34) hI ha rfl (Nat.succ_ne_zero _)) ⟨by decide, rfl⟩ (by first | (clear hh ggy_3 if_4 iz_5 ggy_6 iy_6 ahpσ_9 bhpσ_9 dhpσ_9 c_10 ahpσ_16 bhpσ_16 chpσ_16 ir_15 iz_17 ggy_20 kc_21 ahpσ_23 bhpσ_23 dhpσ_23 c_24 ahpσ_26 bhpσ_26 chpσ_26 ir_25 iz_27; omega) | omega) (by rw [q_lnk (v := 4650) hI (q_tk (k' := 34) hI ha rfl (Nat.succ_ne_zero _)) rfl (by decide)]; omega) dX12_cardOf_71 ?_
      refine lv_topi (fun f_29 ef_29 => ?_)
      replace hF := q_letX hF ef_29
      have if_29 : f_29.toInt = m_c X σ a (((94 + 7 * v1.toInt) + 3) + v2.toInt) := (m_rd ef_29 iz_28).trans (congrFun feσ_2 _)
      exact q_reti E hr hlk hI ⟨(hF.trans hout), fr_σ_2⟩ dX12_cardOf_72
    · skip
      replace hF := q_ifp hF c_24
      replace chpσ_23 := q_ifNo chpσ_23 c_24
      refine lv_aload_n hx hb dX12_cardOf_52 rfl (lv_at hl 0 rfl) ?_
      refine lv_bipush (v := 8) hx hb dX12_cardOf_53 zkb_8 ?_
      have kc_30 : (8 : Int32).toInt = 8 := zt_8
      refine q_ci (q_rV11_1 (rest := []) E (hml.trans hl.1.symm) hI (c_X12_refuse l X σ_2 a (8 : Int32) ha) kv_X12_284 ha ⟨Nat.le_of_ble_eq_true rfl, Nat.le_of_ble_eq_true rfl⟩ (Nat.le_of_ble_eq_true rfl) dX12_cardOf_55) hI (Nat.le_of_ble_eq_true rfl) (fun r_31 σ_32 H locs hpσ_32 hkσ_32 hI => ?_)
      have ahpσ_32 := hpσ_32.1
      have bhpσ_32 := hpσ_32.2.1
      have chpσ_32 := hpσ_32.2.2
      clear hpσ_32
      have fr_σ_32 := fr_σ_2.call chpσ_32 rfl rfl
      replace hF := q_biX hF bhpσ_32
      have mcσ_32 := m_cK hkσ_32 hI.1 ha (by decide)
      have feσ_32 : m_c X σ_32 a = m_c X σ a := (funext mcσ_32).trans feσ_2
      exact q_reti E hr hlk hI ⟨(hF.trans hout), fr_σ_32⟩ dX12_cardOf_58

set_option maxRecDepth 100000 in
set_option maxHeartbeats 4000000 in
theorem c_X12_copyHand (l : Launch) (X : XW) (σ : ST) (a : Nat) (v1 : Int32) (v2 : Int32) (ha : q_kd X a = 12) (hG : m_G (m_c X σ a)) : Met l yX12_copyHand (q_ws yX12_copyHand cX12_copyHand 4 (some .int)) (q_rm 2 46) (q_P X σ [.ref a, .int v1, .int v2]) (q_Qi X 8 σ (fun (r : Int32) (σ' : ST) => (r, σ') = F_X12_copyHand X σ a v1 v2 ∧ q_ow [(12, 0), (12, 1)] [(32, 99)] X σ σ')) 0 0 (q_reg X) := by
  refine q_met 8 (by first | exact rfl | decide +kernel) rfl (Nat.le_of_ble_eq_true rfl) (fun p e s m below meth c E hml hr hlk hI ls hl => ?_)
  have hx := E.1
  have hb := E.2.1
  have hl : lv_has ls 4 [(0, .ref a), (1, .int v1), (2, .int v2)] := hl
  have feσ : m_c X σ a = m_c X σ a := rfl
  have fr_σ : q_ow [(12, 0), (12, 1)] [(32, 99)] X σ σ := q_ow.rf
  have hh := hG.hd
  obtain ⟨out, hout⟩ : ∃ o, o = F_X12_copyHand X σ a v1 v2 := ⟨_, rfl⟩
  have hF := hout.symm
  unfold F_X12_copyHand at hF
  refine lv_aload_n hx hb dX12_copyHand_0 rfl (lv_at hl 0 rfl) ?_
  refine lv_iconst (v := 0) hx hb dX12_copyHand_1 zki_0 ?_
  refine ps_X12_59_12 E hI ha (by decide) dX12_copyHand_2 (fun H locs σ_1 hσ_1 hI => ?_)
  replace hF := q_letX hF hσ_1
  have fr_σ_1 := fr_σ.si hσ_1 ha rfl
  have mcσ_1 := m_wo hσ_1 (m_ne ha (q_tk (f := 20) (k' := 34) hI ha rfl (by decide)) (by decide))
  have feσ_1 : m_c X σ_1 a = m_c X σ a := (funext mcσ_1).trans feσ
  refine lv_aload_n hx hb dX12_copyHand_5 rfl (lv_at hl 0 rfl) ?_
  refine lv_iconst (v := 0) hx hb dX12_copyHand_6 zki_0 ?_
  refine ps_X12_62_12 E hI ha (by decide) dX12_copyHand_7 (fun H locs σ_2 hσ_2 hI => ?_)
  replace hF := q_letX hF hσ_2
  have fr_σ_2 := fr_σ_1.si hσ_2 ha rfl
  have mcσ_2 := m_wo hσ_2 (m_ne ha (q_tk (f := 20) (k' := 34) hI ha rfl (by decide)) (by decide))
  have feσ_2 : m_c X σ_2 a = m_c X σ a := (funext mcσ_2).trans feσ_1
  refine lv_aload_n hx hb dX12_copyHand_10 rfl (lv_at hl 0 rfl) ?_
  refine lv_iload_n hx hb dX12_copyHand_11 rfl (lv_at hl 2 rfl) ?_
  refine q_ci (q_rV11_1 (rest := []) E (hml.trans hl.1.symm) hI (c_X12_isTray l X σ_2 a v2 ha) kv_X12_308 ha ⟨Nat.le_of_ble_eq_true rfl, Nat.le_of_ble_eq_true rfl⟩ (Nat.le_of_ble_eq_true rfl) dX12_copyHand_12) hI (Nat.le_of_ble_eq_true rfl) (fun r_3 σ_4 H locs hpσ_4 hkσ_4 hI => ?_)
  have ahpσ_4 := hpσ_4.1
  have bhpσ_4 := hpσ_4.2.1
  have chpσ_4 := hpσ_4.2.2.1
  have dhpσ_4 := hpσ_4.2.2.2
  clear hpσ_4
  replace hI := q_Irw ahpσ_4 hI
  replace hF := q_letX hF dhpσ_4
  refine q_if_ne (A := r_3.toInt) E rfl (tgt := 24) dX12_copyHand_15 (by decide) (fun c_5 => ?_) (fun c_5 => ?_)
  · skip
    replace hF := q_ifn hF c_5
    replace c_5 := q_ifOne bhpσ_4 c_5
    replace chpσ_4 := q_ifYes chpσ_4 c_5
    refine lv_aload_n hx hb dX12_copyHand_24 rfl (lv_at hl 0 rfl) ?_
    refine gs_X12_17_12 E hI ha dX12_copyHand_25 ?_
    refine lv_iload_n hx hb dX12_copyHand_28 rfl (lv_at hl 2 rfl) ?_
    refine q_iald E hI (q_tk (k' := 31) hI ha rfl (Nat.succ_ne_zero _)) ⟨by decide, rfl⟩ (by first | (clear hh ahpσ_4 bhpσ_4 dhpσ_4 c_5; omega) | omega) (by rw [q_lnk (v := 4) hI (q_tk (k' := 31) hI ha rfl (Nat.succ_ne_zero _)) rfl (by decide)]; omega) dX12_copyHand_29 ?_
    refine lv_topi (fun f_6 ef_6 => ?_)
    replace hF := q_letX hF ef_6
    have bf_6 : -1 ≤ f_6.toInt ∧ f_6.toInt ≤ 60 := by rw [ef_6]; exact q_bd hI (q_tk (k' := 31) hI ha rfl (Nat.succ_ne_zero _)) rfl
    have if_6 : f_6.toInt = (σ_2.1 (q_rf X a 5) (v2 : Int32).toNatClampNeg).toInt := congrArg Int32.toInt ef_6
    refine q_if_ge (A := f_6.toInt) E rfl (tgt := 39) dX12_copyHand_30 (by decide) (fun c_7 => ?_) (fun c_7 => ?_)
    · skip
      replace hF := q_ifn hF (Int.not_lt.mpr c_7)
      refine lv_aload_n hx hb dX12_copyHand_39 rfl (lv_at hl 0 rfl) ?_
      refine lv_iload_n hx hb dX12_copyHand_40 rfl (lv_at hl 1 rfl) ?_
      refine q_ci (q_rV11_1 (rest := []) E (hml.trans hl.1.symm) hI (c_X12_isPlayerAt l X σ_2 a v1 ha (by rw [feσ_2]; exact hG)) kv_X12_290 ha ⟨Nat.le_of_ble_eq_true rfl, Nat.le_of_ble_eq_true rfl⟩ (Nat.le_of_ble_eq_true rfl) dX12_copyHand_41) hI (Nat.le_of_ble_eq_true rfl) (fun r_8 σ_9 H locs hpσ_9 hkσ_9 hI => ?_)
      have ahpσ_9 := hpσ_9.1
      have bhpσ_9 := hpσ_9.2.1
      have chpσ_9 := hpσ_9.2.2.1
      have dhpσ_9 := hpσ_9.2.2.2
      clear hpσ_9
      replace hI := q_Irw ahpσ_9 hI
      rw [feσ_2] at chpσ_9
      replace hF := q_letX hF dhpσ_9
      refine q_if_ne (A := r_8.toInt) E rfl (tgt := 53) dX12_copyHand_44 (by decide) (fun c_10 => ?_) (fun c_10 => ?_)
      · skip
        replace hF := q_ifn hF c_10
        replace c_10 := q_ifOne bhpσ_9 c_10
        replace chpσ_9 := q_ifYes chpσ_9 c_10
        refine lv_aload_n hx hb dX12_copyHand_53 rfl (lv_at hl 0 rfl) ?_
        refine gs_X12_17_12 E hI ha dX12_copyHand_54 ?_
        refine lv_iload_n hx hb dX12_copyHand_57 rfl (lv_at hl 2 rfl) ?_
        refine q_iald E hI (q_tk (k' := 31) hI ha rfl (Nat.succ_ne_zero _)) ⟨by decide, rfl⟩ (by first | (clear hh ahpσ_4 bhpσ_4 dhpσ_4 c_5 bf_6 if_6 c_7 ahpσ_9 bhpσ_9 dhpσ_9 c_10 chpσ_9; omega) | omega) (by rw [q_lnk (v := 4) hI (q_tk (k' := 31) hI ha rfl (Nat.succ_ne_zero _)) rfl (by decide)]; omega) dX12_copyHand_58 ?_
        refine lv_topi (fun f_11 ef_11 => ?_)
        replace hF := q_letX hF ef_11
        have bf_11 : -1 ≤ f_11.toInt ∧ f_11.toInt ≤ 60 := by rw [ef_11]; exact q_bd hI (q_tk (k' := 31) hI ha rfl (Nat.succ_ne_zero _)) rfl
        have if_11 : f_11.toInt = (σ_2.1 (q_rf X a 5) (v2 : Int32).toNatClampNeg).toInt := congrArg Int32.toInt ef_11
        refine lv_aload_n hx hb dX12_copyHand_59 rfl (lv_at hl 0 rfl) ?_
        refine gs_X12_35_12 E hI ha dX12_copyHand_60 ?_
        refine lv_iconst (v := 0) hx hb dX12_copyHand_63 zki_0 ?_
        refine q_iald E hI (q_tk (k' := 34) hI ha rfl (Nat.succ_ne_zero _)) ⟨by decide, rfl⟩ (by decide) (by rw [q_lnk (v := 4650) hI (q_tk (k' := 34) hI ha rfl (Nat.succ_ne_zero _)) rfl (by decide)]; decide) dX12_copyHand_64 ?_
        refine lv_topi (fun f_12 ef_12 => ?_)
        replace hF := q_letX hF ef_12
        have if_12 : f_12.toInt = m_c X σ a 0 := (m_rd ef_12 (by decide)).trans (congrFun feσ_2 _)
        have gc_13_f_11 := q_rng f_11
        have gc_13_f_12 := q_rng f_12
        refine q_icmp_ge (A := f_11.toInt) (B := f_12.toInt) E rfl rfl (tgt := 74) dX12_copyHand_65 (by decide) (fun c_13 => ?_) (fun c_13 => ?_)
        · skip
          replace hF := q_ifn hF (Int.not_lt.mpr c_13)
          refine lv_iconst (v := 0) hx hb dX12_copyHand_74 zki_0 ?_
          refine lv_istore_n (lv' := [(3, .int 0), (0, .ref a), (1, .int v1), (2, .int v2)]) hx hb dX12_copyHand_75 rfl hl (by decide) rfl (fun ls hl => ?_)
          have L_76_16 : ∀ (k_16 : Nat) (x_14 : Int32) (σ_15 : ST) (H : Heap) (locs : List Loc) (ls : Array Slot), (2147483647 - x_14.toInt).toNat < k_16 → (0 ≤ x_14.toInt) → (q_ow [(12, 0), (12, 1)] [(32, 99)] X σ σ_15) → (m_c X σ_15 a = m_c X σ a) → (F_X12_copyHand_L76_1 X a v2 v1 k_16 x_14 σ_15 = out) → q_I X 8 σ s.heap locs σ_15 H → lv_has ls 4 [(0, .ref a), (1, .int v1), (2, .int v2), (3, .int x_14)] → W p l e (q_rm 2 46) s m ([.ref a, .int v1, .int v2] : List Value).toArray below meth c H locs 0 0 (MQ below (q_Qi X 8 σ (fun (r : Int32) (σ' : ST) => (r, σ') = F_X12_copyHand X σ a v1 v2 ∧ q_ow [(12, 0), (12, 1)] [(32, 99)] X σ σ')) ([.ref a, .int v1, .int v2] : List Value).toArray s 0 0 (q_reg X)) (F0 m 76 ls []) := by
            clear hF
            intro k_16
            induction k_16 with
            | zero =>
              intro x_14 σ_15 H locs ls hms
              exact absurd hms (Nat.not_lt_zero _)
            | succ k_16 ih76 =>
              intro x_14 σ_15 H locs ls hm76 hge76 fr_σ_15 feσ_15 hF hI hl
              replace hF := (F_X12_copyHand_L76_1_s).symm.trans hF
              unfold F_X12_copyHand_B76_1 at hF
              refine lv_iload_n hx hb dX12_copyHand_76 rfl (lv_at hl 3 rfl) ?_
              refine lv_aload_n hx hb dX12_copyHand_77 rfl (lv_at hl 0 rfl) ?_
              refine gs_X12_35_12 E hI ha dX12_copyHand_78 ?_
              refine lv_iconst (v := 0) hx hb dX12_copyHand_81 zki_0 ?_
              refine q_iald E hI (q_tk (k' := 34) hI ha rfl (Nat.succ_ne_zero _)) ⟨by decide, rfl⟩ (by decide) (by rw [q_lnk (v := 4650) hI (q_tk (k' := 34) hI ha rfl (Nat.succ_ne_zero _)) rfl (by decide)]; decide) dX12_copyHand_82 ?_
              refine lv_topi (fun f_17 ef_17 => ?_)
              replace hF := q_letX hF ef_17
              have if_17 : f_17.toInt = m_c X σ a 0 := (m_rd ef_17 (by decide)).trans (congrFun feσ_15 _)
              have gc_18_x_14 := q_rng x_14
              have gc_18_f_17 := q_rng f_17
              refine q_icmp_ge (A := x_14.toInt) (B := f_17.toInt) E rfl rfl (tgt := 110) dX12_copyHand_83 (by decide) (fun c_18 => ?_) (fun c_18 => ?_)
              · skip
                replace hF := q_ifn hF (Int.not_lt.mpr c_18)
                unfold F_X12_copyHand_E110_2 at hF
                refine lv_aload_n hx hb dX12_copyHand_110 rfl (lv_at hl 0 rfl) ?_
                refine gs_X12_35_12 E hI ha dX12_copyHand_111 ?_
                refine lv_iconst (v := 0) hx hb dX12_copyHand_114 zki_0 ?_
                refine q_iald E hI (q_tk (k' := 34) hI ha rfl (Nat.succ_ne_zero _)) ⟨by decide, rfl⟩ (by decide) (by rw [q_lnk (v := 4650) hI (q_tk (k' := 34) hI ha rfl (Nat.succ_ne_zero _)) rfl (by decide)]; decide) dX12_copyHand_115 ?_
                refine lv_topi (fun f_19 ef_19 => ?_)
                replace hF := q_letX hF ef_19
                have if_19 : f_19.toInt = m_c X σ a 0 := (m_rd ef_19 (by decide)).trans (congrFun feσ_15 _)
                exact q_reti E hr hlk hI ⟨(hF.trans hout), fr_σ_15⟩ dX12_copyHand_116
              · skip
                replace hF := q_ifp hF c_18
                refine lv_aload_n hx hb dX12_copyHand_86 rfl (lv_at hl 0 rfl) ?_
                refine gs_X12_20_12 E hI ha dX12_copyHand_87 ?_
                refine lv_bipush (v := 60) hx hb dX12_copyHand_90 zkb_60 ?_
                refine lv_iload_n hx hb dX12_copyHand_92 rfl (lv_at hl 2 rfl) ?_
                refine lv_imul hx hb dX12_copyHand_93 ?_
                refine lv_topi (fun z_20 ez_20 => ?_)
                replace hF := q_letX hF ez_20
                have iz_20 := q_mulI (A := 60) (B := v2.toInt) ez_20 (by decide) rfl (by first | (clear hh ahpσ_4 bhpσ_4 dhpσ_4 c_5 bf_6 if_6 c_7 ahpσ_9 bhpσ_9 dhpσ_9 c_10 chpσ_9 bf_11 if_11 if_12 gc_13_f_11 gc_13_f_12 c_13 hm76 hge76 if_17 gc_18_x_14 gc_18_f_17 c_18; omega) | omega) (by first | (clear hh ahpσ_4 bhpσ_4 dhpσ_4 c_5 bf_6 if_6 c_7 ahpσ_9 bhpσ_9 dhpσ_9 c_10 chpσ_9 bf_11 if_11 if_12 gc_13_f_11 gc_13_f_12 c_13 hm76 hge76 if_17 gc_18_x_14 gc_18_f_17 c_18; omega) | omega)
                refine lv_iload_n hx hb dX12_copyHand_94 rfl (lv_at hl 3 rfl) ?_
                refine lv_iadd hx hb dX12_copyHand_95 ?_
                refine lv_topi (fun z_21 ez_21 => ?_)
                replace hF := q_letX hF ez_21
                have iz_21 := q_addI (A := (60 * v2.toInt)) (B := x_14.toInt) ez_21 iz_20 rfl (by first | (clear hh ahpσ_4 bhpσ_4 dhpσ_4 c_5 bf_6 if_6 c_7 ahpσ_9 bhpσ_9 dhpσ_9 c_10 chpσ_9 bf_11 if_11 if_12 gc_13_f_11 gc_13_f_12 c_13 hm76 if_17 gc_18_f_17 c_18 iz_20; omega) | omega) (by first | (clear ahpσ_4 bhpσ_4 dhpσ_4 c_5 bf_6 if_6 c_7 ahpσ_9 bhpσ_9 dhpσ_9 c_10 chpσ_9 bf_11 if_11 gc_13_f_11 gc_13_f_12 c_13 hm76 gc_18_f_17 iz_20; omega) | omega)
                refine lv_aload_n hx hb dX12_copyHand_96 rfl (lv_at hl 0 rfl) ?_
                refine lv_iload_n hx hb dX12_copyHand_97 rfl (lv_at hl 1 rfl) ?_
                refine lv_iload_n hx hb dX12_copyHand_98 rfl (lv_at hl 3 rfl) ?_
                refine q_ci (q_rV11_2 (rest := [.int z_21, .ref (q_rf X a 6)]) E (hml.trans hl.1.symm) hI (c_X12_handOf l X σ_15 a v1 x_14 ha (by first | (clear ahpσ_4 bhpσ_4 dhpσ_4 c_5 chpσ_4 bf_6 if_6 c_7 ahpσ_9 bhpσ_9 dhpσ_9 c_10 bf_11 if_11 if_12 gc_13_f_11 gc_13_f_12 c_13 hm76 hge76 if_17 gc_18_x_14 gc_18_f_17 c_18 iz_20 iz_21; omega) | omega) (by first | (clear ahpσ_4 bhpσ_4 dhpσ_4 c_5 chpσ_4 bf_6 if_6 c_7 ahpσ_9 bhpσ_9 dhpσ_9 c_10 chpσ_9 bf_11 if_11 gc_13_f_11 gc_13_f_12 c_13 hm76 gc_18_f_17 iz_20; omega) | omega)) kv_X12_276 ha ⟨Nat.le_of_ble_eq_true rfl, Nat.le_of_ble_eq_true rfl⟩ (Nat.le_of_ble_eq_true rfl) dX12_copyHand_99) hI (Nat.le_of_ble_eq_true rfl) (fun r_22 σ_23 H locs hpσ_23 hkσ_23 hI => ?_)
                have ahpσ_23 := hpσ_23.1
                have bhpσ_23 := hpσ_23.2.1
                have chpσ_23 := hpσ_23.2.2
                clear hpσ_23
                replace hI := q_Irw ahpσ_23 hI
                rw [feσ_15] at bhpσ_23
                replace hF := q_letX hF chpσ_23
                have ir_22 : r_22.toInt = (m_c X σ a (34 + 10 * v1.toInt + x_14.toInt)) := (by first | exact bhpσ_23 | (rw [bhpσ_23]) | (simp only [bhpσ_23]))
                refine lv_i2l hx hb dX12_copyHand_102 rfl ?_
                refine lv_topl (fun y_24 ey_24 => ?_)
                replace hF := q_letX hF ey_24
                have ggy_24 := q_rng r_22
                have iy_24 : y_24.toInt = r_22.toInt := by rw [ey_24]; exact (q_i2l _).trans rfl
                refine q_lastN E hI (q_tk (k' := 32) hI ha rfl (Nat.succ_ne_zero _)) ⟨by decide, rfl⟩ (by first | (clear ahpσ_4 bhpσ_4 dhpσ_4 c_5 bf_6 if_6 c_7 ahpσ_9 bhpσ_9 dhpσ_9 c_10 chpσ_9 bf_11 if_11 gc_13_f_11 gc_13_f_12 c_13 hm76 gc_18_f_17 iz_20 ahpσ_23 bhpσ_23 chpσ_23 ir_22 ggy_24 iy_24; omega) | omega) (by rw [q_lnk (v := 240) hI (q_tk (k' := 32) hI ha rfl (Nat.succ_ne_zero _)) rfl (by decide)]; omega) dX12_copyHand_103 (fun H locs σ_25 hσ_25 hI => ?_)
                replace hF := q_letX hF hσ_25
                have fr_σ_25 := fr_σ_15.sl hσ_25 (q_tk (k' := 32) hI ha rfl (Nat.succ_ne_zero _)) rfl
                have mcσ_25 := m_wl (X := X) hσ_25 a
                have feσ_25 : m_c X σ_25 a = m_c X σ a := (funext mcσ_25).trans feσ_15
                obtain ⟨z_26, ez_26⟩ : ∃ y : Int32, y = x_14 + 1 := ⟨_, rfl⟩
                replace hF := q_letX hF ez_26
                refine lv_iinc (v := z_26) (lv' := [(3, .int z_26), (0, .ref a), (1, .int v1), (2, .int v2)]) hx hb dX12_copyHand_104 hl (k := 3) rfl (by rw [ez_26]; rfl) (by decide) rfl (fun ls hl => ?_)
                have iz_26 : z_26.toInt = x_14.toInt + 1 := q_inc ez_26 (by first | (clear ahpσ_4 bhpσ_4 dhpσ_4 c_5 chpσ_4 bf_6 if_6 c_7 ahpσ_9 bhpσ_9 dhpσ_9 c_10 chpσ_9 bf_11 if_11 gc_13_f_11 gc_13_f_12 c_13 hm76 gc_18_f_17 iz_20 ahpσ_23 bhpσ_23 chpσ_23 ir_22 ggy_24 iy_24; omega) | omega)
                refine lv_goto (tgt := 76) hx hb dX12_copyHand_107 (by decide) ?_
                exact ih76 z_26 σ_25 _ _ ls (by first | (clear ahpσ_4 bhpσ_4 dhpσ_4 c_5 chpσ_4 bf_6 if_6 c_7 ahpσ_9 bhpσ_9 dhpσ_9 c_10 chpσ_9 bf_11 if_11 gc_13_f_11 gc_13_f_12 c_13 gc_18_f_17 iz_20 ahpσ_23 bhpσ_23 chpσ_23 ir_22 ggy_24 iy_24; omega) | omega) (by first | (clear hh ahpσ_4 bhpσ_4 dhpσ_4 c_5 chpσ_4 bf_6 if_6 c_7 ahpσ_9 bhpσ_9 dhpσ_9 c_10 chpσ_9 bf_11 if_11 if_12 gc_13_f_11 gc_13_f_12 c_13 hm76 if_17 gc_18_f_17 c_18 iz_20 ahpσ_23 bhpσ_23 chpσ_23 ir_22 ggy_24 iy_24; omega) | omega) fr_σ_25 feσ_25 hF hI (lv_sub hl [1, 2, 3, 0] rfl)
          have kc_27 : (0 : Int32).toInt = 0 := zt_0
          exact L_76_16 ((2147483647 - (0 : Int32).toInt).toNat + 1) 0 σ_2 _ _ ls (Nat.lt_succ_self _) (by decide) fr_σ_2 feσ_2 hF hI (lv_sub hl [1, 2, 3, 0] rfl)
        · skip
          replace hF := q_ifp hF c_13
          refine lv_aload_n hx hb dX12_copyHand_68 rfl (lv_at hl 0 rfl) ?_
          refine lv_iconst (v := 4) hx hb dX12_copyHand_69 zki_4 ?_
          have kc_28 : (4 : Int32).toInt = 4 := zt_4
          refine q_ci (q_rV11_1 (rest := []) E (hml.trans hl.1.symm) hI (c_X12_refuse l X σ_2 a (4 : Int32) ha) kv_X12_284 ha ⟨Nat.le_of_ble_eq_true rfl, Nat.le_of_ble_eq_true rfl⟩ (Nat.le_of_ble_eq_true rfl) dX12_copyHand_70) hI (Nat.le_of_ble_eq_true rfl) (fun r_29 σ_30 H locs hpσ_30 hkσ_30 hI => ?_)
          have ahpσ_30 := hpσ_30.1
          have bhpσ_30 := hpσ_30.2.1
          have chpσ_30 := hpσ_30.2.2
          clear hpσ_30
          have fr_σ_30 := fr_σ_2.call chpσ_30 rfl rfl
          replace hF := q_biX hF bhpσ_30
          have mcσ_30 := m_cK hkσ_30 hI.1 ha (by decide)
          have feσ_30 : m_c X σ_30 a = m_c X σ a := (funext mcσ_30).trans feσ_2
          exact q_reti E hr hlk hI ⟨(hF.trans hout), fr_σ_30⟩ dX12_copyHand_73
      · skip
        replace hF := q_ifp hF c_10
        replace chpσ_9 := q_ifNo chpσ_9 c_10
        refine lv_aload_n hx hb dX12_copyHand_47 rfl (lv_at hl 0 rfl) ?_
        refine lv_iconst (v := 2) hx hb dX12_copyHand_48 zki_2 ?_
        have kc_31 : (2 : Int32).toInt = 2 := zt_2
        refine q_ci (q_rV11_1 (rest := []) E (hml.trans hl.1.symm) hI (c_X12_refuse l X σ_2 a (2 : Int32) ha) kv_X12_284 ha ⟨Nat.le_of_ble_eq_true rfl, Nat.le_of_ble_eq_true rfl⟩ (Nat.le_of_ble_eq_true rfl) dX12_copyHand_49) hI (Nat.le_of_ble_eq_true rfl) (fun r_32 σ_33 H locs hpσ_33 hkσ_33 hI => ?_)
        have ahpσ_33 := hpσ_33.1
        have bhpσ_33 := hpσ_33.2.1
        have chpσ_33 := hpσ_33.2.2
        clear hpσ_33
        have fr_σ_33 := fr_σ_2.call chpσ_33 rfl rfl
        replace hF := q_biX hF bhpσ_33
        have mcσ_33 := m_cK hkσ_33 hI.1 ha (by decide)
        have feσ_33 : m_c X σ_33 a = m_c X σ a := (funext mcσ_33).trans feσ_2
        exact q_reti E hr hlk hI ⟨(hF.trans hout), fr_σ_33⟩ dX12_copyHand_52
    · skip
      replace hF := q_ifp hF c_7
      refine lv_aload_n hx hb dX12_copyHand_33 rfl (lv_at hl 0 rfl) ?_
      refine lv_iconst (v := 3) hx hb dX12_copyHand_34 zki_3 ?_
      have kc_34 : (3 : Int32).toInt = 3 := zt_3
      refine q_ci (q_rV11_1 (rest := []) E (hml.trans hl.1.symm) hI (c_X12_refuse l X σ_2 a (3 : Int32) ha) kv_X12_284 ha ⟨Nat.le_of_ble_eq_true rfl, Nat.le_of_ble_eq_true rfl⟩ (Nat.le_of_ble_eq_true rfl) dX12_copyHand_35) hI (Nat.le_of_ble_eq_true rfl) (fun r_35 σ_36 H locs hpσ_36 hkσ_36 hI => ?_)
      have ahpσ_36 := hpσ_36.1
      have bhpσ_36 := hpσ_36.2.1
      have chpσ_36 := hpσ_36.2.2
      clear hpσ_36
      have fr_σ_36 := fr_σ_2.call chpσ_36 rfl rfl
      replace hF := q_biX hF bhpσ_36
      have mcσ_36 := m_cK hkσ_36 hI.1 ha (by decide)
      have feσ_36 : m_c X σ_36 a = m_c X σ a := (funext mcσ_36).trans feσ_2
      exact q_reti E hr hlk hI ⟨(hF.trans hout), fr_σ_36⟩ dX12_copyHand_38
  · skip
    replace hF := q_ifp hF c_5
    replace chpσ_4 := q_ifNo chpσ_4 c_5
    refine lv_aload_n hx hb dX12_copyHand_18 rfl (lv_at hl 0 rfl) ?_
    refine lv_iconst (v := 1) hx hb dX12_copyHand_19 zki_1 ?_
    have kc_37 : (1 : Int32).toInt = 1 := zt_1
    refine q_ci (q_rV11_1 (rest := []) E (hml.trans hl.1.symm) hI (c_X12_refuse l X σ_2 a (1 : Int32) ha) kv_X12_284 ha ⟨Nat.le_of_ble_eq_true rfl, Nat.le_of_ble_eq_true rfl⟩ (Nat.le_of_ble_eq_true rfl) dX12_copyHand_20) hI (Nat.le_of_ble_eq_true rfl) (fun r_38 σ_39 H locs hpσ_39 hkσ_39 hI => ?_)
    have ahpσ_39 := hpσ_39.1
    have bhpσ_39 := hpσ_39.2.1
    have chpσ_39 := hpσ_39.2.2
    clear hpσ_39
    have fr_σ_39 := fr_σ_2.call chpσ_39 rfl rfl
    replace hF := q_biX hF bhpσ_39
    have mcσ_39 := m_cK hkσ_39 hI.1 ha (by decide)
    have feσ_39 : m_c X σ_39 a = m_c X σ a := (funext mcσ_39).trans feσ_2
    exact q_reti E hr hlk hI ⟨(hF.trans hout), fr_σ_39⟩ dX12_copyHand_23

set_option maxRecDepth 100000 in
set_option maxHeartbeats 4000000 in
theorem c_X12_known (l : Launch) (X : XW) (σ : ST) (a : Nat) (v1 : Int32) (v2 : Int32) (ha : q_kd X a = 12) (hG : m_G (m_c X σ a)) : Met l yX12_known (q_ws yX12_known cX12_known 3 (some .int)) (q_rm 3 68) (q_P X σ [.ref a, .int v1, .int v2]) (q_Qi X 8 σ (fun (r : Int32) (σ' : ST) => (r, σ') = F_X12_known X σ a v1 v2 ∧ q_ow [(12, 0), (12, 1)] [] X σ σ')) 0 0 (q_reg X) := by
  refine q_met 8 (by first | exact rfl | decide +kernel) rfl (Nat.le_of_ble_eq_true rfl) (fun p e s m below meth c E hml hr hlk hI ls hl => ?_)
  have hx := E.1
  have hb := E.2.1
  have hl : lv_has ls 3 [(0, .ref a), (1, .int v1), (2, .int v2)] := hl
  have feσ : m_c X σ a = m_c X σ a := rfl
  have fr_σ : q_ow [(12, 0), (12, 1)] [] X σ σ := q_ow.rf
  have hh := hG.hd
  obtain ⟨out, hout⟩ : ∃ o, o = F_X12_known X σ a v1 v2 := ⟨_, rfl⟩
  have hF := hout.symm
  unfold F_X12_known at hF
  refine lv_aload_n hx hb dX12_known_0 rfl (lv_at hl 0 rfl) ?_
  refine lv_iconst (v := 0) hx hb dX12_known_1 zki_0 ?_
  refine ps_X12_59_12 E hI ha (by decide) dX12_known_2 (fun H locs σ_1 hσ_1 hI => ?_)
  replace hF := q_letX hF hσ_1
  have fr_σ_1 := fr_σ.si hσ_1 ha rfl
  have mcσ_1 := m_wo hσ_1 (m_ne ha (q_tk (f := 20) (k' := 34) hI ha rfl (by decide)) (by decide))
  have feσ_1 : m_c X σ_1 a = m_c X σ a := (funext mcσ_1).trans feσ
  refine lv_aload_n hx hb dX12_known_5 rfl (lv_at hl 0 rfl) ?_
  refine lv_iconst (v := 0) hx hb dX12_known_6 zki_0 ?_
  refine ps_X12_62_12 E hI ha (by decide) dX12_known_7 (fun H locs σ_2 hσ_2 hI => ?_)
  replace hF := q_letX hF hσ_2
  have fr_σ_2 := fr_σ_1.si hσ_2 ha rfl
  have mcσ_2 := m_wo hσ_2 (m_ne ha (q_tk (f := 20) (k' := 34) hI ha rfl (by decide)) (by decide))
  have feσ_2 : m_c X σ_2 a = m_c X σ a := (funext mcσ_2).trans feσ_1
  refine lv_aload_n hx hb dX12_known_10 rfl (lv_at hl 0 rfl) ?_
  refine lv_iload_n hx hb dX12_known_11 rfl (lv_at hl 1 rfl) ?_
  refine q_ci (q_rV11_1 (rest := []) E (hml.trans hl.1.symm) hI (c_X12_isPlayerAt l X σ_2 a v1 ha (by rw [feσ_2]; exact hG)) kv_X12_290 ha ⟨Nat.le_of_ble_eq_true rfl, Nat.le_of_ble_eq_true rfl⟩ (Nat.le_of_ble_eq_true rfl) dX12_known_12) hI (Nat.le_of_ble_eq_true rfl) (fun r_3 σ_4 H locs hpσ_4 hkσ_4 hI => ?_)
  have ahpσ_4 := hpσ_4.1
  have bhpσ_4 := hpσ_4.2.1
  have chpσ_4 := hpσ_4.2.2.1
  have dhpσ_4 := hpσ_4.2.2.2
  clear hpσ_4
  replace hI := q_Irw ahpσ_4 hI
  rw [feσ_2] at chpσ_4
  replace hF := q_letX hF dhpσ_4
  refine q_if_eq (A := r_3.toInt) E rfl (tgt := 35) dX12_known_15 (by decide) (fun c_5 => ?_) (fun c_5 => ?_)
  · skip
    replace hF := q_ifp hF c_5
    replace chpσ_4 := q_ifNo chpσ_4 c_5
    refine lv_aload_n hx hb dX12_known_35 rfl (lv_at hl 0 rfl) ?_
    refine lv_iconst (v := 2) hx hb dX12_known_36 zki_2 ?_
    have kc_6 : (2 : Int32).toInt = 2 := zt_2
    refine q_ci (q_rV11_1 (rest := []) E (hml.trans hl.1.symm) hI (c_X12_refuse l X σ_2 a (2 : Int32) ha) kv_X12_284 ha ⟨Nat.le_of_ble_eq_true rfl, Nat.le_of_ble_eq_true rfl⟩ (Nat.le_of_ble_eq_true rfl) dX12_known_37) hI (Nat.le_of_ble_eq_true rfl) (fun r_7 σ_8 H locs hpσ_8 hkσ_8 hI => ?_)
    have ahpσ_8 := hpσ_8.1
    have bhpσ_8 := hpσ_8.2.1
    have chpσ_8 := hpσ_8.2.2
    clear hpσ_8
    have fr_σ_8 := fr_σ_2.call chpσ_8 rfl rfl
    replace hF := q_biX hF bhpσ_8
    have mcσ_8 := m_cK hkσ_8 hI.1 ha (by decide)
    have feσ_8 : m_c X σ_8 a = m_c X σ a := (funext mcσ_8).trans feσ_2
    exact q_reti E hr hlk hI ⟨(hF.trans hout), fr_σ_8⟩ dX12_known_40
  · skip
    replace hF := q_ifn hF c_5
    replace c_5 := q_ifOne bhpσ_4 c_5
    replace chpσ_4 := q_ifYes chpσ_4 c_5
    refine lv_aload_n hx hb dX12_known_18 rfl (lv_at hl 0 rfl) ?_
    refine lv_iload_n hx hb dX12_known_19 rfl (lv_at hl 2 rfl) ?_
    refine q_ci (q_rV11_1 (rest := []) E (hml.trans hl.1.symm) hI (c_X12_isKindAt l X σ_2 a v2 ha (by rw [feσ_2]; exact hG)) kv_X12_299 ha ⟨Nat.le_of_ble_eq_true rfl, Nat.le_of_ble_eq_true rfl⟩ (Nat.le_of_ble_eq_true rfl) dX12_known_20) hI (Nat.le_of_ble_eq_true rfl) (fun r_9 σ_10 H locs hpσ_10 hkσ_10 hI => ?_)
    have ahpσ_10 := hpσ_10.1
    have bhpσ_10 := hpσ_10.2.1
    have chpσ_10 := hpσ_10.2.2.1
    have dhpσ_10 := hpσ_10.2.2.2
    clear hpσ_10
    replace hI := q_Irw ahpσ_10 hI
    rw [feσ_2] at chpσ_10
    replace hF := q_letX hF dhpσ_10
    refine q_if_eq (A := r_9.toInt) E rfl (tgt := 35) dX12_known_23 (by decide) (fun c_11 => ?_) (fun c_11 => ?_)
    · skip
      replace hF := q_ifp hF c_11
      replace chpσ_10 := q_ifNo chpσ_10 c_11
      refine lv_aload_n hx hb dX12_known_35 rfl (lv_at hl 0 rfl) ?_
      refine lv_iconst (v := 2) hx hb dX12_known_36 zki_2 ?_
      have kc_12 : (2 : Int32).toInt = 2 := zt_2
      refine q_ci (q_rV11_1 (rest := []) E (hml.trans hl.1.symm) hI (c_X12_refuse l X σ_2 a (2 : Int32) ha) kv_X12_284 ha ⟨Nat.le_of_ble_eq_true rfl, Nat.le_of_ble_eq_true rfl⟩ (Nat.le_of_ble_eq_true rfl) dX12_known_37) hI (Nat.le_of_ble_eq_true rfl) (fun r_13 σ_14 H locs hpσ_14 hkσ_14 hI => ?_)
      have ahpσ_14 := hpσ_14.1
      have bhpσ_14 := hpσ_14.2.1
      have chpσ_14 := hpσ_14.2.2
      clear hpσ_14
      have fr_σ_14 := fr_σ_2.call chpσ_14 rfl rfl
      replace hF := q_biX hF bhpσ_14
      have mcσ_14 := m_cK hkσ_14 hI.1 ha (by decide)
      have feσ_14 : m_c X σ_14 a = m_c X σ a := (funext mcσ_14).trans feσ_2
      exact q_reti E hr hlk hI ⟨(hF.trans hout), fr_σ_14⟩ dX12_known_40
    · skip
      replace hF := q_ifn hF c_11
      replace c_11 := q_ifOne bhpσ_10 c_11
      replace chpσ_10 := q_ifYes chpσ_10 c_11
      refine lv_aload_n hx hb dX12_known_26 rfl (lv_at hl 0 rfl) ?_
      refine lv_iload_n hx hb dX12_known_27 rfl (lv_at hl 1 rfl) ?_
      refine lv_iload_n hx hb dX12_known_28 rfl (lv_at hl 2 rfl) ?_
      refine q_ci (q_rV11_2 (rest := []) E (hml.trans hl.1.symm) hI (c_X12_knownOf l X σ_2 a v1 v2 ha (by rw [feσ_2]; exact hG) (by omega) (by omega)) kv_X12_333 ha ⟨Nat.le_of_ble_eq_true rfl, Nat.le_of_ble_eq_true rfl⟩ (Nat.le_of_ble_eq_true rfl) dX12_known_29) hI (Nat.le_of_ble_eq_true rfl) (fun r_15 σ_16 H locs hpσ_16 hkσ_16 hI => ?_)
      have ahpσ_16 := hpσ_16.1
      have bhpσ_16 := hpσ_16.2.1
      have chpσ_16 := hpσ_16.2.2
      clear hpσ_16
      replace hI := q_Irw ahpσ_16 hI
      rw [feσ_2] at bhpσ_16
      replace hF := q_letX hF chpσ_16
      have ir_15 : r_15.toInt = (m_c X σ a (34 + 10 * v1.toInt + v2.toInt) + m_A (m_c X σ a) v1.toInt v2.toInt (m_c X σ a 9).toNat) := (by first | exact bhpσ_16 | (rw [bhpσ_16]) | (simp only [bhpσ_16]))
      refine lv_goto (tgt := 40) hx hb dX12_known_32 (by decide) ?_
      exact q_reti E hr hlk hI ⟨(hF.trans hout), fr_σ_2⟩ dX12_known_40

set_option maxRecDepth 100000 in
set_option maxHeartbeats 4000000 in
theorem c_X12_unknown (l : Launch) (X : XW) (σ : ST) (a : Nat) (v1 : Int32) (v2 : Int32) (ha : q_kd X a = 12) (hG : m_G (m_c X σ a)) : Met l yX12_unknown (q_ws yX12_unknown cX12_unknown 3 (some .int)) (q_rm 5 114) (q_P X σ [.ref a, .int v1, .int v2]) (q_Qi X 8 σ (fun (r : Int32) (σ' : ST) => (r, σ') = F_X12_unknown X σ a v1 v2 ∧ q_ow [(12, 0), (12, 1)] [] X σ σ')) 0 0 (q_reg X) := by
  refine q_met 8 (by first | exact rfl | decide +kernel) rfl (Nat.le_of_ble_eq_true rfl) (fun p e s m below meth c E hml hr hlk hI ls hl => ?_)
  have hx := E.1
  have hb := E.2.1
  have hl : lv_has ls 3 [(0, .ref a), (1, .int v1), (2, .int v2)] := hl
  have feσ : m_c X σ a = m_c X σ a := rfl
  have fr_σ : q_ow [(12, 0), (12, 1)] [] X σ σ := q_ow.rf
  have hh := hG.hd
  obtain ⟨out, hout⟩ : ∃ o, o = F_X12_unknown X σ a v1 v2 := ⟨_, rfl⟩
  have hF := hout.symm
  unfold F_X12_unknown at hF
  refine lv_aload_n hx hb dX12_unknown_0 rfl (lv_at hl 0 rfl) ?_
  refine lv_iconst (v := 0) hx hb dX12_unknown_1 zki_0 ?_
  refine ps_X12_59_12 E hI ha (by decide) dX12_unknown_2 (fun H locs σ_1 hσ_1 hI => ?_)
  replace hF := q_letX hF hσ_1
  have fr_σ_1 := fr_σ.si hσ_1 ha rfl
  have mcσ_1 := m_wo hσ_1 (m_ne ha (q_tk (f := 20) (k' := 34) hI ha rfl (by decide)) (by decide))
  have feσ_1 : m_c X σ_1 a = m_c X σ a := (funext mcσ_1).trans feσ
  refine lv_aload_n hx hb dX12_unknown_5 rfl (lv_at hl 0 rfl) ?_
  refine lv_iconst (v := 0) hx hb dX12_unknown_6 zki_0 ?_
  refine ps_X12_62_12 E hI ha (by decide) dX12_unknown_7 (fun H locs σ_2 hσ_2 hI => ?_)
  replace hF := q_letX hF hσ_2
  have fr_σ_2 := fr_σ_1.si hσ_2 ha rfl
  have mcσ_2 := m_wo hσ_2 (m_ne ha (q_tk (f := 20) (k' := 34) hI ha rfl (by decide)) (by decide))
  have feσ_2 : m_c X σ_2 a = m_c X σ a := (funext mcσ_2).trans feσ_1
  refine lv_aload_n hx hb dX12_unknown_10 rfl (lv_at hl 0 rfl) ?_
  refine lv_iload_n hx hb dX12_unknown_11 rfl (lv_at hl 1 rfl) ?_
  refine q_ci (q_rV11_1 (rest := []) E (hml.trans hl.1.symm) hI (c_X12_isPlayerAt l X σ_2 a v1 ha (by rw [feσ_2]; exact hG)) kv_X12_290 ha ⟨Nat.le_of_ble_eq_true rfl, Nat.le_of_ble_eq_true rfl⟩ (Nat.le_of_ble_eq_true rfl) dX12_unknown_12) hI (Nat.le_of_ble_eq_true rfl) (fun r_3 σ_4 H locs hpσ_4 hkσ_4 hI => ?_)
  have ahpσ_4 := hpσ_4.1
  have bhpσ_4 := hpσ_4.2.1
  have chpσ_4 := hpσ_4.2.2.1
  have dhpσ_4 := hpσ_4.2.2.2
  clear hpσ_4
  replace hI := q_Irw ahpσ_4 hI
  rw [feσ_2] at chpσ_4
  replace hF := q_letX hF dhpσ_4
  refine q_if_eq (A := r_3.toInt) E rfl (tgt := 31) dX12_unknown_15 (by decide) (fun c_5 => ?_) (fun c_5 => ?_)
  · skip
    replace hF := q_ifp hF c_5
    replace chpσ_4 := q_ifNo chpσ_4 c_5
    refine lv_aload_n hx hb dX12_unknown_31 rfl (lv_at hl 0 rfl) ?_
    refine lv_iconst (v := 2) hx hb dX12_unknown_32 zki_2 ?_
    have kc_6 : (2 : Int32).toInt = 2 := zt_2
    refine q_ci (q_rV11_1 (rest := []) E (hml.trans hl.1.symm) hI (c_X12_refuse l X σ_2 a (2 : Int32) ha) kv_X12_284 ha ⟨Nat.le_of_ble_eq_true rfl, Nat.le_of_ble_eq_true rfl⟩ (Nat.le_of_ble_eq_true rfl) dX12_unknown_33) hI (Nat.le_of_ble_eq_true rfl) (fun r_7 σ_8 H locs hpσ_8 hkσ_8 hI => ?_)
    have ahpσ_8 := hpσ_8.1
    have bhpσ_8 := hpσ_8.2.1
    have chpσ_8 := hpσ_8.2.2
    clear hpσ_8
    have fr_σ_8 := fr_σ_2.call chpσ_8 rfl rfl
    replace hF := q_biX hF bhpσ_8
    have mcσ_8 := m_cK hkσ_8 hI.1 ha (by decide)
    have feσ_8 : m_c X σ_8 a = m_c X σ a := (funext mcσ_8).trans feσ_2
    exact q_reti E hr hlk hI ⟨(hF.trans hout), fr_σ_8⟩ dX12_unknown_36
  · skip
    replace hF := q_ifn hF c_5
    replace c_5 := q_ifOne bhpσ_4 c_5
    replace chpσ_4 := q_ifYes chpσ_4 c_5
    refine lv_iload_n hx hb dX12_unknown_18 rfl (lv_at hl 2 rfl) ?_
    refine lv_iconst (v := (-1)) hx hb dX12_unknown_19 zki_m1 ?_
    refine q_icmp_eq (A := v2.toInt) (B := (-1)) E rfl (by decide) (tgt := 37) dX12_unknown_20 (by decide) (fun c_9 => ?_) (fun c_9 => ?_)
    · skip
      replace hF := q_ifp hF c_9
      refine lv_iload_n hx hb dX12_unknown_37 rfl (lv_at hl 2 rfl) ?_
      refine lv_iconst (v := (-1)) hx hb dX12_unknown_38 zki_m1 ?_
      refine q_icmp_ne (A := v2.toInt) (B := (-1)) E rfl (by decide) (tgt := 50) dX12_unknown_39 (by decide) (fun c_10 => ?_) (fun c_10 => ?_)
      · skip
        replace hF := q_ifn hF c_10
        refine lv_aload_n hx hb dX12_unknown_50 rfl (lv_at hl 0 rfl) ?_
        refine lv_iload_n hx hb dX12_unknown_51 rfl (lv_at hl 1 rfl) ?_
        refine lv_iload_n hx hb dX12_unknown_52 rfl (lv_at hl 2 rfl) ?_
        refine q_ci (q_rV11_2 (rest := []) E (hml.trans hl.1.symm) hI (c_X12_unknownOf l X σ_2 a v1 v2 ha (by rw [feσ_2]; exact hG) (by rw [feσ_2]; exact (by omega)) (by first | (clear hh ahpσ_4 bhpσ_4 dhpσ_4 c_5 chpσ_4; omega) | omega)) kv_X12_336 ha ⟨Nat.le_of_ble_eq_true rfl, Nat.le_of_ble_eq_true rfl⟩ (Nat.le_of_ble_eq_true rfl) dX12_unknown_53) hI (Nat.le_of_ble_eq_true rfl) (fun r_11 σ_12 H locs hpσ_12 hkσ_12 hI => ?_)
        have ahpσ_12 := hpσ_12.1
        have bhpσ_12 := hpσ_12.2.1
        have chpσ_12 := hpσ_12.2.2.1
        have dhpσ_12 := hpσ_12.2.2.2
        clear hpσ_12
        replace hI := q_Irw ahpσ_12 hI
        rw [feσ_2] at bhpσ_12
        replace hF := q_letX hF dhpσ_12
        have ir_11 : r_11.toInt = (m_U (m_c X σ a) v1.toInt v2.toInt) := (by first | exact bhpσ_12 | (rw [bhpσ_12]) | (simp only [bhpσ_12]))
        exact q_reti E hr hlk hI ⟨(hF.trans hout), fr_σ_2⟩ dX12_unknown_56
      · skip
        replace hF := q_ifp hF c_10
        refine lv_aload_n hx hb dX12_unknown_42 rfl (lv_at hl 0 rfl) ?_
        refine lv_iload_n hx hb dX12_unknown_43 rfl (lv_at hl 1 rfl) ?_
        refine q_ci (q_rV11_1 (rest := []) E (hml.trans hl.1.symm) hI (c_X12_unknownAll l X σ_2 a v1 ha (by rw [feσ_2]; exact hG) (by rw [feσ_2]; exact (by omega))) kv_X12_339 ha ⟨Nat.le_of_ble_eq_true rfl, Nat.le_of_ble_eq_true rfl⟩ (Nat.le_of_ble_eq_true rfl) dX12_unknown_44) hI (Nat.le_of_ble_eq_true rfl) (fun r_13 σ_14 H locs hpσ_14 hkσ_14 hI => ?_)
        have ahpσ_14 := hpσ_14.1
        have bhpσ_14 := hpσ_14.2.1
        have chpσ_14 := hpσ_14.2.2.1
        have dhpσ_14 := hpσ_14.2.2.2
        clear hpσ_14
        replace hI := q_Irw ahpσ_14 hI
        rw [feσ_2] at bhpσ_14
        replace hF := q_letX hF dhpσ_14
        have ir_13 : r_13.toInt = (m_V (m_c X σ a) v1.toInt (m_c X σ a 0).toNat) := (by first | exact bhpσ_14 | (rw [bhpσ_14]) | (simp only [bhpσ_14]))
        refine lv_goto (tgt := 56) hx hb dX12_unknown_47 (by decide) ?_
        exact q_reti E hr hlk hI ⟨(hF.trans hout), fr_σ_2⟩ dX12_unknown_56
    · skip
      replace hF := q_ifn hF c_9
      refine lv_aload_n hx hb dX12_unknown_23 rfl (lv_at hl 0 rfl) ?_
      refine lv_iload_n hx hb dX12_unknown_24 rfl (lv_at hl 2 rfl) ?_
      refine q_ci (q_rV11_1 (rest := []) E (hml.trans hl.1.symm) hI (c_X12_isKindAt l X σ_2 a v2 ha (by rw [feσ_2]; exact hG)) kv_X12_299 ha ⟨Nat.le_of_ble_eq_true rfl, Nat.le_of_ble_eq_true rfl⟩ (Nat.le_of_ble_eq_true rfl) dX12_unknown_25) hI (Nat.le_of_ble_eq_true rfl) (fun r_15 σ_16 H locs hpσ_16 hkσ_16 hI => ?_)
      have ahpσ_16 := hpσ_16.1
      have bhpσ_16 := hpσ_16.2.1
      have chpσ_16 := hpσ_16.2.2.1
      have dhpσ_16 := hpσ_16.2.2.2
      clear hpσ_16
      replace hI := q_Irw ahpσ_16 hI
      rw [feσ_2] at chpσ_16
      replace hF := q_letX hF dhpσ_16
      refine q_if_ne (A := r_15.toInt) E rfl (tgt := 37) dX12_unknown_28 (by decide) (fun c_17 => ?_) (fun c_17 => ?_)
      · skip
        replace hF := q_ifn hF c_17
        replace c_17 := q_ifOne bhpσ_16 c_17
        replace chpσ_16 := q_ifYes chpσ_16 c_17
        refine lv_iload_n hx hb dX12_unknown_37 rfl (lv_at hl 2 rfl) ?_
        refine lv_iconst (v := (-1)) hx hb dX12_unknown_38 zki_m1 ?_
        refine q_icmp_ne (A := v2.toInt) (B := (-1)) E rfl (by decide) (tgt := 50) dX12_unknown_39 (by decide) (fun c_18 => ?_) (fun c_18 => ?_)
        · skip
          replace hF := q_ifn hF c_18
          refine lv_aload_n hx hb dX12_unknown_50 rfl (lv_at hl 0 rfl) ?_
          refine lv_iload_n hx hb dX12_unknown_51 rfl (lv_at hl 1 rfl) ?_
          refine lv_iload_n hx hb dX12_unknown_52 rfl (lv_at hl 2 rfl) ?_
          refine q_ci (q_rV11_2 (rest := []) E (hml.trans hl.1.symm) hI (c_X12_unknownOf l X σ_2 a v1 v2 ha (by rw [feσ_2]; exact hG) (by rw [feσ_2]; exact (by omega)) (by omega)) kv_X12_336 ha ⟨Nat.le_of_ble_eq_true rfl, Nat.le_of_ble_eq_true rfl⟩ (Nat.le_of_ble_eq_true rfl) dX12_unknown_53) hI (Nat.le_of_ble_eq_true rfl) (fun r_19 σ_20 H locs hpσ_20 hkσ_20 hI => ?_)
          have ahpσ_20 := hpσ_20.1
          have bhpσ_20 := hpσ_20.2.1
          have chpσ_20 := hpσ_20.2.2.1
          have dhpσ_20 := hpσ_20.2.2.2
          clear hpσ_20
          replace hI := q_Irw ahpσ_20 hI
          rw [feσ_2] at bhpσ_20
          replace hF := q_letX hF dhpσ_20
          have ir_19 : r_19.toInt = (m_U (m_c X σ a) v1.toInt v2.toInt) := (by first | exact bhpσ_20 | (rw [bhpσ_20]) | (simp only [bhpσ_20]))
          exact q_reti E hr hlk hI ⟨(hF.trans hout), fr_σ_2⟩ dX12_unknown_56
        · skip
          replace hF := q_ifp hF c_18
          refine lv_aload_n hx hb dX12_unknown_42 rfl (lv_at hl 0 rfl) ?_
          refine lv_iload_n hx hb dX12_unknown_43 rfl (lv_at hl 1 rfl) ?_
          refine q_ci (q_rV11_1 (rest := []) E (hml.trans hl.1.symm) hI (c_X12_unknownAll l X σ_2 a v1 ha (by rw [feσ_2]; exact hG) (by rw [feσ_2]; exact (by omega))) kv_X12_339 ha ⟨Nat.le_of_ble_eq_true rfl, Nat.le_of_ble_eq_true rfl⟩ (Nat.le_of_ble_eq_true rfl) dX12_unknown_44) hI (Nat.le_of_ble_eq_true rfl) (fun r_21 σ_22 H locs hpσ_22 hkσ_22 hI => ?_)
          have ahpσ_22 := hpσ_22.1
          have bhpσ_22 := hpσ_22.2.1
          have chpσ_22 := hpσ_22.2.2.1
          have dhpσ_22 := hpσ_22.2.2.2
          clear hpσ_22
          replace hI := q_Irw ahpσ_22 hI
          rw [feσ_2] at bhpσ_22
          replace hF := q_letX hF dhpσ_22
          have ir_21 : r_21.toInt = (m_V (m_c X σ a) v1.toInt (m_c X σ a 0).toNat) := (by first | exact bhpσ_22 | (rw [bhpσ_22]) | (simp only [bhpσ_22]))
          refine lv_goto (tgt := 56) hx hb dX12_unknown_47 (by decide) ?_
          exact q_reti E hr hlk hI ⟨(hF.trans hout), fr_σ_2⟩ dX12_unknown_56
      · skip
        replace hF := q_ifp hF c_17
        replace chpσ_16 := q_ifNo chpσ_16 c_17
        refine lv_aload_n hx hb dX12_unknown_31 rfl (lv_at hl 0 rfl) ?_
        refine lv_iconst (v := 2) hx hb dX12_unknown_32 zki_2 ?_
        have kc_23 : (2 : Int32).toInt = 2 := zt_2
        refine q_ci (q_rV11_1 (rest := []) E (hml.trans hl.1.symm) hI (c_X12_refuse l X σ_2 a (2 : Int32) ha) kv_X12_284 ha ⟨Nat.le_of_ble_eq_true rfl, Nat.le_of_ble_eq_true rfl⟩ (Nat.le_of_ble_eq_true rfl) dX12_unknown_33) hI (Nat.le_of_ble_eq_true rfl) (fun r_24 σ_25 H locs hpσ_25 hkσ_25 hI => ?_)
        have ahpσ_25 := hpσ_25.1
        have bhpσ_25 := hpσ_25.2.1
        have chpσ_25 := hpσ_25.2.2
        clear hpσ_25
        have fr_σ_25 := fr_σ_2.call chpσ_25 rfl rfl
        replace hF := q_biX hF bhpσ_25
        have mcσ_25 := m_cK hkσ_25 hI.1 ha (by decide)
        have feσ_25 : m_c X σ_25 a = m_c X σ a := (funext mcσ_25).trans feσ_2
        exact q_reti E hr hlk hI ⟨(hF.trans hout), fr_σ_25⟩ dX12_unknown_36

set_option maxRecDepth 100000 in
set_option maxHeartbeats 4000000 in
theorem c_X12_impossible (l : Launch) (X : XW) (σ : ST) (a : Nat) (v1 : Int32) (ha : q_kd X a = 12) (hG : m_G (m_c X σ a)) : Met l yX12_impossible (q_ws yX12_impossible cX12_impossible 2 (some .int)) (q_rm 5 112) (q_P X σ [.ref a, .int v1]) (q_Qi X 8 σ (fun (r : Int32) (σ' : ST) => (r, σ') = F_X12_impossible X σ a v1 ∧ q_ow [(12, 0), (12, 1)] [] X σ σ')) 0 0 (q_reg X) := by
  refine q_met 8 (by first | exact rfl | decide +kernel) rfl (Nat.le_of_ble_eq_true rfl) (fun p e s m below meth c E hml hr hlk hI ls hl => ?_)
  have hx := E.1
  have hb := E.2.1
  have hl : lv_has ls 2 [(0, .ref a), (1, .int v1)] := hl
  have feσ : m_c X σ a = m_c X σ a := rfl
  have fr_σ : q_ow [(12, 0), (12, 1)] [] X σ σ := q_ow.rf
  have hh := hG.hd
  obtain ⟨out, hout⟩ : ∃ o, o = F_X12_impossible X σ a v1 := ⟨_, rfl⟩
  have hF := hout.symm
  unfold F_X12_impossible at hF
  refine lv_aload_n hx hb dX12_impossible_0 rfl (lv_at hl 0 rfl) ?_
  refine lv_iconst (v := 0) hx hb dX12_impossible_1 zki_0 ?_
  refine ps_X12_59_12 E hI ha (by decide) dX12_impossible_2 (fun H locs σ_1 hσ_1 hI => ?_)
  replace hF := q_letX hF hσ_1
  have fr_σ_1 := fr_σ.si hσ_1 ha rfl
  have mv0_σ_1 : (σ_1.1 a 0).toInt = (σ.1 a 0).toInt := congrArg Int32.toInt (q_rdn hσ_1 (Or.inr (by decide)))
  have mcσ_1 := m_wo hσ_1 (m_ne ha (q_tk (f := 20) (k' := 34) hI ha rfl (by decide)) (by decide))
  have feσ_1 : m_c X σ_1 a = m_c X σ a := (funext mcσ_1).trans feσ
  refine lv_aload_n hx hb dX12_impossible_5 rfl (lv_at hl 0 rfl) ?_
  refine lv_aload_n hx hb dX12_impossible_6 rfl (lv_at hl 0 rfl) ?_
  refine lv_iload_n hx hb dX12_impossible_7 rfl (lv_at hl 1 rfl) ?_
  refine q_ci (q_rV11_1 (rest := [.ref a]) E (hml.trans hl.1.symm) hI (c_X12_whyNot l X σ_1 a v1 ha (by rw [feσ_1]; exact hG)) kv_X12_352 ha ⟨Nat.le_of_ble_eq_true rfl, Nat.le_of_ble_eq_true rfl⟩ (Nat.le_of_ble_eq_true rfl) dX12_impossible_8) hI (Nat.le_of_ble_eq_true rfl) (fun r_2 σ_3 H locs hpσ_3 hkσ_3 hI => ?_)
  have ahpσ_3 := hpσ_3.1
  have bhpσ_3 := hpσ_3.2.1
  have chpσ_3 := hpσ_3.2.2.1
  have dhpσ_3 := hpσ_3.2.2.2
  clear hpσ_3
  replace hI := q_Irw ahpσ_3 hI
  rw [feσ_1] at chpσ_3
  replace hF := q_letX hF dhpσ_3
  refine ps_X12_62_12 E hI ha (by decide) dX12_impossible_11 (fun H locs σ_4 hσ_4 hI => ?_)
  replace hF := q_letX hF hσ_4
  have fr_σ_4 := fr_σ_1.si hσ_4 ha rfl
  have mv0_σ_4 : (σ_4.1 a 0).toInt = r_2.toInt := congrArg Int32.toInt (q_rd hσ_4)
  have mcσ_4 := m_wo hσ_4 (m_ne ha (q_tk (f := 20) (k' := 34) hI ha rfl (by decide)) (by decide))
  have feσ_4 : m_c X σ_4 a = m_c X σ a := (funext mcσ_4).trans feσ_1
  refine lv_aload_n hx hb dX12_impossible_14 rfl (lv_at hl 0 rfl) ?_
  refine gs_X12_62_12 E hI ha dX12_impossible_15 ?_
  refine lv_topi (fun f_5 ef_5 => ?_)
  replace hF := q_letX hF ef_5
  have if_5 : f_5.toInt = (σ_4.1 a 0).toInt := congrArg Int32.toInt ef_5
  refine q_if_le (A := f_5.toInt) E rfl (tgt := 23) dX12_impossible_18 (by decide) (fun c_6 => ?_) (fun c_6 => ?_)
  · skip
    replace hF := q_ifn hF (Int.not_lt.mpr c_6)
    refine lv_aload_n hx hb dX12_impossible_23 rfl (lv_at hl 0 rfl) ?_
    refine lv_iload_n hx hb dX12_impossible_24 rfl (lv_at hl 1 rfl) ?_
    refine q_ci (q_rV11_1 (rest := []) E (hml.trans hl.1.symm) hI (c_X12_isImpossible l X σ_4 a v1 ha (by rw [feσ_4]; exact hG) (by rw [feσ_4]; exact (by first | (clear hh mv0_σ_1 ahpσ_3 dhpσ_3; omega) | omega)) (by rw [feσ_4]; exact (by first | (clear mv0_σ_1 ahpσ_3 dhpσ_3; omega) | omega))) kv_X12_355 ha ⟨Nat.le_of_ble_eq_true rfl, Nat.le_of_ble_eq_true rfl⟩ (Nat.le_of_ble_eq_true rfl) dX12_impossible_25) hI (Nat.le_of_ble_eq_true rfl) (fun r_7 σ_8 H locs hpσ_8 hkσ_8 hI => ?_)
    have ahpσ_8 := hpσ_8.1
    have bhpσ_8 := hpσ_8.2.1
    have chpσ_8 := hpσ_8.2.2
    clear hpσ_8
    replace hI := q_Irw ahpσ_8 hI
    replace hF := q_letX hF chpσ_8
    refine q_if_eq (A := r_7.toInt) E rfl (tgt := 35) dX12_impossible_28 (by decide) (fun c_9 => ?_) (fun c_9 => ?_)
    · skip
      replace hF := q_ifp hF c_9
      refine lv_iconst (v := 0) hx hb dX12_impossible_35 zki_0 ?_
      exact q_reti E hr hlk hI ⟨(hF.trans hout), fr_σ_4⟩ dX12_impossible_36
    · skip
      replace hF := q_ifn hF c_9
      replace c_9 := q_ifOne bhpσ_8 c_9
      refine lv_iconst (v := 1) hx hb dX12_impossible_31 zki_1 ?_
      refine lv_goto (tgt := 36) hx hb dX12_impossible_32 (by decide) ?_
      exact q_reti E hr hlk hI ⟨(hF.trans hout), fr_σ_4⟩ dX12_impossible_36
  · skip
    replace hF := q_ifp hF c_6
    refine lv_iconst (v := (-1)) hx hb dX12_impossible_21 zki_m1 ?_
    exact q_reti E hr hlk hI ⟨(hF.trans hout), fr_σ_4⟩ dX12_impossible_22

set_option maxRecDepth 100000 in
set_option maxHeartbeats 4000000 in
theorem c_X12_blind (l : Launch) (X : XW) (σ : ST) (a : Nat) (v1 : Int32) (ha : q_kd X a = 12) (hG : m_G (m_c X σ a)) : Met l yX12_blind (q_ws yX12_blind cX12_blind 2 (some .boolean)) (q_rm 6 136) (q_P X σ [.ref a, .int v1]) (q_Qi X 8 σ (fun (r : Int32) (σ' : ST) => (0 ≤ r.toInt ∧ r.toInt ≤ 1) ∧ (r, σ') = F_X12_blind X σ a v1 ∧ q_ow [(12, 0), (12, 1)] [(12, 2), (12, 3), (12, 30), (12, 31)] X σ σ')) 0 0 (q_reg X) := by
  refine q_met 8 (by first | exact rfl | decide +kernel) rfl (Nat.le_of_ble_eq_true rfl) (fun p e s m below meth c E hml hr hlk hI ls hl => ?_)
  have hx := E.1
  have hb := E.2.1
  have hl : lv_has ls 2 [(0, .ref a), (1, .int v1)] := hl
  have feσ : m_c X σ a = m_c X σ a := rfl
  have fr_σ : q_ow [(12, 0), (12, 1)] [(12, 2), (12, 3), (12, 30), (12, 31)] X σ σ := q_ow.rf
  have hh := hG.hd
  obtain ⟨out, hout⟩ : ∃ o, o = F_X12_blind X σ a v1 := ⟨_, rfl⟩
  have hF := hout.symm
  unfold F_X12_blind at hF
  refine lv_aload_n hx hb dX12_blind_0 rfl (lv_at hl 0 rfl) ?_
  refine lv_iconst (v := 0) hx hb dX12_blind_1 zki_0 ?_
  refine ps_X12_59_12 E hI ha (by decide) dX12_blind_2 (fun H locs σ_1 hσ_1 hI => ?_)
  replace hF := q_letX hF hσ_1
  have fr_σ_1 := fr_σ.si hσ_1 ha rfl
  have mv0_σ_1 : (σ_1.1 a 0).toInt = (σ.1 a 0).toInt := congrArg Int32.toInt (q_rdn hσ_1 (Or.inr (by decide)))
  have mcσ_1 := m_wo hσ_1 (m_ne ha (q_tk (f := 20) (k' := 34) hI ha rfl (by decide)) (by decide))
  have feσ_1 : m_c X σ_1 a = m_c X σ a := (funext mcσ_1).trans feσ
  refine lv_aload_n hx hb dX12_blind_5 rfl (lv_at hl 0 rfl) ?_
  refine lv_aload_n hx hb dX12_blind_6 rfl (lv_at hl 0 rfl) ?_
  refine lv_iload_n hx hb dX12_blind_7 rfl (lv_at hl 1 rfl) ?_
  refine q_ci (q_rV11_1 (rest := [.ref a]) E (hml.trans hl.1.symm) hI (c_X12_whyNot l X σ_1 a v1 ha (by rw [feσ_1]; exact hG)) kv_X12_352 ha ⟨Nat.le_of_ble_eq_true rfl, Nat.le_of_ble_eq_true rfl⟩ (Nat.le_of_ble_eq_true rfl) dX12_blind_8) hI (Nat.le_of_ble_eq_true rfl) (fun r_2 σ_3 H locs hpσ_3 hkσ_3 hI => ?_)
  have ahpσ_3 := hpσ_3.1
  have bhpσ_3 := hpσ_3.2.1
  have chpσ_3 := hpσ_3.2.2.1
  have dhpσ_3 := hpσ_3.2.2.2
  clear hpσ_3
  replace hI := q_Irw ahpσ_3 hI
  rw [feσ_1] at chpσ_3
  replace hF := q_letX hF dhpσ_3
  refine ps_X12_62_12 E hI ha (by decide) dX12_blind_11 (fun H locs σ_4 hσ_4 hI => ?_)
  replace hF := q_letX hF hσ_4
  have fr_σ_4 := fr_σ_1.si hσ_4 ha rfl
  have mv0_σ_4 : (σ_4.1 a 0).toInt = r_2.toInt := congrArg Int32.toInt (q_rd hσ_4)
  have mcσ_4 := m_wo hσ_4 (m_ne ha (q_tk (f := 20) (k' := 34) hI ha rfl (by decide)) (by decide))
  have feσ_4 : m_c X σ_4 a = m_c X σ a := (funext mcσ_4).trans feσ_1
  refine lv_aload_n hx hb dX12_blind_14 rfl (lv_at hl 0 rfl) ?_
  refine gs_X12_62_12 E hI ha dX12_blind_15 ?_
  refine lv_topi (fun f_5 ef_5 => ?_)
  replace hF := q_letX hF ef_5
  have if_5 : f_5.toInt = (σ_4.1 a 0).toInt := congrArg Int32.toInt ef_5
  refine q_if_le (A := f_5.toInt) E rfl (tgt := 23) dX12_blind_18 (by decide) (fun c_6 => ?_) (fun c_6 => ?_)
  · skip
    replace hF := q_ifn hF (Int.not_lt.mpr c_6)
    refine lv_aload_n hx hb dX12_blind_23 rfl (lv_at hl 0 rfl) ?_
    refine lv_iload_n hx hb dX12_blind_24 rfl (lv_at hl 1 rfl) ?_
    refine q_cv (q_rV11_1 (rest := []) E (hml.trans hl.1.symm) hI (c_X12_blinds l X σ_4 a v1 ha (by rw [feσ_4]; exact hG) (by rw [feσ_4]; exact (by omega)) (by rw [feσ_4]; exact (by first | (clear mv0_σ_1 ahpσ_3 dhpσ_3; omega) | omega)) (by rw [feσ_4]; exact (by first | (clear hh mv0_σ_1 ahpσ_3 dhpσ_3; omega) | omega))) kv_X12_358 ha ⟨Nat.le_of_ble_eq_true rfl, Nat.le_of_ble_eq_true rfl⟩ (Nat.le_of_ble_eq_true rfl) dX12_blind_25) hI (Nat.le_of_ble_eq_true rfl) (fun σ_8 H locs hpσ_8 hkσ_8 hI => ?_)
    have ahpσ_8 := hpσ_8.1
    have bhpσ_8 := hpσ_8.2.1
    have chpσ_8 := hpσ_8.2.2
    clear hpσ_8
    have fr_σ_8 := fr_σ_4.call chpσ_8 rfl rfl
    replace hF := q_letX hF bhpσ_8
    have mcσ_8 := m_cK hkσ_8 hI.1 ha (by decide)
    have feσ_8 : m_c X σ_8 a = m_c X σ a := (funext mcσ_8).trans feσ_4
    refine lv_aload_n hx hb dX12_blind_28 rfl (lv_at hl 0 rfl) ?_
    refine lv_aload_n hx hb dX12_blind_29 rfl (lv_at hl 0 rfl) ?_
    refine gs_X12_346_12 E hI ha dX12_blind_30 ?_
    refine lv_topl (fun g_9 eg_9 => ?_)
    replace hF := q_letX hF eg_9
    have ig_9 : g_9.toInt = (σ_8.2.1 a 30).toInt := congrArg Int64.toInt eg_9
    refine lv_aload_n hx hb dX12_blind_33 rfl (lv_at hl 0 rfl) ?_
    refine gs_X12_349_12 E hI ha dX12_blind_34 ?_
    refine lv_topl (fun g_10 eg_10 => ?_)
    replace hF := q_letX hF eg_10
    have ig_10 : g_10.toInt = (σ_8.2.1 a 31).toInt := congrArg Int64.toInt eg_10
    refine q_ci (q_rV11_2 (rest := []) E (hml.trans hl.1.symm) hI (c_X12_fraction l X σ_8 a g_9 g_10 ha (by first | (clear hh mv0_σ_1 ahpσ_3 bhpσ_3 chpσ_3 dhpσ_3 mv0_σ_4 if_5 c_6 bhpσ_8 chpσ_8 ig_9; omega) | omega)) kv_X12_361 ha ⟨Nat.le_of_ble_eq_true rfl, Nat.le_of_ble_eq_true rfl⟩ (Nat.le_of_ble_eq_true rfl) dX12_blind_37) hI (Nat.le_of_ble_eq_true rfl) (fun r_11 σ_12 H locs hpσ_12 hkσ_12 hI => ?_)
    have ahpσ_12 := hpσ_12.1
    have bhpσ_12 := hpσ_12.2.1
    have chpσ_12 := hpσ_12.2.2
    clear hpσ_12
    have fr_σ_12 := fr_σ_8.call chpσ_12 rfl rfl
    replace hF := q_biX hF bhpσ_12
    have mcσ_12 := m_cK hkσ_12 hI.1 ha (by decide)
    have feσ_12 : m_c X σ_12 a = m_c X σ a := (funext mcσ_12).trans feσ_8
    exact q_retz E hr hlk hI ⟨by omega, by omega⟩ ⟨⟨by omega, by omega⟩, (hF.trans hout), fr_σ_12⟩ dX12_blind_40
  · skip
    replace hF := q_ifp hF c_6
    refine lv_iconst (v := 0) hx hb dX12_blind_21 zki_0 ?_
    have hrv : (0 : Int32).toInt = 0 := zt_0
    exact q_retz E hr hlk hI ⟨by decide, by decide⟩ ⟨⟨by decide, by decide⟩, (hF.trans hout), fr_σ_4⟩ dX12_blind_22

set_option maxRecDepth 100000 in
set_option maxHeartbeats 4000000 in
theorem c_X12_honest (l : Launch) (X : XW) (σ : ST) (a : Nat) (v1 : Int32) (n : Int) (ha : q_kd X a = 12) (hG : m_G (m_c X σ a)) (hW : m_W (m_c X σ a) n) (hn : n ≤ 200000) : Met l yX12_honest (q_ws yX12_honest cX12_honest 2 (some .boolean)) (q_rm 2 51) (q_P X σ [.ref a, .int v1]) (q_Qi X 8 σ (fun (r : Int32) (σ' : ST) => (0 ≤ r.toInt ∧ r.toInt ≤ 1) ∧ (r, σ') = F_X12_honest X σ a v1 ∧ q_ow [(12, 0), (12, 1)] [(12, 2), (12, 3)] X σ σ')) 0 0 (q_reg X) := by
  refine q_met 8 (by first | exact rfl | decide +kernel) rfl (Nat.le_of_ble_eq_true rfl) (fun p e s m below meth c E hml hr hlk hI ls hl => ?_)
  have hx := E.1
  have hb := E.2.1
  have hl : lv_has ls 2 [(0, .ref a), (1, .int v1)] := hl
  have feσ : m_c X σ a = m_c X σ a := rfl
  have fr_σ : q_ow [(12, 0), (12, 1)] [(12, 2), (12, 3)] X σ σ := q_ow.rf
  have hh := hG.hd
  obtain ⟨out, hout⟩ : ∃ o, o = F_X12_honest X σ a v1 := ⟨_, rfl⟩
  have hF := hout.symm
  unfold F_X12_honest at hF
  refine lv_aload_n hx hb dX12_honest_0 rfl (lv_at hl 0 rfl) ?_
  refine lv_iconst (v := 0) hx hb dX12_honest_1 zki_0 ?_
  refine ps_X12_59_12 E hI ha (by decide) dX12_honest_2 (fun H locs σ_1 hσ_1 hI => ?_)
  replace hF := q_letX hF hσ_1
  have fr_σ_1 := fr_σ.si hσ_1 ha rfl
  have mcσ_1 := m_wo hσ_1 (m_ne ha (q_tk (f := 20) (k' := 34) hI ha rfl (by decide)) (by decide))
  have feσ_1 : m_c X σ_1 a = m_c X σ a := (funext mcσ_1).trans feσ
  refine lv_aload_n hx hb dX12_honest_5 rfl (lv_at hl 0 rfl) ?_
  refine lv_iconst (v := 0) hx hb dX12_honest_6 zki_0 ?_
  refine ps_X12_62_12 E hI ha (by decide) dX12_honest_7 (fun H locs σ_2 hσ_2 hI => ?_)
  replace hF := q_letX hF hσ_2
  have fr_σ_2 := fr_σ_1.si hσ_2 ha rfl
  have mcσ_2 := m_wo hσ_2 (m_ne ha (q_tk (f := 20) (k' := 34) hI ha rfl (by decide)) (by decide))
  have feσ_2 : m_c X σ_2 a = m_c X σ a := (funext mcσ_2).trans feσ_1
  refine lv_aload_n hx hb dX12_honest_10 rfl (lv_at hl 0 rfl) ?_
  refine lv_iload_n hx hb dX12_honest_11 rfl (lv_at hl 1 rfl) ?_
  refine q_ci (q_rV11_1 (rest := []) E (hml.trans hl.1.symm) hI (c_X12_isPlayerAt l X σ_2 a v1 ha (by rw [feσ_2]; exact hG)) kv_X12_290 ha ⟨Nat.le_of_ble_eq_true rfl, Nat.le_of_ble_eq_true rfl⟩ (Nat.le_of_ble_eq_true rfl) dX12_honest_12) hI (Nat.le_of_ble_eq_true rfl) (fun r_3 σ_4 H locs hpσ_4 hkσ_4 hI => ?_)
  have ahpσ_4 := hpσ_4.1
  have bhpσ_4 := hpσ_4.2.1
  have chpσ_4 := hpσ_4.2.2.1
  have dhpσ_4 := hpσ_4.2.2.2
  clear hpσ_4
  replace hI := q_Irw ahpσ_4 hI
  rw [feσ_2] at chpσ_4
  replace hF := q_letX hF dhpσ_4
  refine q_if_ne (A := r_3.toInt) E rfl (tgt := 24) dX12_honest_15 (by decide) (fun c_5 => ?_) (fun c_5 => ?_)
  · skip
    replace hF := q_ifn hF c_5
    replace c_5 := q_ifOne bhpσ_4 c_5
    replace chpσ_4 := q_ifYes chpσ_4 c_5
    have hw := hW v1.toInt (by first | (clear hn hh ahpσ_4 bhpσ_4 dhpσ_4 c_5; omega) | omega) (by first | (clear hn ahpσ_4 bhpσ_4 dhpσ_4 c_5; omega) | omega)
    refine lv_aload_n hx hb dX12_honest_24 rfl (lv_at hl 0 rfl) ?_
    refine lv_aload_n hx hb dX12_honest_25 rfl (lv_at hl 0 rfl) ?_
    refine gs_X12_35_12 E hI ha dX12_honest_26 ?_
    refine lv_bipush (v := 22) hx hb dX12_honest_29 zkb_22 ?_
    refine lv_iload_n hx hb dX12_honest_31 rfl (lv_at hl 1 rfl) ?_
    refine lv_iadd hx hb dX12_honest_32 ?_
    refine lv_topi (fun z_6 ez_6 => ?_)
    replace hF := q_letX hF ez_6
    have iz_6 := q_addI (A := 22) (B := v1.toInt) ez_6 (by decide) rfl (by first | (clear hn hh ahpσ_4 bhpσ_4 dhpσ_4 c_5 hw; omega) | omega) (by first | (clear hn ahpσ_4 bhpσ_4 dhpσ_4 c_5 hw; omega) | omega)
    refine q_iald E hI (q_tk (k' := 34) hI ha rfl (Nat.succ_ne_zero _)) ⟨by decide, rfl⟩ (by first | (clear hn hh ahpσ_4 bhpσ_4 dhpσ_4 c_5 hw; omega) | omega) (by rw [q_lnk (v := 4650) hI (q_tk (k' := 34) hI ha rfl (Nat.succ_ne_zero _)) rfl (by decide)]; omega) dX12_honest_33 ?_
    refine lv_topi (fun f_7 ef_7 => ?_)
    replace hF := q_letX hF ef_7
    have if_7 : f_7.toInt = m_c X σ a (22 + v1.toInt) := (m_rd ef_7 iz_6).trans (congrFun feσ_2 _)
    refine lv_aload_n hx hb dX12_honest_34 rfl (lv_at hl 0 rfl) ?_
    refine gs_X12_35_12 E hI ha dX12_honest_35 ?_
    refine lv_bipush (v := 28) hx hb dX12_honest_38 zkb_28 ?_
    refine lv_iload_n hx hb dX12_honest_40 rfl (lv_at hl 1 rfl) ?_
    refine lv_iadd hx hb dX12_honest_41 ?_
    refine lv_topi (fun z_8 ez_8 => ?_)
    replace hF := q_letX hF ez_8
    have iz_8 := q_addI (A := 28) (B := v1.toInt) ez_8 (by decide) rfl (by first | (clear hn hh ahpσ_4 bhpσ_4 dhpσ_4 c_5 hw if_7; omega) | omega) (by first | (clear hn ahpσ_4 bhpσ_4 dhpσ_4 c_5 hw if_7; omega) | omega)
    refine q_iald E hI (q_tk (k' := 34) hI ha rfl (Nat.succ_ne_zero _)) ⟨by decide, rfl⟩ (by first | (clear hn hh ahpσ_4 bhpσ_4 dhpσ_4 c_5 hw if_7; omega) | omega) (by rw [q_lnk (v := 4650) hI (q_tk (k' := 34) hI ha rfl (Nat.succ_ne_zero _)) rfl (by decide)]; omega) dX12_honest_42 ?_
    refine lv_topi (fun f_9 ef_9 => ?_)
    replace hF := q_letX hF ef_9
    have if_9 : f_9.toInt = m_c X σ a (28 + v1.toInt) := (m_rd ef_9 iz_8).trans (congrFun feσ_2 _)
    refine lv_isub hx hb dX12_honest_43 ?_
    refine lv_topi (fun z_10 ez_10 => ?_)
    replace hF := q_letX hF ez_10
    have iz_10 := q_subI (A := (m_c X σ a (22 + v1.toInt))) (B := (m_c X σ a (28 + v1.toInt))) ez_10 if_7 if_9 (by first | (clear hn hh ahpσ_4 bhpσ_4 dhpσ_4 c_5 chpσ_4 iz_6 iz_8; omega) | omega) (by first | (clear hh ahpσ_4 bhpσ_4 dhpσ_4 c_5 chpσ_4 iz_6 iz_8; omega) | omega)
    refine lv_iconst (v := 1) hx hb dX12_honest_44 zki_1 ?_
    refine lv_iadd hx hb dX12_honest_45 ?_
    refine lv_topi (fun z_11 ez_11 => ?_)
    replace hF := q_letX hF ez_11
    have iz_11 := q_addI (A := ((m_c X σ a (22 + v1.toInt)) - (m_c X σ a (28 + v1.toInt)))) (B := 1) ez_11 iz_10 (by decide) (by first | (clear hn hh ahpσ_4 bhpσ_4 dhpσ_4 c_5 chpσ_4 iz_6 iz_8; omega) | omega) (by first | (clear hh ahpσ_4 bhpσ_4 dhpσ_4 c_5 chpσ_4 iz_6 iz_8; omega) | omega)
    refine lv_i2l hx hb dX12_honest_46 rfl ?_
    refine lv_topl (fun y_12 ey_12 => ?_)
    replace hF := q_letX hF ey_12
    have ggy_12 := q_rng z_11
    have iy_12 : y_12.toInt = z_11.toInt := by rw [ey_12]; exact (q_i2l _).trans rfl
    refine lv_aload_n hx hb dX12_honest_47 rfl (lv_at hl 0 rfl) ?_
    refine gs_X12_35_12 E hI ha dX12_honest_48 ?_
    refine lv_bipush (v := 22) hx hb dX12_honest_51 zkb_22 ?_
    refine lv_iload_n hx hb dX12_honest_53 rfl (lv_at hl 1 rfl) ?_
    refine lv_iadd hx hb dX12_honest_54 ?_
    refine lv_topi (fun z_13 ez_13 => ?_)
    replace hF := q_letX hF ez_13
    have iz_13 := q_addI (A := 22) (B := v1.toInt) ez_13 (by decide) rfl (by first | (clear hn hh ahpσ_4 bhpσ_4 dhpσ_4 c_5 hw if_7 if_9 iz_10 iz_11 ggy_12 iy_12; omega) | omega) (by first | (clear hn ahpσ_4 bhpσ_4 dhpσ_4 c_5 hw if_7 if_9 iz_10 iz_11 ggy_12 iy_12; omega) | omega)
    refine q_iald E hI (q_tk (k' := 34) hI ha rfl (Nat.succ_ne_zero _)) ⟨by decide, rfl⟩ (by first | (clear hn hh ahpσ_4 bhpσ_4 dhpσ_4 c_5 hw if_7 if_9 iz_10 iz_11 ggy_12 iy_12; omega) | omega) (by rw [q_lnk (v := 4650) hI (q_tk (k' := 34) hI ha rfl (Nat.succ_ne_zero _)) rfl (by decide)]; omega) dX12_honest_55 ?_
    refine lv_topi (fun f_14 ef_14 => ?_)
    replace hF := q_letX hF ef_14
    have if_14 : f_14.toInt = m_c X σ a (22 + v1.toInt) := (m_rd ef_14 iz_13).trans (congrFun feσ_2 _)
    refine lv_iconst (v := 2) hx hb dX12_honest_56 zki_2 ?_
    refine lv_iadd hx hb dX12_honest_57 ?_
    refine lv_topi (fun z_15 ez_15 => ?_)
    replace hF := q_letX hF ez_15
    have iz_15 := q_addI (A := (m_c X σ a (22 + v1.toInt))) (B := 2) ez_15 if_14 (by decide) (by first | (clear hn hh ahpσ_4 bhpσ_4 dhpσ_4 c_5 chpσ_4 iz_6 iz_8 iz_13; omega) | omega) (by first | (clear hh ahpσ_4 bhpσ_4 dhpσ_4 c_5 chpσ_4 iz_6 iz_8 ggy_12 iz_13; omega) | omega)
    refine lv_i2l hx hb dX12_honest_58 rfl ?_
    refine lv_topl (fun y_16 ey_16 => ?_)
    replace hF := q_letX hF ey_16
    have ggy_16 := q_rng z_15
    have iy_16 : y_16.toInt = z_15.toInt := by rw [ey_16]; exact (q_i2l _).trans rfl
    refine q_ci (q_rV11_2 (rest := []) E (hml.trans hl.1.symm) hI (c_X12_fraction l X σ_2 a y_12 y_16 ha (by first | (clear hn hh ahpσ_4 bhpσ_4 dhpσ_4 c_5 chpσ_4 iz_6 iz_8 iz_13 if_14 iz_15 ggy_16 iy_16; omega) | omega)) kv_X12_361 ha ⟨Nat.le_of_ble_eq_true rfl, Nat.le_of_ble_eq_true rfl⟩ (Nat.le_of_ble_eq_true rfl) dX12_honest_59) hI (Nat.le_of_ble_eq_true rfl) (fun r_17 σ_18 H locs hpσ_18 hkσ_18 hI => ?_)
    have ahpσ_18 := hpσ_18.1
    have bhpσ_18 := hpσ_18.2.1
    have chpσ_18 := hpσ_18.2.2
    clear hpσ_18
    have fr_σ_18 := fr_σ_2.call chpσ_18 rfl rfl
    replace hF := q_biX hF bhpσ_18
    have mcσ_18 := m_cK hkσ_18 hI.1 ha (by decide)
    have feσ_18 : m_c X σ_18 a = m_c X σ a := (funext mcσ_18).trans feσ_2
    exact q_retz E hr hlk hI ⟨by omega, by omega⟩ ⟨⟨by omega, by omega⟩, (hF.trans hout), fr_σ_18⟩ dX12_honest_62
  · skip
    replace hF := q_ifp hF c_5
    replace chpσ_4 := q_ifNo chpσ_4 c_5
    refine lv_aload_n hx hb dX12_honest_18 rfl (lv_at hl 0 rfl) ?_
    refine lv_iconst (v := 2) hx hb dX12_honest_19 zki_2 ?_
    have kc_19 : (2 : Int32).toInt = 2 := zt_2
    refine q_ci (q_rV11_1 (rest := []) E (hml.trans hl.1.symm) hI (c_X12_no l X σ_2 a (2 : Int32) ha) kv_X12_74 ha ⟨Nat.le_of_ble_eq_true rfl, Nat.le_of_ble_eq_true rfl⟩ (Nat.le_of_ble_eq_true rfl) dX12_honest_20) hI (Nat.le_of_ble_eq_true rfl) (fun r_20 σ_21 H locs hpσ_21 hkσ_21 hI => ?_)
    have ahpσ_21 := hpσ_21.1
    have bhpσ_21 := hpσ_21.2.1
    have chpσ_21 := hpσ_21.2.2.1
    have dhpσ_21 := hpσ_21.2.2.2
    clear hpσ_21
    have fr_σ_21 := fr_σ_2.call dhpσ_21 rfl rfl
    replace hF := q_biX hF chpσ_21
    have mcσ_21 := m_cK hkσ_21 hI.1 ha (by decide)
    have feσ_21 : m_c X σ_21 a = m_c X σ a := (funext mcσ_21).trans feσ_2
    exact q_retz E hr hlk hI ⟨by omega, by omega⟩ ⟨⟨by omega, by omega⟩, (hF.trans hout), fr_σ_21⟩ dX12_honest_23

set_option maxRecDepth 100000 in
set_option maxHeartbeats 4000000 in
theorem c_X12_belief (l : Launch) (X : XW) (σ : ST) (a : Nat) (v1 : Int32) (n : Int) (ha : q_kd X a = 12) (hG : m_G (m_c X σ a)) (hW : m_W (m_c X σ a) n) (hn : n ≤ 200000) : Met l yX12_belief (q_ws yX12_belief cX12_belief 7 (some .boolean)) (q_rm 6 136) (q_P X σ [.ref a, .int v1]) (q_Qi X 8 σ (fun (r : Int32) (σ' : ST) => (0 ≤ r.toInt ∧ r.toInt ≤ 1) ∧ (r, σ') = F_X12_belief X σ a v1 ∧ q_ow [(12, 0), (12, 1)] [(12, 2), (12, 3), (12, 30), (12, 31)] X σ σ')) 0 0 (q_reg X) := by
  refine q_met 8 (by first | exact rfl | decide +kernel) rfl (Nat.le_of_ble_eq_true rfl) (fun p e s m below meth c E hml hr hlk hI ls hl => ?_)
  have hx := E.1
  have hb := E.2.1
  have hl : lv_has ls 7 [(0, .ref a), (1, .int v1)] := hl
  have feσ : m_c X σ a = m_c X σ a := rfl
  have fr_σ : q_ow [(12, 0), (12, 1)] [(12, 2), (12, 3), (12, 30), (12, 31)] X σ σ := q_ow.rf
  have hh := hG.hd
  obtain ⟨out, hout⟩ : ∃ o, o = F_X12_belief X σ a v1 := ⟨_, rfl⟩
  have hF := hout.symm
  unfold F_X12_belief at hF
  refine lv_aload_n hx hb dX12_belief_0 rfl (lv_at hl 0 rfl) ?_
  refine lv_iconst (v := 0) hx hb dX12_belief_1 zki_0 ?_
  refine ps_X12_59_12 E hI ha (by decide) dX12_belief_2 (fun H locs σ_1 hσ_1 hI => ?_)
  replace hF := q_letX hF hσ_1
  have fr_σ_1 := fr_σ.si hσ_1 ha rfl
  have mv0_σ_1 : (σ_1.1 a 0).toInt = (σ.1 a 0).toInt := congrArg Int32.toInt (q_rdn hσ_1 (Or.inr (by decide)))
  have mcσ_1 := m_wo hσ_1 (m_ne ha (q_tk (f := 20) (k' := 34) hI ha rfl (by decide)) (by decide))
  have feσ_1 : m_c X σ_1 a = m_c X σ a := (funext mcσ_1).trans feσ
  refine lv_aload_n hx hb dX12_belief_5 rfl (lv_at hl 0 rfl) ?_
  refine lv_aload_n hx hb dX12_belief_6 rfl (lv_at hl 0 rfl) ?_
  refine lv_iload_n hx hb dX12_belief_7 rfl (lv_at hl 1 rfl) ?_
  refine q_ci (q_rV11_1 (rest := [.ref a]) E (hml.trans hl.1.symm) hI (c_X12_whyNot l X σ_1 a v1 ha (by rw [feσ_1]; exact hG)) kv_X12_352 ha ⟨Nat.le_of_ble_eq_true rfl, Nat.le_of_ble_eq_true rfl⟩ (Nat.le_of_ble_eq_true rfl) dX12_belief_8) hI (Nat.le_of_ble_eq_true rfl) (fun r_2 σ_3 H locs hpσ_3 hkσ_3 hI => ?_)
  have ahpσ_3 := hpσ_3.1
  have bhpσ_3 := hpσ_3.2.1
  have chpσ_3 := hpσ_3.2.2.1
  have dhpσ_3 := hpσ_3.2.2.2
  clear hpσ_3
  replace hI := q_Irw ahpσ_3 hI
  rw [feσ_1] at chpσ_3
  replace hF := q_letX hF dhpσ_3
  refine ps_X12_62_12 E hI ha (by decide) dX12_belief_11 (fun H locs σ_4 hσ_4 hI => ?_)
  replace hF := q_letX hF hσ_4
  have fr_σ_4 := fr_σ_1.si hσ_4 ha rfl
  have mv0_σ_4 : (σ_4.1 a 0).toInt = r_2.toInt := congrArg Int32.toInt (q_rd hσ_4)
  have mcσ_4 := m_wo hσ_4 (m_ne ha (q_tk (f := 20) (k' := 34) hI ha rfl (by decide)) (by decide))
  have feσ_4 : m_c X σ_4 a = m_c X σ a := (funext mcσ_4).trans feσ_1
  refine lv_aload_n hx hb dX12_belief_14 rfl (lv_at hl 0 rfl) ?_
  refine gs_X12_62_12 E hI ha dX12_belief_15 ?_
  refine lv_topi (fun f_5 ef_5 => ?_)
  replace hF := q_letX hF ef_5
  have if_5 : f_5.toInt = (σ_4.1 a 0).toInt := congrArg Int32.toInt ef_5
  refine q_if_le (A := f_5.toInt) E rfl (tgt := 23) dX12_belief_18 (by decide) (fun c_6 => ?_) (fun c_6 => ?_)
  · skip
    replace hF := q_ifn hF (Int.not_lt.mpr c_6)
    refine lv_aload_n hx hb dX12_belief_23 rfl (lv_at hl 0 rfl) ?_
    refine lv_iload_n hx hb dX12_belief_24 rfl (lv_at hl 1 rfl) ?_
    refine q_cv (q_rV11_1 (rest := []) E (hml.trans hl.1.symm) hI (c_X12_blinds l X σ_4 a v1 ha (by rw [feσ_4]; exact hG) (by rw [feσ_4]; exact (by first | (clear hn hh mv0_σ_1 ahpσ_3 dhpσ_3; omega) | omega)) (by rw [feσ_4]; exact (by first | (clear hn mv0_σ_1 ahpσ_3 dhpσ_3; omega) | omega)) (by rw [feσ_4]; exact (by first | (clear hn hh mv0_σ_1 ahpσ_3 dhpσ_3; omega) | omega))) kv_X12_358 ha ⟨Nat.le_of_ble_eq_true rfl, Nat.le_of_ble_eq_true rfl⟩ (Nat.le_of_ble_eq_true rfl) dX12_belief_25) hI (Nat.le_of_ble_eq_true rfl) (fun σ_8 H locs hpσ_8 hkσ_8 hI => ?_)
    have ahpσ_8 := hpσ_8.1
    have bhpσ_8 := hpσ_8.2.1
    have chpσ_8 := hpσ_8.2.2
    clear hpσ_8
    have fr_σ_8 := fr_σ_4.call chpσ_8 rfl rfl
    replace hF := q_letX hF bhpσ_8
    have mcσ_8 := m_cK hkσ_8 hI.1 ha (by decide)
    have feσ_8 : m_c X σ_8 a = m_c X σ a := (funext mcσ_8).trans feσ_4
    have hw := hW (m_c X σ a 6) (by first | (clear hn mv0_σ_1 ahpσ_3 dhpσ_3 ahpσ_8 bhpσ_8 chpσ_8; omega) | omega) (by first | (clear hn mv0_σ_1 ahpσ_3 bhpσ_3 chpσ_3 dhpσ_3 mv0_σ_4 if_5 c_6 ahpσ_8 bhpσ_8 chpσ_8; omega) | omega)
    refine lv_aload_n hx hb dX12_belief_28 rfl (lv_at hl 0 rfl) ?_
    refine gs_X12_35_12 E hI ha dX12_belief_29 ?_
    refine lv_bipush (v := 6) hx hb dX12_belief_32 zkb_6 ?_
    refine q_iald E hI (q_tk (k' := 34) hI ha rfl (Nat.succ_ne_zero _)) ⟨by decide, rfl⟩ (by decide) (by rw [q_lnk (v := 4650) hI (q_tk (k' := 34) hI ha rfl (Nat.succ_ne_zero _)) rfl (by decide)]; decide) dX12_belief_34 ?_
    refine lv_topi (fun f_9 ef_9 => ?_)
    replace hF := q_letX hF ef_9
    have if_9 : f_9.toInt = m_c X σ a 6 := (m_rd ef_9 (by decide)).trans (congrFun feσ_8 _)
    refine lv_istore_n (lv' := [(2, .int f_9), (0, .ref a), (1, .int v1)]) hx hb dX12_belief_35 rfl hl (by decide) rfl (fun ls hl => ?_)
    refine lv_aload_n hx hb dX12_belief_36 rfl (lv_at hl 1 rfl) ?_
    refine gs_X12_346_12 E hI ha dX12_belief_37 ?_
    refine lv_topl (fun g_10 eg_10 => ?_)
    replace hF := q_letX hF eg_10
    have ig_10 : g_10.toInt = (σ_8.2.1 a 30).toInt := congrArg Int64.toInt eg_10
    refine lv_aload_n hx hb dX12_belief_40 rfl (lv_at hl 1 rfl) ?_
    refine gs_X12_35_12 E hI ha dX12_belief_41 ?_
    refine lv_bipush (v := 22) hx hb dX12_belief_44 zkb_22 ?_
    refine lv_iload_n hx hb dX12_belief_46 rfl (lv_at hl 0 rfl) ?_
    refine lv_iadd hx hb dX12_belief_47 ?_
    refine lv_topi (fun z_11 ez_11 => ?_)
    replace hF := q_letX hF ez_11
    have iz_11 := q_addI (A := 22) (B := (m_c X σ a 6)) ez_11 (by decide) if_9 (by first | (clear hn mv0_σ_1 ahpσ_3 bhpσ_3 chpσ_3 dhpσ_3 mv0_σ_4 if_5 c_6 ahpσ_8 bhpσ_8 chpσ_8 hw ig_10; omega) | omega) (by first | (clear hn mv0_σ_1 ahpσ_3 bhpσ_3 chpσ_3 dhpσ_3 mv0_σ_4 if_5 c_6 ahpσ_8 bhpσ_8 chpσ_8 hw ig_10; omega) | omega)
    refine q_iald E hI (q_tk (k' := 34) hI ha rfl (Nat.succ_ne_zero _)) ⟨by decide, rfl⟩ (by first | (clear hn mv0_σ_1 ahpσ_3 bhpσ_3 chpσ_3 dhpσ_3 mv0_σ_4 if_5 c_6 ahpσ_8 bhpσ_8 chpσ_8 hw ig_10; omega) | omega) (by rw [q_lnk (v := 4650) hI (q_tk (k' := 34) hI ha rfl (Nat.succ_ne_zero _)) rfl (by decide)]; omega) dX12_belief_48 ?_
    refine lv_topi (fun f_12 ef_12 => ?_)
    replace hF := q_letX hF ef_12
    have if_12 : f_12.toInt = m_c X σ a (22 + (m_c X σ a 6)) := (m_rd ef_12 iz_11).trans (congrFun feσ_8 _)
    refine lv_aload_n hx hb dX12_belief_49 rfl (lv_at hl 1 rfl) ?_
    refine gs_X12_35_12 E hI ha dX12_belief_50 ?_
    refine lv_bipush (v := 28) hx hb dX12_belief_53 zkb_28 ?_
    refine lv_iload_n hx hb dX12_belief_55 rfl (lv_at hl 0 rfl) ?_
    refine lv_iadd hx hb dX12_belief_56 ?_
    refine lv_topi (fun z_13 ez_13 => ?_)
    replace hF := q_letX hF ez_13
    have iz_13 := q_addI (A := 28) (B := (m_c X σ a 6)) ez_13 (by decide) if_9 (by first | (clear hn mv0_σ_1 ahpσ_3 bhpσ_3 chpσ_3 dhpσ_3 mv0_σ_4 if_5 c_6 ahpσ_8 bhpσ_8 chpσ_8 hw ig_10 if_12; omega) | omega) (by first | (clear hn mv0_σ_1 ahpσ_3 bhpσ_3 chpσ_3 dhpσ_3 mv0_σ_4 if_5 c_6 ahpσ_8 bhpσ_8 chpσ_8 hw ig_10 if_12; omega) | omega)
    refine q_iald E hI (q_tk (k' := 34) hI ha rfl (Nat.succ_ne_zero _)) ⟨by decide, rfl⟩ (by first | (clear hn mv0_σ_1 ahpσ_3 bhpσ_3 chpσ_3 dhpσ_3 mv0_σ_4 if_5 c_6 ahpσ_8 bhpσ_8 chpσ_8 hw ig_10 if_12; omega) | omega) (by rw [q_lnk (v := 4650) hI (q_tk (k' := 34) hI ha rfl (Nat.succ_ne_zero _)) rfl (by decide)]; omega) dX12_belief_57 ?_
    refine lv_topi (fun f_14 ef_14 => ?_)
    replace hF := q_letX hF ef_14
    have if_14 : f_14.toInt = m_c X σ a (28 + (m_c X σ a 6)) := (m_rd ef_14 iz_13).trans (congrFun feσ_8 _)
    refine lv_isub hx hb dX12_belief_58 ?_
    refine lv_topi (fun z_15 ez_15 => ?_)
    replace hF := q_letX hF ez_15
    have iz_15 := q_subI (A := (m_c X σ a (22 + (m_c X σ a 6)))) (B := (m_c X σ a (28 + (m_c X σ a 6)))) ez_15 if_12 if_14 (by first | (clear hn hh mv0_σ_1 ahpσ_3 bhpσ_3 chpσ_3 dhpσ_3 mv0_σ_4 if_5 c_6 ahpσ_8 bhpσ_8 chpσ_8 if_9 ig_10 iz_11 iz_13; omega) | omega) (by first | (clear hh mv0_σ_1 ahpσ_3 bhpσ_3 chpσ_3 dhpσ_3 mv0_σ_4 if_5 c_6 ahpσ_8 bhpσ_8 chpσ_8 if_9 ig_10 iz_11 iz_13; omega) | omega)
    refine lv_iconst (v := 1) hx hb dX12_belief_59 zki_1 ?_
    refine lv_iadd hx hb dX12_belief_60 ?_
    refine lv_topi (fun z_16 ez_16 => ?_)
    replace hF := q_letX hF ez_16
    have iz_16 := q_addI (A := ((m_c X σ a (22 + (m_c X σ a 6))) - (m_c X σ a (28 + (m_c X σ a 6))))) (B := 1) ez_16 iz_15 (by decide) (by first | (clear hn hh mv0_σ_1 ahpσ_3 bhpσ_3 chpσ_3 dhpσ_3 mv0_σ_4 if_5 c_6 ahpσ_8 bhpσ_8 chpσ_8 if_9 ig_10 iz_11 iz_13; omega) | omega) (by first | (clear hh mv0_σ_1 ahpσ_3 bhpσ_3 chpσ_3 dhpσ_3 mv0_σ_4 if_5 c_6 ahpσ_8 bhpσ_8 chpσ_8 if_9 ig_10 iz_11 iz_13; omega) | omega)
    refine lv_i2l hx hb dX12_belief_61 rfl ?_
    refine lv_topl (fun y_17 ey_17 => ?_)
    replace hF := q_letX hF ey_17
    have ggy_17 := q_rng z_16
    have iy_17 : y_17.toInt = z_16.toInt := by rw [ey_17]; exact (q_i2l _).trans rfl
    have mb := m_mulS (a := g_10.toInt) (A := 409600000000) (b := y_17.toInt) (B := 200001) (by first | (clear hn hh mv0_σ_1 ahpσ_3 bhpσ_3 chpσ_3 dhpσ_3 mv0_σ_4 if_5 c_6 bhpσ_8 chpσ_8 hw if_9 iz_11 if_12 iz_13 if_14 iz_15 iz_16 ggy_17 iy_17; omega) | omega) (by first | (clear hn hh mv0_σ_1 ahpσ_3 bhpσ_3 chpσ_3 dhpσ_3 mv0_σ_4 if_5 c_6 bhpσ_8 chpσ_8 hw if_9 iz_11 if_12 iz_13 if_14 iz_15 iz_16 ggy_17 iy_17; omega) | omega) (by first | (clear hn hh mv0_σ_1 ahpσ_3 bhpσ_3 chpσ_3 dhpσ_3 mv0_σ_4 if_5 c_6 ahpσ_8 bhpσ_8 chpσ_8 if_9 ig_10 iz_11 iz_13; omega) | omega) (by first | (clear hh mv0_σ_1 ahpσ_3 bhpσ_3 chpσ_3 dhpσ_3 mv0_σ_4 if_5 c_6 ahpσ_8 bhpσ_8 chpσ_8 if_9 ig_10 iz_11 iz_13; omega) | omega)
    refine lv_lmul hx hb dX12_belief_62 ?_
    refine lv_topl (fun y_18 ey_18 => ?_)
    replace hF := q_letX hF ey_18
    have iy_18 := q_mulJ (A := g_10.toInt) (B := y_17.toInt) ey_18 rfl rfl (by first | (clear hn hh mv0_σ_1 ahpσ_3 bhpσ_3 chpσ_3 dhpσ_3 mv0_σ_4 if_5 c_6 ahpσ_8 bhpσ_8 chpσ_8 hw if_9 ig_10 iz_11 if_12 iz_13 if_14 iz_15 iz_16 ggy_17 iy_17; omega) | omega) (by first | (clear hn hh mv0_σ_1 ahpσ_3 bhpσ_3 chpσ_3 dhpσ_3 mv0_σ_4 if_5 c_6 ahpσ_8 bhpσ_8 chpσ_8 hw if_9 ig_10 iz_11 if_12 iz_13 if_14 iz_15 iz_16 ggy_17 iy_17; omega) | omega)
    refine lv_lstore_n (lv' := [(3, .long y_18), (2, .int f_9), (0, .ref a), (1, .int v1)]) hx hb dX12_belief_63 rfl hl (by decide) rfl (fun ls hl => ?_)
    refine lv_aload_n hx hb dX12_belief_64 rfl (lv_at hl 2 rfl) ?_
    refine gs_X12_349_12 E hI ha dX12_belief_65 ?_
    refine lv_topl (fun g_19 eg_19 => ?_)
    replace hF := q_letX hF eg_19
    have ig_19 : g_19.toInt = (σ_8.2.1 a 31).toInt := congrArg Int64.toInt eg_19
    refine lv_aload_n hx hb dX12_belief_68 rfl (lv_at hl 2 rfl) ?_
    refine gs_X12_346_12 E hI ha dX12_belief_69 ?_
    refine lv_topl (fun g_20 eg_20 => ?_)
    replace hF := q_letX hF eg_20
    have ig_20 : g_20.toInt = (σ_8.2.1 a 30).toInt := congrArg Int64.toInt eg_20
    refine lv_lsub hx hb dX12_belief_72 ?_
    refine lv_topl (fun y_21 ey_21 => ?_)
    replace hF := q_letX hF ey_21
    have iy_21 := q_subJ (A := g_19.toInt) (B := g_20.toInt) ey_21 rfl rfl (by first | (clear hn hh mv0_σ_1 ahpσ_3 bhpσ_3 chpσ_3 dhpσ_3 mv0_σ_4 if_5 c_6 bhpσ_8 chpσ_8 hw if_9 iz_11 if_12 iz_13 if_14 iz_15 iz_16 ggy_17 iy_17 mb iy_18; omega) | omega) (by first | (clear hn hh mv0_σ_1 ahpσ_3 bhpσ_3 chpσ_3 dhpσ_3 mv0_σ_4 if_5 c_6 bhpσ_8 chpσ_8 hw if_9 iz_11 if_12 iz_13 if_14 iz_15 iz_16 ggy_17 iy_17 mb iy_18; omega) | omega)
    refine lv_aload_n hx hb dX12_belief_73 rfl (lv_at hl 2 rfl) ?_
    refine gs_X12_35_12 E hI ha dX12_belief_74 ?_
    refine lv_bipush (v := 28) hx hb dX12_belief_77 zkb_28 ?_
    refine lv_iload_n hx hb dX12_belief_79 rfl (lv_at hl 1 rfl) ?_
    refine lv_iadd hx hb dX12_belief_80 ?_
    refine lv_topi (fun z_22 ez_22 => ?_)
    replace hF := q_letX hF ez_22
    have iz_22 := q_addI (A := 28) (B := (m_c X σ a 6)) ez_22 (by decide) if_9 (by first | (clear hn mv0_σ_1 ahpσ_3 bhpσ_3 chpσ_3 dhpσ_3 mv0_σ_4 if_5 c_6 ahpσ_8 bhpσ_8 chpσ_8 hw ig_10 if_12 if_14 iz_15 iz_16 ggy_17 iy_17 mb iy_18 ig_19 ig_20 iy_21; omega) | omega) (by first | (clear hn mv0_σ_1 ahpσ_3 bhpσ_3 chpσ_3 dhpσ_3 mv0_σ_4 if_5 c_6 ahpσ_8 bhpσ_8 chpσ_8 hw ig_10 if_12 if_14 iz_15 iz_16 ggy_17 iy_17 mb iy_18 ig_19 ig_20 iy_21; omega) | omega)
    refine q_iald E hI (q_tk (k' := 34) hI ha rfl (Nat.succ_ne_zero _)) ⟨by decide, rfl⟩ (by first | (clear hn mv0_σ_1 ahpσ_3 bhpσ_3 chpσ_3 dhpσ_3 mv0_σ_4 if_5 c_6 ahpσ_8 bhpσ_8 chpσ_8 hw ig_10 if_12 if_14 iz_15 iz_16 ggy_17 iy_17 mb iy_18 ig_19 ig_20 iy_21; omega) | omega) (by rw [q_lnk (v := 4650) hI (q_tk (k' := 34) hI ha rfl (Nat.succ_ne_zero _)) rfl (by decide)]; omega) dX12_belief_81 ?_
    refine lv_topi (fun f_23 ef_23 => ?_)
    replace hF := q_letX hF ef_23
    have if_23 : f_23.toInt = m_c X σ a (28 + (m_c X σ a 6)) := (m_rd ef_23 iz_22).trans (congrFun feσ_8 _)
    refine lv_iconst (v := 1) hx hb dX12_belief_82 zki_1 ?_
    refine lv_iadd hx hb dX12_belief_83 ?_
    refine lv_topi (fun z_24 ez_24 => ?_)
    replace hF := q_letX hF ez_24
    have iz_24 := q_addI (A := (m_c X σ a (28 + (m_c X σ a 6)))) (B := 1) ez_24 if_23 (by decide) (by first | (clear hn hh mv0_σ_1 ahpσ_3 bhpσ_3 chpσ_3 dhpσ_3 mv0_σ_4 if_5 c_6 ahpσ_8 bhpσ_8 chpσ_8 if_9 ig_10 iz_11 if_12 iz_13 iz_15 iz_16 ggy_17 iy_17 mb iy_18 ig_19 ig_20 iy_21 iz_22; omega) | omega) (by first | (clear hh mv0_σ_1 ahpσ_3 bhpσ_3 chpσ_3 dhpσ_3 mv0_σ_4 if_5 c_6 ahpσ_8 bhpσ_8 chpσ_8 if_9 ig_10 iz_11 iz_13 mb iy_18 ig_19 ig_20 iy_21 iz_22; omega) | omega)
    refine lv_i2l hx hb dX12_belief_84 rfl ?_
    refine lv_topl (fun y_25 ey_25 => ?_)
    replace hF := q_letX hF ey_25
    have ggy_25 := q_rng z_24
    have iy_25 : y_25.toInt = z_24.toInt := by rw [ey_25]; exact (q_i2l _).trans rfl
    have mb2 := m_mulS (a := y_21.toInt) (A := 409600000000) (b := y_25.toInt) (B := 200001) (by first | (clear hn hh mv0_σ_1 ahpσ_3 bhpσ_3 chpσ_3 dhpσ_3 mv0_σ_4 if_5 c_6 bhpσ_8 chpσ_8 hw if_9 iz_11 if_12 iz_13 if_14 iz_15 iz_16 ggy_17 iy_17 mb iy_18 iz_22 if_23 iz_24 ggy_25 iy_25; omega) | omega) (by first | (clear hn hh mv0_σ_1 ahpσ_3 bhpσ_3 chpσ_3 dhpσ_3 mv0_σ_4 if_5 c_6 bhpσ_8 chpσ_8 hw if_9 iz_11 if_12 iz_13 if_14 iz_15 iz_16 ggy_17 iy_17 mb iy_18 iz_22 if_23 iz_24 ggy_25 iy_25; omega) | omega) (by first | (clear hn hh mv0_σ_1 ahpσ_3 bhpσ_3 chpσ_3 dhpσ_3 mv0_σ_4 if_5 c_6 ahpσ_8 bhpσ_8 chpσ_8 if_9 ig_10 iz_11 if_12 iz_13 iz_15 iz_16 ggy_17 iy_17 mb iy_18 ig_19 ig_20 iy_21 iz_22; omega) | omega) (by first | (clear hh mv0_σ_1 ahpσ_3 bhpσ_3 chpσ_3 dhpσ_3 mv0_σ_4 if_5 c_6 ahpσ_8 bhpσ_8 chpσ_8 if_9 ig_10 iz_11 iz_13 mb iy_18 ig_19 ig_20 iy_21 iz_22; omega) | omega)
    refine lv_lmul hx hb dX12_belief_85 ?_
    refine lv_topl (fun y_26 ey_26 => ?_)
    replace hF := q_letX hF ey_26
    have iy_26 := q_mulJ (A := y_21.toInt) (B := y_25.toInt) ey_26 rfl rfl (by first | (clear hn hh mv0_σ_1 ahpσ_3 bhpσ_3 chpσ_3 dhpσ_3 mv0_σ_4 if_5 c_6 ahpσ_8 bhpσ_8 chpσ_8 hw if_9 ig_10 iz_11 if_12 iz_13 if_14 iz_15 iz_16 ggy_17 iy_17 mb iy_18 ig_19 ig_20 iy_21 iz_22 if_23 iz_24 ggy_25 iy_25; omega) | omega) (by first | (clear hn hh mv0_σ_1 ahpσ_3 bhpσ_3 chpσ_3 dhpσ_3 mv0_σ_4 if_5 c_6 ahpσ_8 bhpσ_8 chpσ_8 hw if_9 ig_10 iz_11 if_12 iz_13 if_14 iz_15 iz_16 ggy_17 iy_17 mb iy_18 ig_19 ig_20 iy_21 iz_22 if_23 iz_24 ggy_25 iy_25; omega) | omega)
    refine lv_lstore (lv' := [(5, .long y_26), (3, .long y_18), (2, .int f_9), (0, .ref a), (1, .int v1)]) hx hb dX12_belief_86 hl (by decide) rfl (fun ls hl => ?_)
    refine lv_aload_n hx hb dX12_belief_88 rfl (lv_at hl 3 rfl) ?_
    refine lv_lload_n hx hb dX12_belief_89 rfl (lv_at hl 1 rfl) ?_
    refine lv_lload_n hx hb dX12_belief_90 rfl (lv_at hl 1 rfl) ?_
    refine lv_lload hx hb dX12_belief_91 (lv_at hl 0 rfl) ?_
    refine lv_ladd hx hb dX12_belief_93 ?_
    refine lv_topl (fun y_27 ey_27 => ?_)
    replace hF := q_letX hF ey_27
    have iy_27 := q_addJ (A := y_18.toInt) (B := y_26.toInt) ey_27 rfl rfl (by first | (clear hn hh mv0_σ_1 ahpσ_3 bhpσ_3 chpσ_3 dhpσ_3 mv0_σ_4 if_5 c_6 ahpσ_8 bhpσ_8 chpσ_8 hw if_9 ig_10 iz_11 if_12 iz_13 if_14 iz_15 iz_16 ggy_17 iy_17 ig_19 ig_20 iy_21 iz_22 if_23 iz_24 ggy_25 iy_25; omega) | omega) (by first | (clear hn hh mv0_σ_1 ahpσ_3 bhpσ_3 chpσ_3 dhpσ_3 mv0_σ_4 if_5 c_6 ahpσ_8 bhpσ_8 chpσ_8 hw if_9 ig_10 iz_11 if_12 iz_13 if_14 iz_15 iz_16 ggy_17 iy_17 ig_19 ig_20 iy_21 iz_22 if_23 iz_24 ggy_25 iy_25; omega) | omega)
    refine q_ci (q_rV11_2 (rest := []) E (hml.trans hl.1.symm) hI (c_X12_fraction l X σ_8 a y_18 y_27 ha (by first | (clear hn hh mv0_σ_1 ahpσ_3 bhpσ_3 chpσ_3 dhpσ_3 mv0_σ_4 if_5 c_6 bhpσ_8 chpσ_8 if_9 iz_11 iz_13 iz_22; omega) | omega)) kv_X12_361 ha ⟨Nat.le_of_ble_eq_true rfl, Nat.le_of_ble_eq_true rfl⟩ (Nat.le_of_ble_eq_true rfl) dX12_belief_94) hI (Nat.le_of_ble_eq_true rfl) (fun r_28 σ_29 H locs hpσ_29 hkσ_29 hI => ?_)
    have ahpσ_29 := hpσ_29.1
    have bhpσ_29 := hpσ_29.2.1
    have chpσ_29 := hpσ_29.2.2
    clear hpσ_29
    have fr_σ_29 := fr_σ_8.call chpσ_29 rfl rfl
    replace hF := q_biX hF bhpσ_29
    have mcσ_29 := m_cK hkσ_29 hI.1 ha (by decide)
    have feσ_29 : m_c X σ_29 a = m_c X σ a := (funext mcσ_29).trans feσ_8
    exact q_retz E hr hlk hI ⟨by omega, by omega⟩ ⟨⟨by omega, by omega⟩, (hF.trans hout), fr_σ_29⟩ dX12_belief_97
  · skip
    replace hF := q_ifp hF c_6
    refine lv_iconst (v := 0) hx hb dX12_belief_21 zki_0 ?_
    have hrv : (0 : Int32).toInt = 0 := zt_0
    exact q_retz E hr hlk hI ⟨by decide, by decide⟩ ⟨⟨by decide, by decide⟩, (hF.trans hout), fr_σ_4⟩ dX12_belief_22

set_option maxRecDepth 100000 in
set_option maxHeartbeats 4000000 in
theorem c_X12_worth (l : Launch) (X : XW) (σ : ST) (a : Nat) (v1 : Int32) (ha : q_kd X a = 12) (hG : m_G (m_c X σ a)) : Met l yX12_worth (q_ws yX12_worth cX12_worth 2 (some .boolean)) (q_rm 6 136) (q_P X σ [.ref a, .int v1]) (q_Qi X 8 σ (fun (r : Int32) (σ' : ST) => (0 ≤ r.toInt ∧ r.toInt ≤ 1) ∧ (r, σ') = F_X12_worth X σ a v1 ∧ q_ow [(12, 0), (12, 1)] [(12, 2), (12, 3), (12, 30), (12, 31)] X σ σ')) 0 0 (q_reg X) := by
  refine q_met 8 (by first | exact rfl | decide +kernel) rfl (Nat.le_of_ble_eq_true rfl) (fun p e s m below meth c E hml hr hlk hI ls hl => ?_)
  have hx := E.1
  have hb := E.2.1
  have hl : lv_has ls 2 [(0, .ref a), (1, .int v1)] := hl
  have feσ : m_c X σ a = m_c X σ a := rfl
  have fr_σ : q_ow [(12, 0), (12, 1)] [(12, 2), (12, 3), (12, 30), (12, 31)] X σ σ := q_ow.rf
  have hh := hG.hd
  obtain ⟨out, hout⟩ : ∃ o, o = F_X12_worth X σ a v1 := ⟨_, rfl⟩
  have hF := hout.symm
  unfold F_X12_worth at hF
  refine lv_aload_n hx hb dX12_worth_0 rfl (lv_at hl 0 rfl) ?_
  refine lv_iconst (v := 0) hx hb dX12_worth_1 zki_0 ?_
  refine ps_X12_59_12 E hI ha (by decide) dX12_worth_2 (fun H locs σ_1 hσ_1 hI => ?_)
  replace hF := q_letX hF hσ_1
  have fr_σ_1 := fr_σ.si hσ_1 ha rfl
  have mv0_σ_1 : (σ_1.1 a 0).toInt = (σ.1 a 0).toInt := congrArg Int32.toInt (q_rdn hσ_1 (Or.inr (by decide)))
  have mcσ_1 := m_wo hσ_1 (m_ne ha (q_tk (f := 20) (k' := 34) hI ha rfl (by decide)) (by decide))
  have feσ_1 : m_c X σ_1 a = m_c X σ a := (funext mcσ_1).trans feσ
  refine lv_aload_n hx hb dX12_worth_5 rfl (lv_at hl 0 rfl) ?_
  refine lv_aload_n hx hb dX12_worth_6 rfl (lv_at hl 0 rfl) ?_
  refine lv_iload_n hx hb dX12_worth_7 rfl (lv_at hl 1 rfl) ?_
  refine q_ci (q_rV11_1 (rest := [.ref a]) E (hml.trans hl.1.symm) hI (c_X12_whyNot l X σ_1 a v1 ha (by rw [feσ_1]; exact hG)) kv_X12_352 ha ⟨Nat.le_of_ble_eq_true rfl, Nat.le_of_ble_eq_true rfl⟩ (Nat.le_of_ble_eq_true rfl) dX12_worth_8) hI (Nat.le_of_ble_eq_true rfl) (fun r_2 σ_3 H locs hpσ_3 hkσ_3 hI => ?_)
  have ahpσ_3 := hpσ_3.1
  have bhpσ_3 := hpσ_3.2.1
  have chpσ_3 := hpσ_3.2.2.1
  have dhpσ_3 := hpσ_3.2.2.2
  clear hpσ_3
  replace hI := q_Irw ahpσ_3 hI
  rw [feσ_1] at chpσ_3
  replace hF := q_letX hF dhpσ_3
  refine ps_X12_62_12 E hI ha (by decide) dX12_worth_11 (fun H locs σ_4 hσ_4 hI => ?_)
  replace hF := q_letX hF hσ_4
  have fr_σ_4 := fr_σ_1.si hσ_4 ha rfl
  have mv0_σ_4 : (σ_4.1 a 0).toInt = r_2.toInt := congrArg Int32.toInt (q_rd hσ_4)
  have mcσ_4 := m_wo hσ_4 (m_ne ha (q_tk (f := 20) (k' := 34) hI ha rfl (by decide)) (by decide))
  have feσ_4 : m_c X σ_4 a = m_c X σ a := (funext mcσ_4).trans feσ_1
  refine lv_aload_n hx hb dX12_worth_14 rfl (lv_at hl 0 rfl) ?_
  refine gs_X12_62_12 E hI ha dX12_worth_15 ?_
  refine lv_topi (fun f_5 ef_5 => ?_)
  replace hF := q_letX hF ef_5
  have if_5 : f_5.toInt = (σ_4.1 a 0).toInt := congrArg Int32.toInt ef_5
  refine q_if_le (A := f_5.toInt) E rfl (tgt := 23) dX12_worth_18 (by decide) (fun c_6 => ?_) (fun c_6 => ?_)
  · skip
    replace hF := q_ifn hF (Int.not_lt.mpr c_6)
    refine lv_aload_n hx hb dX12_worth_23 rfl (lv_at hl 0 rfl) ?_
    refine lv_iload_n hx hb dX12_worth_24 rfl (lv_at hl 1 rfl) ?_
    refine q_cv (q_rV11_1 (rest := []) E (hml.trans hl.1.symm) hI (c_X12_blinds l X σ_4 a v1 ha (by rw [feσ_4]; exact hG) (by rw [feσ_4]; exact (by omega)) (by rw [feσ_4]; exact (by omega)) (by rw [feσ_4]; exact (by omega))) kv_X12_358 ha ⟨Nat.le_of_ble_eq_true rfl, Nat.le_of_ble_eq_true rfl⟩ (Nat.le_of_ble_eq_true rfl) dX12_worth_25) hI (Nat.le_of_ble_eq_true rfl) (fun σ_8 H locs hpσ_8 hkσ_8 hI => ?_)
    have ahpσ_8 := hpσ_8.1
    have bhpσ_8 := hpσ_8.2.1
    have chpσ_8 := hpσ_8.2.2
    clear hpσ_8
    have fr_σ_8 := fr_σ_4.call chpσ_8 rfl rfl
    replace hF := q_letX hF bhpσ_8
    have mcσ_8 := m_cK hkσ_8 hI.1 ha (by decide)
    have feσ_8 : m_c X σ_8 a = m_c X σ a := (funext mcσ_8).trans feσ_4
    refine lv_aload_n hx hb dX12_worth_28 rfl (lv_at hl 0 rfl) ?_
    refine lv_aload_n hx hb dX12_worth_29 rfl (lv_at hl 0 rfl) ?_
    refine q_ci (q_rV11_0 (rest := [.ref a]) E (hml.trans hl.1.symm) hI (c_X12_heapMany l X σ_8 a ha (by rw [feσ_8]; exact hG)) kv_X12_287 ha ⟨Nat.le_of_ble_eq_true rfl, Nat.le_of_ble_eq_true rfl⟩ (Nat.le_of_ble_eq_true rfl) dX12_worth_30) hI (Nat.le_of_ble_eq_true rfl) (fun r_9 σ_10 H locs hpσ_10 hkσ_10 hI => ?_)
    have ahpσ_10 := hpσ_10.1
    have bhpσ_10 := hpσ_10.2.1
    have chpσ_10 := hpσ_10.2.2.1
    have dhpσ_10 := hpσ_10.2.2.2
    clear hpσ_10
    replace hI := q_Irw ahpσ_10 hI
    rw [feσ_8] at bhpσ_10
    replace hF := q_letX hF dhpσ_10
    refine lv_i2l hx hb dX12_worth_33 rfl ?_
    refine lv_topl (fun y_11 ey_11 => ?_)
    replace hF := q_letX hF ey_11
    have ggy_11 := q_rng r_9
    have iy_11 : y_11.toInt = r_9.toInt := by rw [ey_11]; exact (q_i2l _).trans rfl
    refine lv_aload_n hx hb dX12_worth_34 rfl (lv_at hl 0 rfl) ?_
    refine gs_X12_349_12 E hI ha dX12_worth_35 ?_
    refine lv_topl (fun g_12 eg_12 => ?_)
    replace hF := q_letX hF eg_12
    have ig_12 : g_12.toInt = (σ_8.2.1 a 31).toInt := congrArg Int64.toInt eg_12
    refine lv_ldc2 (v := 2) hx hb E.2.2.1 (E.2.2.2.1 _ (q_in_t9 (i := 45) (by first | rfl | decide +kernel) rfl)) dX12_worth_38 ?_
    refine lv_aload_n hx hb dX12_worth_41 rfl (lv_at hl 0 rfl) ?_
    refine gs_X12_346_12 E hI ha dX12_worth_42 ?_
    refine lv_topl (fun g_13 eg_13 => ?_)
    replace hF := q_letX hF eg_13
    have ig_13 : g_13.toInt = (σ_8.2.1 a 30).toInt := congrArg Int64.toInt eg_13
    refine lv_lmul hx hb dX12_worth_45 ?_
    refine lv_topl (fun y_14 ey_14 => ?_)
    replace hF := q_letX hF ey_14
    refine lv_lsub hx hb dX12_worth_46 ?_
    refine lv_topl (fun y_15 ey_15 => ?_)
    replace hF := q_letX hF ey_15
    refine lv_lmul hx hb dX12_worth_47 ?_
    refine lv_topl (fun y_16 ey_16 => ?_)
    replace hF := q_letX hF ey_16
    refine lv_aload_n hx hb dX12_worth_48 rfl (lv_at hl 0 rfl) ?_
    refine gs_X12_349_12 E hI ha dX12_worth_49 ?_
    refine lv_topl (fun g_17 eg_17 => ?_)
    replace hF := q_letX hF eg_17
    have ig_17 : g_17.toInt = (σ_8.2.1 a 31).toInt := congrArg Int64.toInt eg_17
    refine q_ci (q_rV11_2 (rest := []) E (hml.trans hl.1.symm) hI (c_X12_fraction l X σ_8 a y_16 g_17 ha (by first | (clear hh mv0_σ_1 ahpσ_3 bhpσ_3 chpσ_3 dhpσ_3 mv0_σ_4 if_5 c_6 bhpσ_8 chpσ_8 ahpσ_10 bhpσ_10 chpσ_10 dhpσ_10 ggy_11 iy_11 ig_13; omega) | omega)) kv_X12_361 ha ⟨Nat.le_of_ble_eq_true rfl, Nat.le_of_ble_eq_true rfl⟩ (Nat.le_of_ble_eq_true rfl) dX12_worth_52) hI (Nat.le_of_ble_eq_true rfl) (fun r_18 σ_19 H locs hpσ_19 hkσ_19 hI => ?_)
    have ahpσ_19 := hpσ_19.1
    have bhpσ_19 := hpσ_19.2.1
    have chpσ_19 := hpσ_19.2.2
    clear hpσ_19
    have fr_σ_19 := fr_σ_8.call chpσ_19 rfl rfl
    replace hF := q_biX hF bhpσ_19
    have mcσ_19 := m_cK hkσ_19 hI.1 ha (by decide)
    have feσ_19 : m_c X σ_19 a = m_c X σ a := (funext mcσ_19).trans feσ_8
    exact q_retz E hr hlk hI ⟨by omega, by omega⟩ ⟨⟨by omega, by omega⟩, (hF.trans hout), fr_σ_19⟩ dX12_worth_55
  · skip
    replace hF := q_ifp hF c_6
    refine lv_iconst (v := 0) hx hb dX12_worth_21 zki_0 ?_
    have hrv : (0 : Int32).toInt = 0 := zt_0
    exact q_retz E hr hlk hI ⟨by decide, by decide⟩ ⟨⟨by decide, by decide⟩, (hF.trans hout), fr_σ_4⟩ dX12_worth_22

set_option maxRecDepth 100000 in
set_option maxHeartbeats 4000000 in
theorem c_X12_ready (l : Launch) (X : XW) (σ : ST) (a : Nat) (ha : q_kd X a = 12) (hG : m_G (m_c X σ a)) : Met l yX12_ready (q_ws yX12_ready cX12_ready 9 (some .int)) (q_rm 6 136) (q_P X σ [.ref a]) (q_Qi X 8 σ (fun (r : Int32) (σ' : ST) => (r, σ') = F_X12_ready X σ a ∧ q_ow [(12, 0), (12, 1)] [(12, 30), (12, 31)] X σ σ')) 0 0 (q_reg X) := by
  refine q_met 8 (by first | exact rfl | decide +kernel) rfl (Nat.le_of_ble_eq_true rfl) (fun p e s m below meth c E hml hr hlk hI ls hl => ?_)
  have hx := E.1
  have hb := E.2.1
  have hl : lv_has ls 9 [(0, .ref a)] := hl
  have feσ : m_c X σ a = m_c X σ a := rfl
  have fr_σ : q_ow [(12, 0), (12, 1)] [(12, 30), (12, 31)] X σ σ := q_ow.rf
  have hh := hG.hd
  obtain ⟨out, hout⟩ : ∃ o, o = F_X12_ready X σ a := ⟨_, rfl⟩
  have hF := hout.symm
  unfold F_X12_ready at hF
  refine lv_aload_n hx hb dX12_ready_0 rfl (lv_at hl 0 rfl) ?_
  refine lv_iconst (v := 0) hx hb dX12_ready_1 zki_0 ?_
  refine ps_X12_59_12 E hI ha (by decide) dX12_ready_2 (fun H locs σ_1 hσ_1 hI => ?_)
  replace hF := q_letX hF hσ_1
  have fr_σ_1 := fr_σ.si hσ_1 ha rfl
  have mcσ_1 := m_wo hσ_1 (m_ne ha (q_tk (f := 20) (k' := 34) hI ha rfl (by decide)) (by decide))
  have feσ_1 : m_c X σ_1 a = m_c X σ a := (funext mcσ_1).trans feσ
  refine lv_aload_n hx hb dX12_ready_5 rfl (lv_at hl 0 rfl) ?_
  refine lv_iconst (v := 0) hx hb dX12_ready_6 zki_0 ?_
  refine ps_X12_62_12 E hI ha (by decide) dX12_ready_7 (fun H locs σ_2 hσ_2 hI => ?_)
  replace hF := q_letX hF hσ_2
  have fr_σ_2 := fr_σ_1.si hσ_2 ha rfl
  have mcσ_2 := m_wo hσ_2 (m_ne ha (q_tk (f := 20) (k' := 34) hI ha rfl (by decide)) (by decide))
  have feσ_2 : m_c X σ_2 a = m_c X σ a := (funext mcσ_2).trans feσ_1
  refine lv_aload_n hx hb dX12_ready_10 rfl (lv_at hl 0 rfl) ?_
  refine gs_X12_35_12 E hI ha dX12_ready_11 ?_
  refine lv_bipush (v := 7) hx hb dX12_ready_14 zkb_7 ?_
  refine q_iald E hI (q_tk (k' := 34) hI ha rfl (Nat.succ_ne_zero _)) ⟨by decide, rfl⟩ (by decide) (by rw [q_lnk (v := 4650) hI (q_tk (k' := 34) hI ha rfl (Nat.succ_ne_zero _)) rfl (by decide)]; decide) dX12_ready_16 ?_
  refine lv_topi (fun f_3 ef_3 => ?_)
  replace hF := q_letX hF ef_3
  have if_3 : f_3.toInt = m_c X σ a 7 := (m_rd ef_3 (by decide)).trans (congrFun feσ_2 _)
  refine q_if_eq (A := f_3.toInt) E rfl (tgt := 30) dX12_ready_17 (by decide) (fun c_4 => ?_) (fun c_4 => ?_)
  · skip
    replace hF := q_ifp hF c_4
    refine lv_aload_n hx hb dX12_ready_30 rfl (lv_at hl 0 rfl) ?_
    refine lv_bipush (v := 8) hx hb dX12_ready_31 zkb_8 ?_
    have kc_5 : (8 : Int32).toInt = 8 := zt_8
    refine q_ci (q_rV11_1 (rest := []) E (hml.trans hl.1.symm) hI (c_X12_refuse l X σ_2 a (8 : Int32) ha) kv_X12_284 ha ⟨Nat.le_of_ble_eq_true rfl, Nat.le_of_ble_eq_true rfl⟩ (Nat.le_of_ble_eq_true rfl) dX12_ready_33) hI (Nat.le_of_ble_eq_true rfl) (fun r_6 σ_7 H locs hpσ_7 hkσ_7 hI => ?_)
    have ahpσ_7 := hpσ_7.1
    have bhpσ_7 := hpσ_7.2.1
    have chpσ_7 := hpσ_7.2.2
    clear hpσ_7
    have fr_σ_7 := fr_σ_2.call chpσ_7 rfl rfl
    replace hF := q_biX hF bhpσ_7
    have mcσ_7 := m_cK hkσ_7 hI.1 ha (by decide)
    have feσ_7 : m_c X σ_7 a = m_c X σ a := (funext mcσ_7).trans feσ_2
    exact q_reti E hr hlk hI ⟨(hF.trans hout), fr_σ_7⟩ dX12_ready_36
  · skip
    replace hF := q_ifn hF c_4
    refine lv_aload_n hx hb dX12_ready_20 rfl (lv_at hl 0 rfl) ?_
    refine gs_X12_35_12 E hI ha dX12_ready_21 ?_
    refine lv_iconst (v := 2) hx hb dX12_ready_24 zki_2 ?_
    refine q_iald E hI (q_tk (k' := 34) hI ha rfl (Nat.succ_ne_zero _)) ⟨by decide, rfl⟩ (by decide) (by rw [q_lnk (v := 4650) hI (q_tk (k' := 34) hI ha rfl (Nat.succ_ne_zero _)) rfl (by decide)]; decide) dX12_ready_25 ?_
    refine lv_topi (fun f_8 ef_8 => ?_)
    replace hF := q_letX hF ef_8
    have if_8 : f_8.toInt = m_c X σ a 2 := (m_rd ef_8 (by decide)).trans (congrFun feσ_2 _)
    refine lv_iconst (v := 2) hx hb dX12_ready_26 zki_2 ?_
    have gc_9_f_8 := q_rng f_8
    refine q_icmp_ge (A := f_8.toInt) (B := 2) E rfl (by decide) (tgt := 37) dX12_ready_27 (by decide) (fun c_9 => ?_) (fun c_9 => ?_)
    · skip
      replace hF := q_ifn hF (Int.not_lt.mpr c_9)
      refine lv_iconst (v := (-1)) hx hb dX12_ready_37 zki_m1 ?_
      refine lv_istore_n (lv' := [(1, .int (-1)), (0, .ref a)]) hx hb dX12_ready_38 rfl hl (by decide) rfl (fun ls hl => ?_)
      refine lv_lconst (v := 0) hx hb dX12_ready_39 (by decide) ?_
      refine lv_lstore_n (lv' := [(2, .long 0), (1, .int (-1)), (0, .ref a)]) hx hb dX12_ready_40 rfl hl (by decide) rfl (fun ls hl => ?_)
      refine lv_lconst (v := 1) hx hb dX12_ready_41 (by decide) ?_
      refine lv_lstore (lv' := [(4, .long 1), (2, .long 0), (1, .int (-1)), (0, .ref a)]) hx hb dX12_ready_42 hl (by decide) rfl (fun ls hl => ?_)
      refine lv_aload_n hx hb dX12_ready_44 rfl (lv_at hl 3 rfl) ?_
      refine lv_aload_n hx hb dX12_ready_45 rfl (lv_at hl 3 rfl) ?_
      refine gs_X12_35_12 E hI ha dX12_ready_46 ?_
      refine lv_bipush (v := 6) hx hb dX12_ready_49 zkb_6 ?_
      refine q_iald E hI (q_tk (k' := 34) hI ha rfl (Nat.succ_ne_zero _)) ⟨by decide, rfl⟩ (by decide) (by rw [q_lnk (v := 4650) hI (q_tk (k' := 34) hI ha rfl (Nat.succ_ne_zero _)) rfl (by decide)]; decide) dX12_ready_51 ?_
      refine lv_topi (fun f_10 ef_10 => ?_)
      replace hF := q_letX hF ef_10
      have if_10 : f_10.toInt = m_c X σ a 6 := (m_rd ef_10 (by decide)).trans (congrFun feσ_2 _)
      refine q_ci (q_rV11_1 (rest := []) E (hml.trans hl.1.symm) hI (c_X12_behindOf l X σ_2 a f_10 ha (by rw [feσ_2]; exact hG) (by rw [feσ_2]; exact (by first | (clear if_3 c_4 gc_9_f_8; omega) | omega))) kv_X12_319 ha ⟨Nat.le_of_ble_eq_true rfl, Nat.le_of_ble_eq_true rfl⟩ (Nat.le_of_ble_eq_true rfl) dX12_ready_52) hI (Nat.le_of_ble_eq_true rfl) (fun r_11 σ_12 H locs hpσ_12 hkσ_12 hI => ?_)
      have ahpσ_12 := hpσ_12.1
      have bhpσ_12 := hpσ_12.2.1
      have chpσ_12 := hpσ_12.2.2.1
      have dhpσ_12 := hpσ_12.2.2.2
      clear hpσ_12
      replace hI := q_Irw ahpσ_12 hI
      rw [feσ_2] at bhpσ_12
      rw [feσ_2] at chpσ_12
      replace hF := q_letX hF dhpσ_12
      refine lv_istore (lv' := [(6, .int r_11), (4, .long 1), (2, .long 0), (1, .int (-1)), (0, .ref a)]) hx hb dX12_ready_55 hl (by decide) rfl (fun ls hl => ?_)
      have L_57_18 : ∀ (k_18 : Nat) (x_13 : Int32) (w_14 : Int64) (w_15 : Int64) (x_16 : Int32) (σ_17 : ST) (H : Heap) (locs : List Loc) (ls : Array Slot), (m_c X σ a 6 - x_16.toInt + 20 * min 1 (max 0 (x_16.toInt - m_c X σ a 6))).toNat < k_18 → (0 ≤ x_16.toInt ∧ x_16.toInt < m_c X σ a 2) → (q_ow [(12, 0), (12, 1)] [(12, 30), (12, 31)] X σ σ_17) → (m_c X σ_17 a = m_c X σ a) → (F_X12_ready_L57_1 X a k_18 x_13 w_14 w_15 x_16 σ_17 = out) → q_I X 8 σ s.heap locs σ_17 H → lv_has ls 9 [(0, .ref a), (1, .int x_13), (2, .long w_14), (4, .long w_15), (6, .int x_16)] → W p l e (q_rm 6 136) s m ([.ref a] : List Value).toArray below meth c H locs 0 0 (MQ below (q_Qi X 8 σ (fun (r : Int32) (σ' : ST) => (r, σ') = F_X12_ready X σ a ∧ q_ow [(12, 0), (12, 1)] [(12, 30), (12, 31)] X σ σ')) ([.ref a] : List Value).toArray s 0 0 (q_reg X)) (F0 m 57 ls []) := by
        clear hF
        intro k_18
        induction k_18 with
        | zero =>
          intro x_13 w_14 w_15 x_16 σ_17 H locs ls hms
          try clear ahpσ_12
          exact absurd hms (Nat.not_lt_zero _)
        | succ k_18 ih57 =>
          intro x_13 w_14 w_15 x_16 σ_17 H locs ls hm57 hge57 fr_σ_17 feσ_17 hF hI hl
          replace hF := (F_X12_ready_L57_1_s).symm.trans hF
          unfold F_X12_ready_B57_1 at hF
          refine lv_iload hx hb dX12_ready_57 (lv_at hl 4 rfl) ?_
          refine lv_aload_n hx hb dX12_ready_59 rfl (lv_at hl 0 rfl) ?_
          refine gs_X12_35_12 E hI ha dX12_ready_60 ?_
          refine lv_bipush (v := 6) hx hb dX12_ready_63 zkb_6 ?_
          refine q_iald E hI (q_tk (k' := 34) hI ha rfl (Nat.succ_ne_zero _)) ⟨by decide, rfl⟩ (by decide) (by rw [q_lnk (v := 4650) hI (q_tk (k' := 34) hI ha rfl (Nat.succ_ne_zero _)) rfl (by decide)]; decide) dX12_ready_65 ?_
          refine lv_topi (fun f_19 ef_19 => ?_)
          replace hF := q_letX hF ef_19
          have if_19 : f_19.toInt = m_c X σ a 6 := (m_rd ef_19 (by decide)).trans (congrFun feσ_17 _)
          have gc_20_x_16 := q_rng x_16
          have gc_20_f_19 := q_rng f_19
          refine q_icmp_eq (A := x_16.toInt) (B := f_19.toInt) E rfl rfl (tgt := 135) dX12_ready_66 (by decide) (fun c_20 => ?_) (fun c_20 => ?_)
          · skip
            replace hF := q_ifp hF c_20
            skip
            refine lv_iload_n hx hb dX12_ready_135 rfl (lv_at hl 1 rfl) ?_
            exact q_reti E hr hlk hI ⟨(hF.trans hout), fr_σ_17⟩ dX12_ready_136
          · skip
            replace hF := q_ifn hF c_20
            refine lv_aload_n hx hb dX12_ready_69 rfl (lv_at hl 0 rfl) ?_
            refine lv_iload hx hb dX12_ready_70 (lv_at hl 4 rfl) ?_
            refine q_cv (q_rV11_1 (rest := []) E (hml.trans hl.1.symm) hI (c_X12_blinds l X σ_17 a x_16 ha (by rw [feσ_17]; exact hG) (by rw [feσ_17]; exact (by omega)) (by rw [feσ_17]; exact (by first | (clear gc_9_f_8 bhpσ_12 dhpσ_12 w_14 w_15 hm57; omega) | omega)) (by rw [feσ_17]; exact (by first | (clear hh if_3 c_4 if_8 gc_9_f_8 c_9 bhpσ_12 chpσ_12 dhpσ_12 w_14 w_15 hm57 hge57 gc_20_x_16 gc_20_f_19; omega) | omega))) kv_X12_358 ha ⟨Nat.le_of_ble_eq_true rfl, Nat.le_of_ble_eq_true rfl⟩ (Nat.le_of_ble_eq_true rfl) dX12_ready_72) hI (Nat.le_of_ble_eq_true rfl) (fun σ_22 H locs hpσ_22 hkσ_22 hI => ?_)
            have ahpσ_22 := hpσ_22.1
            have bhpσ_22 := hpσ_22.2.1
            have chpσ_22 := hpσ_22.2.2
            clear hpσ_22
            have fr_σ_22 := fr_σ_17.call chpσ_22 rfl rfl
            replace hF := q_letX hF bhpσ_22
            have mcσ_22 := m_cK hkσ_22 hI.1 ha (by decide)
            have feσ_22 : m_c X σ_22 a = m_c X σ a := (funext mcσ_22).trans feσ_17
            refine lv_aload_n hx hb dX12_ready_75 rfl (lv_at hl 0 rfl) ?_
            refine gs_X12_349_12 E hI ha dX12_ready_76 ?_
            refine lv_topl (fun g_23 eg_23 => ?_)
            replace hF := q_letX hF eg_23
            have ig_23 : g_23.toInt = (σ_22.2.1 a 31).toInt := congrArg Int64.toInt eg_23
            refine lv_ldc2 (v := 2) hx hb E.2.2.1 (E.2.2.2.1 _ (q_in_t9 (i := 45) (by first | rfl | decide +kernel) rfl)) dX12_ready_79 ?_
            refine lv_aload_n hx hb dX12_ready_82 rfl (lv_at hl 0 rfl) ?_
            refine gs_X12_346_12 E hI ha dX12_ready_83 ?_
            refine lv_topl (fun g_24 eg_24 => ?_)
            replace hF := q_letX hF eg_24
            have ig_24 : g_24.toInt = (σ_22.2.1 a 30).toInt := congrArg Int64.toInt eg_24
            refine lv_lmul hx hb dX12_ready_86 ?_
            refine lv_topl (fun y_25 ey_25 => ?_)
            replace hF := q_letX hF ey_25
            refine lv_lsub hx hb dX12_ready_87 ?_
            refine lv_topl (fun y_26 ey_26 => ?_)
            replace hF := q_letX hF ey_26
            refine lv_lstore (lv' := [(7, .long y_26), (0, .ref a), (1, .int x_13), (2, .long w_14), (4, .long w_15), (6, .int x_16)]) hx hb dX12_ready_88 hl (by decide) rfl (fun ls hl => ?_)
            refine lv_iload_n hx hb dX12_ready_90 rfl (lv_at hl 2 rfl) ?_
            refine q_if_lt (A := x_13.toInt) E rfl (tgt := 112) dX12_ready_91 (by decide) (fun c_27 => ?_) (fun c_27 => ?_)
            · skip
              replace hF := q_ifp hF c_27
              refine lv_iload hx hb dX12_ready_112 (lv_at hl 5 rfl) ?_
              refine lv_istore_n (lv' := [(1, .int x_16), (7, .long y_26), (0, .ref a), (2, .long w_14), (4, .long w_15), (6, .int x_16)]) hx hb dX12_ready_114 rfl hl (by decide) rfl (fun ls hl => ?_)
              refine lv_lload hx hb dX12_ready_115 (lv_at hl 1 rfl) ?_
              refine lv_lstore_n (lv' := [(2, .long y_26), (1, .int x_16), (7, .long y_26), (0, .ref a), (4, .long w_15), (6, .int x_16)]) hx hb dX12_ready_117 rfl hl (by decide) rfl (fun ls hl => ?_)
              refine lv_aload_n hx hb dX12_ready_118 rfl (lv_at hl 3 rfl) ?_
              refine gs_X12_349_12 E hI ha dX12_ready_119 ?_
              refine lv_topl (fun g_28 eg_28 => ?_)
              replace hF := q_letX hF eg_28
              have ig_28 : g_28.toInt = (σ_22.2.1 a 31).toInt := congrArg Int64.toInt eg_28
              refine lv_lstore (lv' := [(4, .long g_28), (2, .long y_26), (1, .int x_16), (7, .long y_26), (0, .ref a), (6, .int x_16)]) hx hb dX12_ready_122 hl (by decide) rfl (fun ls hl => ?_)
              refine lv_aload_n hx hb dX12_ready_124 rfl (lv_at hl 4 rfl) ?_
              refine lv_iload hx hb dX12_ready_125 (lv_at hl 5 rfl) ?_
              refine q_ci (q_rV11_1 (rest := []) E (hml.trans hl.1.symm) hI (c_X12_behindOf l X σ_22 a x_16 ha (by rw [feσ_22]; exact hG) (by rw [feσ_22]; exact (by omega))) kv_X12_319 ha ⟨Nat.le_of_ble_eq_true rfl, Nat.le_of_ble_eq_true rfl⟩ (Nat.le_of_ble_eq_true rfl) dX12_ready_127) hI (Nat.le_of_ble_eq_true rfl) (fun r_29 σ_30 H locs hpσ_30 hkσ_30 hI => ?_)
              have ahpσ_30 := hpσ_30.1
              have bhpσ_30 := hpσ_30.2.1
              have chpσ_30 := hpσ_30.2.2.1
              have dhpσ_30 := hpσ_30.2.2.2
              clear hpσ_30
              replace hI := q_Irw ahpσ_30 hI
              rw [feσ_22] at bhpσ_30
              rw [feσ_22] at chpσ_30
              replace hF := q_letX hF dhpσ_30
              refine lv_istore (lv' := [(6, .int r_29), (4, .long g_28), (2, .long y_26), (1, .int x_16), (7, .long y_26), (0, .ref a)]) hx hb dX12_ready_130 hl (by decide) rfl (fun ls hl => ?_)
              refine lv_goto (tgt := 57) hx hb dX12_ready_132 (by decide) ?_
              exact ih57 x_16 y_26 g_28 r_29 σ_22 _ _ ls (by first | (clear if_3 c_4 gc_9_f_8 chpσ_12 dhpσ_12 w_14 w_15 ahpσ_22 bhpσ_22 chpσ_22 ig_23 ig_24 c_27 ig_28 ahpσ_30 dhpσ_30; omega) | omega) (by omega) fr_σ_22 feσ_22 hF hI (lv_sub hl [5, 3, 2, 1, 0] rfl)
            · skip
              replace hF := q_ifn hF (Int.not_lt.mpr c_27)
              refine lv_lload hx hb dX12_ready_94 (lv_at hl 0 rfl) ?_
              refine lv_lload hx hb dX12_ready_96 (lv_at hl 4 rfl) ?_
              refine lv_lmul hx hb dX12_ready_98 ?_
              refine lv_topl (fun y_31 ey_31 => ?_)
              replace hF := q_letX hF ey_31
              refine lv_lload_n hx hb dX12_ready_99 rfl (lv_at hl 3 rfl) ?_
              refine lv_aload_n hx hb dX12_ready_100 rfl (lv_at hl 1 rfl) ?_
              refine gs_X12_349_12 E hI ha dX12_ready_101 ?_
              refine lv_topl (fun g_32 eg_32 => ?_)
              replace hF := q_letX hF eg_32
              have ig_32 : g_32.toInt = (σ_22.2.1 a 31).toInt := congrArg Int64.toInt eg_32
              refine lv_lmul hx hb dX12_ready_104 ?_
              refine lv_topl (fun y_33 ey_33 => ?_)
              replace hF := q_letX hF ey_33
              refine q_lcmpX E dX12_ready_105 (fun z_34 ez_34 hz_34 => ?_)
              replace hF := q_letX hF ez_34
              refine q_if_gt (A := z_34.toInt) E rfl (tgt := 112) dX12_ready_106 (by decide) (fun c_35 => ?_) (fun c_35 => ?_)
              · skip
                replace hF := q_ifp hF c_35
                refine lv_iload hx hb dX12_ready_112 (lv_at hl 5 rfl) ?_
                refine lv_istore_n (lv' := [(1, .int x_16), (7, .long y_26), (0, .ref a), (2, .long w_14), (4, .long w_15), (6, .int x_16)]) hx hb dX12_ready_114 rfl hl (by decide) rfl (fun ls hl => ?_)
                refine lv_lload hx hb dX12_ready_115 (lv_at hl 1 rfl) ?_
                refine lv_lstore_n (lv' := [(2, .long y_26), (1, .int x_16), (7, .long y_26), (0, .ref a), (4, .long w_15), (6, .int x_16)]) hx hb dX12_ready_117 rfl hl (by decide) rfl (fun ls hl => ?_)
                refine lv_aload_n hx hb dX12_ready_118 rfl (lv_at hl 3 rfl) ?_
                refine gs_X12_349_12 E hI ha dX12_ready_119 ?_
                refine lv_topl (fun g_36 eg_36 => ?_)
                replace hF := q_letX hF eg_36
                have ig_36 : g_36.toInt = (σ_22.2.1 a 31).toInt := congrArg Int64.toInt eg_36
                refine lv_lstore (lv' := [(4, .long g_36), (2, .long y_26), (1, .int x_16), (7, .long y_26), (0, .ref a), (6, .int x_16)]) hx hb dX12_ready_122 hl (by decide) rfl (fun ls hl => ?_)
                refine lv_aload_n hx hb dX12_ready_124 rfl (lv_at hl 4 rfl) ?_
                refine lv_iload hx hb dX12_ready_125 (lv_at hl 5 rfl) ?_
                refine q_ci (q_rV11_1 (rest := []) E (hml.trans hl.1.symm) hI (c_X12_behindOf l X σ_22 a x_16 ha (by rw [feσ_22]; exact hG) (by rw [feσ_22]; exact (by omega))) kv_X12_319 ha ⟨Nat.le_of_ble_eq_true rfl, Nat.le_of_ble_eq_true rfl⟩ (Nat.le_of_ble_eq_true rfl) dX12_ready_127) hI (Nat.le_of_ble_eq_true rfl) (fun r_37 σ_38 H locs hpσ_38 hkσ_38 hI => ?_)
                have ahpσ_38 := hpσ_38.1
                have bhpσ_38 := hpσ_38.2.1
                have chpσ_38 := hpσ_38.2.2.1
                have dhpσ_38 := hpσ_38.2.2.2
                clear hpσ_38
                replace hI := q_Irw ahpσ_38 hI
                rw [feσ_22] at bhpσ_38
                rw [feσ_22] at chpσ_38
                replace hF := q_letX hF dhpσ_38
                refine lv_istore (lv' := [(6, .int r_37), (4, .long g_36), (2, .long y_26), (1, .int x_16), (7, .long y_26), (0, .ref a)]) hx hb dX12_ready_130 hl (by decide) rfl (fun ls hl => ?_)
                refine lv_goto (tgt := 57) hx hb dX12_ready_132 (by decide) ?_
                exact ih57 x_16 y_26 g_36 r_37 σ_22 _ _ ls (by first | (clear if_3 c_4 gc_9_f_8 chpσ_12 dhpσ_12 w_14 w_15 ahpσ_22 bhpσ_22 chpσ_22 ig_23 ig_24 c_27 ig_32 ig_36 ahpσ_38 dhpσ_38; omega) | omega) (by omega) fr_σ_22 feσ_22 hF hI (lv_sub hl [5, 3, 2, 1, 0] rfl)
              · skip
                replace hF := q_ifn hF (Int.not_lt.mpr c_35)
                refine lv_goto (tgt := 124) hx hb dX12_ready_109 (by decide) ?_
                refine lv_aload_n hx hb dX12_ready_124 rfl (lv_at hl 1 rfl) ?_
                refine lv_iload hx hb dX12_ready_125 (lv_at hl 5 rfl) ?_
                refine q_ci (q_rV11_1 (rest := []) E (hml.trans hl.1.symm) hI (c_X12_behindOf l X σ_22 a x_16 ha (by rw [feσ_22]; exact hG) (by rw [feσ_22]; exact (by omega))) kv_X12_319 ha ⟨Nat.le_of_ble_eq_true rfl, Nat.le_of_ble_eq_true rfl⟩ (Nat.le_of_ble_eq_true rfl) dX12_ready_127) hI (Nat.le_of_ble_eq_true rfl) (fun r_39 σ_40 H locs hpσ_40 hkσ_40 hI => ?_)
                have ahpσ_40 := hpσ_40.1
                have bhpσ_40 := hpσ_40.2.1
                have chpσ_40 := hpσ_40.2.2.1
                have dhpσ_40 := hpσ_40.2.2.2
                clear hpσ_40
                replace hI := q_Irw ahpσ_40 hI
                rw [feσ_22] at bhpσ_40
                rw [feσ_22] at chpσ_40
                replace hF := q_letX hF dhpσ_40
                refine lv_istore (lv' := [(6, .int r_39), (7, .long y_26), (0, .ref a), (1, .int x_13), (2, .long w_14), (4, .long w_15)]) hx hb dX12_ready_130 hl (by decide) rfl (fun ls hl => ?_)
                refine lv_goto (tgt := 57) hx hb dX12_ready_132 (by decide) ?_
                exact ih57 x_13 w_14 w_15 r_39 σ_22 _ _ ls (by first | (clear if_3 c_4 gc_9_f_8 chpσ_12 dhpσ_12 w_14 w_15 ahpσ_22 bhpσ_22 chpσ_22 ig_23 ig_24 c_27 ig_32 ahpσ_40 dhpσ_40; omega) | omega) (by omega) fr_σ_22 feσ_22 hF hI (lv_sub hl [2, 3, 4, 5, 0] rfl)
      have kc_41 : ((-1) : Int32).toInt = (-1) := zt_m1
      exact L_57_18 ((m_c X σ a 6 - r_11.toInt + 20 * min 1 (max 0 (r_11.toInt - m_c X σ a 6))).toNat + 1) (-1) 0 1 r_11 σ_2 _ _ ls (Nat.lt_succ_self _) (by omega) fr_σ_2 feσ_2 hF hI (lv_sub hl [4, 3, 2, 1, 0] rfl)
    · skip
      replace hF := q_ifp hF c_9
      refine lv_aload_n hx hb dX12_ready_30 rfl (lv_at hl 0 rfl) ?_
      refine lv_bipush (v := 8) hx hb dX12_ready_31 zkb_8 ?_
      have kc_42 : (8 : Int32).toInt = 8 := zt_8
      refine q_ci (q_rV11_1 (rest := []) E (hml.trans hl.1.symm) hI (c_X12_refuse l X σ_2 a (8 : Int32) ha) kv_X12_284 ha ⟨Nat.le_of_ble_eq_true rfl, Nat.le_of_ble_eq_true rfl⟩ (Nat.le_of_ble_eq_true rfl) dX12_ready_33) hI (Nat.le_of_ble_eq_true rfl) (fun r_43 σ_44 H locs hpσ_44 hkσ_44 hI => ?_)
      have ahpσ_44 := hpσ_44.1
      have bhpσ_44 := hpσ_44.2.1
      have chpσ_44 := hpσ_44.2.2
      clear hpσ_44
      have fr_σ_44 := fr_σ_2.call chpσ_44 rfl rfl
      replace hF := q_biX hF bhpσ_44
      have mcσ_44 := m_cK hkσ_44 hI.1 ha (by decide)
      have feσ_44 : m_c X σ_44 a = m_c X σ a := (funext mcσ_44).trans feσ_2
      exact q_reti E hr hlk hI ⟨(hF.trans hout), fr_σ_44⟩ dX12_ready_36

set_option maxRecDepth 100000 in
set_option maxHeartbeats 4000000 in
theorem c_X12_heap (l : Launch) (X : XW) (σ : ST) (a : Nat) (v1 : Int32) (v2 : Int32) (ha : q_kd X a = 12) (hG : m_G (m_c X σ a)) : Met l yX12_heap (q_ws yX12_heap cX12_heap 9 (some .boolean)) (q_rm 5 114) (q_P X σ [.ref a, .int v1, .int v2]) (q_Qi X 8 σ (fun (r : Int32) (σ' : ST) => (0 ≤ r.toInt ∧ r.toInt ≤ 1) ∧ (r, σ') = F_X12_heap X σ a v1 v2 ∧ q_ow [(12, 0), (12, 1)] [(12, 2), (12, 3)] X σ σ')) 0 0 (q_reg X) := by
  refine q_met 8 (by first | exact rfl | decide +kernel) rfl (Nat.le_of_ble_eq_true rfl) (fun p e s m below meth c E hml hr hlk hI ls hl => ?_)
  have hx := E.1
  have hb := E.2.1
  have hl : lv_has ls 9 [(0, .ref a), (1, .int v1), (2, .int v2)] := hl
  have feσ : m_c X σ a = m_c X σ a := rfl
  have fr_σ : q_ow [(12, 0), (12, 1)] [(12, 2), (12, 3)] X σ σ := q_ow.rf
  have hh := hG.hd
  obtain ⟨out, hout⟩ : ∃ o, o = F_X12_heap X σ a v1 v2 := ⟨_, rfl⟩
  have hF := hout.symm
  unfold F_X12_heap at hF
  refine lv_aload_n hx hb dX12_heap_0 rfl (lv_at hl 0 rfl) ?_
  refine lv_iconst (v := 0) hx hb dX12_heap_1 zki_0 ?_
  refine ps_X12_59_12 E hI ha (by decide) dX12_heap_2 (fun H locs σ_1 hσ_1 hI => ?_)
  replace hF := q_letX hF hσ_1
  have fr_σ_1 := fr_σ.si hσ_1 ha rfl
  have mcσ_1 := m_wo hσ_1 (m_ne ha (q_tk (f := 20) (k' := 34) hI ha rfl (by decide)) (by decide))
  have feσ_1 : m_c X σ_1 a = m_c X σ a := (funext mcσ_1).trans feσ
  refine lv_aload_n hx hb dX12_heap_5 rfl (lv_at hl 0 rfl) ?_
  refine lv_iconst (v := 0) hx hb dX12_heap_6 zki_0 ?_
  refine ps_X12_62_12 E hI ha (by decide) dX12_heap_7 (fun H locs σ_2 hσ_2 hI => ?_)
  replace hF := q_letX hF hσ_2
  have fr_σ_2 := fr_σ_1.si hσ_2 ha rfl
  have mcσ_2 := m_wo hσ_2 (m_ne ha (q_tk (f := 20) (k' := 34) hI ha rfl (by decide)) (by decide))
  have feσ_2 : m_c X σ_2 a = m_c X σ a := (funext mcσ_2).trans feσ_1
  refine lv_aload_n hx hb dX12_heap_10 rfl (lv_at hl 0 rfl) ?_
  refine lv_iload_n hx hb dX12_heap_11 rfl (lv_at hl 1 rfl) ?_
  refine q_ci (q_rV11_1 (rest := []) E (hml.trans hl.1.symm) hI (c_X12_isPlayerAt l X σ_2 a v1 ha (by rw [feσ_2]; exact hG)) kv_X12_290 ha ⟨Nat.le_of_ble_eq_true rfl, Nat.le_of_ble_eq_true rfl⟩ (Nat.le_of_ble_eq_true rfl) dX12_heap_12) hI (Nat.le_of_ble_eq_true rfl) (fun r_3 σ_4 H locs hpσ_4 hkσ_4 hI => ?_)
  have ahpσ_4 := hpσ_4.1
  have bhpσ_4 := hpσ_4.2.1
  have chpσ_4 := hpσ_4.2.2.1
  have dhpσ_4 := hpσ_4.2.2.2
  clear hpσ_4
  replace hI := q_Irw ahpσ_4 hI
  rw [feσ_2] at chpσ_4
  replace hF := q_letX hF dhpσ_4
  refine q_if_eq (A := r_3.toInt) E rfl (tgt := 26) dX12_heap_15 (by decide) (fun c_5 => ?_) (fun c_5 => ?_)
  · skip
    replace hF := q_ifp hF c_5
    replace chpσ_4 := q_ifNo chpσ_4 c_5
    refine lv_aload_n hx hb dX12_heap_26 rfl (lv_at hl 0 rfl) ?_
    refine lv_iconst (v := 2) hx hb dX12_heap_27 zki_2 ?_
    have kc_6 : (2 : Int32).toInt = 2 := zt_2
    refine q_ci (q_rV11_1 (rest := []) E (hml.trans hl.1.symm) hI (c_X12_no l X σ_2 a (2 : Int32) ha) kv_X12_74 ha ⟨Nat.le_of_ble_eq_true rfl, Nat.le_of_ble_eq_true rfl⟩ (Nat.le_of_ble_eq_true rfl) dX12_heap_28) hI (Nat.le_of_ble_eq_true rfl) (fun r_7 σ_8 H locs hpσ_8 hkσ_8 hI => ?_)
    have ahpσ_8 := hpσ_8.1
    have bhpσ_8 := hpσ_8.2.1
    have chpσ_8 := hpσ_8.2.2.1
    have dhpσ_8 := hpσ_8.2.2.2
    clear hpσ_8
    have fr_σ_8 := fr_σ_2.call dhpσ_8 rfl rfl
    replace hF := q_biX hF chpσ_8
    have mcσ_8 := m_cK hkσ_8 hI.1 ha (by decide)
    have feσ_8 : m_c X σ_8 a = m_c X σ a := (funext mcσ_8).trans feσ_2
    exact q_retz E hr hlk hI ⟨by omega, by omega⟩ ⟨⟨by omega, by omega⟩, (hF.trans hout), fr_σ_8⟩ dX12_heap_31
  · skip
    replace hF := q_ifn hF c_5
    replace c_5 := q_ifOne bhpσ_4 c_5
    replace chpσ_4 := q_ifYes chpσ_4 c_5
    refine lv_aload_n hx hb dX12_heap_18 rfl (lv_at hl 0 rfl) ?_
    refine lv_iload_n hx hb dX12_heap_19 rfl (lv_at hl 2 rfl) ?_
    refine q_ci (q_rV11_1 (rest := []) E (hml.trans hl.1.symm) hI (c_X12_isKindAt l X σ_2 a v2 ha (by rw [feσ_2]; exact hG)) kv_X12_299 ha ⟨Nat.le_of_ble_eq_true rfl, Nat.le_of_ble_eq_true rfl⟩ (Nat.le_of_ble_eq_true rfl) dX12_heap_20) hI (Nat.le_of_ble_eq_true rfl) (fun r_9 σ_10 H locs hpσ_10 hkσ_10 hI => ?_)
    have ahpσ_10 := hpσ_10.1
    have bhpσ_10 := hpσ_10.2.1
    have chpσ_10 := hpσ_10.2.2.1
    have dhpσ_10 := hpσ_10.2.2.2
    clear hpσ_10
    replace hI := q_Irw ahpσ_10 hI
    rw [feσ_2] at chpσ_10
    replace hF := q_letX hF dhpσ_10
    refine q_if_ne (A := r_9.toInt) E rfl (tgt := 32) dX12_heap_23 (by decide) (fun c_11 => ?_) (fun c_11 => ?_)
    · skip
      replace hF := q_ifn hF c_11
      replace c_11 := q_ifOne bhpσ_10 c_11
      replace chpσ_10 := q_ifYes chpσ_10 c_11
      refine lv_aload_n hx hb dX12_heap_32 rfl (lv_at hl 0 rfl) ?_
      refine lv_iload_n hx hb dX12_heap_33 rfl (lv_at hl 1 rfl) ?_
      refine lv_iload_n hx hb dX12_heap_34 rfl (lv_at hl 2 rfl) ?_
      refine q_ci (q_rV11_2 (rest := []) E (hml.trans hl.1.symm) hI (c_X12_laidOf l X σ_2 a v1 v2 ha (by rw [feσ_2]; exact hG)) kv_X12_296 ha ⟨Nat.le_of_ble_eq_true rfl, Nat.le_of_ble_eq_true rfl⟩ (Nat.le_of_ble_eq_true rfl) dX12_heap_35) hI (Nat.le_of_ble_eq_true rfl) (fun r_12 σ_13 H locs hpσ_13 hkσ_13 hI => ?_)
      have ahpσ_13 := hpσ_13.1
      have bhpσ_13 := hpσ_13.2.1
      have chpσ_13 := hpσ_13.2.2.1
      have dhpσ_13 := hpσ_13.2.2.2
      clear hpσ_13
      replace hI := q_Irw ahpσ_13 hI
      rw [feσ_2] at bhpσ_13
      replace hF := q_letX hF dhpσ_13
      have ir_12 : r_12.toInt = (m_A (m_c X σ a) v1.toInt v2.toInt (m_c X σ a 9).toNat) := (by first | exact bhpσ_13 | (rw [bhpσ_13]) | (simp only [bhpσ_13]))
      refine lv_i2l hx hb dX12_heap_38 rfl ?_
      refine lv_topl (fun y_14 ey_14 => ?_)
      replace hF := q_letX hF ey_14
      have ggy_14 := q_rng r_12
      have iy_14 : y_14.toInt = r_12.toInt := by rw [ey_14]; exact (q_i2l _).trans rfl
      refine lv_lstore_n (lv' := [(3, .long y_14), (0, .ref a), (1, .int v1), (2, .int v2)]) hx hb dX12_heap_39 rfl hl (by decide) rfl (fun ls hl => ?_)
      refine lv_aload_n hx hb dX12_heap_40 rfl (lv_at hl 1 rfl) ?_
      refine q_ci (q_rV11_0 (rest := []) E (hml.trans hl.1.symm) hI (c_X12_heapMany l X σ_2 a ha (by rw [feσ_2]; exact hG)) kv_X12_287 ha ⟨Nat.le_of_ble_eq_true rfl, Nat.le_of_ble_eq_true rfl⟩ (Nat.le_of_ble_eq_true rfl) dX12_heap_41) hI (Nat.le_of_ble_eq_true rfl) (fun r_15 σ_16 H locs hpσ_16 hkσ_16 hI => ?_)
      have ahpσ_16 := hpσ_16.1
      have bhpσ_16 := hpσ_16.2.1
      have chpσ_16 := hpσ_16.2.2.1
      have dhpσ_16 := hpσ_16.2.2.2
      clear hpσ_16
      replace hI := q_Irw ahpσ_16 hI
      rw [feσ_2] at bhpσ_16
      replace hF := q_letX hF dhpσ_16
      refine lv_aload_n hx hb dX12_heap_44 rfl (lv_at hl 1 rfl) ?_
      refine lv_iload_n hx hb dX12_heap_45 rfl (lv_at hl 2 rfl) ?_
      refine lv_iconst (v := (-1)) hx hb dX12_heap_46 zki_m1 ?_
      have kc_17 : ((-1) : Int32).toInt = (-1) := zt_m1
      refine q_ci (q_rV11_2 (rest := [.int r_15]) E (hml.trans hl.1.symm) hI (c_X12_laidOf l X σ_2 a v1 ((-1) : Int32) ha (by rw [feσ_2]; exact hG)) kv_X12_296 ha ⟨Nat.le_of_ble_eq_true rfl, Nat.le_of_ble_eq_true rfl⟩ (Nat.le_of_ble_eq_true rfl) dX12_heap_47) hI (Nat.le_of_ble_eq_true rfl) (fun r_18 σ_19 H locs hpσ_19 hkσ_19 hI => ?_)
      have ahpσ_19 := hpσ_19.1
      have bhpσ_19 := hpσ_19.2.1
      have chpσ_19 := hpσ_19.2.2.1
      have dhpσ_19 := hpσ_19.2.2.2
      clear hpσ_19
      replace hI := q_Irw ahpσ_19 hI
      rw [feσ_2] at bhpσ_19
      replace hF := q_letX hF dhpσ_19
      have ir_18 : r_18.toInt = (m_A (m_c X σ a) v1.toInt (-1) (m_c X σ a 9).toNat) := (by first | exact bhpσ_19 | (rw [bhpσ_19]) | (simp only [bhpσ_19]))
      refine lv_isub hx hb dX12_heap_50 ?_
      refine lv_topi (fun z_20 ez_20 => ?_)
      replace hF := q_letX hF ez_20
      have iz_20 := q_subI (A := r_15.toInt) (B := (m_A (m_c X σ a) v1.toInt (-1) (m_c X σ a 9).toNat)) ez_20 rfl ir_18 (by first | (clear hh ahpσ_4 bhpσ_4 dhpσ_4 c_5 chpσ_4 ahpσ_10 bhpσ_10 dhpσ_10 c_11 chpσ_10 ahpσ_13 bhpσ_13 chpσ_13 dhpσ_13 ir_12 ggy_14 iy_14 ahpσ_16 dhpσ_16 kc_17 ahpσ_19 dhpσ_19; omega) | omega) (by first | (clear hh ahpσ_4 bhpσ_4 dhpσ_4 c_5 chpσ_4 ahpσ_10 bhpσ_10 dhpσ_10 c_11 chpσ_10 ahpσ_13 bhpσ_13 chpσ_13 dhpσ_13 ir_12 ggy_14 iy_14 ahpσ_16 dhpσ_16 kc_17 ahpσ_19 dhpσ_19; omega) | omega)
      refine lv_i2l hx hb dX12_heap_51 rfl ?_
      refine lv_topl (fun y_21 ey_21 => ?_)
      replace hF := q_letX hF ey_21
      have ggy_21 := q_rng z_20
      have iy_21 : y_21.toInt = z_20.toInt := by rw [ey_21]; exact (q_i2l _).trans rfl
      refine lv_lstore (lv' := [(5, .long y_21), (3, .long y_14), (0, .ref a), (1, .int v1), (2, .int v2)]) hx hb dX12_heap_52 hl (by decide) rfl (fun ls hl => ?_)
      refine lv_aload_n hx hb dX12_heap_54 rfl (lv_at hl 2 rfl) ?_
      refine lv_iload_n hx hb dX12_heap_55 rfl (lv_at hl 3 rfl) ?_
      refine q_ci (q_rV11_1 (rest := []) E (hml.trans hl.1.symm) hI (c_X12_unknownAll l X σ_2 a v1 ha (by rw [feσ_2]; exact hG) (by rw [feσ_2]; exact (by omega))) kv_X12_339 ha ⟨Nat.le_of_ble_eq_true rfl, Nat.le_of_ble_eq_true rfl⟩ (Nat.le_of_ble_eq_true rfl) dX12_heap_56) hI (Nat.le_of_ble_eq_true rfl) (fun r_22 σ_23 H locs hpσ_23 hkσ_23 hI => ?_)
      have ahpσ_23 := hpσ_23.1
      have bhpσ_23 := hpσ_23.2.1
      have chpσ_23 := hpσ_23.2.2.1
      have dhpσ_23 := hpσ_23.2.2.2
      clear hpσ_23
      replace hI := q_Irw ahpσ_23 hI
      rw [feσ_2] at bhpσ_23
      replace hF := q_letX hF dhpσ_23
      have ir_22 : r_22.toInt = (m_V (m_c X σ a) v1.toInt (m_c X σ a 0).toNat) := (by first | exact bhpσ_23 | (rw [bhpσ_23]) | (simp only [bhpσ_23]))
      refine lv_i2l hx hb dX12_heap_59 rfl ?_
      refine lv_topl (fun y_24 ey_24 => ?_)
      replace hF := q_letX hF ey_24
      have ggy_24 := q_rng r_22
      have iy_24 : y_24.toInt = r_22.toInt := by rw [ey_24]; exact (q_i2l _).trans rfl
      refine lv_lstore (lv' := [(7, .long y_24), (5, .long y_21), (3, .long y_14), (0, .ref a), (1, .int v1), (2, .int v2)]) hx hb dX12_heap_60 hl (by decide) rfl (fun ls hl => ?_)
      refine lv_lload hx hb dX12_heap_62 (lv_at hl 0 rfl) ?_
      refine lv_lconst (v := 0) hx hb dX12_heap_64 (by decide) ?_
      have kc_26 : (0 : Int64).toInt = 0 := rfl
      refine q_lcmpX E dX12_heap_65 (fun z_25 ez_25 hz_25 => ?_)
      replace hF := q_letX hF ez_25
      refine q_if_ne (A := z_25.toInt) E rfl (tgt := 76) dX12_heap_66 (by decide) (fun c_27 => ?_) (fun c_27 => ?_)
      · skip
        replace hF := q_ifn hF c_27
        refine lv_aload_n hx hb dX12_heap_76 rfl (lv_at hl 3 rfl) ?_
        refine lv_lload_n hx hb dX12_heap_77 rfl (lv_at hl 2 rfl) ?_
        refine lv_lload hx hb dX12_heap_78 (lv_at hl 0 rfl) ?_
        refine lv_lmul hx hb dX12_heap_80 ?_
        refine lv_topl (fun y_28 ey_28 => ?_)
        replace hF := q_letX hF ey_28
        refine lv_lload hx hb dX12_heap_81 (lv_at hl 1 rfl) ?_
        refine lv_aload_n hx hb dX12_heap_83 rfl (lv_at hl 3 rfl) ?_
        refine lv_iload_n hx hb dX12_heap_84 rfl (lv_at hl 4 rfl) ?_
        refine lv_iload_n hx hb dX12_heap_85 rfl (lv_at hl 5 rfl) ?_
        refine q_ci (q_rV11_2 (rest := [.long y_21, .long y_28, .ref a]) E (hml.trans hl.1.symm) hI (c_X12_unknownOf l X σ_2 a v1 v2 ha (by rw [feσ_2]; exact hG) (by rw [feσ_2]; exact (by omega)) (by first | (clear ahpσ_4 bhpσ_4 dhpσ_4 c_5 chpσ_4 ahpσ_10 bhpσ_10 dhpσ_10 c_11 ahpσ_13 bhpσ_13 chpσ_13 dhpσ_13 ir_12 ggy_14 iy_14 ahpσ_16 bhpσ_16 chpσ_16 dhpσ_16 kc_17 ahpσ_19 bhpσ_19 chpσ_19 dhpσ_19 ir_18 iz_20 ggy_21 iy_21 ahpσ_23 bhpσ_23 chpσ_23 dhpσ_23 ir_22 ggy_24 iy_24 kc_26 hz_25 c_27; omega) | omega)) kv_X12_336 ha ⟨Nat.le_of_ble_eq_true rfl, Nat.le_of_ble_eq_true rfl⟩ (Nat.le_of_ble_eq_true rfl) dX12_heap_86) hI (Nat.le_of_ble_eq_true rfl) (fun r_29 σ_30 H locs hpσ_30 hkσ_30 hI => ?_)
        have ahpσ_30 := hpσ_30.1
        have bhpσ_30 := hpσ_30.2.1
        have chpσ_30 := hpσ_30.2.2.1
        have dhpσ_30 := hpσ_30.2.2.2
        clear hpσ_30
        replace hI := q_Irw ahpσ_30 hI
        rw [feσ_2] at bhpσ_30
        replace hF := q_letX hF dhpσ_30
        have ir_29 : r_29.toInt = (m_U (m_c X σ a) v1.toInt v2.toInt) := (by first | exact bhpσ_30 | (rw [bhpσ_30]) | (simp only [bhpσ_30]))
        refine lv_i2l hx hb dX12_heap_89 rfl ?_
        refine lv_topl (fun y_31 ey_31 => ?_)
        replace hF := q_letX hF ey_31
        have ggy_31 := q_rng r_29
        have iy_31 : y_31.toInt = r_29.toInt := by rw [ey_31]; exact (q_i2l _).trans rfl
        refine lv_lmul hx hb dX12_heap_90 ?_
        refine lv_topl (fun y_32 ey_32 => ?_)
        replace hF := q_letX hF ey_32
        refine lv_ladd hx hb dX12_heap_91 ?_
        refine lv_topl (fun y_33 ey_33 => ?_)
        replace hF := q_letX hF ey_33
        refine lv_lload hx hb dX12_heap_92 (lv_at hl 0 rfl) ?_
        refine q_ci (q_rV11_2 (rest := []) E (hml.trans hl.1.symm) hI (c_X12_fraction l X σ_2 a y_33 y_24 ha (by first | (clear hh ahpσ_4 bhpσ_4 dhpσ_4 c_5 chpσ_4 ahpσ_10 bhpσ_10 dhpσ_10 c_11 chpσ_10 ahpσ_13 bhpσ_13 chpσ_13 dhpσ_13 ir_12 ggy_14 iy_14 ahpσ_16 bhpσ_16 chpσ_16 dhpσ_16 kc_17 ahpσ_19 bhpσ_19 chpσ_19 dhpσ_19 ir_18 iz_20 ggy_21 iy_21 ahpσ_23 bhpσ_23 chpσ_23 dhpσ_23 ir_22 ggy_24 iy_24 ahpσ_30 bhpσ_30 chpσ_30 dhpσ_30 ir_29 ggy_31 iy_31; omega) | omega)) kv_X12_361 ha ⟨Nat.le_of_ble_eq_true rfl, Nat.le_of_ble_eq_true rfl⟩ (Nat.le_of_ble_eq_true rfl) dX12_heap_94) hI (Nat.le_of_ble_eq_true rfl) (fun r_34 σ_35 H locs hpσ_35 hkσ_35 hI => ?_)
        have ahpσ_35 := hpσ_35.1
        have bhpσ_35 := hpσ_35.2.1
        have chpσ_35 := hpσ_35.2.2
        clear hpσ_35
        have fr_σ_35 := fr_σ_2.call chpσ_35 rfl rfl
        replace hF := q_biX hF bhpσ_35
        have mcσ_35 := m_cK hkσ_35 hI.1 ha (by decide)
        have feσ_35 : m_c X σ_35 a = m_c X σ a := (funext mcσ_35).trans feσ_2
        exact q_retz E hr hlk hI ⟨by omega, by omega⟩ ⟨⟨by omega, by omega⟩, (hF.trans hout), fr_σ_35⟩ dX12_heap_97
      · skip
        replace hF := q_ifp hF c_27
        refine lv_aload_n hx hb dX12_heap_69 rfl (lv_at hl 3 rfl) ?_
        refine lv_lload_n hx hb dX12_heap_70 rfl (lv_at hl 2 rfl) ?_
        refine lv_lconst (v := 1) hx hb dX12_heap_71 (by decide) ?_
        have kc_36 : (1 : Int64).toInt = 1 := rfl
        refine q_ci (q_rV11_2 (rest := []) E (hml.trans hl.1.symm) hI (c_X12_fraction l X σ_2 a y_14 (1 : Int64) ha (Or.inr (by decide))) kv_X12_361 ha ⟨Nat.le_of_ble_eq_true rfl, Nat.le_of_ble_eq_true rfl⟩ (Nat.le_of_ble_eq_true rfl) dX12_heap_72) hI (Nat.le_of_ble_eq_true rfl) (fun r_37 σ_38 H locs hpσ_38 hkσ_38 hI => ?_)
        have ahpσ_38 := hpσ_38.1
        have bhpσ_38 := hpσ_38.2.1
        have chpσ_38 := hpσ_38.2.2
        clear hpσ_38
        have fr_σ_38 := fr_σ_2.call chpσ_38 rfl rfl
        replace hF := q_biX hF bhpσ_38
        have mcσ_38 := m_cK hkσ_38 hI.1 ha (by decide)
        have feσ_38 : m_c X σ_38 a = m_c X σ a := (funext mcσ_38).trans feσ_2
        exact q_retz E hr hlk hI ⟨by omega, by omega⟩ ⟨⟨by omega, by omega⟩, (hF.trans hout), fr_σ_38⟩ dX12_heap_75
    · skip
      replace hF := q_ifp hF c_11
      replace chpσ_10 := q_ifNo chpσ_10 c_11
      refine lv_aload_n hx hb dX12_heap_26 rfl (lv_at hl 0 rfl) ?_
      refine lv_iconst (v := 2) hx hb dX12_heap_27 zki_2 ?_
      have kc_39 : (2 : Int32).toInt = 2 := zt_2
      refine q_ci (q_rV11_1 (rest := []) E (hml.trans hl.1.symm) hI (c_X12_no l X σ_2 a (2 : Int32) ha) kv_X12_74 ha ⟨Nat.le_of_ble_eq_true rfl, Nat.le_of_ble_eq_true rfl⟩ (Nat.le_of_ble_eq_true rfl) dX12_heap_28) hI (Nat.le_of_ble_eq_true rfl) (fun r_40 σ_41 H locs hpσ_41 hkσ_41 hI => ?_)
      have ahpσ_41 := hpσ_41.1
      have bhpσ_41 := hpσ_41.2.1
      have chpσ_41 := hpσ_41.2.2.1
      have dhpσ_41 := hpσ_41.2.2.2
      clear hpσ_41
      have fr_σ_41 := fr_σ_2.call dhpσ_41 rfl rfl
      replace hF := q_biX hF chpσ_41
      have mcσ_41 := m_cK hkσ_41 hI.1 ha (by decide)
      have feσ_41 : m_c X σ_41 a = m_c X σ a := (funext mcσ_41).trans feσ_2
      exact q_retz E hr hlk hI ⟨by omega, by omega⟩ ⟨⟨by omega, by omega⟩, (hF.trans hout), fr_σ_41⟩ dX12_heap_31

set_option maxRecDepth 100000 in
set_option maxHeartbeats 4000000 in
theorem c_X12_said (l : Launch) (X : XW) (σ : ST) (a : Nat) (v1 : Int32) (v2 : Int32) (ha : q_kd X a = 12) (hG : m_G (m_c X σ a)) : Met l yX12_said (q_ws yX12_said cX12_said 5 (some .int)) (q_rm 2 46) (q_P X σ [.ref a, .int v1, .int v2]) (q_Qi X 8 σ (fun (r : Int32) (σ' : ST) => (r, σ') = F_X12_said X σ a v1 v2 ∧ q_ow [(12, 0), (12, 1)] [] X σ σ')) 0 0 (q_reg X) := by
  refine q_met 8 (by first | exact rfl | decide +kernel) rfl (Nat.le_of_ble_eq_true rfl) (fun p e s m below meth c E hml hr hlk hI ls hl => ?_)
  have hx := E.1
  have hb := E.2.1
  have hl : lv_has ls 5 [(0, .ref a), (1, .int v1), (2, .int v2)] := hl
  have feσ : m_c X σ a = m_c X σ a := rfl
  have fr_σ : q_ow [(12, 0), (12, 1)] [] X σ σ := q_ow.rf
  have hh := hG.hd
  obtain ⟨out, hout⟩ : ∃ o, o = F_X12_said X σ a v1 v2 := ⟨_, rfl⟩
  have hF := hout.symm
  unfold F_X12_said at hF
  refine lv_aload_n hx hb dX12_said_0 rfl (lv_at hl 0 rfl) ?_
  refine lv_iconst (v := 0) hx hb dX12_said_1 zki_0 ?_
  refine ps_X12_59_12 E hI ha (by decide) dX12_said_2 (fun H locs σ_1 hσ_1 hI => ?_)
  replace hF := q_letX hF hσ_1
  have fr_σ_1 := fr_σ.si hσ_1 ha rfl
  have mcσ_1 := m_wo hσ_1 (m_ne ha (q_tk (f := 20) (k' := 34) hI ha rfl (by decide)) (by decide))
  have feσ_1 : m_c X σ_1 a = m_c X σ a := (funext mcσ_1).trans feσ
  refine lv_aload_n hx hb dX12_said_5 rfl (lv_at hl 0 rfl) ?_
  refine lv_iconst (v := 0) hx hb dX12_said_6 zki_0 ?_
  refine ps_X12_62_12 E hI ha (by decide) dX12_said_7 (fun H locs σ_2 hσ_2 hI => ?_)
  replace hF := q_letX hF hσ_2
  have fr_σ_2 := fr_σ_1.si hσ_2 ha rfl
  have mcσ_2 := m_wo hσ_2 (m_ne ha (q_tk (f := 20) (k' := 34) hI ha rfl (by decide)) (by decide))
  have feσ_2 : m_c X σ_2 a = m_c X σ a := (funext mcσ_2).trans feσ_1
  refine lv_aload_n hx hb dX12_said_10 rfl (lv_at hl 0 rfl) ?_
  refine lv_iload_n hx hb dX12_said_11 rfl (lv_at hl 1 rfl) ?_
  refine q_ci (q_rV11_1 (rest := []) E (hml.trans hl.1.symm) hI (c_X12_isPlayerAt l X σ_2 a v1 ha (by rw [feσ_2]; exact hG)) kv_X12_290 ha ⟨Nat.le_of_ble_eq_true rfl, Nat.le_of_ble_eq_true rfl⟩ (Nat.le_of_ble_eq_true rfl) dX12_said_12) hI (Nat.le_of_ble_eq_true rfl) (fun r_3 σ_4 H locs hpσ_4 hkσ_4 hI => ?_)
  have ahpσ_4 := hpσ_4.1
  have bhpσ_4 := hpσ_4.2.1
  have chpσ_4 := hpσ_4.2.2.1
  have dhpσ_4 := hpσ_4.2.2.2
  clear hpσ_4
  replace hI := q_Irw ahpσ_4 hI
  rw [feσ_2] at chpσ_4
  replace hF := q_letX hF dhpσ_4
  refine q_if_eq (A := r_3.toInt) E rfl (tgt := 26) dX12_said_15 (by decide) (fun c_5 => ?_) (fun c_5 => ?_)
  · skip
    replace hF := q_ifp hF c_5
    replace chpσ_4 := q_ifNo chpσ_4 c_5
    refine lv_aload_n hx hb dX12_said_26 rfl (lv_at hl 0 rfl) ?_
    refine lv_iconst (v := 2) hx hb dX12_said_27 zki_2 ?_
    have kc_6 : (2 : Int32).toInt = 2 := zt_2
    refine q_ci (q_rV11_1 (rest := []) E (hml.trans hl.1.symm) hI (c_X12_refuse l X σ_2 a (2 : Int32) ha) kv_X12_284 ha ⟨Nat.le_of_ble_eq_true rfl, Nat.le_of_ble_eq_true rfl⟩ (Nat.le_of_ble_eq_true rfl) dX12_said_28) hI (Nat.le_of_ble_eq_true rfl) (fun r_7 σ_8 H locs hpσ_8 hkσ_8 hI => ?_)
    have ahpσ_8 := hpσ_8.1
    have bhpσ_8 := hpσ_8.2.1
    have chpσ_8 := hpσ_8.2.2
    clear hpσ_8
    have fr_σ_8 := fr_σ_2.call chpσ_8 rfl rfl
    replace hF := q_biX hF bhpσ_8
    have mcσ_8 := m_cK hkσ_8 hI.1 ha (by decide)
    have feσ_8 : m_c X σ_8 a = m_c X σ a := (funext mcσ_8).trans feσ_2
    exact q_reti E hr hlk hI ⟨(hF.trans hout), fr_σ_8⟩ dX12_said_31
  · skip
    replace hF := q_ifn hF c_5
    replace c_5 := q_ifOne bhpσ_4 c_5
    replace chpσ_4 := q_ifYes chpσ_4 c_5
    refine lv_aload_n hx hb dX12_said_18 rfl (lv_at hl 0 rfl) ?_
    refine lv_iload_n hx hb dX12_said_19 rfl (lv_at hl 2 rfl) ?_
    refine q_ci (q_rV11_1 (rest := []) E (hml.trans hl.1.symm) hI (c_X12_isKindAt l X σ_2 a v2 ha (by rw [feσ_2]; exact hG)) kv_X12_299 ha ⟨Nat.le_of_ble_eq_true rfl, Nat.le_of_ble_eq_true rfl⟩ (Nat.le_of_ble_eq_true rfl) dX12_said_20) hI (Nat.le_of_ble_eq_true rfl) (fun r_9 σ_10 H locs hpσ_10 hkσ_10 hI => ?_)
    have ahpσ_10 := hpσ_10.1
    have bhpσ_10 := hpσ_10.2.1
    have chpσ_10 := hpσ_10.2.2.1
    have dhpσ_10 := hpσ_10.2.2.2
    clear hpσ_10
    replace hI := q_Irw ahpσ_10 hI
    rw [feσ_2] at chpσ_10
    replace hF := q_letX hF dhpσ_10
    refine q_if_ne (A := r_9.toInt) E rfl (tgt := 32) dX12_said_23 (by decide) (fun c_11 => ?_) (fun c_11 => ?_)
    · skip
      replace hF := q_ifn hF c_11
      replace c_11 := q_ifOne bhpσ_10 c_11
      replace chpσ_10 := q_ifYes chpσ_10 c_11
      refine lv_iconst (v := 0) hx hb dX12_said_32 zki_0 ?_
      refine lv_istore_n (lv' := [(3, .int 0), (0, .ref a), (1, .int v1), (2, .int v2)]) hx hb dX12_said_33 rfl hl (by decide) rfl (fun ls hl => ?_)
      refine lv_iconst (v := 0) hx hb dX12_said_34 zki_0 ?_
      refine lv_istore (lv' := [(4, .int 0), (3, .int 0), (0, .ref a), (1, .int v1), (2, .int v2)]) hx hb dX12_said_35 hl (by decide) rfl (fun ls hl => ?_)
      have L_37_14 : ∀ (k_14 : Nat) (x_12 : Int32) (x_13 : Int32) (H : Heap) (locs : List Loc) (ls : Array Slot), (2147483647 - x_13.toInt).toNat < k_14 → (0 ≤ x_13.toInt ∧ 0 ≤ x_12.toInt ∧ x_12.toInt ≤ x_13.toInt) → (F_X12_said_L37_1 X σ_2 a v1 v2 k_14 x_12 x_13 = out) → q_I X 8 σ s.heap locs σ_2 H → lv_has ls 5 [(0, .ref a), (1, .int v1), (2, .int v2), (3, .int x_12), (4, .int x_13)] → W p l e (q_rm 2 46) s m ([.ref a, .int v1, .int v2] : List Value).toArray below meth c H locs 0 0 (MQ below (q_Qi X 8 σ (fun (r : Int32) (σ' : ST) => (r, σ') = F_X12_said X σ a v1 v2 ∧ q_ow [(12, 0), (12, 1)] [] X σ σ')) ([.ref a, .int v1, .int v2] : List Value).toArray s 0 0 (q_reg X)) (F0 m 37 ls []) := by
        clear hF
        intro k_14
        induction k_14 with
        | zero =>
          intro x_12 x_13 H locs ls hms
          exact absurd hms (Nat.not_lt_zero _)
        | succ k_14 ih37 =>
          intro x_12 x_13 H locs ls hm37 hge37 hF hI hl
          replace hF := (F_X12_said_L37_1_s).symm.trans hF
          unfold F_X12_said_B37_1 at hF
          refine lv_iload hx hb dX12_said_37 (lv_at hl 4 rfl) ?_
          refine lv_aload_n hx hb dX12_said_39 rfl (lv_at hl 0 rfl) ?_
          refine gs_X12_35_12 E hI ha dX12_said_40 ?_
          refine lv_bipush (v := 9) hx hb dX12_said_43 zkb_9 ?_
          refine q_iald E hI (q_tk (k' := 34) hI ha rfl (Nat.succ_ne_zero _)) ⟨by decide, rfl⟩ (by decide) (by rw [q_lnk (v := 4650) hI (q_tk (k' := 34) hI ha rfl (Nat.succ_ne_zero _)) rfl (by decide)]; decide) dX12_said_45 ?_
          refine lv_topi (fun f_15 ef_15 => ?_)
          replace hF := q_letX hF ef_15
          have if_15 : f_15.toInt = m_c X σ a 9 := (m_rd ef_15 (by decide)).trans (congrFun feσ_2 _)
          have gc_16_x_13 := q_rng x_13
          have gc_16_f_15 := q_rng f_15
          refine q_icmp_ge (A := x_13.toInt) (B := f_15.toInt) E rfl rfl (tgt := 93) dX12_said_46 (by decide) (fun c_16 => ?_) (fun c_16 => ?_)
          · skip
            replace hF := q_ifn hF (Int.not_lt.mpr c_16)
            skip
            refine lv_iload_n hx hb dX12_said_93 rfl (lv_at hl 3 rfl) ?_
            exact q_reti E hr hlk hI ⟨(hF.trans hout), fr_σ_2⟩ dX12_said_94
          · skip
            replace hF := q_ifp hF c_16
            refine lv_iload_n hx hb dX12_said_49 rfl (lv_at hl 3 rfl) ?_
            refine lv_aload_n hx hb dX12_said_50 rfl (lv_at hl 0 rfl) ?_
            refine gs_X12_35_12 E hI ha dX12_said_51 ?_
            refine lv_iload hx hb dX12_said_54 (lv_at hl 4 rfl) ?_
            refine q_ci (q_runS (As := [.int x_13]) (rest := [.ref (q_rf X a 20), .int x_12]) E (hml.trans hl.1.symm) hI (c_X12_laid l X σ_2 x_13 (by first | (clear ahpσ_4 bhpσ_4 dhpσ_4 c_5 chpσ_4 ahpσ_10 bhpσ_10 dhpσ_10 c_11 chpσ_10 hm37 gc_16_f_15; omega) | omega)) ks_X12_279 rfl ⟨Nat.le_of_ble_eq_true rfl, Nat.le_of_ble_eq_true rfl⟩ ⟨Nat.le_refl _, Nat.le_refl _⟩ rfl (Nat.le_of_ble_eq_true rfl) dX12_said_56) hI (Nat.le_of_ble_eq_true rfl) (fun r_17 σ_18 H locs hpσ_18 hkσ_18 hI => ?_)
            have ahpσ_18 := hpσ_18.1
            have bhpσ_18 := hpσ_18.2.1
            have chpσ_18 := hpσ_18.2.2
            clear hpσ_18
            replace hI := q_Irw ahpσ_18 hI
            replace hF := q_letX hF chpσ_18
            have ir_17 : r_17.toInt = (94 + 7 * x_13.toInt) := (by omega)
            refine q_iald E hI (q_tk (k' := 34) hI ha rfl (Nat.succ_ne_zero _)) ⟨by decide, rfl⟩ (by first | (clear hh ahpσ_4 bhpσ_4 dhpσ_4 c_5 chpσ_4 ahpσ_10 bhpσ_10 dhpσ_10 c_11 chpσ_10 hm37 if_15 gc_16_x_13 gc_16_f_15 c_16 ahpσ_18 chpσ_18 ir_17; omega) | omega) (by rw [q_lnk (v := 4650) hI (q_tk (k' := 34) hI ha rfl (Nat.succ_ne_zero _)) rfl (by decide)]; omega) dX12_said_59 ?_
            refine lv_topi (fun f_19 ef_19 => ?_)
            replace hF := q_letX hF ef_19
            have if_19 : f_19.toInt = m_c X σ a (94 + 7 * x_13.toInt) := (m_rd ef_19 ir_17).trans (congrFun feσ_2 _)
            refine lv_iload_n hx hb dX12_said_60 rfl (lv_at hl 1 rfl) ?_
            have gc_20_f_19 := q_rng f_19
            have gc_20_v1 := q_rng v1
            refine q_icmp_ne (A := f_19.toInt) (B := v1.toInt) E rfl rfl (tgt := 84) dX12_said_61 (by decide) (fun c_20 => ?_) (fun c_20 => ?_)
            · skip
              replace hF := q_ifn hF c_20
              refine lv_iconst (v := 0) hx hb dX12_said_84 zki_0 ?_
              refine lv_iadd hx hb dX12_said_85 ?_
              refine lv_topi (fun z_21 ez_21 => ?_)
              replace hF := q_letX hF ez_21
              have iz_21 := q_addI (A := x_12.toInt) (B := 0) ez_21 rfl (by decide) (by first | (clear hh ahpσ_4 bhpσ_4 dhpσ_4 c_5 chpσ_4 ahpσ_10 bhpσ_10 dhpσ_10 c_11 chpσ_10 hm37 if_15 gc_16_x_13 gc_16_f_15 c_16 ahpσ_18 bhpσ_18 chpσ_18 ir_17 if_19 gc_20_f_19 gc_20_v1 c_20; omega) | omega) (by first | (clear hh ahpσ_4 bhpσ_4 dhpσ_4 c_5 chpσ_4 ahpσ_10 bhpσ_10 dhpσ_10 c_11 chpσ_10 hm37 if_15 gc_16_f_15 c_16 ahpσ_18 bhpσ_18 chpσ_18 ir_17 if_19 gc_20_f_19 gc_20_v1 c_20; omega) | omega)
              refine lv_istore_n (lv' := [(3, .int z_21), (0, .ref a), (1, .int v1), (2, .int v2), (4, .int x_13)]) hx hb dX12_said_86 rfl hl (by decide) rfl (fun ls hl => ?_)
              obtain ⟨z_22, ez_22⟩ : ∃ y : Int32, y = x_13 + 1 := ⟨_, rfl⟩
              replace hF := q_letX hF ez_22
              refine lv_iinc (v := z_22) (lv' := [(4, .int z_22), (3, .int z_21), (0, .ref a), (1, .int v1), (2, .int v2)]) hx hb dX12_said_87 hl (k := 4) rfl (by rw [ez_22]; rfl) (by decide) rfl (fun ls hl => ?_)
              have iz_22 : z_22.toInt = x_13.toInt + 1 := q_inc ez_22 (by first | (clear ahpσ_4 bhpσ_4 dhpσ_4 c_5 chpσ_4 ahpσ_10 bhpσ_10 dhpσ_10 c_11 chpσ_10 hm37 gc_16_f_15 ahpσ_18 bhpσ_18 chpσ_18 ir_17 if_19 gc_20_f_19 gc_20_v1 c_20 iz_21; omega) | omega)
              refine lv_goto (tgt := 37) hx hb dX12_said_90 (by decide) ?_
              exact ih37 z_21 z_22 _ _ ls (by first | (clear ahpσ_4 bhpσ_4 dhpσ_4 c_5 chpσ_4 ahpσ_10 bhpσ_10 dhpσ_10 c_11 chpσ_10 gc_16_f_15 ahpσ_18 bhpσ_18 chpσ_18 ir_17 if_19 gc_20_f_19 gc_20_v1 iz_21; omega) | omega) (by first | (clear hh ahpσ_4 bhpσ_4 dhpσ_4 c_5 chpσ_4 ahpσ_10 bhpσ_10 dhpσ_10 c_11 chpσ_10 hm37 if_15 gc_16_f_15 c_16 ahpσ_18 bhpσ_18 chpσ_18 ir_17 if_19 gc_20_f_19 gc_20_v1 c_20; omega) | omega) hF hI (lv_sub hl [2, 3, 4, 1, 0] rfl)
            · skip
              replace hF := q_ifp hF c_20
              refine lv_aload_n hx hb dX12_said_64 rfl (lv_at hl 0 rfl) ?_
              refine gs_X12_35_12 E hI ha dX12_said_65 ?_
              refine lv_iload hx hb dX12_said_68 (lv_at hl 4 rfl) ?_
              refine q_ci (q_runS (As := [.int x_13]) (rest := [.ref (q_rf X a 20), .int x_12]) E (hml.trans hl.1.symm) hI (c_X12_laid l X σ_2 x_13 (by first | (clear ahpσ_4 bhpσ_4 dhpσ_4 c_5 chpσ_4 ahpσ_10 bhpσ_10 dhpσ_10 c_11 chpσ_10 hm37 gc_16_f_15 ahpσ_18 bhpσ_18 chpσ_18 ir_17 if_19 gc_20_f_19 gc_20_v1 c_20; omega) | omega)) ks_X12_279 rfl ⟨Nat.le_of_ble_eq_true rfl, Nat.le_of_ble_eq_true rfl⟩ ⟨Nat.le_refl _, Nat.le_refl _⟩ rfl (Nat.le_of_ble_eq_true rfl) dX12_said_70) hI (Nat.le_of_ble_eq_true rfl) (fun r_23 σ_24 H locs hpσ_24 hkσ_24 hI => ?_)
              have ahpσ_24 := hpσ_24.1
              have bhpσ_24 := hpσ_24.2.1
              have chpσ_24 := hpσ_24.2.2
              clear hpσ_24
              replace hI := q_Irw ahpσ_24 hI
              replace hF := q_letX hF chpσ_24
              have ir_23 : r_23.toInt = (94 + 7 * x_13.toInt) := (by omega)
              refine lv_iconst (v := 1) hx hb dX12_said_73 zki_1 ?_
              refine lv_iadd hx hb dX12_said_74 ?_
              refine lv_topi (fun z_25 ez_25 => ?_)
              replace hF := q_letX hF ez_25
              have iz_25 := q_addI (A := (94 + 7 * x_13.toInt)) (B := 1) ez_25 ir_23 (by decide) (by first | (clear hh ahpσ_4 bhpσ_4 dhpσ_4 c_5 chpσ_4 ahpσ_10 bhpσ_10 dhpσ_10 c_11 chpσ_10 hm37 if_15 gc_16_f_15 c_16 ahpσ_18 bhpσ_18 chpσ_18 ir_17 if_19 gc_20_f_19 gc_20_v1 c_20 ahpσ_24 bhpσ_24 chpσ_24 ir_23; omega) | omega) (by first | (clear ahpσ_4 bhpσ_4 dhpσ_4 c_5 chpσ_4 ahpσ_10 bhpσ_10 dhpσ_10 c_11 chpσ_10 hm37 gc_16_f_15 ahpσ_18 bhpσ_18 chpσ_18 ir_17 if_19 gc_20_f_19 gc_20_v1 c_20 ahpσ_24 bhpσ_24 chpσ_24 ir_23; omega) | omega)
              refine q_iald E hI (q_tk (k' := 34) hI ha rfl (Nat.succ_ne_zero _)) ⟨by decide, rfl⟩ (by first | (clear hh ahpσ_4 bhpσ_4 dhpσ_4 c_5 chpσ_4 ahpσ_10 bhpσ_10 dhpσ_10 c_11 chpσ_10 hm37 if_15 gc_16_x_13 gc_16_f_15 c_16 ahpσ_18 bhpσ_18 chpσ_18 ir_17 if_19 gc_20_f_19 gc_20_v1 c_20 ahpσ_24 bhpσ_24 chpσ_24 ir_23; omega) | omega) (by rw [q_lnk (v := 4650) hI (q_tk (k' := 34) hI ha rfl (Nat.succ_ne_zero _)) rfl (by decide)]; omega) dX12_said_75 ?_
              refine lv_topi (fun f_26 ef_26 => ?_)
              replace hF := q_letX hF ef_26
              have if_26 : f_26.toInt = m_c X σ a ((94 + 7 * x_13.toInt) + 1) := (m_rd ef_26 iz_25).trans (congrFun feσ_2 _)
              refine lv_iload_n hx hb dX12_said_76 rfl (lv_at hl 2 rfl) ?_
              have gc_27_f_26 := q_rng f_26
              have gc_27_v2 := q_rng v2
              refine q_icmp_ne (A := f_26.toInt) (B := v2.toInt) E rfl rfl (tgt := 84) dX12_said_77 (by decide) (fun c_27 => ?_) (fun c_27 => ?_)
              · skip
                replace hF := q_ifn hF c_27
                refine lv_iconst (v := 0) hx hb dX12_said_84 zki_0 ?_
                refine lv_iadd hx hb dX12_said_85 ?_
                refine lv_topi (fun z_28 ez_28 => ?_)
                replace hF := q_letX hF ez_28
                have iz_28 := q_addI (A := x_12.toInt) (B := 0) ez_28 rfl (by decide) (by first | (clear hh ahpσ_4 bhpσ_4 dhpσ_4 c_5 chpσ_4 ahpσ_10 bhpσ_10 dhpσ_10 c_11 chpσ_10 hm37 if_15 gc_16_x_13 gc_16_f_15 c_16 ahpσ_18 bhpσ_18 chpσ_18 ir_17 if_19 gc_20_f_19 gc_20_v1 c_20 ahpσ_24 bhpσ_24 chpσ_24 ir_23 iz_25 if_26 gc_27_f_26 gc_27_v2 c_27; omega) | omega) (by first | (clear hh ahpσ_4 bhpσ_4 dhpσ_4 c_5 chpσ_4 ahpσ_10 bhpσ_10 dhpσ_10 c_11 chpσ_10 hm37 if_15 gc_16_f_15 c_16 ahpσ_18 bhpσ_18 chpσ_18 ir_17 if_19 gc_20_f_19 gc_20_v1 c_20 ahpσ_24 bhpσ_24 chpσ_24 ir_23 iz_25 if_26 gc_27_f_26 gc_27_v2 c_27; omega) | omega)
                refine lv_istore_n (lv' := [(3, .int z_28), (0, .ref a), (1, .int v1), (2, .int v2), (4, .int x_13)]) hx hb dX12_said_86 rfl hl (by decide) rfl (fun ls hl => ?_)
                obtain ⟨z_29, ez_29⟩ : ∃ y : Int32, y = x_13 + 1 := ⟨_, rfl⟩
                replace hF := q_letX hF ez_29
                refine lv_iinc (v := z_29) (lv' := [(4, .int z_29), (3, .int z_28), (0, .ref a), (1, .int v1), (2, .int v2)]) hx hb dX12_said_87 hl (k := 4) rfl (by rw [ez_29]; rfl) (by decide) rfl (fun ls hl => ?_)
                have iz_29 : z_29.toInt = x_13.toInt + 1 := q_inc ez_29 (by first | (clear ahpσ_4 bhpσ_4 dhpσ_4 c_5 chpσ_4 ahpσ_10 bhpσ_10 dhpσ_10 c_11 chpσ_10 hm37 gc_16_f_15 ahpσ_18 bhpσ_18 chpσ_18 ir_17 if_19 gc_20_f_19 gc_20_v1 c_20 ahpσ_24 bhpσ_24 chpσ_24 ir_23 iz_25 if_26 gc_27_f_26 gc_27_v2 c_27 iz_28; omega) | omega)
                refine lv_goto (tgt := 37) hx hb dX12_said_90 (by decide) ?_
                exact ih37 z_28 z_29 _ _ ls (by first | (clear ahpσ_4 bhpσ_4 dhpσ_4 c_5 chpσ_4 ahpσ_10 bhpσ_10 dhpσ_10 c_11 chpσ_10 gc_16_f_15 ahpσ_18 bhpσ_18 chpσ_18 ir_17 if_19 gc_20_f_19 gc_20_v1 c_20 ahpσ_24 bhpσ_24 chpσ_24 ir_23 iz_25 if_26 gc_27_f_26 gc_27_v2 iz_28; omega) | omega) (by first | (clear hh ahpσ_4 bhpσ_4 dhpσ_4 c_5 chpσ_4 ahpσ_10 bhpσ_10 dhpσ_10 c_11 chpσ_10 hm37 if_15 gc_16_f_15 c_16 ahpσ_18 bhpσ_18 chpσ_18 ir_17 if_19 gc_20_f_19 gc_20_v1 c_20 ahpσ_24 bhpσ_24 chpσ_24 ir_23 iz_25 if_26 gc_27_f_26 gc_27_v2 c_27; omega) | omega) hF hI (lv_sub hl [2, 3, 4, 1, 0] rfl)
              · skip
                replace hF := q_ifp hF c_27
                refine lv_iconst (v := 1) hx hb dX12_said_80 zki_1 ?_
                refine lv_goto (tgt := 85) hx hb dX12_said_81 (by decide) ?_
                refine lv_iadd hx hb dX12_said_85 ?_
                refine lv_topi (fun z_30 ez_30 => ?_)
                replace hF := q_letX hF ez_30
                have iz_30 := q_addI (A := x_12.toInt) (B := 1) ez_30 rfl (by decide) (by first | (clear hh ahpσ_4 bhpσ_4 dhpσ_4 c_5 chpσ_4 ahpσ_10 bhpσ_10 dhpσ_10 c_11 chpσ_10 hm37 if_15 gc_16_x_13 gc_16_f_15 c_16 ahpσ_18 bhpσ_18 chpσ_18 ir_17 if_19 gc_20_f_19 gc_20_v1 c_20 ahpσ_24 bhpσ_24 chpσ_24 ir_23 iz_25 if_26 gc_27_f_26 gc_27_v2 c_27; omega) | omega) (by first | (clear ahpσ_4 bhpσ_4 dhpσ_4 c_5 chpσ_4 ahpσ_10 bhpσ_10 dhpσ_10 c_11 chpσ_10 hm37 gc_16_x_13 gc_16_f_15 ahpσ_18 bhpσ_18 chpσ_18 ir_17 if_19 gc_20_f_19 gc_20_v1 c_20 ahpσ_24 bhpσ_24 chpσ_24 ir_23 iz_25 if_26 gc_27_f_26 gc_27_v2 c_27; omega) | omega)
                refine lv_istore_n (lv' := [(3, .int z_30), (0, .ref a), (1, .int v1), (2, .int v2), (4, .int x_13)]) hx hb dX12_said_86 rfl hl (by decide) rfl (fun ls hl => ?_)
                obtain ⟨z_31, ez_31⟩ : ∃ y : Int32, y = x_13 + 1 := ⟨_, rfl⟩
                replace hF := q_letX hF ez_31
                refine lv_iinc (v := z_31) (lv' := [(4, .int z_31), (3, .int z_30), (0, .ref a), (1, .int v1), (2, .int v2)]) hx hb dX12_said_87 hl (k := 4) rfl (by rw [ez_31]; rfl) (by decide) rfl (fun ls hl => ?_)
                have iz_31 : z_31.toInt = x_13.toInt + 1 := q_inc ez_31 (by first | (clear ahpσ_4 bhpσ_4 dhpσ_4 c_5 chpσ_4 ahpσ_10 bhpσ_10 dhpσ_10 c_11 chpσ_10 hm37 gc_16_f_15 ahpσ_18 bhpσ_18 chpσ_18 ir_17 if_19 gc_20_f_19 gc_20_v1 c_20 ahpσ_24 bhpσ_24 chpσ_24 ir_23 iz_25 if_26 gc_27_f_26 gc_27_v2 c_27 iz_30; omega) | omega)
                refine lv_goto (tgt := 37) hx hb dX12_said_90 (by decide) ?_
                exact ih37 z_30 z_31 _ _ ls (by first | (clear ahpσ_4 bhpσ_4 dhpσ_4 c_5 chpσ_4 ahpσ_10 bhpσ_10 dhpσ_10 c_11 chpσ_10 gc_16_f_15 ahpσ_18 bhpσ_18 chpσ_18 ir_17 if_19 gc_20_f_19 gc_20_v1 c_20 ahpσ_24 bhpσ_24 chpσ_24 ir_23 iz_25 if_26 gc_27_f_26 gc_27_v2 c_27 iz_30; omega) | omega) (by first | (clear hh ahpσ_4 bhpσ_4 dhpσ_4 c_5 chpσ_4 ahpσ_10 bhpσ_10 dhpσ_10 c_11 chpσ_10 hm37 if_15 gc_16_f_15 c_16 ahpσ_18 bhpσ_18 chpσ_18 ir_17 if_19 gc_20_f_19 gc_20_v1 c_20 ahpσ_24 bhpσ_24 chpσ_24 ir_23 iz_25 if_26 gc_27_f_26 gc_27_v2 c_27; omega) | omega) hF hI (lv_sub hl [2, 3, 4, 1, 0] rfl)
      have kc_32 : (0 : Int32).toInt = 0 := zt_0
      exact L_37_14 ((2147483647 - (0 : Int32).toInt).toNat + 1) 0 0 _ _ ls (Nat.lt_succ_self _) (by decide) hF hI (lv_sub hl [2, 3, 4, 1, 0] rfl)
    · skip
      replace hF := q_ifp hF c_11
      replace chpσ_10 := q_ifNo chpσ_10 c_11
      refine lv_aload_n hx hb dX12_said_26 rfl (lv_at hl 0 rfl) ?_
      refine lv_iconst (v := 2) hx hb dX12_said_27 zki_2 ?_
      have kc_33 : (2 : Int32).toInt = 2 := zt_2
      refine q_ci (q_rV11_1 (rest := []) E (hml.trans hl.1.symm) hI (c_X12_refuse l X σ_2 a (2 : Int32) ha) kv_X12_284 ha ⟨Nat.le_of_ble_eq_true rfl, Nat.le_of_ble_eq_true rfl⟩ (Nat.le_of_ble_eq_true rfl) dX12_said_28) hI (Nat.le_of_ble_eq_true rfl) (fun r_34 σ_35 H locs hpσ_35 hkσ_35 hI => ?_)
      have ahpσ_35 := hpσ_35.1
      have bhpσ_35 := hpσ_35.2.1
      have chpσ_35 := hpσ_35.2.2
      clear hpσ_35
      have fr_σ_35 := fr_σ_2.call chpσ_35 rfl rfl
      replace hF := q_biX hF bhpσ_35
      have mcσ_35 := m_cK hkσ_35 hI.1 ha (by decide)
      have feσ_35 : m_c X σ_35 a = m_c X σ a := (funext mcσ_35).trans feσ_2
      exact q_reti E hr hlk hI ⟨(hF.trans hout), fr_σ_35⟩ dX12_said_31
end
/-! FROM 43.falls.a.lean.txt -/
section
section QS
variable {p : Program} {l : Launch} {e : Env} {R : Room} {s : State} {m : MethodId} {args : Array Value} {below : List Frame} {meth : Method} {c : Code} {H : Heap} {locs : List Loc} {cells slots : Nat} {Q : State → Prop} {cc : ByteArray} {X : XW} {n : Nat} {σ0 σ : ST} {H0 : Heap} {pc : Nat} {ls : Array Slot} {rest : List Value} {a : Nat}
theorem kv_X12_372 : q_okV RX12 372 RX12 yX12_fallsTo cX12_fallsTo 5 (some .int) 2 := ⟨(q_in_t9 (i := 71) (by first | rfl | decide +kernel) rfl), (q_in_t9 (i := 73) (by first | rfl | decide +kernel) rfl), (q_in_p (i := 102) (by decide +kernel) rfl), (q_in_t1 (i := 14) (by first | rfl | decide +kernel) rfl), (q_in_t9 (i := 74) (by first | rfl | decide +kernel) rfl), ⟨rfl, by decide, by decide, rfl⟩⟩
theorem ps_X12_375_12 (E : q_E p c cc s m args RX12 X) (hI : q_I X n σ0 H0 locs σ H) (ha : q_kd X a = 12) {v : Int32} (hcl : n < 9) (hdg : decode cc pc = .ok (.putfield 375, 3)) (kk : ∀ (H1 : Heap) (locs1 : List Loc) (σ1 : ST), σ1 = q_si σ a 33 v → q_I X n σ0 H0 locs1 σ1 H1 → W p l e R s m args below meth c H1 locs1 cells slots Q (F0 m (pc + 3) ls rest)) : W p l e R s m args below meth c H locs cells slots Q (F0 m pc ls (.int v :: .ref a :: rest)) :=
  q_puti (ref := "CheatHeapModel") E hI ha ⟨rfl, by decide⟩ (show vwCl[11]? = some (RX12, TX12, 46) from rfl) q_inX12 tyX12_ok nmX12 (f := 33) (by decide) (q_in_t7 (i := 18) (by first | rfl | decide +kernel) rfl) (Or.inl rfl) rfl rfl hcl hdg (q_inU rfl) (Or.inl rfl) (fun H1 l1 h => kk H1 l1 _ rfl h)
theorem ps_X12_378_12 (E : q_E p c cc s m args RX12 X) (hI : q_I X n σ0 H0 locs σ H) (ha : q_kd X a = 12) {v : Int32} (hcl : n < 9) (hdg : decode cc pc = .ok (.putfield 378, 3)) (kk : ∀ (H1 : Heap) (locs1 : List Loc) (σ1 : ST), σ1 = q_si σ a 34 v → q_I X n σ0 H0 locs1 σ1 H1 → W p l e R s m args below meth c H1 locs1 cells slots Q (F0 m (pc + 3) ls rest)) : W p l e R s m args below meth c H locs cells slots Q (F0 m pc ls (.int v :: .ref a :: rest)) :=
  q_puti (ref := "CheatHeapModel") E hI ha ⟨rfl, by decide⟩ (show vwCl[11]? = some (RX12, TX12, 46) from rfl) q_inX12 tyX12_ok nmX12 (f := 34) (by decide) (q_in_t7 (i := 19) (by first | rfl | decide +kernel) rfl) (Or.inl rfl) rfl rfl hcl hdg (q_inU rfl) (Or.inl rfl) (fun H1 l1 h => kk H1 l1 _ rfl h)
theorem ps_X12_381_12 (E : q_E p c cc s m args RX12 X) (hI : q_I X n σ0 H0 locs σ H) (ha : q_kd X a = 12) {v : Int32} (hcl : n < 9) (hdg : decode cc pc = .ok (.putfield 381, 3)) (kk : ∀ (H1 : Heap) (locs1 : List Loc) (σ1 : ST), σ1 = q_si σ a 35 v → q_I X n σ0 H0 locs1 σ1 H1 → W p l e R s m args below meth c H1 locs1 cells slots Q (F0 m (pc + 3) ls rest)) : W p l e R s m args below meth c H locs cells slots Q (F0 m pc ls (.int v :: .ref a :: rest)) :=
  q_puti (ref := "CheatHeapModel") E hI ha ⟨rfl, by decide⟩ (show vwCl[11]? = some (RX12, TX12, 46) from rfl) q_inX12 tyX12_ok nmX12 (f := 35) (by decide) (q_in_t7 (i := 20) (by first | rfl | decide +kernel) rfl) (Or.inl rfl) rfl rfl hcl hdg (q_inU rfl) (Or.inl rfl) (fun H1 l1 h => kk H1 l1 _ rfl h)
theorem gs_X12_53_12 (E : q_E p c cc s m args RX12 X) (hI : q_I X n σ0 H0 locs σ H) (ha : q_kd X a = 12) (hdg : decode cc pc = .ok (.getfield 53, 3)) (kk : W p l e R s m args below meth c H locs cells slots Q (F0 m (pc + 3) ls (.ref (q_rf X a 32) :: rest))) : W p l e R s m args below meth c H locs cells slots Q (F0 m pc ls (.ref a :: rest)) :=
  q_getf (ref := "CheatHeapModel") E hI ha ⟨rfl, by decide⟩ (show vwCl[11]? = some (RX12, TX12, 46) from rfl) q_inX12 (f := 32) (by decide) (q_in_t7 (i := 17) (by first | rfl | decide +kernel) rfl) (Or.inl rfl) rfl hdg kk
theorem ks_X12_384 : q_okS RX12 384 yJ9_min_7cf53 cJ9_min_7cf53 2 (some .int) 2 := ⟨(q_in_t9 (i := 83) (by first | rfl | decide +kernel) rfl), (q_in_t3 (i := 43) (by first | rfl | decide +kernel) rfl), (q_in_t1 (i := 5) (by first | rfl | decide +kernel) rfl), (q_in_t3 (i := 44) (by first | rfl | decide +kernel) rfl), ⟨by decide, by decide, rfl⟩⟩
theorem gs_X12_375_12 (E : q_E p c cc s m args RX12 X) (hI : q_I X n σ0 H0 locs σ H) (ha : q_kd X a = 12) (hdg : decode cc pc = .ok (.getfield 375, 3)) (kk : W p l e R s m args below meth c H locs cells slots Q (F0 m (pc + 3) ls (.int (σ.1 a 33) :: rest))) : W p l e R s m args below meth c H locs cells slots Q (F0 m pc ls (.ref a :: rest)) :=
  q_getf (ref := "CheatHeapModel") E hI ha ⟨rfl, by decide⟩ (show vwCl[11]? = some (RX12, TX12, 46) from rfl) q_inX12 (f := 33) (by decide) (q_in_t7 (i := 18) (by first | rfl | decide +kernel) rfl) (Or.inl rfl) rfl hdg kk
theorem gs_X12_378_12 (E : q_E p c cc s m args RX12 X) (hI : q_I X n σ0 H0 locs σ H) (ha : q_kd X a = 12) (hdg : decode cc pc = .ok (.getfield 378, 3)) (kk : W p l e R s m args below meth c H locs cells slots Q (F0 m (pc + 3) ls (.int (σ.1 a 34) :: rest))) : W p l e R s m args below meth c H locs cells slots Q (F0 m pc ls (.ref a :: rest)) :=
  q_getf (ref := "CheatHeapModel") E hI ha ⟨rfl, by decide⟩ (show vwCl[11]? = some (RX12, TX12, 46) from rfl) q_inX12 (f := 34) (by decide) (q_in_t7 (i := 19) (by first | rfl | decide +kernel) rfl) (Or.inl rfl) rfl hdg kk
theorem gs_X12_381_12 (E : q_E p c cc s m args RX12 X) (hI : q_I X n σ0 H0 locs σ H) (ha : q_kd X a = 12) (hdg : decode cc pc = .ok (.getfield 381, 3)) (kk : W p l e R s m args below meth c H locs cells slots Q (F0 m (pc + 3) ls (.int (σ.1 a 35) :: rest))) : W p l e R s m args below meth c H locs cells slots Q (F0 m pc ls (.ref a :: rest)) :=
  q_getf (ref := "CheatHeapModel") E hI ha ⟨rfl, by decide⟩ (show vwCl[11]? = some (RX12, TX12, 46) from rfl) q_inX12 (f := 35) (by decide) (q_in_t7 (i := 20) (by first | rfl | decide +kernel) rfl) (Or.inl rfl) rfl hdg kk
theorem kv_X12_387 : q_okV RX12 387 RX12 yX12_honestFor cX12_honestFor 7 (some .int) 2 := ⟨(q_in_t9 (i := 79) (by first | rfl | decide +kernel) rfl), (q_in_t9 (i := 81) (by first | rfl | decide +kernel) rfl), (q_in_p (i := 103) (by decide +kernel) rfl), (q_in_t1 (i := 14) (by first | rfl | decide +kernel) rfl), (q_in_t9 (i := 82) (by first | rfl | decide +kernel) rfl), ⟨rfl, by decide, by decide, rfl⟩⟩
theorem kv_X12_390 : q_okV RX12 390 RX12 yX12_ridOf cX12_ridOf 3 (some .int) 1 := ⟨(q_in_t9 (i := 88) (by first | rfl | decide +kernel) rfl), (q_in_t9 (i := 90) (by first | rfl | decide +kernel) rfl), (q_in_p (i := 104) (by decide +kernel) rfl), (q_in_t1 (i := 14) (by first | rfl | decide +kernel) rfl), (q_in_t9 (i := 91) (by first | rfl | decide +kernel) rfl), ⟨rfl, by decide, by decide, rfl⟩⟩
theorem gs_X12_446_12 (E : q_E p c cc s m args RX12 X) (hI : q_I X n σ0 H0 locs σ H) (ha : q_kd X a = 12) (hdg : decode cc pc = .ok (.getfield 446, 3)) (kk : W p l e R s m args below meth c H locs cells slots Q (F0 m (pc + 3) ls (.int (σ.1 a 37) :: rest))) : W p l e R s m args below meth c H locs cells slots Q (F0 m pc ls (.ref a :: rest)) :=
  q_getf (ref := "CheatHeapModel") E hI ha ⟨rfl, by decide⟩ (show vwCl[11]? = some (RX12, TX12, 46) from rfl) q_inX12 (f := 37) (by decide) (q_in_t7 (i := 22) (by first | rfl | decide +kernel) rfl) (Or.inl rfl) rfl hdg kk
theorem gs_X12_56_12 (E : q_E p c cc s m args RX12 X) (hI : q_I X n σ0 H0 locs σ H) (ha : q_kd X a = 12) (hdg : decode cc pc = .ok (.getfield 56, 3)) (kk : W p l e R s m args below meth c H locs cells slots Q (F0 m (pc + 3) ls (.ref (q_rf X a 36) :: rest))) : W p l e R s m args below meth c H locs cells slots Q (F0 m pc ls (.ref a :: rest)) :=
  q_getf (ref := "CheatHeapModel") E hI ha ⟨rfl, by decide⟩ (show vwCl[11]? = some (RX12, TX12, 46) from rfl) q_inX12 (f := 36) (by decide) (q_in_t7 (i := 21) (by first | rfl | decide +kernel) rfl) (Or.inl rfl) rfl hdg kk
theorem gs_X12_395_12 (E : q_E p c cc s m args RX12 X) (hI : q_I X n σ0 H0 locs σ H) (ha : q_kd X a = 12) (hdg : decode cc pc = .ok (.getfield 395, 3)) (kk : W p l e R s m args below meth c H locs cells slots Q (F0 m (pc + 3) ls (.int (σ.1 a 39) :: rest))) : W p l e R s m args below meth c H locs cells slots Q (F0 m pc ls (.ref a :: rest)) :=
  q_getf (ref := "CheatHeapModel") E hI ha ⟨rfl, by decide⟩ (show vwCl[11]? = some (RX12, TX12, 46) from rfl) q_inX12 (f := 39) (by decide) (q_in_t7 (i := 24) (by first | rfl | decide +kernel) rfl) (Or.inl rfl) rfl hdg kk
theorem ps_X12_395_12 (E : q_E p c cc s m args RX12 X) (hI : q_I X n σ0 H0 locs σ H) (ha : q_kd X a = 12) {v : Int32} (hcl : n < 9) (hdg : decode cc pc = .ok (.putfield 395, 3)) (kk : ∀ (H1 : Heap) (locs1 : List Loc) (σ1 : ST), σ1 = q_si σ a 39 v → q_I X n σ0 H0 locs1 σ1 H1 → W p l e R s m args below meth c H1 locs1 cells slots Q (F0 m (pc + 3) ls rest)) : W p l e R s m args below meth c H locs cells slots Q (F0 m pc ls (.int v :: .ref a :: rest)) :=
  q_puti (ref := "CheatHeapModel") E hI ha ⟨rfl, by decide⟩ (show vwCl[11]? = some (RX12, TX12, 46) from rfl) q_inX12 tyX12_ok nmX12 (f := 39) (by decide) (q_in_t7 (i := 24) (by first | rfl | decide +kernel) rfl) (Or.inl rfl) rfl rfl hcl hdg (q_inU rfl) (Or.inl rfl) (fun H1 l1 h => kk H1 l1 _ rfl h)
end QS
end
/-! FROM 43.falls.b00.lean.txt -/
section
set_option maxRecDepth 100000 in
set_option maxHeartbeats 4000000 in
theorem c_X12_waits (l : Launch) (X : XW) (σ : ST) (a : Nat) (v1 : Int32) (ha : q_kd X a = 12) (hG : m_G (m_c X σ a)) : Met l yX12_waits (q_ws yX12_waits cX12_waits 2 (some .int)) (q_rm 2 46) (q_P X σ [.ref a, .int v1]) (q_Qi X 8 σ (fun (r : Int32) (σ' : ST) => (r, σ') = F_X12_waits X σ a v1 ∧ q_ow [(12, 0), (12, 1)] [] X σ σ')) 0 0 (q_reg X) := by
  refine q_met 8 (by first | exact rfl | decide +kernel) rfl (Nat.le_of_ble_eq_true rfl) (fun p e s m below meth c E hml hr hlk hI ls hl => ?_)
  have hx := E.1
  have hb := E.2.1
  have hl : lv_has ls 2 [(0, .ref a), (1, .int v1)] := hl
  have feσ : m_c X σ a = m_c X σ a := rfl
  have fr_σ : q_ow [(12, 0), (12, 1)] [] X σ σ := q_ow.rf
  have hh := hG.hd
  obtain ⟨out, hout⟩ : ∃ o, o = F_X12_waits X σ a v1 := ⟨_, rfl⟩
  have hF := hout.symm
  unfold F_X12_waits at hF
  refine lv_aload_n hx hb dX12_waits_0 rfl (lv_at hl 0 rfl) ?_
  refine lv_iconst (v := 0) hx hb dX12_waits_1 zki_0 ?_
  refine ps_X12_59_12 E hI ha (by decide) dX12_waits_2 (fun H locs σ_1 hσ_1 hI => ?_)
  replace hF := q_letX hF hσ_1
  have fr_σ_1 := fr_σ.si hσ_1 ha rfl
  have mcσ_1 := m_wo hσ_1 (m_ne ha (q_tk (f := 20) (k' := 34) hI ha rfl (by decide)) (by decide))
  have feσ_1 : m_c X σ_1 a = m_c X σ a := (funext mcσ_1).trans feσ
  refine lv_aload_n hx hb dX12_waits_5 rfl (lv_at hl 0 rfl) ?_
  refine lv_iconst (v := 0) hx hb dX12_waits_6 zki_0 ?_
  refine ps_X12_62_12 E hI ha (by decide) dX12_waits_7 (fun H locs σ_2 hσ_2 hI => ?_)
  replace hF := q_letX hF hσ_2
  have fr_σ_2 := fr_σ_1.si hσ_2 ha rfl
  have mcσ_2 := m_wo hσ_2 (m_ne ha (q_tk (f := 20) (k' := 34) hI ha rfl (by decide)) (by decide))
  have feσ_2 : m_c X σ_2 a = m_c X σ a := (funext mcσ_2).trans feσ_1
  refine lv_aload_n hx hb dX12_waits_10 rfl (lv_at hl 0 rfl) ?_
  refine lv_iload_n hx hb dX12_waits_11 rfl (lv_at hl 1 rfl) ?_
  refine q_ci (q_rV11_1 (rest := []) E (hml.trans hl.1.symm) hI (c_X12_isPlayerAt l X σ_2 a v1 ha (by rw [feσ_2]; exact hG)) kv_X12_290 ha ⟨Nat.le_of_ble_eq_true rfl, Nat.le_of_ble_eq_true rfl⟩ (Nat.le_of_ble_eq_true rfl) dX12_waits_12) hI (Nat.le_of_ble_eq_true rfl) (fun r_3 σ_4 H locs hpσ_4 hkσ_4 hI => ?_)
  have ahpσ_4 := hpσ_4.1
  have bhpσ_4 := hpσ_4.2.1
  have chpσ_4 := hpσ_4.2.2.1
  have dhpσ_4 := hpσ_4.2.2.2
  clear hpσ_4
  replace hI := q_Irw ahpσ_4 hI
  rw [feσ_2] at chpσ_4
  replace hF := q_letX hF dhpσ_4
  refine q_if_eq (A := r_3.toInt) E rfl (tgt := 26) dX12_waits_15 (by decide) (fun c_5 => ?_) (fun c_5 => ?_)
  · skip
    replace hF := q_ifp hF c_5
    replace chpσ_4 := q_ifNo chpσ_4 c_5
    refine lv_aload_n hx hb dX12_waits_26 rfl (lv_at hl 0 rfl) ?_
    refine lv_iconst (v := 2) hx hb dX12_waits_27 zki_2 ?_
    have kc_6 : (2 : Int32).toInt = 2 := zt_2
    refine q_ci (q_rV11_1 (rest := []) E (hml.trans hl.1.symm) hI (c_X12_refuse l X σ_2 a (2 : Int32) ha) kv_X12_284 ha ⟨Nat.le_of_ble_eq_true rfl, Nat.le_of_ble_eq_true rfl⟩ (Nat.le_of_ble_eq_true rfl) dX12_waits_28) hI (Nat.le_of_ble_eq_true rfl) (fun r_7 σ_8 H locs hpσ_8 hkσ_8 hI => ?_)
    have ahpσ_8 := hpσ_8.1
    have bhpσ_8 := hpσ_8.2.1
    have chpσ_8 := hpσ_8.2.2
    clear hpσ_8
    have fr_σ_8 := fr_σ_2.call chpσ_8 rfl rfl
    replace hF := q_biX hF bhpσ_8
    have mcσ_8 := m_cK hkσ_8 hI.1 ha (by decide)
    have feσ_8 : m_c X σ_8 a = m_c X σ a := (funext mcσ_8).trans feσ_2
    exact q_reti E hr hlk hI ⟨(hF.trans hout), fr_σ_8⟩ dX12_waits_31
  · skip
    replace hF := q_ifn hF c_5
    replace c_5 := q_ifOne bhpσ_4 c_5
    replace chpσ_4 := q_ifYes chpσ_4 c_5
    refine lv_aload_n hx hb dX12_waits_18 rfl (lv_at hl 0 rfl) ?_
    refine lv_iload_n hx hb dX12_waits_19 rfl (lv_at hl 1 rfl) ?_
    refine q_ci (q_rV11_1 (rest := []) E (hml.trans hl.1.symm) hI (c_X12_waitsOf l X σ_2 a v1 ha (by rw [feσ_2]; exact hG) (by rw [feσ_2]; exact (by omega))) kv_X12_367 ha ⟨Nat.le_of_ble_eq_true rfl, Nat.le_of_ble_eq_true rfl⟩ (Nat.le_of_ble_eq_true rfl) dX12_waits_20) hI (Nat.le_of_ble_eq_true rfl) (fun r_9 σ_10 H locs hpσ_10 hkσ_10 hI => ?_)
    have ahpσ_10 := hpσ_10.1
    have bhpσ_10 := hpσ_10.2.1
    have chpσ_10 := hpσ_10.2.2
    clear hpσ_10
    replace hI := q_Irw ahpσ_10 hI
    rw [feσ_2] at bhpσ_10
    replace hF := q_letX hF chpσ_10
    refine lv_goto (tgt := 31) hx hb dX12_waits_23 (by decide) ?_
    exact q_reti E hr hlk hI ⟨(hF.trans hout), fr_σ_2⟩ dX12_waits_31

set_option maxRecDepth 100000 in
set_option maxHeartbeats 4000000 in
theorem c_X12_falls (l : Launch) (X : XW) (σ : ST) (a : Nat) (v1 : Int32) (v2 : Int32) (ha : q_kd X a = 12) (hG : m_G (m_c X σ a)) : Met l yX12_falls (q_ws yX12_falls cX12_falls 3 (some .int)) (q_rm 3 67) (q_P X σ [.ref a, .int v1, .int v2]) (q_Qi X 8 σ (fun (r : Int32) (σ' : ST) => (r, σ') = F_X12_falls X σ a v1 v2 ∧ q_ow [(12, 0), (12, 1)] [] X σ σ')) 0 0 (q_reg X) := by
  refine q_met 8 (by first | exact rfl | decide +kernel) rfl (Nat.le_of_ble_eq_true rfl) (fun p e s m below meth c E hml hr hlk hI ls hl => ?_)
  have hx := E.1
  have hb := E.2.1
  have hl : lv_has ls 3 [(0, .ref a), (1, .int v1), (2, .int v2)] := hl
  have feσ : m_c X σ a = m_c X σ a := rfl
  have fr_σ : q_ow [(12, 0), (12, 1)] [] X σ σ := q_ow.rf
  have hh := hG.hd
  obtain ⟨out, hout⟩ : ∃ o, o = F_X12_falls X σ a v1 v2 := ⟨_, rfl⟩
  have hF := hout.symm
  unfold F_X12_falls at hF
  refine lv_aload_n hx hb dX12_falls_0 rfl (lv_at hl 0 rfl) ?_
  refine lv_iconst (v := 0) hx hb dX12_falls_1 zki_0 ?_
  refine ps_X12_59_12 E hI ha (by decide) dX12_falls_2 (fun H locs σ_1 hσ_1 hI => ?_)
  replace hF := q_letX hF hσ_1
  have fr_σ_1 := fr_σ.si hσ_1 ha rfl
  have mcσ_1 := m_wo hσ_1 (m_ne ha (q_tk (f := 20) (k' := 34) hI ha rfl (by decide)) (by decide))
  have feσ_1 : m_c X σ_1 a = m_c X σ a := (funext mcσ_1).trans feσ
  refine lv_aload_n hx hb dX12_falls_5 rfl (lv_at hl 0 rfl) ?_
  refine lv_iconst (v := 0) hx hb dX12_falls_6 zki_0 ?_
  refine ps_X12_62_12 E hI ha (by decide) dX12_falls_7 (fun H locs σ_2 hσ_2 hI => ?_)
  replace hF := q_letX hF hσ_2
  have fr_σ_2 := fr_σ_1.si hσ_2 ha rfl
  have mcσ_2 := m_wo hσ_2 (m_ne ha (q_tk (f := 20) (k' := 34) hI ha rfl (by decide)) (by decide))
  have feσ_2 : m_c X σ_2 a = m_c X σ a := (funext mcσ_2).trans feσ_1
  refine lv_aload_n hx hb dX12_falls_10 rfl (lv_at hl 0 rfl) ?_
  refine lv_iload_n hx hb dX12_falls_11 rfl (lv_at hl 1 rfl) ?_
  refine q_ci (q_rV11_1 (rest := []) E (hml.trans hl.1.symm) hI (c_X12_isPlayerAt l X σ_2 a v1 ha (by rw [feσ_2]; exact hG)) kv_X12_290 ha ⟨Nat.le_of_ble_eq_true rfl, Nat.le_of_ble_eq_true rfl⟩ (Nat.le_of_ble_eq_true rfl) dX12_falls_12) hI (Nat.le_of_ble_eq_true rfl) (fun r_3 σ_4 H locs hpσ_4 hkσ_4 hI => ?_)
  have ahpσ_4 := hpσ_4.1
  have bhpσ_4 := hpσ_4.2.1
  have chpσ_4 := hpσ_4.2.2.1
  have dhpσ_4 := hpσ_4.2.2.2
  clear hpσ_4
  replace hI := q_Irw ahpσ_4 hI
  rw [feσ_2] at chpσ_4
  replace hF := q_letX hF dhpσ_4
  refine q_if_ne (A := r_3.toInt) E rfl (tgt := 24) dX12_falls_15 (by decide) (fun c_5 => ?_) (fun c_5 => ?_)
  · skip
    replace hF := q_ifn hF c_5
    replace c_5 := q_ifOne bhpσ_4 c_5
    replace chpσ_4 := q_ifYes chpσ_4 c_5
    refine lv_iload_n hx hb dX12_falls_24 rfl (lv_at hl 2 rfl) ?_
    refine lv_i2l hx hb dX12_falls_25 rfl ?_
    refine lv_topl (fun y_6 ey_6 => ?_)
    replace hF := q_letX hF ey_6
    have ggy_6 := q_rng v2
    have iy_6 : y_6.toInt = v2.toInt := by rw [ey_6]; exact (q_i2l _).trans rfl
    refine lv_lconst (v := 0) hx hb dX12_falls_26 (by decide) ?_
    refine lv_ldc2 (v := 60) hx hb E.2.2.1 (E.2.2.2.1 _ (q_in_t9 (i := 70) (by first | rfl | decide +kernel) rfl)) dX12_falls_27 ?_
    have kc_7 : (0 : Int64).toInt = 0 := rfl
    have kc_8 : (60 : Int64).toInt = 60 := rfl
    refine q_ci (q_runS (As := [.long y_6, .long 0, .long 60]) (rest := []) E (hml.trans hl.1.symm) hI (c_X12_isIn l X σ_2 y_6 (0 : Int64) (60 : Int64)) ks_X12_94 rfl ⟨Nat.le_of_ble_eq_true rfl, Nat.le_of_ble_eq_true rfl⟩ ⟨Nat.le_refl _, Nat.le_refl _⟩ rfl (Nat.le_of_ble_eq_true rfl) dX12_falls_30) hI (Nat.le_of_ble_eq_true rfl) (fun r_9 σ_10 H locs hpσ_10 hkσ_10 hI => ?_)
    have ahpσ_10 := hpσ_10.1
    have bhpσ_10 := hpσ_10.2.1
    have chpσ_10 := hpσ_10.2.2.1
    have dhpσ_10 := hpσ_10.2.2.2
    clear hpσ_10
    replace hI := q_Irw ahpσ_10 hI
    replace hF := q_letX hF dhpσ_10
    refine q_if_eq (A := r_9.toInt) E rfl (tgt := 45) dX12_falls_33 (by decide) (fun c_11 => ?_) (fun c_11 => ?_)
    · skip
      replace hF := q_ifp hF c_11
      replace chpσ_10 := q_ifNo chpσ_10 c_11
      refine lv_aload_n hx hb dX12_falls_45 rfl (lv_at hl 0 rfl) ?_
      refine lv_iconst (v := 5) hx hb dX12_falls_46 zki_5 ?_
      have kc_12 : (5 : Int32).toInt = 5 := zt_5
      refine q_ci (q_rV11_1 (rest := []) E (hml.trans hl.1.symm) hI (c_X12_refuse l X σ_2 a (5 : Int32) ha) kv_X12_284 ha ⟨Nat.le_of_ble_eq_true rfl, Nat.le_of_ble_eq_true rfl⟩ (Nat.le_of_ble_eq_true rfl) dX12_falls_47) hI (Nat.le_of_ble_eq_true rfl) (fun r_13 σ_14 H locs hpσ_14 hkσ_14 hI => ?_)
      have ahpσ_14 := hpσ_14.1
      have bhpσ_14 := hpσ_14.2.1
      have chpσ_14 := hpσ_14.2.2
      clear hpσ_14
      have fr_σ_14 := fr_σ_2.call chpσ_14 rfl rfl
      replace hF := q_biX hF bhpσ_14
      have mcσ_14 := m_cK hkσ_14 hI.1 ha (by decide)
      have feσ_14 : m_c X σ_14 a = m_c X σ a := (funext mcσ_14).trans feσ_2
      exact q_reti E hr hlk hI ⟨(hF.trans hout), fr_σ_14⟩ dX12_falls_50
    · skip
      replace hF := q_ifn hF c_11
      replace c_11 := q_ifOne bhpσ_10 c_11
      replace chpσ_10 := q_ifYes chpσ_10 c_11
      refine lv_aload_n hx hb dX12_falls_36 rfl (lv_at hl 0 rfl) ?_
      refine lv_iload_n hx hb dX12_falls_37 rfl (lv_at hl 1 rfl) ?_
      refine lv_iload_n hx hb dX12_falls_38 rfl (lv_at hl 2 rfl) ?_
      refine q_ci (q_rV11_2 (rest := []) E (hml.trans hl.1.symm) hI (c_X12_fallsTo l X σ_2 a v1 v2 ha (by rw [feσ_2]; exact hG) (by rw [feσ_2]; exact (by omega)) (by first | (clear hh ahpσ_4 bhpσ_4 dhpσ_4 c_5 chpσ_4 ahpσ_10 bhpσ_10 dhpσ_10 c_11; omega) | omega)) kv_X12_372 ha ⟨Nat.le_of_ble_eq_true rfl, Nat.le_of_ble_eq_true rfl⟩ (Nat.le_of_ble_eq_true rfl) dX12_falls_39) hI (Nat.le_of_ble_eq_true rfl) (fun r_15 σ_16 H locs hpσ_16 hkσ_16 hI => ?_)
      have ahpσ_16 := hpσ_16.1
      have bhpσ_16 := hpσ_16.2.1
      have chpσ_16 := hpσ_16.2.2
      clear hpσ_16
      replace hI := q_Irw ahpσ_16 hI
      rw [feσ_2] at bhpσ_16
      replace hF := q_letX hF chpσ_16
      refine lv_goto (tgt := 50) hx hb dX12_falls_42 (by decide) ?_
      exact q_reti E hr hlk hI ⟨(hF.trans hout), fr_σ_2⟩ dX12_falls_50
  · skip
    replace hF := q_ifp hF c_5
    replace chpσ_4 := q_ifNo chpσ_4 c_5
    refine lv_aload_n hx hb dX12_falls_18 rfl (lv_at hl 0 rfl) ?_
    refine lv_iconst (v := 2) hx hb dX12_falls_19 zki_2 ?_
    have kc_17 : (2 : Int32).toInt = 2 := zt_2
    refine q_ci (q_rV11_1 (rest := []) E (hml.trans hl.1.symm) hI (c_X12_refuse l X σ_2 a (2 : Int32) ha) kv_X12_284 ha ⟨Nat.le_of_ble_eq_true rfl, Nat.le_of_ble_eq_true rfl⟩ (Nat.le_of_ble_eq_true rfl) dX12_falls_20) hI (Nat.le_of_ble_eq_true rfl) (fun r_18 σ_19 H locs hpσ_19 hkσ_19 hI => ?_)
    have ahpσ_19 := hpσ_19.1
    have bhpσ_19 := hpσ_19.2.1
    have chpσ_19 := hpσ_19.2.2
    clear hpσ_19
    have fr_σ_19 := fr_σ_2.call chpσ_19 rfl rfl
    replace hF := q_biX hF bhpσ_19
    have mcσ_19 := m_cK hkσ_19 hI.1 ha (by decide)
    have feσ_19 : m_c X σ_19 a = m_c X σ a := (funext mcσ_19).trans feσ_2
    exact q_reti E hr hlk hI ⟨(hF.trans hout), fr_σ_19⟩ dX12_falls_23

set_option maxRecDepth 100000 in
set_option maxHeartbeats 4000000 in
theorem c_X12_honestFor (l : Launch) (X : XW) (σ : ST) (a : Nat) (v1 : Int32) (v2 : Int32) (ha : q_kd X a = 12) (hG : m_G (m_c X σ a)) (h0 : 0 ≤ v1.toInt ∧ v1.toInt < m_c X σ a 2) (h1 : 0 ≤ v2.toInt ∧ v2.toInt ≤ 60) : Met l yX12_honestFor (q_ws yX12_honestFor cX12_honestFor 7 (some .int)) (q_rm 3 67) (q_P X σ [.ref a, .int v1, .int v2]) (q_Qi X 8 σ (fun (r : Int32) (σ' : ST) => (r, σ') = F_X12_honestFor X σ a v1 v2 ∧ q_ow [(12, 33), (12, 34), (12, 35), (38, 99)] [] X σ σ')) 0 0 (q_reg X) := by
  refine q_met 8 (by first | exact rfl | decide +kernel) rfl (Nat.le_of_ble_eq_true rfl) (fun p e s m below meth c E hml hr hlk hI ls hl => ?_)
  have hx := E.1
  have hb := E.2.1
  have hl : lv_has ls 7 [(0, .ref a), (1, .int v1), (2, .int v2)] := hl
  have feσ : m_c X σ a = m_c X σ a := rfl
  have fr_σ : q_ow [(12, 33), (12, 34), (12, 35), (38, 99)] [] X σ σ := q_ow.rf
  have hh := hG.hd
  obtain ⟨out, hout⟩ : ∃ o, o = F_X12_honestFor X σ a v1 v2 := ⟨_, rfl⟩
  have hF := hout.symm
  unfold F_X12_honestFor at hF
  refine lv_iconst (v := 0) hx hb dX12_honestFor_0 zki_0 ?_
  refine lv_istore_n (lv' := [(3, .int 0), (0, .ref a), (1, .int v1), (2, .int v2)]) hx hb dX12_honestFor_1 rfl hl (by decide) rfl (fun ls hl => ?_)
  have L_2_3 : ∀ (k_3 : Nat) (x_1 : Int32) (σ_2 : ST) (H : Heap) (locs : List Loc) (ls : Array Slot), (2147483647 - x_1.toInt).toNat < k_3 → (0 ≤ x_1.toInt) → (q_ow [(12, 33), (12, 34), (12, 35), (38, 99)] [] X σ σ_2) → (m_c X σ_2 a = m_c X σ a) → (F_X12_honestFor_L2_1 X a v1 v2 k_3 x_1 σ_2 = out) → q_I X 8 σ s.heap locs σ_2 H → lv_has ls 7 [(0, .ref a), (1, .int v1), (2, .int v2), (3, .int x_1)] → W p l e (q_rm 3 67) s m ([.ref a, .int v1, .int v2] : List Value).toArray below meth c H locs 0 0 (MQ below (q_Qi X 8 σ (fun (r : Int32) (σ' : ST) => (r, σ') = F_X12_honestFor X σ a v1 v2 ∧ q_ow [(12, 33), (12, 34), (12, 35), (38, 99)] [] X σ σ')) ([.ref a, .int v1, .int v2] : List Value).toArray s 0 0 (q_reg X)) (F0 m 2 ls []) := by
    clear hF
    intro k_3
    induction k_3 with
    | zero =>
      intro x_1 σ_2 H locs ls hms
      try clear feσ; try clear fr_σ
      exact absurd hms (Nat.not_lt_zero _)
    | succ k_3 ih2 =>
      intro x_1 σ_2 H locs ls hm2 hge2 fr_σ_2 feσ_2 hF hI hl
      replace hF := (F_X12_honestFor_L2_1_s).symm.trans hF
      unfold F_X12_honestFor_B2_1 at hF
      refine lv_iload_n hx hb dX12_honestFor_2 rfl (lv_at hl 3 rfl) ?_
      refine lv_bipush (v := 10) hx hb dX12_honestFor_3 zkb_10 ?_
      have gc_4_x_1 := q_rng x_1
      refine q_icmp_ge (A := x_1.toInt) (B := 10) E rfl (by decide) (tgt := 26) dX12_honestFor_5 (by decide) (fun c_4 => ?_) (fun c_4 => ?_)
      · skip
        replace hF := q_ifn hF (Int.not_lt.mpr c_4)
        unfold F_X12_honestFor_E26_5 at hF
        refine lv_aload_n hx hb dX12_honestFor_26 rfl (lv_at hl 0 rfl) ?_
        refine lv_iload_n hx hb dX12_honestFor_27 rfl (lv_at hl 1 rfl) ?_
        refine q_ci (q_rV11_1 (rest := []) E (hml.trans hl.1.symm) hI (c_X12_cardsOf l X σ_2 a v1 ha (by rw [feσ_2]; exact hG) (by first | (clear h0 h1 hm2 hge2 gc_4_x_1 c_4; omega) | omega)) kv_X12_293 ha ⟨Nat.le_of_ble_eq_true rfl, Nat.le_of_ble_eq_true rfl⟩ (Nat.le_of_ble_eq_true rfl) dX12_honestFor_28) hI (Nat.le_of_ble_eq_true rfl) (fun r_5 σ_6 H locs hpσ_6 hkσ_6 hI => ?_)
        have ahpσ_6 := hpσ_6.1
        have bhpσ_6 := hpσ_6.2.1
        have chpσ_6 := hpσ_6.2.2.1
        have dhpσ_6 := hpσ_6.2.2.2
        clear hpσ_6
        replace hI := q_Irw ahpσ_6 hI
        rw [feσ_2] at bhpσ_6
        replace hF := q_letX hF dhpσ_6
        refine lv_istore_n (lv' := [(3, .int r_5), (0, .ref a), (1, .int v1), (2, .int v2)]) hx hb dX12_honestFor_31 rfl hl (by decide) rfl (fun ls hl => ?_)
        refine lv_aload_n hx hb dX12_honestFor_32 rfl (lv_at hl 1 rfl) ?_
        refine lv_iconst (v := 0) hx hb dX12_honestFor_33 zki_0 ?_
        refine ps_X12_375_12 E hI ha (by decide) dX12_honestFor_34 (fun H locs σ_7 hσ_7 hI => ?_)
        replace hF := q_letX hF hσ_7
        have fr_σ_7 := fr_σ_2.si hσ_7 ha rfl
        have mcσ_7 := m_wo hσ_7 (m_ne ha (q_tk (f := 20) (k' := 34) hI ha rfl (by decide)) (by decide))
        have feσ_7 : m_c X σ_7 a = m_c X σ a := (funext mcσ_7).trans feσ_2
        refine lv_aload_n hx hb dX12_honestFor_37 rfl (lv_at hl 1 rfl) ?_
        refine lv_iconst (v := (-1)) hx hb dX12_honestFor_38 zki_m1 ?_
        refine ps_X12_378_12 E hI ha (by decide) dX12_honestFor_39 (fun H locs σ_8 hσ_8 hI => ?_)
        replace hF := q_letX hF hσ_8
        have fr_σ_8 := fr_σ_7.si hσ_8 ha rfl
        have mcσ_8 := m_wo hσ_8 (m_ne ha (q_tk (f := 20) (k' := 34) hI ha rfl (by decide)) (by decide))
        have feσ_8 : m_c X σ_8 a = m_c X σ a := (funext mcσ_8).trans feσ_7
        refine lv_aload_n hx hb dX12_honestFor_42 rfl (lv_at hl 1 rfl) ?_
        refine lv_iconst (v := (-1)) hx hb dX12_honestFor_43 zki_m1 ?_
        refine ps_X12_381_12 E hI ha (by decide) dX12_honestFor_44 (fun H locs σ_9 hσ_9 hI => ?_)
        replace hF := q_letX hF hσ_9
        have fr_σ_9 := fr_σ_8.si hσ_9 ha rfl
        have mcσ_9 := m_wo hσ_9 (m_ne ha (q_tk (f := 20) (k' := 34) hI ha rfl (by decide)) (by decide))
        have feσ_9 : m_c X σ_9 a = m_c X σ a := (funext mcσ_9).trans feσ_8
        refine lv_iconst (v := 0) hx hb dX12_honestFor_47 zki_0 ?_
        refine lv_istore (lv' := [(4, .int 0), (3, .int r_5), (0, .ref a), (1, .int v1), (2, .int v2)]) hx hb dX12_honestFor_48 hl (by decide) rfl (fun ls hl => ?_)
        have L_50_13 : ∀ (k_13 : Nat) (x_10 : Int32) (x_11 : Int32) (σ_12 : ST) (H : Heap) (locs : List Loc) (ls : Array Slot), (2147483647 - x_11.toInt).toNat < k_13 → (0 ≤ x_11.toInt) → (q_ow [(12, 33), (12, 34), (12, 35), (38, 99)] [] X σ σ_12) → (m_c X σ_12 a = m_c X σ a) → (F_X12_honestFor_L50_3 X v2 a v1 k_13 x_10 x_11 σ_12 = out) → q_I X 8 σ s.heap locs σ_12 H → lv_has ls 7 [(0, .ref a), (1, .int v1), (2, .int v2), (3, .int x_10), (4, .int x_11)] → W p l e (q_rm 3 67) s m ([.ref a, .int v1, .int v2] : List Value).toArray below meth c H locs 0 0 (MQ below (q_Qi X 8 σ (fun (r : Int32) (σ' : ST) => (r, σ') = F_X12_honestFor X σ a v1 v2 ∧ q_ow [(12, 33), (12, 34), (12, 35), (38, 99)] [] X σ σ')) ([.ref a, .int v1, .int v2] : List Value).toArray s 0 0 (q_reg X)) (F0 m 50 ls []) := by
          clear hF
          intro k_13
          induction k_13 with
          | zero =>
            intro x_10 x_11 σ_12 H locs ls hms
            try clear ahpσ_6; try clear fr_σ_7; try clear mcσ_7; try clear feσ_7; try clear fr_σ_8; try clear mcσ_8; try clear feσ_8; try clear fr_σ_9; try clear mcσ_9; try clear feσ_9
            exact absurd hms (Nat.not_lt_zero _)
          | succ k_13 ih50 =>
            intro x_10 x_11 σ_12 H locs ls hm50 hge50 fr_σ_12 feσ_12 hF hI hl
            replace hF := (F_X12_honestFor_L50_3_s).symm.trans hF
            unfold F_X12_honestFor_B50_3 at hF
            refine lv_iload hx hb dX12_honestFor_50 (lv_at hl 4 rfl) ?_
            refine lv_iload_n hx hb dX12_honestFor_52 rfl (lv_at hl 2 rfl) ?_
            have gc_14_x_11 := q_rng x_11
            have gc_14_v2 := q_rng v2
            refine q_icmp_ge (A := x_11.toInt) (B := v2.toInt) E rfl rfl (tgt := 157) dX12_honestFor_53 (by decide) (fun c_14 => ?_) (fun c_14 => ?_)
            · skip
              replace hF := q_ifn hF (Int.not_lt.mpr c_14)
              skip
              refine lv_iload_n hx hb dX12_honestFor_157 rfl (lv_at hl 3 rfl) ?_
              exact q_reti E hr hlk hI ⟨(hF.trans hout), fr_σ_12⟩ dX12_honestFor_158
            · skip
              replace hF := q_ifp hF c_14
              refine lv_aload_n hx hb dX12_honestFor_56 rfl (lv_at hl 0 rfl) ?_
              refine lv_iload_n hx hb dX12_honestFor_57 rfl (lv_at hl 1 rfl) ?_
              refine lv_iload hx hb dX12_honestFor_58 (lv_at hl 4 rfl) ?_
              refine q_ci (q_rV11_2 (rest := []) E (hml.trans hl.1.symm) hI (c_X12_fallsTo l X σ_12 a v1 x_11 ha (by rw [feσ_12]; exact hG) (by rw [feσ_12]; exact (by omega)) (by first | (clear h0 h1 hh hm2 hge2 gc_4_x_1 c_4 bhpσ_6 chpσ_6 dhpσ_6 hm50 gc_14_v2; omega) | omega)) kv_X12_372 ha ⟨Nat.le_of_ble_eq_true rfl, Nat.le_of_ble_eq_true rfl⟩ (Nat.le_of_ble_eq_true rfl) dX12_honestFor_60) hI (Nat.le_of_ble_eq_true rfl) (fun r_15 σ_16 H locs hpσ_16 hkσ_16 hI => ?_)
              have ahpσ_16 := hpσ_16.1
              have bhpσ_16 := hpσ_16.2.1
              have chpσ_16 := hpσ_16.2.2
              clear hpσ_16
              replace hI := q_Irw ahpσ_16 hI
              rw [feσ_12] at bhpσ_16
              replace hF := q_letX hF chpσ_16
              refine lv_istore (lv' := [(5, .int r_15), (0, .ref a), (1, .int v1), (2, .int v2), (3, .int x_10), (4, .int x_11)]) hx hb dX12_honestFor_63 hl (by decide) rfl (fun ls hl => ?_)
              refine lv_aload_n hx hb dX12_honestFor_65 rfl (lv_at hl 1 rfl) ?_
              refine gs_X12_35_12 E hI ha dX12_honestFor_66 ?_
              refine lv_iconst (v := 4) hx hb dX12_honestFor_69 zki_4 ?_
              refine q_iald E hI (q_tk (k' := 34) hI ha rfl (Nat.succ_ne_zero _)) ⟨by decide, rfl⟩ (by decide) (by rw [q_lnk (v := 4650) hI (q_tk (k' := 34) hI ha rfl (Nat.succ_ne_zero _)) rfl (by decide)]; decide) dX12_honestFor_70 ?_
              refine lv_topi (fun f_17 ef_17 => ?_)
              replace hF := q_letX hF ef_17
              have if_17 : f_17.toInt = m_c X σ a 4 := (m_rd ef_17 (by decide)).trans (congrFun feσ_12 _)
              refine lv_aload_n hx hb dX12_honestFor_71 rfl (lv_at hl 1 rfl) ?_
              refine gs_X12_53_12 E hI ha dX12_honestFor_72 ?_
              refine lv_iload hx hb dX12_honestFor_75 (lv_at hl 0 rfl) ?_
              refine q_iald E hI (q_tk (k' := 38) hI ha rfl (Nat.succ_ne_zero _)) ⟨by decide, rfl⟩ (by first | (clear h0 h1 hh hm2 hge2 gc_4_x_1 c_4 bhpσ_6 chpσ_6 dhpσ_6 hm50 hge50 gc_14_x_11 gc_14_v2 c_14 ahpσ_16 chpσ_16 if_17; omega) | omega) (by rw [q_lnk (v := 10) hI (q_tk (k' := 38) hI ha rfl (Nat.succ_ne_zero _)) rfl (by decide)]; omega) dX12_honestFor_77 ?_
              refine lv_topi (fun f_18 ef_18 => ?_)
              replace hF := q_letX hF ef_18
              refine q_ci (q_runS (As := [.int f_17, .int f_18]) (rest := []) E (hml.trans hl.1.symm) hI (c_J9_min_7cf53 l X σ_12 f_17 f_18) ks_X12_384 rfl ⟨Nat.le_of_ble_eq_true rfl, Nat.le_of_ble_eq_true rfl⟩ ⟨Nat.le_refl _, Nat.le_refl _⟩ rfl (Nat.le_of_ble_eq_true rfl) dX12_honestFor_78) hI (Nat.le_of_ble_eq_true rfl) (fun r_19 σ_20 H locs hpσ_20 hkσ_20 hI => ?_)
              have ahpσ_20 := hpσ_20.1
              have bhpσ_20 := hpσ_20.2.1
              have chpσ_20 := hpσ_20.2.2
              clear hpσ_20
              replace hI := q_Irw ahpσ_20 hI
              replace hF := q_letX hF chpσ_20
              refine lv_istore (lv' := [(6, .int r_19), (5, .int r_15), (0, .ref a), (1, .int v1), (2, .int v2), (3, .int x_10), (4, .int x_11)]) hx hb dX12_honestFor_81 hl (by decide) rfl (fun ls hl => ?_)
              refine lv_iload hx hb dX12_honestFor_83 (lv_at hl 0 rfl) ?_
              have J_105_21 : ∀  (σ_21 : ST) (H : Heap) (locs : List Loc) (ls : Array Slot), (q_ow [(12, 33), (12, 34), (12, 35), (38, 99)] [] X σ σ_21) → (m_c X σ_21 a = m_c X σ a) → (F_X12_honestFor_J105_5 X a r_15 r_19 x_10 x_11 (F_X12_honestFor_L50_3 X v2 a v1 k_13) σ_21 = out) → q_I X 8 σ s.heap locs σ_21 H → lv_has ls 7 [(0, .ref a), (1, .int v1), (2, .int v2), (3, .int x_10), (4, .int x_11), (5, .int r_15), (6, .int r_19)] → W p l e (q_rm 3 67) s m ([.ref a, .int v1, .int v2] : List Value).toArray below meth c H locs 0 0 (MQ below (q_Qi X 8 σ (fun (r : Int32) (σ' : ST) => (r, σ') = F_X12_honestFor X σ a v1 v2 ∧ q_ow [(12, 33), (12, 34), (12, 35), (38, 99)] [] X σ σ')) ([.ref a, .int v1, .int v2] : List Value).toArray s 0 0 (q_reg X)) (F0 m 105 ls []) := by
                clear hF
                intro σ_21 H locs ls fr_σ_21 feσ_21 hF hI hl
                try clear ahpσ_16; try clear ahpσ_20
                unfold F_X12_honestFor_J105_5 at hF
                refine lv_aload_n hx hb dX12_honestFor_105 rfl (lv_at hl 0 rfl) ?_
                refine gs_X12_53_12 E hI ha dX12_honestFor_106 ?_
                refine lv_iload hx hb dX12_honestFor_109 (lv_at hl 5 rfl) ?_
                refine lv_dup2_11 hx hb dX12_honestFor_111 rfl rfl ?_
                refine q_iald E hI (q_tk (k' := 38) hI ha rfl (Nat.succ_ne_zero _)) ⟨by decide, rfl⟩ (by first | (clear h0 h1 hh hm2 hge2 gc_4_x_1 c_4 bhpσ_6 chpσ_6 dhpσ_6 hm50 hge50 gc_14_x_11 gc_14_v2 c_14 chpσ_16 if_17 bhpσ_20 chpσ_20; omega) | omega) (by rw [q_lnk (v := 10) hI (q_tk (k' := 38) hI ha rfl (Nat.succ_ne_zero _)) rfl (by decide)]; omega) dX12_honestFor_112 ?_
                refine lv_topi (fun f_22 ef_22 => ?_)
                replace hF := q_letX hF ef_22
                refine lv_iload hx hb dX12_honestFor_113 (lv_at hl 6 rfl) ?_
                refine lv_isub hx hb dX12_honestFor_115 ?_
                refine lv_topi (fun z_23 ez_23 => ?_)
                replace hF := q_letX hF ez_23
                refine q_iastN E hI (q_tk (k' := 38) hI ha rfl (Nat.succ_ne_zero _)) ⟨by decide, rfl⟩ (by first | (clear h0 h1 hh hm2 hge2 gc_4_x_1 c_4 bhpσ_6 chpσ_6 dhpσ_6 hm50 hge50 gc_14_x_11 gc_14_v2 c_14 chpσ_16 if_17 bhpσ_20 chpσ_20; omega) | omega) (by rw [q_lnk (v := 10) hI (q_tk (k' := 38) hI ha rfl (Nat.succ_ne_zero _)) rfl (by decide)]; omega) (show 8 < 9 by decide) (q_inU rfl) dX12_honestFor_116 (fun H locs σ_24 hσ_24 hI => ?_)
                replace hF := q_letX hF hσ_24
                have fr_σ_24 := fr_σ_21.si hσ_24 (q_tk (k' := 38) hI ha rfl (Nat.succ_ne_zero _)) rfl
                have mcσ_24 := m_wo hσ_24 (m_ne (q_tk (k' := 38) hI ha rfl (Nat.succ_ne_zero _)) (q_tk (f := 20) (k' := 34) hI ha rfl (by decide)) (by decide))
                have feσ_24 : m_c X σ_24 a = m_c X σ a := (funext mcσ_24).trans feσ_21
                refine lv_aload_n hx hb dX12_honestFor_117 rfl (lv_at hl 0 rfl) ?_
                refine lv_dup hx hb dX12_honestFor_118 rfl ?_
                refine gs_X12_375_12 E hI ha dX12_honestFor_119 ?_
                refine lv_topi (fun f_25 ef_25 => ?_)
                replace hF := q_letX hF ef_25
                have if_25 : f_25.toInt = (σ_24.1 a 33).toInt := congrArg Int32.toInt ef_25
                refine lv_iload hx hb dX12_honestFor_122 (lv_at hl 6 rfl) ?_
                refine lv_iadd hx hb dX12_honestFor_124 ?_
                refine lv_topi (fun z_26 ez_26 => ?_)
                replace hF := q_letX hF ez_26
                refine ps_X12_375_12 E hI ha (by decide) dX12_honestFor_125 (fun H locs σ_27 hσ_27 hI => ?_)
                replace hF := q_letX hF hσ_27
                have fr_σ_27 := fr_σ_24.si hσ_27 ha rfl
                have mcσ_27 := m_wo hσ_27 (m_ne ha (q_tk (f := 20) (k' := 34) hI ha rfl (by decide)) (by decide))
                have feσ_27 : m_c X σ_27 a = m_c X σ a := (funext mcσ_27).trans feσ_24
                refine lv_iload_n hx hb dX12_honestFor_128 rfl (lv_at hl 3 rfl) ?_
                refine lv_iload hx hb dX12_honestFor_129 (lv_at hl 6 rfl) ?_
                refine lv_isub hx hb dX12_honestFor_131 ?_
                refine lv_topi (fun z_28 ez_28 => ?_)
                replace hF := q_letX hF ez_28
                refine lv_istore_n (lv' := [(3, .int z_28), (0, .ref a), (1, .int v1), (2, .int v2), (4, .int x_11), (5, .int r_15), (6, .int r_19)]) hx hb dX12_honestFor_132 rfl hl (by decide) rfl (fun ls hl => ?_)
                refine lv_aload_n hx hb dX12_honestFor_133 rfl (lv_at hl 1 rfl) ?_
                refine lv_iload hx hb dX12_honestFor_134 (lv_at hl 6 rfl) ?_
                refine q_if_le (A := r_19.toInt) E rfl (tgt := 144) dX12_honestFor_136 (by decide) (fun c_29 => ?_) (fun c_29 => ?_)
                · skip
                  replace hF := q_ifn hF (Int.not_lt.mpr c_29)
                  refine lv_aload_n hx hb dX12_honestFor_144 rfl (lv_at hl 1 rfl) ?_
                  refine gs_X12_378_12 E hI ha dX12_honestFor_145 ?_
                  refine lv_topi (fun f_30 ef_30 => ?_)
                  replace hF := q_letX hF ef_30
                  have if_30 : f_30.toInt = (σ_27.1 a 34).toInt := congrArg Int32.toInt ef_30
                  refine ps_X12_378_12 E hI ha (by decide) dX12_honestFor_148 (fun H locs σ_31 hσ_31 hI => ?_)
                  replace hF := q_letX hF hσ_31
                  have fr_σ_31 := fr_σ_27.si hσ_31 ha rfl
                  have mcσ_31 := m_wo hσ_31 (m_ne ha (q_tk (f := 20) (k' := 34) hI ha rfl (by decide)) (by decide))
                  have feσ_31 : m_c X σ_31 a = m_c X σ a := (funext mcσ_31).trans feσ_27
                  obtain ⟨z_32, ez_32⟩ : ∃ y : Int32, y = x_11 + 1 := ⟨_, rfl⟩
                  replace hF := q_letX hF ez_32
                  refine lv_iinc (v := z_32) (lv' := [(4, .int z_32), (3, .int z_28), (0, .ref a), (1, .int v1), (2, .int v2), (5, .int r_15), (6, .int r_19)]) hx hb dX12_honestFor_151 hl (k := 4) rfl (by rw [ez_32]; rfl) (by decide) rfl (fun ls hl => ?_)
                  have iz_32 : z_32.toInt = x_11.toInt + 1 := q_inc ez_32 (by first | (clear h0 h1 hh hm2 hge2 gc_4_x_1 c_4 bhpσ_6 chpσ_6 dhpσ_6 hm50 gc_14_v2 bhpσ_16 chpσ_16 if_17 bhpσ_20 chpσ_20 if_25 c_29 if_30; omega) | omega)
                  refine lv_goto (tgt := 50) hx hb dX12_honestFor_154 (by decide) ?_
                  exact ih50 z_28 z_32 σ_31 _ _ ls (by first | (clear h0 h1 hm2 hge2 gc_4_x_1 c_4 bhpσ_6 chpσ_6 dhpσ_6 gc_14_v2 bhpσ_16 chpσ_16 chpσ_20 if_25 if_30; omega) | omega) (by first | (clear h0 h1 hh hm2 hge2 gc_4_x_1 c_4 bhpσ_6 chpσ_6 dhpσ_6 hm50 gc_14_v2 c_14 bhpσ_16 chpσ_16 if_17 bhpσ_20 chpσ_20 if_25 c_29 if_30; omega) | omega) fr_σ_31 feσ_31 hF hI (lv_sub hl [2, 3, 4, 1, 0] rfl)
                · skip
                  replace hF := q_ifp hF c_29
                  refine lv_iload hx hb dX12_honestFor_139 (lv_at hl 5 rfl) ?_
                  refine lv_goto (tgt := 148) hx hb dX12_honestFor_141 (by decide) ?_
                  refine ps_X12_378_12 E hI ha (by decide) dX12_honestFor_148 (fun H locs σ_33 hσ_33 hI => ?_)
                  replace hF := q_letX hF hσ_33
                  have fr_σ_33 := fr_σ_27.si hσ_33 ha rfl
                  have mcσ_33 := m_wo hσ_33 (m_ne ha (q_tk (f := 20) (k' := 34) hI ha rfl (by decide)) (by decide))
                  have feσ_33 : m_c X σ_33 a = m_c X σ a := (funext mcσ_33).trans feσ_27
                  obtain ⟨z_34, ez_34⟩ : ∃ y : Int32, y = x_11 + 1 := ⟨_, rfl⟩
                  replace hF := q_letX hF ez_34
                  refine lv_iinc (v := z_34) (lv' := [(4, .int z_34), (3, .int z_28), (0, .ref a), (1, .int v1), (2, .int v2), (5, .int r_15), (6, .int r_19)]) hx hb dX12_honestFor_151 hl (k := 4) rfl (by rw [ez_34]; rfl) (by decide) rfl (fun ls hl => ?_)
                  have iz_34 : z_34.toInt = x_11.toInt + 1 := q_inc ez_34 (by first | (clear h0 h1 hh hm2 hge2 gc_4_x_1 c_4 bhpσ_6 chpσ_6 dhpσ_6 hm50 gc_14_v2 bhpσ_16 chpσ_16 if_17 bhpσ_20 chpσ_20 if_25 c_29; omega) | omega)
                  refine lv_goto (tgt := 50) hx hb dX12_honestFor_154 (by decide) ?_
                  exact ih50 z_28 z_34 σ_33 _ _ ls (by first | (clear h0 h1 hh hm2 hge2 gc_4_x_1 c_4 bhpσ_6 chpσ_6 dhpσ_6 gc_14_v2 bhpσ_16 chpσ_16 if_17 bhpσ_20 chpσ_20 if_25 c_29; omega) | omega) (by first | (clear h0 h1 hh hm2 hge2 gc_4_x_1 c_4 bhpσ_6 chpσ_6 dhpσ_6 hm50 gc_14_v2 c_14 bhpσ_16 chpσ_16 if_17 bhpσ_20 chpσ_20 if_25 c_29; omega) | omega) fr_σ_33 feσ_33 hF hI (lv_sub hl [2, 3, 4, 1, 0] rfl)
              refine q_if_ne (A := r_19.toInt) E rfl (tgt := 105) dX12_honestFor_85 (by decide) (fun c_35 => ?_) (fun c_35 => ?_)
              · skip
                replace hF := q_ifn hF c_35
                exact J_105_21 σ_12 _ _ ls fr_σ_12 feσ_12 hF hI (lv_sub hl [2, 3, 4, 5, 6, 1, 0] rfl)
              · skip
                replace hF := q_ifp hF c_35
                refine lv_iload_n hx hb dX12_honestFor_88 rfl (lv_at hl 5 rfl) ?_
                refine q_if_le (A := x_10.toInt) E rfl (tgt := 105) dX12_honestFor_89 (by decide) (fun c_36 => ?_) (fun c_36 => ?_)
                · skip
                  replace hF := q_ifn hF (Int.not_lt.mpr c_36)
                  exact J_105_21 σ_12 _ _ ls fr_σ_12 feσ_12 hF hI (lv_sub hl [2, 3, 4, 5, 6, 1, 0] rfl)
                · skip
                  replace hF := q_ifp hF c_36
                  refine lv_aload_n hx hb dX12_honestFor_92 rfl (lv_at hl 2 rfl) ?_
                  refine gs_X12_381_12 E hI ha dX12_honestFor_93 ?_
                  refine lv_topi (fun f_37 ef_37 => ?_)
                  replace hF := q_letX hF ef_37
                  have if_37 : f_37.toInt = (σ_12.1 a 35).toInt := congrArg Int32.toInt ef_37
                  refine q_if_ge (A := f_37.toInt) E rfl (tgt := 105) dX12_honestFor_96 (by decide) (fun c_38 => ?_) (fun c_38 => ?_)
                  · skip
                    replace hF := q_ifn hF (Int.not_lt.mpr c_38)
                    exact J_105_21 σ_12 _ _ ls fr_σ_12 feσ_12 hF hI (lv_sub hl [2, 3, 4, 5, 6, 1, 0] rfl)
                  · skip
                    replace hF := q_ifp hF c_38
                    refine lv_aload_n hx hb dX12_honestFor_99 rfl (lv_at hl 2 rfl) ?_
                    refine lv_iload hx hb dX12_honestFor_100 (lv_at hl 6 rfl) ?_
                    refine ps_X12_381_12 E hI ha (by decide) dX12_honestFor_102 (fun H locs σ_39 hσ_39 hI => ?_)
                    replace hF := q_letX hF hσ_39
                    have fr_σ_39 := fr_σ_12.si hσ_39 ha rfl
                    have mcσ_39 := m_wo hσ_39 (m_ne ha (q_tk (f := 20) (k' := 34) hI ha rfl (by decide)) (by decide))
                    have feσ_39 : m_c X σ_39 a = m_c X σ a := (funext mcσ_39).trans feσ_12
                    exact J_105_21 σ_39 _ _ ls fr_σ_39 feσ_39 hF hI (lv_sub hl [2, 3, 4, 5, 6, 1, 0] rfl)
        have kc_40 : (0 : Int32).toInt = 0 := zt_0
        exact L_50_13 ((2147483647 - (0 : Int32).toInt).toNat + 1) r_5 0 σ_9 _ _ ls (Nat.lt_succ_self _) (by decide) fr_σ_9 feσ_9 hF hI (lv_sub hl [2, 3, 4, 1, 0] rfl)
      · skip
        replace hF := q_ifp hF c_4
        refine lv_aload_n hx hb dX12_honestFor_8 rfl (lv_at hl 0 rfl) ?_
        refine gs_X12_53_12 E hI ha dX12_honestFor_9 ?_
        refine lv_iload_n hx hb dX12_honestFor_12 rfl (lv_at hl 3 rfl) ?_
        refine lv_aload_n hx hb dX12_honestFor_13 rfl (lv_at hl 0 rfl) ?_
        refine lv_iload_n hx hb dX12_honestFor_14 rfl (lv_at hl 1 rfl) ?_
        refine lv_iload_n hx hb dX12_honestFor_15 rfl (lv_at hl 3 rfl) ?_
        refine q_ci (q_rV11_2 (rest := [.int x_1, .ref (q_rf X a 32)]) E (hml.trans hl.1.symm) hI (c_X12_handOf l X σ_2 a v1 x_1 ha (by first | (clear h0 h1 hm2 hge2 gc_4_x_1 c_4; omega) | omega) (by first | (clear h0 h1 hh hm2; omega) | omega)) kv_X12_276 ha ⟨Nat.le_of_ble_eq_true rfl, Nat.le_of_ble_eq_true rfl⟩ (Nat.le_of_ble_eq_true rfl) dX12_honestFor_16) hI (Nat.le_of_ble_eq_true rfl) (fun r_41 σ_42 H locs hpσ_42 hkσ_42 hI => ?_)
        have ahpσ_42 := hpσ_42.1
        have bhpσ_42 := hpσ_42.2.1
        have chpσ_42 := hpσ_42.2.2
        clear hpσ_42
        replace hI := q_Irw ahpσ_42 hI
        rw [feσ_2] at bhpσ_42
        replace hF := q_letX hF chpσ_42
        have ir_41 : r_41.toInt = (m_c X σ a (34 + 10 * v1.toInt + x_1.toInt)) := (by first | exact bhpσ_42 | (rw [bhpσ_42]) | (simp only [bhpσ_42]))
        refine q_iastN E hI (q_tk (k' := 38) hI ha rfl (Nat.succ_ne_zero _)) ⟨by decide, rfl⟩ (by omega) (by rw [q_lnk (v := 10) hI (q_tk (k' := 38) hI ha rfl (Nat.succ_ne_zero _)) rfl (by decide)]; omega) (show 8 < 9 by decide) (q_inU rfl) dX12_honestFor_19 (fun H locs σ_43 hσ_43 hI => ?_)
        replace hF := q_letX hF hσ_43
        have fr_σ_43 := fr_σ_2.si hσ_43 (q_tk (k' := 38) hI ha rfl (Nat.succ_ne_zero _)) rfl
        have mcσ_43 := m_wo hσ_43 (m_ne (q_tk (k' := 38) hI ha rfl (Nat.succ_ne_zero _)) (q_tk (f := 20) (k' := 34) hI ha rfl (by decide)) (by decide))
        have feσ_43 : m_c X σ_43 a = m_c X σ a := (funext mcσ_43).trans feσ_2
        obtain ⟨z_44, ez_44⟩ : ∃ y : Int32, y = x_1 + 1 := ⟨_, rfl⟩
        replace hF := q_letX hF ez_44
        refine lv_iinc (v := z_44) (lv' := [(3, .int z_44), (0, .ref a), (1, .int v1), (2, .int v2)]) hx hb dX12_honestFor_20 hl (k := 3) rfl (by rw [ez_44]; rfl) (by decide) rfl (fun ls hl => ?_)
        have iz_44 : z_44.toInt = x_1.toInt + 1 := q_inc ez_44 (by first | (clear h0 h1 hh hm2 ahpσ_42 bhpσ_42 chpσ_42 ir_41; omega) | omega)
        refine lv_goto (tgt := 2) hx hb dX12_honestFor_23 (by decide) ?_
        exact ih2 z_44 σ_43 _ _ ls (by first | (clear h0 h1 hh ahpσ_42 bhpσ_42 chpσ_42 ir_41; omega) | omega) (by first | (clear h0 h1 hh hm2 ahpσ_42 bhpσ_42 chpσ_42 ir_41; omega) | omega) fr_σ_43 feσ_43 hF hI (lv_sub hl [1, 2, 3, 0] rfl)
  have kc_45 : (0 : Int32).toInt = 0 := zt_0
  exact L_2_3 ((2147483647 - (0 : Int32).toInt).toNat + 1) 0 σ _ _ ls (Nat.lt_succ_self _) (by decide) fr_σ feσ hF hI (lv_sub hl [1, 2, 3, 0] rfl)

set_option maxRecDepth 100000 in
set_option maxHeartbeats 4000000 in
theorem c_X12_honestly (l : Launch) (X : XW) (σ : ST) (a : Nat) (v1 : Int32) (v2 : Int32) (ha : q_kd X a = 12) (hG : m_G (m_c X σ a)) : Met l yX12_honestly (q_ws yX12_honestly cX12_honestly 3 (some .int)) (q_rm 4 93) (q_P X σ [.ref a, .int v1, .int v2]) (q_Qi X 8 σ (fun (r : Int32) (σ' : ST) => (r, σ') = F_X12_honestly X σ a v1 v2 ∧ q_ow [(12, 0), (12, 1), (12, 33), (12, 34), (12, 35), (38, 99)] [] X σ σ')) 0 0 (q_reg X) := by
  refine q_met 8 (by first | exact rfl | decide +kernel) rfl (Nat.le_of_ble_eq_true rfl) (fun p e s m below meth c E hml hr hlk hI ls hl => ?_)
  have hx := E.1
  have hb := E.2.1
  have hl : lv_has ls 3 [(0, .ref a), (1, .int v1), (2, .int v2)] := hl
  have feσ : m_c X σ a = m_c X σ a := rfl
  have fr_σ : q_ow [(12, 0), (12, 1), (12, 33), (12, 34), (12, 35), (38, 99)] [] X σ σ := q_ow.rf
  have hh := hG.hd
  obtain ⟨out, hout⟩ : ∃ o, o = F_X12_honestly X σ a v1 v2 := ⟨_, rfl⟩
  have hF := hout.symm
  unfold F_X12_honestly at hF
  refine lv_aload_n hx hb dX12_honestly_0 rfl (lv_at hl 0 rfl) ?_
  refine lv_iconst (v := 0) hx hb dX12_honestly_1 zki_0 ?_
  refine ps_X12_59_12 E hI ha (by decide) dX12_honestly_2 (fun H locs σ_1 hσ_1 hI => ?_)
  replace hF := q_letX hF hσ_1
  have fr_σ_1 := fr_σ.si hσ_1 ha rfl
  have mcσ_1 := m_wo hσ_1 (m_ne ha (q_tk (f := 20) (k' := 34) hI ha rfl (by decide)) (by decide))
  have feσ_1 : m_c X σ_1 a = m_c X σ a := (funext mcσ_1).trans feσ
  refine lv_aload_n hx hb dX12_honestly_5 rfl (lv_at hl 0 rfl) ?_
  refine lv_iconst (v := 0) hx hb dX12_honestly_6 zki_0 ?_
  refine ps_X12_62_12 E hI ha (by decide) dX12_honestly_7 (fun H locs σ_2 hσ_2 hI => ?_)
  replace hF := q_letX hF hσ_2
  have fr_σ_2 := fr_σ_1.si hσ_2 ha rfl
  have mcσ_2 := m_wo hσ_2 (m_ne ha (q_tk (f := 20) (k' := 34) hI ha rfl (by decide)) (by decide))
  have feσ_2 : m_c X σ_2 a = m_c X σ a := (funext mcσ_2).trans feσ_1
  refine lv_aload_n hx hb dX12_honestly_10 rfl (lv_at hl 0 rfl) ?_
  refine lv_iload_n hx hb dX12_honestly_11 rfl (lv_at hl 1 rfl) ?_
  refine q_ci (q_rV11_1 (rest := []) E (hml.trans hl.1.symm) hI (c_X12_isPlayerAt l X σ_2 a v1 ha (by rw [feσ_2]; exact hG)) kv_X12_290 ha ⟨Nat.le_of_ble_eq_true rfl, Nat.le_of_ble_eq_true rfl⟩ (Nat.le_of_ble_eq_true rfl) dX12_honestly_12) hI (Nat.le_of_ble_eq_true rfl) (fun r_3 σ_4 H locs hpσ_4 hkσ_4 hI => ?_)
  have ahpσ_4 := hpσ_4.1
  have bhpσ_4 := hpσ_4.2.1
  have chpσ_4 := hpσ_4.2.2.1
  have dhpσ_4 := hpσ_4.2.2.2
  clear hpσ_4
  replace hI := q_Irw ahpσ_4 hI
  rw [feσ_2] at chpσ_4
  replace hF := q_letX hF dhpσ_4
  refine q_if_ne (A := r_3.toInt) E rfl (tgt := 24) dX12_honestly_15 (by decide) (fun c_5 => ?_) (fun c_5 => ?_)
  · skip
    replace hF := q_ifn hF c_5
    replace c_5 := q_ifOne bhpσ_4 c_5
    replace chpσ_4 := q_ifYes chpσ_4 c_5
    refine lv_iload_n hx hb dX12_honestly_24 rfl (lv_at hl 2 rfl) ?_
    refine lv_i2l hx hb dX12_honestly_25 rfl ?_
    refine lv_topl (fun y_6 ey_6 => ?_)
    replace hF := q_letX hF ey_6
    have ggy_6 := q_rng v2
    have iy_6 : y_6.toInt = v2.toInt := by rw [ey_6]; exact (q_i2l _).trans rfl
    refine lv_lconst (v := 0) hx hb dX12_honestly_26 (by decide) ?_
    refine lv_ldc2 (v := 60) hx hb E.2.2.1 (E.2.2.2.1 _ (q_in_t9 (i := 70) (by first | rfl | decide +kernel) rfl)) dX12_honestly_27 ?_
    have kc_7 : (0 : Int64).toInt = 0 := rfl
    have kc_8 : (60 : Int64).toInt = 60 := rfl
    refine q_ci (q_runS (As := [.long y_6, .long 0, .long 60]) (rest := []) E (hml.trans hl.1.symm) hI (c_X12_isIn l X σ_2 y_6 (0 : Int64) (60 : Int64)) ks_X12_94 rfl ⟨Nat.le_of_ble_eq_true rfl, Nat.le_of_ble_eq_true rfl⟩ ⟨Nat.le_refl _, Nat.le_refl _⟩ rfl (Nat.le_of_ble_eq_true rfl) dX12_honestly_30) hI (Nat.le_of_ble_eq_true rfl) (fun r_9 σ_10 H locs hpσ_10 hkσ_10 hI => ?_)
    have ahpσ_10 := hpσ_10.1
    have bhpσ_10 := hpσ_10.2.1
    have chpσ_10 := hpσ_10.2.2.1
    have dhpσ_10 := hpσ_10.2.2.2
    clear hpσ_10
    replace hI := q_Irw ahpσ_10 hI
    replace hF := q_letX hF dhpσ_10
    refine q_if_ne (A := r_9.toInt) E rfl (tgt := 42) dX12_honestly_33 (by decide) (fun c_11 => ?_) (fun c_11 => ?_)
    · skip
      replace hF := q_ifn hF c_11
      replace c_11 := q_ifOne bhpσ_10 c_11
      replace chpσ_10 := q_ifYes chpσ_10 c_11
      refine lv_aload_n hx hb dX12_honestly_42 rfl (lv_at hl 0 rfl) ?_
      refine lv_iload_n hx hb dX12_honestly_43 rfl (lv_at hl 1 rfl) ?_
      refine lv_iload_n hx hb dX12_honestly_44 rfl (lv_at hl 2 rfl) ?_
      refine q_ci (q_rV11_2 (rest := []) E (hml.trans hl.1.symm) hI (c_X12_honestFor l X σ_2 a v1 v2 ha (by rw [feσ_2]; exact hG) (by rw [feσ_2]; exact (by omega)) (by omega)) kv_X12_387 ha ⟨Nat.le_of_ble_eq_true rfl, Nat.le_of_ble_eq_true rfl⟩ (Nat.le_of_ble_eq_true rfl) dX12_honestly_45) hI (Nat.le_of_ble_eq_true rfl) (fun r_12 σ_13 H locs hpσ_13 hkσ_13 hI => ?_)
      have ahpσ_13 := hpσ_13.1
      have bhpσ_13 := hpσ_13.2
      clear hpσ_13
      have fr_σ_13 := fr_σ_2.call bhpσ_13 rfl rfl
      replace hF := q_biX hF ahpσ_13
      have mcσ_13 := m_cK hkσ_13 hI.1 ha (by decide)
      have feσ_13 : m_c X σ_13 a = m_c X σ a := (funext mcσ_13).trans feσ_2
      refine lv_pop hx hb dX12_honestly_48 rfl ?_
      refine lv_aload_n hx hb dX12_honestly_49 rfl (lv_at hl 0 rfl) ?_
      refine gs_X12_375_12 E hI ha dX12_honestly_50 ?_
      refine lv_topi (fun f_14 ef_14 => ?_)
      replace hF := q_letX hF ef_14
      have if_14 : f_14.toInt = (σ_13.1 a 33).toInt := congrArg Int32.toInt ef_14
      exact q_reti E hr hlk hI ⟨(hF.trans hout), fr_σ_13⟩ dX12_honestly_53
    · skip
      replace hF := q_ifp hF c_11
      replace chpσ_10 := q_ifNo chpσ_10 c_11
      refine lv_aload_n hx hb dX12_honestly_36 rfl (lv_at hl 0 rfl) ?_
      refine lv_iconst (v := 5) hx hb dX12_honestly_37 zki_5 ?_
      have kc_15 : (5 : Int32).toInt = 5 := zt_5
      refine q_ci (q_rV11_1 (rest := []) E (hml.trans hl.1.symm) hI (c_X12_refuse l X σ_2 a (5 : Int32) ha) kv_X12_284 ha ⟨Nat.le_of_ble_eq_true rfl, Nat.le_of_ble_eq_true rfl⟩ (Nat.le_of_ble_eq_true rfl) dX12_honestly_38) hI (Nat.le_of_ble_eq_true rfl) (fun r_16 σ_17 H locs hpσ_17 hkσ_17 hI => ?_)
      have ahpσ_17 := hpσ_17.1
      have bhpσ_17 := hpσ_17.2.1
      have chpσ_17 := hpσ_17.2.2
      clear hpσ_17
      have fr_σ_17 := fr_σ_2.call chpσ_17 rfl rfl
      replace hF := q_biX hF bhpσ_17
      have mcσ_17 := m_cK hkσ_17 hI.1 ha (by decide)
      have feσ_17 : m_c X σ_17 a = m_c X σ a := (funext mcσ_17).trans feσ_2
      exact q_reti E hr hlk hI ⟨(hF.trans hout), fr_σ_17⟩ dX12_honestly_41
  · skip
    replace hF := q_ifp hF c_5
    replace chpσ_4 := q_ifNo chpσ_4 c_5
    refine lv_aload_n hx hb dX12_honestly_18 rfl (lv_at hl 0 rfl) ?_
    refine lv_iconst (v := 2) hx hb dX12_honestly_19 zki_2 ?_
    have kc_18 : (2 : Int32).toInt = 2 := zt_2
    refine q_ci (q_rV11_1 (rest := []) E (hml.trans hl.1.symm) hI (c_X12_refuse l X σ_2 a (2 : Int32) ha) kv_X12_284 ha ⟨Nat.le_of_ble_eq_true rfl, Nat.le_of_ble_eq_true rfl⟩ (Nat.le_of_ble_eq_true rfl) dX12_honestly_20) hI (Nat.le_of_ble_eq_true rfl) (fun r_19 σ_20 H locs hpσ_20 hkσ_20 hI => ?_)
    have ahpσ_20 := hpσ_20.1
    have bhpσ_20 := hpσ_20.2.1
    have chpσ_20 := hpσ_20.2.2
    clear hpσ_20
    have fr_σ_20 := fr_σ_2.call chpσ_20 rfl rfl
    replace hF := q_biX hF bhpσ_20
    have mcσ_20 := m_cK hkσ_20 hI.1 ha (by decide)
    have feσ_20 : m_c X σ_20 a = m_c X σ a := (funext mcσ_20).trans feσ_2
    exact q_reti E hr hlk hI ⟨(hF.trans hout), fr_σ_20⟩ dX12_honestly_23

set_option maxRecDepth 100000 in
set_option maxHeartbeats 4000000 in
theorem c_X12_ridOf (l : Launch) (X : XW) (σ : ST) (a : Nat) (v1 : Int32) (ha : q_kd X a = 12) (hG : m_G (m_c X σ a)) (h0 : 0 ≤ v1.toInt ∧ v1.toInt < m_c X σ a 2) : Met l yX12_ridOf (q_ws yX12_ridOf cX12_ridOf 3 (some .int)) (q_rm 4 93) (q_P X σ [.ref a, .int v1]) (q_Qi X 8 σ (fun (r : Int32) (σ' : ST) => (-1 ≤ r.toInt ∧ r.toInt ≤ 60) ∧ (r, σ') = F_X12_ridOf X σ a v1 ∧ q_ow [(12, 33), (12, 34), (12, 35), (38, 99)] [] X σ σ')) 0 0 (q_reg X) := by
  refine q_met 8 (by first | exact rfl | decide +kernel) rfl (Nat.le_of_ble_eq_true rfl) (fun p e s m below meth c E hml hr hlk hI ls hl => ?_)
  have hx := E.1
  have hb := E.2.1
  have hl : lv_has ls 3 [(0, .ref a), (1, .int v1)] := hl
  have feσ : m_c X σ a = m_c X σ a := rfl
  have fr_σ : q_ow [(12, 33), (12, 34), (12, 35), (38, 99)] [] X σ σ := q_ow.rf
  have hh := hG.hd
  obtain ⟨out, hout⟩ : ∃ o, o = F_X12_ridOf X σ a v1 := ⟨_, rfl⟩
  have hF := hout.symm
  unfold F_X12_ridOf at hF
  refine lv_iconst (v := 0) hx hb dX12_ridOf_0 zki_0 ?_
  refine lv_istore_n (lv' := [(2, .int 0), (0, .ref a), (1, .int v1)]) hx hb dX12_ridOf_1 rfl hl (by decide) rfl (fun ls hl => ?_)
  have L_2_3 : ∀ (k_3 : Nat) (x_1 : Int32) (σ_2 : ST) (H : Heap) (locs : List Loc) (ls : Array Slot), (2147483647 - x_1.toInt).toNat < k_3 → (0 ≤ x_1.toInt) → (q_ow [(12, 33), (12, 34), (12, 35), (38, 99)] [] X σ σ_2) → (m_c X σ_2 a = m_c X σ a) → (F_X12_ridOf_L2_1 X a v1 k_3 x_1 σ_2 = out) → q_I X 8 σ s.heap locs σ_2 H → lv_has ls 3 [(0, .ref a), (1, .int v1), (2, .int x_1)] → W p l e (q_rm 4 93) s m ([.ref a, .int v1] : List Value).toArray below meth c H locs 0 0 (MQ below (q_Qi X 8 σ (fun (r : Int32) (σ' : ST) => (-1 ≤ r.toInt ∧ r.toInt ≤ 60) ∧ (r, σ') = F_X12_ridOf X σ a v1 ∧ q_ow [(12, 33), (12, 34), (12, 35), (38, 99)] [] X σ σ')) ([.ref a, .int v1] : List Value).toArray s 0 0 (q_reg X)) (F0 m 2 ls []) := by
    clear hF
    intro k_3
    induction k_3 with
    | zero =>
      intro x_1 σ_2 H locs ls hms
      try clear feσ; try clear fr_σ
      exact absurd hms (Nat.not_lt_zero _)
    | succ k_3 ih2 =>
      intro x_1 σ_2 H locs ls hm2 hge2 fr_σ_2 feσ_2 hF hI hl
      replace hF := (F_X12_ridOf_L2_1_s).symm.trans hF
      unfold F_X12_ridOf_B2_1 at hF
      refine lv_iload_n hx hb dX12_ridOf_2 rfl (lv_at hl 2 rfl) ?_
      refine lv_bipush (v := 60) hx hb dX12_ridOf_3 zkb_60 ?_
      have gc_4_x_1 := q_rng x_1
      refine q_icmp_gt (A := x_1.toInt) (B := 60) E rfl (by decide) (tgt := 25) dX12_ridOf_5 (by decide) (fun c_4 => ?_) (fun c_4 => ?_)
      · skip
        replace hF := q_ifp hF c_4
        skip
        refine lv_iconst (v := (-1)) hx hb dX12_ridOf_25 zki_m1 ?_
        have hrv : ((-1) : Int32).toInt = (-1) := zt_m1
        exact q_reti E hr hlk hI ⟨(by first | (clear h0 hh hm2 hge2 gc_4_x_1 c_4; omega) | omega), (hF.trans hout), fr_σ_2⟩ dX12_ridOf_26
      · skip
        replace hF := q_ifn hF (Int.not_lt.mpr c_4)
        refine lv_aload_n hx hb dX12_ridOf_8 rfl (lv_at hl 0 rfl) ?_
        refine lv_iload_n hx hb dX12_ridOf_9 rfl (lv_at hl 1 rfl) ?_
        refine lv_iload_n hx hb dX12_ridOf_10 rfl (lv_at hl 2 rfl) ?_
        refine q_ci (q_rV11_2 (rest := []) E (hml.trans hl.1.symm) hI (c_X12_honestFor l X σ_2 a v1 x_1 ha (by rw [feσ_2]; exact hG) (by rw [feσ_2]; exact (by omega)) (by first | (clear h0 hh hm2; omega) | omega)) kv_X12_387 ha ⟨Nat.le_of_ble_eq_true rfl, Nat.le_of_ble_eq_true rfl⟩ (Nat.le_of_ble_eq_true rfl) dX12_ridOf_11) hI (Nat.le_of_ble_eq_true rfl) (fun r_5 σ_6 H locs hpσ_6 hkσ_6 hI => ?_)
        have ahpσ_6 := hpσ_6.1
        have bhpσ_6 := hpσ_6.2
        clear hpσ_6
        have fr_σ_6 := fr_σ_2.call bhpσ_6 rfl rfl
        replace hF := q_biX hF ahpσ_6
        have mcσ_6 := m_cK hkσ_6 hI.1 ha (by decide)
        have feσ_6 : m_c X σ_6 a = m_c X σ a := (funext mcσ_6).trans feσ_2
        refine q_if_ne (A := r_5.toInt) E rfl (tgt := 19) dX12_ridOf_14 (by decide) (fun c_7 => ?_) (fun c_7 => ?_)
        · skip
          replace hF := q_ifn hF c_7
          obtain ⟨z_8, ez_8⟩ : ∃ y : Int32, y = x_1 + 1 := ⟨_, rfl⟩
          replace hF := q_letX hF ez_8
          refine lv_iinc (v := z_8) (lv' := [(2, .int z_8), (0, .ref a), (1, .int v1)]) hx hb dX12_ridOf_19 hl (k := 2) rfl (by rw [ez_8]; rfl) (by decide) rfl (fun ls hl => ?_)
          have iz_8 : z_8.toInt = x_1.toInt + 1 := q_inc ez_8 (by first | (clear h0 hh hm2 ahpσ_6 bhpσ_6 c_7; omega) | omega)
          refine lv_goto (tgt := 2) hx hb dX12_ridOf_22 (by decide) ?_
          exact ih2 z_8 σ_6 _ _ ls (by first | (clear h0 hh ahpσ_6 bhpσ_6; omega) | omega) (by first | (clear h0 hh hm2 ahpσ_6 bhpσ_6 c_7; omega) | omega) fr_σ_6 feσ_6 hF hI (lv_sub hl [1, 2, 0] rfl)
        · skip
          replace hF := q_ifp hF c_7
          skip
          refine lv_iload_n hx hb dX12_ridOf_17 rfl (lv_at hl 2 rfl) ?_
          exact q_reti E hr hlk hI ⟨(by first | (clear h0 hh hm2 ahpσ_6 bhpσ_6 c_7; omega) | omega), (hF.trans hout), fr_σ_6⟩ dX12_ridOf_18
  have kc_9 : (0 : Int32).toInt = 0 := zt_0
  exact L_2_3 ((2147483647 - (0 : Int32).toInt).toNat + 1) 0 σ _ _ ls (Nat.lt_succ_self _) (by decide) fr_σ feσ hF hI (lv_sub hl [1, 2, 0] rfl)

set_option maxRecDepth 100000 in
set_option maxHeartbeats 4000000 in
theorem c_X12_rid (l : Launch) (X : XW) (σ : ST) (a : Nat) (v1 : Int32) (ha : q_kd X a = 12) (hG : m_G (m_c X σ a)) : Met l yX12_rid (q_ws yX12_rid cX12_rid 3 (some .int)) (q_rm 5 115) (q_P X σ [.ref a, .int v1]) (q_Qi X 8 σ (fun (r : Int32) (σ' : ST) => (r, σ') = F_X12_rid X σ a v1 ∧ q_ow [(12, 0), (12, 1), (12, 33), (12, 34), (12, 35), (38, 99)] [] X σ σ')) 0 0 (q_reg X) := by
  refine q_met 8 (by first | exact rfl | decide +kernel) rfl (Nat.le_of_ble_eq_true rfl) (fun p e s m below meth c E hml hr hlk hI ls hl => ?_)
  have hx := E.1
  have hb := E.2.1
  have hl : lv_has ls 3 [(0, .ref a), (1, .int v1)] := hl
  have feσ : m_c X σ a = m_c X σ a := rfl
  have fr_σ : q_ow [(12, 0), (12, 1), (12, 33), (12, 34), (12, 35), (38, 99)] [] X σ σ := q_ow.rf
  have hh := hG.hd
  obtain ⟨out, hout⟩ : ∃ o, o = F_X12_rid X σ a v1 := ⟨_, rfl⟩
  have hF := hout.symm
  unfold F_X12_rid at hF
  refine lv_aload_n hx hb dX12_rid_0 rfl (lv_at hl 0 rfl) ?_
  refine lv_iconst (v := 0) hx hb dX12_rid_1 zki_0 ?_
  refine ps_X12_59_12 E hI ha (by decide) dX12_rid_2 (fun H locs σ_1 hσ_1 hI => ?_)
  replace hF := q_letX hF hσ_1
  have fr_σ_1 := fr_σ.si hσ_1 ha rfl
  have mcσ_1 := m_wo hσ_1 (m_ne ha (q_tk (f := 20) (k' := 34) hI ha rfl (by decide)) (by decide))
  have feσ_1 : m_c X σ_1 a = m_c X σ a := (funext mcσ_1).trans feσ
  refine lv_aload_n hx hb dX12_rid_5 rfl (lv_at hl 0 rfl) ?_
  refine lv_iconst (v := 0) hx hb dX12_rid_6 zki_0 ?_
  refine ps_X12_62_12 E hI ha (by decide) dX12_rid_7 (fun H locs σ_2 hσ_2 hI => ?_)
  replace hF := q_letX hF hσ_2
  have fr_σ_2 := fr_σ_1.si hσ_2 ha rfl
  have mcσ_2 := m_wo hσ_2 (m_ne ha (q_tk (f := 20) (k' := 34) hI ha rfl (by decide)) (by decide))
  have feσ_2 : m_c X σ_2 a = m_c X σ a := (funext mcσ_2).trans feσ_1
  refine lv_aload_n hx hb dX12_rid_10 rfl (lv_at hl 0 rfl) ?_
  refine lv_iload_n hx hb dX12_rid_11 rfl (lv_at hl 1 rfl) ?_
  refine q_ci (q_rV11_1 (rest := []) E (hml.trans hl.1.symm) hI (c_X12_isPlayerAt l X σ_2 a v1 ha (by rw [feσ_2]; exact hG)) kv_X12_290 ha ⟨Nat.le_of_ble_eq_true rfl, Nat.le_of_ble_eq_true rfl⟩ (Nat.le_of_ble_eq_true rfl) dX12_rid_12) hI (Nat.le_of_ble_eq_true rfl) (fun r_3 σ_4 H locs hpσ_4 hkσ_4 hI => ?_)
  have ahpσ_4 := hpσ_4.1
  have bhpσ_4 := hpσ_4.2.1
  have chpσ_4 := hpσ_4.2.2.1
  have dhpσ_4 := hpσ_4.2.2.2
  clear hpσ_4
  replace hI := q_Irw ahpσ_4 hI
  rw [feσ_2] at chpσ_4
  replace hF := q_letX hF dhpσ_4
  refine q_if_ne (A := r_3.toInt) E rfl (tgt := 24) dX12_rid_15 (by decide) (fun c_5 => ?_) (fun c_5 => ?_)
  · skip
    replace hF := q_ifn hF c_5
    replace c_5 := q_ifOne bhpσ_4 c_5
    replace chpσ_4 := q_ifYes chpσ_4 c_5
    refine lv_aload_n hx hb dX12_rid_24 rfl (lv_at hl 0 rfl) ?_
    refine lv_iload_n hx hb dX12_rid_25 rfl (lv_at hl 1 rfl) ?_
    refine q_ci (q_rV11_1 (rest := []) E (hml.trans hl.1.symm) hI (c_X12_ridOf l X σ_2 a v1 ha (by rw [feσ_2]; exact hG) (by rw [feσ_2]; exact (by omega))) kv_X12_390 ha ⟨Nat.le_of_ble_eq_true rfl, Nat.le_of_ble_eq_true rfl⟩ (Nat.le_of_ble_eq_true rfl) dX12_rid_26) hI (Nat.le_of_ble_eq_true rfl) (fun r_6 σ_7 H locs hpσ_7 hkσ_7 hI => ?_)
    have ahpσ_7 := hpσ_7.1
    have bhpσ_7 := hpσ_7.2.1
    have chpσ_7 := hpσ_7.2.2
    clear hpσ_7
    have fr_σ_7 := fr_σ_2.call chpσ_7 rfl rfl
    replace hF := q_biX hF bhpσ_7
    have mcσ_7 := m_cK hkσ_7 hI.1 ha (by decide)
    have feσ_7 : m_c X σ_7 a = m_c X σ a := (funext mcσ_7).trans feσ_2
    refine lv_istore_n (lv' := [(2, .int r_6), (0, .ref a), (1, .int v1)]) hx hb dX12_rid_29 rfl hl (by decide) rfl (fun ls hl => ?_)
    refine lv_iload_n hx hb dX12_rid_30 rfl (lv_at hl 0 rfl) ?_
    refine q_if_ge (A := r_6.toInt) E rfl (tgt := 43) dX12_rid_31 (by decide) (fun c_8 => ?_) (fun c_8 => ?_)
    · skip
      replace hF := q_ifn hF (Int.not_lt.mpr c_8)
      refine lv_iload_n hx hb dX12_rid_43 rfl (lv_at hl 0 rfl) ?_
      exact q_reti E hr hlk hI ⟨(hF.trans hout), fr_σ_7⟩ dX12_rid_44
    · skip
      replace hF := q_ifp hF c_8
      refine lv_aload_n hx hb dX12_rid_34 rfl (lv_at hl 1 rfl) ?_
      refine lv_bipush (v := 8) hx hb dX12_rid_35 zkb_8 ?_
      have kc_9 : (8 : Int32).toInt = 8 := zt_8
      refine q_ci (q_rV11_1 (rest := []) E (hml.trans hl.1.symm) hI (c_X12_refuse l X σ_7 a (8 : Int32) ha) kv_X12_284 ha ⟨Nat.le_of_ble_eq_true rfl, Nat.le_of_ble_eq_true rfl⟩ (Nat.le_of_ble_eq_true rfl) dX12_rid_37) hI (Nat.le_of_ble_eq_true rfl) (fun r_10 σ_11 H locs hpσ_11 hkσ_11 hI => ?_)
      have ahpσ_11 := hpσ_11.1
      have bhpσ_11 := hpσ_11.2.1
      have chpσ_11 := hpσ_11.2.2
      clear hpσ_11
      have fr_σ_11 := fr_σ_7.call chpσ_11 rfl rfl
      replace hF := q_biX hF bhpσ_11
      have mcσ_11 := m_cK hkσ_11 hI.1 ha (by decide)
      have feσ_11 : m_c X σ_11 a = m_c X σ a := (funext mcσ_11).trans feσ_7
      refine lv_goto (tgt := 44) hx hb dX12_rid_40 (by decide) ?_
      exact q_reti E hr hlk hI ⟨(hF.trans hout), fr_σ_11⟩ dX12_rid_44
  · skip
    replace hF := q_ifp hF c_5
    replace chpσ_4 := q_ifNo chpσ_4 c_5
    refine lv_aload_n hx hb dX12_rid_18 rfl (lv_at hl 0 rfl) ?_
    refine lv_iconst (v := 2) hx hb dX12_rid_19 zki_2 ?_
    have kc_12 : (2 : Int32).toInt = 2 := zt_2
    refine q_ci (q_rV11_1 (rest := []) E (hml.trans hl.1.symm) hI (c_X12_refuse l X σ_2 a (2 : Int32) ha) kv_X12_284 ha ⟨Nat.le_of_ble_eq_true rfl, Nat.le_of_ble_eq_true rfl⟩ (Nat.le_of_ble_eq_true rfl) dX12_rid_20) hI (Nat.le_of_ble_eq_true rfl) (fun r_13 σ_14 H locs hpσ_14 hkσ_14 hI => ?_)
    have ahpσ_14 := hpσ_14.1
    have bhpσ_14 := hpσ_14.2.1
    have chpσ_14 := hpσ_14.2.2
    clear hpσ_14
    have fr_σ_14 := fr_σ_2.call chpσ_14 rfl rfl
    replace hF := q_biX hF bhpσ_14
    have mcσ_14 := m_cK hkσ_14 hI.1 ha (by decide)
    have feσ_14 : m_c X σ_14 a = m_c X σ a := (funext mcσ_14).trans feσ_2
    exact q_reti E hr hlk hI ⟨(hF.trans hout), fr_σ_14⟩ dX12_rid_23

set_option maxRecDepth 100000 in
set_option maxHeartbeats 4000000 in
theorem c_X12_lastKind (l : Launch) (X : XW) (σ : ST) (a : Nat) (v1 : Int32) (ha : q_kd X a = 12) (hG : m_G (m_c X σ a)) : Met l yX12_lastKind (q_ws yX12_lastKind cX12_lastKind 2 (some .int)) (q_rm 5 115) (q_P X σ [.ref a, .int v1]) (q_Qi X 8 σ (fun (r : Int32) (σ' : ST) => (r, σ') = F_X12_lastKind X σ a v1 ∧ q_ow [(12, 0), (12, 1), (12, 33), (12, 34), (12, 35), (38, 99)] [] X σ σ')) 0 0 (q_reg X) := by
  refine q_met 8 (by first | exact rfl | decide +kernel) rfl (Nat.le_of_ble_eq_true rfl) (fun p e s m below meth c E hml hr hlk hI ls hl => ?_)
  have hx := E.1
  have hb := E.2.1
  have hl : lv_has ls 2 [(0, .ref a), (1, .int v1)] := hl
  have feσ : m_c X σ a = m_c X σ a := rfl
  have fr_σ : q_ow [(12, 0), (12, 1), (12, 33), (12, 34), (12, 35), (38, 99)] [] X σ σ := q_ow.rf
  have hh := hG.hd
  obtain ⟨out, hout⟩ : ∃ o, o = F_X12_lastKind X σ a v1 := ⟨_, rfl⟩
  have hF := hout.symm
  unfold F_X12_lastKind at hF
  refine lv_aload_n hx hb dX12_lastKind_0 rfl (lv_at hl 0 rfl) ?_
  refine lv_iconst (v := 0) hx hb dX12_lastKind_1 zki_0 ?_
  refine ps_X12_59_12 E hI ha (by decide) dX12_lastKind_2 (fun H locs σ_1 hσ_1 hI => ?_)
  replace hF := q_letX hF hσ_1
  have fr_σ_1 := fr_σ.si hσ_1 ha rfl
  have mcσ_1 := m_wo hσ_1 (m_ne ha (q_tk (f := 20) (k' := 34) hI ha rfl (by decide)) (by decide))
  have feσ_1 : m_c X σ_1 a = m_c X σ a := (funext mcσ_1).trans feσ
  refine lv_aload_n hx hb dX12_lastKind_5 rfl (lv_at hl 0 rfl) ?_
  refine lv_iconst (v := 0) hx hb dX12_lastKind_6 zki_0 ?_
  refine ps_X12_62_12 E hI ha (by decide) dX12_lastKind_7 (fun H locs σ_2 hσ_2 hI => ?_)
  replace hF := q_letX hF hσ_2
  have fr_σ_2 := fr_σ_1.si hσ_2 ha rfl
  have mcσ_2 := m_wo hσ_2 (m_ne ha (q_tk (f := 20) (k' := 34) hI ha rfl (by decide)) (by decide))
  have feσ_2 : m_c X σ_2 a = m_c X σ a := (funext mcσ_2).trans feσ_1
  refine lv_aload_n hx hb dX12_lastKind_10 rfl (lv_at hl 0 rfl) ?_
  refine lv_iload_n hx hb dX12_lastKind_11 rfl (lv_at hl 1 rfl) ?_
  refine q_ci (q_rV11_1 (rest := []) E (hml.trans hl.1.symm) hI (c_X12_isPlayerAt l X σ_2 a v1 ha (by rw [feσ_2]; exact hG)) kv_X12_290 ha ⟨Nat.le_of_ble_eq_true rfl, Nat.le_of_ble_eq_true rfl⟩ (Nat.le_of_ble_eq_true rfl) dX12_lastKind_12) hI (Nat.le_of_ble_eq_true rfl) (fun r_3 σ_4 H locs hpσ_4 hkσ_4 hI => ?_)
  have ahpσ_4 := hpσ_4.1
  have bhpσ_4 := hpσ_4.2.1
  have chpσ_4 := hpσ_4.2.2.1
  have dhpσ_4 := hpσ_4.2.2.2
  clear hpσ_4
  replace hI := q_Irw ahpσ_4 hI
  rw [feσ_2] at chpσ_4
  replace hF := q_letX hF dhpσ_4
  refine q_if_ne (A := r_3.toInt) E rfl (tgt := 24) dX12_lastKind_15 (by decide) (fun c_5 => ?_) (fun c_5 => ?_)
  · skip
    replace hF := q_ifn hF c_5
    replace c_5 := q_ifOne bhpσ_4 c_5
    replace chpσ_4 := q_ifYes chpσ_4 c_5
    refine lv_aload_n hx hb dX12_lastKind_24 rfl (lv_at hl 0 rfl) ?_
    refine lv_iload_n hx hb dX12_lastKind_25 rfl (lv_at hl 1 rfl) ?_
    refine q_ci (q_rV11_1 (rest := []) E (hml.trans hl.1.symm) hI (c_X12_cardsOf l X σ_2 a v1 ha (by rw [feσ_2]; exact hG) (by first | (clear ahpσ_4 bhpσ_4 dhpσ_4 c_5; omega) | omega)) kv_X12_293 ha ⟨Nat.le_of_ble_eq_true rfl, Nat.le_of_ble_eq_true rfl⟩ (Nat.le_of_ble_eq_true rfl) dX12_lastKind_26) hI (Nat.le_of_ble_eq_true rfl) (fun r_6 σ_7 H locs hpσ_7 hkσ_7 hI => ?_)
    have ahpσ_7 := hpσ_7.1
    have bhpσ_7 := hpσ_7.2.1
    have chpσ_7 := hpσ_7.2.2.1
    have dhpσ_7 := hpσ_7.2.2.2
    clear hpσ_7
    replace hI := q_Irw ahpσ_7 hI
    rw [feσ_2] at bhpσ_7
    replace hF := q_letX hF dhpσ_7
    refine q_if_eq (A := r_6.toInt) E rfl (tgt := 40) dX12_lastKind_29 (by decide) (fun c_8 => ?_) (fun c_8 => ?_)
    · skip
      replace hF := q_ifp hF c_8
      refine lv_aload_n hx hb dX12_lastKind_40 rfl (lv_at hl 0 rfl) ?_
      refine lv_bipush (v := 8) hx hb dX12_lastKind_41 zkb_8 ?_
      have kc_9 : (8 : Int32).toInt = 8 := zt_8
      refine q_ci (q_rV11_1 (rest := []) E (hml.trans hl.1.symm) hI (c_X12_refuse l X σ_2 a (8 : Int32) ha) kv_X12_284 ha ⟨Nat.le_of_ble_eq_true rfl, Nat.le_of_ble_eq_true rfl⟩ (Nat.le_of_ble_eq_true rfl) dX12_lastKind_43) hI (Nat.le_of_ble_eq_true rfl) (fun r_10 σ_11 H locs hpσ_11 hkσ_11 hI => ?_)
      have ahpσ_11 := hpσ_11.1
      have bhpσ_11 := hpσ_11.2.1
      have chpσ_11 := hpσ_11.2.2
      clear hpσ_11
      have fr_σ_11 := fr_σ_2.call chpσ_11 rfl rfl
      replace hF := q_biX hF bhpσ_11
      have mcσ_11 := m_cK hkσ_11 hI.1 ha (by decide)
      have feσ_11 : m_c X σ_11 a = m_c X σ a := (funext mcσ_11).trans feσ_2
      exact q_reti E hr hlk hI ⟨(hF.trans hout), fr_σ_11⟩ dX12_lastKind_46
    · skip
      replace hF := q_ifn hF c_8
      refine lv_aload_n hx hb dX12_lastKind_32 rfl (lv_at hl 0 rfl) ?_
      refine lv_iload_n hx hb dX12_lastKind_33 rfl (lv_at hl 1 rfl) ?_
      refine q_ci (q_rV11_1 (rest := []) E (hml.trans hl.1.symm) hI (c_X12_ridOf l X σ_2 a v1 ha (by rw [feσ_2]; exact hG) (by rw [feσ_2]; exact (by omega))) kv_X12_390 ha ⟨Nat.le_of_ble_eq_true rfl, Nat.le_of_ble_eq_true rfl⟩ (Nat.le_of_ble_eq_true rfl) dX12_lastKind_34) hI (Nat.le_of_ble_eq_true rfl) (fun r_12 σ_13 H locs hpσ_13 hkσ_13 hI => ?_)
      have ahpσ_13 := hpσ_13.1
      have bhpσ_13 := hpσ_13.2.1
      have chpσ_13 := hpσ_13.2.2
      clear hpσ_13
      have fr_σ_13 := fr_σ_2.call chpσ_13 rfl rfl
      replace hF := q_biX hF bhpσ_13
      have mcσ_13 := m_cK hkσ_13 hI.1 ha (by decide)
      have feσ_13 : m_c X σ_13 a = m_c X σ a := (funext mcσ_13).trans feσ_2
      refine q_if_ge (A := r_12.toInt) E rfl (tgt := 47) dX12_lastKind_37 (by decide) (fun c_14 => ?_) (fun c_14 => ?_)
      · skip
        replace hF := q_ifn hF (Int.not_lt.mpr c_14)
        refine lv_aload_n hx hb dX12_lastKind_47 rfl (lv_at hl 0 rfl) ?_
        refine gs_X12_378_12 E hI ha dX12_lastKind_48 ?_
        refine lv_topi (fun f_15 ef_15 => ?_)
        replace hF := q_letX hF ef_15
        have if_15 : f_15.toInt = (σ_13.1 a 34).toInt := congrArg Int32.toInt ef_15
        exact q_reti E hr hlk hI ⟨(hF.trans hout), fr_σ_13⟩ dX12_lastKind_51
      · skip
        replace hF := q_ifp hF c_14
        refine lv_aload_n hx hb dX12_lastKind_40 rfl (lv_at hl 0 rfl) ?_
        refine lv_bipush (v := 8) hx hb dX12_lastKind_41 zkb_8 ?_
        have kc_16 : (8 : Int32).toInt = 8 := zt_8
        refine q_ci (q_rV11_1 (rest := []) E (hml.trans hl.1.symm) hI (c_X12_refuse l X σ_13 a (8 : Int32) ha) kv_X12_284 ha ⟨Nat.le_of_ble_eq_true rfl, Nat.le_of_ble_eq_true rfl⟩ (Nat.le_of_ble_eq_true rfl) dX12_lastKind_43) hI (Nat.le_of_ble_eq_true rfl) (fun r_17 σ_18 H locs hpσ_18 hkσ_18 hI => ?_)
        have ahpσ_18 := hpσ_18.1
        have bhpσ_18 := hpσ_18.2.1
        have chpσ_18 := hpσ_18.2.2
        clear hpσ_18
        have fr_σ_18 := fr_σ_13.call chpσ_18 rfl rfl
        replace hF := q_biX hF bhpσ_18
        have mcσ_18 := m_cK hkσ_18 hI.1 ha (by decide)
        have feσ_18 : m_c X σ_18 a = m_c X σ a := (funext mcσ_18).trans feσ_13
        exact q_reti E hr hlk hI ⟨(hF.trans hout), fr_σ_18⟩ dX12_lastKind_46
  · skip
    replace hF := q_ifp hF c_5
    replace chpσ_4 := q_ifNo chpσ_4 c_5
    refine lv_aload_n hx hb dX12_lastKind_18 rfl (lv_at hl 0 rfl) ?_
    refine lv_iconst (v := 2) hx hb dX12_lastKind_19 zki_2 ?_
    have kc_19 : (2 : Int32).toInt = 2 := zt_2
    refine q_ci (q_rV11_1 (rest := []) E (hml.trans hl.1.symm) hI (c_X12_refuse l X σ_2 a (2 : Int32) ha) kv_X12_284 ha ⟨Nat.le_of_ble_eq_true rfl, Nat.le_of_ble_eq_true rfl⟩ (Nat.le_of_ble_eq_true rfl) dX12_lastKind_20) hI (Nat.le_of_ble_eq_true rfl) (fun r_20 σ_21 H locs hpσ_21 hkσ_21 hI => ?_)
    have ahpσ_21 := hpσ_21.1
    have bhpσ_21 := hpσ_21.2.1
    have chpσ_21 := hpσ_21.2.2
    clear hpσ_21
    have fr_σ_21 := fr_σ_2.call chpσ_21 rfl rfl
    replace hF := q_biX hF bhpσ_21
    have mcσ_21 := m_cK hkσ_21 hI.1 ha (by decide)
    have feσ_21 : m_c X σ_21 a = m_c X σ a := (funext mcσ_21).trans feσ_2
    exact q_reti E hr hlk hI ⟨(hF.trans hout), fr_σ_21⟩ dX12_lastKind_23

set_option maxRecDepth 100000 in
set_option maxHeartbeats 4000000 in
theorem c_X12_mustLie (l : Launch) (X : XW) (σ : ST) (a : Nat) (v1 : Int32) (ha : q_kd X a = 12) (hG : m_G (m_c X σ a)) : Met l yX12_mustLie (q_ws yX12_mustLie cX12_mustLie 2 (some .int)) (q_rm 4 93) (q_P X σ [.ref a, .int v1]) (q_Qi X 8 σ (fun (r : Int32) (σ' : ST) => (r, σ') = F_X12_mustLie X σ a v1 ∧ q_ow [(12, 0), (12, 1), (12, 33), (12, 34), (12, 35), (38, 99)] [] X σ σ')) 0 0 (q_reg X) := by
  refine q_met 8 (by first | exact rfl | decide +kernel) rfl (Nat.le_of_ble_eq_true rfl) (fun p e s m below meth c E hml hr hlk hI ls hl => ?_)
  have hx := E.1
  have hb := E.2.1
  have hl : lv_has ls 2 [(0, .ref a), (1, .int v1)] := hl
  have feσ : m_c X σ a = m_c X σ a := rfl
  have fr_σ : q_ow [(12, 0), (12, 1), (12, 33), (12, 34), (12, 35), (38, 99)] [] X σ σ := q_ow.rf
  have hh := hG.hd
  obtain ⟨out, hout⟩ : ∃ o, o = F_X12_mustLie X σ a v1 := ⟨_, rfl⟩
  have hF := hout.symm
  unfold F_X12_mustLie at hF
  refine lv_aload_n hx hb dX12_mustLie_0 rfl (lv_at hl 0 rfl) ?_
  refine lv_iconst (v := 0) hx hb dX12_mustLie_1 zki_0 ?_
  refine ps_X12_59_12 E hI ha (by decide) dX12_mustLie_2 (fun H locs σ_1 hσ_1 hI => ?_)
  replace hF := q_letX hF hσ_1
  have fr_σ_1 := fr_σ.si hσ_1 ha rfl
  have mcσ_1 := m_wo hσ_1 (m_ne ha (q_tk (f := 20) (k' := 34) hI ha rfl (by decide)) (by decide))
  have feσ_1 : m_c X σ_1 a = m_c X σ a := (funext mcσ_1).trans feσ
  refine lv_aload_n hx hb dX12_mustLie_5 rfl (lv_at hl 0 rfl) ?_
  refine lv_iconst (v := 0) hx hb dX12_mustLie_6 zki_0 ?_
  refine ps_X12_62_12 E hI ha (by decide) dX12_mustLie_7 (fun H locs σ_2 hσ_2 hI => ?_)
  replace hF := q_letX hF hσ_2
  have fr_σ_2 := fr_σ_1.si hσ_2 ha rfl
  have mcσ_2 := m_wo hσ_2 (m_ne ha (q_tk (f := 20) (k' := 34) hI ha rfl (by decide)) (by decide))
  have feσ_2 : m_c X σ_2 a = m_c X σ a := (funext mcσ_2).trans feσ_1
  refine lv_aload_n hx hb dX12_mustLie_10 rfl (lv_at hl 0 rfl) ?_
  refine lv_iload_n hx hb dX12_mustLie_11 rfl (lv_at hl 1 rfl) ?_
  refine q_ci (q_rV11_1 (rest := []) E (hml.trans hl.1.symm) hI (c_X12_isPlayerAt l X σ_2 a v1 ha (by rw [feσ_2]; exact hG)) kv_X12_290 ha ⟨Nat.le_of_ble_eq_true rfl, Nat.le_of_ble_eq_true rfl⟩ (Nat.le_of_ble_eq_true rfl) dX12_mustLie_12) hI (Nat.le_of_ble_eq_true rfl) (fun r_3 σ_4 H locs hpσ_4 hkσ_4 hI => ?_)
  have ahpσ_4 := hpσ_4.1
  have bhpσ_4 := hpσ_4.2.1
  have chpσ_4 := hpσ_4.2.2.1
  have dhpσ_4 := hpσ_4.2.2.2
  clear hpσ_4
  replace hI := q_Irw ahpσ_4 hI
  rw [feσ_2] at chpσ_4
  replace hF := q_letX hF dhpσ_4
  refine q_if_ne (A := r_3.toInt) E rfl (tgt := 24) dX12_mustLie_15 (by decide) (fun c_5 => ?_) (fun c_5 => ?_)
  · skip
    replace hF := q_ifn hF c_5
    replace c_5 := q_ifOne bhpσ_4 c_5
    replace chpσ_4 := q_ifYes chpσ_4 c_5
    refine lv_aload_n hx hb dX12_mustLie_24 rfl (lv_at hl 0 rfl) ?_
    refine lv_iload_n hx hb dX12_mustLie_25 rfl (lv_at hl 1 rfl) ?_
    refine lv_bipush (v := 60) hx hb dX12_mustLie_26 zkb_60 ?_
    have kc_6 : (60 : Int32).toInt = 60 := zt_60
    refine q_ci (q_rV11_2 (rest := []) E (hml.trans hl.1.symm) hI (c_X12_honestFor l X σ_2 a v1 (60 : Int32) ha (by rw [feσ_2]; exact hG) (by rw [feσ_2]; exact (by omega)) (by first | (clear hh ahpσ_4 bhpσ_4 dhpσ_4 c_5 chpσ_4; omega) | omega)) kv_X12_387 ha ⟨Nat.le_of_ble_eq_true rfl, Nat.le_of_ble_eq_true rfl⟩ (Nat.le_of_ble_eq_true rfl) dX12_mustLie_28) hI (Nat.le_of_ble_eq_true rfl) (fun r_7 σ_8 H locs hpσ_8 hkσ_8 hI => ?_)
    have ahpσ_8 := hpσ_8.1
    have bhpσ_8 := hpσ_8.2
    clear hpσ_8
    have fr_σ_8 := fr_σ_2.call bhpσ_8 rfl rfl
    replace hF := q_biX hF ahpσ_8
    have mcσ_8 := m_cK hkσ_8 hI.1 ha (by decide)
    have feσ_8 : m_c X σ_8 a = m_c X σ a := (funext mcσ_8).trans feσ_2
    refine lv_pop hx hb dX12_mustLie_31 rfl ?_
    refine lv_aload_n hx hb dX12_mustLie_32 rfl (lv_at hl 0 rfl) ?_
    refine gs_X12_381_12 E hI ha dX12_mustLie_33 ?_
    refine lv_topi (fun f_9 ef_9 => ?_)
    replace hF := q_letX hF ef_9
    have if_9 : f_9.toInt = (σ_8.1 a 35).toInt := congrArg Int32.toInt ef_9
    refine q_if_ge (A := f_9.toInt) E rfl (tgt := 48) dX12_mustLie_36 (by decide) (fun c_10 => ?_) (fun c_10 => ?_)
    · skip
      replace hF := q_ifn hF (Int.not_lt.mpr c_10)
      refine lv_aload_n hx hb dX12_mustLie_48 rfl (lv_at hl 0 rfl) ?_
      refine gs_X12_381_12 E hI ha dX12_mustLie_49 ?_
      refine lv_topi (fun f_11 ef_11 => ?_)
      replace hF := q_letX hF ef_11
      have if_11 : f_11.toInt = (σ_8.1 a 35).toInt := congrArg Int32.toInt ef_11
      exact q_reti E hr hlk hI ⟨(hF.trans hout), fr_σ_8⟩ dX12_mustLie_52
    · skip
      replace hF := q_ifp hF c_10
      refine lv_aload_n hx hb dX12_mustLie_39 rfl (lv_at hl 0 rfl) ?_
      refine lv_bipush (v := 8) hx hb dX12_mustLie_40 zkb_8 ?_
      have kc_12 : (8 : Int32).toInt = 8 := zt_8
      refine q_ci (q_rV11_1 (rest := []) E (hml.trans hl.1.symm) hI (c_X12_refuse l X σ_8 a (8 : Int32) ha) kv_X12_284 ha ⟨Nat.le_of_ble_eq_true rfl, Nat.le_of_ble_eq_true rfl⟩ (Nat.le_of_ble_eq_true rfl) dX12_mustLie_42) hI (Nat.le_of_ble_eq_true rfl) (fun r_13 σ_14 H locs hpσ_14 hkσ_14 hI => ?_)
      have ahpσ_14 := hpσ_14.1
      have bhpσ_14 := hpσ_14.2.1
      have chpσ_14 := hpσ_14.2.2
      clear hpσ_14
      have fr_σ_14 := fr_σ_8.call chpσ_14 rfl rfl
      replace hF := q_biX hF bhpσ_14
      have mcσ_14 := m_cK hkσ_14 hI.1 ha (by decide)
      have feσ_14 : m_c X σ_14 a = m_c X σ a := (funext mcσ_14).trans feσ_8
      refine lv_goto (tgt := 52) hx hb dX12_mustLie_45 (by decide) ?_
      exact q_reti E hr hlk hI ⟨(hF.trans hout), fr_σ_14⟩ dX12_mustLie_52
  · skip
    replace hF := q_ifp hF c_5
    replace chpσ_4 := q_ifNo chpσ_4 c_5
    refine lv_aload_n hx hb dX12_mustLie_18 rfl (lv_at hl 0 rfl) ?_
    refine lv_iconst (v := 2) hx hb dX12_mustLie_19 zki_2 ?_
    have kc_15 : (2 : Int32).toInt = 2 := zt_2
    refine q_ci (q_rV11_1 (rest := []) E (hml.trans hl.1.symm) hI (c_X12_refuse l X σ_2 a (2 : Int32) ha) kv_X12_284 ha ⟨Nat.le_of_ble_eq_true rfl, Nat.le_of_ble_eq_true rfl⟩ (Nat.le_of_ble_eq_true rfl) dX12_mustLie_20) hI (Nat.le_of_ble_eq_true rfl) (fun r_16 σ_17 H locs hpσ_17 hkσ_17 hI => ?_)
    have ahpσ_17 := hpσ_17.1
    have bhpσ_17 := hpσ_17.2.1
    have chpσ_17 := hpσ_17.2.2
    clear hpσ_17
    have fr_σ_17 := fr_σ_2.call chpσ_17 rfl rfl
    replace hF := q_biX hF bhpσ_17
    have mcσ_17 := m_cK hkσ_17 hI.1 ha (by decide)
    have feσ_17 : m_c X σ_17 a = m_c X σ a := (funext mcσ_17).trans feσ_2
    exact q_reti E hr hlk hI ⟨(hF.trans hout), fr_σ_17⟩ dX12_mustLie_23

set_option maxRecDepth 100000 in
set_option maxHeartbeats 4000000 in
theorem c_X12_soonest (l : Launch) (X : XW) (σ : ST) (a : Nat) (ha : q_kd X a = 12) (hG : m_G (m_c X σ a)) : Met l yX12_soonest (q_ws yX12_soonest cX12_soonest 5 (some .int)) (q_rm 5 115) (q_P X σ [.ref a]) (q_Qi X 8 σ (fun (r : Int32) (σ' : ST) => (r, σ') = F_X12_soonest X σ a ∧ q_ow [(12, 0), (12, 1), (12, 33), (12, 34), (12, 35), (38, 99)] [] X σ σ')) 0 0 (q_reg X) := by
  refine q_met 8 (by first | exact rfl | decide +kernel) rfl (Nat.le_of_ble_eq_true rfl) (fun p e s m below meth c E hml hr hlk hI ls hl => ?_)
  have hx := E.1
  have hb := E.2.1
  have hl : lv_has ls 5 [(0, .ref a)] := hl
  have feσ : m_c X σ a = m_c X σ a := rfl
  have fr_σ : q_ow [(12, 0), (12, 1), (12, 33), (12, 34), (12, 35), (38, 99)] [] X σ σ := q_ow.rf
  have hh := hG.hd
  obtain ⟨out, hout⟩ : ∃ o, o = F_X12_soonest X σ a := ⟨_, rfl⟩
  have hF := hout.symm
  unfold F_X12_soonest at hF
  refine lv_aload_n hx hb dX12_soonest_0 rfl (lv_at hl 0 rfl) ?_
  refine lv_iconst (v := 0) hx hb dX12_soonest_1 zki_0 ?_
  refine ps_X12_59_12 E hI ha (by decide) dX12_soonest_2 (fun H locs σ_1 hσ_1 hI => ?_)
  replace hF := q_letX hF hσ_1
  have fr_σ_1 := fr_σ.si hσ_1 ha rfl
  have mcσ_1 := m_wo hσ_1 (m_ne ha (q_tk (f := 20) (k' := 34) hI ha rfl (by decide)) (by decide))
  have feσ_1 : m_c X σ_1 a = m_c X σ a := (funext mcσ_1).trans feσ
  refine lv_aload_n hx hb dX12_soonest_5 rfl (lv_at hl 0 rfl) ?_
  refine lv_iconst (v := 0) hx hb dX12_soonest_6 zki_0 ?_
  refine ps_X12_62_12 E hI ha (by decide) dX12_soonest_7 (fun H locs σ_2 hσ_2 hI => ?_)
  replace hF := q_letX hF hσ_2
  have fr_σ_2 := fr_σ_1.si hσ_2 ha rfl
  have mcσ_2 := m_wo hσ_2 (m_ne ha (q_tk (f := 20) (k' := 34) hI ha rfl (by decide)) (by decide))
  have feσ_2 : m_c X σ_2 a = m_c X σ a := (funext mcσ_2).trans feσ_1
  refine lv_iconst (v := (-1)) hx hb dX12_soonest_10 zki_m1 ?_
  refine lv_istore_n (lv' := [(1, .int (-1)), (0, .ref a)]) hx hb dX12_soonest_11 rfl hl (by decide) rfl (fun ls hl => ?_)
  refine lv_bipush (v := 99) hx hb dX12_soonest_12 zkb_99 ?_
  refine lv_istore_n (lv' := [(2, .int 99), (1, .int (-1)), (0, .ref a)]) hx hb dX12_soonest_14 rfl hl (by decide) rfl (fun ls hl => ?_)
  refine lv_iconst (v := 0) hx hb dX12_soonest_15 zki_0 ?_
  refine lv_istore_n (lv' := [(3, .int 0), (2, .int 99), (1, .int (-1)), (0, .ref a)]) hx hb dX12_soonest_16 rfl hl (by decide) rfl (fun ls hl => ?_)
  have L_17_7 : ∀ (k_7 : Nat) (x_3 : Int32) (x_4 : Int32) (x_5 : Int32) (σ_6 : ST) (H : Heap) (locs : List Loc) (ls : Array Slot), (2147483647 - x_5.toInt).toNat < k_7 → (0 ≤ x_5.toInt) → (q_ow [(12, 0), (12, 1), (12, 33), (12, 34), (12, 35), (38, 99)] [] X σ σ_6) → (m_c X σ_6 a = m_c X σ a) → (F_X12_soonest_L17_1 X a k_7 x_3 x_4 x_5 σ_6 = out) → q_I X 8 σ s.heap locs σ_6 H → lv_has ls 5 [(0, .ref a), (1, .int x_3), (2, .int x_4), (3, .int x_5)] → W p l e (q_rm 5 115) s m ([.ref a] : List Value).toArray below meth c H locs 0 0 (MQ below (q_Qi X 8 σ (fun (r : Int32) (σ' : ST) => (r, σ') = F_X12_soonest X σ a ∧ q_ow [(12, 0), (12, 1), (12, 33), (12, 34), (12, 35), (38, 99)] [] X σ σ')) ([.ref a] : List Value).toArray s 0 0 (q_reg X)) (F0 m 17 ls []) := by
    clear hF
    intro k_7
    induction k_7 with
    | zero =>
      intro x_3 x_4 x_5 σ_6 H locs ls hms
      try clear feσ; try clear fr_σ; try clear fr_σ_1; try clear mcσ_1; try clear feσ_1; try clear fr_σ_2; try clear mcσ_2; try clear feσ_2
      exact absurd hms (Nat.not_lt_zero _)
    | succ k_7 ih17 =>
      intro x_3 x_4 x_5 σ_6 H locs ls hm17 hge17 fr_σ_6 feσ_6 hF hI hl
      replace hF := (F_X12_soonest_L17_1_s).symm.trans hF
      unfold F_X12_soonest_B17_1 at hF
      refine lv_iload_n hx hb dX12_soonest_17 rfl (lv_at hl 3 rfl) ?_
      refine lv_aload_n hx hb dX12_soonest_18 rfl (lv_at hl 0 rfl) ?_
      refine gs_X12_35_12 E hI ha dX12_soonest_19 ?_
      refine lv_iconst (v := 2) hx hb dX12_soonest_22 zki_2 ?_
      refine q_iald E hI (q_tk (k' := 34) hI ha rfl (Nat.succ_ne_zero _)) ⟨by decide, rfl⟩ (by decide) (by rw [q_lnk (v := 4650) hI (q_tk (k' := 34) hI ha rfl (Nat.succ_ne_zero _)) rfl (by decide)]; decide) dX12_soonest_23 ?_
      refine lv_topi (fun f_8 ef_8 => ?_)
      replace hF := q_letX hF ef_8
      have if_8 : f_8.toInt = m_c X σ a 2 := (m_rd ef_8 (by decide)).trans (congrFun feσ_6 _)
      have gc_9_x_5 := q_rng x_5
      have gc_9_f_8 := q_rng f_8
      refine q_icmp_ge (A := x_5.toInt) (B := f_8.toInt) E rfl rfl (tgt := 59) dX12_soonest_24 (by decide) (fun c_9 => ?_) (fun c_9 => ?_)
      · skip
        replace hF := q_ifn hF (Int.not_lt.mpr c_9)
        unfold F_X12_soonest_E59_2 at hF
        refine lv_iload_n hx hb dX12_soonest_59 rfl (lv_at hl 1 rfl) ?_
        refine q_if_ge (A := x_3.toInt) E rfl (tgt := 72) dX12_soonest_60 (by decide) (fun c_10 => ?_) (fun c_10 => ?_)
        · skip
          replace hF := q_ifn hF (Int.not_lt.mpr c_10)
          refine lv_iload_n hx hb dX12_soonest_72 rfl (lv_at hl 1 rfl) ?_
          exact q_reti E hr hlk hI ⟨(hF.trans hout), fr_σ_6⟩ dX12_soonest_73
        · skip
          replace hF := q_ifp hF c_10
          refine lv_aload_n hx hb dX12_soonest_63 rfl (lv_at hl 0 rfl) ?_
          refine lv_bipush (v := 8) hx hb dX12_soonest_64 zkb_8 ?_
          have kc_11 : (8 : Int32).toInt = 8 := zt_8
          refine q_ci (q_rV11_1 (rest := []) E (hml.trans hl.1.symm) hI (c_X12_refuse l X σ_6 a (8 : Int32) ha) kv_X12_284 ha ⟨Nat.le_of_ble_eq_true rfl, Nat.le_of_ble_eq_true rfl⟩ (Nat.le_of_ble_eq_true rfl) dX12_soonest_66) hI (Nat.le_of_ble_eq_true rfl) (fun r_12 σ_13 H locs hpσ_13 hkσ_13 hI => ?_)
          have ahpσ_13 := hpσ_13.1
          have bhpσ_13 := hpσ_13.2.1
          have chpσ_13 := hpσ_13.2.2
          clear hpσ_13
          have fr_σ_13 := fr_σ_6.call chpσ_13 rfl rfl
          replace hF := q_biX hF bhpσ_13
          have mcσ_13 := m_cK hkσ_13 hI.1 ha (by decide)
          have feσ_13 : m_c X σ_13 a = m_c X σ a := (funext mcσ_13).trans feσ_6
          refine lv_goto (tgt := 73) hx hb dX12_soonest_69 (by decide) ?_
          exact q_reti E hr hlk hI ⟨(hF.trans hout), fr_σ_13⟩ dX12_soonest_73
      · skip
        replace hF := q_ifp hF c_9
        refine lv_aload_n hx hb dX12_soonest_27 rfl (lv_at hl 0 rfl) ?_
        refine lv_iload_n hx hb dX12_soonest_28 rfl (lv_at hl 3 rfl) ?_
        refine q_ci (q_rV11_1 (rest := []) E (hml.trans hl.1.symm) hI (c_X12_ridOf l X σ_6 a x_5 ha (by rw [feσ_6]; exact hG) (by rw [feσ_6]; exact (by first | (clear hh hm17 gc_9_f_8; omega) | omega))) kv_X12_390 ha ⟨Nat.le_of_ble_eq_true rfl, Nat.le_of_ble_eq_true rfl⟩ (Nat.le_of_ble_eq_true rfl) dX12_soonest_29) hI (Nat.le_of_ble_eq_true rfl) (fun r_14 σ_15 H locs hpσ_15 hkσ_15 hI => ?_)
        have ahpσ_15 := hpσ_15.1
        have bhpσ_15 := hpσ_15.2.1
        have chpσ_15 := hpσ_15.2.2
        clear hpσ_15
        have fr_σ_15 := fr_σ_6.call chpσ_15 rfl rfl
        replace hF := q_biX hF bhpσ_15
        have mcσ_15 := m_cK hkσ_15 hI.1 ha (by decide)
        have feσ_15 : m_c X σ_15 a = m_c X σ a := (funext mcσ_15).trans feσ_6
        refine lv_istore (lv' := [(4, .int r_14), (0, .ref a), (1, .int x_3), (2, .int x_4), (3, .int x_5)]) hx hb dX12_soonest_32 hl (by decide) rfl (fun ls hl => ?_)
        refine lv_iload hx hb dX12_soonest_34 (lv_at hl 0 rfl) ?_
        refine q_if_lt (A := r_14.toInt) E rfl (tgt := 53) dX12_soonest_36 (by decide) (fun c_16 => ?_) (fun c_16 => ?_)
        · skip
          replace hF := q_ifp hF c_16
          obtain ⟨z_17, ez_17⟩ : ∃ y : Int32, y = x_5 + 1 := ⟨_, rfl⟩
          replace hF := q_letX hF ez_17
          refine lv_iinc (v := z_17) (lv' := [(3, .int z_17), (4, .int r_14), (0, .ref a), (1, .int x_3), (2, .int x_4)]) hx hb dX12_soonest_53 hl (k := 4) rfl (by rw [ez_17]; rfl) (by decide) rfl (fun ls hl => ?_)
          have iz_17 : z_17.toInt = x_5.toInt + 1 := q_inc ez_17 (by first | (clear hm17 gc_9_f_8 ahpσ_15 bhpσ_15 chpσ_15 c_16; omega) | omega)
          refine lv_goto (tgt := 17) hx hb dX12_soonest_56 (by decide) ?_
          exact ih17 x_3 x_4 z_17 σ_15 _ _ ls (by first | (clear gc_9_f_8 ahpσ_15 bhpσ_15 chpσ_15 c_16; omega) | omega) (by first | (clear hh hm17 if_8 gc_9_f_8 c_9 ahpσ_15 bhpσ_15 chpσ_15 c_16; omega) | omega) fr_σ_15 feσ_15 hF hI (lv_sub hl [2, 3, 4, 0] rfl)
        · skip
          replace hF := q_ifn hF (Int.not_lt.mpr c_16)
          refine lv_iload hx hb dX12_soonest_39 (lv_at hl 0 rfl) ?_
          refine lv_iload_n hx hb dX12_soonest_41 rfl (lv_at hl 3 rfl) ?_
          have gc_18_r_14 := q_rng r_14
          have gc_18_x_4 := q_rng x_4
          refine q_icmp_lt (A := r_14.toInt) (B := x_4.toInt) E rfl rfl (tgt := 48) dX12_soonest_42 (by decide) (fun c_18 => ?_) (fun c_18 => ?_)
          · skip
            replace hF := q_ifp hF c_18
            refine lv_iload_n hx hb dX12_soonest_48 rfl (lv_at hl 4 rfl) ?_
            refine lv_istore_n (lv' := [(1, .int x_5), (4, .int r_14), (0, .ref a), (2, .int x_4), (3, .int x_5)]) hx hb dX12_soonest_49 rfl hl (by decide) rfl (fun ls hl => ?_)
            refine lv_iload hx hb dX12_soonest_50 (lv_at hl 1 rfl) ?_
            refine lv_istore_n (lv' := [(2, .int r_14), (1, .int x_5), (4, .int r_14), (0, .ref a), (3, .int x_5)]) hx hb dX12_soonest_52 rfl hl (by decide) rfl (fun ls hl => ?_)
            obtain ⟨z_19, ez_19⟩ : ∃ y : Int32, y = x_5 + 1 := ⟨_, rfl⟩
            replace hF := q_letX hF ez_19
            refine lv_iinc (v := z_19) (lv' := [(3, .int z_19), (2, .int r_14), (1, .int x_5), (4, .int r_14), (0, .ref a)]) hx hb dX12_soonest_53 hl (k := 4) rfl (by rw [ez_19]; rfl) (by decide) rfl (fun ls hl => ?_)
            have iz_19 : z_19.toInt = x_5.toInt + 1 := q_inc ez_19 (by first | (clear hm17 gc_9_f_8 ahpσ_15 bhpσ_15 chpσ_15 c_16 gc_18_r_14 gc_18_x_4 c_18; omega) | omega)
            refine lv_goto (tgt := 17) hx hb dX12_soonest_56 (by decide) ?_
            exact ih17 x_5 r_14 z_19 σ_15 _ _ ls (by first | (clear gc_9_f_8 ahpσ_15 bhpσ_15 chpσ_15 c_16 gc_18_r_14 gc_18_x_4 c_18; omega) | omega) (by first | (clear hh hm17 if_8 gc_9_f_8 c_9 ahpσ_15 bhpσ_15 chpσ_15 c_16 gc_18_r_14 gc_18_x_4 c_18; omega) | omega) fr_σ_15 feσ_15 hF hI (lv_sub hl [4, 2, 1, 0] rfl)
          · skip
            replace hF := q_ifn hF (Int.not_lt.mpr c_18)
            refine lv_goto (tgt := 53) hx hb dX12_soonest_45 (by decide) ?_
            obtain ⟨z_20, ez_20⟩ : ∃ y : Int32, y = x_5 + 1 := ⟨_, rfl⟩
            replace hF := q_letX hF ez_20
            refine lv_iinc (v := z_20) (lv' := [(3, .int z_20), (4, .int r_14), (0, .ref a), (1, .int x_3), (2, .int x_4)]) hx hb dX12_soonest_53 hl (k := 4) rfl (by rw [ez_20]; rfl) (by decide) rfl (fun ls hl => ?_)
            have iz_20 : z_20.toInt = x_5.toInt + 1 := q_inc ez_20 (by first | (clear hm17 gc_9_f_8 ahpσ_15 bhpσ_15 chpσ_15 c_16 gc_18_r_14 gc_18_x_4 c_18; omega) | omega)
            refine lv_goto (tgt := 17) hx hb dX12_soonest_56 (by decide) ?_
            exact ih17 x_3 x_4 z_20 σ_15 _ _ ls (by first | (clear gc_9_f_8 ahpσ_15 bhpσ_15 chpσ_15 c_16 gc_18_r_14 gc_18_x_4 c_18; omega) | omega) (by first | (clear hh hm17 if_8 gc_9_f_8 c_9 ahpσ_15 bhpσ_15 chpσ_15 c_16 gc_18_r_14 gc_18_x_4 c_18; omega) | omega) fr_σ_15 feσ_15 hF hI (lv_sub hl [2, 3, 4, 0] rfl)
  have kc_21 : ((-1) : Int32).toInt = (-1) := zt_m1
  have kc_22 : (99 : Int32).toInt = 99 := zt_99
  have kc_23 : (0 : Int32).toInt = 0 := zt_0
  exact L_17_7 ((2147483647 - (0 : Int32).toInt).toNat + 1) (-1) 99 0 σ_2 _ _ ls (Nat.lt_succ_self _) (by decide) fr_σ_2 feσ_2 hF hI (lv_sub hl [3, 2, 1, 0] rfl)

set_option maxRecDepth 100000 in
set_option maxHeartbeats 4000000 in
theorem c_X12_best (l : Launch) (X : XW) (σ : ST) (a : Nat) (v1 : Int32) (v2 : Int32) (ha : q_kd X a = 12) (hG : m_G (m_c X σ a)) : Met l yX12_best (q_ws yX12_best cX12_best 13 (some .int)) (q_rm 2 51) (q_P X σ [.ref a, .int v1, .int v2]) (q_Qi X 8 σ (fun (r : Int32) (σ' : ST) => (r, σ') = F_X12_best X σ a v1 v2 ∧ q_ow [(12, 0), (12, 1)] [(12, 2), (12, 3)] X σ σ')) 0 0 (q_reg X) := by
  refine q_met 8 (by first | exact rfl | decide +kernel) rfl (Nat.le_of_ble_eq_true rfl) (fun p e s m below meth c E hml hr hlk hI ls hl => ?_)
  have hx := E.1
  have hb := E.2.1
  have hl : lv_has ls 13 [(0, .ref a), (1, .int v1), (2, .int v2)] := hl
  have feσ : m_c X σ a = m_c X σ a := rfl
  have fr_σ : q_ow [(12, 0), (12, 1)] [(12, 2), (12, 3)] X σ σ := q_ow.rf
  have hh := hG.hd
  obtain ⟨out, hout⟩ : ∃ o, o = F_X12_best X σ a v1 v2 := ⟨_, rfl⟩
  have hF := hout.symm
  unfold F_X12_best at hF
  refine lv_aload_n hx hb dX12_best_0 rfl (lv_at hl 0 rfl) ?_
  refine lv_iconst (v := 0) hx hb dX12_best_1 zki_0 ?_
  refine ps_X12_59_12 E hI ha (by decide) dX12_best_2 (fun H locs σ_1 hσ_1 hI => ?_)
  replace hF := q_letX hF hσ_1
  have fr_σ_1 := fr_σ.si hσ_1 ha rfl
  have mcσ_1 := m_wo hσ_1 (m_ne ha (q_tk (f := 20) (k' := 34) hI ha rfl (by decide)) (by decide))
  have feσ_1 : m_c X σ_1 a = m_c X σ a := (funext mcσ_1).trans feσ
  refine lv_aload_n hx hb dX12_best_5 rfl (lv_at hl 0 rfl) ?_
  refine lv_iconst (v := 0) hx hb dX12_best_6 zki_0 ?_
  refine ps_X12_62_12 E hI ha (by decide) dX12_best_7 (fun H locs σ_2 hσ_2 hI => ?_)
  replace hF := q_letX hF hσ_2
  have fr_σ_2 := fr_σ_1.si hσ_2 ha rfl
  have mcσ_2 := m_wo hσ_2 (m_ne ha (q_tk (f := 20) (k' := 34) hI ha rfl (by decide)) (by decide))
  have feσ_2 : m_c X σ_2 a = m_c X σ a := (funext mcσ_2).trans feσ_1
  refine lv_iload_n hx hb dX12_best_10 rfl (lv_at hl 1 rfl) ?_
  refine lv_i2l hx hb dX12_best_11 rfl ?_
  refine lv_topl (fun y_3 ey_3 => ?_)
  replace hF := q_letX hF ey_3
  have ggy_3 := q_rng v1
  have iy_3 : y_3.toInt = v1.toInt := by rw [ey_3]; exact (q_i2l _).trans rfl
  refine lv_lconst (v := 0) hx hb dX12_best_12 (by decide) ?_
  refine lv_ldc2 (v := 16) hx hb E.2.2.1 (E.2.2.2.1 _ (q_in_t8 (i := 224) (by first | rfl | decide +kernel) rfl)) dX12_best_13 ?_
  have kc_4 : (0 : Int64).toInt = 0 := rfl
  have kc_5 : (16 : Int64).toInt = 16 := rfl
  refine q_ci (q_runS (As := [.long y_3, .long 0, .long 16]) (rest := []) E (hml.trans hl.1.symm) hI (c_X12_isIn l X σ_2 y_3 (0 : Int64) (16 : Int64)) ks_X12_94 rfl ⟨Nat.le_of_ble_eq_true rfl, Nat.le_of_ble_eq_true rfl⟩ ⟨Nat.le_refl _, Nat.le_refl _⟩ rfl (Nat.le_of_ble_eq_true rfl) dX12_best_16) hI (Nat.le_of_ble_eq_true rfl) (fun r_6 σ_7 H locs hpσ_7 hkσ_7 hI => ?_)
  have ahpσ_7 := hpσ_7.1
  have bhpσ_7 := hpσ_7.2.1
  have chpσ_7 := hpσ_7.2.2.1
  have dhpσ_7 := hpσ_7.2.2.2
  clear hpσ_7
  replace hI := q_Irw ahpσ_7 hI
  replace hF := q_letX hF dhpσ_7
  refine q_if_eq (A := r_6.toInt) E rfl (tgt := 32) dX12_best_19 (by decide) (fun c_8 => ?_) (fun c_8 => ?_)
  · skip
    replace hF := q_ifp hF c_8
    replace chpσ_7 := q_ifNo chpσ_7 c_8
    refine lv_aload_n hx hb dX12_best_32 rfl (lv_at hl 0 rfl) ?_
    refine lv_iconst (v := 5) hx hb dX12_best_33 zki_5 ?_
    have kc_9 : (5 : Int32).toInt = 5 := zt_5
    refine q_ci (q_rV11_1 (rest := []) E (hml.trans hl.1.symm) hI (c_X12_refuse l X σ_2 a (5 : Int32) ha) kv_X12_284 ha ⟨Nat.le_of_ble_eq_true rfl, Nat.le_of_ble_eq_true rfl⟩ (Nat.le_of_ble_eq_true rfl) dX12_best_34) hI (Nat.le_of_ble_eq_true rfl) (fun r_10 σ_11 H locs hpσ_11 hkσ_11 hI => ?_)
    have ahpσ_11 := hpσ_11.1
    have bhpσ_11 := hpσ_11.2.1
    have chpσ_11 := hpσ_11.2.2
    clear hpσ_11
    have fr_σ_11 := fr_σ_2.call chpσ_11 rfl rfl
    replace hF := q_biX hF bhpσ_11
    have mcσ_11 := m_cK hkσ_11 hI.1 ha (by decide)
    have feσ_11 : m_c X σ_11 a = m_c X σ a := (funext mcσ_11).trans feσ_2
    exact q_reti E hr hlk hI ⟨(hF.trans hout), fr_σ_11⟩ dX12_best_37
  · skip
    replace hF := q_ifn hF c_8
    replace c_8 := q_ifOne bhpσ_7 c_8
    replace chpσ_7 := q_ifYes chpσ_7 c_8
    refine lv_iload_n hx hb dX12_best_22 rfl (lv_at hl 2 rfl) ?_
    refine lv_i2l hx hb dX12_best_23 rfl ?_
    refine lv_topl (fun y_12 ey_12 => ?_)
    replace hF := q_letX hF ey_12
    have ggy_12 := q_rng v2
    have iy_12 : y_12.toInt = v2.toInt := by rw [ey_12]; exact (q_i2l _).trans rfl
    refine lv_lconst (v := 0) hx hb dX12_best_24 (by decide) ?_
    refine lv_lconst (v := 1) hx hb dX12_best_25 (by decide) ?_
    have kc_13 : (0 : Int64).toInt = 0 := rfl
    have kc_14 : (1 : Int64).toInt = 1 := rfl
    refine q_ci (q_runS (As := [.long y_12, .long 0, .long 1]) (rest := []) E (hml.trans hl.1.symm) hI (c_X12_isIn l X σ_2 y_12 (0 : Int64) (1 : Int64)) ks_X12_94 rfl ⟨Nat.le_of_ble_eq_true rfl, Nat.le_of_ble_eq_true rfl⟩ ⟨Nat.le_refl _, Nat.le_refl _⟩ rfl (Nat.le_of_ble_eq_true rfl) dX12_best_26) hI (Nat.le_of_ble_eq_true rfl) (fun r_15 σ_16 H locs hpσ_16 hkσ_16 hI => ?_)
    have ahpσ_16 := hpσ_16.1
    have bhpσ_16 := hpσ_16.2.1
    have chpσ_16 := hpσ_16.2.2.1
    have dhpσ_16 := hpσ_16.2.2.2
    clear hpσ_16
    replace hI := q_Irw ahpσ_16 hI
    replace hF := q_letX hF dhpσ_16
    refine q_if_ne (A := r_15.toInt) E rfl (tgt := 38) dX12_best_29 (by decide) (fun c_17 => ?_) (fun c_17 => ?_)
    · skip
      replace hF := q_ifn hF c_17
      replace c_17 := q_ifOne bhpσ_16 c_17
      replace chpσ_16 := q_ifYes chpσ_16 c_17
      refine lv_aload_n hx hb dX12_best_38 rfl (lv_at hl 0 rfl) ?_
      refine gs_X12_35_12 E hI ha dX12_best_39 ?_
      refine lv_bipush (v := 6) hx hb dX12_best_42 zkb_6 ?_
      refine q_iald E hI (q_tk (k' := 34) hI ha rfl (Nat.succ_ne_zero _)) ⟨by decide, rfl⟩ (by decide) (by rw [q_lnk (v := 4650) hI (q_tk (k' := 34) hI ha rfl (Nat.succ_ne_zero _)) rfl (by decide)]; decide) dX12_best_44 ?_
      refine lv_topi (fun f_18 ef_18 => ?_)
      replace hF := q_letX hF ef_18
      have if_18 : f_18.toInt = m_c X σ a 6 := (m_rd ef_18 (by decide)).trans (congrFun feσ_2 _)
      refine q_if_ge (A := f_18.toInt) E rfl (tgt := 55) dX12_best_45 (by decide) (fun c_19 => ?_) (fun c_19 => ?_)
      · skip
        replace hF := q_ifn hF (Int.not_lt.mpr c_19)
        refine lv_aload_n hx hb dX12_best_55 rfl (lv_at hl 0 rfl) ?_
        refine gs_X12_35_12 E hI ha dX12_best_56 ?_
        refine lv_bipush (v := 6) hx hb dX12_best_59 zkb_6 ?_
        refine q_iald E hI (q_tk (k' := 34) hI ha rfl (Nat.succ_ne_zero _)) ⟨by decide, rfl⟩ (by decide) (by rw [q_lnk (v := 4650) hI (q_tk (k' := 34) hI ha rfl (Nat.succ_ne_zero _)) rfl (by decide)]; decide) dX12_best_61 ?_
        refine lv_topi (fun f_20 ef_20 => ?_)
        replace hF := q_letX hF ef_20
        have if_20 : f_20.toInt = m_c X σ a 6 := (m_rd ef_20 (by decide)).trans (congrFun feσ_2 _)
        refine lv_istore_n (lv' := [(3, .int f_20), (0, .ref a), (1, .int v1), (2, .int v2)]) hx hb dX12_best_62 rfl hl (by decide) rfl (fun ls hl => ?_)
        refine lv_aload_n hx hb dX12_best_63 rfl (lv_at hl 1 rfl) ?_
        refine lv_iload_n hx hb dX12_best_64 rfl (lv_at hl 0 rfl) ?_
        refine q_ci (q_rV11_1 (rest := []) E (hml.trans hl.1.symm) hI (c_X12_cardsOf l X σ_2 a f_20 ha (by rw [feσ_2]; exact hG) (by first | (clear ggy_3 iy_3 kc_4 kc_5 ahpσ_7 bhpσ_7 dhpσ_7 c_8 chpσ_7 ggy_12 iy_12 kc_13 kc_14 ahpσ_16 bhpσ_16 dhpσ_16 c_17 chpσ_16; omega) | omega)) kv_X12_293 ha ⟨Nat.le_of_ble_eq_true rfl, Nat.le_of_ble_eq_true rfl⟩ (Nat.le_of_ble_eq_true rfl) dX12_best_65) hI (Nat.le_of_ble_eq_true rfl) (fun r_21 σ_22 H locs hpσ_22 hkσ_22 hI => ?_)
        have ahpσ_22 := hpσ_22.1
        have bhpσ_22 := hpσ_22.2.1
        have chpσ_22 := hpσ_22.2.2.1
        have dhpσ_22 := hpσ_22.2.2.2
        clear hpσ_22
        replace hI := q_Irw ahpσ_22 hI
        rw [feσ_2] at bhpσ_22
        replace hF := q_letX hF dhpσ_22
        refine lv_istore (lv' := [(4, .int r_21), (3, .int f_20), (0, .ref a), (1, .int v1), (2, .int v2)]) hx hb dX12_best_68 hl (by decide) rfl (fun ls hl => ?_)
        refine lv_aload_n hx hb dX12_best_70 rfl (lv_at hl 2 rfl) ?_
        refine gs_X12_35_12 E hI ha dX12_best_71 ?_
        refine lv_bipush (v := 7) hx hb dX12_best_74 zkb_7 ?_
        refine q_iald E hI (q_tk (k' := 34) hI ha rfl (Nat.succ_ne_zero _)) ⟨by decide, rfl⟩ (by decide) (by rw [q_lnk (v := 4650) hI (q_tk (k' := 34) hI ha rfl (Nat.succ_ne_zero _)) rfl (by decide)]; decide) dX12_best_76 ?_
        refine lv_topi (fun f_23 ef_23 => ?_)
        replace hF := q_letX hF ef_23
        have if_23 : f_23.toInt = m_c X σ a 7 := (m_rd ef_23 (by decide)).trans (congrFun feσ_2 _)
        refine lv_iconst (v := 1) hx hb dX12_best_77 zki_1 ?_
        have gc_24_f_23 := q_rng f_23
        refine q_icmp_eq (A := f_23.toInt) (B := 1) E rfl (by decide) (tgt := 96) dX12_best_78 (by decide) (fun c_24 => ?_) (fun c_24 => ?_)
        · skip
          replace hF := q_ifp hF c_24
          refine lv_aload_n hx hb dX12_best_96 rfl (lv_at hl 2 rfl) ?_
          refine lv_bipush (v := 9) hx hb dX12_best_97 zkb_9 ?_
          have kc_25 : (9 : Int32).toInt = 9 := zt_9
          refine q_ci (q_rV11_1 (rest := []) E (hml.trans hl.1.symm) hI (c_X12_refuse l X σ_2 a (9 : Int32) ha) kv_X12_284 ha ⟨Nat.le_of_ble_eq_true rfl, Nat.le_of_ble_eq_true rfl⟩ (Nat.le_of_ble_eq_true rfl) dX12_best_99) hI (Nat.le_of_ble_eq_true rfl) (fun r_26 σ_27 H locs hpσ_27 hkσ_27 hI => ?_)
          have ahpσ_27 := hpσ_27.1
          have bhpσ_27 := hpσ_27.2.1
          have chpσ_27 := hpσ_27.2.2
          clear hpσ_27
          have fr_σ_27 := fr_σ_2.call chpσ_27 rfl rfl
          replace hF := q_biX hF bhpσ_27
          have mcσ_27 := m_cK hkσ_27 hI.1 ha (by decide)
          have feσ_27 : m_c X σ_27 a = m_c X σ a := (funext mcσ_27).trans feσ_2
          exact q_reti E hr hlk hI ⟨(hF.trans hout), fr_σ_27⟩ dX12_best_102
        · skip
          replace hF := q_ifn hF c_24
          refine lv_aload_n hx hb dX12_best_81 rfl (lv_at hl 2 rfl) ?_
          refine gs_X12_35_12 E hI ha dX12_best_82 ?_
          refine lv_bipush (v := 8) hx hb dX12_best_85 zkb_8 ?_
          refine q_iald E hI (q_tk (k' := 34) hI ha rfl (Nat.succ_ne_zero _)) ⟨by decide, rfl⟩ (by decide) (by rw [q_lnk (v := 4650) hI (q_tk (k' := 34) hI ha rfl (Nat.succ_ne_zero _)) rfl (by decide)]; decide) dX12_best_87 ?_
          refine lv_topi (fun f_28 ef_28 => ?_)
          replace hF := q_letX hF ef_28
          have if_28 : f_28.toInt = m_c X σ a 8 := (m_rd ef_28 (by decide)).trans (congrFun feσ_2 _)
          refine q_if_ge (A := f_28.toInt) E rfl (tgt := 96) dX12_best_88 (by decide) (fun c_29 => ?_) (fun c_29 => ?_)
          · skip
            replace hF := q_ifn hF (Int.not_lt.mpr c_29)
            refine lv_aload_n hx hb dX12_best_96 rfl (lv_at hl 2 rfl) ?_
            refine lv_bipush (v := 9) hx hb dX12_best_97 zkb_9 ?_
            have kc_30 : (9 : Int32).toInt = 9 := zt_9
            refine q_ci (q_rV11_1 (rest := []) E (hml.trans hl.1.symm) hI (c_X12_refuse l X σ_2 a (9 : Int32) ha) kv_X12_284 ha ⟨Nat.le_of_ble_eq_true rfl, Nat.le_of_ble_eq_true rfl⟩ (Nat.le_of_ble_eq_true rfl) dX12_best_99) hI (Nat.le_of_ble_eq_true rfl) (fun r_31 σ_32 H locs hpσ_32 hkσ_32 hI => ?_)
            have ahpσ_32 := hpσ_32.1
            have bhpσ_32 := hpσ_32.2.1
            have chpσ_32 := hpσ_32.2.2
            clear hpσ_32
            have fr_σ_32 := fr_σ_2.call chpσ_32 rfl rfl
            replace hF := q_biX hF bhpσ_32
            have mcσ_32 := m_cK hkσ_32 hI.1 ha (by decide)
            have feσ_32 : m_c X σ_32 a = m_c X σ a := (funext mcσ_32).trans feσ_2
            exact q_reti E hr hlk hI ⟨(hF.trans hout), fr_σ_32⟩ dX12_best_102
          · skip
            replace hF := q_ifp hF c_29
            refine lv_iload hx hb dX12_best_91 (lv_at hl 0 rfl) ?_
            refine q_if_ne (A := r_21.toInt) E rfl (tgt := 103) dX12_best_93 (by decide) (fun c_33 => ?_) (fun c_33 => ?_)
            · skip
              replace hF := q_ifn hF c_33
              refine lv_aload_n hx hb dX12_best_103 rfl (lv_at hl 2 rfl) ?_
              refine lv_iload_n hx hb dX12_best_104 rfl (lv_at hl 1 rfl) ?_
              refine lv_aload_n hx hb dX12_best_105 rfl (lv_at hl 2 rfl) ?_
              refine gs_X12_35_12 E hI ha dX12_best_106 ?_
              refine lv_iconst (v := 5) hx hb dX12_best_109 zki_5 ?_
              refine q_iald E hI (q_tk (k' := 34) hI ha rfl (Nat.succ_ne_zero _)) ⟨by decide, rfl⟩ (by decide) (by rw [q_lnk (v := 4650) hI (q_tk (k' := 34) hI ha rfl (Nat.succ_ne_zero _)) rfl (by decide)]; decide) dX12_best_110 ?_
              refine lv_topi (fun f_34 ef_34 => ?_)
              replace hF := q_letX hF ef_34
              have if_34 : f_34.toInt = m_c X σ a 5 := (m_rd ef_34 (by decide)).trans (congrFun feσ_2 _)
              refine q_ci (q_rV11_2 (rest := []) E (hml.trans hl.1.symm) hI (c_X12_handOf l X σ_2 a f_20 f_34 ha (by first | (clear ggy_3 iy_3 kc_4 kc_5 ahpσ_7 bhpσ_7 dhpσ_7 c_8 chpσ_7 ggy_12 iy_12 kc_13 kc_14 ahpσ_16 bhpσ_16 dhpσ_16 c_17 chpσ_16 ahpσ_22 bhpσ_22 chpσ_22 dhpσ_22 if_23 gc_24_f_23 c_24 if_28 c_29 c_33 if_34; omega) | omega) (by first | (clear ggy_3 iy_3 kc_4 kc_5 ahpσ_7 bhpσ_7 dhpσ_7 c_8 chpσ_7 ggy_12 iy_12 kc_13 kc_14 ahpσ_16 bhpσ_16 dhpσ_16 c_17 chpσ_16 if_18 c_19 if_20 ahpσ_22 bhpσ_22 chpσ_22 dhpσ_22 if_23 gc_24_f_23 c_24 if_28 c_29 c_33; omega) | omega)) kv_X12_276 ha ⟨Nat.le_of_ble_eq_true rfl, Nat.le_of_ble_eq_true rfl⟩ (Nat.le_of_ble_eq_true rfl) dX12_best_111) hI (Nat.le_of_ble_eq_true rfl) (fun r_35 σ_36 H locs hpσ_36 hkσ_36 hI => ?_)
              have ahpσ_36 := hpσ_36.1
              have bhpσ_36 := hpσ_36.2.1
              have chpσ_36 := hpσ_36.2.2
              clear hpσ_36
              replace hI := q_Irw ahpσ_36 hI
              rw [feσ_2] at bhpσ_36
              replace hF := q_letX hF chpσ_36
              have ir_35 : r_35.toInt = (m_c X σ a (34 + 10 * f_20.toInt + f_34.toInt)) := (by first | exact bhpσ_36 | (rw [bhpσ_36]) | (simp only [bhpσ_36]))
              refine lv_istore (lv' := [(5, .int r_35), (4, .int r_21), (3, .int f_20), (0, .ref a), (1, .int v1), (2, .int v2)]) hx hb dX12_best_114 hl (by decide) rfl (fun ls hl => ?_)
              refine lv_aload_n hx hb dX12_best_116 rfl (lv_at hl 3 rfl) ?_
              refine q_ci (q_rV11_0 (rest := []) E (hml.trans hl.1.symm) hI (c_X12_heapMany l X σ_2 a ha (by rw [feσ_2]; exact hG)) kv_X12_287 ha ⟨Nat.le_of_ble_eq_true rfl, Nat.le_of_ble_eq_true rfl⟩ (Nat.le_of_ble_eq_true rfl) dX12_best_117) hI (Nat.le_of_ble_eq_true rfl) (fun r_37 σ_38 H locs hpσ_38 hkσ_38 hI => ?_)
              have ahpσ_38 := hpσ_38.1
              have bhpσ_38 := hpσ_38.2.1
              have chpσ_38 := hpσ_38.2.2.1
              have dhpσ_38 := hpσ_38.2.2.2
              clear hpσ_38
              replace hI := q_Irw ahpσ_38 hI
              rw [feσ_2] at bhpσ_38
              replace hF := q_letX hF dhpσ_38
              refine lv_istore (lv' := [(6, .int r_37), (5, .int r_35), (4, .int r_21), (3, .int f_20), (0, .ref a), (1, .int v1), (2, .int v2)]) hx hb dX12_best_120 hl (by decide) rfl (fun ls hl => ?_)
              refine lv_iconst (v := (-1)) hx hb dX12_best_122 zki_m1 ?_
              refine lv_istore (lv' := [(7, .int (-1)), (6, .int r_37), (5, .int r_35), (4, .int r_21), (3, .int f_20), (0, .ref a), (1, .int v1), (2, .int v2)]) hx hb dX12_best_123 hl (by decide) rfl (fun ls hl => ?_)
              refine lv_iconst (v := 0) hx hb dX12_best_125 zki_0 ?_
              refine lv_istore (lv' := [(8, .int 0), (7, .int (-1)), (6, .int r_37), (5, .int r_35), (4, .int r_21), (3, .int f_20), (0, .ref a), (1, .int v1), (2, .int v2)]) hx hb dX12_best_126 hl (by decide) rfl (fun ls hl => ?_)
              refine lv_iconst (v := 0) hx hb dX12_best_128 zki_0 ?_
              refine lv_istore (lv' := [(9, .int 0), (8, .int 0), (7, .int (-1)), (6, .int r_37), (5, .int r_35), (4, .int r_21), (3, .int f_20), (0, .ref a), (1, .int v1), (2, .int v2)]) hx hb dX12_best_129 hl (by decide) rfl (fun ls hl => ?_)
              refine lv_iconst (v := 0) hx hb dX12_best_131 zki_0 ?_
              refine lv_istore (lv' := [(10, .int 0), (9, .int 0), (8, .int 0), (7, .int (-1)), (6, .int r_37), (5, .int r_35), (4, .int r_21), (3, .int f_20), (0, .ref a), (1, .int v1), (2, .int v2)]) hx hb dX12_best_132 hl (by decide) rfl (fun ls hl => ?_)
              have L_134_43 : ∀ (k_43 : Nat) (x_39 : Int32) (x_40 : Int32) (x_41 : Int32) (x_42 : Int32) (H : Heap) (locs : List Loc) (ls : Array Slot), (2147483647 - x_42.toInt).toNat < k_43 → (0 ≤ x_42.toInt) → (F_X12_best_L134_1 X σ_2 a r_21 r_35 v2 r_37 v1 k_43 x_39 x_40 x_41 x_42 = out) → q_I X 8 σ s.heap locs σ_2 H → lv_has ls 13 [(0, .ref a), (1, .int v1), (2, .int v2), (3, .int f_20), (4, .int r_21), (5, .int r_35), (6, .int r_37), (7, .int x_39), (8, .int x_40), (9, .int x_41), (10, .int x_42)] → W p l e (q_rm 2 51) s m ([.ref a, .int v1, .int v2] : List Value).toArray below meth c H locs 0 0 (MQ below (q_Qi X 8 σ (fun (r : Int32) (σ' : ST) => (r, σ') = F_X12_best X σ a v1 v2 ∧ q_ow [(12, 0), (12, 1)] [(12, 2), (12, 3)] X σ σ')) ([.ref a, .int v1, .int v2] : List Value).toArray s 0 0 (q_reg X)) (F0 m 134 ls []) := by
                clear hF
                intro k_43
                induction k_43 with
                | zero =>
                  intro x_39 x_40 x_41 x_42 H locs ls hms
                  exact absurd hms (Nat.not_lt_zero _)
                | succ k_43 ih134 =>
                  intro x_39 x_40 x_41 x_42 H locs ls hm134 hge134 hF hI hl
                  replace hF := (F_X12_best_L134_1_s).symm.trans hF
                  unfold F_X12_best_B134_1 at hF
                  refine lv_iload hx hb dX12_best_134 (lv_at hl 10 rfl) ?_
                  refine lv_aload_n hx hb dX12_best_136 rfl (lv_at hl 0 rfl) ?_
                  refine gs_X12_35_12 E hI ha dX12_best_137 ?_
                  refine lv_iconst (v := 4) hx hb dX12_best_140 zki_4 ?_
                  refine q_iald E hI (q_tk (k' := 34) hI ha rfl (Nat.succ_ne_zero _)) ⟨by decide, rfl⟩ (by decide) (by rw [q_lnk (v := 4650) hI (q_tk (k' := 34) hI ha rfl (Nat.succ_ne_zero _)) rfl (by decide)]; decide) dX12_best_141 ?_
                  refine lv_topi (fun f_44 ef_44 => ?_)
                  replace hF := q_letX hF ef_44
                  have if_44 : f_44.toInt = m_c X σ a 4 := (m_rd ef_44 (by decide)).trans (congrFun feσ_2 _)
                  refine lv_iload hx hb dX12_best_142 (lv_at hl 4 rfl) ?_
                  refine lv_iload hx hb dX12_best_144 (lv_at hl 5 rfl) ?_
                  refine lv_isub hx hb dX12_best_146 ?_
                  refine lv_topi (fun z_45 ez_45 => ?_)
                  replace hF := q_letX hF ez_45
                  refine q_ci (q_runS (As := [.int f_44, .int z_45]) (rest := [.int x_42]) E (hml.trans hl.1.symm) hI (c_J9_min_7cf53 l X σ_2 f_44 z_45) ks_X12_384 rfl ⟨Nat.le_of_ble_eq_true rfl, Nat.le_of_ble_eq_true rfl⟩ ⟨Nat.le_refl _, Nat.le_refl _⟩ rfl (Nat.le_of_ble_eq_true rfl) dX12_best_147) hI (Nat.le_of_ble_eq_true rfl) (fun r_46 σ_47 H locs hpσ_47 hkσ_47 hI => ?_)
                  have ahpσ_47 := hpσ_47.1
                  have bhpσ_47 := hpσ_47.2.1
                  have chpσ_47 := hpσ_47.2.2
                  clear hpσ_47
                  replace hI := q_Irw ahpσ_47 hI
                  replace hF := q_letX hF chpσ_47
                  have gc_48_x_42 := q_rng x_42
                  have gc_48_r_46 := q_rng r_46
                  refine q_icmp_gt (A := x_42.toInt) (B := r_46.toInt) E rfl rfl (tgt := 263) dX12_best_150 (by decide) (fun c_48 => ?_) (fun c_48 => ?_)
                  · skip
                    replace hF := q_ifp hF c_48
                    unfold F_X12_best_E263_2 at hF
                    refine lv_aload_n hx hb dX12_best_263 rfl (lv_at hl 0 rfl) ?_
                    refine lv_iload hx hb dX12_best_264 (lv_at hl 9 rfl) ?_
                    refine lv_i2l hx hb dX12_best_266 rfl ?_
                    refine lv_topl (fun y_49 ey_49 => ?_)
                    replace hF := q_letX hF ey_49
                    have ggy_49 := q_rng x_41
                    have iy_49 : y_49.toInt = x_41.toInt := by rw [ey_49]; exact (q_i2l _).trans rfl
                    refine lv_ldc2 (v := 16) hx hb E.2.2.1 (E.2.2.2.1 _ (q_in_t8 (i := 224) (by first | rfl | decide +kernel) rfl)) dX12_best_267 ?_
                    have kc_50 : (16 : Int64).toInt = 16 := rfl
                    refine q_ci (q_rV11_2 (rest := []) E (hml.trans hl.1.symm) hI (c_X12_fraction l X σ_2 a y_49 (16 : Int64) ha (Or.inr (by decide))) kv_X12_361 ha ⟨Nat.le_of_ble_eq_true rfl, Nat.le_of_ble_eq_true rfl⟩ (Nat.le_of_ble_eq_true rfl) dX12_best_270) hI (Nat.le_of_ble_eq_true rfl) (fun r_51 σ_52 H locs hpσ_52 hkσ_52 hI => ?_)
                    have ahpσ_52 := hpσ_52.1
                    have bhpσ_52 := hpσ_52.2.1
                    have chpσ_52 := hpσ_52.2.2
                    clear hpσ_52
                    have fr_σ_52 := fr_σ_2.call chpσ_52 rfl rfl
                    replace hF := q_biX hF bhpσ_52
                    have mcσ_52 := m_cK hkσ_52 hI.1 ha (by decide)
                    have feσ_52 : m_c X σ_52 a = m_c X σ a := (funext mcσ_52).trans feσ_2
                    refine lv_pop hx hb dX12_best_273 rfl ?_
                    refine lv_iload_n hx hb dX12_best_274 rfl (lv_at hl 2 rfl) ?_
                    refine q_if_ne (A := v2.toInt) E rfl (tgt := 283) dX12_best_275 (by decide) (fun c_53 => ?_) (fun c_53 => ?_)
                    · skip
                      replace hF := q_ifn hF c_53
                      refine lv_iload hx hb dX12_best_283 (lv_at hl 8 rfl) ?_
                      exact q_reti E hr hlk hI ⟨(hF.trans hout), fr_σ_52⟩ dX12_best_285
                    · skip
                      replace hF := q_ifp hF c_53
                      refine lv_iload hx hb dX12_best_278 (lv_at hl 7 rfl) ?_
                      refine lv_goto (tgt := 285) hx hb dX12_best_280 (by decide) ?_
                      exact q_reti E hr hlk hI ⟨(hF.trans hout), fr_σ_52⟩ dX12_best_285
                  · skip
                    replace hF := q_ifn hF (Int.not_lt.mpr c_48)
                    refine lv_aload_n hx hb dX12_best_153 rfl (lv_at hl 0 rfl) ?_
                    refine gs_X12_35_12 E hI ha dX12_best_154 ?_
                    refine lv_iconst (v := 4) hx hb dX12_best_157 zki_4 ?_
                    refine q_iald E hI (q_tk (k' := 34) hI ha rfl (Nat.succ_ne_zero _)) ⟨by decide, rfl⟩ (by decide) (by rw [q_lnk (v := 4650) hI (q_tk (k' := 34) hI ha rfl (Nat.succ_ne_zero _)) rfl (by decide)]; decide) dX12_best_158 ?_
                    refine lv_topi (fun f_54 ef_54 => ?_)
                    replace hF := q_letX hF ef_54
                    have if_54 : f_54.toInt = m_c X σ a 4 := (m_rd ef_54 (by decide)).trans (congrFun feσ_2 _)
                    refine lv_iload hx hb dX12_best_159 (lv_at hl 10 rfl) ?_
                    refine lv_isub hx hb dX12_best_161 ?_
                    refine lv_topi (fun z_55 ez_55 => ?_)
                    replace hF := q_letX hF ez_55
                    refine lv_iload hx hb dX12_best_162 (lv_at hl 5 rfl) ?_
                    refine q_ci (q_runS (As := [.int z_55, .int r_35]) (rest := []) E (hml.trans hl.1.symm) hI (c_J9_min_7cf53 l X σ_2 z_55 r_35) ks_X12_384 rfl ⟨Nat.le_of_ble_eq_true rfl, Nat.le_of_ble_eq_true rfl⟩ ⟨Nat.le_refl _, Nat.le_refl _⟩ rfl (Nat.le_of_ble_eq_true rfl) dX12_best_164) hI (Nat.le_of_ble_eq_true rfl) (fun r_56 σ_57 H locs hpσ_57 hkσ_57 hI => ?_)
                    have ahpσ_57 := hpσ_57.1
                    have bhpσ_57 := hpσ_57.2.1
                    have chpσ_57 := hpσ_57.2.2
                    clear hpσ_57
                    replace hI := q_Irw ahpσ_57 hI
                    replace hF := q_letX hF chpσ_57
                    refine lv_istore (lv' := [(11, .int r_56), (0, .ref a), (1, .int v1), (2, .int v2), (3, .int f_20), (4, .int r_21), (5, .int r_35), (6, .int r_37), (7, .int x_39), (8, .int x_40), (9, .int x_41), (10, .int x_42)]) hx hb dX12_best_167 hl (by decide) rfl (fun ls hl => ?_)
                    have L_169_62 : ∀ (k_62 : Nat) (x_58 : Int32) (x_59 : Int32) (x_60 : Int32) (x_61 : Int32) (H : Heap) (locs : List Loc) (ls : Array Slot), (x_61.toInt + 2147483649).toNat < k_62 → (F_X12_best_L169_3 X x_42 (F_X12_best_L134_1 X σ_2 a r_21 r_35 v2 r_37 v1 k_43) r_21 r_37 v1 σ_2 k_62 x_58 x_59 x_60 x_61 = out) → q_I X 8 σ s.heap locs σ_2 H → lv_has ls 13 [(0, .ref a), (1, .int v1), (2, .int v2), (3, .int f_20), (4, .int r_21), (5, .int r_35), (6, .int r_37), (7, .int x_58), (8, .int x_59), (9, .int x_60), (10, .int x_42), (11, .int x_61)] → W p l e (q_rm 2 51) s m ([.ref a, .int v1, .int v2] : List Value).toArray below meth c H locs 0 0 (MQ below (q_Qi X 8 σ (fun (r : Int32) (σ' : ST) => (r, σ') = F_X12_best X σ a v1 v2 ∧ q_ow [(12, 0), (12, 1)] [(12, 2), (12, 3)] X σ σ')) ([.ref a, .int v1, .int v2] : List Value).toArray s 0 0 (q_reg X)) (F0 m 169 ls []) := by
                      clear hF
                      intro k_62
                      induction k_62 with
                      | zero =>
                        intro x_58 x_59 x_60 x_61 H locs ls hms
                        exact absurd hms (Nat.not_lt_zero _)
                      | succ k_62 ih169 =>
                        intro x_58 x_59 x_60 x_61 H locs ls hm169  hF hI hl
                        replace hF := (F_X12_best_L169_3_s).symm.trans hF
                        unfold F_X12_best_B169_3 at hF
                        refine lv_iload hx hb dX12_best_169 (lv_at hl 11 rfl) ?_
                        refine q_if_lt (A := x_61.toInt) E rfl (tgt := 257) dX12_best_171 (by decide) (fun c_63 => ?_) (fun c_63 => ?_)
                        · skip
                          replace hF := q_ifp hF c_63
                          unfold F_X12_best_E257_4 at hF
                          obtain ⟨z_64, ez_64⟩ : ∃ y : Int32, y = x_42 + 1 := ⟨_, rfl⟩
                          replace hF := q_letX hF ez_64
                          refine lv_iinc (v := z_64) (lv' := [(10, .int z_64), (0, .ref a), (1, .int v1), (2, .int v2), (3, .int f_20), (4, .int r_21), (5, .int r_35), (6, .int r_37), (7, .int x_58), (8, .int x_59), (9, .int x_60), (11, .int x_61)]) hx hb dX12_best_257 hl (k := 10) rfl (by rw [ez_64]; rfl) (by decide) rfl (fun ls hl => ?_)
                          have iz_64 : z_64.toInt = x_42.toInt + 1 := q_inc ez_64 (by first | (clear ggy_3 iy_3 kc_4 kc_5 ahpσ_7 bhpσ_7 dhpσ_7 c_8 chpσ_7 ggy_12 iy_12 kc_13 kc_14 ahpσ_16 bhpσ_16 dhpσ_16 c_17 chpσ_16 if_18 c_19 if_20 ahpσ_22 bhpσ_22 chpσ_22 dhpσ_22 if_23 gc_24_f_23 c_24 if_28 c_29 c_33 if_34 ahpσ_36 bhpσ_36 chpσ_36 ir_35 ahpσ_38 bhpσ_38 chpσ_38 dhpσ_38 hm134 ahpσ_47 chpσ_47 ahpσ_57 bhpσ_57 chpσ_57 hm169 c_63; omega) | omega)
                          refine lv_goto (tgt := 134) hx hb dX12_best_260 (by decide) ?_
                          exact ih134 x_58 x_59 x_60 z_64 _ _ ls (by first | (clear ggy_3 iy_3 kc_4 kc_5 ahpσ_7 bhpσ_7 dhpσ_7 c_8 chpσ_7 ggy_12 iy_12 kc_13 kc_14 ahpσ_16 bhpσ_16 dhpσ_16 c_17 chpσ_16 if_18 c_19 if_20 ahpσ_22 bhpσ_22 chpσ_22 dhpσ_22 if_23 gc_24_f_23 c_24 if_28 c_29 c_33 if_34 ahpσ_36 bhpσ_36 chpσ_36 ir_35 ahpσ_38 bhpσ_38 chpσ_38 dhpσ_38 ahpσ_47 chpσ_47 ahpσ_57 bhpσ_57 chpσ_57 hm169 c_63; omega) | omega) (by first | (clear hh ggy_3 iy_3 kc_4 kc_5 ahpσ_7 bhpσ_7 dhpσ_7 c_8 chpσ_7 ggy_12 iy_12 kc_13 kc_14 ahpσ_16 bhpσ_16 dhpσ_16 c_17 chpσ_16 if_18 c_19 if_20 ahpσ_22 bhpσ_22 chpσ_22 dhpσ_22 if_23 gc_24_f_23 c_24 if_28 c_29 c_33 if_34 ahpσ_36 bhpσ_36 chpσ_36 ir_35 ahpσ_38 bhpσ_38 chpσ_38 dhpσ_38 hm134 if_44 ahpσ_47 bhpσ_47 chpσ_47 gc_48_r_46 c_48 if_54 ahpσ_57 bhpσ_57 chpσ_57 hm169 c_63; omega) | omega) hF hI (lv_sub hl [1, 2, 3, 4, 5, 6, 7, 8, 9, 10, 0] rfl)
                        · skip
                          replace hF := q_ifn hF (Int.not_lt.mpr c_63)
                          refine lv_iload hx hb dX12_best_174 (lv_at hl 11 rfl) ?_
                          refine lv_iload hx hb dX12_best_176 (lv_at hl 10 rfl) ?_
                          refine lv_iadd hx hb dX12_best_178 ?_
                          refine lv_topi (fun z_65 ez_65 => ?_)
                          replace hF := q_letX hF ez_65
                          refine q_if_ne (A := z_65.toInt) E rfl (tgt := 185) dX12_best_179 (by decide) (fun c_66 => ?_) (fun c_66 => ?_)
                          · skip
                            replace hF := q_ifn hF c_66
                            refine lv_iload hx hb dX12_best_185 (lv_at hl 10 rfl) ?_
                            refine q_if_ne (A := x_42.toInt) E rfl (tgt := 201) dX12_best_187 (by decide) (fun c_67 => ?_) (fun c_67 => ?_)
                            · skip
                              replace hF := q_ifn hF c_67
                              refine lv_iload_n hx hb dX12_best_201 rfl (lv_at hl 1 rfl) ?_
                              refine lv_iload hx hb dX12_best_202 (lv_at hl 4 rfl) ?_
                              refine lv_iload hx hb dX12_best_204 (lv_at hl 6 rfl) ?_
                              refine lv_iadd hx hb dX12_best_206 ?_
                              refine lv_topi (fun z_68 ez_68 => ?_)
                              replace hF := q_letX hF ez_68
                              refine lv_imul hx hb dX12_best_207 ?_
                              refine lv_topi (fun z_69 ez_69 => ?_)
                              replace hF := q_letX hF ez_69
                              refine lv_bipush (v := 16) hx hb dX12_best_208 zkb_16 ?_
                              refine lv_iload_n hx hb dX12_best_210 rfl (lv_at hl 1 rfl) ?_
                              refine lv_isub hx hb dX12_best_211 ?_
                              refine lv_topi (fun z_70 ez_70 => ?_)
                              replace hF := q_letX hF ez_70
                              refine lv_iload hx hb dX12_best_212 (lv_at hl 4 rfl) ?_
                              refine lv_iload hx hb dX12_best_214 (lv_at hl 11 rfl) ?_
                              refine lv_isub hx hb dX12_best_216 ?_
                              refine lv_topi (fun z_71 ez_71 => ?_)
                              replace hF := q_letX hF ez_71
                              refine lv_iload hx hb dX12_best_217 (lv_at hl 10 rfl) ?_
                              refine lv_isub hx hb dX12_best_219 ?_
                              refine lv_topi (fun z_72 ez_72 => ?_)
                              replace hF := q_letX hF ez_72
                              refine lv_imul hx hb dX12_best_220 ?_
                              refine lv_topi (fun z_73 ez_73 => ?_)
                              replace hF := q_letX hF ez_73
                              refine lv_iadd hx hb dX12_best_221 ?_
                              refine lv_topi (fun z_74 ez_74 => ?_)
                              replace hF := q_letX hF ez_74
                              refine lv_istore (lv' := [(12, .int z_74), (0, .ref a), (1, .int v1), (2, .int v2), (3, .int f_20), (4, .int r_21), (5, .int r_35), (6, .int r_37), (7, .int x_58), (8, .int x_59), (9, .int x_60), (10, .int x_42), (11, .int x_61)]) hx hb dX12_best_222 hl (by decide) rfl (fun ls hl => ?_)
                              refine lv_iload hx hb dX12_best_224 (lv_at hl 8 rfl) ?_
                              refine q_if_lt (A := x_58.toInt) E rfl (tgt := 239) dX12_best_226 (by decide) (fun c_75 => ?_) (fun c_75 => ?_)
                              · skip
                                replace hF := q_ifp hF c_75
                                refine lv_iload hx hb dX12_best_239 (lv_at hl 12 rfl) ?_
                                refine lv_istore (lv' := [(7, .int x_61), (12, .int z_74), (0, .ref a), (1, .int v1), (2, .int v2), (3, .int f_20), (4, .int r_21), (5, .int r_35), (6, .int r_37), (8, .int x_59), (9, .int x_60), (10, .int x_42), (11, .int x_61)]) hx hb dX12_best_241 hl (by decide) rfl (fun ls hl => ?_)
                                refine lv_iload hx hb dX12_best_243 (lv_at hl 11 rfl) ?_
                                refine lv_istore (lv' := [(8, .int x_42), (7, .int x_61), (12, .int z_74), (0, .ref a), (1, .int v1), (2, .int v2), (3, .int f_20), (4, .int r_21), (5, .int r_35), (6, .int r_37), (9, .int x_60), (10, .int x_42), (11, .int x_61)]) hx hb dX12_best_245 hl (by decide) rfl (fun ls hl => ?_)
                                refine lv_iload hx hb dX12_best_247 (lv_at hl 2 rfl) ?_
                                refine lv_istore (lv' := [(9, .int z_74), (8, .int x_42), (7, .int x_61), (12, .int z_74), (0, .ref a), (1, .int v1), (2, .int v2), (3, .int f_20), (4, .int r_21), (5, .int r_35), (6, .int r_37), (10, .int x_42), (11, .int x_61)]) hx hb dX12_best_249 hl (by decide) rfl (fun ls hl => ?_)
                                obtain ⟨z_76, ez_76⟩ : ∃ y : Int32, y = x_61 + (-1) := ⟨_, rfl⟩
                                replace hF := q_letX hF ez_76
                                refine lv_iinc (v := z_76) (lv' := [(11, .int z_76), (9, .int z_74), (8, .int x_42), (7, .int x_61), (12, .int z_74), (0, .ref a), (1, .int v1), (2, .int v2), (3, .int f_20), (4, .int r_21), (5, .int r_35), (6, .int r_37), (10, .int x_42)]) hx hb dX12_best_251 hl (k := 12) rfl (by rw [ez_76]; rfl) (by decide) rfl (fun ls hl => ?_)
                                have iz_76 : z_76.toInt = x_61.toInt - 1 := q_dec ez_76 (by first | (clear hh ggy_3 iy_3 kc_4 kc_5 ahpσ_7 bhpσ_7 dhpσ_7 c_8 chpσ_7 ggy_12 iy_12 kc_13 kc_14 ahpσ_16 bhpσ_16 dhpσ_16 c_17 chpσ_16 if_18 c_19 if_20 ahpσ_22 bhpσ_22 chpσ_22 dhpσ_22 if_23 gc_24_f_23 c_24 if_28 c_29 c_33 if_34 ahpσ_36 bhpσ_36 chpσ_36 ir_35 ahpσ_38 bhpσ_38 chpσ_38 dhpσ_38 hm134 hge134 if_44 ahpσ_47 bhpσ_47 chpσ_47 gc_48_x_42 gc_48_r_46 c_48 if_54 ahpσ_57 bhpσ_57 chpσ_57 hm169 c_66 c_67 c_75; omega) | omega)
                                refine lv_goto (tgt := 169) hx hb dX12_best_254 (by decide) ?_
                                exact ih169 x_61 x_42 z_74 z_76 _ _ ls (by first | (clear hh ggy_3 iy_3 kc_4 kc_5 ahpσ_7 bhpσ_7 dhpσ_7 c_8 chpσ_7 ggy_12 iy_12 kc_13 kc_14 ahpσ_16 bhpσ_16 dhpσ_16 c_17 chpσ_16 if_18 c_19 if_20 ahpσ_22 bhpσ_22 chpσ_22 dhpσ_22 if_23 gc_24_f_23 c_24 if_28 c_29 c_33 if_34 ahpσ_36 bhpσ_36 chpσ_36 ir_35 ahpσ_38 bhpσ_38 chpσ_38 dhpσ_38 hm134 if_44 ahpσ_47 bhpσ_47 chpσ_47 gc_48_r_46 c_48 if_54 ahpσ_57 bhpσ_57 chpσ_57 c_75; omega) | omega) hF hI (lv_sub hl [5, 6, 7, 8, 9, 10, 11, 3, 2, 1, 12, 0] rfl)
                              · skip
                                replace hF := q_ifn hF (Int.not_lt.mpr c_75)
                                refine lv_iload hx hb dX12_best_229 (lv_at hl 0 rfl) ?_
                                refine lv_iload hx hb dX12_best_231 (lv_at hl 10 rfl) ?_
                                have gc_77_z_74 := q_rng z_74
                                have gc_77_x_60 := q_rng x_60
                                refine q_icmp_lt (A := z_74.toInt) (B := x_60.toInt) E rfl rfl (tgt := 239) dX12_best_233 (by decide) (fun c_77 => ?_) (fun c_77 => ?_)
                                · skip
                                  replace hF := q_ifp hF c_77
                                  refine lv_iload hx hb dX12_best_239 (lv_at hl 12 rfl) ?_
                                  refine lv_istore (lv' := [(7, .int x_61), (12, .int z_74), (0, .ref a), (1, .int v1), (2, .int v2), (3, .int f_20), (4, .int r_21), (5, .int r_35), (6, .int r_37), (8, .int x_59), (9, .int x_60), (10, .int x_42), (11, .int x_61)]) hx hb dX12_best_241 hl (by decide) rfl (fun ls hl => ?_)
                                  refine lv_iload hx hb dX12_best_243 (lv_at hl 11 rfl) ?_
                                  refine lv_istore (lv' := [(8, .int x_42), (7, .int x_61), (12, .int z_74), (0, .ref a), (1, .int v1), (2, .int v2), (3, .int f_20), (4, .int r_21), (5, .int r_35), (6, .int r_37), (9, .int x_60), (10, .int x_42), (11, .int x_61)]) hx hb dX12_best_245 hl (by decide) rfl (fun ls hl => ?_)
                                  refine lv_iload hx hb dX12_best_247 (lv_at hl 2 rfl) ?_
                                  refine lv_istore (lv' := [(9, .int z_74), (8, .int x_42), (7, .int x_61), (12, .int z_74), (0, .ref a), (1, .int v1), (2, .int v2), (3, .int f_20), (4, .int r_21), (5, .int r_35), (6, .int r_37), (10, .int x_42), (11, .int x_61)]) hx hb dX12_best_249 hl (by decide) rfl (fun ls hl => ?_)
                                  obtain ⟨z_78, ez_78⟩ : ∃ y : Int32, y = x_61 + (-1) := ⟨_, rfl⟩
                                  replace hF := q_letX hF ez_78
                                  refine lv_iinc (v := z_78) (lv' := [(11, .int z_78), (9, .int z_74), (8, .int x_42), (7, .int x_61), (12, .int z_74), (0, .ref a), (1, .int v1), (2, .int v2), (3, .int f_20), (4, .int r_21), (5, .int r_35), (6, .int r_37), (10, .int x_42)]) hx hb dX12_best_251 hl (k := 12) rfl (by rw [ez_78]; rfl) (by decide) rfl (fun ls hl => ?_)
                                  have iz_78 : z_78.toInt = x_61.toInt - 1 := q_dec ez_78 (by first | (clear hh ggy_3 iy_3 kc_4 kc_5 ahpσ_7 bhpσ_7 dhpσ_7 c_8 chpσ_7 ggy_12 iy_12 kc_13 kc_14 ahpσ_16 bhpσ_16 dhpσ_16 c_17 chpσ_16 if_18 c_19 if_20 ahpσ_22 bhpσ_22 chpσ_22 dhpσ_22 if_23 gc_24_f_23 c_24 if_28 c_29 c_33 if_34 ahpσ_36 bhpσ_36 chpσ_36 ir_35 ahpσ_38 bhpσ_38 chpσ_38 dhpσ_38 hm134 hge134 if_44 ahpσ_47 bhpσ_47 chpσ_47 gc_48_x_42 gc_48_r_46 c_48 if_54 ahpσ_57 bhpσ_57 chpσ_57 hm169 c_66 c_67 c_75 gc_77_z_74 gc_77_x_60 c_77; omega) | omega)
                                  refine lv_goto (tgt := 169) hx hb dX12_best_254 (by decide) ?_
                                  exact ih169 x_61 x_42 z_74 z_78 _ _ ls (by first | (clear hh ggy_3 iy_3 kc_4 kc_5 ahpσ_7 bhpσ_7 dhpσ_7 c_8 chpσ_7 ggy_12 iy_12 kc_13 kc_14 ahpσ_16 bhpσ_16 dhpσ_16 c_17 chpσ_16 if_18 c_19 if_20 ahpσ_22 bhpσ_22 chpσ_22 dhpσ_22 if_23 gc_24_f_23 c_24 if_28 c_29 c_33 if_34 ahpσ_36 bhpσ_36 chpσ_36 ir_35 ahpσ_38 bhpσ_38 chpσ_38 dhpσ_38 hm134 if_44 ahpσ_47 bhpσ_47 chpσ_47 gc_48_r_46 c_48 if_54 ahpσ_57 bhpσ_57 chpσ_57 c_75 gc_77_z_74 gc_77_x_60 c_77; omega) | omega) hF hI (lv_sub hl [5, 6, 7, 8, 9, 10, 11, 3, 2, 1, 12, 0] rfl)
                                · skip
                                  replace hF := q_ifn hF (Int.not_lt.mpr c_77)
                                  refine lv_goto (tgt := 251) hx hb dX12_best_236 (by decide) ?_
                                  obtain ⟨z_79, ez_79⟩ : ∃ y : Int32, y = x_61 + (-1) := ⟨_, rfl⟩
                                  replace hF := q_letX hF ez_79
                                  refine lv_iinc (v := z_79) (lv' := [(11, .int z_79), (12, .int z_74), (0, .ref a), (1, .int v1), (2, .int v2), (3, .int f_20), (4, .int r_21), (5, .int r_35), (6, .int r_37), (7, .int x_58), (8, .int x_59), (9, .int x_60), (10, .int x_42)]) hx hb dX12_best_251 hl (k := 12) rfl (by rw [ez_79]; rfl) (by decide) rfl (fun ls hl => ?_)
                                  have iz_79 : z_79.toInt = x_61.toInt - 1 := q_dec ez_79 (by first | (clear hh ggy_3 iy_3 kc_4 kc_5 ahpσ_7 bhpσ_7 dhpσ_7 c_8 chpσ_7 ggy_12 iy_12 kc_13 kc_14 ahpσ_16 bhpσ_16 dhpσ_16 c_17 chpσ_16 if_18 c_19 if_20 ahpσ_22 bhpσ_22 chpσ_22 dhpσ_22 if_23 gc_24_f_23 c_24 if_28 c_29 c_33 if_34 ahpσ_36 bhpσ_36 chpσ_36 ir_35 ahpσ_38 bhpσ_38 chpσ_38 dhpσ_38 hm134 hge134 if_44 ahpσ_47 bhpσ_47 chpσ_47 gc_48_x_42 gc_48_r_46 c_48 if_54 ahpσ_57 bhpσ_57 chpσ_57 hm169 c_66 c_67 c_75 gc_77_z_74 gc_77_x_60 c_77; omega) | omega)
                                  refine lv_goto (tgt := 169) hx hb dX12_best_254 (by decide) ?_
                                  exact ih169 x_58 x_59 x_60 z_79 _ _ ls (by first | (clear hh ggy_3 iy_3 kc_4 kc_5 ahpσ_7 bhpσ_7 dhpσ_7 c_8 chpσ_7 ggy_12 iy_12 kc_13 kc_14 ahpσ_16 bhpσ_16 dhpσ_16 c_17 chpσ_16 if_18 c_19 if_20 ahpσ_22 bhpσ_22 chpσ_22 dhpσ_22 if_23 gc_24_f_23 c_24 if_28 c_29 c_33 if_34 ahpσ_36 bhpσ_36 chpσ_36 ir_35 ahpσ_38 bhpσ_38 chpσ_38 dhpσ_38 hm134 if_44 ahpσ_47 bhpσ_47 chpσ_47 gc_48_r_46 c_48 if_54 ahpσ_57 bhpσ_57 chpσ_57 c_75 gc_77_z_74 gc_77_x_60 c_77; omega) | omega) hF hI (lv_sub hl [2, 3, 4, 5, 6, 7, 8, 9, 10, 11, 12, 0] rfl)
                            · skip
                              replace hF := q_ifp hF c_67
                              refine lv_bipush (v := 16) hx hb dX12_best_190 zkb_16 ?_
                              refine lv_iload hx hb dX12_best_192 (lv_at hl 4 rfl) ?_
                              refine lv_iload hx hb dX12_best_194 (lv_at hl 11 rfl) ?_
                              refine lv_isub hx hb dX12_best_196 ?_
                              refine lv_topi (fun z_80 ez_80 => ?_)
                              replace hF := q_letX hF ez_80
                              refine lv_imul hx hb dX12_best_197 ?_
                              refine lv_topi (fun z_81 ez_81 => ?_)
                              replace hF := q_letX hF ez_81
                              refine lv_goto (tgt := 222) hx hb dX12_best_198 (by decide) ?_
                              refine lv_istore (lv' := [(12, .int z_81), (0, .ref a), (1, .int v1), (2, .int v2), (3, .int f_20), (4, .int r_21), (5, .int r_35), (6, .int r_37), (7, .int x_58), (8, .int x_59), (9, .int x_60), (10, .int x_42), (11, .int x_61)]) hx hb dX12_best_222 hl (by decide) rfl (fun ls hl => ?_)
                              refine lv_iload hx hb dX12_best_224 (lv_at hl 8 rfl) ?_
                              refine q_if_lt (A := x_58.toInt) E rfl (tgt := 239) dX12_best_226 (by decide) (fun c_82 => ?_) (fun c_82 => ?_)
                              · skip
                                replace hF := q_ifp hF c_82
                                refine lv_iload hx hb dX12_best_239 (lv_at hl 12 rfl) ?_
                                refine lv_istore (lv' := [(7, .int x_61), (12, .int z_81), (0, .ref a), (1, .int v1), (2, .int v2), (3, .int f_20), (4, .int r_21), (5, .int r_35), (6, .int r_37), (8, .int x_59), (9, .int x_60), (10, .int x_42), (11, .int x_61)]) hx hb dX12_best_241 hl (by decide) rfl (fun ls hl => ?_)
                                refine lv_iload hx hb dX12_best_243 (lv_at hl 11 rfl) ?_
                                refine lv_istore (lv' := [(8, .int x_42), (7, .int x_61), (12, .int z_81), (0, .ref a), (1, .int v1), (2, .int v2), (3, .int f_20), (4, .int r_21), (5, .int r_35), (6, .int r_37), (9, .int x_60), (10, .int x_42), (11, .int x_61)]) hx hb dX12_best_245 hl (by decide) rfl (fun ls hl => ?_)
                                refine lv_iload hx hb dX12_best_247 (lv_at hl 2 rfl) ?_
                                refine lv_istore (lv' := [(9, .int z_81), (8, .int x_42), (7, .int x_61), (12, .int z_81), (0, .ref a), (1, .int v1), (2, .int v2), (3, .int f_20), (4, .int r_21), (5, .int r_35), (6, .int r_37), (10, .int x_42), (11, .int x_61)]) hx hb dX12_best_249 hl (by decide) rfl (fun ls hl => ?_)
                                obtain ⟨z_83, ez_83⟩ : ∃ y : Int32, y = x_61 + (-1) := ⟨_, rfl⟩
                                replace hF := q_letX hF ez_83
                                refine lv_iinc (v := z_83) (lv' := [(11, .int z_83), (9, .int z_81), (8, .int x_42), (7, .int x_61), (12, .int z_81), (0, .ref a), (1, .int v1), (2, .int v2), (3, .int f_20), (4, .int r_21), (5, .int r_35), (6, .int r_37), (10, .int x_42)]) hx hb dX12_best_251 hl (k := 12) rfl (by rw [ez_83]; rfl) (by decide) rfl (fun ls hl => ?_)
                                have iz_83 : z_83.toInt = x_61.toInt - 1 := q_dec ez_83 (by first | (clear hh ggy_3 iy_3 kc_4 kc_5 ahpσ_7 bhpσ_7 dhpσ_7 c_8 chpσ_7 ggy_12 iy_12 kc_13 kc_14 ahpσ_16 bhpσ_16 dhpσ_16 c_17 chpσ_16 if_18 c_19 if_20 ahpσ_22 bhpσ_22 chpσ_22 dhpσ_22 if_23 gc_24_f_23 c_24 if_28 c_29 c_33 if_34 ahpσ_36 bhpσ_36 chpσ_36 ir_35 ahpσ_38 bhpσ_38 chpσ_38 dhpσ_38 hm134 hge134 if_44 ahpσ_47 bhpσ_47 chpσ_47 gc_48_x_42 gc_48_r_46 c_48 if_54 ahpσ_57 bhpσ_57 chpσ_57 hm169 c_66 c_67 c_82; omega) | omega)
                                refine lv_goto (tgt := 169) hx hb dX12_best_254 (by decide) ?_
                                exact ih169 x_61 x_42 z_81 z_83 _ _ ls (by first | (clear hh ggy_3 iy_3 kc_4 kc_5 ahpσ_7 bhpσ_7 dhpσ_7 c_8 chpσ_7 ggy_12 iy_12 kc_13 kc_14 ahpσ_16 bhpσ_16 dhpσ_16 c_17 chpσ_16 if_18 c_19 if_20 ahpσ_22 bhpσ_22 chpσ_22 dhpσ_22 if_23 gc_24_f_23 c_24 if_28 c_29 c_33 if_34 ahpσ_36 bhpσ_36 chpσ_36 ir_35 ahpσ_38 bhpσ_38 chpσ_38 dhpσ_38 hm134 hge134 if_44 ahpσ_47 bhpσ_47 chpσ_47 gc_48_x_42 gc_48_r_46 c_48 if_54 ahpσ_57 bhpσ_57 chpσ_57 c_67 c_82; omega) | omega) hF hI (lv_sub hl [5, 6, 7, 8, 9, 10, 11, 3, 2, 1, 12, 0] rfl)
                              · skip
                                replace hF := q_ifn hF (Int.not_lt.mpr c_82)
                                refine lv_iload hx hb dX12_best_229 (lv_at hl 0 rfl) ?_
                                refine lv_iload hx hb dX12_best_231 (lv_at hl 10 rfl) ?_
                                have gc_84_z_81 := q_rng z_81
                                have gc_84_x_60 := q_rng x_60
                                refine q_icmp_lt (A := z_81.toInt) (B := x_60.toInt) E rfl rfl (tgt := 239) dX12_best_233 (by decide) (fun c_84 => ?_) (fun c_84 => ?_)
                                · skip
                                  replace hF := q_ifp hF c_84
                                  refine lv_iload hx hb dX12_best_239 (lv_at hl 12 rfl) ?_
                                  refine lv_istore (lv' := [(7, .int x_61), (12, .int z_81), (0, .ref a), (1, .int v1), (2, .int v2), (3, .int f_20), (4, .int r_21), (5, .int r_35), (6, .int r_37), (8, .int x_59), (9, .int x_60), (10, .int x_42), (11, .int x_61)]) hx hb dX12_best_241 hl (by decide) rfl (fun ls hl => ?_)
                                  refine lv_iload hx hb dX12_best_243 (lv_at hl 11 rfl) ?_
                                  refine lv_istore (lv' := [(8, .int x_42), (7, .int x_61), (12, .int z_81), (0, .ref a), (1, .int v1), (2, .int v2), (3, .int f_20), (4, .int r_21), (5, .int r_35), (6, .int r_37), (9, .int x_60), (10, .int x_42), (11, .int x_61)]) hx hb dX12_best_245 hl (by decide) rfl (fun ls hl => ?_)
                                  refine lv_iload hx hb dX12_best_247 (lv_at hl 2 rfl) ?_
                                  refine lv_istore (lv' := [(9, .int z_81), (8, .int x_42), (7, .int x_61), (12, .int z_81), (0, .ref a), (1, .int v1), (2, .int v2), (3, .int f_20), (4, .int r_21), (5, .int r_35), (6, .int r_37), (10, .int x_42), (11, .int x_61)]) hx hb dX12_best_249 hl (by decide) rfl (fun ls hl => ?_)
                                  obtain ⟨z_85, ez_85⟩ : ∃ y : Int32, y = x_61 + (-1) := ⟨_, rfl⟩
                                  replace hF := q_letX hF ez_85
                                  refine lv_iinc (v := z_85) (lv' := [(11, .int z_85), (9, .int z_81), (8, .int x_42), (7, .int x_61), (12, .int z_81), (0, .ref a), (1, .int v1), (2, .int v2), (3, .int f_20), (4, .int r_21), (5, .int r_35), (6, .int r_37), (10, .int x_42)]) hx hb dX12_best_251 hl (k := 12) rfl (by rw [ez_85]; rfl) (by decide) rfl (fun ls hl => ?_)
                                  have iz_85 : z_85.toInt = x_61.toInt - 1 := q_dec ez_85 (by first | (clear hh ggy_3 iy_3 kc_4 kc_5 ahpσ_7 bhpσ_7 dhpσ_7 c_8 chpσ_7 ggy_12 iy_12 kc_13 kc_14 ahpσ_16 bhpσ_16 dhpσ_16 c_17 chpσ_16 if_18 c_19 if_20 ahpσ_22 bhpσ_22 chpσ_22 dhpσ_22 if_23 gc_24_f_23 c_24 if_28 c_29 c_33 if_34 ahpσ_36 bhpσ_36 chpσ_36 ir_35 ahpσ_38 bhpσ_38 chpσ_38 dhpσ_38 hm134 hge134 if_44 ahpσ_47 bhpσ_47 chpσ_47 gc_48_x_42 gc_48_r_46 c_48 if_54 ahpσ_57 bhpσ_57 chpσ_57 hm169 c_66 c_67 c_82 gc_84_z_81 gc_84_x_60 c_84; omega) | omega)
                                  refine lv_goto (tgt := 169) hx hb dX12_best_254 (by decide) ?_
                                  exact ih169 x_61 x_42 z_81 z_85 _ _ ls (by first | (clear hh ggy_3 iy_3 kc_4 kc_5 ahpσ_7 bhpσ_7 dhpσ_7 c_8 chpσ_7 ggy_12 iy_12 kc_13 kc_14 ahpσ_16 bhpσ_16 dhpσ_16 c_17 chpσ_16 if_18 c_19 if_20 ahpσ_22 bhpσ_22 chpσ_22 dhpσ_22 if_23 gc_24_f_23 c_24 if_28 c_29 c_33 if_34 ahpσ_36 bhpσ_36 chpσ_36 ir_35 ahpσ_38 bhpσ_38 chpσ_38 dhpσ_38 hm134 hge134 if_44 ahpσ_47 bhpσ_47 chpσ_47 gc_48_x_42 gc_48_r_46 c_48 if_54 ahpσ_57 bhpσ_57 chpσ_57 c_67 c_82 gc_84_z_81 gc_84_x_60 c_84; omega) | omega) hF hI (lv_sub hl [5, 6, 7, 8, 9, 10, 11, 3, 2, 1, 12, 0] rfl)
                                · skip
                                  replace hF := q_ifn hF (Int.not_lt.mpr c_84)
                                  refine lv_goto (tgt := 251) hx hb dX12_best_236 (by decide) ?_
                                  obtain ⟨z_86, ez_86⟩ : ∃ y : Int32, y = x_61 + (-1) := ⟨_, rfl⟩
                                  replace hF := q_letX hF ez_86
                                  refine lv_iinc (v := z_86) (lv' := [(11, .int z_86), (12, .int z_81), (0, .ref a), (1, .int v1), (2, .int v2), (3, .int f_20), (4, .int r_21), (5, .int r_35), (6, .int r_37), (7, .int x_58), (8, .int x_59), (9, .int x_60), (10, .int x_42)]) hx hb dX12_best_251 hl (k := 12) rfl (by rw [ez_86]; rfl) (by decide) rfl (fun ls hl => ?_)
                                  have iz_86 : z_86.toInt = x_61.toInt - 1 := q_dec ez_86 (by first | (clear hh ggy_3 iy_3 kc_4 kc_5 ahpσ_7 bhpσ_7 dhpσ_7 c_8 chpσ_7 ggy_12 iy_12 kc_13 kc_14 ahpσ_16 bhpσ_16 dhpσ_16 c_17 chpσ_16 if_18 c_19 if_20 ahpσ_22 bhpσ_22 chpσ_22 dhpσ_22 if_23 gc_24_f_23 c_24 if_28 c_29 c_33 if_34 ahpσ_36 bhpσ_36 chpσ_36 ir_35 ahpσ_38 bhpσ_38 chpσ_38 dhpσ_38 hm134 hge134 if_44 ahpσ_47 bhpσ_47 chpσ_47 gc_48_x_42 gc_48_r_46 c_48 if_54 ahpσ_57 bhpσ_57 chpσ_57 hm169 c_66 c_67 c_82 gc_84_z_81 gc_84_x_60 c_84; omega) | omega)
                                  refine lv_goto (tgt := 169) hx hb dX12_best_254 (by decide) ?_
                                  exact ih169 x_58 x_59 x_60 z_86 _ _ ls (by first | (clear hh ggy_3 iy_3 kc_4 kc_5 ahpσ_7 bhpσ_7 dhpσ_7 c_8 chpσ_7 ggy_12 iy_12 kc_13 kc_14 ahpσ_16 bhpσ_16 dhpσ_16 c_17 chpσ_16 if_18 c_19 if_20 ahpσ_22 bhpσ_22 chpσ_22 dhpσ_22 if_23 gc_24_f_23 c_24 if_28 c_29 c_33 if_34 ahpσ_36 bhpσ_36 chpσ_36 ir_35 ahpσ_38 bhpσ_38 chpσ_38 dhpσ_38 hm134 hge134 if_44 ahpσ_47 bhpσ_47 chpσ_47 gc_48_x_42 gc_48_r_46 c_48 if_54 ahpσ_57 bhpσ_57 chpσ_57 c_67 c_82 gc_84_z_81 gc_84_x_60 c_84; omega) | omega) hF hI (lv_sub hl [2, 3, 4, 5, 6, 7, 8, 9, 10, 11, 12, 0] rfl)
                          · skip
                            replace hF := q_ifp hF c_66
                            refine lv_goto (tgt := 251) hx hb dX12_best_182 (by decide) ?_
                            obtain ⟨z_87, ez_87⟩ : ∃ y : Int32, y = x_61 + (-1) := ⟨_, rfl⟩
                            replace hF := q_letX hF ez_87
                            refine lv_iinc (v := z_87) (lv' := [(11, .int z_87), (0, .ref a), (1, .int v1), (2, .int v2), (3, .int f_20), (4, .int r_21), (5, .int r_35), (6, .int r_37), (7, .int x_58), (8, .int x_59), (9, .int x_60), (10, .int x_42)]) hx hb dX12_best_251 hl (k := 11) rfl (by rw [ez_87]; rfl) (by decide) rfl (fun ls hl => ?_)
                            have iz_87 : z_87.toInt = x_61.toInt - 1 := q_dec ez_87 (by first | (clear hh ggy_3 iy_3 kc_4 kc_5 ahpσ_7 bhpσ_7 dhpσ_7 c_8 chpσ_7 ggy_12 iy_12 kc_13 kc_14 ahpσ_16 bhpσ_16 dhpσ_16 c_17 chpσ_16 if_18 c_19 if_20 ahpσ_22 bhpσ_22 chpσ_22 dhpσ_22 if_23 gc_24_f_23 c_24 if_28 c_29 c_33 if_34 ahpσ_36 bhpσ_36 chpσ_36 ir_35 ahpσ_38 bhpσ_38 chpσ_38 dhpσ_38 hm134 hge134 if_44 ahpσ_47 bhpσ_47 chpσ_47 gc_48_x_42 gc_48_r_46 c_48 if_54 ahpσ_57 bhpσ_57 chpσ_57 hm169 c_66; omega) | omega)
                            refine lv_goto (tgt := 169) hx hb dX12_best_254 (by decide) ?_
                            exact ih169 x_58 x_59 x_60 z_87 _ _ ls (by first | (clear hh ggy_3 iy_3 kc_4 kc_5 ahpσ_7 bhpσ_7 dhpσ_7 c_8 chpσ_7 ggy_12 iy_12 kc_13 kc_14 ahpσ_16 bhpσ_16 dhpσ_16 c_17 chpσ_16 if_18 c_19 if_20 ahpσ_22 bhpσ_22 chpσ_22 dhpσ_22 if_23 gc_24_f_23 c_24 if_28 c_29 c_33 if_34 ahpσ_36 bhpσ_36 chpσ_36 ir_35 ahpσ_38 bhpσ_38 chpσ_38 dhpσ_38 hm134 hge134 if_44 ahpσ_47 bhpσ_47 chpσ_47 gc_48_x_42 gc_48_r_46 c_48 if_54 ahpσ_57 bhpσ_57 chpσ_57 c_66; omega) | omega) hF hI (lv_sub hl [1, 2, 3, 4, 5, 6, 7, 8, 9, 10, 11, 0] rfl)
                    exact L_169_62 ((r_56.toInt + 2147483649).toNat + 1) x_39 x_40 x_41 r_56 _ _ ls (Nat.lt_succ_self _) hF hI (lv_sub hl [1, 2, 3, 4, 5, 6, 7, 8, 9, 10, 11, 0] rfl)
              have kc_88 : ((-1) : Int32).toInt = (-1) := zt_m1
              have kc_89 : (0 : Int32).toInt = 0 := zt_0
              exact L_134_43 ((2147483647 - (0 : Int32).toInt).toNat + 1) (-1) 0 0 0 _ _ ls (Nat.lt_succ_self _) (by decide) hF hI (lv_sub hl [8, 9, 10, 7, 6, 5, 4, 3, 2, 1, 0] rfl)
            · skip
              replace hF := q_ifp hF c_33
              refine lv_aload_n hx hb dX12_best_96 rfl (lv_at hl 2 rfl) ?_
              refine lv_bipush (v := 9) hx hb dX12_best_97 zkb_9 ?_
              have kc_90 : (9 : Int32).toInt = 9 := zt_9
              refine q_ci (q_rV11_1 (rest := []) E (hml.trans hl.1.symm) hI (c_X12_refuse l X σ_2 a (9 : Int32) ha) kv_X12_284 ha ⟨Nat.le_of_ble_eq_true rfl, Nat.le_of_ble_eq_true rfl⟩ (Nat.le_of_ble_eq_true rfl) dX12_best_99) hI (Nat.le_of_ble_eq_true rfl) (fun r_91 σ_92 H locs hpσ_92 hkσ_92 hI => ?_)
              have ahpσ_92 := hpσ_92.1
              have bhpσ_92 := hpσ_92.2.1
              have chpσ_92 := hpσ_92.2.2
              clear hpσ_92
              have fr_σ_92 := fr_σ_2.call chpσ_92 rfl rfl
              replace hF := q_biX hF bhpσ_92
              have mcσ_92 := m_cK hkσ_92 hI.1 ha (by decide)
              have feσ_92 : m_c X σ_92 a = m_c X σ a := (funext mcσ_92).trans feσ_2
              exact q_reti E hr hlk hI ⟨(hF.trans hout), fr_σ_92⟩ dX12_best_102
      · skip
        replace hF := q_ifp hF c_19
        refine lv_aload_n hx hb dX12_best_48 rfl (lv_at hl 0 rfl) ?_
        refine lv_bipush (v := 8) hx hb dX12_best_49 zkb_8 ?_
        have kc_93 : (8 : Int32).toInt = 8 := zt_8
        refine q_ci (q_rV11_1 (rest := []) E (hml.trans hl.1.symm) hI (c_X12_refuse l X σ_2 a (8 : Int32) ha) kv_X12_284 ha ⟨Nat.le_of_ble_eq_true rfl, Nat.le_of_ble_eq_true rfl⟩ (Nat.le_of_ble_eq_true rfl) dX12_best_51) hI (Nat.le_of_ble_eq_true rfl) (fun r_94 σ_95 H locs hpσ_95 hkσ_95 hI => ?_)
        have ahpσ_95 := hpσ_95.1
        have bhpσ_95 := hpσ_95.2.1
        have chpσ_95 := hpσ_95.2.2
        clear hpσ_95
        have fr_σ_95 := fr_σ_2.call chpσ_95 rfl rfl
        replace hF := q_biX hF bhpσ_95
        have mcσ_95 := m_cK hkσ_95 hI.1 ha (by decide)
        have feσ_95 : m_c X σ_95 a = m_c X σ a := (funext mcσ_95).trans feσ_2
        exact q_reti E hr hlk hI ⟨(hF.trans hout), fr_σ_95⟩ dX12_best_54
    · skip
      replace hF := q_ifp hF c_17
      replace chpσ_16 := q_ifNo chpσ_16 c_17
      refine lv_aload_n hx hb dX12_best_32 rfl (lv_at hl 0 rfl) ?_
      refine lv_iconst (v := 5) hx hb dX12_best_33 zki_5 ?_
      have kc_96 : (5 : Int32).toInt = 5 := zt_5
      refine q_ci (q_rV11_1 (rest := []) E (hml.trans hl.1.symm) hI (c_X12_refuse l X σ_2 a (5 : Int32) ha) kv_X12_284 ha ⟨Nat.le_of_ble_eq_true rfl, Nat.le_of_ble_eq_true rfl⟩ (Nat.le_of_ble_eq_true rfl) dX12_best_34) hI (Nat.le_of_ble_eq_true rfl) (fun r_97 σ_98 H locs hpσ_98 hkσ_98 hI => ?_)
      have ahpσ_98 := hpσ_98.1
      have bhpσ_98 := hpσ_98.2.1
      have chpσ_98 := hpσ_98.2.2
      clear hpσ_98
      have fr_σ_98 := fr_σ_2.call chpσ_98 rfl rfl
      replace hF := q_biX hF bhpσ_98
      have mcσ_98 := m_cK hkσ_98 hI.1 ha (by decide)
      have feσ_98 : m_c X σ_98 a = m_c X σ a := (funext mcσ_98).trans feσ_2
      exact q_reti E hr hlk hI ⟨(hF.trans hout), fr_σ_98⟩ dX12_best_37

set_option maxRecDepth 100000 in
set_option maxHeartbeats 4000000 in
theorem c_X12_sayer (l : Launch) (X : XW) (σ : ST) (a : Nat) (v1 : Int32) (ha : q_kd X a = 12) (hG : m_G (m_c X σ a)) : Met l yX12_sayer (q_ws yX12_sayer cX12_sayer 4 (some .int)) (q_rm 3 67) (q_P X σ [.ref a, .int v1]) (q_Qi X 8 σ (fun (r : Int32) (σ' : ST) => (r, σ') = F_X12_sayer X σ a v1 ∧ q_ow [(12, 0), (12, 1)] [] X σ σ')) 0 0 (q_reg X) := by
  refine q_met 8 (by first | exact rfl | decide +kernel) rfl (Nat.le_of_ble_eq_true rfl) (fun p e s m below meth c E hml hr hlk hI ls hl => ?_)
  have hx := E.1
  have hb := E.2.1
  have hl : lv_has ls 4 [(0, .ref a), (1, .int v1)] := hl
  have feσ : m_c X σ a = m_c X σ a := rfl
  have fr_σ : q_ow [(12, 0), (12, 1)] [] X σ σ := q_ow.rf
  have hh := hG.hd
  obtain ⟨out, hout⟩ : ∃ o, o = F_X12_sayer X σ a v1 := ⟨_, rfl⟩
  have hF := hout.symm
  unfold F_X12_sayer at hF
  refine lv_aload_n hx hb dX12_sayer_0 rfl (lv_at hl 0 rfl) ?_
  refine lv_iconst (v := 0) hx hb dX12_sayer_1 zki_0 ?_
  refine ps_X12_59_12 E hI ha (by decide) dX12_sayer_2 (fun H locs σ_1 hσ_1 hI => ?_)
  replace hF := q_letX hF hσ_1
  have fr_σ_1 := fr_σ.si hσ_1 ha rfl
  have mcσ_1 := m_wo hσ_1 (m_ne ha (q_tk (f := 20) (k' := 34) hI ha rfl (by decide)) (by decide))
  have feσ_1 : m_c X σ_1 a = m_c X σ a := (funext mcσ_1).trans feσ
  refine lv_aload_n hx hb dX12_sayer_5 rfl (lv_at hl 0 rfl) ?_
  refine lv_iconst (v := 0) hx hb dX12_sayer_6 zki_0 ?_
  refine ps_X12_62_12 E hI ha (by decide) dX12_sayer_7 (fun H locs σ_2 hσ_2 hI => ?_)
  replace hF := q_letX hF hσ_2
  have fr_σ_2 := fr_σ_1.si hσ_2 ha rfl
  have mcσ_2 := m_wo hσ_2 (m_ne ha (q_tk (f := 20) (k' := 34) hI ha rfl (by decide)) (by decide))
  have feσ_2 : m_c X σ_2 a = m_c X σ a := (funext mcσ_2).trans feσ_1
  refine lv_aload_n hx hb dX12_sayer_10 rfl (lv_at hl 0 rfl) ?_
  refine lv_iload_n hx hb dX12_sayer_11 rfl (lv_at hl 1 rfl) ?_
  refine q_ci (q_rV11_1 (rest := []) E (hml.trans hl.1.symm) hI (c_X12_isKindAt l X σ_2 a v1 ha (by rw [feσ_2]; exact hG)) kv_X12_299 ha ⟨Nat.le_of_ble_eq_true rfl, Nat.le_of_ble_eq_true rfl⟩ (Nat.le_of_ble_eq_true rfl) dX12_sayer_12) hI (Nat.le_of_ble_eq_true rfl) (fun r_3 σ_4 H locs hpσ_4 hkσ_4 hI => ?_)
  have ahpσ_4 := hpσ_4.1
  have bhpσ_4 := hpσ_4.2.1
  have chpσ_4 := hpσ_4.2.2.1
  have dhpσ_4 := hpσ_4.2.2.2
  clear hpσ_4
  replace hI := q_Irw ahpσ_4 hI
  rw [feσ_2] at chpσ_4
  replace hF := q_letX hF dhpσ_4
  refine q_if_ne (A := r_3.toInt) E rfl (tgt := 24) dX12_sayer_15 (by decide) (fun c_5 => ?_) (fun c_5 => ?_)
  · skip
    replace hF := q_ifn hF c_5
    replace c_5 := q_ifOne bhpσ_4 c_5
    replace chpσ_4 := q_ifYes chpσ_4 c_5
    refine lv_iconst (v := 0) hx hb dX12_sayer_24 zki_0 ?_
    refine lv_istore_n (lv' := [(2, .int 0), (0, .ref a), (1, .int v1)]) hx hb dX12_sayer_25 rfl hl (by decide) rfl (fun ls hl => ?_)
    have L_26_7 : ∀ (k_7 : Nat) (x_6 : Int32) (H : Heap) (locs : List Loc) (ls : Array Slot), (2147483647 - x_6.toInt).toNat < k_7 → (0 ≤ x_6.toInt) → (F_X12_sayer_L26_1 X σ_2 a v1 k_7 x_6 = out) → q_I X 8 σ s.heap locs σ_2 H → lv_has ls 4 [(0, .ref a), (1, .int v1), (2, .int x_6)] → W p l e (q_rm 3 67) s m ([.ref a, .int v1] : List Value).toArray below meth c H locs 0 0 (MQ below (q_Qi X 8 σ (fun (r : Int32) (σ' : ST) => (r, σ') = F_X12_sayer X σ a v1 ∧ q_ow [(12, 0), (12, 1)] [] X σ σ')) ([.ref a, .int v1] : List Value).toArray s 0 0 (q_reg X)) (F0 m 26 ls []) := by
      clear hF
      intro k_7
      induction k_7 with
      | zero =>
        intro x_6 H locs ls hms
        exact absurd hms (Nat.not_lt_zero _)
      | succ k_7 ih26 =>
        intro x_6 H locs ls hm26 hge26 hF hI hl
        replace hF := (F_X12_sayer_L26_1_s).symm.trans hF
        unfold F_X12_sayer_B26_1 at hF
        refine lv_iload_n hx hb dX12_sayer_26 rfl (lv_at hl 2 rfl) ?_
        refine lv_aload_n hx hb dX12_sayer_27 rfl (lv_at hl 0 rfl) ?_
        refine gs_X12_35_12 E hI ha dX12_sayer_28 ?_
        refine lv_iconst (v := 0) hx hb dX12_sayer_31 zki_0 ?_
        refine q_iald E hI (q_tk (k' := 34) hI ha rfl (Nat.succ_ne_zero _)) ⟨by decide, rfl⟩ (by decide) (by rw [q_lnk (v := 4650) hI (q_tk (k' := 34) hI ha rfl (Nat.succ_ne_zero _)) rfl (by decide)]; decide) dX12_sayer_32 ?_
        refine lv_topi (fun f_8 ef_8 => ?_)
        replace hF := q_letX hF ef_8
        have if_8 : f_8.toInt = m_c X σ a 0 := (m_rd ef_8 (by decide)).trans (congrFun feσ_2 _)
        refine lv_aload_n hx hb dX12_sayer_33 rfl (lv_at hl 0 rfl) ?_
        refine gs_X12_35_12 E hI ha dX12_sayer_34 ?_
        refine lv_iconst (v := 2) hx hb dX12_sayer_37 zki_2 ?_
        refine q_iald E hI (q_tk (k' := 34) hI ha rfl (Nat.succ_ne_zero _)) ⟨by decide, rfl⟩ (by decide) (by rw [q_lnk (v := 4650) hI (q_tk (k' := 34) hI ha rfl (Nat.succ_ne_zero _)) rfl (by decide)]; decide) dX12_sayer_38 ?_
        refine lv_topi (fun f_9 ef_9 => ?_)
        replace hF := q_letX hF ef_9
        have if_9 : f_9.toInt = m_c X σ a 2 := (m_rd ef_9 (by decide)).trans (congrFun feσ_2 _)
        have mb := m_mulI (a := (m_c X σ a 0)) (A := 10) (b := (m_c X σ a 2)) (B := 6) (by first | (clear ahpσ_4 bhpσ_4 dhpσ_4 c_5 chpσ_4 hm26 hge26 if_9; omega) | omega) (by first | (clear ahpσ_4 bhpσ_4 dhpσ_4 c_5 chpσ_4 hm26 hge26 if_9; omega) | omega) (by first | (clear ahpσ_4 bhpσ_4 dhpσ_4 c_5 chpσ_4 hm26 hge26 if_8; omega) | omega) (by first | (clear ahpσ_4 bhpσ_4 dhpσ_4 c_5 chpσ_4 hm26 hge26 if_8; omega) | omega)
        refine lv_imul hx hb dX12_sayer_39 ?_
        refine lv_topi (fun z_10 ez_10 => ?_)
        replace hF := q_letX hF ez_10
        have iz_10 := q_mulI (A := (m_c X σ a 0)) (B := (m_c X σ a 2)) ez_10 if_8 if_9 (by first | (clear hh ahpσ_4 bhpσ_4 dhpσ_4 c_5 chpσ_4 hm26 hge26 if_8 if_9; omega) | omega) (by first | (clear hh ahpσ_4 bhpσ_4 dhpσ_4 c_5 chpσ_4 hm26 hge26 if_8 if_9; omega) | omega)
        have gc_11_x_6 := q_rng x_6
        have gc_11_z_10 := q_rng z_10
        refine q_icmp_ge (A := x_6.toInt) (B := z_10.toInt) E rfl rfl (tgt := 117) dX12_sayer_40 (by decide) (fun c_11 => ?_) (fun c_11 => ?_)
        · skip
          replace hF := q_ifn hF (Int.not_lt.mpr c_11)
          unfold F_X12_sayer_E117_2 at hF
          refine lv_aload_n hx hb dX12_sayer_117 rfl (lv_at hl 0 rfl) ?_
          refine lv_bipush (v := 8) hx hb dX12_sayer_118 zkb_8 ?_
          have kc_12 : (8 : Int32).toInt = 8 := zt_8
          refine q_ci (q_rV11_1 (rest := []) E (hml.trans hl.1.symm) hI (c_X12_refuse l X σ_2 a (8 : Int32) ha) kv_X12_284 ha ⟨Nat.le_of_ble_eq_true rfl, Nat.le_of_ble_eq_true rfl⟩ (Nat.le_of_ble_eq_true rfl) dX12_sayer_120) hI (Nat.le_of_ble_eq_true rfl) (fun r_13 σ_14 H locs hpσ_14 hkσ_14 hI => ?_)
          have ahpσ_14 := hpσ_14.1
          have bhpσ_14 := hpσ_14.2.1
          have chpσ_14 := hpσ_14.2.2
          clear hpσ_14
          have fr_σ_14 := fr_σ_2.call chpσ_14 rfl rfl
          replace hF := q_biX hF bhpσ_14
          have mcσ_14 := m_cK hkσ_14 hI.1 ha (by decide)
          have feσ_14 : m_c X σ_14 a = m_c X σ a := (funext mcσ_14).trans feσ_2
          exact q_reti E hr hlk hI ⟨(hF.trans hout), fr_σ_14⟩ dX12_sayer_123
        · skip
          replace hF := q_ifp hF c_11
          refine lv_aload_n hx hb dX12_sayer_43 rfl (lv_at hl 0 rfl) ?_
          refine gs_X12_35_12 E hI ha dX12_sayer_44 ?_
          refine lv_bipush (v := 7) hx hb dX12_sayer_47 zkb_7 ?_
          refine q_iald E hI (q_tk (k' := 34) hI ha rfl (Nat.succ_ne_zero _)) ⟨by decide, rfl⟩ (by decide) (by rw [q_lnk (v := 4650) hI (q_tk (k' := 34) hI ha rfl (Nat.succ_ne_zero _)) rfl (by decide)]; decide) dX12_sayer_49 ?_
          refine lv_topi (fun f_15 ef_15 => ?_)
          replace hF := q_letX hF ef_15
          have if_15 : f_15.toInt = m_c X σ a 7 := (m_rd ef_15 (by decide)).trans (congrFun feσ_2 _)
          refine lv_iconst (v := 1) hx hb dX12_sayer_50 zki_1 ?_
          have J_91_16 : ∀ (x_16 : Int32) (H : Heap) (locs : List Loc) (ls : Array Slot), (0 ≤ x_16.toInt ∧ x_16.toInt < m_c X σ a 2) → (F_X12_sayer_J91_3 X σ_2 a x_6 v1 (F_X12_sayer_L26_1 X σ_2 a v1 k_7) x_16 = out) → q_I X 8 σ s.heap locs σ_2 H → lv_has ls 4 [(0, .ref a), (1, .int v1), (2, .int x_6)] → W p l e (q_rm 3 67) s m ([.ref a, .int v1] : List Value).toArray below meth c H locs 0 0 (MQ below (q_Qi X 8 σ (fun (r : Int32) (σ' : ST) => (r, σ') = F_X12_sayer X σ a v1 ∧ q_ow [(12, 0), (12, 1)] [] X σ σ')) ([.ref a, .int v1] : List Value).toArray s 0 0 (q_reg X)) (F0 m 91 ls [.int x_16]) := by
            clear hF
            intro x_16 H locs ls j91 hF hI hl
            unfold F_X12_sayer_J91_3 at hF
            refine lv_istore_n (lv' := [(3, .int x_16), (0, .ref a), (1, .int v1), (2, .int x_6)]) hx hb dX12_sayer_91 rfl hl (by decide) rfl (fun ls hl => ?_)
            refine lv_aload_n hx hb dX12_sayer_92 rfl (lv_at hl 1 rfl) ?_
            refine lv_iload_n hx hb dX12_sayer_93 rfl (lv_at hl 0 rfl) ?_
            refine lv_iload_n hx hb dX12_sayer_94 rfl (lv_at hl 3 rfl) ?_
            refine lv_aload_n hx hb dX12_sayer_95 rfl (lv_at hl 1 rfl) ?_
            refine gs_X12_35_12 E hI ha dX12_sayer_96 ?_
            refine lv_iconst (v := 2) hx hb dX12_sayer_99 zki_2 ?_
            refine q_iald E hI (q_tk (k' := 34) hI ha rfl (Nat.succ_ne_zero _)) ⟨by decide, rfl⟩ (by decide) (by rw [q_lnk (v := 4650) hI (q_tk (k' := 34) hI ha rfl (Nat.succ_ne_zero _)) rfl (by decide)]; decide) dX12_sayer_100 ?_
            refine lv_topi (fun f_17 ef_17 => ?_)
            replace hF := q_letX hF ef_17
            have if_17 : f_17.toInt = m_c X σ a 2 := (m_rd ef_17 (by decide)).trans (congrFun feσ_2 _)
            refine lv_idiv hx hb dX12_sayer_101 (q_ne0 (by first | (clear hh ahpσ_4 bhpσ_4 dhpσ_4 c_5 chpσ_4 hm26 hge26 if_8 mb iz_10 gc_11_x_6 gc_11_z_10 c_11 if_15; omega) | omega)) ?_
            refine lv_topi (fun z_18 ez_18 => ?_)
            replace hF := q_letX hF ez_18
            have dvz_18 := m_div ez_18 (by omega) (by first | (clear ahpσ_4 bhpσ_4 dhpσ_4 c_5 chpσ_4 hm26 hge26 if_8 mb iz_10 gc_11_x_6 gc_11_z_10 c_11 if_15; omega) | omega)
            refine q_ci (q_rV11_2 (rest := []) E (hml.trans hl.1.symm) hI (c_X12_fallsTo l X σ_2 a x_16 z_18 ha (by rw [feσ_2]; exact hG) (by rw [feσ_2]; exact (by omega)) (by first | (clear hh ahpσ_4 bhpσ_4 dhpσ_4 c_5 chpσ_4 hm26 if_8 if_9 gc_11_z_10 if_15 j91 if_17; omega) | omega)) kv_X12_372 ha ⟨Nat.le_of_ble_eq_true rfl, Nat.le_of_ble_eq_true rfl⟩ (Nat.le_of_ble_eq_true rfl) dX12_sayer_102) hI (Nat.le_of_ble_eq_true rfl) (fun r_19 σ_20 H locs hpσ_20 hkσ_20 hI => ?_)
            have ahpσ_20 := hpσ_20.1
            have bhpσ_20 := hpσ_20.2.1
            have chpσ_20 := hpσ_20.2.2
            clear hpσ_20
            replace hI := q_Irw ahpσ_20 hI
            rw [feσ_2] at bhpσ_20
            replace hF := q_letX hF chpσ_20
            refine lv_iload_n hx hb dX12_sayer_105 rfl (lv_at hl 2 rfl) ?_
            have gc_21_r_19 := q_rng r_19
            have gc_21_v1 := q_rng v1
            refine q_icmp_ne (A := r_19.toInt) (B := v1.toInt) E rfl rfl (tgt := 111) dX12_sayer_106 (by decide) (fun c_21 => ?_) (fun c_21 => ?_)
            · skip
              replace hF := q_ifn hF c_21
              obtain ⟨z_22, ez_22⟩ : ∃ y : Int32, y = x_6 + 1 := ⟨_, rfl⟩
              replace hF := q_letX hF ez_22
              refine lv_iinc (v := z_22) (lv' := [(2, .int z_22), (3, .int x_16), (0, .ref a), (1, .int v1)]) hx hb dX12_sayer_111 hl (k := 3) rfl (by rw [ez_22]; rfl) (by decide) rfl (fun ls hl => ?_)
              have iz_22 : z_22.toInt = x_6.toInt + 1 := q_inc ez_22 (by first | (clear hh ahpσ_4 bhpσ_4 dhpσ_4 c_5 chpσ_4 hm26 if_8 if_9 gc_11_z_10 if_15 j91 if_17 dvz_18 ahpσ_20 bhpσ_20 chpσ_20 gc_21_r_19 gc_21_v1 c_21; omega) | omega)
              refine lv_goto (tgt := 26) hx hb dX12_sayer_114 (by decide) ?_
              exact ih26 z_22 _ _ ls (by first | (clear hh ahpσ_4 bhpσ_4 dhpσ_4 c_5 chpσ_4 if_8 if_9 gc_11_z_10 if_15 j91 if_17 dvz_18 ahpσ_20 bhpσ_20 chpσ_20 gc_21_r_19 gc_21_v1; omega) | omega) (by first | (clear hh ahpσ_4 bhpσ_4 dhpσ_4 c_5 chpσ_4 hm26 if_8 if_9 mb iz_10 gc_11_z_10 c_11 if_15 j91 if_17 dvz_18 ahpσ_20 bhpσ_20 chpσ_20 gc_21_r_19 gc_21_v1 c_21; omega) | omega) hF hI (lv_sub hl [2, 3, 0] rfl)
            · skip
              replace hF := q_ifp hF c_21
              skip
              refine lv_iload_n hx hb dX12_sayer_109 rfl (lv_at hl 0 rfl) ?_
              exact q_reti E hr hlk hI ⟨(hF.trans hout), fr_σ_2⟩ dX12_sayer_110
          have gc_23_f_15 := q_rng f_15
          refine q_icmp_ne (A := f_15.toInt) (B := 1) E rfl (by decide) (tgt := 75) dX12_sayer_51 (by decide) (fun c_23 => ?_) (fun c_23 => ?_)
          · skip
            replace hF := q_ifn hF c_23
            refine lv_aload_n hx hb dX12_sayer_75 rfl (lv_at hl 0 rfl) ?_
            refine gs_X12_35_12 E hI ha dX12_sayer_76 ?_
            refine lv_bipush (v := 6) hx hb dX12_sayer_79 zkb_6 ?_
            refine q_iald E hI (q_tk (k' := 34) hI ha rfl (Nat.succ_ne_zero _)) ⟨by decide, rfl⟩ (by decide) (by rw [q_lnk (v := 4650) hI (q_tk (k' := 34) hI ha rfl (Nat.succ_ne_zero _)) rfl (by decide)]; decide) dX12_sayer_81 ?_
            refine lv_topi (fun f_24 ef_24 => ?_)
            replace hF := q_letX hF ef_24
            have if_24 : f_24.toInt = m_c X σ a 6 := (m_rd ef_24 (by decide)).trans (congrFun feσ_2 _)
            refine lv_iload_n hx hb dX12_sayer_82 rfl (lv_at hl 2 rfl) ?_
            refine lv_iadd hx hb dX12_sayer_83 ?_
            refine lv_topi (fun z_25 ez_25 => ?_)
            replace hF := q_letX hF ez_25
            have iz_25 := q_addI (A := (m_c X σ a 6)) (B := x_6.toInt) ez_25 if_24 rfl (by first | (clear ahpσ_4 bhpσ_4 dhpσ_4 c_5 chpσ_4 hm26 if_8 if_9 mb iz_10 gc_11_z_10 c_11 if_15 gc_23_f_15 c_23; omega) | omega) (by first | (clear ahpσ_4 bhpσ_4 dhpσ_4 c_5 chpσ_4 hm26 if_8 gc_11_z_10 if_15 gc_23_f_15 c_23; omega) | omega)
            refine lv_aload_n hx hb dX12_sayer_84 rfl (lv_at hl 0 rfl) ?_
            refine gs_X12_35_12 E hI ha dX12_sayer_85 ?_
            refine lv_iconst (v := 2) hx hb dX12_sayer_88 zki_2 ?_
            refine q_iald E hI (q_tk (k' := 34) hI ha rfl (Nat.succ_ne_zero _)) ⟨by decide, rfl⟩ (by decide) (by rw [q_lnk (v := 4650) hI (q_tk (k' := 34) hI ha rfl (Nat.succ_ne_zero _)) rfl (by decide)]; decide) dX12_sayer_89 ?_
            refine lv_topi (fun f_26 ef_26 => ?_)
            replace hF := q_letX hF ef_26
            have if_26 : f_26.toInt = m_c X σ a 2 := (m_rd ef_26 (by decide)).trans (congrFun feσ_2 _)
            refine lv_irem hx hb dX12_sayer_90 (q_ne0 (by first | (clear ahpσ_4 bhpσ_4 dhpσ_4 c_5 chpσ_4 hm26 if_8 gc_11_z_10 if_15 gc_23_f_15 c_23; omega) | omega)) ?_
            refine lv_topi (fun z_27 ez_27 => ?_)
            replace hF := q_letX hF (ez_27.trans (q_remI _ _))
            have rmz_27 := m_rem ez_27 (by first | (clear ahpσ_4 bhpσ_4 dhpσ_4 c_5 chpσ_4 hm26 if_8 gc_11_z_10 if_15 gc_23_f_15 c_23; omega) | omega) (by first | (clear ahpσ_4 bhpσ_4 dhpσ_4 c_5 chpσ_4 hm26 if_8 gc_11_z_10 if_15 gc_23_f_15 c_23; omega) | omega)
            exact J_91_16 z_27 _ _ ls (by first | (clear hh ahpσ_4 bhpσ_4 dhpσ_4 c_5 chpσ_4 hm26 hge26 if_8 mb iz_10 gc_11_x_6 gc_11_z_10 c_11 if_15 gc_23_f_15 c_23 if_24 iz_25; omega) | omega) hF hI (lv_sub hl [0, 1, 2] rfl)
          · skip
            replace hF := q_ifp hF c_23
            refine lv_aload_n hx hb dX12_sayer_54 rfl (lv_at hl 0 rfl) ?_
            refine gs_X12_35_12 E hI ha dX12_sayer_55 ?_
            refine lv_bipush (v := 6) hx hb dX12_sayer_58 zkb_6 ?_
            refine q_iald E hI (q_tk (k' := 34) hI ha rfl (Nat.succ_ne_zero _)) ⟨by decide, rfl⟩ (by decide) (by rw [q_lnk (v := 4650) hI (q_tk (k' := 34) hI ha rfl (Nat.succ_ne_zero _)) rfl (by decide)]; decide) dX12_sayer_60 ?_
            refine lv_topi (fun f_28 ef_28 => ?_)
            replace hF := q_letX hF ef_28
            have if_28 : f_28.toInt = m_c X σ a 6 := (m_rd ef_28 (by decide)).trans (congrFun feσ_2 _)
            refine lv_iconst (v := 1) hx hb dX12_sayer_61 zki_1 ?_
            refine lv_iadd hx hb dX12_sayer_62 ?_
            refine lv_topi (fun z_29 ez_29 => ?_)
            replace hF := q_letX hF ez_29
            have iz_29 := q_addI (A := (m_c X σ a 6)) (B := 1) ez_29 if_28 (by decide) (by first | (clear ahpσ_4 bhpσ_4 dhpσ_4 c_5 chpσ_4 hm26 hge26 if_8 if_9 mb iz_10 gc_11_x_6 gc_11_z_10 c_11 gc_23_f_15; omega) | omega) (by first | (clear ahpσ_4 bhpσ_4 dhpσ_4 c_5 chpσ_4 hm26 hge26 if_8 mb iz_10 gc_11_x_6 gc_11_z_10 c_11 if_15 gc_23_f_15 c_23; omega) | omega)
            refine lv_iload_n hx hb dX12_sayer_63 rfl (lv_at hl 2 rfl) ?_
            refine lv_iadd hx hb dX12_sayer_64 ?_
            refine lv_topi (fun z_30 ez_30 => ?_)
            replace hF := q_letX hF ez_30
            have iz_30 := q_addI (A := ((m_c X σ a 6) + 1)) (B := x_6.toInt) ez_30 iz_29 rfl (by first | (clear ahpσ_4 bhpσ_4 dhpσ_4 c_5 chpσ_4 hm26 if_8 if_9 mb iz_10 gc_11_z_10 c_11 gc_23_f_15; omega) | omega) (by first | (clear ahpσ_4 bhpσ_4 dhpσ_4 c_5 chpσ_4 hm26 if_8 gc_11_z_10 if_15 gc_23_f_15 c_23; omega) | omega)
            refine lv_aload_n hx hb dX12_sayer_65 rfl (lv_at hl 0 rfl) ?_
            refine gs_X12_35_12 E hI ha dX12_sayer_66 ?_
            refine lv_iconst (v := 2) hx hb dX12_sayer_69 zki_2 ?_
            refine q_iald E hI (q_tk (k' := 34) hI ha rfl (Nat.succ_ne_zero _)) ⟨by decide, rfl⟩ (by decide) (by rw [q_lnk (v := 4650) hI (q_tk (k' := 34) hI ha rfl (Nat.succ_ne_zero _)) rfl (by decide)]; decide) dX12_sayer_70 ?_
            refine lv_topi (fun f_31 ef_31 => ?_)
            replace hF := q_letX hF ef_31
            have if_31 : f_31.toInt = m_c X σ a 2 := (m_rd ef_31 (by decide)).trans (congrFun feσ_2 _)
            refine lv_irem hx hb dX12_sayer_71 (q_ne0 (by first | (clear ahpσ_4 bhpσ_4 dhpσ_4 c_5 chpσ_4 hm26 hge26 if_8 mb iz_10 gc_11_x_6 gc_11_z_10 c_11 gc_23_f_15 iz_30; omega) | omega)) ?_
            refine lv_topi (fun z_32 ez_32 => ?_)
            replace hF := q_letX hF (ez_32.trans (q_remI _ _))
            have rmz_32 := m_rem ez_32 (by first | (clear ahpσ_4 bhpσ_4 dhpσ_4 c_5 chpσ_4 hm26 if_8 if_9 mb iz_10 gc_11_z_10 c_11 gc_23_f_15 if_31; omega) | omega) (by first | (clear ahpσ_4 bhpσ_4 dhpσ_4 c_5 chpσ_4 hm26 hge26 if_8 mb iz_10 gc_11_x_6 gc_11_z_10 c_11 gc_23_f_15 iz_30; omega) | omega)
            refine lv_goto (tgt := 91) hx hb dX12_sayer_72 (by decide) ?_
            exact J_91_16 z_32 _ _ ls (by first | (clear hh ahpσ_4 bhpσ_4 dhpσ_4 c_5 chpσ_4 hm26 hge26 if_8 mb iz_10 gc_11_x_6 gc_11_z_10 c_11 if_15 gc_23_f_15 c_23 if_28 iz_29 iz_30; omega) | omega) hF hI (lv_sub hl [0, 1, 2] rfl)
    have kc_33 : (0 : Int32).toInt = 0 := zt_0
    exact L_26_7 ((2147483647 - (0 : Int32).toInt).toNat + 1) 0 _ _ ls (Nat.lt_succ_self _) (by decide) hF hI (lv_sub hl [1, 2, 0] rfl)
  · skip
    replace hF := q_ifp hF c_5
    replace chpσ_4 := q_ifNo chpσ_4 c_5
    refine lv_aload_n hx hb dX12_sayer_18 rfl (lv_at hl 0 rfl) ?_
    refine lv_iconst (v := 2) hx hb dX12_sayer_19 zki_2 ?_
    have kc_34 : (2 : Int32).toInt = 2 := zt_2
    refine q_ci (q_rV11_1 (rest := []) E (hml.trans hl.1.symm) hI (c_X12_refuse l X σ_2 a (2 : Int32) ha) kv_X12_284 ha ⟨Nat.le_of_ble_eq_true rfl, Nat.le_of_ble_eq_true rfl⟩ (Nat.le_of_ble_eq_true rfl) dX12_sayer_20) hI (Nat.le_of_ble_eq_true rfl) (fun r_35 σ_36 H locs hpσ_36 hkσ_36 hI => ?_)
    have ahpσ_36 := hpσ_36.1
    have bhpσ_36 := hpσ_36.2.1
    have chpσ_36 := hpσ_36.2.2
    clear hpσ_36
    have fr_σ_36 := fr_σ_2.call chpσ_36 rfl rfl
    replace hF := q_biX hF bhpσ_36
    have mcσ_36 := m_cK hkσ_36 hI.1 ha (by decide)
    have feσ_36 : m_c X σ_36 a = m_c X σ a := (funext mcσ_36).trans feσ_2
    exact q_reti E hr hlk hI ⟨(hF.trans hout), fr_σ_36⟩ dX12_sayer_23

set_option maxRecDepth 100000 in
set_option maxHeartbeats 4000000 in
theorem c_X12_has (l : Launch) (X : XW) (σ : ST) (a : Nat) (v1 : Int32) (ha : q_kd X a = 12) (hG : m_G (m_c X σ a)) : Met l yX12_has (q_ws yX12_has cX12_has 4 (some .int)) (q_rm 2 46) (q_P X σ [.ref a, .int v1]) (q_Qi X 8 σ (fun (r : Int32) (σ' : ST) => (r, σ') = F_X12_has X σ a v1 ∧ q_ow [(12, 0), (12, 1)] [] X σ σ')) 0 0 (q_reg X) := by
  refine q_met 8 (by first | exact rfl | decide +kernel) rfl (Nat.le_of_ble_eq_true rfl) (fun p e s m below meth c E hml hr hlk hI ls hl => ?_)
  have hx := E.1
  have hb := E.2.1
  have hl : lv_has ls 4 [(0, .ref a), (1, .int v1)] := hl
  have feσ : m_c X σ a = m_c X σ a := rfl
  have fr_σ : q_ow [(12, 0), (12, 1)] [] X σ σ := q_ow.rf
  have hh := hG.hd
  obtain ⟨out, hout⟩ : ∃ o, o = F_X12_has X σ a v1 := ⟨_, rfl⟩
  have hF := hout.symm
  unfold F_X12_has at hF
  refine lv_aload_n hx hb dX12_has_0 rfl (lv_at hl 0 rfl) ?_
  refine lv_iconst (v := 0) hx hb dX12_has_1 zki_0 ?_
  refine ps_X12_59_12 E hI ha (by decide) dX12_has_2 (fun H locs σ_1 hσ_1 hI => ?_)
  replace hF := q_letX hF hσ_1
  have fr_σ_1 := fr_σ.si hσ_1 ha rfl
  have mcσ_1 := m_wo hσ_1 (m_ne ha (q_tk (f := 20) (k' := 34) hI ha rfl (by decide)) (by decide))
  have feσ_1 : m_c X σ_1 a = m_c X σ a := (funext mcσ_1).trans feσ
  refine lv_aload_n hx hb dX12_has_5 rfl (lv_at hl 0 rfl) ?_
  refine lv_iconst (v := 0) hx hb dX12_has_6 zki_0 ?_
  refine ps_X12_62_12 E hI ha (by decide) dX12_has_7 (fun H locs σ_2 hσ_2 hI => ?_)
  replace hF := q_letX hF hσ_2
  have fr_σ_2 := fr_σ_1.si hσ_2 ha rfl
  have mcσ_2 := m_wo hσ_2 (m_ne ha (q_tk (f := 20) (k' := 34) hI ha rfl (by decide)) (by decide))
  have feσ_2 : m_c X σ_2 a = m_c X σ a := (funext mcσ_2).trans feσ_1
  refine lv_aload_n hx hb dX12_has_10 rfl (lv_at hl 0 rfl) ?_
  refine lv_iload_n hx hb dX12_has_11 rfl (lv_at hl 1 rfl) ?_
  refine q_ci (q_rV11_1 (rest := []) E (hml.trans hl.1.symm) hI (c_X12_isPlayerAt l X σ_2 a v1 ha (by rw [feσ_2]; exact hG)) kv_X12_290 ha ⟨Nat.le_of_ble_eq_true rfl, Nat.le_of_ble_eq_true rfl⟩ (Nat.le_of_ble_eq_true rfl) dX12_has_12) hI (Nat.le_of_ble_eq_true rfl) (fun r_3 σ_4 H locs hpσ_4 hkσ_4 hI => ?_)
  have ahpσ_4 := hpσ_4.1
  have bhpσ_4 := hpσ_4.2.1
  have chpσ_4 := hpσ_4.2.2.1
  have dhpσ_4 := hpσ_4.2.2.2
  clear hpσ_4
  replace hI := q_Irw ahpσ_4 hI
  rw [feσ_2] at chpσ_4
  replace hF := q_letX hF dhpσ_4
  refine q_if_ne (A := r_3.toInt) E rfl (tgt := 24) dX12_has_15 (by decide) (fun c_5 => ?_) (fun c_5 => ?_)
  · skip
    replace hF := q_ifn hF c_5
    replace c_5 := q_ifOne bhpσ_4 c_5
    replace chpσ_4 := q_ifYes chpσ_4 c_5
    refine lv_iconst (v := 0) hx hb dX12_has_24 zki_0 ?_
    refine lv_istore_n (lv' := [(2, .int 0), (0, .ref a), (1, .int v1)]) hx hb dX12_has_25 rfl hl (by decide) rfl (fun ls hl => ?_)
    refine lv_iconst (v := 0) hx hb dX12_has_26 zki_0 ?_
    refine lv_istore_n (lv' := [(3, .int 0), (2, .int 0), (0, .ref a), (1, .int v1)]) hx hb dX12_has_27 rfl hl (by decide) rfl (fun ls hl => ?_)
    have L_28_8 : ∀ (k_8 : Nat) (x_6 : Int32) (x_7 : Int32) (H : Heap) (locs : List Loc) (ls : Array Slot), (2147483647 - x_7.toInt).toNat < k_8 → (0 ≤ x_7.toInt) → (F_X12_has_L28_1 X σ_2 a v1 k_8 x_6 x_7 = out) → q_I X 8 σ s.heap locs σ_2 H → lv_has ls 4 [(0, .ref a), (1, .int v1), (2, .int x_6), (3, .int x_7)] → W p l e (q_rm 2 46) s m ([.ref a, .int v1] : List Value).toArray below meth c H locs 0 0 (MQ below (q_Qi X 8 σ (fun (r : Int32) (σ' : ST) => (r, σ') = F_X12_has X σ a v1 ∧ q_ow [(12, 0), (12, 1)] [] X σ σ')) ([.ref a, .int v1] : List Value).toArray s 0 0 (q_reg X)) (F0 m 28 ls []) := by
      clear hF
      intro k_8
      induction k_8 with
      | zero =>
        intro x_6 x_7 H locs ls hms
        exact absurd hms (Nat.not_lt_zero _)
      | succ k_8 ih28 =>
        intro x_6 x_7 H locs ls hm28 hge28 hF hI hl
        replace hF := (F_X12_has_L28_1_s).symm.trans hF
        unfold F_X12_has_B28_1 at hF
        refine lv_iload_n hx hb dX12_has_28 rfl (lv_at hl 3 rfl) ?_
        refine lv_aload_n hx hb dX12_has_29 rfl (lv_at hl 0 rfl) ?_
        refine gs_X12_35_12 E hI ha dX12_has_30 ?_
        refine lv_iconst (v := 0) hx hb dX12_has_33 zki_0 ?_
        refine q_iald E hI (q_tk (k' := 34) hI ha rfl (Nat.succ_ne_zero _)) ⟨by decide, rfl⟩ (by decide) (by rw [q_lnk (v := 4650) hI (q_tk (k' := 34) hI ha rfl (Nat.succ_ne_zero _)) rfl (by decide)]; decide) dX12_has_34 ?_
        refine lv_topi (fun f_9 ef_9 => ?_)
        replace hF := q_letX hF ef_9
        have if_9 : f_9.toInt = m_c X σ a 0 := (m_rd ef_9 (by decide)).trans (congrFun feσ_2 _)
        have gc_10_x_7 := q_rng x_7
        have gc_10_f_9 := q_rng f_9
        refine q_icmp_ge (A := x_7.toInt) (B := f_9.toInt) E rfl rfl (tgt := 63) dX12_has_35 (by decide) (fun c_10 => ?_) (fun c_10 => ?_)
        · skip
          replace hF := q_ifn hF (Int.not_lt.mpr c_10)
          skip
          refine lv_iload_n hx hb dX12_has_63 rfl (lv_at hl 2 rfl) ?_
          exact q_reti E hr hlk hI ⟨(hF.trans hout), fr_σ_2⟩ dX12_has_64
        · skip
          replace hF := q_ifp hF c_10
          refine lv_iload_n hx hb dX12_has_38 rfl (lv_at hl 2 rfl) ?_
          refine lv_aload_n hx hb dX12_has_39 rfl (lv_at hl 0 rfl) ?_
          refine lv_iload_n hx hb dX12_has_40 rfl (lv_at hl 1 rfl) ?_
          refine lv_iload_n hx hb dX12_has_41 rfl (lv_at hl 3 rfl) ?_
          refine q_ci (q_rV11_2 (rest := [.int x_6]) E (hml.trans hl.1.symm) hI (c_X12_handOf l X σ_2 a v1 x_7 ha (by first | (clear ahpσ_4 bhpσ_4 dhpσ_4 c_5 hm28 hge28 if_9 gc_10_x_7 gc_10_f_9 c_10; omega) | omega) (by first | (clear ahpσ_4 bhpσ_4 dhpσ_4 c_5 chpσ_4 hm28 gc_10_f_9; omega) | omega)) kv_X12_276 ha ⟨Nat.le_of_ble_eq_true rfl, Nat.le_of_ble_eq_true rfl⟩ (Nat.le_of_ble_eq_true rfl) dX12_has_42) hI (Nat.le_of_ble_eq_true rfl) (fun r_11 σ_12 H locs hpσ_12 hkσ_12 hI => ?_)
          have ahpσ_12 := hpσ_12.1
          have bhpσ_12 := hpσ_12.2.1
          have chpσ_12 := hpσ_12.2.2
          clear hpσ_12
          replace hI := q_Irw ahpσ_12 hI
          rw [feσ_2] at bhpσ_12
          replace hF := q_letX hF chpσ_12
          have ir_11 : r_11.toInt = (m_c X σ a (34 + 10 * v1.toInt + x_7.toInt)) := (by first | exact bhpσ_12 | (rw [bhpσ_12]) | (simp only [bhpσ_12]))
          refine q_if_le (A := r_11.toInt) E rfl (tgt := 54) dX12_has_45 (by decide) (fun c_13 => ?_) (fun c_13 => ?_)
          · skip
            replace hF := q_ifn hF (Int.not_lt.mpr c_13)
            refine lv_iconst (v := 0) hx hb dX12_has_54 zki_0 ?_
            refine lv_ior hx hb dX12_has_55 ?_
            refine lv_topi (fun z_14 ez_14 => ?_)
            replace hF := q_letX hF ez_14
            refine lv_istore_n (lv' := [(2, .int z_14), (0, .ref a), (1, .int v1), (3, .int x_7)]) hx hb dX12_has_56 rfl hl (by decide) rfl (fun ls hl => ?_)
            obtain ⟨z_15, ez_15⟩ : ∃ y : Int32, y = x_7 + 1 := ⟨_, rfl⟩
            replace hF := q_letX hF ez_15
            refine lv_iinc (v := z_15) (lv' := [(3, .int z_15), (2, .int z_14), (0, .ref a), (1, .int v1)]) hx hb dX12_has_57 hl (k := 3) rfl (by rw [ez_15]; rfl) (by decide) rfl (fun ls hl => ?_)
            have iz_15 : z_15.toInt = x_7.toInt + 1 := q_inc ez_15 (by first | (clear ahpσ_4 bhpσ_4 dhpσ_4 c_5 chpσ_4 hm28 gc_10_f_9 ahpσ_12 bhpσ_12 chpσ_12 ir_11 c_13; omega) | omega)
            refine lv_goto (tgt := 28) hx hb dX12_has_60 (by decide) ?_
            exact ih28 z_14 z_15 _ _ ls (by first | (clear ahpσ_4 bhpσ_4 dhpσ_4 c_5 chpσ_4 gc_10_f_9 ahpσ_12 bhpσ_12 chpσ_12 ir_11 c_13; omega) | omega) (by first | (clear hh ahpσ_4 bhpσ_4 dhpσ_4 c_5 chpσ_4 hm28 if_9 gc_10_f_9 c_10 ahpσ_12 bhpσ_12 chpσ_12 ir_11 c_13; omega) | omega) hF hI (lv_sub hl [2, 3, 1, 0] rfl)
          · skip
            replace hF := q_ifp hF c_13
            refine lv_iconst (v := 1) hx hb dX12_has_48 zki_1 ?_
            refine lv_iload_n hx hb dX12_has_49 rfl (lv_at hl 3 rfl) ?_
            refine lv_ishl hx hb dX12_has_50 ?_
            refine lv_topi (fun z_16 ez_16 => ?_)
            replace hF := q_letX hF ez_16
            refine lv_goto (tgt := 55) hx hb dX12_has_51 (by decide) ?_
            refine lv_ior hx hb dX12_has_55 ?_
            refine lv_topi (fun z_17 ez_17 => ?_)
            replace hF := q_letX hF ez_17
            refine lv_istore_n (lv' := [(2, .int z_17), (0, .ref a), (1, .int v1), (3, .int x_7)]) hx hb dX12_has_56 rfl hl (by decide) rfl (fun ls hl => ?_)
            obtain ⟨z_18, ez_18⟩ : ∃ y : Int32, y = x_7 + 1 := ⟨_, rfl⟩
            replace hF := q_letX hF ez_18
            refine lv_iinc (v := z_18) (lv' := [(3, .int z_18), (2, .int z_17), (0, .ref a), (1, .int v1)]) hx hb dX12_has_57 hl (k := 3) rfl (by rw [ez_18]; rfl) (by decide) rfl (fun ls hl => ?_)
            have iz_18 : z_18.toInt = x_7.toInt + 1 := q_inc ez_18 (by first | (clear ahpσ_4 bhpσ_4 dhpσ_4 c_5 chpσ_4 hm28 gc_10_f_9 ahpσ_12 bhpσ_12 chpσ_12 ir_11 c_13; omega) | omega)
            refine lv_goto (tgt := 28) hx hb dX12_has_60 (by decide) ?_
            exact ih28 z_17 z_18 _ _ ls (by first | (clear ahpσ_4 bhpσ_4 dhpσ_4 c_5 chpσ_4 gc_10_f_9 ahpσ_12 bhpσ_12 chpσ_12 ir_11 c_13; omega) | omega) (by first | (clear hh ahpσ_4 bhpσ_4 dhpσ_4 c_5 chpσ_4 hm28 if_9 gc_10_f_9 c_10 ahpσ_12 bhpσ_12 chpσ_12 ir_11 c_13; omega) | omega) hF hI (lv_sub hl [2, 3, 1, 0] rfl)
    have kc_19 : (0 : Int32).toInt = 0 := zt_0
    exact L_28_8 ((2147483647 - (0 : Int32).toInt).toNat + 1) 0 0 _ _ ls (Nat.lt_succ_self _) (by decide) hF hI (lv_sub hl [2, 3, 1, 0] rfl)
  · skip
    replace hF := q_ifp hF c_5
    replace chpσ_4 := q_ifNo chpσ_4 c_5
    refine lv_aload_n hx hb dX12_has_18 rfl (lv_at hl 0 rfl) ?_
    refine lv_iconst (v := 2) hx hb dX12_has_19 zki_2 ?_
    have kc_20 : (2 : Int32).toInt = 2 := zt_2
    refine q_ci (q_rV11_1 (rest := []) E (hml.trans hl.1.symm) hI (c_X12_refuse l X σ_2 a (2 : Int32) ha) kv_X12_284 ha ⟨Nat.le_of_ble_eq_true rfl, Nat.le_of_ble_eq_true rfl⟩ (Nat.le_of_ble_eq_true rfl) dX12_has_20) hI (Nat.le_of_ble_eq_true rfl) (fun r_21 σ_22 H locs hpσ_22 hkσ_22 hI => ?_)
    have ahpσ_22 := hpσ_22.1
    have bhpσ_22 := hpσ_22.2.1
    have chpσ_22 := hpσ_22.2.2
    clear hpσ_22
    have fr_σ_22 := fr_σ_2.call chpσ_22 rfl rfl
    replace hF := q_biX hF bhpσ_22
    have mcσ_22 := m_cK hkσ_22 hI.1 ha (by decide)
    have feσ_22 : m_c X σ_22 a = m_c X σ a := (funext mcσ_22).trans feσ_2
    exact q_reti E hr hlk hI ⟨(hF.trans hout), fr_σ_22⟩ dX12_has_23

set_option maxRecDepth 100000 in
set_option maxHeartbeats 4000000 in
theorem c_X12_lies (l : Launch) (X : XW) (σ : ST) (a : Nat) (v1 : Int32) (ha : q_kd X a = 12) (hG : m_G (m_c X σ a)) : Met l yX12_lies (q_ws yX12_lies cX12_lies 2 (some .int)) (q_rm 2 46) (q_P X σ [.ref a, .int v1]) (q_Qi X 8 σ (fun (r : Int32) (σ' : ST) => (r, σ') = F_X12_lies X σ a v1 ∧ q_ow [(12, 0), (12, 1)] [] X σ σ')) 0 0 (q_reg X) := by
  refine q_met 8 (by first | exact rfl | decide +kernel) rfl (Nat.le_of_ble_eq_true rfl) (fun p e s m below meth c E hml hr hlk hI ls hl => ?_)
  have hx := E.1
  have hb := E.2.1
  have hl : lv_has ls 2 [(0, .ref a), (1, .int v1)] := hl
  have feσ : m_c X σ a = m_c X σ a := rfl
  have fr_σ : q_ow [(12, 0), (12, 1)] [] X σ σ := q_ow.rf
  have hh := hG.hd
  obtain ⟨out, hout⟩ : ∃ o, o = F_X12_lies X σ a v1 := ⟨_, rfl⟩
  have hF := hout.symm
  unfold F_X12_lies at hF
  refine lv_aload_n hx hb dX12_lies_0 rfl (lv_at hl 0 rfl) ?_
  refine lv_iconst (v := 0) hx hb dX12_lies_1 zki_0 ?_
  refine ps_X12_59_12 E hI ha (by decide) dX12_lies_2 (fun H locs σ_1 hσ_1 hI => ?_)
  replace hF := q_letX hF hσ_1
  have fr_σ_1 := fr_σ.si hσ_1 ha rfl
  have mcσ_1 := m_wo hσ_1 (m_ne ha (q_tk (f := 20) (k' := 34) hI ha rfl (by decide)) (by decide))
  have feσ_1 : m_c X σ_1 a = m_c X σ a := (funext mcσ_1).trans feσ
  refine lv_aload_n hx hb dX12_lies_5 rfl (lv_at hl 0 rfl) ?_
  refine lv_iconst (v := 0) hx hb dX12_lies_6 zki_0 ?_
  refine ps_X12_62_12 E hI ha (by decide) dX12_lies_7 (fun H locs σ_2 hσ_2 hI => ?_)
  replace hF := q_letX hF hσ_2
  have fr_σ_2 := fr_σ_1.si hσ_2 ha rfl
  have mcσ_2 := m_wo hσ_2 (m_ne ha (q_tk (f := 20) (k' := 34) hI ha rfl (by decide)) (by decide))
  have feσ_2 : m_c X σ_2 a = m_c X σ a := (funext mcσ_2).trans feσ_1
  refine lv_aload_n hx hb dX12_lies_10 rfl (lv_at hl 0 rfl) ?_
  refine lv_iload_n hx hb dX12_lies_11 rfl (lv_at hl 1 rfl) ?_
  refine q_ci (q_rV11_1 (rest := []) E (hml.trans hl.1.symm) hI (c_X12_isKindAt l X σ_2 a v1 ha (by rw [feσ_2]; exact hG)) kv_X12_299 ha ⟨Nat.le_of_ble_eq_true rfl, Nat.le_of_ble_eq_true rfl⟩ (Nat.le_of_ble_eq_true rfl) dX12_lies_12) hI (Nat.le_of_ble_eq_true rfl) (fun r_3 σ_4 H locs hpσ_4 hkσ_4 hI => ?_)
  have ahpσ_4 := hpσ_4.1
  have bhpσ_4 := hpσ_4.2.1
  have chpσ_4 := hpσ_4.2.2.1
  have dhpσ_4 := hpσ_4.2.2.2
  clear hpσ_4
  replace hI := q_Irw ahpσ_4 hI
  rw [feσ_2] at chpσ_4
  replace hF := q_letX hF dhpσ_4
  refine q_if_eq (A := r_3.toInt) E rfl (tgt := 27) dX12_lies_15 (by decide) (fun c_5 => ?_) (fun c_5 => ?_)
  · skip
    replace hF := q_ifp hF c_5
    replace chpσ_4 := q_ifNo chpσ_4 c_5
    refine lv_aload_n hx hb dX12_lies_27 rfl (lv_at hl 0 rfl) ?_
    refine lv_iconst (v := 2) hx hb dX12_lies_28 zki_2 ?_
    have kc_6 : (2 : Int32).toInt = 2 := zt_2
    refine q_ci (q_rV11_1 (rest := []) E (hml.trans hl.1.symm) hI (c_X12_refuse l X σ_2 a (2 : Int32) ha) kv_X12_284 ha ⟨Nat.le_of_ble_eq_true rfl, Nat.le_of_ble_eq_true rfl⟩ (Nat.le_of_ble_eq_true rfl) dX12_lies_29) hI (Nat.le_of_ble_eq_true rfl) (fun r_7 σ_8 H locs hpσ_8 hkσ_8 hI => ?_)
    have ahpσ_8 := hpσ_8.1
    have bhpσ_8 := hpσ_8.2.1
    have chpσ_8 := hpσ_8.2.2
    clear hpσ_8
    have fr_σ_8 := fr_σ_2.call chpσ_8 rfl rfl
    replace hF := q_biX hF bhpσ_8
    have mcσ_8 := m_cK hkσ_8 hI.1 ha (by decide)
    have feσ_8 : m_c X σ_8 a = m_c X σ a := (funext mcσ_8).trans feσ_2
    exact q_reti E hr hlk hI ⟨(hF.trans hout), fr_σ_8⟩ dX12_lies_32
  · skip
    replace hF := q_ifn hF c_5
    replace c_5 := q_ifOne bhpσ_4 c_5
    replace chpσ_4 := q_ifYes chpσ_4 c_5
    refine lv_aload_n hx hb dX12_lies_18 rfl (lv_at hl 0 rfl) ?_
    refine lv_iconst (v := (-1)) hx hb dX12_lies_19 zki_m1 ?_
    refine lv_iload_n hx hb dX12_lies_20 rfl (lv_at hl 1 rfl) ?_
    have kc_9 : ((-1) : Int32).toInt = (-1) := zt_m1
    refine q_ci (q_rV11_2 (rest := []) E (hml.trans hl.1.symm) hI (c_X12_laidOf l X σ_2 a ((-1) : Int32) v1 ha (by rw [feσ_2]; exact hG)) kv_X12_296 ha ⟨Nat.le_of_ble_eq_true rfl, Nat.le_of_ble_eq_true rfl⟩ (Nat.le_of_ble_eq_true rfl) dX12_lies_21) hI (Nat.le_of_ble_eq_true rfl) (fun r_10 σ_11 H locs hpσ_11 hkσ_11 hI => ?_)
    have ahpσ_11 := hpσ_11.1
    have bhpσ_11 := hpσ_11.2.1
    have chpσ_11 := hpσ_11.2.2.1
    have dhpσ_11 := hpσ_11.2.2.2
    clear hpσ_11
    replace hI := q_Irw ahpσ_11 hI
    rw [feσ_2] at bhpσ_11
    replace hF := q_letX hF dhpσ_11
    have ir_10 : r_10.toInt = (m_A (m_c X σ a) (-1) v1.toInt (m_c X σ a 9).toNat) := (by first | exact bhpσ_11 | (rw [bhpσ_11]) | (simp only [bhpσ_11]))
    refine lv_goto (tgt := 32) hx hb dX12_lies_24 (by decide) ?_
    exact q_reti E hr hlk hI ⟨(hF.trans hout), fr_σ_2⟩ dX12_lies_32

set_option maxRecDepth 100000 in
set_option maxHeartbeats 4000000 in
theorem c_X12_guess (l : Launch) (X : XW) (σ : ST) (a : Nat) (v1 : Int32) (v2 : Int32) (v3 : Int32) (ha : q_kd X a = 12) (hG : m_G (m_c X σ a)) : Met l yX12_guess (q_ws yX12_guess cX12_guess 4 (some .boolean)) (q_rm 5 114) (q_P X σ [.ref a, .int v1, .int v2, .int v3]) (q_Qi X 8 σ (fun (r : Int32) (σ' : ST) => (0 ≤ r.toInt ∧ r.toInt ≤ 1) ∧ (r, σ') = F_X12_guess X σ a v1 v2 v3 ∧ q_ow [(12, 0), (12, 1)] [(12, 2), (12, 3)] X σ σ')) 0 0 (q_reg X) := by
  refine q_met 8 (by first | exact rfl | decide +kernel) rfl (Nat.le_of_ble_eq_true rfl) (fun p e s m below meth c E hml hr hlk hI ls hl => ?_)
  have hx := E.1
  have hb := E.2.1
  have hl : lv_has ls 4 [(0, .ref a), (1, .int v1), (2, .int v2), (3, .int v3)] := hl
  have feσ : m_c X σ a = m_c X σ a := rfl
  have fr_σ : q_ow [(12, 0), (12, 1)] [(12, 2), (12, 3)] X σ σ := q_ow.rf
  have hh := hG.hd
  obtain ⟨out, hout⟩ : ∃ o, o = F_X12_guess X σ a v1 v2 v3 := ⟨_, rfl⟩
  have hF := hout.symm
  unfold F_X12_guess at hF
  refine lv_aload_n hx hb dX12_guess_0 rfl (lv_at hl 0 rfl) ?_
  refine lv_iconst (v := 0) hx hb dX12_guess_1 zki_0 ?_
  refine ps_X12_59_12 E hI ha (by decide) dX12_guess_2 (fun H locs σ_1 hσ_1 hI => ?_)
  replace hF := q_letX hF hσ_1
  have fr_σ_1 := fr_σ.si hσ_1 ha rfl
  have mcσ_1 := m_wo hσ_1 (m_ne ha (q_tk (f := 20) (k' := 34) hI ha rfl (by decide)) (by decide))
  have feσ_1 : m_c X σ_1 a = m_c X σ a := (funext mcσ_1).trans feσ
  refine lv_aload_n hx hb dX12_guess_5 rfl (lv_at hl 0 rfl) ?_
  refine lv_iconst (v := 0) hx hb dX12_guess_6 zki_0 ?_
  refine ps_X12_62_12 E hI ha (by decide) dX12_guess_7 (fun H locs σ_2 hσ_2 hI => ?_)
  replace hF := q_letX hF hσ_2
  have fr_σ_2 := fr_σ_1.si hσ_2 ha rfl
  have mcσ_2 := m_wo hσ_2 (m_ne ha (q_tk (f := 20) (k' := 34) hI ha rfl (by decide)) (by decide))
  have feσ_2 : m_c X σ_2 a = m_c X σ a := (funext mcσ_2).trans feσ_1
  refine lv_aload_n hx hb dX12_guess_10 rfl (lv_at hl 0 rfl) ?_
  refine lv_iload_n hx hb dX12_guess_11 rfl (lv_at hl 1 rfl) ?_
  refine q_ci (q_rV11_1 (rest := []) E (hml.trans hl.1.symm) hI (c_X12_isPlayerAt l X σ_2 a v1 ha (by rw [feσ_2]; exact hG)) kv_X12_290 ha ⟨Nat.le_of_ble_eq_true rfl, Nat.le_of_ble_eq_true rfl⟩ (Nat.le_of_ble_eq_true rfl) dX12_guess_12) hI (Nat.le_of_ble_eq_true rfl) (fun r_3 σ_4 H locs hpσ_4 hkσ_4 hI => ?_)
  have ahpσ_4 := hpσ_4.1
  have bhpσ_4 := hpσ_4.2.1
  have chpσ_4 := hpσ_4.2.2.1
  have dhpσ_4 := hpσ_4.2.2.2
  clear hpσ_4
  replace hI := q_Irw ahpσ_4 hI
  rw [feσ_2] at chpσ_4
  replace hF := q_letX hF dhpσ_4
  refine q_if_eq (A := r_3.toInt) E rfl (tgt := 26) dX12_guess_15 (by decide) (fun c_5 => ?_) (fun c_5 => ?_)
  · skip
    replace hF := q_ifp hF c_5
    replace chpσ_4 := q_ifNo chpσ_4 c_5
    refine lv_aload_n hx hb dX12_guess_26 rfl (lv_at hl 0 rfl) ?_
    refine lv_iconst (v := 2) hx hb dX12_guess_27 zki_2 ?_
    have kc_6 : (2 : Int32).toInt = 2 := zt_2
    refine q_ci (q_rV11_1 (rest := []) E (hml.trans hl.1.symm) hI (c_X12_no l X σ_2 a (2 : Int32) ha) kv_X12_74 ha ⟨Nat.le_of_ble_eq_true rfl, Nat.le_of_ble_eq_true rfl⟩ (Nat.le_of_ble_eq_true rfl) dX12_guess_28) hI (Nat.le_of_ble_eq_true rfl) (fun r_7 σ_8 H locs hpσ_8 hkσ_8 hI => ?_)
    have ahpσ_8 := hpσ_8.1
    have bhpσ_8 := hpσ_8.2.1
    have chpσ_8 := hpσ_8.2.2.1
    have dhpσ_8 := hpσ_8.2.2.2
    clear hpσ_8
    have fr_σ_8 := fr_σ_2.call dhpσ_8 rfl rfl
    replace hF := q_biX hF chpσ_8
    have mcσ_8 := m_cK hkσ_8 hI.1 ha (by decide)
    have feσ_8 : m_c X σ_8 a = m_c X σ a := (funext mcσ_8).trans feσ_2
    exact q_retz E hr hlk hI ⟨by omega, by omega⟩ ⟨⟨by omega, by omega⟩, (hF.trans hout), fr_σ_8⟩ dX12_guess_31
  · skip
    replace hF := q_ifn hF c_5
    replace c_5 := q_ifOne bhpσ_4 c_5
    replace chpσ_4 := q_ifYes chpσ_4 c_5
    refine lv_aload_n hx hb dX12_guess_18 rfl (lv_at hl 0 rfl) ?_
    refine lv_iload_n hx hb dX12_guess_19 rfl (lv_at hl 2 rfl) ?_
    refine q_ci (q_rV11_1 (rest := []) E (hml.trans hl.1.symm) hI (c_X12_isKindAt l X σ_2 a v2 ha (by rw [feσ_2]; exact hG)) kv_X12_299 ha ⟨Nat.le_of_ble_eq_true rfl, Nat.le_of_ble_eq_true rfl⟩ (Nat.le_of_ble_eq_true rfl) dX12_guess_20) hI (Nat.le_of_ble_eq_true rfl) (fun r_9 σ_10 H locs hpσ_10 hkσ_10 hI => ?_)
    have ahpσ_10 := hpσ_10.1
    have bhpσ_10 := hpσ_10.2.1
    have chpσ_10 := hpσ_10.2.2.1
    have dhpσ_10 := hpσ_10.2.2.2
    clear hpσ_10
    replace hI := q_Irw ahpσ_10 hI
    rw [feσ_2] at chpσ_10
    replace hF := q_letX hF dhpσ_10
    refine q_if_ne (A := r_9.toInt) E rfl (tgt := 32) dX12_guess_23 (by decide) (fun c_11 => ?_) (fun c_11 => ?_)
    · skip
      replace hF := q_ifn hF c_11
      replace c_11 := q_ifOne bhpσ_10 c_11
      replace chpσ_10 := q_ifYes chpσ_10 c_11
      refine lv_iload_n hx hb dX12_guess_32 rfl (lv_at hl 3 rfl) ?_
      refine lv_i2l hx hb dX12_guess_33 rfl ?_
      refine lv_topl (fun y_12 ey_12 => ?_)
      replace hF := q_letX hF ey_12
      have ggy_12 := q_rng v3
      have iy_12 : y_12.toInt = v3.toInt := by rw [ey_12]; exact (q_i2l _).trans rfl
      refine lv_lconst (v := 0) hx hb dX12_guess_34 (by decide) ?_
      refine lv_ldc2 (v := 4) hx hb E.2.2.1 (E.2.2.2.1 _ (q_in_t9 (i := 124) (by first | rfl | decide +kernel) rfl)) dX12_guess_35 ?_
      have kc_13 : (0 : Int64).toInt = 0 := rfl
      have kc_14 : (4 : Int64).toInt = 4 := rfl
      refine q_ci (q_runS (As := [.long y_12, .long 0, .long 4]) (rest := []) E (hml.trans hl.1.symm) hI (c_X12_isIn l X σ_2 y_12 (0 : Int64) (4 : Int64)) ks_X12_94 rfl ⟨Nat.le_of_ble_eq_true rfl, Nat.le_of_ble_eq_true rfl⟩ ⟨Nat.le_refl _, Nat.le_refl _⟩ rfl (Nat.le_of_ble_eq_true rfl) dX12_guess_38) hI (Nat.le_of_ble_eq_true rfl) (fun r_15 σ_16 H locs hpσ_16 hkσ_16 hI => ?_)
      have ahpσ_16 := hpσ_16.1
      have bhpσ_16 := hpσ_16.2.1
      have chpσ_16 := hpσ_16.2.2.1
      have dhpσ_16 := hpσ_16.2.2.2
      clear hpσ_16
      replace hI := q_Irw ahpσ_16 hI
      replace hF := q_letX hF dhpσ_16
      refine q_if_ne (A := r_15.toInt) E rfl (tgt := 50) dX12_guess_41 (by decide) (fun c_17 => ?_) (fun c_17 => ?_)
      · skip
        replace hF := q_ifn hF c_17
        replace c_17 := q_ifOne bhpσ_16 c_17
        replace chpσ_16 := q_ifYes chpσ_16 c_17
        refine lv_aload_n hx hb dX12_guess_50 rfl (lv_at hl 0 rfl) ?_
        refine lv_iload_n hx hb dX12_guess_51 rfl (lv_at hl 1 rfl) ?_
        refine q_ci (q_rV11_1 (rest := []) E (hml.trans hl.1.symm) hI (c_X12_unknownAll l X σ_2 a v1 ha (by rw [feσ_2]; exact hG) (by rw [feσ_2]; exact (by omega))) kv_X12_339 ha ⟨Nat.le_of_ble_eq_true rfl, Nat.le_of_ble_eq_true rfl⟩ (Nat.le_of_ble_eq_true rfl) dX12_guess_52) hI (Nat.le_of_ble_eq_true rfl) (fun r_18 σ_19 H locs hpσ_19 hkσ_19 hI => ?_)
        have ahpσ_19 := hpσ_19.1
        have bhpσ_19 := hpσ_19.2.1
        have chpσ_19 := hpσ_19.2.2.1
        have dhpσ_19 := hpσ_19.2.2.2
        clear hpσ_19
        replace hI := q_Irw ahpσ_19 hI
        rw [feσ_2] at bhpσ_19
        replace hF := q_letX hF dhpσ_19
        have ir_18 : r_18.toInt = (m_V (m_c X σ a) v1.toInt (m_c X σ a 0).toNat) := (by first | exact bhpσ_19 | (rw [bhpσ_19]) | (simp only [bhpσ_19]))
        refine lv_iload_n hx hb dX12_guess_55 rfl (lv_at hl 3 rfl) ?_
        refine q_icmp_ge (A := r_18.toInt) (B := v3.toInt) E rfl rfl (tgt := 66) dX12_guess_56 (by decide) (fun c_20 => ?_) (fun c_20 => ?_)
        · skip
          replace hF := q_ifn hF (Int.not_lt.mpr c_20)
          refine lv_aload_n hx hb dX12_guess_66 rfl (lv_at hl 0 rfl) ?_
          refine lv_aload_n hx hb dX12_guess_67 rfl (lv_at hl 0 rfl) ?_
          refine lv_iload_n hx hb dX12_guess_68 rfl (lv_at hl 1 rfl) ?_
          refine lv_iload_n hx hb dX12_guess_69 rfl (lv_at hl 2 rfl) ?_
          refine q_ci (q_rV11_2 (rest := [.ref a]) E (hml.trans hl.1.symm) hI (c_X12_unknownOf l X σ_2 a v1 v2 ha (by rw [feσ_2]; exact hG) (by rw [feσ_2]; exact (by omega)) (by first | (clear ahpσ_4 bhpσ_4 dhpσ_4 c_5 chpσ_4 ahpσ_10 bhpσ_10 dhpσ_10 c_11 ggy_12 iy_12 kc_13 kc_14 ahpσ_16 bhpσ_16 dhpσ_16 c_17 chpσ_16 ahpσ_19 bhpσ_19 chpσ_19 dhpσ_19 ir_18 c_20; omega) | omega)) kv_X12_336 ha ⟨Nat.le_of_ble_eq_true rfl, Nat.le_of_ble_eq_true rfl⟩ (Nat.le_of_ble_eq_true rfl) dX12_guess_70) hI (Nat.le_of_ble_eq_true rfl) (fun r_21 σ_22 H locs hpσ_22 hkσ_22 hI => ?_)
          have ahpσ_22 := hpσ_22.1
          have bhpσ_22 := hpσ_22.2.1
          have chpσ_22 := hpσ_22.2.2.1
          have dhpσ_22 := hpσ_22.2.2.2
          clear hpσ_22
          replace hI := q_Irw ahpσ_22 hI
          rw [feσ_2] at bhpσ_22
          replace hF := q_letX hF dhpσ_22
          have ir_21 : r_21.toInt = (m_U (m_c X σ a) v1.toInt v2.toInt) := (by first | exact bhpσ_22 | (rw [bhpσ_22]) | (simp only [bhpσ_22]))
          refine lv_iload_n hx hb dX12_guess_73 rfl (lv_at hl 3 rfl) ?_
          refine q_cl_ (q_runS (As := [.int r_21, .int v3]) (rest := [.ref a]) E (hml.trans hl.1.symm) hI (c_X12_choose l X σ_2 r_21 v3 (by first | (clear hh ahpσ_4 bhpσ_4 dhpσ_4 c_5 chpσ_4 ahpσ_10 bhpσ_10 dhpσ_10 c_11 chpσ_10 ggy_12 iy_12 kc_13 kc_14 ahpσ_16 bhpσ_16 dhpσ_16 c_17 chpσ_16 ahpσ_19 bhpσ_19 chpσ_19 dhpσ_19 ir_18 c_20 ahpσ_22 dhpσ_22 ir_21; omega) | omega) (by first | (clear hh ahpσ_4 bhpσ_4 dhpσ_4 c_5 chpσ_4 ahpσ_10 bhpσ_10 dhpσ_10 c_11 chpσ_10 ahpσ_16 bhpσ_16 dhpσ_16 c_17 ahpσ_19 bhpσ_19 chpσ_19 dhpσ_19 ir_18 c_20 ahpσ_22 bhpσ_22 chpσ_22 dhpσ_22 ir_21; omega) | omega)) ks_X12_342 rfl ⟨Nat.le_of_ble_eq_true rfl, Nat.le_of_ble_eq_true rfl⟩ ⟨Nat.le_refl _, Nat.le_refl _⟩ rfl (Nat.le_of_ble_eq_true rfl) dX12_guess_74) hI (Nat.le_of_ble_eq_true rfl) (fun r_23 σ_24 H locs hpσ_24 hkσ_24 hI => ?_)
          have ahpσ_24 := hpσ_24.1
          have bhpσ_24 := hpσ_24.2.1
          have chpσ_24 := hpσ_24.2.2.1
          have dhpσ_24 := hpσ_24.2.2.2
          clear hpσ_24
          replace hI := q_Irw ahpσ_24 hI
          replace hF := q_letX hF dhpσ_24
          refine lv_aload_n hx hb dX12_guess_77 rfl (lv_at hl 0 rfl) ?_
          refine lv_iload_n hx hb dX12_guess_78 rfl (lv_at hl 1 rfl) ?_
          refine q_ci (q_rV11_1 (rest := [.long r_23, .ref a]) E (hml.trans hl.1.symm) hI (c_X12_unknownAll l X σ_2 a v1 ha (by rw [feσ_2]; exact hG) (by rw [feσ_2]; exact (by omega))) kv_X12_339 ha ⟨Nat.le_of_ble_eq_true rfl, Nat.le_of_ble_eq_true rfl⟩ (Nat.le_of_ble_eq_true rfl) dX12_guess_79) hI (Nat.le_of_ble_eq_true rfl) (fun r_25 σ_26 H locs hpσ_26 hkσ_26 hI => ?_)
          have ahpσ_26 := hpσ_26.1
          have bhpσ_26 := hpσ_26.2.1
          have chpσ_26 := hpσ_26.2.2.1
          have dhpσ_26 := hpσ_26.2.2.2
          clear hpσ_26
          replace hI := q_Irw ahpσ_26 hI
          rw [feσ_2] at bhpσ_26
          replace hF := q_letX hF dhpσ_26
          have ir_25 : r_25.toInt = (m_V (m_c X σ a) v1.toInt (m_c X σ a 0).toNat) := (by first | exact bhpσ_26 | (rw [bhpσ_26]) | (simp only [bhpσ_26]))
          refine lv_iload_n hx hb dX12_guess_82 rfl (lv_at hl 3 rfl) ?_
          refine q_cl_ (q_runS (As := [.int r_25, .int v3]) (rest := [.long r_23, .ref a]) E (hml.trans hl.1.symm) hI (c_X12_choose l X σ_2 r_25 v3 (by omega) (by first | (clear hh ahpσ_4 bhpσ_4 dhpσ_4 c_5 chpσ_4 ahpσ_10 bhpσ_10 dhpσ_10 c_11 chpσ_10 ahpσ_16 bhpσ_16 dhpσ_16 c_17 ahpσ_19 bhpσ_19 chpσ_19 dhpσ_19 ir_18 c_20 ahpσ_22 bhpσ_22 chpσ_22 dhpσ_22 ir_21 ahpσ_24 bhpσ_24 chpσ_24 dhpσ_24 ahpσ_26 bhpσ_26 chpσ_26 dhpσ_26 ir_25; omega) | omega)) ks_X12_342 rfl ⟨Nat.le_of_ble_eq_true rfl, Nat.le_of_ble_eq_true rfl⟩ ⟨Nat.le_refl _, Nat.le_refl _⟩ rfl (Nat.le_of_ble_eq_true rfl) dX12_guess_83) hI (Nat.le_of_ble_eq_true rfl) (fun r_27 σ_28 H locs hpσ_28 hkσ_28 hI => ?_)
          have ahpσ_28 := hpσ_28.1
          have bhpσ_28 := hpσ_28.2.1
          have chpσ_28 := hpσ_28.2.2.1
          have dhpσ_28 := hpσ_28.2.2.2
          clear hpσ_28
          replace hI := q_Irw ahpσ_28 hI
          replace hF := q_letX hF dhpσ_28
          refine q_ci (q_rV11_2 (rest := []) E (hml.trans hl.1.symm) hI (c_X12_fraction l X σ_2 a r_23 r_27 ha (by first | (clear hh ahpσ_4 bhpσ_4 dhpσ_4 c_5 chpσ_4 ahpσ_10 bhpσ_10 dhpσ_10 c_11 chpσ_10 ggy_12 kc_13 kc_14 ahpσ_16 bhpσ_16 dhpσ_16 c_17 chpσ_16 ahpσ_19 chpσ_19 dhpσ_19 ir_18 ahpσ_22 bhpσ_22 chpσ_22 dhpσ_22 ir_21 ahpσ_24 bhpσ_24 chpσ_24 dhpσ_24 ahpσ_26 chpσ_26 dhpσ_26 ir_25 ahpσ_28 bhpσ_28 dhpσ_28; omega) | omega)) kv_X12_361 ha ⟨Nat.le_of_ble_eq_true rfl, Nat.le_of_ble_eq_true rfl⟩ (Nat.le_of_ble_eq_true rfl) dX12_guess_86) hI (Nat.le_of_ble_eq_true rfl) (fun r_29 σ_30 H locs hpσ_30 hkσ_30 hI => ?_)
          have ahpσ_30 := hpσ_30.1
          have bhpσ_30 := hpσ_30.2.1
          have chpσ_30 := hpσ_30.2.2
          clear hpσ_30
          have fr_σ_30 := fr_σ_2.call chpσ_30 rfl rfl
          replace hF := q_biX hF bhpσ_30
          have mcσ_30 := m_cK hkσ_30 hI.1 ha (by decide)
          have feσ_30 : m_c X σ_30 a = m_c X σ a := (funext mcσ_30).trans feσ_2
          exact q_retz E hr hlk hI ⟨by omega, by omega⟩ ⟨⟨by omega, by omega⟩, (hF.trans hout), fr_σ_30⟩ dX12_guess_89
        · skip
          replace hF := q_ifp hF c_20
          refine lv_aload_n hx hb dX12_guess_59 rfl (lv_at hl 0 rfl) ?_
          refine lv_bipush (v := 9) hx hb dX12_guess_60 zkb_9 ?_
          have kc_31 : (9 : Int32).toInt = 9 := zt_9
          refine q_ci (q_rV11_1 (rest := []) E (hml.trans hl.1.symm) hI (c_X12_no l X σ_2 a (9 : Int32) ha) kv_X12_74 ha ⟨Nat.le_of_ble_eq_true rfl, Nat.le_of_ble_eq_true rfl⟩ (Nat.le_of_ble_eq_true rfl) dX12_guess_62) hI (Nat.le_of_ble_eq_true rfl) (fun r_32 σ_33 H locs hpσ_33 hkσ_33 hI => ?_)
          have ahpσ_33 := hpσ_33.1
          have bhpσ_33 := hpσ_33.2.1
          have chpσ_33 := hpσ_33.2.2.1
          have dhpσ_33 := hpσ_33.2.2.2
          clear hpσ_33
          have fr_σ_33 := fr_σ_2.call dhpσ_33 rfl rfl
          replace hF := q_biX hF chpσ_33
          have mcσ_33 := m_cK hkσ_33 hI.1 ha (by decide)
          have feσ_33 : m_c X σ_33 a = m_c X σ a := (funext mcσ_33).trans feσ_2
          exact q_retz E hr hlk hI ⟨by omega, by omega⟩ ⟨⟨by omega, by omega⟩, (hF.trans hout), fr_σ_33⟩ dX12_guess_65
      · skip
        replace hF := q_ifp hF c_17
        replace chpσ_16 := q_ifNo chpσ_16 c_17
        refine lv_aload_n hx hb dX12_guess_44 rfl (lv_at hl 0 rfl) ?_
        refine lv_iconst (v := 5) hx hb dX12_guess_45 zki_5 ?_
        have kc_34 : (5 : Int32).toInt = 5 := zt_5
        refine q_ci (q_rV11_1 (rest := []) E (hml.trans hl.1.symm) hI (c_X12_no l X σ_2 a (5 : Int32) ha) kv_X12_74 ha ⟨Nat.le_of_ble_eq_true rfl, Nat.le_of_ble_eq_true rfl⟩ (Nat.le_of_ble_eq_true rfl) dX12_guess_46) hI (Nat.le_of_ble_eq_true rfl) (fun r_35 σ_36 H locs hpσ_36 hkσ_36 hI => ?_)
        have ahpσ_36 := hpσ_36.1
        have bhpσ_36 := hpσ_36.2.1
        have chpσ_36 := hpσ_36.2.2.1
        have dhpσ_36 := hpσ_36.2.2.2
        clear hpσ_36
        have fr_σ_36 := fr_σ_2.call dhpσ_36 rfl rfl
        replace hF := q_biX hF chpσ_36
        have mcσ_36 := m_cK hkσ_36 hI.1 ha (by decide)
        have feσ_36 : m_c X σ_36 a = m_c X σ a := (funext mcσ_36).trans feσ_2
        exact q_retz E hr hlk hI ⟨by omega, by omega⟩ ⟨⟨by omega, by omega⟩, (hF.trans hout), fr_σ_36⟩ dX12_guess_49
    · skip
      replace hF := q_ifp hF c_11
      replace chpσ_10 := q_ifNo chpσ_10 c_11
      refine lv_aload_n hx hb dX12_guess_26 rfl (lv_at hl 0 rfl) ?_
      refine lv_iconst (v := 2) hx hb dX12_guess_27 zki_2 ?_
      have kc_37 : (2 : Int32).toInt = 2 := zt_2
      refine q_ci (q_rV11_1 (rest := []) E (hml.trans hl.1.symm) hI (c_X12_no l X σ_2 a (2 : Int32) ha) kv_X12_74 ha ⟨Nat.le_of_ble_eq_true rfl, Nat.le_of_ble_eq_true rfl⟩ (Nat.le_of_ble_eq_true rfl) dX12_guess_28) hI (Nat.le_of_ble_eq_true rfl) (fun r_38 σ_39 H locs hpσ_39 hkσ_39 hI => ?_)
      have ahpσ_39 := hpσ_39.1
      have bhpσ_39 := hpσ_39.2.1
      have chpσ_39 := hpσ_39.2.2.1
      have dhpσ_39 := hpσ_39.2.2.2
      clear hpσ_39
      have fr_σ_39 := fr_σ_2.call dhpσ_39 rfl rfl
      replace hF := q_biX hF chpσ_39
      have mcσ_39 := m_cK hkσ_39 hI.1 ha (by decide)
      have feσ_39 : m_c X σ_39 a = m_c X σ a := (funext mcσ_39).trans feσ_2
      exact q_retz E hr hlk hI ⟨by omega, by omega⟩ ⟨⟨by omega, by omega⟩, (hF.trans hout), fr_σ_39⟩ dX12_guess_31

set_option maxRecDepth 100000 in
set_option maxHeartbeats 4000000 in
theorem c_X12_fullest (l : Launch) (X : XW) (σ : ST) (a : Nat) (ha : q_kd X a = 12) (hG : m_G (m_c X σ a)) : Met l yX12_fullest (q_ws yX12_fullest cX12_fullest 3 (some .int)) (q_rm 2 45) (q_P X σ [.ref a]) (q_Qi X 8 σ (fun (r : Int32) (σ' : ST) => (r, σ') = F_X12_fullest X σ a ∧ q_ow [(12, 0), (12, 1)] [] X σ σ')) 0 0 (q_reg X) := by
  refine q_met 8 (by first | exact rfl | decide +kernel) rfl (Nat.le_of_ble_eq_true rfl) (fun p e s m below meth c E hml hr hlk hI ls hl => ?_)
  have hx := E.1
  have hb := E.2.1
  have hl : lv_has ls 3 [(0, .ref a)] := hl
  have feσ : m_c X σ a = m_c X σ a := rfl
  have fr_σ : q_ow [(12, 0), (12, 1)] [] X σ σ := q_ow.rf
  have hh := hG.hd
  obtain ⟨out, hout⟩ : ∃ o, o = F_X12_fullest X σ a := ⟨_, rfl⟩
  have hF := hout.symm
  unfold F_X12_fullest at hF
  refine lv_aload_n hx hb dX12_fullest_0 rfl (lv_at hl 0 rfl) ?_
  refine lv_iconst (v := 0) hx hb dX12_fullest_1 zki_0 ?_
  refine ps_X12_59_12 E hI ha (by decide) dX12_fullest_2 (fun H locs σ_1 hσ_1 hI => ?_)
  replace hF := q_letX hF hσ_1
  have fr_σ_1 := fr_σ.si hσ_1 ha rfl
  have mcσ_1 := m_wo hσ_1 (m_ne ha (q_tk (f := 20) (k' := 34) hI ha rfl (by decide)) (by decide))
  have feσ_1 : m_c X σ_1 a = m_c X σ a := (funext mcσ_1).trans feσ
  refine lv_aload_n hx hb dX12_fullest_5 rfl (lv_at hl 0 rfl) ?_
  refine lv_iconst (v := 0) hx hb dX12_fullest_6 zki_0 ?_
  refine ps_X12_62_12 E hI ha (by decide) dX12_fullest_7 (fun H locs σ_2 hσ_2 hI => ?_)
  replace hF := q_letX hF hσ_2
  have fr_σ_2 := fr_σ_1.si hσ_2 ha rfl
  have mcσ_2 := m_wo hσ_2 (m_ne ha (q_tk (f := 20) (k' := 34) hI ha rfl (by decide)) (by decide))
  have feσ_2 : m_c X σ_2 a = m_c X σ a := (funext mcσ_2).trans feσ_1
  refine lv_iconst (v := (-1)) hx hb dX12_fullest_10 zki_m1 ?_
  refine lv_istore_n (lv' := [(1, .int (-1)), (0, .ref a)]) hx hb dX12_fullest_11 rfl hl (by decide) rfl (fun ls hl => ?_)
  refine lv_iconst (v := 0) hx hb dX12_fullest_12 zki_0 ?_
  refine lv_istore_n (lv' := [(2, .int 0), (1, .int (-1)), (0, .ref a)]) hx hb dX12_fullest_13 rfl hl (by decide) rfl (fun ls hl => ?_)
  have L_14_5 : ∀ (k_5 : Nat) (x_3 : Int32) (x_4 : Int32) (H : Heap) (locs : List Loc) (ls : Array Slot), (2147483647 - x_4.toInt).toNat < k_5 → (0 ≤ x_4.toInt ∧ -1 ≤ x_3.toInt ∧ x_3.toInt < m_c X σ a 2) → (F_X12_fullest_L14_1 X σ_2 a k_5 x_3 x_4 = out) → q_I X 8 σ s.heap locs σ_2 H → lv_has ls 3 [(0, .ref a), (1, .int x_3), (2, .int x_4)] → W p l e (q_rm 2 45) s m ([.ref a] : List Value).toArray below meth c H locs 0 0 (MQ below (q_Qi X 8 σ (fun (r : Int32) (σ' : ST) => (r, σ') = F_X12_fullest X σ a ∧ q_ow [(12, 0), (12, 1)] [] X σ σ')) ([.ref a] : List Value).toArray s 0 0 (q_reg X)) (F0 m 14 ls []) := by
    clear hF
    intro k_5
    induction k_5 with
    | zero =>
      intro x_3 x_4 H locs ls hms
      exact absurd hms (Nat.not_lt_zero _)
    | succ k_5 ih14 =>
      intro x_3 x_4 H locs ls hm14 hge14 hF hI hl
      replace hF := (F_X12_fullest_L14_1_s).symm.trans hF
      unfold F_X12_fullest_B14_1 at hF
      refine lv_iload_n hx hb dX12_fullest_14 rfl (lv_at hl 2 rfl) ?_
      refine lv_aload_n hx hb dX12_fullest_15 rfl (lv_at hl 0 rfl) ?_
      refine gs_X12_35_12 E hI ha dX12_fullest_16 ?_
      refine lv_iconst (v := 2) hx hb dX12_fullest_19 zki_2 ?_
      refine q_iald E hI (q_tk (k' := 34) hI ha rfl (Nat.succ_ne_zero _)) ⟨by decide, rfl⟩ (by decide) (by rw [q_lnk (v := 4650) hI (q_tk (k' := 34) hI ha rfl (Nat.succ_ne_zero _)) rfl (by decide)]; decide) dX12_fullest_20 ?_
      refine lv_topi (fun f_6 ef_6 => ?_)
      replace hF := q_letX hF ef_6
      have if_6 : f_6.toInt = m_c X σ a 2 := (m_rd ef_6 (by decide)).trans (congrFun feσ_2 _)
      have gc_7_x_4 := q_rng x_4
      have gc_7_f_6 := q_rng f_6
      refine q_icmp_ge (A := x_4.toInt) (B := f_6.toInt) E rfl rfl (tgt := 49) dX12_fullest_21 (by decide) (fun c_7 => ?_) (fun c_7 => ?_)
      · skip
        replace hF := q_ifn hF (Int.not_lt.mpr c_7)
        unfold F_X12_fullest_E49_2 at hF
        refine lv_iload_n hx hb dX12_fullest_49 rfl (lv_at hl 1 rfl) ?_
        refine q_if_ge (A := x_3.toInt) E rfl (tgt := 62) dX12_fullest_50 (by decide) (fun c_8 => ?_) (fun c_8 => ?_)
        · skip
          replace hF := q_ifn hF (Int.not_lt.mpr c_8)
          refine lv_iload_n hx hb dX12_fullest_62 rfl (lv_at hl 1 rfl) ?_
          exact q_reti E hr hlk hI ⟨(hF.trans hout), fr_σ_2⟩ dX12_fullest_63
        · skip
          replace hF := q_ifp hF c_8
          refine lv_aload_n hx hb dX12_fullest_53 rfl (lv_at hl 0 rfl) ?_
          refine lv_bipush (v := 8) hx hb dX12_fullest_54 zkb_8 ?_
          have kc_9 : (8 : Int32).toInt = 8 := zt_8
          refine q_ci (q_rV11_1 (rest := []) E (hml.trans hl.1.symm) hI (c_X12_refuse l X σ_2 a (8 : Int32) ha) kv_X12_284 ha ⟨Nat.le_of_ble_eq_true rfl, Nat.le_of_ble_eq_true rfl⟩ (Nat.le_of_ble_eq_true rfl) dX12_fullest_56) hI (Nat.le_of_ble_eq_true rfl) (fun r_10 σ_11 H locs hpσ_11 hkσ_11 hI => ?_)
          have ahpσ_11 := hpσ_11.1
          have bhpσ_11 := hpσ_11.2.1
          have chpσ_11 := hpσ_11.2.2
          clear hpσ_11
          have fr_σ_11 := fr_σ_2.call chpσ_11 rfl rfl
          replace hF := q_biX hF bhpσ_11
          have mcσ_11 := m_cK hkσ_11 hI.1 ha (by decide)
          have feσ_11 : m_c X σ_11 a = m_c X σ a := (funext mcσ_11).trans feσ_2
          refine lv_goto (tgt := 63) hx hb dX12_fullest_59 (by decide) ?_
          exact q_reti E hr hlk hI ⟨(hF.trans hout), fr_σ_11⟩ dX12_fullest_63
      · skip
        replace hF := q_ifp hF c_7
        refine lv_iload_n hx hb dX12_fullest_24 rfl (lv_at hl 1 rfl) ?_
        refine q_if_lt (A := x_3.toInt) E rfl (tgt := 41) dX12_fullest_25 (by decide) (fun c_12 => ?_) (fun c_12 => ?_)
        · skip
          replace hF := q_ifp hF c_12
          refine lv_iload_n hx hb dX12_fullest_41 rfl (lv_at hl 2 rfl) ?_
          refine lv_istore_n (lv' := [(1, .int x_4), (0, .ref a), (2, .int x_4)]) hx hb dX12_fullest_42 rfl hl (by decide) rfl (fun ls hl => ?_)
          obtain ⟨z_13, ez_13⟩ : ∃ y : Int32, y = x_4 + 1 := ⟨_, rfl⟩
          replace hF := q_letX hF ez_13
          refine lv_iinc (v := z_13) (lv' := [(2, .int z_13), (1, .int x_4), (0, .ref a)]) hx hb dX12_fullest_43 hl (k := 2) rfl (by rw [ez_13]; rfl) (by decide) rfl (fun ls hl => ?_)
          have iz_13 : z_13.toInt = x_4.toInt + 1 := q_inc ez_13 (by first | (clear hm14 gc_7_f_6 c_12; omega) | omega)
          refine lv_goto (tgt := 14) hx hb dX12_fullest_46 (by decide) ?_
          exact ih14 x_4 z_13 _ _ ls (by first | (clear gc_7_f_6 c_12; omega) | omega) (by first | (clear hh hm14 gc_7_f_6 c_12; omega) | omega) hF hI (lv_sub hl [2, 1, 0] rfl)
        · skip
          replace hF := q_ifn hF (Int.not_lt.mpr c_12)
          refine lv_aload_n hx hb dX12_fullest_28 rfl (lv_at hl 0 rfl) ?_
          refine lv_iload_n hx hb dX12_fullest_29 rfl (lv_at hl 2 rfl) ?_
          refine q_ci (q_rV11_1 (rest := []) E (hml.trans hl.1.symm) hI (c_X12_cardsOf l X σ_2 a x_4 ha (by rw [feσ_2]; exact hG) (by first | (clear hm14 gc_7_f_6; omega) | omega)) kv_X12_293 ha ⟨Nat.le_of_ble_eq_true rfl, Nat.le_of_ble_eq_true rfl⟩ (Nat.le_of_ble_eq_true rfl) dX12_fullest_30) hI (Nat.le_of_ble_eq_true rfl) (fun r_14 σ_15 H locs hpσ_15 hkσ_15 hI => ?_)
          have ahpσ_15 := hpσ_15.1
          have bhpσ_15 := hpσ_15.2.1
          have chpσ_15 := hpσ_15.2.2.1
          have dhpσ_15 := hpσ_15.2.2.2
          clear hpσ_15
          replace hI := q_Irw ahpσ_15 hI
          rw [feσ_2] at bhpσ_15
          replace hF := q_letX hF dhpσ_15
          refine lv_aload_n hx hb dX12_fullest_33 rfl (lv_at hl 0 rfl) ?_
          refine lv_iload_n hx hb dX12_fullest_34 rfl (lv_at hl 1 rfl) ?_
          refine q_ci (q_rV11_1 (rest := [.int r_14]) E (hml.trans hl.1.symm) hI (c_X12_cardsOf l X σ_2 a x_3 ha (by rw [feσ_2]; exact hG) (by first | (clear hm14 gc_7_x_4 gc_7_f_6 c_7 ahpσ_15 bhpσ_15 chpσ_15 dhpσ_15; omega) | omega)) kv_X12_293 ha ⟨Nat.le_of_ble_eq_true rfl, Nat.le_of_ble_eq_true rfl⟩ (Nat.le_of_ble_eq_true rfl) dX12_fullest_35) hI (Nat.le_of_ble_eq_true rfl) (fun r_16 σ_17 H locs hpσ_17 hkσ_17 hI => ?_)
          have ahpσ_17 := hpσ_17.1
          have bhpσ_17 := hpσ_17.2.1
          have chpσ_17 := hpσ_17.2.2.1
          have dhpσ_17 := hpσ_17.2.2.2
          clear hpσ_17
          replace hI := q_Irw ahpσ_17 hI
          rw [feσ_2] at bhpσ_17
          replace hF := q_letX hF dhpσ_17
          have gc_18_r_14 := q_rng r_14
          have gc_18_r_16 := q_rng r_16
          refine q_icmp_le (A := r_14.toInt) (B := r_16.toInt) E rfl rfl (tgt := 43) dX12_fullest_38 (by decide) (fun c_18 => ?_) (fun c_18 => ?_)
          · skip
            replace hF := q_ifn hF (Int.not_lt.mpr c_18)
            obtain ⟨z_19, ez_19⟩ : ∃ y : Int32, y = x_4 + 1 := ⟨_, rfl⟩
            replace hF := q_letX hF ez_19
            refine lv_iinc (v := z_19) (lv' := [(2, .int z_19), (0, .ref a), (1, .int x_3)]) hx hb dX12_fullest_43 hl (k := 2) rfl (by rw [ez_19]; rfl) (by decide) rfl (fun ls hl => ?_)
            have iz_19 : z_19.toInt = x_4.toInt + 1 := q_inc ez_19 (by first | (clear hm14 gc_7_f_6 c_12 ahpσ_15 bhpσ_15 chpσ_15 dhpσ_15 ahpσ_17 bhpσ_17 chpσ_17 dhpσ_17 gc_18_r_14 gc_18_r_16 c_18; omega) | omega)
            refine lv_goto (tgt := 14) hx hb dX12_fullest_46 (by decide) ?_
            exact ih14 x_3 z_19 _ _ ls (by first | (clear gc_7_f_6 ahpσ_15 bhpσ_15 chpσ_15 dhpσ_15 ahpσ_17 bhpσ_17 chpσ_17 dhpσ_17 gc_18_r_14 gc_18_r_16 c_18; omega) | omega) (by first | (clear hh hm14 gc_7_f_6 c_7 ahpσ_15 bhpσ_15 chpσ_15 dhpσ_15 ahpσ_17 bhpσ_17 chpσ_17 dhpσ_17 gc_18_r_14 gc_18_r_16 c_18; omega) | omega) hF hI (lv_sub hl [1, 2, 0] rfl)
          · skip
            replace hF := q_ifp hF c_18
            refine lv_iload_n hx hb dX12_fullest_41 rfl (lv_at hl 2 rfl) ?_
            refine lv_istore_n (lv' := [(1, .int x_4), (0, .ref a), (2, .int x_4)]) hx hb dX12_fullest_42 rfl hl (by decide) rfl (fun ls hl => ?_)
            obtain ⟨z_20, ez_20⟩ : ∃ y : Int32, y = x_4 + 1 := ⟨_, rfl⟩
            replace hF := q_letX hF ez_20
            refine lv_iinc (v := z_20) (lv' := [(2, .int z_20), (1, .int x_4), (0, .ref a)]) hx hb dX12_fullest_43 hl (k := 2) rfl (by rw [ez_20]; rfl) (by decide) rfl (fun ls hl => ?_)
            have iz_20 : z_20.toInt = x_4.toInt + 1 := q_inc ez_20 (by first | (clear hm14 gc_7_f_6 c_12 ahpσ_15 bhpσ_15 chpσ_15 dhpσ_15 ahpσ_17 bhpσ_17 chpσ_17 dhpσ_17 gc_18_r_14 gc_18_r_16 c_18; omega) | omega)
            refine lv_goto (tgt := 14) hx hb dX12_fullest_46 (by decide) ?_
            exact ih14 x_4 z_20 _ _ ls (by first | (clear gc_7_f_6 ahpσ_15 bhpσ_15 chpσ_15 dhpσ_15 ahpσ_17 bhpσ_17 chpσ_17 dhpσ_17 gc_18_r_14 gc_18_r_16 c_18; omega) | omega) (by first | (clear hh hm14 gc_7_f_6 c_12 ahpσ_15 bhpσ_15 chpσ_15 dhpσ_15 ahpσ_17 bhpσ_17 chpσ_17 dhpσ_17 gc_18_r_14 gc_18_r_16 c_18; omega) | omega) hF hI (lv_sub hl [2, 1, 0] rfl)
  have kc_21 : ((-1) : Int32).toInt = (-1) := zt_m1
  have kc_22 : (0 : Int32).toInt = 0 := zt_0
  exact L_14_5 ((2147483647 - (0 : Int32).toInt).toNat + 1) (-1) 0 _ _ ls (Nat.lt_succ_self _) (by have q : (0 : Int32).toInt = 0 := rfl; have q1 : ((-1) : Int32).toInt = -1 := rfl; omega) hF hI (lv_sub hl [2, 1, 0] rfl)

set_option maxRecDepth 100000 in
set_option maxHeartbeats 4000000 in
theorem c_X12_quartet (l : Launch) (X : XW) (σ : ST) (a : Nat) (v1 : Int32) (ha : q_kd X a = 12) (hG : m_G (m_c X σ a)) : Met l yX12_quartet (q_ws yX12_quartet cX12_quartet 3 (some .int)) (q_rm 3 69) (q_P X σ [.ref a, .int v1]) (q_Qi X 8 σ (fun (r : Int32) (σ' : ST) => (r, σ') = F_X12_quartet X σ a v1 ∧ q_ow [(12, 0), (12, 1)] [] X σ σ')) 0 0 (q_reg X) := by
  refine q_met 8 (by first | exact rfl | decide +kernel) rfl (Nat.le_of_ble_eq_true rfl) (fun p e s m below meth c E hml hr hlk hI ls hl => ?_)
  have hx := E.1
  have hb := E.2.1
  have hl : lv_has ls 3 [(0, .ref a), (1, .int v1)] := hl
  have feσ : m_c X σ a = m_c X σ a := rfl
  have fr_σ : q_ow [(12, 0), (12, 1)] [] X σ σ := q_ow.rf
  have hh := hG.hd
  obtain ⟨out, hout⟩ : ∃ o, o = F_X12_quartet X σ a v1 := ⟨_, rfl⟩
  have hF := hout.symm
  unfold F_X12_quartet at hF
  refine lv_aload_n hx hb dX12_quartet_0 rfl (lv_at hl 0 rfl) ?_
  refine lv_iconst (v := 0) hx hb dX12_quartet_1 zki_0 ?_
  refine ps_X12_59_12 E hI ha (by decide) dX12_quartet_2 (fun H locs σ_1 hσ_1 hI => ?_)
  replace hF := q_letX hF hσ_1
  have fr_σ_1 := fr_σ.si hσ_1 ha rfl
  have mcσ_1 := m_wo hσ_1 (m_ne ha (q_tk (f := 20) (k' := 34) hI ha rfl (by decide)) (by decide))
  have feσ_1 : m_c X σ_1 a = m_c X σ a := (funext mcσ_1).trans feσ
  refine lv_aload_n hx hb dX12_quartet_5 rfl (lv_at hl 0 rfl) ?_
  refine lv_iconst (v := 0) hx hb dX12_quartet_6 zki_0 ?_
  refine ps_X12_62_12 E hI ha (by decide) dX12_quartet_7 (fun H locs σ_2 hσ_2 hI => ?_)
  replace hF := q_letX hF hσ_2
  have fr_σ_2 := fr_σ_1.si hσ_2 ha rfl
  have mcσ_2 := m_wo hσ_2 (m_ne ha (q_tk (f := 20) (k' := 34) hI ha rfl (by decide)) (by decide))
  have feσ_2 : m_c X σ_2 a = m_c X σ a := (funext mcσ_2).trans feσ_1
  refine lv_aload_n hx hb dX12_quartet_10 rfl (lv_at hl 0 rfl) ?_
  refine lv_iload_n hx hb dX12_quartet_11 rfl (lv_at hl 1 rfl) ?_
  refine q_ci (q_rV11_1 (rest := []) E (hml.trans hl.1.symm) hI (c_X12_isPlayerAt l X σ_2 a v1 ha (by rw [feσ_2]; exact hG)) kv_X12_290 ha ⟨Nat.le_of_ble_eq_true rfl, Nat.le_of_ble_eq_true rfl⟩ (Nat.le_of_ble_eq_true rfl) dX12_quartet_12) hI (Nat.le_of_ble_eq_true rfl) (fun r_3 σ_4 H locs hpσ_4 hkσ_4 hI => ?_)
  have ahpσ_4 := hpσ_4.1
  have bhpσ_4 := hpσ_4.2.1
  have chpσ_4 := hpσ_4.2.2.1
  have dhpσ_4 := hpσ_4.2.2.2
  clear hpσ_4
  replace hI := q_Irw ahpσ_4 hI
  rw [feσ_2] at chpσ_4
  replace hF := q_letX hF dhpσ_4
  refine q_if_ne (A := r_3.toInt) E rfl (tgt := 24) dX12_quartet_15 (by decide) (fun c_5 => ?_) (fun c_5 => ?_)
  · skip
    replace hF := q_ifn hF c_5
    replace c_5 := q_ifOne bhpσ_4 c_5
    replace chpσ_4 := q_ifYes chpσ_4 c_5
    refine lv_iconst (v := 0) hx hb dX12_quartet_24 zki_0 ?_
    refine lv_istore_n (lv' := [(2, .int 0), (0, .ref a), (1, .int v1)]) hx hb dX12_quartet_25 rfl hl (by decide) rfl (fun ls hl => ?_)
    have L_26_7 : ∀ (k_7 : Nat) (x_6 : Int32) (H : Heap) (locs : List Loc) (ls : Array Slot), (2147483647 - x_6.toInt).toNat < k_7 → (0 ≤ x_6.toInt) → (F_X12_quartet_L26_1 X σ_2 a v1 k_7 x_6 = out) → q_I X 8 σ s.heap locs σ_2 H → lv_has ls 3 [(0, .ref a), (1, .int v1), (2, .int x_6)] → W p l e (q_rm 3 69) s m ([.ref a, .int v1] : List Value).toArray below meth c H locs 0 0 (MQ below (q_Qi X 8 σ (fun (r : Int32) (σ' : ST) => (r, σ') = F_X12_quartet X σ a v1 ∧ q_ow [(12, 0), (12, 1)] [] X σ σ')) ([.ref a, .int v1] : List Value).toArray s 0 0 (q_reg X)) (F0 m 26 ls []) := by
      clear hF
      intro k_7
      induction k_7 with
      | zero =>
        intro x_6 H locs ls hms
        exact absurd hms (Nat.not_lt_zero _)
      | succ k_7 ih26 =>
        intro x_6 H locs ls hm26 hge26 hF hI hl
        replace hF := (F_X12_quartet_L26_1_s).symm.trans hF
        unfold F_X12_quartet_B26_1 at hF
        refine lv_iload_n hx hb dX12_quartet_26 rfl (lv_at hl 2 rfl) ?_
        refine lv_aload_n hx hb dX12_quartet_27 rfl (lv_at hl 0 rfl) ?_
        refine gs_X12_35_12 E hI ha dX12_quartet_28 ?_
        refine lv_iconst (v := 0) hx hb dX12_quartet_31 zki_0 ?_
        refine q_iald E hI (q_tk (k' := 34) hI ha rfl (Nat.succ_ne_zero _)) ⟨by decide, rfl⟩ (by decide) (by rw [q_lnk (v := 4650) hI (q_tk (k' := 34) hI ha rfl (Nat.succ_ne_zero _)) rfl (by decide)]; decide) dX12_quartet_32 ?_
        refine lv_topi (fun f_8 ef_8 => ?_)
        replace hF := q_letX hF ef_8
        have if_8 : f_8.toInt = m_c X σ a 0 := (m_rd ef_8 (by decide)).trans (congrFun feσ_2 _)
        have gc_9_x_6 := q_rng x_6
        have gc_9_f_8 := q_rng f_8
        refine q_icmp_ge (A := x_6.toInt) (B := f_8.toInt) E rfl rfl (tgt := 67) dX12_quartet_33 (by decide) (fun c_9 => ?_) (fun c_9 => ?_)
        · skip
          replace hF := q_ifn hF (Int.not_lt.mpr c_9)
          unfold F_X12_quartet_E67_2 at hF
          refine lv_aload_n hx hb dX12_quartet_67 rfl (lv_at hl 0 rfl) ?_
          refine lv_bipush (v := 8) hx hb dX12_quartet_68 zkb_8 ?_
          have kc_10 : (8 : Int32).toInt = 8 := zt_8
          refine q_ci (q_rV11_1 (rest := []) E (hml.trans hl.1.symm) hI (c_X12_refuse l X σ_2 a (8 : Int32) ha) kv_X12_284 ha ⟨Nat.le_of_ble_eq_true rfl, Nat.le_of_ble_eq_true rfl⟩ (Nat.le_of_ble_eq_true rfl) dX12_quartet_70) hI (Nat.le_of_ble_eq_true rfl) (fun r_11 σ_12 H locs hpσ_12 hkσ_12 hI => ?_)
          have ahpσ_12 := hpσ_12.1
          have bhpσ_12 := hpσ_12.2.1
          have chpσ_12 := hpσ_12.2.2
          clear hpσ_12
          have fr_σ_12 := fr_σ_2.call chpσ_12 rfl rfl
          replace hF := q_biX hF bhpσ_12
          have mcσ_12 := m_cK hkσ_12 hI.1 ha (by decide)
          have feσ_12 : m_c X σ_12 a = m_c X σ a := (funext mcσ_12).trans feσ_2
          exact q_reti E hr hlk hI ⟨(hF.trans hout), fr_σ_12⟩ dX12_quartet_73
        · skip
          replace hF := q_ifp hF c_9
          refine lv_aload_n hx hb dX12_quartet_36 rfl (lv_at hl 0 rfl) ?_
          refine lv_iload_n hx hb dX12_quartet_37 rfl (lv_at hl 1 rfl) ?_
          refine lv_iload_n hx hb dX12_quartet_38 rfl (lv_at hl 2 rfl) ?_
          refine q_ci (q_rV11_2 (rest := []) E (hml.trans hl.1.symm) hI (c_X12_handOf l X σ_2 a v1 x_6 ha (by omega) (by omega)) kv_X12_276 ha ⟨Nat.le_of_ble_eq_true rfl, Nat.le_of_ble_eq_true rfl⟩ (Nat.le_of_ble_eq_true rfl) dX12_quartet_39) hI (Nat.le_of_ble_eq_true rfl) (fun r_13 σ_14 H locs hpσ_14 hkσ_14 hI => ?_)
          have ahpσ_14 := hpσ_14.1
          have bhpσ_14 := hpσ_14.2.1
          have chpσ_14 := hpσ_14.2.2
          clear hpσ_14
          replace hI := q_Irw ahpσ_14 hI
          rw [feσ_2] at bhpσ_14
          replace hF := q_letX hF chpσ_14
          have ir_13 : r_13.toInt = (m_c X σ a (34 + 10 * v1.toInt + x_6.toInt)) := (by first | exact bhpσ_14 | (rw [bhpσ_14]) | (simp only [bhpσ_14]))
          refine q_if_le (A := r_13.toInt) E rfl (tgt := 61) dX12_quartet_42 (by decide) (fun c_15 => ?_) (fun c_15 => ?_)
          · skip
            replace hF := q_ifn hF (Int.not_lt.mpr c_15)
            obtain ⟨z_16, ez_16⟩ : ∃ y : Int32, y = x_6 + 1 := ⟨_, rfl⟩
            replace hF := q_letX hF ez_16
            refine lv_iinc (v := z_16) (lv' := [(2, .int z_16), (0, .ref a), (1, .int v1)]) hx hb dX12_quartet_61 hl (k := 2) rfl (by rw [ez_16]; rfl) (by decide) rfl (fun ls hl => ?_)
            have iz_16 : z_16.toInt = x_6.toInt + 1 := q_inc ez_16 (by omega)
            refine lv_goto (tgt := 26) hx hb dX12_quartet_64 (by decide) ?_
            exact ih26 z_16 _ _ ls (by omega) (by omega) hF hI (lv_sub hl [1, 2, 0] rfl)
          · skip
            replace hF := q_ifp hF c_15
            refine lv_aload_n hx hb dX12_quartet_45 rfl (lv_at hl 0 rfl) ?_
            refine lv_iload_n hx hb dX12_quartet_46 rfl (lv_at hl 1 rfl) ?_
            refine lv_iload_n hx hb dX12_quartet_47 rfl (lv_at hl 2 rfl) ?_
            refine q_ci (q_rV11_2 (rest := []) E (hml.trans hl.1.symm) hI (c_X12_handOf l X σ_2 a v1 x_6 ha (by first | (clear ahpσ_4 bhpσ_4 dhpσ_4 c_5 hm26 hge26 if_8 gc_9_x_6 gc_9_f_8 c_9 ahpσ_14 bhpσ_14 chpσ_14 ir_13 c_15; omega) | omega) (by first | (clear ahpσ_4 bhpσ_4 dhpσ_4 c_5 chpσ_4 hm26 gc_9_f_8 ahpσ_14 bhpσ_14 chpσ_14 ir_13 c_15; omega) | omega)) kv_X12_276 ha ⟨Nat.le_of_ble_eq_true rfl, Nat.le_of_ble_eq_true rfl⟩ (Nat.le_of_ble_eq_true rfl) dX12_quartet_48) hI (Nat.le_of_ble_eq_true rfl) (fun r_17 σ_18 H locs hpσ_18 hkσ_18 hI => ?_)
            have ahpσ_18 := hpσ_18.1
            have bhpσ_18 := hpσ_18.2.1
            have chpσ_18 := hpσ_18.2.2
            clear hpσ_18
            replace hI := q_Irw ahpσ_18 hI
            rw [feσ_2] at bhpσ_18
            replace hF := q_letX hF chpσ_18
            have ir_17 : r_17.toInt = (m_c X σ a (34 + 10 * v1.toInt + x_6.toInt)) := (by first | exact bhpσ_18 | (rw [bhpσ_18]) | (simp only [bhpσ_18]))
            refine lv_aload_n hx hb dX12_quartet_51 rfl (lv_at hl 0 rfl) ?_
            refine lv_iload_n hx hb dX12_quartet_52 rfl (lv_at hl 2 rfl) ?_
            refine q_ci (q_rV11_1 (rest := [.int r_17]) E (hml.trans hl.1.symm) hI (c_X12_inGameOf l X σ_2 a x_6 ha (by rw [feσ_2]; exact hG) (by first | (clear ahpσ_4 bhpσ_4 dhpσ_4 c_5 chpσ_4 hm26 gc_9_f_8 ahpσ_14 bhpσ_14 chpσ_14 ir_13 c_15 ahpσ_18 bhpσ_18 chpσ_18 ir_17; omega) | omega)) kv_X12_302 ha ⟨Nat.le_of_ble_eq_true rfl, Nat.le_of_ble_eq_true rfl⟩ (Nat.le_of_ble_eq_true rfl) dX12_quartet_53) hI (Nat.le_of_ble_eq_true rfl) (fun r_19 σ_20 H locs hpσ_20 hkσ_20 hI => ?_)
            have ahpσ_20 := hpσ_20.1
            have bhpσ_20 := hpσ_20.2.1
            have chpσ_20 := hpσ_20.2.2.1
            have dhpσ_20 := hpσ_20.2.2.2
            clear hpσ_20
            replace hI := q_Irw ahpσ_20 hI
            rw [feσ_2] at bhpσ_20
            replace hF := q_letX hF dhpσ_20
            have ir_19 : r_19.toInt = (m_I (m_c X σ a) x_6.toInt) := (by first | exact bhpσ_20 | (rw [bhpσ_20]) | (simp only [bhpσ_20]))
            have gc_21_r_17 := q_rng r_17
            have gc_21_r_19 := q_rng r_19
            refine q_icmp_ne (A := r_17.toInt) (B := r_19.toInt) E rfl rfl (tgt := 61) dX12_quartet_56 (by decide) (fun c_21 => ?_) (fun c_21 => ?_)
            · skip
              replace hF := q_ifn hF c_21
              obtain ⟨z_22, ez_22⟩ : ∃ y : Int32, y = x_6 + 1 := ⟨_, rfl⟩
              replace hF := q_letX hF ez_22
              refine lv_iinc (v := z_22) (lv' := [(2, .int z_22), (0, .ref a), (1, .int v1)]) hx hb dX12_quartet_61 hl (k := 2) rfl (by rw [ez_22]; rfl) (by decide) rfl (fun ls hl => ?_)
              have iz_22 : z_22.toInt = x_6.toInt + 1 := q_inc ez_22 (by first | (clear ahpσ_4 bhpσ_4 dhpσ_4 c_5 chpσ_4 hm26 gc_9_f_8 ahpσ_14 bhpσ_14 chpσ_14 ir_13 c_15 ahpσ_18 bhpσ_18 chpσ_18 ir_17 ahpσ_20 bhpσ_20 chpσ_20 dhpσ_20 ir_19 gc_21_r_17 gc_21_r_19 c_21; omega) | omega)
              refine lv_goto (tgt := 26) hx hb dX12_quartet_64 (by decide) ?_
              exact ih26 z_22 _ _ ls (by first | (clear ahpσ_4 bhpσ_4 dhpσ_4 c_5 chpσ_4 gc_9_f_8 ahpσ_14 bhpσ_14 chpσ_14 ir_13 c_15 ahpσ_18 bhpσ_18 chpσ_18 ir_17 ahpσ_20 bhpσ_20 chpσ_20 dhpσ_20 ir_19 gc_21_r_17 gc_21_r_19; omega) | omega) (by first | (clear hh ahpσ_4 bhpσ_4 dhpσ_4 c_5 chpσ_4 hm26 if_8 gc_9_f_8 c_9 ahpσ_14 bhpσ_14 chpσ_14 ir_13 c_15 ahpσ_18 bhpσ_18 chpσ_18 ir_17 ahpσ_20 bhpσ_20 chpσ_20 dhpσ_20 ir_19 gc_21_r_17 gc_21_r_19 c_21; omega) | omega) hF hI (lv_sub hl [1, 2, 0] rfl)
            · skip
              replace hF := q_ifp hF c_21
              skip
              refine lv_iload_n hx hb dX12_quartet_59 rfl (lv_at hl 2 rfl) ?_
              exact q_reti E hr hlk hI ⟨(hF.trans hout), fr_σ_2⟩ dX12_quartet_60
    have kc_23 : (0 : Int32).toInt = 0 := zt_0
    exact L_26_7 ((2147483647 - (0 : Int32).toInt).toNat + 1) 0 _ _ ls (Nat.lt_succ_self _) (by decide) hF hI (lv_sub hl [1, 2, 0] rfl)
  · skip
    replace hF := q_ifp hF c_5
    replace chpσ_4 := q_ifNo chpσ_4 c_5
    refine lv_aload_n hx hb dX12_quartet_18 rfl (lv_at hl 0 rfl) ?_
    refine lv_iconst (v := 2) hx hb dX12_quartet_19 zki_2 ?_
    have kc_24 : (2 : Int32).toInt = 2 := zt_2
    refine q_ci (q_rV11_1 (rest := []) E (hml.trans hl.1.symm) hI (c_X12_refuse l X σ_2 a (2 : Int32) ha) kv_X12_284 ha ⟨Nat.le_of_ble_eq_true rfl, Nat.le_of_ble_eq_true rfl⟩ (Nat.le_of_ble_eq_true rfl) dX12_quartet_20) hI (Nat.le_of_ble_eq_true rfl) (fun r_25 σ_26 H locs hpσ_26 hkσ_26 hI => ?_)
    have ahpσ_26 := hpσ_26.1
    have bhpσ_26 := hpσ_26.2.1
    have chpσ_26 := hpσ_26.2.2
    clear hpσ_26
    have fr_σ_26 := fr_σ_2.call chpσ_26 rfl rfl
    replace hF := q_biX hF bhpσ_26
    have mcσ_26 := m_cK hkσ_26 hI.1 ha (by decide)
    have feσ_26 : m_c X σ_26 a = m_c X σ a := (funext mcσ_26).trans feσ_2
    exact q_reti E hr hlk hI ⟨(hF.trans hout), fr_σ_26⟩ dX12_quartet_23

set_option maxRecDepth 100000 in
set_option maxHeartbeats 4000000 in
theorem c_X12_sorts (l : Launch) (X : XW) (σ : ST) (a : Nat) (v1 : Int32) (ha : q_kd X a = 12) (hG : m_G (m_c X σ a)) : Met l yX12_sorts (q_ws yX12_sorts cX12_sorts 4 (some .int)) (q_rm 2 44) (q_P X σ [.ref a, .int v1]) (q_Qi X 8 σ (fun (r : Int32) (σ' : ST) => (r, σ') = F_X12_sorts X σ a v1 ∧ q_ow [(12, 0), (12, 1)] [] X σ σ')) 0 0 (q_reg X) := by
  refine q_met 8 (by first | exact rfl | decide +kernel) rfl (Nat.le_of_ble_eq_true rfl) (fun p e s m below meth c E hml hr hlk hI ls hl => ?_)
  have hx := E.1
  have hb := E.2.1
  have hl : lv_has ls 4 [(0, .ref a), (1, .int v1)] := hl
  have feσ : m_c X σ a = m_c X σ a := rfl
  have fr_σ : q_ow [(12, 0), (12, 1)] [] X σ σ := q_ow.rf
  have hh := hG.hd
  obtain ⟨out, hout⟩ : ∃ o, o = F_X12_sorts X σ a v1 := ⟨_, rfl⟩
  have hF := hout.symm
  unfold F_X12_sorts at hF
  refine lv_aload_n hx hb dX12_sorts_0 rfl (lv_at hl 0 rfl) ?_
  refine lv_iconst (v := 0) hx hb dX12_sorts_1 zki_0 ?_
  refine ps_X12_59_12 E hI ha (by decide) dX12_sorts_2 (fun H locs σ_1 hσ_1 hI => ?_)
  replace hF := q_letX hF hσ_1
  have fr_σ_1 := fr_σ.si hσ_1 ha rfl
  have mcσ_1 := m_wo hσ_1 (m_ne ha (q_tk (f := 20) (k' := 34) hI ha rfl (by decide)) (by decide))
  have feσ_1 : m_c X σ_1 a = m_c X σ a := (funext mcσ_1).trans feσ
  refine lv_aload_n hx hb dX12_sorts_5 rfl (lv_at hl 0 rfl) ?_
  refine lv_iconst (v := 0) hx hb dX12_sorts_6 zki_0 ?_
  refine ps_X12_62_12 E hI ha (by decide) dX12_sorts_7 (fun H locs σ_2 hσ_2 hI => ?_)
  replace hF := q_letX hF hσ_2
  have fr_σ_2 := fr_σ_1.si hσ_2 ha rfl
  have mcσ_2 := m_wo hσ_2 (m_ne ha (q_tk (f := 20) (k' := 34) hI ha rfl (by decide)) (by decide))
  have feσ_2 : m_c X σ_2 a = m_c X σ a := (funext mcσ_2).trans feσ_1
  refine lv_iload_n hx hb dX12_sorts_10 rfl (lv_at hl 1 rfl) ?_
  refine lv_i2l hx hb dX12_sorts_11 rfl ?_
  refine lv_topl (fun y_3 ey_3 => ?_)
  replace hF := q_letX hF ey_3
  have ggy_3 := q_rng v1
  have iy_3 : y_3.toInt = v1.toInt := by rw [ey_3]; exact (q_i2l _).trans rfl
  refine lv_lconst (v := 0) hx hb dX12_sorts_12 (by decide) ?_
  refine lv_ldc2 (v := 2) hx hb E.2.2.1 (E.2.2.2.1 _ (q_in_t9 (i := 45) (by first | rfl | decide +kernel) rfl)) dX12_sorts_13 ?_
  have kc_4 : (0 : Int64).toInt = 0 := rfl
  have kc_5 : (2 : Int64).toInt = 2 := rfl
  refine q_ci (q_runS (As := [.long y_3, .long 0, .long 2]) (rest := []) E (hml.trans hl.1.symm) hI (c_X12_isIn l X σ_2 y_3 (0 : Int64) (2 : Int64)) ks_X12_94 rfl ⟨Nat.le_of_ble_eq_true rfl, Nat.le_of_ble_eq_true rfl⟩ ⟨Nat.le_refl _, Nat.le_refl _⟩ rfl (Nat.le_of_ble_eq_true rfl) dX12_sorts_16) hI (Nat.le_of_ble_eq_true rfl) (fun r_6 σ_7 H locs hpσ_7 hkσ_7 hI => ?_)
  have ahpσ_7 := hpσ_7.1
  have bhpσ_7 := hpσ_7.2.1
  have chpσ_7 := hpσ_7.2.2.1
  have dhpσ_7 := hpσ_7.2.2.2
  clear hpσ_7
  replace hI := q_Irw ahpσ_7 hI
  replace hF := q_letX hF dhpσ_7
  refine q_if_ne (A := r_6.toInt) E rfl (tgt := 28) dX12_sorts_19 (by decide) (fun c_8 => ?_) (fun c_8 => ?_)
  · skip
    replace hF := q_ifn hF c_8
    replace c_8 := q_ifOne bhpσ_7 c_8
    replace chpσ_7 := q_ifYes chpσ_7 c_8
    refine lv_iconst (v := 0) hx hb dX12_sorts_28 zki_0 ?_
    refine lv_istore_n (lv' := [(2, .int 0), (0, .ref a), (1, .int v1)]) hx hb dX12_sorts_29 rfl hl (by decide) rfl (fun ls hl => ?_)
    refine lv_iconst (v := 0) hx hb dX12_sorts_30 zki_0 ?_
    refine lv_istore_n (lv' := [(3, .int 0), (2, .int 0), (0, .ref a), (1, .int v1)]) hx hb dX12_sorts_31 rfl hl (by decide) rfl (fun ls hl => ?_)
    have L_32_11 : ∀ (k_11 : Nat) (x_9 : Int32) (x_10 : Int32) (H : Heap) (locs : List Loc) (ls : Array Slot), (2147483647 - x_10.toInt).toNat < k_11 → (0 ≤ x_10.toInt) → (F_X12_sorts_L32_1 X σ_2 a v1 k_11 x_9 x_10 = out) → q_I X 8 σ s.heap locs σ_2 H → lv_has ls 4 [(0, .ref a), (1, .int v1), (2, .int x_9), (3, .int x_10)] → W p l e (q_rm 2 44) s m ([.ref a, .int v1] : List Value).toArray below meth c H locs 0 0 (MQ below (q_Qi X 8 σ (fun (r : Int32) (σ' : ST) => (r, σ') = F_X12_sorts X σ a v1 ∧ q_ow [(12, 0), (12, 1)] [] X σ σ')) ([.ref a, .int v1] : List Value).toArray s 0 0 (q_reg X)) (F0 m 32 ls []) := by
      clear hF
      intro k_11
      induction k_11 with
      | zero =>
        intro x_9 x_10 H locs ls hms
        exact absurd hms (Nat.not_lt_zero _)
      | succ k_11 ih32 =>
        intro x_9 x_10 H locs ls hm32 hge32 hF hI hl
        replace hF := (F_X12_sorts_L32_1_s).symm.trans hF
        unfold F_X12_sorts_B32_1 at hF
        refine lv_iload_n hx hb dX12_sorts_32 rfl (lv_at hl 3 rfl) ?_
        refine lv_aload_n hx hb dX12_sorts_33 rfl (lv_at hl 0 rfl) ?_
        refine gs_X12_35_12 E hI ha dX12_sorts_34 ?_
        refine lv_bipush (v := 9) hx hb dX12_sorts_37 zkb_9 ?_
        refine q_iald E hI (q_tk (k' := 34) hI ha rfl (Nat.succ_ne_zero _)) ⟨by decide, rfl⟩ (by decide) (by rw [q_lnk (v := 4650) hI (q_tk (k' := 34) hI ha rfl (Nat.succ_ne_zero _)) rfl (by decide)]; decide) dX12_sorts_39 ?_
        refine lv_topi (fun f_12 ef_12 => ?_)
        replace hF := q_letX hF ef_12
        have if_12 : f_12.toInt = m_c X σ a 9 := (m_rd ef_12 (by decide)).trans (congrFun feσ_2 _)
        have gc_13_x_10 := q_rng x_10
        have gc_13_f_12 := q_rng f_12
        refine q_icmp_ge (A := x_10.toInt) (B := f_12.toInt) E rfl rfl (tgt := 66) dX12_sorts_40 (by decide) (fun c_13 => ?_) (fun c_13 => ?_)
        · skip
          replace hF := q_ifn hF (Int.not_lt.mpr c_13)
          skip
          refine lv_iload_n hx hb dX12_sorts_66 rfl (lv_at hl 2 rfl) ?_
          exact q_reti E hr hlk hI ⟨(hF.trans hout), fr_σ_2⟩ dX12_sorts_67
        · skip
          replace hF := q_ifp hF c_13
          refine lv_iload_n hx hb dX12_sorts_43 rfl (lv_at hl 2 rfl) ?_
          refine lv_aload_n hx hb dX12_sorts_44 rfl (lv_at hl 0 rfl) ?_
          refine lv_iload_n hx hb dX12_sorts_45 rfl (lv_at hl 3 rfl) ?_
          refine q_ci (q_rV11_1 (rest := [.int x_9]) E (hml.trans hl.1.symm) hI (c_X12_sortOf l X σ_2 a x_10 ha (by rw [feσ_2]; exact hG) (by rw [feσ_2]; exact (by first | (clear hh ggy_3 iy_3 kc_4 kc_5 ahpσ_7 bhpσ_7 dhpσ_7 c_8 chpσ_7 hm32 gc_13_f_12; omega) | omega))) kv_X12_305 ha ⟨Nat.le_of_ble_eq_true rfl, Nat.le_of_ble_eq_true rfl⟩ (Nat.le_of_ble_eq_true rfl) dX12_sorts_46) hI (Nat.le_of_ble_eq_true rfl) (fun r_14 σ_15 H locs hpσ_15 hkσ_15 hI => ?_)
          have ahpσ_15 := hpσ_15.1
          have bhpσ_15 := hpσ_15.2.1
          have chpσ_15 := hpσ_15.2.2
          clear hpσ_15
          replace hI := q_Irw ahpσ_15 hI
          replace hF := q_letX hF chpσ_15
          refine lv_iload_n hx hb dX12_sorts_49 rfl (lv_at hl 1 rfl) ?_
          have gc_16_r_14 := q_rng r_14
          have gc_16_v1 := q_rng v1
          refine q_icmp_ne (A := r_14.toInt) (B := v1.toInt) E rfl rfl (tgt := 57) dX12_sorts_50 (by decide) (fun c_16 => ?_) (fun c_16 => ?_)
          · skip
            replace hF := q_ifn hF c_16
            refine lv_iconst (v := 0) hx hb dX12_sorts_57 zki_0 ?_
            refine lv_iadd hx hb dX12_sorts_58 ?_
            refine lv_topi (fun z_17 ez_17 => ?_)
            replace hF := q_letX hF ez_17
            refine lv_istore_n (lv' := [(2, .int z_17), (0, .ref a), (1, .int v1), (3, .int x_10)]) hx hb dX12_sorts_59 rfl hl (by decide) rfl (fun ls hl => ?_)
            obtain ⟨z_18, ez_18⟩ : ∃ y : Int32, y = x_10 + 1 := ⟨_, rfl⟩
            replace hF := q_letX hF ez_18
            refine lv_iinc (v := z_18) (lv' := [(3, .int z_18), (2, .int z_17), (0, .ref a), (1, .int v1)]) hx hb dX12_sorts_60 hl (k := 3) rfl (by rw [ez_18]; rfl) (by decide) rfl (fun ls hl => ?_)
            have iz_18 : z_18.toInt = x_10.toInt + 1 := q_inc ez_18 (by first | (clear ggy_3 iy_3 kc_4 kc_5 ahpσ_7 bhpσ_7 dhpσ_7 c_8 chpσ_7 hm32 gc_13_f_12 ahpσ_15 bhpσ_15 chpσ_15 gc_16_r_14 gc_16_v1 c_16; omega) | omega)
            refine lv_goto (tgt := 32) hx hb dX12_sorts_63 (by decide) ?_
            exact ih32 z_17 z_18 _ _ ls (by first | (clear ggy_3 iy_3 kc_4 kc_5 ahpσ_7 bhpσ_7 dhpσ_7 c_8 chpσ_7 gc_13_f_12 ahpσ_15 bhpσ_15 chpσ_15 gc_16_r_14 gc_16_v1; omega) | omega) (by first | (clear hh ggy_3 iy_3 kc_4 kc_5 ahpσ_7 bhpσ_7 dhpσ_7 c_8 chpσ_7 hm32 if_12 gc_13_f_12 c_13 ahpσ_15 bhpσ_15 chpσ_15 gc_16_r_14 gc_16_v1 c_16; omega) | omega) hF hI (lv_sub hl [2, 3, 1, 0] rfl)
          · skip
            replace hF := q_ifp hF c_16
            refine lv_iconst (v := 1) hx hb dX12_sorts_53 zki_1 ?_
            refine lv_goto (tgt := 58) hx hb dX12_sorts_54 (by decide) ?_
            refine lv_iadd hx hb dX12_sorts_58 ?_
            refine lv_topi (fun z_19 ez_19 => ?_)
            replace hF := q_letX hF ez_19
            refine lv_istore_n (lv' := [(2, .int z_19), (0, .ref a), (1, .int v1), (3, .int x_10)]) hx hb dX12_sorts_59 rfl hl (by decide) rfl (fun ls hl => ?_)
            obtain ⟨z_20, ez_20⟩ : ∃ y : Int32, y = x_10 + 1 := ⟨_, rfl⟩
            replace hF := q_letX hF ez_20
            refine lv_iinc (v := z_20) (lv' := [(3, .int z_20), (2, .int z_19), (0, .ref a), (1, .int v1)]) hx hb dX12_sorts_60 hl (k := 3) rfl (by rw [ez_20]; rfl) (by decide) rfl (fun ls hl => ?_)
            have iz_20 : z_20.toInt = x_10.toInt + 1 := q_inc ez_20 (by first | (clear ggy_3 iy_3 kc_4 kc_5 ahpσ_7 bhpσ_7 dhpσ_7 c_8 chpσ_7 hm32 gc_13_f_12 ahpσ_15 bhpσ_15 chpσ_15 gc_16_r_14 gc_16_v1 c_16; omega) | omega)
            refine lv_goto (tgt := 32) hx hb dX12_sorts_63 (by decide) ?_
            exact ih32 z_19 z_20 _ _ ls (by first | (clear ggy_3 iy_3 kc_4 kc_5 ahpσ_7 bhpσ_7 dhpσ_7 c_8 chpσ_7 gc_13_f_12 ahpσ_15 bhpσ_15 chpσ_15 gc_16_r_14 gc_16_v1 c_16; omega) | omega) (by first | (clear hh ggy_3 iy_3 kc_4 kc_5 ahpσ_7 bhpσ_7 dhpσ_7 c_8 chpσ_7 hm32 if_12 gc_13_f_12 c_13 ahpσ_15 bhpσ_15 chpσ_15 gc_16_r_14 gc_16_v1 c_16; omega) | omega) hF hI (lv_sub hl [2, 3, 1, 0] rfl)
    have kc_21 : (0 : Int32).toInt = 0 := zt_0
    exact L_32_11 ((2147483647 - (0 : Int32).toInt).toNat + 1) 0 0 _ _ ls (Nat.lt_succ_self _) (by decide) hF hI (lv_sub hl [2, 3, 1, 0] rfl)
  · skip
    replace hF := q_ifp hF c_8
    replace chpσ_7 := q_ifNo chpσ_7 c_8
    refine lv_aload_n hx hb dX12_sorts_22 rfl (lv_at hl 0 rfl) ?_
    refine lv_iconst (v := 5) hx hb dX12_sorts_23 zki_5 ?_
    have kc_22 : (5 : Int32).toInt = 5 := zt_5
    refine q_ci (q_rV11_1 (rest := []) E (hml.trans hl.1.symm) hI (c_X12_refuse l X σ_2 a (5 : Int32) ha) kv_X12_284 ha ⟨Nat.le_of_ble_eq_true rfl, Nat.le_of_ble_eq_true rfl⟩ (Nat.le_of_ble_eq_true rfl) dX12_sorts_24) hI (Nat.le_of_ble_eq_true rfl) (fun r_23 σ_24 H locs hpσ_24 hkσ_24 hI => ?_)
    have ahpσ_24 := hpσ_24.1
    have bhpσ_24 := hpσ_24.2.1
    have chpσ_24 := hpσ_24.2.2
    clear hpσ_24
    have fr_σ_24 := fr_σ_2.call chpσ_24 rfl rfl
    replace hF := q_biX hF bhpσ_24
    have mcσ_24 := m_cK hkσ_24 hI.1 ha (by decide)
    have feσ_24 : m_c X σ_24 a = m_c X σ a := (funext mcσ_24).trans feσ_2
    exact q_reti E hr hlk hI ⟨(hF.trans hout), fr_σ_24⟩ dX12_sorts_27

set_option maxRecDepth 100000 in
set_option maxHeartbeats 4000000 in
theorem c_X12_liar (l : Launch) (X : XW) (σ : ST) (a : Nat) (ha : q_kd X a = 12) (hG : m_G (m_c X σ a)) : Met l yX12_liar (q_ws yX12_liar cX12_liar 5 (some .int)) (q_rm 1 21) (q_P X σ [.ref a]) (q_Qi X 8 σ (fun (r : Int32) (σ' : ST) => (r, σ') = F_X12_liar X σ a ∧ q_ow [(12, 0), (12, 1)] [] X σ σ')) 0 0 (q_reg X) := by
  refine q_met 8 (by first | exact rfl | decide +kernel) rfl (Nat.le_of_ble_eq_true rfl) (fun p e s m below meth c E hml hr hlk hI ls hl => ?_)
  have hx := E.1
  have hb := E.2.1
  have hl : lv_has ls 5 [(0, .ref a)] := hl
  have feσ : m_c X σ a = m_c X σ a := rfl
  have fr_σ : q_ow [(12, 0), (12, 1)] [] X σ σ := q_ow.rf
  have hh := hG.hd
  obtain ⟨out, hout⟩ : ∃ o, o = F_X12_liar X σ a := ⟨_, rfl⟩
  have hF := hout.symm
  unfold F_X12_liar at hF
  refine lv_aload_n hx hb dX12_liar_0 rfl (lv_at hl 0 rfl) ?_
  refine lv_iconst (v := 0) hx hb dX12_liar_1 zki_0 ?_
  refine ps_X12_59_12 E hI ha (by decide) dX12_liar_2 (fun H locs σ_1 hσ_1 hI => ?_)
  replace hF := q_letX hF hσ_1
  have fr_σ_1 := fr_σ.si hσ_1 ha rfl
  have mcσ_1 := m_wo hσ_1 (m_ne ha (q_tk (f := 20) (k' := 34) hI ha rfl (by decide)) (by decide))
  have feσ_1 : m_c X σ_1 a = m_c X σ a := (funext mcσ_1).trans feσ
  refine lv_aload_n hx hb dX12_liar_5 rfl (lv_at hl 0 rfl) ?_
  refine lv_iconst (v := 0) hx hb dX12_liar_6 zki_0 ?_
  refine ps_X12_62_12 E hI ha (by decide) dX12_liar_7 (fun H locs σ_2 hσ_2 hI => ?_)
  replace hF := q_letX hF hσ_2
  have fr_σ_2 := fr_σ_1.si hσ_2 ha rfl
  have mcσ_2 := m_wo hσ_2 (m_ne ha (q_tk (f := 20) (k' := 34) hI ha rfl (by decide)) (by decide))
  have feσ_2 : m_c X σ_2 a = m_c X σ a := (funext mcσ_2).trans feσ_1
  refine lv_iconst (v := (-1)) hx hb dX12_liar_10 zki_m1 ?_
  refine lv_istore_n (lv' := [(1, .int (-1)), (0, .ref a)]) hx hb dX12_liar_11 rfl hl (by decide) rfl (fun ls hl => ?_)
  refine lv_iconst (v := 0) hx hb dX12_liar_12 zki_0 ?_
  refine lv_istore_n (lv' := [(2, .int 0), (1, .int (-1)), (0, .ref a)]) hx hb dX12_liar_13 rfl hl (by decide) rfl (fun ls hl => ?_)
  have L_14_5 : ∀ (k_5 : Nat) (x_3 : Int32) (x_4 : Int32) (H : Heap) (locs : List Loc) (ls : Array Slot), (2147483647 - x_4.toInt).toNat < k_5 → (0 ≤ x_4.toInt ∧ -1 ≤ x_3.toInt ∧ x_3.toInt < m_c X σ a 2) → (F_X12_liar_L14_1 X σ_2 a k_5 x_3 x_4 = out) → q_I X 8 σ s.heap locs σ_2 H → lv_has ls 5 [(0, .ref a), (1, .int x_3), (2, .int x_4)] → W p l e (q_rm 1 21) s m ([.ref a] : List Value).toArray below meth c H locs 0 0 (MQ below (q_Qi X 8 σ (fun (r : Int32) (σ' : ST) => (r, σ') = F_X12_liar X σ a ∧ q_ow [(12, 0), (12, 1)] [] X σ σ')) ([.ref a] : List Value).toArray s 0 0 (q_reg X)) (F0 m 14 ls []) := by
    clear hF
    intro k_5
    induction k_5 with
    | zero =>
      intro x_3 x_4 H locs ls hms
      exact absurd hms (Nat.not_lt_zero _)
    | succ k_5 ih14 =>
      intro x_3 x_4 H locs ls hm14 hge14 hF hI hl
      replace hF := (F_X12_liar_L14_1_s).symm.trans hF
      unfold F_X12_liar_B14_1 at hF
      refine lv_iload_n hx hb dX12_liar_14 rfl (lv_at hl 2 rfl) ?_
      refine lv_aload_n hx hb dX12_liar_15 rfl (lv_at hl 0 rfl) ?_
      refine gs_X12_35_12 E hI ha dX12_liar_16 ?_
      refine lv_iconst (v := 2) hx hb dX12_liar_19 zki_2 ?_
      refine q_iald E hI (q_tk (k' := 34) hI ha rfl (Nat.succ_ne_zero _)) ⟨by decide, rfl⟩ (by decide) (by rw [q_lnk (v := 4650) hI (q_tk (k' := 34) hI ha rfl (Nat.succ_ne_zero _)) rfl (by decide)]; decide) dX12_liar_20 ?_
      refine lv_topi (fun f_6 ef_6 => ?_)
      replace hF := q_letX hF ef_6
      have if_6 : f_6.toInt = m_c X σ a 2 := (m_rd ef_6 (by decide)).trans (congrFun feσ_2 _)
      have gc_7_x_4 := q_rng x_4
      have gc_7_f_6 := q_rng f_6
      refine q_icmp_ge (A := x_4.toInt) (B := f_6.toInt) E rfl rfl (tgt := 120) dX12_liar_21 (by decide) (fun c_7 => ?_) (fun c_7 => ?_)
      · skip
        replace hF := q_ifn hF (Int.not_lt.mpr c_7)
        unfold F_X12_liar_E120_2 at hF
        refine lv_iload_n hx hb dX12_liar_120 rfl (lv_at hl 1 rfl) ?_
        refine q_if_ge (A := x_3.toInt) E rfl (tgt := 133) dX12_liar_121 (by decide) (fun c_8 => ?_) (fun c_8 => ?_)
        · skip
          replace hF := q_ifn hF (Int.not_lt.mpr c_8)
          refine lv_iload_n hx hb dX12_liar_133 rfl (lv_at hl 1 rfl) ?_
          exact q_reti E hr hlk hI ⟨(hF.trans hout), fr_σ_2⟩ dX12_liar_134
        · skip
          replace hF := q_ifp hF c_8
          refine lv_aload_n hx hb dX12_liar_124 rfl (lv_at hl 0 rfl) ?_
          refine lv_bipush (v := 8) hx hb dX12_liar_125 zkb_8 ?_
          have kc_9 : (8 : Int32).toInt = 8 := zt_8
          refine q_ci (q_rV11_1 (rest := []) E (hml.trans hl.1.symm) hI (c_X12_refuse l X σ_2 a (8 : Int32) ha) kv_X12_284 ha ⟨Nat.le_of_ble_eq_true rfl, Nat.le_of_ble_eq_true rfl⟩ (Nat.le_of_ble_eq_true rfl) dX12_liar_127) hI (Nat.le_of_ble_eq_true rfl) (fun r_10 σ_11 H locs hpσ_11 hkσ_11 hI => ?_)
          have ahpσ_11 := hpσ_11.1
          have bhpσ_11 := hpσ_11.2.1
          have chpσ_11 := hpσ_11.2.2
          clear hpσ_11
          have fr_σ_11 := fr_σ_2.call chpσ_11 rfl rfl
          replace hF := q_biX hF bhpσ_11
          have mcσ_11 := m_cK hkσ_11 hI.1 ha (by decide)
          have feσ_11 : m_c X σ_11 a = m_c X σ a := (funext mcσ_11).trans feσ_2
          refine lv_goto (tgt := 134) hx hb dX12_liar_130 (by decide) ?_
          exact q_reti E hr hlk hI ⟨(hF.trans hout), fr_σ_11⟩ dX12_liar_134
      · skip
        replace hF := q_ifp hF c_7
        refine lv_iload_n hx hb dX12_liar_24 rfl (lv_at hl 1 rfl) ?_
        refine q_if_ge (A := x_3.toInt) E rfl (tgt := 33) dX12_liar_25 (by decide) (fun c_12 => ?_) (fun c_12 => ?_)
        · skip
          replace hF := q_ifn hF (Int.not_lt.mpr c_12)
          refine lv_aload_n hx hb dX12_liar_33 rfl (lv_at hl 0 rfl) ?_
          refine gs_X12_35_12 E hI ha dX12_liar_34 ?_
          refine lv_bipush (v := 22) hx hb dX12_liar_37 zkb_22 ?_
          refine lv_iload_n hx hb dX12_liar_39 rfl (lv_at hl 2 rfl) ?_
          refine lv_iadd hx hb dX12_liar_40 ?_
          refine lv_topi (fun z_13 ez_13 => ?_)
          replace hF := q_letX hF ez_13
          have kc_14 : (22 : Int32).toInt = 22 := zt_22
          have iz_13 := q_add ez_13 (by first | (clear hh hm14 if_6 gc_7_f_6 c_7 c_12; omega) | omega) (by first | (clear hm14 gc_7_x_4 gc_7_f_6; omega) | omega)
          refine q_iald E hI (q_tk (k' := 34) hI ha rfl (Nat.succ_ne_zero _)) ⟨by decide, rfl⟩ (by first | (clear hh hm14 if_6 gc_7_f_6 c_7 c_12; omega) | omega) (by rw [q_lnk (v := 4650) hI (q_tk (k' := 34) hI ha rfl (Nat.succ_ne_zero _)) rfl (by decide)]; omega) dX12_liar_41 ?_
          refine lv_topi (fun f_15 ef_15 => ?_)
          replace hF := q_letX hF ef_15
          have if_15 : f_15.toInt = m_c X σ a z_13.toInt := (m_rd ef_15 rfl).trans (congrFun feσ_2 _)
          refine lv_aload_n hx hb dX12_liar_42 rfl (lv_at hl 0 rfl) ?_
          refine gs_X12_35_12 E hI ha dX12_liar_43 ?_
          refine lv_bipush (v := 28) hx hb dX12_liar_46 zkb_28 ?_
          refine lv_iload_n hx hb dX12_liar_48 rfl (lv_at hl 2 rfl) ?_
          refine lv_iadd hx hb dX12_liar_49 ?_
          refine lv_topi (fun z_16 ez_16 => ?_)
          replace hF := q_letX hF ez_16
          have kc_17 : (28 : Int32).toInt = 28 := zt_28
          have iz_16 := q_add ez_16 (by first | (clear hm14 gc_7_f_6 if_15; omega) | omega) (by first | (clear hm14 gc_7_f_6 if_15; omega) | omega)
          refine q_iald E hI (q_tk (k' := 34) hI ha rfl (Nat.succ_ne_zero _)) ⟨by decide, rfl⟩ (by first | (clear hh hm14 if_6 gc_7_f_6 c_7 c_12 if_15; omega) | omega) (by rw [q_lnk (v := 4650) hI (q_tk (k' := 34) hI ha rfl (Nat.succ_ne_zero _)) rfl (by decide)]; omega) dX12_liar_50 ?_
          refine lv_topi (fun f_18 ef_18 => ?_)
          replace hF := q_letX hF ef_18
          have if_18 : f_18.toInt = m_c X σ a z_16.toInt := (m_rd ef_18 rfl).trans (congrFun feσ_2 _)
          refine lv_isub hx hb dX12_liar_51 ?_
          refine lv_topi (fun z_19 ez_19 => ?_)
          replace hF := q_letX hF ez_19
          refine lv_iconst (v := 1) hx hb dX12_liar_52 zki_1 ?_
          refine lv_iadd hx hb dX12_liar_53 ?_
          refine lv_topi (fun z_20 ez_20 => ?_)
          replace hF := q_letX hF ez_20
          refine lv_aload_n hx hb dX12_liar_54 rfl (lv_at hl 0 rfl) ?_
          refine gs_X12_35_12 E hI ha dX12_liar_55 ?_
          refine lv_bipush (v := 22) hx hb dX12_liar_58 zkb_22 ?_
          refine lv_iload_n hx hb dX12_liar_60 rfl (lv_at hl 1 rfl) ?_
          refine lv_iadd hx hb dX12_liar_61 ?_
          refine lv_topi (fun z_21 ez_21 => ?_)
          replace hF := q_letX hF ez_21
          have kc_22 : (22 : Int32).toInt = 22 := zt_22
          have iz_21 := q_add ez_21 (by first | (clear hh hm14 hge14 if_6 gc_7_x_4 gc_7_f_6 c_7 iz_13 if_15 kc_17 iz_16 if_18 kc_22; omega) | omega) (by first | (clear hm14 gc_7_x_4 gc_7_f_6 c_7 iz_13 if_15 kc_17 iz_16 if_18 kc_22; omega) | omega)
          refine q_iald E hI (q_tk (k' := 34) hI ha rfl (Nat.succ_ne_zero _)) ⟨by decide, rfl⟩ (by first | (clear hh hm14 hge14 if_6 gc_7_x_4 gc_7_f_6 c_7 iz_13 if_15 kc_17 iz_16 if_18 kc_22; omega) | omega) (by rw [q_lnk (v := 4650) hI (q_tk (k' := 34) hI ha rfl (Nat.succ_ne_zero _)) rfl (by decide)]; omega) dX12_liar_62 ?_
          refine lv_topi (fun f_23 ef_23 => ?_)
          replace hF := q_letX hF ef_23
          have if_23 : f_23.toInt = m_c X σ a z_21.toInt := (m_rd ef_23 rfl).trans (congrFun feσ_2 _)
          refine lv_iconst (v := 2) hx hb dX12_liar_63 zki_2 ?_
          refine lv_iadd hx hb dX12_liar_64 ?_
          refine lv_topi (fun z_24 ez_24 => ?_)
          replace hF := q_letX hF ez_24
          refine lv_imul hx hb dX12_liar_65 ?_
          refine lv_topi (fun z_25 ez_25 => ?_)
          replace hF := q_letX hF ez_25
          refine lv_istore_n (lv' := [(3, .int z_25), (0, .ref a), (1, .int x_3), (2, .int x_4)]) hx hb dX12_liar_66 rfl hl (by decide) rfl (fun ls hl => ?_)
          refine lv_aload_n hx hb dX12_liar_67 rfl (lv_at hl 1 rfl) ?_
          refine gs_X12_35_12 E hI ha dX12_liar_68 ?_
          refine lv_bipush (v := 22) hx hb dX12_liar_71 zkb_22 ?_
          refine lv_iload_n hx hb dX12_liar_73 rfl (lv_at hl 2 rfl) ?_
          refine lv_iadd hx hb dX12_liar_74 ?_
          refine lv_topi (fun z_26 ez_26 => ?_)
          replace hF := q_letX hF ez_26
          have kc_27 : (22 : Int32).toInt = 22 := zt_22
          have iz_26 := q_add ez_26 (by first | (clear hh hm14 hge14 if_6 gc_7_x_4 gc_7_f_6 c_7 iz_13 if_15 kc_17 iz_16 if_18 kc_22 if_23 kc_27; omega) | omega) (by first | (clear hm14 gc_7_x_4 gc_7_f_6 c_7 c_12 iz_13 if_15 kc_17 iz_16 if_18 kc_22 if_23 kc_27; omega) | omega)
          refine q_iald E hI (q_tk (k' := 34) hI ha rfl (Nat.succ_ne_zero _)) ⟨by decide, rfl⟩ (by first | (clear hh hm14 hge14 if_6 gc_7_x_4 gc_7_f_6 c_7 iz_13 if_15 kc_17 iz_16 if_18 kc_22 if_23 kc_27; omega) | omega) (by rw [q_lnk (v := 4650) hI (q_tk (k' := 34) hI ha rfl (Nat.succ_ne_zero _)) rfl (by decide)]; omega) dX12_liar_75 ?_
          refine lv_topi (fun f_28 ef_28 => ?_)
          replace hF := q_letX hF ef_28
          have if_28 : f_28.toInt = m_c X σ a z_26.toInt := (m_rd ef_28 rfl).trans (congrFun feσ_2 _)
          refine lv_aload_n hx hb dX12_liar_76 rfl (lv_at hl 1 rfl) ?_
          refine gs_X12_35_12 E hI ha dX12_liar_77 ?_
          refine lv_bipush (v := 28) hx hb dX12_liar_80 zkb_28 ?_
          refine lv_iload_n hx hb dX12_liar_82 rfl (lv_at hl 2 rfl) ?_
          refine lv_iadd hx hb dX12_liar_83 ?_
          refine lv_topi (fun z_29 ez_29 => ?_)
          replace hF := q_letX hF ez_29
          have kc_30 : (28 : Int32).toInt = 28 := zt_28
          have iz_29 := q_add ez_29 (by first | (clear hh hm14 hge14 if_6 gc_7_x_4 gc_7_f_6 c_7 iz_13 if_15 iz_16 if_18 kc_22 if_23 kc_27 if_28 kc_30; omega) | omega) (by first | (clear hm14 gc_7_x_4 gc_7_f_6 c_7 c_12 iz_13 if_15 iz_16 if_18 kc_22 if_23 kc_27 if_28 kc_30; omega) | omega)
          refine q_iald E hI (q_tk (k' := 34) hI ha rfl (Nat.succ_ne_zero _)) ⟨by decide, rfl⟩ (by first | (clear hh hm14 hge14 if_6 gc_7_x_4 gc_7_f_6 c_7 iz_13 if_15 iz_16 if_18 kc_22 if_23 kc_27 if_28 kc_30; omega) | omega) (by rw [q_lnk (v := 4650) hI (q_tk (k' := 34) hI ha rfl (Nat.succ_ne_zero _)) rfl (by decide)]; omega) dX12_liar_84 ?_
          refine lv_topi (fun f_31 ef_31 => ?_)
          replace hF := q_letX hF ef_31
          have if_31 : f_31.toInt = m_c X σ a z_29.toInt := (m_rd ef_31 rfl).trans (congrFun feσ_2 _)
          refine lv_isub hx hb dX12_liar_85 ?_
          refine lv_topi (fun z_32 ez_32 => ?_)
          replace hF := q_letX hF ez_32
          refine lv_iconst (v := 1) hx hb dX12_liar_86 zki_1 ?_
          refine lv_iadd hx hb dX12_liar_87 ?_
          refine lv_topi (fun z_33 ez_33 => ?_)
          replace hF := q_letX hF ez_33
          refine lv_aload_n hx hb dX12_liar_88 rfl (lv_at hl 1 rfl) ?_
          refine gs_X12_35_12 E hI ha dX12_liar_89 ?_
          refine lv_bipush (v := 22) hx hb dX12_liar_92 zkb_22 ?_
          refine lv_iload_n hx hb dX12_liar_94 rfl (lv_at hl 3 rfl) ?_
          refine lv_iadd hx hb dX12_liar_95 ?_
          refine lv_topi (fun z_34 ez_34 => ?_)
          replace hF := q_letX hF ez_34
          have kc_35 : (22 : Int32).toInt = 22 := zt_22
          have iz_34 := q_add ez_34 (by first | (clear hh hm14 if_6 gc_7_f_6 c_7 c_12 if_15 if_18 kc_22 iz_21 if_23 kc_27 iz_26 if_28 kc_30 iz_29 if_31 kc_35; omega) | omega) (by first | (clear hm14 gc_7_f_6 c_12 if_15 if_18 kc_22 iz_21 if_23 kc_27 iz_26 if_28 kc_30 iz_29 if_31 kc_35; omega) | omega)
          refine q_iald E hI (q_tk (k' := 34) hI ha rfl (Nat.succ_ne_zero _)) ⟨by decide, rfl⟩ (by first | (clear hh hm14 if_6 gc_7_f_6 c_7 c_12 if_15 if_18 kc_22 iz_21 if_23 kc_27 iz_26 if_28 kc_30 iz_29 if_31 kc_35; omega) | omega) (by rw [q_lnk (v := 4650) hI (q_tk (k' := 34) hI ha rfl (Nat.succ_ne_zero _)) rfl (by decide)]; omega) dX12_liar_96 ?_
          refine lv_topi (fun f_36 ef_36 => ?_)
          replace hF := q_letX hF ef_36
          have if_36 : f_36.toInt = m_c X σ a z_34.toInt := (m_rd ef_36 rfl).trans (congrFun feσ_2 _)
          refine lv_iconst (v := 2) hx hb dX12_liar_97 zki_2 ?_
          refine lv_iadd hx hb dX12_liar_98 ?_
          refine lv_topi (fun z_37 ez_37 => ?_)
          replace hF := q_letX hF ez_37
          refine lv_imul hx hb dX12_liar_99 ?_
          refine lv_topi (fun z_38 ez_38 => ?_)
          replace hF := q_letX hF ez_38
          refine lv_istore (lv' := [(4, .int z_38), (3, .int z_25), (0, .ref a), (1, .int x_3), (2, .int x_4)]) hx hb dX12_liar_100 hl (by decide) rfl (fun ls hl => ?_)
          refine lv_iload_n hx hb dX12_liar_102 rfl (lv_at hl 1 rfl) ?_
          refine lv_iload hx hb dX12_liar_103 (lv_at hl 0 rfl) ?_
          have gc_39_z_25 := q_rng z_25
          have gc_39_z_38 := q_rng z_38
          refine q_icmp_ge (A := z_25.toInt) (B := z_38.toInt) E rfl rfl (tgt := 112) dX12_liar_105 (by decide) (fun c_39 => ?_) (fun c_39 => ?_)
          · skip
            replace hF := q_ifn hF (Int.not_lt.mpr c_39)
            refine lv_iload_n hx hb dX12_liar_112 rfl (lv_at hl 3 rfl) ?_
            refine lv_istore_n (lv' := [(1, .int x_3), (4, .int z_38), (3, .int z_25), (0, .ref a), (2, .int x_4)]) hx hb dX12_liar_113 rfl hl (by decide) rfl (fun ls hl => ?_)
            obtain ⟨z_40, ez_40⟩ : ∃ y : Int32, y = x_4 + 1 := ⟨_, rfl⟩
            replace hF := q_letX hF ez_40
            refine lv_iinc (v := z_40) (lv' := [(2, .int z_40), (1, .int x_3), (4, .int z_38), (3, .int z_25), (0, .ref a)]) hx hb dX12_liar_114 hl (k := 4) rfl (by rw [ez_40]; rfl) (by decide) rfl (fun ls hl => ?_)
            have iz_40 : z_40.toInt = x_4.toInt + 1 := q_inc ez_40 (by first | (clear hm14 gc_7_f_6 c_12 if_15 if_18 kc_22 iz_21 if_23 kc_27 iz_26 if_28 kc_30 iz_29 if_31 kc_35 if_36 gc_39_z_25 gc_39_z_38 c_39; omega) | omega)
            refine lv_goto (tgt := 14) hx hb dX12_liar_117 (by decide) ?_
            exact ih14 x_3 z_40 _ _ ls (by first | (clear gc_7_f_6 c_12 if_15 if_18 kc_22 iz_21 if_23 kc_27 iz_26 if_28 kc_30 iz_29 if_31 kc_35 if_36 gc_39_z_25 gc_39_z_38 c_39; omega) | omega) (by first | (clear hh hm14 gc_7_f_6 c_7 if_15 if_18 kc_22 if_23 kc_27 if_28 kc_30 if_31 kc_35 if_36 gc_39_z_25 gc_39_z_38 c_39; omega) | omega) hF hI (lv_sub hl [4, 1, 0] rfl)
          · skip
            replace hF := q_ifp hF c_39
            refine lv_iload_n hx hb dX12_liar_108 rfl (lv_at hl 4 rfl) ?_
            refine lv_goto (tgt := 113) hx hb dX12_liar_109 (by decide) ?_
            refine lv_istore_n (lv' := [(1, .int x_4), (4, .int z_38), (3, .int z_25), (0, .ref a), (2, .int x_4)]) hx hb dX12_liar_113 rfl hl (by decide) rfl (fun ls hl => ?_)
            obtain ⟨z_41, ez_41⟩ : ∃ y : Int32, y = x_4 + 1 := ⟨_, rfl⟩
            replace hF := q_letX hF ez_41
            refine lv_iinc (v := z_41) (lv' := [(2, .int z_41), (1, .int x_4), (4, .int z_38), (3, .int z_25), (0, .ref a)]) hx hb dX12_liar_114 hl (k := 4) rfl (by rw [ez_41]; rfl) (by decide) rfl (fun ls hl => ?_)
            have iz_41 : z_41.toInt = x_4.toInt + 1 := q_inc ez_41 (by first | (clear hm14 gc_7_f_6 c_12 if_15 if_18 kc_22 iz_21 if_23 kc_27 iz_26 if_28 kc_30 iz_29 if_31 kc_35 if_36 gc_39_z_25 gc_39_z_38 c_39; omega) | omega)
            refine lv_goto (tgt := 14) hx hb dX12_liar_117 (by decide) ?_
            exact ih14 x_4 z_41 _ _ ls (by first | (clear gc_7_f_6 c_12 if_15 if_18 kc_22 iz_21 if_23 kc_27 iz_26 if_28 kc_30 iz_29 if_31 kc_35 if_36 gc_39_z_25 gc_39_z_38 c_39; omega) | omega) (by first | (clear hh hm14 gc_7_f_6 c_12 if_15 if_18 kc_22 iz_21 if_23 kc_27 iz_26 if_28 kc_30 iz_29 if_31 kc_35 if_36 gc_39_z_25 gc_39_z_38 c_39; omega) | omega) hF hI (lv_sub hl [4, 1, 0] rfl)
        · skip
          replace hF := q_ifp hF c_12
          refine lv_iload_n hx hb dX12_liar_28 rfl (lv_at hl 2 rfl) ?_
          refine lv_istore_n (lv' := [(1, .int x_4), (0, .ref a), (2, .int x_4)]) hx hb dX12_liar_29 rfl hl (by decide) rfl (fun ls hl => ?_)
          refine lv_goto (tgt := 114) hx hb dX12_liar_30 (by decide) ?_
          obtain ⟨z_42, ez_42⟩ : ∃ y : Int32, y = x_4 + 1 := ⟨_, rfl⟩
          replace hF := q_letX hF ez_42
          refine lv_iinc (v := z_42) (lv' := [(2, .int z_42), (1, .int x_4), (0, .ref a)]) hx hb dX12_liar_114 hl (k := 2) rfl (by rw [ez_42]; rfl) (by decide) rfl (fun ls hl => ?_)
          have iz_42 : z_42.toInt = x_4.toInt + 1 := q_inc ez_42 (by omega)
          refine lv_goto (tgt := 14) hx hb dX12_liar_117 (by decide) ?_
          exact ih14 x_4 z_42 _ _ ls (by omega) (by omega) hF hI (lv_sub hl [2, 1, 0] rfl)
  have kc_43 : ((-1) : Int32).toInt = (-1) := zt_m1
  have kc_44 : (0 : Int32).toInt = 0 := zt_0
  exact L_14_5 ((2147483647 - (0 : Int32).toInt).toNat + 1) (-1) 0 _ _ ls (Nat.lt_succ_self _) (by have q : (0 : Int32).toInt = 0 := rfl; have q1 : ((-1) : Int32).toInt = -1 := rfl; omega) hF hI (lv_sub hl [2, 1, 0] rfl)

set_option maxRecDepth 100000 in
set_option maxHeartbeats 4000000 in
theorem c_X12_played (l : Launch) (X : XW) (σ : ST) (a : Nat) (v1 : Int32) (ha : q_kd X a = 12) (hG : m_G (m_c X σ a)) : Met l yX12_played (q_ws yX12_played cX12_played 2 (some .int)) (q_rm 1 25) (q_P X σ [.ref a, .int v1]) (q_Qi X 8 σ (fun (r : Int32) (σ' : ST) => (r, σ') = F_X12_played X σ a v1 ∧ q_ow [(12, 0), (12, 1)] [] X σ σ')) 0 0 (q_reg X) := by
  refine q_met 8 (by first | exact rfl | decide +kernel) rfl (Nat.le_of_ble_eq_true rfl) (fun p e s m below meth c E hml hr hlk hI ls hl => ?_)
  have hx := E.1
  have hb := E.2.1
  have hl : lv_has ls 2 [(0, .ref a), (1, .int v1)] := hl
  have feσ : m_c X σ a = m_c X σ a := rfl
  have fr_σ : q_ow [(12, 0), (12, 1)] [] X σ σ := q_ow.rf
  have hh := hG.hd
  obtain ⟨out, hout⟩ : ∃ o, o = F_X12_played X σ a v1 := ⟨_, rfl⟩
  have hF := hout.symm
  unfold F_X12_played at hF
  refine lv_aload_n hx hb dX12_played_0 rfl (lv_at hl 0 rfl) ?_
  refine lv_iconst (v := 0) hx hb dX12_played_1 zki_0 ?_
  refine ps_X12_59_12 E hI ha (by decide) dX12_played_2 (fun H locs σ_1 hσ_1 hI => ?_)
  replace hF := q_letX hF hσ_1
  have fr_σ_1 := fr_σ.si hσ_1 ha rfl
  have mcσ_1 := m_wo hσ_1 (m_ne ha (q_tk (f := 20) (k' := 34) hI ha rfl (by decide)) (by decide))
  have feσ_1 : m_c X σ_1 a = m_c X σ a := (funext mcσ_1).trans feσ
  refine lv_aload_n hx hb dX12_played_5 rfl (lv_at hl 0 rfl) ?_
  refine lv_iconst (v := 0) hx hb dX12_played_6 zki_0 ?_
  refine ps_X12_62_12 E hI ha (by decide) dX12_played_7 (fun H locs σ_2 hσ_2 hI => ?_)
  replace hF := q_letX hF hσ_2
  have fr_σ_2 := fr_σ_1.si hσ_2 ha rfl
  have mcσ_2 := m_wo hσ_2 (m_ne ha (q_tk (f := 20) (k' := 34) hI ha rfl (by decide)) (by decide))
  have feσ_2 : m_c X σ_2 a = m_c X σ a := (funext mcσ_2).trans feσ_1
  refine lv_iload_n hx hb dX12_played_10 rfl (lv_at hl 1 rfl) ?_
  refine lv_i2l hx hb dX12_played_11 rfl ?_
  refine lv_topl (fun y_3 ey_3 => ?_)
  replace hF := q_letX hF ey_3
  have ggy_3 := q_rng v1
  have iy_3 : y_3.toInt = v1.toInt := by rw [ey_3]; exact (q_i2l _).trans rfl
  refine lv_lconst (v := 0) hx hb dX12_played_12 (by decide) ?_
  refine lv_ldc2 (v := 4) hx hb E.2.2.1 (E.2.2.2.1 _ (q_in_t9 (i := 124) (by first | rfl | decide +kernel) rfl)) dX12_played_13 ?_
  have kc_4 : (0 : Int64).toInt = 0 := rfl
  have kc_5 : (4 : Int64).toInt = 4 := rfl
  refine q_ci (q_runS (As := [.long y_3, .long 0, .long 4]) (rest := []) E (hml.trans hl.1.symm) hI (c_X12_isIn l X σ_2 y_3 (0 : Int64) (4 : Int64)) ks_X12_94 rfl ⟨Nat.le_of_ble_eq_true rfl, Nat.le_of_ble_eq_true rfl⟩ ⟨Nat.le_refl _, Nat.le_refl _⟩ rfl (Nat.le_of_ble_eq_true rfl) dX12_played_16) hI (Nat.le_of_ble_eq_true rfl) (fun r_6 σ_7 H locs hpσ_7 hkσ_7 hI => ?_)
  have ahpσ_7 := hpσ_7.1
  have bhpσ_7 := hpσ_7.2.1
  have chpσ_7 := hpσ_7.2.2.1
  have dhpσ_7 := hpσ_7.2.2.2
  clear hpσ_7
  replace hI := q_Irw ahpσ_7 hI
  replace hF := q_letX hF dhpσ_7
  refine q_if_ne (A := r_6.toInt) E rfl (tgt := 28) dX12_played_19 (by decide) (fun c_8 => ?_) (fun c_8 => ?_)
  · skip
    replace hF := q_ifn hF c_8
    replace c_8 := q_ifOne bhpσ_7 c_8
    replace chpσ_7 := q_ifYes chpσ_7 c_8
    refine lv_aload_n hx hb dX12_played_28 rfl (lv_at hl 0 rfl) ?_
    refine gs_X12_446_12 E hI ha dX12_played_29 ?_
    refine lv_topi (fun f_9 ef_9 => ?_)
    replace hF := q_letX hF ef_9
    have if_9 : f_9.toInt = (σ_2.1 a 37).toInt := congrArg Int32.toInt ef_9
    have bf_9 : 0 ≤ f_9.toInt ∧ f_9.toInt ≤ 1 := by rw [ef_9]; exact q_bd hI ha rfl
    refine q_if_eq (A := f_9.toInt) E rfl (tgt := 44) dX12_played_32 (by decide) (fun c_10 => ?_) (fun c_10 => ?_)
    · skip
      replace hF := q_ifp hF c_10
      refine lv_aload_n hx hb dX12_played_44 rfl (lv_at hl 0 rfl) ?_
      refine lv_bipush (v := 8) hx hb dX12_played_45 zkb_8 ?_
      have kc_11 : (8 : Int32).toInt = 8 := zt_8
      refine q_ci (q_rV11_1 (rest := []) E (hml.trans hl.1.symm) hI (c_X12_refuse l X σ_2 a (8 : Int32) ha) kv_X12_284 ha ⟨Nat.le_of_ble_eq_true rfl, Nat.le_of_ble_eq_true rfl⟩ (Nat.le_of_ble_eq_true rfl) dX12_played_47) hI (Nat.le_of_ble_eq_true rfl) (fun r_12 σ_13 H locs hpσ_13 hkσ_13 hI => ?_)
      have ahpσ_13 := hpσ_13.1
      have bhpσ_13 := hpσ_13.2.1
      have chpσ_13 := hpσ_13.2.2
      clear hpσ_13
      have fr_σ_13 := fr_σ_2.call chpσ_13 rfl rfl
      replace hF := q_biX hF bhpσ_13
      have mcσ_13 := m_cK hkσ_13 hI.1 ha (by decide)
      have feσ_13 : m_c X σ_13 a = m_c X σ a := (funext mcσ_13).trans feσ_2
      exact q_reti E hr hlk hI ⟨(hF.trans hout), fr_σ_13⟩ dX12_played_50
    · skip
      replace hF := q_ifn hF c_10
      refine lv_aload_n hx hb dX12_played_35 rfl (lv_at hl 0 rfl) ?_
      refine gs_X12_56_12 E hI ha dX12_played_36 ?_
      refine lv_iload_n hx hb dX12_played_39 rfl (lv_at hl 1 rfl) ?_
      refine q_iald E hI (q_tk (k' := 41) hI ha rfl (Nat.succ_ne_zero _)) ⟨by decide, rfl⟩ (by first | (clear hh kc_5 ahpσ_7 bhpσ_7 dhpσ_7 c_8 if_9 bf_9 c_10; omega) | omega) (by rw [q_lnk (v := 5) hI (q_tk (k' := 41) hI ha rfl (Nat.succ_ne_zero _)) rfl (by decide)]; omega) dX12_played_40 ?_
      refine lv_topi (fun f_14 ef_14 => ?_)
      replace hF := q_letX hF ef_14
      refine lv_goto (tgt := 50) hx hb dX12_played_41 (by decide) ?_
      exact q_reti E hr hlk hI ⟨(hF.trans hout), fr_σ_2⟩ dX12_played_50
  · skip
    replace hF := q_ifp hF c_8
    replace chpσ_7 := q_ifNo chpσ_7 c_8
    refine lv_aload_n hx hb dX12_played_22 rfl (lv_at hl 0 rfl) ?_
    refine lv_iconst (v := 5) hx hb dX12_played_23 zki_5 ?_
    have kc_15 : (5 : Int32).toInt = 5 := zt_5
    refine q_ci (q_rV11_1 (rest := []) E (hml.trans hl.1.symm) hI (c_X12_refuse l X σ_2 a (5 : Int32) ha) kv_X12_284 ha ⟨Nat.le_of_ble_eq_true rfl, Nat.le_of_ble_eq_true rfl⟩ (Nat.le_of_ble_eq_true rfl) dX12_played_24) hI (Nat.le_of_ble_eq_true rfl) (fun r_16 σ_17 H locs hpσ_17 hkσ_17 hI => ?_)
    have ahpσ_17 := hpσ_17.1
    have bhpσ_17 := hpσ_17.2.1
    have chpσ_17 := hpσ_17.2.2
    clear hpσ_17
    have fr_σ_17 := fr_σ_2.call chpσ_17 rfl rfl
    replace hF := q_biX hF bhpσ_17
    have mcσ_17 := m_cK hkσ_17 hI.1 ha (by decide)
    have feσ_17 : m_c X σ_17 a = m_c X σ a := (funext mcσ_17).trans feσ_2
    exact q_reti E hr hlk hI ⟨(hF.trans hout), fr_σ_17⟩ dX12_played_27

set_option maxRecDepth 100000 in
set_option maxHeartbeats 4000000 in
theorem c_X12_draw (l : Launch) (X : XW) (σ : ST) (a : Nat) (ha : q_kd X a = 12) : Met l yX12_draw (q_ws yX12_draw cX12_draw 1 (some .int)) (q_rm 0 0) (q_P X σ [.ref a]) (q_Qi X 8 σ (fun (r : Int32) (σ' : ST) => (q_KS (fun b g => b = a ∧ g = 39) 9 X σ σ') ∧ (r, σ') = F_X12_draw X σ a ∧ q_ow [(12, 39)] [] X σ σ')) 0 0 (q_reg X) := by
  refine q_met 8 (by first | exact rfl | decide +kernel) rfl (Nat.le_of_ble_eq_true rfl) (fun p e s m below meth c E hml hr hlk hI ls hl => ?_)
  have hx := E.1
  have hb := E.2.1
  have hl : lv_has ls 1 [(0, .ref a)] := hl
  have ks_σ : q_KS (fun b g => b = a ∧ g = 39) 9 X σ σ := q_KS.rf
  have fr_σ : q_ow [(12, 39)] [] X σ σ := q_ow.rf
  obtain ⟨out, hout⟩ : ∃ o, o = F_X12_draw X σ a := ⟨_, rfl⟩
  have hF := hout.symm
  unfold F_X12_draw at hF
  refine lv_aload_n hx hb dX12_draw_0 rfl (lv_at hl 0 rfl) ?_
  refine lv_aload_n hx hb dX12_draw_1 rfl (lv_at hl 0 rfl) ?_
  refine gs_X12_395_12 E hI ha dX12_draw_2 ?_
  refine lv_topi (fun f_1 ef_1 => ?_)
  replace hF := q_letX hF ef_1
  refine lv_sipush (v := 2861) hx hb dX12_draw_5 zks_2861 ?_
  refine lv_imul hx hb dX12_draw_8 ?_
  refine lv_topi (fun z_2 ez_2 => ?_)
  replace hF := q_letX hF ez_2
  refine lv_sipush (v := 10259) hx hb dX12_draw_9 zks_10259 ?_
  refine lv_iadd hx hb dX12_draw_12 ?_
  refine lv_topi (fun z_3 ez_3 => ?_)
  replace hF := q_letX hF ez_3
  refine lv_ldcw (v := 65536) hx hb E.2.2.1 (E.2.2.2.1 _ (q_in_t9 (i := 174) (by first | rfl | decide +kernel) rfl)) dX12_draw_13 ?_
  refine lv_irem hx hb dX12_draw_16 (by decide) ?_
  refine lv_topi (fun z_4 ez_4 => ?_)
  replace hF := q_letX hF (ez_4.trans (q_remI _ _))
  refine ps_X12_395_12 E hI ha (by decide) dX12_draw_17 (fun H locs σ_5 hσ_5 hI => ?_)
  replace hF := q_letX hF hσ_5
  have fr_σ_5 := fr_σ.si hσ_5 ha rfl
  have ks_σ_5 : q_KS (fun b g => b = a ∧ g = 39) 9 X σ σ_5 := ks_σ.siS hσ_5 ⟨rfl, rfl⟩
  refine lv_aload_n hx hb dX12_draw_20 rfl (lv_at hl 0 rfl) ?_
  refine gs_X12_395_12 E hI ha dX12_draw_21 ?_
  refine lv_topi (fun f_6 ef_6 => ?_)
  replace hF := q_letX hF ef_6
  refine lv_bipush (v := 8) hx hb dX12_draw_24 zkb_8 ?_
  refine lv_idiv hx hb dX12_draw_26 (by decide) ?_
  refine lv_topi (fun z_7 ez_7 => ?_)
  replace hF := q_letX hF ez_7
  refine lv_bipush (v := 16) hx hb dX12_draw_27 zkb_16 ?_
  refine lv_irem hx hb dX12_draw_29 (by decide) ?_
  refine lv_topi (fun z_8 ez_8 => ?_)
  replace hF := q_letX hF (ez_8.trans (q_remI _ _))
  exact q_reti E hr hlk hI ⟨ks_σ_5, (hF.trans hout), fr_σ_5⟩ dX12_draw_30
end
/-! FROM 43z.more.lean.txt -/
section
theorem m_ok.pos {c : Int → Int} {p b k : Int} (h : m_ok c p b k) (hb : 0 ≤ b) : b < k ∧ b ≠ c 5 ∧ 1 ≤ c (34 + 10 * p + b) := by
  rcases h with ⟨h1, _⟩ | ⟨_, h2, h3, h4⟩
  · omega
  · exact ⟨h2, h3, h4⟩
/-- below 0 the table's place is the first -/
theorem m_c_ext {X : XW} {σ σ' : ST} {a : Nat} (h : ∀ j : Int, 0 ≤ j → m_c X σ' a j = m_c X σ a j) : m_c X σ' a = m_c X σ a := by
  funext j
  by_cases q : 0 ≤ j
  · exact h j q
  · have e : ∀ τ : ST, m_c X τ a j = m_c X τ a 0 := by
      intro τ
      unfold m_c
      have z : j.toNat = (0 : Int).toNat := by
        show j.toNat = 0
        omega
      rw [z]
    rw [e, e]
    exact h 0 (Int.le_refl _)
/-- the table and its marks -/
def m_M (c : Int → Int) (k n : Int) : Prop := (m_G c ∧ m_W c n) ∧ ∀ b : Int, 1 ≤ b → b ≤ k → m_G (fun j => c (930 * b + j)) ∧ m_W (fun j => c (930 * b + j)) n
theorem m_M.up {c c' : Int → Int} {k k' n n' : Int} (h : m_M c k n) (g : m_G c') (w : m_W c' n') (e : ∀ j : Int, 930 ≤ j → j < 3720 → c' j = c j) (hk : k ≤ 3) (hk' : k' ≤ k) (hn : n ≤ n') : m_M c' k' n' := by
  refine ⟨⟨g, w⟩, fun b h0 h1 => ?_⟩
  have z := h.2 b h0 (by omega)
  exact ⟨z.1.ext (fun j a0 a1 => e _ (by omega) (by omega)), m_W.le (m_W.ext (c := fun j => c (930 * b + j)) (c' := fun j => c' (930 * b + j)) (fun j a0 a1 => e _ (by omega) (by omega)) z.2) hn⟩
theorem m_M.mark {c c' : Int → Int} {k n w z : Int} (h : m_M c k n) (hk : 0 ≤ k ∧ k ≤ 2) (hw : w = 0) (hz : z = k + 1) (e : ∀ j : Int, 0 ≤ j → c' j = if 930 * z ≤ j ∧ j < 930 * z + 930 then c (930 * w + (j - 930 * z)) else c j) : m_M c' (k + 1) n := by
  subst hw
  subst hz
  have o : ∀ j : Int, 0 ≤ j → ¬ (930 * (k + 1) ≤ j ∧ j < 930 * (k + 1) + 930) → c' j = c j := fun j a b => by rw [e j a, if_neg b]
  refine ⟨⟨h.1.1.ext (fun j a0 a1 => o j a0 (by omega)), m_W.ext (fun j a0 a1 => o j (by omega) (by omega)) h.1.2⟩, fun b h0 h1 => ?_⟩
  by_cases q : b = k + 1
  · subst q
    have f : ∀ j : Int, 0 ≤ j → j < 930 → c' (930 * (k + 1) + j) = c j := by
      intro j a0 a1
      rw [e _ (by omega), if_pos (by omega)]
      have y : (930 : Int) * 0 + (930 * (k + 1) + j - 930 * (k + 1)) = j := by omega
      rw [y]
    exact ⟨h.1.1.ext (c' := fun j => c' (930 * (k + 1) + j)) (fun j a0 a1 => f j a0 a1), m_W.ext (c' := fun j => c' (930 * (k + 1) + j)) (fun j a0 a1 => f j (by omega) (by omega)) h.1.2⟩
  · have y := h.2 b h0 (by omega)
    exact ⟨y.1.ext (c' := fun j => c' (930 * b + j)) (fun j a0 a1 => o _ (by omega) (by omega)), m_W.ext (c' := fun j => c' (930 * b + j)) (fun j a0 a1 => o _ (by omega) (by omega)) y.2⟩
theorem m_M.back {c c' : Int → Int} {k n w z : Int} (h : m_M c k n) (hk : 1 ≤ k ∧ k ≤ 3) (hw : w = k) (hz : z = 0) (e : ∀ j : Int, 0 ≤ j → c' j = if 930 * z ≤ j ∧ j < 930 * z + 930 then c (930 * w + (j - 930 * z)) else c j) : m_M c' (k - 1) n := by
  subst hw
  subst hz
  have f : ∀ j : Int, 0 ≤ j → j < 930 → c' j = c (930 * w + j) := by
    intro j a0 a1
    rw [e j a0, if_pos (by omega)]
    have y : (930 : Int) * w + (j - 930 * 0) = 930 * w + j := by omega
    rw [y]
  have o : ∀ j : Int, 930 ≤ j → c' j = c j := fun j a => by rw [e j (by omega), if_neg (by omega)]
  have y := h.2 w hk.1 (Int.le_refl _)
  refine ⟨⟨y.1.ext f, m_W.ext (fun j a0 a1 => f j (by omega) (by omega)) y.2⟩, fun b h0 h1 => ?_⟩
  have x := h.2 b h0 (by omega)
  exact ⟨x.1.ext (c' := fun j => c' (930 * b + j)) (fun j a0 a1 => o _ (by omega)), m_W.ext (c' := fun j => c' (930 * b + j)) (fun j a0 a1 => o _ (by omega)) x.2⟩
theorem m_KD.draw {X : XW} {σ τ τ' : ST} {a : Nat} (h : m_KD 40 X σ τ) (k : q_KS (fun b g => b = a ∧ g = 39) 9 X τ τ') (ha : q_kd X a = 12) : m_KD 40 X σ τ' := by
  intro b g q
  have w : ¬ (b = a ∧ g = 39) := by
    rintro ⟨h1, h2⟩
    subst h1
    subst h2
    rcases q with q | q
    · rw [ha] at q
      exact absurd q (by decide)
    · exact absurd q.2 (by decide)
  exact (k b g (q_cl9 _ _) w).trans (h b g q)
end
/-! FROM 44.moves.a.lean.txt -/
section
section QS
variable {p : Program} {l : Launch} {e : Env} {R : Room} {s : State} {m : MethodId} {args : Array Value} {below : List Frame} {meth : Method} {c : Code} {H : Heap} {locs : List Loc} {cells slots : Nat} {Q : State → Prop} {cc : ByteArray} {X : XW} {n : Nat} {σ0 σ : ST} {H0 : Heap} {pc : Nat} {ls : Array Slot} {rest : List Value} {a : Nat}
theorem kv_X12_325 : q_okV RX12 325 RX12 yX12_takes cX12_takes 5 none 1 := ⟨(q_in_t8 (i := 216) (by first | rfl | decide +kernel) rfl), (q_in_t8 (i := 218) (by first | rfl | decide +kernel) rfl), (q_in_p (i := 93) (by decide +kernel) rfl), (q_in_t1 (i := 14) (by first | rfl | decide +kernel) rfl), (q_in_t8 (i := 219) (by first | rfl | decide +kernel) rfl), ⟨rfl, by decide, by decide, rfl⟩⟩
theorem kv_X12_322 : q_okV RX12 322 RX12 yX12_leaves cX12_leaves 2 none 0 := ⟨(q_in_t8 (i := 196) (by first | rfl | decide +kernel) rfl), (q_in_t8 (i := 198) (by first | rfl | decide +kernel) rfl), (q_in_p (i := 89) (by decide +kernel) rfl), (q_in_t1 (i := 14) (by first | rfl | decide +kernel) rfl), (q_in_t8 (i := 199) (by first | rfl | decide +kernel) rfl), ⟨rfl, by decide, by decide, rfl⟩⟩
theorem kv_X12_328 : q_okV RX12 328 RX12 yX12_doubts cX12_doubts 4 (some .int) 1 := ⟨(q_in_t8 (i := 212) (by first | rfl | decide +kernel) rfl), (q_in_t8 (i := 214) (by first | rfl | decide +kernel) rfl), (q_in_p (i := 92) (by decide +kernel) rfl), (q_in_t1 (i := 14) (by first | rfl | decide +kernel) rfl), (q_in_t8 (i := 215) (by first | rfl | decide +kernel) rfl), ⟨rfl, by decide, by decide, rfl⟩⟩
theorem gs_X12_50_12 (E : q_E p c cc s m args RX12 X) (hI : q_I X n σ0 H0 locs σ H) (ha : q_kd X a = 12) (hdg : decode cc pc = .ok (.getfield 50, 3)) (kk : W p l e R s m args below meth c H locs cells slots Q (F0 m (pc + 3) ls (.ref (q_rf X a 29) :: rest))) : W p l e R s m args below meth c H locs cells slots Q (F0 m pc ls (.ref a :: rest)) :=
  q_getf (ref := "CheatHeapModel") E hI ha ⟨rfl, by decide⟩ (show vwCl[11]? = some (RX12, TX12, 46) from rfl) q_inX12 (f := 29) (by decide) (q_in_t7 (i := 14) (by first | rfl | decide +kernel) rfl) (Or.inl rfl) rfl hdg kk
theorem gs_X12_47_12 (E : q_E p c cc s m args RX12 X) (hI : q_I X n σ0 H0 locs σ H) (ha : q_kd X a = 12) (hdg : decode cc pc = .ok (.getfield 47, 3)) (kk : W p l e R s m args below meth c H locs cells slots Q (F0 m (pc + 3) ls (.ref (q_rf X a 28) :: rest))) : W p l e R s m args below meth c H locs cells slots Q (F0 m pc ls (.ref a :: rest)) :=
  q_getf (ref := "CheatHeapModel") E hI ha ⟨rfl, by decide⟩ (show vwCl[11]? = some (RX12, TX12, 46) from rfl) q_inX12 (f := 28) (by decide) (q_in_t7 (i := 13) (by first | rfl | decide +kernel) rfl) (Or.inl rfl) rfl hdg kk
theorem kv_X12_311 : q_okV RX12 311 RX12 yX12_laysDown cX12_laysDown 7 none 2 := ⟨(q_in_t8 (i := 188) (by first | rfl | decide +kernel) rfl), (q_in_t8 (i := 190) (by first | rfl | decide +kernel) rfl), (q_in_p (i := 88) (by decide +kernel) rfl), (q_in_t1 (i := 14) (by first | rfl | decide +kernel) rfl), (q_in_t8 (i := 191) (by first | rfl | decide +kernel) rfl), ⟨rfl, by decide, by decide, rfl⟩⟩
end QS
end
