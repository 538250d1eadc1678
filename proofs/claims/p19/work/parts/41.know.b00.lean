/-! FROM 41.know.b00.lean.txt -/
section
set_option maxRecDepth 100000 in
set_option maxHeartbeats 4000000 in
theorem c_X12_knownOf (l : Launch) (X : XW) (σ : ST) (a : Nat) (v1 : Int32) (v2 : Int32) (ha : q_kd X a = 12) (hG : m_G (m_c X σ a)) (h0 : 0 ≤ v1.toInt ∧ v1.toInt ≤ 5) (h1 : 0 ≤ v2.toInt ∧ v2.toInt ≤ 9) : Met l yX12_knownOf (q_ws yX12_knownOf cX12_knownOf 3 (some .int)) (q_rm 2 46) (q_P X σ [.ref a, .int v1, .int v2]) (q_Qi X 9 σ (fun (r : Int32) (σ' : ST) => σ' = σ ∧ (r.toInt = m_c X σ a (34 + 10 * v1.toInt + v2.toInt) + m_A (m_c X σ a) v1.toInt v2.toInt (m_c X σ a 9).toNat) ∧ r = F_X12_knownOf X σ a v1 v2)) 0 0 (q_reg X) := by
  refine q_met 9 (by first | exact rfl | decide +kernel) rfl (Nat.le_of_ble_eq_true rfl) (fun p e s m below meth c E hml hr hlk hI ls hl => ?_)
  have hx := E.1
  have hb := E.2.1
  have hl : lv_has ls 3 [(0, .ref a), (1, .int v1), (2, .int v2)] := hl
  have hh := hG.hd
  obtain ⟨out, hout⟩ : ∃ o, o = F_X12_knownOf X σ a v1 v2 := ⟨_, rfl⟩
  have hF := hout.symm
  unfold F_X12_knownOf at hF
  refine lv_aload_n hx hb dX12_knownOf_0 rfl (lv_at hl 0 rfl) ?_
  refine lv_iload_n hx hb dX12_knownOf_1 rfl (lv_at hl 1 rfl) ?_
  refine lv_iload_n hx hb dX12_knownOf_2 rfl (lv_at hl 2 rfl) ?_
  refine q_ci (q_runV (As := [.int v1, .int v2]) (rest := []) E (hml.trans hl.1.symm) hI (c_X12_handOf l X σ a v1 v2 ha (by omega) (by omega)) kv_X12_276 ha ⟨rfl, by decide⟩ (show vwCl[11]? = some (RX12, TX12, 46) from rfl) rfl ⟨Nat.le_of_ble_eq_true rfl, Nat.le_of_ble_eq_true rfl⟩ ⟨Nat.le_refl _, Nat.le_refl _⟩ rfl (Nat.le_of_ble_eq_true rfl) dX12_knownOf_3) hI (by decide) (fun r_1 σ_2 H locs hpσ_2 hkσ_2 hI => ?_)
  obtain ⟨ahpσ_2, bhpσ_2, chpσ_2⟩ := hpσ_2
  rw [ahpσ_2] at hI
  replace hF := q_letX hF chpσ_2
  have ir_1 : r_1.toInt = (m_c X σ a (34 + 10 * v1.toInt + v2.toInt)) := (by first | exact bhpσ_2 | (rw [bhpσ_2]) | (simp only [bhpσ_2]))
  have hbr_1 := hG.h80 (p := v1.toInt) (k := v2.toInt) (by first | (clear h0 h1 hh ahpσ_2 bhpσ_2 chpσ_2 ir_1; omega) | omega) (by first | (clear h0 h1 hh ahpσ_2 bhpσ_2 chpσ_2 ir_1; omega) | omega) (by first | (clear h0 h1 hh ahpσ_2 bhpσ_2 chpσ_2 ir_1; omega) | omega) (by first | (clear h0 h1 hh ahpσ_2 bhpσ_2 chpσ_2 ir_1; omega) | omega)
  refine lv_aload_n hx hb dX12_knownOf_6 rfl (lv_at hl 0 rfl) ?_
  refine lv_iload_n hx hb dX12_knownOf_7 rfl (lv_at hl 1 rfl) ?_
  refine lv_iload_n hx hb dX12_knownOf_8 rfl (lv_at hl 2 rfl) ?_
  refine q_ci (q_runV (As := [.int v1, .int v2]) (rest := [.int r_1]) E (hml.trans hl.1.symm) hI (c_X12_laidOf l X σ a v1 v2 ha hG) kv_X12_296 ha ⟨rfl, by decide⟩ (show vwCl[11]? = some (RX12, TX12, 46) from rfl) rfl ⟨Nat.le_of_ble_eq_true rfl, Nat.le_of_ble_eq_true rfl⟩ ⟨Nat.le_refl _, Nat.le_refl _⟩ rfl (Nat.le_of_ble_eq_true rfl) dX12_knownOf_9) hI (by decide) (fun r_3 σ_4 H locs hpσ_4 hkσ_4 hI => ?_)
  obtain ⟨ahpσ_4, bhpσ_4, chpσ_4, dhpσ_4⟩ := hpσ_4
  rw [ahpσ_4] at hI
  replace hF := q_letX hF dhpσ_4
  have ir_3 : r_3.toInt = (m_A (m_c X σ a) v1.toInt v2.toInt (m_c X σ a 9).toNat) := (by first | exact bhpσ_4 | (rw [bhpσ_4]) | (simp only [bhpσ_4]))
  refine lv_iadd hx hb dX12_knownOf_12 ?_
  refine lv_topi (fun z_5 ez_5 => ?_)
  replace hF := q_letX hF ez_5
  have iz_5 := q_addI (A := (m_c X σ a (34 + 10 * v1.toInt + v2.toInt))) (B := (m_A (m_c X σ a) v1.toInt v2.toInt (m_c X σ a 9).toNat)) ez_5 ir_1 ir_3 (by first | (clear h0 h1 hh ahpσ_2 bhpσ_2 chpσ_2 ir_1 ahpσ_4 dhpσ_4 ir_3; omega) | omega) (by first | (clear h0 h1 hh ahpσ_2 bhpσ_2 chpσ_2 ir_1 ahpσ_4 dhpσ_4 ir_3; omega) | omega)
  exact q_reti E hr hlk hI ⟨rfl, (by omega), (hF.trans hout)⟩ dX12_knownOf_13

set_option maxRecDepth 100000 in
set_option maxHeartbeats 4000000 in
theorem c_X12_unknownOf (l : Launch) (X : XW) (σ : ST) (a : Nat) (v1 : Int32) (v2 : Int32) (ha : q_kd X a = 12) (hG : m_G (m_c X σ a)) (h0 : 0 ≤ v1.toInt ∧ v1.toInt < m_c X σ a 2) (h1 : 0 ≤ v2.toInt ∧ v2.toInt ≤ 9) : Met l yX12_unknownOf (q_ws yX12_unknownOf cX12_unknownOf 3 (some .int)) (q_rm 3 69) (q_P X σ [.ref a, .int v1, .int v2]) (q_Qi X 9 σ (fun (r : Int32) (σ' : ST) => σ' = σ ∧ (r.toInt = m_U (m_c X σ a) v1.toInt v2.toInt) ∧ (0 ≤ r.toInt ∧ r.toInt ≤ 80) ∧ r = F_X12_unknownOf X σ a v1 v2)) 0 0 (q_reg X) := by
  refine q_met 9 (by first | exact rfl | decide +kernel) rfl (Nat.le_of_ble_eq_true rfl) (fun p e s m below meth c E hml hr hlk hI ls hl => ?_)
  have hx := E.1
  have hb := E.2.1
  have hl : lv_has ls 3 [(0, .ref a), (1, .int v1), (2, .int v2)] := hl
  have hh := hG.hd
  have ub := hG.U_bd (p := v1.toInt) (k := v2.toInt) (by first | (clear h0 h1 hh; omega) | omega) (by first | (clear h0 h1 hh; omega) | omega) (by first | (clear h0 h1 hh; omega) | omega) (by first | (clear h0 h1 hh; omega) | omega)
  have ib := hG.I_bd (k := v2.toInt) (by first | (clear h0 h1 hh ub; omega) | omega) (by first | (clear h0 h1 hh ub; omega) | omega)
  unfold m_U at ub
  obtain ⟨out, hout⟩ : ∃ o, o = F_X12_unknownOf X σ a v1 v2 := ⟨_, rfl⟩
  have hF := hout.symm
  unfold F_X12_unknownOf at hF
  refine lv_aload_n hx hb dX12_unknownOf_0 rfl (lv_at hl 0 rfl) ?_
  refine lv_iload_n hx hb dX12_unknownOf_1 rfl (lv_at hl 2 rfl) ?_
  refine q_ci (q_runV (As := [.int v2]) (rest := []) E (hml.trans hl.1.symm) hI (c_X12_inGameOf l X σ a v2 ha hG (by omega)) kv_X12_302 ha ⟨rfl, by decide⟩ (show vwCl[11]? = some (RX12, TX12, 46) from rfl) rfl ⟨Nat.le_of_ble_eq_true rfl, Nat.le_of_ble_eq_true rfl⟩ ⟨Nat.le_refl _, Nat.le_refl _⟩ rfl (Nat.le_of_ble_eq_true rfl) dX12_unknownOf_2) hI (by decide) (fun r_1 σ_2 H locs hpσ_2 hkσ_2 hI => ?_)
  obtain ⟨ahpσ_2, bhpσ_2, chpσ_2, dhpσ_2⟩ := hpσ_2
  rw [ahpσ_2] at hI
  replace hF := q_letX hF dhpσ_2
  have ir_1 : r_1.toInt = (m_I (m_c X σ a) v2.toInt) := (by first | exact bhpσ_2 | (rw [bhpσ_2]) | (simp only [bhpσ_2]))
  refine lv_aload_n hx hb dX12_unknownOf_5 rfl (lv_at hl 0 rfl) ?_
  refine lv_iload_n hx hb dX12_unknownOf_6 rfl (lv_at hl 1 rfl) ?_
  refine lv_iload_n hx hb dX12_unknownOf_7 rfl (lv_at hl 2 rfl) ?_
  refine q_ci (q_runV (As := [.int v1, .int v2]) (rest := [.int r_1]) E (hml.trans hl.1.symm) hI (c_X12_knownOf l X σ a v1 v2 ha hG (by first | (clear h0 h1 ub ahpσ_2 bhpσ_2 chpσ_2 dhpσ_2 ir_1; omega) | omega) (by omega)) kv_X12_333 ha ⟨rfl, by decide⟩ (show vwCl[11]? = some (RX12, TX12, 46) from rfl) rfl ⟨Nat.le_of_ble_eq_true rfl, Nat.le_of_ble_eq_true rfl⟩ ⟨Nat.le_refl _, Nat.le_refl _⟩ rfl (Nat.le_of_ble_eq_true rfl) dX12_unknownOf_8) hI (by decide) (fun r_3 σ_4 H locs hpσ_4 hkσ_4 hI => ?_)
  obtain ⟨ahpσ_4, bhpσ_4, chpσ_4⟩ := hpσ_4
  rw [ahpσ_4] at hI
  replace hF := q_letX hF chpσ_4
  have ir_3 : r_3.toInt = (m_c X σ a (34 + 10 * v1.toInt + v2.toInt) + m_A (m_c X σ a) v1.toInt v2.toInt (m_c X σ a 9).toNat) := (by first | exact bhpσ_4 | (rw [bhpσ_4]) | (simp only [bhpσ_4]))
  refine lv_isub hx hb dX12_unknownOf_11 ?_
  refine lv_topi (fun z_5 ez_5 => ?_)
  replace hF := q_letX hF ez_5
  have iz_5 := q_subI (A := (m_I (m_c X σ a) v2.toInt)) (B := (m_c X σ a (34 + 10 * v1.toInt + v2.toInt) + m_A (m_c X σ a) v1.toInt v2.toInt (m_c X σ a 9).toNat)) ez_5 ir_1 ir_3 (by first | (clear h0 h1 hh ahpσ_2 chpσ_2 dhpσ_2 ir_1 ahpσ_4 chpσ_4 ir_3; omega) | omega) (by first | (clear h0 h1 hh ahpσ_2 chpσ_2 dhpσ_2 ir_1 ahpσ_4 chpσ_4 ir_3; omega) | omega)
  exact q_reti E hr hlk hI ⟨rfl, (by unfold m_U; omega), (by first | (clear h0 h1 hh ahpσ_2 chpσ_2 dhpσ_2 ir_1 ahpσ_4 chpσ_4 ir_3; omega) | omega), (hF.trans hout)⟩ dX12_unknownOf_12

set_option maxRecDepth 100000 in
set_option maxHeartbeats 4000000 in
theorem c_X12_unknownAll (l : Launch) (X : XW) (σ : ST) (a : Nat) (v1 : Int32) (ha : q_kd X a = 12) (hG : m_G (m_c X σ a)) (h0 : 0 ≤ v1.toInt ∧ v1.toInt < m_c X σ a 2) : Met l yX12_unknownAll (q_ws yX12_unknownAll cX12_unknownAll 4 (some .int)) (q_rm 4 91) (q_P X σ [.ref a, .int v1]) (q_Qi X 9 σ (fun (r : Int32) (σ' : ST) => σ' = σ ∧ (r.toInt = m_V (m_c X σ a) v1.toInt (m_c X σ a 0).toNat) ∧ (0 ≤ r.toInt ∧ r.toInt ≤ 800) ∧ r = F_X12_unknownAll X σ a v1)) 0 0 (q_reg X) := by
  refine q_met 9 (by first | exact rfl | decide +kernel) rfl (Nat.le_of_ble_eq_true rfl) (fun p e s m below meth c E hml hr hlk hI ls hl => ?_)
  have hx := E.1
  have hb := E.2.1
  have hl : lv_has ls 4 [(0, .ref a), (1, .int v1)] := hl
  have hh := hG.hd
  obtain ⟨out, hout⟩ : ∃ o, o = F_X12_unknownAll X σ a v1 := ⟨_, rfl⟩
  have hF := hout.symm
  unfold F_X12_unknownAll at hF
  refine lv_iconst (v := 0) hx hb dX12_unknownAll_0 (by decide) ?_
  refine lv_istore_n (lv' := [(2, .int 0), (0, .ref a), (1, .int v1)]) hx hb dX12_unknownAll_1 rfl hl (by decide) rfl (fun ls hl => ?_)
  refine lv_iconst (v := 0) hx hb dX12_unknownAll_2 (by decide) ?_
  refine lv_istore_n (lv' := [(3, .int 0), (2, .int 0), (0, .ref a), (1, .int v1)]) hx hb dX12_unknownAll_3 rfl hl (by decide) rfl (fun ls hl => ?_)
  have L_4_3 : ∀ (k_3 : Nat) (x_1 : Int32) (x_2 : Int32) (H : Heap) (locs : List Loc) (ls : Array Slot), (2147483647 - x_2.toInt).toNat < k_3 → (0 ≤ x_2.toInt ∧ x_2.toInt ≤ m_c X σ a 0) → (x_1.toInt = m_V (m_c X σ a) v1.toInt x_2.toInt.toNat) → (F_X12_unknownAll_L4_1 X σ a v1 k_3 x_1 x_2 = out) → q_I X 9 σ s.heap locs σ H → lv_has ls 4 [(0, .ref a), (1, .int v1), (2, .int x_1), (3, .int x_2)] → W p l e (q_rm 4 91) s m ([.ref a, .int v1] : List Value).toArray below meth c H locs 0 0 (MQ below (q_Qi X 9 σ (fun (r : Int32) (σ' : ST) => σ' = σ ∧ (r.toInt = m_V (m_c X σ a) v1.toInt (m_c X σ a 0).toNat) ∧ (0 ≤ r.toInt ∧ r.toInt ≤ 800) ∧ r = F_X12_unknownAll X σ a v1)) ([.ref a, .int v1] : List Value).toArray s 0 0 (q_reg X)) (F0 m 4 ls []) := by
    clear hF
    intro k_3
    induction k_3 with
    | zero =>
      intro x_1 x_2 H locs ls hms
      exact absurd hms (Nat.not_lt_zero _)
    | succ k_3 ih4 =>
      intro x_1 x_2 H locs ls hm4 hge4 hs4 hF hI hl
      replace hF := (F_X12_unknownAll_L4_1_s).symm.trans hF
      unfold F_X12_unknownAll_B4_1 at hF
      have sb := hG.V_bd (p := v1.toInt) (by first | (clear h0 hh hm4 hge4 hs4; omega) | omega) (by first | (clear h0 hh hm4 hge4 hs4; omega) | omega) x_2.toInt.toNat (by first | (clear h0 hm4 hs4; omega) | omega)
      have ps := m_V_succ (m_c X σ a) v1.toInt x_2.toInt hge4.1
      refine lv_iload_n hx hb dX12_unknownAll_4 rfl (lv_at hl 3 rfl) ?_
      refine lv_aload_n hx hb dX12_unknownAll_5 rfl (lv_at hl 0 rfl) ?_
      refine gs_X12_35_12 E hI ha dX12_unknownAll_6 ?_
      refine lv_iconst (v := 0) hx hb dX12_unknownAll_9 (by decide) ?_
      refine q_iald E hI (q_tk (k' := 34) hI ha rfl (by decide)) ⟨by decide, rfl⟩ (by decide) (by rw [q_lnk (v := 4650) hI (q_tk (k' := 34) hI ha rfl (by decide)) rfl (by decide)]; decide) dX12_unknownAll_10 ?_
      refine lv_topi (fun f_4 ef_4 => ?_)
      replace hF := q_letX hF ef_4
      have if_4 : f_4.toInt = m_c X σ a 0 := m_rd ef_4 (by decide)
      have gc_5_x_2 := q_rng x_2
      have gc_5_f_4 := q_rng f_4
      refine q_icmp_ge (A := x_2.toInt) (B := f_4.toInt) E rfl rfl (tgt := 29) dX12_unknownAll_11 (by decide) (fun c_5 => ?_) (fun c_5 => ?_)
      · skip
        replace hF := q_ifn hF (Int.not_lt.mpr c_5)
        skip
        refine lv_iload_n hx hb dX12_unknownAll_29 rfl (lv_at hl 2 rfl) ?_
        exact q_reti E hr hlk hI ⟨rfl, (by have q : x_2.toInt = m_c X σ a 0 := (by first | (clear h0 hh hm4 hs4 sb ps gc_5_x_2 gc_5_f_4; omega) | omega); rw [q] at hs4; exact hs4), (by first | (clear h0 hm4 gc_5_x_2 gc_5_f_4; omega) | omega), (hF.trans hout)⟩ dX12_unknownAll_30
      · skip
        replace hF := q_ifp hF c_5
        refine lv_iload_n hx hb dX12_unknownAll_14 rfl (lv_at hl 2 rfl) ?_
        refine lv_aload_n hx hb dX12_unknownAll_15 rfl (lv_at hl 0 rfl) ?_
        refine lv_iload_n hx hb dX12_unknownAll_16 rfl (lv_at hl 1 rfl) ?_
        refine lv_iload_n hx hb dX12_unknownAll_17 rfl (lv_at hl 3 rfl) ?_
        refine q_ci (q_runV (As := [.int v1, .int x_2]) (rest := [.int x_1]) E (hml.trans hl.1.symm) hI (c_X12_unknownOf l X σ a v1 x_2 ha hG (by omega) (by first | (clear h0 hm4 hs4 sb ps gc_5_f_4; omega) | omega)) kv_X12_336 ha ⟨rfl, by decide⟩ (show vwCl[11]? = some (RX12, TX12, 46) from rfl) rfl ⟨Nat.le_of_ble_eq_true rfl, Nat.le_of_ble_eq_true rfl⟩ ⟨Nat.le_refl _, Nat.le_refl _⟩ rfl (Nat.le_of_ble_eq_true rfl) dX12_unknownAll_18) hI (by decide) (fun r_6 σ_7 H locs hpσ_7 hkσ_7 hI => ?_)
        obtain ⟨ahpσ_7, bhpσ_7, chpσ_7, dhpσ_7⟩ := hpσ_7
        rw [ahpσ_7] at hI
        replace hF := q_letX hF dhpσ_7
        have ir_6 : r_6.toInt = (m_U (m_c X σ a) v1.toInt x_2.toInt) := (by first | exact bhpσ_7 | (rw [bhpσ_7]) | (simp only [bhpσ_7]))
        refine lv_iadd hx hb dX12_unknownAll_21 ?_
        refine lv_topi (fun z_8 ez_8 => ?_)
        replace hF := q_letX hF ez_8
        have iz_8 := q_addI (A := x_1.toInt) (B := (m_U (m_c X σ a) v1.toInt x_2.toInt)) ez_8 rfl ir_6 (by first | (clear h0 hh hm4 hge4 if_4 gc_5_x_2 gc_5_f_4 c_5 ahpσ_7 dhpσ_7 ir_6; omega) | omega) (by first | (clear h0 hm4 hge4 gc_5_x_2 gc_5_f_4 ahpσ_7 dhpσ_7 ir_6; omega) | omega)
        refine lv_istore_n (lv' := [(2, .int z_8), (0, .ref a), (1, .int v1), (3, .int x_2)]) hx hb dX12_unknownAll_22 rfl hl (by decide) rfl (fun ls hl => ?_)
        obtain ⟨z_9, ez_9⟩ : ∃ y : Int32, y = x_2 + 1 := ⟨_, rfl⟩
        replace hF := q_letX hF ez_9
        refine lv_iinc (v := z_9) (lv' := [(3, .int z_9), (2, .int z_8), (0, .ref a), (1, .int v1)]) hx hb dX12_unknownAll_23 hl (k := 3) rfl (by rw [ez_9]; rfl) (by decide) rfl (fun ls hl => ?_)
        have iz_9 : z_9.toInt = x_2.toInt + 1 := q_inc ez_9 (by first | (clear h0 hm4 hs4 sb ps gc_5_f_4 ahpσ_7 bhpσ_7 chpσ_7 dhpσ_7 ir_6 iz_8; omega) | omega)
        have pz := ps
        rw [← iz_9] at pz
        refine lv_goto (tgt := 4) hx hb dX12_unknownAll_26 (by decide) ?_
        exact ih4 z_8 z_9 _ _ ls (by first | (clear h0 hs4 sb ps gc_5_f_4 ahpσ_7 bhpσ_7 chpσ_7 dhpσ_7 ir_6 iz_8 pz; omega) | omega) (by first | (clear h0 hh hm4 hs4 sb ps gc_5_f_4 ahpσ_7 bhpσ_7 chpσ_7 dhpσ_7 ir_6 iz_8 pz; omega) | omega) (by first | (clear h0 hh hm4 hge4 sb if_4 gc_5_x_2 gc_5_f_4 c_5 ahpσ_7 bhpσ_7 chpσ_7 dhpσ_7 ir_6 iz_9; omega) | omega) hF hI (lv_sub hl [2, 3, 1, 0] rfl)
  have kc_10 : (0 : Int32).toInt = 0 := rfl
  exact L_4_3 ((2147483647 - (0 : Int32).toInt).toNat + 1) 0 0 _ _ ls (Nat.lt_succ_self _) (by have q : (0 : Int32).toInt = 0 := rfl; omega) rfl hF hI (lv_sub hl [2, 3, 1, 0] rfl)

set_option maxRecDepth 100000 in
set_option maxHeartbeats 4000000 in
theorem c_X12_choose (l : Launch) (X : XW) (σ : ST) (v0 : Int32) (v1 : Int32) (h0 : 0 ≤ v0.toInt ∧ v0.toInt ≤ 800) (h1 : 0 ≤ v1.toInt ∧ v1.toInt ≤ 4) : Met l yX12_choose (q_ws yX12_choose cX12_choose 5 (some .long)) (q_rm 0 0) (q_P X σ [.int v0, .int v1]) (q_Ql X 9 σ (fun (r : Int64) (σ' : ST) => σ' = σ ∧ (0 ≤ r.toInt ∧ r.toInt ≤ 409600000000) ∧ (v1.toInt ≤ v0.toInt → 1 ≤ r.toInt) ∧ r = F_X12_choose X σ v0 v1)) 0 0 (q_reg X) := by
  refine q_met 9 (by first | exact rfl | decide +kernel) rfl (Nat.le_of_ble_eq_true rfl) (fun p e s m below meth c E hml hr hlk hI ls hl => ?_)
  have hx := E.1
  have hb := E.2.1
  have hl : lv_has ls 5 [(0, .int v0), (1, .int v1)] := hl
  obtain ⟨out, hout⟩ : ∃ o, o = F_X12_choose X σ v0 v1 := ⟨_, rfl⟩
  have hF := hout.symm
  unfold F_X12_choose at hF
  refine lv_iload_n hx hb dX12_choose_0 rfl (lv_at hl 1 rfl) ?_
  refine lv_iload_n hx hb dX12_choose_1 rfl (lv_at hl 0 rfl) ?_
  have gc_1_v1 := q_rng v1
  have gc_1_v0 := q_rng v0
  refine q_icmp_le (A := v1.toInt) (B := v0.toInt) E rfl rfl (tgt := 7) dX12_choose_2 (by decide) (fun c_1 => ?_) (fun c_1 => ?_)
  · skip
    replace hF := q_ifn hF (Int.not_lt.mpr c_1)
    refine lv_lconst (v := 1) hx hb dX12_choose_7 (by decide) ?_
    refine lv_lstore_n (lv' := [(2, .long 1), (0, .int v0), (1, .int v1)]) hx hb dX12_choose_8 rfl hl (by decide) rfl (fun ls hl => ?_)
    refine lv_iconst (v := 1) hx hb dX12_choose_9 (by decide) ?_
    refine lv_istore (lv' := [(4, .int 1), (2, .long 1), (0, .int v0), (1, .int v1)]) hx hb dX12_choose_10 hl (by decide) rfl (fun ls hl => ?_)
    have L_12_4 : ∀ (k_4 : Nat) (w_2 : Int64) (x_3 : Int32) (H : Heap) (locs : List Loc) (ls : Array Slot), (2147483647 - x_3.toInt).toNat < k_4 → (1 ≤ x_3.toInt ∧ x_3.toInt ≤ v1.toInt + 1 ∧ 1 ≤ w_2.toInt) → ((x_3.toInt = 1 ∧ w_2.toInt ≤ 1 ∨ x_3.toInt = 2 ∧ w_2.toInt ≤ 800 ∨ x_3.toInt = 3 ∧ w_2.toInt ≤ 640000 ∨ x_3.toInt = 4 ∧ w_2.toInt ≤ 512000000 ∨ x_3.toInt = 5 ∧ w_2.toInt ≤ 409600000000)) → (F_X12_choose_L12_1 X v1 v0 k_4 w_2 x_3 = out) → q_I X 9 σ s.heap locs σ H → lv_has ls 5 [(0, .int v0), (1, .int v1), (2, .long w_2), (4, .int x_3)] → W p l e (q_rm 0 0) s m ([.int v0, .int v1] : List Value).toArray below meth c H locs 0 0 (MQ below (q_Ql X 9 σ (fun (r : Int64) (σ' : ST) => σ' = σ ∧ (0 ≤ r.toInt ∧ r.toInt ≤ 409600000000) ∧ (v1.toInt ≤ v0.toInt → 1 ≤ r.toInt) ∧ r = F_X12_choose X σ v0 v1)) ([.int v0, .int v1] : List Value).toArray s 0 0 (q_reg X)) (F0 m 12 ls []) := by
      clear hF
      intro k_4
      induction k_4 with
      | zero =>
        intro w_2 x_3 H locs ls hms
        exact absurd hms (Nat.not_lt_zero _)
      | succ k_4 ih12 =>
        intro w_2 x_3 H locs ls hm12 hge12 hc12 hF hI hl
        replace hF := (F_X12_choose_L12_1_s).symm.trans hF
        unfold F_X12_choose_B12_1 at hF
        refine lv_iload hx hb dX12_choose_12 (lv_at hl 3 rfl) ?_
        refine lv_iload_n hx hb dX12_choose_14 rfl (lv_at hl 1 rfl) ?_
        have gc_5_x_3 := q_rng x_3
        have gc_5_v1 := q_rng v1
        refine q_icmp_gt (A := x_3.toInt) (B := v1.toInt) E rfl rfl (tgt := 38) dX12_choose_15 (by decide) (fun c_5 => ?_) (fun c_5 => ?_)
        · skip
          replace hF := q_ifp hF c_5
          skip
          refine lv_lload_n hx hb dX12_choose_38 rfl (lv_at hl 2 rfl) ?_
          exact q_retl E hr hlk hI ⟨rfl, (by first | (clear h0 h1 gc_1_v1 gc_1_v0 c_1 hm12 gc_5_x_3 gc_5_v1 c_5; omega) | omega), (by first | (clear h0 h1 gc_1_v1 gc_1_v0 c_1 hm12 hc12 gc_5_x_3 gc_5_v1 c_5; omega) | omega), (hF.trans hout)⟩ dX12_choose_39
        · skip
          replace hF := q_ifn hF (Int.not_lt.mpr c_5)
          refine lv_lload_n hx hb dX12_choose_18 rfl (lv_at hl 2 rfl) ?_
          refine lv_iload_n hx hb dX12_choose_19 rfl (lv_at hl 0 rfl) ?_
          refine lv_iload_n hx hb dX12_choose_20 rfl (lv_at hl 1 rfl) ?_
          refine lv_isub hx hb dX12_choose_21 ?_
          refine lv_topi (fun z_6 ez_6 => ?_)
          replace hF := q_letX hF ez_6
          have iz_6 := q_subI (A := v0.toInt) (B := v1.toInt) ez_6 rfl rfl (by first | (clear h0 h1 gc_1_v1 gc_1_v0 hm12 hge12 hc12 gc_5_x_3 gc_5_v1 c_5; omega) | omega) (by first | (clear h0 h1 gc_1_v1 gc_1_v0 c_1 hm12 hge12 hc12 gc_5_x_3 gc_5_v1 c_5; omega) | omega)
          refine lv_iload hx hb dX12_choose_22 (lv_at hl 3 rfl) ?_
          refine lv_iadd hx hb dX12_choose_24 ?_
          refine lv_topi (fun z_7 ez_7 => ?_)
          replace hF := q_letX hF ez_7
          have iz_7 := q_addI (A := (v0.toInt - v1.toInt)) (B := x_3.toInt) ez_7 iz_6 rfl (by first | (clear h0 h1 gc_1_v1 gc_1_v0 hm12 hc12 gc_5_v1 c_5; omega) | omega) (by first | (clear h0 h1 gc_1_v1 gc_1_v0 c_1 hm12 hge12 hc12 gc_5_x_3 gc_5_v1; omega) | omega)
          refine lv_i2l hx hb dX12_choose_25 rfl ?_
          refine lv_topl (fun y_8 ey_8 => ?_)
          replace hF := q_letX hF ey_8
          have ggy_8 := q_rng z_7
          have iy_8 : y_8.toInt = z_7.toInt := by rw [ey_8]; exact (q_i2l _).trans rfl
          have mb := m_mulI (a := w_2.toInt) (A := 512000000) (b := y_8.toInt) (B := 800) (by first | (clear h0 h1 gc_1_v1 gc_1_v0 c_1 hm12 hc12 gc_5_x_3 gc_5_v1 c_5 iz_6 iz_7 ggy_8 iy_8; omega) | omega) (by first | (clear h0 h1 gc_1_v1 gc_1_v0 hm12 hge12 gc_5_x_3 gc_5_v1; omega) | omega) (by first | (clear h0 h1 gc_1_v1 gc_1_v0 hm12 hc12 gc_5_v1; omega) | omega) (by first | (clear h0 h1 gc_1_v1 gc_1_v0 c_1 hm12 hge12 hc12 gc_5_x_3 gc_5_v1; omega) | omega)
          refine lv_lmul hx hb dX12_choose_26 ?_
          refine lv_topl (fun y_9 ey_9 => ?_)
          replace hF := q_letX hF ey_9
          have iy_9 := q_mulJ (A := w_2.toInt) (B := y_8.toInt) ey_9 rfl rfl (by first | (clear h0 h1 gc_1_v1 gc_1_v0 c_1 hm12 hge12 hc12 gc_5_x_3 gc_5_v1 c_5 iz_6 iz_7 ggy_8 iy_8; omega) | omega) (by first | (clear h0 h1 gc_1_v1 gc_1_v0 c_1 hm12 hge12 hc12 gc_5_x_3 gc_5_v1 c_5 iz_6 iz_7 ggy_8 iy_8; omega) | omega)
          refine lv_iload hx hb dX12_choose_27 (lv_at hl 3 rfl) ?_
          refine lv_i2l hx hb dX12_choose_29 rfl ?_
          refine lv_topl (fun y_10 ey_10 => ?_)
          replace hF := q_letX hF ey_10
          have ggy_10 := q_rng x_3
          have iy_10 : y_10.toInt = x_3.toInt := by rw [ey_10]; exact (q_i2l _).trans rfl
          refine lv_ldiv hx hb dX12_choose_30 (q_ne0l (by first | (clear h0 h1 gc_1_v1 gc_1_v0 c_1 hm12 hc12 gc_5_v1 c_5 ggy_8 mb iy_9 ggy_10; omega) | omega)) ?_
          refine lv_topl (fun y_11 ey_11 => ?_)
          replace hF := q_letX hF ey_11
          have dvy_11 := m_chs (i := x_3.toInt) ey_11 iy_9 iy_10 (by first | (clear h0 h1 gc_1_v1 gc_1_v0 c_1 hm12 hc12 gc_5_x_3 gc_5_v1 c_5 iz_6 iz_7 ggy_8 iy_8 mb iy_9 ggy_10 iy_10; omega) | omega) (by first | (clear h0 h1 gc_1_v1 gc_1_v0 c_1 hm12 hc12 gc_5_v1 c_5 ggy_8 mb iy_9 ggy_10; omega) | omega) (by first | (clear h0 h1 gc_1_v1 gc_1_v0 hm12 hge12 hc12 gc_5_x_3 gc_5_v1 c_5 ggy_8 mb iy_9 ggy_10; omega) | omega) (by first | (clear h0 h1 gc_1_v1 gc_1_v0 hm12 hc12 gc_5_v1 mb iy_9 ggy_10; omega) | omega) (by first | (clear h0 h1 gc_1_v1 gc_1_v0 c_1 hm12 hge12 gc_5_x_3 gc_5_v1 ggy_8 mb iy_9 ggy_10; omega) | omega)
          refine lv_lstore_n (lv' := [(2, .long y_11), (0, .int v0), (1, .int v1), (4, .int x_3)]) hx hb dX12_choose_31 rfl hl (by decide) rfl (fun ls hl => ?_)
          obtain ⟨z_12, ez_12⟩ : ∃ y : Int32, y = x_3 + 1 := ⟨_, rfl⟩
          replace hF := q_letX hF ez_12
          refine lv_iinc (v := z_12) (lv' := [(4, .int z_12), (2, .long y_11), (0, .int v0), (1, .int v1)]) hx hb dX12_choose_32 hl (k := 3) rfl (by rw [ez_12]; rfl) (by decide) rfl (fun ls hl => ?_)
          have iz_12 : z_12.toInt = x_3.toInt + 1 := q_inc ez_12 (by first | (clear h0 h1 gc_1_v1 gc_1_v0 c_1 hm12 hc12 gc_5_v1 ggy_8 mb iy_9 ggy_10 dvy_11; omega) | omega)
          refine lv_goto (tgt := 12) hx hb dX12_choose_35 (by decide) ?_
          exact ih12 y_11 z_12 _ _ ls (by first | (clear h0 h1 gc_1_v1 gc_1_v0 c_1 gc_5_v1 ggy_8 mb iy_9 ggy_10 dvy_11; omega) | omega) (by first | (clear h0 h1 gc_1_v1 gc_1_v0 c_1 hm12 hc12 gc_5_v1 ggy_8 mb iy_9 ggy_10; omega) | omega) (by first | (clear h0 h1 gc_1_v1 gc_1_v0 c_1 hm12 gc_5_v1 ggy_8 mb iy_9 ggy_10; omega) | omega) hF hI (lv_sub hl [2, 3, 1, 0] rfl)
    have kc_13 : (1 : Int32).toInt = 1 := rfl
    exact L_12_4 ((2147483647 - (1 : Int32).toInt).toNat + 1) 1 1 _ _ ls (Nat.lt_succ_self _) (by have q : (1 : Int32).toInt = 1 := rfl; have q2 : (1 : Int64).toInt = 1 := rfl; omega) (Or.inl (by decide)) hF hI (lv_sub hl [2, 3, 1, 0] rfl)
  · skip
    replace hF := q_ifp hF c_1
    refine lv_lconst (v := 0) hx hb dX12_choose_5 (by decide) ?_
    have hrv : (0 : Int64).toInt = 0 := rfl
    exact q_retl E hr hlk hI ⟨rfl, (by first | (clear h0 h1 gc_1_v1 gc_1_v0 c_1; omega) | omega), (by first | (clear h0 h1 gc_1_v1 gc_1_v0 hrv; omega) | omega), (hF.trans hout)⟩ dX12_choose_6

set_option maxRecDepth 100000 in
set_option maxHeartbeats 4000000 in
theorem c_J9_abs_m (l : Launch) (X : XW) (σ : ST) (v0 : Int64) : Met l yJ9_abs_067f4 (q_ws yJ9_abs_067f4 cJ9_abs_067f4 2 (some .long)) (q_rm 0 0) (q_P X σ [.long v0]) (q_Ql X 9 σ (fun (r : Int64) (σ' : ST) => σ' = σ ∧ (r.toInt = 0 → v0.toInt = 0) ∧ r = F_J9_abs_m X σ v0)) 0 0 (q_reg X) := by
  refine q_met 9 (by decide +kernel) rfl (Nat.le_of_ble_eq_true rfl) (fun p e s m below meth c E hml hr hlk hI ls hl => ?_)
  have hx := E.1
  have hb := E.2.1
  have hl : lv_has ls 2 [(0, .long v0)] := hl
  obtain ⟨out, hout⟩ : ∃ o, o = F_J9_abs_m X σ v0 := ⟨_, rfl⟩
  have hF := hout.symm
  unfold F_J9_abs_m at hF
  refine lv_lload_n hx hb dJ9_abs_067f4_0 rfl (lv_at hl 0 rfl) ?_
  refine lv_lconst (v := 0) hx hb dJ9_abs_067f4_1 (by decide) ?_
  have kc_2 : (0 : Int64).toInt = 0 := rfl
  refine q_lcmpX E dJ9_abs_067f4_2 (fun z_1 ez_1 hz_1 => ?_)
  replace hF := q_letX hF ez_1
  refine q_if_ge (A := z_1.toInt) E rfl (tgt := 11) dJ9_abs_067f4_3 (by decide) (fun c_3 => ?_) (fun c_3 => ?_)
  · skip
    replace hF := q_ifn hF (Int.not_lt.mpr c_3)
    refine lv_lload_n hx hb dJ9_abs_067f4_11 rfl (lv_at hl 0 rfl) ?_
    exact q_retl E hr hlk hI ⟨rfl, (by first | (clear kc_2 hz_1 c_3; omega) | omega), (hF.trans hout)⟩ dJ9_abs_067f4_12
  · skip
    replace hF := q_ifp hF c_3
    refine lv_lload_n hx hb dJ9_abs_067f4_6 rfl (lv_at hl 0 rfl) ?_
    refine lv_lneg hx hb dJ9_abs_067f4_7 ?_
    refine lv_topl (fun y_4 ey_4 => ?_)
    replace hF := q_letX hF ey_4
    have ngy_4 := m_neg0 ey_4
    refine lv_goto (tgt := 12) hx hb dJ9_abs_067f4_8 (by decide) ?_
    exact q_retl E hr hlk hI ⟨rfl, (by omega), (hF.trans hout)⟩ dJ9_abs_067f4_12

set_option maxRecDepth 100000 in
set_option maxHeartbeats 4000000 in
theorem c_X12_fraction (l : Launch) (X : XW) (σ : ST) (a : Nat) (v1 : Int64) (v2 : Int64) (ha : q_kd X a = 12) (h0 : v1.toInt ≠ 0 ∨ v2.toInt ≠ 0) : Met l yX12_fraction (q_ws yX12_fraction cX12_fraction 11 (some .boolean)) (q_rm 1 21) (q_P X σ [.ref a, .long v1, .long v2]) (q_Qi X 8 σ (fun (r : Int32) (σ' : ST) => (0 ≤ r.toInt ∧ r.toInt ≤ 1) ∧ (r, σ') = F_X12_fraction X σ a v1 v2 ∧ q_ow [] [(12, 2), (12, 3)] X σ σ')) 0 0 (q_reg X) := by
  refine q_met 8 (by first | exact rfl | decide +kernel) rfl (Nat.le_of_ble_eq_true rfl) (fun p e s m below meth c E hml hr hlk hI ls hl => ?_)
  have hx := E.1
  have hb := E.2.1
  have hl : lv_has ls 11 [(0, .ref a), (1, .long v1), (3, .long v2)] := hl
  have fr_σ : q_ow [] [(12, 2), (12, 3)] X σ σ := q_ow.rf
  obtain ⟨out, hout⟩ : ∃ o, o = F_X12_fraction X σ a v1 v2 := ⟨_, rfl⟩
  have hF := hout.symm
  unfold F_X12_fraction at hF
  refine lv_lload_n hx hb dX12_fraction_0 rfl (lv_at hl 1 rfl) ?_
  refine q_cl_ (q_runS (As := [.long v1]) (rest := []) E (hml.trans hl.1.symm) hI (c_J9_abs_m l X σ v1) ks_X12_68 rfl ⟨Nat.le_of_ble_eq_true rfl, Nat.le_of_ble_eq_true rfl⟩ ⟨Nat.le_refl _, Nat.le_refl _⟩ rfl (Nat.le_of_ble_eq_true rfl) dX12_fraction_1) hI (by decide) (fun r_1 σ_2 H locs hpσ_2 hkσ_2 hI => ?_)
  obtain ⟨ahpσ_2, bhpσ_2, chpσ_2⟩ := hpσ_2
  rw [ahpσ_2] at hI
  replace hF := q_letX hF chpσ_2
  refine lv_lstore (lv' := [(5, .long r_1), (0, .ref a), (1, .long v1), (3, .long v2)]) hx hb dX12_fraction_4 hl (by decide) rfl (fun ls hl => ?_)
  refine lv_lload_n hx hb dX12_fraction_6 rfl (lv_at hl 3 rfl) ?_
  refine lv_lstore (lv' := [(7, .long v2), (5, .long r_1), (0, .ref a), (1, .long v1), (3, .long v2)]) hx hb dX12_fraction_7 hl (by decide) rfl (fun ls hl => ?_)
  have L_9_5 : ∀ (k_5 : Nat) (w_3 : Int64) (w_4 : Int64) (H : Heap) (locs : List Loc) (ls : Array Slot), (w_4.toInt.natAbs) < k_5 → (w_3.toInt ≠ 0 ∨ w_4.toInt ≠ 0) → (F_X12_fraction_L9_1 X v1 σ a v2 k_5 w_3 w_4 = out) → q_I X 8 σ s.heap locs σ H → lv_has ls 11 [(0, .ref a), (1, .long v1), (3, .long v2), (5, .long w_3), (7, .long w_4)] → W p l e (q_rm 1 21) s m ([.ref a, .long v1, .long v2] : List Value).toArray below meth c H locs 0 0 (MQ below (q_Qi X 8 σ (fun (r : Int32) (σ' : ST) => (0 ≤ r.toInt ∧ r.toInt ≤ 1) ∧ (r, σ') = F_X12_fraction X σ a v1 v2 ∧ q_ow [] [(12, 2), (12, 3)] X σ σ')) ([.ref a, .long v1, .long v2] : List Value).toArray s 0 0 (q_reg X)) (F0 m 9 ls []) := by
    clear hF
    intro k_5
    induction k_5 with
    | zero =>
      intro w_3 w_4 H locs ls hms
      exact absurd hms (Nat.not_lt_zero _)
    | succ k_5 ih9 =>
      intro w_3 w_4 H locs ls hm9 hf9 hF hI hl
      replace hF := (F_X12_fraction_L9_1_s).symm.trans hF
      unfold F_X12_fraction_B9_1 at hF
      refine lv_lload hx hb dX12_fraction_9 (lv_at hl 4 rfl) ?_
      refine lv_lconst (v := 0) hx hb dX12_fraction_11 (by decide) ?_
      have kc_7 : (0 : Int64).toInt = 0 := rfl
      refine q_lcmpX E dX12_fraction_12 (fun z_6 ez_6 hz_6 => ?_)
      replace hF := q_letX hF ez_6
      refine q_if_eq (A := z_6.toInt) E rfl (tgt := 34) dX12_fraction_13 (by decide) (fun c_8 => ?_) (fun c_8 => ?_)
      · skip
        replace hF := q_ifp hF c_8
        unfold F_X12_fraction_E34_2 at hF
        refine lv_aload_n hx hb dX12_fraction_34 rfl (lv_at hl 0 rfl) ?_
        refine lv_lload_n hx hb dX12_fraction_35 rfl (lv_at hl 1 rfl) ?_
        refine lv_lload hx hb dX12_fraction_36 (lv_at hl 3 rfl) ?_
        refine lv_ldiv hx hb dX12_fraction_38 (q_ne0l (by first | (clear h0 ahpσ_2 bhpσ_2 chpσ_2 hm9; omega) | omega)) ?_
        refine lv_topl (fun y_9 ey_9 => ?_)
        replace hF := q_letX hF ey_9
        refine ps_X12_65_12 E hI ha  dX12_fraction_39 (fun H locs σ_10 hσ_10 hI => ?_)
        replace hF := q_letX hF hσ_10
        have fr_σ_10 := fr_σ.sl hσ_10 ha rfl
        refine lv_aload_n hx hb dX12_fraction_42 rfl (lv_at hl 0 rfl) ?_
        refine lv_lload_n hx hb dX12_fraction_43 rfl (lv_at hl 2 rfl) ?_
        refine lv_lload hx hb dX12_fraction_44 (lv_at hl 3 rfl) ?_
        refine lv_ldiv hx hb dX12_fraction_46 (q_ne0l (by first | (clear h0 ahpσ_2 bhpσ_2 chpσ_2 hm9; omega) | omega)) ?_
        refine lv_topl (fun y_11 ey_11 => ?_)
        replace hF := q_letX hF ey_11
        refine ps_X12_7_12 E hI ha  dX12_fraction_47 (fun H locs σ_12 hσ_12 hI => ?_)
        replace hF := q_letX hF hσ_12
        have fr_σ_12 := fr_σ_10.sl hσ_12 ha rfl
        refine lv_iconst (v := 1) hx hb dX12_fraction_50 (by decide) ?_
        have hrv : (1 : Int32).toInt = 1 := rfl
        exact q_retz E hr hlk hI ⟨by decide, by decide⟩ ⟨⟨by decide, by decide⟩, (hF.trans hout), fr_σ_12⟩ dX12_fraction_51
      · skip
        replace hF := q_ifn hF c_8
        refine lv_lload hx hb dX12_fraction_16 (lv_at hl 3 rfl) ?_
        refine lv_lload hx hb dX12_fraction_18 (lv_at hl 4 rfl) ?_
        refine lv_lrem hx hb dX12_fraction_20 (q_ne0l (by first | (clear h0 ahpσ_2 bhpσ_2 chpσ_2 w_3 hm9 hf9; omega) | omega)) ?_
        refine lv_topl (fun y_13 ey_13 => ?_)
        replace hF := q_letX hF (ey_13.trans (q_remJ _ _))
        have rmy_13 := m_remabs ey_13 (by first | (clear h0 ahpσ_2 bhpσ_2 chpσ_2 w_3 hm9 hf9; omega) | omega)
        refine lv_lstore (lv' := [(9, .long y_13), (0, .ref a), (1, .long v1), (3, .long v2), (5, .long w_3), (7, .long w_4)]) hx hb dX12_fraction_21 hl (by decide) rfl (fun ls hl => ?_)
        refine lv_lload hx hb dX12_fraction_23 (lv_at hl 5 rfl) ?_
        refine lv_lstore (lv' := [(5, .long w_4), (9, .long y_13), (0, .ref a), (1, .long v1), (3, .long v2), (7, .long w_4)]) hx hb dX12_fraction_25 hl (by decide) rfl (fun ls hl => ?_)
        refine lv_lload hx hb dX12_fraction_27 (lv_at hl 1 rfl) ?_
        refine lv_lstore (lv' := [(7, .long y_13), (5, .long w_4), (9, .long y_13), (0, .ref a), (1, .long v1), (3, .long v2)]) hx hb dX12_fraction_29 hl (by decide) rfl (fun ls hl => ?_)
        refine lv_goto (tgt := 9) hx hb dX12_fraction_31 (by decide) ?_
        exact ih9 w_4 y_13 _ _ ls (by first | (clear h0 ahpσ_2 bhpσ_2 chpσ_2 w_3 hf9 kc_7 hz_6 c_8; omega) | omega) (by first | (clear h0 ahpσ_2 bhpσ_2 chpσ_2 w_3 hm9 hf9 rmy_13; omega) | omega) hF hI (lv_sub hl [3, 4, 5, 1, 0] rfl)
  exact L_9_5 ((v2.toInt.natAbs) + 1) r_1 v2 _ _ ls (Nat.lt_succ_self _) (by first | (clear h0 ahpσ_2 chpσ_2; omega) | omega) hF hI (lv_sub hl [2, 3, 4, 1, 0] rfl)

set_option maxRecDepth 100000 in
set_option maxHeartbeats 4000000 in
theorem c_X12_nextKind (l : Launch) (X : XW) (σ : ST) (a : Nat) (v1 : Int32) (ha : q_kd X a = 12) (hG : m_G (m_c X σ a)) : Met l yX12_nextKind (q_ws yX12_nextKind cX12_nextKind 3 (some .int)) (q_rm 0 0) (q_P X σ [.ref a, .int v1]) (q_Qi X 9 σ (fun (r : Int32) (σ' : ST) => σ' = σ ∧ (0 ≤ r.toInt ∧ r.toInt < m_c X σ a 0) ∧ r = F_X12_nextKind X σ a v1)) 0 0 (q_reg X) := by
  refine q_met 9 (by first | exact rfl | decide +kernel) rfl (Nat.le_of_ble_eq_true rfl) (fun p e s m below meth c E hml hr hlk hI ls hl => ?_)
  have hx := E.1
  have hb := E.2.1
  have hl : lv_has ls 3 [(0, .ref a), (1, .int v1)] := hl
  have hh := hG.hd
  obtain ⟨out, hout⟩ : ∃ o, o = F_X12_nextKind X σ a v1 := ⟨_, rfl⟩
  have hF := hout.symm
  unfold F_X12_nextKind at hF
  refine lv_aload_n hx hb dX12_nextKind_0 rfl (lv_at hl 0 rfl) ?_
  refine gs_X12_35_12 E hI ha dX12_nextKind_1 ?_
  refine lv_iconst (v := 0) hx hb dX12_nextKind_4 (by decide) ?_
  refine q_iald E hI (q_tk (k' := 34) hI ha rfl (by decide)) ⟨by decide, rfl⟩ (by decide) (by rw [q_lnk (v := 4650) hI (q_tk (k' := 34) hI ha rfl (by decide)) rfl (by decide)]; decide) dX12_nextKind_5 ?_
  refine lv_topi (fun f_1 ef_1 => ?_)
  replace hF := q_letX hF ef_1
  have if_1 : f_1.toInt = m_c X σ a 0 := m_rd ef_1 (by decide)
  refine lv_istore_n (lv' := [(2, .int f_1), (0, .ref a), (1, .int v1)]) hx hb dX12_nextKind_6 rfl hl (by decide) rfl (fun ls hl => ?_)
  refine lv_aload_n hx hb dX12_nextKind_7 rfl (lv_at hl 1 rfl) ?_
  refine gs_X12_35_12 E hI ha dX12_nextKind_8 ?_
  refine lv_iconst (v := 3) hx hb dX12_nextKind_11 (by decide) ?_
  refine q_iald E hI (q_tk (k' := 34) hI ha rfl (by decide)) ⟨by decide, rfl⟩ (by decide) (by rw [q_lnk (v := 4650) hI (q_tk (k' := 34) hI ha rfl (by decide)) rfl (by decide)]; decide) dX12_nextKind_12 ?_
  refine lv_topi (fun f_2 ef_2 => ?_)
  replace hF := q_letX hF ef_2
  have if_2 : f_2.toInt = m_c X σ a 3 := m_rd ef_2 (by decide)
  refine q_if_eq (A := f_2.toInt) E rfl (tgt := 30) dX12_nextKind_13 (by decide) (fun c_3 => ?_) (fun c_3 => ?_)
  · skip
    replace hF := q_ifp hF c_3
    refine lv_aload_n hx hb dX12_nextKind_30 rfl (lv_at hl 1 rfl) ?_
    refine gs_X12_35_12 E hI ha dX12_nextKind_31 ?_
    refine lv_iconst (v := 5) hx hb dX12_nextKind_34 (by decide) ?_
    refine q_iald E hI (q_tk (k' := 34) hI ha rfl (by decide)) ⟨by decide, rfl⟩ (by decide) (by rw [q_lnk (v := 4650) hI (q_tk (k' := 34) hI ha rfl (by decide)) rfl (by decide)]; decide) dX12_nextKind_35 ?_
    refine lv_topi (fun f_4 ef_4 => ?_)
    replace hF := q_letX hF ef_4
    have if_4 : f_4.toInt = m_c X σ a 5 := m_rd ef_4 (by decide)
    refine lv_iconst (v := 1) hx hb dX12_nextKind_36 (by decide) ?_
    refine lv_iadd hx hb dX12_nextKind_37 ?_
    refine lv_topi (fun z_5 ez_5 => ?_)
    replace hF := q_letX hF ez_5
    have iz_5 := q_addI (A := (m_c X σ a 5)) (B := 1) ez_5 if_4 (by decide) (by first | (clear if_1 if_2 c_3; omega) | omega) (by first | (clear if_2 c_3; omega) | omega)
    refine lv_iload_n hx hb dX12_nextKind_38 rfl (lv_at hl 0 rfl) ?_
    refine lv_irem hx hb dX12_nextKind_39 (q_ne0 (by first | (clear if_2 c_3 if_4 iz_5; omega) | omega)) ?_
    refine lv_topi (fun z_6 ez_6 => ?_)
    replace hF := q_letX hF (ez_6.trans (q_remI _ _))
    have rmz_6 := m_rem ez_6 (by first | (clear if_1 if_2 c_3; omega) | omega) (by first | (clear if_2 c_3 if_4 iz_5; omega) | omega)
    exact q_reti E hr hlk hI ⟨rfl, (by first | (clear hh if_2 c_3 if_4 iz_5; omega) | omega), (hF.trans hout)⟩ dX12_nextKind_40
  · skip
    replace hF := q_ifn hF c_3
    refine lv_aload_n hx hb dX12_nextKind_16 rfl (lv_at hl 1 rfl) ?_
    refine gs_X12_35_12 E hI ha dX12_nextKind_17 ?_
    refine lv_iconst (v := 3) hx hb dX12_nextKind_20 (by decide) ?_
    refine q_iald E hI (q_tk (k' := 34) hI ha rfl (by decide)) ⟨by decide, rfl⟩ (by decide) (by rw [q_lnk (v := 4650) hI (q_tk (k' := 34) hI ha rfl (by decide)) rfl (by decide)]; decide) dX12_nextKind_21 ?_
    refine lv_topi (fun f_7 ef_7 => ?_)
    replace hF := q_letX hF ef_7
    have if_7 : f_7.toInt = m_c X σ a 3 := m_rd ef_7 (by decide)
    refine lv_iconst (v := 1) hx hb dX12_nextKind_22 (by decide) ?_
    refine q_icmp_eq (A := f_7.toInt) (B := 1) E rfl (by decide) (tgt := 41) dX12_nextKind_23 (by decide) (fun c_8 => ?_) (fun c_8 => ?_)
    · skip
      replace hF := q_ifp hF c_8
      refine lv_aload_n hx hb dX12_nextKind_41 rfl (lv_at hl 1 rfl) ?_
      refine gs_X12_35_12 E hI ha dX12_nextKind_42 ?_
      refine lv_iconst (v := 3) hx hb dX12_nextKind_45 (by decide) ?_
      refine q_iald E hI (q_tk (k' := 34) hI ha rfl (by decide)) ⟨by decide, rfl⟩ (by decide) (by rw [q_lnk (v := 4650) hI (q_tk (k' := 34) hI ha rfl (by decide)) rfl (by decide)]; decide) dX12_nextKind_46 ?_
      refine lv_topi (fun f_9 ef_9 => ?_)
      replace hF := q_letX hF ef_9
      have if_9 : f_9.toInt = m_c X σ a 3 := m_rd ef_9 (by decide)
      refine lv_iconst (v := 1) hx hb dX12_nextKind_47 (by decide) ?_
      refine q_icmp_ne (A := f_9.toInt) (B := 1) E rfl (by decide) (tgt := 66) dX12_nextKind_48 (by decide) (fun c_10 => ?_) (fun c_10 => ?_)
      · skip
        replace hF := q_ifn hF c_10
        refine lv_aload_n hx hb dX12_nextKind_66 rfl (lv_at hl 1 rfl) ?_
        refine gs_X12_35_12 E hI ha dX12_nextKind_67 ?_
        refine lv_iconst (v := 5) hx hb dX12_nextKind_70 (by decide) ?_
        refine q_iald E hI (q_tk (k' := 34) hI ha rfl (by decide)) ⟨by decide, rfl⟩ (by decide) (by rw [q_lnk (v := 4650) hI (q_tk (k' := 34) hI ha rfl (by decide)) rfl (by decide)]; decide) dX12_nextKind_71 ?_
        refine lv_topi (fun f_11 ef_11 => ?_)
        replace hF := q_letX hF ef_11
        have if_11 : f_11.toInt = m_c X σ a 5 := m_rd ef_11 (by decide)
        exact q_reti E hr hlk hI ⟨rfl, (by first | (clear if_2 c_3 if_7 c_8 if_9 c_10; omega) | omega), (hF.trans hout)⟩ dX12_nextKind_72
      · skip
        replace hF := q_ifp hF c_10
        refine lv_aload_n hx hb dX12_nextKind_51 rfl (lv_at hl 1 rfl) ?_
        refine gs_X12_35_12 E hI ha dX12_nextKind_52 ?_
        refine lv_iconst (v := 5) hx hb dX12_nextKind_55 (by decide) ?_
        refine q_iald E hI (q_tk (k' := 34) hI ha rfl (by decide)) ⟨by decide, rfl⟩ (by decide) (by rw [q_lnk (v := 4650) hI (q_tk (k' := 34) hI ha rfl (by decide)) rfl (by decide)]; decide) dX12_nextKind_56 ?_
        refine lv_topi (fun f_12 ef_12 => ?_)
        replace hF := q_letX hF ef_12
        have if_12 : f_12.toInt = m_c X σ a 5 := m_rd ef_12 (by decide)
        refine lv_iload_n hx hb dX12_nextKind_57 rfl (lv_at hl 0 rfl) ?_
        refine lv_iadd hx hb dX12_nextKind_58 ?_
        refine lv_topi (fun z_13 ez_13 => ?_)
        replace hF := q_letX hF ez_13
        have iz_13 := q_addI (A := (m_c X σ a 5)) (B := (m_c X σ a 0)) ez_13 if_12 if_1 (by first | (clear if_2 c_3 if_7 c_8 if_9 c_10; omega) | omega) (by first | (clear if_2 c_3 if_7 c_8 if_9 c_10; omega) | omega)
        refine lv_iconst (v := 1) hx hb dX12_nextKind_59 (by decide) ?_
        refine lv_isub hx hb dX12_nextKind_60 ?_
        refine lv_topi (fun z_14 ez_14 => ?_)
        replace hF := q_letX hF ez_14
        have iz_14 := q_subI (A := ((m_c X σ a 5) + (m_c X σ a 0))) (B := 1) ez_14 iz_13 (by decide) (by first | (clear if_2 c_3 if_7 c_8 if_9 c_10; omega) | omega) (by first | (clear if_2 c_3 if_7 c_8 if_9 c_10; omega) | omega)
        refine lv_iload_n hx hb dX12_nextKind_61 rfl (lv_at hl 0 rfl) ?_
        refine lv_irem hx hb dX12_nextKind_62 (q_ne0 (by first | (clear if_2 c_3 if_7 c_8 if_9 c_10; omega) | omega)) ?_
        refine lv_topi (fun z_15 ez_15 => ?_)
        replace hF := q_letX hF (ez_15.trans (q_remI _ _))
        have rmz_15 := m_rem ez_15 (by first | (clear if_2 c_3 if_7 c_8 if_9 c_10; omega) | omega) (by first | (clear if_2 c_3 if_7 c_8 if_9 c_10; omega) | omega)
        refine lv_goto (tgt := 72) hx hb dX12_nextKind_63 (by decide) ?_
        exact q_reti E hr hlk hI ⟨rfl, (by first | (clear hh if_2 c_3 if_7 c_8 if_9 c_10; omega) | omega), (hF.trans hout)⟩ dX12_nextKind_72
    · skip
      replace hF := q_ifn hF c_8
      refine lv_iload_n hx hb dX12_nextKind_26 rfl (lv_at hl 2 rfl) ?_
      refine q_if_ne (A := v1.toInt) E rfl (tgt := 41) dX12_nextKind_27 (by decide) (fun c_16 => ?_) (fun c_16 => ?_)
      · skip
        replace hF := q_ifn hF c_16
        refine lv_aload_n hx hb dX12_nextKind_41 rfl (lv_at hl 1 rfl) ?_
        refine gs_X12_35_12 E hI ha dX12_nextKind_42 ?_
        refine lv_iconst (v := 3) hx hb dX12_nextKind_45 (by decide) ?_
        refine q_iald E hI (q_tk (k' := 34) hI ha rfl (by decide)) ⟨by decide, rfl⟩ (by decide) (by rw [q_lnk (v := 4650) hI (q_tk (k' := 34) hI ha rfl (by decide)) rfl (by decide)]; decide) dX12_nextKind_46 ?_
        refine lv_topi (fun f_17 ef_17 => ?_)
        replace hF := q_letX hF ef_17
        have if_17 : f_17.toInt = m_c X σ a 3 := m_rd ef_17 (by decide)
        refine lv_iconst (v := 1) hx hb dX12_nextKind_47 (by decide) ?_
        refine q_icmp_ne (A := f_17.toInt) (B := 1) E rfl (by decide) (tgt := 66) dX12_nextKind_48 (by decide) (fun c_18 => ?_) (fun c_18 => ?_)
        · skip
          replace hF := q_ifn hF c_18
          refine lv_aload_n hx hb dX12_nextKind_66 rfl (lv_at hl 1 rfl) ?_
          refine gs_X12_35_12 E hI ha dX12_nextKind_67 ?_
          refine lv_iconst (v := 5) hx hb dX12_nextKind_70 (by decide) ?_
          refine q_iald E hI (q_tk (k' := 34) hI ha rfl (by decide)) ⟨by decide, rfl⟩ (by decide) (by rw [q_lnk (v := 4650) hI (q_tk (k' := 34) hI ha rfl (by decide)) rfl (by decide)]; decide) dX12_nextKind_71 ?_
          refine lv_topi (fun f_19 ef_19 => ?_)
          replace hF := q_letX hF ef_19
          have if_19 : f_19.toInt = m_c X σ a 5 := m_rd ef_19 (by decide)
          exact q_reti E hr hlk hI ⟨rfl, (by first | (clear if_2 c_3 if_7 c_8 c_16 if_17 c_18; omega) | omega), (hF.trans hout)⟩ dX12_nextKind_72
        · skip
          replace hF := q_ifp hF c_18
          refine lv_aload_n hx hb dX12_nextKind_51 rfl (lv_at hl 1 rfl) ?_
          refine gs_X12_35_12 E hI ha dX12_nextKind_52 ?_
          refine lv_iconst (v := 5) hx hb dX12_nextKind_55 (by decide) ?_
          refine q_iald E hI (q_tk (k' := 34) hI ha rfl (by decide)) ⟨by decide, rfl⟩ (by decide) (by rw [q_lnk (v := 4650) hI (q_tk (k' := 34) hI ha rfl (by decide)) rfl (by decide)]; decide) dX12_nextKind_56 ?_
          refine lv_topi (fun f_20 ef_20 => ?_)
          replace hF := q_letX hF ef_20
          have if_20 : f_20.toInt = m_c X σ a 5 := m_rd ef_20 (by decide)
          refine lv_iload_n hx hb dX12_nextKind_57 rfl (lv_at hl 0 rfl) ?_
          refine lv_iadd hx hb dX12_nextKind_58 ?_
          refine lv_topi (fun z_21 ez_21 => ?_)
          replace hF := q_letX hF ez_21
          have iz_21 := q_addI (A := (m_c X σ a 5)) (B := (m_c X σ a 0)) ez_21 if_20 if_1 (by first | (clear if_2 c_3 if_7 c_8 c_16 if_17 c_18; omega) | omega) (by first | (clear if_2 c_3 if_7 c_8 c_16 if_17 c_18; omega) | omega)
          refine lv_iconst (v := 1) hx hb dX12_nextKind_59 (by decide) ?_
          refine lv_isub hx hb dX12_nextKind_60 ?_
          refine lv_topi (fun z_22 ez_22 => ?_)
          replace hF := q_letX hF ez_22
          have iz_22 := q_subI (A := ((m_c X σ a 5) + (m_c X σ a 0))) (B := 1) ez_22 iz_21 (by decide) (by first | (clear if_2 c_3 if_7 c_8 c_16 if_17 c_18; omega) | omega) (by first | (clear if_2 c_3 if_7 c_8 c_16 if_17 c_18; omega) | omega)
          refine lv_iload_n hx hb dX12_nextKind_61 rfl (lv_at hl 0 rfl) ?_
          refine lv_irem hx hb dX12_nextKind_62 (q_ne0 (by first | (clear if_2 c_3 if_7 c_8 c_16 if_17 c_18; omega) | omega)) ?_
          refine lv_topi (fun z_23 ez_23 => ?_)
          replace hF := q_letX hF (ez_23.trans (q_remI _ _))
          have rmz_23 := m_rem ez_23 (by first | (clear if_2 c_3 if_7 c_8 c_16 if_17 c_18; omega) | omega) (by first | (clear if_2 c_3 if_7 c_8 c_16 if_17 c_18; omega) | omega)
          refine lv_goto (tgt := 72) hx hb dX12_nextKind_63 (by decide) ?_
          exact q_reti E hr hlk hI ⟨rfl, (by first | (clear hh if_2 c_3 if_7 c_8 c_16 if_17 c_18; omega) | omega), (hF.trans hout)⟩ dX12_nextKind_72
      · skip
        replace hF := q_ifp hF c_16
        refine lv_aload_n hx hb dX12_nextKind_30 rfl (lv_at hl 1 rfl) ?_
        refine gs_X12_35_12 E hI ha dX12_nextKind_31 ?_
        refine lv_iconst (v := 5) hx hb dX12_nextKind_34 (by decide) ?_
        refine q_iald E hI (q_tk (k' := 34) hI ha rfl (by decide)) ⟨by decide, rfl⟩ (by decide) (by rw [q_lnk (v := 4650) hI (q_tk (k' := 34) hI ha rfl (by decide)) rfl (by decide)]; decide) dX12_nextKind_35 ?_
        refine lv_topi (fun f_24 ef_24 => ?_)
        replace hF := q_letX hF ef_24
        have if_24 : f_24.toInt = m_c X σ a 5 := m_rd ef_24 (by decide)
        refine lv_iconst (v := 1) hx hb dX12_nextKind_36 (by decide) ?_
        refine lv_iadd hx hb dX12_nextKind_37 ?_
        refine lv_topi (fun z_25 ez_25 => ?_)
        replace hF := q_letX hF ez_25
        have iz_25 := q_addI (A := (m_c X σ a 5)) (B := 1) ez_25 if_24 (by decide) (by first | (clear if_1 if_2 c_3 if_7 c_8 c_16; omega) | omega) (by first | (clear if_2 c_3 if_7 c_8 c_16; omega) | omega)
        refine lv_iload_n hx hb dX12_nextKind_38 rfl (lv_at hl 0 rfl) ?_
        refine lv_irem hx hb dX12_nextKind_39 (q_ne0 (by first | (clear if_2 c_3 if_7 c_8 c_16 if_24 iz_25; omega) | omega)) ?_
        refine lv_topi (fun z_26 ez_26 => ?_)
        replace hF := q_letX hF (ez_26.trans (q_remI _ _))
        have rmz_26 := m_rem ez_26 (by first | (clear if_1 if_2 c_3 if_7 c_8 c_16; omega) | omega) (by first | (clear if_2 c_3 if_7 c_8 c_16 if_24 iz_25; omega) | omega)
        exact q_reti E hr hlk hI ⟨rfl, (by first | (clear hh if_2 c_3 if_7 c_8 c_16 if_24 iz_25; omega) | omega), (hF.trans hout)⟩ dX12_nextKind_40

set_option maxRecDepth 100000 in
set_option maxHeartbeats 4000000 in
theorem c_X12_behindOf (l : Launch) (X : XW) (σ : ST) (a : Nat) (v1 : Int32) (ha : q_kd X a = 12) (hG : m_G (m_c X σ a)) (h0 : 0 ≤ v1.toInt ∧ v1.toInt < m_c X σ a 2) : Met l yX12_behindOf (q_ws yX12_behindOf cX12_behindOf 2 (some .int)) (q_rm 0 0) (q_P X σ [.ref a, .int v1]) (q_Qi X 9 σ (fun (r : Int32) (σ' : ST) => σ' = σ ∧ (0 ≤ r.toInt ∧ r.toInt < m_c X σ a 2) ∧ ((v1.toInt + 1 < m_c X σ a 2 → r.toInt = v1.toInt + 1) ∧ (v1.toInt + 1 = m_c X σ a 2 → r.toInt = 0)) ∧ r = F_X12_behindOf X σ a v1)) 0 0 (q_reg X) := by
  refine q_met 9 (by first | exact rfl | decide +kernel) rfl (Nat.le_of_ble_eq_true rfl) (fun p e s m below meth c E hml hr hlk hI ls hl => ?_)
  have hx := E.1
  have hb := E.2.1
  have hl : lv_has ls 2 [(0, .ref a), (1, .int v1)] := hl
  have hh := hG.hd
  obtain ⟨out, hout⟩ : ∃ o, o = F_X12_behindOf X σ a v1 := ⟨_, rfl⟩
  have hF := hout.symm
  unfold F_X12_behindOf at hF
  refine lv_iload_n hx hb dX12_behindOf_0 rfl (lv_at hl 1 rfl) ?_
  refine lv_iconst (v := 1) hx hb dX12_behindOf_1 (by decide) ?_
  refine lv_iadd hx hb dX12_behindOf_2 ?_
  refine lv_topi (fun z_1 ez_1 => ?_)
  replace hF := q_letX hF ez_1
  have iz_1 := q_addI (A := v1.toInt) (B := 1) ez_1 rfl (by decide) (by first | (clear h0 hh; omega) | omega) (by first | (clear h0; omega) | omega)
  refine lv_aload_n hx hb dX12_behindOf_3 rfl (lv_at hl 0 rfl) ?_
  refine gs_X12_35_12 E hI ha dX12_behindOf_4 ?_
  refine lv_iconst (v := 2) hx hb dX12_behindOf_7 (by decide) ?_
  refine q_iald E hI (q_tk (k' := 34) hI ha rfl (by decide)) ⟨by decide, rfl⟩ (by decide) (by rw [q_lnk (v := 4650) hI (q_tk (k' := 34) hI ha rfl (by decide)) rfl (by decide)]; decide) dX12_behindOf_8 ?_
  refine lv_topi (fun f_2 ef_2 => ?_)
  replace hF := q_letX hF ef_2
  have if_2 : f_2.toInt = m_c X σ a 2 := m_rd ef_2 (by decide)
  refine lv_irem hx hb dX12_behindOf_9 (q_ne0 (by first | (clear h0 hh; omega) | omega)) ?_
  refine lv_topi (fun z_3 ez_3 => ?_)
  replace hF := q_letX hF (ez_3.trans (q_remI _ _))
  have rmz_3 := m_rem ez_3 (by first | (clear h0 hh if_2; omega) | omega) (by first | (clear h0; omega) | omega)
  exact q_reti E hr hlk hI ⟨rfl, (by first | (clear h0 hh iz_1; omega) | omega), (by first | (clear h0 hh; omega) | omega), (hF.trans hout)⟩ dX12_behindOf_10

set_option maxRecDepth 100000 in
set_option maxHeartbeats 4000000 in
theorem c_X12_waitsOf (l : Launch) (X : XW) (σ : ST) (a : Nat) (v1 : Int32) (ha : q_kd X a = 12) (hG : m_G (m_c X σ a)) (h0 : 0 ≤ v1.toInt ∧ v1.toInt < m_c X σ a 2) : Met l yX12_waitsOf (q_ws yX12_waitsOf cX12_waitsOf 3 (some .int)) (q_rm 1 21) (q_P X σ [.ref a, .int v1]) (q_Qi X 9 σ (fun (r : Int32) (σ' : ST) => σ' = σ ∧ (0 ≤ r.toInt ∧ r.toInt < m_c X σ a 2) ∧ r = F_X12_waitsOf X σ a v1)) 0 0 (q_reg X) := by
  refine q_met 9 (by first | exact rfl | decide +kernel) rfl (Nat.le_of_ble_eq_true rfl) (fun p e s m below meth c E hml hr hlk hI ls hl => ?_)
  have hx := E.1
  have hb := E.2.1
  have hl : lv_has ls 3 [(0, .ref a), (1, .int v1)] := hl
  have hh := hG.hd
  obtain ⟨out, hout⟩ : ∃ o, o = F_X12_waitsOf X σ a v1 := ⟨_, rfl⟩
  have hF := hout.symm
  unfold F_X12_waitsOf at hF
  refine lv_aload_n hx hb dX12_waitsOf_0 rfl (lv_at hl 0 rfl) ?_
  refine gs_X12_35_12 E hI ha dX12_waitsOf_1 ?_
  refine lv_bipush (v := 7) hx hb dX12_waitsOf_4 (by decide) ?_
  refine q_iald E hI (q_tk (k' := 34) hI ha rfl (by decide)) ⟨by decide, rfl⟩ (by decide) (by rw [q_lnk (v := 4650) hI (q_tk (k' := 34) hI ha rfl (by decide)) rfl (by decide)]; decide) dX12_waitsOf_6 ?_
  refine lv_topi (fun f_1 ef_1 => ?_)
  replace hF := q_letX hF ef_1
  have if_1 : f_1.toInt = m_c X σ a 7 := m_rd ef_1 (by decide)
  refine lv_iconst (v := 1) hx hb dX12_waitsOf_7 (by decide) ?_
  refine q_icmp_ne (A := f_1.toInt) (B := 1) E rfl (by decide) (tgt := 25) dX12_waitsOf_8 (by decide) (fun c_2 => ?_) (fun c_2 => ?_)
  · skip
    replace hF := q_ifn hF c_2
    refine lv_aload_n hx hb dX12_waitsOf_25 rfl (lv_at hl 0 rfl) ?_
    refine gs_X12_35_12 E hI ha dX12_waitsOf_26 ?_
    refine lv_bipush (v := 6) hx hb dX12_waitsOf_29 (by decide) ?_
    refine q_iald E hI (q_tk (k' := 34) hI ha rfl (by decide)) ⟨by decide, rfl⟩ (by decide) (by rw [q_lnk (v := 4650) hI (q_tk (k' := 34) hI ha rfl (by decide)) rfl (by decide)]; decide) dX12_waitsOf_31 ?_
    refine lv_topi (fun f_3 ef_3 => ?_)
    replace hF := q_letX hF ef_3
    have if_3 : f_3.toInt = m_c X σ a 6 := m_rd ef_3 (by decide)
    refine lv_istore_n (lv' := [(2, .int f_3), (0, .ref a), (1, .int v1)]) hx hb dX12_waitsOf_32 rfl hl (by decide) rfl (fun ls hl => ?_)
    refine lv_iload_n hx hb dX12_waitsOf_33 rfl (lv_at hl 2 rfl) ?_
    refine lv_iload_n hx hb dX12_waitsOf_34 rfl (lv_at hl 0 rfl) ?_
    refine lv_isub hx hb dX12_waitsOf_35 ?_
    refine lv_topi (fun z_4 ez_4 => ?_)
    replace hF := q_letX hF ez_4
    have iz_4 := q_subI (A := v1.toInt) (B := (m_c X σ a 6)) ez_4 rfl if_3 (by first | (clear h0 if_1 c_2; omega) | omega) (by first | (clear h0 if_1 c_2; omega) | omega)
    refine lv_aload_n hx hb dX12_waitsOf_36 rfl (lv_at hl 1 rfl) ?_
    refine gs_X12_35_12 E hI ha dX12_waitsOf_37 ?_
    refine lv_iconst (v := 2) hx hb dX12_waitsOf_40 (by decide) ?_
    refine q_iald E hI (q_tk (k' := 34) hI ha rfl (by decide)) ⟨by decide, rfl⟩ (by decide) (by rw [q_lnk (v := 4650) hI (q_tk (k' := 34) hI ha rfl (by decide)) rfl (by decide)]; decide) dX12_waitsOf_41 ?_
    refine lv_topi (fun f_5 ef_5 => ?_)
    replace hF := q_letX hF ef_5
    have if_5 : f_5.toInt = m_c X σ a 2 := m_rd ef_5 (by decide)
    refine lv_iadd hx hb dX12_waitsOf_42 ?_
    refine lv_topi (fun z_6 ez_6 => ?_)
    replace hF := q_letX hF ez_6
    have iz_6 := q_addI (A := (v1.toInt - (m_c X σ a 6))) (B := (m_c X σ a 2)) ez_6 iz_4 if_5 (by first | (clear h0 if_1 c_2; omega) | omega) (by first | (clear h0 if_1 c_2; omega) | omega)
    refine lv_aload_n hx hb dX12_waitsOf_43 rfl (lv_at hl 1 rfl) ?_
    refine gs_X12_35_12 E hI ha dX12_waitsOf_44 ?_
    refine lv_iconst (v := 2) hx hb dX12_waitsOf_47 (by decide) ?_
    refine q_iald E hI (q_tk (k' := 34) hI ha rfl (by decide)) ⟨by decide, rfl⟩ (by decide) (by rw [q_lnk (v := 4650) hI (q_tk (k' := 34) hI ha rfl (by decide)) rfl (by decide)]; decide) dX12_waitsOf_48 ?_
    refine lv_topi (fun f_7 ef_7 => ?_)
    replace hF := q_letX hF ef_7
    have if_7 : f_7.toInt = m_c X σ a 2 := m_rd ef_7 (by decide)
    refine lv_irem hx hb dX12_waitsOf_49 (q_ne0 (by first | (clear h0 hh if_1 c_2; omega) | omega)) ?_
    refine lv_topi (fun z_8 ez_8 => ?_)
    replace hF := q_letX hF (ez_8.trans (q_remI _ _))
    have rmz_8 := m_rem ez_8 (by first | (clear h0 if_1 c_2; omega) | omega) (by first | (clear h0 if_1 c_2; omega) | omega)
    exact q_reti E hr hlk hI ⟨rfl, (by first | (clear h0 hh if_1 c_2 if_3 iz_4 iz_6; omega) | omega), (hF.trans hout)⟩ dX12_waitsOf_50
  · skip
    replace hF := q_ifp hF c_2
    refine lv_aload_n hx hb dX12_waitsOf_11 rfl (lv_at hl 0 rfl) ?_
    refine lv_aload_n hx hb dX12_waitsOf_12 rfl (lv_at hl 0 rfl) ?_
    refine gs_X12_35_12 E hI ha dX12_waitsOf_13 ?_
    refine lv_bipush (v := 6) hx hb dX12_waitsOf_16 (by decide) ?_
    refine q_iald E hI (q_tk (k' := 34) hI ha rfl (by decide)) ⟨by decide, rfl⟩ (by decide) (by rw [q_lnk (v := 4650) hI (q_tk (k' := 34) hI ha rfl (by decide)) rfl (by decide)]; decide) dX12_waitsOf_18 ?_
    refine lv_topi (fun f_9 ef_9 => ?_)
    replace hF := q_letX hF ef_9
    have if_9 : f_9.toInt = m_c X σ a 6 := m_rd ef_9 (by decide)
    refine q_ci (q_runV (As := [.int f_9]) (rest := []) E (hml.trans hl.1.symm) hI (c_X12_behindOf l X σ a f_9 ha hG (by first | (clear h0; omega) | omega)) kv_X12_319 ha ⟨rfl, by decide⟩ (show vwCl[11]? = some (RX12, TX12, 46) from rfl) rfl ⟨Nat.le_of_ble_eq_true rfl, Nat.le_of_ble_eq_true rfl⟩ ⟨Nat.le_refl _, Nat.le_refl _⟩ rfl (Nat.le_of_ble_eq_true rfl) dX12_waitsOf_19) hI (by decide) (fun r_10 σ_11 H locs hpσ_11 hkσ_11 hI => ?_)
    obtain ⟨ahpσ_11, bhpσ_11, chpσ_11, dhpσ_11⟩ := hpσ_11
    rw [ahpσ_11] at hI
    replace hF := q_letX hF dhpσ_11
    refine lv_goto (tgt := 32) hx hb dX12_waitsOf_22 (by decide) ?_
    refine lv_istore_n (lv' := [(2, .int r_10), (0, .ref a), (1, .int v1)]) hx hb dX12_waitsOf_32 rfl hl (by decide) rfl (fun ls hl => ?_)
    refine lv_iload_n hx hb dX12_waitsOf_33 rfl (lv_at hl 2 rfl) ?_
    refine lv_iload_n hx hb dX12_waitsOf_34 rfl (lv_at hl 0 rfl) ?_
    refine lv_isub hx hb dX12_waitsOf_35 ?_
    refine lv_topi (fun z_12 ez_12 => ?_)
    replace hF := q_letX hF ez_12
    have iz_12 := q_subI (A := v1.toInt) (B := r_10.toInt) ez_12 rfl rfl (by first | (clear h0 if_1 c_2 if_9 ahpσ_11 chpσ_11 dhpσ_11; omega) | omega) (by first | (clear h0 if_1 c_2 if_9 ahpσ_11 chpσ_11 dhpσ_11; omega) | omega)
    refine lv_aload_n hx hb dX12_waitsOf_36 rfl (lv_at hl 1 rfl) ?_
    refine gs_X12_35_12 E hI ha dX12_waitsOf_37 ?_
    refine lv_iconst (v := 2) hx hb dX12_waitsOf_40 (by decide) ?_
    refine q_iald E hI (q_tk (k' := 34) hI ha rfl (by decide)) ⟨by decide, rfl⟩ (by decide) (by rw [q_lnk (v := 4650) hI (q_tk (k' := 34) hI ha rfl (by decide)) rfl (by decide)]; decide) dX12_waitsOf_41 ?_
    refine lv_topi (fun f_13 ef_13 => ?_)
    replace hF := q_letX hF ef_13
    have if_13 : f_13.toInt = m_c X σ a 2 := m_rd ef_13 (by decide)
    refine lv_iadd hx hb dX12_waitsOf_42 ?_
    refine lv_topi (fun z_14 ez_14 => ?_)
    replace hF := q_letX hF ez_14
    have iz_14 := q_addI (A := (v1.toInt - r_10.toInt)) (B := (m_c X σ a 2)) ez_14 iz_12 if_13 (by first | (clear h0 hh if_1 c_2 if_9 ahpσ_11 chpσ_11 dhpσ_11; omega) | omega) (by first | (clear h0 ahpσ_11 chpσ_11 dhpσ_11; omega) | omega)
    refine lv_aload_n hx hb dX12_waitsOf_43 rfl (lv_at hl 1 rfl) ?_
    refine gs_X12_35_12 E hI ha dX12_waitsOf_44 ?_
    refine lv_iconst (v := 2) hx hb dX12_waitsOf_47 (by decide) ?_
    refine q_iald E hI (q_tk (k' := 34) hI ha rfl (by decide)) ⟨by decide, rfl⟩ (by decide) (by rw [q_lnk (v := 4650) hI (q_tk (k' := 34) hI ha rfl (by decide)) rfl (by decide)]; decide) dX12_waitsOf_48 ?_
    refine lv_topi (fun f_15 ef_15 => ?_)
    replace hF := q_letX hF ef_15
    have if_15 : f_15.toInt = m_c X σ a 2 := m_rd ef_15 (by decide)
    refine lv_irem hx hb dX12_waitsOf_49 (q_ne0 (by first | (clear h0 hh if_1 c_2 if_9 ahpσ_11 bhpσ_11 chpσ_11 dhpσ_11; omega) | omega)) ?_
    refine lv_topi (fun z_16 ez_16 => ?_)
    replace hF := q_letX hF (ez_16.trans (q_remI _ _))
    have rmz_16 := m_rem ez_16 (by first | (clear h0 hh if_1 c_2 if_9 ahpσ_11 chpσ_11 dhpσ_11; omega) | omega) (by first | (clear h0 if_1 c_2 if_9 ahpσ_11 bhpσ_11 chpσ_11 dhpσ_11; omega) | omega)
    exact q_reti E hr hlk hI ⟨rfl, (by first | (clear h0 hh if_1 c_2 if_9 ahpσ_11 bhpσ_11 chpσ_11 dhpσ_11 iz_12 iz_14; omega) | omega), (hF.trans hout)⟩ dX12_waitsOf_50

set_option maxRecDepth 100000 in
set_option maxHeartbeats 4000000 in
theorem c_X12_fallsTo (l : Launch) (X : XW) (σ : ST) (a : Nat) (v1 : Int32) (v2 : Int32) (ha : q_kd X a = 12) (hG : m_G (m_c X σ a)) (h0 : 0 ≤ v1.toInt ∧ v1.toInt < m_c X σ a 2) (h1 : 0 ≤ v2.toInt ∧ v2.toInt ≤ 60) : Met l yX12_fallsTo (q_ws yX12_fallsTo cX12_fallsTo 5 (some .int)) (q_rm 2 43) (q_P X σ [.ref a, .int v1, .int v2]) (q_Qi X 9 σ (fun (r : Int32) (σ' : ST) => σ' = σ ∧ (0 ≤ r.toInt ∧ r.toInt < m_c X σ a 0) ∧ r = F_X12_fallsTo X σ a v1 v2)) 0 0 (q_reg X) := by
  refine q_met 9 (by first | exact rfl | decide +kernel) rfl (Nat.le_of_ble_eq_true rfl) (fun p e s m below meth c E hml hr hlk hI ls hl => ?_)
  have hx := E.1
  have hb := E.2.1
  have hl : lv_has ls 5 [(0, .ref a), (1, .int v1), (2, .int v2)] := hl
  have hh := hG.hd
  obtain ⟨out, hout⟩ : ∃ o, o = F_X12_fallsTo X σ a v1 v2 := ⟨_, rfl⟩
  have hF := hout.symm
  unfold F_X12_fallsTo at hF
  refine lv_aload_n hx hb dX12_fallsTo_0 rfl (lv_at hl 0 rfl) ?_
  refine gs_X12_35_12 E hI ha dX12_fallsTo_1 ?_
  refine lv_bipush (v := 7) hx hb dX12_fallsTo_4 (by decide) ?_
  refine q_iald E hI (q_tk (k' := 34) hI ha rfl (by decide)) ⟨by decide, rfl⟩ (by decide) (by rw [q_lnk (v := 4650) hI (q_tk (k' := 34) hI ha rfl (by decide)) rfl (by decide)]; decide) dX12_fallsTo_6 ?_
  refine lv_topi (fun f_1 ef_1 => ?_)
  replace hF := q_letX hF ef_1
  have if_1 : f_1.toInt = m_c X σ a 7 := m_rd ef_1 (by decide)
  refine lv_iconst (v := 1) hx hb dX12_fallsTo_7 (by decide) ?_
  have J_25_2 : ∀ (x_2 : Int32) (H : Heap) (locs : List Loc) (ls : Array Slot), (0 ≤ x_2.toInt ∧ x_2.toInt < m_c X σ a 0) → (F_X12_fallsTo_J25_1 X σ a v1 v2 x_2 = out) → q_I X 9 σ s.heap locs σ H → lv_has ls 5 [(0, .ref a), (1, .int v1), (2, .int v2)] → W p l e (q_rm 2 43) s m ([.ref a, .int v1, .int v2] : List Value).toArray below meth c H locs 0 0 (MQ below (q_Qi X 9 σ (fun (r : Int32) (σ' : ST) => σ' = σ ∧ (0 ≤ r.toInt ∧ r.toInt < m_c X σ a 0) ∧ r = F_X12_fallsTo X σ a v1 v2)) ([.ref a, .int v1, .int v2] : List Value).toArray s 0 0 (q_reg X)) (F0 m 25 ls [.int x_2]) := by
    clear hF
    intro x_2 H locs ls j25 hF hI hl
    unfold F_X12_fallsTo_J25_1 at hF
    refine lv_istore_n (lv' := [(3, .int x_2), (0, .ref a), (1, .int v1), (2, .int v2)]) hx hb dX12_fallsTo_25 rfl hl (by decide) rfl (fun ls hl => ?_)
    refine lv_aload_n hx hb dX12_fallsTo_26 rfl (lv_at hl 1 rfl) ?_
    refine lv_iload_n hx hb dX12_fallsTo_27 rfl (lv_at hl 2 rfl) ?_
    refine q_ci (q_runV (As := [.int v1]) (rest := []) E (hml.trans hl.1.symm) hI (c_X12_waitsOf l X σ a v1 ha hG (by omega)) kv_X12_367 ha ⟨rfl, by decide⟩ (show vwCl[11]? = some (RX12, TX12, 46) from rfl) rfl ⟨Nat.le_of_ble_eq_true rfl, Nat.le_of_ble_eq_true rfl⟩ ⟨Nat.le_refl _, Nat.le_refl _⟩ rfl (Nat.le_of_ble_eq_true rfl) dX12_fallsTo_28) hI (by decide) (fun r_3 σ_4 H locs hpσ_4 hkσ_4 hI => ?_)
    obtain ⟨ahpσ_4, bhpσ_4, chpσ_4⟩ := hpσ_4
    rw [ahpσ_4] at hI
    replace hF := q_letX hF chpσ_4
    refine lv_iload_n hx hb dX12_fallsTo_31 rfl (lv_at hl 3 rfl) ?_
    refine lv_aload_n hx hb dX12_fallsTo_32 rfl (lv_at hl 1 rfl) ?_
    refine gs_X12_35_12 E hI ha dX12_fallsTo_33 ?_
    refine lv_iconst (v := 2) hx hb dX12_fallsTo_36 (by decide) ?_
    refine q_iald E hI (q_tk (k' := 34) hI ha rfl (by decide)) ⟨by decide, rfl⟩ (by decide) (by rw [q_lnk (v := 4650) hI (q_tk (k' := 34) hI ha rfl (by decide)) rfl (by decide)]; decide) dX12_fallsTo_37 ?_
    refine lv_topi (fun f_5 ef_5 => ?_)
    replace hF := q_letX hF ef_5
    have if_5 : f_5.toInt = m_c X σ a 2 := m_rd ef_5 (by decide)
    have mb := m_mulI (a := v2.toInt) (A := 60) (b := (m_c X σ a 2)) (B := 6) (by first | (clear h0 h1 hh if_1 j25 ahpσ_4 bhpσ_4 chpσ_4 if_5; omega) | omega) (by first | (clear h0 h1 hh if_1 j25 ahpσ_4 bhpσ_4 chpσ_4 if_5; omega) | omega) (by first | (clear h0 h1 if_1 j25 ahpσ_4 bhpσ_4 chpσ_4; omega) | omega) (by first | (clear h0 h1 if_1 j25 ahpσ_4 bhpσ_4 chpσ_4; omega) | omega)
    refine lv_imul hx hb dX12_fallsTo_38 ?_
    refine lv_topi (fun z_6 ez_6 => ?_)
    replace hF := q_letX hF ez_6
    have iz_6 := q_mulI (A := v2.toInt) (B := (m_c X σ a 2)) ez_6 rfl if_5 (by first | (clear h0 h1 hh if_1 j25 ahpσ_4 bhpσ_4 chpσ_4 if_5; omega) | omega) (by first | (clear h0 h1 hh if_1 j25 ahpσ_4 bhpσ_4 chpσ_4 if_5; omega) | omega)
    refine lv_iadd hx hb dX12_fallsTo_39 ?_
    refine lv_topi (fun z_7 ez_7 => ?_)
    replace hF := q_letX hF ez_7
    have iz_7 := q_addI (A := r_3.toInt) (B := (v2.toInt * (m_c X σ a 2))) ez_7 rfl iz_6 (by first | (clear h0 h1 hh if_1 j25 ahpσ_4 chpσ_4 if_5; omega) | omega) (by first | (clear h0 h1 if_1 j25 ahpσ_4 chpσ_4; omega) | omega)
    refine lv_aload_n hx hb dX12_fallsTo_40 rfl (lv_at hl 1 rfl) ?_
    refine gs_X12_35_12 E hI ha dX12_fallsTo_41 ?_
    refine lv_iconst (v := 0) hx hb dX12_fallsTo_44 (by decide) ?_
    refine q_iald E hI (q_tk (k' := 34) hI ha rfl (by decide)) ⟨by decide, rfl⟩ (by decide) (by rw [q_lnk (v := 4650) hI (q_tk (k' := 34) hI ha rfl (by decide)) rfl (by decide)]; decide) dX12_fallsTo_45 ?_
    refine lv_topi (fun f_8 ef_8 => ?_)
    replace hF := q_letX hF ef_8
    have if_8 : f_8.toInt = m_c X σ a 0 := m_rd ef_8 (by decide)
    refine lv_irem hx hb dX12_fallsTo_46 (q_ne0 (by first | (clear h0 h1 if_1 j25 ahpσ_4 bhpσ_4 chpσ_4 if_5 mb iz_6 iz_7; omega) | omega)) ?_
    refine lv_topi (fun z_9 ez_9 => ?_)
    replace hF := q_letX hF (ez_9.trans (q_remI _ _))
    have rmz_9 := m_rem ez_9 (by first | (clear h0 h1 hh if_1 j25 ahpσ_4 chpσ_4 if_5 if_8; omega) | omega) (by first | (clear h0 h1 if_1 j25 ahpσ_4 bhpσ_4 chpσ_4 if_5 mb iz_6 iz_7; omega) | omega)
    refine lv_istore (lv' := [(4, .int z_9), (3, .int x_2), (0, .ref a), (1, .int v1), (2, .int v2)]) hx hb dX12_fallsTo_47 hl (by decide) rfl (fun ls hl => ?_)
    refine lv_aload_n hx hb dX12_fallsTo_49 rfl (lv_at hl 2 rfl) ?_
    refine gs_X12_35_12 E hI ha dX12_fallsTo_50 ?_
    refine lv_iconst (v := 3) hx hb dX12_fallsTo_53 (by decide) ?_
    refine q_iald E hI (q_tk (k' := 34) hI ha rfl (by decide)) ⟨by decide, rfl⟩ (by decide) (by rw [q_lnk (v := 4650) hI (q_tk (k' := 34) hI ha rfl (by decide)) rfl (by decide)]; decide) dX12_fallsTo_54 ?_
    refine lv_topi (fun f_10 ef_10 => ?_)
    replace hF := q_letX hF ef_10
    have if_10 : f_10.toInt = m_c X σ a 3 := m_rd ef_10 (by decide)
    refine q_if_ne (A := f_10.toInt) E rfl (tgt := 72) dX12_fallsTo_55 (by decide) (fun c_11 => ?_) (fun c_11 => ?_)
    · skip
      replace hF := q_ifn hF c_11
      refine lv_aload_n hx hb dX12_fallsTo_72 rfl (lv_at hl 2 rfl) ?_
      refine gs_X12_35_12 E hI ha dX12_fallsTo_73 ?_
      refine lv_iconst (v := 3) hx hb dX12_fallsTo_76 (by decide) ?_
      refine q_iald E hI (q_tk (k' := 34) hI ha rfl (by decide)) ⟨by decide, rfl⟩ (by decide) (by rw [q_lnk (v := 4650) hI (q_tk (k' := 34) hI ha rfl (by decide)) rfl (by decide)]; decide) dX12_fallsTo_77 ?_
      refine lv_topi (fun f_12 ef_12 => ?_)
      replace hF := q_letX hF ef_12
      have if_12 : f_12.toInt = m_c X σ a 3 := m_rd ef_12 (by decide)
      refine lv_iconst (v := 1) hx hb dX12_fallsTo_78 (by decide) ?_
      refine q_icmp_ne (A := f_12.toInt) (B := 1) E rfl (by decide) (tgt := 103) dX12_fallsTo_79 (by decide) (fun c_13 => ?_) (fun c_13 => ?_)
      · skip
        replace hF := q_ifn hF c_13
        refine lv_iload_n hx hb dX12_fallsTo_103 rfl (lv_at hl 1 rfl) ?_
        exact q_reti E hr hlk hI ⟨rfl, (by omega), (hF.trans hout)⟩ dX12_fallsTo_104
      · skip
        replace hF := q_ifp hF c_13
        refine lv_iload_n hx hb dX12_fallsTo_82 rfl (lv_at hl 1 rfl) ?_
        refine lv_aload_n hx hb dX12_fallsTo_83 rfl (lv_at hl 2 rfl) ?_
        refine gs_X12_35_12 E hI ha dX12_fallsTo_84 ?_
        refine lv_iconst (v := 0) hx hb dX12_fallsTo_87 (by decide) ?_
        refine q_iald E hI (q_tk (k' := 34) hI ha rfl (by decide)) ⟨by decide, rfl⟩ (by decide) (by rw [q_lnk (v := 4650) hI (q_tk (k' := 34) hI ha rfl (by decide)) rfl (by decide)]; decide) dX12_fallsTo_88 ?_
        refine lv_topi (fun f_14 ef_14 => ?_)
        replace hF := q_letX hF ef_14
        have if_14 : f_14.toInt = m_c X σ a 0 := m_rd ef_14 (by decide)
        refine lv_iadd hx hb dX12_fallsTo_89 ?_
        refine lv_topi (fun z_15 ez_15 => ?_)
        replace hF := q_letX hF ez_15
        have iz_15 := q_addI (A := x_2.toInt) (B := (m_c X σ a 0)) ez_15 rfl if_14 (by first | (clear h0 h1 if_1 ahpσ_4 bhpσ_4 chpσ_4 if_5 mb iz_6 iz_7 rmz_9 if_10 c_11 if_12 c_13; omega) | omega) (by first | (clear h0 h1 if_1 ahpσ_4 bhpσ_4 chpσ_4 if_5 mb iz_6 iz_7 rmz_9 if_10 c_11 if_12 c_13; omega) | omega)
        refine lv_iload hx hb dX12_fallsTo_90 (lv_at hl 0 rfl) ?_
        refine lv_isub hx hb dX12_fallsTo_92 ?_
        refine lv_topi (fun z_16 ez_16 => ?_)
        replace hF := q_letX hF ez_16
        have iz_16 := q_subI (A := (x_2.toInt + (m_c X σ a 0))) (B := z_9.toInt) ez_16 iz_15 rfl (by first | (clear h0 h1 hh if_1 ahpσ_4 bhpσ_4 chpσ_4 if_5 mb iz_6 iz_7 if_10 c_11 if_12 c_13; omega) | omega) (by first | (clear h0 h1 if_1 ahpσ_4 bhpσ_4 chpσ_4 if_5 mb iz_6 iz_7 if_10 c_11 if_12 c_13; omega) | omega)
        refine lv_aload_n hx hb dX12_fallsTo_93 rfl (lv_at hl 2 rfl) ?_
        refine gs_X12_35_12 E hI ha dX12_fallsTo_94 ?_
        refine lv_iconst (v := 0) hx hb dX12_fallsTo_97 (by decide) ?_
        refine q_iald E hI (q_tk (k' := 34) hI ha rfl (by decide)) ⟨by decide, rfl⟩ (by decide) (by rw [q_lnk (v := 4650) hI (q_tk (k' := 34) hI ha rfl (by decide)) rfl (by decide)]; decide) dX12_fallsTo_98 ?_
        refine lv_topi (fun f_17 ef_17 => ?_)
        replace hF := q_letX hF ef_17
        have if_17 : f_17.toInt = m_c X σ a 0 := m_rd ef_17 (by decide)
        refine lv_irem hx hb dX12_fallsTo_99 (q_ne0 (by first | (clear h0 h1 if_1 j25 ahpσ_4 bhpσ_4 chpσ_4 if_5 mb iz_6 iz_7 rmz_9 if_10 c_11 if_12 c_13 iz_15 iz_16; omega) | omega)) ?_
        refine lv_topi (fun z_18 ez_18 => ?_)
        replace hF := q_letX hF (ez_18.trans (q_remI _ _))
        have rmz_18 := m_rem ez_18 (by first | (clear h0 h1 hh if_1 ahpσ_4 bhpσ_4 chpσ_4 if_5 mb iz_6 iz_7 if_10 c_11 if_12 c_13; omega) | omega) (by first | (clear h0 h1 if_1 j25 ahpσ_4 bhpσ_4 chpσ_4 if_5 mb iz_6 iz_7 rmz_9 if_10 c_11 if_12 c_13 iz_15 iz_16; omega) | omega)
        refine lv_goto (tgt := 104) hx hb dX12_fallsTo_100 (by decide) ?_
        exact q_reti E hr hlk hI ⟨rfl, (by first | (clear h0 h1 hh if_1 j25 ahpσ_4 bhpσ_4 chpσ_4 if_5 mb iz_6 iz_7 rmz_9 if_10 c_11 if_12 c_13 iz_15 iz_16; omega) | omega), (hF.trans hout)⟩ dX12_fallsTo_104
    · skip
      replace hF := q_ifp hF c_11
      refine lv_iload_n hx hb dX12_fallsTo_58 rfl (lv_at hl 1 rfl) ?_
      refine lv_iload hx hb dX12_fallsTo_59 (lv_at hl 0 rfl) ?_
      refine lv_iadd hx hb dX12_fallsTo_61 ?_
      refine lv_topi (fun z_19 ez_19 => ?_)
      replace hF := q_letX hF ez_19
      have iz_19 := q_addI (A := x_2.toInt) (B := z_9.toInt) ez_19 rfl rfl (by first | (clear h0 h1 hh if_1 ahpσ_4 bhpσ_4 chpσ_4 if_5 mb iz_6 iz_7 if_8 if_10 c_11; omega) | omega) (by first | (clear h0 h1 if_1 ahpσ_4 bhpσ_4 chpσ_4 if_5 mb iz_6 iz_7 if_10 c_11; omega) | omega)
      refine lv_aload_n hx hb dX12_fallsTo_62 rfl (lv_at hl 2 rfl) ?_
      refine gs_X12_35_12 E hI ha dX12_fallsTo_63 ?_
      refine lv_iconst (v := 0) hx hb dX12_fallsTo_66 (by decide) ?_
      refine q_iald E hI (q_tk (k' := 34) hI ha rfl (by decide)) ⟨by decide, rfl⟩ (by decide) (by rw [q_lnk (v := 4650) hI (q_tk (k' := 34) hI ha rfl (by decide)) rfl (by decide)]; decide) dX12_fallsTo_67 ?_
      refine lv_topi (fun f_20 ef_20 => ?_)
      replace hF := q_letX hF ef_20
      have if_20 : f_20.toInt = m_c X σ a 0 := m_rd ef_20 (by decide)
      refine lv_irem hx hb dX12_fallsTo_68 (q_ne0 (by first | (clear h0 h1 if_1 j25 ahpσ_4 bhpσ_4 chpσ_4 if_5 mb iz_6 iz_7 rmz_9 if_10 c_11 iz_19; omega) | omega)) ?_
      refine lv_topi (fun z_21 ez_21 => ?_)
      replace hF := q_letX hF (ez_21.trans (q_remI _ _))
      have rmz_21 := m_rem ez_21 (by first | (clear h0 h1 hh if_1 ahpσ_4 bhpσ_4 chpσ_4 if_5 mb iz_6 iz_7 if_8 if_10 c_11 if_20; omega) | omega) (by first | (clear h0 h1 if_1 j25 ahpσ_4 bhpσ_4 chpσ_4 if_5 mb iz_6 iz_7 rmz_9 if_10 c_11 iz_19; omega) | omega)
      refine lv_goto (tgt := 104) hx hb dX12_fallsTo_69 (by decide) ?_
      exact q_reti E hr hlk hI ⟨rfl, (by first | (clear h0 h1 hh if_1 j25 ahpσ_4 bhpσ_4 chpσ_4 if_5 mb iz_6 iz_7 rmz_9 if_10 c_11 iz_19; omega) | omega), (hF.trans hout)⟩ dX12_fallsTo_104
  refine q_icmp_ne (A := f_1.toInt) (B := 1) E rfl (by decide) (tgt := 19) dX12_fallsTo_8 (by decide) (fun c_22 => ?_) (fun c_22 => ?_)
  · skip
    replace hF := q_ifn hF c_22
    refine lv_aload_n hx hb dX12_fallsTo_19 rfl (lv_at hl 0 rfl) ?_
    refine gs_X12_35_12 E hI ha dX12_fallsTo_20 ?_
    refine lv_iconst (v := 5) hx hb dX12_fallsTo_23 (by decide) ?_
    refine q_iald E hI (q_tk (k' := 34) hI ha rfl (by decide)) ⟨by decide, rfl⟩ (by decide) (by rw [q_lnk (v := 4650) hI (q_tk (k' := 34) hI ha rfl (by decide)) rfl (by decide)]; decide) dX12_fallsTo_24 ?_
    refine lv_topi (fun f_23 ef_23 => ?_)
    replace hF := q_letX hF ef_23
    have if_23 : f_23.toInt = m_c X σ a 5 := m_rd ef_23 (by decide)
    exact J_25_2 f_23 _ _ ls (by first | (clear h0 h1 if_1 c_22; omega) | omega) hF hI (lv_sub hl [0, 1, 2] rfl)
  · skip
    replace hF := q_ifp hF c_22
    refine lv_aload_n hx hb dX12_fallsTo_11 rfl (lv_at hl 0 rfl) ?_
    refine lv_iconst (v := 1) hx hb dX12_fallsTo_12 (by decide) ?_
    have kc_24 : (1 : Int32).toInt = 1 := rfl
    refine q_ci (q_runV (As := [.int 1]) (rest := []) E (hml.trans hl.1.symm) hI (c_X12_nextKind l X σ a (1 : Int32) ha hG) kv_X12_315 ha ⟨rfl, by decide⟩ (show vwCl[11]? = some (RX12, TX12, 46) from rfl) rfl ⟨Nat.le_of_ble_eq_true rfl, Nat.le_of_ble_eq_true rfl⟩ ⟨Nat.le_refl _, Nat.le_refl _⟩ rfl (Nat.le_of_ble_eq_true rfl) dX12_fallsTo_13) hI (by decide) (fun r_25 σ_26 H locs hpσ_26 hkσ_26 hI => ?_)
    obtain ⟨ahpσ_26, bhpσ_26, chpσ_26⟩ := hpσ_26
    rw [ahpσ_26] at hI
    replace hF := q_letX hF chpσ_26
    refine lv_goto (tgt := 25) hx hb dX12_fallsTo_16 (by decide) ?_
    exact J_25_2 r_25 _ _ ls (by omega) hF hI (lv_sub hl [0, 1, 2] rfl)

set_option maxRecDepth 100000 in
set_option maxHeartbeats 4000000 in
theorem c_X12_isImpossible (l : Launch) (X : XW) (σ : ST) (a : Nat) (v1 : Int32) (ha : q_kd X a = 12) (hG : m_G (m_c X σ a)) (h0 : 0 ≤ v1.toInt ∧ v1.toInt < m_c X σ a 2) (ho : 1 ≤ m_c X σ a 9) : Met l yX12_isImpossible (q_ws yX12_isImpossible cX12_isImpossible 2 (some .boolean)) (q_rm 4 91) (q_P X σ [.ref a, .int v1]) (q_Qi X 9 σ (fun (r : Int32) (σ' : ST) => σ' = σ ∧ (0 ≤ r.toInt ∧ r.toInt ≤ 1) ∧ r = F_X12_isImpossible X σ a v1)) 0 0 (q_reg X) := by
  refine q_met 9 (by first | exact rfl | decide +kernel) rfl (Nat.le_of_ble_eq_true rfl) (fun p e s m below meth c E hml hr hlk hI ls hl => ?_)
  have hx := E.1
  have hb := E.2.1
  have hl : lv_has ls 2 [(0, .ref a), (1, .int v1)] := hl
  have hh := hG.hd
  obtain ⟨out, hout⟩ : ∃ o, o = F_X12_isImpossible X σ a v1 := ⟨_, rfl⟩
  have hF := hout.symm
  unfold F_X12_isImpossible at hF
  refine lv_aload_n hx hb dX12_isImpossible_0 rfl (lv_at hl 0 rfl) ?_
  refine lv_iload_n hx hb dX12_isImpossible_1 rfl (lv_at hl 1 rfl) ?_
  refine lv_aload_n hx hb dX12_isImpossible_2 rfl (lv_at hl 0 rfl) ?_
  refine gs_X12_35_12 E hI ha dX12_isImpossible_3 ?_
  refine lv_iconst (v := 5) hx hb dX12_isImpossible_6 (by decide) ?_
  refine q_iald E hI (q_tk (k' := 34) hI ha rfl (by decide)) ⟨by decide, rfl⟩ (by decide) (by rw [q_lnk (v := 4650) hI (q_tk (k' := 34) hI ha rfl (by decide)) rfl (by decide)]; decide) dX12_isImpossible_7 ?_
  refine lv_topi (fun f_1 ef_1 => ?_)
  replace hF := q_letX hF ef_1
  have if_1 : f_1.toInt = m_c X σ a 5 := m_rd ef_1 (by decide)
  refine q_ci (q_runV (As := [.int v1, .int f_1]) (rest := []) E (hml.trans hl.1.symm) hI (c_X12_unknownOf l X σ a v1 f_1 ha hG (by omega) (by first | (clear h0 ho; omega) | omega)) kv_X12_336 ha ⟨rfl, by decide⟩ (show vwCl[11]? = some (RX12, TX12, 46) from rfl) rfl ⟨Nat.le_of_ble_eq_true rfl, Nat.le_of_ble_eq_true rfl⟩ ⟨Nat.le_refl _, Nat.le_refl _⟩ rfl (Nat.le_of_ble_eq_true rfl) dX12_isImpossible_8) hI (by decide) (fun r_2 σ_3 H locs hpσ_3 hkσ_3 hI => ?_)
  obtain ⟨ahpσ_3, bhpσ_3, chpσ_3, dhpσ_3⟩ := hpσ_3
  rw [ahpσ_3] at hI
  replace hF := q_letX hF dhpσ_3
  have ir_2 : r_2.toInt = (m_U (m_c X σ a) v1.toInt (m_c X σ a 5)) := (by first | exact bhpσ_3 | (rw [bhpσ_3, if_1]) | (simp only [bhpσ_3, if_1]))
  refine lv_aload_n hx hb dX12_isImpossible_11 rfl (lv_at hl 0 rfl) ?_
  refine gs_X12_35_12 E hI ha dX12_isImpossible_12 ?_
  refine lv_aload_n hx hb dX12_isImpossible_15 rfl (lv_at hl 0 rfl) ?_
  refine gs_X12_35_12 E hI ha dX12_isImpossible_16 ?_
  refine lv_bipush (v := 9) hx hb dX12_isImpossible_19 (by decide) ?_
  refine q_iald E hI (q_tk (k' := 34) hI ha rfl (by decide)) ⟨by decide, rfl⟩ (by decide) (by rw [q_lnk (v := 4650) hI (q_tk (k' := 34) hI ha rfl (by decide)) rfl (by decide)]; decide) dX12_isImpossible_21 ?_
  refine lv_topi (fun f_4 ef_4 => ?_)
  replace hF := q_letX hF ef_4
  have if_4 : f_4.toInt = m_c X σ a 9 := m_rd ef_4 (by decide)
  refine lv_iconst (v := 1) hx hb dX12_isImpossible_22 (by decide) ?_
  refine lv_isub hx hb dX12_isImpossible_23 ?_
  refine lv_topi (fun z_5 ez_5 => ?_)
  replace hF := q_letX hF ez_5
  have iz_5 := q_subI (A := (m_c X σ a 9)) (B := 1) ez_5 if_4 (by decide) (by first | (clear h0 if_1 ahpσ_3 bhpσ_3 chpσ_3 dhpσ_3 ir_2; omega) | omega) (by first | (clear h0 if_1 ahpσ_3 bhpσ_3 chpσ_3 dhpσ_3 ir_2; omega) | omega)
  refine q_ci (q_runS (As := [.int z_5]) (rest := [.ref (q_rf X a 20), .int r_2]) E (hml.trans hl.1.symm) hI (c_X12_laid l X σ z_5 (by first | (clear h0 if_1 ahpσ_3 bhpσ_3 chpσ_3 dhpσ_3 ir_2; omega) | omega)) ks_X12_279 rfl ⟨Nat.le_of_ble_eq_true rfl, Nat.le_of_ble_eq_true rfl⟩ ⟨Nat.le_refl _, Nat.le_refl _⟩ rfl (Nat.le_of_ble_eq_true rfl) dX12_isImpossible_24) hI (by decide) (fun r_6 σ_7 H locs hpσ_7 hkσ_7 hI => ?_)
  obtain ⟨ahpσ_7, bhpσ_7, chpσ_7⟩ := hpσ_7
  rw [ahpσ_7] at hI
  replace hF := q_letX hF chpσ_7
  have ir_6 : r_6.toInt = (94 + 7 * ((m_c X σ a 9) - 1)) := (by first | (clear h0 ho hh if_1 ahpσ_3 bhpσ_3 chpσ_3 dhpσ_3 ir_2 ahpσ_7 chpσ_7; omega) | omega)
  refine lv_iconst (v := 2) hx hb dX12_isImpossible_27 (by decide) ?_
  refine lv_iadd hx hb dX12_isImpossible_28 ?_
  refine lv_topi (fun z_8 ez_8 => ?_)
  replace hF := q_letX hF ez_8
  have iz_8 := q_addI (A := (94 + 7 * ((m_c X σ a 9) - 1))) (B := 2) ez_8 ir_6 (by decide) (by first | (clear h0 if_1 ahpσ_3 bhpσ_3 chpσ_3 dhpσ_3 ir_2 ahpσ_7 bhpσ_7 chpσ_7 ir_6; omega) | omega) (by first | (clear h0 if_1 ahpσ_3 bhpσ_3 chpσ_3 dhpσ_3 ir_2 ahpσ_7 bhpσ_7 chpσ_7 ir_6; omega) | omega)
  refine q_iald E hI (q_tk (k' := 34) hI ha rfl (by decide)) ⟨by decide, rfl⟩ (by first | (clear h0 if_1 ahpσ_3 bhpσ_3 chpσ_3 dhpσ_3 ir_2 ahpσ_7 bhpσ_7 chpσ_7 ir_6; omega) | omega) (by rw [q_lnk (v := 4650) hI (q_tk (k' := 34) hI ha rfl (by decide)) rfl (by decide)]; omega) dX12_isImpossible_29 ?_
  refine lv_topi (fun f_9 ef_9 => ?_)
  replace hF := q_letX hF ef_9
  have if_9 : f_9.toInt = m_c X σ a ((94 + 7 * ((m_c X σ a 9) - 1)) + 2) := m_rd ef_9 iz_8
  refine q_icmp_ge (A := r_2.toInt) (B := f_9.toInt) E rfl rfl (tgt := 37) dX12_isImpossible_30 (by decide) (fun c_10 => ?_) (fun c_10 => ?_)
  · skip
    replace hF := q_ifn hF (Int.not_lt.mpr c_10)
    refine lv_iconst (v := 0) hx hb dX12_isImpossible_37 (by decide) ?_
    have hrv : (0 : Int32).toInt = 0 := rfl
    exact q_retz E hr hlk hI ⟨by decide, by decide⟩ ⟨rfl, ⟨by decide, by decide⟩, (hF.trans hout)⟩ dX12_isImpossible_38
  · skip
    replace hF := q_ifp hF c_10
    refine lv_iconst (v := 1) hx hb dX12_isImpossible_33 (by decide) ?_
    refine lv_goto (tgt := 38) hx hb dX12_isImpossible_34 (by decide) ?_
    have hrv : (1 : Int32).toInt = 1 := rfl
    exact q_retz E hr hlk hI ⟨by decide, by decide⟩ ⟨rfl, ⟨by decide, by decide⟩, (hF.trans hout)⟩ dX12_isImpossible_38

set_option maxRecDepth 100000 in
set_option maxHeartbeats 4000000 in
theorem c_X12_whyNot (l : Launch) (X : XW) (σ : ST) (a : Nat) (v1 : Int32) (ha : q_kd X a = 12) (hG : m_G (m_c X σ a)) : Met l yX12_whyNot (q_ws yX12_whyNot cX12_whyNot 2 (some .int)) (q_rm 2 46) (q_P X σ [.ref a, .int v1]) (q_Qi X 9 σ (fun (r : Int32) (σ' : ST) => σ' = σ ∧ (0 ≤ r.toInt) ∧ (r.toInt = 0 → (0 ≤ v1.toInt ∧ v1.toInt < m_c X σ a 2 ∧ m_c X σ a 7 = 1 ∧ v1.toInt ≠ m_c X σ a 6)) ∧ r = F_X12_whyNot X σ a v1)) 0 0 (q_reg X) := by
  refine q_met 9 (by first | exact rfl | decide +kernel) rfl (Nat.le_of_ble_eq_true rfl) (fun p e s m below meth c E hml hr hlk hI ls hl => ?_)
  have hx := E.1
  have hb := E.2.1
  have hl : lv_has ls 2 [(0, .ref a), (1, .int v1)] := hl
  have hh := hG.hd
  obtain ⟨out, hout⟩ : ∃ o, o = F_X12_whyNot X σ a v1 := ⟨_, rfl⟩
  have hF := hout.symm
  unfold F_X12_whyNot at hF
  refine lv_aload_n hx hb dX12_whyNot_0 rfl (lv_at hl 0 rfl) ?_
  refine lv_iload_n hx hb dX12_whyNot_1 rfl (lv_at hl 1 rfl) ?_
  refine q_ci (q_runV (As := [.int v1]) (rest := []) E (hml.trans hl.1.symm) hI (c_X12_isPlayerAt l X σ a v1 ha hG) kv_X12_290 ha ⟨rfl, by decide⟩ (show vwCl[11]? = some (RX12, TX12, 46) from rfl) rfl ⟨Nat.le_of_ble_eq_true rfl, Nat.le_of_ble_eq_true rfl⟩ ⟨Nat.le_refl _, Nat.le_refl _⟩ rfl (Nat.le_of_ble_eq_true rfl) dX12_whyNot_2) hI (by decide) (fun r_1 σ_2 H locs hpσ_2 hkσ_2 hI => ?_)
  obtain ⟨ahpσ_2, bhpσ_2, chpσ_2, dhpσ_2⟩ := hpσ_2
  rw [ahpσ_2] at hI
  replace hF := q_letX hF dhpσ_2
  refine q_if_ne (A := r_1.toInt) E rfl (tgt := 12) dX12_whyNot_5 (by decide) (fun c_3 => ?_) (fun c_3 => ?_)
  · skip
    replace hF := q_ifn hF c_3
    replace c_3 := q_ifOne bhpσ_2 c_3
    replace chpσ_2 := q_ifYes chpσ_2 c_3
    refine lv_aload_n hx hb dX12_whyNot_12 rfl (lv_at hl 0 rfl) ?_
    refine gs_X12_35_12 E hI ha dX12_whyNot_13 ?_
    refine lv_bipush (v := 7) hx hb dX12_whyNot_16 (by decide) ?_
    refine q_iald E hI (q_tk (k' := 34) hI ha rfl (by decide)) ⟨by decide, rfl⟩ (by decide) (by rw [q_lnk (v := 4650) hI (q_tk (k' := 34) hI ha rfl (by decide)) rfl (by decide)]; decide) dX12_whyNot_18 ?_
    refine lv_topi (fun f_4 ef_4 => ?_)
    replace hF := q_letX hF ef_4
    have if_4 : f_4.toInt = m_c X σ a 7 := m_rd ef_4 (by decide)
    refine q_if_ne (A := f_4.toInt) E rfl (tgt := 27) dX12_whyNot_19 (by decide) (fun c_5 => ?_) (fun c_5 => ?_)
    · skip
      replace hF := q_ifn hF c_5
      refine lv_aload_n hx hb dX12_whyNot_27 rfl (lv_at hl 0 rfl) ?_
      refine gs_X12_35_12 E hI ha dX12_whyNot_28 ?_
      refine lv_bipush (v := 6) hx hb dX12_whyNot_31 (by decide) ?_
      refine q_iald E hI (q_tk (k' := 34) hI ha rfl (by decide)) ⟨by decide, rfl⟩ (by decide) (by rw [q_lnk (v := 4650) hI (q_tk (k' := 34) hI ha rfl (by decide)) rfl (by decide)]; decide) dX12_whyNot_33 ?_
      refine lv_topi (fun f_6 ef_6 => ?_)
      replace hF := q_letX hF ef_6
      have if_6 : f_6.toInt = m_c X σ a 6 := m_rd ef_6 (by decide)
      refine lv_iload_n hx hb dX12_whyNot_34 rfl (lv_at hl 1 rfl) ?_
      refine q_icmp_ne (A := f_6.toInt) (B := v1.toInt) E rfl rfl (tgt := 42) dX12_whyNot_35 (by decide) (fun c_7 => ?_) (fun c_7 => ?_)
      · skip
        replace hF := q_ifn hF c_7
        refine lv_iconst (v := 0) hx hb dX12_whyNot_42 (by decide) ?_
        have hrv : (0 : Int32).toInt = 0 := rfl
        exact q_reti E hr hlk hI ⟨rfl, (by first | (clear hh ahpσ_2 bhpσ_2 dhpσ_2 c_3 chpσ_2 if_4 c_5 if_6 c_7; omega) | omega), (by first | (clear ahpσ_2 bhpσ_2 dhpσ_2 c_3 hrv; omega) | omega), (hF.trans hout)⟩ dX12_whyNot_43
      · skip
        replace hF := q_ifp hF c_7
        refine lv_iconst (v := 5) hx hb dX12_whyNot_38 (by decide) ?_
        refine lv_goto (tgt := 43) hx hb dX12_whyNot_39 (by decide) ?_
        have hrv : (5 : Int32).toInt = 5 := rfl
        exact q_reti E hr hlk hI ⟨rfl, (by first | (clear hh ahpσ_2 bhpσ_2 dhpσ_2 c_3 chpσ_2 if_4 c_5 if_6 c_7; omega) | omega), (by first | (clear hh ahpσ_2 bhpσ_2 dhpσ_2 c_3 chpσ_2 if_4 c_5 if_6 c_7; omega) | omega), (hF.trans hout)⟩ dX12_whyNot_43
    · skip
      replace hF := q_ifp hF c_5
      refine lv_bipush (v := 8) hx hb dX12_whyNot_22 (by decide) ?_
      refine lv_goto (tgt := 43) hx hb dX12_whyNot_24 (by decide) ?_
      have hrv : (8 : Int32).toInt = 8 := rfl
      exact q_reti E hr hlk hI ⟨rfl, (by first | (clear hh ahpσ_2 bhpσ_2 dhpσ_2 c_3 chpσ_2 if_4 c_5; omega) | omega), (by first | (clear hh ahpσ_2 bhpσ_2 dhpσ_2 c_3 chpσ_2 if_4 c_5; omega) | omega), (hF.trans hout)⟩ dX12_whyNot_43
  · skip
    replace hF := q_ifp hF c_3
    replace chpσ_2 := q_ifNo chpσ_2 c_3
    refine lv_iconst (v := 2) hx hb dX12_whyNot_8 (by decide) ?_
    refine lv_goto (tgt := 43) hx hb dX12_whyNot_9 (by decide) ?_
    have hrv : (2 : Int32).toInt = 2 := rfl
    exact q_reti E hr hlk hI ⟨rfl, (by first | (clear hh ahpσ_2 bhpσ_2 dhpσ_2 c_3 chpσ_2; omega) | omega), (by first | (clear hh ahpσ_2 bhpσ_2 dhpσ_2 c_3 chpσ_2; omega) | omega), (hF.trans hout)⟩ dX12_whyNot_43

set_option maxRecDepth 100000 in
set_option maxHeartbeats 4000000 in
theorem c_X12_otherKind (l : Launch) (X : XW) (σ : ST) (a : Nat) (v1 : Int32) (ha : q_kd X a = 12) (hG : m_G (m_c X σ a)) (h0 : 0 ≤ v1.toInt ∧ v1.toInt ≤ 5) : Met l yX12_otherKind (q_ws yX12_otherKind cX12_otherKind 4 (some .int)) (q_rm 1 22) (q_P X σ [.ref a, .int v1]) (q_Qi X 9 σ (fun (r : Int32) (σ' : ST) => σ' = σ ∧ (m_ok (m_c X σ a) v1.toInt r.toInt (m_c X σ a 0)) ∧ (-1 ≤ r.toInt ∧ r.toInt < m_c X σ a 0) ∧ r = F_X12_otherKind X σ a v1)) 0 0 (q_reg X) := by
  refine q_met 9 (by first | exact rfl | decide +kernel) rfl (Nat.le_of_ble_eq_true rfl) (fun p e s m below meth c E hml hr hlk hI ls hl => ?_)
  have hx := E.1
  have hb := E.2.1
  have hl : lv_has ls 4 [(0, .ref a), (1, .int v1)] := hl
  have hh := hG.hd
  obtain ⟨out, hout⟩ : ∃ o, o = F_X12_otherKind X σ a v1 := ⟨_, rfl⟩
  have hF := hout.symm
  unfold F_X12_otherKind at hF
  refine lv_iconst (v := (-1)) hx hb dX12_otherKind_0 (by decide) ?_
  refine lv_istore_n (lv' := [(2, .int (-1)), (0, .ref a), (1, .int v1)]) hx hb dX12_otherKind_1 rfl hl (by decide) rfl (fun ls hl => ?_)
  refine lv_iconst (v := 0) hx hb dX12_otherKind_2 (by decide) ?_
  refine lv_istore_n (lv' := [(3, .int 0), (2, .int (-1)), (0, .ref a), (1, .int v1)]) hx hb dX12_otherKind_3 rfl hl (by decide) rfl (fun ls hl => ?_)
  have L_4_3 : ∀ (k_3 : Nat) (x_1 : Int32) (x_2 : Int32) (H : Heap) (locs : List Loc) (ls : Array Slot), (2147483647 - x_2.toInt).toNat < k_3 → (0 ≤ x_2.toInt ∧ x_2.toInt ≤ m_c X σ a 0 ∧ -1 ≤ x_1.toInt ∧ x_1.toInt < m_c X σ a 0) → (m_ok (m_c X σ a) v1.toInt x_1.toInt x_2.toInt) → (F_X12_otherKind_L4_1 X σ a v1 k_3 x_1 x_2 = out) → q_I X 9 σ s.heap locs σ H → lv_has ls 4 [(0, .ref a), (1, .int v1), (2, .int x_1), (3, .int x_2)] → W p l e (q_rm 1 22) s m ([.ref a, .int v1] : List Value).toArray below meth c H locs 0 0 (MQ below (q_Qi X 9 σ (fun (r : Int32) (σ' : ST) => σ' = σ ∧ (m_ok (m_c X σ a) v1.toInt r.toInt (m_c X σ a 0)) ∧ (-1 ≤ r.toInt ∧ r.toInt < m_c X σ a 0) ∧ r = F_X12_otherKind X σ a v1)) ([.ref a, .int v1] : List Value).toArray s 0 0 (q_reg X)) (F0 m 4 ls []) := by
    clear hF
    intro k_3
    induction k_3 with
    | zero =>
      intro x_1 x_2 H locs ls hms
      exact absurd hms (Nat.not_lt_zero _)
    | succ k_3 ih4 =>
      intro x_1 x_2 H locs ls hm4 hge4 ok4 hF hI hl
      replace hF := (F_X12_otherKind_L4_1_s).symm.trans hF
      unfold F_X12_otherKind_B4_1 at hF
      refine lv_iload_n hx hb dX12_otherKind_4 rfl (lv_at hl 3 rfl) ?_
      refine lv_aload_n hx hb dX12_otherKind_5 rfl (lv_at hl 0 rfl) ?_
      refine gs_X12_35_12 E hI ha dX12_otherKind_6 ?_
      refine lv_iconst (v := 0) hx hb dX12_otherKind_9 (by decide) ?_
      refine q_iald E hI (q_tk (k' := 34) hI ha rfl (by decide)) ⟨by decide, rfl⟩ (by decide) (by rw [q_lnk (v := 4650) hI (q_tk (k' := 34) hI ha rfl (by decide)) rfl (by decide)]; decide) dX12_otherKind_10 ?_
      refine lv_topi (fun f_4 ef_4 => ?_)
      replace hF := q_letX hF ef_4
      have if_4 : f_4.toInt = m_c X σ a 0 := m_rd ef_4 (by decide)
      have gc_5_x_2 := q_rng x_2
      have gc_5_f_4 := q_rng f_4
      refine q_icmp_ge (A := x_2.toInt) (B := f_4.toInt) E rfl rfl (tgt := 60) dX12_otherKind_11 (by decide) (fun c_5 => ?_) (fun c_5 => ?_)
      · skip
        replace hF := q_ifn hF (Int.not_lt.mpr c_5)
        skip
        refine lv_iload_n hx hb dX12_otherKind_60 rfl (lv_at hl 2 rfl) ?_
        exact q_reti E hr hlk hI ⟨rfl, (by have q : x_2.toInt = m_c X σ a 0 := (by first | (clear h0 hh hm4 gc_5_x_2 gc_5_f_4; omega) | omega); rw [q] at ok4; exact ok4), (by first | (clear h0 hh hm4 gc_5_x_2 gc_5_f_4 c_5; omega) | omega), (hF.trans hout)⟩ dX12_otherKind_61
      · skip
        replace hF := q_ifp hF c_5
        refine lv_iload_n hx hb dX12_otherKind_14 rfl (lv_at hl 3 rfl) ?_
        refine lv_aload_n hx hb dX12_otherKind_15 rfl (lv_at hl 0 rfl) ?_
        refine gs_X12_35_12 E hI ha dX12_otherKind_16 ?_
        refine lv_iconst (v := 5) hx hb dX12_otherKind_19 (by decide) ?_
        refine q_iald E hI (q_tk (k' := 34) hI ha rfl (by decide)) ⟨by decide, rfl⟩ (by decide) (by rw [q_lnk (v := 4650) hI (q_tk (k' := 34) hI ha rfl (by decide)) rfl (by decide)]; decide) dX12_otherKind_20 ?_
        refine lv_topi (fun f_6 ef_6 => ?_)
        replace hF := q_letX hF ef_6
        have if_6 : f_6.toInt = m_c X σ a 5 := m_rd ef_6 (by decide)
        have gc_7_x_2 := q_rng x_2
        have gc_7_f_6 := q_rng f_6
        refine q_icmp_eq (A := x_2.toInt) (B := f_6.toInt) E rfl rfl (tgt := 54) dX12_otherKind_21 (by decide) (fun c_7 => ?_) (fun c_7 => ?_)
        · skip
          replace hF := q_ifp hF c_7
          obtain ⟨z_8, ez_8⟩ : ∃ y : Int32, y = x_2 + 1 := ⟨_, rfl⟩
          replace hF := q_letX hF ez_8
          refine lv_iinc (v := z_8) (lv' := [(3, .int z_8), (0, .ref a), (1, .int v1), (2, .int x_1)]) hx hb dX12_otherKind_54 hl (k := 3) rfl (by rw [ez_8]; rfl) (by decide) rfl (fun ls hl => ?_)
          have iz_8 : z_8.toInt = x_2.toInt + 1 := q_inc ez_8 (by first | (clear h0 hm4 hge4 gc_5_x_2 gc_5_f_4 gc_7_x_2; omega) | omega)
          refine lv_goto (tgt := 4) hx hb dX12_otherKind_57 (by decide) ?_
          exact ih4 x_1 z_8 _ _ ls (by first | (clear h0 hge4 gc_5_x_2 gc_5_f_4 gc_7_x_2; omega) | omega) (by first | (clear h0 hm4 gc_5_x_2 gc_5_f_4 gc_7_x_2; omega) | omega) (by rw [iz_8]; first | exact ok4.skip (Or.inl (by first | (clear h0 hh hm4 hge4 if_4 gc_5_x_2 gc_5_f_4 c_5 gc_7_x_2 gc_7_f_6 iz_8; omega) | omega)) | exact ok4.skip (Or.inr (by omega)) | exact m_ok.set (by omega) (by omega) (by omega) | exact ok4.old (by omega)) hF hI (lv_sub hl [1, 2, 3, 0] rfl)
        · skip
          replace hF := q_ifn hF c_7
          refine lv_aload_n hx hb dX12_otherKind_24 rfl (lv_at hl 0 rfl) ?_
          refine lv_iload_n hx hb dX12_otherKind_25 rfl (lv_at hl 1 rfl) ?_
          refine lv_iload_n hx hb dX12_otherKind_26 rfl (lv_at hl 3 rfl) ?_
          refine q_ci (q_runV (As := [.int v1, .int x_2]) (rest := []) E (hml.trans hl.1.symm) hI (c_X12_handOf l X σ a v1 x_2 ha (by omega) (by first | (clear h0 hm4 gc_5_f_4 if_6 gc_7_x_2 gc_7_f_6 c_7; omega) | omega)) kv_X12_276 ha ⟨rfl, by decide⟩ (show vwCl[11]? = some (RX12, TX12, 46) from rfl) rfl ⟨Nat.le_of_ble_eq_true rfl, Nat.le_of_ble_eq_true rfl⟩ ⟨Nat.le_refl _, Nat.le_refl _⟩ rfl (Nat.le_of_ble_eq_true rfl) dX12_otherKind_27) hI (by decide) (fun r_9 σ_10 H locs hpσ_10 hkσ_10 hI => ?_)
          obtain ⟨ahpσ_10, bhpσ_10, chpσ_10⟩ := hpσ_10
          rw [ahpσ_10] at hI
          replace hF := q_letX hF chpσ_10
          have ir_9 : r_9.toInt = (m_c X σ a (34 + 10 * v1.toInt + x_2.toInt)) := (by first | exact bhpσ_10 | (rw [bhpσ_10]) | (simp only [bhpσ_10]))
          refine q_if_le (A := r_9.toInt) E rfl (tgt := 54) dX12_otherKind_30 (by decide) (fun c_11 => ?_) (fun c_11 => ?_)
          · skip
            replace hF := q_ifn hF (Int.not_lt.mpr c_11)
            obtain ⟨z_12, ez_12⟩ : ∃ y : Int32, y = x_2 + 1 := ⟨_, rfl⟩
            replace hF := q_letX hF ez_12
            refine lv_iinc (v := z_12) (lv' := [(3, .int z_12), (0, .ref a), (1, .int v1), (2, .int x_1)]) hx hb dX12_otherKind_54 hl (k := 3) rfl (by rw [ez_12]; rfl) (by decide) rfl (fun ls hl => ?_)
            have iz_12 : z_12.toInt = x_2.toInt + 1 := q_inc ez_12 (by first | (clear h0 hm4 gc_5_f_4 if_6 gc_7_x_2 gc_7_f_6 c_7 ahpσ_10 bhpσ_10 chpσ_10 ir_9 c_11; omega) | omega)
            refine lv_goto (tgt := 4) hx hb dX12_otherKind_57 (by decide) ?_
            exact ih4 x_1 z_12 _ _ ls (by first | (clear h0 gc_5_f_4 if_6 gc_7_x_2 gc_7_f_6 ahpσ_10 bhpσ_10 chpσ_10 ir_9 c_11; omega) | omega) (by first | (clear h0 hh hm4 gc_5_f_4 if_6 gc_7_x_2 gc_7_f_6 c_7 ahpσ_10 bhpσ_10 chpσ_10 ir_9 c_11; omega) | omega) (by rw [iz_12]; first | exact ok4.skip (Or.inl (by omega)) | exact ok4.skip (Or.inr (by first | (clear h0 hh hm4 hge4 if_4 gc_5_x_2 gc_5_f_4 c_5 if_6 gc_7_x_2 gc_7_f_6 c_7 ahpσ_10 chpσ_10 ir_9 iz_12; omega) | omega)) | exact m_ok.set (by omega) (by omega) (by omega) | exact ok4.old (by omega)) hF hI (lv_sub hl [1, 2, 3, 0] rfl)
          · skip
            replace hF := q_ifp hF c_11
            refine lv_iload_n hx hb dX12_otherKind_33 rfl (lv_at hl 2 rfl) ?_
            refine q_if_lt (A := x_1.toInt) E rfl (tgt := 52) dX12_otherKind_34 (by decide) (fun c_13 => ?_) (fun c_13 => ?_)
            · skip
              replace hF := q_ifp hF c_13
              refine lv_iload_n hx hb dX12_otherKind_52 rfl (lv_at hl 3 rfl) ?_
              refine lv_istore_n (lv' := [(2, .int x_2), (0, .ref a), (1, .int v1), (3, .int x_2)]) hx hb dX12_otherKind_53 rfl hl (by decide) rfl (fun ls hl => ?_)
              obtain ⟨z_14, ez_14⟩ : ∃ y : Int32, y = x_2 + 1 := ⟨_, rfl⟩
              replace hF := q_letX hF ez_14
              refine lv_iinc (v := z_14) (lv' := [(3, .int z_14), (2, .int x_2), (0, .ref a), (1, .int v1)]) hx hb dX12_otherKind_54 hl (k := 3) rfl (by rw [ez_14]; rfl) (by decide) rfl (fun ls hl => ?_)
              have iz_14 : z_14.toInt = x_2.toInt + 1 := q_inc ez_14 (by first | (clear h0 hm4 gc_5_f_4 if_6 gc_7_x_2 gc_7_f_6 c_7 ahpσ_10 bhpσ_10 chpσ_10 ir_9 c_11 c_13; omega) | omega)
              refine lv_goto (tgt := 4) hx hb dX12_otherKind_57 (by decide) ?_
              exact ih4 x_2 z_14 _ _ ls (by first | (clear h0 gc_5_f_4 if_6 gc_7_x_2 gc_7_f_6 ahpσ_10 bhpσ_10 chpσ_10 ir_9 c_11 c_13; omega) | omega) (by first | (clear h0 hh hm4 gc_5_f_4 if_6 gc_7_x_2 gc_7_f_6 c_7 ahpσ_10 bhpσ_10 chpσ_10 ir_9 c_11 c_13; omega) | omega) (by rw [iz_14]; first | exact ok4.skip (Or.inl (by omega)) | exact ok4.skip (Or.inr (by omega)) | exact m_ok.set (by first | (clear h0 hh hm4 if_4 gc_5_f_4 c_5 if_6 gc_7_x_2 gc_7_f_6 c_7 ahpσ_10 bhpσ_10 chpσ_10 ir_9 c_11 c_13; omega) | omega) (by first | (clear h0 hh hm4 hge4 if_4 gc_5_x_2 gc_5_f_4 c_5 gc_7_x_2 gc_7_f_6 ahpσ_10 bhpσ_10 chpσ_10 ir_9 c_11 c_13; omega) | omega) (by first | (clear h0 hh hm4 hge4 if_4 gc_5_x_2 gc_5_f_4 c_5 if_6 gc_7_x_2 gc_7_f_6 c_7 ahpσ_10 chpσ_10 ir_9 c_13 iz_14; omega) | omega) | exact ok4.old (by omega)) hF hI (lv_sub hl [2, 3, 1, 0] rfl)
            · skip
              replace hF := q_ifn hF (Int.not_lt.mpr c_13)
              refine lv_aload_n hx hb dX12_otherKind_37 rfl (lv_at hl 0 rfl) ?_
              refine lv_iload_n hx hb dX12_otherKind_38 rfl (lv_at hl 1 rfl) ?_
              refine lv_iload_n hx hb dX12_otherKind_39 rfl (lv_at hl 3 rfl) ?_
              refine q_ci (q_runV (As := [.int v1, .int x_2]) (rest := []) E (hml.trans hl.1.symm) hI (c_X12_handOf l X σ a v1 x_2 ha (by omega) (by first | (clear h0 hm4 gc_5_f_4 if_6 gc_7_x_2 gc_7_f_6 c_7 ahpσ_10 bhpσ_10 chpσ_10 ir_9 c_11 c_13; omega) | omega)) kv_X12_276 ha ⟨rfl, by decide⟩ (show vwCl[11]? = some (RX12, TX12, 46) from rfl) rfl ⟨Nat.le_of_ble_eq_true rfl, Nat.le_of_ble_eq_true rfl⟩ ⟨Nat.le_refl _, Nat.le_refl _⟩ rfl (Nat.le_of_ble_eq_true rfl) dX12_otherKind_40) hI (by decide) (fun r_15 σ_16 H locs hpσ_16 hkσ_16 hI => ?_)
              obtain ⟨ahpσ_16, bhpσ_16, chpσ_16⟩ := hpσ_16
              rw [ahpσ_16] at hI
              replace hF := q_letX hF chpσ_16
              have ir_15 : r_15.toInt = (m_c X σ a (34 + 10 * v1.toInt + x_2.toInt)) := (by first | exact bhpσ_16 | (rw [bhpσ_16]) | (simp only [bhpσ_16]))
              refine lv_aload_n hx hb dX12_otherKind_43 rfl (lv_at hl 0 rfl) ?_
              refine lv_iload_n hx hb dX12_otherKind_44 rfl (lv_at hl 1 rfl) ?_
              refine lv_iload_n hx hb dX12_otherKind_45 rfl (lv_at hl 2 rfl) ?_
              refine q_ci (q_runV (As := [.int v1, .int x_1]) (rest := [.int r_15]) E (hml.trans hl.1.symm) hI (c_X12_handOf l X σ a v1 x_1 ha (by omega) (by first | (clear h0 hm4 gc_5_x_2 gc_5_f_4 c_5 if_6 gc_7_x_2 gc_7_f_6 c_7 ahpσ_10 bhpσ_10 chpσ_10 ir_9 c_11 ahpσ_16 bhpσ_16 chpσ_16 ir_15; omega) | omega)) kv_X12_276 ha ⟨rfl, by decide⟩ (show vwCl[11]? = some (RX12, TX12, 46) from rfl) rfl ⟨Nat.le_of_ble_eq_true rfl, Nat.le_of_ble_eq_true rfl⟩ ⟨Nat.le_refl _, Nat.le_refl _⟩ rfl (Nat.le_of_ble_eq_true rfl) dX12_otherKind_46) hI (by decide) (fun r_17 σ_18 H locs hpσ_18 hkσ_18 hI => ?_)
              obtain ⟨ahpσ_18, bhpσ_18, chpσ_18⟩ := hpσ_18
              rw [ahpσ_18] at hI
              replace hF := q_letX hF chpσ_18
              have ir_17 : r_17.toInt = (m_c X σ a (34 + 10 * v1.toInt + x_1.toInt)) := (by first | exact bhpσ_18 | (rw [bhpσ_18]) | (simp only [bhpσ_18]))
              have gc_19_r_15 := q_rng r_15
              have gc_19_r_17 := q_rng r_17
              refine q_icmp_le (A := r_15.toInt) (B := r_17.toInt) E rfl rfl (tgt := 54) dX12_otherKind_49 (by decide) (fun c_19 => ?_) (fun c_19 => ?_)
              · skip
                replace hF := q_ifn hF (Int.not_lt.mpr c_19)
                obtain ⟨z_20, ez_20⟩ : ∃ y : Int32, y = x_2 + 1 := ⟨_, rfl⟩
                replace hF := q_letX hF ez_20
                refine lv_iinc (v := z_20) (lv' := [(3, .int z_20), (0, .ref a), (1, .int v1), (2, .int x_1)]) hx hb dX12_otherKind_54 hl (k := 3) rfl (by rw [ez_20]; rfl) (by decide) rfl (fun ls hl => ?_)
                have iz_20 : z_20.toInt = x_2.toInt + 1 := q_inc ez_20 (by first | (clear h0 hm4 gc_5_f_4 if_6 gc_7_x_2 gc_7_f_6 c_7 ahpσ_10 bhpσ_10 chpσ_10 ir_9 c_11 c_13 ahpσ_16 bhpσ_16 chpσ_16 ir_15 ahpσ_18 bhpσ_18 chpσ_18 ir_17 gc_19_r_15 gc_19_r_17 c_19; omega) | omega)
                refine lv_goto (tgt := 4) hx hb dX12_otherKind_57 (by decide) ?_
                exact ih4 x_1 z_20 _ _ ls (by first | (clear h0 gc_5_f_4 if_6 gc_7_x_2 gc_7_f_6 ahpσ_10 bhpσ_10 chpσ_10 ir_9 c_11 c_13 ahpσ_16 bhpσ_16 chpσ_16 ir_15 ahpσ_18 bhpσ_18 chpσ_18 ir_17 gc_19_r_15 gc_19_r_17 c_19; omega) | omega) (by first | (clear h0 hh hm4 gc_5_f_4 if_6 gc_7_x_2 gc_7_f_6 c_7 ahpσ_10 bhpσ_10 chpσ_10 ir_9 c_11 ahpσ_16 bhpσ_16 chpσ_16 ir_15 ahpσ_18 bhpσ_18 chpσ_18 ir_17 gc_19_r_15 gc_19_r_17 c_19; omega) | omega) (by rw [iz_20]; first | exact ok4.skip (Or.inl (by omega)) | exact ok4.skip (Or.inr (by omega)) | exact m_ok.set (by omega) (by omega) (by omega) | exact ok4.old (by omega)) hF hI (lv_sub hl [1, 2, 3, 0] rfl)
              · skip
                replace hF := q_ifp hF c_19
                refine lv_iload_n hx hb dX12_otherKind_52 rfl (lv_at hl 3 rfl) ?_
                refine lv_istore_n (lv' := [(2, .int x_2), (0, .ref a), (1, .int v1), (3, .int x_2)]) hx hb dX12_otherKind_53 rfl hl (by decide) rfl (fun ls hl => ?_)
                obtain ⟨z_21, ez_21⟩ : ∃ y : Int32, y = x_2 + 1 := ⟨_, rfl⟩
                replace hF := q_letX hF ez_21
                refine lv_iinc (v := z_21) (lv' := [(3, .int z_21), (2, .int x_2), (0, .ref a), (1, .int v1)]) hx hb dX12_otherKind_54 hl (k := 3) rfl (by rw [ez_21]; rfl) (by decide) rfl (fun ls hl => ?_)
                have iz_21 : z_21.toInt = x_2.toInt + 1 := q_inc ez_21 (by first | (clear h0 hm4 gc_5_f_4 if_6 gc_7_x_2 gc_7_f_6 c_7 ahpσ_10 bhpσ_10 chpσ_10 ir_9 c_11 c_13 ahpσ_16 bhpσ_16 chpσ_16 ir_15 ahpσ_18 bhpσ_18 chpσ_18 ir_17 gc_19_r_15 gc_19_r_17 c_19; omega) | omega)
                refine lv_goto (tgt := 4) hx hb dX12_otherKind_57 (by decide) ?_
                exact ih4 x_2 z_21 _ _ ls (by first | (clear h0 gc_5_f_4 if_6 gc_7_x_2 gc_7_f_6 ahpσ_10 bhpσ_10 chpσ_10 ir_9 c_11 c_13 ahpσ_16 bhpσ_16 chpσ_16 ir_15 ahpσ_18 bhpσ_18 chpσ_18 ir_17 gc_19_r_15 gc_19_r_17 c_19; omega) | omega) (by first | (clear h0 hh hm4 gc_5_f_4 if_6 gc_7_x_2 gc_7_f_6 c_7 ahpσ_10 bhpσ_10 chpσ_10 ir_9 c_11 c_13 ahpσ_16 bhpσ_16 chpσ_16 ir_15 ahpσ_18 bhpσ_18 chpσ_18 ir_17 gc_19_r_15 gc_19_r_17 c_19; omega) | omega) (by rw [iz_21]; first | exact ok4.skip (Or.inl (by omega)) | exact ok4.skip (Or.inr (by omega)) | exact m_ok.set (by first | (clear h0 hh hm4 if_4 gc_5_f_4 c_5 if_6 gc_7_x_2 gc_7_f_6 c_7 ahpσ_10 bhpσ_10 chpσ_10 ir_9 c_11 c_13 ahpσ_16 bhpσ_16 chpσ_16 ir_15 ahpσ_18 bhpσ_18 chpσ_18 ir_17 gc_19_r_15 gc_19_r_17 c_19; omega) | omega) (by first | (clear h0 hh hm4 hge4 if_4 gc_5_x_2 gc_5_f_4 c_5 gc_7_x_2 gc_7_f_6 ahpσ_10 bhpσ_10 chpσ_10 ir_9 c_11 c_13 ahpσ_16 bhpσ_16 chpσ_16 ir_15 ahpσ_18 bhpσ_18 chpσ_18 ir_17 gc_19_r_15 gc_19_r_17 c_19; omega) | omega) (by first | (clear h0 hh hm4 hge4 if_4 gc_5_x_2 gc_5_f_4 c_5 if_6 gc_7_x_2 gc_7_f_6 c_7 ahpσ_10 chpσ_10 ir_9 c_13 ahpσ_16 chpσ_16 ir_15 ahpσ_18 bhpσ_18 chpσ_18 ir_17 gc_19_r_17 c_19 iz_21; omega) | omega) | exact ok4.old (by omega)) hF hI (lv_sub hl [2, 3, 1, 0] rfl)
  have kc_22 : ((-1) : Int32).toInt = (-1) := rfl
  have kc_23 : (0 : Int32).toInt = 0 := rfl
  exact L_4_3 ((2147483647 - (0 : Int32).toInt).toNat + 1) (-1) 0 _ _ ls (Nat.lt_succ_self _) (by have q : (0 : Int32).toInt = 0 := rfl; have q1 : ((-1) : Int32).toInt = -1 := rfl; omega) (m_ok.start _ _) hF hI (lv_sub hl [2, 3, 1, 0] rfl)

set_option maxRecDepth 100000 in
set_option maxHeartbeats 4000000 in
theorem c_X12_isSo (l : Launch) (X : XW) (σ : ST) (a : Nat) (v1 : Int32) (ha : q_kd X a = 12) (hG : m_G (m_c X σ a)) (hw : 656 ≤ v1.toInt ∧ v1.toInt ≤ 917) (ht : m_tst (m_c X σ a) v1.toInt) : Met l yX12_isSo (q_ws yX12_isSo cX12_isSo 4 (some .boolean)) (q_rm 2 45) (q_P X σ [.ref a, .int v1]) (q_Qi X 9 σ (fun (r : Int32) (σ' : ST) => σ' = σ ∧ (0 ≤ r.toInt ∧ r.toInt ≤ 1) ∧ r = F_X12_isSo X σ a v1)) 0 0 (q_reg X) := by
  refine q_met 9 (by first | exact rfl | decide +kernel) rfl (Nat.le_of_ble_eq_true rfl) (fun p e s m below meth c E hml hr hlk hI ls hl => ?_)
  have hx := E.1
  have hb := E.2.1
  have hl : lv_has ls 4 [(0, .ref a), (1, .int v1)] := hl
  have hh := hG.hd
  obtain ⟨ta, tb⟩ := ht
  obtain ⟨out, hout⟩ : ∃ o, o = F_X12_isSo X σ a v1 := ⟨_, rfl⟩
  have hF := hout.symm
  unfold F_X12_isSo at hF
  refine lv_aload_n hx hb dX12_isSo_0 rfl (lv_at hl 0 rfl) ?_
  refine gs_X12_35_12 E hI ha dX12_isSo_1 ?_
  refine lv_iload_n hx hb dX12_isSo_4 rfl (lv_at hl 1 rfl) ?_
  refine lv_bipush (v := 6) hx hb dX12_isSo_5 (by decide) ?_
  refine lv_iadd hx hb dX12_isSo_7 ?_
  refine lv_topi (fun z_1 ez_1 => ?_)
  replace hF := q_letX hF ez_1
  have iz_1 := q_addI (A := v1.toInt) (B := 6) ez_1 rfl (by decide) (by first | (clear ht hh ta tb; omega) | omega) (by first | (clear ht hh ta tb; omega) | omega)
  refine q_iald E hI (q_tk (k' := 34) hI ha rfl (by decide)) ⟨by decide, rfl⟩ (by first | (clear ht hh ta tb; omega) | omega) (by rw [q_lnk (v := 4650) hI (q_tk (k' := 34) hI ha rfl (by decide)) rfl (by decide)]; omega) dX12_isSo_8 ?_
  refine lv_topi (fun f_2 ef_2 => ?_)
  replace hF := q_letX hF ef_2
  have if_2 : f_2.toInt = m_c X σ a (v1.toInt + 6) := m_rd ef_2 iz_1
  refine lv_istore_n (lv' := [(2, .int f_2), (0, .ref a), (1, .int v1)]) hx hb dX12_isSo_9 rfl hl (by decide) rfl (fun ls hl => ?_)
  refine lv_iload_n hx hb dX12_isSo_10 rfl (lv_at hl 0 rfl) ?_
  refine lv_iconst (v := 3) hx hb dX12_isSo_11 (by decide) ?_
  refine q_icmp_ne (A := f_2.toInt) (B := 3) E rfl (by decide) (tgt := 31) dX12_isSo_12 (by decide) (fun c_3 => ?_) (fun c_3 => ?_)
  · skip
    replace hF := q_ifn hF c_3
    refine lv_iload_n hx hb dX12_isSo_31 rfl (lv_at hl 0 rfl) ?_
    have J_78_4 : ∀ (x_4 : Int32) (H : Heap) (locs : List Loc) (ls : Array Slot), (F_X12_isSo_J78_1 X v1 σ a x_4 = out) → q_I X 9 σ s.heap locs σ H → lv_has ls 4 [(0, .ref a), (1, .int v1), (2, .int f_2)] → W p l e (q_rm 2 45) s m ([.ref a, .int v1] : List Value).toArray below meth c H locs 0 0 (MQ below (q_Qi X 9 σ (fun (r : Int32) (σ' : ST) => σ' = σ ∧ (0 ≤ r.toInt ∧ r.toInt ≤ 1) ∧ r = F_X12_isSo X σ a v1)) ([.ref a, .int v1] : List Value).toArray s 0 0 (q_reg X)) (F0 m 78 ls [.int x_4]) := by
      clear hF
      intro x_4 H locs ls  hF hI hl
      unfold F_X12_isSo_J78_1 at hF
      refine lv_istore_n (lv' := [(3, .int x_4), (0, .ref a), (1, .int v1), (2, .int f_2)]) hx hb dX12_isSo_78 rfl hl (by decide) rfl (fun ls hl => ?_)
      refine lv_aload_n hx hb dX12_isSo_79 rfl (lv_at hl 1 rfl) ?_
      refine gs_X12_35_12 E hI ha dX12_isSo_80 ?_
      refine lv_iload_n hx hb dX12_isSo_83 rfl (lv_at hl 2 rfl) ?_
      refine lv_bipush (v := 7) hx hb dX12_isSo_84 (by decide) ?_
      refine lv_iadd hx hb dX12_isSo_86 ?_
      refine lv_topi (fun z_5 ez_5 => ?_)
      replace hF := q_letX hF ez_5
      have iz_5 := q_addI (A := v1.toInt) (B := 7) ez_5 rfl (by decide) (by first | (clear ht hh ta tb if_2 c_3; omega) | omega) (by first | (clear ht hh ta tb if_2 c_3; omega) | omega)
      refine q_iald E hI (q_tk (k' := 34) hI ha rfl (by decide)) ⟨by decide, rfl⟩ (by first | (clear ht hh ta tb if_2 c_3; omega) | omega) (by rw [q_lnk (v := 4650) hI (q_tk (k' := 34) hI ha rfl (by decide)) rfl (by decide)]; omega) dX12_isSo_87 ?_
      refine lv_topi (fun f_6 ef_6 => ?_)
      replace hF := q_letX hF ef_6
      have if_6 : f_6.toInt = m_c X σ a (v1.toInt + 7) := m_rd ef_6 iz_5
      refine lv_bipush (v := 60) hx hb dX12_isSo_88 (by decide) ?_
      refine q_icmp_ne (A := f_6.toInt) (B := 60) E rfl (by decide) (tgt := 113) dX12_isSo_90 (by decide) (fun c_7 => ?_) (fun c_7 => ?_)
      · skip
        replace hF := q_ifn hF c_7
        refine lv_aload_n hx hb dX12_isSo_113 rfl (lv_at hl 1 rfl) ?_
        refine gs_X12_35_12 E hI ha dX12_isSo_114 ?_
        refine lv_iload_n hx hb dX12_isSo_117 rfl (lv_at hl 2 rfl) ?_
        refine lv_bipush (v := 7) hx hb dX12_isSo_118 (by decide) ?_
        refine lv_iadd hx hb dX12_isSo_120 ?_
        refine lv_topi (fun z_8 ez_8 => ?_)
        replace hF := q_letX hF ez_8
        have iz_8 := q_addI (A := v1.toInt) (B := 7) ez_8 rfl (by decide) (by first | (clear ht hh ta tb if_2 c_3 if_6 c_7; omega) | omega) (by first | (clear ht hh ta tb if_2 c_3 if_6 c_7; omega) | omega)
        refine q_iald E hI (q_tk (k' := 34) hI ha rfl (by decide)) ⟨by decide, rfl⟩ (by first | (clear ht hh ta tb if_2 c_3 if_6 c_7; omega) | omega) (by rw [q_lnk (v := 4650) hI (q_tk (k' := 34) hI ha rfl (by decide)) rfl (by decide)]; omega) dX12_isSo_121 ?_
        refine lv_topi (fun f_9 ef_9 => ?_)
        replace hF := q_letX hF ef_9
        have if_9 : f_9.toInt = m_c X σ a (v1.toInt + 7) := m_rd ef_9 iz_8
        refine lv_bipush (v := 62) hx hb dX12_isSo_122 (by decide) ?_
        refine q_icmp_ne (A := f_9.toInt) (B := 62) E rfl (by decide) (tgt := 147) dX12_isSo_124 (by decide) (fun c_10 => ?_) (fun c_10 => ?_)
        · skip
          replace hF := q_ifn hF c_10
          refine lv_iload_n hx hb dX12_isSo_147 rfl (lv_at hl 0 rfl) ?_
          refine lv_aload_n hx hb dX12_isSo_148 rfl (lv_at hl 1 rfl) ?_
          refine gs_X12_35_12 E hI ha dX12_isSo_149 ?_
          refine lv_iload_n hx hb dX12_isSo_152 rfl (lv_at hl 2 rfl) ?_
          refine lv_iconst (v := 2) hx hb dX12_isSo_153 (by decide) ?_
          refine lv_iadd hx hb dX12_isSo_154 ?_
          refine lv_topi (fun z_11 ez_11 => ?_)
          replace hF := q_letX hF ez_11
          have iz_11 := q_addI (A := v1.toInt) (B := 2) ez_11 rfl (by decide) (by first | (clear ht hh ta tb if_2 c_3 if_6 c_7 if_9 c_10; omega) | omega) (by first | (clear ht hh ta tb if_2 c_3 if_6 c_7 if_9 c_10; omega) | omega)
          refine q_iald E hI (q_tk (k' := 34) hI ha rfl (by decide)) ⟨by decide, rfl⟩ (by first | (clear ht hh ta tb if_2 c_3 if_6 c_7 if_9 c_10; omega) | omega) (by rw [q_lnk (v := 4650) hI (q_tk (k' := 34) hI ha rfl (by decide)) rfl (by decide)]; omega) dX12_isSo_155 ?_
          refine lv_topi (fun f_12 ef_12 => ?_)
          replace hF := q_letX hF ef_12
          have if_12 : f_12.toInt = m_c X σ a (v1.toInt + 2) := m_rd ef_12 iz_11
          refine q_icmp_ne (A := x_4.toInt) (B := f_12.toInt) E rfl rfl (tgt := 163) dX12_isSo_156 (by decide) (fun c_13 => ?_) (fun c_13 => ?_)
          · skip
            replace hF := q_ifn hF c_13
            refine lv_iconst (v := 0) hx hb dX12_isSo_163 (by decide) ?_
            have hrv : (0 : Int32).toInt = 0 := rfl
            exact q_retz E hr hlk hI ⟨by decide, by decide⟩ ⟨rfl, ⟨by decide, by decide⟩, (hF.trans hout)⟩ dX12_isSo_164
          · skip
            replace hF := q_ifp hF c_13
            refine lv_iconst (v := 1) hx hb dX12_isSo_159 (by decide) ?_
            refine lv_goto (tgt := 164) hx hb dX12_isSo_160 (by decide) ?_
            have hrv : (1 : Int32).toInt = 1 := rfl
            exact q_retz E hr hlk hI ⟨by decide, by decide⟩ ⟨rfl, ⟨by decide, by decide⟩, (hF.trans hout)⟩ dX12_isSo_164
        · skip
          replace hF := q_ifp hF c_10
          refine lv_iload_n hx hb dX12_isSo_127 rfl (lv_at hl 0 rfl) ?_
          refine lv_aload_n hx hb dX12_isSo_128 rfl (lv_at hl 1 rfl) ?_
          refine gs_X12_35_12 E hI ha dX12_isSo_129 ?_
          refine lv_iload_n hx hb dX12_isSo_132 rfl (lv_at hl 2 rfl) ?_
          refine lv_iconst (v := 2) hx hb dX12_isSo_133 (by decide) ?_
          refine lv_iadd hx hb dX12_isSo_134 ?_
          refine lv_topi (fun z_14 ez_14 => ?_)
          replace hF := q_letX hF ez_14
          have iz_14 := q_addI (A := v1.toInt) (B := 2) ez_14 rfl (by decide) (by first | (clear ht hh ta tb if_2 c_3 if_6 c_7 if_9 c_10; omega) | omega) (by first | (clear ht hh ta tb if_2 c_3 if_6 c_7 if_9 c_10; omega) | omega)
          refine q_iald E hI (q_tk (k' := 34) hI ha rfl (by decide)) ⟨by decide, rfl⟩ (by first | (clear ht hh ta tb if_2 c_3 if_6 c_7 if_9 c_10; omega) | omega) (by rw [q_lnk (v := 4650) hI (q_tk (k' := 34) hI ha rfl (by decide)) rfl (by decide)]; omega) dX12_isSo_135 ?_
          refine lv_topi (fun f_15 ef_15 => ?_)
          replace hF := q_letX hF ef_15
          have if_15 : f_15.toInt = m_c X σ a (v1.toInt + 2) := m_rd ef_15 iz_14
          refine q_icmp_le (A := x_4.toInt) (B := f_15.toInt) E rfl rfl (tgt := 143) dX12_isSo_136 (by decide) (fun c_16 => ?_) (fun c_16 => ?_)
          · skip
            replace hF := q_ifn hF (Int.not_lt.mpr c_16)
            refine lv_iconst (v := 0) hx hb dX12_isSo_143 (by decide) ?_
            refine lv_goto (tgt := 164) hx hb dX12_isSo_144 (by decide) ?_
            have hrv : (0 : Int32).toInt = 0 := rfl
            exact q_retz E hr hlk hI ⟨by decide, by decide⟩ ⟨rfl, ⟨by decide, by decide⟩, (hF.trans hout)⟩ dX12_isSo_164
          · skip
            replace hF := q_ifp hF c_16
            refine lv_iconst (v := 1) hx hb dX12_isSo_139 (by decide) ?_
            refine lv_goto (tgt := 164) hx hb dX12_isSo_140 (by decide) ?_
            have hrv : (1 : Int32).toInt = 1 := rfl
            exact q_retz E hr hlk hI ⟨by decide, by decide⟩ ⟨rfl, ⟨by decide, by decide⟩, (hF.trans hout)⟩ dX12_isSo_164
      · skip
        replace hF := q_ifp hF c_7
        refine lv_iload_n hx hb dX12_isSo_93 rfl (lv_at hl 0 rfl) ?_
        refine lv_aload_n hx hb dX12_isSo_94 rfl (lv_at hl 1 rfl) ?_
        refine gs_X12_35_12 E hI ha dX12_isSo_95 ?_
        refine lv_iload_n hx hb dX12_isSo_98 rfl (lv_at hl 2 rfl) ?_
        refine lv_iconst (v := 2) hx hb dX12_isSo_99 (by decide) ?_
        refine lv_iadd hx hb dX12_isSo_100 ?_
        refine lv_topi (fun z_17 ez_17 => ?_)
        replace hF := q_letX hF ez_17
        have iz_17 := q_addI (A := v1.toInt) (B := 2) ez_17 rfl (by decide) (by first | (clear ht hh ta tb if_2 c_3 if_6 c_7; omega) | omega) (by first | (clear ht hh ta tb if_2 c_3 if_6 c_7; omega) | omega)
        refine q_iald E hI (q_tk (k' := 34) hI ha rfl (by decide)) ⟨by decide, rfl⟩ (by first | (clear ht hh ta tb if_2 c_3 if_6 c_7; omega) | omega) (by rw [q_lnk (v := 4650) hI (q_tk (k' := 34) hI ha rfl (by decide)) rfl (by decide)]; omega) dX12_isSo_101 ?_
        refine lv_topi (fun f_18 ef_18 => ?_)
        replace hF := q_letX hF ef_18
        have if_18 : f_18.toInt = m_c X σ a (v1.toInt + 2) := m_rd ef_18 iz_17
        refine q_icmp_ge (A := x_4.toInt) (B := f_18.toInt) E rfl rfl (tgt := 109) dX12_isSo_102 (by decide) (fun c_19 => ?_) (fun c_19 => ?_)
        · skip
          replace hF := q_ifn hF (Int.not_lt.mpr c_19)
          refine lv_iconst (v := 0) hx hb dX12_isSo_109 (by decide) ?_
          refine lv_goto (tgt := 164) hx hb dX12_isSo_110 (by decide) ?_
          have hrv : (0 : Int32).toInt = 0 := rfl
          exact q_retz E hr hlk hI ⟨by decide, by decide⟩ ⟨rfl, ⟨by decide, by decide⟩, (hF.trans hout)⟩ dX12_isSo_164
        · skip
          replace hF := q_ifp hF c_19
          refine lv_iconst (v := 1) hx hb dX12_isSo_105 (by decide) ?_
          refine lv_goto (tgt := 164) hx hb dX12_isSo_106 (by decide) ?_
          have hrv : (1 : Int32).toInt = 1 := rfl
          exact q_retz E hr hlk hI ⟨by decide, by decide⟩ ⟨rfl, ⟨by decide, by decide⟩, (hF.trans hout)⟩ dX12_isSo_164
    refine q_if_ne (A := f_2.toInt) E rfl (tgt := 50) dX12_isSo_32 (by decide) (fun c_20 => ?_) (fun c_20 => ?_)
    · skip
      replace hF := q_ifn hF c_20
      refine lv_iload_n hx hb dX12_isSo_50 rfl (lv_at hl 0 rfl) ?_
      refine lv_iconst (v := 1) hx hb dX12_isSo_51 (by decide) ?_
      refine q_icmp_ne (A := f_2.toInt) (B := 1) E rfl (by decide) (tgt := 62) dX12_isSo_52 (by decide) (fun c_21 => ?_) (fun c_21 => ?_)
      · skip
        replace hF := q_ifn hF c_21
        refine lv_aload_n hx hb dX12_isSo_62 rfl (lv_at hl 1 rfl) ?_
        refine gs_X12_35_12 E hI ha dX12_isSo_63 ?_
        refine lv_bipush (v := 22) hx hb dX12_isSo_66 (by decide) ?_
        refine lv_aload_n hx hb dX12_isSo_68 rfl (lv_at hl 1 rfl) ?_
        refine gs_X12_35_12 E hI ha dX12_isSo_69 ?_
        refine lv_iload_n hx hb dX12_isSo_72 rfl (lv_at hl 2 rfl) ?_
        refine lv_iconst (v := 1) hx hb dX12_isSo_73 (by decide) ?_
        refine lv_iadd hx hb dX12_isSo_74 ?_
        refine lv_topi (fun z_22 ez_22 => ?_)
        replace hF := q_letX hF ez_22
        have iz_22 := q_addI (A := v1.toInt) (B := 1) ez_22 rfl (by decide) (by first | (clear ht hh ta tb if_2 c_3 c_20 c_21; omega) | omega) (by first | (clear ht hh ta tb if_2 c_3 c_20 c_21; omega) | omega)
        refine q_iald E hI (q_tk (k' := 34) hI ha rfl (by decide)) ⟨by decide, rfl⟩ (by first | (clear ht hh ta tb if_2 c_3 c_20 c_21; omega) | omega) (by rw [q_lnk (v := 4650) hI (q_tk (k' := 34) hI ha rfl (by decide)) rfl (by decide)]; omega) dX12_isSo_75 ?_
        refine lv_topi (fun f_23 ef_23 => ?_)
        replace hF := q_letX hF ef_23
        have if_23 : f_23.toInt = m_c X σ a (v1.toInt + 1) := m_rd ef_23 iz_22
        refine lv_iadd hx hb dX12_isSo_76 ?_
        refine lv_topi (fun z_24 ez_24 => ?_)
        replace hF := q_letX hF ez_24
        have iz_24 := q_addI (A := 22) (B := (m_c X σ a (v1.toInt + 1))) ez_24 (by decide) if_23 (by first | (clear hw ht hh iz_1 iz_22 if_23; omega) | omega) (by first | (clear hw ht hh iz_1 iz_22 if_23; omega) | omega)
        refine q_iald E hI (q_tk (k' := 34) hI ha rfl (by decide)) ⟨by decide, rfl⟩ (by first | (clear hw ht hh iz_1 iz_22 if_23; omega) | omega) (by rw [q_lnk (v := 4650) hI (q_tk (k' := 34) hI ha rfl (by decide)) rfl (by decide)]; omega) dX12_isSo_77 ?_
        refine lv_topi (fun f_25 ef_25 => ?_)
        replace hF := q_letX hF ef_25
        have if_25 : f_25.toInt = m_c X σ a (22 + (m_c X σ a (v1.toInt + 1))) := m_rd ef_25 iz_24
        exact J_78_4 f_25 _ _ ls hF hI (lv_sub hl [1, 2, 0] rfl)
      · skip
        replace hF := q_ifp hF c_21
        refine lv_aload_n hx hb dX12_isSo_55 rfl (lv_at hl 1 rfl) ?_
        refine q_ci (q_runV (As := []) (rest := []) E (hml.trans hl.1.symm) hI (c_X12_heapMany l X σ a ha hG) kv_X12_287 ha ⟨rfl, by decide⟩ (show vwCl[11]? = some (RX12, TX12, 46) from rfl) rfl ⟨Nat.le_of_ble_eq_true rfl, Nat.le_of_ble_eq_true rfl⟩ ⟨Nat.le_refl _, Nat.le_refl _⟩ rfl (Nat.le_of_ble_eq_true rfl) dX12_isSo_56) hI (by decide) (fun r_26 σ_27 H locs hpσ_27 hkσ_27 hI => ?_)
        obtain ⟨ahpσ_27, bhpσ_27, chpσ_27, dhpσ_27⟩ := hpσ_27
        rw [ahpσ_27] at hI
        replace hF := q_letX hF dhpσ_27
        refine lv_goto (tgt := 78) hx hb dX12_isSo_59 (by decide) ?_
        exact J_78_4 r_26 _ _ ls hF hI (lv_sub hl [1, 2, 0] rfl)
    · skip
      replace hF := q_ifp hF c_20
      refine lv_aload_n hx hb dX12_isSo_35 rfl (lv_at hl 1 rfl) ?_
      refine lv_aload_n hx hb dX12_isSo_36 rfl (lv_at hl 1 rfl) ?_
      refine gs_X12_35_12 E hI ha dX12_isSo_37 ?_
      refine lv_iload_n hx hb dX12_isSo_40 rfl (lv_at hl 2 rfl) ?_
      refine lv_iconst (v := 1) hx hb dX12_isSo_41 (by decide) ?_
      refine lv_iadd hx hb dX12_isSo_42 ?_
      refine lv_topi (fun z_28 ez_28 => ?_)
      replace hF := q_letX hF ez_28
      have iz_28 := q_addI (A := v1.toInt) (B := 1) ez_28 rfl (by decide) (by first | (clear ht hh ta tb if_2 c_3 c_20; omega) | omega) (by first | (clear ht hh ta tb if_2 c_3 c_20; omega) | omega)
      refine q_iald E hI (q_tk (k' := 34) hI ha rfl (by decide)) ⟨by decide, rfl⟩ (by first | (clear ht hh ta tb if_2 c_3 c_20; omega) | omega) (by rw [q_lnk (v := 4650) hI (q_tk (k' := 34) hI ha rfl (by decide)) rfl (by decide)]; omega) dX12_isSo_43 ?_
      refine lv_topi (fun f_29 ef_29 => ?_)
      replace hF := q_letX hF ef_29
      have if_29 : f_29.toInt = m_c X σ a (v1.toInt + 1) := m_rd ef_29 iz_28
      refine q_ci (q_runV (As := [.int f_29]) (rest := []) E (hml.trans hl.1.symm) hI (c_X12_cardsOf l X σ a f_29 ha hG (by first | (clear hw ht hh ta iz_1 iz_28; omega) | omega)) kv_X12_293 ha ⟨rfl, by decide⟩ (show vwCl[11]? = some (RX12, TX12, 46) from rfl) rfl ⟨Nat.le_of_ble_eq_true rfl, Nat.le_of_ble_eq_true rfl⟩ ⟨Nat.le_refl _, Nat.le_refl _⟩ rfl (Nat.le_of_ble_eq_true rfl) dX12_isSo_44) hI (by decide) (fun r_30 σ_31 H locs hpσ_31 hkσ_31 hI => ?_)
      obtain ⟨ahpσ_31, bhpσ_31, chpσ_31, dhpσ_31⟩ := hpσ_31
      rw [ahpσ_31] at hI
      replace hF := q_letX hF dhpσ_31
      refine lv_goto (tgt := 78) hx hb dX12_isSo_47 (by decide) ?_
      exact J_78_4 r_30 _ _ ls hF hI (lv_sub hl [1, 2, 0] rfl)
  · skip
    replace hF := q_ifp hF c_3
    refine lv_aload_n hx hb dX12_isSo_15 rfl (lv_at hl 1 rfl) ?_
    refine gs_X12_35_12 E hI ha dX12_isSo_16 ?_
    refine lv_bipush (v := 8) hx hb dX12_isSo_19 (by decide) ?_
    refine q_iald E hI (q_tk (k' := 34) hI ha rfl (by decide)) ⟨by decide, rfl⟩ (by decide) (by rw [q_lnk (v := 4650) hI (q_tk (k' := 34) hI ha rfl (by decide)) rfl (by decide)]; decide) dX12_isSo_21 ?_
    refine lv_topi (fun f_32 ef_32 => ?_)
    replace hF := q_letX hF ef_32
    have if_32 : f_32.toInt = m_c X σ a 8 := m_rd ef_32 (by decide)
    refine q_if_lt (A := f_32.toInt) E rfl (tgt := 29) dX12_isSo_22 (by decide) (fun c_33 => ?_) (fun c_33 => ?_)
    · skip
      replace hF := q_ifp hF c_33
      refine lv_iconst (v := 0) hx hb dX12_isSo_29 (by decide) ?_
      have hrv : (0 : Int32).toInt = 0 := rfl
      exact q_retz E hr hlk hI ⟨by decide, by decide⟩ ⟨rfl, ⟨by decide, by decide⟩, (hF.trans hout)⟩ dX12_isSo_30
    · skip
      replace hF := q_ifn hF (Int.not_lt.mpr c_33)
      refine lv_iconst (v := 1) hx hb dX12_isSo_25 (by decide) ?_
      refine lv_goto (tgt := 30) hx hb dX12_isSo_26 (by decide) ?_
      have hrv : (1 : Int32).toInt = 1 := rfl
      exact q_retz E hr hlk hI ⟨by decide, by decide⟩ ⟨rfl, ⟨by decide, by decide⟩, (hF.trans hout)⟩ dX12_isSo_30
end
/-! FROM 42.odds.a.lean.txt -/
section
section QS
variable {p : Program} {l : Launch} {e : Env} {R : Room} {s : State} {m : MethodId} {args : Array Value} {below : List Frame} {meth : Method} {c : Code} {H : Heap} {locs : List Loc} {cells slots : Nat} {Q : State → Prop} {cc : ByteArray} {X : XW} {n : Nat} {σ0 σ : ST} {H0 : Heap} {pc : Nat} {ls : Array Slot} {rest : List Value} {a : Nat}
theorem ks_X12_342 : q_okS RX12 342 yX12_choose cX12_choose 5 (some .long) 2 := ⟨(q_in_t9 (i := 25) (by first | rfl | decide +kernel) rfl), (q_in_t9 (i := 26) (by first | rfl | decide +kernel) rfl), (q_in_t1 (i := 14) (by first | rfl | decide +kernel) rfl), (q_in_t9 (i := 27) (by first | rfl | decide +kernel) rfl), ⟨by decide, by decide, rfl⟩⟩
theorem ps_X12_346_12 (E : q_E p c cc s m args RX12 X) (hI : q_I X n σ0 H0 locs σ H) (ha : q_kd X a = 12) {v : Int64} (hdg : decode cc pc = .ok (.putfield 346, 3)) (kk : ∀ (H1 : Heap) (locs1 : List Loc) (σ1 : ST), σ1 = q_sl σ a 30 v → q_I X n σ0 H0 locs1 σ1 H1 → W p l e R s m args below meth c H1 locs1 cells slots Q (F0 m (pc + 3) ls rest)) : W p l e R s m args below meth c H locs cells slots Q (F0 m pc ls (.long v :: .ref a :: rest)) :=
  q_putl E hI ha ⟨rfl, by decide⟩ (show vwCl[11]? = some (RX12, TX12, 46) from rfl) q_inX12 tyX12_ok nmX12 (f := 30) (by decide) (q_in_t7 (i := 15) (by first | rfl | decide +kernel) rfl) (Or.inl rfl) rfl rfl rfl hdg (fun H1 l1 h => kk H1 l1 _ rfl h)
theorem kv_X12_339 : q_okV RX12 339 RX12 yX12_unknownAll cX12_unknownAll 4 (some .int) 1 := ⟨(q_in_t8 (i := 237) (by first | rfl | decide +kernel) rfl), (q_in_t8 (i := 239) (by first | rfl | decide +kernel) rfl), (q_in_p (i := 95) (by decide +kernel) rfl), (q_in_t1 (i := 14) (by first | rfl | decide +kernel) rfl), (q_in_t9 (i := 0) (by first | rfl | decide +kernel) rfl), ⟨rfl, by decide, by decide, rfl⟩⟩
theorem ps_X12_349_12 (E : q_E p c cc s m args RX12 X) (hI : q_I X n σ0 H0 locs σ H) (ha : q_kd X a = 12) {v : Int64} (hdg : decode cc pc = .ok (.putfield 349, 3)) (kk : ∀ (H1 : Heap) (locs1 : List Loc) (σ1 : ST), σ1 = q_sl σ a 31 v → q_I X n σ0 H0 locs1 σ1 H1 → W p l e R s m args below meth c H1 locs1 cells slots Q (F0 m (pc + 3) ls rest)) : W p l e R s m args below meth c H locs cells slots Q (F0 m pc ls (.long v :: .ref a :: rest)) :=
  q_putl E hI ha ⟨rfl, by decide⟩ (show vwCl[11]? = some (RX12, TX12, 46) from rfl) q_inX12 tyX12_ok nmX12 (f := 31) (by decide) (q_in_t7 (i := 16) (by first | rfl | decide +kernel) rfl) (Or.inl rfl) rfl rfl rfl hdg (fun H1 l1 h => kk H1 l1 _ rfl h)
theorem kv_X12_284 : q_okV RX12 284 RX12 yX12_refuse cX12_refuse 2 (some .int) 1 := ⟨(q_in_t8 (i := 116) (by first | rfl | decide +kernel) rfl), (q_in_t8 (i := 118) (by first | rfl | decide +kernel) rfl), (q_in_p (i := 78) (by decide +kernel) rfl), (q_in_t1 (i := 14) (by first | rfl | decide +kernel) rfl), (q_in_t8 (i := 119) (by first | rfl | decide +kernel) rfl), ⟨rfl, by decide, by decide, rfl⟩⟩
theorem kv_X12_299 : q_okV RX12 299 RX12 yX12_isKindAt cX12_isKindAt 2 (some .boolean) 1 := ⟨(q_in_t8 (i := 151) (by first | rfl | decide +kernel) rfl), (q_in_t8 (i := 153) (by first | rfl | decide +kernel) rfl), (q_in_p (i := 84) (by decide +kernel) rfl), (q_in_t1 (i := 14) (by first | rfl | decide +kernel) rfl), (q_in_t8 (i := 154) (by first | rfl | decide +kernel) rfl), ⟨rfl, by decide, by decide, rfl⟩⟩
theorem kv_X12_305 : q_okV RX12 305 RX12 yX12_sortOf cX12_sortOf 5 (some .int) 1 := ⟨(q_in_t8 (i := 168) (by first | rfl | decide +kernel) rfl), (q_in_t8 (i := 170) (by first | rfl | decide +kernel) rfl), (q_in_p (i := 86) (by decide +kernel) rfl), (q_in_t1 (i := 14) (by first | rfl | decide +kernel) rfl), (q_in_t8 (i := 171) (by first | rfl | decide +kernel) rfl), ⟨rfl, by decide, by decide, rfl⟩⟩
theorem kv_X12_308 : q_okV RX12 308 RX12 yX12_isTray cX12_isTray 2 (some .boolean) 1 := ⟨(q_in_t8 (i := 180) (by first | rfl | decide +kernel) rfl), (q_in_t8 (i := 182) (by first | rfl | decide +kernel) rfl), (q_in_p (i := 87) (by decide +kernel) rfl), (q_in_t1 (i := 14) (by first | rfl | decide +kernel) rfl), (q_in_t8 (i := 183) (by first | rfl | decide +kernel) rfl), ⟨rfl, by decide, by decide, rfl⟩⟩
theorem kv_X12_352 : q_okV RX12 352 RX12 yX12_whyNot cX12_whyNot 2 (some .int) 1 := ⟨(q_in_t9 (i := 9) (by first | rfl | decide +kernel) rfl), (q_in_t9 (i := 11) (by first | rfl | decide +kernel) rfl), (q_in_p (i := 97) (by decide +kernel) rfl), (q_in_t1 (i := 14) (by first | rfl | decide +kernel) rfl), (q_in_t9 (i := 12) (by first | rfl | decide +kernel) rfl), ⟨rfl, by decide, by decide, rfl⟩⟩
theorem kv_X12_355 : q_okV RX12 355 RX12 yX12_isImpossible cX12_isImpossible 2 (some .boolean) 1 := ⟨(q_in_t9 (i := 13) (by first | rfl | decide +kernel) rfl), (q_in_t9 (i := 15) (by first | rfl | decide +kernel) rfl), (q_in_p (i := 98) (by decide +kernel) rfl), (q_in_t1 (i := 14) (by first | rfl | decide +kernel) rfl), (q_in_t9 (i := 16) (by first | rfl | decide +kernel) rfl), ⟨rfl, by decide, by decide, rfl⟩⟩
theorem kv_X12_358 : q_okV RX12 358 RX12 yX12_blinds cX12_blinds 3 none 1 := ⟨(q_in_t9 (i := 21) (by first | rfl | decide +kernel) rfl), (q_in_t9 (i := 23) (by first | rfl | decide +kernel) rfl), (q_in_p (i := 99) (by decide +kernel) rfl), (q_in_t1 (i := 14) (by first | rfl | decide +kernel) rfl), (q_in_t9 (i := 24) (by first | rfl | decide +kernel) rfl), ⟨rfl, by decide, by decide, rfl⟩⟩
theorem gs_X12_346_12 (E : q_E p c cc s m args RX12 X) (hI : q_I X n σ0 H0 locs σ H) (ha : q_kd X a = 12) (hdg : decode cc pc = .ok (.getfield 346, 3)) (kk : W p l e R s m args below meth c H locs cells slots Q (F0 m (pc + 3) ls (.long (σ.2.1 a 30) :: rest))) : W p l e R s m args below meth c H locs cells slots Q (F0 m pc ls (.ref a :: rest)) :=
  q_getf (ref := "CheatHeapModel") E hI ha ⟨rfl, by decide⟩ (show vwCl[11]? = some (RX12, TX12, 46) from rfl) q_inX12 (f := 30) (by decide) (q_in_t7 (i := 15) (by first | rfl | decide +kernel) rfl) (Or.inl rfl) rfl hdg kk
theorem gs_X12_349_12 (E : q_E p c cc s m args RX12 X) (hI : q_I X n σ0 H0 locs σ H) (ha : q_kd X a = 12) (hdg : decode cc pc = .ok (.getfield 349, 3)) (kk : W p l e R s m args below meth c H locs cells slots Q (F0 m (pc + 3) ls (.long (σ.2.1 a 31) :: rest))) : W p l e R s m args below meth c H locs cells slots Q (F0 m pc ls (.ref a :: rest)) :=
  q_getf (ref := "CheatHeapModel") E hI ha ⟨rfl, by decide⟩ (show vwCl[11]? = some (RX12, TX12, 46) from rfl) q_inX12 (f := 31) (by decide) (q_in_t7 (i := 16) (by first | rfl | decide +kernel) rfl) (Or.inl rfl) rfl hdg kk
theorem kv_X12_361 : q_okV RX12 361 RX12 yX12_fraction cX12_fraction 11 (some .boolean) 2 := ⟨(q_in_t9 (i := 28) (by first | rfl | decide +kernel) rfl), (q_in_t9 (i := 30) (by first | rfl | decide +kernel) rfl), (q_in_p (i := 100) (by decide +kernel) rfl), (q_in_t1 (i := 14) (by first | rfl | decide +kernel) rfl), (q_in_t9 (i := 31) (by first | rfl | decide +kernel) rfl), ⟨rfl, by decide, by decide, rfl⟩⟩
end QS
end
