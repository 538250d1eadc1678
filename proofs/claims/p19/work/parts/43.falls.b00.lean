set_option maxRecDepth 100000 in
set_option maxHeartbeats 4000000 in
theorem c_X12_waits (l : Launch) (X : XW) (σ : ST) (a : Nat) (v1 : Int32) (ha : q_kd X a = 12) (hG : m_G (m_c X σ a)) : Met l yX12_waits (q_ws yX12_waits cX12_waits 2 (some .int)) (q_rm 2 46) (q_P X σ [.ref a, .int v1]) (q_Qi X 8 σ (fun (r : Int32) (σ' : ST) => (r, σ') = F_X12_waits X σ a v1 ∧ q_ow [(12, 0), (12, 1)] [] X σ σ')) 0 0 (q_reg X) := by
  refine q_met 8 (by first | exact rfl | decide +kernel) rfl (Nat.le_of_ble_eq_true rfl) (fun p e s m below meth c E hml hr hlk hI ls hl => ?_)
  have hx := E.1
  have hb := E.2.1
  have hl : lv_has ls 2 [(0, .ref a), (1, .int v1)] := hl
  have feσ : m_c X σ a = m_c X σ a := rfl
  have fr_σ : q_ow [(12, 0), (12, 1)] [] X σ σ := q_ow.rf
  have hh := hG.hd
  obtain ⟨out, hout⟩ : ∃ o, o = F_X12_waits X σ a v1 := ⟨_, rfl⟩
  have hF := hout.symm
  unfold F_X12_waits at hF
  refine lv_aload_n hx hb dX12_waits_0 rfl (lv_at hl 0 rfl) ?_
  refine lv_iconst (v := 0) hx hb dX12_waits_1 (by decide) ?_
  refine ps_X12_59_12 E hI ha (by decide) dX12_waits_2 (fun H locs σ_1 hσ_1 hI => ?_)
  replace hF := q_letX hF hσ_1
  have fr_σ_1 := fr_σ.si hσ_1 ha rfl
  have mcσ_1 := m_wo hσ_1 (m_ne ha (q_tk (f := 20) (k' := 34) hI ha rfl (by decide)) (by decide))
  have feσ_1 : m_c X σ_1 a = m_c X σ a := (funext mcσ_1).trans feσ
  refine lv_aload_n hx hb dX12_waits_5 rfl (lv_at hl 0 rfl) ?_
  refine lv_iconst (v := 0) hx hb dX12_waits_6 (by decide) ?_
  refine ps_X12_62_12 E hI ha (by decide) dX12_waits_7 (fun H locs σ_2 hσ_2 hI => ?_)
  replace hF := q_letX hF hσ_2
  have fr_σ_2 := fr_σ_1.si hσ_2 ha rfl
  have mcσ_2 := m_wo hσ_2 (m_ne ha (q_tk (f := 20) (k' := 34) hI ha rfl (by decide)) (by decide))
  have feσ_2 : m_c X σ_2 a = m_c X σ a := (funext mcσ_2).trans feσ_1
  refine lv_aload_n hx hb dX12_waits_10 rfl (lv_at hl 0 rfl) ?_
  refine lv_iload_n hx hb dX12_waits_11 rfl (lv_at hl 1 rfl) ?_
  refine q_ci (q_runV (As := [.int v1]) (rest := []) E (hml.trans hl.1.symm) hI (c_X12_isPlayerAt l X σ_2 a v1 ha (by rw [feσ_2]; exact hG)) kv_X12_290 ha ⟨rfl, by decide⟩ (show vwCl[11]? = some (RX12, TX12, 46) from rfl) rfl ⟨Nat.le_of_ble_eq_true rfl, Nat.le_of_ble_eq_true rfl⟩ ⟨Nat.le_refl _, Nat.le_refl _⟩ rfl (Nat.le_of_ble_eq_true rfl) dX12_waits_12) hI (by decide) (fun r_3 σ_4 H locs hpσ_4 hkσ_4 hI => ?_)
  obtain ⟨ahpσ_4, bhpσ_4, chpσ_4, dhpσ_4⟩ := hpσ_4
  rw [ahpσ_4] at hI
  rw [feσ_2] at chpσ_4
  replace hF := q_letX hF dhpσ_4
  refine q_if_eq (A := r_3.toInt) E rfl (tgt := 26) dX12_waits_15 (by decide) (fun c_5 => ?_) (fun c_5 => ?_)
  · skip
    replace hF := q_ifp hF c_5
    replace chpσ_4 := q_ifNo chpσ_4 c_5
    refine lv_aload_n hx hb dX12_waits_26 rfl (lv_at hl 0 rfl) ?_
    refine lv_iconst (v := 2) hx hb dX12_waits_27 (by decide) ?_
    have kc_6 : (2 : Int32).toInt = 2 := rfl
    refine q_ci (q_runV (As := [.int 2]) (rest := []) E (hml.trans hl.1.symm) hI (c_X12_refuse l X σ_2 a (2 : Int32) ha) kv_X12_284 ha ⟨rfl, by decide⟩ (show vwCl[11]? = some (RX12, TX12, 46) from rfl) rfl ⟨Nat.le_of_ble_eq_true rfl, Nat.le_of_ble_eq_true rfl⟩ ⟨Nat.le_refl _, Nat.le_refl _⟩ rfl (Nat.le_of_ble_eq_true rfl) dX12_waits_28) hI (by decide) (fun r_7 σ_8 H locs hpσ_8 hkσ_8 hI => ?_)
    obtain ⟨ahpσ_8, bhpσ_8, chpσ_8⟩ := hpσ_8
    have fr_σ_8 := fr_σ_2.call chpσ_8 rfl rfl
    replace hF := q_biX hF bhpσ_8
    have mcσ_8 := m_cK hkσ_8 hI.1 ha (by decide)
    have feσ_8 : m_c X σ_8 a = m_c X σ a := (funext mcσ_8).trans feσ_2
    exact q_reti E hr hlk hI ⟨(hF.trans hout), fr_σ_8⟩ dX12_waits_31
  · skip
    replace hF := q_ifn hF c_5
    replace c_5 := q_ifOne bhpσ_4 c_5
    replace chpσ_4 := q_ifYes chpσ_4 c_5
    refine lv_aload_n hx hb dX12_waits_18 rfl (lv_at hl 0 rfl) ?_
    refine lv_iload_n hx hb dX12_waits_19 rfl (lv_at hl 1 rfl) ?_
    refine q_ci (q_runV (As := [.int v1]) (rest := []) E (hml.trans hl.1.symm) hI (c_X12_waitsOf l X σ_2 a v1 ha (by rw [feσ_2]; exact hG) (by rw [feσ_2]; exact (by omega))) kv_X12_367 ha ⟨rfl, by decide⟩ (show vwCl[11]? = some (RX12, TX12, 46) from rfl) rfl ⟨Nat.le_of_ble_eq_true rfl, Nat.le_of_ble_eq_true rfl⟩ ⟨Nat.le_refl _, Nat.le_refl _⟩ rfl (Nat.le_of_ble_eq_true rfl) dX12_waits_20) hI (by decide) (fun r_9 σ_10 H locs hpσ_10 hkσ_10 hI => ?_)
    obtain ⟨ahpσ_10, bhpσ_10, chpσ_10⟩ := hpσ_10
    rw [ahpσ_10] at hI
    rw [feσ_2] at bhpσ_10
    replace hF := q_letX hF chpσ_10
    refine lv_goto (tgt := 31) hx hb dX12_waits_23 (by decide) ?_
    exact q_reti E hr hlk hI ⟨(hF.trans hout), fr_σ_2⟩ dX12_waits_31

set_option maxRecDepth 100000 in
set_option maxHeartbeats 4000000 in
theorem c_X12_falls (l : Launch) (X : XW) (σ : ST) (a : Nat) (v1 : Int32) (v2 : Int32) (ha : q_kd X a = 12) (hG : m_G (m_c X σ a)) : Met l yX12_falls (q_ws yX12_falls cX12_falls 3 (some .int)) (q_rm 3 67) (q_P X σ [.ref a, .int v1, .int v2]) (q_Qi X 8 σ (fun (r : Int32) (σ' : ST) => (r, σ') = F_X12_falls X σ a v1 v2 ∧ q_ow [(12, 0), (12, 1)] [] X σ σ')) 0 0 (q_reg X) := by
  refine q_met 8 (by first | exact rfl | decide +kernel) rfl (Nat.le_of_ble_eq_true rfl) (fun p e s m below meth c E hml hr hlk hI ls hl => ?_)
  have hx := E.1
  have hb := E.2.1
  have hl : lv_has ls 3 [(0, .ref a), (1, .int v1), (2, .int v2)] := hl
  have feσ : m_c X σ a = m_c X σ a := rfl
  have fr_σ : q_ow [(12, 0), (12, 1)] [] X σ σ := q_ow.rf
  have hh := hG.hd
  obtain ⟨out, hout⟩ : ∃ o, o = F_X12_falls X σ a v1 v2 := ⟨_, rfl⟩
  have hF := hout.symm
  unfold F_X12_falls at hF
  refine lv_aload_n hx hb dX12_falls_0 rfl (lv_at hl 0 rfl) ?_
  refine lv_iconst (v := 0) hx hb dX12_falls_1 (by decide) ?_
  refine ps_X12_59_12 E hI ha (by decide) dX12_falls_2 (fun H locs σ_1 hσ_1 hI => ?_)
  replace hF := q_letX hF hσ_1
  have fr_σ_1 := fr_σ.si hσ_1 ha rfl
  have mcσ_1 := m_wo hσ_1 (m_ne ha (q_tk (f := 20) (k' := 34) hI ha rfl (by decide)) (by decide))
  have feσ_1 : m_c X σ_1 a = m_c X σ a := (funext mcσ_1).trans feσ
  refine lv_aload_n hx hb dX12_falls_5 rfl (lv_at hl 0 rfl) ?_
  refine lv_iconst (v := 0) hx hb dX12_falls_6 (by decide) ?_
  refine ps_X12_62_12 E hI ha (by decide) dX12_falls_7 (fun H locs σ_2 hσ_2 hI => ?_)
  replace hF := q_letX hF hσ_2
  have fr_σ_2 := fr_σ_1.si hσ_2 ha rfl
  have mcσ_2 := m_wo hσ_2 (m_ne ha (q_tk (f := 20) (k' := 34) hI ha rfl (by decide)) (by decide))
  have feσ_2 : m_c X σ_2 a = m_c X σ a := (funext mcσ_2).trans feσ_1
  refine lv_aload_n hx hb dX12_falls_10 rfl (lv_at hl 0 rfl) ?_
  refine lv_iload_n hx hb dX12_falls_11 rfl (lv_at hl 1 rfl) ?_
  refine q_ci (q_runV (As := [.int v1]) (rest := []) E (hml.trans hl.1.symm) hI (c_X12_isPlayerAt l X σ_2 a v1 ha (by rw [feσ_2]; exact hG)) kv_X12_290 ha ⟨rfl, by decide⟩ (show vwCl[11]? = some (RX12, TX12, 46) from rfl) rfl ⟨Nat.le_of_ble_eq_true rfl, Nat.le_of_ble_eq_true rfl⟩ ⟨Nat.le_refl _, Nat.le_refl _⟩ rfl (Nat.le_of_ble_eq_true rfl) dX12_falls_12) hI (by decide) (fun r_3 σ_4 H locs hpσ_4 hkσ_4 hI => ?_)
  obtain ⟨ahpσ_4, bhpσ_4, chpσ_4, dhpσ_4⟩ := hpσ_4
  rw [ahpσ_4] at hI
  rw [feσ_2] at chpσ_4
  replace hF := q_letX hF dhpσ_4
  refine q_if_ne (A := r_3.toInt) E rfl (tgt := 24) dX12_falls_15 (by decide) (fun c_5 => ?_) (fun c_5 => ?_)
  · skip
    replace hF := q_ifn hF c_5
    replace c_5 := q_ifOne bhpσ_4 c_5
    replace chpσ_4 := q_ifYes chpσ_4 c_5
    refine lv_iload_n hx hb dX12_falls_24 rfl (lv_at hl 2 rfl) ?_
    refine lv_i2l hx hb dX12_falls_25 rfl ?_
    refine lv_topl (fun y_6 ey_6 => ?_)
    replace hF := q_letX hF ey_6
    have ggy_6 := q_rng v2
    have iy_6 : y_6.toInt = v2.toInt := by rw [ey_6]; exact (q_i2l _).trans rfl
    refine lv_lconst (v := 0) hx hb dX12_falls_26 (by decide) ?_
    refine lv_ldc2 (v := 60) hx hb E.2.2.1 (E.2.2.2.1 _ (q_in_t9 (i := 70) (by first | rfl | decide +kernel) rfl)) dX12_falls_27 ?_
    have kc_7 : (0 : Int64).toInt = 0 := rfl
    have kc_8 : (60 : Int64).toInt = 60 := rfl
    refine q_ci (q_runS (As := [.long y_6, .long 0, .long 60]) (rest := []) E (hml.trans hl.1.symm) hI (c_X12_isIn l X σ_2 y_6 (0 : Int64) (60 : Int64)) ks_X12_94 rfl ⟨Nat.le_of_ble_eq_true rfl, Nat.le_of_ble_eq_true rfl⟩ ⟨Nat.le_refl _, Nat.le_refl _⟩ rfl (Nat.le_of_ble_eq_true rfl) dX12_falls_30) hI (by decide) (fun r_9 σ_10 H locs hpσ_10 hkσ_10 hI => ?_)
    obtain ⟨ahpσ_10, bhpσ_10, chpσ_10, dhpσ_10⟩ := hpσ_10
    rw [ahpσ_10] at hI
    replace hF := q_letX hF dhpσ_10
    refine q_if_eq (A := r_9.toInt) E rfl (tgt := 45) dX12_falls_33 (by decide) (fun c_11 => ?_) (fun c_11 => ?_)
    · skip
      replace hF := q_ifp hF c_11
      replace chpσ_10 := q_ifNo chpσ_10 c_11
      refine lv_aload_n hx hb dX12_falls_45 rfl (lv_at hl 0 rfl) ?_
      refine lv_iconst (v := 5) hx hb dX12_falls_46 (by decide) ?_
      have kc_12 : (5 : Int32).toInt = 5 := rfl
      refine q_ci (q_runV (As := [.int 5]) (rest := []) E (hml.trans hl.1.symm) hI (c_X12_refuse l X σ_2 a (5 : Int32) ha) kv_X12_284 ha ⟨rfl, by decide⟩ (show vwCl[11]? = some (RX12, TX12, 46) from rfl) rfl ⟨Nat.le_of_ble_eq_true rfl, Nat.le_of_ble_eq_true rfl⟩ ⟨Nat.le_refl _, Nat.le_refl _⟩ rfl (Nat.le_of_ble_eq_true rfl) dX12_falls_47) hI (by decide) (fun r_13 σ_14 H locs hpσ_14 hkσ_14 hI => ?_)
      obtain ⟨ahpσ_14, bhpσ_14, chpσ_14⟩ := hpσ_14
      have fr_σ_14 := fr_σ_2.call chpσ_14 rfl rfl
      replace hF := q_biX hF bhpσ_14
      have mcσ_14 := m_cK hkσ_14 hI.1 ha (by decide)
      have feσ_14 : m_c X σ_14 a = m_c X σ a := (funext mcσ_14).trans feσ_2
      exact q_reti E hr hlk hI ⟨(hF.trans hout), fr_σ_14⟩ dX12_falls_50
    · skip
      replace hF := q_ifn hF c_11
      replace c_11 := q_ifOne bhpσ_10 c_11
      replace chpσ_10 := q_ifYes chpσ_10 c_11
      refine lv_aload_n hx hb dX12_falls_36 rfl (lv_at hl 0 rfl) ?_
      refine lv_iload_n hx hb dX12_falls_37 rfl (lv_at hl 1 rfl) ?_
      refine lv_iload_n hx hb dX12_falls_38 rfl (lv_at hl 2 rfl) ?_
      refine q_ci (q_runV (As := [.int v1, .int v2]) (rest := []) E (hml.trans hl.1.symm) hI (c_X12_fallsTo l X σ_2 a v1 v2 ha (by rw [feσ_2]; exact hG) (by rw [feσ_2]; exact (by omega)) (by first | (clear hh ahpσ_4 bhpσ_4 dhpσ_4 c_5 chpσ_4 ahpσ_10 bhpσ_10 dhpσ_10 c_11; omega) | omega)) kv_X12_372 ha ⟨rfl, by decide⟩ (show vwCl[11]? = some (RX12, TX12, 46) from rfl) rfl ⟨Nat.le_of_ble_eq_true rfl, Nat.le_of_ble_eq_true rfl⟩ ⟨Nat.le_refl _, Nat.le_refl _⟩ rfl (Nat.le_of_ble_eq_true rfl) dX12_falls_39) hI (by decide) (fun r_15 σ_16 H locs hpσ_16 hkσ_16 hI => ?_)
      obtain ⟨ahpσ_16, bhpσ_16, chpσ_16⟩ := hpσ_16
      rw [ahpσ_16] at hI
      rw [feσ_2] at bhpσ_16
      replace hF := q_letX hF chpσ_16
      refine lv_goto (tgt := 50) hx hb dX12_falls_42 (by decide) ?_
      exact q_reti E hr hlk hI ⟨(hF.trans hout), fr_σ_2⟩ dX12_falls_50
  · skip
    replace hF := q_ifp hF c_5
    replace chpσ_4 := q_ifNo chpσ_4 c_5
    refine lv_aload_n hx hb dX12_falls_18 rfl (lv_at hl 0 rfl) ?_
    refine lv_iconst (v := 2) hx hb dX12_falls_19 (by decide) ?_
    have kc_17 : (2 : Int32).toInt = 2 := rfl
    refine q_ci (q_runV (As := [.int 2]) (rest := []) E (hml.trans hl.1.symm) hI (c_X12_refuse l X σ_2 a (2 : Int32) ha) kv_X12_284 ha ⟨rfl, by decide⟩ (show vwCl[11]? = some (RX12, TX12, 46) from rfl) rfl ⟨Nat.le_of_ble_eq_true rfl, Nat.le_of_ble_eq_true rfl⟩ ⟨Nat.le_refl _, Nat.le_refl _⟩ rfl (Nat.le_of_ble_eq_true rfl) dX12_falls_20) hI (by decide) (fun r_18 σ_19 H locs hpσ_19 hkσ_19 hI => ?_)
    obtain ⟨ahpσ_19, bhpσ_19, chpσ_19⟩ := hpσ_19
    have fr_σ_19 := fr_σ_2.call chpσ_19 rfl rfl
    replace hF := q_biX hF bhpσ_19
    have mcσ_19 := m_cK hkσ_19 hI.1 ha (by decide)
    have feσ_19 : m_c X σ_19 a = m_c X σ a := (funext mcσ_19).trans feσ_2
    exact q_reti E hr hlk hI ⟨(hF.trans hout), fr_σ_19⟩ dX12_falls_23

set_option maxRecDepth 100000 in
set_option maxHeartbeats 4000000 in
theorem c_X12_honestFor (l : Launch) (X : XW) (σ : ST) (a : Nat) (v1 : Int32) (v2 : Int32) (ha : q_kd X a = 12) (hG : m_G (m_c X σ a)) (h0 : 0 ≤ v1.toInt ∧ v1.toInt < m_c X σ a 2) (h1 : 0 ≤ v2.toInt ∧ v2.toInt ≤ 60) : Met l yX12_honestFor (q_ws yX12_honestFor cX12_honestFor 7 (some .int)) (q_rm 3 67) (q_P X σ [.ref a, .int v1, .int v2]) (q_Qi X 8 σ (fun (r : Int32) (σ' : ST) => (r, σ') = F_X12_honestFor X σ a v1 v2 ∧ q_ow [(12, 33), (12, 34), (12, 35), (38, 99)] [] X σ σ')) 0 0 (q_reg X) := by
  refine q_met 8 (by first | exact rfl | decide +kernel) rfl (Nat.le_of_ble_eq_true rfl) (fun p e s m below meth c E hml hr hlk hI ls hl => ?_)
  have hx := E.1
  have hb := E.2.1
  have hl : lv_has ls 7 [(0, .ref a), (1, .int v1), (2, .int v2)] := hl
  have feσ : m_c X σ a = m_c X σ a := rfl
  have fr_σ : q_ow [(12, 33), (12, 34), (12, 35), (38, 99)] [] X σ σ := q_ow.rf
  have hh := hG.hd
  obtain ⟨out, hout⟩ : ∃ o, o = F_X12_honestFor X σ a v1 v2 := ⟨_, rfl⟩
  have hF := hout.symm
  unfold F_X12_honestFor at hF
  refine lv_iconst (v := 0) hx hb dX12_honestFor_0 (by decide) ?_
  refine lv_istore_n (lv' := [(3, .int 0), (0, .ref a), (1, .int v1), (2, .int v2)]) hx hb dX12_honestFor_1 rfl hl (by decide) rfl (fun ls hl => ?_)
  have L_2_3 : ∀ (k_3 : Nat) (x_1 : Int32) (σ_2 : ST) (H : Heap) (locs : List Loc) (ls : Array Slot), (2147483647 - x_1.toInt).toNat < k_3 → (0 ≤ x_1.toInt) → (q_ow [(12, 33), (12, 34), (12, 35), (38, 99)] [] X σ σ_2) → (m_c X σ_2 a = m_c X σ a) → (F_X12_honestFor_L2_1 X a v1 v2 k_3 x_1 σ_2 = out) → q_I X 8 σ s.heap locs σ_2 H → lv_has ls 7 [(0, .ref a), (1, .int v1), (2, .int v2), (3, .int x_1)] → W p l e (q_rm 3 67) s m ([.ref a, .int v1, .int v2] : List Value).toArray below meth c H locs 0 0 (MQ below (q_Qi X 8 σ (fun (r : Int32) (σ' : ST) => (r, σ') = F_X12_honestFor X σ a v1 v2 ∧ q_ow [(12, 33), (12, 34), (12, 35), (38, 99)] [] X σ σ')) ([.ref a, .int v1, .int v2] : List Value).toArray s 0 0 (q_reg X)) (F0 m 2 ls []) := by
    clear hF
    intro k_3
    induction k_3 with
    | zero =>
      intro x_1 σ_2 H locs ls hms
      try clear feσ; try clear fr_σ
      exact absurd hms (Nat.not_lt_zero _)
    | succ k_3 ih2 =>
      intro x_1 σ_2 H locs ls hm2 hge2 fr_σ_2 feσ_2 hF hI hl
      replace hF := (F_X12_honestFor_L2_1_s).symm.trans hF
      unfold F_X12_honestFor_B2_1 at hF
      refine lv_iload_n hx hb dX12_honestFor_2 rfl (lv_at hl 3 rfl) ?_
      refine lv_bipush (v := 10) hx hb dX12_honestFor_3 (by decide) ?_
      have gc_4_x_1 := q_rng x_1
      refine q_icmp_ge (A := x_1.toInt) (B := 10) E rfl (by decide) (tgt := 26) dX12_honestFor_5 (by decide) (fun c_4 => ?_) (fun c_4 => ?_)
      · skip
        replace hF := q_ifn hF (Int.not_lt.mpr c_4)
        unfold F_X12_honestFor_E26_5 at hF
        refine lv_aload_n hx hb dX12_honestFor_26 rfl (lv_at hl 0 rfl) ?_
        refine lv_iload_n hx hb dX12_honestFor_27 rfl (lv_at hl 1 rfl) ?_
        refine q_ci (q_runV (As := [.int v1]) (rest := []) E (hml.trans hl.1.symm) hI (c_X12_cardsOf l X σ_2 a v1 ha (by rw [feσ_2]; exact hG) (by first | (clear h0 h1 hm2 hge2 gc_4_x_1 c_4; omega) | omega)) kv_X12_293 ha ⟨rfl, by decide⟩ (show vwCl[11]? = some (RX12, TX12, 46) from rfl) rfl ⟨Nat.le_of_ble_eq_true rfl, Nat.le_of_ble_eq_true rfl⟩ ⟨Nat.le_refl _, Nat.le_refl _⟩ rfl (Nat.le_of_ble_eq_true rfl) dX12_honestFor_28) hI (by decide) (fun r_5 σ_6 H locs hpσ_6 hkσ_6 hI => ?_)
        obtain ⟨ahpσ_6, bhpσ_6, chpσ_6, dhpσ_6⟩ := hpσ_6
        rw [ahpσ_6] at hI
        rw [feσ_2] at bhpσ_6
        replace hF := q_letX hF dhpσ_6
        refine lv_istore_n (lv' := [(3, .int r_5), (0, .ref a), (1, .int v1), (2, .int v2)]) hx hb dX12_honestFor_31 rfl hl (by decide) rfl (fun ls hl => ?_)
        refine lv_aload_n hx hb dX12_honestFor_32 rfl (lv_at hl 1 rfl) ?_
        refine lv_iconst (v := 0) hx hb dX12_honestFor_33 (by decide) ?_
        refine ps_X12_375_12 E hI ha (by decide) dX12_honestFor_34 (fun H locs σ_7 hσ_7 hI => ?_)
        replace hF := q_letX hF hσ_7
        have fr_σ_7 := fr_σ_2.si hσ_7 ha rfl
        have mcσ_7 := m_wo hσ_7 (m_ne ha (q_tk (f := 20) (k' := 34) hI ha rfl (by decide)) (by decide))
        have feσ_7 : m_c X σ_7 a = m_c X σ a := (funext mcσ_7).trans feσ_2
        refine lv_aload_n hx hb dX12_honestFor_37 rfl (lv_at hl 1 rfl) ?_
        refine lv_iconst (v := (-1)) hx hb dX12_honestFor_38 (by decide) ?_
        refine ps_X12_378_12 E hI ha (by decide) dX12_honestFor_39 (fun H locs σ_8 hσ_8 hI => ?_)
        replace hF := q_letX hF hσ_8
        have fr_σ_8 := fr_σ_7.si hσ_8 ha rfl
        have mcσ_8 := m_wo hσ_8 (m_ne ha (q_tk (f := 20) (k' := 34) hI ha rfl (by decide)) (by decide))
        have feσ_8 : m_c X σ_8 a = m_c X σ a := (funext mcσ_8).trans feσ_7
        refine lv_aload_n hx hb dX12_honestFor_42 rfl (lv_at hl 1 rfl) ?_
        refine lv_iconst (v := (-1)) hx hb dX12_honestFor_43 (by decide) ?_
        refine ps_X12_381_12 E hI ha (by decide) dX12_honestFor_44 (fun H locs σ_9 hσ_9 hI => ?_)
        replace hF := q_letX hF hσ_9
        have fr_σ_9 := fr_σ_8.si hσ_9 ha rfl
        have mcσ_9 := m_wo hσ_9 (m_ne ha (q_tk (f := 20) (k' := 34) hI ha rfl (by decide)) (by decide))
        have feσ_9 : m_c X σ_9 a = m_c X σ a := (funext mcσ_9).trans feσ_8
        refine lv_iconst (v := 0) hx hb dX12_honestFor_47 (by decide) ?_
        refine lv_istore (lv' := [(4, .int 0), (3, .int r_5), (0, .ref a), (1, .int v1), (2, .int v2)]) hx hb dX12_honestFor_48 hl (by decide) rfl (fun ls hl => ?_)
        have L_50_13 : ∀ (k_13 : Nat) (x_10 : Int32) (x_11 : Int32) (σ_12 : ST) (H : Heap) (locs : List Loc) (ls : Array Slot), (2147483647 - x_11.toInt).toNat < k_13 → (0 ≤ x_11.toInt) → (q_ow [(12, 33), (12, 34), (12, 35), (38, 99)] [] X σ σ_12) → (m_c X σ_12 a = m_c X σ a) → (F_X12_honestFor_L50_3 X v2 a v1 k_13 x_10 x_11 σ_12 = out) → q_I X 8 σ s.heap locs σ_12 H → lv_has ls 7 [(0, .ref a), (1, .int v1), (2, .int v2), (3, .int x_10), (4, .int x_11)] → W p l e (q_rm 3 67) s m ([.ref a, .int v1, .int v2] : List Value).toArray below meth c H locs 0 0 (MQ below (q_Qi X 8 σ (fun (r : Int32) (σ' : ST) => (r, σ') = F_X12_honestFor X σ a v1 v2 ∧ q_ow [(12, 33), (12, 34), (12, 35), (38, 99)] [] X σ σ')) ([.ref a, .int v1, .int v2] : List Value).toArray s 0 0 (q_reg X)) (F0 m 50 ls []) := by
          clear hF
          intro k_13
          induction k_13 with
          | zero =>
            intro x_10 x_11 σ_12 H locs ls hms
            try clear ahpσ_6; try clear fr_σ_7; try clear mcσ_7; try clear feσ_7; try clear fr_σ_8; try clear mcσ_8; try clear feσ_8; try clear fr_σ_9; try clear mcσ_9; try clear feσ_9
            exact absurd hms (Nat.not_lt_zero _)
          | succ k_13 ih50 =>
            intro x_10 x_11 σ_12 H locs ls hm50 hge50 fr_σ_12 feσ_12 hF hI hl
            replace hF := (F_X12_honestFor_L50_3_s).symm.trans hF
            unfold F_X12_honestFor_B50_3 at hF
            refine lv_iload hx hb dX12_honestFor_50 (lv_at hl 4 rfl) ?_
            refine lv_iload_n hx hb dX12_honestFor_52 rfl (lv_at hl 2 rfl) ?_
            have gc_14_x_11 := q_rng x_11
            have gc_14_v2 := q_rng v2
            refine q_icmp_ge (A := x_11.toInt) (B := v2.toInt) E rfl rfl (tgt := 157) dX12_honestFor_53 (by decide) (fun c_14 => ?_) (fun c_14 => ?_)
            · skip
              replace hF := q_ifn hF (Int.not_lt.mpr c_14)
              skip
              refine lv_iload_n hx hb dX12_honestFor_157 rfl (lv_at hl 3 rfl) ?_
              exact q_reti E hr hlk hI ⟨(hF.trans hout), fr_σ_12⟩ dX12_honestFor_158
            · skip
              replace hF := q_ifp hF c_14
              refine lv_aload_n hx hb dX12_honestFor_56 rfl (lv_at hl 0 rfl) ?_
              refine lv_iload_n hx hb dX12_honestFor_57 rfl (lv_at hl 1 rfl) ?_
              refine lv_iload hx hb dX12_honestFor_58 (lv_at hl 4 rfl) ?_
              refine q_ci (q_runV (As := [.int v1, .int x_11]) (rest := []) E (hml.trans hl.1.symm) hI (c_X12_fallsTo l X σ_12 a v1 x_11 ha (by rw [feσ_12]; exact hG) (by rw [feσ_12]; exact (by omega)) (by first | (clear h0 h1 hh hm2 hge2 gc_4_x_1 c_4 bhpσ_6 chpσ_6 dhpσ_6 hm50 gc_14_v2; omega) | omega)) kv_X12_372 ha ⟨rfl, by decide⟩ (show vwCl[11]? = some (RX12, TX12, 46) from rfl) rfl ⟨Nat.le_of_ble_eq_true rfl, Nat.le_of_ble_eq_true rfl⟩ ⟨Nat.le_refl _, Nat.le_refl _⟩ rfl (Nat.le_of_ble_eq_true rfl) dX12_honestFor_60) hI (by decide) (fun r_15 σ_16 H locs hpσ_16 hkσ_16 hI => ?_)
              obtain ⟨ahpσ_16, bhpσ_16, chpσ_16⟩ := hpσ_16
              rw [ahpσ_16] at hI
              rw [feσ_12] at bhpσ_16
              replace hF := q_letX hF chpσ_16
              refine lv_istore (lv' := [(5, .int r_15), (0, .ref a), (1, .int v1), (2, .int v2), (3, .int x_10), (4, .int x_11)]) hx hb dX12_honestFor_63 hl (by decide) rfl (fun ls hl => ?_)
              refine lv_aload_n hx hb dX12_honestFor_65 rfl (lv_at hl 1 rfl) ?_
              refine gs_X12_35_12 E hI ha dX12_honestFor_66 ?_
              refine lv_iconst (v := 4) hx hb dX12_honestFor_69 (by decide) ?_
              refine q_iald E hI (q_tk (k' := 34) hI ha rfl (by decide)) ⟨by decide, rfl⟩ (by decide) (by rw [q_lnk (v := 4650) hI (q_tk (k' := 34) hI ha rfl (by decide)) rfl (by decide)]; decide) dX12_honestFor_70 ?_
              refine lv_topi (fun f_17 ef_17 => ?_)
              replace hF := q_letX hF ef_17
              have if_17 : f_17.toInt = m_c X σ a 4 := (m_rd ef_17 (by decide)).trans (congrFun feσ_12 _)
              refine lv_aload_n hx hb dX12_honestFor_71 rfl (lv_at hl 1 rfl) ?_
              refine gs_X12_53_12 E hI ha dX12_honestFor_72 ?_
              refine lv_iload hx hb dX12_honestFor_75 (lv_at hl 0 rfl) ?_
              refine q_iald E hI (q_tk (k' := 38) hI ha rfl (by decide)) ⟨by decide, rfl⟩ (by first | (clear h0 h1 hh hm2 hge2 gc_4_x_1 c_4 bhpσ_6 chpσ_6 dhpσ_6 hm50 hge50 gc_14_x_11 gc_14_v2 c_14 ahpσ_16 chpσ_16 if_17; omega) | omega) (by rw [q_lnk (v := 10) hI (q_tk (k' := 38) hI ha rfl (by decide)) rfl (by decide)]; omega) dX12_honestFor_77 ?_
              refine lv_topi (fun f_18 ef_18 => ?_)
              replace hF := q_letX hF ef_18
              refine q_ci (q_runS (As := [.int f_17, .int f_18]) (rest := []) E (hml.trans hl.1.symm) hI (c_J9_min_7cf53 l X σ_12 f_17 f_18) ks_X12_384 rfl ⟨Nat.le_of_ble_eq_true rfl, Nat.le_of_ble_eq_true rfl⟩ ⟨Nat.le_refl _, Nat.le_refl _⟩ rfl (Nat.le_of_ble_eq_true rfl) dX12_honestFor_78) hI (by decide) (fun r_19 σ_20 H locs hpσ_20 hkσ_20 hI => ?_)
              obtain ⟨ahpσ_20, bhpσ_20, chpσ_20⟩ := hpσ_20
              rw [ahpσ_20] at hI
              replace hF := q_letX hF chpσ_20
              refine lv_istore (lv' := [(6, .int r_19), (5, .int r_15), (0, .ref a), (1, .int v1), (2, .int v2), (3, .int x_10), (4, .int x_11)]) hx hb dX12_honestFor_81 hl (by decide) rfl (fun ls hl => ?_)
              refine lv_iload hx hb dX12_honestFor_83 (lv_at hl 0 rfl) ?_
              have J_105_21 : ∀  (σ_21 : ST) (H : Heap) (locs : List Loc) (ls : Array Slot), (q_ow [(12, 33), (12, 34), (12, 35), (38, 99)] [] X σ σ_21) → (m_c X σ_21 a = m_c X σ a) → (F_X12_honestFor_J105_5 X a r_15 r_19 x_10 x_11 (F_X12_honestFor_L50_3 X v2 a v1 k_13) σ_21 = out) → q_I X 8 σ s.heap locs σ_21 H → lv_has ls 7 [(0, .ref a), (1, .int v1), (2, .int v2), (3, .int x_10), (4, .int x_11), (5, .int r_15), (6, .int r_19)] → W p l e (q_rm 3 67) s m ([.ref a, .int v1, .int v2] : List Value).toArray below meth c H locs 0 0 (MQ below (q_Qi X 8 σ (fun (r : Int32) (σ' : ST) => (r, σ') = F_X12_honestFor X σ a v1 v2 ∧ q_ow [(12, 33), (12, 34), (12, 35), (38, 99)] [] X σ σ')) ([.ref a, .int v1, .int v2] : List Value).toArray s 0 0 (q_reg X)) (F0 m 105 ls []) := by
                clear hF
                intro σ_21 H locs ls fr_σ_21 feσ_21 hF hI hl
                try clear ahpσ_16; try clear ahpσ_20
                unfold F_X12_honestFor_J105_5 at hF
                refine lv_aload_n hx hb dX12_honestFor_105 rfl (lv_at hl 0 rfl) ?_
                refine gs_X12_53_12 E hI ha dX12_honestFor_106 ?_
                refine lv_iload hx hb dX12_honestFor_109 (lv_at hl 5 rfl) ?_
                refine lv_dup2_11 hx hb dX12_honestFor_111 rfl rfl ?_
                refine q_iald E hI (q_tk (k' := 38) hI ha rfl (by decide)) ⟨by decide, rfl⟩ (by first | (clear h0 h1 hh hm2 hge2 gc_4_x_1 c_4 bhpσ_6 chpσ_6 dhpσ_6 hm50 hge50 gc_14_x_11 gc_14_v2 c_14 chpσ_16 if_17 bhpσ_20 chpσ_20; omega) | omega) (by rw [q_lnk (v := 10) hI (q_tk (k' := 38) hI ha rfl (by decide)) rfl (by decide)]; omega) dX12_honestFor_112 ?_
                refine lv_topi (fun f_22 ef_22 => ?_)
                replace hF := q_letX hF ef_22
                refine lv_iload hx hb dX12_honestFor_113 (lv_at hl 6 rfl) ?_
                refine lv_isub hx hb dX12_honestFor_115 ?_
                refine lv_topi (fun z_23 ez_23 => ?_)
                replace hF := q_letX hF ez_23
                refine q_iastN E hI (q_tk (k' := 38) hI ha rfl (by decide)) ⟨by decide, rfl⟩ (by first | (clear h0 h1 hh hm2 hge2 gc_4_x_1 c_4 bhpσ_6 chpσ_6 dhpσ_6 hm50 hge50 gc_14_x_11 gc_14_v2 c_14 chpσ_16 if_17 bhpσ_20 chpσ_20; omega) | omega) (by rw [q_lnk (v := 10) hI (q_tk (k' := 38) hI ha rfl (by decide)) rfl (by decide)]; omega) (show 8 < 9 by decide) (q_inU rfl) dX12_honestFor_116 (fun H locs σ_24 hσ_24 hI => ?_)
                replace hF := q_letX hF hσ_24
                have fr_σ_24 := fr_σ_21.si hσ_24 (q_tk (k' := 38) hI ha rfl (by decide)) rfl
                have mcσ_24 := m_wo hσ_24 (m_ne (q_tk (k' := 38) hI ha rfl (by decide)) (q_tk (f := 20) (k' := 34) hI ha rfl (by decide)) (by decide))
                have feσ_24 : m_c X σ_24 a = m_c X σ a := (funext mcσ_24).trans feσ_21
                refine lv_aload_n hx hb dX12_honestFor_117 rfl (lv_at hl 0 rfl) ?_
                refine lv_dup hx hb dX12_honestFor_118 rfl ?_
                refine gs_X12_375_12 E hI ha dX12_honestFor_119 ?_
                refine lv_topi (fun f_25 ef_25 => ?_)
                replace hF := q_letX hF ef_25
                have if_25 : f_25.toInt = (σ_24.1 a 33).toInt := congrArg Int32.toInt ef_25
                refine lv_iload hx hb dX12_honestFor_122 (lv_at hl 6 rfl) ?_
                refine lv_iadd hx hb dX12_honestFor_124 ?_
                refine lv_topi (fun z_26 ez_26 => ?_)
                replace hF := q_letX hF ez_26
                refine ps_X12_375_12 E hI ha (by decide) dX12_honestFor_125 (fun H locs σ_27 hσ_27 hI => ?_)
                replace hF := q_letX hF hσ_27
                have fr_σ_27 := fr_σ_24.si hσ_27 ha rfl
                have mcσ_27 := m_wo hσ_27 (m_ne ha (q_tk (f := 20) (k' := 34) hI ha rfl (by decide)) (by decide))
                have feσ_27 : m_c X σ_27 a = m_c X σ a := (funext mcσ_27).trans feσ_24
                refine lv_iload_n hx hb dX12_honestFor_128 rfl (lv_at hl 3 rfl) ?_
                refine lv_iload hx hb dX12_honestFor_129 (lv_at hl 6 rfl) ?_
                refine lv_isub hx hb dX12_honestFor_131 ?_
                refine lv_topi (fun z_28 ez_28 => ?_)
                replace hF := q_letX hF ez_28
                refine lv_istore_n (lv' := [(3, .int z_28), (0, .ref a), (1, .int v1), (2, .int v2), (4, .int x_11), (5, .int r_15), (6, .int r_19)]) hx hb dX12_honestFor_132 rfl hl (by decide) rfl (fun ls hl => ?_)
                refine lv_aload_n hx hb dX12_honestFor_133 rfl (lv_at hl 1 rfl) ?_
                refine lv_iload hx hb dX12_honestFor_134 (lv_at hl 6 rfl) ?_
                refine q_if_le (A := r_19.toInt) E rfl (tgt := 144) dX12_honestFor_136 (by decide) (fun c_29 => ?_) (fun c_29 => ?_)
                · skip
                  replace hF := q_ifn hF (Int.not_lt.mpr c_29)
                  refine lv_aload_n hx hb dX12_honestFor_144 rfl (lv_at hl 1 rfl) ?_
                  refine gs_X12_378_12 E hI ha dX12_honestFor_145 ?_
                  refine lv_topi (fun f_30 ef_30 => ?_)
                  replace hF := q_letX hF ef_30
                  have if_30 : f_30.toInt = (σ_27.1 a 34).toInt := congrArg Int32.toInt ef_30
                  refine ps_X12_378_12 E hI ha (by decide) dX12_honestFor_148 (fun H locs σ_31 hσ_31 hI => ?_)
                  replace hF := q_letX hF hσ_31
                  have fr_σ_31 := fr_σ_27.si hσ_31 ha rfl
                  have mcσ_31 := m_wo hσ_31 (m_ne ha (q_tk (f := 20) (k' := 34) hI ha rfl (by decide)) (by decide))
                  have feσ_31 : m_c X σ_31 a = m_c X σ a := (funext mcσ_31).trans feσ_27
                  obtain ⟨z_32, ez_32⟩ : ∃ y : Int32, y = x_11 + 1 := ⟨_, rfl⟩
                  replace hF := q_letX hF ez_32
                  refine lv_iinc (v := z_32) (lv' := [(4, .int z_32), (3, .int z_28), (0, .ref a), (1, .int v1), (2, .int v2), (5, .int r_15), (6, .int r_19)]) hx hb dX12_honestFor_151 hl (k := 4) rfl (by rw [ez_32]; rfl) (by decide) rfl (fun ls hl => ?_)
                  have iz_32 : z_32.toInt = x_11.toInt + 1 := q_inc ez_32 (by first | (clear h0 h1 hh hm2 hge2 gc_4_x_1 c_4 bhpσ_6 chpσ_6 dhpσ_6 hm50 gc_14_v2 bhpσ_16 chpσ_16 if_17 bhpσ_20 chpσ_20 if_25 c_29 if_30; omega) | omega)
                  refine lv_goto (tgt := 50) hx hb dX12_honestFor_154 (by decide) ?_
                  exact ih50 z_28 z_32 σ_31 _ _ ls (by first | (clear h0 h1 hm2 hge2 gc_4_x_1 c_4 bhpσ_6 chpσ_6 dhpσ_6 gc_14_v2 bhpσ_16 chpσ_16 chpσ_20 if_25 if_30; omega) | omega) (by first | (clear h0 h1 hh hm2 hge2 gc_4_x_1 c_4 bhpσ_6 chpσ_6 dhpσ_6 hm50 gc_14_v2 c_14 bhpσ_16 chpσ_16 if_17 bhpσ_20 chpσ_20 if_25 c_29 if_30; omega) | omega) fr_σ_31 feσ_31 hF hI (lv_sub hl [2, 3, 4, 1, 0] rfl)
                · skip
                  replace hF := q_ifp hF c_29
                  refine lv_iload hx hb dX12_honestFor_139 (lv_at hl 5 rfl) ?_
                  refine lv_goto (tgt := 148) hx hb dX12_honestFor_141 (by decide) ?_
                  refine ps_X12_378_12 E hI ha (by decide) dX12_honestFor_148 (fun H locs σ_33 hσ_33 hI => ?_)
                  replace hF := q_letX hF hσ_33
                  have fr_σ_33 := fr_σ_27.si hσ_33 ha rfl
                  have mcσ_33 := m_wo hσ_33 (m_ne ha (q_tk (f := 20) (k' := 34) hI ha rfl (by decide)) (by decide))
                  have feσ_33 : m_c X σ_33 a = m_c X σ a := (funext mcσ_33).trans feσ_27
                  obtain ⟨z_34, ez_34⟩ : ∃ y : Int32, y = x_11 + 1 := ⟨_, rfl⟩
                  replace hF := q_letX hF ez_34
                  refine lv_iinc (v := z_34) (lv' := [(4, .int z_34), (3, .int z_28), (0, .ref a), (1, .int v1), (2, .int v2), (5, .int r_15), (6, .int r_19)]) hx hb dX12_honestFor_151 hl (k := 4) rfl (by rw [ez_34]; rfl) (by decide) rfl (fun ls hl => ?_)
                  have iz_34 : z_34.toInt = x_11.toInt + 1 := q_inc ez_34 (by first | (clear h0 h1 hh hm2 hge2 gc_4_x_1 c_4 bhpσ_6 chpσ_6 dhpσ_6 hm50 gc_14_v2 bhpσ_16 chpσ_16 if_17 bhpσ_20 chpσ_20 if_25 c_29; omega) | omega)
                  refine lv_goto (tgt := 50) hx hb dX12_honestFor_154 (by decide) ?_
                  exact ih50 z_28 z_34 σ_33 _ _ ls (by first | (clear h0 h1 hh hm2 hge2 gc_4_x_1 c_4 bhpσ_6 chpσ_6 dhpσ_6 gc_14_v2 bhpσ_16 chpσ_16 if_17 bhpσ_20 chpσ_20 if_25 c_29; omega) | omega) (by first | (clear h0 h1 hh hm2 hge2 gc_4_x_1 c_4 bhpσ_6 chpσ_6 dhpσ_6 hm50 gc_14_v2 c_14 bhpσ_16 chpσ_16 if_17 bhpσ_20 chpσ_20 if_25 c_29; omega) | omega) fr_σ_33 feσ_33 hF hI (lv_sub hl [2, 3, 4, 1, 0] rfl)
              refine q_if_ne (A := r_19.toInt) E rfl (tgt := 105) dX12_honestFor_85 (by decide) (fun c_35 => ?_) (fun c_35 => ?_)
              · skip
                replace hF := q_ifn hF c_35
                exact J_105_21 σ_12 _ _ ls fr_σ_12 feσ_12 hF hI (lv_sub hl [2, 3, 4, 5, 6, 1, 0] rfl)
              · skip
                replace hF := q_ifp hF c_35
                refine lv_iload_n hx hb dX12_honestFor_88 rfl (lv_at hl 5 rfl) ?_
                refine q_if_le (A := x_10.toInt) E rfl (tgt := 105) dX12_honestFor_89 (by decide) (fun c_36 => ?_) (fun c_36 => ?_)
                · skip
                  replace hF := q_ifn hF (Int.not_lt.mpr c_36)
                  exact J_105_21 σ_12 _ _ ls fr_σ_12 feσ_12 hF hI (lv_sub hl [2, 3, 4, 5, 6, 1, 0] rfl)
                · skip
                  replace hF := q_ifp hF c_36
                  refine lv_aload_n hx hb dX12_honestFor_92 rfl (lv_at hl 2 rfl) ?_
                  refine gs_X12_381_12 E hI ha dX12_honestFor_93 ?_
                  refine lv_topi (fun f_37 ef_37 => ?_)
                  replace hF := q_letX hF ef_37
                  have if_37 : f_37.toInt = (σ_12.1 a 35).toInt := congrArg Int32.toInt ef_37
                  refine q_if_ge (A := f_37.toInt) E rfl (tgt := 105) dX12_honestFor_96 (by decide) (fun c_38 => ?_) (fun c_38 => ?_)
                  · skip
                    replace hF := q_ifn hF (Int.not_lt.mpr c_38)
                    exact J_105_21 σ_12 _ _ ls fr_σ_12 feσ_12 hF hI (lv_sub hl [2, 3, 4, 5, 6, 1, 0] rfl)
                  · skip
                    replace hF := q_ifp hF c_38
                    refine lv_aload_n hx hb dX12_honestFor_99 rfl (lv_at hl 2 rfl) ?_
                    refine lv_iload hx hb dX12_honestFor_100 (lv_at hl 6 rfl) ?_
                    refine ps_X12_381_12 E hI ha (by decide) dX12_honestFor_102 (fun H locs σ_39 hσ_39 hI => ?_)
                    replace hF := q_letX hF hσ_39
                    have fr_σ_39 := fr_σ_12.si hσ_39 ha rfl
                    have mcσ_39 := m_wo hσ_39 (m_ne ha (q_tk (f := 20) (k' := 34) hI ha rfl (by decide)) (by decide))
                    have feσ_39 : m_c X σ_39 a = m_c X σ a := (funext mcσ_39).trans feσ_12
                    exact J_105_21 σ_39 _ _ ls fr_σ_39 feσ_39 hF hI (lv_sub hl [2, 3, 4, 5, 6, 1, 0] rfl)
        have kc_40 : (0 : Int32).toInt = 0 := rfl
        exact L_50_13 ((2147483647 - (0 : Int32).toInt).toNat + 1) r_5 0 σ_9 _ _ ls (Nat.lt_succ_self _) (by decide) fr_σ_9 feσ_9 hF hI (lv_sub hl [2, 3, 4, 1, 0] rfl)
      · skip
        replace hF := q_ifp hF c_4
        refine lv_aload_n hx hb dX12_honestFor_8 rfl (lv_at hl 0 rfl) ?_
        refine gs_X12_53_12 E hI ha dX12_honestFor_9 ?_
        refine lv_iload_n hx hb dX12_honestFor_12 rfl (lv_at hl 3 rfl) ?_
        refine lv_aload_n hx hb dX12_honestFor_13 rfl (lv_at hl 0 rfl) ?_
        refine lv_iload_n hx hb dX12_honestFor_14 rfl (lv_at hl 1 rfl) ?_
        refine lv_iload_n hx hb dX12_honestFor_15 rfl (lv_at hl 3 rfl) ?_
        refine q_ci (q_runV (As := [.int v1, .int x_1]) (rest := [.int x_1, .ref (q_rf X a 32)]) E (hml.trans hl.1.symm) hI (c_X12_handOf l X σ_2 a v1 x_1 ha (by first | (clear h0 h1 hm2 hge2 gc_4_x_1 c_4; omega) | omega) (by first | (clear h0 h1 hh hm2; omega) | omega)) kv_X12_276 ha ⟨rfl, by decide⟩ (show vwCl[11]? = some (RX12, TX12, 46) from rfl) rfl ⟨Nat.le_of_ble_eq_true rfl, Nat.le_of_ble_eq_true rfl⟩ ⟨Nat.le_refl _, Nat.le_refl _⟩ rfl (Nat.le_of_ble_eq_true rfl) dX12_honestFor_16) hI (by decide) (fun r_41 σ_42 H locs hpσ_42 hkσ_42 hI => ?_)
        obtain ⟨ahpσ_42, bhpσ_42, chpσ_42⟩ := hpσ_42
        rw [ahpσ_42] at hI
        rw [feσ_2] at bhpσ_42
        replace hF := q_letX hF chpσ_42
        have ir_41 : r_41.toInt = (m_c X σ a (34 + 10 * v1.toInt + x_1.toInt)) := (by first | exact bhpσ_42 | (rw [bhpσ_42]) | (simp only [bhpσ_42]))
        refine q_iastN E hI (q_tk (k' := 38) hI ha rfl (by decide)) ⟨by decide, rfl⟩ (by omega) (by rw [q_lnk (v := 10) hI (q_tk (k' := 38) hI ha rfl (by decide)) rfl (by decide)]; omega) (show 8 < 9 by decide) (q_inU rfl) dX12_honestFor_19 (fun H locs σ_43 hσ_43 hI => ?_)
        replace hF := q_letX hF hσ_43
        have fr_σ_43 := fr_σ_2.si hσ_43 (q_tk (k' := 38) hI ha rfl (by decide)) rfl
        have mcσ_43 := m_wo hσ_43 (m_ne (q_tk (k' := 38) hI ha rfl (by decide)) (q_tk (f := 20) (k' := 34) hI ha rfl (by decide)) (by decide))
        have feσ_43 : m_c X σ_43 a = m_c X σ a := (funext mcσ_43).trans feσ_2
        obtain ⟨z_44, ez_44⟩ : ∃ y : Int32, y = x_1 + 1 := ⟨_, rfl⟩
        replace hF := q_letX hF ez_44
        refine lv_iinc (v := z_44) (lv' := [(3, .int z_44), (0, .ref a), (1, .int v1), (2, .int v2)]) hx hb dX12_honestFor_20 hl (k := 3) rfl (by rw [ez_44]; rfl) (by decide) rfl (fun ls hl => ?_)
        have iz_44 : z_44.toInt = x_1.toInt + 1 := q_inc ez_44 (by first | (clear h0 h1 hh hm2 ahpσ_42 bhpσ_42 chpσ_42 ir_41; omega) | omega)
        refine lv_goto (tgt := 2) hx hb dX12_honestFor_23 (by decide) ?_
        exact ih2 z_44 σ_43 _ _ ls (by first | (clear h0 h1 hh ahpσ_42 bhpσ_42 chpσ_42 ir_41; omega) | omega) (by first | (clear h0 h1 hh hm2 ahpσ_42 bhpσ_42 chpσ_42 ir_41; omega) | omega) fr_σ_43 feσ_43 hF hI (lv_sub hl [1, 2, 3, 0] rfl)
  have kc_45 : (0 : Int32).toInt = 0 := rfl
  exact L_2_3 ((2147483647 - (0 : Int32).toInt).toNat + 1) 0 σ _ _ ls (Nat.lt_succ_self _) (by decide) fr_σ feσ hF hI (lv_sub hl [1, 2, 3, 0] rfl)

set_option maxRecDepth 100000 in
set_option maxHeartbeats 4000000 in
theorem c_X12_honestly (l : Launch) (X : XW) (σ : ST) (a : Nat) (v1 : Int32) (v2 : Int32) (ha : q_kd X a = 12) (hG : m_G (m_c X σ a)) : Met l yX12_honestly (q_ws yX12_honestly cX12_honestly 3 (some .int)) (q_rm 4 93) (q_P X σ [.ref a, .int v1, .int v2]) (q_Qi X 8 σ (fun (r : Int32) (σ' : ST) => (r, σ') = F_X12_honestly X σ a v1 v2 ∧ q_ow [(12, 0), (12, 1), (12, 33), (12, 34), (12, 35), (38, 99)] [] X σ σ')) 0 0 (q_reg X) := by
  refine q_met 8 (by first | exact rfl | decide +kernel) rfl (Nat.le_of_ble_eq_true rfl) (fun p e s m below meth c E hml hr hlk hI ls hl => ?_)
  have hx := E.1
  have hb := E.2.1
  have hl : lv_has ls 3 [(0, .ref a), (1, .int v1), (2, .int v2)] := hl
  have feσ : m_c X σ a = m_c X σ a := rfl
  have fr_σ : q_ow [(12, 0), (12, 1), (12, 33), (12, 34), (12, 35), (38, 99)] [] X σ σ := q_ow.rf
  have hh := hG.hd
  obtain ⟨out, hout⟩ : ∃ o, o = F_X12_honestly X σ a v1 v2 := ⟨_, rfl⟩
  have hF := hout.symm
  unfold F_X12_honestly at hF
  refine lv_aload_n hx hb dX12_honestly_0 rfl (lv_at hl 0 rfl) ?_
  refine lv_iconst (v := 0) hx hb dX12_honestly_1 (by decide) ?_
  refine ps_X12_59_12 E hI ha (by decide) dX12_honestly_2 (fun H locs σ_1 hσ_1 hI => ?_)
  replace hF := q_letX hF hσ_1
  have fr_σ_1 := fr_σ.si hσ_1 ha rfl
  have mcσ_1 := m_wo hσ_1 (m_ne ha (q_tk (f := 20) (k' := 34) hI ha rfl (by decide)) (by decide))
  have feσ_1 : m_c X σ_1 a = m_c X σ a := (funext mcσ_1).trans feσ
  refine lv_aload_n hx hb dX12_honestly_5 rfl (lv_at hl 0 rfl) ?_
  refine lv_iconst (v := 0) hx hb dX12_honestly_6 (by decide) ?_
  refine ps_X12_62_12 E hI ha (by decide) dX12_honestly_7 (fun H locs σ_2 hσ_2 hI => ?_)
  replace hF := q_letX hF hσ_2
  have fr_σ_2 := fr_σ_1.si hσ_2 ha rfl
  have mcσ_2 := m_wo hσ_2 (m_ne ha (q_tk (f := 20) (k' := 34) hI ha rfl (by decide)) (by decide))
  have feσ_2 : m_c X σ_2 a = m_c X σ a := (funext mcσ_2).trans feσ_1
  refine lv_aload_n hx hb dX12_honestly_10 rfl (lv_at hl 0 rfl) ?_
  refine lv_iload_n hx hb dX12_honestly_11 rfl (lv_at hl 1 rfl) ?_
  refine q_ci (q_runV (As := [.int v1]) (rest := []) E (hml.trans hl.1.symm) hI (c_X12_isPlayerAt l X σ_2 a v1 ha (by rw [feσ_2]; exact hG)) kv_X12_290 ha ⟨rfl, by decide⟩ (show vwCl[11]? = some (RX12, TX12, 46) from rfl) rfl ⟨Nat.le_of_ble_eq_true rfl, Nat.le_of_ble_eq_true rfl⟩ ⟨Nat.le_refl _, Nat.le_refl _⟩ rfl (Nat.le_of_ble_eq_true rfl) dX12_honestly_12) hI (by decide) (fun r_3 σ_4 H locs hpσ_4 hkσ_4 hI => ?_)
  obtain ⟨ahpσ_4, bhpσ_4, chpσ_4, dhpσ_4⟩ := hpσ_4
  rw [ahpσ_4] at hI
  rw [feσ_2] at chpσ_4
  replace hF := q_letX hF dhpσ_4
  refine q_if_ne (A := r_3.toInt) E rfl (tgt := 24) dX12_honestly_15 (by decide) (fun c_5 => ?_) (fun c_5 => ?_)
  · skip
    replace hF := q_ifn hF c_5
    replace c_5 := q_ifOne bhpσ_4 c_5
    replace chpσ_4 := q_ifYes chpσ_4 c_5
    refine lv_iload_n hx hb dX12_honestly_24 rfl (lv_at hl 2 rfl) ?_
    refine lv_i2l hx hb dX12_honestly_25 rfl ?_
    refine lv_topl (fun y_6 ey_6 => ?_)
    replace hF := q_letX hF ey_6
    have ggy_6 := q_rng v2
    have iy_6 : y_6.toInt = v2.toInt := by rw [ey_6]; exact (q_i2l _).trans rfl
    refine lv_lconst (v := 0) hx hb dX12_honestly_26 (by decide) ?_
    refine lv_ldc2 (v := 60) hx hb E.2.2.1 (E.2.2.2.1 _ (q_in_t9 (i := 70) (by first | rfl | decide +kernel) rfl)) dX12_honestly_27 ?_
    have kc_7 : (0 : Int64).toInt = 0 := rfl
    have kc_8 : (60 : Int64).toInt = 60 := rfl
    refine q_ci (q_runS (As := [.long y_6, .long 0, .long 60]) (rest := []) E (hml.trans hl.1.symm) hI (c_X12_isIn l X σ_2 y_6 (0 : Int64) (60 : Int64)) ks_X12_94 rfl ⟨Nat.le_of_ble_eq_true rfl, Nat.le_of_ble_eq_true rfl⟩ ⟨Nat.le_refl _, Nat.le_refl _⟩ rfl (Nat.le_of_ble_eq_true rfl) dX12_honestly_30) hI (by decide) (fun r_9 σ_10 H locs hpσ_10 hkσ_10 hI => ?_)
    obtain ⟨ahpσ_10, bhpσ_10, chpσ_10, dhpσ_10⟩ := hpσ_10
    rw [ahpσ_10] at hI
    replace hF := q_letX hF dhpσ_10
    refine q_if_ne (A := r_9.toInt) E rfl (tgt := 42) dX12_honestly_33 (by decide) (fun c_11 => ?_) (fun c_11 => ?_)
    · skip
      replace hF := q_ifn hF c_11
      replace c_11 := q_ifOne bhpσ_10 c_11
      replace chpσ_10 := q_ifYes chpσ_10 c_11
      refine lv_aload_n hx hb dX12_honestly_42 rfl (lv_at hl 0 rfl) ?_
      refine lv_iload_n hx hb dX12_honestly_43 rfl (lv_at hl 1 rfl) ?_
      refine lv_iload_n hx hb dX12_honestly_44 rfl (lv_at hl 2 rfl) ?_
      refine q_ci (q_runV (As := [.int v1, .int v2]) (rest := []) E (hml.trans hl.1.symm) hI (c_X12_honestFor l X σ_2 a v1 v2 ha (by rw [feσ_2]; exact hG) (by rw [feσ_2]; exact (by omega)) (by omega)) kv_X12_387 ha ⟨rfl, by decide⟩ (show vwCl[11]? = some (RX12, TX12, 46) from rfl) rfl ⟨Nat.le_of_ble_eq_true rfl, Nat.le_of_ble_eq_true rfl⟩ ⟨Nat.le_refl _, Nat.le_refl _⟩ rfl (Nat.le_of_ble_eq_true rfl) dX12_honestly_45) hI (by decide) (fun r_12 σ_13 H locs hpσ_13 hkσ_13 hI => ?_)
      obtain ⟨ahpσ_13, bhpσ_13⟩ := hpσ_13
      have fr_σ_13 := fr_σ_2.call bhpσ_13 rfl rfl
      replace hF := q_biX hF ahpσ_13
      have mcσ_13 := m_cK hkσ_13 hI.1 ha (by decide)
      have feσ_13 : m_c X σ_13 a = m_c X σ a := (funext mcσ_13).trans feσ_2
      refine lv_pop hx hb dX12_honestly_48 rfl ?_
      refine lv_aload_n hx hb dX12_honestly_49 rfl (lv_at hl 0 rfl) ?_
      refine gs_X12_375_12 E hI ha dX12_honestly_50 ?_
      refine lv_topi (fun f_14 ef_14 => ?_)
      replace hF := q_letX hF ef_14
      have if_14 : f_14.toInt = (σ_13.1 a 33).toInt := congrArg Int32.toInt ef_14
      exact q_reti E hr hlk hI ⟨(hF.trans hout), fr_σ_13⟩ dX12_honestly_53
    · skip
      replace hF := q_ifp hF c_11
      replace chpσ_10 := q_ifNo chpσ_10 c_11
      refine lv_aload_n hx hb dX12_honestly_36 rfl (lv_at hl 0 rfl) ?_
      refine lv_iconst (v := 5) hx hb dX12_honestly_37 (by decide) ?_
      have kc_15 : (5 : Int32).toInt = 5 := rfl
      refine q_ci (q_runV (As := [.int 5]) (rest := []) E (hml.trans hl.1.symm) hI (c_X12_refuse l X σ_2 a (5 : Int32) ha) kv_X12_284 ha ⟨rfl, by decide⟩ (show vwCl[11]? = some (RX12, TX12, 46) from rfl) rfl ⟨Nat.le_of_ble_eq_true rfl, Nat.le_of_ble_eq_true rfl⟩ ⟨Nat.le_refl _, Nat.le_refl _⟩ rfl (Nat.le_of_ble_eq_true rfl) dX12_honestly_38) hI (by decide) (fun r_16 σ_17 H locs hpσ_17 hkσ_17 hI => ?_)
      obtain ⟨ahpσ_17, bhpσ_17, chpσ_17⟩ := hpσ_17
      have fr_σ_17 := fr_σ_2.call chpσ_17 rfl rfl
      replace hF := q_biX hF bhpσ_17
      have mcσ_17 := m_cK hkσ_17 hI.1 ha (by decide)
      have feσ_17 : m_c X σ_17 a = m_c X σ a := (funext mcσ_17).trans feσ_2
      exact q_reti E hr hlk hI ⟨(hF.trans hout), fr_σ_17⟩ dX12_honestly_41
  · skip
    replace hF := q_ifp hF c_5
    replace chpσ_4 := q_ifNo chpσ_4 c_5
    refine lv_aload_n hx hb dX12_honestly_18 rfl (lv_at hl 0 rfl) ?_
    refine lv_iconst (v := 2) hx hb dX12_honestly_19 (by decide) ?_
    have kc_18 : (2 : Int32).toInt = 2 := rfl
    refine q_ci (q_runV (As := [.int 2]) (rest := []) E (hml.trans hl.1.symm) hI (c_X12_refuse l X σ_2 a (2 : Int32) ha) kv_X12_284 ha ⟨rfl, by decide⟩ (show vwCl[11]? = some (RX12, TX12, 46) from rfl) rfl ⟨Nat.le_of_ble_eq_true rfl, Nat.le_of_ble_eq_true rfl⟩ ⟨Nat.le_refl _, Nat.le_refl _⟩ rfl (Nat.le_of_ble_eq_true rfl) dX12_honestly_20) hI (by decide) (fun r_19 σ_20 H locs hpσ_20 hkσ_20 hI => ?_)
    obtain ⟨ahpσ_20, bhpσ_20, chpσ_20⟩ := hpσ_20
    have fr_σ_20 := fr_σ_2.call chpσ_20 rfl rfl
    replace hF := q_biX hF bhpσ_20
    have mcσ_20 := m_cK hkσ_20 hI.1 ha (by decide)
    have feσ_20 : m_c X σ_20 a = m_c X σ a := (funext mcσ_20).trans feσ_2
    exact q_reti E hr hlk hI ⟨(hF.trans hout), fr_σ_20⟩ dX12_honestly_23

set_option maxRecDepth 100000 in
set_option maxHeartbeats 4000000 in
theorem c_X12_ridOf (l : Launch) (X : XW) (σ : ST) (a : Nat) (v1 : Int32) (ha : q_kd X a = 12) (hG : m_G (m_c X σ a)) (h0 : 0 ≤ v1.toInt ∧ v1.toInt < m_c X σ a 2) : Met l yX12_ridOf (q_ws yX12_ridOf cX12_ridOf 3 (some .int)) (q_rm 4 93) (q_P X σ [.ref a, .int v1]) (q_Qi X 8 σ (fun (r : Int32) (σ' : ST) => (-1 ≤ r.toInt ∧ r.toInt ≤ 60) ∧ (r, σ') = F_X12_ridOf X σ a v1 ∧ q_ow [(12, 33), (12, 34), (12, 35), (38, 99)] [] X σ σ')) 0 0 (q_reg X) := by
  refine q_met 8 (by first | exact rfl | decide +kernel) rfl (Nat.le_of_ble_eq_true rfl) (fun p e s m below meth c E hml hr hlk hI ls hl => ?_)
  have hx := E.1
  have hb := E.2.1
  have hl : lv_has ls 3 [(0, .ref a), (1, .int v1)] := hl
  have feσ : m_c X σ a = m_c X σ a := rfl
  have fr_σ : q_ow [(12, 33), (12, 34), (12, 35), (38, 99)] [] X σ σ := q_ow.rf
  have hh := hG.hd
  obtain ⟨out, hout⟩ : ∃ o, o = F_X12_ridOf X σ a v1 := ⟨_, rfl⟩
  have hF := hout.symm
  unfold F_X12_ridOf at hF
  refine lv_iconst (v := 0) hx hb dX12_ridOf_0 (by decide) ?_
  refine lv_istore_n (lv' := [(2, .int 0), (0, .ref a), (1, .int v1)]) hx hb dX12_ridOf_1 rfl hl (by decide) rfl (fun ls hl => ?_)
  have L_2_3 : ∀ (k_3 : Nat) (x_1 : Int32) (σ_2 : ST) (H : Heap) (locs : List Loc) (ls : Array Slot), (2147483647 - x_1.toInt).toNat < k_3 → (0 ≤ x_1.toInt) → (q_ow [(12, 33), (12, 34), (12, 35), (38, 99)] [] X σ σ_2) → (m_c X σ_2 a = m_c X σ a) → (F_X12_ridOf_L2_1 X a v1 k_3 x_1 σ_2 = out) → q_I X 8 σ s.heap locs σ_2 H → lv_has ls 3 [(0, .ref a), (1, .int v1), (2, .int x_1)] → W p l e (q_rm 4 93) s m ([.ref a, .int v1] : List Value).toArray below meth c H locs 0 0 (MQ below (q_Qi X 8 σ (fun (r : Int32) (σ' : ST) => (-1 ≤ r.toInt ∧ r.toInt ≤ 60) ∧ (r, σ') = F_X12_ridOf X σ a v1 ∧ q_ow [(12, 33), (12, 34), (12, 35), (38, 99)] [] X σ σ')) ([.ref a, .int v1] : List Value).toArray s 0 0 (q_reg X)) (F0 m 2 ls []) := by
    clear hF
    intro k_3
    induction k_3 with
    | zero =>
      intro x_1 σ_2 H locs ls hms
      try clear feσ; try clear fr_σ
      exact absurd hms (Nat.not_lt_zero _)
    | succ k_3 ih2 =>
      intro x_1 σ_2 H locs ls hm2 hge2 fr_σ_2 feσ_2 hF hI hl
      replace hF := (F_X12_ridOf_L2_1_s).symm.trans hF
      unfold F_X12_ridOf_B2_1 at hF
      refine lv_iload_n hx hb dX12_ridOf_2 rfl (lv_at hl 2 rfl) ?_
      refine lv_bipush (v := 60) hx hb dX12_ridOf_3 (by decide) ?_
      have gc_4_x_1 := q_rng x_1
      refine q_icmp_gt (A := x_1.toInt) (B := 60) E rfl (by decide) (tgt := 25) dX12_ridOf_5 (by decide) (fun c_4 => ?_) (fun c_4 => ?_)
      · skip
        replace hF := q_ifp hF c_4
        skip
        refine lv_iconst (v := (-1)) hx hb dX12_ridOf_25 (by decide) ?_
        have hrv : ((-1) : Int32).toInt = (-1) := rfl
        exact q_reti E hr hlk hI ⟨(by first | (clear h0 hh hm2 hge2 gc_4_x_1 c_4; omega) | omega), (hF.trans hout), fr_σ_2⟩ dX12_ridOf_26
      · skip
        replace hF := q_ifn hF (Int.not_lt.mpr c_4)
        refine lv_aload_n hx hb dX12_ridOf_8 rfl (lv_at hl 0 rfl) ?_
        refine lv_iload_n hx hb dX12_ridOf_9 rfl (lv_at hl 1 rfl) ?_
        refine lv_iload_n hx hb dX12_ridOf_10 rfl (lv_at hl 2 rfl) ?_
        refine q_ci (q_runV (As := [.int v1, .int x_1]) (rest := []) E (hml.trans hl.1.symm) hI (c_X12_honestFor l X σ_2 a v1 x_1 ha (by rw [feσ_2]; exact hG) (by rw [feσ_2]; exact (by omega)) (by first | (clear h0 hh hm2; omega) | omega)) kv_X12_387 ha ⟨rfl, by decide⟩ (show vwCl[11]? = some (RX12, TX12, 46) from rfl) rfl ⟨Nat.le_of_ble_eq_true rfl, Nat.le_of_ble_eq_true rfl⟩ ⟨Nat.le_refl _, Nat.le_refl _⟩ rfl (Nat.le_of_ble_eq_true rfl) dX12_ridOf_11) hI (by decide) (fun r_5 σ_6 H locs hpσ_6 hkσ_6 hI => ?_)
        obtain ⟨ahpσ_6, bhpσ_6⟩ := hpσ_6
        have fr_σ_6 := fr_σ_2.call bhpσ_6 rfl rfl
        replace hF := q_biX hF ahpσ_6
        have mcσ_6 := m_cK hkσ_6 hI.1 ha (by decide)
        have feσ_6 : m_c X σ_6 a = m_c X σ a := (funext mcσ_6).trans feσ_2
        refine q_if_ne (A := r_5.toInt) E rfl (tgt := 19) dX12_ridOf_14 (by decide) (fun c_7 => ?_) (fun c_7 => ?_)
        · skip
          replace hF := q_ifn hF c_7
          obtain ⟨z_8, ez_8⟩ : ∃ y : Int32, y = x_1 + 1 := ⟨_, rfl⟩
          replace hF := q_letX hF ez_8
          refine lv_iinc (v := z_8) (lv' := [(2, .int z_8), (0, .ref a), (1, .int v1)]) hx hb dX12_ridOf_19 hl (k := 2) rfl (by rw [ez_8]; rfl) (by decide) rfl (fun ls hl => ?_)
          have iz_8 : z_8.toInt = x_1.toInt + 1 := q_inc ez_8 (by first | (clear h0 hh hm2 ahpσ_6 bhpσ_6 c_7; omega) | omega)
          refine lv_goto (tgt := 2) hx hb dX12_ridOf_22 (by decide) ?_
          exact ih2 z_8 σ_6 _ _ ls (by first | (clear h0 hh ahpσ_6 bhpσ_6; omega) | omega) (by first | (clear h0 hh hm2 ahpσ_6 bhpσ_6 c_7; omega) | omega) fr_σ_6 feσ_6 hF hI (lv_sub hl [1, 2, 0] rfl)
        · skip
          replace hF := q_ifp hF c_7
          skip
          refine lv_iload_n hx hb dX12_ridOf_17 rfl (lv_at hl 2 rfl) ?_
          exact q_reti E hr hlk hI ⟨(by first | (clear h0 hh hm2 ahpσ_6 bhpσ_6 c_7; omega) | omega), (hF.trans hout), fr_σ_6⟩ dX12_ridOf_18
  have kc_9 : (0 : Int32).toInt = 0 := rfl
  exact L_2_3 ((2147483647 - (0 : Int32).toInt).toNat + 1) 0 σ _ _ ls (Nat.lt_succ_self _) (by decide) fr_σ feσ hF hI (lv_sub hl [1, 2, 0] rfl)

set_option maxRecDepth 100000 in
set_option maxHeartbeats 4000000 in
theorem c_X12_rid (l : Launch) (X : XW) (σ : ST) (a : Nat) (v1 : Int32) (ha : q_kd X a = 12) (hG : m_G (m_c X σ a)) : Met l yX12_rid (q_ws yX12_rid cX12_rid 3 (some .int)) (q_rm 5 115) (q_P X σ [.ref a, .int v1]) (q_Qi X 8 σ (fun (r : Int32) (σ' : ST) => (r, σ') = F_X12_rid X σ a v1 ∧ q_ow [(12, 0), (12, 1), (12, 33), (12, 34), (12, 35), (38, 99)] [] X σ σ')) 0 0 (q_reg X) := by
  refine q_met 8 (by first | exact rfl | decide +kernel) rfl (Nat.le_of_ble_eq_true rfl) (fun p e s m below meth c E hml hr hlk hI ls hl => ?_)
  have hx := E.1
  have hb := E.2.1
  have hl : lv_has ls 3 [(0, .ref a), (1, .int v1)] := hl
  have feσ : m_c X σ a = m_c X σ a := rfl
  have fr_σ : q_ow [(12, 0), (12, 1), (12, 33), (12, 34), (12, 35), (38, 99)] [] X σ σ := q_ow.rf
  have hh := hG.hd
  obtain ⟨out, hout⟩ : ∃ o, o = F_X12_rid X σ a v1 := ⟨_, rfl⟩
  have hF := hout.symm
  unfold F_X12_rid at hF
  refine lv_aload_n hx hb dX12_rid_0 rfl (lv_at hl 0 rfl) ?_
  refine lv_iconst (v := 0) hx hb dX12_rid_1 (by decide) ?_
  refine ps_X12_59_12 E hI ha (by decide) dX12_rid_2 (fun H locs σ_1 hσ_1 hI => ?_)
  replace hF := q_letX hF hσ_1
  have fr_σ_1 := fr_σ.si hσ_1 ha rfl
  have mcσ_1 := m_wo hσ_1 (m_ne ha (q_tk (f := 20) (k' := 34) hI ha rfl (by decide)) (by decide))
  have feσ_1 : m_c X σ_1 a = m_c X σ a := (funext mcσ_1).trans feσ
  refine lv_aload_n hx hb dX12_rid_5 rfl (lv_at hl 0 rfl) ?_
  refine lv_iconst (v := 0) hx hb dX12_rid_6 (by decide) ?_
  refine ps_X12_62_12 E hI ha (by decide) dX12_rid_7 (fun H locs σ_2 hσ_2 hI => ?_)
  replace hF := q_letX hF hσ_2
  have fr_σ_2 := fr_σ_1.si hσ_2 ha rfl
  have mcσ_2 := m_wo hσ_2 (m_ne ha (q_tk (f := 20) (k' := 34) hI ha rfl (by decide)) (by decide))
  have feσ_2 : m_c X σ_2 a = m_c X σ a := (funext mcσ_2).trans feσ_1
  refine lv_aload_n hx hb dX12_rid_10 rfl (lv_at hl 0 rfl) ?_
  refine lv_iload_n hx hb dX12_rid_11 rfl (lv_at hl 1 rfl) ?_
  refine q_ci (q_runV (As := [.int v1]) (rest := []) E (hml.trans hl.1.symm) hI (c_X12_isPlayerAt l X σ_2 a v1 ha (by rw [feσ_2]; exact hG)) kv_X12_290 ha ⟨rfl, by decide⟩ (show vwCl[11]? = some (RX12, TX12, 46) from rfl) rfl ⟨Nat.le_of_ble_eq_true rfl, Nat.le_of_ble_eq_true rfl⟩ ⟨Nat.le_refl _, Nat.le_refl _⟩ rfl (Nat.le_of_ble_eq_true rfl) dX12_rid_12) hI (by decide) (fun r_3 σ_4 H locs hpσ_4 hkσ_4 hI => ?_)
  obtain ⟨ahpσ_4, bhpσ_4, chpσ_4, dhpσ_4⟩ := hpσ_4
  rw [ahpσ_4] at hI
  rw [feσ_2] at chpσ_4
  replace hF := q_letX hF dhpσ_4
  refine q_if_ne (A := r_3.toInt) E rfl (tgt := 24) dX12_rid_15 (by decide) (fun c_5 => ?_) (fun c_5 => ?_)
  · skip
    replace hF := q_ifn hF c_5
    replace c_5 := q_ifOne bhpσ_4 c_5
    replace chpσ_4 := q_ifYes chpσ_4 c_5
    refine lv_aload_n hx hb dX12_rid_24 rfl (lv_at hl 0 rfl) ?_
    refine lv_iload_n hx hb dX12_rid_25 rfl (lv_at hl 1 rfl) ?_
    refine q_ci (q_runV (As := [.int v1]) (rest := []) E (hml.trans hl.1.symm) hI (c_X12_ridOf l X σ_2 a v1 ha (by rw [feσ_2]; exact hG) (by rw [feσ_2]; exact (by omega))) kv_X12_390 ha ⟨rfl, by decide⟩ (show vwCl[11]? = some (RX12, TX12, 46) from rfl) rfl ⟨Nat.le_of_ble_eq_true rfl, Nat.le_of_ble_eq_true rfl⟩ ⟨Nat.le_refl _, Nat.le_refl _⟩ rfl (Nat.le_of_ble_eq_true rfl) dX12_rid_26) hI (by decide) (fun r_6 σ_7 H locs hpσ_7 hkσ_7 hI => ?_)
    obtain ⟨ahpσ_7, bhpσ_7, chpσ_7⟩ := hpσ_7
    have fr_σ_7 := fr_σ_2.call chpσ_7 rfl rfl
    replace hF := q_biX hF bhpσ_7
    have mcσ_7 := m_cK hkσ_7 hI.1 ha (by decide)
    have feσ_7 : m_c X σ_7 a = m_c X σ a := (funext mcσ_7).trans feσ_2
    refine lv_istore_n (lv' := [(2, .int r_6), (0, .ref a), (1, .int v1)]) hx hb dX12_rid_29 rfl hl (by decide) rfl (fun ls hl => ?_)
    refine lv_iload_n hx hb dX12_rid_30 rfl (lv_at hl 0 rfl) ?_
    refine q_if_ge (A := r_6.toInt) E rfl (tgt := 43) dX12_rid_31 (by decide) (fun c_8 => ?_) (fun c_8 => ?_)
    · skip
      replace hF := q_ifn hF (Int.not_lt.mpr c_8)
      refine lv_iload_n hx hb dX12_rid_43 rfl (lv_at hl 0 rfl) ?_
      exact q_reti E hr hlk hI ⟨(hF.trans hout), fr_σ_7⟩ dX12_rid_44
    · skip
      replace hF := q_ifp hF c_8
      refine lv_aload_n hx hb dX12_rid_34 rfl (lv_at hl 1 rfl) ?_
      refine lv_bipush (v := 8) hx hb dX12_rid_35 (by decide) ?_
      have kc_9 : (8 : Int32).toInt = 8 := rfl
      refine q_ci (q_runV (As := [.int 8]) (rest := []) E (hml.trans hl.1.symm) hI (c_X12_refuse l X σ_7 a (8 : Int32) ha) kv_X12_284 ha ⟨rfl, by decide⟩ (show vwCl[11]? = some (RX12, TX12, 46) from rfl) rfl ⟨Nat.le_of_ble_eq_true rfl, Nat.le_of_ble_eq_true rfl⟩ ⟨Nat.le_refl _, Nat.le_refl _⟩ rfl (Nat.le_of_ble_eq_true rfl) dX12_rid_37) hI (by decide) (fun r_10 σ_11 H locs hpσ_11 hkσ_11 hI => ?_)
      obtain ⟨ahpσ_11, bhpσ_11, chpσ_11⟩ := hpσ_11
      have fr_σ_11 := fr_σ_7.call chpσ_11 rfl rfl
      replace hF := q_biX hF bhpσ_11
      have mcσ_11 := m_cK hkσ_11 hI.1 ha (by decide)
      have feσ_11 : m_c X σ_11 a = m_c X σ a := (funext mcσ_11).trans feσ_7
      refine lv_goto (tgt := 44) hx hb dX12_rid_40 (by decide) ?_
      exact q_reti E hr hlk hI ⟨(hF.trans hout), fr_σ_11⟩ dX12_rid_44
  · skip
    replace hF := q_ifp hF c_5
    replace chpσ_4 := q_ifNo chpσ_4 c_5
    refine lv_aload_n hx hb dX12_rid_18 rfl (lv_at hl 0 rfl) ?_
    refine lv_iconst (v := 2) hx hb dX12_rid_19 (by decide) ?_
    have kc_12 : (2 : Int32).toInt = 2 := rfl
    refine q_ci (q_runV (As := [.int 2]) (rest := []) E (hml.trans hl.1.symm) hI (c_X12_refuse l X σ_2 a (2 : Int32) ha) kv_X12_284 ha ⟨rfl, by decide⟩ (show vwCl[11]? = some (RX12, TX12, 46) from rfl) rfl ⟨Nat.le_of_ble_eq_true rfl, Nat.le_of_ble_eq_true rfl⟩ ⟨Nat.le_refl _, Nat.le_refl _⟩ rfl (Nat.le_of_ble_eq_true rfl) dX12_rid_20) hI (by decide) (fun r_13 σ_14 H locs hpσ_14 hkσ_14 hI => ?_)
    obtain ⟨ahpσ_14, bhpσ_14, chpσ_14⟩ := hpσ_14
    have fr_σ_14 := fr_σ_2.call chpσ_14 rfl rfl
    replace hF := q_biX hF bhpσ_14
    have mcσ_14 := m_cK hkσ_14 hI.1 ha (by decide)
    have feσ_14 : m_c X σ_14 a = m_c X σ a := (funext mcσ_14).trans feσ_2
    exact q_reti E hr hlk hI ⟨(hF.trans hout), fr_σ_14⟩ dX12_rid_23

set_option maxRecDepth 100000 in
set_option maxHeartbeats 4000000 in
theorem c_X12_lastKind (l : Launch) (X : XW) (σ : ST) (a : Nat) (v1 : Int32) (ha : q_kd X a = 12) (hG : m_G (m_c X σ a)) : Met l yX12_lastKind (q_ws yX12_lastKind cX12_lastKind 2 (some .int)) (q_rm 5 115) (q_P X σ [.ref a, .int v1]) (q_Qi X 8 σ (fun (r : Int32) (σ' : ST) => (r, σ') = F_X12_lastKind X σ a v1 ∧ q_ow [(12, 0), (12, 1), (12, 33), (12, 34), (12, 35), (38, 99)] [] X σ σ')) 0 0 (q_reg X) := by
  refine q_met 8 (by first | exact rfl | decide +kernel) rfl (Nat.le_of_ble_eq_true rfl) (fun p e s m below meth c E hml hr hlk hI ls hl => ?_)
  have hx := E.1
  have hb := E.2.1
  have hl : lv_has ls 2 [(0, .ref a), (1, .int v1)] := hl
  have feσ : m_c X σ a = m_c X σ a := rfl
  have fr_σ : q_ow [(12, 0), (12, 1), (12, 33), (12, 34), (12, 35), (38, 99)] [] X σ σ := q_ow.rf
  have hh := hG.hd
  obtain ⟨out, hout⟩ : ∃ o, o = F_X12_lastKind X σ a v1 := ⟨_, rfl⟩
  have hF := hout.symm
  unfold F_X12_lastKind at hF
  refine lv_aload_n hx hb dX12_lastKind_0 rfl (lv_at hl 0 rfl) ?_
  refine lv_iconst (v := 0) hx hb dX12_lastKind_1 (by decide) ?_
  refine ps_X12_59_12 E hI ha (by decide) dX12_lastKind_2 (fun H locs σ_1 hσ_1 hI => ?_)
  replace hF := q_letX hF hσ_1
  have fr_σ_1 := fr_σ.si hσ_1 ha rfl
  have mcσ_1 := m_wo hσ_1 (m_ne ha (q_tk (f := 20) (k' := 34) hI ha rfl (by decide)) (by decide))
  have feσ_1 : m_c X σ_1 a = m_c X σ a := (funext mcσ_1).trans feσ
  refine lv_aload_n hx hb dX12_lastKind_5 rfl (lv_at hl 0 rfl) ?_
  refine lv_iconst (v := 0) hx hb dX12_lastKind_6 (by decide) ?_
  refine ps_X12_62_12 E hI ha (by decide) dX12_lastKind_7 (fun H locs σ_2 hσ_2 hI => ?_)
  replace hF := q_letX hF hσ_2
  have fr_σ_2 := fr_σ_1.si hσ_2 ha rfl
  have mcσ_2 := m_wo hσ_2 (m_ne ha (q_tk (f := 20) (k' := 34) hI ha rfl (by decide)) (by decide))
  have feσ_2 : m_c X σ_2 a = m_c X σ a := (funext mcσ_2).trans feσ_1
  refine lv_aload_n hx hb dX12_lastKind_10 rfl (lv_at hl 0 rfl) ?_
  refine lv_iload_n hx hb dX12_lastKind_11 rfl (lv_at hl 1 rfl) ?_
  refine q_ci (q_runV (As := [.int v1]) (rest := []) E (hml.trans hl.1.symm) hI (c_X12_isPlayerAt l X σ_2 a v1 ha (by rw [feσ_2]; exact hG)) kv_X12_290 ha ⟨rfl, by decide⟩ (show vwCl[11]? = some (RX12, TX12, 46) from rfl) rfl ⟨Nat.le_of_ble_eq_true rfl, Nat.le_of_ble_eq_true rfl⟩ ⟨Nat.le_refl _, Nat.le_refl _⟩ rfl (Nat.le_of_ble_eq_true rfl) dX12_lastKind_12) hI (by decide) (fun r_3 σ_4 H locs hpσ_4 hkσ_4 hI => ?_)
  obtain ⟨ahpσ_4, bhpσ_4, chpσ_4, dhpσ_4⟩ := hpσ_4
  rw [ahpσ_4] at hI
  rw [feσ_2] at chpσ_4
  replace hF := q_letX hF dhpσ_4
  refine q_if_ne (A := r_3.toInt) E rfl (tgt := 24) dX12_lastKind_15 (by decide) (fun c_5 => ?_) (fun c_5 => ?_)
  · skip
    replace hF := q_ifn hF c_5
    replace c_5 := q_ifOne bhpσ_4 c_5
    replace chpσ_4 := q_ifYes chpσ_4 c_5
    refine lv_aload_n hx hb dX12_lastKind_24 rfl (lv_at hl 0 rfl) ?_
    refine lv_iload_n hx hb dX12_lastKind_25 rfl (lv_at hl 1 rfl) ?_
    refine q_ci (q_runV (As := [.int v1]) (rest := []) E (hml.trans hl.1.symm) hI (c_X12_cardsOf l X σ_2 a v1 ha (by rw [feσ_2]; exact hG) (by first | (clear ahpσ_4 bhpσ_4 dhpσ_4 c_5; omega) | omega)) kv_X12_293 ha ⟨rfl, by decide⟩ (show vwCl[11]? = some (RX12, TX12, 46) from rfl) rfl ⟨Nat.le_of_ble_eq_true rfl, Nat.le_of_ble_eq_true rfl⟩ ⟨Nat.le_refl _, Nat.le_refl _⟩ rfl (Nat.le_of_ble_eq_true rfl) dX12_lastKind_26) hI (by decide) (fun r_6 σ_7 H locs hpσ_7 hkσ_7 hI => ?_)
    obtain ⟨ahpσ_7, bhpσ_7, chpσ_7, dhpσ_7⟩ := hpσ_7
    rw [ahpσ_7] at hI
    rw [feσ_2] at bhpσ_7
    replace hF := q_letX hF dhpσ_7
    refine q_if_eq (A := r_6.toInt) E rfl (tgt := 40) dX12_lastKind_29 (by decide) (fun c_8 => ?_) (fun c_8 => ?_)
    · skip
      replace hF := q_ifp hF c_8
      refine lv_aload_n hx hb dX12_lastKind_40 rfl (lv_at hl 0 rfl) ?_
      refine lv_bipush (v := 8) hx hb dX12_lastKind_41 (by decide) ?_
      have kc_9 : (8 : Int32).toInt = 8 := rfl
      refine q_ci (q_runV (As := [.int 8]) (rest := []) E (hml.trans hl.1.symm) hI (c_X12_refuse l X σ_2 a (8 : Int32) ha) kv_X12_284 ha ⟨rfl, by decide⟩ (show vwCl[11]? = some (RX12, TX12, 46) from rfl) rfl ⟨Nat.le_of_ble_eq_true rfl, Nat.le_of_ble_eq_true rfl⟩ ⟨Nat.le_refl _, Nat.le_refl _⟩ rfl (Nat.le_of_ble_eq_true rfl) dX12_lastKind_43) hI (by decide) (fun r_10 σ_11 H locs hpσ_11 hkσ_11 hI => ?_)
      obtain ⟨ahpσ_11, bhpσ_11, chpσ_11⟩ := hpσ_11
      have fr_σ_11 := fr_σ_2.call chpσ_11 rfl rfl
      replace hF := q_biX hF bhpσ_11
      have mcσ_11 := m_cK hkσ_11 hI.1 ha (by decide)
      have feσ_11 : m_c X σ_11 a = m_c X σ a := (funext mcσ_11).trans feσ_2
      exact q_reti E hr hlk hI ⟨(hF.trans hout), fr_σ_11⟩ dX12_lastKind_46
    · skip
      replace hF := q_ifn hF c_8
      refine lv_aload_n hx hb dX12_lastKind_32 rfl (lv_at hl 0 rfl) ?_
      refine lv_iload_n hx hb dX12_lastKind_33 rfl (lv_at hl 1 rfl) ?_
      refine q_ci (q_runV (As := [.int v1]) (rest := []) E (hml.trans hl.1.symm) hI (c_X12_ridOf l X σ_2 a v1 ha (by rw [feσ_2]; exact hG) (by rw [feσ_2]; exact (by omega))) kv_X12_390 ha ⟨rfl, by decide⟩ (show vwCl[11]? = some (RX12, TX12, 46) from rfl) rfl ⟨Nat.le_of_ble_eq_true rfl, Nat.le_of_ble_eq_true rfl⟩ ⟨Nat.le_refl _, Nat.le_refl _⟩ rfl (Nat.le_of_ble_eq_true rfl) dX12_lastKind_34) hI (by decide) (fun r_12 σ_13 H locs hpσ_13 hkσ_13 hI => ?_)
      obtain ⟨ahpσ_13, bhpσ_13, chpσ_13⟩ := hpσ_13
      have fr_σ_13 := fr_σ_2.call chpσ_13 rfl rfl
      replace hF := q_biX hF bhpσ_13
      have mcσ_13 := m_cK hkσ_13 hI.1 ha (by decide)
      have feσ_13 : m_c X σ_13 a = m_c X σ a := (funext mcσ_13).trans feσ_2
      refine q_if_ge (A := r_12.toInt) E rfl (tgt := 47) dX12_lastKind_37 (by decide) (fun c_14 => ?_) (fun c_14 => ?_)
      · skip
        replace hF := q_ifn hF (Int.not_lt.mpr c_14)
        refine lv_aload_n hx hb dX12_lastKind_47 rfl (lv_at hl 0 rfl) ?_
        refine gs_X12_378_12 E hI ha dX12_lastKind_48 ?_
        refine lv_topi (fun f_15 ef_15 => ?_)
        replace hF := q_letX hF ef_15
        have if_15 : f_15.toInt = (σ_13.1 a 34).toInt := congrArg Int32.toInt ef_15
        exact q_reti E hr hlk hI ⟨(hF.trans hout), fr_σ_13⟩ dX12_lastKind_51
      · skip
        replace hF := q_ifp hF c_14
        refine lv_aload_n hx hb dX12_lastKind_40 rfl (lv_at hl 0 rfl) ?_
        refine lv_bipush (v := 8) hx hb dX12_lastKind_41 (by decide) ?_
        have kc_16 : (8 : Int32).toInt = 8 := rfl
        refine q_ci (q_runV (As := [.int 8]) (rest := []) E (hml.trans hl.1.symm) hI (c_X12_refuse l X σ_13 a (8 : Int32) ha) kv_X12_284 ha ⟨rfl, by decide⟩ (show vwCl[11]? = some (RX12, TX12, 46) from rfl) rfl ⟨Nat.le_of_ble_eq_true rfl, Nat.le_of_ble_eq_true rfl⟩ ⟨Nat.le_refl _, Nat.le_refl _⟩ rfl (Nat.le_of_ble_eq_true rfl) dX12_lastKind_43) hI (by decide) (fun r_17 σ_18 H locs hpσ_18 hkσ_18 hI => ?_)
        obtain ⟨ahpσ_18, bhpσ_18, chpσ_18⟩ := hpσ_18
        have fr_σ_18 := fr_σ_13.call chpσ_18 rfl rfl
        replace hF := q_biX hF bhpσ_18
        have mcσ_18 := m_cK hkσ_18 hI.1 ha (by decide)
        have feσ_18 : m_c X σ_18 a = m_c X σ a := (funext mcσ_18).trans feσ_13
        exact q_reti E hr hlk hI ⟨(hF.trans hout), fr_σ_18⟩ dX12_lastKind_46
  · skip
    replace hF := q_ifp hF c_5
    replace chpσ_4 := q_ifNo chpσ_4 c_5
    refine lv_aload_n hx hb dX12_lastKind_18 rfl (lv_at hl 0 rfl) ?_
    refine lv_iconst (v := 2) hx hb dX12_lastKind_19 (by decide) ?_
    have kc_19 : (2 : Int32).toInt = 2 := rfl
    refine q_ci (q_runV (As := [.int 2]) (rest := []) E (hml.trans hl.1.symm) hI (c_X12_refuse l X σ_2 a (2 : Int32) ha) kv_X12_284 ha ⟨rfl, by decide⟩ (show vwCl[11]? = some (RX12, TX12, 46) from rfl) rfl ⟨Nat.le_of_ble_eq_true rfl, Nat.le_of_ble_eq_true rfl⟩ ⟨Nat.le_refl _, Nat.le_refl _⟩ rfl (Nat.le_of_ble_eq_true rfl) dX12_lastKind_20) hI (by decide) (fun r_20 σ_21 H locs hpσ_21 hkσ_21 hI => ?_)
    obtain ⟨ahpσ_21, bhpσ_21, chpσ_21⟩ := hpσ_21
    have fr_σ_21 := fr_σ_2.call chpσ_21 rfl rfl
    replace hF := q_biX hF bhpσ_21
    have mcσ_21 := m_cK hkσ_21 hI.1 ha (by decide)
    have feσ_21 : m_c X σ_21 a = m_c X σ a := (funext mcσ_21).trans feσ_2
    exact q_reti E hr hlk hI ⟨(hF.trans hout), fr_σ_21⟩ dX12_lastKind_23

set_option maxRecDepth 100000 in
set_option maxHeartbeats 4000000 in
theorem c_X12_mustLie (l : Launch) (X : XW) (σ : ST) (a : Nat) (v1 : Int32) (ha : q_kd X a = 12) (hG : m_G (m_c X σ a)) : Met l yX12_mustLie (q_ws yX12_mustLie cX12_mustLie 2 (some .int)) (q_rm 4 93) (q_P X σ [.ref a, .int v1]) (q_Qi X 8 σ (fun (r : Int32) (σ' : ST) => (r, σ') = F_X12_mustLie X σ a v1 ∧ q_ow [(12, 0), (12, 1), (12, 33), (12, 34), (12, 35), (38, 99)] [] X σ σ')) 0 0 (q_reg X) := by
  refine q_met 8 (by first | exact rfl | decide +kernel) rfl (Nat.le_of_ble_eq_true rfl) (fun p e s m below meth c E hml hr hlk hI ls hl => ?_)
  have hx := E.1
  have hb := E.2.1
  have hl : lv_has ls 2 [(0, .ref a), (1, .int v1)] := hl
  have feσ : m_c X σ a = m_c X σ a := rfl
  have fr_σ : q_ow [(12, 0), (12, 1), (12, 33), (12, 34), (12, 35), (38, 99)] [] X σ σ := q_ow.rf
  have hh := hG.hd
  obtain ⟨out, hout⟩ : ∃ o, o = F_X12_mustLie X σ a v1 := ⟨_, rfl⟩
  have hF := hout.symm
  unfold F_X12_mustLie at hF
  refine lv_aload_n hx hb dX12_mustLie_0 rfl (lv_at hl 0 rfl) ?_
  refine lv_iconst (v := 0) hx hb dX12_mustLie_1 (by decide) ?_
  refine ps_X12_59_12 E hI ha (by decide) dX12_mustLie_2 (fun H locs σ_1 hσ_1 hI => ?_)
  replace hF := q_letX hF hσ_1
  have fr_σ_1 := fr_σ.si hσ_1 ha rfl
  have mcσ_1 := m_wo hσ_1 (m_ne ha (q_tk (f := 20) (k' := 34) hI ha rfl (by decide)) (by decide))
  have feσ_1 : m_c X σ_1 a = m_c X σ a := (funext mcσ_1).trans feσ
  refine lv_aload_n hx hb dX12_mustLie_5 rfl (lv_at hl 0 rfl) ?_
  refine lv_iconst (v := 0) hx hb dX12_mustLie_6 (by decide) ?_
  refine ps_X12_62_12 E hI ha (by decide) dX12_mustLie_7 (fun H locs σ_2 hσ_2 hI => ?_)
  replace hF := q_letX hF hσ_2
  have fr_σ_2 := fr_σ_1.si hσ_2 ha rfl
  have mcσ_2 := m_wo hσ_2 (m_ne ha (q_tk (f := 20) (k' := 34) hI ha rfl (by decide)) (by decide))
  have feσ_2 : m_c X σ_2 a = m_c X σ a := (funext mcσ_2).trans feσ_1
  refine lv_aload_n hx hb dX12_mustLie_10 rfl (lv_at hl 0 rfl) ?_
  refine lv_iload_n hx hb dX12_mustLie_11 rfl (lv_at hl 1 rfl) ?_
  refine q_ci (q_runV (As := [.int v1]) (rest := []) E (hml.trans hl.1.symm) hI (c_X12_isPlayerAt l X σ_2 a v1 ha (by rw [feσ_2]; exact hG)) kv_X12_290 ha ⟨rfl, by decide⟩ (show vwCl[11]? = some (RX12, TX12, 46) from rfl) rfl ⟨Nat.le_of_ble_eq_true rfl, Nat.le_of_ble_eq_true rfl⟩ ⟨Nat.le_refl _, Nat.le_refl _⟩ rfl (Nat.le_of_ble_eq_true rfl) dX12_mustLie_12) hI (by decide) (fun r_3 σ_4 H locs hpσ_4 hkσ_4 hI => ?_)
  obtain ⟨ahpσ_4, bhpσ_4, chpσ_4, dhpσ_4⟩ := hpσ_4
  rw [ahpσ_4] at hI
  rw [feσ_2] at chpσ_4
  replace hF := q_letX hF dhpσ_4
  refine q_if_ne (A := r_3.toInt) E rfl (tgt := 24) dX12_mustLie_15 (by decide) (fun c_5 => ?_) (fun c_5 => ?_)
  · skip
    replace hF := q_ifn hF c_5
    replace c_5 := q_ifOne bhpσ_4 c_5
    replace chpσ_4 := q_ifYes chpσ_4 c_5
    refine lv_aload_n hx hb dX12_mustLie_24 rfl (lv_at hl 0 rfl) ?_
    refine lv_iload_n hx hb dX12_mustLie_25 rfl (lv_at hl 1 rfl) ?_
    refine lv_bipush (v := 60) hx hb dX12_mustLie_26 (by decide) ?_
    have kc_6 : (60 : Int32).toInt = 60 := rfl
    refine q_ci (q_runV (As := [.int v1, .int 60]) (rest := []) E (hml.trans hl.1.symm) hI (c_X12_honestFor l X σ_2 a v1 (60 : Int32) ha (by rw [feσ_2]; exact hG) (by rw [feσ_2]; exact (by omega)) (by first | (clear hh ahpσ_4 bhpσ_4 dhpσ_4 c_5 chpσ_4; omega) | omega)) kv_X12_387 ha ⟨rfl, by decide⟩ (show vwCl[11]? = some (RX12, TX12, 46) from rfl) rfl ⟨Nat.le_of_ble_eq_true rfl, Nat.le_of_ble_eq_true rfl⟩ ⟨Nat.le_refl _, Nat.le_refl _⟩ rfl (Nat.le_of_ble_eq_true rfl) dX12_mustLie_28) hI (by decide) (fun r_7 σ_8 H locs hpσ_8 hkσ_8 hI => ?_)
    obtain ⟨ahpσ_8, bhpσ_8⟩ := hpσ_8
    have fr_σ_8 := fr_σ_2.call bhpσ_8 rfl rfl
    replace hF := q_biX hF ahpσ_8
    have mcσ_8 := m_cK hkσ_8 hI.1 ha (by decide)
    have feσ_8 : m_c X σ_8 a = m_c X σ a := (funext mcσ_8).trans feσ_2
    refine lv_pop hx hb dX12_mustLie_31 rfl ?_
    refine lv_aload_n hx hb dX12_mustLie_32 rfl (lv_at hl 0 rfl) ?_
    refine gs_X12_381_12 E hI ha dX12_mustLie_33 ?_
    refine lv_topi (fun f_9 ef_9 => ?_)
    replace hF := q_letX hF ef_9
    have if_9 : f_9.toInt = (σ_8.1 a 35).toInt := congrArg Int32.toInt ef_9
    refine q_if_ge (A := f_9.toInt) E rfl (tgt := 48) dX12_mustLie_36 (by decide) (fun c_10 => ?_) (fun c_10 => ?_)
    · skip
      replace hF := q_ifn hF (Int.not_lt.mpr c_10)
      refine lv_aload_n hx hb dX12_mustLie_48 rfl (lv_at hl 0 rfl) ?_
      refine gs_X12_381_12 E hI ha dX12_mustLie_49 ?_
      refine lv_topi (fun f_11 ef_11 => ?_)
      replace hF := q_letX hF ef_11
      have if_11 : f_11.toInt = (σ_8.1 a 35).toInt := congrArg Int32.toInt ef_11
      exact q_reti E hr hlk hI ⟨(hF.trans hout), fr_σ_8⟩ dX12_mustLie_52
    · skip
      replace hF := q_ifp hF c_10
      refine lv_aload_n hx hb dX12_mustLie_39 rfl (lv_at hl 0 rfl) ?_
      refine lv_bipush (v := 8) hx hb dX12_mustLie_40 (by decide) ?_
      have kc_12 : (8 : Int32).toInt = 8 := rfl
      refine q_ci (q_runV (As := [.int 8]) (rest := []) E (hml.trans hl.1.symm) hI (c_X12_refuse l X σ_8 a (8 : Int32) ha) kv_X12_284 ha ⟨rfl, by decide⟩ (show vwCl[11]? = some (RX12, TX12, 46) from rfl) rfl ⟨Nat.le_of_ble_eq_true rfl, Nat.le_of_ble_eq_true rfl⟩ ⟨Nat.le_refl _, Nat.le_refl _⟩ rfl (Nat.le_of_ble_eq_true rfl) dX12_mustLie_42) hI (by decide) (fun r_13 σ_14 H locs hpσ_14 hkσ_14 hI => ?_)
      obtain ⟨ahpσ_14, bhpσ_14, chpσ_14⟩ := hpσ_14
      have fr_σ_14 := fr_σ_8.call chpσ_14 rfl rfl
      replace hF := q_biX hF bhpσ_14
      have mcσ_14 := m_cK hkσ_14 hI.1 ha (by decide)
      have feσ_14 : m_c X σ_14 a = m_c X σ a := (funext mcσ_14).trans feσ_8
      refine lv_goto (tgt := 52) hx hb dX12_mustLie_45 (by decide) ?_
      exact q_reti E hr hlk hI ⟨(hF.trans hout), fr_σ_14⟩ dX12_mustLie_52
  · skip
    replace hF := q_ifp hF c_5
    replace chpσ_4 := q_ifNo chpσ_4 c_5
    refine lv_aload_n hx hb dX12_mustLie_18 rfl (lv_at hl 0 rfl) ?_
    refine lv_iconst (v := 2) hx hb dX12_mustLie_19 (by decide) ?_
    have kc_15 : (2 : Int32).toInt = 2 := rfl
    refine q_ci (q_runV (As := [.int 2]) (rest := []) E (hml.trans hl.1.symm) hI (c_X12_refuse l X σ_2 a (2 : Int32) ha) kv_X12_284 ha ⟨rfl, by decide⟩ (show vwCl[11]? = some (RX12, TX12, 46) from rfl) rfl ⟨Nat.le_of_ble_eq_true rfl, Nat.le_of_ble_eq_true rfl⟩ ⟨Nat.le_refl _, Nat.le_refl _⟩ rfl (Nat.le_of_ble_eq_true rfl) dX12_mustLie_20) hI (by decide) (fun r_16 σ_17 H locs hpσ_17 hkσ_17 hI => ?_)
    obtain ⟨ahpσ_17, bhpσ_17, chpσ_17⟩ := hpσ_17
    have fr_σ_17 := fr_σ_2.call chpσ_17 rfl rfl
    replace hF := q_biX hF bhpσ_17
    have mcσ_17 := m_cK hkσ_17 hI.1 ha (by decide)
    have feσ_17 : m_c X σ_17 a = m_c X σ a := (funext mcσ_17).trans feσ_2
    exact q_reti E hr hlk hI ⟨(hF.trans hout), fr_σ_17⟩ dX12_mustLie_23

set_option maxRecDepth 100000 in
set_option maxHeartbeats 4000000 in
theorem c_X12_soonest (l : Launch) (X : XW) (σ : ST) (a : Nat) (ha : q_kd X a = 12) (hG : m_G (m_c X σ a)) : Met l yX12_soonest (q_ws yX12_soonest cX12_soonest 5 (some .int)) (q_rm 5 115) (q_P X σ [.ref a]) (q_Qi X 8 σ (fun (r : Int32) (σ' : ST) => (r, σ') = F_X12_soonest X σ a ∧ q_ow [(12, 0), (12, 1), (12, 33), (12, 34), (12, 35), (38, 99)] [] X σ σ')) 0 0 (q_reg X) := by
  refine q_met 8 (by first | exact rfl | decide +kernel) rfl (Nat.le_of_ble_eq_true rfl) (fun p e s m below meth c E hml hr hlk hI ls hl => ?_)
  have hx := E.1
  have hb := E.2.1
  have hl : lv_has ls 5 [(0, .ref a)] := hl
  have feσ : m_c X σ a = m_c X σ a := rfl
  have fr_σ : q_ow [(12, 0), (12, 1), (12, 33), (12, 34), (12, 35), (38, 99)] [] X σ σ := q_ow.rf
  have hh := hG.hd
  obtain ⟨out, hout⟩ : ∃ o, o = F_X12_soonest X σ a := ⟨_, rfl⟩
  have hF := hout.symm
  unfold F_X12_soonest at hF
  refine lv_aload_n hx hb dX12_soonest_0 rfl (lv_at hl 0 rfl) ?_
  refine lv_iconst (v := 0) hx hb dX12_soonest_1 (by decide) ?_
  refine ps_X12_59_12 E hI ha (by decide) dX12_soonest_2 (fun H locs σ_1 hσ_1 hI => ?_)
  replace hF := q_letX hF hσ_1
  have fr_σ_1 := fr_σ.si hσ_1 ha rfl
  have mcσ_1 := m_wo hσ_1 (m_ne ha (q_tk (f := 20) (k' := 34) hI ha rfl (by decide)) (by decide))
  have feσ_1 : m_c X σ_1 a = m_c X σ a := (funext mcσ_1).trans feσ
  refine lv_aload_n hx hb dX12_soonest_5 rfl (lv_at hl 0 rfl) ?_
  refine lv_iconst (v := 0) hx hb dX12_soonest_6 (by decide) ?_
  refine ps_X12_62_12 E hI ha (by decide) dX12_soonest_7 (fun H locs σ_2 hσ_2 hI => ?_)
  replace hF := q_letX hF hσ_2
  have fr_σ_2 := fr_σ_1.si hσ_2 ha rfl
  have mcσ_2 := m_wo hσ_2 (m_ne ha (q_tk (f := 20) (k' := 34) hI ha rfl (by decide)) (by decide))
  have feσ_2 : m_c X σ_2 a = m_c X σ a := (funext mcσ_2).trans feσ_1
  refine lv_iconst (v := (-1)) hx hb dX12_soonest_10 (by decide) ?_
  refine lv_istore_n (lv' := [(1, .int (-1)), (0, .ref a)]) hx hb dX12_soonest_11 rfl hl (by decide) rfl (fun ls hl => ?_)
  refine lv_bipush (v := 99) hx hb dX12_soonest_12 (by decide) ?_
  refine lv_istore_n (lv' := [(2, .int 99), (1, .int (-1)), (0, .ref a)]) hx hb dX12_soonest_14 rfl hl (by decide) rfl (fun ls hl => ?_)
  refine lv_iconst (v := 0) hx hb dX12_soonest_15 (by decide) ?_
  refine lv_istore_n (lv' := [(3, .int 0), (2, .int 99), (1, .int (-1)), (0, .ref a)]) hx hb dX12_soonest_16 rfl hl (by decide) rfl (fun ls hl => ?_)
  have L_17_7 : ∀ (k_7 : Nat) (x_3 : Int32) (x_4 : Int32) (x_5 : Int32) (σ_6 : ST) (H : Heap) (locs : List Loc) (ls : Array Slot), (2147483647 - x_5.toInt).toNat < k_7 → (0 ≤ x_5.toInt) → (q_ow [(12, 0), (12, 1), (12, 33), (12, 34), (12, 35), (38, 99)] [] X σ σ_6) → (m_c X σ_6 a = m_c X σ a) → (F_X12_soonest_L17_1 X a k_7 x_3 x_4 x_5 σ_6 = out) → q_I X 8 σ s.heap locs σ_6 H → lv_has ls 5 [(0, .ref a), (1, .int x_3), (2, .int x_4), (3, .int x_5)] → W p l e (q_rm 5 115) s m ([.ref a] : List Value).toArray below meth c H locs 0 0 (MQ below (q_Qi X 8 σ (fun (r : Int32) (σ' : ST) => (r, σ') = F_X12_soonest X σ a ∧ q_ow [(12, 0), (12, 1), (12, 33), (12, 34), (12, 35), (38, 99)] [] X σ σ')) ([.ref a] : List Value).toArray s 0 0 (q_reg X)) (F0 m 17 ls []) := by
    clear hF
    intro k_7
    induction k_7 with
    | zero =>
      intro x_3 x_4 x_5 σ_6 H locs ls hms
      try clear feσ; try clear fr_σ; try clear fr_σ_1; try clear mcσ_1; try clear feσ_1; try clear fr_σ_2; try clear mcσ_2; try clear feσ_2
      exact absurd hms (Nat.not_lt_zero _)
    | succ k_7 ih17 =>
      intro x_3 x_4 x_5 σ_6 H locs ls hm17 hge17 fr_σ_6 feσ_6 hF hI hl
      replace hF := (F_X12_soonest_L17_1_s).symm.trans hF
      unfold F_X12_soonest_B17_1 at hF
      refine lv_iload_n hx hb dX12_soonest_17 rfl (lv_at hl 3 rfl) ?_
      refine lv_aload_n hx hb dX12_soonest_18 rfl (lv_at hl 0 rfl) ?_
      refine gs_X12_35_12 E hI ha dX12_soonest_19 ?_
      refine lv_iconst (v := 2) hx hb dX12_soonest_22 (by decide) ?_
      refine q_iald E hI (q_tk (k' := 34) hI ha rfl (by decide)) ⟨by decide, rfl⟩ (by decide) (by rw [q_lnk (v := 4650) hI (q_tk (k' := 34) hI ha rfl (by decide)) rfl (by decide)]; decide) dX12_soonest_23 ?_
      refine lv_topi (fun f_8 ef_8 => ?_)
      replace hF := q_letX hF ef_8
      have if_8 : f_8.toInt = m_c X σ a 2 := (m_rd ef_8 (by decide)).trans (congrFun feσ_6 _)
      have gc_9_x_5 := q_rng x_5
      have gc_9_f_8 := q_rng f_8
      refine q_icmp_ge (A := x_5.toInt) (B := f_8.toInt) E rfl rfl (tgt := 59) dX12_soonest_24 (by decide) (fun c_9 => ?_) (fun c_9 => ?_)
      · skip
        replace hF := q_ifn hF (Int.not_lt.mpr c_9)
        unfold F_X12_soonest_E59_2 at hF
        refine lv_iload_n hx hb dX12_soonest_59 rfl (lv_at hl 1 rfl) ?_
        refine q_if_ge (A := x_3.toInt) E rfl (tgt := 72) dX12_soonest_60 (by decide) (fun c_10 => ?_) (fun c_10 => ?_)
        · skip
          replace hF := q_ifn hF (Int.not_lt.mpr c_10)
          refine lv_iload_n hx hb dX12_soonest_72 rfl (lv_at hl 1 rfl) ?_
          exact q_reti E hr hlk hI ⟨(hF.trans hout), fr_σ_6⟩ dX12_soonest_73
        · skip
          replace hF := q_ifp hF c_10
          refine lv_aload_n hx hb dX12_soonest_63 rfl (lv_at hl 0 rfl) ?_
          refine lv_bipush (v := 8) hx hb dX12_soonest_64 (by decide) ?_
          have kc_11 : (8 : Int32).toInt = 8 := rfl
          refine q_ci (q_runV (As := [.int 8]) (rest := []) E (hml.trans hl.1.symm) hI (c_X12_refuse l X σ_6 a (8 : Int32) ha) kv_X12_284 ha ⟨rfl, by decide⟩ (show vwCl[11]? = some (RX12, TX12, 46) from rfl) rfl ⟨Nat.le_of_ble_eq_true rfl, Nat.le_of_ble_eq_true rfl⟩ ⟨Nat.le_refl _, Nat.le_refl _⟩ rfl (Nat.le_of_ble_eq_true rfl) dX12_soonest_66) hI (by decide) (fun r_12 σ_13 H locs hpσ_13 hkσ_13 hI => ?_)
          obtain ⟨ahpσ_13, bhpσ_13, chpσ_13⟩ := hpσ_13
          have fr_σ_13 := fr_σ_6.call chpσ_13 rfl rfl
          replace hF := q_biX hF bhpσ_13
          have mcσ_13 := m_cK hkσ_13 hI.1 ha (by decide)
          have feσ_13 : m_c X σ_13 a = m_c X σ a := (funext mcσ_13).trans feσ_6
          refine lv_goto (tgt := 73) hx hb dX12_soonest_69 (by decide) ?_
          exact q_reti E hr hlk hI ⟨(hF.trans hout), fr_σ_13⟩ dX12_soonest_73
      · skip
        replace hF := q_ifp hF c_9
        refine lv_aload_n hx hb dX12_soonest_27 rfl (lv_at hl 0 rfl) ?_
        refine lv_iload_n hx hb dX12_soonest_28 rfl (lv_at hl 3 rfl) ?_
        refine q_ci (q_runV (As := [.int x_5]) (rest := []) E (hml.trans hl.1.symm) hI (c_X12_ridOf l X σ_6 a x_5 ha (by rw [feσ_6]; exact hG) (by rw [feσ_6]; exact (by first | (clear hh hm17 gc_9_f_8; omega) | omega))) kv_X12_390 ha ⟨rfl, by decide⟩ (show vwCl[11]? = some (RX12, TX12, 46) from rfl) rfl ⟨Nat.le_of_ble_eq_true rfl, Nat.le_of_ble_eq_true rfl⟩ ⟨Nat.le_refl _, Nat.le_refl _⟩ rfl (Nat.le_of_ble_eq_true rfl) dX12_soonest_29) hI (by decide) (fun r_14 σ_15 H locs hpσ_15 hkσ_15 hI => ?_)
        obtain ⟨ahpσ_15, bhpσ_15, chpσ_15⟩ := hpσ_15
        have fr_σ_15 := fr_σ_6.call chpσ_15 rfl rfl
        replace hF := q_biX hF bhpσ_15
        have mcσ_15 := m_cK hkσ_15 hI.1 ha (by decide)
        have feσ_15 : m_c X σ_15 a = m_c X σ a := (funext mcσ_15).trans feσ_6
        refine lv_istore (lv' := [(4, .int r_14), (0, .ref a), (1, .int x_3), (2, .int x_4), (3, .int x_5)]) hx hb dX12_soonest_32 hl (by decide) rfl (fun ls hl => ?_)
        refine lv_iload hx hb dX12_soonest_34 (lv_at hl 0 rfl) ?_
        refine q_if_lt (A := r_14.toInt) E rfl (tgt := 53) dX12_soonest_36 (by decide) (fun c_16 => ?_) (fun c_16 => ?_)
        · skip
          replace hF := q_ifp hF c_16
          obtain ⟨z_17, ez_17⟩ : ∃ y : Int32, y = x_5 + 1 := ⟨_, rfl⟩
          replace hF := q_letX hF ez_17
          refine lv_iinc (v := z_17) (lv' := [(3, .int z_17), (4, .int r_14), (0, .ref a), (1, .int x_3), (2, .int x_4)]) hx hb dX12_soonest_53 hl (k := 4) rfl (by rw [ez_17]; rfl) (by decide) rfl (fun ls hl => ?_)
          have iz_17 : z_17.toInt = x_5.toInt + 1 := q_inc ez_17 (by first | (clear hm17 gc_9_f_8 ahpσ_15 bhpσ_15 chpσ_15 c_16; omega) | omega)
          refine lv_goto (tgt := 17) hx hb dX12_soonest_56 (by decide) ?_
          exact ih17 x_3 x_4 z_17 σ_15 _ _ ls (by first | (clear gc_9_f_8 ahpσ_15 bhpσ_15 chpσ_15 c_16; omega) | omega) (by first | (clear hh hm17 if_8 gc_9_f_8 c_9 ahpσ_15 bhpσ_15 chpσ_15 c_16; omega) | omega) fr_σ_15 feσ_15 hF hI (lv_sub hl [2, 3, 4, 0] rfl)
        · skip
          replace hF := q_ifn hF (Int.not_lt.mpr c_16)
          refine lv_iload hx hb dX12_soonest_39 (lv_at hl 0 rfl) ?_
          refine lv_iload_n hx hb dX12_soonest_41 rfl (lv_at hl 3 rfl) ?_
          have gc_18_r_14 := q_rng r_14
          have gc_18_x_4 := q_rng x_4
          refine q_icmp_lt (A := r_14.toInt) (B := x_4.toInt) E rfl rfl (tgt := 48) dX12_soonest_42 (by decide) (fun c_18 => ?_) (fun c_18 => ?_)
          · skip
            replace hF := q_ifp hF c_18
            refine lv_iload_n hx hb dX12_soonest_48 rfl (lv_at hl 4 rfl) ?_
            refine lv_istore_n (lv' := [(1, .int x_5), (4, .int r_14), (0, .ref a), (2, .int x_4), (3, .int x_5)]) hx hb dX12_soonest_49 rfl hl (by decide) rfl (fun ls hl => ?_)
            refine lv_iload hx hb dX12_soonest_50 (lv_at hl 1 rfl) ?_
            refine lv_istore_n (lv' := [(2, .int r_14), (1, .int x_5), (4, .int r_14), (0, .ref a), (3, .int x_5)]) hx hb dX12_soonest_52 rfl hl (by decide) rfl (fun ls hl => ?_)
            obtain ⟨z_19, ez_19⟩ : ∃ y : Int32, y = x_5 + 1 := ⟨_, rfl⟩
            replace hF := q_letX hF ez_19
            refine lv_iinc (v := z_19) (lv' := [(3, .int z_19), (2, .int r_14), (1, .int x_5), (4, .int r_14), (0, .ref a)]) hx hb dX12_soonest_53 hl (k := 4) rfl (by rw [ez_19]; rfl) (by decide) rfl (fun ls hl => ?_)
            have iz_19 : z_19.toInt = x_5.toInt + 1 := q_inc ez_19 (by first | (clear hm17 gc_9_f_8 ahpσ_15 bhpσ_15 chpσ_15 c_16 gc_18_r_14 gc_18_x_4 c_18; omega) | omega)
            refine lv_goto (tgt := 17) hx hb dX12_soonest_56 (by decide) ?_
            exact ih17 x_5 r_14 z_19 σ_15 _ _ ls (by first | (clear gc_9_f_8 ahpσ_15 bhpσ_15 chpσ_15 c_16 gc_18_r_14 gc_18_x_4 c_18; omega) | omega) (by first | (clear hh hm17 if_8 gc_9_f_8 c_9 ahpσ_15 bhpσ_15 chpσ_15 c_16 gc_18_r_14 gc_18_x_4 c_18; omega) | omega) fr_σ_15 feσ_15 hF hI (lv_sub hl [4, 2, 1, 0] rfl)
          · skip
            replace hF := q_ifn hF (Int.not_lt.mpr c_18)
            refine lv_goto (tgt := 53) hx hb dX12_soonest_45 (by decide) ?_
            obtain ⟨z_20, ez_20⟩ : ∃ y : Int32, y = x_5 + 1 := ⟨_, rfl⟩
            replace hF := q_letX hF ez_20
            refine lv_iinc (v := z_20) (lv' := [(3, .int z_20), (4, .int r_14), (0, .ref a), (1, .int x_3), (2, .int x_4)]) hx hb dX12_soonest_53 hl (k := 4) rfl (by rw [ez_20]; rfl) (by decide) rfl (fun ls hl => ?_)
            have iz_20 : z_20.toInt = x_5.toInt + 1 := q_inc ez_20 (by first | (clear hm17 gc_9_f_8 ahpσ_15 bhpσ_15 chpσ_15 c_16 gc_18_r_14 gc_18_x_4 c_18; omega) | omega)
            refine lv_goto (tgt := 17) hx hb dX12_soonest_56 (by decide) ?_
            exact ih17 x_3 x_4 z_20 σ_15 _ _ ls (by first | (clear gc_9_f_8 ahpσ_15 bhpσ_15 chpσ_15 c_16 gc_18_r_14 gc_18_x_4 c_18; omega) | omega) (by first | (clear hh hm17 if_8 gc_9_f_8 c_9 ahpσ_15 bhpσ_15 chpσ_15 c_16 gc_18_r_14 gc_18_x_4 c_18; omega) | omega) fr_σ_15 feσ_15 hF hI (lv_sub hl [2, 3, 4, 0] rfl)
  have kc_21 : ((-1) : Int32).toInt = (-1) := rfl
  have kc_22 : (99 : Int32).toInt = 99 := rfl
  have kc_23 : (0 : Int32).toInt = 0 := rfl
  exact L_17_7 ((2147483647 - (0 : Int32).toInt).toNat + 1) (-1) 99 0 σ_2 _ _ ls (Nat.lt_succ_self _) (by decide) fr_σ_2 feσ_2 hF hI (lv_sub hl [3, 2, 1, 0] rfl)

set_option maxRecDepth 100000 in
set_option maxHeartbeats 4000000 in
theorem c_X12_best (l : Launch) (X : XW) (σ : ST) (a : Nat) (v1 : Int32) (v2 : Int32) (ha : q_kd X a = 12) (hG : m_G (m_c X σ a)) : Met l yX12_best (q_ws yX12_best cX12_best 13 (some .int)) (q_rm 2 51) (q_P X σ [.ref a, .int v1, .int v2]) (q_Qi X 8 σ (fun (r : Int32) (σ' : ST) => (r, σ') = F_X12_best X σ a v1 v2 ∧ q_ow [(12, 0), (12, 1)] [(12, 2), (12, 3)] X σ σ')) 0 0 (q_reg X) := by
  refine q_met 8 (by first | exact rfl | decide +kernel) rfl (Nat.le_of_ble_eq_true rfl) (fun p e s m below meth c E hml hr hlk hI ls hl => ?_)
  have hx := E.1
  have hb := E.2.1
  have hl : lv_has ls 13 [(0, .ref a), (1, .int v1), (2, .int v2)] := hl
  have feσ : m_c X σ a = m_c X σ a := rfl
  have fr_σ : q_ow [(12, 0), (12, 1)] [(12, 2), (12, 3)] X σ σ := q_ow.rf
  have hh := hG.hd
  obtain ⟨out, hout⟩ : ∃ o, o = F_X12_best X σ a v1 v2 := ⟨_, rfl⟩
  have hF := hout.symm
  unfold F_X12_best at hF
  refine lv_aload_n hx hb dX12_best_0 rfl (lv_at hl 0 rfl) ?_
  refine lv_iconst (v := 0) hx hb dX12_best_1 (by decide) ?_
  refine ps_X12_59_12 E hI ha (by decide) dX12_best_2 (fun H locs σ_1 hσ_1 hI => ?_)
  replace hF := q_letX hF hσ_1
  have fr_σ_1 := fr_σ.si hσ_1 ha rfl
  have mcσ_1 := m_wo hσ_1 (m_ne ha (q_tk (f := 20) (k' := 34) hI ha rfl (by decide)) (by decide))
  have feσ_1 : m_c X σ_1 a = m_c X σ a := (funext mcσ_1).trans feσ
  refine lv_aload_n hx hb dX12_best_5 rfl (lv_at hl 0 rfl) ?_
  refine lv_iconst (v := 0) hx hb dX12_best_6 (by decide) ?_
  refine ps_X12_62_12 E hI ha (by decide) dX12_best_7 (fun H locs σ_2 hσ_2 hI => ?_)
  replace hF := q_letX hF hσ_2
  have fr_σ_2 := fr_σ_1.si hσ_2 ha rfl
  have mcσ_2 := m_wo hσ_2 (m_ne ha (q_tk (f := 20) (k' := 34) hI ha rfl (by decide)) (by decide))
  have feσ_2 : m_c X σ_2 a = m_c X σ a := (funext mcσ_2).trans feσ_1
  refine lv_iload_n hx hb dX12_best_10 rfl (lv_at hl 1 rfl) ?_
  refine lv_i2l hx hb dX12_best_11 rfl ?_
  refine lv_topl (fun y_3 ey_3 => ?_)
  replace hF := q_letX hF ey_3
  have ggy_3 := q_rng v1
  have iy_3 : y_3.toInt = v1.toInt := by rw [ey_3]; exact (q_i2l _).trans rfl
  refine lv_lconst (v := 0) hx hb dX12_best_12 (by decide) ?_
  refine lv_ldc2 (v := 16) hx hb E.2.2.1 (E.2.2.2.1 _ (q_in_t8 (i := 224) (by first | rfl | decide +kernel) rfl)) dX12_best_13 ?_
  have kc_4 : (0 : Int64).toInt = 0 := rfl
  have kc_5 : (16 : Int64).toInt = 16 := rfl
  refine q_ci (q_runS (As := [.long y_3, .long 0, .long 16]) (rest := []) E (hml.trans hl.1.symm) hI (c_X12_isIn l X σ_2 y_3 (0 : Int64) (16 : Int64)) ks_X12_94 rfl ⟨Nat.le_of_ble_eq_true rfl, Nat.le_of_ble_eq_true rfl⟩ ⟨Nat.le_refl _, Nat.le_refl _⟩ rfl (Nat.le_of_ble_eq_true rfl) dX12_best_16) hI (by decide) (fun r_6 σ_7 H locs hpσ_7 hkσ_7 hI => ?_)
  obtain ⟨ahpσ_7, bhpσ_7, chpσ_7, dhpσ_7⟩ := hpσ_7
  rw [ahpσ_7] at hI
  replace hF := q_letX hF dhpσ_7
  refine q_if_eq (A := r_6.toInt) E rfl (tgt := 32) dX12_best_19 (by decide) (fun c_8 => ?_) (fun c_8 => ?_)
  · skip
    replace hF := q_ifp hF c_8
    replace chpσ_7 := q_ifNo chpσ_7 c_8
    refine lv_aload_n hx hb dX12_best_32 rfl (lv_at hl 0 rfl) ?_
    refine lv_iconst (v := 5) hx hb dX12_best_33 (by decide) ?_
    have kc_9 : (5 : Int32).toInt = 5 := rfl
    refine q_ci (q_runV (As := [.int 5]) (rest := []) E (hml.trans hl.1.symm) hI (c_X12_refuse l X σ_2 a (5 : Int32) ha) kv_X12_284 ha ⟨rfl, by decide⟩ (show vwCl[11]? = some (RX12, TX12, 46) from rfl) rfl ⟨Nat.le_of_ble_eq_true rfl, Nat.le_of_ble_eq_true rfl⟩ ⟨Nat.le_refl _, Nat.le_refl _⟩ rfl (Nat.le_of_ble_eq_true rfl) dX12_best_34) hI (by decide) (fun r_10 σ_11 H locs hpσ_11 hkσ_11 hI => ?_)
    obtain ⟨ahpσ_11, bhpσ_11, chpσ_11⟩ := hpσ_11
    have fr_σ_11 := fr_σ_2.call chpσ_11 rfl rfl
    replace hF := q_biX hF bhpσ_11
    have mcσ_11 := m_cK hkσ_11 hI.1 ha (by decide)
    have feσ_11 : m_c X σ_11 a = m_c X σ a := (funext mcσ_11).trans feσ_2
    exact q_reti E hr hlk hI ⟨(hF.trans hout), fr_σ_11⟩ dX12_best_37
  · skip
    replace hF := q_ifn hF c_8
    replace c_8 := q_ifOne bhpσ_7 c_8
    replace chpσ_7 := q_ifYes chpσ_7 c_8
    refine lv_iload_n hx hb dX12_best_22 rfl (lv_at hl 2 rfl) ?_
    refine lv_i2l hx hb dX12_best_23 rfl ?_
    refine lv_topl (fun y_12 ey_12 => ?_)
    replace hF := q_letX hF ey_12
    have ggy_12 := q_rng v2
    have iy_12 : y_12.toInt = v2.toInt := by rw [ey_12]; exact (q_i2l _).trans rfl
    refine lv_lconst (v := 0) hx hb dX12_best_24 (by decide) ?_
    refine lv_lconst (v := 1) hx hb dX12_best_25 (by decide) ?_
    have kc_13 : (0 : Int64).toInt = 0 := rfl
    have kc_14 : (1 : Int64).toInt = 1 := rfl
    refine q_ci (q_runS (As := [.long y_12, .long 0, .long 1]) (rest := []) E (hml.trans hl.1.symm) hI (c_X12_isIn l X σ_2 y_12 (0 : Int64) (1 : Int64)) ks_X12_94 rfl ⟨Nat.le_of_ble_eq_true rfl, Nat.le_of_ble_eq_true rfl⟩ ⟨Nat.le_refl _, Nat.le_refl _⟩ rfl (Nat.le_of_ble_eq_true rfl) dX12_best_26) hI (by decide) (fun r_15 σ_16 H locs hpσ_16 hkσ_16 hI => ?_)
    obtain ⟨ahpσ_16, bhpσ_16, chpσ_16, dhpσ_16⟩ := hpσ_16
    rw [ahpσ_16] at hI
    replace hF := q_letX hF dhpσ_16
    refine q_if_ne (A := r_15.toInt) E rfl (tgt := 38) dX12_best_29 (by decide) (fun c_17 => ?_) (fun c_17 => ?_)
    · skip
      replace hF := q_ifn hF c_17
      replace c_17 := q_ifOne bhpσ_16 c_17
      replace chpσ_16 := q_ifYes chpσ_16 c_17
      refine lv_aload_n hx hb dX12_best_38 rfl (lv_at hl 0 rfl) ?_
      refine gs_X12_35_12 E hI ha dX12_best_39 ?_
      refine lv_bipush (v := 6) hx hb dX12_best_42 (by decide) ?_
      refine q_iald E hI (q_tk (k' := 34) hI ha rfl (by decide)) ⟨by decide, rfl⟩ (by decide) (by rw [q_lnk (v := 4650) hI (q_tk (k' := 34) hI ha rfl (by decide)) rfl (by decide)]; decide) dX12_best_44 ?_
      refine lv_topi (fun f_18 ef_18 => ?_)
      replace hF := q_letX hF ef_18
      have if_18 : f_18.toInt = m_c X σ a 6 := (m_rd ef_18 (by decide)).trans (congrFun feσ_2 _)
      refine q_if_ge (A := f_18.toInt) E rfl (tgt := 55) dX12_best_45 (by decide) (fun c_19 => ?_) (fun c_19 => ?_)
      · skip
        replace hF := q_ifn hF (Int.not_lt.mpr c_19)
        refine lv_aload_n hx hb dX12_best_55 rfl (lv_at hl 0 rfl) ?_
        refine gs_X12_35_12 E hI ha dX12_best_56 ?_
        refine lv_bipush (v := 6) hx hb dX12_best_59 (by decide) ?_
        refine q_iald E hI (q_tk (k' := 34) hI ha rfl (by decide)) ⟨by decide, rfl⟩ (by decide) (by rw [q_lnk (v := 4650) hI (q_tk (k' := 34) hI ha rfl (by decide)) rfl (by decide)]; decide) dX12_best_61 ?_
        refine lv_topi (fun f_20 ef_20 => ?_)
        replace hF := q_letX hF ef_20
        have if_20 : f_20.toInt = m_c X σ a 6 := (m_rd ef_20 (by decide)).trans (congrFun feσ_2 _)
        refine lv_istore_n (lv' := [(3, .int f_20), (0, .ref a), (1, .int v1), (2, .int v2)]) hx hb dX12_best_62 rfl hl (by decide) rfl (fun ls hl => ?_)
        refine lv_aload_n hx hb dX12_best_63 rfl (lv_at hl 1 rfl) ?_
        refine lv_iload_n hx hb dX12_best_64 rfl (lv_at hl 0 rfl) ?_
        refine q_ci (q_runV (As := [.int f_20]) (rest := []) E (hml.trans hl.1.symm) hI (c_X12_cardsOf l X σ_2 a f_20 ha (by rw [feσ_2]; exact hG) (by first | (clear ggy_3 iy_3 kc_4 kc_5 ahpσ_7 bhpσ_7 dhpσ_7 c_8 chpσ_7 ggy_12 iy_12 kc_13 kc_14 ahpσ_16 bhpσ_16 dhpσ_16 c_17 chpσ_16; omega) | omega)) kv_X12_293 ha ⟨rfl, by decide⟩ (show vwCl[11]? = some (RX12, TX12, 46) from rfl) rfl ⟨Nat.le_of_ble_eq_true rfl, Nat.le_of_ble_eq_true rfl⟩ ⟨Nat.le_refl _, Nat.le_refl _⟩ rfl (Nat.le_of_ble_eq_true rfl) dX12_best_65) hI (by decide) (fun r_21 σ_22 H locs hpσ_22 hkσ_22 hI => ?_)
        obtain ⟨ahpσ_22, bhpσ_22, chpσ_22, dhpσ_22⟩ := hpσ_22
        rw [ahpσ_22] at hI
        rw [feσ_2] at bhpσ_22
        replace hF := q_letX hF dhpσ_22
        refine lv_istore (lv' := [(4, .int r_21), (3, .int f_20), (0, .ref a), (1, .int v1), (2, .int v2)]) hx hb dX12_best_68 hl (by decide) rfl (fun ls hl => ?_)
        refine lv_aload_n hx hb dX12_best_70 rfl (lv_at hl 2 rfl) ?_
        refine gs_X12_35_12 E hI ha dX12_best_71 ?_
        refine lv_bipush (v := 7) hx hb dX12_best_74 (by decide) ?_
        refine q_iald E hI (q_tk (k' := 34) hI ha rfl (by decide)) ⟨by decide, rfl⟩ (by decide) (by rw [q_lnk (v := 4650) hI (q_tk (k' := 34) hI ha rfl (by decide)) rfl (by decide)]; decide) dX12_best_76 ?_
        refine lv_topi (fun f_23 ef_23 => ?_)
        replace hF := q_letX hF ef_23
        have if_23 : f_23.toInt = m_c X σ a 7 := (m_rd ef_23 (by decide)).trans (congrFun feσ_2 _)
        refine lv_iconst (v := 1) hx hb dX12_best_77 (by decide) ?_
        have gc_24_f_23 := q_rng f_23
        refine q_icmp_eq (A := f_23.toInt) (B := 1) E rfl (by decide) (tgt := 96) dX12_best_78 (by decide) (fun c_24 => ?_) (fun c_24 => ?_)
        · skip
          replace hF := q_ifp hF c_24
          refine lv_aload_n hx hb dX12_best_96 rfl (lv_at hl 2 rfl) ?_
          refine lv_bipush (v := 9) hx hb dX12_best_97 (by decide) ?_
          have kc_25 : (9 : Int32).toInt = 9 := rfl
          refine q_ci (q_runV (As := [.int 9]) (rest := []) E (hml.trans hl.1.symm) hI (c_X12_refuse l X σ_2 a (9 : Int32) ha) kv_X12_284 ha ⟨rfl, by decide⟩ (show vwCl[11]? = some (RX12, TX12, 46) from rfl) rfl ⟨Nat.le_of_ble_eq_true rfl, Nat.le_of_ble_eq_true rfl⟩ ⟨Nat.le_refl _, Nat.le_refl _⟩ rfl (Nat.le_of_ble_eq_true rfl) dX12_best_99) hI (by decide) (fun r_26 σ_27 H locs hpσ_27 hkσ_27 hI => ?_)
          obtain ⟨ahpσ_27, bhpσ_27, chpσ_27⟩ := hpσ_27
          have fr_σ_27 := fr_σ_2.call chpσ_27 rfl rfl
          replace hF := q_biX hF bhpσ_27
          have mcσ_27 := m_cK hkσ_27 hI.1 ha (by decide)
          have feσ_27 : m_c X σ_27 a = m_c X σ a := (funext mcσ_27).trans feσ_2
          exact q_reti E hr hlk hI ⟨(hF.trans hout), fr_σ_27⟩ dX12_best_102
        · skip
          replace hF := q_ifn hF c_24
          refine lv_aload_n hx hb dX12_best_81 rfl (lv_at hl 2 rfl) ?_
          refine gs_X12_35_12 E hI ha dX12_best_82 ?_
          refine lv_bipush (v := 8) hx hb dX12_best_85 (by decide) ?_
          refine q_iald E hI (q_tk (k' := 34) hI ha rfl (by decide)) ⟨by decide, rfl⟩ (by decide) (by rw [q_lnk (v := 4650) hI (q_tk (k' := 34) hI ha rfl (by decide)) rfl (by decide)]; decide) dX12_best_87 ?_
          refine lv_topi (fun f_28 ef_28 => ?_)
          replace hF := q_letX hF ef_28
          have if_28 : f_28.toInt = m_c X σ a 8 := (m_rd ef_28 (by decide)).trans (congrFun feσ_2 _)
          refine q_if_ge (A := f_28.toInt) E rfl (tgt := 96) dX12_best_88 (by decide) (fun c_29 => ?_) (fun c_29 => ?_)
          · skip
            replace hF := q_ifn hF (Int.not_lt.mpr c_29)
            refine lv_aload_n hx hb dX12_best_96 rfl (lv_at hl 2 rfl) ?_
            refine lv_bipush (v := 9) hx hb dX12_best_97 (by decide) ?_
            have kc_30 : (9 : Int32).toInt = 9 := rfl
            refine q_ci (q_runV (As := [.int 9]) (rest := []) E (hml.trans hl.1.symm) hI (c_X12_refuse l X σ_2 a (9 : Int32) ha) kv_X12_284 ha ⟨rfl, by decide⟩ (show vwCl[11]? = some (RX12, TX12, 46) from rfl) rfl ⟨Nat.le_of_ble_eq_true rfl, Nat.le_of_ble_eq_true rfl⟩ ⟨Nat.le_refl _, Nat.le_refl _⟩ rfl (Nat.le_of_ble_eq_true rfl) dX12_best_99) hI (by decide) (fun r_31 σ_32 H locs hpσ_32 hkσ_32 hI => ?_)
            obtain ⟨ahpσ_32, bhpσ_32, chpσ_32⟩ := hpσ_32
            have fr_σ_32 := fr_σ_2.call chpσ_32 rfl rfl
            replace hF := q_biX hF bhpσ_32
            have mcσ_32 := m_cK hkσ_32 hI.1 ha (by decide)
            have feσ_32 : m_c X σ_32 a = m_c X σ a := (funext mcσ_32).trans feσ_2
            exact q_reti E hr hlk hI ⟨(hF.trans hout), fr_σ_32⟩ dX12_best_102
          · skip
            replace hF := q_ifp hF c_29
            refine lv_iload hx hb dX12_best_91 (lv_at hl 0 rfl) ?_
            refine q_if_ne (A := r_21.toInt) E rfl (tgt := 103) dX12_best_93 (by decide) (fun c_33 => ?_) (fun c_33 => ?_)
            · skip
              replace hF := q_ifn hF c_33
              refine lv_aload_n hx hb dX12_best_103 rfl (lv_at hl 2 rfl) ?_
              refine lv_iload_n hx hb dX12_best_104 rfl (lv_at hl 1 rfl) ?_
              refine lv_aload_n hx hb dX12_best_105 rfl (lv_at hl 2 rfl) ?_
              refine gs_X12_35_12 E hI ha dX12_best_106 ?_
              refine lv_iconst (v := 5) hx hb dX12_best_109 (by decide) ?_
              refine q_iald E hI (q_tk (k' := 34) hI ha rfl (by decide)) ⟨by decide, rfl⟩ (by decide) (by rw [q_lnk (v := 4650) hI (q_tk (k' := 34) hI ha rfl (by decide)) rfl (by decide)]; decide) dX12_best_110 ?_
              refine lv_topi (fun f_34 ef_34 => ?_)
              replace hF := q_letX hF ef_34
              have if_34 : f_34.toInt = m_c X σ a 5 := (m_rd ef_34 (by decide)).trans (congrFun feσ_2 _)
              refine q_ci (q_runV (As := [.int f_20, .int f_34]) (rest := []) E (hml.trans hl.1.symm) hI (c_X12_handOf l X σ_2 a f_20 f_34 ha (by first | (clear ggy_3 iy_3 kc_4 kc_5 ahpσ_7 bhpσ_7 dhpσ_7 c_8 chpσ_7 ggy_12 iy_12 kc_13 kc_14 ahpσ_16 bhpσ_16 dhpσ_16 c_17 chpσ_16 ahpσ_22 bhpσ_22 chpσ_22 dhpσ_22 if_23 gc_24_f_23 c_24 if_28 c_29 c_33 if_34; omega) | omega) (by first | (clear ggy_3 iy_3 kc_4 kc_5 ahpσ_7 bhpσ_7 dhpσ_7 c_8 chpσ_7 ggy_12 iy_12 kc_13 kc_14 ahpσ_16 bhpσ_16 dhpσ_16 c_17 chpσ_16 if_18 c_19 if_20 ahpσ_22 bhpσ_22 chpσ_22 dhpσ_22 if_23 gc_24_f_23 c_24 if_28 c_29 c_33; omega) | omega)) kv_X12_276 ha ⟨rfl, by decide⟩ (show vwCl[11]? = some (RX12, TX12, 46) from rfl) rfl ⟨Nat.le_of_ble_eq_true rfl, Nat.le_of_ble_eq_true rfl⟩ ⟨Nat.le_refl _, Nat.le_refl _⟩ rfl (Nat.le_of_ble_eq_true rfl) dX12_best_111) hI (by decide) (fun r_35 σ_36 H locs hpσ_36 hkσ_36 hI => ?_)
              obtain ⟨ahpσ_36, bhpσ_36, chpσ_36⟩ := hpσ_36
              rw [ahpσ_36] at hI
              rw [feσ_2] at bhpσ_36
              replace hF := q_letX hF chpσ_36
              have ir_35 : r_35.toInt = (m_c X σ a (34 + 10 * f_20.toInt + f_34.toInt)) := (by first | exact bhpσ_36 | (rw [bhpσ_36]) | (simp only [bhpσ_36]))
              refine lv_istore (lv' := [(5, .int r_35), (4, .int r_21), (3, .int f_20), (0, .ref a), (1, .int v1), (2, .int v2)]) hx hb dX12_best_114 hl (by decide) rfl (fun ls hl => ?_)
              refine lv_aload_n hx hb dX12_best_116 rfl (lv_at hl 3 rfl) ?_
              refine q_ci (q_runV (As := []) (rest := []) E (hml.trans hl.1.symm) hI (c_X12_heapMany l X σ_2 a ha (by rw [feσ_2]; exact hG)) kv_X12_287 ha ⟨rfl, by decide⟩ (show vwCl[11]? = some (RX12, TX12, 46) from rfl) rfl ⟨Nat.le_of_ble_eq_true rfl, Nat.le_of_ble_eq_true rfl⟩ ⟨Nat.le_refl _, Nat.le_refl _⟩ rfl (Nat.le_of_ble_eq_true rfl) dX12_best_117) hI (by decide) (fun r_37 σ_38 H locs hpσ_38 hkσ_38 hI => ?_)
              obtain ⟨ahpσ_38, bhpσ_38, chpσ_38, dhpσ_38⟩ := hpσ_38
              rw [ahpσ_38] at hI
              rw [feσ_2] at bhpσ_38
              replace hF := q_letX hF dhpσ_38
              refine lv_istore (lv' := [(6, .int r_37), (5, .int r_35), (4, .int r_21), (3, .int f_20), (0, .ref a), (1, .int v1), (2, .int v2)]) hx hb dX12_best_120 hl (by decide) rfl (fun ls hl => ?_)
              refine lv_iconst (v := (-1)) hx hb dX12_best_122 (by decide) ?_
              refine lv_istore (lv' := [(7, .int (-1)), (6, .int r_37), (5, .int r_35), (4, .int r_21), (3, .int f_20), (0, .ref a), (1, .int v1), (2, .int v2)]) hx hb dX12_best_123 hl (by decide) rfl (fun ls hl => ?_)
              refine lv_iconst (v := 0) hx hb dX12_best_125 (by decide) ?_
              refine lv_istore (lv' := [(8, .int 0), (7, .int (-1)), (6, .int r_37), (5, .int r_35), (4, .int r_21), (3, .int f_20), (0, .ref a), (1, .int v1), (2, .int v2)]) hx hb dX12_best_126 hl (by decide) rfl (fun ls hl => ?_)
              refine lv_iconst (v := 0) hx hb dX12_best_128 (by decide) ?_
              refine lv_istore (lv' := [(9, .int 0), (8, .int 0), (7, .int (-1)), (6, .int r_37), (5, .int r_35), (4, .int r_21), (3, .int f_20), (0, .ref a), (1, .int v1), (2, .int v2)]) hx hb dX12_best_129 hl (by decide) rfl (fun ls hl => ?_)
              refine lv_iconst (v := 0) hx hb dX12_best_131 (by decide) ?_
              refine lv_istore (lv' := [(10, .int 0), (9, .int 0), (8, .int 0), (7, .int (-1)), (6, .int r_37), (5, .int r_35), (4, .int r_21), (3, .int f_20), (0, .ref a), (1, .int v1), (2, .int v2)]) hx hb dX12_best_132 hl (by decide) rfl (fun ls hl => ?_)
              have L_134_43 : ∀ (k_43 : Nat) (x_39 : Int32) (x_40 : Int32) (x_41 : Int32) (x_42 : Int32) (H : Heap) (locs : List Loc) (ls : Array Slot), (2147483647 - x_42.toInt).toNat < k_43 → (0 ≤ x_42.toInt) → (F_X12_best_L134_1 X σ_2 a r_21 r_35 v2 r_37 v1 k_43 x_39 x_40 x_41 x_42 = out) → q_I X 8 σ s.heap locs σ_2 H → lv_has ls 13 [(0, .ref a), (1, .int v1), (2, .int v2), (3, .int f_20), (4, .int r_21), (5, .int r_35), (6, .int r_37), (7, .int x_39), (8, .int x_40), (9, .int x_41), (10, .int x_42)] → W p l e (q_rm 2 51) s m ([.ref a, .int v1, .int v2] : List Value).toArray below meth c H locs 0 0 (MQ below (q_Qi X 8 σ (fun (r : Int32) (σ' : ST) => (r, σ') = F_X12_best X σ a v1 v2 ∧ q_ow [(12, 0), (12, 1)] [(12, 2), (12, 3)] X σ σ')) ([.ref a, .int v1, .int v2] : List Value).toArray s 0 0 (q_reg X)) (F0 m 134 ls []) := by
                clear hF
                intro k_43
                induction k_43 with
                | zero =>
                  intro x_39 x_40 x_41 x_42 H locs ls hms
                  exact absurd hms (Nat.not_lt_zero _)
                | succ k_43 ih134 =>
                  intro x_39 x_40 x_41 x_42 H locs ls hm134 hge134 hF hI hl
                  replace hF := (F_X12_best_L134_1_s).symm.trans hF
                  unfold F_X12_best_B134_1 at hF
                  refine lv_iload hx hb dX12_best_134 (lv_at hl 10 rfl) ?_
                  refine lv_aload_n hx hb dX12_best_136 rfl (lv_at hl 0 rfl) ?_
                  refine gs_X12_35_12 E hI ha dX12_best_137 ?_
                  refine lv_iconst (v := 4) hx hb dX12_best_140 (by decide) ?_
                  refine q_iald E hI (q_tk (k' := 34) hI ha rfl (by decide)) ⟨by decide, rfl⟩ (by decide) (by rw [q_lnk (v := 4650) hI (q_tk (k' := 34) hI ha rfl (by decide)) rfl (by decide)]; decide) dX12_best_141 ?_
                  refine lv_topi (fun f_44 ef_44 => ?_)
                  replace hF := q_letX hF ef_44
                  have if_44 : f_44.toInt = m_c X σ a 4 := (m_rd ef_44 (by decide)).trans (congrFun feσ_2 _)
                  refine lv_iload hx hb dX12_best_142 (lv_at hl 4 rfl) ?_
                  refine lv_iload hx hb dX12_best_144 (lv_at hl 5 rfl) ?_
                  refine lv_isub hx hb dX12_best_146 ?_
                  refine lv_topi (fun z_45 ez_45 => ?_)
                  replace hF := q_letX hF ez_45
                  refine q_ci (q_runS (As := [.int f_44, .int z_45]) (rest := [.int x_42]) E (hml.trans hl.1.symm) hI (c_J9_min_7cf53 l X σ_2 f_44 z_45) ks_X12_384 rfl ⟨Nat.le_of_ble_eq_true rfl, Nat.le_of_ble_eq_true rfl⟩ ⟨Nat.le_refl _, Nat.le_refl _⟩ rfl (Nat.le_of_ble_eq_true rfl) dX12_best_147) hI (by decide) (fun r_46 σ_47 H locs hpσ_47 hkσ_47 hI => ?_)
                  obtain ⟨ahpσ_47, bhpσ_47, chpσ_47⟩ := hpσ_47
                  rw [ahpσ_47] at hI
                  replace hF := q_letX hF chpσ_47
                  have gc_48_x_42 := q_rng x_42
                  have gc_48_r_46 := q_rng r_46
                  refine q_icmp_gt (A := x_42.toInt) (B := r_46.toInt) E rfl rfl (tgt := 263) dX12_best_150 (by decide) (fun c_48 => ?_) (fun c_48 => ?_)
                  · skip
                    replace hF := q_ifp hF c_48
                    unfold F_X12_best_E263_2 at hF
                    refine lv_aload_n hx hb dX12_best_263 rfl (lv_at hl 0 rfl) ?_
                    refine lv_iload hx hb dX12_best_264 (lv_at hl 9 rfl) ?_
                    refine lv_i2l hx hb dX12_best_266 rfl ?_
                    refine lv_topl (fun y_49 ey_49 => ?_)
                    replace hF := q_letX hF ey_49
                    have ggy_49 := q_rng x_41
                    have iy_49 : y_49.toInt = x_41.toInt := by rw [ey_49]; exact (q_i2l _).trans rfl
                    refine lv_ldc2 (v := 16) hx hb E.2.2.1 (E.2.2.2.1 _ (q_in_t8 (i := 224) (by first | rfl | decide +kernel) rfl)) dX12_best_267 ?_
                    have kc_50 : (16 : Int64).toInt = 16 := rfl
                    refine q_ci (q_runV (As := [.long y_49, .long 16]) (rest := []) E (hml.trans hl.1.symm) hI (c_X12_fraction l X σ_2 a y_49 (16 : Int64) ha (Or.inr (by decide))) kv_X12_361 ha ⟨rfl, by decide⟩ (show vwCl[11]? = some (RX12, TX12, 46) from rfl) rfl ⟨Nat.le_of_ble_eq_true rfl, Nat.le_of_ble_eq_true rfl⟩ ⟨Nat.le_refl _, Nat.le_refl _⟩ rfl (Nat.le_of_ble_eq_true rfl) dX12_best_270) hI (by decide) (fun r_51 σ_52 H locs hpσ_52 hkσ_52 hI => ?_)
                    obtain ⟨ahpσ_52, bhpσ_52, chpσ_52⟩ := hpσ_52
                    have fr_σ_52 := fr_σ_2.call chpσ_52 rfl rfl
                    replace hF := q_biX hF bhpσ_52
                    have mcσ_52 := m_cK hkσ_52 hI.1 ha (by decide)
                    have feσ_52 : m_c X σ_52 a = m_c X σ a := (funext mcσ_52).trans feσ_2
                    refine lv_pop hx hb dX12_best_273 rfl ?_
                    refine lv_iload_n hx hb dX12_best_274 rfl (lv_at hl 2 rfl) ?_
                    refine q_if_ne (A := v2.toInt) E rfl (tgt := 283) dX12_best_275 (by decide) (fun c_53 => ?_) (fun c_53 => ?_)
                    · skip
                      replace hF := q_ifn hF c_53
                      refine lv_iload hx hb dX12_best_283 (lv_at hl 8 rfl) ?_
                      exact q_reti E hr hlk hI ⟨(hF.trans hout), fr_σ_52⟩ dX12_best_285
                    · skip
                      replace hF := q_ifp hF c_53
                      refine lv_iload hx hb dX12_best_278 (lv_at hl 7 rfl) ?_
                      refine lv_goto (tgt := 285) hx hb dX12_best_280 (by decide) ?_
                      exact q_reti E hr hlk hI ⟨(hF.trans hout), fr_σ_52⟩ dX12_best_285
                  · skip
                    replace hF := q_ifn hF (Int.not_lt.mpr c_48)
                    refine lv_aload_n hx hb dX12_best_153 rfl (lv_at hl 0 rfl) ?_
                    refine gs_X12_35_12 E hI ha dX12_best_154 ?_
                    refine lv_iconst (v := 4) hx hb dX12_best_157 (by decide) ?_
                    refine q_iald E hI (q_tk (k' := 34) hI ha rfl (by decide)) ⟨by decide, rfl⟩ (by decide) (by rw [q_lnk (v := 4650) hI (q_tk (k' := 34) hI ha rfl (by decide)) rfl (by decide)]; decide) dX12_best_158 ?_
                    refine lv_topi (fun f_54 ef_54 => ?_)
                    replace hF := q_letX hF ef_54
                    have if_54 : f_54.toInt = m_c X σ a 4 := (m_rd ef_54 (by decide)).trans (congrFun feσ_2 _)
                    refine lv_iload hx hb dX12_best_159 (lv_at hl 10 rfl) ?_
                    refine lv_isub hx hb dX12_best_161 ?_
                    refine lv_topi (fun z_55 ez_55 => ?_)
                    replace hF := q_letX hF ez_55
                    refine lv_iload hx hb dX12_best_162 (lv_at hl 5 rfl) ?_
                    refine q_ci (q_runS (As := [.int z_55, .int r_35]) (rest := []) E (hml.trans hl.1.symm) hI (c_J9_min_7cf53 l X σ_2 z_55 r_35) ks_X12_384 rfl ⟨Nat.le_of_ble_eq_true rfl, Nat.le_of_ble_eq_true rfl⟩ ⟨Nat.le_refl _, Nat.le_refl _⟩ rfl (Nat.le_of_ble_eq_true rfl) dX12_best_164) hI (by decide) (fun r_56 σ_57 H locs hpσ_57 hkσ_57 hI => ?_)
                    obtain ⟨ahpσ_57, bhpσ_57, chpσ_57⟩ := hpσ_57
                    rw [ahpσ_57] at hI
                    replace hF := q_letX hF chpσ_57
                    refine lv_istore (lv' := [(11, .int r_56), (0, .ref a), (1, .int v1), (2, .int v2), (3, .int f_20), (4, .int r_21), (5, .int r_35), (6, .int r_37), (7, .int x_39), (8, .int x_40), (9, .int x_41), (10, .int x_42)]) hx hb dX12_best_167 hl (by decide) rfl (fun ls hl => ?_)
                    have L_169_62 : ∀ (k_62 : Nat) (x_58 : Int32) (x_59 : Int32) (x_60 : Int32) (x_61 : Int32) (H : Heap) (locs : List Loc) (ls : Array Slot), (x_61.toInt + 2147483649).toNat < k_62 → (F_X12_best_L169_3 X x_42 (F_X12_best_L134_1 X σ_2 a r_21 r_35 v2 r_37 v1 k_43) r_21 r_37 v1 σ_2 k_62 x_58 x_59 x_60 x_61 = out) → q_I X 8 σ s.heap locs σ_2 H → lv_has ls 13 [(0, .ref a), (1, .int v1), (2, .int v2), (3, .int f_20), (4, .int r_21), (5, .int r_35), (6, .int r_37), (7, .int x_58), (8, .int x_59), (9, .int x_60), (10, .int x_42), (11, .int x_61)] → W p l e (q_rm 2 51) s m ([.ref a, .int v1, .int v2] : List Value).toArray below meth c H locs 0 0 (MQ below (q_Qi X 8 σ (fun (r : Int32) (σ' : ST) => (r, σ') = F_X12_best X σ a v1 v2 ∧ q_ow [(12, 0), (12, 1)] [(12, 2), (12, 3)] X σ σ')) ([.ref a, .int v1, .int v2] : List Value).toArray s 0 0 (q_reg X)) (F0 m 169 ls []) := by
                      clear hF
                      intro k_62
                      induction k_62 with
                      | zero =>
                        intro x_58 x_59 x_60 x_61 H locs ls hms
                        exact absurd hms (Nat.not_lt_zero _)
                      | succ k_62 ih169 =>
                        intro x_58 x_59 x_60 x_61 H locs ls hm169  hF hI hl
                        replace hF := (F_X12_best_L169_3_s).symm.trans hF
                        unfold F_X12_best_B169_3 at hF
                        refine lv_iload hx hb dX12_best_169 (lv_at hl 11 rfl) ?_
                        refine q_if_lt (A := x_61.toInt) E rfl (tgt := 257) dX12_best_171 (by decide) (fun c_63 => ?_) (fun c_63 => ?_)
                        · skip
                          replace hF := q_ifp hF c_63
                          unfold F_X12_best_E257_4 at hF
                          obtain ⟨z_64, ez_64⟩ : ∃ y : Int32, y = x_42 + 1 := ⟨_, rfl⟩
                          replace hF := q_letX hF ez_64
                          refine lv_iinc (v := z_64) (lv' := [(10, .int z_64), (0, .ref a), (1, .int v1), (2, .int v2), (3, .int f_20), (4, .int r_21), (5, .int r_35), (6, .int r_37), (7, .int x_58), (8, .int x_59), (9, .int x_60), (11, .int x_61)]) hx hb dX12_best_257 hl (k := 10) rfl (by rw [ez_64]; rfl) (by decide) rfl (fun ls hl => ?_)
                          have iz_64 : z_64.toInt = x_42.toInt + 1 := q_inc ez_64 (by first | (clear ggy_3 iy_3 kc_4 kc_5 ahpσ_7 bhpσ_7 dhpσ_7 c_8 chpσ_7 ggy_12 iy_12 kc_13 kc_14 ahpσ_16 bhpσ_16 dhpσ_16 c_17 chpσ_16 if_18 c_19 if_20 ahpσ_22 bhpσ_22 chpσ_22 dhpσ_22 if_23 gc_24_f_23 c_24 if_28 c_29 c_33 if_34 ahpσ_36 bhpσ_36 chpσ_36 ir_35 ahpσ_38 bhpσ_38 chpσ_38 dhpσ_38 hm134 ahpσ_47 chpσ_47 ahpσ_57 bhpσ_57 chpσ_57 hm169 c_63; omega) | omega)
                          refine lv_goto (tgt := 134) hx hb dX12_best_260 (by decide) ?_
                          exact ih134 x_58 x_59 x_60 z_64 _ _ ls (by first | (clear ggy_3 iy_3 kc_4 kc_5 ahpσ_7 bhpσ_7 dhpσ_7 c_8 chpσ_7 ggy_12 iy_12 kc_13 kc_14 ahpσ_16 bhpσ_16 dhpσ_16 c_17 chpσ_16 if_18 c_19 if_20 ahpσ_22 bhpσ_22 chpσ_22 dhpσ_22 if_23 gc_24_f_23 c_24 if_28 c_29 c_33 if_34 ahpσ_36 bhpσ_36 chpσ_36 ir_35 ahpσ_38 bhpσ_38 chpσ_38 dhpσ_38 ahpσ_47 chpσ_47 ahpσ_57 bhpσ_57 chpσ_57 hm169 c_63; omega) | omega) (by first | (clear hh ggy_3 iy_3 kc_4 kc_5 ahpσ_7 bhpσ_7 dhpσ_7 c_8 chpσ_7 ggy_12 iy_12 kc_13 kc_14 ahpσ_16 bhpσ_16 dhpσ_16 c_17 chpσ_16 if_18 c_19 if_20 ahpσ_22 bhpσ_22 chpσ_22 dhpσ_22 if_23 gc_24_f_23 c_24 if_28 c_29 c_33 if_34 ahpσ_36 bhpσ_36 chpσ_36 ir_35 ahpσ_38 bhpσ_38 chpσ_38 dhpσ_38 hm134 if_44 ahpσ_47 bhpσ_47 chpσ_47 gc_48_r_46 c_48 if_54 ahpσ_57 bhpσ_57 chpσ_57 hm169 c_63; omega) | omega) hF hI (lv_sub hl [1, 2, 3, 4, 5, 6, 7, 8, 9, 10, 0] rfl)
                        · skip
                          replace hF := q_ifn hF (Int.not_lt.mpr c_63)
                          refine lv_iload hx hb dX12_best_174 (lv_at hl 11 rfl) ?_
                          refine lv_iload hx hb dX12_best_176 (lv_at hl 10 rfl) ?_
                          refine lv_iadd hx hb dX12_best_178 ?_
                          refine lv_topi (fun z_65 ez_65 => ?_)
                          replace hF := q_letX hF ez_65
                          refine q_if_ne (A := z_65.toInt) E rfl (tgt := 185) dX12_best_179 (by decide) (fun c_66 => ?_) (fun c_66 => ?_)
                          · skip
                            replace hF := q_ifn hF c_66
                            refine lv_iload hx hb dX12_best_185 (lv_at hl 10 rfl) ?_
                            refine q_if_ne (A := x_42.toInt) E rfl (tgt := 201) dX12_best_187 (by decide) (fun c_67 => ?_) (fun c_67 => ?_)
                            · skip
                              replace hF := q_ifn hF c_67
                              refine lv_iload_n hx hb dX12_best_201 rfl (lv_at hl 1 rfl) ?_
                              refine lv_iload hx hb dX12_best_202 (lv_at hl 4 rfl) ?_
                              refine lv_iload hx hb dX12_best_204 (lv_at hl 6 rfl) ?_
                              refine lv_iadd hx hb dX12_best_206 ?_
                              refine lv_topi (fun z_68 ez_68 => ?_)
                              replace hF := q_letX hF ez_68
                              refine lv_imul hx hb dX12_best_207 ?_
                              refine lv_topi (fun z_69 ez_69 => ?_)
                              replace hF := q_letX hF ez_69
                              refine lv_bipush (v := 16) hx hb dX12_best_208 (by decide) ?_
                              refine lv_iload_n hx hb dX12_best_210 rfl (lv_at hl 1 rfl) ?_
                              refine lv_isub hx hb dX12_best_211 ?_
                              refine lv_topi (fun z_70 ez_70 => ?_)
                              replace hF := q_letX hF ez_70
                              refine lv_iload hx hb dX12_best_212 (lv_at hl 4 rfl) ?_
                              refine lv_iload hx hb dX12_best_214 (lv_at hl 11 rfl) ?_
                              refine lv_isub hx hb dX12_best_216 ?_
                              refine lv_topi (fun z_71 ez_71 => ?_)
                              replace hF := q_letX hF ez_71
                              refine lv_iload hx hb dX12_best_217 (lv_at hl 10 rfl) ?_
                              refine lv_isub hx hb dX12_best_219 ?_
                              refine lv_topi (fun z_72 ez_72 => ?_)
                              replace hF := q_letX hF ez_72
                              refine lv_imul hx hb dX12_best_220 ?_
                              refine lv_topi (fun z_73 ez_73 => ?_)
                              replace hF := q_letX hF ez_73
                              refine lv_iadd hx hb dX12_best_221 ?_
                              refine lv_topi (fun z_74 ez_74 => ?_)
                              replace hF := q_letX hF ez_74
                              refine lv_istore (lv' := [(12, .int z_74), (0, .ref a), (1, .int v1), (2, .int v2), (3, .int f_20), (4, .int r_21), (5, .int r_35), (6, .int r_37), (7, .int x_58), (8, .int x_59), (9, .int x_60), (10, .int x_42), (11, .int x_61)]) hx hb dX12_best_222 hl (by decide) rfl (fun ls hl => ?_)
                              refine lv_iload hx hb dX12_best_224 (lv_at hl 8 rfl) ?_
                              refine q_if_lt (A := x_58.toInt) E rfl (tgt := 239) dX12_best_226 (by decide) (fun c_75 => ?_) (fun c_75 => ?_)
                              · skip
                                replace hF := q_ifp hF c_75
                                refine lv_iload hx hb dX12_best_239 (lv_at hl 12 rfl) ?_
                                refine lv_istore (lv' := [(7, .int x_61), (12, .int z_74), (0, .ref a), (1, .int v1), (2, .int v2), (3, .int f_20), (4, .int r_21), (5, .int r_35), (6, .int r_37), (8, .int x_59), (9, .int x_60), (10, .int x_42), (11, .int x_61)]) hx hb dX12_best_241 hl (by decide) rfl (fun ls hl => ?_)
                                refine lv_iload hx hb dX12_best_243 (lv_at hl 11 rfl) ?_
                                refine lv_istore (lv' := [(8, .int x_42), (7, .int x_61), (12, .int z_74), (0, .ref a), (1, .int v1), (2, .int v2), (3, .int f_20), (4, .int r_21), (5, .int r_35), (6, .int r_37), (9, .int x_60), (10, .int x_42), (11, .int x_61)]) hx hb dX12_best_245 hl (by decide) rfl (fun ls hl => ?_)
                                refine lv_iload hx hb dX12_best_247 (lv_at hl 2 rfl) ?_
                                refine lv_istore (lv' := [(9, .int z_74), (8, .int x_42), (7, .int x_61), (12, .int z_74), (0, .ref a), (1, .int v1), (2, .int v2), (3, .int f_20), (4, .int r_21), (5, .int r_35), (6, .int r_37), (10, .int x_42), (11, .int x_61)]) hx hb dX12_best_249 hl (by decide) rfl (fun ls hl => ?_)
                                obtain ⟨z_76, ez_76⟩ : ∃ y : Int32, y = x_61 + (-1) := ⟨_, rfl⟩
                                replace hF := q_letX hF ez_76
                                refine lv_iinc (v := z_76) (lv' := [(11, .int z_76), (9, .int z_74), (8, .int x_42), (7, .int x_61), (12, .int z_74), (0, .ref a), (1, .int v1), (2, .int v2), (3, .int f_20), (4, .int r_21), (5, .int r_35), (6, .int r_37), (10, .int x_42)]) hx hb dX12_best_251 hl (k := 12) rfl (by rw [ez_76]; rfl) (by decide) rfl (fun ls hl => ?_)
                                have iz_76 : z_76.toInt = x_61.toInt - 1 := q_dec ez_76 (by first | (clear hh ggy_3 iy_3 kc_4 kc_5 ahpσ_7 bhpσ_7 dhpσ_7 c_8 chpσ_7 ggy_12 iy_12 kc_13 kc_14 ahpσ_16 bhpσ_16 dhpσ_16 c_17 chpσ_16 if_18 c_19 if_20 ahpσ_22 bhpσ_22 chpσ_22 dhpσ_22 if_23 gc_24_f_23 c_24 if_28 c_29 c_33 if_34 ahpσ_36 bhpσ_36 chpσ_36 ir_35 ahpσ_38 bhpσ_38 chpσ_38 dhpσ_38 hm134 hge134 if_44 ahpσ_47 bhpσ_47 chpσ_47 gc_48_x_42 gc_48_r_46 c_48 if_54 ahpσ_57 bhpσ_57 chpσ_57 hm169 c_66 c_67 c_75; omega) | omega)
                                refine lv_goto (tgt := 169) hx hb dX12_best_254 (by decide) ?_
                                exact ih169 x_61 x_42 z_74 z_76 _ _ ls (by first | (clear hh ggy_3 iy_3 kc_4 kc_5 ahpσ_7 bhpσ_7 dhpσ_7 c_8 chpσ_7 ggy_12 iy_12 kc_13 kc_14 ahpσ_16 bhpσ_16 dhpσ_16 c_17 chpσ_16 if_18 c_19 if_20 ahpσ_22 bhpσ_22 chpσ_22 dhpσ_22 if_23 gc_24_f_23 c_24 if_28 c_29 c_33 if_34 ahpσ_36 bhpσ_36 chpσ_36 ir_35 ahpσ_38 bhpσ_38 chpσ_38 dhpσ_38 hm134 if_44 ahpσ_47 bhpσ_47 chpσ_47 gc_48_r_46 c_48 if_54 ahpσ_57 bhpσ_57 chpσ_57 c_75; omega) | omega) hF hI (lv_sub hl [5, 6, 7, 8, 9, 10, 11, 3, 2, 1, 12, 0] rfl)
                              · skip
                                replace hF := q_ifn hF (Int.not_lt.mpr c_75)
                                refine lv_iload hx hb dX12_best_229 (lv_at hl 0 rfl) ?_
                                refine lv_iload hx hb dX12_best_231 (lv_at hl 10 rfl) ?_
                                have gc_77_z_74 := q_rng z_74
                                have gc_77_x_60 := q_rng x_60
                                refine q_icmp_lt (A := z_74.toInt) (B := x_60.toInt) E rfl rfl (tgt := 239) dX12_best_233 (by decide) (fun c_77 => ?_) (fun c_77 => ?_)
                                · skip
                                  replace hF := q_ifp hF c_77
                                  refine lv_iload hx hb dX12_best_239 (lv_at hl 12 rfl) ?_
                                  refine lv_istore (lv' := [(7, .int x_61), (12, .int z_74), (0, .ref a), (1, .int v1), (2, .int v2), (3, .int f_20), (4, .int r_21), (5, .int r_35), (6, .int r_37), (8, .int x_59), (9, .int x_60), (10, .int x_42), (11, .int x_61)]) hx hb dX12_best_241 hl (by decide) rfl (fun ls hl => ?_)
                                  refine lv_iload hx hb dX12_best_243 (lv_at hl 11 rfl) ?_
                                  refine lv_istore (lv' := [(8, .int x_42), (7, .int x_61), (12, .int z_74), (0, .ref a), (1, .int v1), (2, .int v2), (3, .int f_20), (4, .int r_21), (5, .int r_35), (6, .int r_37), (9, .int x_60), (10, .int x_42), (11, .int x_61)]) hx hb dX12_best_245 hl (by decide) rfl (fun ls hl => ?_)
                                  refine lv_iload hx hb dX12_best_247 (lv_at hl 2 rfl) ?_
                                  refine lv_istore (lv' := [(9, .int z_74), (8, .int x_42), (7, .int x_61), (12, .int z_74), (0, .ref a), (1, .int v1), (2, .int v2), (3, .int f_20), (4, .int r_21), (5, .int r_35), (6, .int r_37), (10, .int x_42), (11, .int x_61)]) hx hb dX12_best_249 hl (by decide) rfl (fun ls hl => ?_)
                                  obtain ⟨z_78, ez_78⟩ : ∃ y : Int32, y = x_61 + (-1) := ⟨_, rfl⟩
                                  replace hF := q_letX hF ez_78
                                  refine lv_iinc (v := z_78) (lv' := [(11, .int z_78), (9, .int z_74), (8, .int x_42), (7, .int x_61), (12, .int z_74), (0, .ref a), (1, .int v1), (2, .int v2), (3, .int f_20), (4, .int r_21), (5, .int r_35), (6, .int r_37), (10, .int x_42)]) hx hb dX12_best_251 hl (k := 12) rfl (by rw [ez_78]; rfl) (by decide) rfl (fun ls hl => ?_)
                                  have iz_78 : z_78.toInt = x_61.toInt - 1 := q_dec ez_78 (by first | (clear hh ggy_3 iy_3 kc_4 kc_5 ahpσ_7 bhpσ_7 dhpσ_7 c_8 chpσ_7 ggy_12 iy_12 kc_13 kc_14 ahpσ_16 bhpσ_16 dhpσ_16 c_17 chpσ_16 if_18 c_19 if_20 ahpσ_22 bhpσ_22 chpσ_22 dhpσ_22 if_23 gc_24_f_23 c_24 if_28 c_29 c_33 if_34 ahpσ_36 bhpσ_36 chpσ_36 ir_35 ahpσ_38 bhpσ_38 chpσ_38 dhpσ_38 hm134 hge134 if_44 ahpσ_47 bhpσ_47 chpσ_47 gc_48_x_42 gc_48_r_46 c_48 if_54 ahpσ_57 bhpσ_57 chpσ_57 hm169 c_66 c_67 c_75 gc_77_z_74 gc_77_x_60 c_77; omega) | omega)
                                  refine lv_goto (tgt := 169) hx hb dX12_best_254 (by decide) ?_
                                  exact ih169 x_61 x_42 z_74 z_78 _ _ ls (by first | (clear hh ggy_3 iy_3 kc_4 kc_5 ahpσ_7 bhpσ_7 dhpσ_7 c_8 chpσ_7 ggy_12 iy_12 kc_13 kc_14 ahpσ_16 bhpσ_16 dhpσ_16 c_17 chpσ_16 if_18 c_19 if_20 ahpσ_22 bhpσ_22 chpσ_22 dhpσ_22 if_23 gc_24_f_23 c_24 if_28 c_29 c_33 if_34 ahpσ_36 bhpσ_36 chpσ_36 ir_35 ahpσ_38 bhpσ_38 chpσ_38 dhpσ_38 hm134 if_44 ahpσ_47 bhpσ_47 chpσ_47 gc_48_r_46 c_48 if_54 ahpσ_57 bhpσ_57 chpσ_57 c_75 gc_77_z_74 gc_77_x_60 c_77; omega) | omega) hF hI (lv_sub hl [5, 6, 7, 8, 9, 10, 11, 3, 2, 1, 12, 0] rfl)
                                · skip
                                  replace hF := q_ifn hF (Int.not_lt.mpr c_77)
                                  refine lv_goto (tgt := 251) hx hb dX12_best_236 (by decide) ?_
                                  obtain ⟨z_79, ez_79⟩ : ∃ y : Int32, y = x_61 + (-1) := ⟨_, rfl⟩
                                  replace hF := q_letX hF ez_79
                                  refine lv_iinc (v := z_79) (lv' := [(11, .int z_79), (12, .int z_74), (0, .ref a), (1, .int v1), (2, .int v2), (3, .int f_20), (4, .int r_21), (5, .int r_35), (6, .int r_37), (7, .int x_58), (8, .int x_59), (9, .int x_60), (10, .int x_42)]) hx hb dX12_best_251 hl (k := 12) rfl (by rw [ez_79]; rfl) (by decide) rfl (fun ls hl => ?_)
                                  have iz_79 : z_79.toInt = x_61.toInt - 1 := q_dec ez_79 (by first | (clear hh ggy_3 iy_3 kc_4 kc_5 ahpσ_7 bhpσ_7 dhpσ_7 c_8 chpσ_7 ggy_12 iy_12 kc_13 kc_14 ahpσ_16 bhpσ_16 dhpσ_16 c_17 chpσ_16 if_18 c_19 if_20 ahpσ_22 bhpσ_22 chpσ_22 dhpσ_22 if_23 gc_24_f_23 c_24 if_28 c_29 c_33 if_34 ahpσ_36 bhpσ_36 chpσ_36 ir_35 ahpσ_38 bhpσ_38 chpσ_38 dhpσ_38 hm134 hge134 if_44 ahpσ_47 bhpσ_47 chpσ_47 gc_48_x_42 gc_48_r_46 c_48 if_54 ahpσ_57 bhpσ_57 chpσ_57 hm169 c_66 c_67 c_75 gc_77_z_74 gc_77_x_60 c_77; omega) | omega)
                                  refine lv_goto (tgt := 169) hx hb dX12_best_254 (by decide) ?_
                                  exact ih169 x_58 x_59 x_60 z_79 _ _ ls (by first | (clear hh ggy_3 iy_3 kc_4 kc_5 ahpσ_7 bhpσ_7 dhpσ_7 c_8 chpσ_7 ggy_12 iy_12 kc_13 kc_14 ahpσ_16 bhpσ_16 dhpσ_16 c_17 chpσ_16 if_18 c_19 if_20 ahpσ_22 bhpσ_22 chpσ_22 dhpσ_22 if_23 gc_24_f_23 c_24 if_28 c_29 c_33 if_34 ahpσ_36 bhpσ_36 chpσ_36 ir_35 ahpσ_38 bhpσ_38 chpσ_38 dhpσ_38 hm134 if_44 ahpσ_47 bhpσ_47 chpσ_47 gc_48_r_46 c_48 if_54 ahpσ_57 bhpσ_57 chpσ_57 c_75 gc_77_z_74 gc_77_x_60 c_77; omega) | omega) hF hI (lv_sub hl [2, 3, 4, 5, 6, 7, 8, 9, 10, 11, 12, 0] rfl)
                            · skip
                              replace hF := q_ifp hF c_67
                              refine lv_bipush (v := 16) hx hb dX12_best_190 (by decide) ?_
                              refine lv_iload hx hb dX12_best_192 (lv_at hl 4 rfl) ?_
                              refine lv_iload hx hb dX12_best_194 (lv_at hl 11 rfl) ?_
                              refine lv_isub hx hb dX12_best_196 ?_
                              refine lv_topi (fun z_80 ez_80 => ?_)
                              replace hF := q_letX hF ez_80
                              refine lv_imul hx hb dX12_best_197 ?_
                              refine lv_topi (fun z_81 ez_81 => ?_)
                              replace hF := q_letX hF ez_81
                              refine lv_goto (tgt := 222) hx hb dX12_best_198 (by decide) ?_
                              refine lv_istore (lv' := [(12, .int z_81), (0, .ref a), (1, .int v1), (2, .int v2), (3, .int f_20), (4, .int r_21), (5, .int r_35), (6, .int r_37), (7, .int x_58), (8, .int x_59), (9, .int x_60), (10, .int x_42), (11, .int x_61)]) hx hb dX12_best_222 hl (by decide) rfl (fun ls hl => ?_)
                              refine lv_iload hx hb dX12_best_224 (lv_at hl 8 rfl) ?_
                              refine q_if_lt (A := x_58.toInt) E rfl (tgt := 239) dX12_best_226 (by decide) (fun c_82 => ?_) (fun c_82 => ?_)
                              · skip
                                replace hF := q_ifp hF c_82
                                refine lv_iload hx hb dX12_best_239 (lv_at hl 12 rfl) ?_
                                refine lv_istore (lv' := [(7, .int x_61), (12, .int z_81), (0, .ref a), (1, .int v1), (2, .int v2), (3, .int f_20), (4, .int r_21), (5, .int r_35), (6, .int r_37), (8, .int x_59), (9, .int x_60), (10, .int x_42), (11, .int x_61)]) hx hb dX12_best_241 hl (by decide) rfl (fun ls hl => ?_)
                                refine lv_iload hx hb dX12_best_243 (lv_at hl 11 rfl) ?_
                                refine lv_istore (lv' := [(8, .int x_42), (7, .int x_61), (12, .int z_81), (0, .ref a), (1, .int v1), (2, .int v2), (3, .int f_20), (4, .int r_21), (5, .int r_35), (6, .int r_37), (9, .int x_60), (10, .int x_42), (11, .int x_61)]) hx hb dX12_best_245 hl (by decide) rfl (fun ls hl => ?_)
                                refine lv_iload hx hb dX12_best_247 (lv_at hl 2 rfl) ?_
                                refine lv_istore (lv' := [(9, .int z_81), (8, .int x_42), (7, .int x_61), (12, .int z_81), (0, .ref a), (1, .int v1), (2, .int v2), (3, .int f_20), (4, .int r_21), (5, .int r_35), (6, .int r_37), (10, .int x_42), (11, .int x_61)]) hx hb dX12_best_249 hl (by decide) rfl (fun ls hl => ?_)
                                obtain ⟨z_83, ez_83⟩ : ∃ y : Int32, y = x_61 + (-1) := ⟨_, rfl⟩
                                replace hF := q_letX hF ez_83
                                refine lv_iinc (v := z_83) (lv' := [(11, .int z_83), (9, .int z_81), (8, .int x_42), (7, .int x_61), (12, .int z_81), (0, .ref a), (1, .int v1), (2, .int v2), (3, .int f_20), (4, .int r_21), (5, .int r_35), (6, .int r_37), (10, .int x_42)]) hx hb dX12_best_251 hl (k := 12) rfl (by rw [ez_83]; rfl) (by decide) rfl (fun ls hl => ?_)
                                have iz_83 : z_83.toInt = x_61.toInt - 1 := q_dec ez_83 (by first | (clear hh ggy_3 iy_3 kc_4 kc_5 ahpσ_7 bhpσ_7 dhpσ_7 c_8 chpσ_7 ggy_12 iy_12 kc_13 kc_14 ahpσ_16 bhpσ_16 dhpσ_16 c_17 chpσ_16 if_18 c_19 if_20 ahpσ_22 bhpσ_22 chpσ_22 dhpσ_22 if_23 gc_24_f_23 c_24 if_28 c_29 c_33 if_34 ahpσ_36 bhpσ_36 chpσ_36 ir_35 ahpσ_38 bhpσ_38 chpσ_38 dhpσ_38 hm134 hge134 if_44 ahpσ_47 bhpσ_47 chpσ_47 gc_48_x_42 gc_48_r_46 c_48 if_54 ahpσ_57 bhpσ_57 chpσ_57 hm169 c_66 c_67 c_82; omega) | omega)
                                refine lv_goto (tgt := 169) hx hb dX12_best_254 (by decide) ?_
                                exact ih169 x_61 x_42 z_81 z_83 _ _ ls (by first | (clear hh ggy_3 iy_3 kc_4 kc_5 ahpσ_7 bhpσ_7 dhpσ_7 c_8 chpσ_7 ggy_12 iy_12 kc_13 kc_14 ahpσ_16 bhpσ_16 dhpσ_16 c_17 chpσ_16 if_18 c_19 if_20 ahpσ_22 bhpσ_22 chpσ_22 dhpσ_22 if_23 gc_24_f_23 c_24 if_28 c_29 c_33 if_34 ahpσ_36 bhpσ_36 chpσ_36 ir_35 ahpσ_38 bhpσ_38 chpσ_38 dhpσ_38 hm134 hge134 if_44 ahpσ_47 bhpσ_47 chpσ_47 gc_48_x_42 gc_48_r_46 c_48 if_54 ahpσ_57 bhpσ_57 chpσ_57 c_67 c_82; omega) | omega) hF hI (lv_sub hl [5, 6, 7, 8, 9, 10, 11, 3, 2, 1, 12, 0] rfl)
                              · skip
                                replace hF := q_ifn hF (Int.not_lt.mpr c_82)
                                refine lv_iload hx hb dX12_best_229 (lv_at hl 0 rfl) ?_
                                refine lv_iload hx hb dX12_best_231 (lv_at hl 10 rfl) ?_
                                have gc_84_z_81 := q_rng z_81
                                have gc_84_x_60 := q_rng x_60
                                refine q_icmp_lt (A := z_81.toInt) (B := x_60.toInt) E rfl rfl (tgt := 239) dX12_best_233 (by decide) (fun c_84 => ?_) (fun c_84 => ?_)
                                · skip
                                  replace hF := q_ifp hF c_84
                                  refine lv_iload hx hb dX12_best_239 (lv_at hl 12 rfl) ?_
                                  refine lv_istore (lv' := [(7, .int x_61), (12, .int z_81), (0, .ref a), (1, .int v1), (2, .int v2), (3, .int f_20), (4, .int r_21), (5, .int r_35), (6, .int r_37), (8, .int x_59), (9, .int x_60), (10, .int x_42), (11, .int x_61)]) hx hb dX12_best_241 hl (by decide) rfl (fun ls hl => ?_)
                                  refine lv_iload hx hb dX12_best_243 (lv_at hl 11 rfl) ?_
                                  refine lv_istore (lv' := [(8, .int x_42), (7, .int x_61), (12, .int z_81), (0, .ref a), (1, .int v1), (2, .int v2), (3, .int f_20), (4, .int r_21), (5, .int r_35), (6, .int r_37), (9, .int x_60), (10, .int x_42), (11, .int x_61)]) hx hb dX12_best_245 hl (by decide) rfl (fun ls hl => ?_)
                                  refine lv_iload hx hb dX12_best_247 (lv_at hl 2 rfl) ?_
                                  refine lv_istore (lv' := [(9, .int z_81), (8, .int x_42), (7, .int x_61), (12, .int z_81), (0, .ref a), (1, .int v1), (2, .int v2), (3, .int f_20), (4, .int r_21), (5, .int r_35), (6, .int r_37), (10, .int x_42), (11, .int x_61)]) hx hb dX12_best_249 hl (by decide) rfl (fun ls hl => ?_)
                                  obtain ⟨z_85, ez_85⟩ : ∃ y : Int32, y = x_61 + (-1) := ⟨_, rfl⟩
                                  replace hF := q_letX hF ez_85
                                  refine lv_iinc (v := z_85) (lv' := [(11, .int z_85), (9, .int z_81), (8, .int x_42), (7, .int x_61), (12, .int z_81), (0, .ref a), (1, .int v1), (2, .int v2), (3, .int f_20), (4, .int r_21), (5, .int r_35), (6, .int r_37), (10, .int x_42)]) hx hb dX12_best_251 hl (k := 12) rfl (by rw [ez_85]; rfl) (by decide) rfl (fun ls hl => ?_)
                                  have iz_85 : z_85.toInt = x_61.toInt - 1 := q_dec ez_85 (by first | (clear hh ggy_3 iy_3 kc_4 kc_5 ahpσ_7 bhpσ_7 dhpσ_7 c_8 chpσ_7 ggy_12 iy_12 kc_13 kc_14 ahpσ_16 bhpσ_16 dhpσ_16 c_17 chpσ_16 if_18 c_19 if_20 ahpσ_22 bhpσ_22 chpσ_22 dhpσ_22 if_23 gc_24_f_23 c_24 if_28 c_29 c_33 if_34 ahpσ_36 bhpσ_36 chpσ_36 ir_35 ahpσ_38 bhpσ_38 chpσ_38 dhpσ_38 hm134 hge134 if_44 ahpσ_47 bhpσ_47 chpσ_47 gc_48_x_42 gc_48_r_46 c_48 if_54 ahpσ_57 bhpσ_57 chpσ_57 hm169 c_66 c_67 c_82 gc_84_z_81 gc_84_x_60 c_84; omega) | omega)
                                  refine lv_goto (tgt := 169) hx hb dX12_best_254 (by decide) ?_
                                  exact ih169 x_61 x_42 z_81 z_85 _ _ ls (by first | (clear hh ggy_3 iy_3 kc_4 kc_5 ahpσ_7 bhpσ_7 dhpσ_7 c_8 chpσ_7 ggy_12 iy_12 kc_13 kc_14 ahpσ_16 bhpσ_16 dhpσ_16 c_17 chpσ_16 if_18 c_19 if_20 ahpσ_22 bhpσ_22 chpσ_22 dhpσ_22 if_23 gc_24_f_23 c_24 if_28 c_29 c_33 if_34 ahpσ_36 bhpσ_36 chpσ_36 ir_35 ahpσ_38 bhpσ_38 chpσ_38 dhpσ_38 hm134 hge134 if_44 ahpσ_47 bhpσ_47 chpσ_47 gc_48_x_42 gc_48_r_46 c_48 if_54 ahpσ_57 bhpσ_57 chpσ_57 c_67 c_82 gc_84_z_81 gc_84_x_60 c_84; omega) | omega) hF hI (lv_sub hl [5, 6, 7, 8, 9, 10, 11, 3, 2, 1, 12, 0] rfl)
                                · skip
                                  replace hF := q_ifn hF (Int.not_lt.mpr c_84)
                                  refine lv_goto (tgt := 251) hx hb dX12_best_236 (by decide) ?_
                                  obtain ⟨z_86, ez_86⟩ : ∃ y : Int32, y = x_61 + (-1) := ⟨_, rfl⟩
                                  replace hF := q_letX hF ez_86
                                  refine lv_iinc (v := z_86) (lv' := [(11, .int z_86), (12, .int z_81), (0, .ref a), (1, .int v1), (2, .int v2), (3, .int f_20), (4, .int r_21), (5, .int r_35), (6, .int r_37), (7, .int x_58), (8, .int x_59), (9, .int x_60), (10, .int x_42)]) hx hb dX12_best_251 hl (k := 12) rfl (by rw [ez_86]; rfl) (by decide) rfl (fun ls hl => ?_)
                                  have iz_86 : z_86.toInt = x_61.toInt - 1 := q_dec ez_86 (by first | (clear hh ggy_3 iy_3 kc_4 kc_5 ahpσ_7 bhpσ_7 dhpσ_7 c_8 chpσ_7 ggy_12 iy_12 kc_13 kc_14 ahpσ_16 bhpσ_16 dhpσ_16 c_17 chpσ_16 if_18 c_19 if_20 ahpσ_22 bhpσ_22 chpσ_22 dhpσ_22 if_23 gc_24_f_23 c_24 if_28 c_29 c_33 if_34 ahpσ_36 bhpσ_36 chpσ_36 ir_35 ahpσ_38 bhpσ_38 chpσ_38 dhpσ_38 hm134 hge134 if_44 ahpσ_47 bhpσ_47 chpσ_47 gc_48_x_42 gc_48_r_46 c_48 if_54 ahpσ_57 bhpσ_57 chpσ_57 hm169 c_66 c_67 c_82 gc_84_z_81 gc_84_x_60 c_84; omega) | omega)
                                  refine lv_goto (tgt := 169) hx hb dX12_best_254 (by decide) ?_
                                  exact ih169 x_58 x_59 x_60 z_86 _ _ ls (by first | (clear hh ggy_3 iy_3 kc_4 kc_5 ahpσ_7 bhpσ_7 dhpσ_7 c_8 chpσ_7 ggy_12 iy_12 kc_13 kc_14 ahpσ_16 bhpσ_16 dhpσ_16 c_17 chpσ_16 if_18 c_19 if_20 ahpσ_22 bhpσ_22 chpσ_22 dhpσ_22 if_23 gc_24_f_23 c_24 if_28 c_29 c_33 if_34 ahpσ_36 bhpσ_36 chpσ_36 ir_35 ahpσ_38 bhpσ_38 chpσ_38 dhpσ_38 hm134 hge134 if_44 ahpσ_47 bhpσ_47 chpσ_47 gc_48_x_42 gc_48_r_46 c_48 if_54 ahpσ_57 bhpσ_57 chpσ_57 c_67 c_82 gc_84_z_81 gc_84_x_60 c_84; omega) | omega) hF hI (lv_sub hl [2, 3, 4, 5, 6, 7, 8, 9, 10, 11, 12, 0] rfl)
                          · skip
                            replace hF := q_ifp hF c_66
                            refine lv_goto (tgt := 251) hx hb dX12_best_182 (by decide) ?_
                            obtain ⟨z_87, ez_87⟩ : ∃ y : Int32, y = x_61 + (-1) := ⟨_, rfl⟩
                            replace hF := q_letX hF ez_87
                            refine lv_iinc (v := z_87) (lv' := [(11, .int z_87), (0, .ref a), (1, .int v1), (2, .int v2), (3, .int f_20), (4, .int r_21), (5, .int r_35), (6, .int r_37), (7, .int x_58), (8, .int x_59), (9, .int x_60), (10, .int x_42)]) hx hb dX12_best_251 hl (k := 11) rfl (by rw [ez_87]; rfl) (by decide) rfl (fun ls hl => ?_)
                            have iz_87 : z_87.toInt = x_61.toInt - 1 := q_dec ez_87 (by first | (clear hh ggy_3 iy_3 kc_4 kc_5 ahpσ_7 bhpσ_7 dhpσ_7 c_8 chpσ_7 ggy_12 iy_12 kc_13 kc_14 ahpσ_16 bhpσ_16 dhpσ_16 c_17 chpσ_16 if_18 c_19 if_20 ahpσ_22 bhpσ_22 chpσ_22 dhpσ_22 if_23 gc_24_f_23 c_24 if_28 c_29 c_33 if_34 ahpσ_36 bhpσ_36 chpσ_36 ir_35 ahpσ_38 bhpσ_38 chpσ_38 dhpσ_38 hm134 hge134 if_44 ahpσ_47 bhpσ_47 chpσ_47 gc_48_x_42 gc_48_r_46 c_48 if_54 ahpσ_57 bhpσ_57 chpσ_57 hm169 c_66; omega) | omega)
                            refine lv_goto (tgt := 169) hx hb dX12_best_254 (by decide) ?_
                            exact ih169 x_58 x_59 x_60 z_87 _ _ ls (by first | (clear hh ggy_3 iy_3 kc_4 kc_5 ahpσ_7 bhpσ_7 dhpσ_7 c_8 chpσ_7 ggy_12 iy_12 kc_13 kc_14 ahpσ_16 bhpσ_16 dhpσ_16 c_17 chpσ_16 if_18 c_19 if_20 ahpσ_22 bhpσ_22 chpσ_22 dhpσ_22 if_23 gc_24_f_23 c_24 if_28 c_29 c_33 if_34 ahpσ_36 bhpσ_36 chpσ_36 ir_35 ahpσ_38 bhpσ_38 chpσ_38 dhpσ_38 hm134 hge134 if_44 ahpσ_47 bhpσ_47 chpσ_47 gc_48_x_42 gc_48_r_46 c_48 if_54 ahpσ_57 bhpσ_57 chpσ_57 c_66; omega) | omega) hF hI (lv_sub hl [1, 2, 3, 4, 5, 6, 7, 8, 9, 10, 11, 0] rfl)
                    exact L_169_62 ((r_56.toInt + 2147483649).toNat + 1) x_39 x_40 x_41 r_56 _ _ ls (Nat.lt_succ_self _) hF hI (lv_sub hl [1, 2, 3, 4, 5, 6, 7, 8, 9, 10, 11, 0] rfl)
              have kc_88 : ((-1) : Int32).toInt = (-1) := rfl
              have kc_89 : (0 : Int32).toInt = 0 := rfl
              exact L_134_43 ((2147483647 - (0 : Int32).toInt).toNat + 1) (-1) 0 0 0 _ _ ls (Nat.lt_succ_self _) (by decide) hF hI (lv_sub hl [8, 9, 10, 7, 6, 5, 4, 3, 2, 1, 0] rfl)
            · skip
              replace hF := q_ifp hF c_33
              refine lv_aload_n hx hb dX12_best_96 rfl (lv_at hl 2 rfl) ?_
              refine lv_bipush (v := 9) hx hb dX12_best_97 (by decide) ?_
              have kc_90 : (9 : Int32).toInt = 9 := rfl
              refine q_ci (q_runV (As := [.int 9]) (rest := []) E (hml.trans hl.1.symm) hI (c_X12_refuse l X σ_2 a (9 : Int32) ha) kv_X12_284 ha ⟨rfl, by decide⟩ (show vwCl[11]? = some (RX12, TX12, 46) from rfl) rfl ⟨Nat.le_of_ble_eq_true rfl, Nat.le_of_ble_eq_true rfl⟩ ⟨Nat.le_refl _, Nat.le_refl _⟩ rfl (Nat.le_of_ble_eq_true rfl) dX12_best_99) hI (by decide) (fun r_91 σ_92 H locs hpσ_92 hkσ_92 hI => ?_)
              obtain ⟨ahpσ_92, bhpσ_92, chpσ_92⟩ := hpσ_92
              have fr_σ_92 := fr_σ_2.call chpσ_92 rfl rfl
              replace hF := q_biX hF bhpσ_92
              have mcσ_92 := m_cK hkσ_92 hI.1 ha (by decide)
              have feσ_92 : m_c X σ_92 a = m_c X σ a := (funext mcσ_92).trans feσ_2
              exact q_reti E hr hlk hI ⟨(hF.trans hout), fr_σ_92⟩ dX12_best_102
      · skip
        replace hF := q_ifp hF c_19
        refine lv_aload_n hx hb dX12_best_48 rfl (lv_at hl 0 rfl) ?_
        refine lv_bipush (v := 8) hx hb dX12_best_49 (by decide) ?_
        have kc_93 : (8 : Int32).toInt = 8 := rfl
        refine q_ci (q_runV (As := [.int 8]) (rest := []) E (hml.trans hl.1.symm) hI (c_X12_refuse l X σ_2 a (8 : Int32) ha) kv_X12_284 ha ⟨rfl, by decide⟩ (show vwCl[11]? = some (RX12, TX12, 46) from rfl) rfl ⟨Nat.le_of_ble_eq_true rfl, Nat.le_of_ble_eq_true rfl⟩ ⟨Nat.le_refl _, Nat.le_refl _⟩ rfl (Nat.le_of_ble_eq_true rfl) dX12_best_51) hI (by decide) (fun r_94 σ_95 H locs hpσ_95 hkσ_95 hI => ?_)
        obtain ⟨ahpσ_95, bhpσ_95, chpσ_95⟩ := hpσ_95
        have fr_σ_95 := fr_σ_2.call chpσ_95 rfl rfl
        replace hF := q_biX hF bhpσ_95
        have mcσ_95 := m_cK hkσ_95 hI.1 ha (by decide)
        have feσ_95 : m_c X σ_95 a = m_c X σ a := (funext mcσ_95).trans feσ_2
        exact q_reti E hr hlk hI ⟨(hF.trans hout), fr_σ_95⟩ dX12_best_54
    · skip
      replace hF := q_ifp hF c_17
      replace chpσ_16 := q_ifNo chpσ_16 c_17
      refine lv_aload_n hx hb dX12_best_32 rfl (lv_at hl 0 rfl) ?_
      refine lv_iconst (v := 5) hx hb dX12_best_33 (by decide) ?_
      have kc_96 : (5 : Int32).toInt = 5 := rfl
      refine q_ci (q_runV (As := [.int 5]) (rest := []) E (hml.trans hl.1.symm) hI (c_X12_refuse l X σ_2 a (5 : Int32) ha) kv_X12_284 ha ⟨rfl, by decide⟩ (show vwCl[11]? = some (RX12, TX12, 46) from rfl) rfl ⟨Nat.le_of_ble_eq_true rfl, Nat.le_of_ble_eq_true rfl⟩ ⟨Nat.le_refl _, Nat.le_refl _⟩ rfl (Nat.le_of_ble_eq_true rfl) dX12_best_34) hI (by decide) (fun r_97 σ_98 H locs hpσ_98 hkσ_98 hI => ?_)
      obtain ⟨ahpσ_98, bhpσ_98, chpσ_98⟩ := hpσ_98
      have fr_σ_98 := fr_σ_2.call chpσ_98 rfl rfl
      replace hF := q_biX hF bhpσ_98
      have mcσ_98 := m_cK hkσ_98 hI.1 ha (by decide)
      have feσ_98 : m_c X σ_98 a = m_c X σ a := (funext mcσ_98).trans feσ_2
      exact q_reti E hr hlk hI ⟨(hF.trans hout), fr_σ_98⟩ dX12_best_37

set_option maxRecDepth 100000 in
set_option maxHeartbeats 4000000 in
theorem c_X12_sayer (l : Launch) (X : XW) (σ : ST) (a : Nat) (v1 : Int32) (ha : q_kd X a = 12) (hG : m_G (m_c X σ a)) : Met l yX12_sayer (q_ws yX12_sayer cX12_sayer 4 (some .int)) (q_rm 3 67) (q_P X σ [.ref a, .int v1]) (q_Qi X 8 σ (fun (r : Int32) (σ' : ST) => (r, σ') = F_X12_sayer X σ a v1 ∧ q_ow [(12, 0), (12, 1)] [] X σ σ')) 0 0 (q_reg X) := by
  refine q_met 8 (by first | exact rfl | decide +kernel) rfl (Nat.le_of_ble_eq_true rfl) (fun p e s m below meth c E hml hr hlk hI ls hl => ?_)
  have hx := E.1
  have hb := E.2.1
  have hl : lv_has ls 4 [(0, .ref a), (1, .int v1)] := hl
  have feσ : m_c X σ a = m_c X σ a := rfl
  have fr_σ : q_ow [(12, 0), (12, 1)] [] X σ σ := q_ow.rf
  have hh := hG.hd
  obtain ⟨out, hout⟩ : ∃ o, o = F_X12_sayer X σ a v1 := ⟨_, rfl⟩
  have hF := hout.symm
  unfold F_X12_sayer at hF
  refine lv_aload_n hx hb dX12_sayer_0 rfl (lv_at hl 0 rfl) ?_
  refine lv_iconst (v := 0) hx hb dX12_sayer_1 (by decide) ?_
  refine ps_X12_59_12 E hI ha (by decide) dX12_sayer_2 (fun H locs σ_1 hσ_1 hI => ?_)
  replace hF := q_letX hF hσ_1
  have fr_σ_1 := fr_σ.si hσ_1 ha rfl
  have mcσ_1 := m_wo hσ_1 (m_ne ha (q_tk (f := 20) (k' := 34) hI ha rfl (by decide)) (by decide))
  have feσ_1 : m_c X σ_1 a = m_c X σ a := (funext mcσ_1).trans feσ
  refine lv_aload_n hx hb dX12_sayer_5 rfl (lv_at hl 0 rfl) ?_
  refine lv_iconst (v := 0) hx hb dX12_sayer_6 (by decide) ?_
  refine ps_X12_62_12 E hI ha (by decide) dX12_sayer_7 (fun H locs σ_2 hσ_2 hI => ?_)
  replace hF := q_letX hF hσ_2
  have fr_σ_2 := fr_σ_1.si hσ_2 ha rfl
  have mcσ_2 := m_wo hσ_2 (m_ne ha (q_tk (f := 20) (k' := 34) hI ha rfl (by decide)) (by decide))
  have feσ_2 : m_c X σ_2 a = m_c X σ a := (funext mcσ_2).trans feσ_1
  refine lv_aload_n hx hb dX12_sayer_10 rfl (lv_at hl 0 rfl) ?_
  refine lv_iload_n hx hb dX12_sayer_11 rfl (lv_at hl 1 rfl) ?_
  refine q_ci (q_runV (As := [.int v1]) (rest := []) E (hml.trans hl.1.symm) hI (c_X12_isKindAt l X σ_2 a v1 ha (by rw [feσ_2]; exact hG)) kv_X12_299 ha ⟨rfl, by decide⟩ (show vwCl[11]? = some (RX12, TX12, 46) from rfl) rfl ⟨Nat.le_of_ble_eq_true rfl, Nat.le_of_ble_eq_true rfl⟩ ⟨Nat.le_refl _, Nat.le_refl _⟩ rfl (Nat.le_of_ble_eq_true rfl) dX12_sayer_12) hI (by decide) (fun r_3 σ_4 H locs hpσ_4 hkσ_4 hI => ?_)
  obtain ⟨ahpσ_4, bhpσ_4, chpσ_4, dhpσ_4⟩ := hpσ_4
  rw [ahpσ_4] at hI
  rw [feσ_2] at chpσ_4
  replace hF := q_letX hF dhpσ_4
  refine q_if_ne (A := r_3.toInt) E rfl (tgt := 24) dX12_sayer_15 (by decide) (fun c_5 => ?_) (fun c_5 => ?_)
  · skip
    replace hF := q_ifn hF c_5
    replace c_5 := q_ifOne bhpσ_4 c_5
    replace chpσ_4 := q_ifYes chpσ_4 c_5
    refine lv_iconst (v := 0) hx hb dX12_sayer_24 (by decide) ?_
    refine lv_istore_n (lv' := [(2, .int 0), (0, .ref a), (1, .int v1)]) hx hb dX12_sayer_25 rfl hl (by decide) rfl (fun ls hl => ?_)
    have L_26_7 : ∀ (k_7 : Nat) (x_6 : Int32) (H : Heap) (locs : List Loc) (ls : Array Slot), (2147483647 - x_6.toInt).toNat < k_7 → (0 ≤ x_6.toInt) → (F_X12_sayer_L26_1 X σ_2 a v1 k_7 x_6 = out) → q_I X 8 σ s.heap locs σ_2 H → lv_has ls 4 [(0, .ref a), (1, .int v1), (2, .int x_6)] → W p l e (q_rm 3 67) s m ([.ref a, .int v1] : List Value).toArray below meth c H locs 0 0 (MQ below (q_Qi X 8 σ (fun (r : Int32) (σ' : ST) => (r, σ') = F_X12_sayer X σ a v1 ∧ q_ow [(12, 0), (12, 1)] [] X σ σ')) ([.ref a, .int v1] : List Value).toArray s 0 0 (q_reg X)) (F0 m 26 ls []) := by
      clear hF
      intro k_7
      induction k_7 with
      | zero =>
        intro x_6 H locs ls hms
        exact absurd hms (Nat.not_lt_zero _)
      | succ k_7 ih26 =>
        intro x_6 H locs ls hm26 hge26 hF hI hl
        replace hF := (F_X12_sayer_L26_1_s).symm.trans hF
        unfold F_X12_sayer_B26_1 at hF
        refine lv_iload_n hx hb dX12_sayer_26 rfl (lv_at hl 2 rfl) ?_
        refine lv_aload_n hx hb dX12_sayer_27 rfl (lv_at hl 0 rfl) ?_
        refine gs_X12_35_12 E hI ha dX12_sayer_28 ?_
        refine lv_iconst (v := 0) hx hb dX12_sayer_31 (by decide) ?_
        refine q_iald E hI (q_tk (k' := 34) hI ha rfl (by decide)) ⟨by decide, rfl⟩ (by decide) (by rw [q_lnk (v := 4650) hI (q_tk (k' := 34) hI ha rfl (by decide)) rfl (by decide)]; decide) dX12_sayer_32 ?_
        refine lv_topi (fun f_8 ef_8 => ?_)
        replace hF := q_letX hF ef_8
        have if_8 : f_8.toInt = m_c X σ a 0 := (m_rd ef_8 (by decide)).trans (congrFun feσ_2 _)
        refine lv_aload_n hx hb dX12_sayer_33 rfl (lv_at hl 0 rfl) ?_
        refine gs_X12_35_12 E hI ha dX12_sayer_34 ?_
        refine lv_iconst (v := 2) hx hb dX12_sayer_37 (by decide) ?_
        refine q_iald E hI (q_tk (k' := 34) hI ha rfl (by decide)) ⟨by decide, rfl⟩ (by decide) (by rw [q_lnk (v := 4650) hI (q_tk (k' := 34) hI ha rfl (by decide)) rfl (by decide)]; decide) dX12_sayer_38 ?_
        refine lv_topi (fun f_9 ef_9 => ?_)
        replace hF := q_letX hF ef_9
        have if_9 : f_9.toInt = m_c X σ a 2 := (m_rd ef_9 (by decide)).trans (congrFun feσ_2 _)
        have mb := m_mulI (a := (m_c X σ a 0)) (A := 10) (b := (m_c X σ a 2)) (B := 6) (by first | (clear ahpσ_4 bhpσ_4 dhpσ_4 c_5 chpσ_4 hm26 hge26 if_9; omega) | omega) (by first | (clear ahpσ_4 bhpσ_4 dhpσ_4 c_5 chpσ_4 hm26 hge26 if_9; omega) | omega) (by first | (clear ahpσ_4 bhpσ_4 dhpσ_4 c_5 chpσ_4 hm26 hge26 if_8; omega) | omega) (by first | (clear ahpσ_4 bhpσ_4 dhpσ_4 c_5 chpσ_4 hm26 hge26 if_8; omega) | omega)
        refine lv_imul hx hb dX12_sayer_39 ?_
        refine lv_topi (fun z_10 ez_10 => ?_)
        replace hF := q_letX hF ez_10
        have iz_10 := q_mulI (A := (m_c X σ a 0)) (B := (m_c X σ a 2)) ez_10 if_8 if_9 (by first | (clear hh ahpσ_4 bhpσ_4 dhpσ_4 c_5 chpσ_4 hm26 hge26 if_8 if_9; omega) | omega) (by first | (clear hh ahpσ_4 bhpσ_4 dhpσ_4 c_5 chpσ_4 hm26 hge26 if_8 if_9; omega) | omega)
        have gc_11_x_6 := q_rng x_6
        have gc_11_z_10 := q_rng z_10
        refine q_icmp_ge (A := x_6.toInt) (B := z_10.toInt) E rfl rfl (tgt := 117) dX12_sayer_40 (by decide) (fun c_11 => ?_) (fun c_11 => ?_)
        · skip
          replace hF := q_ifn hF (Int.not_lt.mpr c_11)
          unfold F_X12_sayer_E117_2 at hF
          refine lv_aload_n hx hb dX12_sayer_117 rfl (lv_at hl 0 rfl) ?_
          refine lv_bipush (v := 8) hx hb dX12_sayer_118 (by decide) ?_
          have kc_12 : (8 : Int32).toInt = 8 := rfl
          refine q_ci (q_runV (As := [.int 8]) (rest := []) E (hml.trans hl.1.symm) hI (c_X12_refuse l X σ_2 a (8 : Int32) ha) kv_X12_284 ha ⟨rfl, by decide⟩ (show vwCl[11]? = some (RX12, TX12, 46) from rfl) rfl ⟨Nat.le_of_ble_eq_true rfl, Nat.le_of_ble_eq_true rfl⟩ ⟨Nat.le_refl _, Nat.le_refl _⟩ rfl (Nat.le_of_ble_eq_true rfl) dX12_sayer_120) hI (by decide) (fun r_13 σ_14 H locs hpσ_14 hkσ_14 hI => ?_)
          obtain ⟨ahpσ_14, bhpσ_14, chpσ_14⟩ := hpσ_14
          have fr_σ_14 := fr_σ_2.call chpσ_14 rfl rfl
          replace hF := q_biX hF bhpσ_14
          have mcσ_14 := m_cK hkσ_14 hI.1 ha (by decide)
          have feσ_14 : m_c X σ_14 a = m_c X σ a := (funext mcσ_14).trans feσ_2
          exact q_reti E hr hlk hI ⟨(hF.trans hout), fr_σ_14⟩ dX12_sayer_123
        · skip
          replace hF := q_ifp hF c_11
          refine lv_aload_n hx hb dX12_sayer_43 rfl (lv_at hl 0 rfl) ?_
          refine gs_X12_35_12 E hI ha dX12_sayer_44 ?_
          refine lv_bipush (v := 7) hx hb dX12_sayer_47 (by decide) ?_
          refine q_iald E hI (q_tk (k' := 34) hI ha rfl (by decide)) ⟨by decide, rfl⟩ (by decide) (by rw [q_lnk (v := 4650) hI (q_tk (k' := 34) hI ha rfl (by decide)) rfl (by decide)]; decide) dX12_sayer_49 ?_
          refine lv_topi (fun f_15 ef_15 => ?_)
          replace hF := q_letX hF ef_15
          have if_15 : f_15.toInt = m_c X σ a 7 := (m_rd ef_15 (by decide)).trans (congrFun feσ_2 _)
          refine lv_iconst (v := 1) hx hb dX12_sayer_50 (by decide) ?_
          have J_91_16 : ∀ (x_16 : Int32) (H : Heap) (locs : List Loc) (ls : Array Slot), (0 ≤ x_16.toInt ∧ x_16.toInt < m_c X σ a 2) → (F_X12_sayer_J91_3 X σ_2 a x_6 v1 (F_X12_sayer_L26_1 X σ_2 a v1 k_7) x_16 = out) → q_I X 8 σ s.heap locs σ_2 H → lv_has ls 4 [(0, .ref a), (1, .int v1), (2, .int x_6)] → W p l e (q_rm 3 67) s m ([.ref a, .int v1] : List Value).toArray below meth c H locs 0 0 (MQ below (q_Qi X 8 σ (fun (r : Int32) (σ' : ST) => (r, σ') = F_X12_sayer X σ a v1 ∧ q_ow [(12, 0), (12, 1)] [] X σ σ')) ([.ref a, .int v1] : List Value).toArray s 0 0 (q_reg X)) (F0 m 91 ls [.int x_16]) := by
            clear hF
            intro x_16 H locs ls j91 hF hI hl
            unfold F_X12_sayer_J91_3 at hF
            refine lv_istore_n (lv' := [(3, .int x_16), (0, .ref a), (1, .int v1), (2, .int x_6)]) hx hb dX12_sayer_91 rfl hl (by decide) rfl (fun ls hl => ?_)
            refine lv_aload_n hx hb dX12_sayer_92 rfl (lv_at hl 1 rfl) ?_
            refine lv_iload_n hx hb dX12_sayer_93 rfl (lv_at hl 0 rfl) ?_
            refine lv_iload_n hx hb dX12_sayer_94 rfl (lv_at hl 3 rfl) ?_
            refine lv_aload_n hx hb dX12_sayer_95 rfl (lv_at hl 1 rfl) ?_
            refine gs_X12_35_12 E hI ha dX12_sayer_96 ?_
            refine lv_iconst (v := 2) hx hb dX12_sayer_99 (by decide) ?_
            refine q_iald E hI (q_tk (k' := 34) hI ha rfl (by decide)) ⟨by decide, rfl⟩ (by decide) (by rw [q_lnk (v := 4650) hI (q_tk (k' := 34) hI ha rfl (by decide)) rfl (by decide)]; decide) dX12_sayer_100 ?_
            refine lv_topi (fun f_17 ef_17 => ?_)
            replace hF := q_letX hF ef_17
            have if_17 : f_17.toInt = m_c X σ a 2 := (m_rd ef_17 (by decide)).trans (congrFun feσ_2 _)
            refine lv_idiv hx hb dX12_sayer_101 (q_ne0 (by first | (clear hh ahpσ_4 bhpσ_4 dhpσ_4 c_5 chpσ_4 hm26 hge26 if_8 mb iz_10 gc_11_x_6 gc_11_z_10 c_11 if_15; omega) | omega)) ?_
            refine lv_topi (fun z_18 ez_18 => ?_)
            replace hF := q_letX hF ez_18
            have dvz_18 := m_div ez_18 (by omega) (by first | (clear ahpσ_4 bhpσ_4 dhpσ_4 c_5 chpσ_4 hm26 hge26 if_8 mb iz_10 gc_11_x_6 gc_11_z_10 c_11 if_15; omega) | omega)
            refine q_ci (q_runV (As := [.int x_16, .int z_18]) (rest := []) E (hml.trans hl.1.symm) hI (c_X12_fallsTo l X σ_2 a x_16 z_18 ha (by rw [feσ_2]; exact hG) (by rw [feσ_2]; exact (by omega)) (by first | (clear hh ahpσ_4 bhpσ_4 dhpσ_4 c_5 chpσ_4 hm26 if_8 if_9 gc_11_z_10 if_15 j91 if_17; omega) | omega)) kv_X12_372 ha ⟨rfl, by decide⟩ (show vwCl[11]? = some (RX12, TX12, 46) from rfl) rfl ⟨Nat.le_of_ble_eq_true rfl, Nat.le_of_ble_eq_true rfl⟩ ⟨Nat.le_refl _, Nat.le_refl _⟩ rfl (Nat.le_of_ble_eq_true rfl) dX12_sayer_102) hI (by decide) (fun r_19 σ_20 H locs hpσ_20 hkσ_20 hI => ?_)
            obtain ⟨ahpσ_20, bhpσ_20, chpσ_20⟩ := hpσ_20
            rw [ahpσ_20] at hI
            rw [feσ_2] at bhpσ_20
            replace hF := q_letX hF chpσ_20
            refine lv_iload_n hx hb dX12_sayer_105 rfl (lv_at hl 2 rfl) ?_
            have gc_21_r_19 := q_rng r_19
            have gc_21_v1 := q_rng v1
            refine q_icmp_ne (A := r_19.toInt) (B := v1.toInt) E rfl rfl (tgt := 111) dX12_sayer_106 (by decide) (fun c_21 => ?_) (fun c_21 => ?_)
            · skip
              replace hF := q_ifn hF c_21
              obtain ⟨z_22, ez_22⟩ : ∃ y : Int32, y = x_6 + 1 := ⟨_, rfl⟩
              replace hF := q_letX hF ez_22
              refine lv_iinc (v := z_22) (lv' := [(2, .int z_22), (3, .int x_16), (0, .ref a), (1, .int v1)]) hx hb dX12_sayer_111 hl (k := 3) rfl (by rw [ez_22]; rfl) (by decide) rfl (fun ls hl => ?_)
              have iz_22 : z_22.toInt = x_6.toInt + 1 := q_inc ez_22 (by first | (clear hh ahpσ_4 bhpσ_4 dhpσ_4 c_5 chpσ_4 hm26 if_8 if_9 gc_11_z_10 if_15 j91 if_17 dvz_18 ahpσ_20 bhpσ_20 chpσ_20 gc_21_r_19 gc_21_v1 c_21; omega) | omega)
              refine lv_goto (tgt := 26) hx hb dX12_sayer_114 (by decide) ?_
              exact ih26 z_22 _ _ ls (by first | (clear hh ahpσ_4 bhpσ_4 dhpσ_4 c_5 chpσ_4 if_8 if_9 gc_11_z_10 if_15 j91 if_17 dvz_18 ahpσ_20 bhpσ_20 chpσ_20 gc_21_r_19 gc_21_v1; omega) | omega) (by first | (clear hh ahpσ_4 bhpσ_4 dhpσ_4 c_5 chpσ_4 hm26 if_8 if_9 mb iz_10 gc_11_z_10 c_11 if_15 j91 if_17 dvz_18 ahpσ_20 bhpσ_20 chpσ_20 gc_21_r_19 gc_21_v1 c_21; omega) | omega) hF hI (lv_sub hl [2, 3, 0] rfl)
            · skip
              replace hF := q_ifp hF c_21
              skip
              refine lv_iload_n hx hb dX12_sayer_109 rfl (lv_at hl 0 rfl) ?_
              exact q_reti E hr hlk hI ⟨(hF.trans hout), fr_σ_2⟩ dX12_sayer_110
          have gc_23_f_15 := q_rng f_15
          refine q_icmp_ne (A := f_15.toInt) (B := 1) E rfl (by decide) (tgt := 75) dX12_sayer_51 (by decide) (fun c_23 => ?_) (fun c_23 => ?_)
          · skip
            replace hF := q_ifn hF c_23
            refine lv_aload_n hx hb dX12_sayer_75 rfl (lv_at hl 0 rfl) ?_
            refine gs_X12_35_12 E hI ha dX12_sayer_76 ?_
            refine lv_bipush (v := 6) hx hb dX12_sayer_79 (by decide) ?_
            refine q_iald E hI (q_tk (k' := 34) hI ha rfl (by decide)) ⟨by decide, rfl⟩ (by decide) (by rw [q_lnk (v := 4650) hI (q_tk (k' := 34) hI ha rfl (by decide)) rfl (by decide)]; decide) dX12_sayer_81 ?_
            refine lv_topi (fun f_24 ef_24 => ?_)
            replace hF := q_letX hF ef_24
            have if_24 : f_24.toInt = m_c X σ a 6 := (m_rd ef_24 (by decide)).trans (congrFun feσ_2 _)
            refine lv_iload_n hx hb dX12_sayer_82 rfl (lv_at hl 2 rfl) ?_
            refine lv_iadd hx hb dX12_sayer_83 ?_
            refine lv_topi (fun z_25 ez_25 => ?_)
            replace hF := q_letX hF ez_25
            have iz_25 := q_addI (A := (m_c X σ a 6)) (B := x_6.toInt) ez_25 if_24 rfl (by first | (clear ahpσ_4 bhpσ_4 dhpσ_4 c_5 chpσ_4 hm26 if_8 if_9 mb iz_10 gc_11_z_10 c_11 if_15 gc_23_f_15 c_23; omega) | omega) (by first | (clear ahpσ_4 bhpσ_4 dhpσ_4 c_5 chpσ_4 hm26 if_8 gc_11_z_10 if_15 gc_23_f_15 c_23; omega) | omega)
            refine lv_aload_n hx hb dX12_sayer_84 rfl (lv_at hl 0 rfl) ?_
            refine gs_X12_35_12 E hI ha dX12_sayer_85 ?_
            refine lv_iconst (v := 2) hx hb dX12_sayer_88 (by decide) ?_
            refine q_iald E hI (q_tk (k' := 34) hI ha rfl (by decide)) ⟨by decide, rfl⟩ (by decide) (by rw [q_lnk (v := 4650) hI (q_tk (k' := 34) hI ha rfl (by decide)) rfl (by decide)]; decide) dX12_sayer_89 ?_
            refine lv_topi (fun f_26 ef_26 => ?_)
            replace hF := q_letX hF ef_26
            have if_26 : f_26.toInt = m_c X σ a 2 := (m_rd ef_26 (by decide)).trans (congrFun feσ_2 _)
            refine lv_irem hx hb dX12_sayer_90 (q_ne0 (by first | (clear ahpσ_4 bhpσ_4 dhpσ_4 c_5 chpσ_4 hm26 if_8 gc_11_z_10 if_15 gc_23_f_15 c_23; omega) | omega)) ?_
            refine lv_topi (fun z_27 ez_27 => ?_)
            replace hF := q_letX hF (ez_27.trans (q_remI _ _))
            have rmz_27 := m_rem ez_27 (by first | (clear ahpσ_4 bhpσ_4 dhpσ_4 c_5 chpσ_4 hm26 if_8 gc_11_z_10 if_15 gc_23_f_15 c_23; omega) | omega) (by first | (clear ahpσ_4 bhpσ_4 dhpσ_4 c_5 chpσ_4 hm26 if_8 gc_11_z_10 if_15 gc_23_f_15 c_23; omega) | omega)
            exact J_91_16 z_27 _ _ ls (by first | (clear hh ahpσ_4 bhpσ_4 dhpσ_4 c_5 chpσ_4 hm26 hge26 if_8 mb iz_10 gc_11_x_6 gc_11_z_10 c_11 if_15 gc_23_f_15 c_23 if_24 iz_25; omega) | omega) hF hI (lv_sub hl [0, 1, 2] rfl)
          · skip
            replace hF := q_ifp hF c_23
            refine lv_aload_n hx hb dX12_sayer_54 rfl (lv_at hl 0 rfl) ?_
            refine gs_X12_35_12 E hI ha dX12_sayer_55 ?_
            refine lv_bipush (v := 6) hx hb dX12_sayer_58 (by decide) ?_
            refine q_iald E hI (q_tk (k' := 34) hI ha rfl (by decide)) ⟨by decide, rfl⟩ (by decide) (by rw [q_lnk (v := 4650) hI (q_tk (k' := 34) hI ha rfl (by decide)) rfl (by decide)]; decide) dX12_sayer_60 ?_
            refine lv_topi (fun f_28 ef_28 => ?_)
            replace hF := q_letX hF ef_28
            have if_28 : f_28.toInt = m_c X σ a 6 := (m_rd ef_28 (by decide)).trans (congrFun feσ_2 _)
            refine lv_iconst (v := 1) hx hb dX12_sayer_61 (by decide) ?_
            refine lv_iadd hx hb dX12_sayer_62 ?_
            refine lv_topi (fun z_29 ez_29 => ?_)
            replace hF := q_letX hF ez_29
            have iz_29 := q_addI (A := (m_c X σ a 6)) (B := 1) ez_29 if_28 (by decide) (by first | (clear ahpσ_4 bhpσ_4 dhpσ_4 c_5 chpσ_4 hm26 hge26 if_8 if_9 mb iz_10 gc_11_x_6 gc_11_z_10 c_11 gc_23_f_15; omega) | omega) (by first | (clear ahpσ_4 bhpσ_4 dhpσ_4 c_5 chpσ_4 hm26 hge26 if_8 mb iz_10 gc_11_x_6 gc_11_z_10 c_11 if_15 gc_23_f_15 c_23; omega) | omega)
            refine lv_iload_n hx hb dX12_sayer_63 rfl (lv_at hl 2 rfl) ?_
            refine lv_iadd hx hb dX12_sayer_64 ?_
            refine lv_topi (fun z_30 ez_30 => ?_)
            replace hF := q_letX hF ez_30
            have iz_30 := q_addI (A := ((m_c X σ a 6) + 1)) (B := x_6.toInt) ez_30 iz_29 rfl (by first | (clear ahpσ_4 bhpσ_4 dhpσ_4 c_5 chpσ_4 hm26 if_8 if_9 mb iz_10 gc_11_z_10 c_11 gc_23_f_15; omega) | omega) (by first | (clear ahpσ_4 bhpσ_4 dhpσ_4 c_5 chpσ_4 hm26 if_8 gc_11_z_10 if_15 gc_23_f_15 c_23; omega) | omega)
            refine lv_aload_n hx hb dX12_sayer_65 rfl (lv_at hl 0 rfl) ?_
            refine gs_X12_35_12 E hI ha dX12_sayer_66 ?_
            refine lv_iconst (v := 2) hx hb dX12_sayer_69 (by decide) ?_
            refine q_iald E hI (q_tk (k' := 34) hI ha rfl (by decide)) ⟨by decide, rfl⟩ (by decide) (by rw [q_lnk (v := 4650) hI (q_tk (k' := 34) hI ha rfl (by decide)) rfl (by decide)]; decide) dX12_sayer_70 ?_
            refine lv_topi (fun f_31 ef_31 => ?_)
            replace hF := q_letX hF ef_31
            have if_31 : f_31.toInt = m_c X σ a 2 := (m_rd ef_31 (by decide)).trans (congrFun feσ_2 _)
            refine lv_irem hx hb dX12_sayer_71 (q_ne0 (by first | (clear ahpσ_4 bhpσ_4 dhpσ_4 c_5 chpσ_4 hm26 hge26 if_8 mb iz_10 gc_11_x_6 gc_11_z_10 c_11 gc_23_f_15 iz_30; omega) | omega)) ?_
            refine lv_topi (fun z_32 ez_32 => ?_)
            replace hF := q_letX hF (ez_32.trans (q_remI _ _))
            have rmz_32 := m_rem ez_32 (by first | (clear ahpσ_4 bhpσ_4 dhpσ_4 c_5 chpσ_4 hm26 if_8 if_9 mb iz_10 gc_11_z_10 c_11 gc_23_f_15 if_31; omega) | omega) (by first | (clear ahpσ_4 bhpσ_4 dhpσ_4 c_5 chpσ_4 hm26 hge26 if_8 mb iz_10 gc_11_x_6 gc_11_z_10 c_11 gc_23_f_15 iz_30; omega) | omega)
            refine lv_goto (tgt := 91) hx hb dX12_sayer_72 (by decide) ?_
            exact J_91_16 z_32 _ _ ls (by first | (clear hh ahpσ_4 bhpσ_4 dhpσ_4 c_5 chpσ_4 hm26 hge26 if_8 mb iz_10 gc_11_x_6 gc_11_z_10 c_11 if_15 gc_23_f_15 c_23 if_28 iz_29 iz_30; omega) | omega) hF hI (lv_sub hl [0, 1, 2] rfl)
    have kc_33 : (0 : Int32).toInt = 0 := rfl
    exact L_26_7 ((2147483647 - (0 : Int32).toInt).toNat + 1) 0 _ _ ls (Nat.lt_succ_self _) (by decide) hF hI (lv_sub hl [1, 2, 0] rfl)
  · skip
    replace hF := q_ifp hF c_5
    replace chpσ_4 := q_ifNo chpσ_4 c_5
    refine lv_aload_n hx hb dX12_sayer_18 rfl (lv_at hl 0 rfl) ?_
    refine lv_iconst (v := 2) hx hb dX12_sayer_19 (by decide) ?_
    have kc_34 : (2 : Int32).toInt = 2 := rfl
    refine q_ci (q_runV (As := [.int 2]) (rest := []) E (hml.trans hl.1.symm) hI (c_X12_refuse l X σ_2 a (2 : Int32) ha) kv_X12_284 ha ⟨rfl, by decide⟩ (show vwCl[11]? = some (RX12, TX12, 46) from rfl) rfl ⟨Nat.le_of_ble_eq_true rfl, Nat.le_of_ble_eq_true rfl⟩ ⟨Nat.le_refl _, Nat.le_refl _⟩ rfl (Nat.le_of_ble_eq_true rfl) dX12_sayer_20) hI (by decide) (fun r_35 σ_36 H locs hpσ_36 hkσ_36 hI => ?_)
    obtain ⟨ahpσ_36, bhpσ_36, chpσ_36⟩ := hpσ_36
    have fr_σ_36 := fr_σ_2.call chpσ_36 rfl rfl
    replace hF := q_biX hF bhpσ_36
    have mcσ_36 := m_cK hkσ_36 hI.1 ha (by decide)
    have feσ_36 : m_c X σ_36 a = m_c X σ a := (funext mcσ_36).trans feσ_2
    exact q_reti E hr hlk hI ⟨(hF.trans hout), fr_σ_36⟩ dX12_sayer_23

set_option maxRecDepth 100000 in
set_option maxHeartbeats 4000000 in
theorem c_X12_has (l : Launch) (X : XW) (σ : ST) (a : Nat) (v1 : Int32) (ha : q_kd X a = 12) (hG : m_G (m_c X σ a)) : Met l yX12_has (q_ws yX12_has cX12_has 4 (some .int)) (q_rm 2 46) (q_P X σ [.ref a, .int v1]) (q_Qi X 8 σ (fun (r : Int32) (σ' : ST) => (r, σ') = F_X12_has X σ a v1 ∧ q_ow [(12, 0), (12, 1)] [] X σ σ')) 0 0 (q_reg X) := by
  refine q_met 8 (by first | exact rfl | decide +kernel) rfl (Nat.le_of_ble_eq_true rfl) (fun p e s m below meth c E hml hr hlk hI ls hl => ?_)
  have hx := E.1
  have hb := E.2.1
  have hl : lv_has ls 4 [(0, .ref a), (1, .int v1)] := hl
  have feσ : m_c X σ a = m_c X σ a := rfl
  have fr_σ : q_ow [(12, 0), (12, 1)] [] X σ σ := q_ow.rf
  have hh := hG.hd
  obtain ⟨out, hout⟩ : ∃ o, o = F_X12_has X σ a v1 := ⟨_, rfl⟩
  have hF := hout.symm
  unfold F_X12_has at hF
  refine lv_aload_n hx hb dX12_has_0 rfl (lv_at hl 0 rfl) ?_
  refine lv_iconst (v := 0) hx hb dX12_has_1 (by decide) ?_
  refine ps_X12_59_12 E hI ha (by decide) dX12_has_2 (fun H locs σ_1 hσ_1 hI => ?_)
  replace hF := q_letX hF hσ_1
  have fr_σ_1 := fr_σ.si hσ_1 ha rfl
  have mcσ_1 := m_wo hσ_1 (m_ne ha (q_tk (f := 20) (k' := 34) hI ha rfl (by decide)) (by decide))
  have feσ_1 : m_c X σ_1 a = m_c X σ a := (funext mcσ_1).trans feσ
  refine lv_aload_n hx hb dX12_has_5 rfl (lv_at hl 0 rfl) ?_
  refine lv_iconst (v := 0) hx hb dX12_has_6 (by decide) ?_
  refine ps_X12_62_12 E hI ha (by decide) dX12_has_7 (fun H locs σ_2 hσ_2 hI => ?_)
  replace hF := q_letX hF hσ_2
  have fr_σ_2 := fr_σ_1.si hσ_2 ha rfl
  have mcσ_2 := m_wo hσ_2 (m_ne ha (q_tk (f := 20) (k' := 34) hI ha rfl (by decide)) (by decide))
  have feσ_2 : m_c X σ_2 a = m_c X σ a := (funext mcσ_2).trans feσ_1
  refine lv_aload_n hx hb dX12_has_10 rfl (lv_at hl 0 rfl) ?_
  refine lv_iload_n hx hb dX12_has_11 rfl (lv_at hl 1 rfl) ?_
  refine q_ci (q_runV (As := [.int v1]) (rest := []) E (hml.trans hl.1.symm) hI (c_X12_isPlayerAt l X σ_2 a v1 ha (by rw [feσ_2]; exact hG)) kv_X12_290 ha ⟨rfl, by decide⟩ (show vwCl[11]? = some (RX12, TX12, 46) from rfl) rfl ⟨Nat.le_of_ble_eq_true rfl, Nat.le_of_ble_eq_true rfl⟩ ⟨Nat.le_refl _, Nat.le_refl _⟩ rfl (Nat.le_of_ble_eq_true rfl) dX12_has_12) hI (by decide) (fun r_3 σ_4 H locs hpσ_4 hkσ_4 hI => ?_)
  obtain ⟨ahpσ_4, bhpσ_4, chpσ_4, dhpσ_4⟩ := hpσ_4
  rw [ahpσ_4] at hI
  rw [feσ_2] at chpσ_4
  replace hF := q_letX hF dhpσ_4
  refine q_if_ne (A := r_3.toInt) E rfl (tgt := 24) dX12_has_15 (by decide) (fun c_5 => ?_) (fun c_5 => ?_)
  · skip
    replace hF := q_ifn hF c_5
    replace c_5 := q_ifOne bhpσ_4 c_5
    replace chpσ_4 := q_ifYes chpσ_4 c_5
    refine lv_iconst (v := 0) hx hb dX12_has_24 (by decide) ?_
    refine lv_istore_n (lv' := [(2, .int 0), (0, .ref a), (1, .int v1)]) hx hb dX12_has_25 rfl hl (by decide) rfl (fun ls hl => ?_)
    refine lv_iconst (v := 0) hx hb dX12_has_26 (by decide) ?_
    refine lv_istore_n (lv' := [(3, .int 0), (2, .int 0), (0, .ref a), (1, .int v1)]) hx hb dX12_has_27 rfl hl (by decide) rfl (fun ls hl => ?_)
    have L_28_8 : ∀ (k_8 : Nat) (x_6 : Int32) (x_7 : Int32) (H : Heap) (locs : List Loc) (ls : Array Slot), (2147483647 - x_7.toInt).toNat < k_8 → (0 ≤ x_7.toInt) → (F_X12_has_L28_1 X σ_2 a v1 k_8 x_6 x_7 = out) → q_I X 8 σ s.heap locs σ_2 H → lv_has ls 4 [(0, .ref a), (1, .int v1), (2, .int x_6), (3, .int x_7)] → W p l e (q_rm 2 46) s m ([.ref a, .int v1] : List Value).toArray below meth c H locs 0 0 (MQ below (q_Qi X 8 σ (fun (r : Int32) (σ' : ST) => (r, σ') = F_X12_has X σ a v1 ∧ q_ow [(12, 0), (12, 1)] [] X σ σ')) ([.ref a, .int v1] : List Value).toArray s 0 0 (q_reg X)) (F0 m 28 ls []) := by
      clear hF
      intro k_8
      induction k_8 with
      | zero =>
        intro x_6 x_7 H locs ls hms
        exact absurd hms (Nat.not_lt_zero _)
      | succ k_8 ih28 =>
        intro x_6 x_7 H locs ls hm28 hge28 hF hI hl
        replace hF := (F_X12_has_L28_1_s).symm.trans hF
        unfold F_X12_has_B28_1 at hF
        refine lv_iload_n hx hb dX12_has_28 rfl (lv_at hl 3 rfl) ?_
        refine lv_aload_n hx hb dX12_has_29 rfl (lv_at hl 0 rfl) ?_
        refine gs_X12_35_12 E hI ha dX12_has_30 ?_
        refine lv_iconst (v := 0) hx hb dX12_has_33 (by decide) ?_
        refine q_iald E hI (q_tk (k' := 34) hI ha rfl (by decide)) ⟨by decide, rfl⟩ (by decide) (by rw [q_lnk (v := 4650) hI (q_tk (k' := 34) hI ha rfl (by decide)) rfl (by decide)]; decide) dX12_has_34 ?_
        refine lv_topi (fun f_9 ef_9 => ?_)
        replace hF := q_letX hF ef_9
        have if_9 : f_9.toInt = m_c X σ a 0 := (m_rd ef_9 (by decide)).trans (congrFun feσ_2 _)
        have gc_10_x_7 := q_rng x_7
        have gc_10_f_9 := q_rng f_9
        refine q_icmp_ge (A := x_7.toInt) (B := f_9.toInt) E rfl rfl (tgt := 63) dX12_has_35 (by decide) (fun c_10 => ?_) (fun c_10 => ?_)
        · skip
          replace hF := q_ifn hF (Int.not_lt.mpr c_10)
          skip
          refine lv_iload_n hx hb dX12_has_63 rfl (lv_at hl 2 rfl) ?_
          exact q_reti E hr hlk hI ⟨(hF.trans hout), fr_σ_2⟩ dX12_has_64
        · skip
          replace hF := q_ifp hF c_10
          refine lv_iload_n hx hb dX12_has_38 rfl (lv_at hl 2 rfl) ?_
          refine lv_aload_n hx hb dX12_has_39 rfl (lv_at hl 0 rfl) ?_
          refine lv_iload_n hx hb dX12_has_40 rfl (lv_at hl 1 rfl) ?_
          refine lv_iload_n hx hb dX12_has_41 rfl (lv_at hl 3 rfl) ?_
          refine q_ci (q_runV (As := [.int v1, .int x_7]) (rest := [.int x_6]) E (hml.trans hl.1.symm) hI (c_X12_handOf l X σ_2 a v1 x_7 ha (by first | (clear ahpσ_4 bhpσ_4 dhpσ_4 c_5 hm28 hge28 if_9 gc_10_x_7 gc_10_f_9 c_10; omega) | omega) (by first | (clear ahpσ_4 bhpσ_4 dhpσ_4 c_5 chpσ_4 hm28 gc_10_f_9; omega) | omega)) kv_X12_276 ha ⟨rfl, by decide⟩ (show vwCl[11]? = some (RX12, TX12, 46) from rfl) rfl ⟨Nat.le_of_ble_eq_true rfl, Nat.le_of_ble_eq_true rfl⟩ ⟨Nat.le_refl _, Nat.le_refl _⟩ rfl (Nat.le_of_ble_eq_true rfl) dX12_has_42) hI (by decide) (fun r_11 σ_12 H locs hpσ_12 hkσ_12 hI => ?_)
          obtain ⟨ahpσ_12, bhpσ_12, chpσ_12⟩ := hpσ_12
          rw [ahpσ_12] at hI
          rw [feσ_2] at bhpσ_12
          replace hF := q_letX hF chpσ_12
          have ir_11 : r_11.toInt = (m_c X σ a (34 + 10 * v1.toInt + x_7.toInt)) := (by first | exact bhpσ_12 | (rw [bhpσ_12]) | (simp only [bhpσ_12]))
          refine q_if_le (A := r_11.toInt) E rfl (tgt := 54) dX12_has_45 (by decide) (fun c_13 => ?_) (fun c_13 => ?_)
          · skip
            replace hF := q_ifn hF (Int.not_lt.mpr c_13)
            refine lv_iconst (v := 0) hx hb dX12_has_54 (by decide) ?_
            refine lv_ior hx hb dX12_has_55 ?_
            refine lv_topi (fun z_14 ez_14 => ?_)
            replace hF := q_letX hF ez_14
            refine lv_istore_n (lv' := [(2, .int z_14), (0, .ref a), (1, .int v1), (3, .int x_7)]) hx hb dX12_has_56 rfl hl (by decide) rfl (fun ls hl => ?_)
            obtain ⟨z_15, ez_15⟩ : ∃ y : Int32, y = x_7 + 1 := ⟨_, rfl⟩
            replace hF := q_letX hF ez_15
            refine lv_iinc (v := z_15) (lv' := [(3, .int z_15), (2, .int z_14), (0, .ref a), (1, .int v1)]) hx hb dX12_has_57 hl (k := 3) rfl (by rw [ez_15]; rfl) (by decide) rfl (fun ls hl => ?_)
            have iz_15 : z_15.toInt = x_7.toInt + 1 := q_inc ez_15 (by first | (clear ahpσ_4 bhpσ_4 dhpσ_4 c_5 chpσ_4 hm28 gc_10_f_9 ahpσ_12 bhpσ_12 chpσ_12 ir_11 c_13; omega) | omega)
            refine lv_goto (tgt := 28) hx hb dX12_has_60 (by decide) ?_
            exact ih28 z_14 z_15 _ _ ls (by first | (clear ahpσ_4 bhpσ_4 dhpσ_4 c_5 chpσ_4 gc_10_f_9 ahpσ_12 bhpσ_12 chpσ_12 ir_11 c_13; omega) | omega) (by first | (clear hh ahpσ_4 bhpσ_4 dhpσ_4 c_5 chpσ_4 hm28 if_9 gc_10_f_9 c_10 ahpσ_12 bhpσ_12 chpσ_12 ir_11 c_13; omega) | omega) hF hI (lv_sub hl [2, 3, 1, 0] rfl)
          · skip
            replace hF := q_ifp hF c_13
            refine lv_iconst (v := 1) hx hb dX12_has_48 (by decide) ?_
            refine lv_iload_n hx hb dX12_has_49 rfl (lv_at hl 3 rfl) ?_
            refine lv_ishl hx hb dX12_has_50 ?_
            refine lv_topi (fun z_16 ez_16 => ?_)
            replace hF := q_letX hF ez_16
            refine lv_goto (tgt := 55) hx hb dX12_has_51 (by decide) ?_
            refine lv_ior hx hb dX12_has_55 ?_
            refine lv_topi (fun z_17 ez_17 => ?_)
            replace hF := q_letX hF ez_17
            refine lv_istore_n (lv' := [(2, .int z_17), (0, .ref a), (1, .int v1), (3, .int x_7)]) hx hb dX12_has_56 rfl hl (by decide) rfl (fun ls hl => ?_)
            obtain ⟨z_18, ez_18⟩ : ∃ y : Int32, y = x_7 + 1 := ⟨_, rfl⟩
            replace hF := q_letX hF ez_18
            refine lv_iinc (v := z_18) (lv' := [(3, .int z_18), (2, .int z_17), (0, .ref a), (1, .int v1)]) hx hb dX12_has_57 hl (k := 3) rfl (by rw [ez_18]; rfl) (by decide) rfl (fun ls hl => ?_)
            have iz_18 : z_18.toInt = x_7.toInt + 1 := q_inc ez_18 (by first | (clear ahpσ_4 bhpσ_4 dhpσ_4 c_5 chpσ_4 hm28 gc_10_f_9 ahpσ_12 bhpσ_12 chpσ_12 ir_11 c_13; omega) | omega)
            refine lv_goto (tgt := 28) hx hb dX12_has_60 (by decide) ?_
            exact ih28 z_17 z_18 _ _ ls (by first | (clear ahpσ_4 bhpσ_4 dhpσ_4 c_5 chpσ_4 gc_10_f_9 ahpσ_12 bhpσ_12 chpσ_12 ir_11 c_13; omega) | omega) (by first | (clear hh ahpσ_4 bhpσ_4 dhpσ_4 c_5 chpσ_4 hm28 if_9 gc_10_f_9 c_10 ahpσ_12 bhpσ_12 chpσ_12 ir_11 c_13; omega) | omega) hF hI (lv_sub hl [2, 3, 1, 0] rfl)
    have kc_19 : (0 : Int32).toInt = 0 := rfl
    exact L_28_8 ((2147483647 - (0 : Int32).toInt).toNat + 1) 0 0 _ _ ls (Nat.lt_succ_self _) (by decide) hF hI (lv_sub hl [2, 3, 1, 0] rfl)
  · skip
    replace hF := q_ifp hF c_5
    replace chpσ_4 := q_ifNo chpσ_4 c_5
    refine lv_aload_n hx hb dX12_has_18 rfl (lv_at hl 0 rfl) ?_
    refine lv_iconst (v := 2) hx hb dX12_has_19 (by decide) ?_
    have kc_20 : (2 : Int32).toInt = 2 := rfl
    refine q_ci (q_runV (As := [.int 2]) (rest := []) E (hml.trans hl.1.symm) hI (c_X12_refuse l X σ_2 a (2 : Int32) ha) kv_X12_284 ha ⟨rfl, by decide⟩ (show vwCl[11]? = some (RX12, TX12, 46) from rfl) rfl ⟨Nat.le_of_ble_eq_true rfl, Nat.le_of_ble_eq_true rfl⟩ ⟨Nat.le_refl _, Nat.le_refl _⟩ rfl (Nat.le_of_ble_eq_true rfl) dX12_has_20) hI (by decide) (fun r_21 σ_22 H locs hpσ_22 hkσ_22 hI => ?_)
    obtain ⟨ahpσ_22, bhpσ_22, chpσ_22⟩ := hpσ_22
    have fr_σ_22 := fr_σ_2.call chpσ_22 rfl rfl
    replace hF := q_biX hF bhpσ_22
    have mcσ_22 := m_cK hkσ_22 hI.1 ha (by decide)
    have feσ_22 : m_c X σ_22 a = m_c X σ a := (funext mcσ_22).trans feσ_2
    exact q_reti E hr hlk hI ⟨(hF.trans hout), fr_σ_22⟩ dX12_has_23

set_option maxRecDepth 100000 in
set_option maxHeartbeats 4000000 in
theorem c_X12_lies (l : Launch) (X : XW) (σ : ST) (a : Nat) (v1 : Int32) (ha : q_kd X a = 12) (hG : m_G (m_c X σ a)) : Met l yX12_lies (q_ws yX12_lies cX12_lies 2 (some .int)) (q_rm 2 46) (q_P X σ [.ref a, .int v1]) (q_Qi X 8 σ (fun (r : Int32) (σ' : ST) => (r, σ') = F_X12_lies X σ a v1 ∧ q_ow [(12, 0), (12, 1)] [] X σ σ')) 0 0 (q_reg X) := by
  refine q_met 8 (by first | exact rfl | decide +kernel) rfl (Nat.le_of_ble_eq_true rfl) (fun p e s m below meth c E hml hr hlk hI ls hl => ?_)
  have hx := E.1
  have hb := E.2.1
  have hl : lv_has ls 2 [(0, .ref a), (1, .int v1)] := hl
  have feσ : m_c X σ a = m_c X σ a := rfl
  have fr_σ : q_ow [(12, 0), (12, 1)] [] X σ σ := q_ow.rf
  have hh := hG.hd
  obtain ⟨out, hout⟩ : ∃ o, o = F_X12_lies X σ a v1 := ⟨_, rfl⟩
  have hF := hout.symm
  unfold F_X12_lies at hF
  refine lv_aload_n hx hb dX12_lies_0 rfl (lv_at hl 0 rfl) ?_
  refine lv_iconst (v := 0) hx hb dX12_lies_1 (by decide) ?_
  refine ps_X12_59_12 E hI ha (by decide) dX12_lies_2 (fun H locs σ_1 hσ_1 hI => ?_)
  replace hF := q_letX hF hσ_1
  have fr_σ_1 := fr_σ.si hσ_1 ha rfl
  have mcσ_1 := m_wo hσ_1 (m_ne ha (q_tk (f := 20) (k' := 34) hI ha rfl (by decide)) (by decide))
  have feσ_1 : m_c X σ_1 a = m_c X σ a := (funext mcσ_1).trans feσ
  refine lv_aload_n hx hb dX12_lies_5 rfl (lv_at hl 0 rfl) ?_
  refine lv_iconst (v := 0) hx hb dX12_lies_6 (by decide) ?_
  refine ps_X12_62_12 E hI ha (by decide) dX12_lies_7 (fun H locs σ_2 hσ_2 hI => ?_)
  replace hF := q_letX hF hσ_2
  have fr_σ_2 := fr_σ_1.si hσ_2 ha rfl
  have mcσ_2 := m_wo hσ_2 (m_ne ha (q_tk (f := 20) (k' := 34) hI ha rfl (by decide)) (by decide))
  have feσ_2 : m_c X σ_2 a = m_c X σ a := (funext mcσ_2).trans feσ_1
  refine lv_aload_n hx hb dX12_lies_10 rfl (lv_at hl 0 rfl) ?_
  refine lv_iload_n hx hb dX12_lies_11 rfl (lv_at hl 1 rfl) ?_
  refine q_ci (q_runV (As := [.int v1]) (rest := []) E (hml.trans hl.1.symm) hI (c_X12_isKindAt l X σ_2 a v1 ha (by rw [feσ_2]; exact hG)) kv_X12_299 ha ⟨rfl, by decide⟩ (show vwCl[11]? = some (RX12, TX12, 46) from rfl) rfl ⟨Nat.le_of_ble_eq_true rfl, Nat.le_of_ble_eq_true rfl⟩ ⟨Nat.le_refl _, Nat.le_refl _⟩ rfl (Nat.le_of_ble_eq_true rfl) dX12_lies_12) hI (by decide) (fun r_3 σ_4 H locs hpσ_4 hkσ_4 hI => ?_)
  obtain ⟨ahpσ_4, bhpσ_4, chpσ_4, dhpσ_4⟩ := hpσ_4
  rw [ahpσ_4] at hI
  rw [feσ_2] at chpσ_4
  replace hF := q_letX hF dhpσ_4
  refine q_if_eq (A := r_3.toInt) E rfl (tgt := 27) dX12_lies_15 (by decide) (fun c_5 => ?_) (fun c_5 => ?_)
  · skip
    replace hF := q_ifp hF c_5
    replace chpσ_4 := q_ifNo chpσ_4 c_5
    refine lv_aload_n hx hb dX12_lies_27 rfl (lv_at hl 0 rfl) ?_
    refine lv_iconst (v := 2) hx hb dX12_lies_28 (by decide) ?_
    have kc_6 : (2 : Int32).toInt = 2 := rfl
    refine q_ci (q_runV (As := [.int 2]) (rest := []) E (hml.trans hl.1.symm) hI (c_X12_refuse l X σ_2 a (2 : Int32) ha) kv_X12_284 ha ⟨rfl, by decide⟩ (show vwCl[11]? = some (RX12, TX12, 46) from rfl) rfl ⟨Nat.le_of_ble_eq_true rfl, Nat.le_of_ble_eq_true rfl⟩ ⟨Nat.le_refl _, Nat.le_refl _⟩ rfl (Nat.le_of_ble_eq_true rfl) dX12_lies_29) hI (by decide) (fun r_7 σ_8 H locs hpσ_8 hkσ_8 hI => ?_)
    obtain ⟨ahpσ_8, bhpσ_8, chpσ_8⟩ := hpσ_8
    have fr_σ_8 := fr_σ_2.call chpσ_8 rfl rfl
    replace hF := q_biX hF bhpσ_8
    have mcσ_8 := m_cK hkσ_8 hI.1 ha (by decide)
    have feσ_8 : m_c X σ_8 a = m_c X σ a := (funext mcσ_8).trans feσ_2
    exact q_reti E hr hlk hI ⟨(hF.trans hout), fr_σ_8⟩ dX12_lies_32
  · skip
    replace hF := q_ifn hF c_5
    replace c_5 := q_ifOne bhpσ_4 c_5
    replace chpσ_4 := q_ifYes chpσ_4 c_5
    refine lv_aload_n hx hb dX12_lies_18 rfl (lv_at hl 0 rfl) ?_
    refine lv_iconst (v := (-1)) hx hb dX12_lies_19 (by decide) ?_
    refine lv_iload_n hx hb dX12_lies_20 rfl (lv_at hl 1 rfl) ?_
    have kc_9 : ((-1) : Int32).toInt = (-1) := rfl
    refine q_ci (q_runV (As := [.int (-1), .int v1]) (rest := []) E (hml.trans hl.1.symm) hI (c_X12_laidOf l X σ_2 a ((-1) : Int32) v1 ha (by rw [feσ_2]; exact hG)) kv_X12_296 ha ⟨rfl, by decide⟩ (show vwCl[11]? = some (RX12, TX12, 46) from rfl) rfl ⟨Nat.le_of_ble_eq_true rfl, Nat.le_of_ble_eq_true rfl⟩ ⟨Nat.le_refl _, Nat.le_refl _⟩ rfl (Nat.le_of_ble_eq_true rfl) dX12_lies_21) hI (by decide) (fun r_10 σ_11 H locs hpσ_11 hkσ_11 hI => ?_)
    obtain ⟨ahpσ_11, bhpσ_11, chpσ_11, dhpσ_11⟩ := hpσ_11
    rw [ahpσ_11] at hI
    rw [feσ_2] at bhpσ_11
    replace hF := q_letX hF dhpσ_11
    have ir_10 : r_10.toInt = (m_A (m_c X σ a) (-1) v1.toInt (m_c X σ a 9).toNat) := (by first | exact bhpσ_11 | (rw [bhpσ_11]) | (simp only [bhpσ_11]))
    refine lv_goto (tgt := 32) hx hb dX12_lies_24 (by decide) ?_
    exact q_reti E hr hlk hI ⟨(hF.trans hout), fr_σ_2⟩ dX12_lies_32

set_option maxRecDepth 100000 in
set_option maxHeartbeats 4000000 in
theorem c_X12_guess (l : Launch) (X : XW) (σ : ST) (a : Nat) (v1 : Int32) (v2 : Int32) (v3 : Int32) (ha : q_kd X a = 12) (hG : m_G (m_c X σ a)) : Met l yX12_guess (q_ws yX12_guess cX12_guess 4 (some .boolean)) (q_rm 5 114) (q_P X σ [.ref a, .int v1, .int v2, .int v3]) (q_Qi X 8 σ (fun (r : Int32) (σ' : ST) => (0 ≤ r.toInt ∧ r.toInt ≤ 1) ∧ (r, σ') = F_X12_guess X σ a v1 v2 v3 ∧ q_ow [(12, 0), (12, 1)] [(12, 2), (12, 3)] X σ σ')) 0 0 (q_reg X) := by
  refine q_met 8 (by first | exact rfl | decide +kernel) rfl (Nat.le_of_ble_eq_true rfl) (fun p e s m below meth c E hml hr hlk hI ls hl => ?_)
  have hx := E.1
  have hb := E.2.1
  have hl : lv_has ls 4 [(0, .ref a), (1, .int v1), (2, .int v2), (3, .int v3)] := hl
  have feσ : m_c X σ a = m_c X σ a := rfl
  have fr_σ : q_ow [(12, 0), (12, 1)] [(12, 2), (12, 3)] X σ σ := q_ow.rf
  have hh := hG.hd
  obtain ⟨out, hout⟩ : ∃ o, o = F_X12_guess X σ a v1 v2 v3 := ⟨_, rfl⟩
  have hF := hout.symm
  unfold F_X12_guess at hF
  refine lv_aload_n hx hb dX12_guess_0 rfl (lv_at hl 0 rfl) ?_
  refine lv_iconst (v := 0) hx hb dX12_guess_1 (by decide) ?_
  refine ps_X12_59_12 E hI ha (by decide) dX12_guess_2 (fun H locs σ_1 hσ_1 hI => ?_)
  replace hF := q_letX hF hσ_1
  have fr_σ_1 := fr_σ.si hσ_1 ha rfl
  have mcσ_1 := m_wo hσ_1 (m_ne ha (q_tk (f := 20) (k' := 34) hI ha rfl (by decide)) (by decide))
  have feσ_1 : m_c X σ_1 a = m_c X σ a := (funext mcσ_1).trans feσ
  refine lv_aload_n hx hb dX12_guess_5 rfl (lv_at hl 0 rfl) ?_
  refine lv_iconst (v := 0) hx hb dX12_guess_6 (by decide) ?_
  refine ps_X12_62_12 E hI ha (by decide) dX12_guess_7 (fun H locs σ_2 hσ_2 hI => ?_)
  replace hF := q_letX hF hσ_2
  have fr_σ_2 := fr_σ_1.si hσ_2 ha rfl
  have mcσ_2 := m_wo hσ_2 (m_ne ha (q_tk (f := 20) (k' := 34) hI ha rfl (by decide)) (by decide))
  have feσ_2 : m_c X σ_2 a = m_c X σ a := (funext mcσ_2).trans feσ_1
  refine lv_aload_n hx hb dX12_guess_10 rfl (lv_at hl 0 rfl) ?_
  refine lv_iload_n hx hb dX12_guess_11 rfl (lv_at hl 1 rfl) ?_
  refine q_ci (q_runV (As := [.int v1]) (rest := []) E (hml.trans hl.1.symm) hI (c_X12_isPlayerAt l X σ_2 a v1 ha (by rw [feσ_2]; exact hG)) kv_X12_290 ha ⟨rfl, by decide⟩ (show vwCl[11]? = some (RX12, TX12, 46) from rfl) rfl ⟨Nat.le_of_ble_eq_true rfl, Nat.le_of_ble_eq_true rfl⟩ ⟨Nat.le_refl _, Nat.le_refl _⟩ rfl (Nat.le_of_ble_eq_true rfl) dX12_guess_12) hI (by decide) (fun r_3 σ_4 H locs hpσ_4 hkσ_4 hI => ?_)
  obtain ⟨ahpσ_4, bhpσ_4, chpσ_4, dhpσ_4⟩ := hpσ_4
  rw [ahpσ_4] at hI
  rw [feσ_2] at chpσ_4
  replace hF := q_letX hF dhpσ_4
  refine q_if_eq (A := r_3.toInt) E rfl (tgt := 26) dX12_guess_15 (by decide) (fun c_5 => ?_) (fun c_5 => ?_)
  · skip
    replace hF := q_ifp hF c_5
    replace chpσ_4 := q_ifNo chpσ_4 c_5
    refine lv_aload_n hx hb dX12_guess_26 rfl (lv_at hl 0 rfl) ?_
    refine lv_iconst (v := 2) hx hb dX12_guess_27 (by decide) ?_
    have kc_6 : (2 : Int32).toInt = 2 := rfl
    refine q_ci (q_runV (As := [.int 2]) (rest := []) E (hml.trans hl.1.symm) hI (c_X12_no l X σ_2 a (2 : Int32) ha) kv_X12_74 ha ⟨rfl, by decide⟩ (show vwCl[11]? = some (RX12, TX12, 46) from rfl) rfl ⟨Nat.le_of_ble_eq_true rfl, Nat.le_of_ble_eq_true rfl⟩ ⟨Nat.le_refl _, Nat.le_refl _⟩ rfl (Nat.le_of_ble_eq_true rfl) dX12_guess_28) hI (by decide) (fun r_7 σ_8 H locs hpσ_8 hkσ_8 hI => ?_)
    obtain ⟨ahpσ_8, bhpσ_8, chpσ_8, dhpσ_8⟩ := hpσ_8
    have fr_σ_8 := fr_σ_2.call dhpσ_8 rfl rfl
    replace hF := q_biX hF chpσ_8
    have mcσ_8 := m_cK hkσ_8 hI.1 ha (by decide)
    have feσ_8 : m_c X σ_8 a = m_c X σ a := (funext mcσ_8).trans feσ_2
    exact q_retz E hr hlk hI ⟨by omega, by omega⟩ ⟨⟨by omega, by omega⟩, (hF.trans hout), fr_σ_8⟩ dX12_guess_31
  · skip
    replace hF := q_ifn hF c_5
    replace c_5 := q_ifOne bhpσ_4 c_5
    replace chpσ_4 := q_ifYes chpσ_4 c_5
    refine lv_aload_n hx hb dX12_guess_18 rfl (lv_at hl 0 rfl) ?_
    refine lv_iload_n hx hb dX12_guess_19 rfl (lv_at hl 2 rfl) ?_
    refine q_ci (q_runV (As := [.int v2]) (rest := []) E (hml.trans hl.1.symm) hI (c_X12_isKindAt l X σ_2 a v2 ha (by rw [feσ_2]; exact hG)) kv_X12_299 ha ⟨rfl, by decide⟩ (show vwCl[11]? = some (RX12, TX12, 46) from rfl) rfl ⟨Nat.le_of_ble_eq_true rfl, Nat.le_of_ble_eq_true rfl⟩ ⟨Nat.le_refl _, Nat.le_refl _⟩ rfl (Nat.le_of_ble_eq_true rfl) dX12_guess_20) hI (by decide) (fun r_9 σ_10 H locs hpσ_10 hkσ_10 hI => ?_)
    obtain ⟨ahpσ_10, bhpσ_10, chpσ_10, dhpσ_10⟩ := hpσ_10
    rw [ahpσ_10] at hI
    rw [feσ_2] at chpσ_10
    replace hF := q_letX hF dhpσ_10
    refine q_if_ne (A := r_9.toInt) E rfl (tgt := 32) dX12_guess_23 (by decide) (fun c_11 => ?_) (fun c_11 => ?_)
    · skip
      replace hF := q_ifn hF c_11
      replace c_11 := q_ifOne bhpσ_10 c_11
      replace chpσ_10 := q_ifYes chpσ_10 c_11
      refine lv_iload_n hx hb dX12_guess_32 rfl (lv_at hl 3 rfl) ?_
      refine lv_i2l hx hb dX12_guess_33 rfl ?_
      refine lv_topl (fun y_12 ey_12 => ?_)
      replace hF := q_letX hF ey_12
      have ggy_12 := q_rng v3
      have iy_12 : y_12.toInt = v3.toInt := by rw [ey_12]; exact (q_i2l _).trans rfl
      refine lv_lconst (v := 0) hx hb dX12_guess_34 (by decide) ?_
      refine lv_ldc2 (v := 4) hx hb E.2.2.1 (E.2.2.2.1 _ (q_in_t9 (i := 124) (by first | rfl | decide +kernel) rfl)) dX12_guess_35 ?_
      have kc_13 : (0 : Int64).toInt = 0 := rfl
      have kc_14 : (4 : Int64).toInt = 4 := rfl
      refine q_ci (q_runS (As := [.long y_12, .long 0, .long 4]) (rest := []) E (hml.trans hl.1.symm) hI (c_X12_isIn l X σ_2 y_12 (0 : Int64) (4 : Int64)) ks_X12_94 rfl ⟨Nat.le_of_ble_eq_true rfl, Nat.le_of_ble_eq_true rfl⟩ ⟨Nat.le_refl _, Nat.le_refl _⟩ rfl (Nat.le_of_ble_eq_true rfl) dX12_guess_38) hI (by decide) (fun r_15 σ_16 H locs hpσ_16 hkσ_16 hI => ?_)
      obtain ⟨ahpσ_16, bhpσ_16, chpσ_16, dhpσ_16⟩ := hpσ_16
      rw [ahpσ_16] at hI
      replace hF := q_letX hF dhpσ_16
      refine q_if_ne (A := r_15.toInt) E rfl (tgt := 50) dX12_guess_41 (by decide) (fun c_17 => ?_) (fun c_17 => ?_)
      · skip
        replace hF := q_ifn hF c_17
        replace c_17 := q_ifOne bhpσ_16 c_17
        replace chpσ_16 := q_ifYes chpσ_16 c_17
        refine lv_aload_n hx hb dX12_guess_50 rfl (lv_at hl 0 rfl) ?_
        refine lv_iload_n hx hb dX12_guess_51 rfl (lv_at hl 1 rfl) ?_
        refine q_ci (q_runV (As := [.int v1]) (rest := []) E (hml.trans hl.1.symm) hI (c_X12_unknownAll l X σ_2 a v1 ha (by rw [feσ_2]; exact hG) (by rw [feσ_2]; exact (by omega))) kv_X12_339 ha ⟨rfl, by decide⟩ (show vwCl[11]? = some (RX12, TX12, 46) from rfl) rfl ⟨Nat.le_of_ble_eq_true rfl, Nat.le_of_ble_eq_true rfl⟩ ⟨Nat.le_refl _, Nat.le_refl _⟩ rfl (Nat.le_of_ble_eq_true rfl) dX12_guess_52) hI (by decide) (fun r_18 σ_19 H locs hpσ_19 hkσ_19 hI => ?_)
        obtain ⟨ahpσ_19, bhpσ_19, chpσ_19, dhpσ_19⟩ := hpσ_19
        rw [ahpσ_19] at hI
        rw [feσ_2] at bhpσ_19
        replace hF := q_letX hF dhpσ_19
        have ir_18 : r_18.toInt = (m_V (m_c X σ a) v1.toInt (m_c X σ a 0).toNat) := (by first | exact bhpσ_19 | (rw [bhpσ_19]) | (simp only [bhpσ_19]))
        refine lv_iload_n hx hb dX12_guess_55 rfl (lv_at hl 3 rfl) ?_
        refine q_icmp_ge (A := r_18.toInt) (B := v3.toInt) E rfl rfl (tgt := 66) dX12_guess_56 (by decide) (fun c_20 => ?_) (fun c_20 => ?_)
        · skip
          replace hF := q_ifn hF (Int.not_lt.mpr c_20)
          refine lv_aload_n hx hb dX12_guess_66 rfl (lv_at hl 0 rfl) ?_
          refine lv_aload_n hx hb dX12_guess_67 rfl (lv_at hl 0 rfl) ?_
          refine lv_iload_n hx hb dX12_guess_68 rfl (lv_at hl 1 rfl) ?_
          refine lv_iload_n hx hb dX12_guess_69 rfl (lv_at hl 2 rfl) ?_
          refine q_ci (q_runV (As := [.int v1, .int v2]) (rest := [.ref a]) E (hml.trans hl.1.symm) hI (c_X12_unknownOf l X σ_2 a v1 v2 ha (by rw [feσ_2]; exact hG) (by rw [feσ_2]; exact (by omega)) (by first | (clear ahpσ_4 bhpσ_4 dhpσ_4 c_5 chpσ_4 ahpσ_10 bhpσ_10 dhpσ_10 c_11 ggy_12 iy_12 kc_13 kc_14 ahpσ_16 bhpσ_16 dhpσ_16 c_17 chpσ_16 ahpσ_19 bhpσ_19 chpσ_19 dhpσ_19 ir_18 c_20; omega) | omega)) kv_X12_336 ha ⟨rfl, by decide⟩ (show vwCl[11]? = some (RX12, TX12, 46) from rfl) rfl ⟨Nat.le_of_ble_eq_true rfl, Nat.le_of_ble_eq_true rfl⟩ ⟨Nat.le_refl _, Nat.le_refl _⟩ rfl (Nat.le_of_ble_eq_true rfl) dX12_guess_70) hI (by decide) (fun r_21 σ_22 H locs hpσ_22 hkσ_22 hI => ?_)
          obtain ⟨ahpσ_22, bhpσ_22, chpσ_22, dhpσ_22⟩ := hpσ_22
          rw [ahpσ_22] at hI
          rw [feσ_2] at bhpσ_22
          replace hF := q_letX hF dhpσ_22
          have ir_21 : r_21.toInt = (m_U (m_c X σ a) v1.toInt v2.toInt) := (by first | exact bhpσ_22 | (rw [bhpσ_22]) | (simp only [bhpσ_22]))
          refine lv_iload_n hx hb dX12_guess_73 rfl (lv_at hl 3 rfl) ?_
          refine q_cl_ (q_runS (As := [.int r_21, .int v3]) (rest := [.ref a]) E (hml.trans hl.1.symm) hI (c_X12_choose l X σ_2 r_21 v3 (by first | (clear hh ahpσ_4 bhpσ_4 dhpσ_4 c_5 chpσ_4 ahpσ_10 bhpσ_10 dhpσ_10 c_11 chpσ_10 ggy_12 iy_12 kc_13 kc_14 ahpσ_16 bhpσ_16 dhpσ_16 c_17 chpσ_16 ahpσ_19 bhpσ_19 chpσ_19 dhpσ_19 ir_18 c_20 ahpσ_22 dhpσ_22 ir_21; omega) | omega) (by first | (clear hh ahpσ_4 bhpσ_4 dhpσ_4 c_5 chpσ_4 ahpσ_10 bhpσ_10 dhpσ_10 c_11 chpσ_10 ahpσ_16 bhpσ_16 dhpσ_16 c_17 ahpσ_19 bhpσ_19 chpσ_19 dhpσ_19 ir_18 c_20 ahpσ_22 bhpσ_22 chpσ_22 dhpσ_22 ir_21; omega) | omega)) ks_X12_342 rfl ⟨Nat.le_of_ble_eq_true rfl, Nat.le_of_ble_eq_true rfl⟩ ⟨Nat.le_refl _, Nat.le_refl _⟩ rfl (Nat.le_of_ble_eq_true rfl) dX12_guess_74) hI (by decide) (fun r_23 σ_24 H locs hpσ_24 hkσ_24 hI => ?_)
          obtain ⟨ahpσ_24, bhpσ_24, chpσ_24, dhpσ_24⟩ := hpσ_24
          rw [ahpσ_24] at hI
          replace hF := q_letX hF dhpσ_24
          refine lv_aload_n hx hb dX12_guess_77 rfl (lv_at hl 0 rfl) ?_
          refine lv_iload_n hx hb dX12_guess_78 rfl (lv_at hl 1 rfl) ?_
          refine q_ci (q_runV (As := [.int v1]) (rest := [.long r_23, .ref a]) E (hml.trans hl.1.symm) hI (c_X12_unknownAll l X σ_2 a v1 ha (by rw [feσ_2]; exact hG) (by rw [feσ_2]; exact (by omega))) kv_X12_339 ha ⟨rfl, by decide⟩ (show vwCl[11]? = some (RX12, TX12, 46) from rfl) rfl ⟨Nat.le_of_ble_eq_true rfl, Nat.le_of_ble_eq_true rfl⟩ ⟨Nat.le_refl _, Nat.le_refl _⟩ rfl (Nat.le_of_ble_eq_true rfl) dX12_guess_79) hI (by decide) (fun r_25 σ_26 H locs hpσ_26 hkσ_26 hI => ?_)
          obtain ⟨ahpσ_26, bhpσ_26, chpσ_26, dhpσ_26⟩ := hpσ_26
          rw [ahpσ_26] at hI
          rw [feσ_2] at bhpσ_26
          replace hF := q_letX hF dhpσ_26
          have ir_25 : r_25.toInt = (m_V (m_c X σ a) v1.toInt (m_c X σ a 0).toNat) := (by first | exact bhpσ_26 | (rw [bhpσ_26]) | (simp only [bhpσ_26]))
          refine lv_iload_n hx hb dX12_guess_82 rfl (lv_at hl 3 rfl) ?_
          refine q_cl_ (q_runS (As := [.int r_25, .int v3]) (rest := [.long r_23, .ref a]) E (hml.trans hl.1.symm) hI (c_X12_choose l X σ_2 r_25 v3 (by omega) (by first | (clear hh ahpσ_4 bhpσ_4 dhpσ_4 c_5 chpσ_4 ahpσ_10 bhpσ_10 dhpσ_10 c_11 chpσ_10 ahpσ_16 bhpσ_16 dhpσ_16 c_17 ahpσ_19 bhpσ_19 chpσ_19 dhpσ_19 ir_18 c_20 ahpσ_22 bhpσ_22 chpσ_22 dhpσ_22 ir_21 ahpσ_24 bhpσ_24 chpσ_24 dhpσ_24 ahpσ_26 bhpσ_26 chpσ_26 dhpσ_26 ir_25; omega) | omega)) ks_X12_342 rfl ⟨Nat.le_of_ble_eq_true rfl, Nat.le_of_ble_eq_true rfl⟩ ⟨Nat.le_refl _, Nat.le_refl _⟩ rfl (Nat.le_of_ble_eq_true rfl) dX12_guess_83) hI (by decide) (fun r_27 σ_28 H locs hpσ_28 hkσ_28 hI => ?_)
          obtain ⟨ahpσ_28, bhpσ_28, chpσ_28, dhpσ_28⟩ := hpσ_28
          rw [ahpσ_28] at hI
          replace hF := q_letX hF dhpσ_28
          refine q_ci (q_runV (As := [.long r_23, .long r_27]) (rest := []) E (hml.trans hl.1.symm) hI (c_X12_fraction l X σ_2 a r_23 r_27 ha (by first | (clear hh ahpσ_4 bhpσ_4 dhpσ_4 c_5 chpσ_4 ahpσ_10 bhpσ_10 dhpσ_10 c_11 chpσ_10 ggy_12 kc_13 kc_14 ahpσ_16 bhpσ_16 dhpσ_16 c_17 chpσ_16 ahpσ_19 chpσ_19 dhpσ_19 ir_18 ahpσ_22 bhpσ_22 chpσ_22 dhpσ_22 ir_21 ahpσ_24 bhpσ_24 chpσ_24 dhpσ_24 ahpσ_26 chpσ_26 dhpσ_26 ir_25 ahpσ_28 bhpσ_28 dhpσ_28; omega) | omega)) kv_X12_361 ha ⟨rfl, by decide⟩ (show vwCl[11]? = some (RX12, TX12, 46) from rfl) rfl ⟨Nat.le_of_ble_eq_true rfl, Nat.le_of_ble_eq_true rfl⟩ ⟨Nat.le_refl _, Nat.le_refl _⟩ rfl (Nat.le_of_ble_eq_true rfl) dX12_guess_86) hI (by decide) (fun r_29 σ_30 H locs hpσ_30 hkσ_30 hI => ?_)
          obtain ⟨ahpσ_30, bhpσ_30, chpσ_30⟩ := hpσ_30
          have fr_σ_30 := fr_σ_2.call chpσ_30 rfl rfl
          replace hF := q_biX hF bhpσ_30
          have mcσ_30 := m_cK hkσ_30 hI.1 ha (by decide)
          have feσ_30 : m_c X σ_30 a = m_c X σ a := (funext mcσ_30).trans feσ_2
          exact q_retz E hr hlk hI ⟨by omega, by omega⟩ ⟨⟨by omega, by omega⟩, (hF.trans hout), fr_σ_30⟩ dX12_guess_89
        · skip
          replace hF := q_ifp hF c_20
          refine lv_aload_n hx hb dX12_guess_59 rfl (lv_at hl 0 rfl) ?_
          refine lv_bipush (v := 9) hx hb dX12_guess_60 (by decide) ?_
          have kc_31 : (9 : Int32).toInt = 9 := rfl
          refine q_ci (q_runV (As := [.int 9]) (rest := []) E (hml.trans hl.1.symm) hI (c_X12_no l X σ_2 a (9 : Int32) ha) kv_X12_74 ha ⟨rfl, by decide⟩ (show vwCl[11]? = some (RX12, TX12, 46) from rfl) rfl ⟨Nat.le_of_ble_eq_true rfl, Nat.le_of_ble_eq_true rfl⟩ ⟨Nat.le_refl _, Nat.le_refl _⟩ rfl (Nat.le_of_ble_eq_true rfl) dX12_guess_62) hI (by decide) (fun r_32 σ_33 H locs hpσ_33 hkσ_33 hI => ?_)
          obtain ⟨ahpσ_33, bhpσ_33, chpσ_33, dhpσ_33⟩ := hpσ_33
          have fr_σ_33 := fr_σ_2.call dhpσ_33 rfl rfl
          replace hF := q_biX hF chpσ_33
          have mcσ_33 := m_cK hkσ_33 hI.1 ha (by decide)
          have feσ_33 : m_c X σ_33 a = m_c X σ a := (funext mcσ_33).trans feσ_2
          exact q_retz E hr hlk hI ⟨by omega, by omega⟩ ⟨⟨by omega, by omega⟩, (hF.trans hout), fr_σ_33⟩ dX12_guess_65
      · skip
        replace hF := q_ifp hF c_17
        replace chpσ_16 := q_ifNo chpσ_16 c_17
        refine lv_aload_n hx hb dX12_guess_44 rfl (lv_at hl 0 rfl) ?_
        refine lv_iconst (v := 5) hx hb dX12_guess_45 (by decide) ?_
        have kc_34 : (5 : Int32).toInt = 5 := rfl
        refine q_ci (q_runV (As := [.int 5]) (rest := []) E (hml.trans hl.1.symm) hI (c_X12_no l X σ_2 a (5 : Int32) ha) kv_X12_74 ha ⟨rfl, by decide⟩ (show vwCl[11]? = some (RX12, TX12, 46) from rfl) rfl ⟨Nat.le_of_ble_eq_true rfl, Nat.le_of_ble_eq_true rfl⟩ ⟨Nat.le_refl _, Nat.le_refl _⟩ rfl (Nat.le_of_ble_eq_true rfl) dX12_guess_46) hI (by decide) (fun r_35 σ_36 H locs hpσ_36 hkσ_36 hI => ?_)
        obtain ⟨ahpσ_36, bhpσ_36, chpσ_36, dhpσ_36⟩ := hpσ_36
        have fr_σ_36 := fr_σ_2.call dhpσ_36 rfl rfl
        replace hF := q_biX hF chpσ_36
        have mcσ_36 := m_cK hkσ_36 hI.1 ha (by decide)
        have feσ_36 : m_c X σ_36 a = m_c X σ a := (funext mcσ_36).trans feσ_2
        exact q_retz E hr hlk hI ⟨by omega, by omega⟩ ⟨⟨by omega, by omega⟩, (hF.trans hout), fr_σ_36⟩ dX12_guess_49
    · skip
      replace hF := q_ifp hF c_11
      replace chpσ_10 := q_ifNo chpσ_10 c_11
      refine lv_aload_n hx hb dX12_guess_26 rfl (lv_at hl 0 rfl) ?_
      refine lv_iconst (v := 2) hx hb dX12_guess_27 (by decide) ?_
      have kc_37 : (2 : Int32).toInt = 2 := rfl
      refine q_ci (q_runV (As := [.int 2]) (rest := []) E (hml.trans hl.1.symm) hI (c_X12_no l X σ_2 a (2 : Int32) ha) kv_X12_74 ha ⟨rfl, by decide⟩ (show vwCl[11]? = some (RX12, TX12, 46) from rfl) rfl ⟨Nat.le_of_ble_eq_true rfl, Nat.le_of_ble_eq_true rfl⟩ ⟨Nat.le_refl _, Nat.le_refl _⟩ rfl (Nat.le_of_ble_eq_true rfl) dX12_guess_28) hI (by decide) (fun r_38 σ_39 H locs hpσ_39 hkσ_39 hI => ?_)
      obtain ⟨ahpσ_39, bhpσ_39, chpσ_39, dhpσ_39⟩ := hpσ_39
      have fr_σ_39 := fr_σ_2.call dhpσ_39 rfl rfl
      replace hF := q_biX hF chpσ_39
      have mcσ_39 := m_cK hkσ_39 hI.1 ha (by decide)
      have feσ_39 : m_c X σ_39 a = m_c X σ a := (funext mcσ_39).trans feσ_2
      exact q_retz E hr hlk hI ⟨by omega, by omega⟩ ⟨⟨by omega, by omega⟩, (hF.trans hout), fr_σ_39⟩ dX12_guess_31

set_option maxRecDepth 100000 in
set_option maxHeartbeats 4000000 in
theorem c_X12_fullest (l : Launch) (X : XW) (σ : ST) (a : Nat) (ha : q_kd X a = 12) (hG : m_G (m_c X σ a)) : Met l yX12_fullest (q_ws yX12_fullest cX12_fullest 3 (some .int)) (q_rm 2 45) (q_P X σ [.ref a]) (q_Qi X 8 σ (fun (r : Int32) (σ' : ST) => (r, σ') = F_X12_fullest X σ a ∧ q_ow [(12, 0), (12, 1)] [] X σ σ')) 0 0 (q_reg X) := by
  refine q_met 8 (by first | exact rfl | decide +kernel) rfl (Nat.le_of_ble_eq_true rfl) (fun p e s m below meth c E hml hr hlk hI ls hl => ?_)
  have hx := E.1
  have hb := E.2.1
  have hl : lv_has ls 3 [(0, .ref a)] := hl
  have feσ : m_c X σ a = m_c X σ a := rfl
  have fr_σ : q_ow [(12, 0), (12, 1)] [] X σ σ := q_ow.rf
  have hh := hG.hd
  obtain ⟨out, hout⟩ : ∃ o, o = F_X12_fullest X σ a := ⟨_, rfl⟩
  have hF := hout.symm
  unfold F_X12_fullest at hF
  refine lv_aload_n hx hb dX12_fullest_0 rfl (lv_at hl 0 rfl) ?_
  refine lv_iconst (v := 0) hx hb dX12_fullest_1 (by decide) ?_
  refine ps_X12_59_12 E hI ha (by decide) dX12_fullest_2 (fun H locs σ_1 hσ_1 hI => ?_)
  replace hF := q_letX hF hσ_1
  have fr_σ_1 := fr_σ.si hσ_1 ha rfl
  have mcσ_1 := m_wo hσ_1 (m_ne ha (q_tk (f := 20) (k' := 34) hI ha rfl (by decide)) (by decide))
  have feσ_1 : m_c X σ_1 a = m_c X σ a := (funext mcσ_1).trans feσ
  refine lv_aload_n hx hb dX12_fullest_5 rfl (lv_at hl 0 rfl) ?_
  refine lv_iconst (v := 0) hx hb dX12_fullest_6 (by decide) ?_
  refine ps_X12_62_12 E hI ha (by decide) dX12_fullest_7 (fun H locs σ_2 hσ_2 hI => ?_)
  replace hF := q_letX hF hσ_2
  have fr_σ_2 := fr_σ_1.si hσ_2 ha rfl
  have mcσ_2 := m_wo hσ_2 (m_ne ha (q_tk (f := 20) (k' := 34) hI ha rfl (by decide)) (by decide))
  have feσ_2 : m_c X σ_2 a = m_c X σ a := (funext mcσ_2).trans feσ_1
  refine lv_iconst (v := (-1)) hx hb dX12_fullest_10 (by decide) ?_
  refine lv_istore_n (lv' := [(1, .int (-1)), (0, .ref a)]) hx hb dX12_fullest_11 rfl hl (by decide) rfl (fun ls hl => ?_)
  refine lv_iconst (v := 0) hx hb dX12_fullest_12 (by decide) ?_
  refine lv_istore_n (lv' := [(2, .int 0), (1, .int (-1)), (0, .ref a)]) hx hb dX12_fullest_13 rfl hl (by decide) rfl (fun ls hl => ?_)
  have L_14_5 : ∀ (k_5 : Nat) (x_3 : Int32) (x_4 : Int32) (H : Heap) (locs : List Loc) (ls : Array Slot), (2147483647 - x_4.toInt).toNat < k_5 → (0 ≤ x_4.toInt ∧ -1 ≤ x_3.toInt ∧ x_3.toInt < m_c X σ a 2) → (F_X12_fullest_L14_1 X σ_2 a k_5 x_3 x_4 = out) → q_I X 8 σ s.heap locs σ_2 H → lv_has ls 3 [(0, .ref a), (1, .int x_3), (2, .int x_4)] → W p l e (q_rm 2 45) s m ([.ref a] : List Value).toArray below meth c H locs 0 0 (MQ below (q_Qi X 8 σ (fun (r : Int32) (σ' : ST) => (r, σ') = F_X12_fullest X σ a ∧ q_ow [(12, 0), (12, 1)] [] X σ σ')) ([.ref a] : List Value).toArray s 0 0 (q_reg X)) (F0 m 14 ls []) := by
    clear hF
    intro k_5
    induction k_5 with
    | zero =>
      intro x_3 x_4 H locs ls hms
      exact absurd hms (Nat.not_lt_zero _)
    | succ k_5 ih14 =>
      intro x_3 x_4 H locs ls hm14 hge14 hF hI hl
      replace hF := (F_X12_fullest_L14_1_s).symm.trans hF
      unfold F_X12_fullest_B14_1 at hF
      refine lv_iload_n hx hb dX12_fullest_14 rfl (lv_at hl 2 rfl) ?_
      refine lv_aload_n hx hb dX12_fullest_15 rfl (lv_at hl 0 rfl) ?_
      refine gs_X12_35_12 E hI ha dX12_fullest_16 ?_
      refine lv_iconst (v := 2) hx hb dX12_fullest_19 (by decide) ?_
      refine q_iald E hI (q_tk (k' := 34) hI ha rfl (by decide)) ⟨by decide, rfl⟩ (by decide) (by rw [q_lnk (v := 4650) hI (q_tk (k' := 34) hI ha rfl (by decide)) rfl (by decide)]; decide) dX12_fullest_20 ?_
      refine lv_topi (fun f_6 ef_6 => ?_)
      replace hF := q_letX hF ef_6
      have if_6 : f_6.toInt = m_c X σ a 2 := (m_rd ef_6 (by decide)).trans (congrFun feσ_2 _)
      have gc_7_x_4 := q_rng x_4
      have gc_7_f_6 := q_rng f_6
      refine q_icmp_ge (A := x_4.toInt) (B := f_6.toInt) E rfl rfl (tgt := 49) dX12_fullest_21 (by decide) (fun c_7 => ?_) (fun c_7 => ?_)
      · skip
        replace hF := q_ifn hF (Int.not_lt.mpr c_7)
        unfold F_X12_fullest_E49_2 at hF
        refine lv_iload_n hx hb dX12_fullest_49 rfl (lv_at hl 1 rfl) ?_
        refine q_if_ge (A := x_3.toInt) E rfl (tgt := 62) dX12_fullest_50 (by decide) (fun c_8 => ?_) (fun c_8 => ?_)
        · skip
          replace hF := q_ifn hF (Int.not_lt.mpr c_8)
          refine lv_iload_n hx hb dX12_fullest_62 rfl (lv_at hl 1 rfl) ?_
          exact q_reti E hr hlk hI ⟨(hF.trans hout), fr_σ_2⟩ dX12_fullest_63
        · skip
          replace hF := q_ifp hF c_8
          refine lv_aload_n hx hb dX12_fullest_53 rfl (lv_at hl 0 rfl) ?_
          refine lv_bipush (v := 8) hx hb dX12_fullest_54 (by decide) ?_
          have kc_9 : (8 : Int32).toInt = 8 := rfl
          refine q_ci (q_runV (As := [.int 8]) (rest := []) E (hml.trans hl.1.symm) hI (c_X12_refuse l X σ_2 a (8 : Int32) ha) kv_X12_284 ha ⟨rfl, by decide⟩ (show vwCl[11]? = some (RX12, TX12, 46) from rfl) rfl ⟨Nat.le_of_ble_eq_true rfl, Nat.le_of_ble_eq_true rfl⟩ ⟨Nat.le_refl _, Nat.le_refl _⟩ rfl (Nat.le_of_ble_eq_true rfl) dX12_fullest_56) hI (by decide) (fun r_10 σ_11 H locs hpσ_11 hkσ_11 hI => ?_)
          obtain ⟨ahpσ_11, bhpσ_11, chpσ_11⟩ := hpσ_11
          have fr_σ_11 := fr_σ_2.call chpσ_11 rfl rfl
          replace hF := q_biX hF bhpσ_11
          have mcσ_11 := m_cK hkσ_11 hI.1 ha (by decide)
          have feσ_11 : m_c X σ_11 a = m_c X σ a := (funext mcσ_11).trans feσ_2
          refine lv_goto (tgt := 63) hx hb dX12_fullest_59 (by decide) ?_
          exact q_reti E hr hlk hI ⟨(hF.trans hout), fr_σ_11⟩ dX12_fullest_63
      · skip
        replace hF := q_ifp hF c_7
        refine lv_iload_n hx hb dX12_fullest_24 rfl (lv_at hl 1 rfl) ?_
        refine q_if_lt (A := x_3.toInt) E rfl (tgt := 41) dX12_fullest_25 (by decide) (fun c_12 => ?_) (fun c_12 => ?_)
        · skip
          replace hF := q_ifp hF c_12
          refine lv_iload_n hx hb dX12_fullest_41 rfl (lv_at hl 2 rfl) ?_
          refine lv_istore_n (lv' := [(1, .int x_4), (0, .ref a), (2, .int x_4)]) hx hb dX12_fullest_42 rfl hl (by decide) rfl (fun ls hl => ?_)
          obtain ⟨z_13, ez_13⟩ : ∃ y : Int32, y = x_4 + 1 := ⟨_, rfl⟩
          replace hF := q_letX hF ez_13
          refine lv_iinc (v := z_13) (lv' := [(2, .int z_13), (1, .int x_4), (0, .ref a)]) hx hb dX12_fullest_43 hl (k := 2) rfl (by rw [ez_13]; rfl) (by decide) rfl (fun ls hl => ?_)
          have iz_13 : z_13.toInt = x_4.toInt + 1 := q_inc ez_13 (by first | (clear hm14 gc_7_f_6 c_12; omega) | omega)
          refine lv_goto (tgt := 14) hx hb dX12_fullest_46 (by decide) ?_
          exact ih14 x_4 z_13 _ _ ls (by first | (clear gc_7_f_6 c_12; omega) | omega) (by first | (clear hh hm14 gc_7_f_6 c_12; omega) | omega) hF hI (lv_sub hl [2, 1, 0] rfl)
        · skip
          replace hF := q_ifn hF (Int.not_lt.mpr c_12)
          refine lv_aload_n hx hb dX12_fullest_28 rfl (lv_at hl 0 rfl) ?_
          refine lv_iload_n hx hb dX12_fullest_29 rfl (lv_at hl 2 rfl) ?_
          refine q_ci (q_runV (As := [.int x_4]) (rest := []) E (hml.trans hl.1.symm) hI (c_X12_cardsOf l X σ_2 a x_4 ha (by rw [feσ_2]; exact hG) (by first | (clear hm14 gc_7_f_6; omega) | omega)) kv_X12_293 ha ⟨rfl, by decide⟩ (show vwCl[11]? = some (RX12, TX12, 46) from rfl) rfl ⟨Nat.le_of_ble_eq_true rfl, Nat.le_of_ble_eq_true rfl⟩ ⟨Nat.le_refl _, Nat.le_refl _⟩ rfl (Nat.le_of_ble_eq_true rfl) dX12_fullest_30) hI (by decide) (fun r_14 σ_15 H locs hpσ_15 hkσ_15 hI => ?_)
          obtain ⟨ahpσ_15, bhpσ_15, chpσ_15, dhpσ_15⟩ := hpσ_15
          rw [ahpσ_15] at hI
          rw [feσ_2] at bhpσ_15
          replace hF := q_letX hF dhpσ_15
          refine lv_aload_n hx hb dX12_fullest_33 rfl (lv_at hl 0 rfl) ?_
          refine lv_iload_n hx hb dX12_fullest_34 rfl (lv_at hl 1 rfl) ?_
          refine q_ci (q_runV (As := [.int x_3]) (rest := [.int r_14]) E (hml.trans hl.1.symm) hI (c_X12_cardsOf l X σ_2 a x_3 ha (by rw [feσ_2]; exact hG) (by first | (clear hm14 gc_7_x_4 gc_7_f_6 c_7 ahpσ_15 bhpσ_15 chpσ_15 dhpσ_15; omega) | omega)) kv_X12_293 ha ⟨rfl, by decide⟩ (show vwCl[11]? = some (RX12, TX12, 46) from rfl) rfl ⟨Nat.le_of_ble_eq_true rfl, Nat.le_of_ble_eq_true rfl⟩ ⟨Nat.le_refl _, Nat.le_refl _⟩ rfl (Nat.le_of_ble_eq_true rfl) dX12_fullest_35) hI (by decide) (fun r_16 σ_17 H locs hpσ_17 hkσ_17 hI => ?_)
          obtain ⟨ahpσ_17, bhpσ_17, chpσ_17, dhpσ_17⟩ := hpσ_17
          rw [ahpσ_17] at hI
          rw [feσ_2] at bhpσ_17
          replace hF := q_letX hF dhpσ_17
          have gc_18_r_14 := q_rng r_14
          have gc_18_r_16 := q_rng r_16
          refine q_icmp_le (A := r_14.toInt) (B := r_16.toInt) E rfl rfl (tgt := 43) dX12_fullest_38 (by decide) (fun c_18 => ?_) (fun c_18 => ?_)
          · skip
            replace hF := q_ifn hF (Int.not_lt.mpr c_18)
            obtain ⟨z_19, ez_19⟩ : ∃ y : Int32, y = x_4 + 1 := ⟨_, rfl⟩
            replace hF := q_letX hF ez_19
            refine lv_iinc (v := z_19) (lv' := [(2, .int z_19), (0, .ref a), (1, .int x_3)]) hx hb dX12_fullest_43 hl (k := 2) rfl (by rw [ez_19]; rfl) (by decide) rfl (fun ls hl => ?_)
            have iz_19 : z_19.toInt = x_4.toInt + 1 := q_inc ez_19 (by first | (clear hm14 gc_7_f_6 c_12 ahpσ_15 bhpσ_15 chpσ_15 dhpσ_15 ahpσ_17 bhpσ_17 chpσ_17 dhpσ_17 gc_18_r_14 gc_18_r_16 c_18; omega) | omega)
            refine lv_goto (tgt := 14) hx hb dX12_fullest_46 (by decide) ?_
            exact ih14 x_3 z_19 _ _ ls (by first | (clear gc_7_f_6 ahpσ_15 bhpσ_15 chpσ_15 dhpσ_15 ahpσ_17 bhpσ_17 chpσ_17 dhpσ_17 gc_18_r_14 gc_18_r_16 c_18; omega) | omega) (by first | (clear hh hm14 gc_7_f_6 c_7 ahpσ_15 bhpσ_15 chpσ_15 dhpσ_15 ahpσ_17 bhpσ_17 chpσ_17 dhpσ_17 gc_18_r_14 gc_18_r_16 c_18; omega) | omega) hF hI (lv_sub hl [1, 2, 0] rfl)
          · skip
            replace hF := q_ifp hF c_18
            refine lv_iload_n hx hb dX12_fullest_41 rfl (lv_at hl 2 rfl) ?_
            refine lv_istore_n (lv' := [(1, .int x_4), (0, .ref a), (2, .int x_4)]) hx hb dX12_fullest_42 rfl hl (by decide) rfl (fun ls hl => ?_)
            obtain ⟨z_20, ez_20⟩ : ∃ y : Int32, y = x_4 + 1 := ⟨_, rfl⟩
            replace hF := q_letX hF ez_20
            refine lv_iinc (v := z_20) (lv' := [(2, .int z_20), (1, .int x_4), (0, .ref a)]) hx hb dX12_fullest_43 hl (k := 2) rfl (by rw [ez_20]; rfl) (by decide) rfl (fun ls hl => ?_)
            have iz_20 : z_20.toInt = x_4.toInt + 1 := q_inc ez_20 (by first | (clear hm14 gc_7_f_6 c_12 ahpσ_15 bhpσ_15 chpσ_15 dhpσ_15 ahpσ_17 bhpσ_17 chpσ_17 dhpσ_17 gc_18_r_14 gc_18_r_16 c_18; omega) | omega)
            refine lv_goto (tgt := 14) hx hb dX12_fullest_46 (by decide) ?_
            exact ih14 x_4 z_20 _ _ ls (by first | (clear gc_7_f_6 ahpσ_15 bhpσ_15 chpσ_15 dhpσ_15 ahpσ_17 bhpσ_17 chpσ_17 dhpσ_17 gc_18_r_14 gc_18_r_16 c_18; omega) | omega) (by first | (clear hh hm14 gc_7_f_6 c_12 ahpσ_15 bhpσ_15 chpσ_15 dhpσ_15 ahpσ_17 bhpσ_17 chpσ_17 dhpσ_17 gc_18_r_14 gc_18_r_16 c_18; omega) | omega) hF hI (lv_sub hl [2, 1, 0] rfl)
  have kc_21 : ((-1) : Int32).toInt = (-1) := rfl
  have kc_22 : (0 : Int32).toInt = 0 := rfl
  exact L_14_5 ((2147483647 - (0 : Int32).toInt).toNat + 1) (-1) 0 _ _ ls (Nat.lt_succ_self _) (by have q : (0 : Int32).toInt = 0 := rfl; have q1 : ((-1) : Int32).toInt = -1 := rfl; omega) hF hI (lv_sub hl [2, 1, 0] rfl)

set_option maxRecDepth 100000 in
set_option maxHeartbeats 4000000 in
theorem c_X12_quartet (l : Launch) (X : XW) (σ : ST) (a : Nat) (v1 : Int32) (ha : q_kd X a = 12) (hG : m_G (m_c X σ a)) : Met l yX12_quartet (q_ws yX12_quartet cX12_quartet 3 (some .int)) (q_rm 3 69) (q_P X σ [.ref a, .int v1]) (q_Qi X 8 σ (fun (r : Int32) (σ' : ST) => (r, σ') = F_X12_quartet X σ a v1 ∧ q_ow [(12, 0), (12, 1)] [] X σ σ')) 0 0 (q_reg X) := by
  refine q_met 8 (by first | exact rfl | decide +kernel) rfl (Nat.le_of_ble_eq_true rfl) (fun p e s m below meth c E hml hr hlk hI ls hl => ?_)
  have hx := E.1
  have hb := E.2.1
  have hl : lv_has ls 3 [(0, .ref a), (1, .int v1)] := hl
  have feσ : m_c X σ a = m_c X σ a := rfl
  have fr_σ : q_ow [(12, 0), (12, 1)] [] X σ σ := q_ow.rf
  have hh := hG.hd
  obtain ⟨out, hout⟩ : ∃ o, o = F_X12_quartet X σ a v1 := ⟨_, rfl⟩
  have hF := hout.symm
  unfold F_X12_quartet at hF
  refine lv_aload_n hx hb dX12_quartet_0 rfl (lv_at hl 0 rfl) ?_
  refine lv_iconst (v := 0) hx hb dX12_quartet_1 (by decide) ?_
  refine ps_X12_59_12 E hI ha (by decide) dX12_quartet_2 (fun H locs σ_1 hσ_1 hI => ?_)
  replace hF := q_letX hF hσ_1
  have fr_σ_1 := fr_σ.si hσ_1 ha rfl
  have mcσ_1 := m_wo hσ_1 (m_ne ha (q_tk (f := 20) (k' := 34) hI ha rfl (by decide)) (by decide))
  have feσ_1 : m_c X σ_1 a = m_c X σ a := (funext mcσ_1).trans feσ
  refine lv_aload_n hx hb dX12_quartet_5 rfl (lv_at hl 0 rfl) ?_
  refine lv_iconst (v := 0) hx hb dX12_quartet_6 (by decide) ?_
  refine ps_X12_62_12 E hI ha (by decide) dX12_quartet_7 (fun H locs σ_2 hσ_2 hI => ?_)
  replace hF := q_letX hF hσ_2
  have fr_σ_2 := fr_σ_1.si hσ_2 ha rfl
  have mcσ_2 := m_wo hσ_2 (m_ne ha (q_tk (f := 20) (k' := 34) hI ha rfl (by decide)) (by decide))
  have feσ_2 : m_c X σ_2 a = m_c X σ a := (funext mcσ_2).trans feσ_1
  refine lv_aload_n hx hb dX12_quartet_10 rfl (lv_at hl 0 rfl) ?_
  refine lv_iload_n hx hb dX12_quartet_11 rfl (lv_at hl 1 rfl) ?_
  refine q_ci (q_runV (As := [.int v1]) (rest := []) E (hml.trans hl.1.symm) hI (c_X12_isPlayerAt l X σ_2 a v1 ha (by rw [feσ_2]; exact hG)) kv_X12_290 ha ⟨rfl, by decide⟩ (show vwCl[11]? = some (RX12, TX12, 46) from rfl) rfl ⟨Nat.le_of_ble_eq_true rfl, Nat.le_of_ble_eq_true rfl⟩ ⟨Nat.le_refl _, Nat.le_refl _⟩ rfl (Nat.le_of_ble_eq_true rfl) dX12_quartet_12) hI (by decide) (fun r_3 σ_4 H locs hpσ_4 hkσ_4 hI => ?_)
  obtain ⟨ahpσ_4, bhpσ_4, chpσ_4, dhpσ_4⟩ := hpσ_4
  rw [ahpσ_4] at hI
  rw [feσ_2] at chpσ_4
  replace hF := q_letX hF dhpσ_4
  refine q_if_ne (A := r_3.toInt) E rfl (tgt := 24) dX12_quartet_15 (by decide) (fun c_5 => ?_) (fun c_5 => ?_)
  · skip
    replace hF := q_ifn hF c_5
    replace c_5 := q_ifOne bhpσ_4 c_5
    replace chpσ_4 := q_ifYes chpσ_4 c_5
    refine lv_iconst (v := 0) hx hb dX12_quartet_24 (by decide) ?_
    refine lv_istore_n (lv' := [(2, .int 0), (0, .ref a), (1, .int v1)]) hx hb dX12_quartet_25 rfl hl (by decide) rfl (fun ls hl => ?_)
    have L_26_7 : ∀ (k_7 : Nat) (x_6 : Int32) (H : Heap) (locs : List Loc) (ls : Array Slot), (2147483647 - x_6.toInt).toNat < k_7 → (0 ≤ x_6.toInt) → (F_X12_quartet_L26_1 X σ_2 a v1 k_7 x_6 = out) → q_I X 8 σ s.heap locs σ_2 H → lv_has ls 3 [(0, .ref a), (1, .int v1), (2, .int x_6)] → W p l e (q_rm 3 69) s m ([.ref a, .int v1] : List Value).toArray below meth c H locs 0 0 (MQ below (q_Qi X 8 σ (fun (r : Int32) (σ' : ST) => (r, σ') = F_X12_quartet X σ a v1 ∧ q_ow [(12, 0), (12, 1)] [] X σ σ')) ([.ref a, .int v1] : List Value).toArray s 0 0 (q_reg X)) (F0 m 26 ls []) := by
      clear hF
      intro k_7
      induction k_7 with
      | zero =>
        intro x_6 H locs ls hms
        exact absurd hms (Nat.not_lt_zero _)
      | succ k_7 ih26 =>
        intro x_6 H locs ls hm26 hge26 hF hI hl
        replace hF := (F_X12_quartet_L26_1_s).symm.trans hF
        unfold F_X12_quartet_B26_1 at hF
        refine lv_iload_n hx hb dX12_quartet_26 rfl (lv_at hl 2 rfl) ?_
        refine lv_aload_n hx hb dX12_quartet_27 rfl (lv_at hl 0 rfl) ?_
        refine gs_X12_35_12 E hI ha dX12_quartet_28 ?_
        refine lv_iconst (v := 0) hx hb dX12_quartet_31 (by decide) ?_
        refine q_iald E hI (q_tk (k' := 34) hI ha rfl (by decide)) ⟨by decide, rfl⟩ (by decide) (by rw [q_lnk (v := 4650) hI (q_tk (k' := 34) hI ha rfl (by decide)) rfl (by decide)]; decide) dX12_quartet_32 ?_
        refine lv_topi (fun f_8 ef_8 => ?_)
        replace hF := q_letX hF ef_8
        have if_8 : f_8.toInt = m_c X σ a 0 := (m_rd ef_8 (by decide)).trans (congrFun feσ_2 _)
        have gc_9_x_6 := q_rng x_6
        have gc_9_f_8 := q_rng f_8
        refine q_icmp_ge (A := x_6.toInt) (B := f_8.toInt) E rfl rfl (tgt := 67) dX12_quartet_33 (by decide) (fun c_9 => ?_) (fun c_9 => ?_)
        · skip
          replace hF := q_ifn hF (Int.not_lt.mpr c_9)
          unfold F_X12_quartet_E67_2 at hF
          refine lv_aload_n hx hb dX12_quartet_67 rfl (lv_at hl 0 rfl) ?_
          refine lv_bipush (v := 8) hx hb dX12_quartet_68 (by decide) ?_
          have kc_10 : (8 : Int32).toInt = 8 := rfl
          refine q_ci (q_runV (As := [.int 8]) (rest := []) E (hml.trans hl.1.symm) hI (c_X12_refuse l X σ_2 a (8 : Int32) ha) kv_X12_284 ha ⟨rfl, by decide⟩ (show vwCl[11]? = some (RX12, TX12, 46) from rfl) rfl ⟨Nat.le_of_ble_eq_true rfl, Nat.le_of_ble_eq_true rfl⟩ ⟨Nat.le_refl _, Nat.le_refl _⟩ rfl (Nat.le_of_ble_eq_true rfl) dX12_quartet_70) hI (by decide) (fun r_11 σ_12 H locs hpσ_12 hkσ_12 hI => ?_)
          obtain ⟨ahpσ_12, bhpσ_12, chpσ_12⟩ := hpσ_12
          have fr_σ_12 := fr_σ_2.call chpσ_12 rfl rfl
          replace hF := q_biX hF bhpσ_12
          have mcσ_12 := m_cK hkσ_12 hI.1 ha (by decide)
          have feσ_12 : m_c X σ_12 a = m_c X σ a := (funext mcσ_12).trans feσ_2
          exact q_reti E hr hlk hI ⟨(hF.trans hout), fr_σ_12⟩ dX12_quartet_73
        · skip
          replace hF := q_ifp hF c_9
          refine lv_aload_n hx hb dX12_quartet_36 rfl (lv_at hl 0 rfl) ?_
          refine lv_iload_n hx hb dX12_quartet_37 rfl (lv_at hl 1 rfl) ?_
          refine lv_iload_n hx hb dX12_quartet_38 rfl (lv_at hl 2 rfl) ?_
          refine q_ci (q_runV (As := [.int v1, .int x_6]) (rest := []) E (hml.trans hl.1.symm) hI (c_X12_handOf l X σ_2 a v1 x_6 ha (by omega) (by omega)) kv_X12_276 ha ⟨rfl, by decide⟩ (show vwCl[11]? = some (RX12, TX12, 46) from rfl) rfl ⟨Nat.le_of_ble_eq_true rfl, Nat.le_of_ble_eq_true rfl⟩ ⟨Nat.le_refl _, Nat.le_refl _⟩ rfl (Nat.le_of_ble_eq_true rfl) dX12_quartet_39) hI (by decide) (fun r_13 σ_14 H locs hpσ_14 hkσ_14 hI => ?_)
          obtain ⟨ahpσ_14, bhpσ_14, chpσ_14⟩ := hpσ_14
          rw [ahpσ_14] at hI
          rw [feσ_2] at bhpσ_14
          replace hF := q_letX hF chpσ_14
          have ir_13 : r_13.toInt = (m_c X σ a (34 + 10 * v1.toInt + x_6.toInt)) := (by first | exact bhpσ_14 | (rw [bhpσ_14]) | (simp only [bhpσ_14]))
          refine q_if_le (A := r_13.toInt) E rfl (tgt := 61) dX12_quartet_42 (by decide) (fun c_15 => ?_) (fun c_15 => ?_)
          · skip
            replace hF := q_ifn hF (Int.not_lt.mpr c_15)
            obtain ⟨z_16, ez_16⟩ : ∃ y : Int32, y = x_6 + 1 := ⟨_, rfl⟩
            replace hF := q_letX hF ez_16
            refine lv_iinc (v := z_16) (lv' := [(2, .int z_16), (0, .ref a), (1, .int v1)]) hx hb dX12_quartet_61 hl (k := 2) rfl (by rw [ez_16]; rfl) (by decide) rfl (fun ls hl => ?_)
            have iz_16 : z_16.toInt = x_6.toInt + 1 := q_inc ez_16 (by omega)
            refine lv_goto (tgt := 26) hx hb dX12_quartet_64 (by decide) ?_
            exact ih26 z_16 _ _ ls (by omega) (by omega) hF hI (lv_sub hl [1, 2, 0] rfl)
          · skip
            replace hF := q_ifp hF c_15
            refine lv_aload_n hx hb dX12_quartet_45 rfl (lv_at hl 0 rfl) ?_
            refine lv_iload_n hx hb dX12_quartet_46 rfl (lv_at hl 1 rfl) ?_
            refine lv_iload_n hx hb dX12_quartet_47 rfl (lv_at hl 2 rfl) ?_
            refine q_ci (q_runV (As := [.int v1, .int x_6]) (rest := []) E (hml.trans hl.1.symm) hI (c_X12_handOf l X σ_2 a v1 x_6 ha (by first | (clear ahpσ_4 bhpσ_4 dhpσ_4 c_5 hm26 hge26 if_8 gc_9_x_6 gc_9_f_8 c_9 ahpσ_14 bhpσ_14 chpσ_14 ir_13 c_15; omega) | omega) (by first | (clear ahpσ_4 bhpσ_4 dhpσ_4 c_5 chpσ_4 hm26 gc_9_f_8 ahpσ_14 bhpσ_14 chpσ_14 ir_13 c_15; omega) | omega)) kv_X12_276 ha ⟨rfl, by decide⟩ (show vwCl[11]? = some (RX12, TX12, 46) from rfl) rfl ⟨Nat.le_of_ble_eq_true rfl, Nat.le_of_ble_eq_true rfl⟩ ⟨Nat.le_refl _, Nat.le_refl _⟩ rfl (Nat.le_of_ble_eq_true rfl) dX12_quartet_48) hI (by decide) (fun r_17 σ_18 H locs hpσ_18 hkσ_18 hI => ?_)
            obtain ⟨ahpσ_18, bhpσ_18, chpσ_18⟩ := hpσ_18
            rw [ahpσ_18] at hI
            rw [feσ_2] at bhpσ_18
            replace hF := q_letX hF chpσ_18
            have ir_17 : r_17.toInt = (m_c X σ a (34 + 10 * v1.toInt + x_6.toInt)) := (by first | exact bhpσ_18 | (rw [bhpσ_18]) | (simp only [bhpσ_18]))
            refine lv_aload_n hx hb dX12_quartet_51 rfl (lv_at hl 0 rfl) ?_
            refine lv_iload_n hx hb dX12_quartet_52 rfl (lv_at hl 2 rfl) ?_
            refine q_ci (q_runV (As := [.int x_6]) (rest := [.int r_17]) E (hml.trans hl.1.symm) hI (c_X12_inGameOf l X σ_2 a x_6 ha (by rw [feσ_2]; exact hG) (by first | (clear ahpσ_4 bhpσ_4 dhpσ_4 c_5 chpσ_4 hm26 gc_9_f_8 ahpσ_14 bhpσ_14 chpσ_14 ir_13 c_15 ahpσ_18 bhpσ_18 chpσ_18 ir_17; omega) | omega)) kv_X12_302 ha ⟨rfl, by decide⟩ (show vwCl[11]? = some (RX12, TX12, 46) from rfl) rfl ⟨Nat.le_of_ble_eq_true rfl, Nat.le_of_ble_eq_true rfl⟩ ⟨Nat.le_refl _, Nat.le_refl _⟩ rfl (Nat.le_of_ble_eq_true rfl) dX12_quartet_53) hI (by decide) (fun r_19 σ_20 H locs hpσ_20 hkσ_20 hI => ?_)
            obtain ⟨ahpσ_20, bhpσ_20, chpσ_20, dhpσ_20⟩ := hpσ_20
            rw [ahpσ_20] at hI
            rw [feσ_2] at bhpσ_20
            replace hF := q_letX hF dhpσ_20
            have ir_19 : r_19.toInt = (m_I (m_c X σ a) x_6.toInt) := (by first | exact bhpσ_20 | (rw [bhpσ_20]) | (simp only [bhpσ_20]))
            have gc_21_r_17 := q_rng r_17
            have gc_21_r_19 := q_rng r_19
            refine q_icmp_ne (A := r_17.toInt) (B := r_19.toInt) E rfl rfl (tgt := 61) dX12_quartet_56 (by decide) (fun c_21 => ?_) (fun c_21 => ?_)
            · skip
              replace hF := q_ifn hF c_21
              obtain ⟨z_22, ez_22⟩ : ∃ y : Int32, y = x_6 + 1 := ⟨_, rfl⟩
              replace hF := q_letX hF ez_22
              refine lv_iinc (v := z_22) (lv' := [(2, .int z_22), (0, .ref a), (1, .int v1)]) hx hb dX12_quartet_61 hl (k := 2) rfl (by rw [ez_22]; rfl) (by decide) rfl (fun ls hl => ?_)
              have iz_22 : z_22.toInt = x_6.toInt + 1 := q_inc ez_22 (by first | (clear ahpσ_4 bhpσ_4 dhpσ_4 c_5 chpσ_4 hm26 gc_9_f_8 ahpσ_14 bhpσ_14 chpσ_14 ir_13 c_15 ahpσ_18 bhpσ_18 chpσ_18 ir_17 ahpσ_20 bhpσ_20 chpσ_20 dhpσ_20 ir_19 gc_21_r_17 gc_21_r_19 c_21; omega) | omega)
              refine lv_goto (tgt := 26) hx hb dX12_quartet_64 (by decide) ?_
              exact ih26 z_22 _ _ ls (by first | (clear ahpσ_4 bhpσ_4 dhpσ_4 c_5 chpσ_4 gc_9_f_8 ahpσ_14 bhpσ_14 chpσ_14 ir_13 c_15 ahpσ_18 bhpσ_18 chpσ_18 ir_17 ahpσ_20 bhpσ_20 chpσ_20 dhpσ_20 ir_19 gc_21_r_17 gc_21_r_19; omega) | omega) (by first | (clear hh ahpσ_4 bhpσ_4 dhpσ_4 c_5 chpσ_4 hm26 if_8 gc_9_f_8 c_9 ahpσ_14 bhpσ_14 chpσ_14 ir_13 c_15 ahpσ_18 bhpσ_18 chpσ_18 ir_17 ahpσ_20 bhpσ_20 chpσ_20 dhpσ_20 ir_19 gc_21_r_17 gc_21_r_19 c_21; omega) | omega) hF hI (lv_sub hl [1, 2, 0] rfl)
            · skip
              replace hF := q_ifp hF c_21
              skip
              refine lv_iload_n hx hb dX12_quartet_59 rfl (lv_at hl 2 rfl) ?_
              exact q_reti E hr hlk hI ⟨(hF.trans hout), fr_σ_2⟩ dX12_quartet_60
    have kc_23 : (0 : Int32).toInt = 0 := rfl
    exact L_26_7 ((2147483647 - (0 : Int32).toInt).toNat + 1) 0 _ _ ls (Nat.lt_succ_self _) (by decide) hF hI (lv_sub hl [1, 2, 0] rfl)
  · skip
    replace hF := q_ifp hF c_5
    replace chpσ_4 := q_ifNo chpσ_4 c_5
    refine lv_aload_n hx hb dX12_quartet_18 rfl (lv_at hl 0 rfl) ?_
    refine lv_iconst (v := 2) hx hb dX12_quartet_19 (by decide) ?_
    have kc_24 : (2 : Int32).toInt = 2 := rfl
    refine q_ci (q_runV (As := [.int 2]) (rest := []) E (hml.trans hl.1.symm) hI (c_X12_refuse l X σ_2 a (2 : Int32) ha) kv_X12_284 ha ⟨rfl, by decide⟩ (show vwCl[11]? = some (RX12, TX12, 46) from rfl) rfl ⟨Nat.le_of_ble_eq_true rfl, Nat.le_of_ble_eq_true rfl⟩ ⟨Nat.le_refl _, Nat.le_refl _⟩ rfl (Nat.le_of_ble_eq_true rfl) dX12_quartet_20) hI (by decide) (fun r_25 σ_26 H locs hpσ_26 hkσ_26 hI => ?_)
    obtain ⟨ahpσ_26, bhpσ_26, chpσ_26⟩ := hpσ_26
    have fr_σ_26 := fr_σ_2.call chpσ_26 rfl rfl
    replace hF := q_biX hF bhpσ_26
    have mcσ_26 := m_cK hkσ_26 hI.1 ha (by decide)
    have feσ_26 : m_c X σ_26 a = m_c X σ a := (funext mcσ_26).trans feσ_2
    exact q_reti E hr hlk hI ⟨(hF.trans hout), fr_σ_26⟩ dX12_quartet_23

set_option maxRecDepth 100000 in
set_option maxHeartbeats 4000000 in
theorem c_X12_sorts (l : Launch) (X : XW) (σ : ST) (a : Nat) (v1 : Int32) (ha : q_kd X a = 12) (hG : m_G (m_c X σ a)) : Met l yX12_sorts (q_ws yX12_sorts cX12_sorts 4 (some .int)) (q_rm 2 44) (q_P X σ [.ref a, .int v1]) (q_Qi X 8 σ (fun (r : Int32) (σ' : ST) => (r, σ') = F_X12_sorts X σ a v1 ∧ q_ow [(12, 0), (12, 1)] [] X σ σ')) 0 0 (q_reg X) := by
  refine q_met 8 (by first | exact rfl | decide +kernel) rfl (Nat.le_of_ble_eq_true rfl) (fun p e s m below meth c E hml hr hlk hI ls hl => ?_)
  have hx := E.1
  have hb := E.2.1
  have hl : lv_has ls 4 [(0, .ref a), (1, .int v1)] := hl
  have feσ : m_c X σ a = m_c X σ a := rfl
  have fr_σ : q_ow [(12, 0), (12, 1)] [] X σ σ := q_ow.rf
  have hh := hG.hd
  obtain ⟨out, hout⟩ : ∃ o, o = F_X12_sorts X σ a v1 := ⟨_, rfl⟩
  have hF := hout.symm
  unfold F_X12_sorts at hF
  refine lv_aload_n hx hb dX12_sorts_0 rfl (lv_at hl 0 rfl) ?_
  refine lv_iconst (v := 0) hx hb dX12_sorts_1 (by decide) ?_
  refine ps_X12_59_12 E hI ha (by decide) dX12_sorts_2 (fun H locs σ_1 hσ_1 hI => ?_)
  replace hF := q_letX hF hσ_1
  have fr_σ_1 := fr_σ.si hσ_1 ha rfl
  have mcσ_1 := m_wo hσ_1 (m_ne ha (q_tk (f := 20) (k' := 34) hI ha rfl (by decide)) (by decide))
  have feσ_1 : m_c X σ_1 a = m_c X σ a := (funext mcσ_1).trans feσ
  refine lv_aload_n hx hb dX12_sorts_5 rfl (lv_at hl 0 rfl) ?_
  refine lv_iconst (v := 0) hx hb dX12_sorts_6 (by decide) ?_
  refine ps_X12_62_12 E hI ha (by decide) dX12_sorts_7 (fun H locs σ_2 hσ_2 hI => ?_)
  replace hF := q_letX hF hσ_2
  have fr_σ_2 := fr_σ_1.si hσ_2 ha rfl
  have mcσ_2 := m_wo hσ_2 (m_ne ha (q_tk (f := 20) (k' := 34) hI ha rfl (by decide)) (by decide))
  have feσ_2 : m_c X σ_2 a = m_c X σ a := (funext mcσ_2).trans feσ_1
  refine lv_iload_n hx hb dX12_sorts_10 rfl (lv_at hl 1 rfl) ?_
  refine lv_i2l hx hb dX12_sorts_11 rfl ?_
  refine lv_topl (fun y_3 ey_3 => ?_)
  replace hF := q_letX hF ey_3
  have ggy_3 := q_rng v1
  have iy_3 : y_3.toInt = v1.toInt := by rw [ey_3]; exact (q_i2l _).trans rfl
  refine lv_lconst (v := 0) hx hb dX12_sorts_12 (by decide) ?_
  refine lv_ldc2 (v := 2) hx hb E.2.2.1 (E.2.2.2.1 _ (q_in_t9 (i := 45) (by first | rfl | decide +kernel) rfl)) dX12_sorts_13 ?_
  have kc_4 : (0 : Int64).toInt = 0 := rfl
  have kc_5 : (2 : Int64).toInt = 2 := rfl
  refine q_ci (q_runS (As := [.long y_3, .long 0, .long 2]) (rest := []) E (hml.trans hl.1.symm) hI (c_X12_isIn l X σ_2 y_3 (0 : Int64) (2 : Int64)) ks_X12_94 rfl ⟨Nat.le_of_ble_eq_true rfl, Nat.le_of_ble_eq_true rfl⟩ ⟨Nat.le_refl _, Nat.le_refl _⟩ rfl (Nat.le_of_ble_eq_true rfl) dX12_sorts_16) hI (by decide) (fun r_6 σ_7 H locs hpσ_7 hkσ_7 hI => ?_)
  obtain ⟨ahpσ_7, bhpσ_7, chpσ_7, dhpσ_7⟩ := hpσ_7
  rw [ahpσ_7] at hI
  replace hF := q_letX hF dhpσ_7
  refine q_if_ne (A := r_6.toInt) E rfl (tgt := 28) dX12_sorts_19 (by decide) (fun c_8 => ?_) (fun c_8 => ?_)
  · skip
    replace hF := q_ifn hF c_8
    replace c_8 := q_ifOne bhpσ_7 c_8
    replace chpσ_7 := q_ifYes chpσ_7 c_8
    refine lv_iconst (v := 0) hx hb dX12_sorts_28 (by decide) ?_
    refine lv_istore_n (lv' := [(2, .int 0), (0, .ref a), (1, .int v1)]) hx hb dX12_sorts_29 rfl hl (by decide) rfl (fun ls hl => ?_)
    refine lv_iconst (v := 0) hx hb dX12_sorts_30 (by decide) ?_
    refine lv_istore_n (lv' := [(3, .int 0), (2, .int 0), (0, .ref a), (1, .int v1)]) hx hb dX12_sorts_31 rfl hl (by decide) rfl (fun ls hl => ?_)
    have L_32_11 : ∀ (k_11 : Nat) (x_9 : Int32) (x_10 : Int32) (H : Heap) (locs : List Loc) (ls : Array Slot), (2147483647 - x_10.toInt).toNat < k_11 → (0 ≤ x_10.toInt) → (F_X12_sorts_L32_1 X σ_2 a v1 k_11 x_9 x_10 = out) → q_I X 8 σ s.heap locs σ_2 H → lv_has ls 4 [(0, .ref a), (1, .int v1), (2, .int x_9), (3, .int x_10)] → W p l e (q_rm 2 44) s m ([.ref a, .int v1] : List Value).toArray below meth c H locs 0 0 (MQ below (q_Qi X 8 σ (fun (r : Int32) (σ' : ST) => (r, σ') = F_X12_sorts X σ a v1 ∧ q_ow [(12, 0), (12, 1)] [] X σ σ')) ([.ref a, .int v1] : List Value).toArray s 0 0 (q_reg X)) (F0 m 32 ls []) := by
      clear hF
      intro k_11
      induction k_11 with
      | zero =>
        intro x_9 x_10 H locs ls hms
        exact absurd hms (Nat.not_lt_zero _)
      | succ k_11 ih32 =>
        intro x_9 x_10 H locs ls hm32 hge32 hF hI hl
        replace hF := (F_X12_sorts_L32_1_s).symm.trans hF
        unfold F_X12_sorts_B32_1 at hF
        refine lv_iload_n hx hb dX12_sorts_32 rfl (lv_at hl 3 rfl) ?_
        refine lv_aload_n hx hb dX12_sorts_33 rfl (lv_at hl 0 rfl) ?_
        refine gs_X12_35_12 E hI ha dX12_sorts_34 ?_
        refine lv_bipush (v := 9) hx hb dX12_sorts_37 (by decide) ?_
        refine q_iald E hI (q_tk (k' := 34) hI ha rfl (by decide)) ⟨by decide, rfl⟩ (by decide) (by rw [q_lnk (v := 4650) hI (q_tk (k' := 34) hI ha rfl (by decide)) rfl (by decide)]; decide) dX12_sorts_39 ?_
        refine lv_topi (fun f_12 ef_12 => ?_)
        replace hF := q_letX hF ef_12
        have if_12 : f_12.toInt = m_c X σ a 9 := (m_rd ef_12 (by decide)).trans (congrFun feσ_2 _)
        have gc_13_x_10 := q_rng x_10
        have gc_13_f_12 := q_rng f_12
        refine q_icmp_ge (A := x_10.toInt) (B := f_12.toInt) E rfl rfl (tgt := 66) dX12_sorts_40 (by decide) (fun c_13 => ?_) (fun c_13 => ?_)
        · skip
          replace hF := q_ifn hF (Int.not_lt.mpr c_13)
          skip
          refine lv_iload_n hx hb dX12_sorts_66 rfl (lv_at hl 2 rfl) ?_
          exact q_reti E hr hlk hI ⟨(hF.trans hout), fr_σ_2⟩ dX12_sorts_67
        · skip
          replace hF := q_ifp hF c_13
          refine lv_iload_n hx hb dX12_sorts_43 rfl (lv_at hl 2 rfl) ?_
          refine lv_aload_n hx hb dX12_sorts_44 rfl (lv_at hl 0 rfl) ?_
          refine lv_iload_n hx hb dX12_sorts_45 rfl (lv_at hl 3 rfl) ?_
          refine q_ci (q_runV (As := [.int x_10]) (rest := [.int x_9]) E (hml.trans hl.1.symm) hI (c_X12_sortOf l X σ_2 a x_10 ha (by rw [feσ_2]; exact hG) (by rw [feσ_2]; exact (by first | (clear hh ggy_3 iy_3 kc_4 kc_5 ahpσ_7 bhpσ_7 dhpσ_7 c_8 chpσ_7 hm32 gc_13_f_12; omega) | omega))) kv_X12_305 ha ⟨rfl, by decide⟩ (show vwCl[11]? = some (RX12, TX12, 46) from rfl) rfl ⟨Nat.le_of_ble_eq_true rfl, Nat.le_of_ble_eq_true rfl⟩ ⟨Nat.le_refl _, Nat.le_refl _⟩ rfl (Nat.le_of_ble_eq_true rfl) dX12_sorts_46) hI (by decide) (fun r_14 σ_15 H locs hpσ_15 hkσ_15 hI => ?_)
          obtain ⟨ahpσ_15, bhpσ_15, chpσ_15⟩ := hpσ_15
          rw [ahpσ_15] at hI
          replace hF := q_letX hF chpσ_15
          refine lv_iload_n hx hb dX12_sorts_49 rfl (lv_at hl 1 rfl) ?_
          have gc_16_r_14 := q_rng r_14
          have gc_16_v1 := q_rng v1
          refine q_icmp_ne (A := r_14.toInt) (B := v1.toInt) E rfl rfl (tgt := 57) dX12_sorts_50 (by decide) (fun c_16 => ?_) (fun c_16 => ?_)
          · skip
            replace hF := q_ifn hF c_16
            refine lv_iconst (v := 0) hx hb dX12_sorts_57 (by decide) ?_
            refine lv_iadd hx hb dX12_sorts_58 ?_
            refine lv_topi (fun z_17 ez_17 => ?_)
            replace hF := q_letX hF ez_17
            refine lv_istore_n (lv' := [(2, .int z_17), (0, .ref a), (1, .int v1), (3, .int x_10)]) hx hb dX12_sorts_59 rfl hl (by decide) rfl (fun ls hl => ?_)
            obtain ⟨z_18, ez_18⟩ : ∃ y : Int32, y = x_10 + 1 := ⟨_, rfl⟩
            replace hF := q_letX hF ez_18
            refine lv_iinc (v := z_18) (lv' := [(3, .int z_18), (2, .int z_17), (0, .ref a), (1, .int v1)]) hx hb dX12_sorts_60 hl (k := 3) rfl (by rw [ez_18]; rfl) (by decide) rfl (fun ls hl => ?_)
            have iz_18 : z_18.toInt = x_10.toInt + 1 := q_inc ez_18 (by first | (clear ggy_3 iy_3 kc_4 kc_5 ahpσ_7 bhpσ_7 dhpσ_7 c_8 chpσ_7 hm32 gc_13_f_12 ahpσ_15 bhpσ_15 chpσ_15 gc_16_r_14 gc_16_v1 c_16; omega) | omega)
            refine lv_goto (tgt := 32) hx hb dX12_sorts_63 (by decide) ?_
            exact ih32 z_17 z_18 _ _ ls (by first | (clear ggy_3 iy_3 kc_4 kc_5 ahpσ_7 bhpσ_7 dhpσ_7 c_8 chpσ_7 gc_13_f_12 ahpσ_15 bhpσ_15 chpσ_15 gc_16_r_14 gc_16_v1; omega) | omega) (by first | (clear hh ggy_3 iy_3 kc_4 kc_5 ahpσ_7 bhpσ_7 dhpσ_7 c_8 chpσ_7 hm32 if_12 gc_13_f_12 c_13 ahpσ_15 bhpσ_15 chpσ_15 gc_16_r_14 gc_16_v1 c_16; omega) | omega) hF hI (lv_sub hl [2, 3, 1, 0] rfl)
          · skip
            replace hF := q_ifp hF c_16
            refine lv_iconst (v := 1) hx hb dX12_sorts_53 (by decide) ?_
            refine lv_goto (tgt := 58) hx hb dX12_sorts_54 (by decide) ?_
            refine lv_iadd hx hb dX12_sorts_58 ?_
            refine lv_topi (fun z_19 ez_19 => ?_)
            replace hF := q_letX hF ez_19
            refine lv_istore_n (lv' := [(2, .int z_19), (0, .ref a), (1, .int v1), (3, .int x_10)]) hx hb dX12_sorts_59 rfl hl (by decide) rfl (fun ls hl => ?_)
            obtain ⟨z_20, ez_20⟩ : ∃ y : Int32, y = x_10 + 1 := ⟨_, rfl⟩
            replace hF := q_letX hF ez_20
            refine lv_iinc (v := z_20) (lv' := [(3, .int z_20), (2, .int z_19), (0, .ref a), (1, .int v1)]) hx hb dX12_sorts_60 hl (k := 3) rfl (by rw [ez_20]; rfl) (by decide) rfl (fun ls hl => ?_)
            have iz_20 : z_20.toInt = x_10.toInt + 1 := q_inc ez_20 (by first | (clear ggy_3 iy_3 kc_4 kc_5 ahpσ_7 bhpσ_7 dhpσ_7 c_8 chpσ_7 hm32 gc_13_f_12 ahpσ_15 bhpσ_15 chpσ_15 gc_16_r_14 gc_16_v1 c_16; omega) | omega)
            refine lv_goto (tgt := 32) hx hb dX12_sorts_63 (by decide) ?_
            exact ih32 z_19 z_20 _ _ ls (by first | (clear ggy_3 iy_3 kc_4 kc_5 ahpσ_7 bhpσ_7 dhpσ_7 c_8 chpσ_7 gc_13_f_12 ahpσ_15 bhpσ_15 chpσ_15 gc_16_r_14 gc_16_v1 c_16; omega) | omega) (by first | (clear hh ggy_3 iy_3 kc_4 kc_5 ahpσ_7 bhpσ_7 dhpσ_7 c_8 chpσ_7 hm32 if_12 gc_13_f_12 c_13 ahpσ_15 bhpσ_15 chpσ_15 gc_16_r_14 gc_16_v1 c_16; omega) | omega) hF hI (lv_sub hl [2, 3, 1, 0] rfl)
    have kc_21 : (0 : Int32).toInt = 0 := rfl
    exact L_32_11 ((2147483647 - (0 : Int32).toInt).toNat + 1) 0 0 _ _ ls (Nat.lt_succ_self _) (by decide) hF hI (lv_sub hl [2, 3, 1, 0] rfl)
  · skip
    replace hF := q_ifp hF c_8
    replace chpσ_7 := q_ifNo chpσ_7 c_8
    refine lv_aload_n hx hb dX12_sorts_22 rfl (lv_at hl 0 rfl) ?_
    refine lv_iconst (v := 5) hx hb dX12_sorts_23 (by decide) ?_
    have kc_22 : (5 : Int32).toInt = 5 := rfl
    refine q_ci (q_runV (As := [.int 5]) (rest := []) E (hml.trans hl.1.symm) hI (c_X12_refuse l X σ_2 a (5 : Int32) ha) kv_X12_284 ha ⟨rfl, by decide⟩ (show vwCl[11]? = some (RX12, TX12, 46) from rfl) rfl ⟨Nat.le_of_ble_eq_true rfl, Nat.le_of_ble_eq_true rfl⟩ ⟨Nat.le_refl _, Nat.le_refl _⟩ rfl (Nat.le_of_ble_eq_true rfl) dX12_sorts_24) hI (by decide) (fun r_23 σ_24 H locs hpσ_24 hkσ_24 hI => ?_)
    obtain ⟨ahpσ_24, bhpσ_24, chpσ_24⟩ := hpσ_24
    have fr_σ_24 := fr_σ_2.call chpσ_24 rfl rfl
    replace hF := q_biX hF bhpσ_24
    have mcσ_24 := m_cK hkσ_24 hI.1 ha (by decide)
    have feσ_24 : m_c X σ_24 a = m_c X σ a := (funext mcσ_24).trans feσ_2
    exact q_reti E hr hlk hI ⟨(hF.trans hout), fr_σ_24⟩ dX12_sorts_27

set_option maxRecDepth 100000 in
set_option maxHeartbeats 4000000 in
theorem c_X12_liar (l : Launch) (X : XW) (σ : ST) (a : Nat) (ha : q_kd X a = 12) (hG : m_G (m_c X σ a)) : Met l yX12_liar (q_ws yX12_liar cX12_liar 5 (some .int)) (q_rm 1 21) (q_P X σ [.ref a]) (q_Qi X 8 σ (fun (r : Int32) (σ' : ST) => (r, σ') = F_X12_liar X σ a ∧ q_ow [(12, 0), (12, 1)] [] X σ σ')) 0 0 (q_reg X) := by
  refine q_met 8 (by first | exact rfl | decide +kernel) rfl (Nat.le_of_ble_eq_true rfl) (fun p e s m below meth c E hml hr hlk hI ls hl => ?_)
  have hx := E.1
  have hb := E.2.1
  have hl : lv_has ls 5 [(0, .ref a)] := hl
  have feσ : m_c X σ a = m_c X σ a := rfl
  have fr_σ : q_ow [(12, 0), (12, 1)] [] X σ σ := q_ow.rf
  have hh := hG.hd
  obtain ⟨out, hout⟩ : ∃ o, o = F_X12_liar X σ a := ⟨_, rfl⟩
  have hF := hout.symm
  unfold F_X12_liar at hF
  refine lv_aload_n hx hb dX12_liar_0 rfl (lv_at hl 0 rfl) ?_
  refine lv_iconst (v := 0) hx hb dX12_liar_1 (by decide) ?_
  refine ps_X12_59_12 E hI ha (by decide) dX12_liar_2 (fun H locs σ_1 hσ_1 hI => ?_)
  replace hF := q_letX hF hσ_1
  have fr_σ_1 := fr_σ.si hσ_1 ha rfl
  have mcσ_1 := m_wo hσ_1 (m_ne ha (q_tk (f := 20) (k' := 34) hI ha rfl (by decide)) (by decide))
  have feσ_1 : m_c X σ_1 a = m_c X σ a := (funext mcσ_1).trans feσ
  refine lv_aload_n hx hb dX12_liar_5 rfl (lv_at hl 0 rfl) ?_
  refine lv_iconst (v := 0) hx hb dX12_liar_6 (by decide) ?_
  refine ps_X12_62_12 E hI ha (by decide) dX12_liar_7 (fun H locs σ_2 hσ_2 hI => ?_)
  replace hF := q_letX hF hσ_2
  have fr_σ_2 := fr_σ_1.si hσ_2 ha rfl
  have mcσ_2 := m_wo hσ_2 (m_ne ha (q_tk (f := 20) (k' := 34) hI ha rfl (by decide)) (by decide))
  have feσ_2 : m_c X σ_2 a = m_c X σ a := (funext mcσ_2).trans feσ_1
  refine lv_iconst (v := (-1)) hx hb dX12_liar_10 (by decide) ?_
  refine lv_istore_n (lv' := [(1, .int (-1)), (0, .ref a)]) hx hb dX12_liar_11 rfl hl (by decide) rfl (fun ls hl => ?_)
  refine lv_iconst (v := 0) hx hb dX12_liar_12 (by decide) ?_
  refine lv_istore_n (lv' := [(2, .int 0), (1, .int (-1)), (0, .ref a)]) hx hb dX12_liar_13 rfl hl (by decide) rfl (fun ls hl => ?_)
  have L_14_5 : ∀ (k_5 : Nat) (x_3 : Int32) (x_4 : Int32) (H : Heap) (locs : List Loc) (ls : Array Slot), (2147483647 - x_4.toInt).toNat < k_5 → (0 ≤ x_4.toInt ∧ -1 ≤ x_3.toInt ∧ x_3.toInt < m_c X σ a 2) → (F_X12_liar_L14_1 X σ_2 a k_5 x_3 x_4 = out) → q_I X 8 σ s.heap locs σ_2 H → lv_has ls 5 [(0, .ref a), (1, .int x_3), (2, .int x_4)] → W p l e (q_rm 1 21) s m ([.ref a] : List Value).toArray below meth c H locs 0 0 (MQ below (q_Qi X 8 σ (fun (r : Int32) (σ' : ST) => (r, σ') = F_X12_liar X σ a ∧ q_ow [(12, 0), (12, 1)] [] X σ σ')) ([.ref a] : List Value).toArray s 0 0 (q_reg X)) (F0 m 14 ls []) := by
    clear hF
    intro k_5
    induction k_5 with
    | zero =>
      intro x_3 x_4 H locs ls hms
      exact absurd hms (Nat.not_lt_zero _)
    | succ k_5 ih14 =>
      intro x_3 x_4 H locs ls hm14 hge14 hF hI hl
      replace hF := (F_X12_liar_L14_1_s).symm.trans hF
      unfold F_X12_liar_B14_1 at hF
      refine lv_iload_n hx hb dX12_liar_14 rfl (lv_at hl 2 rfl) ?_
      refine lv_aload_n hx hb dX12_liar_15 rfl (lv_at hl 0 rfl) ?_
      refine gs_X12_35_12 E hI ha dX12_liar_16 ?_
      refine lv_iconst (v := 2) hx hb dX12_liar_19 (by decide) ?_
      refine q_iald E hI (q_tk (k' := 34) hI ha rfl (by decide)) ⟨by decide, rfl⟩ (by decide) (by rw [q_lnk (v := 4650) hI (q_tk (k' := 34) hI ha rfl (by decide)) rfl (by decide)]; decide) dX12_liar_20 ?_
      refine lv_topi (fun f_6 ef_6 => ?_)
      replace hF := q_letX hF ef_6
      have if_6 : f_6.toInt = m_c X σ a 2 := (m_rd ef_6 (by decide)).trans (congrFun feσ_2 _)
      have gc_7_x_4 := q_rng x_4
      have gc_7_f_6 := q_rng f_6
      refine q_icmp_ge (A := x_4.toInt) (B := f_6.toInt) E rfl rfl (tgt := 120) dX12_liar_21 (by decide) (fun c_7 => ?_) (fun c_7 => ?_)
      · skip
        replace hF := q_ifn hF (Int.not_lt.mpr c_7)
        unfold F_X12_liar_E120_2 at hF
        refine lv_iload_n hx hb dX12_liar_120 rfl (lv_at hl 1 rfl) ?_
        refine q_if_ge (A := x_3.toInt) E rfl (tgt := 133) dX12_liar_121 (by decide) (fun c_8 => ?_) (fun c_8 => ?_)
        · skip
          replace hF := q_ifn hF (Int.not_lt.mpr c_8)
          refine lv_iload_n hx hb dX12_liar_133 rfl (lv_at hl 1 rfl) ?_
          exact q_reti E hr hlk hI ⟨(hF.trans hout), fr_σ_2⟩ dX12_liar_134
        · skip
          replace hF := q_ifp hF c_8
          refine lv_aload_n hx hb dX12_liar_124 rfl (lv_at hl 0 rfl) ?_
          refine lv_bipush (v := 8) hx hb dX12_liar_125 (by decide) ?_
          have kc_9 : (8 : Int32).toInt = 8 := rfl
          refine q_ci (q_runV (As := [.int 8]) (rest := []) E (hml.trans hl.1.symm) hI (c_X12_refuse l X σ_2 a (8 : Int32) ha) kv_X12_284 ha ⟨rfl, by decide⟩ (show vwCl[11]? = some (RX12, TX12, 46) from rfl) rfl ⟨Nat.le_of_ble_eq_true rfl, Nat.le_of_ble_eq_true rfl⟩ ⟨Nat.le_refl _, Nat.le_refl _⟩ rfl (Nat.le_of_ble_eq_true rfl) dX12_liar_127) hI (by decide) (fun r_10 σ_11 H locs hpσ_11 hkσ_11 hI => ?_)
          obtain ⟨ahpσ_11, bhpσ_11, chpσ_11⟩ := hpσ_11
          have fr_σ_11 := fr_σ_2.call chpσ_11 rfl rfl
          replace hF := q_biX hF bhpσ_11
          have mcσ_11 := m_cK hkσ_11 hI.1 ha (by decide)
          have feσ_11 : m_c X σ_11 a = m_c X σ a := (funext mcσ_11).trans feσ_2
          refine lv_goto (tgt := 134) hx hb dX12_liar_130 (by decide) ?_
          exact q_reti E hr hlk hI ⟨(hF.trans hout), fr_σ_11⟩ dX12_liar_134
      · skip
        replace hF := q_ifp hF c_7
        refine lv_iload_n hx hb dX12_liar_24 rfl (lv_at hl 1 rfl) ?_
        refine q_if_ge (A := x_3.toInt) E rfl (tgt := 33) dX12_liar_25 (by decide) (fun c_12 => ?_) (fun c_12 => ?_)
        · skip
          replace hF := q_ifn hF (Int.not_lt.mpr c_12)
          refine lv_aload_n hx hb dX12_liar_33 rfl (lv_at hl 0 rfl) ?_
          refine gs_X12_35_12 E hI ha dX12_liar_34 ?_
          refine lv_bipush (v := 22) hx hb dX12_liar_37 (by decide) ?_
          refine lv_iload_n hx hb dX12_liar_39 rfl (lv_at hl 2 rfl) ?_
          refine lv_iadd hx hb dX12_liar_40 ?_
          refine lv_topi (fun z_13 ez_13 => ?_)
          replace hF := q_letX hF ez_13
          have kc_14 : (22 : Int32).toInt = 22 := rfl
          have iz_13 := q_add ez_13 (by first | (clear hh hm14 if_6 gc_7_f_6 c_7 c_12; omega) | omega) (by first | (clear hm14 gc_7_x_4 gc_7_f_6; omega) | omega)
          refine q_iald E hI (q_tk (k' := 34) hI ha rfl (by decide)) ⟨by decide, rfl⟩ (by first | (clear hh hm14 if_6 gc_7_f_6 c_7 c_12; omega) | omega) (by rw [q_lnk (v := 4650) hI (q_tk (k' := 34) hI ha rfl (by decide)) rfl (by decide)]; omega) dX12_liar_41 ?_
          refine lv_topi (fun f_15 ef_15 => ?_)
          replace hF := q_letX hF ef_15
          have if_15 : f_15.toInt = m_c X σ a z_13.toInt := (m_rd ef_15 rfl).trans (congrFun feσ_2 _)
          refine lv_aload_n hx hb dX12_liar_42 rfl (lv_at hl 0 rfl) ?_
          refine gs_X12_35_12 E hI ha dX12_liar_43 ?_
          refine lv_bipush (v := 28) hx hb dX12_liar_46 (by decide) ?_
          refine lv_iload_n hx hb dX12_liar_48 rfl (lv_at hl 2 rfl) ?_
          refine lv_iadd hx hb dX12_liar_49 ?_
          refine lv_topi (fun z_16 ez_16 => ?_)
          replace hF := q_letX hF ez_16
          have kc_17 : (28 : Int32).toInt = 28 := rfl
          have iz_16 := q_add ez_16 (by first | (clear hm14 gc_7_f_6 if_15; omega) | omega) (by first | (clear hm14 gc_7_f_6 if_15; omega) | omega)
          refine q_iald E hI (q_tk (k' := 34) hI ha rfl (by decide)) ⟨by decide, rfl⟩ (by first | (clear hh hm14 if_6 gc_7_f_6 c_7 c_12 if_15; omega) | omega) (by rw [q_lnk (v := 4650) hI (q_tk (k' := 34) hI ha rfl (by decide)) rfl (by decide)]; omega) dX12_liar_50 ?_
          refine lv_topi (fun f_18 ef_18 => ?_)
          replace hF := q_letX hF ef_18
          have if_18 : f_18.toInt = m_c X σ a z_16.toInt := (m_rd ef_18 rfl).trans (congrFun feσ_2 _)
          refine lv_isub hx hb dX12_liar_51 ?_
          refine lv_topi (fun z_19 ez_19 => ?_)
          replace hF := q_letX hF ez_19
          refine lv_iconst (v := 1) hx hb dX12_liar_52 (by decide) ?_
          refine lv_iadd hx hb dX12_liar_53 ?_
          refine lv_topi (fun z_20 ez_20 => ?_)
          replace hF := q_letX hF ez_20
          refine lv_aload_n hx hb dX12_liar_54 rfl (lv_at hl 0 rfl) ?_
          refine gs_X12_35_12 E hI ha dX12_liar_55 ?_
          refine lv_bipush (v := 22) hx hb dX12_liar_58 (by decide) ?_
          refine lv_iload_n hx hb dX12_liar_60 rfl (lv_at hl 1 rfl) ?_
          refine lv_iadd hx hb dX12_liar_61 ?_
          refine lv_topi (fun z_21 ez_21 => ?_)
          replace hF := q_letX hF ez_21
          have kc_22 : (22 : Int32).toInt = 22 := rfl
          have iz_21 := q_add ez_21 (by first | (clear hh hm14 hge14 if_6 gc_7_x_4 gc_7_f_6 c_7 iz_13 if_15 kc_17 iz_16 if_18 kc_22; omega) | omega) (by first | (clear hm14 gc_7_x_4 gc_7_f_6 c_7 iz_13 if_15 kc_17 iz_16 if_18 kc_22; omega) | omega)
          refine q_iald E hI (q_tk (k' := 34) hI ha rfl (by decide)) ⟨by decide, rfl⟩ (by first | (clear hh hm14 hge14 if_6 gc_7_x_4 gc_7_f_6 c_7 iz_13 if_15 kc_17 iz_16 if_18 kc_22; omega) | omega) (by rw [q_lnk (v := 4650) hI (q_tk (k' := 34) hI ha rfl (by decide)) rfl (by decide)]; omega) dX12_liar_62 ?_
          refine lv_topi (fun f_23 ef_23 => ?_)
          replace hF := q_letX hF ef_23
          have if_23 : f_23.toInt = m_c X σ a z_21.toInt := (m_rd ef_23 rfl).trans (congrFun feσ_2 _)
          refine lv_iconst (v := 2) hx hb dX12_liar_63 (by decide) ?_
          refine lv_iadd hx hb dX12_liar_64 ?_
          refine lv_topi (fun z_24 ez_24 => ?_)
          replace hF := q_letX hF ez_24
          refine lv_imul hx hb dX12_liar_65 ?_
          refine lv_topi (fun z_25 ez_25 => ?_)
          replace hF := q_letX hF ez_25
          refine lv_istore_n (lv' := [(3, .int z_25), (0, .ref a), (1, .int x_3), (2, .int x_4)]) hx hb dX12_liar_66 rfl hl (by decide) rfl (fun ls hl => ?_)
          refine lv_aload_n hx hb dX12_liar_67 rfl (lv_at hl 1 rfl) ?_
          refine gs_X12_35_12 E hI ha dX12_liar_68 ?_
          refine lv_bipush (v := 22) hx hb dX12_liar_71 (by decide) ?_
          refine lv_iload_n hx hb dX12_liar_73 rfl (lv_at hl 2 rfl) ?_
          refine lv_iadd hx hb dX12_liar_74 ?_
          refine lv_topi (fun z_26 ez_26 => ?_)
          replace hF := q_letX hF ez_26
          have kc_27 : (22 : Int32).toInt = 22 := rfl
          have iz_26 := q_add ez_26 (by first | (clear hh hm14 hge14 if_6 gc_7_x_4 gc_7_f_6 c_7 iz_13 if_15 kc_17 iz_16 if_18 kc_22 if_23 kc_27; omega) | omega) (by first | (clear hm14 gc_7_x_4 gc_7_f_6 c_7 c_12 iz_13 if_15 kc_17 iz_16 if_18 kc_22 if_23 kc_27; omega) | omega)
          refine q_iald E hI (q_tk (k' := 34) hI ha rfl (by decide)) ⟨by decide, rfl⟩ (by first | (clear hh hm14 hge14 if_6 gc_7_x_4 gc_7_f_6 c_7 iz_13 if_15 kc_17 iz_16 if_18 kc_22 if_23 kc_27; omega) | omega) (by rw [q_lnk (v := 4650) hI (q_tk (k' := 34) hI ha rfl (by decide)) rfl (by decide)]; omega) dX12_liar_75 ?_
          refine lv_topi (fun f_28 ef_28 => ?_)
          replace hF := q_letX hF ef_28
          have if_28 : f_28.toInt = m_c X σ a z_26.toInt := (m_rd ef_28 rfl).trans (congrFun feσ_2 _)
          refine lv_aload_n hx hb dX12_liar_76 rfl (lv_at hl 1 rfl) ?_
          refine gs_X12_35_12 E hI ha dX12_liar_77 ?_
          refine lv_bipush (v := 28) hx hb dX12_liar_80 (by decide) ?_
          refine lv_iload_n hx hb dX12_liar_82 rfl (lv_at hl 2 rfl) ?_
          refine lv_iadd hx hb dX12_liar_83 ?_
          refine lv_topi (fun z_29 ez_29 => ?_)
          replace hF := q_letX hF ez_29
          have kc_30 : (28 : Int32).toInt = 28 := rfl
          have iz_29 := q_add ez_29 (by first | (clear hh hm14 hge14 if_6 gc_7_x_4 gc_7_f_6 c_7 iz_13 if_15 iz_16 if_18 kc_22 if_23 kc_27 if_28 kc_30; omega) | omega) (by first | (clear hm14 gc_7_x_4 gc_7_f_6 c_7 c_12 iz_13 if_15 iz_16 if_18 kc_22 if_23 kc_27 if_28 kc_30; omega) | omega)
          refine q_iald E hI (q_tk (k' := 34) hI ha rfl (by decide)) ⟨by decide, rfl⟩ (by first | (clear hh hm14 hge14 if_6 gc_7_x_4 gc_7_f_6 c_7 iz_13 if_15 iz_16 if_18 kc_22 if_23 kc_27 if_28 kc_30; omega) | omega) (by rw [q_lnk (v := 4650) hI (q_tk (k' := 34) hI ha rfl (by decide)) rfl (by decide)]; omega) dX12_liar_84 ?_
          refine lv_topi (fun f_31 ef_31 => ?_)
          replace hF := q_letX hF ef_31
          have if_31 : f_31.toInt = m_c X σ a z_29.toInt := (m_rd ef_31 rfl).trans (congrFun feσ_2 _)
          refine lv_isub hx hb dX12_liar_85 ?_
          refine lv_topi (fun z_32 ez_32 => ?_)
          replace hF := q_letX hF ez_32
          refine lv_iconst (v := 1) hx hb dX12_liar_86 (by decide) ?_
          refine lv_iadd hx hb dX12_liar_87 ?_
          refine lv_topi (fun z_33 ez_33 => ?_)
          replace hF := q_letX hF ez_33
          refine lv_aload_n hx hb dX12_liar_88 rfl (lv_at hl 1 rfl) ?_
          refine gs_X12_35_12 E hI ha dX12_liar_89 ?_
          refine lv_bipush (v := 22) hx hb dX12_liar_92 (by decide) ?_
          refine lv_iload_n hx hb dX12_liar_94 rfl (lv_at hl 3 rfl) ?_
          refine lv_iadd hx hb dX12_liar_95 ?_
          refine lv_topi (fun z_34 ez_34 => ?_)
          replace hF := q_letX hF ez_34
          have kc_35 : (22 : Int32).toInt = 22 := rfl
          have iz_34 := q_add ez_34 (by first | (clear hh hm14 if_6 gc_7_f_6 c_7 c_12 if_15 if_18 kc_22 iz_21 if_23 kc_27 iz_26 if_28 kc_30 iz_29 if_31 kc_35; omega) | omega) (by first | (clear hm14 gc_7_f_6 c_12 if_15 if_18 kc_22 iz_21 if_23 kc_27 iz_26 if_28 kc_30 iz_29 if_31 kc_35; omega) | omega)
          refine q_iald E hI (q_tk (k' := 34) hI ha rfl (by decide)) ⟨by decide, rfl⟩ (by first | (clear hh hm14 if_6 gc_7_f_6 c_7 c_12 if_15 if_18 kc_22 iz_21 if_23 kc_27 iz_26 if_28 kc_30 iz_29 if_31 kc_35; omega) | omega) (by rw [q_lnk (v := 4650) hI (q_tk (k' := 34) hI ha rfl (by decide)) rfl (by decide)]; omega) dX12_liar_96 ?_
          refine lv_topi (fun f_36 ef_36 => ?_)
          replace hF := q_letX hF ef_36
          have if_36 : f_36.toInt = m_c X σ a z_34.toInt := (m_rd ef_36 rfl).trans (congrFun feσ_2 _)
          refine lv_iconst (v := 2) hx hb dX12_liar_97 (by decide) ?_
          refine lv_iadd hx hb dX12_liar_98 ?_
          refine lv_topi (fun z_37 ez_37 => ?_)
          replace hF := q_letX hF ez_37
          refine lv_imul hx hb dX12_liar_99 ?_
          refine lv_topi (fun z_38 ez_38 => ?_)
          replace hF := q_letX hF ez_38
          refine lv_istore (lv' := [(4, .int z_38), (3, .int z_25), (0, .ref a), (1, .int x_3), (2, .int x_4)]) hx hb dX12_liar_100 hl (by decide) rfl (fun ls hl => ?_)
          refine lv_iload_n hx hb dX12_liar_102 rfl (lv_at hl 1 rfl) ?_
          refine lv_iload hx hb dX12_liar_103 (lv_at hl 0 rfl) ?_
          have gc_39_z_25 := q_rng z_25
          have gc_39_z_38 := q_rng z_38
          refine q_icmp_ge (A := z_25.toInt) (B := z_38.toInt) E rfl rfl (tgt := 112) dX12_liar_105 (by decide) (fun c_39 => ?_) (fun c_39 => ?_)
          · skip
            replace hF := q_ifn hF (Int.not_lt.mpr c_39)
            refine lv_iload_n hx hb dX12_liar_112 rfl (lv_at hl 3 rfl) ?_
            refine lv_istore_n (lv' := [(1, .int x_3), (4, .int z_38), (3, .int z_25), (0, .ref a), (2, .int x_4)]) hx hb dX12_liar_113 rfl hl (by decide) rfl (fun ls hl => ?_)
            obtain ⟨z_40, ez_40⟩ : ∃ y : Int32, y = x_4 + 1 := ⟨_, rfl⟩
            replace hF := q_letX hF ez_40
            refine lv_iinc (v := z_40) (lv' := [(2, .int z_40), (1, .int x_3), (4, .int z_38), (3, .int z_25), (0, .ref a)]) hx hb dX12_liar_114 hl (k := 4) rfl (by rw [ez_40]; rfl) (by decide) rfl (fun ls hl => ?_)
            have iz_40 : z_40.toInt = x_4.toInt + 1 := q_inc ez_40 (by first | (clear hm14 gc_7_f_6 c_12 if_15 if_18 kc_22 iz_21 if_23 kc_27 iz_26 if_28 kc_30 iz_29 if_31 kc_35 if_36 gc_39_z_25 gc_39_z_38 c_39; omega) | omega)
            refine lv_goto (tgt := 14) hx hb dX12_liar_117 (by decide) ?_
            exact ih14 x_3 z_40 _ _ ls (by first | (clear gc_7_f_6 c_12 if_15 if_18 kc_22 iz_21 if_23 kc_27 iz_26 if_28 kc_30 iz_29 if_31 kc_35 if_36 gc_39_z_25 gc_39_z_38 c_39; omega) | omega) (by first | (clear hh hm14 gc_7_f_6 c_7 if_15 if_18 kc_22 if_23 kc_27 if_28 kc_30 if_31 kc_35 if_36 gc_39_z_25 gc_39_z_38 c_39; omega) | omega) hF hI (lv_sub hl [4, 1, 0] rfl)
          · skip
            replace hF := q_ifp hF c_39
            refine lv_iload_n hx hb dX12_liar_108 rfl (lv_at hl 4 rfl) ?_
            refine lv_goto (tgt := 113) hx hb dX12_liar_109 (by decide) ?_
            refine lv_istore_n (lv' := [(1, .int x_4), (4, .int z_38), (3, .int z_25), (0, .ref a), (2, .int x_4)]) hx hb dX12_liar_113 rfl hl (by decide) rfl (fun ls hl => ?_)
            obtain ⟨z_41, ez_41⟩ : ∃ y : Int32, y = x_4 + 1 := ⟨_, rfl⟩
            replace hF := q_letX hF ez_41
            refine lv_iinc (v := z_41) (lv' := [(2, .int z_41), (1, .int x_4), (4, .int z_38), (3, .int z_25), (0, .ref a)]) hx hb dX12_liar_114 hl (k := 4) rfl (by rw [ez_41]; rfl) (by decide) rfl (fun ls hl => ?_)
            have iz_41 : z_41.toInt = x_4.toInt + 1 := q_inc ez_41 (by first | (clear hm14 gc_7_f_6 c_12 if_15 if_18 kc_22 iz_21 if_23 kc_27 iz_26 if_28 kc_30 iz_29 if_31 kc_35 if_36 gc_39_z_25 gc_39_z_38 c_39; omega) | omega)
            refine lv_goto (tgt := 14) hx hb dX12_liar_117 (by decide) ?_
            exact ih14 x_4 z_41 _ _ ls (by first | (clear gc_7_f_6 c_12 if_15 if_18 kc_22 iz_21 if_23 kc_27 iz_26 if_28 kc_30 iz_29 if_31 kc_35 if_36 gc_39_z_25 gc_39_z_38 c_39; omega) | omega) (by first | (clear hh hm14 gc_7_f_6 c_12 if_15 if_18 kc_22 iz_21 if_23 kc_27 iz_26 if_28 kc_30 iz_29 if_31 kc_35 if_36 gc_39_z_25 gc_39_z_38 c_39; omega) | omega) hF hI (lv_sub hl [4, 1, 0] rfl)
        · skip
          replace hF := q_ifp hF c_12
          refine lv_iload_n hx hb dX12_liar_28 rfl (lv_at hl 2 rfl) ?_
          refine lv_istore_n (lv' := [(1, .int x_4), (0, .ref a), (2, .int x_4)]) hx hb dX12_liar_29 rfl hl (by decide) rfl (fun ls hl => ?_)
          refine lv_goto (tgt := 114) hx hb dX12_liar_30 (by decide) ?_
          obtain ⟨z_42, ez_42⟩ : ∃ y : Int32, y = x_4 + 1 := ⟨_, rfl⟩
          replace hF := q_letX hF ez_42
          refine lv_iinc (v := z_42) (lv' := [(2, .int z_42), (1, .int x_4), (0, .ref a)]) hx hb dX12_liar_114 hl (k := 2) rfl (by rw [ez_42]; rfl) (by decide) rfl (fun ls hl => ?_)
          have iz_42 : z_42.toInt = x_4.toInt + 1 := q_inc ez_42 (by omega)
          refine lv_goto (tgt := 14) hx hb dX12_liar_117 (by decide) ?_
          exact ih14 x_4 z_42 _ _ ls (by omega) (by omega) hF hI (lv_sub hl [2, 1, 0] rfl)
  have kc_43 : ((-1) : Int32).toInt = (-1) := rfl
  have kc_44 : (0 : Int32).toInt = 0 := rfl
  exact L_14_5 ((2147483647 - (0 : Int32).toInt).toNat + 1) (-1) 0 _ _ ls (Nat.lt_succ_self _) (by have q : (0 : Int32).toInt = 0 := rfl; have q1 : ((-1) : Int32).toInt = -1 := rfl; omega) hF hI (lv_sub hl [2, 1, 0] rfl)

set_option maxRecDepth 100000 in
set_option maxHeartbeats 4000000 in
theorem c_X12_played (l : Launch) (X : XW) (σ : ST) (a : Nat) (v1 : Int32) (ha : q_kd X a = 12) (hG : m_G (m_c X σ a)) : Met l yX12_played (q_ws yX12_played cX12_played 2 (some .int)) (q_rm 1 25) (q_P X σ [.ref a, .int v1]) (q_Qi X 8 σ (fun (r : Int32) (σ' : ST) => (r, σ') = F_X12_played X σ a v1 ∧ q_ow [(12, 0), (12, 1)] [] X σ σ')) 0 0 (q_reg X) := by
  refine q_met 8 (by first | exact rfl | decide +kernel) rfl (Nat.le_of_ble_eq_true rfl) (fun p e s m below meth c E hml hr hlk hI ls hl => ?_)
  have hx := E.1
  have hb := E.2.1
  have hl : lv_has ls 2 [(0, .ref a), (1, .int v1)] := hl
  have feσ : m_c X σ a = m_c X σ a := rfl
  have fr_σ : q_ow [(12, 0), (12, 1)] [] X σ σ := q_ow.rf
  have hh := hG.hd
  obtain ⟨out, hout⟩ : ∃ o, o = F_X12_played X σ a v1 := ⟨_, rfl⟩
  have hF := hout.symm
  unfold F_X12_played at hF
  refine lv_aload_n hx hb dX12_played_0 rfl (lv_at hl 0 rfl) ?_
  refine lv_iconst (v := 0) hx hb dX12_played_1 (by decide) ?_
  refine ps_X12_59_12 E hI ha (by decide) dX12_played_2 (fun H locs σ_1 hσ_1 hI => ?_)
  replace hF := q_letX hF hσ_1
  have fr_σ_1 := fr_σ.si hσ_1 ha rfl
  have mcσ_1 := m_wo hσ_1 (m_ne ha (q_tk (f := 20) (k' := 34) hI ha rfl (by decide)) (by decide))
  have feσ_1 : m_c X σ_1 a = m_c X σ a := (funext mcσ_1).trans feσ
  refine lv_aload_n hx hb dX12_played_5 rfl (lv_at hl 0 rfl) ?_
  refine lv_iconst (v := 0) hx hb dX12_played_6 (by decide) ?_
  refine ps_X12_62_12 E hI ha (by decide) dX12_played_7 (fun H locs σ_2 hσ_2 hI => ?_)
  replace hF := q_letX hF hσ_2
  have fr_σ_2 := fr_σ_1.si hσ_2 ha rfl
  have mcσ_2 := m_wo hσ_2 (m_ne ha (q_tk (f := 20) (k' := 34) hI ha rfl (by decide)) (by decide))
  have feσ_2 : m_c X σ_2 a = m_c X σ a := (funext mcσ_2).trans feσ_1
  refine lv_iload_n hx hb dX12_played_10 rfl (lv_at hl 1 rfl) ?_
  refine lv_i2l hx hb dX12_played_11 rfl ?_
  refine lv_topl (fun y_3 ey_3 => ?_)
  replace hF := q_letX hF ey_3
  have ggy_3 := q_rng v1
  have iy_3 : y_3.toInt = v1.toInt := by rw [ey_3]; exact (q_i2l _).trans rfl
  refine lv_lconst (v := 0) hx hb dX12_played_12 (by decide) ?_
  refine lv_ldc2 (v := 4) hx hb E.2.2.1 (E.2.2.2.1 _ (q_in_t9 (i := 124) (by first | rfl | decide +kernel) rfl)) dX12_played_13 ?_
  have kc_4 : (0 : Int64).toInt = 0 := rfl
  have kc_5 : (4 : Int64).toInt = 4 := rfl
  refine q_ci (q_runS (As := [.long y_3, .long 0, .long 4]) (rest := []) E (hml.trans hl.1.symm) hI (c_X12_isIn l X σ_2 y_3 (0 : Int64) (4 : Int64)) ks_X12_94 rfl ⟨Nat.le_of_ble_eq_true rfl, Nat.le_of_ble_eq_true rfl⟩ ⟨Nat.le_refl _, Nat.le_refl _⟩ rfl (Nat.le_of_ble_eq_true rfl) dX12_played_16) hI (by decide) (fun r_6 σ_7 H locs hpσ_7 hkσ_7 hI => ?_)
  obtain ⟨ahpσ_7, bhpσ_7, chpσ_7, dhpσ_7⟩ := hpσ_7
  rw [ahpσ_7] at hI
  replace hF := q_letX hF dhpσ_7
  refine q_if_ne (A := r_6.toInt) E rfl (tgt := 28) dX12_played_19 (by decide) (fun c_8 => ?_) (fun c_8 => ?_)
  · skip
    replace hF := q_ifn hF c_8
    replace c_8 := q_ifOne bhpσ_7 c_8
    replace chpσ_7 := q_ifYes chpσ_7 c_8
    refine lv_aload_n hx hb dX12_played_28 rfl (lv_at hl 0 rfl) ?_
    refine gs_X12_446_12 E hI ha dX12_played_29 ?_
    refine lv_topi (fun f_9 ef_9 => ?_)
    replace hF := q_letX hF ef_9
    have if_9 : f_9.toInt = (σ_2.1 a 37).toInt := congrArg Int32.toInt ef_9
    have bf_9 : 0 ≤ f_9.toInt ∧ f_9.toInt ≤ 1 := by rw [ef_9]; exact q_bd hI ha rfl
    refine q_if_eq (A := f_9.toInt) E rfl (tgt := 44) dX12_played_32 (by decide) (fun c_10 => ?_) (fun c_10 => ?_)
    · skip
      replace hF := q_ifp hF c_10
      refine lv_aload_n hx hb dX12_played_44 rfl (lv_at hl 0 rfl) ?_
      refine lv_bipush (v := 8) hx hb dX12_played_45 (by decide) ?_
      have kc_11 : (8 : Int32).toInt = 8 := rfl
      refine q_ci (q_runV (As := [.int 8]) (rest := []) E (hml.trans hl.1.symm) hI (c_X12_refuse l X σ_2 a (8 : Int32) ha) kv_X12_284 ha ⟨rfl, by decide⟩ (show vwCl[11]? = some (RX12, TX12, 46) from rfl) rfl ⟨Nat.le_of_ble_eq_true rfl, Nat.le_of_ble_eq_true rfl⟩ ⟨Nat.le_refl _, Nat.le_refl _⟩ rfl (Nat.le_of_ble_eq_true rfl) dX12_played_47) hI (by decide) (fun r_12 σ_13 H locs hpσ_13 hkσ_13 hI => ?_)
      obtain ⟨ahpσ_13, bhpσ_13, chpσ_13⟩ := hpσ_13
      have fr_σ_13 := fr_σ_2.call chpσ_13 rfl rfl
      replace hF := q_biX hF bhpσ_13
      have mcσ_13 := m_cK hkσ_13 hI.1 ha (by decide)
      have feσ_13 : m_c X σ_13 a = m_c X σ a := (funext mcσ_13).trans feσ_2
      exact q_reti E hr hlk hI ⟨(hF.trans hout), fr_σ_13⟩ dX12_played_50
    · skip
      replace hF := q_ifn hF c_10
      refine lv_aload_n hx hb dX12_played_35 rfl (lv_at hl 0 rfl) ?_
      refine gs_X12_56_12 E hI ha dX12_played_36 ?_
      refine lv_iload_n hx hb dX12_played_39 rfl (lv_at hl 1 rfl) ?_
      refine q_iald E hI (q_tk (k' := 41) hI ha rfl (by decide)) ⟨by decide, rfl⟩ (by first | (clear hh kc_5 ahpσ_7 bhpσ_7 dhpσ_7 c_8 if_9 bf_9 c_10; omega) | omega) (by rw [q_lnk (v := 5) hI (q_tk (k' := 41) hI ha rfl (by decide)) rfl (by decide)]; omega) dX12_played_40 ?_
      refine lv_topi (fun f_14 ef_14 => ?_)
      replace hF := q_letX hF ef_14
      refine lv_goto (tgt := 50) hx hb dX12_played_41 (by decide) ?_
      exact q_reti E hr hlk hI ⟨(hF.trans hout), fr_σ_2⟩ dX12_played_50
  · skip
    replace hF := q_ifp hF c_8
    replace chpσ_7 := q_ifNo chpσ_7 c_8
    refine lv_aload_n hx hb dX12_played_22 rfl (lv_at hl 0 rfl) ?_
    refine lv_iconst (v := 5) hx hb dX12_played_23 (by decide) ?_
    have kc_15 : (5 : Int32).toInt = 5 := rfl
    refine q_ci (q_runV (As := [.int 5]) (rest := []) E (hml.trans hl.1.symm) hI (c_X12_refuse l X σ_2 a (5 : Int32) ha) kv_X12_284 ha ⟨rfl, by decide⟩ (show vwCl[11]? = some (RX12, TX12, 46) from rfl) rfl ⟨Nat.le_of_ble_eq_true rfl, Nat.le_of_ble_eq_true rfl⟩ ⟨Nat.le_refl _, Nat.le_refl _⟩ rfl (Nat.le_of_ble_eq_true rfl) dX12_played_24) hI (by decide) (fun r_16 σ_17 H locs hpσ_17 hkσ_17 hI => ?_)
    obtain ⟨ahpσ_17, bhpσ_17, chpσ_17⟩ := hpσ_17
    have fr_σ_17 := fr_σ_2.call chpσ_17 rfl rfl
    replace hF := q_biX hF bhpσ_17
    have mcσ_17 := m_cK hkσ_17 hI.1 ha (by decide)
    have feσ_17 : m_c X σ_17 a = m_c X σ a := (funext mcσ_17).trans feσ_2
    exact q_reti E hr hlk hI ⟨(hF.trans hout), fr_σ_17⟩ dX12_played_27

set_option maxRecDepth 100000 in
set_option maxHeartbeats 4000000 in
theorem c_X12_draw (l : Launch) (X : XW) (σ : ST) (a : Nat) (ha : q_kd X a = 12) : Met l yX12_draw (q_ws yX12_draw cX12_draw 1 (some .int)) (q_rm 0 0) (q_P X σ [.ref a]) (q_Qi X 8 σ (fun (r : Int32) (σ' : ST) => (q_KS (fun b g => b = a ∧ g = 39) 9 X σ σ') ∧ (r, σ') = F_X12_draw X σ a ∧ q_ow [(12, 39)] [] X σ σ')) 0 0 (q_reg X) := by
  refine q_met 8 (by first | exact rfl | decide +kernel) rfl (Nat.le_of_ble_eq_true rfl) (fun p e s m below meth c E hml hr hlk hI ls hl => ?_)
  have hx := E.1
  have hb := E.2.1
  have hl : lv_has ls 1 [(0, .ref a)] := hl
  have ks_σ : q_KS (fun b g => b = a ∧ g = 39) 9 X σ σ := q_KS.rf
  have fr_σ : q_ow [(12, 39)] [] X σ σ := q_ow.rf
  obtain ⟨out, hout⟩ : ∃ o, o = F_X12_draw X σ a := ⟨_, rfl⟩
  have hF := hout.symm
  unfold F_X12_draw at hF
  refine lv_aload_n hx hb dX12_draw_0 rfl (lv_at hl 0 rfl) ?_
  refine lv_aload_n hx hb dX12_draw_1 rfl (lv_at hl 0 rfl) ?_
  refine gs_X12_395_12 E hI ha dX12_draw_2 ?_
  refine lv_topi (fun f_1 ef_1 => ?_)
  replace hF := q_letX hF ef_1
  refine lv_sipush (v := 2861) hx hb dX12_draw_5 (by decide) ?_
  refine lv_imul hx hb dX12_draw_8 ?_
  refine lv_topi (fun z_2 ez_2 => ?_)
  replace hF := q_letX hF ez_2
  refine lv_sipush (v := 10259) hx hb dX12_draw_9 (by decide) ?_
  refine lv_iadd hx hb dX12_draw_12 ?_
  refine lv_topi (fun z_3 ez_3 => ?_)
  replace hF := q_letX hF ez_3
  refine lv_ldcw (v := 65536) hx hb E.2.2.1 (E.2.2.2.1 _ (q_in_t9 (i := 174) (by first | rfl | decide +kernel) rfl)) dX12_draw_13 ?_
  refine lv_irem hx hb dX12_draw_16 (by decide) ?_
  refine lv_topi (fun z_4 ez_4 => ?_)
  replace hF := q_letX hF (ez_4.trans (q_remI _ _))
  refine ps_X12_395_12 E hI ha (by decide) dX12_draw_17 (fun H locs σ_5 hσ_5 hI => ?_)
  replace hF := q_letX hF hσ_5
  have fr_σ_5 := fr_σ.si hσ_5 ha rfl
  have ks_σ_5 : q_KS (fun b g => b = a ∧ g = 39) 9 X σ σ_5 := ks_σ.siS hσ_5 ⟨rfl, rfl⟩
  refine lv_aload_n hx hb dX12_draw_20 rfl (lv_at hl 0 rfl) ?_
  refine gs_X12_395_12 E hI ha dX12_draw_21 ?_
  refine lv_topi (fun f_6 ef_6 => ?_)
  replace hF := q_letX hF ef_6
  refine lv_bipush (v := 8) hx hb dX12_draw_24 (by decide) ?_
  refine lv_idiv hx hb dX12_draw_26 (by decide) ?_
  refine lv_topi (fun z_7 ez_7 => ?_)
  replace hF := q_letX hF ez_7
  refine lv_bipush (v := 16) hx hb dX12_draw_27 (by decide) ?_
  refine lv_irem hx hb dX12_draw_29 (by decide) ?_
  refine lv_topi (fun z_8 ez_8 => ?_)
  replace hF := q_letX hF (ez_8.trans (q_remI _ _))
  exact q_reti E hr hlk hI ⟨ks_σ_5, (hF.trans hout), fr_σ_5⟩ dX12_draw_30
