section
set_option maxRecDepth 100000 in
set_option maxHeartbeats 4000000 in
theorem c_X12_tries (l : Launch) (X : XW) (σ : ST) (a : Nat) (v1 : Int32) (v2 : Int32) (v3 : Int32) (v4 : Int32) (n : Int) (ha : q_kd X a = 12) (hG : m_G (m_c X σ a)) (hW : m_W (m_c X σ a) n) (hn : 0 ≤ n ∧ n ≤ 199000) : Met l yX12_tries (q_ws yX12_tries cX12_tries 8 (some .boolean)) (q_rm 69 1612) (q_P X σ [.ref a, .int v1, .int v2, .int v3, .int v4]) (q_Qi X 1 σ (fun (r : Int32) (σ' : ST) => (0 ≤ r.toInt ∧ r.toInt ≤ 1) ∧ (m_c X σ' a = m_c X σ a) ∧ (r, σ') = F_X12_tries X σ a v1 v2 v3 v4 ∧ q_ow [(12, 0), (12, 1), (12, 38), (12, 39), (12, 40), (12, 41), (12, 42), (12, 43), (12, 44), (12, 45), (34, 99), (35, 99), (39, 99)] [(12, 2), (12, 3)] X σ σ')) 0 0 (q_reg X) := by
  refine q_met 1 (by first | exact rfl | decide +kernel) rfl (Nat.le_of_ble_eq_true rfl) (fun p e s m below meth c E hml hr hlk hI ls hl => ?_)
  have hx := E.1
  have hb := E.2.1
  have hl : lv_has ls 8 [(0, .ref a), (1, .int v1), (2, .int v2), (3, .int v3), (4, .int v4)] := hl
  have fxσ : m_c X σ a = m_c X σ a := rfl
  have fr_σ : q_ow [(12, 0), (12, 1), (12, 38), (12, 39), (12, 40), (12, 41), (12, 42), (12, 43), (12, 44), (12, 45), (34, 99), (35, 99), (39, 99)] [(12, 2), (12, 3)] X σ σ := q_ow.rf
  have hh := hG.hd
  obtain ⟨out, hout⟩ : ∃ o, o = F_X12_tries X σ a v1 v2 v3 v4 := ⟨_, rfl⟩
  have hF := hout.symm
  unfold F_X12_tries at hF
  refine lv_aload_n hx hb dX12_tries_0 rfl (lv_at hl 0 rfl) ?_
  refine lv_iconst (v := 0) hx hb dX12_tries_1 (by decide) ?_
  refine ps_X12_59_12 E hI ha (by decide) dX12_tries_2 (fun H locs σ_1 hσ_1 hI => ?_)
  replace hF := q_letX hF hσ_1
  have fr_σ_1 := fr_σ.si hσ_1 ha rfl
  have mcσ_1 := m_wo hσ_1 (m_ne ha (q_tk (f := 20) (k' := 34) hI ha rfl (by decide)) (by decide))
  have fxσ_1 : m_c X σ_1 a = m_c X σ a := (funext mcσ_1).trans fxσ
  refine lv_aload_n hx hb dX12_tries_5 rfl (lv_at hl 0 rfl) ?_
  refine lv_iconst (v := 0) hx hb dX12_tries_6 (by decide) ?_
  refine ps_X12_62_12 E hI ha (by decide) dX12_tries_7 (fun H locs σ_2 hσ_2 hI => ?_)
  replace hF := q_letX hF hσ_2
  have fr_σ_2 := fr_σ_1.si hσ_2 ha rfl
  have mcσ_2 := m_wo hσ_2 (m_ne ha (q_tk (f := 20) (k' := 34) hI ha rfl (by decide)) (by decide))
  have fxσ_2 : m_c X σ_2 a = m_c X σ a := (funext mcσ_2).trans fxσ_1
  refine lv_aload_n hx hb dX12_tries_10 rfl (lv_at hl 0 rfl) ?_
  refine lv_iload_n hx hb dX12_tries_11 rfl (lv_at hl 1 rfl) ?_
  refine q_ci (q_runV (As := [.int v1]) (rest := []) E (hml.trans hl.1.symm) hI (c_X12_isPlayerAt l X σ_2 a v1 ha (by rw [fxσ_2]; exact hG)) kv_X12_290 ha ⟨rfl, by decide⟩ (show vwCl[11]? = some (RX12, TX12, 46) from rfl) rfl ⟨Nat.le_of_ble_eq_true rfl, Nat.le_of_ble_eq_true rfl⟩ ⟨Nat.le_refl _, Nat.le_refl _⟩ rfl (Nat.le_of_ble_eq_true rfl) dX12_tries_12) hI (by decide) (fun r_3 σ_4 H locs hpσ_4 hkσ_4 hI => ?_)
  obtain ⟨ahpσ_4, bhpσ_4, chpσ_4, dhpσ_4⟩ := hpσ_4
  rw [ahpσ_4] at hI
  rw [fxσ_2] at chpσ_4
  replace hF := q_letX hF dhpσ_4
  refine q_if_ne (A := r_3.toInt) E rfl (tgt := 24) dX12_tries_15 (by decide) (fun c_5 => ?_) (fun c_5 => ?_)
  · skip
    replace hF := q_ifn hF c_5
    refine lv_iload_n hx hb dX12_tries_24 rfl (lv_at hl 3 rfl) ?_
    refine lv_i2l hx hb dX12_tries_25 rfl ?_
    refine lv_topl (fun y_6 ey_6 => ?_)
    replace hF := q_letX hF ey_6
    have ggy_6 := q_rng v3
    have iy_6 : y_6.toInt = v3.toInt := by rw [ey_6]; exact (q_i2l _).trans rfl
    refine lv_lconst (v := 1) hx hb dX12_tries_26 (by decide) ?_
    refine lv_ldc2 (v := 20) hx hb E.2.2.1 (E.2.2.2.1 _ (q_in_t9 (i := 191) (by first | rfl | decide +kernel) rfl)) dX12_tries_27 ?_
    have kc_7 : (1 : Int64).toInt = 1 := rfl
    have kc_8 : (20 : Int64).toInt = 20 := rfl
    refine q_ci (q_runS (As := [.long y_6, .long 1, .long 20]) (rest := []) E (hml.trans hl.1.symm) hI (c_X12_isIn l X σ_2 y_6 (1 : Int64) (20 : Int64)) ks_X12_94 rfl ⟨Nat.le_of_ble_eq_true rfl, Nat.le_of_ble_eq_true rfl⟩ ⟨Nat.le_refl _, Nat.le_refl _⟩ rfl (Nat.le_of_ble_eq_true rfl) dX12_tries_30) hI (by decide) (fun r_9 σ_10 H locs hpσ_10 hkσ_10 hI => ?_)
    obtain ⟨ahpσ_10, bhpσ_10, chpσ_10, dhpσ_10⟩ := hpσ_10
    rw [ahpσ_10] at hI
    replace hF := q_letX hF dhpσ_10
    refine q_if_eq (A := r_9.toInt) E rfl (tgt := 51) dX12_tries_33 (by decide) (fun c_11 => ?_) (fun c_11 => ?_)
    · skip
      replace hF := q_ifp hF c_11
      refine lv_aload_n hx hb dX12_tries_51 rfl (lv_at hl 0 rfl) ?_
      refine lv_iconst (v := 5) hx hb dX12_tries_52 (by decide) ?_
      have kc_12 : (5 : Int32).toInt = 5 := rfl
      refine q_ci (q_runV (As := [.int 5]) (rest := []) E (hml.trans hl.1.symm) hI (c_X12_no l X σ_2 a (5 : Int32) ha) kv_X12_74 ha ⟨rfl, by decide⟩ (show vwCl[11]? = some (RX12, TX12, 46) from rfl) rfl ⟨Nat.le_of_ble_eq_true rfl, Nat.le_of_ble_eq_true rfl⟩ ⟨Nat.le_refl _, Nat.le_refl _⟩ rfl (Nat.le_of_ble_eq_true rfl) dX12_tries_53) hI (by decide) (fun r_13 σ_14 H locs hpσ_14 hkσ_14 hI => ?_)
      obtain ⟨ahpσ_14, bhpσ_14, chpσ_14, dhpσ_14⟩ := hpσ_14
      have fr_σ_14 := fr_σ_2.call dhpσ_14 rfl rfl
      replace hF := q_biX hF chpσ_14
      have mcσ_14 := m_cK hkσ_14 hI.1 ha (by decide)
      have fxσ_14 : m_c X σ_14 a = m_c X σ a := (funext mcσ_14).trans fxσ_2
      exact q_retz E hr hlk hI ⟨by omega, by omega⟩ ⟨⟨by omega, by omega⟩, fxσ_14, (hF.trans hout), fr_σ_14⟩ dX12_tries_56
    · skip
      replace hF := q_ifn hF c_11
      refine lv_iload_n hx hb dX12_tries_36 rfl (lv_at hl 2 rfl) ?_
      refine lv_i2l hx hb dX12_tries_37 rfl ?_
      refine lv_topl (fun y_15 ey_15 => ?_)
      replace hF := q_letX hF ey_15
      have ggy_15 := q_rng v2
      have iy_15 : y_15.toInt = v2.toInt := by rw [ey_15]; exact (q_i2l _).trans rfl
      refine lv_lconst (v := 0) hx hb dX12_tries_38 (by decide) ?_
      refine lv_sipush (v := 10000) hx hb dX12_tries_39 (by decide) ?_
      refine lv_iload_n hx hb dX12_tries_42 rfl (lv_at hl 3 rfl) ?_
      refine lv_isub hx hb dX12_tries_43 ?_
      refine lv_topi (fun z_16 ez_16 => ?_)
      replace hF := q_letX hF ez_16
      refine lv_i2l hx hb dX12_tries_44 rfl ?_
      refine lv_topl (fun y_17 ey_17 => ?_)
      replace hF := q_letX hF ey_17
      have ggy_17 := q_rng z_16
      have iy_17 : y_17.toInt = z_16.toInt := by rw [ey_17]; exact (q_i2l _).trans rfl
      have kc_18 : (0 : Int64).toInt = 0 := rfl
      refine q_ci (q_runS (As := [.long y_15, .long 0, .long y_17]) (rest := []) E (hml.trans hl.1.symm) hI (c_X12_isIn l X σ_2 y_15 (0 : Int64) y_17) ks_X12_94 rfl ⟨Nat.le_of_ble_eq_true rfl, Nat.le_of_ble_eq_true rfl⟩ ⟨Nat.le_refl _, Nat.le_refl _⟩ rfl (Nat.le_of_ble_eq_true rfl) dX12_tries_45) hI (by decide) (fun r_19 σ_20 H locs hpσ_20 hkσ_20 hI => ?_)
      obtain ⟨ahpσ_20, bhpσ_20, chpσ_20, dhpσ_20⟩ := hpσ_20
      rw [ahpσ_20] at hI
      replace hF := q_letX hF dhpσ_20
      refine q_if_ne (A := r_19.toInt) E rfl (tgt := 57) dX12_tries_48 (by decide) (fun c_21 => ?_) (fun c_21 => ?_)
      · skip
        replace hF := q_ifn hF c_21
        refine lv_aload_n hx hb dX12_tries_57 rfl (lv_at hl 0 rfl) ?_
        refine gs_X12_35_12 E hI ha dX12_tries_58 ?_
        refine lv_sipush (v := 654) hx hb dX12_tries_61 (by decide) ?_
        refine q_iald E hI (q_tk (k' := 34) hI ha rfl (by decide)) ⟨by decide, rfl⟩ (by decide) (by rw [q_lnk (v := 4650) hI (q_tk (k' := 34) hI ha rfl (by decide)) rfl (by decide)]; decide) dX12_tries_64 ?_
        refine lv_topi (fun f_22 ef_22 => ?_)
        replace hF := q_letX hF ef_22
        have if_22 : f_22.toInt = m_c X σ a 654 := (m_rd ef_22 (by decide)).trans (congrFun fxσ_2 _)
        refine q_if_ne (A := f_22.toInt) E rfl (tgt := 75) dX12_tries_65 (by decide) (fun c_23 => ?_) (fun c_23 => ?_)
        · skip
          replace hF := q_ifn hF c_23
          refine lv_iconst (v := 0) hx hb dX12_tries_75 (by decide) ?_
          refine lv_istore (lv' := [(5, .int 0), (0, .ref a), (1, .int v1), (2, .int v2), (3, .int v3), (4, .int v4)]) hx hb dX12_tries_76 hl (by decide) rfl (fun ls hl => ?_)
          have L_78_26 : ∀ (k_26 : Nat) (x_24 : Int32) (σ_25 : ST) (H : Heap) (locs : List Loc) (ls : Array Slot), (2147483647 - x_24.toInt).toNat < k_26 → (0 ≤ x_24.toInt ∧ x_24.toInt ≤ 654) → (∀ j, 0 ≤ j → j < x_24.toInt → m_of σ_25 (q_rf X a 21) j = m_c X σ a j) → (q_ow [(12, 0), (12, 1), (12, 38), (12, 39), (12, 40), (12, 41), (12, 42), (12, 43), (12, 44), (12, 45), (34, 99), (35, 99), (39, 99)] [(12, 2), (12, 3)] X σ σ_25) → (m_c X σ_25 a = m_c X σ a) → (F_X12_tries_L78_1 X a v3 v2 v4 v1 k_26 x_24 σ_25 = out) → q_I X 1 σ s.heap locs σ_25 H → lv_has ls 8 [(0, .ref a), (1, .int v1), (2, .int v2), (3, .int v3), (4, .int v4), (5, .int x_24)] → W p l e (q_rm 69 1612) s m ([.ref a, .int v1, .int v2, .int v3, .int v4] : List Value).toArray below meth c H locs 0 0 (MQ below (q_Qi X 1 σ (fun (r : Int32) (σ' : ST) => (0 ≤ r.toInt ∧ r.toInt ≤ 1) ∧ (m_c X σ' a = m_c X σ a) ∧ (r, σ') = F_X12_tries X σ a v1 v2 v3 v4 ∧ q_ow [(12, 0), (12, 1), (12, 38), (12, 39), (12, 40), (12, 41), (12, 42), (12, 43), (12, 44), (12, 45), (34, 99), (35, 99), (39, 99)] [(12, 2), (12, 3)] X σ σ')) ([.ref a, .int v1, .int v2, .int v3, .int v4] : List Value).toArray s 0 0 (q_reg X)) (F0 m 78 ls []) := by
            clear hF
            intro k_26
            induction k_26 with
            | zero =>
              intro x_24 σ_25 H locs ls hms
              exact absurd hms (Nat.not_lt_zero _)
            | succ k_26 ih78 =>
              intro x_24 σ_25 H locs ls hm78 hge78 klσ_25 fr_σ_25 fxσ_25 hF hI hl
              replace hF := (F_X12_tries_L78_1_s).symm.trans hF
              unfold F_X12_tries_B78_1 at hF
              refine lv_iload hx hb dX12_tries_78 (lv_at hl 5 rfl) ?_
              refine lv_sipush (v := 654) hx hb dX12_tries_80 (by decide) ?_
              have gc_27_x_24 := q_rng x_24
              refine q_icmp_ge (A := x_24.toInt) (B := 654) E rfl (by decide) (tgt := 106) dX12_tries_83 (by decide) (fun c_27 => ?_) (fun c_27 => ?_)
              · skip
                replace hF := q_ifn hF (Int.not_lt.mpr c_27)
                skip
                have kfσ_25 : ∀ j, 0 ≤ j → j < 654 → m_of σ_25 (q_rf X a 21) j = m_c X σ a j := fun j h0 h1 => klσ_25 j h0 (by omega)
                refine lv_iconst (v := 0) hx hb dX12_tries_106 (by decide) ?_
                refine lv_istore (lv' := [(5, .int 0), (0, .ref a), (1, .int v1), (2, .int v2), (3, .int v3), (4, .int v4)]) hx hb dX12_tries_107 hl (by decide) rfl (fun ls hl => ?_)
                refine lv_iconst (v := 0) hx hb dX12_tries_109 (by decide) ?_
                refine lv_istore (lv' := [(6, .int 0), (5, .int 0), (0, .ref a), (1, .int v1), (2, .int v2), (3, .int v3), (4, .int v4)]) hx hb dX12_tries_110 hl (by decide) rfl (fun ls hl => ?_)
                have L_112_31 : ∀ (k_31 : Nat) (x_28 : Int32) (x_29 : Int32) (σ_30 : ST) (H : Heap) (locs : List Loc) (ls : Array Slot), (2147483647 - x_29.toInt).toNat < k_31 → (0 ≤ x_29.toInt) → (q_ow [(12, 0), (12, 1), (12, 38), (12, 39), (12, 40), (12, 41), (12, 42), (12, 43), (12, 44), (12, 45), (34, 99), (35, 99), (39, 99)] [(12, 2), (12, 3)] X σ σ_30) → (m_c X σ_30 a = m_c X σ a) → (∀ j, 0 ≤ j → j < 654 → m_of σ_30 (q_rf X a 21) j = m_c X σ a j) → (F_X12_tries_L112_3 X v3 v2 a v4 v1 k_31 x_28 x_29 σ_30 = out) → q_I X 1 σ s.heap locs σ_30 H → lv_has ls 8 [(0, .ref a), (1, .int v1), (2, .int v2), (3, .int v3), (4, .int v4), (5, .int x_28), (6, .int x_29)] → W p l e (q_rm 69 1612) s m ([.ref a, .int v1, .int v2, .int v3, .int v4] : List Value).toArray below meth c H locs 0 0 (MQ below (q_Qi X 1 σ (fun (r : Int32) (σ' : ST) => (0 ≤ r.toInt ∧ r.toInt ≤ 1) ∧ (m_c X σ' a = m_c X σ a) ∧ (r, σ') = F_X12_tries X σ a v1 v2 v3 v4 ∧ q_ow [(12, 0), (12, 1), (12, 38), (12, 39), (12, 40), (12, 41), (12, 42), (12, 43), (12, 44), (12, 45), (34, 99), (35, 99), (39, 99)] [(12, 2), (12, 3)] X σ σ')) ([.ref a, .int v1, .int v2, .int v3, .int v4] : List Value).toArray s 0 0 (q_reg X)) (F0 m 112 ls []) := by
                  clear hF
                  intro k_31
                  induction k_31 with
                  | zero =>
                    intro x_28 x_29 σ_30 H locs ls hms
                    try clear kfσ_25
                    exact absurd hms (Nat.not_lt_zero _)
                  | succ k_31 ih112 =>
                    intro x_28 x_29 σ_30 H locs ls hm112 hge112 fr_σ_30 fxσ_30 kfσ_30 hF hI hl
                    replace hF := (F_X12_tries_L112_3_s).symm.trans hF
                    unfold F_X12_tries_B112_3 at hF
                    refine lv_iload hx hb dX12_tries_112 (lv_at hl 6 rfl) ?_
                    refine lv_iload_n hx hb dX12_tries_114 rfl (lv_at hl 3 rfl) ?_
                    have gc_32_x_29 := q_rng x_29
                    have gc_32_v3 := q_rng v3
                    refine q_icmp_ge (A := x_29.toInt) (B := v3.toInt) E rfl rfl (tgt := 197) dX12_tries_115 (by decide) (fun c_32 => ?_) (fun c_32 => ?_)
                    · skip
                      replace hF := q_ifn hF (Int.not_lt.mpr c_32)
                      unfold F_X12_tries_E197_4 at hF
                      refine lv_aload_n hx hb dX12_tries_197 rfl (lv_at hl 0 rfl) ?_
                      refine lv_iload hx hb dX12_tries_198 (lv_at hl 5 rfl) ?_
                      refine lv_i2l hx hb dX12_tries_200 rfl ?_
                      refine lv_topl (fun y_33 ey_33 => ?_)
                      replace hF := q_letX hF ey_33
                      have ggy_33 := q_rng x_28
                      have iy_33 : y_33.toInt = x_28.toInt := by rw [ey_33]; exact (q_i2l _).trans rfl
                      refine lv_iload_n hx hb dX12_tries_201 rfl (lv_at hl 3 rfl) ?_
                      refine lv_i2l hx hb dX12_tries_202 rfl ?_
                      refine lv_topl (fun y_34 ey_34 => ?_)
                      replace hF := q_letX hF ey_34
                      have ggy_34 := q_rng v3
                      have iy_34 : y_34.toInt = v3.toInt := by rw [ey_34]; exact (q_i2l _).trans rfl
                      refine q_ci (q_runV (As := [.long y_33, .long y_34]) (rest := []) E (hml.trans hl.1.symm) hI (c_X12_fraction l X σ_30 a y_33 y_34 ha (by omega)) kv_X12_361 ha ⟨rfl, by decide⟩ (show vwCl[11]? = some (RX12, TX12, 46) from rfl) rfl ⟨Nat.le_of_ble_eq_true rfl, Nat.le_of_ble_eq_true rfl⟩ ⟨Nat.le_refl _, Nat.le_refl _⟩ rfl (Nat.le_of_ble_eq_true rfl) dX12_tries_203) hI (by decide) (fun r_35 σ_36 H locs hpσ_36 hkσ_36 hI => ?_)
                      obtain ⟨ahpσ_36, bhpσ_36, chpσ_36⟩ := hpσ_36
                      have fr_σ_36 := fr_σ_30.call chpσ_36 rfl rfl
                      replace hF := q_biX hF bhpσ_36
                      have mcσ_36 := m_cK hkσ_36 hI.1 ha (by decide)
                      have fxσ_36 : m_c X σ_36 a = m_c X σ a := (funext mcσ_36).trans fxσ_30
                      exact q_retz E hr hlk hI ⟨by omega, by omega⟩ ⟨⟨by omega, by omega⟩, fxσ_36, (hF.trans hout), fr_σ_36⟩ dX12_tries_206
                    · skip
                      replace hF := q_ifp hF c_32
                      refine lv_aload_n hx hb dX12_tries_118 rfl (lv_at hl 0 rfl) ?_
                      refine lv_iload_n hx hb dX12_tries_119 rfl (lv_at hl 2 rfl) ?_
                      refine lv_iload hx hb dX12_tries_120 (lv_at hl 6 rfl) ?_
                      refine lv_iadd hx hb dX12_tries_122 ?_
                      refine lv_topi (fun z_37 ez_37 => ?_)
                      replace hF := q_letX hF ez_37
                      refine q_cv (q_runV (As := [.int z_37]) (rest := []) E (hml.trans hl.1.symm) hI (c_X12_plays l X σ_30 a z_37 n ha (by rw [fxσ_30]; exact hG) (by rw [fxσ_30]; exact hW) (by omega)) kv_X12_443 ha ⟨rfl, by decide⟩ (show vwCl[11]? = some (RX12, TX12, 46) from rfl) rfl ⟨Nat.le_of_ble_eq_true rfl, Nat.le_of_ble_eq_true rfl⟩ ⟨Nat.le_refl _, Nat.le_refl _⟩ rfl (Nat.le_of_ble_eq_true rfl) dX12_tries_123) hI (by decide) (fun σ_39 H locs hpσ_39 hkσ_39 hI => ?_)
                      obtain ⟨ahpσ_39, bhpσ_39, chpσ_39, dhpσ_39, ehpσ_39, fhpσ_39⟩ := hpσ_39
                      have fr_σ_39 := fr_σ_30.call fhpσ_39 rfl rfl
                      replace hF := q_letX hF ehpσ_39
                      have gσ_39 : m_G (m_c X σ_39 a) := ahpσ_39
                      have kqσ_39 : ∀ j, 654 ≤ j → m_c X σ_39 a j = m_c X σ a j := (fun j h => (chpσ_39 j h).trans (congrFun fxσ_30 j))
                      have kfσ_39 : ∀ j, 0 ≤ j → j < 654 → m_of σ_39 (q_rf X a 21) j = m_c X σ a j := (fun j h0 h1 => (congrArg Int32.toInt (dhpσ_39 (q_rf X a 21) j.toNat (q_tk (k' := 35) hI ha rfl (by decide)))).trans (kfσ_30 j h0 h1))
                      refine lv_iload hx hb dX12_tries_126 (lv_at hl 5 rfl) ?_
                      refine lv_iload hx hb dX12_tries_128 (lv_at hl 4 rfl) ?_
                      refine q_if_eq (A := v4.toInt) E rfl (tgt := 152) dX12_tries_130 (by decide) (fun c_40 => ?_) (fun c_40 => ?_)
                      · skip
                        replace hF := q_ifp hF c_40
                        refine lv_aload_n hx hb dX12_tries_152 rfl (lv_at hl 0 rfl) ?_
                        refine lv_iload_n hx hb dX12_tries_153 rfl (lv_at hl 1 rfl) ?_
                        refine q_ci (q_runV (As := [.int v1]) (rest := [.int x_28]) E (hml.trans hl.1.symm) hI (c_X12_cardsOf l X σ_39 a v1 ha gσ_39 (by omega)) kv_X12_293 ha ⟨rfl, by decide⟩ (show vwCl[11]? = some (RX12, TX12, 46) from rfl) rfl ⟨Nat.le_of_ble_eq_true rfl, Nat.le_of_ble_eq_true rfl⟩ ⟨Nat.le_refl _, Nat.le_refl _⟩ rfl (Nat.le_of_ble_eq_true rfl) dX12_tries_154) hI (by decide) (fun r_41 σ_42 H locs hpσ_42 hkσ_42 hI => ?_)
                        obtain ⟨ahpσ_42, bhpσ_42, chpσ_42, dhpσ_42⟩ := hpσ_42
                        rw [ahpσ_42] at hI
                        replace hF := q_letX hF dhpσ_42
                        refine lv_iadd hx hb dX12_tries_157 ?_
                        refine lv_topi (fun z_43 ez_43 => ?_)
                        replace hF := q_letX hF ez_43
                        refine lv_istore (lv' := [(5, .int z_43), (0, .ref a), (1, .int v1), (2, .int v2), (3, .int v3), (4, .int v4), (6, .int x_29)]) hx hb dX12_tries_158 hl (by decide) rfl (fun ls hl => ?_)
                        refine lv_iconst (v := 0) hx hb dX12_tries_160 (by decide) ?_
                        refine lv_istore (lv' := [(7, .int 0), (5, .int z_43), (0, .ref a), (1, .int v1), (2, .int v2), (3, .int v3), (4, .int v4), (6, .int x_29)]) hx hb dX12_tries_161 hl (by decide) rfl (fun ls hl => ?_)
                        have L_163_46 : ∀ (k_46 : Nat) (x_44 : Int32) (σ_45 : ST) (H : Heap) (locs : List Loc) (ls : Array Slot), (2147483647 - x_44.toInt).toNat < k_46 → (0 ≤ x_44.toInt ∧ x_44.toInt ≤ 654) → (∀ j, 0 ≤ j → j < x_44.toInt → m_c X σ_45 a j = m_c X σ a j) → (q_ow [(12, 0), (12, 1), (12, 38), (12, 39), (12, 40), (12, 41), (12, 42), (12, 43), (12, 44), (12, 45), (34, 99), (35, 99), (39, 99)] [(12, 2), (12, 3)] X σ σ_45) → (∀ j, 654 ≤ j → m_c X σ_45 a j = m_c X σ a j) → (∀ j, 0 ≤ j → j < 654 → m_of σ_45 (q_rf X a 21) j = m_c X σ a j) → (F_X12_tries_L163_5 X a x_29 (F_X12_tries_L112_3 X v3 v2 a v4 v1 k_31) z_43 k_46 x_44 σ_45 = out) → q_I X 1 σ s.heap locs σ_45 H → lv_has ls 8 [(0, .ref a), (1, .int v1), (2, .int v2), (3, .int v3), (4, .int v4), (5, .int z_43), (6, .int x_29), (7, .int x_44)] → W p l e (q_rm 69 1612) s m ([.ref a, .int v1, .int v2, .int v3, .int v4] : List Value).toArray below meth c H locs 0 0 (MQ below (q_Qi X 1 σ (fun (r : Int32) (σ' : ST) => (0 ≤ r.toInt ∧ r.toInt ≤ 1) ∧ (m_c X σ' a = m_c X σ a) ∧ (r, σ') = F_X12_tries X σ a v1 v2 v3 v4 ∧ q_ow [(12, 0), (12, 1), (12, 38), (12, 39), (12, 40), (12, 41), (12, 42), (12, 43), (12, 44), (12, 45), (34, 99), (35, 99), (39, 99)] [(12, 2), (12, 3)] X σ σ')) ([.ref a, .int v1, .int v2, .int v3, .int v4] : List Value).toArray s 0 0 (q_reg X)) (F0 m 163 ls []) := by
                          clear hF
                          intro k_46
                          induction k_46 with
                          | zero =>
                            intro x_44 σ_45 H locs ls hms
                            try clear ahpσ_42
                            exact absurd hms (Nat.not_lt_zero _)
                          | succ k_46 ih163 =>
                            intro x_44 σ_45 H locs ls hm163 hge163 rsσ_45 fr_σ_45 kqσ_45 kfσ_45 hF hI hl
                            replace hF := (F_X12_tries_L163_5_s).symm.trans hF
                            unfold F_X12_tries_B163_5 at hF
                            refine lv_iload hx hb dX12_tries_163 (lv_at hl 7 rfl) ?_
                            refine lv_sipush (v := 654) hx hb dX12_tries_165 (by decide) ?_
                            have gc_47_x_44 := q_rng x_44
                            refine q_icmp_ge (A := x_44.toInt) (B := 654) E rfl (by decide) (tgt := 191) dX12_tries_168 (by decide) (fun c_47 => ?_) (fun c_47 => ?_)
                            · skip
                              replace hF := q_ifn hF (Int.not_lt.mpr c_47)
                              unfold F_X12_tries_E191_6 at hF
                              have fxσ_45 : m_c X σ_45 a = m_c X σ a := m_c_ext (fun j hj => if h : j < 654 then rsσ_45 j hj (by omega) else kqσ_45 j (by omega))
                              obtain ⟨z_48, ez_48⟩ : ∃ y : Int32, y = x_29 + 1 := ⟨_, rfl⟩
                              replace hF := q_letX hF ez_48
                              refine lv_iinc (v := z_48) (lv' := [(6, .int z_48), (0, .ref a), (1, .int v1), (2, .int v2), (3, .int v3), (4, .int v4), (5, .int z_43), (7, .int x_44)]) hx hb dX12_tries_191 hl (k := 6) rfl (by rw [ez_48]; rfl) (by decide) rfl (fun ls hl => ?_)
                              have iz_48 : z_48.toInt = x_29.toInt + 1 := q_inc ez_48 (by omega)
                              refine lv_goto (tgt := 112) hx hb dX12_tries_194 (by decide) ?_
                              exact ih112 z_43 z_48 σ_45 _ _ ls (by omega) (by omega) fr_σ_45 fxσ_45 kfσ_45 hF hI (lv_sub hl [1, 2, 3, 4, 5, 6, 0] rfl)
                            · skip
                              replace hF := q_ifp hF c_47
                              refine lv_aload_n hx hb dX12_tries_171 rfl (lv_at hl 0 rfl) ?_
                              refine gs_X12_35_12 E hI ha dX12_tries_172 ?_
                              refine lv_iload hx hb dX12_tries_175 (lv_at hl 7 rfl) ?_
                              refine lv_aload_n hx hb dX12_tries_177 rfl (lv_at hl 0 rfl) ?_
                              refine gs_X12_38_12 E hI ha dX12_tries_178 ?_
                              refine lv_iload hx hb dX12_tries_181 (lv_at hl 7 rfl) ?_
                              refine q_iald E hI (q_tk (k' := 35) hI ha rfl (by decide)) ⟨by decide, rfl⟩ (by omega) (by rw [q_lnk (v := 654) hI (q_tk (k' := 35) hI ha rfl (by decide)) rfl (by decide)]; omega) dX12_tries_183 ?_
                              refine lv_topi (fun f_49 ef_49 => ?_)
                              replace hF := q_letX hF ef_49
                              have krf_49 : f_49.toInt = m_of σ_45 (q_rf X a 21) x_44.toInt := by rw [ef_49]; rfl
                              refine q_iastN E hI (q_tk (k' := 34) hI ha rfl (by decide)) ⟨by decide, rfl⟩ (by omega) (by rw [q_lnk (v := 4650) hI (q_tk (k' := 34) hI ha rfl (by decide)) rfl (by decide)]; omega) (show 1 < 2 by decide) (q_inU rfl) dX12_tries_184 (fun H locs σ_50 hσ_50 hI => ?_)
                              replace hF := q_letX hF hσ_50
                              have fr_σ_50 := fr_σ_45.si hσ_50 (q_tk (k' := 34) hI ha rfl (by decide)) rfl
                              have mcσ_50 := m_wr (v := f_49) (A := x_44.toInt) hσ_50 rfl (by omega)
                              have kqσ_50 : ∀ j, 654 ≤ j → m_c X σ_50 a j = m_c X σ a j := fun j h => by rw [mcσ_50 j (by omega), if_neg (by omega)] <;> exact kqσ_45 j h
                              have kfσ_50 : ∀ j, 0 ≤ j → j < 654 → m_of σ_50 (q_rf X a 21) j = m_c X σ a j := fun j h0 h1 => (m_ofo hσ_50 (m_ne (q_tk (f := 21) (k' := 35) hI ha rfl (by decide)) (q_tk (k' := 34) hI ha rfl (by decide)) (by decide)) j).trans (kfσ_45 j h0 h1)
                              have rsσ_50x := rsσ_45
                              have kvσ_50 : (f_49).toInt = m_c X σ a x_44.toInt := by rw [krf_49]; exact kfσ_45 _ (by omega) (by omega)
                              obtain ⟨z_51, ez_51⟩ : ∃ y : Int32, y = x_44 + 1 := ⟨_, rfl⟩
                              replace hF := q_letX hF ez_51
                              refine lv_iinc (v := z_51) (lv' := [(7, .int z_51), (0, .ref a), (1, .int v1), (2, .int v2), (3, .int v3), (4, .int v4), (5, .int z_43), (6, .int x_29)]) hx hb dX12_tries_185 hl (k := 7) rfl (by rw [ez_51]; rfl) (by decide) rfl (fun ls hl => ?_)
                              have iz_51 : z_51.toInt = x_44.toInt + 1 := q_inc ez_51 (by omega)
                              refine lv_goto (tgt := 163) hx hb dX12_tries_188 (by decide) ?_
                              exact ih163 z_51 σ_50 _ _ ls (by omega) (by omega) (fun j h0 h1 => (by rw [mcσ_50 j h0]; split; (rename_i q; rw [q]; exact kvσ_50); exact rsσ_50x j h0 (by omega))) fr_σ_50 kqσ_50 kfσ_50 hF hI (lv_sub hl [1, 2, 3, 4, 5, 6, 7, 0] rfl)
                        have kc_52 : (0 : Int32).toInt = 0 := rfl
                        exact L_163_46 ((2147483647 - (0 : Int32).toInt).toNat + 1) 0 σ_39 _ _ ls (Nat.lt_succ_self _) (by decide) (fun j h0 h1 => by have q : (0 : Int32).toInt = 0 := rfl; omega) fr_σ_39 kqσ_39 kfσ_39 hF hI (lv_sub hl [2, 3, 4, 5, 6, 1, 7, 0] rfl)
                      · skip
                        replace hF := q_ifn hF c_40
                        refine lv_aload_n hx hb dX12_tries_133 rfl (lv_at hl 0 rfl) ?_
                        refine gs_X12_35_12 E hI ha dX12_tries_134 ?_
                        refine lv_bipush (v := 8) hx hb dX12_tries_137 (by decide) ?_
                        refine q_iald E hI (q_tk (k' := 34) hI ha rfl (by decide)) ⟨by decide, rfl⟩ (by decide) (by rw [q_lnk (v := 4650) hI (q_tk (k' := 34) hI ha rfl (by decide)) rfl (by decide)]; decide) dX12_tries_139 ?_
                        refine lv_topi (fun f_53 ef_53 => ?_)
                        replace hF := q_letX hF ef_53
                        have if_53 : f_53.toInt = m_c X σ_39 a 8 := m_rd ef_53 (by decide)
                        refine lv_iload_n hx hb dX12_tries_140 rfl (lv_at hl 1 rfl) ?_
                        have gc_54_f_53 := q_rng f_53
                        have gc_54_v1 := q_rng v1
                        refine q_icmp_ne (A := f_53.toInt) (B := v1.toInt) E rfl rfl (tgt := 148) dX12_tries_141 (by decide) (fun c_54 => ?_) (fun c_54 => ?_)
                        · skip
                          replace hF := q_ifn hF c_54
                          refine lv_iconst (v := 0) hx hb dX12_tries_148 (by decide) ?_
                          refine lv_goto (tgt := 157) hx hb dX12_tries_149 (by decide) ?_
                          refine lv_iadd hx hb dX12_tries_157 ?_
                          refine lv_topi (fun z_55 ez_55 => ?_)
                          replace hF := q_letX hF ez_55
                          refine lv_istore (lv' := [(5, .int z_55), (0, .ref a), (1, .int v1), (2, .int v2), (3, .int v3), (4, .int v4), (6, .int x_29)]) hx hb dX12_tries_158 hl (by decide) rfl (fun ls hl => ?_)
                          refine lv_iconst (v := 0) hx hb dX12_tries_160 (by decide) ?_
                          refine lv_istore (lv' := [(7, .int 0), (5, .int z_55), (0, .ref a), (1, .int v1), (2, .int v2), (3, .int v3), (4, .int v4), (6, .int x_29)]) hx hb dX12_tries_161 hl (by decide) rfl (fun ls hl => ?_)
                          have L_163_58 : ∀ (k_58 : Nat) (x_56 : Int32) (σ_57 : ST) (H : Heap) (locs : List Loc) (ls : Array Slot), (2147483647 - x_56.toInt).toNat < k_58 → (0 ≤ x_56.toInt ∧ x_56.toInt ≤ 654) → (∀ j, 0 ≤ j → j < x_56.toInt → m_c X σ_57 a j = m_c X σ a j) → (q_ow [(12, 0), (12, 1), (12, 38), (12, 39), (12, 40), (12, 41), (12, 42), (12, 43), (12, 44), (12, 45), (34, 99), (35, 99), (39, 99)] [(12, 2), (12, 3)] X σ σ_57) → (∀ j, 654 ≤ j → m_c X σ_57 a j = m_c X σ a j) → (∀ j, 0 ≤ j → j < 654 → m_of σ_57 (q_rf X a 21) j = m_c X σ a j) → (F_X12_tries_L163_7 X a x_29 (F_X12_tries_L112_3 X v3 v2 a v4 v1 k_31) z_55 k_58 x_56 σ_57 = out) → q_I X 1 σ s.heap locs σ_57 H → lv_has ls 8 [(0, .ref a), (1, .int v1), (2, .int v2), (3, .int v3), (4, .int v4), (5, .int z_55), (6, .int x_29), (7, .int x_56)] → W p l e (q_rm 69 1612) s m ([.ref a, .int v1, .int v2, .int v3, .int v4] : List Value).toArray below meth c H locs 0 0 (MQ below (q_Qi X 1 σ (fun (r : Int32) (σ' : ST) => (0 ≤ r.toInt ∧ r.toInt ≤ 1) ∧ (m_c X σ' a = m_c X σ a) ∧ (r, σ') = F_X12_tries X σ a v1 v2 v3 v4 ∧ q_ow [(12, 0), (12, 1), (12, 38), (12, 39), (12, 40), (12, 41), (12, 42), (12, 43), (12, 44), (12, 45), (34, 99), (35, 99), (39, 99)] [(12, 2), (12, 3)] X σ σ')) ([.ref a, .int v1, .int v2, .int v3, .int v4] : List Value).toArray s 0 0 (q_reg X)) (F0 m 163 ls []) := by
                            clear hF
                            intro k_58
                            induction k_58 with
                            | zero =>
                              intro x_56 σ_57 H locs ls hms
                              exact absurd hms (Nat.not_lt_zero _)
                            | succ k_58 ih163 =>
                              intro x_56 σ_57 H locs ls hm163 hge163 rsσ_57 fr_σ_57 kqσ_57 kfσ_57 hF hI hl
                              replace hF := (F_X12_tries_L163_7_s).symm.trans hF
                              unfold F_X12_tries_B163_7 at hF
                              refine lv_iload hx hb dX12_tries_163 (lv_at hl 7 rfl) ?_
                              refine lv_sipush (v := 654) hx hb dX12_tries_165 (by decide) ?_
                              have gc_59_x_56 := q_rng x_56
                              refine q_icmp_ge (A := x_56.toInt) (B := 654) E rfl (by decide) (tgt := 191) dX12_tries_168 (by decide) (fun c_59 => ?_) (fun c_59 => ?_)
                              · skip
                                replace hF := q_ifn hF (Int.not_lt.mpr c_59)
                                unfold F_X12_tries_E191_8 at hF
                                have fxσ_57 : m_c X σ_57 a = m_c X σ a := m_c_ext (fun j hj => if h : j < 654 then rsσ_57 j hj (by omega) else kqσ_57 j (by omega))
                                obtain ⟨z_60, ez_60⟩ : ∃ y : Int32, y = x_29 + 1 := ⟨_, rfl⟩
                                replace hF := q_letX hF ez_60
                                refine lv_iinc (v := z_60) (lv' := [(6, .int z_60), (0, .ref a), (1, .int v1), (2, .int v2), (3, .int v3), (4, .int v4), (5, .int z_55), (7, .int x_56)]) hx hb dX12_tries_191 hl (k := 6) rfl (by rw [ez_60]; rfl) (by decide) rfl (fun ls hl => ?_)
                                have iz_60 : z_60.toInt = x_29.toInt + 1 := q_inc ez_60 (by omega)
                                refine lv_goto (tgt := 112) hx hb dX12_tries_194 (by decide) ?_
                                exact ih112 z_55 z_60 σ_57 _ _ ls (by omega) (by omega) fr_σ_57 fxσ_57 kfσ_57 hF hI (lv_sub hl [1, 2, 3, 4, 5, 6, 0] rfl)
                              · skip
                                replace hF := q_ifp hF c_59
                                refine lv_aload_n hx hb dX12_tries_171 rfl (lv_at hl 0 rfl) ?_
                                refine gs_X12_35_12 E hI ha dX12_tries_172 ?_
                                refine lv_iload hx hb dX12_tries_175 (lv_at hl 7 rfl) ?_
                                refine lv_aload_n hx hb dX12_tries_177 rfl (lv_at hl 0 rfl) ?_
                                refine gs_X12_38_12 E hI ha dX12_tries_178 ?_
                                refine lv_iload hx hb dX12_tries_181 (lv_at hl 7 rfl) ?_
                                refine q_iald E hI (q_tk (k' := 35) hI ha rfl (by decide)) ⟨by decide, rfl⟩ (by omega) (by rw [q_lnk (v := 654) hI (q_tk (k' := 35) hI ha rfl (by decide)) rfl (by decide)]; omega) dX12_tries_183 ?_
                                refine lv_topi (fun f_61 ef_61 => ?_)
                                replace hF := q_letX hF ef_61
                                have krf_61 : f_61.toInt = m_of σ_57 (q_rf X a 21) x_56.toInt := by rw [ef_61]; rfl
                                refine q_iastN E hI (q_tk (k' := 34) hI ha rfl (by decide)) ⟨by decide, rfl⟩ (by omega) (by rw [q_lnk (v := 4650) hI (q_tk (k' := 34) hI ha rfl (by decide)) rfl (by decide)]; omega) (show 1 < 2 by decide) (q_inU rfl) dX12_tries_184 (fun H locs σ_62 hσ_62 hI => ?_)
                                replace hF := q_letX hF hσ_62
                                have fr_σ_62 := fr_σ_57.si hσ_62 (q_tk (k' := 34) hI ha rfl (by decide)) rfl
                                have mcσ_62 := m_wr (v := f_61) (A := x_56.toInt) hσ_62 rfl (by omega)
                                have kqσ_62 : ∀ j, 654 ≤ j → m_c X σ_62 a j = m_c X σ a j := fun j h => by rw [mcσ_62 j (by omega), if_neg (by omega)] <;> exact kqσ_57 j h
                                have kfσ_62 : ∀ j, 0 ≤ j → j < 654 → m_of σ_62 (q_rf X a 21) j = m_c X σ a j := fun j h0 h1 => (m_ofo hσ_62 (m_ne (q_tk (f := 21) (k' := 35) hI ha rfl (by decide)) (q_tk (k' := 34) hI ha rfl (by decide)) (by decide)) j).trans (kfσ_57 j h0 h1)
                                have rsσ_62x := rsσ_57
                                have kvσ_62 : (f_61).toInt = m_c X σ a x_56.toInt := by rw [krf_61]; exact kfσ_57 _ (by omega) (by omega)
                                obtain ⟨z_63, ez_63⟩ : ∃ y : Int32, y = x_56 + 1 := ⟨_, rfl⟩
                                replace hF := q_letX hF ez_63
                                refine lv_iinc (v := z_63) (lv' := [(7, .int z_63), (0, .ref a), (1, .int v1), (2, .int v2), (3, .int v3), (4, .int v4), (5, .int z_55), (6, .int x_29)]) hx hb dX12_tries_185 hl (k := 7) rfl (by rw [ez_63]; rfl) (by decide) rfl (fun ls hl => ?_)
                                have iz_63 : z_63.toInt = x_56.toInt + 1 := q_inc ez_63 (by omega)
                                refine lv_goto (tgt := 163) hx hb dX12_tries_188 (by decide) ?_
                                exact ih163 z_63 σ_62 _ _ ls (by omega) (by omega) (fun j h0 h1 => (by rw [mcσ_62 j h0]; split; (rename_i q; rw [q]; exact kvσ_62); exact rsσ_62x j h0 (by omega))) fr_σ_62 kqσ_62 kfσ_62 hF hI (lv_sub hl [1, 2, 3, 4, 5, 6, 7, 0] rfl)
                          have kc_64 : (0 : Int32).toInt = 0 := rfl
                          exact L_163_58 ((2147483647 - (0 : Int32).toInt).toNat + 1) 0 σ_39 _ _ ls (Nat.lt_succ_self _) (by decide) (fun j h0 h1 => by have q : (0 : Int32).toInt = 0 := rfl; omega) fr_σ_39 kqσ_39 kfσ_39 hF hI (lv_sub hl [2, 3, 4, 5, 6, 1, 7, 0] rfl)
                        · skip
                          replace hF := q_ifp hF c_54
                          refine lv_iconst (v := 1) hx hb dX12_tries_144 (by decide) ?_
                          refine lv_goto (tgt := 157) hx hb dX12_tries_145 (by decide) ?_
                          refine lv_iadd hx hb dX12_tries_157 ?_
                          refine lv_topi (fun z_65 ez_65 => ?_)
                          replace hF := q_letX hF ez_65
                          refine lv_istore (lv' := [(5, .int z_65), (0, .ref a), (1, .int v1), (2, .int v2), (3, .int v3), (4, .int v4), (6, .int x_29)]) hx hb dX12_tries_158 hl (by decide) rfl (fun ls hl => ?_)
                          refine lv_iconst (v := 0) hx hb dX12_tries_160 (by decide) ?_
                          refine lv_istore (lv' := [(7, .int 0), (5, .int z_65), (0, .ref a), (1, .int v1), (2, .int v2), (3, .int v3), (4, .int v4), (6, .int x_29)]) hx hb dX12_tries_161 hl (by decide) rfl (fun ls hl => ?_)
                          have L_163_68 : ∀ (k_68 : Nat) (x_66 : Int32) (σ_67 : ST) (H : Heap) (locs : List Loc) (ls : Array Slot), (2147483647 - x_66.toInt).toNat < k_68 → (0 ≤ x_66.toInt ∧ x_66.toInt ≤ 654) → (∀ j, 0 ≤ j → j < x_66.toInt → m_c X σ_67 a j = m_c X σ a j) → (q_ow [(12, 0), (12, 1), (12, 38), (12, 39), (12, 40), (12, 41), (12, 42), (12, 43), (12, 44), (12, 45), (34, 99), (35, 99), (39, 99)] [(12, 2), (12, 3)] X σ σ_67) → (∀ j, 654 ≤ j → m_c X σ_67 a j = m_c X σ a j) → (∀ j, 0 ≤ j → j < 654 → m_of σ_67 (q_rf X a 21) j = m_c X σ a j) → (F_X12_tries_L163_9 X a x_29 (F_X12_tries_L112_3 X v3 v2 a v4 v1 k_31) z_65 k_68 x_66 σ_67 = out) → q_I X 1 σ s.heap locs σ_67 H → lv_has ls 8 [(0, .ref a), (1, .int v1), (2, .int v2), (3, .int v3), (4, .int v4), (5, .int z_65), (6, .int x_29), (7, .int x_66)] → W p l e (q_rm 69 1612) s m ([.ref a, .int v1, .int v2, .int v3, .int v4] : List Value).toArray below meth c H locs 0 0 (MQ below (q_Qi X 1 σ (fun (r : Int32) (σ' : ST) => (0 ≤ r.toInt ∧ r.toInt ≤ 1) ∧ (m_c X σ' a = m_c X σ a) ∧ (r, σ') = F_X12_tries X σ a v1 v2 v3 v4 ∧ q_ow [(12, 0), (12, 1), (12, 38), (12, 39), (12, 40), (12, 41), (12, 42), (12, 43), (12, 44), (12, 45), (34, 99), (35, 99), (39, 99)] [(12, 2), (12, 3)] X σ σ')) ([.ref a, .int v1, .int v2, .int v3, .int v4] : List Value).toArray s 0 0 (q_reg X)) (F0 m 163 ls []) := by
                            clear hF
                            intro k_68
                            induction k_68 with
                            | zero =>
                              intro x_66 σ_67 H locs ls hms
                              exact absurd hms (Nat.not_lt_zero _)
                            | succ k_68 ih163 =>
                              intro x_66 σ_67 H locs ls hm163 hge163 rsσ_67 fr_σ_67 kqσ_67 kfσ_67 hF hI hl
                              replace hF := (F_X12_tries_L163_9_s).symm.trans hF
                              unfold F_X12_tries_B163_9 at hF
                              refine lv_iload hx hb dX12_tries_163 (lv_at hl 7 rfl) ?_
                              refine lv_sipush (v := 654) hx hb dX12_tries_165 (by decide) ?_
                              have gc_69_x_66 := q_rng x_66
                              refine q_icmp_ge (A := x_66.toInt) (B := 654) E rfl (by decide) (tgt := 191) dX12_tries_168 (by decide) (fun c_69 => ?_) (fun c_69 => ?_)
                              · skip
                                replace hF := q_ifn hF (Int.not_lt.mpr c_69)
                                unfold F_X12_tries_E191_10 at hF
                                have fxσ_67 : m_c X σ_67 a = m_c X σ a := m_c_ext (fun j hj => if h : j < 654 then rsσ_67 j hj (by omega) else kqσ_67 j (by omega))
                                obtain ⟨z_70, ez_70⟩ : ∃ y : Int32, y = x_29 + 1 := ⟨_, rfl⟩
                                replace hF := q_letX hF ez_70
                                refine lv_iinc (v := z_70) (lv' := [(6, .int z_70), (0, .ref a), (1, .int v1), (2, .int v2), (3, .int v3), (4, .int v4), (5, .int z_65), (7, .int x_66)]) hx hb dX12_tries_191 hl (k := 6) rfl (by rw [ez_70]; rfl) (by decide) rfl (fun ls hl => ?_)
                                have iz_70 : z_70.toInt = x_29.toInt + 1 := q_inc ez_70 (by omega)
                                refine lv_goto (tgt := 112) hx hb dX12_tries_194 (by decide) ?_
                                exact ih112 z_65 z_70 σ_67 _ _ ls (by omega) (by omega) fr_σ_67 fxσ_67 kfσ_67 hF hI (lv_sub hl [1, 2, 3, 4, 5, 6, 0] rfl)
                              · skip
                                replace hF := q_ifp hF c_69
                                refine lv_aload_n hx hb dX12_tries_171 rfl (lv_at hl 0 rfl) ?_
                                refine gs_X12_35_12 E hI ha dX12_tries_172 ?_
                                refine lv_iload hx hb dX12_tries_175 (lv_at hl 7 rfl) ?_
                                refine lv_aload_n hx hb dX12_tries_177 rfl (lv_at hl 0 rfl) ?_
                                refine gs_X12_38_12 E hI ha dX12_tries_178 ?_
                                refine lv_iload hx hb dX12_tries_181 (lv_at hl 7 rfl) ?_
                                refine q_iald E hI (q_tk (k' := 35) hI ha rfl (by decide)) ⟨by decide, rfl⟩ (by omega) (by rw [q_lnk (v := 654) hI (q_tk (k' := 35) hI ha rfl (by decide)) rfl (by decide)]; omega) dX12_tries_183 ?_
                                refine lv_topi (fun f_71 ef_71 => ?_)
                                replace hF := q_letX hF ef_71
                                have krf_71 : f_71.toInt = m_of σ_67 (q_rf X a 21) x_66.toInt := by rw [ef_71]; rfl
                                refine q_iastN E hI (q_tk (k' := 34) hI ha rfl (by decide)) ⟨by decide, rfl⟩ (by omega) (by rw [q_lnk (v := 4650) hI (q_tk (k' := 34) hI ha rfl (by decide)) rfl (by decide)]; omega) (show 1 < 2 by decide) (q_inU rfl) dX12_tries_184 (fun H locs σ_72 hσ_72 hI => ?_)
                                replace hF := q_letX hF hσ_72
                                have fr_σ_72 := fr_σ_67.si hσ_72 (q_tk (k' := 34) hI ha rfl (by decide)) rfl
                                have mcσ_72 := m_wr (v := f_71) (A := x_66.toInt) hσ_72 rfl (by omega)
                                have kqσ_72 : ∀ j, 654 ≤ j → m_c X σ_72 a j = m_c X σ a j := fun j h => by rw [mcσ_72 j (by omega), if_neg (by omega)] <;> exact kqσ_67 j h
                                have kfσ_72 : ∀ j, 0 ≤ j → j < 654 → m_of σ_72 (q_rf X a 21) j = m_c X σ a j := fun j h0 h1 => (m_ofo hσ_72 (m_ne (q_tk (f := 21) (k' := 35) hI ha rfl (by decide)) (q_tk (k' := 34) hI ha rfl (by decide)) (by decide)) j).trans (kfσ_67 j h0 h1)
                                have rsσ_72x := rsσ_67
                                have kvσ_72 : (f_71).toInt = m_c X σ a x_66.toInt := by rw [krf_71]; exact kfσ_67 _ (by omega) (by omega)
                                obtain ⟨z_73, ez_73⟩ : ∃ y : Int32, y = x_66 + 1 := ⟨_, rfl⟩
                                replace hF := q_letX hF ez_73
                                refine lv_iinc (v := z_73) (lv' := [(7, .int z_73), (0, .ref a), (1, .int v1), (2, .int v2), (3, .int v3), (4, .int v4), (5, .int z_65), (6, .int x_29)]) hx hb dX12_tries_185 hl (k := 7) rfl (by rw [ez_73]; rfl) (by decide) rfl (fun ls hl => ?_)
                                have iz_73 : z_73.toInt = x_66.toInt + 1 := q_inc ez_73 (by omega)
                                refine lv_goto (tgt := 163) hx hb dX12_tries_188 (by decide) ?_
                                exact ih163 z_73 σ_72 _ _ ls (by omega) (by omega) (fun j h0 h1 => (by rw [mcσ_72 j h0]; split; (rename_i q; rw [q]; exact kvσ_72); exact rsσ_72x j h0 (by omega))) fr_σ_72 kqσ_72 kfσ_72 hF hI (lv_sub hl [1, 2, 3, 4, 5, 6, 7, 0] rfl)
                          have kc_74 : (0 : Int32).toInt = 0 := rfl
                          exact L_163_68 ((2147483647 - (0 : Int32).toInt).toNat + 1) 0 σ_39 _ _ ls (Nat.lt_succ_self _) (by decide) (fun j h0 h1 => by have q : (0 : Int32).toInt = 0 := rfl; omega) fr_σ_39 kqσ_39 kfσ_39 hF hI (lv_sub hl [2, 3, 4, 5, 6, 1, 7, 0] rfl)
                have kc_75 : (0 : Int32).toInt = 0 := rfl
                exact L_112_31 ((2147483647 - (0 : Int32).toInt).toNat + 1) 0 0 σ_25 _ _ ls (Nat.lt_succ_self _) (by decide) fr_σ_25 fxσ_25 kfσ_25 hF hI (lv_sub hl [2, 3, 4, 5, 6, 1, 0] rfl)
              · skip
                replace hF := q_ifp hF c_27
                refine lv_aload_n hx hb dX12_tries_86 rfl (lv_at hl 0 rfl) ?_
                refine gs_X12_38_12 E hI ha dX12_tries_87 ?_
                refine lv_iload hx hb dX12_tries_90 (lv_at hl 5 rfl) ?_
                refine lv_aload_n hx hb dX12_tries_92 rfl (lv_at hl 0 rfl) ?_
                refine gs_X12_35_12 E hI ha dX12_tries_93 ?_
                refine lv_iload hx hb dX12_tries_96 (lv_at hl 5 rfl) ?_
                refine q_iald E hI (q_tk (k' := 34) hI ha rfl (by decide)) ⟨by decide, rfl⟩ (by omega) (by rw [q_lnk (v := 4650) hI (q_tk (k' := 34) hI ha rfl (by decide)) rfl (by decide)]; omega) dX12_tries_98 ?_
                refine lv_topi (fun f_76 ef_76 => ?_)
                replace hF := q_letX hF ef_76
                have if_76 : f_76.toInt = m_c X σ a x_24.toInt := (m_rd ef_76 rfl).trans (congrFun fxσ_25 _)
                refine q_iastN E hI (q_tk (k' := 35) hI ha rfl (by decide)) ⟨by decide, rfl⟩ (by omega) (by rw [q_lnk (v := 654) hI (q_tk (k' := 35) hI ha rfl (by decide)) rfl (by decide)]; omega) (show 1 < 9 by decide) (q_inU rfl) dX12_tries_99 (fun H locs σ_77 hσ_77 hI => ?_)
                replace hF := q_letX hF hσ_77
                have fr_σ_77 := fr_σ_25.si hσ_77 (q_tk (k' := 35) hI ha rfl (by decide)) rfl
                have mcσ_77 := m_wo hσ_77 (m_ne (q_tk (k' := 35) hI ha rfl (by decide)) (q_tk (f := 20) (k' := 34) hI ha rfl (by decide)) (by decide))
                have fxσ_77 : m_c X σ_77 a = m_c X σ a := (funext mcσ_77).trans fxσ_25
                have moσ_77 := m_ofw hσ_77 (rfl : x_24.toInt = _) (by omega)
                have kvσ_77 := if_76
                have klσ_77x := klσ_25
                obtain ⟨z_78, ez_78⟩ : ∃ y : Int32, y = x_24 + 1 := ⟨_, rfl⟩
                replace hF := q_letX hF ez_78
                refine lv_iinc (v := z_78) (lv' := [(5, .int z_78), (0, .ref a), (1, .int v1), (2, .int v2), (3, .int v3), (4, .int v4)]) hx hb dX12_tries_100 hl (k := 5) rfl (by rw [ez_78]; rfl) (by decide) rfl (fun ls hl => ?_)
                have iz_78 : z_78.toInt = x_24.toInt + 1 := q_inc ez_78 (by omega)
                refine lv_goto (tgt := 78) hx hb dX12_tries_103 (by decide) ?_
                exact ih78 z_78 σ_77 _ _ ls (by omega) (by omega) (fun j h0 h1 => by rw [moσ_77 j h0]; split; (rename_i q; rw [q]; exact kvσ_77); exact klσ_77x j h0 (by omega)) fr_σ_77 fxσ_77 hF hI (lv_sub hl [1, 2, 3, 4, 5, 0] rfl)
          have kc_79 : (0 : Int32).toInt = 0 := rfl
          exact L_78_26 ((2147483647 - (0 : Int32).toInt).toNat + 1) 0 σ_2 _ _ ls (Nat.lt_succ_self _) (by decide) (fun j h0 h1 => by have q : (0 : Int32).toInt = 0 := rfl; omega) fr_σ_2 fxσ_2 hF hI (lv_sub hl [1, 2, 3, 4, 5, 0] rfl)
        · skip
          replace hF := q_ifp hF c_23
          refine lv_aload_n hx hb dX12_tries_68 rfl (lv_at hl 0 rfl) ?_
          refine lv_bipush (v := 8) hx hb dX12_tries_69 (by decide) ?_
          have kc_80 : (8 : Int32).toInt = 8 := rfl
          refine q_ci (q_runV (As := [.int 8]) (rest := []) E (hml.trans hl.1.symm) hI (c_X12_no l X σ_2 a (8 : Int32) ha) kv_X12_74 ha ⟨rfl, by decide⟩ (show vwCl[11]? = some (RX12, TX12, 46) from rfl) rfl ⟨Nat.le_of_ble_eq_true rfl, Nat.le_of_ble_eq_true rfl⟩ ⟨Nat.le_refl _, Nat.le_refl _⟩ rfl (Nat.le_of_ble_eq_true rfl) dX12_tries_71) hI (by decide) (fun r_81 σ_82 H locs hpσ_82 hkσ_82 hI => ?_)
          obtain ⟨ahpσ_82, bhpσ_82, chpσ_82, dhpσ_82⟩ := hpσ_82
          have fr_σ_82 := fr_σ_2.call dhpσ_82 rfl rfl
          replace hF := q_biX hF chpσ_82
          have mcσ_82 := m_cK hkσ_82 hI.1 ha (by decide)
          have fxσ_82 : m_c X σ_82 a = m_c X σ a := (funext mcσ_82).trans fxσ_2
          exact q_retz E hr hlk hI ⟨by omega, by omega⟩ ⟨⟨by omega, by omega⟩, fxσ_82, (hF.trans hout), fr_σ_82⟩ dX12_tries_74
      · skip
        replace hF := q_ifp hF c_21
        refine lv_aload_n hx hb dX12_tries_51 rfl (lv_at hl 0 rfl) ?_
        refine lv_iconst (v := 5) hx hb dX12_tries_52 (by decide) ?_
        have kc_83 : (5 : Int32).toInt = 5 := rfl
        refine q_ci (q_runV (As := [.int 5]) (rest := []) E (hml.trans hl.1.symm) hI (c_X12_no l X σ_2 a (5 : Int32) ha) kv_X12_74 ha ⟨rfl, by decide⟩ (show vwCl[11]? = some (RX12, TX12, 46) from rfl) rfl ⟨Nat.le_of_ble_eq_true rfl, Nat.le_of_ble_eq_true rfl⟩ ⟨Nat.le_refl _, Nat.le_refl _⟩ rfl (Nat.le_of_ble_eq_true rfl) dX12_tries_53) hI (by decide) (fun r_84 σ_85 H locs hpσ_85 hkσ_85 hI => ?_)
        obtain ⟨ahpσ_85, bhpσ_85, chpσ_85, dhpσ_85⟩ := hpσ_85
        have fr_σ_85 := fr_σ_2.call dhpσ_85 rfl rfl
        replace hF := q_biX hF chpσ_85
        have mcσ_85 := m_cK hkσ_85 hI.1 ha (by decide)
        have fxσ_85 : m_c X σ_85 a = m_c X σ a := (funext mcσ_85).trans fxσ_2
        exact q_retz E hr hlk hI ⟨by omega, by omega⟩ ⟨⟨by omega, by omega⟩, fxσ_85, (hF.trans hout), fr_σ_85⟩ dX12_tries_56
  · skip
    replace hF := q_ifp hF c_5
    refine lv_aload_n hx hb dX12_tries_18 rfl (lv_at hl 0 rfl) ?_
    refine lv_iconst (v := 2) hx hb dX12_tries_19 (by decide) ?_
    have kc_86 : (2 : Int32).toInt = 2 := rfl
    refine q_ci (q_runV (As := [.int 2]) (rest := []) E (hml.trans hl.1.symm) hI (c_X12_no l X σ_2 a (2 : Int32) ha) kv_X12_74 ha ⟨rfl, by decide⟩ (show vwCl[11]? = some (RX12, TX12, 46) from rfl) rfl ⟨Nat.le_of_ble_eq_true rfl, Nat.le_of_ble_eq_true rfl⟩ ⟨Nat.le_refl _, Nat.le_refl _⟩ rfl (Nat.le_of_ble_eq_true rfl) dX12_tries_20) hI (by decide) (fun r_87 σ_88 H locs hpσ_88 hkσ_88 hI => ?_)
    obtain ⟨ahpσ_88, bhpσ_88, chpσ_88, dhpσ_88⟩ := hpσ_88
    have fr_σ_88 := fr_σ_2.call dhpσ_88 rfl rfl
    replace hF := q_biX hF chpσ_88
    have mcσ_88 := m_cK hkσ_88 hI.1 ha (by decide)
    have fxσ_88 : m_c X σ_88 a = m_c X σ a := (funext mcσ_88).trans fxσ_2
    exact q_retz E hr hlk hI ⟨by omega, by omega⟩ ⟨⟨by omega, by omega⟩, fxσ_88, (hF.trans hout), fr_σ_88⟩ dX12_tries_23
end
