section
set_option maxRecDepth 100000 in
set_option maxHeartbeats 4000000 in
theorem c_X12_sorts (l : Launch) (X : XW) (σ : ST) (a : Nat) (v1 : Int32) (ha : q_kd X a = 12) (hG : m_G (m_c X σ a)) : Met l yX12_sorts (q_ws yX12_sorts cX12_sorts 4 (some .int)) (q_rm 2 44) (q_P X σ [.ref a, .int v1]) (q_Qi X 8 σ (fun (r : Int32) (σ' : ST) => (r, σ') = F_X12_sorts X σ a v1 ∧ q_ow [(12, 0), (12, 1)] [] X σ σ')) 0 0 (q_reg X) := by
  refine q_met 8 (by first | exact rfl | decide +kernel) rfl (Nat.le_of_ble_eq_true rfl) (fun p e s m below meth c E hml hr hlk hI ls hl => ?_)
  have hx := E.1
  have hb := E.2.1
  have hl : lv_has ls 4 [(0, .ref a), (1, .int v1)] := hl
  have feσ : m_c X σ a = m_c X σ a := rfl
  have fr_σ : q_ow [(12, 0), (12, 1)] [] X σ σ := q_ow.rf
  have hh := hG.hd
  obtain ⟨out, hout⟩ : ∃ o, o = F_X12_sorts X σ a v1 := ⟨_, rfl⟩
  have hF := hout.symm
  unfold F_X12_sorts at hF
  refine lv_aload_n hx hb dX12_sorts_0 rfl (lv_at hl 0 rfl) ?_
  refine lv_iconst (v := 0) hx hb dX12_sorts_1 zki_0 ?_
  refine ps_X12_59_12 E hI ha (by decide) dX12_sorts_2 (fun H locs σ_1 hσ_1 hI => ?_)
  replace hF := q_letX hF hσ_1
  have fr_σ_1 := fr_σ.si hσ_1 ha rfl
  have mcσ_1 := m_wo hσ_1 (m_ne ha (q_tk (f := 20) (k' := 34) hI ha rfl (by decide)) (by decide))
  have feσ_1 : m_c X σ_1 a = m_c X σ a := (funext mcσ_1).trans feσ
  refine lv_aload_n hx hb dX12_sorts_5 rfl (lv_at hl 0 rfl) ?_
  refine lv_iconst (v := 0) hx hb dX12_sorts_6 zki_0 ?_
  refine ps_X12_62_12 E hI ha (by decide) dX12_sorts_7 (fun H locs σ_2 hσ_2 hI => ?_)
  replace hF := q_letX hF hσ_2
  have fr_σ_2 := fr_σ_1.si hσ_2 ha rfl
  have mcσ_2 := m_wo hσ_2 (m_ne ha (q_tk (f := 20) (k' := 34) hI ha rfl (by decide)) (by decide))
  have feσ_2 : m_c X σ_2 a = m_c X σ a := (funext mcσ_2).trans feσ_1
  refine lv_iload_n hx hb dX12_sorts_10 rfl (lv_at hl 1 rfl) ?_
  refine lv_i2l hx hb dX12_sorts_11 rfl ?_
  refine lv_topl (fun y_3 ey_3 => ?_)
  replace hF := q_letX hF ey_3
  have ggy_3 := q_rng v1
  have iy_3 : y_3.toInt = v1.toInt := by rw [ey_3]; exact (q_i2l _).trans rfl
  refine lv_lconst (v := 0) hx hb dX12_sorts_12 (by decide) ?_
  refine lv_ldc2 (v := 2) hx hb E.2.2.1 (E.2.2.2.1 _ (q_in_t9 (i := 45) (by first | rfl | decide +kernel) rfl)) dX12_sorts_13 ?_
  have kc_4 : (0 : Int64).toInt = 0 := rfl
  have kc_5 : (2 : Int64).toInt = 2 := rfl
  refine q_ci (q_runS (As := [.long y_3, .long 0, .long 2]) (rest := []) E (hml.trans hl.1.symm) hI (c_X12_isIn l X σ_2 y_3 (0 : Int64) (2 : Int64)) ks_X12_94 rfl ⟨Nat.le_of_ble_eq_true rfl, Nat.le_of_ble_eq_true rfl⟩ ⟨Nat.le_refl _, Nat.le_refl _⟩ rfl (Nat.le_of_ble_eq_true rfl) dX12_sorts_16) hI (Nat.le_of_ble_eq_true rfl) (fun r_6 σ_7 H locs hpσ_7 hkσ_7 hI => ?_)
  have ahpσ_7 := hpσ_7.1
  have bhpσ_7 := hpσ_7.2.1
  have chpσ_7 := hpσ_7.2.2.1
  have dhpσ_7 := hpσ_7.2.2.2
  clear hpσ_7
  replace hI := q_Irw ahpσ_7 hI
  replace hF := q_letX hF dhpσ_7
  refine q_if_ne (A := r_6.toInt) E rfl (tgt := 28) dX12_sorts_19 (by decide) (fun c_8 => ?_) (fun c_8 => ?_)
  · skip
    replace hF := q_ifn hF c_8
    replace c_8 := q_ifOne bhpσ_7 c_8
    replace chpσ_7 := q_ifYes chpσ_7 c_8
    refine lv_iconst (v := 0) hx hb dX12_sorts_28 zki_0 ?_
    refine lv_istore_n (lv' := [(2, .int 0), (0, .ref a), (1, .int v1)]) hx hb dX12_sorts_29 rfl hl (by decide) rfl (fun ls hl => ?_)
    refine lv_iconst (v := 0) hx hb dX12_sorts_30 zki_0 ?_
    refine lv_istore_n (lv' := [(3, .int 0), (2, .int 0), (0, .ref a), (1, .int v1)]) hx hb dX12_sorts_31 rfl hl (by decide) rfl (fun ls hl => ?_)
    have L_32_11 : ∀ (k_11 : Nat) (x_9 : Int32) (x_10 : Int32) (H : Heap) (locs : List Loc) (ls : Array Slot), (2147483647 - x_10.toInt).toNat < k_11 → (0 ≤ x_10.toInt) → (F_X12_sorts_L32_1 X σ_2 a v1 k_11 x_9 x_10 = out) → q_I X 8 σ s.heap locs σ_2 H → lv_has ls 4 [(0, .ref a), (1, .int v1), (2, .int x_9), (3, .int x_10)] → W p l e (q_rm 2 44) s m ([.ref a, .int v1] : List Value).toArray below meth c H locs 0 0 (MQ below (q_Qi X 8 σ (fun (r : Int32) (σ' : ST) => (r, σ') = F_X12_sorts X σ a v1 ∧ q_ow [(12, 0), (12, 1)] [] X σ σ')) ([.ref a, .int v1] : List Value).toArray s 0 0 (q_reg X)) (F0 m 32 ls []) := by
      clear hF
      intro k_11
      induction k_11 with
      | zero =>
        intro x_9 x_10 H locs ls hms
        exact absurd hms (Nat.not_lt_zero _)
      | succ k_11 ih32 =>
        intro x_9 x_10 H locs ls hm32 hge32 hF hI hl
        replace hF := (F_X12_sorts_L32_1_s).symm.trans hF
        unfold F_X12_sorts_B32_1 at hF
        refine lv_iload_n hx hb dX12_sorts_32 rfl (lv_at hl 3 rfl) ?_
        refine lv_aload_n hx hb dX12_sorts_33 rfl (lv_at hl 0 rfl) ?_
        refine gs_X12_35_12 E hI ha dX12_sorts_34 ?_
        refine lv_bipush (v := 9) hx hb dX12_sorts_37 zkb_9 ?_
        refine q_iald E hI (q_tk (k' := 34) hI ha rfl (Nat.succ_ne_zero _)) ⟨by decide, rfl⟩ (by decide) (by rw [q_lnk (v := 4650) hI (q_tk (k' := 34) hI ha rfl (Nat.succ_ne_zero _)) rfl (by decide)]; decide) dX12_sorts_39 ?_
        refine lv_topi (fun f_12 ef_12 => ?_)
        replace hF := q_letX hF ef_12
        have if_12 : f_12.toInt = m_c X σ a 9 := (m_rd ef_12 (by decide)).trans (congrFun feσ_2 _)
        have gc_13_x_10 := q_rng x_10
        have gc_13_f_12 := q_rng f_12
        refine q_icmp_ge (A := x_10.toInt) (B := f_12.toInt) E rfl rfl (tgt := 66) dX12_sorts_40 (by decide) (fun c_13 => ?_) (fun c_13 => ?_)
        · skip
          replace hF := q_ifn hF (Int.not_lt.mpr c_13)
          skip
          refine lv_iload_n hx hb dX12_sorts_66 rfl (lv_at hl 2 rfl) ?_
          exact q_reti E hr hlk hI ⟨(hF.trans hout), fr_σ_2⟩ dX12_sorts_67
        · skip
          replace hF := q_ifp hF c_13
          refine lv_iload_n hx hb dX12_sorts_43 rfl (lv_at hl 2 rfl) ?_
          refine lv_aload_n hx hb dX12_sorts_44 rfl (lv_at hl 0 rfl) ?_
          refine lv_iload_n hx hb dX12_sorts_45 rfl (lv_at hl 3 rfl) ?_
          refine q_ci (q_rV11_1 (rest := [.int x_9]) E (hml.trans hl.1.symm) hI (c_X12_sortOf l X σ_2 a x_10 ha (by rw [feσ_2]; exact hG) (by rw [feσ_2]; exact (by first | (clear hh ggy_3 iy_3 kc_4 kc_5 ahpσ_7 bhpσ_7 dhpσ_7 c_8 chpσ_7 hm32 gc_13_f_12; omega) | omega))) kv_X12_305 ha ⟨Nat.le_of_ble_eq_true rfl, Nat.le_of_ble_eq_true rfl⟩ (Nat.le_of_ble_eq_true rfl) dX12_sorts_46) hI (Nat.le_of_ble_eq_true rfl) (fun r_14 σ_15 H locs hpσ_15 hkσ_15 hI => ?_)
          have ahpσ_15 := hpσ_15.1
          have bhpσ_15 := hpσ_15.2.1
          have chpσ_15 := hpσ_15.2.2
          clear hpσ_15
          replace hI := q_Irw ahpσ_15 hI
          replace hF := q_letX hF chpσ_15
          refine lv_iload_n hx hb dX12_sorts_49 rfl (lv_at hl 1 rfl) ?_
          have gc_16_r_14 := q_rng r_14
          have gc_16_v1 := q_rng v1
          refine q_icmp_ne (A := r_14.toInt) (B := v1.toInt) E rfl rfl (tgt := 57) dX12_sorts_50 (by decide) (fun c_16 => ?_) (fun c_16 => ?_)
          · skip
            replace hF := q_ifn hF c_16
            refine lv_iconst (v := 0) hx hb dX12_sorts_57 zki_0 ?_
            refine lv_iadd hx hb dX12_sorts_58 ?_
            refine lv_topi (fun z_17 ez_17 => ?_)
            replace hF := q_letX hF ez_17
            refine lv_istore_n (lv' := [(2, .int z_17), (0, .ref a), (1, .int v1), (3, .int x_10)]) hx hb dX12_sorts_59 rfl hl (by decide) rfl (fun ls hl => ?_)
            obtain ⟨z_18, ez_18⟩ : ∃ y : Int32, y = x_10 + 1 := ⟨_, rfl⟩
            replace hF := q_letX hF ez_18
            refine lv_iinc (v := z_18) (lv' := [(3, .int z_18), (2, .int z_17), (0, .ref a), (1, .int v1)]) hx hb dX12_sorts_60 hl (k := 3) rfl (by rw [ez_18]; rfl) (by decide) rfl (fun ls hl => ?_)
            have iz_18 : z_18.toInt = x_10.toInt + 1 := q_inc ez_18 (by first | (clear ggy_3 iy_3 kc_4 kc_5 ahpσ_7 bhpσ_7 dhpσ_7 c_8 chpσ_7 hm32 gc_13_f_12 ahpσ_15 bhpσ_15 chpσ_15 gc_16_r_14 gc_16_v1 c_16; omega) | omega)
            refine lv_goto (tgt := 32) hx hb dX12_sorts_63 (by decide) ?_
            exact ih32 z_17 z_18 _ _ ls (by first | (clear ggy_3 iy_3 kc_4 kc_5 ahpσ_7 bhpσ_7 dhpσ_7 c_8 chpσ_7 gc_13_f_12 ahpσ_15 bhpσ_15 chpσ_15 gc_16_r_14 gc_16_v1; omega) | omega) (by first | (clear hh ggy_3 iy_3 kc_4 kc_5 ahpσ_7 bhpσ_7 dhpσ_7 c_8 chpσ_7 hm32 if_12 gc_13_f_12 c_13 ahpσ_15 bhpσ_15 chpσ_15 gc_16_r_14 gc_16_v1 c_16; omega) | omega) hF hI (lv_sub hl [2, 3, 1, 0] rfl)
          · skip
            replace hF := q_ifp hF c_16
            refine lv_iconst (v := 1) hx hb dX12_sorts_53 zki_1 ?_
            refine lv_goto (tgt := 58) hx hb dX12_sorts_54 (by decide) ?_
            refine lv_iadd hx hb dX12_sorts_58 ?_
            refine lv_topi (fun z_19 ez_19 => ?_)
            replace hF := q_letX hF ez_19
            refine lv_istore_n (lv' := [(2, .int z_19), (0, .ref a), (1, .int v1), (3, .int x_10)]) hx hb dX12_sorts_59 rfl hl (by decide) rfl (fun ls hl => ?_)
            obtain ⟨z_20, ez_20⟩ : ∃ y : Int32, y = x_10 + 1 := ⟨_, rfl⟩
            replace hF := q_letX hF ez_20
            refine lv_iinc (v := z_20) (lv' := [(3, .int z_20), (2, .int z_19), (0, .ref a), (1, .int v1)]) hx hb dX12_sorts_60 hl (k := 3) rfl (by rw [ez_20]; rfl) (by decide) rfl (fun ls hl => ?_)
            have iz_20 : z_20.toInt = x_10.toInt + 1 := q_inc ez_20 (by first | (clear ggy_3 iy_3 kc_4 kc_5 ahpσ_7 bhpσ_7 dhpσ_7 c_8 chpσ_7 hm32 gc_13_f_12 ahpσ_15 bhpσ_15 chpσ_15 gc_16_r_14 gc_16_v1 c_16; omega) | omega)
            refine lv_goto (tgt := 32) hx hb dX12_sorts_63 (by decide) ?_
            exact ih32 z_19 z_20 _ _ ls (by first | (clear ggy_3 iy_3 kc_4 kc_5 ahpσ_7 bhpσ_7 dhpσ_7 c_8 chpσ_7 gc_13_f_12 ahpσ_15 bhpσ_15 chpσ_15 gc_16_r_14 gc_16_v1 c_16; omega) | omega) (by first | (clear hh ggy_3 iy_3 kc_4 kc_5 ahpσ_7 bhpσ_7 dhpσ_7 c_8 chpσ_7 hm32 if_12 gc_13_f_12 c_13 ahpσ_15 bhpσ_15 chpσ_15 gc_16_r_14 gc_16_v1 c_16; omega) | omega) hF hI (lv_sub hl [2, 3, 1, 0] rfl)
    have kc_21 : (0 : Int32).toInt = 0 := zt_0
    exact L_32_11 ((2147483647 - (0 : Int32).toInt).toNat + 1) 0 0 _ _ ls (Nat.lt_succ_self _) (by decide) hF hI (lv_sub hl [2, 3, 1, 0] rfl)
  · skip
    replace hF := q_ifp hF c_8
    replace chpσ_7 := q_ifNo chpσ_7 c_8
    refine lv_aload_n hx hb dX12_sorts_22 rfl (lv_at hl 0 rfl) ?_
    refine lv_iconst (v := 5) hx hb dX12_sorts_23 zki_5 ?_
    have kc_22 : (5 : Int32).toInt = 5 := zt_5
    refine q_ci (q_rV11_1 (rest := []) E (hml.trans hl.1.symm) hI (c_X12_refuse l X σ_2 a (5 : Int32) ha) kv_X12_284 ha ⟨Nat.le_of_ble_eq_true rfl, Nat.le_of_ble_eq_true rfl⟩ (Nat.le_of_ble_eq_true rfl) dX12_sorts_24) hI (Nat.le_of_ble_eq_true rfl) (fun r_23 σ_24 H locs hpσ_24 hkσ_24 hI => ?_)
    have ahpσ_24 := hpσ_24.1
    have bhpσ_24 := hpσ_24.2.1
    have chpσ_24 := hpσ_24.2.2
    clear hpσ_24
    have fr_σ_24 := fr_σ_2.call chpσ_24 rfl rfl
    replace hF := q_biX hF bhpσ_24
    have mcσ_24 := m_cK hkσ_24 hI.1 ha (by decide)
    have feσ_24 : m_c X σ_24 a = m_c X σ a := (funext mcσ_24).trans feσ_2
    exact q_reti E hr hlk hI ⟨(hF.trans hout), fr_σ_24⟩ dX12_sorts_27
end
