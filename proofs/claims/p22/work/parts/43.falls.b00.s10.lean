section
set_option maxRecDepth 100000 in
set_option maxHeartbeats 4000000 in
theorem c_X12_sayer (l : Launch) (X : XW) (σ : ST) (a : Nat) (v1 : Int32) (ha : q_kd X a = 12) (hG : m_G (m_c X σ a)) : Met l yX12_sayer (q_ws yX12_sayer cX12_sayer 4 (some .int)) (q_rm 3 67) (q_P X σ [.ref a, .int v1]) (q_Qi X 8 σ (fun (r : Int32) (σ' : ST) => (r, σ') = F_X12_sayer X σ a v1 ∧ q_ow [(12, 0), (12, 1)] [] X σ σ')) 0 0 (q_reg X) := by
  refine q_met 8 (by first | exact rfl | decide +kernel) rfl (Nat.le_of_ble_eq_true rfl) (fun p e s m below meth c E hml hr hlk hI ls hl => ?_)
  have hx := E.1
  have hb := E.2.1
  have hl : lv_has ls 4 [(0, .ref a), (1, .int v1)] := hl
  have feσ : m_c X σ a = m_c X σ a := rfl
  have fr_σ : q_ow [(12, 0), (12, 1)] [] X σ σ := q_ow.rf
  have hh := hG.hd
  obtain ⟨out, hout⟩ : ∃ o, o = F_X12_sayer X σ a v1 := ⟨_, rfl⟩
  have hF := hout.symm
  unfold F_X12_sayer at hF
  refine lv_aload_n hx hb dX12_sayer_0 rfl (lv_at hl 0 rfl) ?_
  refine lv_iconst (v := 0) hx hb dX12_sayer_1 zki_0 ?_
  refine ps_X12_59_12 E hI ha (by decide) dX12_sayer_2 (fun H locs σ_1 hσ_1 hI => ?_)
  replace hF := q_letX hF hσ_1
  have fr_σ_1 := fr_σ.si hσ_1 ha rfl
  have mcσ_1 := m_wo hσ_1 (m_ne ha (q_tk (f := 20) (k' := 34) hI ha rfl (by decide)) (by decide))
  have feσ_1 : m_c X σ_1 a = m_c X σ a := (funext mcσ_1).trans feσ
  refine lv_aload_n hx hb dX12_sayer_5 rfl (lv_at hl 0 rfl) ?_
  refine lv_iconst (v := 0) hx hb dX12_sayer_6 zki_0 ?_
  refine ps_X12_62_12 E hI ha (by decide) dX12_sayer_7 (fun H locs σ_2 hσ_2 hI => ?_)
  replace hF := q_letX hF hσ_2
  have fr_σ_2 := fr_σ_1.si hσ_2 ha rfl
  have mcσ_2 := m_wo hσ_2 (m_ne ha (q_tk (f := 20) (k' := 34) hI ha rfl (by decide)) (by decide))
  have feσ_2 : m_c X σ_2 a = m_c X σ a := (funext mcσ_2).trans feσ_1
  refine lv_aload_n hx hb dX12_sayer_10 rfl (lv_at hl 0 rfl) ?_
  refine lv_iload_n hx hb dX12_sayer_11 rfl (lv_at hl 1 rfl) ?_
  refine q_ci (q_rV11_1 (rest := []) E (hml.trans hl.1.symm) hI (c_X12_isKindAt l X σ_2 a v1 ha (by rw [feσ_2]; exact hG)) kv_X12_299 ha ⟨Nat.le_of_ble_eq_true rfl, Nat.le_of_ble_eq_true rfl⟩ (Nat.le_of_ble_eq_true rfl) dX12_sayer_12) hI (Nat.le_of_ble_eq_true rfl) (fun r_3 σ_4 H locs hpσ_4 hkσ_4 hI => ?_)
  have ahpσ_4 := hpσ_4.1
  have bhpσ_4 := hpσ_4.2.1
  have chpσ_4 := hpσ_4.2.2.1
  have dhpσ_4 := hpσ_4.2.2.2
  clear hpσ_4
  replace hI := q_Irw ahpσ_4 hI
  rw [feσ_2] at chpσ_4
  replace hF := q_letX hF dhpσ_4
  refine q_if_ne (A := r_3.toInt) E rfl (tgt := 24) dX12_sayer_15 (by decide) (fun c_5 => ?_) (fun c_5 => ?_)
  · skip
    replace hF := q_ifn hF c_5
    replace c_5 := q_ifOne bhpσ_4 c_5
    replace chpσ_4 := q_ifYes chpσ_4 c_5
    refine lv_iconst (v := 0) hx hb dX12_sayer_24 zki_0 ?_
    refine lv_istore_n (lv' := [(2, .int 0), (0, .ref a), (1, .int v1)]) hx hb dX12_sayer_25 rfl hl (by decide) rfl (fun ls hl => ?_)
    have L_26_7 : ∀ (k_7 : Nat) (x_6 : Int32) (H : Heap) (locs : List Loc) (ls : Array Slot), (2147483647 - x_6.toInt).toNat < k_7 → (0 ≤ x_6.toInt) → (F_X12_sayer_L26_1 X σ_2 a v1 k_7 x_6 = out) → q_I X 8 σ s.heap locs σ_2 H → lv_has ls 4 [(0, .ref a), (1, .int v1), (2, .int x_6)] → W p l e (q_rm 3 67) s m ([.ref a, .int v1] : List Value).toArray below meth c H locs 0 0 (MQ below (q_Qi X 8 σ (fun (r : Int32) (σ' : ST) => (r, σ') = F_X12_sayer X σ a v1 ∧ q_ow [(12, 0), (12, 1)] [] X σ σ')) ([.ref a, .int v1] : List Value).toArray s 0 0 (q_reg X)) (F0 m 26 ls []) := by
      clear hF
      intro k_7
      induction k_7 with
      | zero =>
        intro x_6 H locs ls hms
        exact absurd hms (Nat.not_lt_zero _)
      | succ k_7 ih26 =>
        intro x_6 H locs ls hm26 hge26 hF hI hl
        replace hF := (F_X12_sayer_L26_1_s).symm.trans hF
        unfold F_X12_sayer_B26_1 at hF
        refine lv_iload_n hx hb dX12_sayer_26 rfl (lv_at hl 2 rfl) ?_
        refine lv_aload_n hx hb dX12_sayer_27 rfl (lv_at hl 0 rfl) ?_
        refine gs_X12_35_12 E hI ha dX12_sayer_28 ?_
        refine lv_iconst (v := 0) hx hb dX12_sayer_31 zki_0 ?_
        refine q_iald E hI (q_tk (k' := 34) hI ha rfl (Nat.succ_ne_zero _)) ⟨by decide, rfl⟩ (by decide) (by rw [q_lnk (v := 4650) hI (q_tk (k' := 34) hI ha rfl (Nat.succ_ne_zero _)) rfl (by decide)]; decide) dX12_sayer_32 ?_
        refine lv_topi (fun f_8 ef_8 => ?_)
        replace hF := q_letX hF ef_8
        have if_8 : f_8.toInt = m_c X σ a 0 := (m_rd ef_8 (by decide)).trans (congrFun feσ_2 _)
        refine lv_aload_n hx hb dX12_sayer_33 rfl (lv_at hl 0 rfl) ?_
        refine gs_X12_35_12 E hI ha dX12_sayer_34 ?_
        refine lv_iconst (v := 2) hx hb dX12_sayer_37 zki_2 ?_
        refine q_iald E hI (q_tk (k' := 34) hI ha rfl (Nat.succ_ne_zero _)) ⟨by decide, rfl⟩ (by decide) (by rw [q_lnk (v := 4650) hI (q_tk (k' := 34) hI ha rfl (Nat.succ_ne_zero _)) rfl (by decide)]; decide) dX12_sayer_38 ?_
        refine lv_topi (fun f_9 ef_9 => ?_)
        replace hF := q_letX hF ef_9
        have if_9 : f_9.toInt = m_c X σ a 2 := (m_rd ef_9 (by decide)).trans (congrFun feσ_2 _)
        have mb := m_mulI (a := (m_c X σ a 0)) (A := 10) (b := (m_c X σ a 2)) (B := 6) (by first | (clear ahpσ_4 bhpσ_4 dhpσ_4 c_5 chpσ_4 hm26 hge26 if_9; omega) | omega) (by first | (clear ahpσ_4 bhpσ_4 dhpσ_4 c_5 chpσ_4 hm26 hge26 if_9; omega) | omega) (by first | (clear ahpσ_4 bhpσ_4 dhpσ_4 c_5 chpσ_4 hm26 hge26 if_8; omega) | omega) (by first | (clear ahpσ_4 bhpσ_4 dhpσ_4 c_5 chpσ_4 hm26 hge26 if_8; omega) | omega)
        refine lv_imul hx hb dX12_sayer_39 ?_
        refine lv_topi (fun z_10 ez_10 => ?_)
        replace hF := q_letX hF ez_10
        have iz_10 := q_mulI (A := (m_c X σ a 0)) (B := (m_c X σ a 2)) ez_10 if_8 if_9 (by first | (clear hh ahpσ_4 bhpσ_4 dhpσ_4 c_5 chpσ_4 hm26 hge26 if_8 if_9; omega) | omega) (by first | (clear hh ahpσ_4 bhpσ_4 dhpσ_4 c_5 chpσ_4 hm26 hge26 if_8 if_9; omega) | omega)
        have gc_11_x_6 := q_rng x_6
        have gc_11_z_10 := q_rng z_10
        refine q_icmp_ge (A := x_6.toInt) (B := z_10.toInt) E rfl rfl (tgt := 117) dX12_sayer_40 (by decide) (fun c_11 => ?_) (fun c_11 => ?_)
        · skip
          replace hF := q_ifn hF (Int.not_lt.mpr c_11)
          unfold F_X12_sayer_E117_2 at hF
          refine lv_aload_n hx hb dX12_sayer_117 rfl (lv_at hl 0 rfl) ?_
          refine lv_bipush (v := 8) hx hb dX12_sayer_118 zkb_8 ?_
          have kc_12 : (8 : Int32).toInt = 8 := zt_8
          refine q_ci (q_rV11_1 (rest := []) E (hml.trans hl.1.symm) hI (c_X12_refuse l X σ_2 a (8 : Int32) ha) kv_X12_284 ha ⟨Nat.le_of_ble_eq_true rfl, Nat.le_of_ble_eq_true rfl⟩ (Nat.le_of_ble_eq_true rfl) dX12_sayer_120) hI (Nat.le_of_ble_eq_true rfl) (fun r_13 σ_14 H locs hpσ_14 hkσ_14 hI => ?_)
          have ahpσ_14 := hpσ_14.1
          have bhpσ_14 := hpσ_14.2.1
          have chpσ_14 := hpσ_14.2.2
          clear hpσ_14
          have fr_σ_14 := fr_σ_2.call chpσ_14 rfl rfl
          replace hF := q_biX hF bhpσ_14
          have mcσ_14 := m_cK hkσ_14 hI.1 ha (by decide)
          have feσ_14 : m_c X σ_14 a = m_c X σ a := (funext mcσ_14).trans feσ_2
          exact q_reti E hr hlk hI ⟨(hF.trans hout), fr_σ_14⟩ dX12_sayer_123
        · skip
          replace hF := q_ifp hF c_11
          refine lv_aload_n hx hb dX12_sayer_43 rfl (lv_at hl 0 rfl) ?_
          refine gs_X12_35_12 E hI ha dX12_sayer_44 ?_
          refine lv_bipush (v := 7) hx hb dX12_sayer_47 zkb_7 ?_
          refine q_iald E hI (q_tk (k' := 34) hI ha rfl (Nat.succ_ne_zero _)) ⟨by decide, rfl⟩ (by decide) (by rw [q_lnk (v := 4650) hI (q_tk (k' := 34) hI ha rfl (Nat.succ_ne_zero _)) rfl (by decide)]; decide) dX12_sayer_49 ?_
          refine lv_topi (fun f_15 ef_15 => ?_)
          replace hF := q_letX hF ef_15
          have if_15 : f_15.toInt = m_c X σ a 7 := (m_rd ef_15 (by decide)).trans (congrFun feσ_2 _)
          refine lv_iconst (v := 1) hx hb dX12_sayer_50 zki_1 ?_
          have J_91_16 : ∀ (x_16 : Int32) (H : Heap) (locs : List Loc) (ls : Array Slot), (0 ≤ x_16.toInt ∧ x_16.toInt < m_c X σ a 2) → (F_X12_sayer_J91_3 X σ_2 a x_6 v1 (F_X12_sayer_L26_1 X σ_2 a v1 k_7) x_16 = out) → q_I X 8 σ s.heap locs σ_2 H → lv_has ls 4 [(0, .ref a), (1, .int v1), (2, .int x_6)] → W p l e (q_rm 3 67) s m ([.ref a, .int v1] : List Value).toArray below meth c H locs 0 0 (MQ below (q_Qi X 8 σ (fun (r : Int32) (σ' : ST) => (r, σ') = F_X12_sayer X σ a v1 ∧ q_ow [(12, 0), (12, 1)] [] X σ σ')) ([.ref a, .int v1] : List Value).toArray s 0 0 (q_reg X)) (F0 m 91 ls [.int x_16]) := by
            clear hF
            intro x_16 H locs ls j91 hF hI hl
            unfold F_X12_sayer_J91_3 at hF
            refine lv_istore_n (lv' := [(3, .int x_16), (0, .ref a), (1, .int v1), (2, .int x_6)]) hx hb dX12_sayer_91 rfl hl (by decide) rfl (fun ls hl => ?_)
            refine lv_aload_n hx hb dX12_sayer_92 rfl (lv_at hl 1 rfl) ?_
            refine lv_iload_n hx hb dX12_sayer_93 rfl (lv_at hl 0 rfl) ?_
            refine lv_iload_n hx hb dX12_sayer_94 rfl (lv_at hl 3 rfl) ?_
            refine lv_aload_n hx hb dX12_sayer_95 rfl (lv_at hl 1 rfl) ?_
            refine gs_X12_35_12 E hI ha dX12_sayer_96 ?_
            refine lv_iconst (v := 2) hx hb dX12_sayer_99 zki_2 ?_
            refine q_iald E hI (q_tk (k' := 34) hI ha rfl (Nat.succ_ne_zero _)) ⟨by decide, rfl⟩ (by decide) (by rw [q_lnk (v := 4650) hI (q_tk (k' := 34) hI ha rfl (Nat.succ_ne_zero _)) rfl (by decide)]; decide) dX12_sayer_100 ?_
            refine lv_topi (fun f_17 ef_17 => ?_)
            replace hF := q_letX hF ef_17
            have if_17 : f_17.toInt = m_c X σ a 2 := (m_rd ef_17 (by decide)).trans (congrFun feσ_2 _)
            refine lv_idiv hx hb dX12_sayer_101 (q_ne0 (by first | (clear hh ahpσ_4 bhpσ_4 dhpσ_4 c_5 chpσ_4 hm26 hge26 if_8 mb iz_10 gc_11_x_6 gc_11_z_10 c_11 if_15; omega) | omega)) ?_
            refine lv_topi (fun z_18 ez_18 => ?_)
            replace hF := q_letX hF ez_18
            have dvz_18 := m_div ez_18 (by omega) (by first | (clear ahpσ_4 bhpσ_4 dhpσ_4 c_5 chpσ_4 hm26 hge26 if_8 mb iz_10 gc_11_x_6 gc_11_z_10 c_11 if_15; omega) | omega)
            refine q_ci (q_rV11_2 (rest := []) E (hml.trans hl.1.symm) hI (c_X12_fallsTo l X σ_2 a x_16 z_18 ha (by rw [feσ_2]; exact hG) (by rw [feσ_2]; exact (by omega)) (by first | (clear hh ahpσ_4 bhpσ_4 dhpσ_4 c_5 chpσ_4 hm26 if_8 if_9 gc_11_z_10 if_15 j91 if_17; omega) | omega)) kv_X12_372 ha ⟨Nat.le_of_ble_eq_true rfl, Nat.le_of_ble_eq_true rfl⟩ (Nat.le_of_ble_eq_true rfl) dX12_sayer_102) hI (Nat.le_of_ble_eq_true rfl) (fun r_19 σ_20 H locs hpσ_20 hkσ_20 hI => ?_)
            have ahpσ_20 := hpσ_20.1
            have bhpσ_20 := hpσ_20.2.1
            have chpσ_20 := hpσ_20.2.2
            clear hpσ_20
            replace hI := q_Irw ahpσ_20 hI
            rw [feσ_2] at bhpσ_20
            replace hF := q_letX hF chpσ_20
            refine lv_iload_n hx hb dX12_sayer_105 rfl (lv_at hl 2 rfl) ?_
            have gc_21_r_19 := q_rng r_19
            have gc_21_v1 := q_rng v1
            refine q_icmp_ne (A := r_19.toInt) (B := v1.toInt) E rfl rfl (tgt := 111) dX12_sayer_106 (by decide) (fun c_21 => ?_) (fun c_21 => ?_)
            · skip
              replace hF := q_ifn hF c_21
              obtain ⟨z_22, ez_22⟩ : ∃ y : Int32, y = x_6 + 1 := ⟨_, rfl⟩
              replace hF := q_letX hF ez_22
              refine lv_iinc (v := z_22) (lv' := [(2, .int z_22), (3, .int x_16), (0, .ref a), (1, .int v1)]) hx hb dX12_sayer_111 hl (k := 3) rfl (by rw [ez_22]; rfl) (by decide) rfl (fun ls hl => ?_)
              have iz_22 : z_22.toInt = x_6.toInt + 1 := q_inc ez_22 (by first | (clear hh ahpσ_4 bhpσ_4 dhpσ_4 c_5 chpσ_4 hm26 if_8 if_9 gc_11_z_10 if_15 j91 if_17 dvz_18 ahpσ_20 bhpσ_20 chpσ_20 gc_21_r_19 gc_21_v1 c_21; omega) | omega)
              refine lv_goto (tgt := 26) hx hb dX12_sayer_114 (by decide) ?_
              exact ih26 z_22 _ _ ls (by first | (clear hh ahpσ_4 bhpσ_4 dhpσ_4 c_5 chpσ_4 if_8 if_9 gc_11_z_10 if_15 j91 if_17 dvz_18 ahpσ_20 bhpσ_20 chpσ_20 gc_21_r_19 gc_21_v1; omega) | omega) (by first | (clear hh ahpσ_4 bhpσ_4 dhpσ_4 c_5 chpσ_4 hm26 if_8 if_9 mb iz_10 gc_11_z_10 c_11 if_15 j91 if_17 dvz_18 ahpσ_20 bhpσ_20 chpσ_20 gc_21_r_19 gc_21_v1 c_21; omega) | omega) hF hI (lv_sub hl [2, 3, 0] rfl)
            · skip
              replace hF := q_ifp hF c_21
              skip
              refine lv_iload_n hx hb dX12_sayer_109 rfl (lv_at hl 0 rfl) ?_
              exact q_reti E hr hlk hI ⟨(hF.trans hout), fr_σ_2⟩ dX12_sayer_110
          have gc_23_f_15 := q_rng f_15
          refine q_icmp_ne (A := f_15.toInt) (B := 1) E rfl (by decide) (tgt := 75) dX12_sayer_51 (by decide) (fun c_23 => ?_) (fun c_23 => ?_)
          · skip
            replace hF := q_ifn hF c_23
            refine lv_aload_n hx hb dX12_sayer_75 rfl (lv_at hl 0 rfl) ?_
            refine gs_X12_35_12 E hI ha dX12_sayer_76 ?_
            refine lv_bipush (v := 6) hx hb dX12_sayer_79 zkb_6 ?_
            refine q_iald E hI (q_tk (k' := 34) hI ha rfl (Nat.succ_ne_zero _)) ⟨by decide, rfl⟩ (by decide) (by rw [q_lnk (v := 4650) hI (q_tk (k' := 34) hI ha rfl (Nat.succ_ne_zero _)) rfl (by decide)]; decide) dX12_sayer_81 ?_
            refine lv_topi (fun f_24 ef_24 => ?_)
            replace hF := q_letX hF ef_24
            have if_24 : f_24.toInt = m_c X σ a 6 := (m_rd ef_24 (by decide)).trans (congrFun feσ_2 _)
            refine lv_iload_n hx hb dX12_sayer_82 rfl (lv_at hl 2 rfl) ?_
            refine lv_iadd hx hb dX12_sayer_83 ?_
            refine lv_topi (fun z_25 ez_25 => ?_)
            replace hF := q_letX hF ez_25
            have iz_25 := q_addI (A := (m_c X σ a 6)) (B := x_6.toInt) ez_25 if_24 rfl (by first | (clear ahpσ_4 bhpσ_4 dhpσ_4 c_5 chpσ_4 hm26 if_8 if_9 mb iz_10 gc_11_z_10 c_11 if_15 gc_23_f_15 c_23; omega) | omega) (by first | (clear ahpσ_4 bhpσ_4 dhpσ_4 c_5 chpσ_4 hm26 if_8 gc_11_z_10 if_15 gc_23_f_15 c_23; omega) | omega)
            refine lv_aload_n hx hb dX12_sayer_84 rfl (lv_at hl 0 rfl) ?_
            refine gs_X12_35_12 E hI ha dX12_sayer_85 ?_
            refine lv_iconst (v := 2) hx hb dX12_sayer_88 zki_2 ?_
            refine q_iald E hI (q_tk (k' := 34) hI ha rfl (Nat.succ_ne_zero _)) ⟨by decide, rfl⟩ (by decide) (by rw [q_lnk (v := 4650) hI (q_tk (k' := 34) hI ha rfl (Nat.succ_ne_zero _)) rfl (by decide)]; decide) dX12_sayer_89 ?_
            refine lv_topi (fun f_26 ef_26 => ?_)
            replace hF := q_letX hF ef_26
            have if_26 : f_26.toInt = m_c X σ a 2 := (m_rd ef_26 (by decide)).trans (congrFun feσ_2 _)
            refine lv_irem hx hb dX12_sayer_90 (q_ne0 (by first | (clear ahpσ_4 bhpσ_4 dhpσ_4 c_5 chpσ_4 hm26 if_8 gc_11_z_10 if_15 gc_23_f_15 c_23; omega) | omega)) ?_
            refine lv_topi (fun z_27 ez_27 => ?_)
            replace hF := q_letX hF (ez_27.trans (q_remI _ _))
            have rmz_27 := m_rem ez_27 (by first | (clear ahpσ_4 bhpσ_4 dhpσ_4 c_5 chpσ_4 hm26 if_8 gc_11_z_10 if_15 gc_23_f_15 c_23; omega) | omega) (by first | (clear ahpσ_4 bhpσ_4 dhpσ_4 c_5 chpσ_4 hm26 if_8 gc_11_z_10 if_15 gc_23_f_15 c_23; omega) | omega)
            exact J_91_16 z_27 _ _ ls (by first | (clear hh ahpσ_4 bhpσ_4 dhpσ_4 c_5 chpσ_4 hm26 hge26 if_8 mb iz_10 gc_11_x_6 gc_11_z_10 c_11 if_15 gc_23_f_15 c_23 if_24 iz_25; omega) | omega) hF hI (lv_sub hl [0, 1, 2] rfl)
          · skip
            replace hF := q_ifp hF c_23
            refine lv_aload_n hx hb dX12_sayer_54 rfl (lv_at hl 0 rfl) ?_
            refine gs_X12_35_12 E hI ha dX12_sayer_55 ?_
            refine lv_bipush (v := 6) hx hb dX12_sayer_58 zkb_6 ?_
            refine q_iald E hI (q_tk (k' := 34) hI ha rfl (Nat.succ_ne_zero _)) ⟨by decide, rfl⟩ (by decide) (by rw [q_lnk (v := 4650) hI (q_tk (k' := 34) hI ha rfl (Nat.succ_ne_zero _)) rfl (by decide)]; decide) dX12_sayer_60 ?_
            refine lv_topi (fun f_28 ef_28 => ?_)
            replace hF := q_letX hF ef_28
            have if_28 : f_28.toInt = m_c X σ a 6 := (m_rd ef_28 (by decide)).trans (congrFun feσ_2 _)
            refine lv_iconst (v := 1) hx hb dX12_sayer_61 zki_1 ?_
            refine lv_iadd hx hb dX12_sayer_62 ?_
            refine lv_topi (fun z_29 ez_29 => ?_)
            replace hF := q_letX hF ez_29
            have iz_29 := q_addI (A := (m_c X σ a 6)) (B := 1) ez_29 if_28 (by decide) (by first | (clear ahpσ_4 bhpσ_4 dhpσ_4 c_5 chpσ_4 hm26 hge26 if_8 if_9 mb iz_10 gc_11_x_6 gc_11_z_10 c_11 gc_23_f_15; omega) | omega) (by first | (clear ahpσ_4 bhpσ_4 dhpσ_4 c_5 chpσ_4 hm26 hge26 if_8 mb iz_10 gc_11_x_6 gc_11_z_10 c_11 if_15 gc_23_f_15 c_23; omega) | omega)
            refine lv_iload_n hx hb dX12_sayer_63 rfl (lv_at hl 2 rfl) ?_
            refine lv_iadd hx hb dX12_sayer_64 ?_
            refine lv_topi (fun z_30 ez_30 => ?_)
            replace hF := q_letX hF ez_30
            have iz_30 := q_addI (A := ((m_c X σ a 6) + 1)) (B := x_6.toInt) ez_30 iz_29 rfl (by first | (clear ahpσ_4 bhpσ_4 dhpσ_4 c_5 chpσ_4 hm26 if_8 if_9 mb iz_10 gc_11_z_10 c_11 gc_23_f_15; omega) | omega) (by first | (clear ahpσ_4 bhpσ_4 dhpσ_4 c_5 chpσ_4 hm26 if_8 gc_11_z_10 if_15 gc_23_f_15 c_23; omega) | omega)
            refine lv_aload_n hx hb dX12_sayer_65 rfl (lv_at hl 0 rfl) ?_
            refine gs_X12_35_12 E hI ha dX12_sayer_66 ?_
            refine lv_iconst (v := 2) hx hb dX12_sayer_69 zki_2 ?_
            refine q_iald E hI (q_tk (k' := 34) hI ha rfl (Nat.succ_ne_zero _)) ⟨by decide, rfl⟩ (by decide) (by rw [q_lnk (v := 4650) hI (q_tk (k' := 34) hI ha rfl (Nat.succ_ne_zero _)) rfl (by decide)]; decide) dX12_sayer_70 ?_
            refine lv_topi (fun f_31 ef_31 => ?_)
            replace hF := q_letX hF ef_31
            have if_31 : f_31.toInt = m_c X σ a 2 := (m_rd ef_31 (by decide)).trans (congrFun feσ_2 _)
            refine lv_irem hx hb dX12_sayer_71 (q_ne0 (by first | (clear ahpσ_4 bhpσ_4 dhpσ_4 c_5 chpσ_4 hm26 hge26 if_8 mb iz_10 gc_11_x_6 gc_11_z_10 c_11 gc_23_f_15 iz_30; omega) | omega)) ?_
            refine lv_topi (fun z_32 ez_32 => ?_)
            replace hF := q_letX hF (ez_32.trans (q_remI _ _))
            have rmz_32 := m_rem ez_32 (by first | (clear ahpσ_4 bhpσ_4 dhpσ_4 c_5 chpσ_4 hm26 if_8 if_9 mb iz_10 gc_11_z_10 c_11 gc_23_f_15 if_31; omega) | omega) (by first | (clear ahpσ_4 bhpσ_4 dhpσ_4 c_5 chpσ_4 hm26 hge26 if_8 mb iz_10 gc_11_x_6 gc_11_z_10 c_11 gc_23_f_15 iz_30; omega) | omega)
            refine lv_goto (tgt := 91) hx hb dX12_sayer_72 (by decide) ?_
            exact J_91_16 z_32 _ _ ls (by first | (clear hh ahpσ_4 bhpσ_4 dhpσ_4 c_5 chpσ_4 hm26 hge26 if_8 mb iz_10 gc_11_x_6 gc_11_z_10 c_11 if_15 gc_23_f_15 c_23 if_28 iz_29 iz_30; omega) | omega) hF hI (lv_sub hl [0, 1, 2] rfl)
    have kc_33 : (0 : Int32).toInt = 0 := zt_0
    exact L_26_7 ((2147483647 - (0 : Int32).toInt).toNat + 1) 0 _ _ ls (Nat.lt_succ_self _) (by decide) hF hI (lv_sub hl [1, 2, 0] rfl)
  · skip
    replace hF := q_ifp hF c_5
    replace chpσ_4 := q_ifNo chpσ_4 c_5
    refine lv_aload_n hx hb dX12_sayer_18 rfl (lv_at hl 0 rfl) ?_
    refine lv_iconst (v := 2) hx hb dX12_sayer_19 zki_2 ?_
    have kc_34 : (2 : Int32).toInt = 2 := zt_2
    refine q_ci (q_rV11_1 (rest := []) E (hml.trans hl.1.symm) hI (c_X12_refuse l X σ_2 a (2 : Int32) ha) kv_X12_284 ha ⟨Nat.le_of_ble_eq_true rfl, Nat.le_of_ble_eq_true rfl⟩ (Nat.le_of_ble_eq_true rfl) dX12_sayer_20) hI (Nat.le_of_ble_eq_true rfl) (fun r_35 σ_36 H locs hpσ_36 hkσ_36 hI => ?_)
    have ahpσ_36 := hpσ_36.1
    have bhpσ_36 := hpσ_36.2.1
    have chpσ_36 := hpσ_36.2.2
    clear hpσ_36
    have fr_σ_36 := fr_σ_2.call chpσ_36 rfl rfl
    replace hF := q_biX hF bhpσ_36
    have mcσ_36 := m_cK hkσ_36 hI.1 ha (by decide)
    have feσ_36 : m_c X σ_36 a = m_c X σ a := (funext mcσ_36).trans feσ_2
    exact q_reti E hr hlk hI ⟨(hF.trans hout), fr_σ_36⟩ dX12_sayer_23
end
