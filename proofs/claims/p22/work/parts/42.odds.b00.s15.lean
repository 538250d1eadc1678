section
set_option maxRecDepth 100000 in
set_option maxHeartbeats 4000000 in
theorem c_X12_ready (l : Launch) (X : XW) (σ : ST) (a : Nat) (ha : q_kd X a = 12) (hG : m_G (m_c X σ a)) : Met l yX12_ready (q_ws yX12_ready cX12_ready 9 (some .int)) (q_rm 6 136) (q_P X σ [.ref a]) (q_Qi X 8 σ (fun (r : Int32) (σ' : ST) => (r, σ') = F_X12_ready X σ a ∧ q_ow [(12, 0), (12, 1)] [(12, 30), (12, 31)] X σ σ')) 0 0 (q_reg X) := by
  refine q_met 8 (by first | exact rfl | decide +kernel) rfl (Nat.le_of_ble_eq_true rfl) (fun p e s m below meth c E hml hr hlk hI ls hl => ?_)
  have hx := E.1
  have hb := E.2.1
  have hl : lv_has ls 9 [(0, .ref a)] := hl
  have feσ : m_c X σ a = m_c X σ a := rfl
  have fr_σ : q_ow [(12, 0), (12, 1)] [(12, 30), (12, 31)] X σ σ := q_ow.rf
  have hh := hG.hd
  obtain ⟨out, hout⟩ : ∃ o, o = F_X12_ready X σ a := ⟨_, rfl⟩
  have hF := hout.symm
  unfold F_X12_ready at hF
  refine lv_aload_n hx hb dX12_ready_0 rfl (lv_at hl 0 rfl) ?_
  refine lv_iconst (v := 0) hx hb dX12_ready_1 zki_0 ?_
  refine ps_X12_59_12 E hI ha (by decide) dX12_ready_2 (fun H locs σ_1 hσ_1 hI => ?_)
  replace hF := q_letX hF hσ_1
  have fr_σ_1 := fr_σ.si hσ_1 ha rfl
  have mcσ_1 := m_wo hσ_1 (m_ne ha (q_tk (f := 20) (k' := 34) hI ha rfl (by decide)) (by decide))
  have feσ_1 : m_c X σ_1 a = m_c X σ a := (funext mcσ_1).trans feσ
  refine lv_aload_n hx hb dX12_ready_5 rfl (lv_at hl 0 rfl) ?_
  refine lv_iconst (v := 0) hx hb dX12_ready_6 zki_0 ?_
  refine ps_X12_62_12 E hI ha (by decide) dX12_ready_7 (fun H locs σ_2 hσ_2 hI => ?_)
  replace hF := q_letX hF hσ_2
  have fr_σ_2 := fr_σ_1.si hσ_2 ha rfl
  have mcσ_2 := m_wo hσ_2 (m_ne ha (q_tk (f := 20) (k' := 34) hI ha rfl (by decide)) (by decide))
  have feσ_2 : m_c X σ_2 a = m_c X σ a := (funext mcσ_2).trans feσ_1
  refine lv_aload_n hx hb dX12_ready_10 rfl (lv_at hl 0 rfl) ?_
  refine gs_X12_35_12 E hI ha dX12_ready_11 ?_
  refine lv_bipush (v := 7) hx hb dX12_ready_14 zkb_7 ?_
  refine q_iald E hI (q_tk (k' := 34) hI ha rfl (Nat.succ_ne_zero _)) ⟨by decide, rfl⟩ (by decide) (by rw [q_lnk (v := 4650) hI (q_tk (k' := 34) hI ha rfl (Nat.succ_ne_zero _)) rfl (by decide)]; decide) dX12_ready_16 ?_
  refine lv_topi (fun f_3 ef_3 => ?_)
  replace hF := q_letX hF ef_3
  have if_3 : f_3.toInt = m_c X σ a 7 := (m_rd ef_3 (by decide)).trans (congrFun feσ_2 _)
  refine q_if_eq (A := f_3.toInt) E rfl (tgt := 30) dX12_ready_17 (by decide) (fun c_4 => ?_) (fun c_4 => ?_)
  · skip
    replace hF := q_ifp hF c_4
    refine lv_aload_n hx hb dX12_ready_30 rfl (lv_at hl 0 rfl) ?_
    refine lv_bipush (v := 8) hx hb dX12_ready_31 zkb_8 ?_
    have kc_5 : (8 : Int32).toInt = 8 := zt_8
    refine q_ci (q_rV11_1 (rest := []) E (hml.trans hl.1.symm) hI (c_X12_refuse l X σ_2 a (8 : Int32) ha) kv_X12_284 ha ⟨Nat.le_of_ble_eq_true rfl, Nat.le_of_ble_eq_true rfl⟩ (Nat.le_of_ble_eq_true rfl) dX12_ready_33) hI (Nat.le_of_ble_eq_true rfl) (fun r_6 σ_7 H locs hpσ_7 hkσ_7 hI => ?_)
    have ahpσ_7 := hpσ_7.1
    have bhpσ_7 := hpσ_7.2.1
    have chpσ_7 := hpσ_7.2.2
    clear hpσ_7
    have fr_σ_7 := fr_σ_2.call chpσ_7 rfl rfl
    replace hF := q_biX hF bhpσ_7
    have mcσ_7 := m_cK hkσ_7 hI.1 ha (by decide)
    have feσ_7 : m_c X σ_7 a = m_c X σ a := (funext mcσ_7).trans feσ_2
    exact q_reti E hr hlk hI ⟨(hF.trans hout), fr_σ_7⟩ dX12_ready_36
  · skip
    replace hF := q_ifn hF c_4
    refine lv_aload_n hx hb dX12_ready_20 rfl (lv_at hl 0 rfl) ?_
    refine gs_X12_35_12 E hI ha dX12_ready_21 ?_
    refine lv_iconst (v := 2) hx hb dX12_ready_24 zki_2 ?_
    refine q_iald E hI (q_tk (k' := 34) hI ha rfl (Nat.succ_ne_zero _)) ⟨by decide, rfl⟩ (by decide) (by rw [q_lnk (v := 4650) hI (q_tk (k' := 34) hI ha rfl (Nat.succ_ne_zero _)) rfl (by decide)]; decide) dX12_ready_25 ?_
    refine lv_topi (fun f_8 ef_8 => ?_)
    replace hF := q_letX hF ef_8
    have if_8 : f_8.toInt = m_c X σ a 2 := (m_rd ef_8 (by decide)).trans (congrFun feσ_2 _)
    refine lv_iconst (v := 2) hx hb dX12_ready_26 zki_2 ?_
    have gc_9_f_8 := q_rng f_8
    refine q_icmp_ge (A := f_8.toInt) (B := 2) E rfl (by decide) (tgt := 37) dX12_ready_27 (by decide) (fun c_9 => ?_) (fun c_9 => ?_)
    · skip
      replace hF := q_ifn hF (Int.not_lt.mpr c_9)
      refine lv_iconst (v := (-1)) hx hb dX12_ready_37 zki_m1 ?_
      refine lv_istore_n (lv' := [(1, .int (-1)), (0, .ref a)]) hx hb dX12_ready_38 rfl hl (by decide) rfl (fun ls hl => ?_)
      refine lv_lconst (v := 0) hx hb dX12_ready_39 (by decide) ?_
      refine lv_lstore_n (lv' := [(2, .long 0), (1, .int (-1)), (0, .ref a)]) hx hb dX12_ready_40 rfl hl (by decide) rfl (fun ls hl => ?_)
      refine lv_lconst (v := 1) hx hb dX12_ready_41 (by decide) ?_
      refine lv_lstore (lv' := [(4, .long 1), (2, .long 0), (1, .int (-1)), (0, .ref a)]) hx hb dX12_ready_42 hl (by decide) rfl (fun ls hl => ?_)
      refine lv_aload_n hx hb dX12_ready_44 rfl (lv_at hl 3 rfl) ?_
      refine lv_aload_n hx hb dX12_ready_45 rfl (lv_at hl 3 rfl) ?_
      refine gs_X12_35_12 E hI ha dX12_ready_46 ?_
      refine lv_bipush (v := 6) hx hb dX12_ready_49 zkb_6 ?_
      refine q_iald E hI (q_tk (k' := 34) hI ha rfl (Nat.succ_ne_zero _)) ⟨by decide, rfl⟩ (by decide) (by rw [q_lnk (v := 4650) hI (q_tk (k' := 34) hI ha rfl (Nat.succ_ne_zero _)) rfl (by decide)]; decide) dX12_ready_51 ?_
      refine lv_topi (fun f_10 ef_10 => ?_)
      replace hF := q_letX hF ef_10
      have if_10 : f_10.toInt = m_c X σ a 6 := (m_rd ef_10 (by decide)).trans (congrFun feσ_2 _)
      refine q_ci (q_rV11_1 (rest := []) E (hml.trans hl.1.symm) hI (c_X12_behindOf l X σ_2 a f_10 ha (by rw [feσ_2]; exact hG) (by rw [feσ_2]; exact (by first | (clear if_3 c_4 gc_9_f_8; omega) | omega))) kv_X12_319 ha ⟨Nat.le_of_ble_eq_true rfl, Nat.le_of_ble_eq_true rfl⟩ (Nat.le_of_ble_eq_true rfl) dX12_ready_52) hI (Nat.le_of_ble_eq_true rfl) (fun r_11 σ_12 H locs hpσ_12 hkσ_12 hI => ?_)
      have ahpσ_12 := hpσ_12.1
      have bhpσ_12 := hpσ_12.2.1
      have chpσ_12 := hpσ_12.2.2.1
      have dhpσ_12 := hpσ_12.2.2.2
      clear hpσ_12
      replace hI := q_Irw ahpσ_12 hI
      rw [feσ_2] at bhpσ_12
      rw [feσ_2] at chpσ_12
      replace hF := q_letX hF dhpσ_12
      refine lv_istore (lv' := [(6, .int r_11), (4, .long 1), (2, .long 0), (1, .int (-1)), (0, .ref a)]) hx hb dX12_ready_55 hl (by decide) rfl (fun ls hl => ?_)
      have L_57_18 : ∀ (k_18 : Nat) (x_13 : Int32) (w_14 : Int64) (w_15 : Int64) (x_16 : Int32) (σ_17 : ST) (H : Heap) (locs : List Loc) (ls : Array Slot), (m_c X σ a 6 - x_16.toInt + 20 * min 1 (max 0 (x_16.toInt - m_c X σ a 6))).toNat < k_18 → (0 ≤ x_16.toInt ∧ x_16.toInt < m_c X σ a 2) → (q_ow [(12, 0), (12, 1)] [(12, 30), (12, 31)] X σ σ_17) → (m_c X σ_17 a = m_c X σ a) → (F_X12_ready_L57_1 X a k_18 x_13 w_14 w_15 x_16 σ_17 = out) → q_I X 8 σ s.heap locs σ_17 H → lv_has ls 9 [(0, .ref a), (1, .int x_13), (2, .long w_14), (4, .long w_15), (6, .int x_16)] → W p l e (q_rm 6 136) s m ([.ref a] : List Value).toArray below meth c H locs 0 0 (MQ below (q_Qi X 8 σ (fun (r : Int32) (σ' : ST) => (r, σ') = F_X12_ready X σ a ∧ q_ow [(12, 0), (12, 1)] [(12, 30), (12, 31)] X σ σ')) ([.ref a] : List Value).toArray s 0 0 (q_reg X)) (F0 m 57 ls []) := by
        clear hF
        intro k_18
        induction k_18 with
        | zero =>
          intro x_13 w_14 w_15 x_16 σ_17 H locs ls hms
          try clear ahpσ_12
          exact absurd hms (Nat.not_lt_zero _)
        | succ k_18 ih57 =>
          intro x_13 w_14 w_15 x_16 σ_17 H locs ls hm57 hge57 fr_σ_17 feσ_17 hF hI hl
          replace hF := (F_X12_ready_L57_1_s).symm.trans hF
          unfold F_X12_ready_B57_1 at hF
          refine lv_iload hx hb dX12_ready_57 (lv_at hl 4 rfl) ?_
          refine lv_aload_n hx hb dX12_ready_59 rfl (lv_at hl 0 rfl) ?_
          refine gs_X12_35_12 E hI ha dX12_ready_60 ?_
          refine lv_bipush (v := 6) hx hb dX12_ready_63 zkb_6 ?_
          refine q_iald E hI (q_tk (k' := 34) hI ha rfl (Nat.succ_ne_zero _)) ⟨by decide, rfl⟩ (by decide) (by rw [q_lnk (v := 4650) hI (q_tk (k' := 34) hI ha rfl (Nat.succ_ne_zero _)) rfl (by decide)]; decide) dX12_ready_65 ?_
          refine lv_topi (fun f_19 ef_19 => ?_)
          replace hF := q_letX hF ef_19
          have if_19 : f_19.toInt = m_c X σ a 6 := (m_rd ef_19 (by decide)).trans (congrFun feσ_17 _)
          have gc_20_x_16 := q_rng x_16
          have gc_20_f_19 := q_rng f_19
          refine q_icmp_eq (A := x_16.toInt) (B := f_19.toInt) E rfl rfl (tgt := 135) dX12_ready_66 (by decide) (fun c_20 => ?_) (fun c_20 => ?_)
          · skip
            replace hF := q_ifp hF c_20
            skip
            refine lv_iload_n hx hb dX12_ready_135 rfl (lv_at hl 1 rfl) ?_
            exact q_reti E hr hlk hI ⟨(hF.trans hout), fr_σ_17⟩ dX12_ready_136
          · skip
            replace hF := q_ifn hF c_20
            refine lv_aload_n hx hb dX12_ready_69 rfl (lv_at hl 0 rfl) ?_
            refine lv_iload hx hb dX12_ready_70 (lv_at hl 4 rfl) ?_
            refine q_cv (q_rV11_1 (rest := []) E (hml.trans hl.1.symm) hI (c_X12_blinds l X σ_17 a x_16 ha (by rw [feσ_17]; exact hG) (by rw [feσ_17]; exact (by omega)) (by rw [feσ_17]; exact (by first | (clear gc_9_f_8 bhpσ_12 dhpσ_12 w_14 w_15 hm57; omega) | omega)) (by rw [feσ_17]; exact (by first | (clear hh if_3 c_4 if_8 gc_9_f_8 c_9 bhpσ_12 chpσ_12 dhpσ_12 w_14 w_15 hm57 hge57 gc_20_x_16 gc_20_f_19; omega) | omega))) kv_X12_358 ha ⟨Nat.le_of_ble_eq_true rfl, Nat.le_of_ble_eq_true rfl⟩ (Nat.le_of_ble_eq_true rfl) dX12_ready_72) hI (Nat.le_of_ble_eq_true rfl) (fun σ_22 H locs hpσ_22 hkσ_22 hI => ?_)
            have ahpσ_22 := hpσ_22.1
            have bhpσ_22 := hpσ_22.2.1
            have chpσ_22 := hpσ_22.2.2
            clear hpσ_22
            have fr_σ_22 := fr_σ_17.call chpσ_22 rfl rfl
            replace hF := q_letX hF bhpσ_22
            have mcσ_22 := m_cK hkσ_22 hI.1 ha (by decide)
            have feσ_22 : m_c X σ_22 a = m_c X σ a := (funext mcσ_22).trans feσ_17
            refine lv_aload_n hx hb dX12_ready_75 rfl (lv_at hl 0 rfl) ?_
            refine gs_X12_349_12 E hI ha dX12_ready_76 ?_
            refine lv_topl (fun g_23 eg_23 => ?_)
            replace hF := q_letX hF eg_23
            have ig_23 : g_23.toInt = (σ_22.2.1 a 31).toInt := congrArg Int64.toInt eg_23
            refine lv_ldc2 (v := 2) hx hb E.2.2.1 (E.2.2.2.1 _ (q_in_t9 (i := 45) (by first | rfl | decide +kernel) rfl)) dX12_ready_79 ?_
            refine lv_aload_n hx hb dX12_ready_82 rfl (lv_at hl 0 rfl) ?_
            refine gs_X12_346_12 E hI ha dX12_ready_83 ?_
            refine lv_topl (fun g_24 eg_24 => ?_)
            replace hF := q_letX hF eg_24
            have ig_24 : g_24.toInt = (σ_22.2.1 a 30).toInt := congrArg Int64.toInt eg_24
            refine lv_lmul hx hb dX12_ready_86 ?_
            refine lv_topl (fun y_25 ey_25 => ?_)
            replace hF := q_letX hF ey_25
            refine lv_lsub hx hb dX12_ready_87 ?_
            refine lv_topl (fun y_26 ey_26 => ?_)
            replace hF := q_letX hF ey_26
            refine lv_lstore (lv' := [(7, .long y_26), (0, .ref a), (1, .int x_13), (2, .long w_14), (4, .long w_15), (6, .int x_16)]) hx hb dX12_ready_88 hl (by decide) rfl (fun ls hl => ?_)
            refine lv_iload_n hx hb dX12_ready_90 rfl (lv_at hl 2 rfl) ?_
            refine q_if_lt (A := x_13.toInt) E rfl (tgt := 112) dX12_ready_91 (by decide) (fun c_27 => ?_) (fun c_27 => ?_)
            · skip
              replace hF := q_ifp hF c_27
              refine lv_iload hx hb dX12_ready_112 (lv_at hl 5 rfl) ?_
              refine lv_istore_n (lv' := [(1, .int x_16), (7, .long y_26), (0, .ref a), (2, .long w_14), (4, .long w_15), (6, .int x_16)]) hx hb dX12_ready_114 rfl hl (by decide) rfl (fun ls hl => ?_)
              refine lv_lload hx hb dX12_ready_115 (lv_at hl 1 rfl) ?_
              refine lv_lstore_n (lv' := [(2, .long y_26), (1, .int x_16), (7, .long y_26), (0, .ref a), (4, .long w_15), (6, .int x_16)]) hx hb dX12_ready_117 rfl hl (by decide) rfl (fun ls hl => ?_)
              refine lv_aload_n hx hb dX12_ready_118 rfl (lv_at hl 3 rfl) ?_
              refine gs_X12_349_12 E hI ha dX12_ready_119 ?_
              refine lv_topl (fun g_28 eg_28 => ?_)
              replace hF := q_letX hF eg_28
              have ig_28 : g_28.toInt = (σ_22.2.1 a 31).toInt := congrArg Int64.toInt eg_28
              refine lv_lstore (lv' := [(4, .long g_28), (2, .long y_26), (1, .int x_16), (7, .long y_26), (0, .ref a), (6, .int x_16)]) hx hb dX12_ready_122 hl (by decide) rfl (fun ls hl => ?_)
              refine lv_aload_n hx hb dX12_ready_124 rfl (lv_at hl 4 rfl) ?_
              refine lv_iload hx hb dX12_ready_125 (lv_at hl 5 rfl) ?_
              refine q_ci (q_rV11_1 (rest := []) E (hml.trans hl.1.symm) hI (c_X12_behindOf l X σ_22 a x_16 ha (by rw [feσ_22]; exact hG) (by rw [feσ_22]; exact (by omega))) kv_X12_319 ha ⟨Nat.le_of_ble_eq_true rfl, Nat.le_of_ble_eq_true rfl⟩ (Nat.le_of_ble_eq_true rfl) dX12_ready_127) hI (Nat.le_of_ble_eq_true rfl) (fun r_29 σ_30 H locs hpσ_30 hkσ_30 hI => ?_)
              have ahpσ_30 := hpσ_30.1
              have bhpσ_30 := hpσ_30.2.1
              have chpσ_30 := hpσ_30.2.2.1
              have dhpσ_30 := hpσ_30.2.2.2
              clear hpσ_30
              replace hI := q_Irw ahpσ_30 hI
              rw [feσ_22] at bhpσ_30
              rw [feσ_22] at chpσ_30
              replace hF := q_letX hF dhpσ_30
              refine lv_istore (lv' := [(6, .int r_29), (4, .long g_28), (2, .long y_26), (1, .int x_16), (7, .long y_26), (0, .ref a)]) hx hb dX12_ready_130 hl (by decide) rfl (fun ls hl => ?_)
              refine lv_goto (tgt := 57) hx hb dX12_ready_132 (by decide) ?_
              exact ih57 x_16 y_26 g_28 r_29 σ_22 _ _ ls (by first | (clear if_3 c_4 gc_9_f_8 chpσ_12 dhpσ_12 w_14 w_15 ahpσ_22 bhpσ_22 chpσ_22 ig_23 ig_24 c_27 ig_28 ahpσ_30 dhpσ_30; omega) | omega) (by omega) fr_σ_22 feσ_22 hF hI (lv_sub hl [5, 3, 2, 1, 0] rfl)
            · skip
              replace hF := q_ifn hF (Int.not_lt.mpr c_27)
              refine lv_lload hx hb dX12_ready_94 (lv_at hl 0 rfl) ?_
              refine lv_lload hx hb dX12_ready_96 (lv_at hl 4 rfl) ?_
              refine lv_lmul hx hb dX12_ready_98 ?_
              refine lv_topl (fun y_31 ey_31 => ?_)
              replace hF := q_letX hF ey_31
              refine lv_lload_n hx hb dX12_ready_99 rfl (lv_at hl 3 rfl) ?_
              refine lv_aload_n hx hb dX12_ready_100 rfl (lv_at hl 1 rfl) ?_
              refine gs_X12_349_12 E hI ha dX12_ready_101 ?_
              refine lv_topl (fun g_32 eg_32 => ?_)
              replace hF := q_letX hF eg_32
              have ig_32 : g_32.toInt = (σ_22.2.1 a 31).toInt := congrArg Int64.toInt eg_32
              refine lv_lmul hx hb dX12_ready_104 ?_
              refine lv_topl (fun y_33 ey_33 => ?_)
              replace hF := q_letX hF ey_33
              refine q_lcmpX E dX12_ready_105 (fun z_34 ez_34 hz_34 => ?_)
              replace hF := q_letX hF ez_34
              refine q_if_gt (A := z_34.toInt) E rfl (tgt := 112) dX12_ready_106 (by decide) (fun c_35 => ?_) (fun c_35 => ?_)
              · skip
                replace hF := q_ifp hF c_35
                refine lv_iload hx hb dX12_ready_112 (lv_at hl 5 rfl) ?_
                refine lv_istore_n (lv' := [(1, .int x_16), (7, .long y_26), (0, .ref a), (2, .long w_14), (4, .long w_15), (6, .int x_16)]) hx hb dX12_ready_114 rfl hl (by decide) rfl (fun ls hl => ?_)
                refine lv_lload hx hb dX12_ready_115 (lv_at hl 1 rfl) ?_
                refine lv_lstore_n (lv' := [(2, .long y_26), (1, .int x_16), (7, .long y_26), (0, .ref a), (4, .long w_15), (6, .int x_16)]) hx hb dX12_ready_117 rfl hl (by decide) rfl (fun ls hl => ?_)
                refine lv_aload_n hx hb dX12_ready_118 rfl (lv_at hl 3 rfl) ?_
                refine gs_X12_349_12 E hI ha dX12_ready_119 ?_
                refine lv_topl (fun g_36 eg_36 => ?_)
                replace hF := q_letX hF eg_36
                have ig_36 : g_36.toInt = (σ_22.2.1 a 31).toInt := congrArg Int64.toInt eg_36
                refine lv_lstore (lv' := [(4, .long g_36), (2, .long y_26), (1, .int x_16), (7, .long y_26), (0, .ref a), (6, .int x_16)]) hx hb dX12_ready_122 hl (by decide) rfl (fun ls hl => ?_)
                refine lv_aload_n hx hb dX12_ready_124 rfl (lv_at hl 4 rfl) ?_
                refine lv_iload hx hb dX12_ready_125 (lv_at hl 5 rfl) ?_
                refine q_ci (q_rV11_1 (rest := []) E (hml.trans hl.1.symm) hI (c_X12_behindOf l X σ_22 a x_16 ha (by rw [feσ_22]; exact hG) (by rw [feσ_22]; exact (by omega))) kv_X12_319 ha ⟨Nat.le_of_ble_eq_true rfl, Nat.le_of_ble_eq_true rfl⟩ (Nat.le_of_ble_eq_true rfl) dX12_ready_127) hI (Nat.le_of_ble_eq_true rfl) (fun r_37 σ_38 H locs hpσ_38 hkσ_38 hI => ?_)
                have ahpσ_38 := hpσ_38.1
                have bhpσ_38 := hpσ_38.2.1
                have chpσ_38 := hpσ_38.2.2.1
                have dhpσ_38 := hpσ_38.2.2.2
                clear hpσ_38
                replace hI := q_Irw ahpσ_38 hI
                rw [feσ_22] at bhpσ_38
                rw [feσ_22] at chpσ_38
                replace hF := q_letX hF dhpσ_38
                refine lv_istore (lv' := [(6, .int r_37), (4, .long g_36), (2, .long y_26), (1, .int x_16), (7, .long y_26), (0, .ref a)]) hx hb dX12_ready_130 hl (by decide) rfl (fun ls hl => ?_)
                refine lv_goto (tgt := 57) hx hb dX12_ready_132 (by decide) ?_
                exact ih57 x_16 y_26 g_36 r_37 σ_22 _ _ ls (by first | (clear if_3 c_4 gc_9_f_8 chpσ_12 dhpσ_12 w_14 w_15 ahpσ_22 bhpσ_22 chpσ_22 ig_23 ig_24 c_27 ig_32 ig_36 ahpσ_38 dhpσ_38; omega) | omega) (by omega) fr_σ_22 feσ_22 hF hI (lv_sub hl [5, 3, 2, 1, 0] rfl)
              · skip
                replace hF := q_ifn hF (Int.not_lt.mpr c_35)
                refine lv_goto (tgt := 124) hx hb dX12_ready_109 (by decide) ?_
                refine lv_aload_n hx hb dX12_ready_124 rfl (lv_at hl 1 rfl) ?_
                refine lv_iload hx hb dX12_ready_125 (lv_at hl 5 rfl) ?_
                refine q_ci (q_rV11_1 (rest := []) E (hml.trans hl.1.symm) hI (c_X12_behindOf l X σ_22 a x_16 ha (by rw [feσ_22]; exact hG) (by rw [feσ_22]; exact (by omega))) kv_X12_319 ha ⟨Nat.le_of_ble_eq_true rfl, Nat.le_of_ble_eq_true rfl⟩ (Nat.le_of_ble_eq_true rfl) dX12_ready_127) hI (Nat.le_of_ble_eq_true rfl) (fun r_39 σ_40 H locs hpσ_40 hkσ_40 hI => ?_)
                have ahpσ_40 := hpσ_40.1
                have bhpσ_40 := hpσ_40.2.1
                have chpσ_40 := hpσ_40.2.2.1
                have dhpσ_40 := hpσ_40.2.2.2
                clear hpσ_40
                replace hI := q_Irw ahpσ_40 hI
                rw [feσ_22] at bhpσ_40
                rw [feσ_22] at chpσ_40
                replace hF := q_letX hF dhpσ_40
                refine lv_istore (lv' := [(6, .int r_39), (7, .long y_26), (0, .ref a), (1, .int x_13), (2, .long w_14), (4, .long w_15)]) hx hb dX12_ready_130 hl (by decide) rfl (fun ls hl => ?_)
                refine lv_goto (tgt := 57) hx hb dX12_ready_132 (by decide) ?_
                exact ih57 x_13 w_14 w_15 r_39 σ_22 _ _ ls (by first | (clear if_3 c_4 gc_9_f_8 chpσ_12 dhpσ_12 w_14 w_15 ahpσ_22 bhpσ_22 chpσ_22 ig_23 ig_24 c_27 ig_32 ahpσ_40 dhpσ_40; omega) | omega) (by omega) fr_σ_22 feσ_22 hF hI (lv_sub hl [2, 3, 4, 5, 0] rfl)
      have kc_41 : ((-1) : Int32).toInt = (-1) := zt_m1
      exact L_57_18 ((m_c X σ a 6 - r_11.toInt + 20 * min 1 (max 0 (r_11.toInt - m_c X σ a 6))).toNat + 1) (-1) 0 1 r_11 σ_2 _ _ ls (Nat.lt_succ_self _) (by omega) fr_σ_2 feσ_2 hF hI (lv_sub hl [4, 3, 2, 1, 0] rfl)
    · skip
      replace hF := q_ifp hF c_9
      refine lv_aload_n hx hb dX12_ready_30 rfl (lv_at hl 0 rfl) ?_
      refine lv_bipush (v := 8) hx hb dX12_ready_31 zkb_8 ?_
      have kc_42 : (8 : Int32).toInt = 8 := zt_8
      refine q_ci (q_rV11_1 (rest := []) E (hml.trans hl.1.symm) hI (c_X12_refuse l X σ_2 a (8 : Int32) ha) kv_X12_284 ha ⟨Nat.le_of_ble_eq_true rfl, Nat.le_of_ble_eq_true rfl⟩ (Nat.le_of_ble_eq_true rfl) dX12_ready_33) hI (Nat.le_of_ble_eq_true rfl) (fun r_43 σ_44 H locs hpσ_44 hkσ_44 hI => ?_)
      have ahpσ_44 := hpσ_44.1
      have bhpσ_44 := hpσ_44.2.1
      have chpσ_44 := hpσ_44.2.2
      clear hpσ_44
      have fr_σ_44 := fr_σ_2.call chpσ_44 rfl rfl
      replace hF := q_biX hF bhpσ_44
      have mcσ_44 := m_cK hkσ_44 hI.1 ha (by decide)
      have feσ_44 : m_c X σ_44 a = m_c X σ a := (funext mcσ_44).trans feσ_2
      exact q_reti E hr hlk hI ⟨(hF.trans hout), fr_σ_44⟩ dX12_ready_36
end
