section
set_option maxRecDepth 100000 in
set_option maxHeartbeats 4000000 in
theorem c_X12_copyHand (l : Launch) (X : XW) (σ : ST) (a : Nat) (v1 : Int32) (v2 : Int32) (ha : q_kd X a = 12) (hG : m_G (m_c X σ a)) : Met l yX12_copyHand (q_ws yX12_copyHand cX12_copyHand 4 (some .int)) (q_rm 2 46) (q_P X σ [.ref a, .int v1, .int v2]) (q_Qi X 8 σ (fun (r : Int32) (σ' : ST) => (r, σ') = F_X12_copyHand X σ a v1 v2 ∧ q_ow [(12, 0), (12, 1)] [(32, 99)] X σ σ')) 0 0 (q_reg X) := by
  refine q_met 8 (by first | exact rfl | decide +kernel) rfl (Nat.le_of_ble_eq_true rfl) (fun p e s m below meth c E hml hr hlk hI ls hl => ?_)
  have hx := E.1
  have hb := E.2.1
  have hl : lv_has ls 4 [(0, .ref a), (1, .int v1), (2, .int v2)] := hl
  have feσ : m_c X σ a = m_c X σ a := rfl
  have fr_σ : q_ow [(12, 0), (12, 1)] [(32, 99)] X σ σ := q_ow.rf
  have hh := hG.hd
  obtain ⟨out, hout⟩ : ∃ o, o = F_X12_copyHand X σ a v1 v2 := ⟨_, rfl⟩
  have hF := hout.symm
  unfold F_X12_copyHand at hF
  refine lv_aload_n hx hb dX12_copyHand_0 rfl (lv_at hl 0 rfl) ?_
  refine lv_iconst (v := 0) hx hb dX12_copyHand_1 zki_0 ?_
  refine ps_X12_59_12 E hI ha (by decide) dX12_copyHand_2 (fun H locs σ_1 hσ_1 hI => ?_)
  replace hF := q_letX hF hσ_1
  have fr_σ_1 := fr_σ.si hσ_1 ha rfl
  have mcσ_1 := m_wo hσ_1 (m_ne ha (q_tk (f := 20) (k' := 34) hI ha rfl (by decide)) (by decide))
  have feσ_1 : m_c X σ_1 a = m_c X σ a := (funext mcσ_1).trans feσ
  refine lv_aload_n hx hb dX12_copyHand_5 rfl (lv_at hl 0 rfl) ?_
  refine lv_iconst (v := 0) hx hb dX12_copyHand_6 zki_0 ?_
  refine ps_X12_62_12 E hI ha (by decide) dX12_copyHand_7 (fun H locs σ_2 hσ_2 hI => ?_)
  replace hF := q_letX hF hσ_2
  have fr_σ_2 := fr_σ_1.si hσ_2 ha rfl
  have mcσ_2 := m_wo hσ_2 (m_ne ha (q_tk (f := 20) (k' := 34) hI ha rfl (by decide)) (by decide))
  have feσ_2 : m_c X σ_2 a = m_c X σ a := (funext mcσ_2).trans feσ_1
  refine lv_aload_n hx hb dX12_copyHand_10 rfl (lv_at hl 0 rfl) ?_
  refine lv_iload_n hx hb dX12_copyHand_11 rfl (lv_at hl 2 rfl) ?_
  refine q_ci (q_rV11_1 (rest := []) E (hml.trans hl.1.symm) hI (c_X12_isTray l X σ_2 a v2 ha) kv_X12_308 ha ⟨Nat.le_of_ble_eq_true rfl, Nat.le_of_ble_eq_true rfl⟩ (Nat.le_of_ble_eq_true rfl) dX12_copyHand_12) hI (Nat.le_of_ble_eq_true rfl) (fun r_3 σ_4 H locs hpσ_4 hkσ_4 hI => ?_)
  have ahpσ_4 := hpσ_4.1
  have bhpσ_4 := hpσ_4.2.1
  have chpσ_4 := hpσ_4.2.2.1
  have dhpσ_4 := hpσ_4.2.2.2
  clear hpσ_4
  replace hI := q_Irw ahpσ_4 hI
  replace hF := q_letX hF dhpσ_4
  refine q_if_ne (A := r_3.toInt) E rfl (tgt := 24) dX12_copyHand_15 (by decide) (fun c_5 => ?_) (fun c_5 => ?_)
  · skip
    replace hF := q_ifn hF c_5
    replace c_5 := q_ifOne bhpσ_4 c_5
    replace chpσ_4 := q_ifYes chpσ_4 c_5
    refine lv_aload_n hx hb dX12_copyHand_24 rfl (lv_at hl 0 rfl) ?_
    refine gs_X12_17_12 E hI ha dX12_copyHand_25 ?_
    refine lv_iload_n hx hb dX12_copyHand_28 rfl (lv_at hl 2 rfl) ?_
    refine q_iald E hI (q_tk (k' := 31) hI ha rfl (Nat.succ_ne_zero _)) ⟨by decide, rfl⟩ (by first | (clear hh ahpσ_4 bhpσ_4 dhpσ_4 c_5; omega) | omega) (by rw [q_lnk (v := 4) hI (q_tk (k' := 31) hI ha rfl (Nat.succ_ne_zero _)) rfl (by decide)]; omega) dX12_copyHand_29 ?_
    refine lv_topi (fun f_6 ef_6 => ?_)
    replace hF := q_letX hF ef_6
    have bf_6 : -1 ≤ f_6.toInt ∧ f_6.toInt ≤ 60 := by rw [ef_6]; exact q_bd hI (q_tk (k' := 31) hI ha rfl (Nat.succ_ne_zero _)) rfl
    have if_6 : f_6.toInt = (σ_2.1 (q_rf X a 5) (v2 : Int32).toNatClampNeg).toInt := congrArg Int32.toInt ef_6
    refine q_if_ge (A := f_6.toInt) E rfl (tgt := 39) dX12_copyHand_30 (by decide) (fun c_7 => ?_) (fun c_7 => ?_)
    · skip
      replace hF := q_ifn hF (Int.not_lt.mpr c_7)
      refine lv_aload_n hx hb dX12_copyHand_39 rfl (lv_at hl 0 rfl) ?_
      refine lv_iload_n hx hb dX12_copyHand_40 rfl (lv_at hl 1 rfl) ?_
      refine q_ci (q_rV11_1 (rest := []) E (hml.trans hl.1.symm) hI (c_X12_isPlayerAt l X σ_2 a v1 ha (by rw [feσ_2]; exact hG)) kv_X12_290 ha ⟨Nat.le_of_ble_eq_true rfl, Nat.le_of_ble_eq_true rfl⟩ (Nat.le_of_ble_eq_true rfl) dX12_copyHand_41) hI (Nat.le_of_ble_eq_true rfl) (fun r_8 σ_9 H locs hpσ_9 hkσ_9 hI => ?_)
      have ahpσ_9 := hpσ_9.1
      have bhpσ_9 := hpσ_9.2.1
      have chpσ_9 := hpσ_9.2.2.1
      have dhpσ_9 := hpσ_9.2.2.2
      clear hpσ_9
      replace hI := q_Irw ahpσ_9 hI
      rw [feσ_2] at chpσ_9
      replace hF := q_letX hF dhpσ_9
      refine q_if_ne (A := r_8.toInt) E rfl (tgt := 53) dX12_copyHand_44 (by decide) (fun c_10 => ?_) (fun c_10 => ?_)
      · skip
        replace hF := q_ifn hF c_10
        replace c_10 := q_ifOne bhpσ_9 c_10
        replace chpσ_9 := q_ifYes chpσ_9 c_10
        refine lv_aload_n hx hb dX12_copyHand_53 rfl (lv_at hl 0 rfl) ?_
        refine gs_X12_17_12 E hI ha dX12_copyHand_54 ?_
        refine lv_iload_n hx hb dX12_copyHand_57 rfl (lv_at hl 2 rfl) ?_
        refine q_iald E hI (q_tk (k' := 31) hI ha rfl (Nat.succ_ne_zero _)) ⟨by decide, rfl⟩ (by first | (clear hh ahpσ_4 bhpσ_4 dhpσ_4 c_5 bf_6 if_6 c_7 ahpσ_9 bhpσ_9 dhpσ_9 c_10 chpσ_9; omega) | omega) (by rw [q_lnk (v := 4) hI (q_tk (k' := 31) hI ha rfl (Nat.succ_ne_zero _)) rfl (by decide)]; omega) dX12_copyHand_58 ?_
        refine lv_topi (fun f_11 ef_11 => ?_)
        replace hF := q_letX hF ef_11
        have bf_11 : -1 ≤ f_11.toInt ∧ f_11.toInt ≤ 60 := by rw [ef_11]; exact q_bd hI (q_tk (k' := 31) hI ha rfl (Nat.succ_ne_zero _)) rfl
        have if_11 : f_11.toInt = (σ_2.1 (q_rf X a 5) (v2 : Int32).toNatClampNeg).toInt := congrArg Int32.toInt ef_11
        refine lv_aload_n hx hb dX12_copyHand_59 rfl (lv_at hl 0 rfl) ?_
        refine gs_X12_35_12 E hI ha dX12_copyHand_60 ?_
        refine lv_iconst (v := 0) hx hb dX12_copyHand_63 zki_0 ?_
        refine q_iald E hI (q_tk (k' := 34) hI ha rfl (Nat.succ_ne_zero _)) ⟨by decide, rfl⟩ (by decide) (by rw [q_lnk (v := 4650) hI (q_tk (k' := 34) hI ha rfl (Nat.succ_ne_zero _)) rfl (by decide)]; decide) dX12_copyHand_64 ?_
        refine lv_topi (fun f_12 ef_12 => ?_)
        replace hF := q_letX hF ef_12
        have if_12 : f_12.toInt = m_c X σ a 0 := (m_rd ef_12 (by decide)).trans (congrFun feσ_2 _)
        have gc_13_f_11 := q_rng f_11
        have gc_13_f_12 := q_rng f_12
        refine q_icmp_ge (A := f_11.toInt) (B := f_12.toInt) E rfl rfl (tgt := 74) dX12_copyHand_65 (by decide) (fun c_13 => ?_) (fun c_13 => ?_)
        · skip
          replace hF := q_ifn hF (Int.not_lt.mpr c_13)
          refine lv_iconst (v := 0) hx hb dX12_copyHand_74 zki_0 ?_
          refine lv_istore_n (lv' := [(3, .int 0), (0, .ref a), (1, .int v1), (2, .int v2)]) hx hb dX12_copyHand_75 rfl hl (by decide) rfl (fun ls hl => ?_)
          have L_76_16 : ∀ (k_16 : Nat) (x_14 : Int32) (σ_15 : ST) (H : Heap) (locs : List Loc) (ls : Array Slot), (2147483647 - x_14.toInt).toNat < k_16 → (0 ≤ x_14.toInt) → (q_ow [(12, 0), (12, 1)] [(32, 99)] X σ σ_15) → (m_c X σ_15 a = m_c X σ a) → (F_X12_copyHand_L76_1 X a v2 v1 k_16 x_14 σ_15 = out) → q_I X 8 σ s.heap locs σ_15 H → lv_has ls 4 [(0, .ref a), (1, .int v1), (2, .int v2), (3, .int x_14)] → W p l e (q_rm 2 46) s m ([.ref a, .int v1, .int v2] : List Value).toArray below meth c H locs 0 0 (MQ below (q_Qi X 8 σ (fun (r : Int32) (σ' : ST) => (r, σ') = F_X12_copyHand X σ a v1 v2 ∧ q_ow [(12, 0), (12, 1)] [(32, 99)] X σ σ')) ([.ref a, .int v1, .int v2] : List Value).toArray s 0 0 (q_reg X)) (F0 m 76 ls []) := by
            clear hF
            intro k_16
            induction k_16 with
            | zero =>
              intro x_14 σ_15 H locs ls hms
              exact absurd hms (Nat.not_lt_zero _)
            | succ k_16 ih76 =>
              intro x_14 σ_15 H locs ls hm76 hge76 fr_σ_15 feσ_15 hF hI hl
              replace hF := (F_X12_copyHand_L76_1_s).symm.trans hF
              unfold F_X12_copyHand_B76_1 at hF
              refine lv_iload_n hx hb dX12_copyHand_76 rfl (lv_at hl 3 rfl) ?_
              refine lv_aload_n hx hb dX12_copyHand_77 rfl (lv_at hl 0 rfl) ?_
              refine gs_X12_35_12 E hI ha dX12_copyHand_78 ?_
              refine lv_iconst (v := 0) hx hb dX12_copyHand_81 zki_0 ?_
              refine q_iald E hI (q_tk (k' := 34) hI ha rfl (Nat.succ_ne_zero _)) ⟨by decide, rfl⟩ (by decide) (by rw [q_lnk (v := 4650) hI (q_tk (k' := 34) hI ha rfl (Nat.succ_ne_zero _)) rfl (by decide)]; decide) dX12_copyHand_82 ?_
              refine lv_topi (fun f_17 ef_17 => ?_)
              replace hF := q_letX hF ef_17
              have if_17 : f_17.toInt = m_c X σ a 0 := (m_rd ef_17 (by decide)).trans (congrFun feσ_15 _)
              have gc_18_x_14 := q_rng x_14
              have gc_18_f_17 := q_rng f_17
              refine q_icmp_ge (A := x_14.toInt) (B := f_17.toInt) E rfl rfl (tgt := 110) dX12_copyHand_83 (by decide) (fun c_18 => ?_) (fun c_18 => ?_)
              · skip
                replace hF := q_ifn hF (Int.not_lt.mpr c_18)
                unfold F_X12_copyHand_E110_2 at hF
                refine lv_aload_n hx hb dX12_copyHand_110 rfl (lv_at hl 0 rfl) ?_
                refine gs_X12_35_12 E hI ha dX12_copyHand_111 ?_
                refine lv_iconst (v := 0) hx hb dX12_copyHand_114 zki_0 ?_
                refine q_iald E hI (q_tk (k' := 34) hI ha rfl (Nat.succ_ne_zero _)) ⟨by decide, rfl⟩ (by decide) (by rw [q_lnk (v := 4650) hI (q_tk (k' := 34) hI ha rfl (Nat.succ_ne_zero _)) rfl (by decide)]; decide) dX12_copyHand_115 ?_
                refine lv_topi (fun f_19 ef_19 => ?_)
                replace hF := q_letX hF ef_19
                have if_19 : f_19.toInt = m_c X σ a 0 := (m_rd ef_19 (by decide)).trans (congrFun feσ_15 _)
                exact q_reti E hr hlk hI ⟨(hF.trans hout), fr_σ_15⟩ dX12_copyHand_116
              · skip
                replace hF := q_ifp hF c_18
                refine lv_aload_n hx hb dX12_copyHand_86 rfl (lv_at hl 0 rfl) ?_
                refine gs_X12_20_12 E hI ha dX12_copyHand_87 ?_
                refine lv_bipush (v := 60) hx hb dX12_copyHand_90 zkb_60 ?_
                refine lv_iload_n hx hb dX12_copyHand_92 rfl (lv_at hl 2 rfl) ?_
                refine lv_imul hx hb dX12_copyHand_93 ?_
                refine lv_topi (fun z_20 ez_20 => ?_)
                replace hF := q_letX hF ez_20
                have iz_20 := q_mulI (A := 60) (B := v2.toInt) ez_20 (by decide) rfl (by first | (clear hh ahpσ_4 bhpσ_4 dhpσ_4 c_5 bf_6 if_6 c_7 ahpσ_9 bhpσ_9 dhpσ_9 c_10 chpσ_9 bf_11 if_11 if_12 gc_13_f_11 gc_13_f_12 c_13 hm76 hge76 if_17 gc_18_x_14 gc_18_f_17 c_18; omega) | omega) (by first | (clear hh ahpσ_4 bhpσ_4 dhpσ_4 c_5 bf_6 if_6 c_7 ahpσ_9 bhpσ_9 dhpσ_9 c_10 chpσ_9 bf_11 if_11 if_12 gc_13_f_11 gc_13_f_12 c_13 hm76 hge76 if_17 gc_18_x_14 gc_18_f_17 c_18; omega) | omega)
                refine lv_iload_n hx hb dX12_copyHand_94 rfl (lv_at hl 3 rfl) ?_
                refine lv_iadd hx hb dX12_copyHand_95 ?_
                refine lv_topi (fun z_21 ez_21 => ?_)
                replace hF := q_letX hF ez_21
                have iz_21 := q_addI (A := (60 * v2.toInt)) (B := x_14.toInt) ez_21 iz_20 rfl (by first | (clear hh ahpσ_4 bhpσ_4 dhpσ_4 c_5 bf_6 if_6 c_7 ahpσ_9 bhpσ_9 dhpσ_9 c_10 chpσ_9 bf_11 if_11 if_12 gc_13_f_11 gc_13_f_12 c_13 hm76 if_17 gc_18_f_17 c_18 iz_20; omega) | omega) (by first | (clear ahpσ_4 bhpσ_4 dhpσ_4 c_5 bf_6 if_6 c_7 ahpσ_9 bhpσ_9 dhpσ_9 c_10 chpσ_9 bf_11 if_11 gc_13_f_11 gc_13_f_12 c_13 hm76 gc_18_f_17 iz_20; omega) | omega)
                refine lv_aload_n hx hb dX12_copyHand_96 rfl (lv_at hl 0 rfl) ?_
                refine lv_iload_n hx hb dX12_copyHand_97 rfl (lv_at hl 1 rfl) ?_
                refine lv_iload_n hx hb dX12_copyHand_98 rfl (lv_at hl 3 rfl) ?_
                refine q_ci (q_rV11_2 (rest := [.int z_21, .ref (q_rf X a 6)]) E (hml.trans hl.1.symm) hI (c_X12_handOf l X σ_15 a v1 x_14 ha (by first | (clear ahpσ_4 bhpσ_4 dhpσ_4 c_5 chpσ_4 bf_6 if_6 c_7 ahpσ_9 bhpσ_9 dhpσ_9 c_10 bf_11 if_11 if_12 gc_13_f_11 gc_13_f_12 c_13 hm76 hge76 if_17 gc_18_x_14 gc_18_f_17 c_18 iz_20 iz_21; omega) | omega) (by first | (clear ahpσ_4 bhpσ_4 dhpσ_4 c_5 chpσ_4 bf_6 if_6 c_7 ahpσ_9 bhpσ_9 dhpσ_9 c_10 chpσ_9 bf_11 if_11 gc_13_f_11 gc_13_f_12 c_13 hm76 gc_18_f_17 iz_20; omega) | omega)) kv_X12_276 ha ⟨Nat.le_of_ble_eq_true rfl, Nat.le_of_ble_eq_true rfl⟩ (Nat.le_of_ble_eq_true rfl) dX12_copyHand_99) hI (Nat.le_of_ble_eq_true rfl) (fun r_22 σ_23 H locs hpσ_23 hkσ_23 hI => ?_)
                have ahpσ_23 := hpσ_23.1
                have bhpσ_23 := hpσ_23.2.1
                have chpσ_23 := hpσ_23.2.2
                clear hpσ_23
                replace hI := q_Irw ahpσ_23 hI
                rw [feσ_15] at bhpσ_23
                replace hF := q_letX hF chpσ_23
                have ir_22 : r_22.toInt = (m_c X σ a (34 + 10 * v1.toInt + x_14.toInt)) := (by first | exact bhpσ_23 | (rw [bhpσ_23]) | (simp only [bhpσ_23]))
                refine lv_i2l hx hb dX12_copyHand_102 rfl ?_
                refine lv_topl (fun y_24 ey_24 => ?_)
                replace hF := q_letX hF ey_24
                have ggy_24 := q_rng r_22
                have iy_24 : y_24.toInt = r_22.toInt := by rw [ey_24]; exact (q_i2l _).trans rfl
                refine q_lastN E hI (q_tk (k' := 32) hI ha rfl (Nat.succ_ne_zero _)) ⟨by decide, rfl⟩ (by first | (clear ahpσ_4 bhpσ_4 dhpσ_4 c_5 bf_6 if_6 c_7 ahpσ_9 bhpσ_9 dhpσ_9 c_10 chpσ_9 bf_11 if_11 gc_13_f_11 gc_13_f_12 c_13 hm76 gc_18_f_17 iz_20 ahpσ_23 bhpσ_23 chpσ_23 ir_22 ggy_24 iy_24; omega) | omega) (by rw [q_lnk (v := 240) hI (q_tk (k' := 32) hI ha rfl (Nat.succ_ne_zero _)) rfl (by decide)]; omega) dX12_copyHand_103 (fun H locs σ_25 hσ_25 hI => ?_)
                replace hF := q_letX hF hσ_25
                have fr_σ_25 := fr_σ_15.sl hσ_25 (q_tk (k' := 32) hI ha rfl (Nat.succ_ne_zero _)) rfl
                have mcσ_25 := m_wl (X := X) hσ_25 a
                have feσ_25 : m_c X σ_25 a = m_c X σ a := (funext mcσ_25).trans feσ_15
                obtain ⟨z_26, ez_26⟩ : ∃ y : Int32, y = x_14 + 1 := ⟨_, rfl⟩
                replace hF := q_letX hF ez_26
                refine lv_iinc (v := z_26) (lv' := [(3, .int z_26), (0, .ref a), (1, .int v1), (2, .int v2)]) hx hb dX12_copyHand_104 hl (k := 3) rfl (by rw [ez_26]; rfl) (by decide) rfl (fun ls hl => ?_)
                have iz_26 : z_26.toInt = x_14.toInt + 1 := q_inc ez_26 (by first | (clear ahpσ_4 bhpσ_4 dhpσ_4 c_5 chpσ_4 bf_6 if_6 c_7 ahpσ_9 bhpσ_9 dhpσ_9 c_10 chpσ_9 bf_11 if_11 gc_13_f_11 gc_13_f_12 c_13 hm76 gc_18_f_17 iz_20 ahpσ_23 bhpσ_23 chpσ_23 ir_22 ggy_24 iy_24; omega) | omega)
                refine lv_goto (tgt := 76) hx hb dX12_copyHand_107 (by decide) ?_
                exact ih76 z_26 σ_25 _ _ ls (by first | (clear ahpσ_4 bhpσ_4 dhpσ_4 c_5 chpσ_4 bf_6 if_6 c_7 ahpσ_9 bhpσ_9 dhpσ_9 c_10 chpσ_9 bf_11 if_11 gc_13_f_11 gc_13_f_12 c_13 gc_18_f_17 iz_20 ahpσ_23 bhpσ_23 chpσ_23 ir_22 ggy_24 iy_24; omega) | omega) (by first | (clear hh ahpσ_4 bhpσ_4 dhpσ_4 c_5 chpσ_4 bf_6 if_6 c_7 ahpσ_9 bhpσ_9 dhpσ_9 c_10 chpσ_9 bf_11 if_11 if_12 gc_13_f_11 gc_13_f_12 c_13 hm76 if_17 gc_18_f_17 c_18 iz_20 ahpσ_23 bhpσ_23 chpσ_23 ir_22 ggy_24 iy_24; omega) | omega) fr_σ_25 feσ_25 hF hI (lv_sub hl [1, 2, 3, 0] rfl)
          have kc_27 : (0 : Int32).toInt = 0 := zt_0
          exact L_76_16 ((2147483647 - (0 : Int32).toInt).toNat + 1) 0 σ_2 _ _ ls (Nat.lt_succ_self _) (by decide) fr_σ_2 feσ_2 hF hI (lv_sub hl [1, 2, 3, 0] rfl)
        · skip
          replace hF := q_ifp hF c_13
          refine lv_aload_n hx hb dX12_copyHand_68 rfl (lv_at hl 0 rfl) ?_
          refine lv_iconst (v := 4) hx hb dX12_copyHand_69 zki_4 ?_
          have kc_28 : (4 : Int32).toInt = 4 := zt_4
          refine q_ci (q_rV11_1 (rest := []) E (hml.trans hl.1.symm) hI (c_X12_refuse l X σ_2 a (4 : Int32) ha) kv_X12_284 ha ⟨Nat.le_of_ble_eq_true rfl, Nat.le_of_ble_eq_true rfl⟩ (Nat.le_of_ble_eq_true rfl) dX12_copyHand_70) hI (Nat.le_of_ble_eq_true rfl) (fun r_29 σ_30 H locs hpσ_30 hkσ_30 hI => ?_)
          have ahpσ_30 := hpσ_30.1
          have bhpσ_30 := hpσ_30.2.1
          have chpσ_30 := hpσ_30.2.2
          clear hpσ_30
          have fr_σ_30 := fr_σ_2.call chpσ_30 rfl rfl
          replace hF := q_biX hF bhpσ_30
          have mcσ_30 := m_cK hkσ_30 hI.1 ha (by decide)
          have feσ_30 : m_c X σ_30 a = m_c X σ a := (funext mcσ_30).trans feσ_2
          exact q_reti E hr hlk hI ⟨(hF.trans hout), fr_σ_30⟩ dX12_copyHand_73
      · skip
        replace hF := q_ifp hF c_10
        replace chpσ_9 := q_ifNo chpσ_9 c_10
        refine lv_aload_n hx hb dX12_copyHand_47 rfl (lv_at hl 0 rfl) ?_
        refine lv_iconst (v := 2) hx hb dX12_copyHand_48 zki_2 ?_
        have kc_31 : (2 : Int32).toInt = 2 := zt_2
        refine q_ci (q_rV11_1 (rest := []) E (hml.trans hl.1.symm) hI (c_X12_refuse l X σ_2 a (2 : Int32) ha) kv_X12_284 ha ⟨Nat.le_of_ble_eq_true rfl, Nat.le_of_ble_eq_true rfl⟩ (Nat.le_of_ble_eq_true rfl) dX12_copyHand_49) hI (Nat.le_of_ble_eq_true rfl) (fun r_32 σ_33 H locs hpσ_33 hkσ_33 hI => ?_)
        have ahpσ_33 := hpσ_33.1
        have bhpσ_33 := hpσ_33.2.1
        have chpσ_33 := hpσ_33.2.2
        clear hpσ_33
        have fr_σ_33 := fr_σ_2.call chpσ_33 rfl rfl
        replace hF := q_biX hF bhpσ_33
        have mcσ_33 := m_cK hkσ_33 hI.1 ha (by decide)
        have feσ_33 : m_c X σ_33 a = m_c X σ a := (funext mcσ_33).trans feσ_2
        exact q_reti E hr hlk hI ⟨(hF.trans hout), fr_σ_33⟩ dX12_copyHand_52
    · skip
      replace hF := q_ifp hF c_7
      refine lv_aload_n hx hb dX12_copyHand_33 rfl (lv_at hl 0 rfl) ?_
      refine lv_iconst (v := 3) hx hb dX12_copyHand_34 zki_3 ?_
      have kc_34 : (3 : Int32).toInt = 3 := zt_3
      refine q_ci (q_rV11_1 (rest := []) E (hml.trans hl.1.symm) hI (c_X12_refuse l X σ_2 a (3 : Int32) ha) kv_X12_284 ha ⟨Nat.le_of_ble_eq_true rfl, Nat.le_of_ble_eq_true rfl⟩ (Nat.le_of_ble_eq_true rfl) dX12_copyHand_35) hI (Nat.le_of_ble_eq_true rfl) (fun r_35 σ_36 H locs hpσ_36 hkσ_36 hI => ?_)
      have ahpσ_36 := hpσ_36.1
      have bhpσ_36 := hpσ_36.2.1
      have chpσ_36 := hpσ_36.2.2
      clear hpσ_36
      have fr_σ_36 := fr_σ_2.call chpσ_36 rfl rfl
      replace hF := q_biX hF bhpσ_36
      have mcσ_36 := m_cK hkσ_36 hI.1 ha (by decide)
      have feσ_36 : m_c X σ_36 a = m_c X σ a := (funext mcσ_36).trans feσ_2
      exact q_reti E hr hlk hI ⟨(hF.trans hout), fr_σ_36⟩ dX12_copyHand_38
  · skip
    replace hF := q_ifp hF c_5
    replace chpσ_4 := q_ifNo chpσ_4 c_5
    refine lv_aload_n hx hb dX12_copyHand_18 rfl (lv_at hl 0 rfl) ?_
    refine lv_iconst (v := 1) hx hb dX12_copyHand_19 zki_1 ?_
    have kc_37 : (1 : Int32).toInt = 1 := zt_1
    refine q_ci (q_rV11_1 (rest := []) E (hml.trans hl.1.symm) hI (c_X12_refuse l X σ_2 a (1 : Int32) ha) kv_X12_284 ha ⟨Nat.le_of_ble_eq_true rfl, Nat.le_of_ble_eq_true rfl⟩ (Nat.le_of_ble_eq_true rfl) dX12_copyHand_20) hI (Nat.le_of_ble_eq_true rfl) (fun r_38 σ_39 H locs hpσ_39 hkσ_39 hI => ?_)
    have ahpσ_39 := hpσ_39.1
    have bhpσ_39 := hpσ_39.2.1
    have chpσ_39 := hpσ_39.2.2
    clear hpσ_39
    have fr_σ_39 := fr_σ_2.call chpσ_39 rfl rfl
    replace hF := q_biX hF bhpσ_39
    have mcσ_39 := m_cK hkσ_39 hI.1 ha (by decide)
    have feσ_39 : m_c X σ_39 a = m_c X σ a := (funext mcσ_39).trans feσ_2
    exact q_reti E hr hlk hI ⟨(hF.trans hout), fr_σ_39⟩ dX12_copyHand_23
end
