section
set_option maxRecDepth 100000 in
set_option maxHeartbeats 4000000 in
theorem c_X12_honestFor (l : Launch) (X : XW) (σ : ST) (a : Nat) (v1 : Int32) (v2 : Int32) (ha : q_kd X a = 12) (hG : m_G (m_c X σ a)) (h0 : 0 ≤ v1.toInt ∧ v1.toInt < m_c X σ a 2) (h1 : 0 ≤ v2.toInt ∧ v2.toInt ≤ 60) : Met l yX12_honestFor (q_ws yX12_honestFor cX12_honestFor 7 (some .int)) (q_rm 3 67) (q_P X σ [.ref a, .int v1, .int v2]) (q_Qi X 8 σ (fun (r : Int32) (σ' : ST) => (r, σ') = F_X12_honestFor X σ a v1 v2 ∧ q_ow [(12, 33), (12, 34), (12, 35), (38, 99)] [] X σ σ')) 0 0 (q_reg X) := by
  refine q_met 8 (by first | exact rfl | decide +kernel) rfl (Nat.le_of_ble_eq_true rfl) (fun p e s m below meth c E hml hr hlk hI ls hl => ?_)
  have hx := E.1
  have hb := E.2.1
  have hl : lv_has ls 7 [(0, .ref a), (1, .int v1), (2, .int v2)] := hl
  have feσ : m_c X σ a = m_c X σ a := rfl
  have fr_σ : q_ow [(12, 33), (12, 34), (12, 35), (38, 99)] [] X σ σ := q_ow.rf
  have hh := hG.hd
  obtain ⟨out, hout⟩ : ∃ o, o = F_X12_honestFor X σ a v1 v2 := ⟨_, rfl⟩
  have hF := hout.symm
  unfold F_X12_honestFor at hF
  refine lv_iconst (v := 0) hx hb dX12_honestFor_0 zki_0 ?_
  refine lv_istore_n (lv' := [(3, .int 0), (0, .ref a), (1, .int v1), (2, .int v2)]) hx hb dX12_honestFor_1 rfl hl (by decide) rfl (fun ls hl => ?_)
  have L_2_3 : ∀ (k_3 : Nat) (x_1 : Int32) (σ_2 : ST) (H : Heap) (locs : List Loc) (ls : Array Slot), (2147483647 - x_1.toInt).toNat < k_3 → (0 ≤ x_1.toInt) → (q_ow [(12, 33), (12, 34), (12, 35), (38, 99)] [] X σ σ_2) → (m_c X σ_2 a = m_c X σ a) → (F_X12_honestFor_L2_1 X a v1 v2 k_3 x_1 σ_2 = out) → q_I X 8 σ s.heap locs σ_2 H → lv_has ls 7 [(0, .ref a), (1, .int v1), (2, .int v2), (3, .int x_1)] → W p l e (q_rm 3 67) s m ([.ref a, .int v1, .int v2] : List Value).toArray below meth c H locs 0 0 (MQ below (q_Qi X 8 σ (fun (r : Int32) (σ' : ST) => (r, σ') = F_X12_honestFor X σ a v1 v2 ∧ q_ow [(12, 33), (12, 34), (12, 35), (38, 99)] [] X σ σ')) ([.ref a, .int v1, .int v2] : List Value).toArray s 0 0 (q_reg X)) (F0 m 2 ls []) := by
    clear hF
    intro k_3
    induction k_3 with
    | zero =>
      intro x_1 σ_2 H locs ls hms
      try clear feσ; try clear fr_σ
      exact absurd hms (Nat.not_lt_zero _)
    | succ k_3 ih2 =>
      intro x_1 σ_2 H locs ls hm2 hge2 fr_σ_2 feσ_2 hF hI hl
      replace hF := (F_X12_honestFor_L2_1_s).symm.trans hF
      unfold F_X12_honestFor_B2_1 at hF
      refine lv_iload_n hx hb dX12_honestFor_2 rfl (lv_at hl 3 rfl) ?_
      refine lv_bipush (v := 10) hx hb dX12_honestFor_3 zkb_10 ?_
      have gc_4_x_1 := q_rng x_1
      refine q_icmp_ge (A := x_1.toInt) (B := 10) E rfl (by decide) (tgt := 26) dX12_honestFor_5 (by decide) (fun c_4 => ?_) (fun c_4 => ?_)
      · skip
        replace hF := q_ifn hF (Int.not_lt.mpr c_4)
        unfold F_X12_honestFor_E26_5 at hF
        refine lv_aload_n hx hb dX12_honestFor_26 rfl (lv_at hl 0 rfl) ?_
        refine lv_iload_n hx hb dX12_honestFor_27 rfl (lv_at hl 1 rfl) ?_
        refine q_ci (q_rV11_1 (rest := []) E (hml.trans hl.1.symm) hI (c_X12_cardsOf l X σ_2 a v1 ha (by rw [feσ_2]; exact hG) (by first | (clear h0 h1 hm2 hge2 gc_4_x_1 c_4; omega) | omega)) kv_X12_293 ha ⟨Nat.le_of_ble_eq_true rfl, Nat.le_of_ble_eq_true rfl⟩ (Nat.le_of_ble_eq_true rfl) dX12_honestFor_28) hI (Nat.le_of_ble_eq_true rfl) (fun r_5 σ_6 H locs hpσ_6 hkσ_6 hI => ?_)
        have ahpσ_6 := hpσ_6.1
        have bhpσ_6 := hpσ_6.2.1
        have chpσ_6 := hpσ_6.2.2.1
        have dhpσ_6 := hpσ_6.2.2.2
        clear hpσ_6
        replace hI := q_Irw ahpσ_6 hI
        rw [feσ_2] at bhpσ_6
        replace hF := q_letX hF dhpσ_6
        refine lv_istore_n (lv' := [(3, .int r_5), (0, .ref a), (1, .int v1), (2, .int v2)]) hx hb dX12_honestFor_31 rfl hl (by decide) rfl (fun ls hl => ?_)
        refine lv_aload_n hx hb dX12_honestFor_32 rfl (lv_at hl 1 rfl) ?_
        refine lv_iconst (v := 0) hx hb dX12_honestFor_33 zki_0 ?_
        refine ps_X12_375_12 E hI ha (by decide) dX12_honestFor_34 (fun H locs σ_7 hσ_7 hI => ?_)
        replace hF := q_letX hF hσ_7
        have fr_σ_7 := fr_σ_2.si hσ_7 ha rfl
        have mcσ_7 := m_wo hσ_7 (m_ne ha (q_tk (f := 20) (k' := 34) hI ha rfl (by decide)) (by decide))
        have feσ_7 : m_c X σ_7 a = m_c X σ a := (funext mcσ_7).trans feσ_2
        refine lv_aload_n hx hb dX12_honestFor_37 rfl (lv_at hl 1 rfl) ?_
        refine lv_iconst (v := (-1)) hx hb dX12_honestFor_38 zki_m1 ?_
        refine ps_X12_378_12 E hI ha (by decide) dX12_honestFor_39 (fun H locs σ_8 hσ_8 hI => ?_)
        replace hF := q_letX hF hσ_8
        have fr_σ_8 := fr_σ_7.si hσ_8 ha rfl
        have mcσ_8 := m_wo hσ_8 (m_ne ha (q_tk (f := 20) (k' := 34) hI ha rfl (by decide)) (by decide))
        have feσ_8 : m_c X σ_8 a = m_c X σ a := (funext mcσ_8).trans feσ_7
        refine lv_aload_n hx hb dX12_honestFor_42 rfl (lv_at hl 1 rfl) ?_
        refine lv_iconst (v := (-1)) hx hb dX12_honestFor_43 zki_m1 ?_
        refine ps_X12_381_12 E hI ha (by decide) dX12_honestFor_44 (fun H locs σ_9 hσ_9 hI => ?_)
        replace hF := q_letX hF hσ_9
        have fr_σ_9 := fr_σ_8.si hσ_9 ha rfl
        have mcσ_9 := m_wo hσ_9 (m_ne ha (q_tk (f := 20) (k' := 34) hI ha rfl (by decide)) (by decide))
        have feσ_9 : m_c X σ_9 a = m_c X σ a := (funext mcσ_9).trans feσ_8
        refine lv_iconst (v := 0) hx hb dX12_honestFor_47 zki_0 ?_
        refine lv_istore (lv' := [(4, .int 0), (3, .int r_5), (0, .ref a), (1, .int v1), (2, .int v2)]) hx hb dX12_honestFor_48 hl (by decide) rfl (fun ls hl => ?_)
        have L_50_13 : ∀ (k_13 : Nat) (x_10 : Int32) (x_11 : Int32) (σ_12 : ST) (H : Heap) (locs : List Loc) (ls : Array Slot), (2147483647 - x_11.toInt).toNat < k_13 → (0 ≤ x_11.toInt) → (q_ow [(12, 33), (12, 34), (12, 35), (38, 99)] [] X σ σ_12) → (m_c X σ_12 a = m_c X σ a) → (F_X12_honestFor_L50_3 X v2 a v1 k_13 x_10 x_11 σ_12 = out) → q_I X 8 σ s.heap locs σ_12 H → lv_has ls 7 [(0, .ref a), (1, .int v1), (2, .int v2), (3, .int x_10), (4, .int x_11)] → W p l e (q_rm 3 67) s m ([.ref a, .int v1, .int v2] : List Value).toArray below meth c H locs 0 0 (MQ below (q_Qi X 8 σ (fun (r : Int32) (σ' : ST) => (r, σ') = F_X12_honestFor X σ a v1 v2 ∧ q_ow [(12, 33), (12, 34), (12, 35), (38, 99)] [] X σ σ')) ([.ref a, .int v1, .int v2] : List Value).toArray s 0 0 (q_reg X)) (F0 m 50 ls []) := by
          clear hF
          intro k_13
          induction k_13 with
          | zero =>
            intro x_10 x_11 σ_12 H locs ls hms
            try clear ahpσ_6; try clear fr_σ_7; try clear mcσ_7; try clear feσ_7; try clear fr_σ_8; try clear mcσ_8; try clear feσ_8; try clear fr_σ_9; try clear mcσ_9; try clear feσ_9
            exact absurd hms (Nat.not_lt_zero _)
          | succ k_13 ih50 =>
            intro x_10 x_11 σ_12 H locs ls hm50 hge50 fr_σ_12 feσ_12 hF hI hl
            replace hF := (F_X12_honestFor_L50_3_s).symm.trans hF
            unfold F_X12_honestFor_B50_3 at hF
            refine lv_iload hx hb dX12_honestFor_50 (lv_at hl 4 rfl) ?_
            refine lv_iload_n hx hb dX12_honestFor_52 rfl (lv_at hl 2 rfl) ?_
            have gc_14_x_11 := q_rng x_11
            have gc_14_v2 := q_rng v2
            refine q_icmp_ge (A := x_11.toInt) (B := v2.toInt) E rfl rfl (tgt := 157) dX12_honestFor_53 (by decide) (fun c_14 => ?_) (fun c_14 => ?_)
            · skip
              replace hF := q_ifn hF (Int.not_lt.mpr c_14)
              skip
              refine lv_iload_n hx hb dX12_honestFor_157 rfl (lv_at hl 3 rfl) ?_
              exact q_reti E hr hlk hI ⟨(hF.trans hout), fr_σ_12⟩ dX12_honestFor_158
            · skip
              replace hF := q_ifp hF c_14
              refine lv_aload_n hx hb dX12_honestFor_56 rfl (lv_at hl 0 rfl) ?_
              refine lv_iload_n hx hb dX12_honestFor_57 rfl (lv_at hl 1 rfl) ?_
              refine lv_iload hx hb dX12_honestFor_58 (lv_at hl 4 rfl) ?_
              refine q_ci (q_rV11_2 (rest := []) E (hml.trans hl.1.symm) hI (c_X12_fallsTo l X σ_12 a v1 x_11 ha (by rw [feσ_12]; exact hG) (by rw [feσ_12]; exact (by omega)) (by first | (clear h0 h1 hh hm2 hge2 gc_4_x_1 c_4 bhpσ_6 chpσ_6 dhpσ_6 hm50 gc_14_v2; omega) | omega)) kv_X12_372 ha ⟨Nat.le_of_ble_eq_true rfl, Nat.le_of_ble_eq_true rfl⟩ (Nat.le_of_ble_eq_true rfl) dX12_honestFor_60) hI (Nat.le_of_ble_eq_true rfl) (fun r_15 σ_16 H locs hpσ_16 hkσ_16 hI => ?_)
              have ahpσ_16 := hpσ_16.1
              have bhpσ_16 := hpσ_16.2.1
              have chpσ_16 := hpσ_16.2.2
              clear hpσ_16
              replace hI := q_Irw ahpσ_16 hI
              rw [feσ_12] at bhpσ_16
              replace hF := q_letX hF chpσ_16
              refine lv_istore (lv' := [(5, .int r_15), (0, .ref a), (1, .int v1), (2, .int v2), (3, .int x_10), (4, .int x_11)]) hx hb dX12_honestFor_63 hl (by decide) rfl (fun ls hl => ?_)
              refine lv_aload_n hx hb dX12_honestFor_65 rfl (lv_at hl 1 rfl) ?_
              refine gs_X12_35_12 E hI ha dX12_honestFor_66 ?_
              refine lv_iconst (v := 4) hx hb dX12_honestFor_69 zki_4 ?_
              refine q_iald E hI (q_tk (k' := 34) hI ha rfl (Nat.succ_ne_zero _)) ⟨by decide, rfl⟩ (by decide) (by rw [q_lnk (v := 4650) hI (q_tk (k' := 34) hI ha rfl (Nat.succ_ne_zero _)) rfl (by decide)]; decide) dX12_honestFor_70 ?_
              refine lv_topi (fun f_17 ef_17 => ?_)
              replace hF := q_letX hF ef_17
              have if_17 : f_17.toInt = m_c X σ a 4 := (m_rd ef_17 (by decide)).trans (congrFun feσ_12 _)
              refine lv_aload_n hx hb dX12_honestFor_71 rfl (lv_at hl 1 rfl) ?_
              refine gs_X12_53_12 E hI ha dX12_honestFor_72 ?_
              refine lv_iload hx hb dX12_honestFor_75 (lv_at hl 0 rfl) ?_
              refine q_iald E hI (q_tk (k' := 38) hI ha rfl (Nat.succ_ne_zero _)) ⟨by decide, rfl⟩ (by first | (clear h0 h1 hh hm2 hge2 gc_4_x_1 c_4 bhpσ_6 chpσ_6 dhpσ_6 hm50 hge50 gc_14_x_11 gc_14_v2 c_14 ahpσ_16 chpσ_16 if_17; omega) | omega) (by rw [q_lnk (v := 10) hI (q_tk (k' := 38) hI ha rfl (Nat.succ_ne_zero _)) rfl (by decide)]; omega) dX12_honestFor_77 ?_
              refine lv_topi (fun f_18 ef_18 => ?_)
              replace hF := q_letX hF ef_18
              refine q_ci (q_runS (As := [.int f_17, .int f_18]) (rest := []) E (hml.trans hl.1.symm) hI (c_J9_min_7cf53 l X σ_12 f_17 f_18) ks_X12_384 rfl ⟨Nat.le_of_ble_eq_true rfl, Nat.le_of_ble_eq_true rfl⟩ ⟨Nat.le_refl _, Nat.le_refl _⟩ rfl (Nat.le_of_ble_eq_true rfl) dX12_honestFor_78) hI (Nat.le_of_ble_eq_true rfl) (fun r_19 σ_20 H locs hpσ_20 hkσ_20 hI => ?_)
              have ahpσ_20 := hpσ_20.1
              have bhpσ_20 := hpσ_20.2.1
              have chpσ_20 := hpσ_20.2.2
              clear hpσ_20
              replace hI := q_Irw ahpσ_20 hI
              replace hF := q_letX hF chpσ_20
              refine lv_istore (lv' := [(6, .int r_19), (5, .int r_15), (0, .ref a), (1, .int v1), (2, .int v2), (3, .int x_10), (4, .int x_11)]) hx hb dX12_honestFor_81 hl (by decide) rfl (fun ls hl => ?_)
              refine lv_iload hx hb dX12_honestFor_83 (lv_at hl 0 rfl) ?_
              have J_105_21 : ∀  (σ_21 : ST) (H : Heap) (locs : List Loc) (ls : Array Slot), (q_ow [(12, 33), (12, 34), (12, 35), (38, 99)] [] X σ σ_21) → (m_c X σ_21 a = m_c X σ a) → (F_X12_honestFor_J105_5 X a r_15 r_19 x_10 x_11 (F_X12_honestFor_L50_3 X v2 a v1 k_13) σ_21 = out) → q_I X 8 σ s.heap locs σ_21 H → lv_has ls 7 [(0, .ref a), (1, .int v1), (2, .int v2), (3, .int x_10), (4, .int x_11), (5, .int r_15), (6, .int r_19)] → W p l e (q_rm 3 67) s m ([.ref a, .int v1, .int v2] : List Value).toArray below meth c H locs 0 0 (MQ below (q_Qi X 8 σ (fun (r : Int32) (σ' : ST) => (r, σ') = F_X12_honestFor X σ a v1 v2 ∧ q_ow [(12, 33), (12, 34), (12, 35), (38, 99)] [] X σ σ')) ([.ref a, .int v1, .int v2] : List Value).toArray s 0 0 (q_reg X)) (F0 m 105 ls []) := by
                clear hF
                intro σ_21 H locs ls fr_σ_21 feσ_21 hF hI hl
                try clear ahpσ_16; try clear ahpσ_20
                unfold F_X12_honestFor_J105_5 at hF
                refine lv_aload_n hx hb dX12_honestFor_105 rfl (lv_at hl 0 rfl) ?_
                refine gs_X12_53_12 E hI ha dX12_honestFor_106 ?_
                refine lv_iload hx hb dX12_honestFor_109 (lv_at hl 5 rfl) ?_
                refine lv_dup2_11 hx hb dX12_honestFor_111 rfl rfl ?_
                refine q_iald E hI (q_tk (k' := 38) hI ha rfl (Nat.succ_ne_zero _)) ⟨by decide, rfl⟩ (by first | (clear h0 h1 hh hm2 hge2 gc_4_x_1 c_4 bhpσ_6 chpσ_6 dhpσ_6 hm50 hge50 gc_14_x_11 gc_14_v2 c_14 chpσ_16 if_17 bhpσ_20 chpσ_20; omega) | omega) (by rw [q_lnk (v := 10) hI (q_tk (k' := 38) hI ha rfl (Nat.succ_ne_zero _)) rfl (by decide)]; omega) dX12_honestFor_112 ?_
                refine lv_topi (fun f_22 ef_22 => ?_)
                replace hF := q_letX hF ef_22
                refine lv_iload hx hb dX12_honestFor_113 (lv_at hl 6 rfl) ?_
                refine lv_isub hx hb dX12_honestFor_115 ?_
                refine lv_topi (fun z_23 ez_23 => ?_)
                replace hF := q_letX hF ez_23
                refine q_iastN E hI (q_tk (k' := 38) hI ha rfl (Nat.succ_ne_zero _)) ⟨by decide, rfl⟩ (by first | (clear h0 h1 hh hm2 hge2 gc_4_x_1 c_4 bhpσ_6 chpσ_6 dhpσ_6 hm50 hge50 gc_14_x_11 gc_14_v2 c_14 chpσ_16 if_17 bhpσ_20 chpσ_20; omega) | omega) (by rw [q_lnk (v := 10) hI (q_tk (k' := 38) hI ha rfl (Nat.succ_ne_zero _)) rfl (by decide)]; omega) (show 8 < 9 by decide) (q_inU rfl) dX12_honestFor_116 (fun H locs σ_24 hσ_24 hI => ?_)
                replace hF := q_letX hF hσ_24
                have fr_σ_24 := fr_σ_21.si hσ_24 (q_tk (k' := 38) hI ha rfl (Nat.succ_ne_zero _)) rfl
                have mcσ_24 := m_wo hσ_24 (m_ne (q_tk (k' := 38) hI ha rfl (Nat.succ_ne_zero _)) (q_tk (f := 20) (k' := 34) hI ha rfl (by decide)) (by decide))
                have feσ_24 : m_c X σ_24 a = m_c X σ a := (funext mcσ_24).trans feσ_21
                refine lv_aload_n hx hb dX12_honestFor_117 rfl (lv_at hl 0 rfl) ?_
                refine lv_dup hx hb dX12_honestFor_118 rfl ?_
                refine gs_X12_375_12 E hI ha dX12_honestFor_119 ?_
                refine lv_topi (fun f_25 ef_25 => ?_)
                replace hF := q_letX hF ef_25
                have if_25 : f_25.toInt = (σ_24.1 a 33).toInt := congrArg Int32.toInt ef_25
                refine lv_iload hx hb dX12_honestFor_122 (lv_at hl 6 rfl) ?_
                refine lv_iadd hx hb dX12_honestFor_124 ?_
                refine lv_topi (fun z_26 ez_26 => ?_)
                replace hF := q_letX hF ez_26
                refine ps_X12_375_12 E hI ha (by decide) dX12_honestFor_125 (fun H locs σ_27 hσ_27 hI => ?_)
                replace hF := q_letX hF hσ_27
                have fr_σ_27 := fr_σ_24.si hσ_27 ha rfl
                have mcσ_27 := m_wo hσ_27 (m_ne ha (q_tk (f := 20) (k' := 34) hI ha rfl (by decide)) (by decide))
                have feσ_27 : m_c X σ_27 a = m_c X σ a := (funext mcσ_27).trans feσ_24
                refine lv_iload_n hx hb dX12_honestFor_128 rfl (lv_at hl 3 rfl) ?_
                refine lv_iload hx hb dX12_honestFor_129 (lv_at hl 6 rfl) ?_
                refine lv_isub hx hb dX12_honestFor_131 ?_
                refine lv_topi (fun z_28 ez_28 => ?_)
                replace hF := q_letX hF ez_28
                refine lv_istore_n (lv' := [(3, .int z_28), (0, .ref a), (1, .int v1), (2, .int v2), (4, .int x_11), (5, .int r_15), (6, .int r_19)]) hx hb dX12_honestFor_132 rfl hl (by decide) rfl (fun ls hl => ?_)
                refine lv_aload_n hx hb dX12_honestFor_133 rfl (lv_at hl 1 rfl) ?_
                refine lv_iload hx hb dX12_honestFor_134 (lv_at hl 6 rfl) ?_
                refine q_if_le (A := r_19.toInt) E rfl (tgt := 144) dX12_honestFor_136 (by decide) (fun c_29 => ?_) (fun c_29 => ?_)
                · skip
                  replace hF := q_ifn hF (Int.not_lt.mpr c_29)
                  refine lv_aload_n hx hb dX12_honestFor_144 rfl (lv_at hl 1 rfl) ?_
                  refine gs_X12_378_12 E hI ha dX12_honestFor_145 ?_
                  refine lv_topi (fun f_30 ef_30 => ?_)
                  replace hF := q_letX hF ef_30
                  have if_30 : f_30.toInt = (σ_27.1 a 34).toInt := congrArg Int32.toInt ef_30
                  refine ps_X12_378_12 E hI ha (by decide) dX12_honestFor_148 (fun H locs σ_31 hσ_31 hI => ?_)
                  replace hF := q_letX hF hσ_31
                  have fr_σ_31 := fr_σ_27.si hσ_31 ha rfl
                  have mcσ_31 := m_wo hσ_31 (m_ne ha (q_tk (f := 20) (k' := 34) hI ha rfl (by decide)) (by decide))
                  have feσ_31 : m_c X σ_31 a = m_c X σ a := (funext mcσ_31).trans feσ_27
                  obtain ⟨z_32, ez_32⟩ : ∃ y : Int32, y = x_11 + 1 := ⟨_, rfl⟩
                  replace hF := q_letX hF ez_32
                  refine lv_iinc (v := z_32) (lv' := [(4, .int z_32), (3, .int z_28), (0, .ref a), (1, .int v1), (2, .int v2), (5, .int r_15), (6, .int r_19)]) hx hb dX12_honestFor_151 hl (k := 4) rfl (by rw [ez_32]; rfl) (by decide) rfl (fun ls hl => ?_)
                  have iz_32 : z_32.toInt = x_11.toInt + 1 := q_inc ez_32 (by first | (clear h0 h1 hh hm2 hge2 gc_4_x_1 c_4 bhpσ_6 chpσ_6 dhpσ_6 hm50 gc_14_v2 bhpσ_16 chpσ_16 if_17 bhpσ_20 chpσ_20 if_25 c_29 if_30; omega) | omega)
                  refine lv_goto (tgt := 50) hx hb dX12_honestFor_154 (by decide) ?_
                  exact ih50 z_28 z_32 σ_31 _ _ ls (by first | (clear h0 h1 hm2 hge2 gc_4_x_1 c_4 bhpσ_6 chpσ_6 dhpσ_6 gc_14_v2 bhpσ_16 chpσ_16 chpσ_20 if_25 if_30; omega) | omega) (by first | (clear h0 h1 hh hm2 hge2 gc_4_x_1 c_4 bhpσ_6 chpσ_6 dhpσ_6 hm50 gc_14_v2 c_14 bhpσ_16 chpσ_16 if_17 bhpσ_20 chpσ_20 if_25 c_29 if_30; omega) | omega) fr_σ_31 feσ_31 hF hI (lv_sub hl [2, 3, 4, 1, 0] rfl)
                · skip
                  replace hF := q_ifp hF c_29
                  refine lv_iload hx hb dX12_honestFor_139 (lv_at hl 5 rfl) ?_
                  refine lv_goto (tgt := 148) hx hb dX12_honestFor_141 (by decide) ?_
                  refine ps_X12_378_12 E hI ha (by decide) dX12_honestFor_148 (fun H locs σ_33 hσ_33 hI => ?_)
                  replace hF := q_letX hF hσ_33
                  have fr_σ_33 := fr_σ_27.si hσ_33 ha rfl
                  have mcσ_33 := m_wo hσ_33 (m_ne ha (q_tk (f := 20) (k' := 34) hI ha rfl (by decide)) (by decide))
                  have feσ_33 : m_c X σ_33 a = m_c X σ a := (funext mcσ_33).trans feσ_27
                  obtain ⟨z_34, ez_34⟩ : ∃ y : Int32, y = x_11 + 1 := ⟨_, rfl⟩
                  replace hF := q_letX hF ez_34
                  refine lv_iinc (v := z_34) (lv' := [(4, .int z_34), (3, .int z_28), (0, .ref a), (1, .int v1), (2, .int v2), (5, .int r_15), (6, .int r_19)]) hx hb dX12_honestFor_151 hl (k := 4) rfl (by rw [ez_34]; rfl) (by decide) rfl (fun ls hl => ?_)
                  have iz_34 : z_34.toInt = x_11.toInt + 1 := q_inc ez_34 (by first | (clear h0 h1 hh hm2 hge2 gc_4_x_1 c_4 bhpσ_6 chpσ_6 dhpσ_6 hm50 gc_14_v2 bhpσ_16 chpσ_16 if_17 bhpσ_20 chpσ_20 if_25 c_29; omega) | omega)
                  refine lv_goto (tgt := 50) hx hb dX12_honestFor_154 (by decide) ?_
                  exact ih50 z_28 z_34 σ_33 _ _ ls (by first | (clear h0 h1 hh hm2 hge2 gc_4_x_1 c_4 bhpσ_6 chpσ_6 dhpσ_6 gc_14_v2 bhpσ_16 chpσ_16 if_17 bhpσ_20 chpσ_20 if_25 c_29; omega) | omega) (by first | (clear h0 h1 hh hm2 hge2 gc_4_x_1 c_4 bhpσ_6 chpσ_6 dhpσ_6 hm50 gc_14_v2 c_14 bhpσ_16 chpσ_16 if_17 bhpσ_20 chpσ_20 if_25 c_29; omega) | omega) fr_σ_33 feσ_33 hF hI (lv_sub hl [2, 3, 4, 1, 0] rfl)
              refine q_if_ne (A := r_19.toInt) E rfl (tgt := 105) dX12_honestFor_85 (by decide) (fun c_35 => ?_) (fun c_35 => ?_)
              · skip
                replace hF := q_ifn hF c_35
                exact J_105_21 σ_12 _ _ ls fr_σ_12 feσ_12 hF hI (lv_sub hl [2, 3, 4, 5, 6, 1, 0] rfl)
              · skip
                replace hF := q_ifp hF c_35
                refine lv_iload_n hx hb dX12_honestFor_88 rfl (lv_at hl 5 rfl) ?_
                refine q_if_le (A := x_10.toInt) E rfl (tgt := 105) dX12_honestFor_89 (by decide) (fun c_36 => ?_) (fun c_36 => ?_)
                · skip
                  replace hF := q_ifn hF (Int.not_lt.mpr c_36)
                  exact J_105_21 σ_12 _ _ ls fr_σ_12 feσ_12 hF hI (lv_sub hl [2, 3, 4, 5, 6, 1, 0] rfl)
                · skip
                  replace hF := q_ifp hF c_36
                  refine lv_aload_n hx hb dX12_honestFor_92 rfl (lv_at hl 2 rfl) ?_
                  refine gs_X12_381_12 E hI ha dX12_honestFor_93 ?_
                  refine lv_topi (fun f_37 ef_37 => ?_)
                  replace hF := q_letX hF ef_37
                  have if_37 : f_37.toInt = (σ_12.1 a 35).toInt := congrArg Int32.toInt ef_37
                  refine q_if_ge (A := f_37.toInt) E rfl (tgt := 105) dX12_honestFor_96 (by decide) (fun c_38 => ?_) (fun c_38 => ?_)
                  · skip
                    replace hF := q_ifn hF (Int.not_lt.mpr c_38)
                    exact J_105_21 σ_12 _ _ ls fr_σ_12 feσ_12 hF hI (lv_sub hl [2, 3, 4, 5, 6, 1, 0] rfl)
                  · skip
                    replace hF := q_ifp hF c_38
                    refine lv_aload_n hx hb dX12_honestFor_99 rfl (lv_at hl 2 rfl) ?_
                    refine lv_iload hx hb dX12_honestFor_100 (lv_at hl 6 rfl) ?_
                    refine ps_X12_381_12 E hI ha (by decide) dX12_honestFor_102 (fun H locs σ_39 hσ_39 hI => ?_)
                    replace hF := q_letX hF hσ_39
                    have fr_σ_39 := fr_σ_12.si hσ_39 ha rfl
                    have mcσ_39 := m_wo hσ_39 (m_ne ha (q_tk (f := 20) (k' := 34) hI ha rfl (by decide)) (by decide))
                    have feσ_39 : m_c X σ_39 a = m_c X σ a := (funext mcσ_39).trans feσ_12
                    exact J_105_21 σ_39 _ _ ls fr_σ_39 feσ_39 hF hI (lv_sub hl [2, 3, 4, 5, 6, 1, 0] rfl)
        have kc_40 : (0 : Int32).toInt = 0 := zt_0
        exact L_50_13 ((2147483647 - (0 : Int32).toInt).toNat + 1) r_5 0 σ_9 _ _ ls (Nat.lt_succ_self _) (by decide) fr_σ_9 feσ_9 hF hI (lv_sub hl [2, 3, 4, 1, 0] rfl)
      · skip
        replace hF := q_ifp hF c_4
        refine lv_aload_n hx hb dX12_honestFor_8 rfl (lv_at hl 0 rfl) ?_
        refine gs_X12_53_12 E hI ha dX12_honestFor_9 ?_
        refine lv_iload_n hx hb dX12_honestFor_12 rfl (lv_at hl 3 rfl) ?_
        refine lv_aload_n hx hb dX12_honestFor_13 rfl (lv_at hl 0 rfl) ?_
        refine lv_iload_n hx hb dX12_honestFor_14 rfl (lv_at hl 1 rfl) ?_
        refine lv_iload_n hx hb dX12_honestFor_15 rfl (lv_at hl 3 rfl) ?_
        refine q_ci (q_rV11_2 (rest := [.int x_1, .ref (q_rf X a 32)]) E (hml.trans hl.1.symm) hI (c_X12_handOf l X σ_2 a v1 x_1 ha (by first | (clear h0 h1 hm2 hge2 gc_4_x_1 c_4; omega) | omega) (by first | (clear h0 h1 hh hm2; omega) | omega)) kv_X12_276 ha ⟨Nat.le_of_ble_eq_true rfl, Nat.le_of_ble_eq_true rfl⟩ (Nat.le_of_ble_eq_true rfl) dX12_honestFor_16) hI (Nat.le_of_ble_eq_true rfl) (fun r_41 σ_42 H locs hpσ_42 hkσ_42 hI => ?_)
        have ahpσ_42 := hpσ_42.1
        have bhpσ_42 := hpσ_42.2.1
        have chpσ_42 := hpσ_42.2.2
        clear hpσ_42
        replace hI := q_Irw ahpσ_42 hI
        rw [feσ_2] at bhpσ_42
        replace hF := q_letX hF chpσ_42
        have ir_41 : r_41.toInt = (m_c X σ a (34 + 10 * v1.toInt + x_1.toInt)) := (by first | exact bhpσ_42 | (rw [bhpσ_42]) | (simp only [bhpσ_42]))
        refine q_iastN E hI (q_tk (k' := 38) hI ha rfl (Nat.succ_ne_zero _)) ⟨by decide, rfl⟩ (by omega) (by rw [q_lnk (v := 10) hI (q_tk (k' := 38) hI ha rfl (Nat.succ_ne_zero _)) rfl (by decide)]; omega) (show 8 < 9 by decide) (q_inU rfl) dX12_honestFor_19 (fun H locs σ_43 hσ_43 hI => ?_)
        replace hF := q_letX hF hσ_43
        have fr_σ_43 := fr_σ_2.si hσ_43 (q_tk (k' := 38) hI ha rfl (Nat.succ_ne_zero _)) rfl
        have mcσ_43 := m_wo hσ_43 (m_ne (q_tk (k' := 38) hI ha rfl (Nat.succ_ne_zero _)) (q_tk (f := 20) (k' := 34) hI ha rfl (by decide)) (by decide))
        have feσ_43 : m_c X σ_43 a = m_c X σ a := (funext mcσ_43).trans feσ_2
        obtain ⟨z_44, ez_44⟩ : ∃ y : Int32, y = x_1 + 1 := ⟨_, rfl⟩
        replace hF := q_letX hF ez_44
        refine lv_iinc (v := z_44) (lv' := [(3, .int z_44), (0, .ref a), (1, .int v1), (2, .int v2)]) hx hb dX12_honestFor_20 hl (k := 3) rfl (by rw [ez_44]; rfl) (by decide) rfl (fun ls hl => ?_)
        have iz_44 : z_44.toInt = x_1.toInt + 1 := q_inc ez_44 (by first | (clear h0 h1 hh hm2 ahpσ_42 bhpσ_42 chpσ_42 ir_41; omega) | omega)
        refine lv_goto (tgt := 2) hx hb dX12_honestFor_23 (by decide) ?_
        exact ih2 z_44 σ_43 _ _ ls (by first | (clear h0 h1 hh ahpσ_42 bhpσ_42 chpσ_42 ir_41; omega) | omega) (by first | (clear h0 h1 hh hm2 ahpσ_42 bhpσ_42 chpσ_42 ir_41; omega) | omega) fr_σ_43 feσ_43 hF hI (lv_sub hl [1, 2, 3, 0] rfl)
  have kc_45 : (0 : Int32).toInt = 0 := zt_0
  exact L_2_3 ((2147483647 - (0 : Int32).toInt).toNat + 1) 0 σ _ _ ls (Nat.lt_succ_self _) (by decide) fr_σ feσ hF hI (lv_sub hl [1, 2, 3, 0] rfl)
end
