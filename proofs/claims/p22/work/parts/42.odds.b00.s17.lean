section
set_option maxRecDepth 100000 in
set_option maxHeartbeats 4000000 in
theorem c_X12_said (l : Launch) (X : XW) (σ : ST) (a : Nat) (v1 : Int32) (v2 : Int32) (ha : q_kd X a = 12) (hG : m_G (m_c X σ a)) : Met l yX12_said (q_ws yX12_said cX12_said 5 (some .int)) (q_rm 2 46) (q_P X σ [.ref a, .int v1, .int v2]) (q_Qi X 8 σ (fun (r : Int32) (σ' : ST) => (r, σ') = F_X12_said X σ a v1 v2 ∧ q_ow [(12, 0), (12, 1)] [] X σ σ')) 0 0 (q_reg X) := by
  refine q_met 8 (by first | exact rfl | decide +kernel) rfl (Nat.le_of_ble_eq_true rfl) (fun p e s m below meth c E hml hr hlk hI ls hl => ?_)
  have hx := E.1
  have hb := E.2.1
  have hl : lv_has ls 5 [(0, .ref a), (1, .int v1), (2, .int v2)] := hl
  have feσ : m_c X σ a = m_c X σ a := rfl
  have fr_σ : q_ow [(12, 0), (12, 1)] [] X σ σ := q_ow.rf
  have hh := hG.hd
  obtain ⟨out, hout⟩ : ∃ o, o = F_X12_said X σ a v1 v2 := ⟨_, rfl⟩
  have hF := hout.symm
  unfold F_X12_said at hF
  refine lv_aload_n hx hb dX12_said_0 rfl (lv_at hl 0 rfl) ?_
  refine lv_iconst (v := 0) hx hb dX12_said_1 zki_0 ?_
  refine ps_X12_59_12 E hI ha (by decide) dX12_said_2 (fun H locs σ_1 hσ_1 hI => ?_)
  replace hF := q_letX hF hσ_1
  have fr_σ_1 := fr_σ.si hσ_1 ha rfl
  have mcσ_1 := m_wo hσ_1 (m_ne ha (q_tk (f := 20) (k' := 34) hI ha rfl (by decide)) (by decide))
  have feσ_1 : m_c X σ_1 a = m_c X σ a := (funext mcσ_1).trans feσ
  refine lv_aload_n hx hb dX12_said_5 rfl (lv_at hl 0 rfl) ?_
  refine lv_iconst (v := 0) hx hb dX12_said_6 zki_0 ?_
  refine ps_X12_62_12 E hI ha (by decide) dX12_said_7 (fun H locs σ_2 hσ_2 hI => ?_)
  replace hF := q_letX hF hσ_2
  have fr_σ_2 := fr_σ_1.si hσ_2 ha rfl
  have mcσ_2 := m_wo hσ_2 (m_ne ha (q_tk (f := 20) (k' := 34) hI ha rfl (by decide)) (by decide))
  have feσ_2 : m_c X σ_2 a = m_c X σ a := (funext mcσ_2).trans feσ_1
  refine lv_aload_n hx hb dX12_said_10 rfl (lv_at hl 0 rfl) ?_
  refine lv_iload_n hx hb dX12_said_11 rfl (lv_at hl 1 rfl) ?_
  refine q_ci (q_rV11_1 (rest := []) E (hml.trans hl.1.symm) hI (c_X12_isPlayerAt l X σ_2 a v1 ha (by rw [feσ_2]; exact hG)) kv_X12_290 ha ⟨Nat.le_of_ble_eq_true rfl, Nat.le_of_ble_eq_true rfl⟩ (Nat.le_of_ble_eq_true rfl) dX12_said_12) hI (Nat.le_of_ble_eq_true rfl) (fun r_3 σ_4 H locs hpσ_4 hkσ_4 hI => ?_)
  have ahpσ_4 := hpσ_4.1
  have bhpσ_4 := hpσ_4.2.1
  have chpσ_4 := hpσ_4.2.2.1
  have dhpσ_4 := hpσ_4.2.2.2
  clear hpσ_4
  replace hI := q_Irw ahpσ_4 hI
  rw [feσ_2] at chpσ_4
  replace hF := q_letX hF dhpσ_4
  refine q_if_eq (A := r_3.toInt) E rfl (tgt := 26) dX12_said_15 (by decide) (fun c_5 => ?_) (fun c_5 => ?_)
  · skip
    replace hF := q_ifp hF c_5
    replace chpσ_4 := q_ifNo chpσ_4 c_5
    refine lv_aload_n hx hb dX12_said_26 rfl (lv_at hl 0 rfl) ?_
    refine lv_iconst (v := 2) hx hb dX12_said_27 zki_2 ?_
    have kc_6 : (2 : Int32).toInt = 2 := zt_2
    refine q_ci (q_rV11_1 (rest := []) E (hml.trans hl.1.symm) hI (c_X12_refuse l X σ_2 a (2 : Int32) ha) kv_X12_284 ha ⟨Nat.le_of_ble_eq_true rfl, Nat.le_of_ble_eq_true rfl⟩ (Nat.le_of_ble_eq_true rfl) dX12_said_28) hI (Nat.le_of_ble_eq_true rfl) (fun r_7 σ_8 H locs hpσ_8 hkσ_8 hI => ?_)
    have ahpσ_8 := hpσ_8.1
    have bhpσ_8 := hpσ_8.2.1
    have chpσ_8 := hpσ_8.2.2
    clear hpσ_8
    have fr_σ_8 := fr_σ_2.call chpσ_8 rfl rfl
    replace hF := q_biX hF bhpσ_8
    have mcσ_8 := m_cK hkσ_8 hI.1 ha (by decide)
    have feσ_8 : m_c X σ_8 a = m_c X σ a := (funext mcσ_8).trans feσ_2
    exact q_reti E hr hlk hI ⟨(hF.trans hout), fr_σ_8⟩ dX12_said_31
  · skip
    replace hF := q_ifn hF c_5
    replace c_5 := q_ifOne bhpσ_4 c_5
    replace chpσ_4 := q_ifYes chpσ_4 c_5
    refine lv_aload_n hx hb dX12_said_18 rfl (lv_at hl 0 rfl) ?_
    refine lv_iload_n hx hb dX12_said_19 rfl (lv_at hl 2 rfl) ?_
    refine q_ci (q_rV11_1 (rest := []) E (hml.trans hl.1.symm) hI (c_X12_isKindAt l X σ_2 a v2 ha (by rw [feσ_2]; exact hG)) kv_X12_299 ha ⟨Nat.le_of_ble_eq_true rfl, Nat.le_of_ble_eq_true rfl⟩ (Nat.le_of_ble_eq_true rfl) dX12_said_20) hI (Nat.le_of_ble_eq_true rfl) (fun r_9 σ_10 H locs hpσ_10 hkσ_10 hI => ?_)
    have ahpσ_10 := hpσ_10.1
    have bhpσ_10 := hpσ_10.2.1
    have chpσ_10 := hpσ_10.2.2.1
    have dhpσ_10 := hpσ_10.2.2.2
    clear hpσ_10
    replace hI := q_Irw ahpσ_10 hI
    rw [feσ_2] at chpσ_10
    replace hF := q_letX hF dhpσ_10
    refine q_if_ne (A := r_9.toInt) E rfl (tgt := 32) dX12_said_23 (by decide) (fun c_11 => ?_) (fun c_11 => ?_)
    · skip
      replace hF := q_ifn hF c_11
      replace c_11 := q_ifOne bhpσ_10 c_11
      replace chpσ_10 := q_ifYes chpσ_10 c_11
      refine lv_iconst (v := 0) hx hb dX12_said_32 zki_0 ?_
      refine lv_istore_n (lv' := [(3, .int 0), (0, .ref a), (1, .int v1), (2, .int v2)]) hx hb dX12_said_33 rfl hl (by decide) rfl (fun ls hl => ?_)
      refine lv_iconst (v := 0) hx hb dX12_said_34 zki_0 ?_
      refine lv_istore (lv' := [(4, .int 0), (3, .int 0), (0, .ref a), (1, .int v1), (2, .int v2)]) hx hb dX12_said_35 hl (by decide) rfl (fun ls hl => ?_)
      have L_37_14 : ∀ (k_14 : Nat) (x_12 : Int32) (x_13 : Int32) (H : Heap) (locs : List Loc) (ls : Array Slot), (2147483647 - x_13.toInt).toNat < k_14 → (0 ≤ x_13.toInt ∧ 0 ≤ x_12.toInt ∧ x_12.toInt ≤ x_13.toInt) → (F_X12_said_L37_1 X σ_2 a v1 v2 k_14 x_12 x_13 = out) → q_I X 8 σ s.heap locs σ_2 H → lv_has ls 5 [(0, .ref a), (1, .int v1), (2, .int v2), (3, .int x_12), (4, .int x_13)] → W p l e (q_rm 2 46) s m ([.ref a, .int v1, .int v2] : List Value).toArray below meth c H locs 0 0 (MQ below (q_Qi X 8 σ (fun (r : Int32) (σ' : ST) => (r, σ') = F_X12_said X σ a v1 v2 ∧ q_ow [(12, 0), (12, 1)] [] X σ σ')) ([.ref a, .int v1, .int v2] : List Value).toArray s 0 0 (q_reg X)) (F0 m 37 ls []) := by
        clear hF
        intro k_14
        induction k_14 with
        | zero =>
          intro x_12 x_13 H locs ls hms
          exact absurd hms (Nat.not_lt_zero _)
        | succ k_14 ih37 =>
          intro x_12 x_13 H locs ls hm37 hge37 hF hI hl
          replace hF := (F_X12_said_L37_1_s).symm.trans hF
          unfold F_X12_said_B37_1 at hF
          refine lv_iload hx hb dX12_said_37 (lv_at hl 4 rfl) ?_
          refine lv_aload_n hx hb dX12_said_39 rfl (lv_at hl 0 rfl) ?_
          refine gs_X12_35_12 E hI ha dX12_said_40 ?_
          refine lv_bipush (v := 9) hx hb dX12_said_43 zkb_9 ?_
          refine q_iald E hI (q_tk (k' := 34) hI ha rfl (Nat.succ_ne_zero _)) ⟨by decide, rfl⟩ (by decide) (by rw [q_lnk (v := 4650) hI (q_tk (k' := 34) hI ha rfl (Nat.succ_ne_zero _)) rfl (by decide)]; decide) dX12_said_45 ?_
          refine lv_topi (fun f_15 ef_15 => ?_)
          replace hF := q_letX hF ef_15
          have if_15 : f_15.toInt = m_c X σ a 9 := (m_rd ef_15 (by decide)).trans (congrFun feσ_2 _)
          have gc_16_x_13 := q_rng x_13
          have gc_16_f_15 := q_rng f_15
          refine q_icmp_ge (A := x_13.toInt) (B := f_15.toInt) E rfl rfl (tgt := 93) dX12_said_46 (by decide) (fun c_16 => ?_) (fun c_16 => ?_)
          · skip
            replace hF := q_ifn hF (Int.not_lt.mpr c_16)
            skip
            refine lv_iload_n hx hb dX12_said_93 rfl (lv_at hl 3 rfl) ?_
            exact q_reti E hr hlk hI ⟨(hF.trans hout), fr_σ_2⟩ dX12_said_94
          · skip
            replace hF := q_ifp hF c_16
            refine lv_iload_n hx hb dX12_said_49 rfl (lv_at hl 3 rfl) ?_
            refine lv_aload_n hx hb dX12_said_50 rfl (lv_at hl 0 rfl) ?_
            refine gs_X12_35_12 E hI ha dX12_said_51 ?_
            refine lv_iload hx hb dX12_said_54 (lv_at hl 4 rfl) ?_
            refine q_ci (q_runS (As := [.int x_13]) (rest := [.ref (q_rf X a 20), .int x_12]) E (hml.trans hl.1.symm) hI (c_X12_laid l X σ_2 x_13 (by first | (clear ahpσ_4 bhpσ_4 dhpσ_4 c_5 chpσ_4 ahpσ_10 bhpσ_10 dhpσ_10 c_11 chpσ_10 hm37 gc_16_f_15; omega) | omega)) ks_X12_279 rfl ⟨Nat.le_of_ble_eq_true rfl, Nat.le_of_ble_eq_true rfl⟩ ⟨Nat.le_refl _, Nat.le_refl _⟩ rfl (Nat.le_of_ble_eq_true rfl) dX12_said_56) hI (Nat.le_of_ble_eq_true rfl) (fun r_17 σ_18 H locs hpσ_18 hkσ_18 hI => ?_)
            have ahpσ_18 := hpσ_18.1
            have bhpσ_18 := hpσ_18.2.1
            have chpσ_18 := hpσ_18.2.2
            clear hpσ_18
            replace hI := q_Irw ahpσ_18 hI
            replace hF := q_letX hF chpσ_18
            have ir_17 : r_17.toInt = (94 + 7 * x_13.toInt) := (by omega)
            refine q_iald E hI (q_tk (k' := 34) hI ha rfl (Nat.succ_ne_zero _)) ⟨by decide, rfl⟩ (by first | (clear hh ahpσ_4 bhpσ_4 dhpσ_4 c_5 chpσ_4 ahpσ_10 bhpσ_10 dhpσ_10 c_11 chpσ_10 hm37 if_15 gc_16_x_13 gc_16_f_15 c_16 ahpσ_18 chpσ_18 ir_17; omega) | omega) (by rw [q_lnk (v := 4650) hI (q_tk (k' := 34) hI ha rfl (Nat.succ_ne_zero _)) rfl (by decide)]; omega) dX12_said_59 ?_
            refine lv_topi (fun f_19 ef_19 => ?_)
            replace hF := q_letX hF ef_19
            have if_19 : f_19.toInt = m_c X σ a (94 + 7 * x_13.toInt) := (m_rd ef_19 ir_17).trans (congrFun feσ_2 _)
            refine lv_iload_n hx hb dX12_said_60 rfl (lv_at hl 1 rfl) ?_
            have gc_20_f_19 := q_rng f_19
            have gc_20_v1 := q_rng v1
            refine q_icmp_ne (A := f_19.toInt) (B := v1.toInt) E rfl rfl (tgt := 84) dX12_said_61 (by decide) (fun c_20 => ?_) (fun c_20 => ?_)
            · skip
              replace hF := q_ifn hF c_20
              refine lv_iconst (v := 0) hx hb dX12_said_84 zki_0 ?_
              refine lv_iadd hx hb dX12_said_85 ?_
              refine lv_topi (fun z_21 ez_21 => ?_)
              replace hF := q_letX hF ez_21
              have iz_21 := q_addI (A := x_12.toInt) (B := 0) ez_21 rfl (by decide) (by first | (clear hh ahpσ_4 bhpσ_4 dhpσ_4 c_5 chpσ_4 ahpσ_10 bhpσ_10 dhpσ_10 c_11 chpσ_10 hm37 if_15 gc_16_x_13 gc_16_f_15 c_16 ahpσ_18 bhpσ_18 chpσ_18 ir_17 if_19 gc_20_f_19 gc_20_v1 c_20; omega) | omega) (by first | (clear hh ahpσ_4 bhpσ_4 dhpσ_4 c_5 chpσ_4 ahpσ_10 bhpσ_10 dhpσ_10 c_11 chpσ_10 hm37 if_15 gc_16_f_15 c_16 ahpσ_18 bhpσ_18 chpσ_18 ir_17 if_19 gc_20_f_19 gc_20_v1 c_20; omega) | omega)
              refine lv_istore_n (lv' := [(3, .int z_21), (0, .ref a), (1, .int v1), (2, .int v2), (4, .int x_13)]) hx hb dX12_said_86 rfl hl (by decide) rfl (fun ls hl => ?_)
              obtain ⟨z_22, ez_22⟩ : ∃ y : Int32, y = x_13 + 1 := ⟨_, rfl⟩
              replace hF := q_letX hF ez_22
              refine lv_iinc (v := z_22) (lv' := [(4, .int z_22), (3, .int z_21), (0, .ref a), (1, .int v1), (2, .int v2)]) hx hb dX12_said_87 hl (k := 4) rfl (by rw [ez_22]; rfl) (by decide) rfl (fun ls hl => ?_)
              have iz_22 : z_22.toInt = x_13.toInt + 1 := q_inc ez_22 (by first | (clear ahpσ_4 bhpσ_4 dhpσ_4 c_5 chpσ_4 ahpσ_10 bhpσ_10 dhpσ_10 c_11 chpσ_10 hm37 gc_16_f_15 ahpσ_18 bhpσ_18 chpσ_18 ir_17 if_19 gc_20_f_19 gc_20_v1 c_20 iz_21; omega) | omega)
              refine lv_goto (tgt := 37) hx hb dX12_said_90 (by decide) ?_
              exact ih37 z_21 z_22 _ _ ls (by first | (clear ahpσ_4 bhpσ_4 dhpσ_4 c_5 chpσ_4 ahpσ_10 bhpσ_10 dhpσ_10 c_11 chpσ_10 gc_16_f_15 ahpσ_18 bhpσ_18 chpσ_18 ir_17 if_19 gc_20_f_19 gc_20_v1 iz_21; omega) | omega) (by first | (clear hh ahpσ_4 bhpσ_4 dhpσ_4 c_5 chpσ_4 ahpσ_10 bhpσ_10 dhpσ_10 c_11 chpσ_10 hm37 if_15 gc_16_f_15 c_16 ahpσ_18 bhpσ_18 chpσ_18 ir_17 if_19 gc_20_f_19 gc_20_v1 c_20; omega) | omega) hF hI (lv_sub hl [2, 3, 4, 1, 0] rfl)
            · skip
              replace hF := q_ifp hF c_20
              refine lv_aload_n hx hb dX12_said_64 rfl (lv_at hl 0 rfl) ?_
              refine gs_X12_35_12 E hI ha dX12_said_65 ?_
              refine lv_iload hx hb dX12_said_68 (lv_at hl 4 rfl) ?_
              refine q_ci (q_runS (As := [.int x_13]) (rest := [.ref (q_rf X a 20), .int x_12]) E (hml.trans hl.1.symm) hI (c_X12_laid l X σ_2 x_13 (by first | (clear ahpσ_4 bhpσ_4 dhpσ_4 c_5 chpσ_4 ahpσ_10 bhpσ_10 dhpσ_10 c_11 chpσ_10 hm37 gc_16_f_15 ahpσ_18 bhpσ_18 chpσ_18 ir_17 if_19 gc_20_f_19 gc_20_v1 c_20; omega) | omega)) ks_X12_279 rfl ⟨Nat.le_of_ble_eq_true rfl, Nat.le_of_ble_eq_true rfl⟩ ⟨Nat.le_refl _, Nat.le_refl _⟩ rfl (Nat.le_of_ble_eq_true rfl) dX12_said_70) hI (Nat.le_of_ble_eq_true rfl) (fun r_23 σ_24 H locs hpσ_24 hkσ_24 hI => ?_)
              have ahpσ_24 := hpσ_24.1
              have bhpσ_24 := hpσ_24.2.1
              have chpσ_24 := hpσ_24.2.2
              clear hpσ_24
              replace hI := q_Irw ahpσ_24 hI
              replace hF := q_letX hF chpσ_24
              have ir_23 : r_23.toInt = (94 + 7 * x_13.toInt) := (by omega)
              refine lv_iconst (v := 1) hx hb dX12_said_73 zki_1 ?_
              refine lv_iadd hx hb dX12_said_74 ?_
              refine lv_topi (fun z_25 ez_25 => ?_)
              replace hF := q_letX hF ez_25
              have iz_25 := q_addI (A := (94 + 7 * x_13.toInt)) (B := 1) ez_25 ir_23 (by decide) (by first | (clear hh ahpσ_4 bhpσ_4 dhpσ_4 c_5 chpσ_4 ahpσ_10 bhpσ_10 dhpσ_10 c_11 chpσ_10 hm37 if_15 gc_16_f_15 c_16 ahpσ_18 bhpσ_18 chpσ_18 ir_17 if_19 gc_20_f_19 gc_20_v1 c_20 ahpσ_24 bhpσ_24 chpσ_24 ir_23; omega) | omega) (by first | (clear ahpσ_4 bhpσ_4 dhpσ_4 c_5 chpσ_4 ahpσ_10 bhpσ_10 dhpσ_10 c_11 chpσ_10 hm37 gc_16_f_15 ahpσ_18 bhpσ_18 chpσ_18 ir_17 if_19 gc_20_f_19 gc_20_v1 c_20 ahpσ_24 bhpσ_24 chpσ_24 ir_23; omega) | omega)
              refine q_iald E hI (q_tk (k' := 34) hI ha rfl (Nat.succ_ne_zero _)) ⟨by decide, rfl⟩ (by first | (clear hh ahpσ_4 bhpσ_4 dhpσ_4 c_5 chpσ_4 ahpσ_10 bhpσ_10 dhpσ_10 c_11 chpσ_10 hm37 if_15 gc_16_x_13 gc_16_f_15 c_16 ahpσ_18 bhpσ_18 chpσ_18 ir_17 if_19 gc_20_f_19 gc_20_v1 c_20 ahpσ_24 bhpσ_24 chpσ_24 ir_23; omega) | omega) (by rw [q_lnk (v := 4650) hI (q_tk (k' := 34) hI ha rfl (Nat.succ_ne_zero _)) rfl (by decide)]; omega) dX12_said_75 ?_
              refine lv_topi (fun f_26 ef_26 => ?_)
              replace hF := q_letX hF ef_26
              have if_26 : f_26.toInt = m_c X σ a ((94 + 7 * x_13.toInt) + 1) := (m_rd ef_26 iz_25).trans (congrFun feσ_2 _)
              refine lv_iload_n hx hb dX12_said_76 rfl (lv_at hl 2 rfl) ?_
              have gc_27_f_26 := q_rng f_26
              have gc_27_v2 := q_rng v2
              refine q_icmp_ne (A := f_26.toInt) (B := v2.toInt) E rfl rfl (tgt := 84) dX12_said_77 (by decide) (fun c_27 => ?_) (fun c_27 => ?_)
              · skip
                replace hF := q_ifn hF c_27
                refine lv_iconst (v := 0) hx hb dX12_said_84 zki_0 ?_
                refine lv_iadd hx hb dX12_said_85 ?_
                refine lv_topi (fun z_28 ez_28 => ?_)
                replace hF := q_letX hF ez_28
                have iz_28 := q_addI (A := x_12.toInt) (B := 0) ez_28 rfl (by decide) (by first | (clear hh ahpσ_4 bhpσ_4 dhpσ_4 c_5 chpσ_4 ahpσ_10 bhpσ_10 dhpσ_10 c_11 chpσ_10 hm37 if_15 gc_16_x_13 gc_16_f_15 c_16 ahpσ_18 bhpσ_18 chpσ_18 ir_17 if_19 gc_20_f_19 gc_20_v1 c_20 ahpσ_24 bhpσ_24 chpσ_24 ir_23 iz_25 if_26 gc_27_f_26 gc_27_v2 c_27; omega) | omega) (by first | (clear hh ahpσ_4 bhpσ_4 dhpσ_4 c_5 chpσ_4 ahpσ_10 bhpσ_10 dhpσ_10 c_11 chpσ_10 hm37 if_15 gc_16_f_15 c_16 ahpσ_18 bhpσ_18 chpσ_18 ir_17 if_19 gc_20_f_19 gc_20_v1 c_20 ahpσ_24 bhpσ_24 chpσ_24 ir_23 iz_25 if_26 gc_27_f_26 gc_27_v2 c_27; omega) | omega)
                refine lv_istore_n (lv' := [(3, .int z_28), (0, .ref a), (1, .int v1), (2, .int v2), (4, .int x_13)]) hx hb dX12_said_86 rfl hl (by decide) rfl (fun ls hl => ?_)
                obtain ⟨z_29, ez_29⟩ : ∃ y : Int32, y = x_13 + 1 := ⟨_, rfl⟩
                replace hF := q_letX hF ez_29
                refine lv_iinc (v := z_29) (lv' := [(4, .int z_29), (3, .int z_28), (0, .ref a), (1, .int v1), (2, .int v2)]) hx hb dX12_said_87 hl (k := 4) rfl (by rw [ez_29]; rfl) (by decide) rfl (fun ls hl => ?_)
                have iz_29 : z_29.toInt = x_13.toInt + 1 := q_inc ez_29 (by first | (clear ahpσ_4 bhpσ_4 dhpσ_4 c_5 chpσ_4 ahpσ_10 bhpσ_10 dhpσ_10 c_11 chpσ_10 hm37 gc_16_f_15 ahpσ_18 bhpσ_18 chpσ_18 ir_17 if_19 gc_20_f_19 gc_20_v1 c_20 ahpσ_24 bhpσ_24 chpσ_24 ir_23 iz_25 if_26 gc_27_f_26 gc_27_v2 c_27 iz_28; omega) | omega)
                refine lv_goto (tgt := 37) hx hb dX12_said_90 (by decide) ?_
                exact ih37 z_28 z_29 _ _ ls (by first | (clear ahpσ_4 bhpσ_4 dhpσ_4 c_5 chpσ_4 ahpσ_10 bhpσ_10 dhpσ_10 c_11 chpσ_10 gc_16_f_15 ahpσ_18 bhpσ_18 chpσ_18 ir_17 if_19 gc_20_f_19 gc_20_v1 c_20 ahpσ_24 bhpσ_24 chpσ_24 ir_23 iz_25 if_26 gc_27_f_26 gc_27_v2 iz_28; omega) | omega) (by first | (clear hh ahpσ_4 bhpσ_4 dhpσ_4 c_5 chpσ_4 ahpσ_10 bhpσ_10 dhpσ_10 c_11 chpσ_10 hm37 if_15 gc_16_f_15 c_16 ahpσ_18 bhpσ_18 chpσ_18 ir_17 if_19 gc_20_f_19 gc_20_v1 c_20 ahpσ_24 bhpσ_24 chpσ_24 ir_23 iz_25 if_26 gc_27_f_26 gc_27_v2 c_27; omega) | omega) hF hI (lv_sub hl [2, 3, 4, 1, 0] rfl)
              · skip
                replace hF := q_ifp hF c_27
                refine lv_iconst (v := 1) hx hb dX12_said_80 zki_1 ?_
                refine lv_goto (tgt := 85) hx hb dX12_said_81 (by decide) ?_
                refine lv_iadd hx hb dX12_said_85 ?_
                refine lv_topi (fun z_30 ez_30 => ?_)
                replace hF := q_letX hF ez_30
                have iz_30 := q_addI (A := x_12.toInt) (B := 1) ez_30 rfl (by decide) (by first | (clear hh ahpσ_4 bhpσ_4 dhpσ_4 c_5 chpσ_4 ahpσ_10 bhpσ_10 dhpσ_10 c_11 chpσ_10 hm37 if_15 gc_16_x_13 gc_16_f_15 c_16 ahpσ_18 bhpσ_18 chpσ_18 ir_17 if_19 gc_20_f_19 gc_20_v1 c_20 ahpσ_24 bhpσ_24 chpσ_24 ir_23 iz_25 if_26 gc_27_f_26 gc_27_v2 c_27; omega) | omega) (by first | (clear ahpσ_4 bhpσ_4 dhpσ_4 c_5 chpσ_4 ahpσ_10 bhpσ_10 dhpσ_10 c_11 chpσ_10 hm37 gc_16_x_13 gc_16_f_15 ahpσ_18 bhpσ_18 chpσ_18 ir_17 if_19 gc_20_f_19 gc_20_v1 c_20 ahpσ_24 bhpσ_24 chpσ_24 ir_23 iz_25 if_26 gc_27_f_26 gc_27_v2 c_27; omega) | omega)
                refine lv_istore_n (lv' := [(3, .int z_30), (0, .ref a), (1, .int v1), (2, .int v2), (4, .int x_13)]) hx hb dX12_said_86 rfl hl (by decide) rfl (fun ls hl => ?_)
                obtain ⟨z_31, ez_31⟩ : ∃ y : Int32, y = x_13 + 1 := ⟨_, rfl⟩
                replace hF := q_letX hF ez_31
                refine lv_iinc (v := z_31) (lv' := [(4, .int z_31), (3, .int z_30), (0, .ref a), (1, .int v1), (2, .int v2)]) hx hb dX12_said_87 hl (k := 4) rfl (by rw [ez_31]; rfl) (by decide) rfl (fun ls hl => ?_)
                have iz_31 : z_31.toInt = x_13.toInt + 1 := q_inc ez_31 (by first | (clear ahpσ_4 bhpσ_4 dhpσ_4 c_5 chpσ_4 ahpσ_10 bhpσ_10 dhpσ_10 c_11 chpσ_10 hm37 gc_16_f_15 ahpσ_18 bhpσ_18 chpσ_18 ir_17 if_19 gc_20_f_19 gc_20_v1 c_20 ahpσ_24 bhpσ_24 chpσ_24 ir_23 iz_25 if_26 gc_27_f_26 gc_27_v2 c_27 iz_30; omega) | omega)
                refine lv_goto (tgt := 37) hx hb dX12_said_90 (by decide) ?_
                exact ih37 z_30 z_31 _ _ ls (by first | (clear ahpσ_4 bhpσ_4 dhpσ_4 c_5 chpσ_4 ahpσ_10 bhpσ_10 dhpσ_10 c_11 chpσ_10 gc_16_f_15 ahpσ_18 bhpσ_18 chpσ_18 ir_17 if_19 gc_20_f_19 gc_20_v1 c_20 ahpσ_24 bhpσ_24 chpσ_24 ir_23 iz_25 if_26 gc_27_f_26 gc_27_v2 c_27 iz_30; omega) | omega) (by first | (clear hh ahpσ_4 bhpσ_4 dhpσ_4 c_5 chpσ_4 ahpσ_10 bhpσ_10 dhpσ_10 c_11 chpσ_10 hm37 if_15 gc_16_f_15 c_16 ahpσ_18 bhpσ_18 chpσ_18 ir_17 if_19 gc_20_f_19 gc_20_v1 c_20 ahpσ_24 bhpσ_24 chpσ_24 ir_23 iz_25 if_26 gc_27_f_26 gc_27_v2 c_27; omega) | omega) hF hI (lv_sub hl [2, 3, 4, 1, 0] rfl)
      have kc_32 : (0 : Int32).toInt = 0 := zt_0
      exact L_37_14 ((2147483647 - (0 : Int32).toInt).toNat + 1) 0 0 _ _ ls (Nat.lt_succ_self _) (by decide) hF hI (lv_sub hl [2, 3, 4, 1, 0] rfl)
    · skip
      replace hF := q_ifp hF c_11
      replace chpσ_10 := q_ifNo chpσ_10 c_11
      refine lv_aload_n hx hb dX12_said_26 rfl (lv_at hl 0 rfl) ?_
      refine lv_iconst (v := 2) hx hb dX12_said_27 zki_2 ?_
      have kc_33 : (2 : Int32).toInt = 2 := zt_2
      refine q_ci (q_rV11_1 (rest := []) E (hml.trans hl.1.symm) hI (c_X12_refuse l X σ_2 a (2 : Int32) ha) kv_X12_284 ha ⟨Nat.le_of_ble_eq_true rfl, Nat.le_of_ble_eq_true rfl⟩ (Nat.le_of_ble_eq_true rfl) dX12_said_28) hI (Nat.le_of_ble_eq_true rfl) (fun r_34 σ_35 H locs hpσ_35 hkσ_35 hI => ?_)
      have ahpσ_35 := hpσ_35.1
      have bhpσ_35 := hpσ_35.2.1
      have chpσ_35 := hpσ_35.2.2
      clear hpσ_35
      have fr_σ_35 := fr_σ_2.call chpσ_35 rfl rfl
      replace hF := q_biX hF bhpσ_35
      have mcσ_35 := m_cK hkσ_35 hI.1 ha (by decide)
      have feσ_35 : m_c X σ_35 a = m_c X σ a := (funext mcσ_35).trans feσ_2
      exact q_reti E hr hlk hI ⟨(hF.trans hout), fr_σ_35⟩ dX12_said_31
end
