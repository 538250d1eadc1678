section
set_option maxRecDepth 100000 in
set_option maxHeartbeats 4000000 in
theorem c_X12_liar (l : Launch) (X : XW) (σ : ST) (a : Nat) (ha : q_kd X a = 12) (hG : m_G (m_c X σ a)) : Met l yX12_liar (q_ws yX12_liar cX12_liar 5 (some .int)) (q_rm 1 21) (q_P X σ [.ref a]) (q_Qi X 8 σ (fun (r : Int32) (σ' : ST) => (r, σ') = F_X12_liar X σ a ∧ q_ow [(12, 0), (12, 1)] [] X σ σ')) 0 0 (q_reg X) := by
  refine q_met 8 (by first | exact rfl | decide +kernel) rfl (Nat.le_of_ble_eq_true rfl) (fun p e s m below meth c E hml hr hlk hI ls hl => ?_)
  have hx := E.1
  have hb := E.2.1
  have hl : lv_has ls 5 [(0, .ref a)] := hl
  have feσ : m_c X σ a = m_c X σ a := rfl
  have fr_σ : q_ow [(12, 0), (12, 1)] [] X σ σ := q_ow.rf
  have hh := hG.hd
  obtain ⟨out, hout⟩ : ∃ o, o = F_X12_liar X σ a := ⟨_, rfl⟩
  have hF := hout.symm
  unfold F_X12_liar at hF
  refine lv_aload_n hx hb dX12_liar_0 rfl (lv_at hl 0 rfl) ?_
  refine lv_iconst (v := 0) hx hb dX12_liar_1 zki_0 ?_
  refine ps_X12_59_12 E hI ha (by decide) dX12_liar_2 (fun H locs σ_1 hσ_1 hI => ?_)
  replace hF := q_letX hF hσ_1
  have fr_σ_1 := fr_σ.si hσ_1 ha rfl
  have mcσ_1 := m_wo hσ_1 (m_ne ha (q_tk (f := 20) (k' := 34) hI ha rfl (by decide)) (by decide))
  have feσ_1 : m_c X σ_1 a = m_c X σ a := (funext mcσ_1).trans feσ
  refine lv_aload_n hx hb dX12_liar_5 rfl (lv_at hl 0 rfl) ?_
  refine lv_iconst (v := 0) hx hb dX12_liar_6 zki_0 ?_
  refine ps_X12_62_12 E hI ha (by decide) dX12_liar_7 (fun H locs σ_2 hσ_2 hI => ?_)
  replace hF := q_letX hF hσ_2
  have fr_σ_2 := fr_σ_1.si hσ_2 ha rfl
  have mcσ_2 := m_wo hσ_2 (m_ne ha (q_tk (f := 20) (k' := 34) hI ha rfl (by decide)) (by decide))
  have feσ_2 : m_c X σ_2 a = m_c X σ a := (funext mcσ_2).trans feσ_1
  refine lv_iconst (v := (-1)) hx hb dX12_liar_10 zki_m1 ?_
  refine lv_istore_n (lv' := [(1, .int (-1)), (0, .ref a)]) hx hb dX12_liar_11 rfl hl (by decide) rfl (fun ls hl => ?_)
  refine lv_iconst (v := 0) hx hb dX12_liar_12 zki_0 ?_
  refine lv_istore_n (lv' := [(2, .int 0), (1, .int (-1)), (0, .ref a)]) hx hb dX12_liar_13 rfl hl (by decide) rfl (fun ls hl => ?_)
  have L_14_5 : ∀ (k_5 : Nat) (x_3 : Int32) (x_4 : Int32) (H : Heap) (locs : List Loc) (ls : Array Slot), (2147483647 - x_4.toInt).toNat < k_5 → (0 ≤ x_4.toInt ∧ -1 ≤ x_3.toInt ∧ x_3.toInt < m_c X σ a 2) → (F_X12_liar_L14_1 X σ_2 a k_5 x_3 x_4 = out) → q_I X 8 σ s.heap locs σ_2 H → lv_has ls 5 [(0, .ref a), (1, .int x_3), (2, .int x_4)] → W p l e (q_rm 1 21) s m ([.ref a] : List Value).toArray below meth c H locs 0 0 (MQ below (q_Qi X 8 σ (fun (r : Int32) (σ' : ST) => (r, σ') = F_X12_liar X σ a ∧ q_ow [(12, 0), (12, 1)] [] X σ σ')) ([.ref a] : List Value).toArray s 0 0 (q_reg X)) (F0 m 14 ls []) := by
    clear hF
    intro k_5
    induction k_5 with
    | zero =>
      intro x_3 x_4 H locs ls hms
      exact absurd hms (Nat.not_lt_zero _)
    | succ k_5 ih14 =>
      intro x_3 x_4 H locs ls hm14 hge14 hF hI hl
      replace hF := (F_X12_liar_L14_1_s).symm.trans hF
      unfold F_X12_liar_B14_1 at hF
      refine lv_iload_n hx hb dX12_liar_14 rfl (lv_at hl 2 rfl) ?_
      refine lv_aload_n hx hb dX12_liar_15 rfl (lv_at hl 0 rfl) ?_
      refine gs_X12_35_12 E hI ha dX12_liar_16 ?_
      refine lv_iconst (v := 2) hx hb dX12_liar_19 zki_2 ?_
      refine q_iald E hI (q_tk (k' := 34) hI ha rfl (Nat.succ_ne_zero _)) ⟨by decide, rfl⟩ (by decide) (by rw [q_lnk (v := 4650) hI (q_tk (k' := 34) hI ha rfl (Nat.succ_ne_zero _)) rfl (by decide)]; decide) dX12_liar_20 ?_
      refine lv_topi (fun f_6 ef_6 => ?_)
      replace hF := q_letX hF ef_6
      have if_6 : f_6.toInt = m_c X σ a 2 := (m_rd ef_6 (by decide)).trans (congrFun feσ_2 _)
      have gc_7_x_4 := q_rng x_4
      have gc_7_f_6 := q_rng f_6
      refine q_icmp_ge (A := x_4.toInt) (B := f_6.toInt) E rfl rfl (tgt := 120) dX12_liar_21 (by decide) (fun c_7 => ?_) (fun c_7 => ?_)
      · skip
        replace hF := q_ifn hF (Int.not_lt.mpr c_7)
        unfold F_X12_liar_E120_2 at hF
        refine lv_iload_n hx hb dX12_liar_120 rfl (lv_at hl 1 rfl) ?_
        refine q_if_ge (A := x_3.toInt) E rfl (tgt := 133) dX12_liar_121 (by decide) (fun c_8 => ?_) (fun c_8 => ?_)
        · skip
          replace hF := q_ifn hF (Int.not_lt.mpr c_8)
          refine lv_iload_n hx hb dX12_liar_133 rfl (lv_at hl 1 rfl) ?_
          exact q_reti E hr hlk hI ⟨(hF.trans hout), fr_σ_2⟩ dX12_liar_134
        · skip
          replace hF := q_ifp hF c_8
          refine lv_aload_n hx hb dX12_liar_124 rfl (lv_at hl 0 rfl) ?_
          refine lv_bipush (v := 8) hx hb dX12_liar_125 zkb_8 ?_
          have kc_9 : (8 : Int32).toInt = 8 := zt_8
          refine q_ci (q_rV11_1 (rest := []) E (hml.trans hl.1.symm) hI (c_X12_refuse l X σ_2 a (8 : Int32) ha) kv_X12_284 ha ⟨Nat.le_of_ble_eq_true rfl, Nat.le_of_ble_eq_true rfl⟩ (Nat.le_of_ble_eq_true rfl) dX12_liar_127) hI (Nat.le_of_ble_eq_true rfl) (fun r_10 σ_11 H locs hpσ_11 hkσ_11 hI => ?_)
          have ahpσ_11 := hpσ_11.1
          have bhpσ_11 := hpσ_11.2.1
          have chpσ_11 := hpσ_11.2.2
          clear hpσ_11
          have fr_σ_11 := fr_σ_2.call chpσ_11 rfl rfl
          replace hF := q_biX hF bhpσ_11
          have mcσ_11 := m_cK hkσ_11 hI.1 ha (by decide)
          have feσ_11 : m_c X σ_11 a = m_c X σ a := (funext mcσ_11).trans feσ_2
          refine lv_goto (tgt := 134) hx hb dX12_liar_130 (by decide) ?_
          exact q_reti E hr hlk hI ⟨(hF.trans hout), fr_σ_11⟩ dX12_liar_134
      · skip
        replace hF := q_ifp hF c_7
        refine lv_iload_n hx hb dX12_liar_24 rfl (lv_at hl 1 rfl) ?_
        refine q_if_ge (A := x_3.toInt) E rfl (tgt := 33) dX12_liar_25 (by decide) (fun c_12 => ?_) (fun c_12 => ?_)
        · skip
          replace hF := q_ifn hF (Int.not_lt.mpr c_12)
          refine lv_aload_n hx hb dX12_liar_33 rfl (lv_at hl 0 rfl) ?_
          refine gs_X12_35_12 E hI ha dX12_liar_34 ?_
          refine lv_bipush (v := 22) hx hb dX12_liar_37 zkb_22 ?_
          refine lv_iload_n hx hb dX12_liar_39 rfl (lv_at hl 2 rfl) ?_
          refine lv_iadd hx hb dX12_liar_40 ?_
          refine lv_topi (fun z_13 ez_13 => ?_)
          replace hF := q_letX hF ez_13
          have kc_14 : (22 : Int32).toInt = 22 := zt_22
          have iz_13 := q_add ez_13 (by first | (clear hh hm14 if_6 gc_7_f_6 c_7 c_12; omega) | omega) (by first | (clear hm14 gc_7_x_4 gc_7_f_6; omega) | omega)
          refine q_iald E hI (q_tk (k' := 34) hI ha rfl (Nat.succ_ne_zero _)) ⟨by decide, rfl⟩ (by first | (clear hh hm14 if_6 gc_7_f_6 c_7 c_12; omega) | omega) (by rw [q_lnk (v := 4650) hI (q_tk (k' := 34) hI ha rfl (Nat.succ_ne_zero _)) rfl (by decide)]; omega) dX12_liar_41 ?_
          refine lv_topi (fun f_15 ef_15 => ?_)
          replace hF := q_letX hF ef_15
          have if_15 : f_15.toInt = m_c X σ a z_13.toInt := (m_rd ef_15 rfl).trans (congrFun feσ_2 _)
          refine lv_aload_n hx hb dX12_liar_42 rfl (lv_at hl 0 rfl) ?_
          refine gs_X12_35_12 E hI ha dX12_liar_43 ?_
          refine lv_bipush (v := 28) hx hb dX12_liar_46 zkb_28 ?_
          refine lv_iload_n hx hb dX12_liar_48 rfl (lv_at hl 2 rfl) ?_
          refine lv_iadd hx hb dX12_liar_49 ?_
          refine lv_topi (fun z_16 ez_16 => ?_)
          replace hF := q_letX hF ez_16
          have kc_17 : (28 : Int32).toInt = 28 := zt_28
          have iz_16 := q_add ez_16 (by first | (clear hm14 gc_7_f_6 if_15; omega) | omega) (by first | (clear hm14 gc_7_f_6 if_15; omega) | omega)
          refine q_iald E hI (q_tk (k' := 34) hI ha rfl (Nat.succ_ne_zero _)) ⟨by decide, rfl⟩ (by first | (clear hh hm14 if_6 gc_7_f_6 c_7 c_12 if_15; omega) | omega) (by rw [q_lnk (v := 4650) hI (q_tk (k' := 34) hI ha rfl (Nat.succ_ne_zero _)) rfl (by decide)]; omega) dX12_liar_50 ?_
          refine lv_topi (fun f_18 ef_18 => ?_)
          replace hF := q_letX hF ef_18
          have if_18 : f_18.toInt = m_c X σ a z_16.toInt := (m_rd ef_18 rfl).trans (congrFun feσ_2 _)
          refine lv_isub hx hb dX12_liar_51 ?_
          refine lv_topi (fun z_19 ez_19 => ?_)
          replace hF := q_letX hF ez_19
          refine lv_iconst (v := 1) hx hb dX12_liar_52 zki_1 ?_
          refine lv_iadd hx hb dX12_liar_53 ?_
          refine lv_topi (fun z_20 ez_20 => ?_)
          replace hF := q_letX hF ez_20
          refine lv_aload_n hx hb dX12_liar_54 rfl (lv_at hl 0 rfl) ?_
          refine gs_X12_35_12 E hI ha dX12_liar_55 ?_
          refine lv_bipush (v := 22) hx hb dX12_liar_58 zkb_22 ?_
          refine lv_iload_n hx hb dX12_liar_60 rfl (lv_at hl 1 rfl) ?_
          refine lv_iadd hx hb dX12_liar_61 ?_
          refine lv_topi (fun z_21 ez_21 => ?_)
          replace hF := q_letX hF ez_21
          have kc_22 : (22 : Int32).toInt = 22 := zt_22
          have iz_21 := q_add ez_21 (by first | (clear hh hm14 hge14 if_6 gc_7_x_4 gc_7_f_6 c_7 iz_13 if_15 kc_17 iz_16 if_18 kc_22; omega) | omega) (by first | (clear hm14 gc_7_x_4 gc_7_f_6 c_7 iz_13 if_15 kc_17 iz_16 if_18 kc_22; omega) | omega)
          refine q_iald E hI (q_tk (k' := 34) hI ha rfl (Nat.succ_ne_zero _)) ⟨by decide, rfl⟩ (by first | (clear hh hm14 hge14 if_6 gc_7_x_4 gc_7_f_6 c_7 iz_13 if_15 kc_17 iz_16 if_18 kc_22; omega) | omega) (by rw [q_lnk (v := 4650) hI (q_tk (k' := 34) hI ha rfl (Nat.succ_ne_zero _)) rfl (by decide)]; omega) dX12_liar_62 ?_
          refine lv_topi (fun f_23 ef_23 => ?_)
          replace hF := q_letX hF ef_23
          have if_23 : f_23.toInt = m_c X σ a z_21.toInt := (m_rd ef_23 rfl).trans (congrFun feσ_2 _)
          refine lv_iconst (v := 2) hx hb dX12_liar_63 zki_2 ?_
          refine lv_iadd hx hb dX12_liar_64 ?_
          refine lv_topi (fun z_24 ez_24 => ?_)
          replace hF := q_letX hF ez_24
          refine lv_imul hx hb dX12_liar_65 ?_
          refine lv_topi (fun z_25 ez_25 => ?_)
          replace hF := q_letX hF ez_25
          refine lv_istore_n (lv' := [(3, .int z_25), (0, .ref a), (1, .int x_3), (2, .int x_4)]) hx hb dX12_liar_66 rfl hl (by decide) rfl (fun ls hl => ?_)
          refine lv_aload_n hx hb dX12_liar_67 rfl (lv_at hl 1 rfl) ?_
          refine gs_X12_35_12 E hI ha dX12_liar_68 ?_
          refine lv_bipush (v := 22) hx hb dX12_liar_71 zkb_22 ?_
          refine lv_iload_n hx hb dX12_liar_73 rfl (lv_at hl 2 rfl) ?_
          refine lv_iadd hx hb dX12_liar_74 ?_
          refine lv_topi (fun z_26 ez_26 => ?_)
          replace hF := q_letX hF ez_26
          have kc_27 : (22 : Int32).toInt = 22 := zt_22
          have iz_26 := q_add ez_26 (by first | (clear hh hm14 hge14 if_6 gc_7_x_4 gc_7_f_6 c_7 iz_13 if_15 kc_17 iz_16 if_18 kc_22 if_23 kc_27; omega) | omega) (by first | (clear hm14 gc_7_x_4 gc_7_f_6 c_7 c_12 iz_13 if_15 kc_17 iz_16 if_18 kc_22 if_23 kc_27; omega) | omega)
          refine q_iald E hI (q_tk (k' := 34) hI ha rfl (Nat.succ_ne_zero _)) ⟨by decide, rfl⟩ (by first | (clear hh hm14 hge14 if_6 gc_7_x_4 gc_7_f_6 c_7 iz_13 if_15 kc_17 iz_16 if_18 kc_22 if_23 kc_27; omega) | omega) (by rw [q_lnk (v := 4650) hI (q_tk (k' := 34) hI ha rfl (Nat.succ_ne_zero _)) rfl (by decide)]; omega) dX12_liar_75 ?_
          refine lv_topi (fun f_28 ef_28 => ?_)
          replace hF := q_letX hF ef_28
          have if_28 : f_28.toInt = m_c X σ a z_26.toInt := (m_rd ef_28 rfl).trans (congrFun feσ_2 _)
          refine lv_aload_n hx hb dX12_liar_76 rfl (lv_at hl 1 rfl) ?_
          refine gs_X12_35_12 E hI ha dX12_liar_77 ?_
          refine lv_bipush (v := 28) hx hb dX12_liar_80 zkb_28 ?_
          refine lv_iload_n hx hb dX12_liar_82 rfl (lv_at hl 2 rfl) ?_
          refine lv_iadd hx hb dX12_liar_83 ?_
          refine lv_topi (fun z_29 ez_29 => ?_)
          replace hF := q_letX hF ez_29
          have kc_30 : (28 : Int32).toInt = 28 := zt_28
          have iz_29 := q_add ez_29 (by first | (clear hh hm14 hge14 if_6 gc_7_x_4 gc_7_f_6 c_7 iz_13 if_15 iz_16 if_18 kc_22 if_23 kc_27 if_28 kc_30; omega) | omega) (by first | (clear hm14 gc_7_x_4 gc_7_f_6 c_7 c_12 iz_13 if_15 iz_16 if_18 kc_22 if_23 kc_27 if_28 kc_30; omega) | omega)
          refine q_iald E hI (q_tk (k' := 34) hI ha rfl (Nat.succ_ne_zero _)) ⟨by decide, rfl⟩ (by first | (clear hh hm14 hge14 if_6 gc_7_x_4 gc_7_f_6 c_7 iz_13 if_15 iz_16 if_18 kc_22 if_23 kc_27 if_28 kc_30; omega) | omega) (by rw [q_lnk (v := 4650) hI (q_tk (k' := 34) hI ha rfl (Nat.succ_ne_zero _)) rfl (by decide)]; omega) dX12_liar_84 ?_
          refine lv_topi (fun f_31 ef_31 => ?_)
          replace hF := q_letX hF ef_31
          have if_31 : f_31.toInt = m_c X σ a z_29.toInt := (m_rd ef_31 rfl).trans (congrFun feσ_2 _)
          refine lv_isub hx hb dX12_liar_85 ?_
          refine lv_topi (fun z_32 ez_32 => ?_)
          replace hF := q_letX hF ez_32
          refine lv_iconst (v := 1) hx hb dX12_liar_86 zki_1 ?_
          refine lv_iadd hx hb dX12_liar_87 ?_
          refine lv_topi (fun z_33 ez_33 => ?_)
          replace hF := q_letX hF ez_33
          refine lv_aload_n hx hb dX12_liar_88 rfl (lv_at hl 1 rfl) ?_
          refine gs_X12_35_12 E hI ha dX12_liar_89 ?_
          refine lv_bipush (v := 22) hx hb dX12_liar_92 zkb_22 ?_
          refine lv_iload_n hx hb dX12_liar_94 rfl (lv_at hl 3 rfl) ?_
          refine lv_iadd hx hb dX12_liar_95 ?_
          refine lv_topi (fun z_34 ez_34 => ?_)
          replace hF := q_letX hF ez_34
          have kc_35 : (22 : Int32).toInt = 22 := zt_22
          have iz_34 := q_add ez_34 (by first | (clear hh hm14 if_6 gc_7_f_6 c_7 c_12 if_15 if_18 kc_22 iz_21 if_23 kc_27 iz_26 if_28 kc_30 iz_29 if_31 kc_35; omega) | omega) (by first | (clear hm14 gc_7_f_6 c_12 if_15 if_18 kc_22 iz_21 if_23 kc_27 iz_26 if_28 kc_30 iz_29 if_31 kc_35; omega) | omega)
          refine q_iald E hI (q_tk (k' := 34) hI ha rfl (Nat.succ_ne_zero _)) ⟨by decide, rfl⟩ (by first | (clear hh hm14 if_6 gc_7_f_6 c_7 c_12 if_15 if_18 kc_22 iz_21 if_23 kc_27 iz_26 if_28 kc_30 iz_29 if_31 kc_35; omega) | omega) (by rw [q_lnk (v := 4650) hI (q_tk (k' := 34) hI ha rfl (Nat.succ_ne_zero _)) rfl (by decide)]; omega) dX12_liar_96 ?_
          refine lv_topi (fun f_36 ef_36 => ?_)
          replace hF := q_letX hF ef_36
          have if_36 : f_36.toInt = m_c X σ a z_34.toInt := (m_rd ef_36 rfl).trans (congrFun feσ_2 _)
          refine lv_iconst (v := 2) hx hb dX12_liar_97 zki_2 ?_
          refine lv_iadd hx hb dX12_liar_98 ?_
          refine lv_topi (fun z_37 ez_37 => ?_)
          replace hF := q_letX hF ez_37
          refine lv_imul hx hb dX12_liar_99 ?_
          refine lv_topi (fun z_38 ez_38 => ?_)
          replace hF := q_letX hF ez_38
          refine lv_istore (lv' := [(4, .int z_38), (3, .int z_25), (0, .ref a), (1, .int x_3), (2, .int x_4)]) hx hb dX12_liar_100 hl (by decide) rfl (fun ls hl => ?_)
          refine lv_iload_n hx hb dX12_liar_102 rfl (lv_at hl 1 rfl) ?_
          refine lv_iload hx hb dX12_liar_103 (lv_at hl 0 rfl) ?_
          have gc_39_z_25 := q_rng z_25
          have gc_39_z_38 := q_rng z_38
          refine q_icmp_ge (A := z_25.toInt) (B := z_38.toInt) E rfl rfl (tgt := 112) dX12_liar_105 (by decide) (fun c_39 => ?_) (fun c_39 => ?_)
          · skip
            replace hF := q_ifn hF (Int.not_lt.mpr c_39)
            refine lv_iload_n hx hb dX12_liar_112 rfl (lv_at hl 3 rfl) ?_
            refine lv_istore_n (lv' := [(1, .int x_3), (4, .int z_38), (3, .int z_25), (0, .ref a), (2, .int x_4)]) hx hb dX12_liar_113 rfl hl (by decide) rfl (fun ls hl => ?_)
            obtain ⟨z_40, ez_40⟩ : ∃ y : Int32, y = x_4 + 1 := ⟨_, rfl⟩
            replace hF := q_letX hF ez_40
            refine lv_iinc (v := z_40) (lv' := [(2, .int z_40), (1, .int x_3), (4, .int z_38), (3, .int z_25), (0, .ref a)]) hx hb dX12_liar_114 hl (k := 4) rfl (by rw [ez_40]; rfl) (by decide) rfl (fun ls hl => ?_)
            have iz_40 : z_40.toInt = x_4.toInt + 1 := q_inc ez_40 (by first | (clear hm14 gc_7_f_6 c_12 if_15 if_18 kc_22 iz_21 if_23 kc_27 iz_26 if_28 kc_30 iz_29 if_31 kc_35 if_36 gc_39_z_25 gc_39_z_38 c_39; omega) | omega)
            refine lv_goto (tgt := 14) hx hb dX12_liar_117 (by decide) ?_
            exact ih14 x_3 z_40 _ _ ls (by first | (clear gc_7_f_6 c_12 if_15 if_18 kc_22 iz_21 if_23 kc_27 iz_26 if_28 kc_30 iz_29 if_31 kc_35 if_36 gc_39_z_25 gc_39_z_38 c_39; omega) | omega) (by first | (clear hh hm14 gc_7_f_6 c_7 if_15 if_18 kc_22 if_23 kc_27 if_28 kc_30 if_31 kc_35 if_36 gc_39_z_25 gc_39_z_38 c_39; omega) | omega) hF hI (lv_sub hl [4, 1, 0] rfl)
          · skip
            replace hF := q_ifp hF c_39
            refine lv_iload_n hx hb dX12_liar_108 rfl (lv_at hl 4 rfl) ?_
            refine lv_goto (tgt := 113) hx hb dX12_liar_109 (by decide) ?_
            refine lv_istore_n (lv' := [(1, .int x_4), (4, .int z_38), (3, .int z_25), (0, .ref a), (2, .int x_4)]) hx hb dX12_liar_113 rfl hl (by decide) rfl (fun ls hl => ?_)
            obtain ⟨z_41, ez_41⟩ : ∃ y : Int32, y = x_4 + 1 := ⟨_, rfl⟩
            replace hF := q_letX hF ez_41
            refine lv_iinc (v := z_41) (lv' := [(2, .int z_41), (1, .int x_4), (4, .int z_38), (3, .int z_25), (0, .ref a)]) hx hb dX12_liar_114 hl (k := 4) rfl (by rw [ez_41]; rfl) (by decide) rfl (fun ls hl => ?_)
            have iz_41 : z_41.toInt = x_4.toInt + 1 := q_inc ez_41 (by first | (clear hm14 gc_7_f_6 c_12 if_15 if_18 kc_22 iz_21 if_23 kc_27 iz_26 if_28 kc_30 iz_29 if_31 kc_35 if_36 gc_39_z_25 gc_39_z_38 c_39; omega) | omega)
            refine lv_goto (tgt := 14) hx hb dX12_liar_117 (by decide) ?_
            exact ih14 x_4 z_41 _ _ ls (by first | (clear gc_7_f_6 c_12 if_15 if_18 kc_22 iz_21 if_23 kc_27 iz_26 if_28 kc_30 iz_29 if_31 kc_35 if_36 gc_39_z_25 gc_39_z_38 c_39; omega) | omega) (by first | (clear hh hm14 gc_7_f_6 c_12 if_15 if_18 kc_22 iz_21 if_23 kc_27 iz_26 if_28 kc_30 iz_29 if_31 kc_35 if_36 gc_39_z_25 gc_39_z_38 c_39; omega) | omega) hF hI (lv_sub hl [4, 1, 0] rfl)
        · skip
          replace hF := q_ifp hF c_12
          refine lv_iload_n hx hb dX12_liar_28 rfl (lv_at hl 2 rfl) ?_
          refine lv_istore_n (lv' := [(1, .int x_4), (0, .ref a), (2, .int x_4)]) hx hb dX12_liar_29 rfl hl (by decide) rfl (fun ls hl => ?_)
          refine lv_goto (tgt := 114) hx hb dX12_liar_30 (by decide) ?_
          obtain ⟨z_42, ez_42⟩ : ∃ y : Int32, y = x_4 + 1 := ⟨_, rfl⟩
          replace hF := q_letX hF ez_42
          refine lv_iinc (v := z_42) (lv' := [(2, .int z_42), (1, .int x_4), (0, .ref a)]) hx hb dX12_liar_114 hl (k := 2) rfl (by rw [ez_42]; rfl) (by decide) rfl (fun ls hl => ?_)
          have iz_42 : z_42.toInt = x_4.toInt + 1 := q_inc ez_42 (by omega)
          refine lv_goto (tgt := 14) hx hb dX12_liar_117 (by decide) ?_
          exact ih14 x_4 z_42 _ _ ls (by omega) (by omega) hF hI (lv_sub hl [2, 1, 0] rfl)
  have kc_43 : ((-1) : Int32).toInt = (-1) := zt_m1
  have kc_44 : (0 : Int32).toInt = 0 := zt_0
  exact L_14_5 ((2147483647 - (0 : Int32).toInt).toNat + 1) (-1) 0 _ _ ls (Nat.lt_succ_self _) (by have q : (0 : Int32).toInt = 0 := rfl; have q1 : ((-1) : Int32).toInt = -1 := rfl; omega) hF hI (lv_sub hl [2, 1, 0] rfl)
end
