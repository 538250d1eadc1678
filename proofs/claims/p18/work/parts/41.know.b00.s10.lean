section
set_option maxRecDepth 100000 in
set_option maxHeartbeats 4000000 in
theorem c_X12_isSo (l : Launch) (X : XW) (σ : ST) (a : Nat) (v1 : Int32) (ha : q_kd X a = 12) (hG : m_G (m_c X σ a)) (hw : 656 ≤ v1.toInt ∧ v1.toInt ≤ 917) (ht : m_tst (m_c X σ a) v1.toInt) : Met l yX12_isSo (q_ws yX12_isSo cX12_isSo 4 (some .boolean)) (q_rm 2 45) (q_P X σ [.ref a, .int v1]) (q_Qi X 9 σ (fun (r : Int32) (σ' : ST) => σ' = σ ∧ (0 ≤ r.toInt ∧ r.toInt ≤ 1) ∧ r = F_X12_isSo X σ a v1)) 0 0 (q_reg X) := by
  refine q_met 9 (by first | exact rfl | decide +kernel) rfl (Nat.le_of_ble_eq_true rfl) (fun p e s m below meth c E hml hr hlk hI ls hl => ?_)
  have hx := E.1
  have hb := E.2.1
  have hl : lv_has ls 4 [(0, .ref a), (1, .int v1)] := hl
  have hh := hG.hd
  obtain ⟨ta, tb⟩ := ht
  obtain ⟨out, hout⟩ : ∃ o, o = F_X12_isSo X σ a v1 := ⟨_, rfl⟩
  have hF := hout.symm
  unfold F_X12_isSo at hF
  refine lv_aload_n hx hb dX12_isSo_0 rfl (lv_at hl 0 rfl) ?_
  refine gs_X12_35_12 E hI ha dX12_isSo_1 ?_
  refine lv_iload_n hx hb dX12_isSo_4 rfl (lv_at hl 1 rfl) ?_
  refine lv_bipush (v := 6) hx hb dX12_isSo_5 zkb_6 ?_
  refine lv_iadd hx hb dX12_isSo_7 ?_
  refine lv_topi (fun z_1 ez_1 => ?_)
  replace hF := q_letX hF ez_1
  have iz_1 := q_addI (A := v1.toInt) (B := 6) ez_1 rfl (by decide) (by first | (clear ht hh ta tb; omega) | omega) (by first | (clear ht hh ta tb; omega) | omega)
  refine q_iald E hI (q_tk (k' := 34) hI ha rfl (Nat.succ_ne_zero _)) ⟨by decide, rfl⟩ (by first | (clear ht hh ta tb; omega) | omega) (by rw [q_lnk (v := 4650) hI (q_tk (k' := 34) hI ha rfl (Nat.succ_ne_zero _)) rfl (by decide)]; omega) dX12_isSo_8 ?_
  refine lv_topi (fun f_2 ef_2 => ?_)
  replace hF := q_letX hF ef_2
  have if_2 : f_2.toInt = m_c X σ a (v1.toInt + 6) := m_rd ef_2 iz_1
  refine lv_istore_n (lv' := [(2, .int f_2), (0, .ref a), (1, .int v1)]) hx hb dX12_isSo_9 rfl hl (by decide) rfl (fun ls hl => ?_)
  refine lv_iload_n hx hb dX12_isSo_10 rfl (lv_at hl 0 rfl) ?_
  refine lv_iconst (v := 3) hx hb dX12_isSo_11 zki_3 ?_
  refine q_icmp_ne (A := f_2.toInt) (B := 3) E rfl (by decide) (tgt := 31) dX12_isSo_12 (by decide) (fun c_3 => ?_) (fun c_3 => ?_)
  · skip
    replace hF := q_ifn hF c_3
    refine lv_iload_n hx hb dX12_isSo_31 rfl (lv_at hl 0 rfl) ?_
    have J_78_4 : ∀ (x_4 : Int32) (H : Heap) (locs : List Loc) (ls : Array Slot), (F_X12_isSo_J78_1 X v1 σ a x_4 = out) → q_I X 9 σ s.heap locs σ H → lv_has ls 4 [(0, .ref a), (1, .int v1), (2, .int f_2)] → W p l e (q_rm 2 45) s m ([.ref a, .int v1] : List Value).toArray below meth c H locs 0 0 (MQ below (q_Qi X 9 σ (fun (r : Int32) (σ' : ST) => σ' = σ ∧ (0 ≤ r.toInt ∧ r.toInt ≤ 1) ∧ r = F_X12_isSo X σ a v1)) ([.ref a, .int v1] : List Value).toArray s 0 0 (q_reg X)) (F0 m 78 ls [.int x_4]) := by
      clear hF
      intro x_4 H locs ls  hF hI hl
      unfold F_X12_isSo_J78_1 at hF
      refine lv_istore_n (lv' := [(3, .int x_4), (0, .ref a), (1, .int v1), (2, .int f_2)]) hx hb dX12_isSo_78 rfl hl (by decide) rfl (fun ls hl => ?_)
      refine lv_aload_n hx hb dX12_isSo_79 rfl (lv_at hl 1 rfl) ?_
      refine gs_X12_35_12 E hI ha dX12_isSo_80 ?_
      refine lv_iload_n hx hb dX12_isSo_83 rfl (lv_at hl 2 rfl) ?_
      refine lv_bipush (v := 7) hx hb dX12_isSo_84 zkb_7 ?_
      refine lv_iadd hx hb dX12_isSo_86 ?_
      refine lv_topi (fun z_5 ez_5 => ?_)
      replace hF := q_letX hF ez_5
      have iz_5 := q_addI (A := v1.toInt) (B := 7) ez_5 rfl (by decide) (by first | (clear ht hh ta tb if_2 c_3; omega) | omega) (by first | (clear ht hh ta tb if_2 c_3; omega) | omega)
      refine q_iald E hI (q_tk (k' := 34) hI ha rfl (Nat.succ_ne_zero _)) ⟨by decide, rfl⟩ (by first | (clear ht hh ta tb if_2 c_3; omega) | omega) (by rw [q_lnk (v := 4650) hI (q_tk (k' := 34) hI ha rfl (Nat.succ_ne_zero _)) rfl (by decide)]; omega) dX12_isSo_87 ?_
      refine lv_topi (fun f_6 ef_6 => ?_)
      replace hF := q_letX hF ef_6
      have if_6 : f_6.toInt = m_c X σ a (v1.toInt + 7) := m_rd ef_6 iz_5
      refine lv_bipush (v := 60) hx hb dX12_isSo_88 zkb_60 ?_
      refine q_icmp_ne (A := f_6.toInt) (B := 60) E rfl (by decide) (tgt := 113) dX12_isSo_90 (by decide) (fun c_7 => ?_) (fun c_7 => ?_)
      · skip
        replace hF := q_ifn hF c_7
        refine lv_aload_n hx hb dX12_isSo_113 rfl (lv_at hl 1 rfl) ?_
        refine gs_X12_35_12 E hI ha dX12_isSo_114 ?_
        refine lv_iload_n hx hb dX12_isSo_117 rfl (lv_at hl 2 rfl) ?_
        refine lv_bipush (v := 7) hx hb dX12_isSo_118 zkb_7 ?_
        refine lv_iadd hx hb dX12_isSo_120 ?_
        refine lv_topi (fun z_8 ez_8 => ?_)
        replace hF := q_letX hF ez_8
        have iz_8 := q_addI (A := v1.toInt) (B := 7) ez_8 rfl (by decide) (by first | (clear ht hh ta tb if_2 c_3 if_6 c_7; omega) | omega) (by first | (clear ht hh ta tb if_2 c_3 if_6 c_7; omega) | omega)
        refine q_iald E hI (q_tk (k' := 34) hI ha rfl (Nat.succ_ne_zero _)) ⟨by decide, rfl⟩ (by first | (clear ht hh ta tb if_2 c_3 if_6 c_7; omega) | omega) (by rw [q_lnk (v := 4650) hI (q_tk (k' := 34) hI ha rfl (Nat.succ_ne_zero _)) rfl (by decide)]; omega) dX12_isSo_121 ?_
        refine lv_topi (fun f_9 ef_9 => ?_)
        replace hF := q_letX hF ef_9
        have if_9 : f_9.toInt = m_c X σ a (v1.toInt + 7) := m_rd ef_9 iz_8
        refine lv_bipush (v := 62) hx hb dX12_isSo_122 zkb_62 ?_
        refine q_icmp_ne (A := f_9.toInt) (B := 62) E rfl (by decide) (tgt := 147) dX12_isSo_124 (by decide) (fun c_10 => ?_) (fun c_10 => ?_)
        · skip
          replace hF := q_ifn hF c_10
          refine lv_iload_n hx hb dX12_isSo_147 rfl (lv_at hl 0 rfl) ?_
          refine lv_aload_n hx hb dX12_isSo_148 rfl (lv_at hl 1 rfl) ?_
          refine gs_X12_35_12 E hI ha dX12_isSo_149 ?_
          refine lv_iload_n hx hb dX12_isSo_152 rfl (lv_at hl 2 rfl) ?_
          refine lv_iconst (v := 2) hx hb dX12_isSo_153 zki_2 ?_
          refine lv_iadd hx hb dX12_isSo_154 ?_
          refine lv_topi (fun z_11 ez_11 => ?_)
          replace hF := q_letX hF ez_11
          have iz_11 := q_addI (A := v1.toInt) (B := 2) ez_11 rfl (by decide) (by first | (clear ht hh ta tb if_2 c_3 if_6 c_7 if_9 c_10; omega) | omega) (by first | (clear ht hh ta tb if_2 c_3 if_6 c_7 if_9 c_10; omega) | omega)
          refine q_iald E hI (q_tk (k' := 34) hI ha rfl (Nat.succ_ne_zero _)) ⟨by decide, rfl⟩ (by first | (clear ht hh ta tb if_2 c_3 if_6 c_7 if_9 c_10; omega) | omega) (by rw [q_lnk (v := 4650) hI (q_tk (k' := 34) hI ha rfl (Nat.succ_ne_zero _)) rfl (by decide)]; omega) dX12_isSo_155 ?_
          refine lv_topi (fun f_12 ef_12 => ?_)
          replace hF := q_letX hF ef_12
          have if_12 : f_12.toInt = m_c X σ a (v1.toInt + 2) := m_rd ef_12 iz_11
          refine q_icmp_ne (A := x_4.toInt) (B := f_12.toInt) E rfl rfl (tgt := 163) dX12_isSo_156 (by decide) (fun c_13 => ?_) (fun c_13 => ?_)
          · skip
            replace hF := q_ifn hF c_13
            refine lv_iconst (v := 0) hx hb dX12_isSo_163 zki_0 ?_
            have hrv : (0 : Int32).toInt = 0 := zt_0
            exact q_retz E hr hlk hI ⟨by decide, by decide⟩ ⟨rfl, ⟨by decide, by decide⟩, (hF.trans hout)⟩ dX12_isSo_164
          · skip
            replace hF := q_ifp hF c_13
            refine lv_iconst (v := 1) hx hb dX12_isSo_159 zki_1 ?_
            refine lv_goto (tgt := 164) hx hb dX12_isSo_160 (by decide) ?_
            have hrv : (1 : Int32).toInt = 1 := zt_1
            exact q_retz E hr hlk hI ⟨by decide, by decide⟩ ⟨rfl, ⟨by decide, by decide⟩, (hF.trans hout)⟩ dX12_isSo_164
        · skip
          replace hF := q_ifp hF c_10
          refine lv_iload_n hx hb dX12_isSo_127 rfl (lv_at hl 0 rfl) ?_
          refine lv_aload_n hx hb dX12_isSo_128 rfl (lv_at hl 1 rfl) ?_
          refine gs_X12_35_12 E hI ha dX12_isSo_129 ?_
          refine lv_iload_n hx hb dX12_isSo_132 rfl (lv_at hl 2 rfl) ?_
          refine lv_iconst (v := 2) hx hb dX12_isSo_133 zki_2 ?_
          refine lv_iadd hx hb dX12_isSo_134 ?_
          refine lv_topi (fun z_14 ez_14 => ?_)
          replace hF := q_letX hF ez_14
          have iz_14 := q_addI (A := v1.toInt) (B := 2) ez_14 rfl (by decide) (by first | (clear ht hh ta tb if_2 c_3 if_6 c_7 if_9 c_10; omega) | omega) (by first | (clear ht hh ta tb if_2 c_3 if_6 c_7 if_9 c_10; omega) | omega)
          refine q_iald E hI (q_tk (k' := 34) hI ha rfl (Nat.succ_ne_zero _)) ⟨by decide, rfl⟩ (by first | (clear ht hh ta tb if_2 c_3 if_6 c_7 if_9 c_10; omega) | omega) (by rw [q_lnk (v := 4650) hI (q_tk (k' := 34) hI ha rfl (Nat.succ_ne_zero _)) rfl (by decide)]; omega) dX12_isSo_135 ?_
          refine lv_topi (fun f_15 ef_15 => ?_)
          replace hF := q_letX hF ef_15
          have if_15 : f_15.toInt = m_c X σ a (v1.toInt + 2) := m_rd ef_15 iz_14
          refine q_icmp_le (A := x_4.toInt) (B := f_15.toInt) E rfl rfl (tgt := 143) dX12_isSo_136 (by decide) (fun c_16 => ?_) (fun c_16 => ?_)
          · skip
            replace hF := q_ifn hF (Int.not_lt.mpr c_16)
            refine lv_iconst (v := 0) hx hb dX12_isSo_143 zki_0 ?_
            refine lv_goto (tgt := 164) hx hb dX12_isSo_144 (by decide) ?_
            have hrv : (0 : Int32).toInt = 0 := zt_0
            exact q_retz E hr hlk hI ⟨by decide, by decide⟩ ⟨rfl, ⟨by decide, by decide⟩, (hF.trans hout)⟩ dX12_isSo_164
          · skip
            replace hF := q_ifp hF c_16
            refine lv_iconst (v := 1) hx hb dX12_isSo_139 zki_1 ?_
            refine lv_goto (tgt := 164) hx hb dX12_isSo_140 (by decide) ?_
            have hrv : (1 : Int32).toInt = 1 := zt_1
            exact q_retz E hr hlk hI ⟨by decide, by decide⟩ ⟨rfl, ⟨by decide, by decide⟩, (hF.trans hout)⟩ dX12_isSo_164
      · skip
        replace hF := q_ifp hF c_7
        refine lv_iload_n hx hb dX12_isSo_93 rfl (lv_at hl 0 rfl) ?_
        refine lv_aload_n hx hb dX12_isSo_94 rfl (lv_at hl 1 rfl) ?_
        refine gs_X12_35_12 E hI ha dX12_isSo_95 ?_
        refine lv_iload_n hx hb dX12_isSo_98 rfl (lv_at hl 2 rfl) ?_
        refine lv_iconst (v := 2) hx hb dX12_isSo_99 zki_2 ?_
        refine lv_iadd hx hb dX12_isSo_100 ?_
        refine lv_topi (fun z_17 ez_17 => ?_)
        replace hF := q_letX hF ez_17
        have iz_17 := q_addI (A := v1.toInt) (B := 2) ez_17 rfl (by decide) (by first | (clear ht hh ta tb if_2 c_3 if_6 c_7; omega) | omega) (by first | (clear ht hh ta tb if_2 c_3 if_6 c_7; omega) | omega)
        refine q_iald E hI (q_tk (k' := 34) hI ha rfl (Nat.succ_ne_zero _)) ⟨by decide, rfl⟩ (by first | (clear ht hh ta tb if_2 c_3 if_6 c_7; omega) | omega) (by rw [q_lnk (v := 4650) hI (q_tk (k' := 34) hI ha rfl (Nat.succ_ne_zero _)) rfl (by decide)]; omega) dX12_isSo_101 ?_
        refine lv_topi (fun f_18 ef_18 => ?_)
        replace hF := q_letX hF ef_18
        have if_18 : f_18.toInt = m_c X σ a (v1.toInt + 2) := m_rd ef_18 iz_17
        refine q_icmp_ge (A := x_4.toInt) (B := f_18.toInt) E rfl rfl (tgt := 109) dX12_isSo_102 (by decide) (fun c_19 => ?_) (fun c_19 => ?_)
        · skip
          replace hF := q_ifn hF (Int.not_lt.mpr c_19)
          refine lv_iconst (v := 0) hx hb dX12_isSo_109 zki_0 ?_
          refine lv_goto (tgt := 164) hx hb dX12_isSo_110 (by decide) ?_
          have hrv : (0 : Int32).toInt = 0 := zt_0
          exact q_retz E hr hlk hI ⟨by decide, by decide⟩ ⟨rfl, ⟨by decide, by decide⟩, (hF.trans hout)⟩ dX12_isSo_164
        · skip
          replace hF := q_ifp hF c_19
          refine lv_iconst (v := 1) hx hb dX12_isSo_105 zki_1 ?_
          refine lv_goto (tgt := 164) hx hb dX12_isSo_106 (by decide) ?_
          have hrv : (1 : Int32).toInt = 1 := zt_1
          exact q_retz E hr hlk hI ⟨by decide, by decide⟩ ⟨rfl, ⟨by decide, by decide⟩, (hF.trans hout)⟩ dX12_isSo_164
    refine q_if_ne (A := f_2.toInt) E rfl (tgt := 50) dX12_isSo_32 (by decide) (fun c_20 => ?_) (fun c_20 => ?_)
    · skip
      replace hF := q_ifn hF c_20
      refine lv_iload_n hx hb dX12_isSo_50 rfl (lv_at hl 0 rfl) ?_
      refine lv_iconst (v := 1) hx hb dX12_isSo_51 zki_1 ?_
      refine q_icmp_ne (A := f_2.toInt) (B := 1) E rfl (by decide) (tgt := 62) dX12_isSo_52 (by decide) (fun c_21 => ?_) (fun c_21 => ?_)
      · skip
        replace hF := q_ifn hF c_21
        refine lv_aload_n hx hb dX12_isSo_62 rfl (lv_at hl 1 rfl) ?_
        refine gs_X12_35_12 E hI ha dX12_isSo_63 ?_
        refine lv_bipush (v := 22) hx hb dX12_isSo_66 zkb_22 ?_
        refine lv_aload_n hx hb dX12_isSo_68 rfl (lv_at hl 1 rfl) ?_
        refine gs_X12_35_12 E hI ha dX12_isSo_69 ?_
        refine lv_iload_n hx hb dX12_isSo_72 rfl (lv_at hl 2 rfl) ?_
        refine lv_iconst (v := 1) hx hb dX12_isSo_73 zki_1 ?_
        refine lv_iadd hx hb dX12_isSo_74 ?_
        refine lv_topi (fun z_22 ez_22 => ?_)
        replace hF := q_letX hF ez_22
        have iz_22 := q_addI (A := v1.toInt) (B := 1) ez_22 rfl (by decide) (by first | (clear ht hh ta tb if_2 c_3 c_20 c_21; omega) | omega) (by first | (clear ht hh ta tb if_2 c_3 c_20 c_21; omega) | omega)
        refine q_iald E hI (q_tk (k' := 34) hI ha rfl (Nat.succ_ne_zero _)) ⟨by decide, rfl⟩ (by first | (clear ht hh ta tb if_2 c_3 c_20 c_21; omega) | omega) (by rw [q_lnk (v := 4650) hI (q_tk (k' := 34) hI ha rfl (Nat.succ_ne_zero _)) rfl (by decide)]; omega) dX12_isSo_75 ?_
        refine lv_topi (fun f_23 ef_23 => ?_)
        replace hF := q_letX hF ef_23
        have if_23 : f_23.toInt = m_c X σ a (v1.toInt + 1) := m_rd ef_23 iz_22
        refine lv_iadd hx hb dX12_isSo_76 ?_
        refine lv_topi (fun z_24 ez_24 => ?_)
        replace hF := q_letX hF ez_24
        have iz_24 := q_addI (A := 22) (B := (m_c X σ a (v1.toInt + 1))) ez_24 (by decide) if_23 (by first | (clear hw ht hh iz_1 iz_22 if_23; omega) | omega) (by first | (clear hw ht hh iz_1 iz_22 if_23; omega) | omega)
        refine q_iald E hI (q_tk (k' := 34) hI ha rfl (Nat.succ_ne_zero _)) ⟨by decide, rfl⟩ (by first | (clear hw ht hh iz_1 iz_22 if_23; omega) | omega) (by rw [q_lnk (v := 4650) hI (q_tk (k' := 34) hI ha rfl (Nat.succ_ne_zero _)) rfl (by decide)]; omega) dX12_isSo_77 ?_
        refine lv_topi (fun f_25 ef_25 => ?_)
        replace hF := q_letX hF ef_25
        have if_25 : f_25.toInt = m_c X σ a (22 + (m_c X σ a (v1.toInt + 1))) := m_rd ef_25 iz_24
        exact J_78_4 f_25 _ _ ls hF hI (lv_sub hl [1, 2, 0] rfl)
      · skip
        replace hF := q_ifp hF c_21
        refine lv_aload_n hx hb dX12_isSo_55 rfl (lv_at hl 1 rfl) ?_
        refine q_ci (q_rV11_0 (rest := []) E (hml.trans hl.1.symm) hI (c_X12_heapMany l X σ a ha hG) kv_X12_287 ha ⟨Nat.le_of_ble_eq_true rfl, Nat.le_of_ble_eq_true rfl⟩ (Nat.le_of_ble_eq_true rfl) dX12_isSo_56) hI (Nat.le_of_ble_eq_true rfl) (fun r_26 σ_27 H locs hpσ_27 hkσ_27 hI => ?_)
        have ahpσ_27 := hpσ_27.1
        have bhpσ_27 := hpσ_27.2.1
        have chpσ_27 := hpσ_27.2.2.1
        have dhpσ_27 := hpσ_27.2.2.2
        clear hpσ_27
        replace hI := q_Irw ahpσ_27 hI
        replace hF := q_letX hF dhpσ_27
        refine lv_goto (tgt := 78) hx hb dX12_isSo_59 (by decide) ?_
        exact J_78_4 r_26 _ _ ls hF hI (lv_sub hl [1, 2, 0] rfl)
    · skip
      replace hF := q_ifp hF c_20
      refine lv_aload_n hx hb dX12_isSo_35 rfl (lv_at hl 1 rfl) ?_
      refine lv_aload_n hx hb dX12_isSo_36 rfl (lv_at hl 1 rfl) ?_
      refine gs_X12_35_12 E hI ha dX12_isSo_37 ?_
      refine lv_iload_n hx hb dX12_isSo_40 rfl (lv_at hl 2 rfl) ?_
      refine lv_iconst (v := 1) hx hb dX12_isSo_41 zki_1 ?_
      refine lv_iadd hx hb dX12_isSo_42 ?_
      refine lv_topi (fun z_28 ez_28 => ?_)
      replace hF := q_letX hF ez_28
      have iz_28 := q_addI (A := v1.toInt) (B := 1) ez_28 rfl (by decide) (by first | (clear ht hh ta tb if_2 c_3 c_20; omega) | omega) (by first | (clear ht hh ta tb if_2 c_3 c_20; omega) | omega)
      refine q_iald E hI (q_tk (k' := 34) hI ha rfl (Nat.succ_ne_zero _)) ⟨by decide, rfl⟩ (by first | (clear ht hh ta tb if_2 c_3 c_20; omega) | omega) (by rw [q_lnk (v := 4650) hI (q_tk (k' := 34) hI ha rfl (Nat.succ_ne_zero _)) rfl (by decide)]; omega) dX12_isSo_43 ?_
      refine lv_topi (fun f_29 ef_29 => ?_)
      replace hF := q_letX hF ef_29
      have if_29 : f_29.toInt = m_c X σ a (v1.toInt + 1) := m_rd ef_29 iz_28
      refine q_ci (q_rV11_1 (rest := []) E (hml.trans hl.1.symm) hI (c_X12_cardsOf l X σ a f_29 ha hG (by first | (clear hw ht hh ta iz_1 iz_28; omega) | omega)) kv_X12_293 ha ⟨Nat.le_of_ble_eq_true rfl, Nat.le_of_ble_eq_true rfl⟩ (Nat.le_of_ble_eq_true rfl) dX12_isSo_44) hI (Nat.le_of_ble_eq_true rfl) (fun r_30 σ_31 H locs hpσ_31 hkσ_31 hI => ?_)
      have ahpσ_31 := hpσ_31.1
      have bhpσ_31 := hpσ_31.2.1
      have chpσ_31 := hpσ_31.2.2.1
      have dhpσ_31 := hpσ_31.2.2.2
      clear hpσ_31
      replace hI := q_Irw ahpσ_31 hI
      replace hF := q_letX hF dhpσ_31
      refine lv_goto (tgt := 78) hx hb dX12_isSo_47 (by decide) ?_
      exact J_78_4 r_30 _ _ ls hF hI (lv_sub hl [1, 2, 0] rfl)
  · skip
    replace hF := q_ifp hF c_3
    refine lv_aload_n hx hb dX12_isSo_15 rfl (lv_at hl 1 rfl) ?_
    refine gs_X12_35_12 E hI ha dX12_isSo_16 ?_
    refine lv_bipush (v := 8) hx hb dX12_isSo_19 zkb_8 ?_
    refine q_iald E hI (q_tk (k' := 34) hI ha rfl (Nat.succ_ne_zero _)) ⟨by decide, rfl⟩ (by decide) (by rw [q_lnk (v := 4650) hI (q_tk (k' := 34) hI ha rfl (Nat.succ_ne_zero _)) rfl (by decide)]; decide) dX12_isSo_21 ?_
    refine lv_topi (fun f_32 ef_32 => ?_)
    replace hF := q_letX hF ef_32
    have if_32 : f_32.toInt = m_c X σ a 8 := m_rd ef_32 (by decide)
    refine q_if_lt (A := f_32.toInt) E rfl (tgt := 29) dX12_isSo_22 (by decide) (fun c_33 => ?_) (fun c_33 => ?_)
    · skip
      replace hF := q_ifp hF c_33
      refine lv_iconst (v := 0) hx hb dX12_isSo_29 zki_0 ?_
      have hrv : (0 : Int32).toInt = 0 := zt_0
      exact q_retz E hr hlk hI ⟨by decide, by decide⟩ ⟨rfl, ⟨by decide, by decide⟩, (hF.trans hout)⟩ dX12_isSo_30
    · skip
      replace hF := q_ifn hF (Int.not_lt.mpr c_33)
      refine lv_iconst (v := 1) hx hb dX12_isSo_25 zki_1 ?_
      refine lv_goto (tgt := 30) hx hb dX12_isSo_26 (by decide) ?_
      have hrv : (1 : Int32).toInt = 1 := zt_1
      exact q_retz E hr hlk hI ⟨by decide, by decide⟩ ⟨rfl, ⟨by decide, by decide⟩, (hF.trans hout)⟩ dX12_isSo_30
end
