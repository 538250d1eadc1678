section
set_option maxRecDepth 100000 in
set_option maxHeartbeats 4000000 in
theorem c_X12_nextKind (l : Launch) (X : XW) (σ : ST) (a : Nat) (v1 : Int32) (ha : q_kd X a = 12) (hG : m_G (m_c X σ a)) : Met l yX12_nextKind (q_ws yX12_nextKind cX12_nextKind 3 (some .int)) (q_rm 0 0) (q_P X σ [.ref a, .int v1]) (q_Qi X 9 σ (fun (r : Int32) (σ' : ST) => σ' = σ ∧ (0 ≤ r.toInt ∧ r.toInt < m_c X σ a 0) ∧ r = F_X12_nextKind X σ a v1)) 0 0 (q_reg X) := by
  refine q_met 9 (by first | exact rfl | decide +kernel) rfl (Nat.le_of_ble_eq_true rfl) (fun p e s m below meth c E hml hr hlk hI ls hl => ?_)
  have hx := E.1
  have hb := E.2.1
  have hl : lv_has ls 3 [(0, .ref a), (1, .int v1)] := hl
  have hh := hG.hd
  obtain ⟨out, hout⟩ : ∃ o, o = F_X12_nextKind X σ a v1 := ⟨_, rfl⟩
  have hF := hout.symm
  unfold F_X12_nextKind at hF
  refine lv_aload_n hx hb dX12_nextKind_0 rfl (lv_at hl 0 rfl) ?_
  refine gs_X12_35_12 E hI ha dX12_nextKind_1 ?_
  refine lv_iconst (v := 0) hx hb dX12_nextKind_4 zki_0 ?_
  refine q_iald E hI (q_tk (k' := 34) hI ha rfl (Nat.succ_ne_zero _)) ⟨by decide, rfl⟩ (by decide) (by rw [q_lnk (v := 4650) hI (q_tk (k' := 34) hI ha rfl (Nat.succ_ne_zero _)) rfl (by decide)]; decide) dX12_nextKind_5 ?_
  refine lv_topi (fun f_1 ef_1 => ?_)
  replace hF := q_letX hF ef_1
  have if_1 : f_1.toInt = m_c X σ a 0 := m_rd ef_1 (by decide)
  refine lv_istore_n (lv' := [(2, .int f_1), (0, .ref a), (1, .int v1)]) hx hb dX12_nextKind_6 rfl hl (by decide) rfl (fun ls hl => ?_)
  refine lv_aload_n hx hb dX12_nextKind_7 rfl (lv_at hl 1 rfl) ?_
  refine gs_X12_35_12 E hI ha dX12_nextKind_8 ?_
  refine lv_iconst (v := 3) hx hb dX12_nextKind_11 zki_3 ?_
  refine q_iald E hI (q_tk (k' := 34) hI ha rfl (Nat.succ_ne_zero _)) ⟨by decide, rfl⟩ (by decide) (by rw [q_lnk (v := 4650) hI (q_tk (k' := 34) hI ha rfl (Nat.succ_ne_zero _)) rfl (by decide)]; decide) dX12_nextKind_12 ?_
  refine lv_topi (fun f_2 ef_2 => ?_)
  replace hF := q_letX hF ef_2
  have if_2 : f_2.toInt = m_c X σ a 3 := m_rd ef_2 (by decide)
  refine q_if_eq (A := f_2.toInt) E rfl (tgt := 30) dX12_nextKind_13 (by decide) (fun c_3 => ?_) (fun c_3 => ?_)
  · skip
    replace hF := q_ifp hF c_3
    refine lv_aload_n hx hb dX12_nextKind_30 rfl (lv_at hl 1 rfl) ?_
    refine gs_X12_35_12 E hI ha dX12_nextKind_31 ?_
    refine lv_iconst (v := 5) hx hb dX12_nextKind_34 zki_5 ?_
    refine q_iald E hI (q_tk (k' := 34) hI ha rfl (Nat.succ_ne_zero _)) ⟨by decide, rfl⟩ (by decide) (by rw [q_lnk (v := 4650) hI (q_tk (k' := 34) hI ha rfl (Nat.succ_ne_zero _)) rfl (by decide)]; decide) dX12_nextKind_35 ?_
    refine lv_topi (fun f_4 ef_4 => ?_)
    replace hF := q_letX hF ef_4
    have if_4 : f_4.toInt = m_c X σ a 5 := m_rd ef_4 (by decide)
    refine lv_iconst (v := 1) hx hb dX12_nextKind_36 zki_1 ?_
    refine lv_iadd hx hb dX12_nextKind_37 ?_
    refine lv_topi (fun z_5 ez_5 => ?_)
    replace hF := q_letX hF ez_5
    have iz_5 := q_addI (A := (m_c X σ a 5)) (B := 1) ez_5 if_4 (by decide) (by first | (clear if_1 if_2 c_3; omega) | omega) (by first | (clear if_2 c_3; omega) | omega)
    refine lv_iload_n hx hb dX12_nextKind_38 rfl (lv_at hl 0 rfl) ?_
    refine lv_irem hx hb dX12_nextKind_39 (q_ne0 (by first | (clear if_2 c_3 if_4 iz_5; omega) | omega)) ?_
    refine lv_topi (fun z_6 ez_6 => ?_)
    replace hF := q_letX hF (ez_6.trans (q_remI _ _))
    have rmz_6 := m_rem ez_6 (by first | (clear if_1 if_2 c_3; omega) | omega) (by first | (clear if_2 c_3 if_4 iz_5; omega) | omega)
    exact q_reti E hr hlk hI ⟨rfl, (by first | (clear hh if_2 c_3 if_4 iz_5; omega) | omega), (hF.trans hout)⟩ dX12_nextKind_40
  · skip
    replace hF := q_ifn hF c_3
    refine lv_aload_n hx hb dX12_nextKind_16 rfl (lv_at hl 1 rfl) ?_
    refine gs_X12_35_12 E hI ha dX12_nextKind_17 ?_
    refine lv_iconst (v := 3) hx hb dX12_nextKind_20 zki_3 ?_
    refine q_iald E hI (q_tk (k' := 34) hI ha rfl (Nat.succ_ne_zero _)) ⟨by decide, rfl⟩ (by decide) (by rw [q_lnk (v := 4650) hI (q_tk (k' := 34) hI ha rfl (Nat.succ_ne_zero _)) rfl (by decide)]; decide) dX12_nextKind_21 ?_
    refine lv_topi (fun f_7 ef_7 => ?_)
    replace hF := q_letX hF ef_7
    have if_7 : f_7.toInt = m_c X σ a 3 := m_rd ef_7 (by decide)
    refine lv_iconst (v := 1) hx hb dX12_nextKind_22 zki_1 ?_
    refine q_icmp_eq (A := f_7.toInt) (B := 1) E rfl (by decide) (tgt := 41) dX12_nextKind_23 (by decide) (fun c_8 => ?_) (fun c_8 => ?_)
    · skip
      replace hF := q_ifp hF c_8
      refine lv_aload_n hx hb dX12_nextKind_41 rfl (lv_at hl 1 rfl) ?_
      refine gs_X12_35_12 E hI ha dX12_nextKind_42 ?_
      refine lv_iconst (v := 3) hx hb dX12_nextKind_45 zki_3 ?_
      refine q_iald E hI (q_tk (k' := 34) hI ha rfl (Nat.succ_ne_zero _)) ⟨by decide, rfl⟩ (by decide) (by rw [q_lnk (v := 4650) hI (q_tk (k' := 34) hI ha rfl (Nat.succ_ne_zero _)) rfl (by decide)]; decide) dX12_nextKind_46 ?_
      refine lv_topi (fun f_9 ef_9 => ?_)
      replace hF := q_letX hF ef_9
      have if_9 : f_9.toInt = m_c X σ a 3 := m_rd ef_9 (by decide)
      refine lv_iconst (v := 1) hx hb dX12_nextKind_47 zki_1 ?_
      refine q_icmp_ne (A := f_9.toInt) (B := 1) E rfl (by decide) (tgt := 66) dX12_nextKind_48 (by decide) (fun c_10 => ?_) (fun c_10 => ?_)
      · skip
        replace hF := q_ifn hF c_10
        refine lv_aload_n hx hb dX12_nextKind_66 rfl (lv_at hl 1 rfl) ?_
        refine gs_X12_35_12 E hI ha dX12_nextKind_67 ?_
        refine lv_iconst (v := 5) hx hb dX12_nextKind_70 zki_5 ?_
        refine q_iald E hI (q_tk (k' := 34) hI ha rfl (Nat.succ_ne_zero _)) ⟨by decide, rfl⟩ (by decide) (by rw [q_lnk (v := 4650) hI (q_tk (k' := 34) hI ha rfl (Nat.succ_ne_zero _)) rfl (by decide)]; decide) dX12_nextKind_71 ?_
        refine lv_topi (fun f_11 ef_11 => ?_)
        replace hF := q_letX hF ef_11
        have if_11 : f_11.toInt = m_c X σ a 5 := m_rd ef_11 (by decide)
        exact q_reti E hr hlk hI ⟨rfl, (by first | (clear if_2 c_3 if_7 c_8 if_9 c_10; omega) | omega), (hF.trans hout)⟩ dX12_nextKind_72
      · skip
        replace hF := q_ifp hF c_10
        refine lv_aload_n hx hb dX12_nextKind_51 rfl (lv_at hl 1 rfl) ?_
        refine gs_X12_35_12 E hI ha dX12_nextKind_52 ?_
        refine lv_iconst (v := 5) hx hb dX12_nextKind_55 zki_5 ?_
        refine q_iald E hI (q_tk (k' := 34) hI ha rfl (Nat.succ_ne_zero _)) ⟨by decide, rfl⟩ (by decide) (by rw [q_lnk (v := 4650) hI (q_tk (k' := 34) hI ha rfl (Nat.succ_ne_zero _)) rfl (by decide)]; decide) dX12_nextKind_56 ?_
        refine lv_topi (fun f_12 ef_12 => ?_)
        replace hF := q_letX hF ef_12
        have if_12 : f_12.toInt = m_c X σ a 5 := m_rd ef_12 (by decide)
        refine lv_iload_n hx hb dX12_nextKind_57 rfl (lv_at hl 0 rfl) ?_
        refine lv_iadd hx hb dX12_nextKind_58 ?_
        refine lv_topi (fun z_13 ez_13 => ?_)
        replace hF := q_letX hF ez_13
        have iz_13 := q_addI (A := (m_c X σ a 5)) (B := (m_c X σ a 0)) ez_13 if_12 if_1 (by first | (clear if_2 c_3 if_7 c_8 if_9 c_10; omega) | omega) (by first | (clear if_2 c_3 if_7 c_8 if_9 c_10; omega) | omega)
        refine lv_iconst (v := 1) hx hb dX12_nextKind_59 zki_1 ?_
        refine lv_isub hx hb dX12_nextKind_60 ?_
        refine lv_topi (fun z_14 ez_14 => ?_)
        replace hF := q_letX hF ez_14
        have iz_14 := q_subI (A := ((m_c X σ a 5) + (m_c X σ a 0))) (B := 1) ez_14 iz_13 (by decide) (by first | (clear if_2 c_3 if_7 c_8 if_9 c_10; omega) | omega) (by first | (clear if_2 c_3 if_7 c_8 if_9 c_10; omega) | omega)
        refine lv_iload_n hx hb dX12_nextKind_61 rfl (lv_at hl 0 rfl) ?_
        refine lv_irem hx hb dX12_nextKind_62 (q_ne0 (by first | (clear if_2 c_3 if_7 c_8 if_9 c_10; omega) | omega)) ?_
        refine lv_topi (fun z_15 ez_15 => ?_)
        replace hF := q_letX hF (ez_15.trans (q_remI _ _))
        have rmz_15 := m_rem ez_15 (by first | (clear if_2 c_3 if_7 c_8 if_9 c_10; omega) | omega) (by first | (clear if_2 c_3 if_7 c_8 if_9 c_10; omega) | omega)
        refine lv_goto (tgt := 72) hx hb dX12_nextKind_63 (by decide) ?_
        exact q_reti E hr hlk hI ⟨rfl, (by first | (clear hh if_2 c_3 if_7 c_8 if_9 c_10; omega) | omega), (hF.trans hout)⟩ dX12_nextKind_72
    · skip
      replace hF := q_ifn hF c_8
      refine lv_iload_n hx hb dX12_nextKind_26 rfl (lv_at hl 2 rfl) ?_
      refine q_if_ne (A := v1.toInt) E rfl (tgt := 41) dX12_nextKind_27 (by decide) (fun c_16 => ?_) (fun c_16 => ?_)
      · skip
        replace hF := q_ifn hF c_16
        refine lv_aload_n hx hb dX12_nextKind_41 rfl (lv_at hl 1 rfl) ?_
        refine gs_X12_35_12 E hI ha dX12_nextKind_42 ?_
        refine lv_iconst (v := 3) hx hb dX12_nextKind_45 zki_3 ?_
        refine q_iald E hI (q_tk (k' := 34) hI ha rfl (Nat.succ_ne_zero _)) ⟨by decide, rfl⟩ (by decide) (by rw [q_lnk (v := 4650) hI (q_tk (k' := 34) hI ha rfl (Nat.succ_ne_zero _)) rfl (by decide)]; decide) dX12_nextKind_46 ?_
        refine lv_topi (fun f_17 ef_17 => ?_)
        replace hF := q_letX hF ef_17
        have if_17 : f_17.toInt = m_c X σ a 3 := m_rd ef_17 (by decide)
        refine lv_iconst (v := 1) hx hb dX12_nextKind_47 zki_1 ?_
        refine q_icmp_ne (A := f_17.toInt) (B := 1) E rfl (by decide) (tgt := 66) dX12_nextKind_48 (by decide) (fun c_18 => ?_) (fun c_18 => ?_)
        · skip
          replace hF := q_ifn hF c_18
          refine lv_aload_n hx hb dX12_nextKind_66 rfl (lv_at hl 1 rfl) ?_
          refine gs_X12_35_12 E hI ha dX12_nextKind_67 ?_
          refine lv_iconst (v := 5) hx hb dX12_nextKind_70 zki_5 ?_
          refine q_iald E hI (q_tk (k' := 34) hI ha rfl (Nat.succ_ne_zero _)) ⟨by decide, rfl⟩ (by decide) (by rw [q_lnk (v := 4650) hI (q_tk (k' := 34) hI ha rfl (Nat.succ_ne_zero _)) rfl (by decide)]; decide) dX12_nextKind_71 ?_
          refine lv_topi (fun f_19 ef_19 => ?_)
          replace hF := q_letX hF ef_19
          have if_19 : f_19.toInt = m_c X σ a 5 := m_rd ef_19 (by decide)
          exact q_reti E hr hlk hI ⟨rfl, (by first | (clear if_2 c_3 if_7 c_8 c_16 if_17 c_18; omega) | omega), (hF.trans hout)⟩ dX12_nextKind_72
        · skip
          replace hF := q_ifp hF c_18
          refine lv_aload_n hx hb dX12_nextKind_51 rfl (lv_at hl 1 rfl) ?_
          refine gs_X12_35_12 E hI ha dX12_nextKind_52 ?_
          refine lv_iconst (v := 5) hx hb dX12_nextKind_55 zki_5 ?_
          refine q_iald E hI (q_tk (k' := 34) hI ha rfl (Nat.succ_ne_zero _)) ⟨by decide, rfl⟩ (by decide) (by rw [q_lnk (v := 4650) hI (q_tk (k' := 34) hI ha rfl (Nat.succ_ne_zero _)) rfl (by decide)]; decide) dX12_nextKind_56 ?_
          refine lv_topi (fun f_20 ef_20 => ?_)
          replace hF := q_letX hF ef_20
          have if_20 : f_20.toInt = m_c X σ a 5 := m_rd ef_20 (by decide)
          refine lv_iload_n hx hb dX12_nextKind_57 rfl (lv_at hl 0 rfl) ?_
          refine lv_iadd hx hb dX12_nextKind_58 ?_
          refine lv_topi (fun z_21 ez_21 => ?_)
          replace hF := q_letX hF ez_21
          have iz_21 := q_addI (A := (m_c X σ a 5)) (B := (m_c X σ a 0)) ez_21 if_20 if_1 (by first | (clear if_2 c_3 if_7 c_8 c_16 if_17 c_18; omega) | omega) (by first | (clear if_2 c_3 if_7 c_8 c_16 if_17 c_18; omega) | omega)
          refine lv_iconst (v := 1) hx hb dX12_nextKind_59 zki_1 ?_
          refine lv_isub hx hb dX12_nextKind_60 ?_
          refine lv_topi (fun z_22 ez_22 => ?_)
          replace hF := q_letX hF ez_22
          have iz_22 := q_subI (A := ((m_c X σ a 5) + (m_c X σ a 0))) (B := 1) ez_22 iz_21 (by decide) (by first | (clear if_2 c_3 if_7 c_8 c_16 if_17 c_18; omega) | omega) (by first | (clear if_2 c_3 if_7 c_8 c_16 if_17 c_18; omega) | omega)
          refine lv_iload_n hx hb dX12_nextKind_61 rfl (lv_at hl 0 rfl) ?_
          refine lv_irem hx hb dX12_nextKind_62 (q_ne0 (by first | (clear if_2 c_3 if_7 c_8 c_16 if_17 c_18; omega) | omega)) ?_
          refine lv_topi (fun z_23 ez_23 => ?_)
          replace hF := q_letX hF (ez_23.trans (q_remI _ _))
          have rmz_23 := m_rem ez_23 (by first | (clear if_2 c_3 if_7 c_8 c_16 if_17 c_18; omega) | omega) (by first | (clear if_2 c_3 if_7 c_8 c_16 if_17 c_18; omega) | omega)
          refine lv_goto (tgt := 72) hx hb dX12_nextKind_63 (by decide) ?_
          exact q_reti E hr hlk hI ⟨rfl, (by first | (clear hh if_2 c_3 if_7 c_8 c_16 if_17 c_18; omega) | omega), (hF.trans hout)⟩ dX12_nextKind_72
      · skip
        replace hF := q_ifp hF c_16
        refine lv_aload_n hx hb dX12_nextKind_30 rfl (lv_at hl 1 rfl) ?_
        refine gs_X12_35_12 E hI ha dX12_nextKind_31 ?_
        refine lv_iconst (v := 5) hx hb dX12_nextKind_34 zki_5 ?_
        refine q_iald E hI (q_tk (k' := 34) hI ha rfl (Nat.succ_ne_zero _)) ⟨by decide, rfl⟩ (by decide) (by rw [q_lnk (v := 4650) hI (q_tk (k' := 34) hI ha rfl (Nat.succ_ne_zero _)) rfl (by decide)]; decide) dX12_nextKind_35 ?_
        refine lv_topi (fun f_24 ef_24 => ?_)
        replace hF := q_letX hF ef_24
        have if_24 : f_24.toInt = m_c X σ a 5 := m_rd ef_24 (by decide)
        refine lv_iconst (v := 1) hx hb dX12_nextKind_36 zki_1 ?_
        refine lv_iadd hx hb dX12_nextKind_37 ?_
        refine lv_topi (fun z_25 ez_25 => ?_)
        replace hF := q_letX hF ez_25
        have iz_25 := q_addI (A := (m_c X σ a 5)) (B := 1) ez_25 if_24 (by decide) (by first | (clear if_1 if_2 c_3 if_7 c_8 c_16; omega) | omega) (by first | (clear if_2 c_3 if_7 c_8 c_16; omega) | omega)
        refine lv_iload_n hx hb dX12_nextKind_38 rfl (lv_at hl 0 rfl) ?_
        refine lv_irem hx hb dX12_nextKind_39 (q_ne0 (by first | (clear if_2 c_3 if_7 c_8 c_16 if_24 iz_25; omega) | omega)) ?_
        refine lv_topi (fun z_26 ez_26 => ?_)
        replace hF := q_letX hF (ez_26.trans (q_remI _ _))
        have rmz_26 := m_rem ez_26 (by first | (clear if_1 if_2 c_3 if_7 c_8 c_16; omega) | omega) (by first | (clear if_2 c_3 if_7 c_8 c_16 if_24 iz_25; omega) | omega)
        exact q_reti E hr hlk hI ⟨rfl, (by first | (clear hh if_2 c_3 if_7 c_8 c_16 if_24 iz_25; omega) | omega), (hF.trans hout)⟩ dX12_nextKind_40
end
