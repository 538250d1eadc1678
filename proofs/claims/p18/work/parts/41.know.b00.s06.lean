section
set_option maxRecDepth 100000 in
set_option maxHeartbeats 4000000 in
theorem c_X12_fallsTo (l : Launch) (X : XW) (σ : ST) (a : Nat) (v1 : Int32) (v2 : Int32) (ha : q_kd X a = 12) (hG : m_G (m_c X σ a)) (h0 : 0 ≤ v1.toInt ∧ v1.toInt < m_c X σ a 2) (h1 : 0 ≤ v2.toInt ∧ v2.toInt ≤ 60) : Met l yX12_fallsTo (q_ws yX12_fallsTo cX12_fallsTo 5 (some .int)) (q_rm 2 43) (q_P X σ [.ref a, .int v1, .int v2]) (q_Qi X 9 σ (fun (r : Int32) (σ' : ST) => σ' = σ ∧ (0 ≤ r.toInt ∧ r.toInt < m_c X σ a 0) ∧ r = F_X12_fallsTo X σ a v1 v2)) 0 0 (q_reg X) := by
  refine q_met 9 (by first | exact rfl | decide +kernel) rfl (Nat.le_of_ble_eq_true rfl) (fun p e s m below meth c E hml hr hlk hI ls hl => ?_)
  have hx := E.1
  have hb := E.2.1
  have hl : lv_has ls 5 [(0, .ref a), (1, .int v1), (2, .int v2)] := hl
  have hh := hG.hd
  obtain ⟨out, hout⟩ : ∃ o, o = F_X12_fallsTo X σ a v1 v2 := ⟨_, rfl⟩
  have hF := hout.symm
  unfold F_X12_fallsTo at hF
  refine lv_aload_n hx hb dX12_fallsTo_0 rfl (lv_at hl 0 rfl) ?_
  refine gs_X12_35_12 E hI ha dX12_fallsTo_1 ?_
  refine lv_bipush (v := 7) hx hb dX12_fallsTo_4 zkb_7 ?_
  refine q_iald E hI (q_tk (k' := 34) hI ha rfl (Nat.succ_ne_zero _)) ⟨by decide, rfl⟩ (by decide) (by rw [q_lnk (v := 4650) hI (q_tk (k' := 34) hI ha rfl (Nat.succ_ne_zero _)) rfl (by decide)]; decide) dX12_fallsTo_6 ?_
  refine lv_topi (fun f_1 ef_1 => ?_)
  replace hF := q_letX hF ef_1
  have if_1 : f_1.toInt = m_c X σ a 7 := m_rd ef_1 (by decide)
  refine lv_iconst (v := 1) hx hb dX12_fallsTo_7 zki_1 ?_
  have J_25_2 : ∀ (x_2 : Int32) (H : Heap) (locs : List Loc) (ls : Array Slot), (0 ≤ x_2.toInt ∧ x_2.toInt < m_c X σ a 0) → (F_X12_fallsTo_J25_1 X σ a v1 v2 x_2 = out) → q_I X 9 σ s.heap locs σ H → lv_has ls 5 [(0, .ref a), (1, .int v1), (2, .int v2)] → W p l e (q_rm 2 43) s m ([.ref a, .int v1, .int v2] : List Value).toArray below meth c H locs 0 0 (MQ below (q_Qi X 9 σ (fun (r : Int32) (σ' : ST) => σ' = σ ∧ (0 ≤ r.toInt ∧ r.toInt < m_c X σ a 0) ∧ r = F_X12_fallsTo X σ a v1 v2)) ([.ref a, .int v1, .int v2] : List Value).toArray s 0 0 (q_reg X)) (F0 m 25 ls [.int x_2]) := by
    clear hF
    intro x_2 H locs ls j25 hF hI hl
    unfold F_X12_fallsTo_J25_1 at hF
    refine lv_istore_n (lv' := [(3, .int x_2), (0, .ref a), (1, .int v1), (2, .int v2)]) hx hb dX12_fallsTo_25 rfl hl (by decide) rfl (fun ls hl => ?_)
    refine lv_aload_n hx hb dX12_fallsTo_26 rfl (lv_at hl 1 rfl) ?_
    refine lv_iload_n hx hb dX12_fallsTo_27 rfl (lv_at hl 2 rfl) ?_
    refine q_ci (q_rV11_1 (rest := []) E (hml.trans hl.1.symm) hI (c_X12_waitsOf l X σ a v1 ha hG (by omega)) kv_X12_367 ha ⟨Nat.le_of_ble_eq_true rfl, Nat.le_of_ble_eq_true rfl⟩ (Nat.le_of_ble_eq_true rfl) dX12_fallsTo_28) hI (Nat.le_of_ble_eq_true rfl) (fun r_3 σ_4 H locs hpσ_4 hkσ_4 hI => ?_)
    have ahpσ_4 := hpσ_4.1
    have bhpσ_4 := hpσ_4.2.1
    have chpσ_4 := hpσ_4.2.2
    clear hpσ_4
    replace hI := q_Irw ahpσ_4 hI
    replace hF := q_letX hF chpσ_4
    refine lv_iload_n hx hb dX12_fallsTo_31 rfl (lv_at hl 3 rfl) ?_
    refine lv_aload_n hx hb dX12_fallsTo_32 rfl (lv_at hl 1 rfl) ?_
    refine gs_X12_35_12 E hI ha dX12_fallsTo_33 ?_
    refine lv_iconst (v := 2) hx hb dX12_fallsTo_36 zki_2 ?_
    refine q_iald E hI (q_tk (k' := 34) hI ha rfl (Nat.succ_ne_zero _)) ⟨by decide, rfl⟩ (by decide) (by rw [q_lnk (v := 4650) hI (q_tk (k' := 34) hI ha rfl (Nat.succ_ne_zero _)) rfl (by decide)]; decide) dX12_fallsTo_37 ?_
    refine lv_topi (fun f_5 ef_5 => ?_)
    replace hF := q_letX hF ef_5
    have if_5 : f_5.toInt = m_c X σ a 2 := m_rd ef_5 (by decide)
    have mb := m_mulI (a := v2.toInt) (A := 60) (b := (m_c X σ a 2)) (B := 6) (by first | (clear h0 h1 hh if_1 j25 ahpσ_4 bhpσ_4 chpσ_4 if_5; omega) | omega) (by first | (clear h0 h1 hh if_1 j25 ahpσ_4 bhpσ_4 chpσ_4 if_5; omega) | omega) (by first | (clear h0 h1 if_1 j25 ahpσ_4 bhpσ_4 chpσ_4; omega) | omega) (by first | (clear h0 h1 if_1 j25 ahpσ_4 bhpσ_4 chpσ_4; omega) | omega)
    refine lv_imul hx hb dX12_fallsTo_38 ?_
    refine lv_topi (fun z_6 ez_6 => ?_)
    replace hF := q_letX hF ez_6
    have iz_6 := q_mulI (A := v2.toInt) (B := (m_c X σ a 2)) ez_6 rfl if_5 (by first | (clear h0 h1 hh if_1 j25 ahpσ_4 bhpσ_4 chpσ_4 if_5; omega) | omega) (by first | (clear h0 h1 hh if_1 j25 ahpσ_4 bhpσ_4 chpσ_4 if_5; omega) | omega)
    refine lv_iadd hx hb dX12_fallsTo_39 ?_
    refine lv_topi (fun z_7 ez_7 => ?_)
    replace hF := q_letX hF ez_7
    have iz_7 := q_addI (A := r_3.toInt) (B := (v2.toInt * (m_c X σ a 2))) ez_7 rfl iz_6 (by first | (clear h0 h1 hh if_1 j25 ahpσ_4 chpσ_4 if_5; omega) | omega) (by first | (clear h0 h1 if_1 j25 ahpσ_4 chpσ_4; omega) | omega)
    refine lv_aload_n hx hb dX12_fallsTo_40 rfl (lv_at hl 1 rfl) ?_
    refine gs_X12_35_12 E hI ha dX12_fallsTo_41 ?_
    refine lv_iconst (v := 0) hx hb dX12_fallsTo_44 zki_0 ?_
    refine q_iald E hI (q_tk (k' := 34) hI ha rfl (Nat.succ_ne_zero _)) ⟨by decide, rfl⟩ (by decide) (by rw [q_lnk (v := 4650) hI (q_tk (k' := 34) hI ha rfl (Nat.succ_ne_zero _)) rfl (by decide)]; decide) dX12_fallsTo_45 ?_
    refine lv_topi (fun f_8 ef_8 => ?_)
    replace hF := q_letX hF ef_8
    have if_8 : f_8.toInt = m_c X σ a 0 := m_rd ef_8 (by decide)
    refine lv_irem hx hb dX12_fallsTo_46 (q_ne0 (by first | (clear h0 h1 if_1 j25 ahpσ_4 bhpσ_4 chpσ_4 if_5 mb iz_6 iz_7; omega) | omega)) ?_
    refine lv_topi (fun z_9 ez_9 => ?_)
    replace hF := q_letX hF (ez_9.trans (q_remI _ _))
    have rmz_9 := m_rem ez_9 (by first | (clear h0 h1 hh if_1 j25 ahpσ_4 chpσ_4 if_5 if_8; omega) | omega) (by first | (clear h0 h1 if_1 j25 ahpσ_4 bhpσ_4 chpσ_4 if_5 mb iz_6 iz_7; omega) | omega)
    refine lv_istore (lv' := [(4, .int z_9), (3, .int x_2), (0, .ref a), (1, .int v1), (2, .int v2)]) hx hb dX12_fallsTo_47 hl (by decide) rfl (fun ls hl => ?_)
    refine lv_aload_n hx hb dX12_fallsTo_49 rfl (lv_at hl 2 rfl) ?_
    refine gs_X12_35_12 E hI ha dX12_fallsTo_50 ?_
    refine lv_iconst (v := 3) hx hb dX12_fallsTo_53 zki_3 ?_
    refine q_iald E hI (q_tk (k' := 34) hI ha rfl (Nat.succ_ne_zero _)) ⟨by decide, rfl⟩ (by decide) (by rw [q_lnk (v := 4650) hI (q_tk (k' := 34) hI ha rfl (Nat.succ_ne_zero _)) rfl (by decide)]; decide) dX12_fallsTo_54 ?_
    refine lv_topi (fun f_10 ef_10 => ?_)
    replace hF := q_letX hF ef_10
    have if_10 : f_10.toInt = m_c X σ a 3 := m_rd ef_10 (by decide)
    refine q_if_ne (A := f_10.toInt) E rfl (tgt := 72) dX12_fallsTo_55 (by decide) (fun c_11 => ?_) (fun c_11 => ?_)
    · skip
      replace hF := q_ifn hF c_11
      refine lv_aload_n hx hb dX12_fallsTo_72 rfl (lv_at hl 2 rfl) ?_
      refine gs_X12_35_12 E hI ha dX12_fallsTo_73 ?_
      refine lv_iconst (v := 3) hx hb dX12_fallsTo_76 zki_3 ?_
      refine q_iald E hI (q_tk (k' := 34) hI ha rfl (Nat.succ_ne_zero _)) ⟨by decide, rfl⟩ (by decide) (by rw [q_lnk (v := 4650) hI (q_tk (k' := 34) hI ha rfl (Nat.succ_ne_zero _)) rfl (by decide)]; decide) dX12_fallsTo_77 ?_
      refine lv_topi (fun f_12 ef_12 => ?_)
      replace hF := q_letX hF ef_12
      have if_12 : f_12.toInt = m_c X σ a 3 := m_rd ef_12 (by decide)
      refine lv_iconst (v := 1) hx hb dX12_fallsTo_78 zki_1 ?_
      refine q_icmp_ne (A := f_12.toInt) (B := 1) E rfl (by decide) (tgt := 103) dX12_fallsTo_79 (by decide) (fun c_13 => ?_) (fun c_13 => ?_)
      · skip
        replace hF := q_ifn hF c_13
        refine lv_iload_n hx hb dX12_fallsTo_103 rfl (lv_at hl 1 rfl) ?_
        exact q_reti E hr hlk hI ⟨rfl, (by omega), (hF.trans hout)⟩ dX12_fallsTo_104
      · skip
        replace hF := q_ifp hF c_13
        refine lv_iload_n hx hb dX12_fallsTo_82 rfl (lv_at hl 1 rfl) ?_
        refine lv_aload_n hx hb dX12_fallsTo_83 rfl (lv_at hl 2 rfl) ?_
        refine gs_X12_35_12 E hI ha dX12_fallsTo_84 ?_
        refine lv_iconst (v := 0) hx hb dX12_fallsTo_87 zki_0 ?_
        refine q_iald E hI (q_tk (k' := 34) hI ha rfl (Nat.succ_ne_zero _)) ⟨by decide, rfl⟩ (by decide) (by rw [q_lnk (v := 4650) hI (q_tk (k' := 34) hI ha rfl (Nat.succ_ne_zero _)) rfl (by decide)]; decide) dX12_fallsTo_88 ?_
        refine lv_topi (fun f_14 ef_14 => ?_)
        replace hF := q_letX hF ef_14
        have if_14 : f_14.toInt = m_c X σ a 0 := m_rd ef_14 (by decide)
        refine lv_iadd hx hb dX12_fallsTo_89 ?_
        refine lv_topi (fun z_15 ez_15 => ?_)
        replace hF := q_letX hF ez_15
        have iz_15 := q_addI (A := x_2.toInt) (B := (m_c X σ a 0)) ez_15 rfl if_14 (by first | (clear h0 h1 if_1 ahpσ_4 bhpσ_4 chpσ_4 if_5 mb iz_6 iz_7 rmz_9 if_10 c_11 if_12 c_13; omega) | omega) (by first | (clear h0 h1 if_1 ahpσ_4 bhpσ_4 chpσ_4 if_5 mb iz_6 iz_7 rmz_9 if_10 c_11 if_12 c_13; omega) | omega)
        refine lv_iload hx hb dX12_fallsTo_90 (lv_at hl 0 rfl) ?_
        refine lv_isub hx hb dX12_fallsTo_92 ?_
        refine lv_topi (fun z_16 ez_16 => ?_)
        replace hF := q_letX hF ez_16
        have iz_16 := q_subI (A := (x_2.toInt + (m_c X σ a 0))) (B := z_9.toInt) ez_16 iz_15 rfl (by first | (clear h0 h1 hh if_1 ahpσ_4 bhpσ_4 chpσ_4 if_5 mb iz_6 iz_7 if_10 c_11 if_12 c_13; omega) | omega) (by first | (clear h0 h1 if_1 ahpσ_4 bhpσ_4 chpσ_4 if_5 mb iz_6 iz_7 if_10 c_11 if_12 c_13; omega) | omega)
        refine lv_aload_n hx hb dX12_fallsTo_93 rfl (lv_at hl 2 rfl) ?_
        refine gs_X12_35_12 E hI ha dX12_fallsTo_94 ?_
        refine lv_iconst (v := 0) hx hb dX12_fallsTo_97 zki_0 ?_
        refine q_iald E hI (q_tk (k' := 34) hI ha rfl (Nat.succ_ne_zero _)) ⟨by decide, rfl⟩ (by decide) (by rw [q_lnk (v := 4650) hI (q_tk (k' := 34) hI ha rfl (Nat.succ_ne_zero _)) rfl (by decide)]; decide) dX12_fallsTo_98 ?_
        refine lv_topi (fun f_17 ef_17 => ?_)
        replace hF := q_letX hF ef_17
        have if_17 : f_17.toInt = m_c X σ a 0 := m_rd ef_17 (by decide)
        refine lv_irem hx hb dX12_fallsTo_99 (q_ne0 (by first | (clear h0 h1 if_1 j25 ahpσ_4 bhpσ_4 chpσ_4 if_5 mb iz_6 iz_7 rmz_9 if_10 c_11 if_12 c_13 iz_15 iz_16; omega) | omega)) ?_
        refine lv_topi (fun z_18 ez_18 => ?_)
        replace hF := q_letX hF (ez_18.trans (q_remI _ _))
        have rmz_18 := m_rem ez_18 (by first | (clear h0 h1 hh if_1 ahpσ_4 bhpσ_4 chpσ_4 if_5 mb iz_6 iz_7 if_10 c_11 if_12 c_13; omega) | omega) (by first | (clear h0 h1 if_1 j25 ahpσ_4 bhpσ_4 chpσ_4 if_5 mb iz_6 iz_7 rmz_9 if_10 c_11 if_12 c_13 iz_15 iz_16; omega) | omega)
        refine lv_goto (tgt := 104) hx hb dX12_fallsTo_100 (by decide) ?_
        exact q_reti E hr hlk hI ⟨rfl, (by first | (clear h0 h1 hh if_1 j25 ahpσ_4 bhpσ_4 chpσ_4 if_5 mb iz_6 iz_7 rmz_9 if_10 c_11 if_12 c_13 iz_15 iz_16; omega) | omega), (hF.trans hout)⟩ dX12_fallsTo_104
    · skip
      replace hF := q_ifp hF c_11
      refine lv_iload_n hx hb dX12_fallsTo_58 rfl (lv_at hl 1 rfl) ?_
      refine lv_iload hx hb dX12_fallsTo_59 (lv_at hl 0 rfl) ?_
      refine lv_iadd hx hb dX12_fallsTo_61 ?_
      refine lv_topi (fun z_19 ez_19 => ?_)
      replace hF := q_letX hF ez_19
      have iz_19 := q_addI (A := x_2.toInt) (B := z_9.toInt) ez_19 rfl rfl (by first | (clear h0 h1 hh if_1 ahpσ_4 bhpσ_4 chpσ_4 if_5 mb iz_6 iz_7 if_8 if_10 c_11; omega) | omega) (by first | (clear h0 h1 if_1 ahpσ_4 bhpσ_4 chpσ_4 if_5 mb iz_6 iz_7 if_10 c_11; omega) | omega)
      refine lv_aload_n hx hb dX12_fallsTo_62 rfl (lv_at hl 2 rfl) ?_
      refine gs_X12_35_12 E hI ha dX12_fallsTo_63 ?_
      refine lv_iconst (v := 0) hx hb dX12_fallsTo_66 zki_0 ?_
      refine q_iald E hI (q_tk (k' := 34) hI ha rfl (Nat.succ_ne_zero _)) ⟨by decide, rfl⟩ (by decide) (by rw [q_lnk (v := 4650) hI (q_tk (k' := 34) hI ha rfl (Nat.succ_ne_zero _)) rfl (by decide)]; decide) dX12_fallsTo_67 ?_
      refine lv_topi (fun f_20 ef_20 => ?_)
      replace hF := q_letX hF ef_20
      have if_20 : f_20.toInt = m_c X σ a 0 := m_rd ef_20 (by decide)
      refine lv_irem hx hb dX12_fallsTo_68 (q_ne0 (by first | (clear h0 h1 if_1 j25 ahpσ_4 bhpσ_4 chpσ_4 if_5 mb iz_6 iz_7 rmz_9 if_10 c_11 iz_19; omega) | omega)) ?_
      refine lv_topi (fun z_21 ez_21 => ?_)
      replace hF := q_letX hF (ez_21.trans (q_remI _ _))
      have rmz_21 := m_rem ez_21 (by first | (clear h0 h1 hh if_1 ahpσ_4 bhpσ_4 chpσ_4 if_5 mb iz_6 iz_7 if_8 if_10 c_11 if_20; omega) | omega) (by first | (clear h0 h1 if_1 j25 ahpσ_4 bhpσ_4 chpσ_4 if_5 mb iz_6 iz_7 rmz_9 if_10 c_11 iz_19; omega) | omega)
      refine lv_goto (tgt := 104) hx hb dX12_fallsTo_69 (by decide) ?_
      exact q_reti E hr hlk hI ⟨rfl, (by first | (clear h0 h1 hh if_1 j25 ahpσ_4 bhpσ_4 chpσ_4 if_5 mb iz_6 iz_7 rmz_9 if_10 c_11 iz_19; omega) | omega), (hF.trans hout)⟩ dX12_fallsTo_104
  refine q_icmp_ne (A := f_1.toInt) (B := 1) E rfl (by decide) (tgt := 19) dX12_fallsTo_8 (by decide) (fun c_22 => ?_) (fun c_22 => ?_)
  · skip
    replace hF := q_ifn hF c_22
    refine lv_aload_n hx hb dX12_fallsTo_19 rfl (lv_at hl 0 rfl) ?_
    refine gs_X12_35_12 E hI ha dX12_fallsTo_20 ?_
    refine lv_iconst (v := 5) hx hb dX12_fallsTo_23 zki_5 ?_
    refine q_iald E hI (q_tk (k' := 34) hI ha rfl (Nat.succ_ne_zero _)) ⟨by decide, rfl⟩ (by decide) (by rw [q_lnk (v := 4650) hI (q_tk (k' := 34) hI ha rfl (Nat.succ_ne_zero _)) rfl (by decide)]; decide) dX12_fallsTo_24 ?_
    refine lv_topi (fun f_23 ef_23 => ?_)
    replace hF := q_letX hF ef_23
    have if_23 : f_23.toInt = m_c X σ a 5 := m_rd ef_23 (by decide)
    exact J_25_2 f_23 _ _ ls (by first | (clear h0 h1 if_1 c_22; omega) | omega) hF hI (lv_sub hl [0, 1, 2] rfl)
  · skip
    replace hF := q_ifp hF c_22
    refine lv_aload_n hx hb dX12_fallsTo_11 rfl (lv_at hl 0 rfl) ?_
    refine lv_iconst (v := 1) hx hb dX12_fallsTo_12 zki_1 ?_
    have kc_24 : (1 : Int32).toInt = 1 := zt_1
    refine q_ci (q_rV11_1 (rest := []) E (hml.trans hl.1.symm) hI (c_X12_nextKind l X σ a (1 : Int32) ha hG) kv_X12_315 ha ⟨Nat.le_of_ble_eq_true rfl, Nat.le_of_ble_eq_true rfl⟩ (Nat.le_of_ble_eq_true rfl) dX12_fallsTo_13) hI (Nat.le_of_ble_eq_true rfl) (fun r_25 σ_26 H locs hpσ_26 hkσ_26 hI => ?_)
    have ahpσ_26 := hpσ_26.1
    have bhpσ_26 := hpσ_26.2.1
    have chpσ_26 := hpσ_26.2.2
    clear hpσ_26
    replace hI := q_Irw ahpσ_26 hI
    replace hF := q_letX hF chpσ_26
    refine lv_goto (tgt := 25) hx hb dX12_fallsTo_16 (by decide) ?_
    exact J_25_2 r_25 _ _ ls (by omega) hF hI (lv_sub hl [0, 1, 2] rfl)
end
