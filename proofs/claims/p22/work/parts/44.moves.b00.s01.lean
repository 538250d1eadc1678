section
set_option maxRecDepth 100000 in
set_option maxHeartbeats 4000000 in
theorem c_X12_takes (l : Launch) (X : XW) (σ : ST) (a : Nat) (v1 : Int32) (ha : q_kd X a = 12) (hG : m_G (m_c X σ a)) (h0 : 0 ≤ v1.toInt ∧ v1.toInt ≤ 5) (h7 : m_c X σ a 7 = 0) : Met l yX12_takes (q_ws yX12_takes cX12_takes 5 none) (q_rm 1 20) (q_P X σ [.ref a, .int v1]) (q_Qv X 1 σ (fun (σ' : ST) => (m_G (m_c X σ' a)) ∧ (∀ j, 0 ≤ j → (j < 9 ∨ (10 ≤ j ∧ j < 34) ∨ 654 ≤ j) → m_c X σ' a j = m_c X σ a j) ∧ (m_KD 40 X σ σ') ∧ σ' = F_X12_takes X σ a v1 ∧ q_ow [(34, 99)] [] X σ σ')) 0 0 (q_reg X) := by
  refine q_met 1 (by first | exact rfl | decide +kernel) rfl (Nat.le_of_ble_eq_true rfl) (fun p e s m below meth c E hml hr hlk hI ls hl => ?_)
  have hx := E.1
  have hb := E.2.1
  have hl : lv_has ls 5 [(0, .ref a), (1, .int v1)] := hl
  have kdσ : m_KD 40 X σ σ := m_KD.rf
  have fr_σ : q_ow [(34, 99)] [] X σ σ := q_ow.rf
  have hh := hG.hd
  obtain ⟨out, hout⟩ : ∃ o, o = F_X12_takes X σ a v1 := ⟨_, rfl⟩
  have hF := hout.symm
  unfold F_X12_takes at hF
  refine lv_iconst (v := 0) hx hb dX12_takes_0 zki_0 ?_
  refine lv_istore_n (lv' := [(2, .int 0), (0, .ref a), (1, .int v1)]) hx hb dX12_takes_1 rfl hl (by decide) rfl (fun ls hl => ?_)
  have L_2_3 : ∀ (k_3 : Nat) (x_1 : Int32) (σ_2 : ST) (H : Heap) (locs : List Loc) (ls : Array Slot), (2147483647 - x_1.toInt).toNat < k_3 → (0 ≤ x_1.toInt ∧ x_1.toInt ≤ m_c X σ a 9) → (m_tk (m_c X σ a) (m_c X σ_2 a) v1.toInt x_1.toInt 0) → (q_ow [(34, 99)] [] X σ σ_2) → (m_KD 40 X σ σ_2) → (F_X12_takes_L2_1 X a v1 k_3 x_1 σ_2 = out) → q_I X 1 σ s.heap locs σ_2 H → lv_has ls 5 [(0, .ref a), (1, .int v1), (2, .int x_1)] → W p l e (q_rm 1 20) s m ([.ref a, .int v1] : List Value).toArray below meth c H locs 0 0 (MQ below (q_Qv X 1 σ (fun (σ' : ST) => (m_G (m_c X σ' a)) ∧ (∀ j, 0 ≤ j → (j < 9 ∨ (10 ≤ j ∧ j < 34) ∨ 654 ≤ j) → m_c X σ' a j = m_c X σ a j) ∧ (m_KD 40 X σ σ') ∧ σ' = F_X12_takes X σ a v1 ∧ q_ow [(34, 99)] [] X σ σ')) ([.ref a, .int v1] : List Value).toArray s 0 0 (q_reg X)) (F0 m 2 ls []) := by
    clear hF
    intro k_3
    induction k_3 with
    | zero =>
      intro x_1 σ_2 H locs ls hms
      try clear kdσ; try clear fr_σ
      exact absurd hms (Nat.not_lt_zero _)
    | succ k_3 ih2 =>
      intro x_1 σ_2 H locs ls hm2 hge2 tkσ_2 fr_σ_2 kdσ_2 hF hI hl
      replace hF := (F_X12_takes_L2_1_s).symm.trans hF
      unfold F_X12_takes_B2_1 at hF
      have e9 := tkσ_2.1 9 (by decide) (by first | (clear h0 h7 hh hm2 hge2 kdσ_2; omega) | omega)
      refine lv_iload_n hx hb dX12_takes_2 rfl (lv_at hl 2 rfl) ?_
      refine lv_aload_n hx hb dX12_takes_3 rfl (lv_at hl 0 rfl) ?_
      refine gs_X12_35_12 E hI ha dX12_takes_4 ?_
      refine lv_bipush (v := 9) hx hb dX12_takes_7 zkb_9 ?_
      refine q_iald E hI (q_tk (k' := 34) hI ha rfl (Nat.succ_ne_zero _)) ⟨by decide, rfl⟩ (by decide) (by rw [q_lnk (v := 4650) hI (q_tk (k' := 34) hI ha rfl (Nat.succ_ne_zero _)) rfl (by decide)]; decide) dX12_takes_9 ?_
      refine lv_topi (fun f_4 ef_4 => ?_)
      replace hF := q_letX hF ef_4
      have if_4 : f_4.toInt = m_c X σ_2 a 9 := m_rd ef_4 (by decide)
      have gc_5_x_1 := q_rng x_1
      have gc_5_f_4 := q_rng f_4
      refine q_icmp_ge (A := x_1.toInt) (B := f_4.toInt) E rfl rfl (tgt := 74) dX12_takes_10 (by decide) (fun c_5 => ?_) (fun c_5 => ?_)
      · skip
        replace hF := q_ifn hF (Int.not_lt.mpr c_5)
        unfold F_X12_takes_E74_2 at hF
        refine lv_aload_n hx hb dX12_takes_74 rfl (lv_at hl 0 rfl) ?_
        refine gs_X12_35_12 E hI ha dX12_takes_75 ?_
        refine lv_bipush (v := 9) hx hb dX12_takes_78 zkb_9 ?_
        refine lv_iconst (v := 0) hx hb dX12_takes_80 zki_0 ?_
        have kc_7 : (0 : Int32).toInt = 0 := zt_0
        refine q_iastN E hI (q_tk (k' := 34) hI ha rfl (Nat.succ_ne_zero _)) ⟨by decide, rfl⟩ (by decide) (by rw [q_lnk (v := 4650) hI (q_tk (k' := 34) hI ha rfl (Nat.succ_ne_zero _)) rfl (by decide)]; decide) (show 1 < 2 by decide) (q_inU rfl) dX12_takes_81 (fun H locs σ_6 hσ_6 hI => ?_)
        replace hF := q_letX hF hσ_6
        have fr_σ_6 := fr_σ_2.si hσ_6 (q_tk (k' := 34) hI ha rfl (Nat.succ_ne_zero _)) rfl
        have mcσ_6 := m_wr (v := (0 : Int32)) (A := 9) hσ_6 (by decide) (by decide)
        have kdσ_6 : m_KD 40 X σ σ_6 := kdσ_2.ar hσ_6 (q_tk (k' := 34) hI ha rfl (Nat.succ_ne_zero _)) (by decide) (by decide)
        have tdσ_6 := (show m_tk (m_c X σ a) (m_c X σ_2 a) v1.toInt (m_c X σ a 9) 0 from (by have q : x_1.toInt = m_c X σ a 9 := (by first | (clear h0 h7 hh hm2 kdσ_2 gc_5_x_1 gc_5_f_4 kc_7 kdσ_6; omega) | omega); rw [← q]; exact tkσ_2)).done hG (by first | (clear h0 h7 hh hm2 hge2 kdσ_2 if_4 gc_5_x_1 gc_5_f_4 c_5 kc_7 kdσ_6; omega) | omega) h7 mcσ_6 rfl
        exact q_retv E hr hlk hI ⟨tdσ_6.1, tdσ_6.2.1, kdσ_6, (hF.trans hout), fr_σ_6⟩ dX12_takes_82
      · skip
        replace hF := q_ifp hF c_5
        have hy := hG.2.2.1 x_1.toInt (by first | (clear h0 h7 hh hm2 kdσ_2 if_4 gc_5_f_4 c_5; omega) | omega) (by first | (clear h0 h7 hh hm2 hge2 kdσ_2 gc_5_x_1 gc_5_f_4; omega) | omega)
        have hy1 := hy.1
        refine lv_iload_n hx hb dX12_takes_13 rfl (lv_at hl 2 rfl) ?_
        refine q_ci (q_runS (As := [.int x_1]) (rest := []) E (hml.trans hl.1.symm) hI (c_X12_laid l X σ_2 x_1 (by first | (clear h0 h7 hm2 kdσ_2 gc_5_f_4 hy hy1; omega) | omega)) ks_X12_279 rfl ⟨Nat.le_of_ble_eq_true rfl, Nat.le_of_ble_eq_true rfl⟩ ⟨Nat.le_refl _, Nat.le_refl _⟩ rfl (Nat.le_of_ble_eq_true rfl) dX12_takes_14) hI (Nat.le_of_ble_eq_true rfl) (fun r_8 σ_9 H locs hpσ_9 hkσ_9 hI => ?_)
        have ahpσ_9 := hpσ_9.1
        have bhpσ_9 := hpσ_9.2.1
        have chpσ_9 := hpσ_9.2.2
        clear hpσ_9
        replace hI := q_Irw ahpσ_9 hI
        replace hF := q_letX hF chpσ_9
        have ir_8 : r_8.toInt = (94 + 7 * x_1.toInt) := (by omega)
        refine lv_istore_n (lv' := [(3, .int r_8), (0, .ref a), (1, .int v1), (2, .int x_1)]) hx hb dX12_takes_17 rfl hl (by decide) rfl (fun ls hl => ?_)
        refine lv_iconst (v := 0) hx hb dX12_takes_18 zki_0 ?_
        refine lv_istore (lv' := [(4, .int 0), (3, .int r_8), (0, .ref a), (1, .int v1), (2, .int x_1)]) hx hb dX12_takes_19 hl (by decide) rfl (fun ls hl => ?_)
        have L_21_12 : ∀ (k_12 : Nat) (x_10 : Int32) (σ_11 : ST) (H : Heap) (locs : List Loc) (ls : Array Slot), (2147483647 - x_10.toInt).toNat < k_12 → (0 ≤ x_10.toInt ∧ x_10.toInt ≤ m_c X σ a (94 + 7 * x_1.toInt + 2)) → (m_tk (m_c X σ a) (m_c X σ_11 a) v1.toInt x_1.toInt x_10.toInt) → (q_ow [(34, 99)] [] X σ σ_11) → (m_KD 40 X σ σ_11) → (F_X12_takes_L21_3 X r_8 a v1 x_1 (F_X12_takes_L2_1 X a v1 k_3) k_12 x_10 σ_11 = out) → q_I X 1 σ s.heap locs σ_11 H → lv_has ls 5 [(0, .ref a), (1, .int v1), (2, .int x_1), (3, .int r_8), (4, .int x_10)] → W p l e (q_rm 1 20) s m ([.ref a, .int v1] : List Value).toArray below meth c H locs 0 0 (MQ below (q_Qv X 1 σ (fun (σ' : ST) => (m_G (m_c X σ' a)) ∧ (∀ j, 0 ≤ j → (j < 9 ∨ (10 ≤ j ∧ j < 34) ∨ 654 ≤ j) → m_c X σ' a j = m_c X σ a j) ∧ (m_KD 40 X σ σ') ∧ σ' = F_X12_takes X σ a v1 ∧ q_ow [(34, 99)] [] X σ σ')) ([.ref a, .int v1] : List Value).toArray s 0 0 (q_reg X)) (F0 m 21 ls []) := by
          clear hF
          intro k_12
          induction k_12 with
          | zero =>
            intro x_10 σ_11 H locs ls hms
            try clear ahpσ_9
            exact absurd hms (Nat.not_lt_zero _)
          | succ k_12 ih21 =>
            intro x_10 σ_11 H locs ls hm21 hge21 tkσ_11 fr_σ_11 kdσ_11 hF hI hl
            replace hF := (F_X12_takes_L21_3_s).symm.trans hF
            unfold F_X12_takes_B21_3 at hF
            have em := tkσ_11.1 (94 + 7 * x_1.toInt + 2) (by first | (clear h0 h7 hh hm2 kdσ_2 if_4 gc_5_f_4 c_5 hy hy1 bhpσ_9 chpσ_9 ir_8 hm21 hge21 kdσ_11; omega) | omega) (by first | (clear h0 h7 hh hm2 kdσ_2 if_4 gc_5_f_4 c_5 hy hy1 bhpσ_9 chpσ_9 ir_8 hm21 hge21 kdσ_11; omega) | omega)
            refine lv_iload hx hb dX12_takes_21 (lv_at hl 4 rfl) ?_
            refine lv_aload_n hx hb dX12_takes_23 rfl (lv_at hl 0 rfl) ?_
            refine gs_X12_35_12 E hI ha dX12_takes_24 ?_
            refine lv_iload_n hx hb dX12_takes_27 rfl (lv_at hl 3 rfl) ?_
            refine lv_iconst (v := 2) hx hb dX12_takes_28 zki_2 ?_
            refine lv_iadd hx hb dX12_takes_29 ?_
            refine lv_topi (fun z_13 ez_13 => ?_)
            replace hF := q_letX hF ez_13
            have iz_13 := q_addI (A := (94 + 7 * x_1.toInt)) (B := 2) ez_13 ir_8 (by decide) (by first | (clear h0 h7 hh hm2 kdσ_2 if_4 gc_5_f_4 c_5 hy hy1 bhpσ_9 chpσ_9 ir_8 hm21 hge21 kdσ_11 em; omega) | omega) (by first | (clear h0 h7 hm2 kdσ_2 gc_5_f_4 hy hy1 bhpσ_9 chpσ_9 ir_8 hm21 hge21 kdσ_11 em; omega) | omega)
            refine q_iald E hI (q_tk (k' := 34) hI ha rfl (Nat.succ_ne_zero _)) ⟨by decide, rfl⟩ (by first | (clear h0 h7 hh hm2 kdσ_2 if_4 gc_5_f_4 c_5 hy hy1 bhpσ_9 chpσ_9 ir_8 hm21 hge21 kdσ_11 em; omega) | omega) (by rw [q_lnk (v := 4650) hI (q_tk (k' := 34) hI ha rfl (Nat.succ_ne_zero _)) rfl (by decide)]; omega) dX12_takes_30 ?_
            refine lv_topi (fun f_14 ef_14 => ?_)
            replace hF := q_letX hF ef_14
            have if_14 : f_14.toInt = m_c X σ_11 a ((94 + 7 * x_1.toInt) + 2) := m_rd ef_14 iz_13
            have gc_15_x_10 := q_rng x_10
            have gc_15_f_14 := q_rng f_14
            refine q_icmp_ge (A := x_10.toInt) (B := f_14.toInt) E rfl rfl (tgt := 68) dX12_takes_31 (by decide) (fun c_15 => ?_) (fun c_15 => ?_)
            · skip
              replace hF := q_ifn hF (Int.not_lt.mpr c_15)
              unfold F_X12_takes_E68_4 at hF
              obtain ⟨z_16, ez_16⟩ : ∃ y : Int32, y = x_1 + 1 := ⟨_, rfl⟩
              replace hF := q_letX hF ez_16
              refine lv_iinc (v := z_16) (lv' := [(2, .int z_16), (0, .ref a), (1, .int v1), (3, .int r_8), (4, .int x_10)]) hx hb dX12_takes_68 hl (k := 2) rfl (by rw [ez_16]; rfl) (by decide) rfl (fun ls hl => ?_)
              have iz_16 : z_16.toInt = x_1.toInt + 1 := q_inc ez_16 (by first | (clear h0 h7 hm2 kdσ_2 gc_5_f_4 hy hy1 bhpσ_9 chpσ_9 ir_8 hm21 hge21 kdσ_11 em iz_13 if_14 gc_15_x_10 gc_15_f_14 c_15; omega) | omega)
              refine lv_goto (tgt := 2) hx hb dX12_takes_71 (by decide) ?_
              exact ih2 z_16 σ_11 _ _ ls (by first | (clear h0 h7 kdσ_2 gc_5_f_4 hy1 bhpσ_9 chpσ_9 ir_8 hm21 kdσ_11 iz_13 gc_15_x_10 gc_15_f_14; omega) | omega) (by first | (clear h0 h7 hh hm2 kdσ_2 gc_5_f_4 hy hy1 bhpσ_9 chpσ_9 ir_8 hm21 hge21 kdσ_11 em iz_13 if_14 gc_15_x_10 gc_15_f_14 c_15; omega) | omega) (by rw [iz_16]; exact tkσ_11.lay (by first | (clear h0 h7 hh hm2 kdσ_2 if_4 gc_5_f_4 c_5 hy hy1 bhpσ_9 chpσ_9 ir_8 hm21 hge21 kdσ_11 em iz_13 if_14 gc_15_x_10 gc_15_f_14 c_15; omega) | omega) (by first | (clear h0 h7 hh hm2 hge2 kdσ_2 if_4 gc_5_x_1 gc_5_f_4 c_5 hy hy1 bhpσ_9 chpσ_9 ir_8 hm21 kdσ_11 iz_13 gc_15_x_10 gc_15_f_14 iz_16; omega) | omega)) fr_σ_11 kdσ_11 hF hI (lv_sub hl [1, 2, 0] rfl)
            · skip
              replace hF := q_ifp hF c_15
              refine lv_aload_n hx hb dX12_takes_34 rfl (lv_at hl 0 rfl) ?_
              refine gs_X12_35_12 E hI ha dX12_takes_35 ?_
              refine lv_bipush (v := 34) hx hb dX12_takes_38 zkb_34 ?_
              refine lv_bipush (v := 10) hx hb dX12_takes_40 zkb_10 ?_
              refine lv_iload_n hx hb dX12_takes_42 rfl (lv_at hl 1 rfl) ?_
              refine lv_imul hx hb dX12_takes_43 ?_
              refine lv_topi (fun z_17 ez_17 => ?_)
              replace hF := q_letX hF ez_17
              have iz_17 := q_mulI (A := 10) (B := v1.toInt) ez_17 (by decide) rfl (by first | (clear h0 h7 hh hm2 hge2 kdσ_2 if_4 gc_5_x_1 gc_5_f_4 c_5 hy hy1 bhpσ_9 chpσ_9 ir_8 hm21 hge21 kdσ_11 em iz_13 if_14 gc_15_x_10 gc_15_f_14 c_15; omega) | omega) (by first | (clear h0 h7 hh hm2 hge2 kdσ_2 if_4 gc_5_x_1 gc_5_f_4 c_5 hy hy1 bhpσ_9 chpσ_9 ir_8 hm21 hge21 kdσ_11 em iz_13 if_14 gc_15_x_10 gc_15_f_14 c_15; omega) | omega)
              refine lv_iadd hx hb dX12_takes_44 ?_
              refine lv_topi (fun z_18 ez_18 => ?_)
              replace hF := q_letX hF ez_18
              have iz_18 := q_addI (A := 34) (B := (10 * v1.toInt)) ez_18 (by decide) iz_17 (by first | (clear h0 h7 hh hm2 hge2 kdσ_2 if_4 gc_5_x_1 gc_5_f_4 c_5 hy hy1 bhpσ_9 chpσ_9 ir_8 hm21 hge21 kdσ_11 em iz_13 if_14 gc_15_x_10 gc_15_f_14 c_15 iz_17; omega) | omega) (by first | (clear h0 h7 hh hm2 hge2 kdσ_2 if_4 gc_5_x_1 gc_5_f_4 c_5 hy hy1 bhpσ_9 chpσ_9 ir_8 hm21 hge21 kdσ_11 em iz_13 if_14 gc_15_x_10 gc_15_f_14 c_15 iz_17; omega) | omega)
              refine lv_aload_n hx hb dX12_takes_45 rfl (lv_at hl 0 rfl) ?_
              refine gs_X12_35_12 E hI ha dX12_takes_46 ?_
              refine lv_iload_n hx hb dX12_takes_49 rfl (lv_at hl 3 rfl) ?_
              refine lv_iconst (v := 3) hx hb dX12_takes_50 zki_3 ?_
              refine lv_iadd hx hb dX12_takes_51 ?_
              refine lv_topi (fun z_19 ez_19 => ?_)
              replace hF := q_letX hF ez_19
              have iz_19 := q_addI (A := (94 + 7 * x_1.toInt)) (B := 3) ez_19 ir_8 (by decide) (by first | (clear h0 h7 hh hm2 kdσ_2 if_4 gc_5_f_4 c_5 hy hy1 bhpσ_9 chpσ_9 ir_8 hm21 hge21 kdσ_11 em iz_13 if_14 gc_15_x_10 gc_15_f_14 c_15 iz_17 iz_18; omega) | omega) (by first | (clear h0 h7 hm2 kdσ_2 gc_5_f_4 hy hy1 bhpσ_9 chpσ_9 ir_8 hm21 hge21 kdσ_11 em iz_13 if_14 gc_15_x_10 gc_15_f_14 c_15 iz_17 iz_18; omega) | omega)
              refine lv_iload hx hb dX12_takes_52 (lv_at hl 4 rfl) ?_
              refine lv_iadd hx hb dX12_takes_54 ?_
              refine lv_topi (fun z_20 ez_20 => ?_)
              replace hF := q_letX hF ez_20
              have iz_20 := q_addI (A := ((94 + 7 * x_1.toInt) + 3)) (B := x_10.toInt) ez_20 iz_19 rfl (by first | (clear h0 h7 hh hm2 kdσ_2 if_4 gc_5_f_4 c_5 hy hy1 bhpσ_9 chpσ_9 ir_8 hm21 kdσ_11 em iz_13 if_14 gc_15_f_14 c_15 iz_17 iz_18 iz_19; omega) | omega) (by first | (clear h0 h7 hm2 hge2 kdσ_2 gc_5_x_1 gc_5_f_4 hy1 bhpσ_9 chpσ_9 ir_8 hm21 kdσ_11 iz_13 gc_15_f_14 iz_17 iz_18 iz_19; omega) | omega)
              refine q_iald E hI (q_tk (k' := 34) hI ha rfl (Nat.succ_ne_zero _)) ⟨by decide, rfl⟩ (by first | (clear h0 h7 hh hm2 kdσ_2 if_4 gc_5_f_4 c_5 hy1 bhpσ_9 chpσ_9 ir_8 hm21 kdσ_11 iz_13 gc_15_f_14 iz_17 iz_18 iz_19; omega) | omega) (by rw [q_lnk (v := 4650) hI (q_tk (k' := 34) hI ha rfl (Nat.succ_ne_zero _)) rfl (by decide)]; omega) dX12_takes_55 ?_
              refine lv_topi (fun f_21 ef_21 => ?_)
              replace hF := q_letX hF ef_21
              have if_21 : f_21.toInt = m_c X σ_11 a (((94 + 7 * x_1.toInt) + 3) + x_10.toInt) := m_rd ef_21 iz_20
              have ecf_21 := tkσ_11.1 (94 + 7 * x_1.toInt + 3 + x_10.toInt) (by first | (clear h0 h7 hh hm2 kdσ_2 if_4 gc_5_f_4 c_5 hy1 bhpσ_9 chpσ_9 ir_8 hm21 kdσ_11 iz_13 gc_15_f_14 iz_17 iz_18 iz_19 if_21; omega) | omega) (by first | (clear h0 h7 hh hm2 kdσ_2 if_4 gc_5_f_4 c_5 hy1 bhpσ_9 chpσ_9 ir_8 hm21 kdσ_11 iz_13 gc_15_f_14 iz_17 iz_18 iz_19 if_21; omega) | omega)
              have hcf_21 := hy.2 x_10.toInt (by first | (clear h0 h7 hh hm2 hge2 kdσ_2 if_4 gc_5_x_1 gc_5_f_4 c_5 hy hy1 bhpσ_9 chpσ_9 ir_8 hm21 kdσ_11 em iz_13 if_14 gc_15_f_14 c_15 iz_17 iz_18 iz_19 if_21 ecf_21; omega) | omega) (by first | (clear h0 h7 hh hm2 hge2 kdσ_2 if_4 gc_5_x_1 gc_5_f_4 c_5 hy hy1 bhpσ_9 chpσ_9 ir_8 hm21 hge21 kdσ_11 iz_13 gc_15_x_10 gc_15_f_14 iz_17 iz_18 iz_19 if_21 ecf_21; omega) | omega)
              refine lv_iadd hx hb dX12_takes_56 ?_
              refine lv_topi (fun z_22 ez_22 => ?_)
              replace hF := q_letX hF ez_22
              have iz_22 := q_addI (A := (34 + (10 * v1.toInt))) (B := (m_c X σ_11 a (((94 + 7 * x_1.toInt) + 3) + x_10.toInt))) ez_22 iz_18 if_21 (by first | (clear h0 h7 hh hm2 hge2 kdσ_2 if_4 gc_5_x_1 gc_5_f_4 c_5 hy hy1 bhpσ_9 chpσ_9 ir_8 hm21 hge21 kdσ_11 em iz_13 if_14 gc_15_x_10 gc_15_f_14 c_15 iz_17 iz_18 iz_19 iz_20 if_21; omega) | omega) (by first | (clear h0 h7 hm2 hge2 kdσ_2 if_4 gc_5_x_1 gc_5_f_4 c_5 hy hy1 bhpσ_9 chpσ_9 ir_8 hm21 hge21 kdσ_11 em iz_13 if_14 gc_15_x_10 gc_15_f_14 c_15 iz_17 iz_18 iz_19 iz_20 if_21; omega) | omega)
              refine lv_dup2_11 hx hb dX12_takes_57 rfl rfl ?_
              refine q_iald E hI (q_tk (k' := 34) hI ha rfl (Nat.succ_ne_zero _)) ⟨by decide, rfl⟩ (by first | (clear h0 h7 hh hm2 hge2 kdσ_2 if_4 gc_5_x_1 gc_5_f_4 c_5 hy hy1 bhpσ_9 chpσ_9 ir_8 hm21 hge21 kdσ_11 em iz_13 if_14 gc_15_x_10 gc_15_f_14 c_15 iz_17 iz_18 iz_19 iz_20 if_21; omega) | omega) (by rw [q_lnk (v := 4650) hI (q_tk (k' := 34) hI ha rfl (Nat.succ_ne_zero _)) rfl (by decide)]; omega) dX12_takes_58 ?_
              refine lv_topi (fun f_23 ef_23 => ?_)
              replace hF := q_letX hF ef_23
              have if_23 : f_23.toInt = m_c X σ_11 a ((34 + (10 * v1.toInt)) + (m_c X σ_11 a (((94 + 7 * x_1.toInt) + 3) + x_10.toInt))) := m_rd ef_23 iz_22
              have huf_23 := m_tk.le tkσ_11 hG (by first | (clear h0 h7 hh hm2 hge2 kdσ_2 if_4 gc_5_x_1 gc_5_f_4 c_5 hy hy1 bhpσ_9 chpσ_9 ir_8 hm21 hge21 kdσ_11 em iz_13 if_14 gc_15_x_10 gc_15_f_14 c_15 iz_17 iz_18 iz_19 iz_20 if_21 ecf_21 hcf_21 iz_22 if_23; omega) | omega) (by omega) (by first | (clear h0 h7 hh hm2 hge2 kdσ_2 if_4 gc_5_x_1 gc_5_f_4 c_5 hy1 bhpσ_9 chpσ_9 ir_8 hm21 kdσ_11 iz_13 gc_15_f_14 iz_17 iz_18 iz_19 if_21 ecf_21 hcf_21 iz_22 if_23; omega) | omega) ((34 + (10 * v1.toInt)) + (m_c X σ_11 a (((94 + 7 * x_1.toInt) + 3) + x_10.toInt))) (by first | (clear h0 h7 hh hm2 hge2 kdσ_2 if_4 gc_5_x_1 gc_5_f_4 c_5 hy hy1 bhpσ_9 chpσ_9 ir_8 hm21 hge21 kdσ_11 em iz_13 if_14 gc_15_x_10 gc_15_f_14 c_15 iz_17 iz_18 iz_19 iz_20 if_21 if_23; omega) | omega) (by first | (clear h0 h7 hm2 hge2 kdσ_2 if_4 gc_5_x_1 gc_5_f_4 c_5 hy hy1 bhpσ_9 chpσ_9 ir_8 hm21 hge21 kdσ_11 em iz_13 if_14 gc_15_x_10 gc_15_f_14 c_15 iz_17 iz_18 iz_19 iz_20 if_21 if_23; omega) | omega)
              refine lv_iconst (v := 1) hx hb dX12_takes_59 zki_1 ?_
              refine lv_iadd hx hb dX12_takes_60 ?_
              refine lv_topi (fun z_24 ez_24 => ?_)
              replace hF := q_letX hF ez_24
              have iz_24 := q_addI (A := (m_c X σ_11 a ((34 + (10 * v1.toInt)) + (m_c X σ_11 a (((94 + 7 * x_1.toInt) + 3) + x_10.toInt))))) (B := 1) ez_24 if_23 (by decide) (by first | (clear h0 h7 hh hm2 hge2 kdσ_2 if_4 gc_5_x_1 gc_5_f_4 c_5 hy hy1 bhpσ_9 chpσ_9 ir_8 hm21 hge21 kdσ_11 em iz_13 if_14 gc_15_x_10 gc_15_f_14 c_15 iz_17 iz_18 iz_19 iz_20 if_21 ecf_21 hcf_21 iz_22 if_23; omega) | omega) (by first | (clear h0 h7 hh hm2 hge2 kdσ_2 if_4 gc_5_x_1 gc_5_f_4 c_5 hy hy1 bhpσ_9 chpσ_9 ir_8 hm21 hge21 kdσ_11 em iz_13 if_14 gc_15_x_10 gc_15_f_14 c_15 iz_17 iz_18 iz_19 iz_20 if_21 ecf_21 hcf_21 iz_22 if_23; omega) | omega)
              refine q_iastN E hI (q_tk (k' := 34) hI ha rfl (Nat.succ_ne_zero _)) ⟨by decide, rfl⟩ (by first | (clear h0 h7 hh hm2 hge2 kdσ_2 if_4 gc_5_x_1 gc_5_f_4 c_5 hy hy1 bhpσ_9 chpσ_9 ir_8 hm21 hge21 kdσ_11 em iz_13 if_14 gc_15_x_10 gc_15_f_14 c_15 iz_17 iz_18 iz_19 iz_20 if_21 if_23 huf_23 iz_24; omega) | omega) (by rw [q_lnk (v := 4650) hI (q_tk (k' := 34) hI ha rfl (Nat.succ_ne_zero _)) rfl (by decide)]; omega) (show 1 < 2 by decide) (q_inU rfl) dX12_takes_61 (fun H locs σ_25 hσ_25 hI => ?_)
              replace hF := q_letX hF hσ_25
              have fr_σ_25 := fr_σ_11.si hσ_25 (q_tk (k' := 34) hI ha rfl (Nat.succ_ne_zero _)) rfl
              have mcσ_25 := m_wr (v := z_24) (A := ((34 + (10 * v1.toInt)) + (m_c X σ_11 a (((94 + 7 * x_1.toInt) + 3) + x_10.toInt)))) hσ_25 iz_22 (by first | (clear h0 h7 hh hm2 hge2 kdσ_2 if_4 gc_5_x_1 gc_5_f_4 c_5 hy hy1 bhpσ_9 chpσ_9 ir_8 hm21 hge21 kdσ_11 em iz_13 if_14 gc_15_x_10 gc_15_f_14 c_15 iz_17 iz_18 iz_19 iz_20 if_21 if_23 huf_23 iz_24; omega) | omega)
              have kdσ_25 : m_KD 40 X σ σ_25 := kdσ_11.ar hσ_25 (q_tk (k' := 34) hI ha rfl (Nat.succ_ne_zero _)) (by decide) (by decide)
              have tkσ_25 := tkσ_11.card (by first | (clear h0 h7 hh hm2 hge2 kdσ_2 if_4 gc_5_x_1 gc_5_f_4 c_5 hy hy1 bhpσ_9 chpσ_9 ir_8 hm21 hge21 kdσ_11 em iz_13 if_14 gc_15_x_10 gc_15_f_14 c_15 iz_17 iz_18 iz_19 iz_20 if_21 ecf_21 hcf_21 iz_22 if_23 huf_23 iz_24 kdσ_25; omega) | omega) (by first | (clear h0 h7 hh hm2 hge2 kdσ_2 if_4 gc_5_x_1 gc_5_f_4 c_5 hy hy1 bhpσ_9 chpσ_9 ir_8 hm21 hge21 kdσ_11 em iz_13 if_14 gc_15_x_10 gc_15_f_14 c_15 iz_17 iz_18 iz_19 iz_20 if_21 if_23 huf_23 iz_24 kdσ_25; omega) | omega) (by first | (clear h0 h7 hm2 hge2 kdσ_2 if_4 gc_5_x_1 gc_5_f_4 c_5 hy hy1 bhpσ_9 chpσ_9 ir_8 hm21 hge21 kdσ_11 em iz_13 if_14 gc_15_x_10 gc_15_f_14 c_15 iz_17 iz_18 iz_19 iz_20 if_21 ecf_21 hcf_21 iz_22 if_23 huf_23 iz_24 kdσ_25; omega) | omega) mcσ_25 iz_24
              obtain ⟨z_26, ez_26⟩ : ∃ y : Int32, y = x_10 + 1 := ⟨_, rfl⟩
              replace hF := q_letX hF ez_26
              refine lv_iinc (v := z_26) (lv' := [(4, .int z_26), (0, .ref a), (1, .int v1), (2, .int x_1), (3, .int r_8)]) hx hb dX12_takes_62 hl (k := 4) rfl (by rw [ez_26]; rfl) (by decide) rfl (fun ls hl => ?_)
              have iz_26 : z_26.toInt = x_10.toInt + 1 := q_inc ez_26 (by first | (clear h0 h7 hh hm2 hge2 kdσ_2 if_4 gc_5_x_1 gc_5_f_4 c_5 hy1 bhpσ_9 chpσ_9 ir_8 hm21 kdσ_11 iz_13 gc_15_f_14 iz_17 iz_18 iz_19 if_21 ecf_21 hcf_21 iz_22 if_23 huf_23 iz_24 kdσ_25; omega) | omega)
              refine lv_goto (tgt := 21) hx hb dX12_takes_65 (by decide) ?_
              exact ih21 z_26 σ_25 _ _ ls (by first | (clear h0 h7 hh hm2 hge2 kdσ_2 if_4 gc_5_x_1 gc_5_f_4 c_5 hy1 bhpσ_9 chpσ_9 ir_8 kdσ_11 iz_13 gc_15_f_14 iz_17 iz_18 iz_19 if_21 ecf_21 hcf_21 iz_22 if_23 huf_23 iz_24 kdσ_25; omega) | omega) (by first | (clear h0 h7 hh hm2 hge2 kdσ_2 if_4 gc_5_x_1 gc_5_f_4 c_5 hy hy1 bhpσ_9 chpσ_9 ir_8 hm21 kdσ_11 iz_13 gc_15_f_14 iz_17 iz_18 iz_19 if_21 ecf_21 hcf_21 iz_22 if_23 huf_23 iz_24 kdσ_25; omega) | omega) (by rw [iz_26]; exact tkσ_25) fr_σ_25 kdσ_25 hF hI (lv_sub hl [1, 2, 3, 4, 0] rfl)
        have kc_27 : (0 : Int32).toInt = 0 := zt_0
        exact L_21_12 ((2147483647 - (0 : Int32).toInt).toNat + 1) 0 σ_2 _ _ ls (Nat.lt_succ_self _) (by have q : (0 : Int32).toInt = 0 := rfl; omega) tkσ_2 fr_σ_2 kdσ_2 hF hI (lv_sub hl [2, 3, 4, 1, 0] rfl)
  have kc_28 : (0 : Int32).toInt = 0 := zt_0
  exact L_2_3 ((2147483647 - (0 : Int32).toInt).toNat + 1) 0 σ _ _ ls (Nat.lt_succ_self _) (by have q : (0 : Int32).toInt = 0 := rfl; omega) (m_tk.start hG (by first | (clear h0 h7 hh kc_28; omega) | omega)) fr_σ kdσ hF hI (lv_sub hl [1, 2, 0] rfl)
end
