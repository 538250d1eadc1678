section
set_option maxRecDepth 100000 in
set_option maxHeartbeats 4000000 in
theorem c_X12_laysDown (l : Launch) (X : XW) (σ : ST) (a : Nat) (v1 : Int32) (r2 : Nat) (ha : q_kd X a = 12) (hr2 : q_kd X r2 = 39) (hL : m_lo (m_c X σ a) (m_of σ r2) v1.toInt) (h6 : m_c X σ a 6 = v1.toInt) : Met l yX12_laysDown (q_ws yX12_laysDown cX12_laysDown 7 none) (q_rm 1 20) (q_P X σ [.ref a, .int v1, .ref r2]) (q_Qv X 1 σ (fun (σ' : ST) => (m_G (m_c X σ' a)) ∧ (∀ j, 0 ≤ j → (j < 7 ∨ j = 8 ∨ (10 ≤ j ∧ j < 34) ∨ 654 ≤ j) → m_c X σ' a j = m_c X σ a j) ∧ (m_c X σ' a 9 = m_c X σ a 9 + 1) ∧ (m_c X σ' a 7 = 1) ∧ (m_c X σ' a 6 = v1.toInt) ∧ (m_KD 40 X σ σ') ∧ σ' = F_X12_laysDown X σ a v1 r2 ∧ q_ow [(34, 99)] [] X σ σ')) 0 0 (q_reg X) := by
  refine q_met 1 (by first | exact rfl | decide +kernel) rfl (Nat.le_of_ble_eq_true rfl) (fun p e s m below meth c E hml hr hlk hI ls hl => ?_)
  have hx := E.1
  have hb := E.2.1
  have hl : lv_has ls 7 [(0, .ref a), (1, .int v1), (2, .ref r2)] := hl
  have kdσ : m_KD 40 X σ σ := m_KD.rf
  have foσ : ∀ j, σ.1 r2 j = σ.1 r2 j := fun _ => rfl
  have fr_σ : q_ow [(34, 99)] [] X σ σ := q_ow.rf
  have hc9 := hL.c9
  have hlo := hL.2.2.2
  have hp6 := hL.2.1
  have hh := hL.1.hd
  obtain ⟨out, hout⟩ : ∃ o, o = F_X12_laysDown X σ a v1 r2 := ⟨_, rfl⟩
  have hF := hout.symm
  unfold F_X12_laysDown at hF
  refine lv_aload_n hx hb dX12_laysDown_0 rfl (lv_at hl 0 rfl) ?_
  refine gs_X12_35_12 E hI ha dX12_laysDown_1 ?_
  refine lv_bipush (v := 9) hx hb dX12_laysDown_4 zkb_9 ?_
  refine q_iald E hI (q_tk (k' := 34) hI ha rfl (Nat.succ_ne_zero _)) ⟨by decide, rfl⟩ (by decide) (by rw [q_lnk (v := 4650) hI (q_tk (k' := 34) hI ha rfl (Nat.succ_ne_zero _)) rfl (by decide)]; decide) dX12_laysDown_6 ?_
  refine lv_topi (fun f_1 ef_1 => ?_)
  replace hF := q_letX hF ef_1
  have if_1 : f_1.toInt = m_c X σ a 9 := m_rd ef_1 (by decide)
  refine q_ci (q_runS (As := [.int f_1]) (rest := []) E (hml.trans hl.1.symm) hI (c_X12_laid l X σ f_1 (by first | (clear h6 kdσ hlo hh; omega) | omega)) ks_X12_279 rfl ⟨Nat.le_of_ble_eq_true rfl, Nat.le_of_ble_eq_true rfl⟩ ⟨Nat.le_refl _, Nat.le_refl _⟩ rfl (Nat.le_of_ble_eq_true rfl) dX12_laysDown_7) hI (Nat.le_of_ble_eq_true rfl) (fun r_2 σ_3 H locs hpσ_3 hkσ_3 hI => ?_)
  have ahpσ_3 := hpσ_3.1
  have bhpσ_3 := hpσ_3.2.1
  have chpσ_3 := hpσ_3.2.2
  clear hpσ_3
  replace hI := q_Irw ahpσ_3 hI
  replace hF := q_letX hF chpσ_3
  have ir_2 : r_2.toInt = (94 + 7 * (m_c X σ a 9)) := (by first | (clear h6 kdσ hc9 hlo hh ahpσ_3 chpσ_3; omega) | omega)
  refine lv_istore_n (lv' := [(3, .int r_2), (0, .ref a), (1, .int v1), (2, .ref r2)]) hx hb dX12_laysDown_10 rfl hl (by decide) rfl (fun ls hl => ?_)
  refine lv_aload_n hx hb dX12_laysDown_11 rfl (lv_at hl 1 rfl) ?_
  refine gs_X12_35_12 E hI ha dX12_laysDown_12 ?_
  refine lv_iload_n hx hb dX12_laysDown_15 rfl (lv_at hl 0 rfl) ?_
  refine lv_iload_n hx hb dX12_laysDown_16 rfl (lv_at hl 2 rfl) ?_
  refine q_iastN E hI (q_tk (k' := 34) hI ha rfl (Nat.succ_ne_zero _)) ⟨by decide, rfl⟩ (by first | (clear h6 kdσ hlo hh ahpσ_3 chpσ_3 ir_2; omega) | omega) (by rw [q_lnk (v := 4650) hI (q_tk (k' := 34) hI ha rfl (Nat.succ_ne_zero _)) rfl (by decide)]; omega) (show 1 < 2 by decide) (q_inU rfl) dX12_laysDown_17 (fun H locs σ_4 hσ_4 hI => ?_)
  replace hF := q_letX hF hσ_4
  have fr_σ_4 := fr_σ.si hσ_4 (q_tk (k' := 34) hI ha rfl (Nat.succ_ne_zero _)) rfl
  have mcσ_4 := m_wr (v := v1) (A := (94 + 7 * (m_c X σ a 9))) hσ_4 ir_2 (by first | (clear h6 kdσ hlo hh ahpσ_3 bhpσ_3 chpσ_3 ir_2; omega) | omega)
  have kdσ_4 : m_KD 40 X σ σ_4 := kdσ.ar hσ_4 (q_tk (k' := 34) hI ha rfl (Nat.succ_ne_zero _)) (by decide) (by decide)
  have foσ_4 : ∀ j, σ_4.1 r2 j = σ.1 r2 j := fun j => (q_rdn hσ_4 (Or.inl (m_ne hr2 (q_tk (k' := 34) hI ha rfl (Nat.succ_ne_zero _)) (by decide)))).trans (foσ j)
  have s1x := mcσ_4
  refine lv_aload_n hx hb dX12_laysDown_18 rfl (lv_at hl 1 rfl) ?_
  refine gs_X12_35_12 E hI ha dX12_laysDown_19 ?_
  refine lv_iload_n hx hb dX12_laysDown_22 rfl (lv_at hl 0 rfl) ?_
  refine lv_iconst (v := 1) hx hb dX12_laysDown_23 zki_1 ?_
  refine lv_iadd hx hb dX12_laysDown_24 ?_
  refine lv_topi (fun z_5 ez_5 => ?_)
  replace hF := q_letX hF ez_5
  have iz_5 := q_addI (A := (94 + 7 * (m_c X σ a 9))) (B := 1) ez_5 ir_2 (by decide) (by first | (clear h6 kdσ hlo hh ahpσ_3 bhpσ_3 chpσ_3 ir_2 kdσ_4; omega) | omega) (by first | (clear h6 kdσ hlo hh ahpσ_3 bhpσ_3 chpσ_3 ir_2 kdσ_4; omega) | omega)
  refine lv_aload_n hx hb dX12_laysDown_25 rfl (lv_at hl 1 rfl) ?_
  refine gs_X12_35_12 E hI ha dX12_laysDown_26 ?_
  refine lv_iconst (v := 5) hx hb dX12_laysDown_29 zki_5 ?_
  refine q_iald E hI (q_tk (k' := 34) hI ha rfl (Nat.succ_ne_zero _)) ⟨by decide, rfl⟩ (by decide) (by rw [q_lnk (v := 4650) hI (q_tk (k' := 34) hI ha rfl (Nat.succ_ne_zero _)) rfl (by decide)]; decide) dX12_laysDown_30 ?_
  refine lv_topi (fun f_6 ef_6 => ?_)
  replace hF := q_letX hF ef_6
  have if_6 : f_6.toInt = m_c X σ_4 a 5 := m_rd ef_6 (by decide)
  refine q_iastN E hI (q_tk (k' := 34) hI ha rfl (Nat.succ_ne_zero _)) ⟨by decide, rfl⟩ (by first | (clear h6 kdσ hlo hh ahpσ_3 bhpσ_3 chpσ_3 ir_2 kdσ_4 if_6; omega) | omega) (by rw [q_lnk (v := 4650) hI (q_tk (k' := 34) hI ha rfl (Nat.succ_ne_zero _)) rfl (by decide)]; omega) (show 1 < 2 by decide) (q_inU rfl) dX12_laysDown_31 (fun H locs σ_7 hσ_7 hI => ?_)
  replace hF := q_letX hF hσ_7
  have fr_σ_7 := fr_σ_4.si hσ_7 (q_tk (k' := 34) hI ha rfl (Nat.succ_ne_zero _)) rfl
  have mcσ_7 := m_wr (v := f_6) (A := ((94 + 7 * (m_c X σ a 9)) + 1)) hσ_7 iz_5 (by first | (clear h6 kdσ hlo hh ahpσ_3 bhpσ_3 chpσ_3 ir_2 kdσ_4 iz_5 if_6; omega) | omega)
  have kdσ_7 : m_KD 40 X σ σ_7 := kdσ_4.ar hσ_7 (q_tk (k' := 34) hI ha rfl (Nat.succ_ne_zero _)) (by decide) (by decide)
  have foσ_7 : ∀ j, σ_7.1 r2 j = σ.1 r2 j := fun j => (q_rdn hσ_7 (Or.inl (m_ne hr2 (q_tk (k' := 34) hI ha rfl (Nat.succ_ne_zero _)) (by decide)))).trans (foσ_4 j)
  have ld0 := m_ld.start hL s1x rfl mcσ_7
  refine lv_iconst (v := 0) hx hb dX12_laysDown_32 zki_0 ?_
  refine lv_istore (lv' := [(4, .int 0), (3, .int r_2), (0, .ref a), (1, .int v1), (2, .ref r2)]) hx hb dX12_laysDown_33 hl (by decide) rfl (fun ls hl => ?_)
  refine lv_iconst (v := 0) hx hb dX12_laysDown_35 zki_0 ?_
  refine lv_istore (lv' := [(5, .int 0), (4, .int 0), (3, .int r_2), (0, .ref a), (1, .int v1), (2, .ref r2)]) hx hb dX12_laysDown_36 hl (by decide) rfl (fun ls hl => ?_)
  have L_38_11 : ∀ (k_11 : Nat) (x_8 : Int32) (x_9 : Int32) (σ_10 : ST) (H : Heap) (locs : List Loc) (ls : Array Slot), (2147483647 - x_9.toInt).toNat < k_11 → (0 ≤ x_9.toInt ∧ x_9.toInt ≤ 10) → (x_8.toInt = m_S (m_of σ r2) 0 x_9.toInt.toNat) → (m_ld (m_c X σ a) (m_c X σ_10 a) (m_of σ r2) v1.toInt x_9.toInt 0) → (q_ow [(34, 99)] [] X σ σ_10) → (m_KD 40 X σ σ_10) → (∀ j, σ_10.1 r2 j = σ.1 r2 j) → (F_X12_laysDown_L38_1 X r2 r_2 a v1 k_11 x_8 x_9 σ_10 = out) → q_I X 1 σ s.heap locs σ_10 H → lv_has ls 7 [(0, .ref a), (1, .int v1), (2, .ref r2), (3, .int r_2), (4, .int x_8), (5, .int x_9)] → W p l e (q_rm 1 20) s m ([.ref a, .int v1, .ref r2] : List Value).toArray below meth c H locs 0 0 (MQ below (q_Qv X 1 σ (fun (σ' : ST) => (m_G (m_c X σ' a)) ∧ (∀ j, 0 ≤ j → (j < 7 ∨ j = 8 ∨ (10 ≤ j ∧ j < 34) ∨ 654 ≤ j) → m_c X σ' a j = m_c X σ a j) ∧ (m_c X σ' a 9 = m_c X σ a 9 + 1) ∧ (m_c X σ' a 7 = 1) ∧ (m_c X σ' a 6 = v1.toInt) ∧ (m_KD 40 X σ σ') ∧ σ' = F_X12_laysDown X σ a v1 r2 ∧ q_ow [(34, 99)] [] X σ σ')) ([.ref a, .int v1, .ref r2] : List Value).toArray s 0 0 (q_reg X)) (F0 m 38 ls []) := by
    clear hF
    intro k_11
    induction k_11 with
    | zero =>
      intro x_8 x_9 σ_10 H locs ls hms
      try clear kdσ; try clear foσ; try clear fr_σ; try clear ahpσ_3; try clear fr_σ_4; try clear mcσ_4; try clear kdσ_4; try clear foσ_4; try clear fr_σ_7; try clear mcσ_7; try clear kdσ_7; try clear foσ_7
      exact absurd hms (Nat.not_lt_zero _)
    | succ k_11 ih38 =>
      intro x_8 x_9 σ_10 H locs ls hm38 hge38 hn38 ldσ_10 fr_σ_10 kdσ_10 foσ_10 hF hI hl
      replace hF := (F_X12_laysDown_L38_1_s).symm.trans hF
      unfold F_X12_laysDown_B38_1 at hF
      have pt := hL.part x_9.toInt.toNat (by first | (clear h6 hc9 hlo hh if_1 bhpσ_3 chpσ_3 ir_2 iz_5 if_6 hm38 hn38 kdσ_10; omega) | omega)
      have ps := m_S_succ (m_of σ r2) 0 x_9.toInt hge38.1
      rw [Int.zero_add] at ps
      refine lv_iload hx hb dX12_laysDown_38 (lv_at hl 5 rfl) ?_
      refine lv_bipush (v := 10) hx hb dX12_laysDown_40 zkb_10 ?_
      have gc_12_x_9 := q_rng x_9
      refine q_icmp_ge (A := x_9.toInt) (B := 10) E rfl (by decide) (tgt := 107) dX12_laysDown_42 (by decide) (fun c_12 => ?_) (fun c_12 => ?_)
      · skip
        replace hF := q_ifn hF (Int.not_lt.mpr c_12)
        unfold F_X12_laysDown_E107_2 at hF
        refine lv_aload_n hx hb dX12_laysDown_107 rfl (lv_at hl 0 rfl) ?_
        refine gs_X12_35_12 E hI ha dX12_laysDown_108 ?_
        refine lv_iload_n hx hb dX12_laysDown_111 rfl (lv_at hl 3 rfl) ?_
        refine lv_iconst (v := 2) hx hb dX12_laysDown_112 zki_2 ?_
        refine lv_iadd hx hb dX12_laysDown_113 ?_
        refine lv_topi (fun z_13 ez_13 => ?_)
        replace hF := q_letX hF ez_13
        have iz_13 := q_addI (A := (94 + 7 * (m_c X σ a 9))) (B := 2) ez_13 ir_2 (by decide) (by first | (clear h6 hlo hh bhpσ_3 chpσ_3 ir_2 iz_5 if_6 hm38 hge38 hn38 kdσ_10 pt ps gc_12_x_9 c_12; omega) | omega) (by first | (clear h6 hlo hh bhpσ_3 chpσ_3 ir_2 iz_5 if_6 hm38 hge38 hn38 kdσ_10 pt ps gc_12_x_9 c_12; omega) | omega)
        refine lv_iload hx hb dX12_laysDown_114 (lv_at hl 4 rfl) ?_
        refine q_iastN E hI (q_tk (k' := 34) hI ha rfl (Nat.succ_ne_zero _)) ⟨by decide, rfl⟩ (by first | (clear h6 hlo hh bhpσ_3 chpσ_3 ir_2 iz_5 if_6 hm38 hge38 hn38 kdσ_10 pt ps gc_12_x_9 c_12; omega) | omega) (by rw [q_lnk (v := 4650) hI (q_tk (k' := 34) hI ha rfl (Nat.succ_ne_zero _)) rfl (by decide)]; omega) (show 1 < 2 by decide) (q_inU rfl) dX12_laysDown_116 (fun H locs σ_14 hσ_14 hI => ?_)
        replace hF := q_letX hF hσ_14
        have fr_σ_14 := fr_σ_10.si hσ_14 (q_tk (k' := 34) hI ha rfl (Nat.succ_ne_zero _)) rfl
        have mcσ_14 := m_wr (v := x_8) (A := ((94 + 7 * (m_c X σ a 9)) + 2)) hσ_14 iz_13 (by first | (clear h6 hlo hh bhpσ_3 chpσ_3 ir_2 iz_5 if_6 hm38 hge38 hn38 kdσ_10 pt ps gc_12_x_9 c_12 iz_13; omega) | omega)
        have kdσ_14 : m_KD 40 X σ σ_14 := kdσ_10.ar hσ_14 (q_tk (k' := 34) hI ha rfl (Nat.succ_ne_zero _)) (by decide) (by decide)
        have foσ_14 : ∀ j, σ_14.1 r2 j = σ.1 r2 j := fun j => (q_rdn hσ_14 (Or.inl (m_ne hr2 (q_tk (k' := 34) hI ha rfl (Nat.succ_ne_zero _)) (by decide)))).trans (foσ_10 j)
        have e1x := mcσ_14
        have g9 : m_c X σ_14 a 9 = m_c X σ a 9 := by rw [mcσ_14 9 (by decide), if_neg (by first | (clear h6 hlo hh bhpσ_3 chpσ_3 ir_2 iz_5 if_6 hm38 hge38 hn38 kdσ_10 pt ps gc_12_x_9 c_12 iz_13 kdσ_14 e1x; omega) | omega)]; exact ldσ_10.1 9 (by decide) (by first | (clear h6 hc9 hlo hh if_1 bhpσ_3 chpσ_3 ir_2 iz_5 if_6 hm38 hge38 hn38 kdσ_10 pt ps gc_12_x_9 c_12 iz_13 kdσ_14 e1x; omega) | omega) (by first | (clear h6 hlo hh bhpσ_3 chpσ_3 ir_2 iz_5 if_6 hm38 hge38 hn38 kdσ_10 pt ps gc_12_x_9 c_12 iz_13 kdσ_14 e1x; omega) | omega)
        have l10 := ldσ_10
        have q10 : x_9.toInt = 10 := by omega
        rw [q10] at l10
        refine lv_aload_n hx hb dX12_laysDown_117 rfl (lv_at hl 0 rfl) ?_
        refine gs_X12_35_12 E hI ha dX12_laysDown_118 ?_
        refine lv_bipush (v := 9) hx hb dX12_laysDown_121 zkb_9 ?_
        refine lv_dup2_11 hx hb dX12_laysDown_123 rfl rfl ?_
        refine q_iald E hI (q_tk (k' := 34) hI ha rfl (Nat.succ_ne_zero _)) ⟨by decide, rfl⟩ (by decide) (by rw [q_lnk (v := 4650) hI (q_tk (k' := 34) hI ha rfl (Nat.succ_ne_zero _)) rfl (by decide)]; decide) dX12_laysDown_124 ?_
        refine lv_topi (fun f_15 ef_15 => ?_)
        replace hF := q_letX hF ef_15
        have if_15 : f_15.toInt = m_c X σ_14 a 9 := m_rd ef_15 (by decide)
        refine lv_iconst (v := 1) hx hb dX12_laysDown_125 zki_1 ?_
        refine lv_iadd hx hb dX12_laysDown_126 ?_
        refine lv_topi (fun z_16 ez_16 => ?_)
        replace hF := q_letX hF ez_16
        have iz_16 := q_addI (A := (m_c X σ_14 a 9)) (B := 1) ez_16 if_15 (by decide) (by first | (clear h6 hlo hh bhpσ_3 chpσ_3 ir_2 iz_5 if_6 hm38 hge38 hn38 kdσ_10 pt ps gc_12_x_9 c_12 iz_13 kdσ_14 e1x; omega) | omega) (by first | (clear h6 hlo hh bhpσ_3 chpσ_3 ir_2 iz_5 if_6 hm38 hge38 hn38 kdσ_10 pt ps gc_12_x_9 c_12 iz_13 kdσ_14 e1x; omega) | omega)
        refine q_iastN E hI (q_tk (k' := 34) hI ha rfl (Nat.succ_ne_zero _)) ⟨by decide, rfl⟩ (by decide) (by rw [q_lnk (v := 4650) hI (q_tk (k' := 34) hI ha rfl (Nat.succ_ne_zero _)) rfl (by decide)]; decide) (show 1 < 2 by decide) (q_inU rfl) dX12_laysDown_127 (fun H locs σ_17 hσ_17 hI => ?_)
        replace hF := q_letX hF hσ_17
        have fr_σ_17 := fr_σ_14.si hσ_17 (q_tk (k' := 34) hI ha rfl (Nat.succ_ne_zero _)) rfl
        have mcσ_17 := m_wr (v := z_16) (A := 9) hσ_17 (by decide) (by decide)
        have kdσ_17 : m_KD 40 X σ σ_17 := kdσ_14.ar hσ_17 (q_tk (k' := 34) hI ha rfl (Nat.succ_ne_zero _)) (by decide) (by decide)
        have foσ_17 : ∀ j, σ_17.1 r2 j = σ.1 r2 j := fun j => (q_rdn hσ_17 (Or.inl (m_ne hr2 (q_tk (k' := 34) hI ha rfl (Nat.succ_ne_zero _)) (by decide)))).trans (foσ_14 j)
        have e2x := mcσ_17
        have v9x := iz_16
        refine lv_aload_n hx hb dX12_laysDown_128 rfl (lv_at hl 0 rfl) ?_
        refine gs_X12_35_12 E hI ha dX12_laysDown_129 ?_
        refine lv_bipush (v := 7) hx hb dX12_laysDown_132 zkb_7 ?_
        refine lv_iconst (v := 1) hx hb dX12_laysDown_134 zki_1 ?_
        have kc_19 : (1 : Int32).toInt = 1 := zt_1
        refine q_iastN E hI (q_tk (k' := 34) hI ha rfl (Nat.succ_ne_zero _)) ⟨by decide, rfl⟩ (by decide) (by rw [q_lnk (v := 4650) hI (q_tk (k' := 34) hI ha rfl (Nat.succ_ne_zero _)) rfl (by decide)]; decide) (show 1 < 2 by decide) (q_inU rfl) dX12_laysDown_135 (fun H locs σ_18 hσ_18 hI => ?_)
        replace hF := q_letX hF hσ_18
        have fr_σ_18 := fr_σ_17.si hσ_18 (q_tk (k' := 34) hI ha rfl (Nat.succ_ne_zero _)) rfl
        have mcσ_18 := m_wr (v := (1 : Int32)) (A := 7) hσ_18 (by decide) (by decide)
        have kdσ_18 : m_KD 40 X σ σ_18 := kdσ_17.ar hσ_18 (q_tk (k' := 34) hI ha rfl (Nat.succ_ne_zero _)) (by decide) (by decide)
        have foσ_18 : ∀ j, σ_18.1 r2 j = σ.1 r2 j := fun j => (q_rdn hσ_18 (Or.inl (m_ne hr2 (q_tk (k' := 34) hI ha rfl (Nat.succ_ne_zero _)) (by decide)))).trans (foσ_17 j)
        have dnσ_18 := l10.done hL h6 (by have q : x_9.toInt.toNat = 10 := (by first | (clear h6 hc9 hlo hh if_1 bhpσ_3 chpσ_3 ir_2 iz_5 if_6 hm38 hn38 kdσ_10 pt ps gc_12_x_9 iz_13 kdσ_14 e1x if_15 iz_16 kdσ_17 e2x v9x kc_19 kdσ_18; omega) | omega); rw [q] at hn38; exact hn38) e1x e2x (by first | (clear h6 hc9 hlo hh bhpσ_3 chpσ_3 ir_2 iz_5 if_6 hm38 hge38 hn38 kdσ_10 pt ps gc_12_x_9 c_12 iz_13 kdσ_14 e1x kdσ_17 e2x v9x kc_19 kdσ_18; omega) | omega) mcσ_18 rfl
        exact q_retv E hr hlk hI ⟨dnσ_18.1, dnσ_18.2.1, dnσ_18.2.2.1, dnσ_18.2.2.2.1, dnσ_18.2.2.2.2, kdσ_18, (hF.trans hout), fr_σ_18⟩ dX12_laysDown_136
      · skip
        replace hF := q_ifp hF c_12
        have pt2 := hL.part (x_9.toInt + 1).toNat (by first | (clear h6 hc9 hlo hh if_1 bhpσ_3 chpσ_3 ir_2 iz_5 if_6 hm38 hn38 kdσ_10 pt ps gc_12_x_9; omega) | omega)
        rw [ps] at pt2
        have ho := hL.2.2.1 x_9.toInt (by first | (clear h6 hc9 hlo hh if_1 bhpσ_3 chpσ_3 ir_2 iz_5 if_6 hm38 hn38 kdσ_10 pt ps gc_12_x_9 pt2; omega) | omega) (by omega)
        refine lv_iconst (v := 0) hx hb dX12_laysDown_45 zki_0 ?_
        refine lv_istore (lv' := [(6, .int 0), (0, .ref a), (1, .int v1), (2, .ref r2), (3, .int r_2), (4, .int x_8), (5, .int x_9)]) hx hb dX12_laysDown_46 hl (by decide) rfl (fun ls hl => ?_)
        have L_48_23 : ∀ (k_23 : Nat) (x_20 : Int32) (x_21 : Int32) (σ_22 : ST) (H : Heap) (locs : List Loc) (ls : Array Slot), (2147483647 - x_21.toInt).toNat < k_23 → (0 ≤ x_21.toInt ∧ x_21.toInt ≤ m_of σ r2 x_9.toInt) → (x_20.toInt = m_S (m_of σ r2) 0 x_9.toInt.toNat + x_21.toInt) → (m_ld (m_c X σ a) (m_c X σ_22 a) (m_of σ r2) v1.toInt x_9.toInt x_21.toInt) → (q_ow [(34, 99)] [] X σ σ_22) → (m_KD 40 X σ σ_22) → (∀ j, σ_22.1 r2 j = σ.1 r2 j) → (F_X12_laysDown_L48_3 X r2 x_9 r_2 a v1 (F_X12_laysDown_L38_1 X r2 r_2 a v1 k_11) k_23 x_20 x_21 σ_22 = out) → q_I X 1 σ s.heap locs σ_22 H → lv_has ls 7 [(0, .ref a), (1, .int v1), (2, .ref r2), (3, .int r_2), (4, .int x_20), (5, .int x_9), (6, .int x_21)] → W p l e (q_rm 1 20) s m ([.ref a, .int v1, .ref r2] : List Value).toArray below meth c H locs 0 0 (MQ below (q_Qv X 1 σ (fun (σ' : ST) => (m_G (m_c X σ' a)) ∧ (∀ j, 0 ≤ j → (j < 7 ∨ j = 8 ∨ (10 ≤ j ∧ j < 34) ∨ 654 ≤ j) → m_c X σ' a j = m_c X σ a j) ∧ (m_c X σ' a 9 = m_c X σ a 9 + 1) ∧ (m_c X σ' a 7 = 1) ∧ (m_c X σ' a 6 = v1.toInt) ∧ (m_KD 40 X σ σ') ∧ σ' = F_X12_laysDown X σ a v1 r2 ∧ q_ow [(34, 99)] [] X σ σ')) ([.ref a, .int v1, .ref r2] : List Value).toArray s 0 0 (q_reg X)) (F0 m 48 ls []) := by
          clear hF
          intro k_23
          induction k_23 with
          | zero =>
            intro x_20 x_21 σ_22 H locs ls hms
            exact absurd hms (Nat.not_lt_zero _)
          | succ k_23 ih48 =>
            intro x_20 x_21 σ_22 H locs ls hm48 hge48 hn48 ldσ_22 fr_σ_22 kdσ_22 foσ_22 hF hI hl
            replace hF := (F_X12_laysDown_L48_3_s).symm.trans hF
            unfold F_X12_laysDown_B48_3 at hF
            refine lv_iload hx hb dX12_laysDown_48 (lv_at hl 6 rfl) ?_
            refine lv_aload_n hx hb dX12_laysDown_50 rfl (lv_at hl 2 rfl) ?_
            refine lv_iload hx hb dX12_laysDown_51 (lv_at hl 5 rfl) ?_
            refine q_iald E hI hr2 ⟨by decide, rfl⟩ (by first | (clear h6 hc9 hlo hh if_1 bhpσ_3 chpσ_3 ir_2 iz_5 if_6 hm38 hn38 kdσ_10 pt ps gc_12_x_9 pt2 ho hm48 hge48 hn48 kdσ_22; omega) | omega) (by rw [q_lnk (v := 10) hI hr2 rfl (by decide)]; omega) dX12_laysDown_53 ?_
            refine lv_topi (fun f_24 ef_24 => ?_)
            replace hF := q_letX hF ef_24
            have fqf_24 : f_24.toInt = m_of σ r2 x_9.toInt := by rw [ef_24, foσ_22]; rfl
            have gc_25_x_21 := q_rng x_21
            have gc_25_f_24 := q_rng f_24
            refine q_icmp_ge (A := x_21.toInt) (B := f_24.toInt) E rfl rfl (tgt := 79) dX12_laysDown_54 (by decide) (fun c_25 => ?_) (fun c_25 => ?_)
            · skip
              replace hF := q_ifn hF (Int.not_lt.mpr c_25)
              unfold F_X12_laysDown_E79_4 at hF
              have lu := ldσ_22.1 (34 + 10 * v1.toInt + x_9.toInt) (by first | (clear h6 hc9 hlo if_1 bhpσ_3 chpσ_3 ir_2 iz_5 if_6 hm38 hn38 kdσ_10 pt ps gc_12_x_9 pt2 ho hm48 hge48 hn48 kdσ_22 fqf_24 gc_25_x_21 gc_25_f_24 c_25; omega) | omega) (by first | (clear h6 hc9 hlo hh if_1 bhpσ_3 chpσ_3 ir_2 iz_5 if_6 hm38 hge38 hn38 kdσ_10 pt ps gc_12_x_9 c_12 pt2 ho hm48 hge48 hn48 kdσ_22 fqf_24 gc_25_x_21 gc_25_f_24 c_25; omega) | omega) (by first | (clear h6 hlo bhpσ_3 chpσ_3 ir_2 iz_5 if_6 hm38 hn38 kdσ_10 pt ps gc_12_x_9 pt2 ho hm48 hge48 hn48 kdσ_22 fqf_24 gc_25_x_21 gc_25_f_24 c_25; omega) | omega)
              have lv := hL.1.h80 (p := v1.toInt) (k := x_9.toInt) (by first | (clear h6 hc9 hlo hh if_1 bhpσ_3 chpσ_3 ir_2 iz_5 if_6 hm38 hge38 hn38 kdσ_10 pt ps gc_12_x_9 c_12 pt2 ho hm48 hge48 hn48 kdσ_22 fqf_24 gc_25_x_21 gc_25_f_24 c_25 lu; omega) | omega) (by first | (clear h6 hc9 hlo hh if_1 bhpσ_3 chpσ_3 ir_2 iz_5 if_6 hm38 hge38 hn38 kdσ_10 pt ps gc_12_x_9 c_12 pt2 ho hm48 hge48 hn48 kdσ_22 fqf_24 gc_25_x_21 gc_25_f_24 c_25 lu; omega) | omega) (by first | (clear h6 hc9 hlo hh if_1 bhpσ_3 chpσ_3 ir_2 iz_5 if_6 hm38 hn38 kdσ_10 pt ps gc_12_x_9 pt2 ho hm48 hge48 hn48 kdσ_22 fqf_24 gc_25_x_21 gc_25_f_24 c_25 lu; omega) | omega) (by omega)
              refine lv_aload_n hx hb dX12_laysDown_79 rfl (lv_at hl 0 rfl) ?_
              refine gs_X12_35_12 E hI ha dX12_laysDown_80 ?_
              refine lv_bipush (v := 34) hx hb dX12_laysDown_83 zkb_34 ?_
              refine lv_bipush (v := 10) hx hb dX12_laysDown_85 zkb_10 ?_
              refine lv_iload_n hx hb dX12_laysDown_87 rfl (lv_at hl 1 rfl) ?_
              refine lv_imul hx hb dX12_laysDown_88 ?_
              refine lv_topi (fun z_26 ez_26 => ?_)
              replace hF := q_letX hF ez_26
              have iz_26 := q_mulI (A := 10) (B := v1.toInt) ez_26 (by decide) rfl (by first | (clear h6 hc9 hlo hh if_1 bhpσ_3 chpσ_3 ir_2 iz_5 if_6 hm38 hge38 hn38 kdσ_10 pt ps gc_12_x_9 c_12 pt2 ho hm48 hge48 hn48 kdσ_22 fqf_24 gc_25_x_21 gc_25_f_24 c_25 lu; omega) | omega) (by first | (clear h6 hc9 hlo hh if_1 bhpσ_3 chpσ_3 ir_2 iz_5 if_6 hm38 hge38 hn38 kdσ_10 pt ps gc_12_x_9 c_12 pt2 ho hm48 hge48 hn48 kdσ_22 fqf_24 gc_25_x_21 gc_25_f_24 c_25 lu; omega) | omega)
              refine lv_iadd hx hb dX12_laysDown_89 ?_
              refine lv_topi (fun z_27 ez_27 => ?_)
              replace hF := q_letX hF ez_27
              have iz_27 := q_addI (A := 34) (B := (10 * v1.toInt)) ez_27 (by decide) iz_26 (by first | (clear h6 hc9 hlo hh if_1 bhpσ_3 chpσ_3 ir_2 iz_5 if_6 hm38 hge38 hn38 kdσ_10 pt ps gc_12_x_9 c_12 pt2 ho hm48 hge48 hn48 kdσ_22 fqf_24 gc_25_x_21 gc_25_f_24 c_25 lu iz_26; omega) | omega) (by first | (clear h6 hc9 hlo hh if_1 bhpσ_3 chpσ_3 ir_2 iz_5 if_6 hm38 hge38 hn38 kdσ_10 pt ps gc_12_x_9 c_12 pt2 ho hm48 hge48 hn48 kdσ_22 fqf_24 gc_25_x_21 gc_25_f_24 c_25 lu iz_26; omega) | omega)
              refine lv_iload hx hb dX12_laysDown_90 (lv_at hl 5 rfl) ?_
              refine lv_iadd hx hb dX12_laysDown_92 ?_
              refine lv_topi (fun z_28 ez_28 => ?_)
              replace hF := q_letX hF ez_28
              have iz_28 := q_addI (A := (34 + (10 * v1.toInt))) (B := x_9.toInt) ez_28 iz_27 rfl (by first | (clear h6 hc9 hlo if_1 bhpσ_3 chpσ_3 ir_2 iz_5 if_6 hm38 hn38 kdσ_10 pt ps gc_12_x_9 pt2 ho hm48 hge48 hn48 kdσ_22 fqf_24 gc_25_x_21 gc_25_f_24 c_25 lu iz_26 iz_27; omega) | omega) (by first | (clear h6 hc9 hlo if_1 bhpσ_3 chpσ_3 ir_2 iz_5 if_6 hm38 hn38 kdσ_10 pt ps gc_12_x_9 pt2 ho hm48 hge48 hn48 kdσ_22 fqf_24 gc_25_x_21 gc_25_f_24 c_25 lu iz_26 iz_27; omega) | omega)
              refine lv_dup2_11 hx hb dX12_laysDown_93 rfl rfl ?_
              refine q_iald E hI (q_tk (k' := 34) hI ha rfl (Nat.succ_ne_zero _)) ⟨by decide, rfl⟩ (by first | (clear h6 hc9 hlo if_1 bhpσ_3 chpσ_3 ir_2 iz_5 if_6 hm38 hn38 kdσ_10 pt ps gc_12_x_9 pt2 ho hm48 hge48 hn48 kdσ_22 fqf_24 gc_25_x_21 gc_25_f_24 c_25 lu iz_26 iz_27; omega) | omega) (by rw [q_lnk (v := 4650) hI (q_tk (k' := 34) hI ha rfl (Nat.succ_ne_zero _)) rfl (by decide)]; omega) dX12_laysDown_94 ?_
              refine lv_topi (fun f_29 ef_29 => ?_)
              replace hF := q_letX hF ef_29
              have if_29 : f_29.toInt = m_c X σ_22 a ((34 + (10 * v1.toInt)) + x_9.toInt) := m_rd ef_29 iz_28
              refine lv_aload_n hx hb dX12_laysDown_95 rfl (lv_at hl 2 rfl) ?_
              refine lv_iload hx hb dX12_laysDown_96 (lv_at hl 5 rfl) ?_
              refine q_iald E hI hr2 ⟨by decide, rfl⟩ (by first | (clear h6 hc9 hlo hh if_1 bhpσ_3 chpσ_3 ir_2 iz_5 if_6 hm38 hn38 kdσ_10 pt ps gc_12_x_9 pt2 ho hm48 hge48 hn48 kdσ_22 fqf_24 gc_25_x_21 gc_25_f_24 c_25 lu iz_26 iz_27 if_29; omega) | omega) (by rw [q_lnk (v := 10) hI hr2 rfl (by decide)]; omega) dX12_laysDown_98 ?_
              refine lv_topi (fun f_30 ef_30 => ?_)
              replace hF := q_letX hF ef_30
              have fqf_30 : f_30.toInt = m_of σ r2 x_9.toInt := by rw [ef_30, foσ_22]; rfl
              refine lv_isub hx hb dX12_laysDown_99 ?_
              refine lv_topi (fun z_31 ez_31 => ?_)
              replace hF := q_letX hF ez_31
              have iz_31 := q_subI (A := (m_c X σ_22 a ((34 + (10 * v1.toInt)) + x_9.toInt))) (B := f_30.toInt) ez_31 if_29 rfl (by first | (clear h6 hc9 hlo hh if_1 bhpσ_3 chpσ_3 ir_2 iz_5 if_6 hm38 hge38 hn38 kdσ_10 pt ps gc_12_x_9 c_12 pt2 hm48 hge48 hn48 kdσ_22 gc_25_x_21 gc_25_f_24 c_25 iz_26 iz_27 iz_28; omega) | omega) (by first | (clear h6 hc9 hlo hh if_1 bhpσ_3 chpσ_3 ir_2 iz_5 if_6 hm38 hge38 hn38 kdσ_10 pt ps gc_12_x_9 c_12 pt2 ho hm48 hn48 kdσ_22 gc_25_f_24 iz_26 iz_27 iz_28; omega) | omega)
              refine q_iastN E hI (q_tk (k' := 34) hI ha rfl (Nat.succ_ne_zero _)) ⟨by decide, rfl⟩ (by first | (clear h6 hc9 hlo if_1 bhpσ_3 chpσ_3 ir_2 iz_5 if_6 hm38 hn38 kdσ_10 pt ps gc_12_x_9 pt2 ho hm48 hge48 hn48 kdσ_22 fqf_24 gc_25_x_21 gc_25_f_24 c_25 lu iz_26 iz_27 if_29 fqf_30 iz_31; omega) | omega) (by rw [q_lnk (v := 4650) hI (q_tk (k' := 34) hI ha rfl (Nat.succ_ne_zero _)) rfl (by decide)]; omega) (show 1 < 2 by decide) (q_inU rfl) dX12_laysDown_100 (fun H locs σ_32 hσ_32 hI => ?_)
              replace hF := q_letX hF hσ_32
              have fr_σ_32 := fr_σ_22.si hσ_32 (q_tk (k' := 34) hI ha rfl (Nat.succ_ne_zero _)) rfl
              have mcσ_32 := m_wr (v := z_31) (A := ((34 + (10 * v1.toInt)) + x_9.toInt)) hσ_32 iz_28 (by first | (clear h6 hc9 hlo if_1 bhpσ_3 chpσ_3 ir_2 iz_5 if_6 hm38 hn38 kdσ_10 pt ps gc_12_x_9 pt2 ho hm48 hge48 hn48 kdσ_22 fqf_24 gc_25_x_21 gc_25_f_24 c_25 lu iz_26 iz_27 if_29 fqf_30 iz_31; omega) | omega)
              have kdσ_32 : m_KD 40 X σ σ_32 := kdσ_22.ar hσ_32 (q_tk (k' := 34) hI ha rfl (Nat.succ_ne_zero _)) (by decide) (by decide)
              have foσ_32 : ∀ j, σ_32.1 r2 j = σ.1 r2 j := fun j => (q_rdn hσ_32 (Or.inl (m_ne hr2 (q_tk (k' := 34) hI ha rfl (Nat.succ_ne_zero _)) (by decide)))).trans (foσ_22 j)
              have ldσ_32 := ldσ_22.hand hL (by first | (clear h6 hc9 hlo hh if_1 bhpσ_3 chpσ_3 ir_2 iz_5 if_6 hm38 hn38 kdσ_10 pt ps gc_12_x_9 pt2 ho hm48 hge48 hn48 kdσ_22 fqf_24 gc_25_x_21 gc_25_f_24 c_25 lu iz_26 iz_27 if_29 fqf_30 iz_31 kdσ_32; omega) | omega) (by first | (clear h6 hc9 hlo hh if_1 bhpσ_3 chpσ_3 ir_2 iz_5 if_6 hm38 hge38 hn38 kdσ_10 pt ps gc_12_x_9 c_12 pt2 ho hm48 hn48 kdσ_22 gc_25_x_21 gc_25_f_24 lu iz_26 iz_27 iz_28 if_29 fqf_30 iz_31 kdσ_32; omega) | omega) mcσ_32 (by first | (clear h6 hc9 hlo hh if_1 bhpσ_3 chpσ_3 ir_2 iz_5 if_6 hm38 hge38 hn38 kdσ_10 pt ps gc_12_x_9 c_12 pt2 ho hm48 hge48 hn48 kdσ_22 gc_25_x_21 gc_25_f_24 c_25 lu iz_26 iz_27 iz_28 kdσ_32; omega) | omega)
              obtain ⟨z_33, ez_33⟩ : ∃ y : Int32, y = x_9 + 1 := ⟨_, rfl⟩
              replace hF := q_letX hF ez_33
              refine lv_iinc (v := z_33) (lv' := [(5, .int z_33), (0, .ref a), (1, .int v1), (2, .ref r2), (3, .int r_2), (4, .int x_20), (6, .int x_21)]) hx hb dX12_laysDown_101 hl (k := 5) rfl (by rw [ez_33]; rfl) (by decide) rfl (fun ls hl => ?_)
              have iz_33 : z_33.toInt = x_9.toInt + 1 := q_inc ez_33 (by first | (clear h6 hc9 hlo hh if_1 bhpσ_3 chpσ_3 ir_2 iz_5 if_6 hm38 hn38 kdσ_10 pt ps gc_12_x_9 pt2 ho hm48 hge48 hn48 kdσ_22 fqf_24 gc_25_x_21 gc_25_f_24 c_25 lu iz_26 iz_27 if_29 fqf_30 iz_31 kdσ_32; omega) | omega)
              have pz := ps
              rw [← iz_33] at pz
              refine lv_goto (tgt := 38) hx hb dX12_laysDown_104 (by decide) ?_
              exact ih38 x_20 z_33 σ_32 _ _ ls (by first | (clear h6 hc9 hlo hh if_1 bhpσ_3 chpσ_3 ir_2 iz_5 if_6 hn38 kdσ_10 pt ps gc_12_x_9 pt2 hm48 hn48 kdσ_22 gc_25_f_24 iz_26 iz_27 kdσ_32 pz; omega) | omega) (by first | (clear h6 hc9 hlo hh if_1 bhpσ_3 chpσ_3 ir_2 iz_5 if_6 hm38 hn38 kdσ_10 pt ps gc_12_x_9 pt2 ho hm48 hge48 hn48 kdσ_22 fqf_24 gc_25_x_21 gc_25_f_24 c_25 lu iz_26 iz_27 if_29 fqf_30 iz_31 kdσ_32 pz; omega) | omega) (by first | (clear h6 hc9 hlo hh if_1 bhpσ_3 chpσ_3 ir_2 iz_5 if_6 hm38 hge38 hn38 kdσ_10 pt gc_12_x_9 c_12 pt2 ho hm48 kdσ_22 gc_25_x_21 gc_25_f_24 lu iz_26 iz_27 iz_28 if_29 fqf_30 iz_31 kdσ_32 iz_33; omega) | omega) (by rw [iz_33]; exact ldσ_32) fr_σ_32 kdσ_32 foσ_32 hF hI (lv_sub hl [1, 2, 3, 4, 5, 0] rfl)
            · skip
              replace hF := q_ifp hF c_25
              refine lv_aload_n hx hb dX12_laysDown_57 rfl (lv_at hl 0 rfl) ?_
              refine gs_X12_35_12 E hI ha dX12_laysDown_58 ?_
              refine lv_iload_n hx hb dX12_laysDown_61 rfl (lv_at hl 3 rfl) ?_
              refine lv_iconst (v := 3) hx hb dX12_laysDown_62 zki_3 ?_
              refine lv_iadd hx hb dX12_laysDown_63 ?_
              refine lv_topi (fun z_34 ez_34 => ?_)
              replace hF := q_letX hF ez_34
              have iz_34 := q_addI (A := (94 + 7 * (m_c X σ a 9))) (B := 3) ez_34 ir_2 (by decide) (by first | (clear h6 hlo hh bhpσ_3 chpσ_3 ir_2 iz_5 if_6 hm38 hge38 hn38 kdσ_10 pt ps gc_12_x_9 c_12 pt2 ho hm48 hge48 hn48 kdσ_22 fqf_24 gc_25_x_21 gc_25_f_24 c_25; omega) | omega) (by first | (clear h6 hlo hh bhpσ_3 chpσ_3 ir_2 iz_5 if_6 hm38 hge38 hn38 kdσ_10 pt ps gc_12_x_9 c_12 pt2 ho hm48 hge48 hn48 kdσ_22 fqf_24 gc_25_x_21 gc_25_f_24 c_25; omega) | omega)
              refine lv_iload hx hb dX12_laysDown_64 (lv_at hl 4 rfl) ?_
              refine lv_iadd hx hb dX12_laysDown_66 ?_
              refine lv_topi (fun z_35 ez_35 => ?_)
              replace hF := q_letX hF ez_35
              have iz_35 := q_addI (A := ((94 + 7 * (m_c X σ a 9)) + 3)) (B := x_20.toInt) ez_35 iz_34 rfl (by first | (clear h6 hh bhpσ_3 chpσ_3 ir_2 iz_5 if_6 hm38 hge38 hn38 kdσ_10 gc_12_x_9 c_12 pt2 ho hm48 kdσ_22 fqf_24 gc_25_f_24 c_25 iz_34; omega) | omega) (by first | (clear h6 hh bhpσ_3 chpσ_3 ir_2 iz_5 if_6 hm38 hge38 hn38 kdσ_10 pt gc_12_x_9 c_12 ho hm48 hge48 kdσ_22 gc_25_x_21 gc_25_f_24 iz_34; omega) | omega)
              refine lv_iload hx hb dX12_laysDown_67 (lv_at hl 5 rfl) ?_
              refine q_iastN E hI (q_tk (k' := 34) hI ha rfl (Nat.succ_ne_zero _)) ⟨by decide, rfl⟩ (by first | (clear h6 hh bhpσ_3 chpσ_3 ir_2 iz_5 if_6 hm38 hge38 hn38 kdσ_10 gc_12_x_9 c_12 pt2 ho hm48 kdσ_22 fqf_24 gc_25_f_24 c_25 iz_34; omega) | omega) (by rw [q_lnk (v := 4650) hI (q_tk (k' := 34) hI ha rfl (Nat.succ_ne_zero _)) rfl (by decide)]; omega) (show 1 < 2 by decide) (q_inU rfl) dX12_laysDown_69 (fun H locs σ_36 hσ_36 hI => ?_)
              replace hF := q_letX hF hσ_36
              have fr_σ_36 := fr_σ_22.si hσ_36 (q_tk (k' := 34) hI ha rfl (Nat.succ_ne_zero _)) rfl
              have mcσ_36 := m_wr (v := x_9) (A := (((94 + 7 * (m_c X σ a 9)) + 3) + x_20.toInt)) hσ_36 iz_35 (by first | (clear h6 hh bhpσ_3 chpσ_3 ir_2 iz_5 if_6 hm38 hge38 hn38 kdσ_10 gc_12_x_9 c_12 pt2 ho hm48 kdσ_22 fqf_24 gc_25_f_24 c_25 iz_34; omega) | omega)
              have kdσ_36 : m_KD 40 X σ σ_36 := kdσ_22.ar hσ_36 (q_tk (k' := 34) hI ha rfl (Nat.succ_ne_zero _)) (by decide) (by decide)
              have foσ_36 : ∀ j, σ_36.1 r2 j = σ.1 r2 j := fun j => (q_rdn hσ_36 (Or.inl (m_ne hr2 (q_tk (k' := 34) hI ha rfl (Nat.succ_ne_zero _)) (by decide)))).trans (foσ_22 j)
              have ldσ_36 := ldσ_22.card hL (by first | (clear h6 hc9 hlo hh if_1 bhpσ_3 chpσ_3 ir_2 iz_5 if_6 hm38 hn38 kdσ_10 pt ps gc_12_x_9 pt2 ho hm48 hge48 hn48 kdσ_22 fqf_24 gc_25_x_21 gc_25_f_24 c_25 iz_34 iz_35 kdσ_36; omega) | omega) (by first | (clear h6 hc9 hlo hh if_1 bhpσ_3 chpσ_3 ir_2 iz_5 if_6 hm38 hge38 hn38 kdσ_10 pt ps gc_12_x_9 c_12 pt2 ho hm48 hn48 kdσ_22 gc_25_f_24 iz_34 iz_35 kdσ_36; omega) | omega) mcσ_36 rfl hn48
              obtain ⟨z_37, ez_37⟩ : ∃ y : Int32, y = x_20 + 1 := ⟨_, rfl⟩
              replace hF := q_letX hF ez_37
              refine lv_iinc (v := z_37) (lv' := [(4, .int z_37), (0, .ref a), (1, .int v1), (2, .ref r2), (3, .int r_2), (5, .int x_9), (6, .int x_21)]) hx hb dX12_laysDown_70 hl (k := 4) rfl (by rw [ez_37]; rfl) (by decide) rfl (fun ls hl => ?_)
              have iz_37 : z_37.toInt = x_20.toInt + 1 := q_inc ez_37 (by first | (clear h6 hc9 hh bhpσ_3 chpσ_3 ir_2 iz_5 if_6 hm38 hge38 hn38 kdσ_10 pt gc_12_x_9 c_12 ho hm48 hge48 kdσ_22 gc_25_x_21 gc_25_f_24 iz_34 kdσ_36; omega) | omega)
              obtain ⟨z_38, ez_38⟩ : ∃ y : Int32, y = x_21 + 1 := ⟨_, rfl⟩
              replace hF := q_letX hF ez_38
              refine lv_iinc (v := z_38) (lv' := [(6, .int z_38), (4, .int z_37), (0, .ref a), (1, .int v1), (2, .ref r2), (3, .int r_2), (5, .int x_9)]) hx hb dX12_laysDown_73 hl (k := 6) rfl (by rw [ez_38]; rfl) (by decide) rfl (fun ls hl => ?_)
              have iz_38 : z_38.toInt = x_21.toInt + 1 := q_inc ez_38 (by first | (clear h6 hc9 hlo hh if_1 bhpσ_3 chpσ_3 ir_2 iz_5 if_6 hm38 hge38 hn38 kdσ_10 pt ps gc_12_x_9 c_12 pt2 hm48 hn48 kdσ_22 iz_34 iz_35 kdσ_36 iz_37; omega) | omega)
              refine lv_goto (tgt := 48) hx hb dX12_laysDown_76 (by decide) ?_
              exact ih48 z_37 z_38 σ_36 _ _ ls (by first | (clear h6 hc9 hh bhpσ_3 chpσ_3 ir_2 iz_5 if_6 hm38 hge38 hn38 kdσ_10 gc_12_x_9 c_12 ho kdσ_22 gc_25_f_24 iz_34 kdσ_36; omega) | omega) (by first | (clear h6 hc9 hlo hh if_1 bhpσ_3 chpσ_3 ir_2 iz_5 if_6 hm38 hge38 hn38 kdσ_10 pt ps gc_12_x_9 c_12 pt2 ho hm48 hn48 kdσ_22 gc_25_f_24 iz_34 iz_35 kdσ_36 iz_37; omega) | omega) (by first | (clear h6 hc9 hlo hh bhpσ_3 chpσ_3 ir_2 iz_5 if_6 hm38 hge38 hn38 kdσ_10 pt gc_12_x_9 c_12 pt2 ho hm48 hge48 kdσ_22 fqf_24 gc_25_x_21 gc_25_f_24 c_25 iz_34 kdσ_36; omega) | omega) (by rw [iz_38]; exact ldσ_36) fr_σ_36 kdσ_36 foσ_36 hF hI (lv_sub hl [2, 3, 4, 5, 1, 6, 0] rfl)
        have kc_39 : (0 : Int32).toInt = 0 := zt_0
        exact L_48_23 ((2147483647 - (0 : Int32).toInt).toNat + 1) x_8 0 σ_10 _ _ ls (Nat.lt_succ_self _) (by have q : (0 : Int32).toInt = 0 := rfl; omega) (by have q : (0 : Int32).toInt = 0 := rfl; omega) ldσ_10 fr_σ_10 kdσ_10 foσ_10 hF hI (lv_sub hl [1, 2, 3, 4, 5, 6, 0] rfl)
  have kc_40 : (0 : Int32).toInt = 0 := zt_0
  exact L_38_11 ((2147483647 - (0 : Int32).toInt).toNat + 1) 0 0 σ_7 _ _ ls (Nat.lt_succ_self _) (by decide) rfl ld0 fr_σ_7 kdσ_7 foσ_7 hF hI (lv_sub hl [3, 4, 5, 2, 1, 0] rfl)
end
