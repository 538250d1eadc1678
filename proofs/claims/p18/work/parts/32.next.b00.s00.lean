section
set_option maxRecDepth 100000 in
set_option maxHeartbeats 4000000 in
theorem c_X12_next (l : Launch) (X : XW) (σ : ST) (a : Nat) (ha : q_kd X a = 12) (h0 : 0 ≤ (σ.1 a 16).toInt) (h1 : (σ.1 a 16).toInt ≤ (σ.1 a 9).toInt) (h2 : (σ.1 a 9).toInt ≤ 900) : Met l yX12_next (q_ws yX12_next cX12_next 2 none) (q_rm 1 21) (q_P X σ [.ref a]) (q_Qv X 2 σ (fun (σ' : ST) => (q_KS (fun b g => b = a ∧ 12 ≤ g ∧ g ≤ 18) 9 X σ σ') ∧ (0 ≤ (σ'.1 a 15).toInt ∧ (σ'.1 a 15).toInt ≤ (σ'.1 a 16).toInt ∧ (σ'.1 a 16).toInt ≤ (σ'.1 a 9).toInt ∧ (σ'.1 a 9).toInt ≤ 900 ∧ 0 ≤ (σ'.1 a 14).toInt ∧ (σ'.1 a 14).toInt ≤ 4 ∧ (σ'.1 a 14).toInt ≤ 4 * ((σ'.1 a 16).toInt - (σ'.1 a 15).toInt) ∧ (σ'.1 a 14).toInt ≤ 4 * ((σ'.1 a 9).toInt - (σ'.1 a 15).toInt)) ∧ ((σ'.1 a 9).toInt = (σ.1 a 9).toInt ∧ (σ'.1 a 12).toInt = (σ.1 a 12).toInt ∧ (σ.1 a 16).toInt ≤ (σ'.1 a 15).toInt) ∧ σ' = F_X12_next X σ a ∧ q_ow [(12, 14), (12, 15), (12, 16), (12, 17), (12, 18)] [(12, 19)] X σ σ')) 0 0 (q_reg X) := by
  refine q_met 2 (by first | exact rfl | decide +kernel) rfl (Nat.le_of_ble_eq_true rfl) (fun p e s m below meth c E hml hr hlk hI ls hl => ?_)
  have hx := E.1
  have hb := E.2.1
  have hl : lv_has ls 2 [(0, .ref a)] := hl
  have ks_σ : q_KS (fun b g => b = a ∧ 12 ≤ g ∧ g ≤ 18) 9 X σ σ := q_KS.rf
  have fr_σ : q_ow [(12, 14), (12, 15), (12, 16), (12, 17), (12, 18)] [(12, 19)] X σ σ := q_ow.rf
  obtain ⟨out, hout⟩ : ∃ o, o = F_X12_next X σ a := ⟨_, rfl⟩
  have hF := hout.symm
  unfold F_X12_next at hF
  refine lv_aload_n hx hb dX12_next_0 rfl (lv_at hl 0 rfl) ?_
  refine lv_aload_n hx hb dX12_next_1 rfl (lv_at hl 0 rfl) ?_
  refine gs_X12_101_12 E hI ha dX12_next_2 ?_
  refine lv_topi (fun f_1 ef_1 => ?_)
  replace hF := q_letX hF ef_1
  have if_1 : f_1.toInt = (σ.1 a 16).toInt := congrArg Int32.toInt ef_1
  refine ps_X12_104_12 E hI ha (by decide) dX12_next_5 (fun H locs σ_2 hσ_2 hI => ?_)
  replace hF := q_letX hF hσ_2
  have fr_σ_2 := fr_σ.si hσ_2 ha rfl
  have ks_σ_2 : q_KS (fun b g => b = a ∧ 12 ≤ g ∧ g ≤ 18) 9 X σ σ_2 := ks_σ.siS hσ_2 ⟨rfl, by decide, by decide⟩
  have mv9_σ_2 : (σ_2.1 a 9).toInt = (σ.1 a 9).toInt := congrArg Int32.toInt (q_rdn hσ_2 (Or.inr (by decide)))
  have mv12_σ_2 : (σ_2.1 a 12).toInt = (σ.1 a 12).toInt := congrArg Int32.toInt (q_rdn hσ_2 (Or.inr (by decide)))
  have mv14_σ_2 : (σ_2.1 a 14).toInt = (σ.1 a 14).toInt := congrArg Int32.toInt (q_rdn hσ_2 (Or.inr (by decide)))
  have mv15_σ_2 : (σ_2.1 a 15).toInt = f_1.toInt := congrArg Int32.toInt (q_rd hσ_2)
  have mv16_σ_2 : (σ_2.1 a 16).toInt = (σ.1 a 16).toInt := congrArg Int32.toInt (q_rdn hσ_2 (Or.inr (by decide)))
  have mv17_σ_2 : (σ_2.1 a 17).toInt = (σ.1 a 17).toInt := congrArg Int32.toInt (q_rdn hσ_2 (Or.inr (by decide)))
  have L_8_4 : ∀ (k_4 : Nat)  (σ_3 : ST) (H : Heap) (locs : List Loc) (ls : Array Slot), ((σ_3.1 a 9).toInt - (σ_3.1 a 15).toInt).toNat < k_4 → ((σ_3.1 a 9).toInt = (σ.1 a 9).toInt ∧ (σ_3.1 a 12).toInt = (σ.1 a 12).toInt ∧ (σ.1 a 16).toInt ≤ (σ_3.1 a 15).toInt ∧ (σ_3.1 a 15).toInt ≤ (σ.1 a 9).toInt) → (q_KS (fun b g => b = a ∧ 12 ≤ g ∧ g ≤ 18) 9 X σ σ_3) → (q_ow [(12, 14), (12, 15), (12, 16), (12, 17), (12, 18)] [(12, 19)] X σ σ_3) → (F_X12_next_L8_1 X a k_4 σ_3 = out) → q_I X 2 σ s.heap locs σ_3 H → lv_has ls 2 [(0, .ref a)] → W p l e (q_rm 1 21) s m ([.ref a] : List Value).toArray below meth c H locs 0 0 (MQ below (q_Qv X 2 σ (fun (σ' : ST) => (q_KS (fun b g => b = a ∧ 12 ≤ g ∧ g ≤ 18) 9 X σ σ') ∧ (0 ≤ (σ'.1 a 15).toInt ∧ (σ'.1 a 15).toInt ≤ (σ'.1 a 16).toInt ∧ (σ'.1 a 16).toInt ≤ (σ'.1 a 9).toInt ∧ (σ'.1 a 9).toInt ≤ 900 ∧ 0 ≤ (σ'.1 a 14).toInt ∧ (σ'.1 a 14).toInt ≤ 4 ∧ (σ'.1 a 14).toInt ≤ 4 * ((σ'.1 a 16).toInt - (σ'.1 a 15).toInt) ∧ (σ'.1 a 14).toInt ≤ 4 * ((σ'.1 a 9).toInt - (σ'.1 a 15).toInt)) ∧ ((σ'.1 a 9).toInt = (σ.1 a 9).toInt ∧ (σ'.1 a 12).toInt = (σ.1 a 12).toInt ∧ (σ.1 a 16).toInt ≤ (σ'.1 a 15).toInt) ∧ σ' = F_X12_next X σ a ∧ q_ow [(12, 14), (12, 15), (12, 16), (12, 17), (12, 18)] [(12, 19)] X σ σ')) ([.ref a] : List Value).toArray s 0 0 (q_reg X)) (F0 m 8 ls []) := by
    clear hF
    intro k_4
    induction k_4 with
    | zero =>
      intro σ_3 H locs ls hms
      try clear fr_σ; try clear fr_σ_2; try clear mv9_σ_2; try clear mv12_σ_2; try clear mv14_σ_2; try clear mv15_σ_2; try clear mv16_σ_2; try clear mv17_σ_2
      exact absurd hms (Nat.not_lt_zero _)
    | succ k_4 ih8 =>
      intro σ_3 H locs ls hm8 e8σ_3 ks_σ_3 fr_σ_3 hF hI hl
      replace hF := (F_X12_next_L8_1_s).symm.trans hF
      unfold F_X12_next_B8_1 at hF
      refine lv_aload_n hx hb dX12_next_8 rfl (lv_at hl 0 rfl) ?_
      refine gs_X12_104_12 E hI ha dX12_next_9 ?_
      refine lv_topi (fun f_5 ef_5 => ?_)
      replace hF := q_letX hF ef_5
      have if_5 : f_5.toInt = (σ_3.1 a 15).toInt := congrArg Int32.toInt ef_5
      refine lv_aload_n hx hb dX12_next_12 rfl (lv_at hl 0 rfl) ?_
      refine gs_X12_98_12 E hI ha dX12_next_13 ?_
      refine lv_topi (fun f_6 ef_6 => ?_)
      replace hF := q_letX hF ef_6
      have if_6 : f_6.toInt = (σ_3.1 a 9).toInt := congrArg Int32.toInt ef_6
      have J_58_6 : ∀  (H : Heap) (locs : List Loc) (ls : Array Slot), (F_X12_next_J58_2 X σ_3 a = out) → q_I X 2 σ s.heap locs σ_3 H → lv_has ls 2 [(0, .ref a)] → W p l e (q_rm 1 21) s m ([.ref a] : List Value).toArray below meth c H locs 0 0 (MQ below (q_Qv X 2 σ (fun (σ' : ST) => (q_KS (fun b g => b = a ∧ 12 ≤ g ∧ g ≤ 18) 9 X σ σ') ∧ (0 ≤ (σ'.1 a 15).toInt ∧ (σ'.1 a 15).toInt ≤ (σ'.1 a 16).toInt ∧ (σ'.1 a 16).toInt ≤ (σ'.1 a 9).toInt ∧ (σ'.1 a 9).toInt ≤ 900 ∧ 0 ≤ (σ'.1 a 14).toInt ∧ (σ'.1 a 14).toInt ≤ 4 ∧ (σ'.1 a 14).toInt ≤ 4 * ((σ'.1 a 16).toInt - (σ'.1 a 15).toInt) ∧ (σ'.1 a 14).toInt ≤ 4 * ((σ'.1 a 9).toInt - (σ'.1 a 15).toInt)) ∧ ((σ'.1 a 9).toInt = (σ.1 a 9).toInt ∧ (σ'.1 a 12).toInt = (σ.1 a 12).toInt ∧ (σ.1 a 16).toInt ≤ (σ'.1 a 15).toInt) ∧ σ' = F_X12_next X σ a ∧ q_ow [(12, 14), (12, 15), (12, 16), (12, 17), (12, 18)] [(12, 19)] X σ σ')) ([.ref a] : List Value).toArray s 0 0 (q_reg X)) (F0 m 58 ls []) := by
        clear hF
        intro  H locs ls  hF hI hl
        unfold F_X12_next_J58_2 at hF
        refine lv_aload_n hx hb dX12_next_58 rfl (lv_at hl 0 rfl) ?_
        refine lv_aload_n hx hb dX12_next_59 rfl (lv_at hl 0 rfl) ?_
        refine gs_X12_104_12 E hI ha dX12_next_60 ?_
        refine lv_topi (fun f_7 ef_7 => ?_)
        replace hF := q_letX hF ef_7
        have if_7 : f_7.toInt = (σ_3.1 a 15).toInt := congrArg Int32.toInt ef_7
        refine ps_X12_101_12 E hI ha (by decide) dX12_next_63 (fun H locs σ_8 hσ_8 hI => ?_)
        replace hF := q_letX hF hσ_8
        have fr_σ_8 := fr_σ_3.si hσ_8 ha rfl
        have ks_σ_8 : q_KS (fun b g => b = a ∧ 12 ≤ g ∧ g ≤ 18) 9 X σ σ_8 := ks_σ_3.siS hσ_8 ⟨rfl, by decide, by decide⟩
        have mv9_σ_8 : (σ_8.1 a 9).toInt = (σ_3.1 a 9).toInt := congrArg Int32.toInt (q_rdn hσ_8 (Or.inr (by decide)))
        have mv12_σ_8 : (σ_8.1 a 12).toInt = (σ_3.1 a 12).toInt := congrArg Int32.toInt (q_rdn hσ_8 (Or.inr (by decide)))
        have mv14_σ_8 : (σ_8.1 a 14).toInt = (σ_3.1 a 14).toInt := congrArg Int32.toInt (q_rdn hσ_8 (Or.inr (by decide)))
        have mv15_σ_8 : (σ_8.1 a 15).toInt = (σ_3.1 a 15).toInt := congrArg Int32.toInt (q_rdn hσ_8 (Or.inr (by decide)))
        have mv16_σ_8 : (σ_8.1 a 16).toInt = f_7.toInt := congrArg Int32.toInt (q_rd hσ_8)
        have mv17_σ_8 : (σ_8.1 a 17).toInt = (σ_3.1 a 17).toInt := congrArg Int32.toInt (q_rdn hσ_8 (Or.inr (by decide)))
        refine lv_aload_n hx hb dX12_next_66 rfl (lv_at hl 0 rfl) ?_
        refine gs_X12_104_12 E hI ha dX12_next_67 ?_
        refine lv_topi (fun f_9 ef_9 => ?_)
        replace hF := q_letX hF ef_9
        have if_9 : f_9.toInt = (σ_8.1 a 15).toInt := congrArg Int32.toInt ef_9
        refine lv_aload_n hx hb dX12_next_70 rfl (lv_at hl 0 rfl) ?_
        refine gs_X12_98_12 E hI ha dX12_next_71 ?_
        refine lv_topi (fun f_10 ef_10 => ?_)
        replace hF := q_letX hF ef_10
        have if_10 : f_10.toInt = (σ_8.1 a 9).toInt := congrArg Int32.toInt ef_10
        have gc_11_f_9 := q_rng f_9
        have gc_11_f_10 := q_rng f_10
        refine q_icmp_lt (A := f_9.toInt) (B := f_10.toInt) E rfl rfl (tgt := 83) dX12_next_74 (by decide) (fun c_11 => ?_) (fun c_11 => ?_)
        · skip
          replace hF := q_ifp hF c_11
          refine lv_aload_n hx hb dX12_next_83 rfl (lv_at hl 0 rfl) ?_
          refine lv_aload_n hx hb dX12_next_84 rfl (lv_at hl 0 rfl) ?_
          refine gs_X12_104_12 E hI ha dX12_next_85 ?_
          refine lv_topi (fun f_12 ef_12 => ?_)
          replace hF := q_letX hF ef_12
          have if_12 : f_12.toInt = (σ_8.1 a 15).toInt := congrArg Int32.toInt ef_12
          refine q_ci (q_rV11_1 (rest := []) E (hml.trans hl.1.symm) hI (c_X12_look2 l X σ_8 a f_12 ha (by first | (clear h0 h1 h2 hm8 if_6 mv9_σ_8 mv12_σ_8 mv14_σ_8 mv17_σ_8 if_10 gc_11_f_10 c_11; omega) | omega) (by first | (clear h0 h1 h2 if_1 hm8 if_5 if_7 mv12_σ_8 mv14_σ_8 mv15_σ_8 mv16_σ_8 mv17_σ_8 if_9 gc_11_f_9 c_11 if_12; omega) | omega)) kv_X12_107 ha ⟨Nat.le_of_ble_eq_true rfl, Nat.le_of_ble_eq_true rfl⟩ (Nat.le_of_ble_eq_true rfl) dX12_next_88) hI (Nat.le_of_ble_eq_true rfl) (fun r_13 σ_14 H locs hpσ_14 hkσ_14 hI => ?_)
          have ahpσ_14 := hpσ_14.1
          have bhpσ_14 := hpσ_14.2.1
          have chpσ_14 := hpσ_14.2.2.1
          have dhpσ_14 := hpσ_14.2.2.2
          clear hpσ_14
          replace hI := q_Irw ahpσ_14 hI
          replace hF := q_letX hF dhpσ_14
          have lkx : r_13.toInt = m_look X σ a f_12.toInt := bhpσ_14.trans (m_lookK ks_σ_8 hI.1 ha (fun b g h => ⟨h.1, by omega⟩) _)
          obtain ⟨xat, hxat⟩ : ∃ y : Int, y = f_12.toInt := ⟨_, rfl⟩
          rw [← hxat] at lkx
          refine lv_istore_n (lv' := [(1, .int r_13), (0, .ref a)]) hx hb dX12_next_91 rfl hl (by decide) rfl (fun ls hl => ?_)
          refine lv_iload_n hx hb dX12_next_92 rfl (lv_at hl 0 rfl) ?_
          refine q_ci (q_runS (As := [.int r_13]) (rest := []) E (hml.trans hl.1.symm) hI (c_X12_isLetter l X σ_8 r_13) ks_X12_113 rfl ⟨Nat.le_of_ble_eq_true rfl, Nat.le_of_ble_eq_true rfl⟩ ⟨Nat.le_refl _, Nat.le_refl _⟩ rfl (Nat.le_of_ble_eq_true rfl) dX12_next_93) hI (Nat.le_of_ble_eq_true rfl) (fun r_15 σ_16 H locs hpσ_16 hkσ_16 hI => ?_)
          have ahpσ_16 := hpσ_16.1
          have bhpσ_16 := hpσ_16.2.1
          have chpσ_16 := hpσ_16.2.2.1
          have dhpσ_16 := hpσ_16.2.2.2
          clear hpσ_16
          replace hI := q_Irw ahpσ_16 hI
          replace hF := q_letX hF dhpσ_16
          refine q_if_eq (A := r_15.toInt) E rfl (tgt := 198) dX12_next_96 (by decide) (fun c_17 => ?_) (fun c_17 => ?_)
          · skip
            replace hF := q_ifp hF c_17
            replace chpσ_16 := q_ifNo chpσ_16 c_17
            refine lv_iload_n hx hb dX12_next_198 rfl (lv_at hl 0 rfl) ?_
            refine q_ci (q_runS (As := [.int r_13]) (rest := []) E (hml.trans hl.1.symm) hI (c_X12_isDigit l X σ_8 r_13) ks_X12_126 rfl ⟨Nat.le_of_ble_eq_true rfl, Nat.le_of_ble_eq_true rfl⟩ ⟨Nat.le_refl _, Nat.le_refl _⟩ rfl (Nat.le_of_ble_eq_true rfl) dX12_next_199) hI (Nat.le_of_ble_eq_true rfl) (fun r_18 σ_19 H locs hpσ_19 hkσ_19 hI => ?_)
            have ahpσ_19 := hpσ_19.1
            have bhpσ_19 := hpσ_19.2.1
            have chpσ_19 := hpσ_19.2.2.1
            have dhpσ_19 := hpσ_19.2.2.2
            clear hpσ_19
            replace hI := q_Irw ahpσ_19 hI
            replace hF := q_letX hF dhpσ_19
            refine q_if_eq (A := r_18.toInt) E rfl (tgt := 298) dX12_next_202 (by decide) (fun c_20 => ?_) (fun c_20 => ?_)
            · skip
              replace hF := q_ifp hF c_20
              replace chpσ_19 := q_ifNo chpσ_19 c_20
              refine lv_aload_n hx hb dX12_next_298 rfl (lv_at hl 1 rfl) ?_
              refine lv_aload_n hx hb dX12_next_299 rfl (lv_at hl 1 rfl) ?_
              refine gs_X12_104_12 E hI ha dX12_next_300 ?_
              refine lv_topi (fun f_21 ef_21 => ?_)
              replace hF := q_letX hF ef_21
              have if_21 : f_21.toInt = (σ_8.1 a 15).toInt := congrArg Int32.toInt ef_21
              refine lv_iconst (v := 1) hx hb dX12_next_303 zki_1 ?_
              refine lv_iadd hx hb dX12_next_304 ?_
              refine lv_topi (fun z_22 ez_22 => ?_)
              replace hF := q_letX hF ez_22
              have iz_22 := q_addI (A := f_21.toInt) (B := 1) ez_22 rfl (by decide) (by first | (clear h0 h1 h2 if_1 hm8 e8σ_3 if_6 mv9_σ_8 mv12_σ_8 mv14_σ_8 mv17_σ_8 if_10 gc_11_f_10 c_11 ahpσ_14 bhpσ_14 chpσ_14 dhpσ_14 lkx ahpσ_16 bhpσ_16 dhpσ_16 c_17 chpσ_16 ahpσ_19 bhpσ_19 dhpσ_19 c_20 chpσ_19; omega) | omega) (by first | (clear h0 h1 h2 hm8 mv12_σ_8 mv14_σ_8 mv17_σ_8 ahpσ_14 bhpσ_14 chpσ_14 dhpσ_14 lkx ahpσ_16 bhpσ_16 dhpσ_16 c_17 chpσ_16 ahpσ_19 bhpσ_19 dhpσ_19 c_20 chpσ_19; omega) | omega)
              refine ps_X12_101_12 E hI ha (by decide) dX12_next_305 (fun H locs σ_23 hσ_23 hI => ?_)
              replace hF := q_letX hF hσ_23
              have fr_σ_23 := fr_σ_8.si hσ_23 ha rfl
              have ks_σ_23 : q_KS (fun b g => b = a ∧ 12 ≤ g ∧ g ≤ 18) 9 X σ σ_23 := ks_σ_8.siS hσ_23 ⟨rfl, by decide, by decide⟩
              have mv9_σ_23 : (σ_23.1 a 9).toInt = (σ_8.1 a 9).toInt := congrArg Int32.toInt (q_rdn hσ_23 (Or.inr (by decide)))
              have mv12_σ_23 : (σ_23.1 a 12).toInt = (σ_8.1 a 12).toInt := congrArg Int32.toInt (q_rdn hσ_23 (Or.inr (by decide)))
              have mv14_σ_23 : (σ_23.1 a 14).toInt = (σ_8.1 a 14).toInt := congrArg Int32.toInt (q_rdn hσ_23 (Or.inr (by decide)))
              have mv15_σ_23 : (σ_23.1 a 15).toInt = (σ_8.1 a 15).toInt := congrArg Int32.toInt (q_rdn hσ_23 (Or.inr (by decide)))
              have mv16_σ_23 : (σ_23.1 a 16).toInt = z_22.toInt := congrArg Int32.toInt (q_rd hσ_23)
              have mv17_σ_23 : (σ_23.1 a 17).toInt = (σ_8.1 a 17).toInt := congrArg Int32.toInt (q_rdn hσ_23 (Or.inr (by decide)))
              refine lv_aload_n hx hb dX12_next_308 rfl (lv_at hl 1 rfl) ?_
              refine lv_iload_n hx hb dX12_next_309 rfl (lv_at hl 0 rfl) ?_
              refine ps_X12_129_12 E hI ha (by decide) dX12_next_310 (fun H locs σ_24 hσ_24 hI => ?_)
              replace hF := q_letX hF hσ_24
              have fr_σ_24 := fr_σ_23.si hσ_24 ha rfl
              have ks_σ_24 : q_KS (fun b g => b = a ∧ 12 ≤ g ∧ g ≤ 18) 9 X σ σ_24 := ks_σ_23.siS hσ_24 ⟨rfl, by decide, by decide⟩
              have mv9_σ_24 : (σ_24.1 a 9).toInt = (σ_23.1 a 9).toInt := congrArg Int32.toInt (q_rdn hσ_24 (Or.inr (by decide)))
              have mv12_σ_24 : (σ_24.1 a 12).toInt = (σ_23.1 a 12).toInt := congrArg Int32.toInt (q_rdn hσ_24 (Or.inr (by decide)))
              have mv14_σ_24 : (σ_24.1 a 14).toInt = (σ_23.1 a 14).toInt := congrArg Int32.toInt (q_rdn hσ_24 (Or.inr (by decide)))
              have mv15_σ_24 : (σ_24.1 a 15).toInt = (σ_23.1 a 15).toInt := congrArg Int32.toInt (q_rdn hσ_24 (Or.inr (by decide)))
              have mv16_σ_24 : (σ_24.1 a 16).toInt = (σ_23.1 a 16).toInt := congrArg Int32.toInt (q_rdn hσ_24 (Or.inr (by decide)))
              have mv17_σ_24 : (σ_24.1 a 17).toInt = r_13.toInt := congrArg Int32.toInt (q_rd hσ_24)
              refine lv_aload_n hx hb dX12_next_313 rfl (lv_at hl 1 rfl) ?_
              refine lv_aload_n hx hb dX12_next_314 rfl (lv_at hl 1 rfl) ?_
              refine lv_iload_n hx hb dX12_next_315 rfl (lv_at hl 0 rfl) ?_
              refine q_ci (q_rV11_1 (rest := [.ref a]) E (hml.trans hl.1.symm) hI (c_X12_isSignByte l X σ_24 a r_13 ha) kv_X12_132 ha ⟨Nat.le_of_ble_eq_true rfl, Nat.le_of_ble_eq_true rfl⟩ (Nat.le_of_ble_eq_true rfl) dX12_next_316) hI (Nat.le_of_ble_eq_true rfl) (fun r_25 σ_26 H locs hpσ_26 hkσ_26 hI => ?_)
              have ahpσ_26 := hpσ_26.1
              have bhpσ_26 := hpσ_26.2.1
              have chpσ_26 := hpσ_26.2.2
              clear hpσ_26
              replace hI := q_Irw ahpσ_26 hI
              replace hF := q_letX hF chpσ_26
              refine q_if_eq (A := r_25.toInt) E rfl (tgt := 326) dX12_next_319 (by decide) (fun c_27 => ?_) (fun c_27 => ?_)
              · skip
                replace hF := q_ifp hF c_27
                refine lv_iconst (v := 4) hx hb dX12_next_326 zki_4 ?_
                refine ps_X12_110_12 E hI ha (by decide) dX12_next_327 (fun H locs σ_28 hσ_28 hI => ?_)
                replace hF := q_letX hF hσ_28
                have fr_σ_28 := fr_σ_24.si hσ_28 ha rfl
                have ks_σ_28 : q_KS (fun b g => b = a ∧ 12 ≤ g ∧ g ≤ 18) 9 X σ σ_28 := ks_σ_24.siS hσ_28 ⟨rfl, by decide, by decide⟩
                have mv9_σ_28 : (σ_28.1 a 9).toInt = (σ_24.1 a 9).toInt := congrArg Int32.toInt (q_rdn hσ_28 (Or.inr (by decide)))
                have mv12_σ_28 : (σ_28.1 a 12).toInt = (σ_24.1 a 12).toInt := congrArg Int32.toInt (q_rdn hσ_28 (Or.inr (by decide)))
                have mv14_σ_28 : (σ_28.1 a 14).toInt = 4 := by rw [q_rd hσ_28]; rfl
                have mv15_σ_28 : (σ_28.1 a 15).toInt = (σ_24.1 a 15).toInt := congrArg Int32.toInt (q_rdn hσ_28 (Or.inr (by decide)))
                have mv16_σ_28 : (σ_28.1 a 16).toInt = (σ_24.1 a 16).toInt := congrArg Int32.toInt (q_rdn hσ_28 (Or.inr (by decide)))
                have mv17_σ_28 : (σ_28.1 a 17).toInt = (σ_24.1 a 17).toInt := congrArg Int32.toInt (q_rdn hσ_28 (Or.inr (by decide)))
                exact q_retv E hr hlk hI ⟨ks_σ_28, (by first | (clear h0 h1 h2 hm8 mv12_σ_8 mv14_σ_8 mv17_σ_8 ahpσ_14 bhpσ_14 chpσ_14 dhpσ_14 lkx ahpσ_16 bhpσ_16 dhpσ_16 c_17 chpσ_16 ahpσ_19 bhpσ_19 dhpσ_19 c_20 chpσ_19 mv12_σ_23 mv14_σ_23 mv17_σ_23 mv12_σ_24 mv14_σ_24 mv17_σ_24 ahpσ_26 bhpσ_26 chpσ_26 c_27 mv12_σ_28 mv17_σ_28; omega) | omega), (by first | (clear h0 h1 h2 hm8 mv14_σ_8 mv17_σ_8 gc_11_f_9 gc_11_f_10 c_11 ahpσ_14 bhpσ_14 chpσ_14 dhpσ_14 lkx ahpσ_16 bhpσ_16 dhpσ_16 c_17 chpσ_16 ahpσ_19 bhpσ_19 dhpσ_19 c_20 chpσ_19 mv14_σ_23 mv17_σ_23 mv14_σ_24 mv17_σ_24 ahpσ_26 bhpσ_26 chpσ_26 c_27 mv14_σ_28 mv17_σ_28; omega) | omega), (hF.trans hout), fr_σ_28⟩ dX12_next_330
              · skip
                replace hF := q_ifn hF c_27
                replace c_27 := q_ifOne bhpσ_26 c_27
                refine lv_iconst (v := 3) hx hb dX12_next_322 zki_3 ?_
                refine lv_goto (tgt := 327) hx hb dX12_next_323 (by decide) ?_
                refine ps_X12_110_12 E hI ha (by decide) dX12_next_327 (fun H locs σ_29 hσ_29 hI => ?_)
                replace hF := q_letX hF hσ_29
                have fr_σ_29 := fr_σ_24.si hσ_29 ha rfl
                have ks_σ_29 : q_KS (fun b g => b = a ∧ 12 ≤ g ∧ g ≤ 18) 9 X σ σ_29 := ks_σ_24.siS hσ_29 ⟨rfl, by decide, by decide⟩
                have mv9_σ_29 : (σ_29.1 a 9).toInt = (σ_24.1 a 9).toInt := congrArg Int32.toInt (q_rdn hσ_29 (Or.inr (by decide)))
                have mv12_σ_29 : (σ_29.1 a 12).toInt = (σ_24.1 a 12).toInt := congrArg Int32.toInt (q_rdn hσ_29 (Or.inr (by decide)))
                have mv14_σ_29 : (σ_29.1 a 14).toInt = 3 := by rw [q_rd hσ_29]; rfl
                have mv15_σ_29 : (σ_29.1 a 15).toInt = (σ_24.1 a 15).toInt := congrArg Int32.toInt (q_rdn hσ_29 (Or.inr (by decide)))
                have mv16_σ_29 : (σ_29.1 a 16).toInt = (σ_24.1 a 16).toInt := congrArg Int32.toInt (q_rdn hσ_29 (Or.inr (by decide)))
                have mv17_σ_29 : (σ_29.1 a 17).toInt = (σ_24.1 a 17).toInt := congrArg Int32.toInt (q_rdn hσ_29 (Or.inr (by decide)))
                exact q_retv E hr hlk hI ⟨ks_σ_29, (by first | (clear h0 h1 h2 hm8 mv12_σ_8 mv14_σ_8 mv17_σ_8 ahpσ_14 bhpσ_14 chpσ_14 dhpσ_14 lkx ahpσ_16 bhpσ_16 dhpσ_16 c_17 chpσ_16 ahpσ_19 bhpσ_19 dhpσ_19 c_20 chpσ_19 mv12_σ_23 mv14_σ_23 mv17_σ_23 mv12_σ_24 mv14_σ_24 mv17_σ_24 ahpσ_26 bhpσ_26 chpσ_26 c_27 mv12_σ_29 mv17_σ_29; omega) | omega), (by first | (clear h0 h1 h2 hm8 mv14_σ_8 mv17_σ_8 gc_11_f_9 gc_11_f_10 c_11 ahpσ_14 bhpσ_14 chpσ_14 dhpσ_14 lkx ahpσ_16 bhpσ_16 dhpσ_16 c_17 chpσ_16 ahpσ_19 bhpσ_19 dhpσ_19 c_20 chpσ_19 mv14_σ_23 mv17_σ_23 mv14_σ_24 mv17_σ_24 ahpσ_26 bhpσ_26 chpσ_26 c_27 mv14_σ_29 mv17_σ_29; omega) | omega), (hF.trans hout), fr_σ_29⟩ dX12_next_330
            · skip
              replace hF := q_ifn hF c_20
              replace c_20 := q_ifOne bhpσ_19 c_20
              replace chpσ_19 := q_ifYes chpσ_19 c_20
              refine lv_aload_n hx hb dX12_next_205 rfl (lv_at hl 1 rfl) ?_
              refine lv_iconst (v := 0) hx hb dX12_next_206 zki_0 ?_
              refine ps_X12_129_12 E hI ha (by decide) dX12_next_207 (fun H locs σ_30 hσ_30 hI => ?_)
              replace hF := q_letX hF hσ_30
              have fr_σ_30 := fr_σ_8.si hσ_30 ha rfl
              have ks_σ_30 : q_KS (fun b g => b = a ∧ 12 ≤ g ∧ g ≤ 18) 9 X σ σ_30 := ks_σ_8.siS hσ_30 ⟨rfl, by decide, by decide⟩
              have mv9_σ_30 : (σ_30.1 a 9).toInt = (σ_8.1 a 9).toInt := congrArg Int32.toInt (q_rdn hσ_30 (Or.inr (by decide)))
              have mv12_σ_30 : (σ_30.1 a 12).toInt = (σ_8.1 a 12).toInt := congrArg Int32.toInt (q_rdn hσ_30 (Or.inr (by decide)))
              have mv14_σ_30 : (σ_30.1 a 14).toInt = (σ_8.1 a 14).toInt := congrArg Int32.toInt (q_rdn hσ_30 (Or.inr (by decide)))
              have mv15_σ_30 : (σ_30.1 a 15).toInt = (σ_8.1 a 15).toInt := congrArg Int32.toInt (q_rdn hσ_30 (Or.inr (by decide)))
              have mv16_σ_30 : (σ_30.1 a 16).toInt = (σ_8.1 a 16).toInt := congrArg Int32.toInt (q_rdn hσ_30 (Or.inr (by decide)))
              have mv17_σ_30 : (σ_30.1 a 17).toInt = 0 := by rw [q_rd hσ_30]; rfl
              have L_210_32 : ∀ (k_32 : Nat)  (σ_31 : ST) (H : Heap) (locs : List Loc) (ls : Array Slot), ((σ_31.1 a 9).toInt - (σ_31.1 a 16).toInt).toNat < k_32 → ((σ_31.1 a 9).toInt = (σ.1 a 9).toInt ∧ (σ_31.1 a 12).toInt = (σ.1 a 12).toInt ∧ (σ.1 a 16).toInt ≤ (σ_31.1 a 15).toInt ∧ (σ_31.1 a 15).toInt ≤ (σ_31.1 a 16).toInt ∧ (σ_31.1 a 15).toInt < (σ.1 a 9).toInt ∧ (σ_31.1 a 16).toInt ≤ (σ.1 a 9).toInt) → ((σ_31.1 a 15).toInt < (σ_31.1 a 16).toInt ∨ (48 ≤ m_look X σ a (σ_31.1 a 16).toInt ∧ m_look X σ a (σ_31.1 a 16).toInt ≤ 57)) → (q_KS (fun b g => b = a ∧ 12 ≤ g ∧ g ≤ 18) 9 X σ σ_31) → (q_ow [(12, 14), (12, 15), (12, 16), (12, 17), (12, 18)] [(12, 19)] X σ σ_31) → (F_X12_next_L210_3 X a k_32 σ_31 = out) → q_I X 2 σ s.heap locs σ_31 H → lv_has ls 2 [(0, .ref a), (1, .int r_13)] → W p l e (q_rm 1 21) s m ([.ref a] : List Value).toArray below meth c H locs 0 0 (MQ below (q_Qv X 2 σ (fun (σ' : ST) => (q_KS (fun b g => b = a ∧ 12 ≤ g ∧ g ≤ 18) 9 X σ σ') ∧ (0 ≤ (σ'.1 a 15).toInt ∧ (σ'.1 a 15).toInt ≤ (σ'.1 a 16).toInt ∧ (σ'.1 a 16).toInt ≤ (σ'.1 a 9).toInt ∧ (σ'.1 a 9).toInt ≤ 900 ∧ 0 ≤ (σ'.1 a 14).toInt ∧ (σ'.1 a 14).toInt ≤ 4 ∧ (σ'.1 a 14).toInt ≤ 4 * ((σ'.1 a 16).toInt - (σ'.1 a 15).toInt) ∧ (σ'.1 a 14).toInt ≤ 4 * ((σ'.1 a 9).toInt - (σ'.1 a 15).toInt)) ∧ ((σ'.1 a 9).toInt = (σ.1 a 9).toInt ∧ (σ'.1 a 12).toInt = (σ.1 a 12).toInt ∧ (σ.1 a 16).toInt ≤ (σ'.1 a 15).toInt) ∧ σ' = F_X12_next X σ a ∧ q_ow [(12, 14), (12, 15), (12, 16), (12, 17), (12, 18)] [(12, 19)] X σ σ')) ([.ref a] : List Value).toArray s 0 0 (q_reg X)) (F0 m 210 ls []) := by
                clear hF
                intro k_32
                induction k_32 with
                | zero =>
                  intro σ_31 H locs ls hms
                  try clear fr_σ_3; try clear fr_σ_30; try clear mv9_σ_30; try clear mv12_σ_30; try clear mv14_σ_30; try clear mv15_σ_30; try clear mv16_σ_30; try clear mv17_σ_30
                  exact absurd hms (Nat.not_lt_zero _)
                | succ k_32 ih210 =>
                  intro σ_31 H locs ls hm210 e210σ_31 f210σ_31 ks_σ_31 fr_σ_31 hF hI hl
                  replace hF := (F_X12_next_L210_3_s).symm.trans hF
                  unfold F_X12_next_B210_3 at hF
                  refine lv_aload_n hx hb dX12_next_210 rfl (lv_at hl 0 rfl) ?_
                  refine lv_aload_n hx hb dX12_next_211 rfl (lv_at hl 0 rfl) ?_
                  refine gs_X12_101_12 E hI ha dX12_next_212 ?_
                  refine lv_topi (fun f_33 ef_33 => ?_)
                  replace hF := q_letX hF ef_33
                  have if_33 : f_33.toInt = (σ_31.1 a 16).toInt := congrArg Int32.toInt ef_33
                  refine q_ci (q_rV11_1 (rest := []) E (hml.trans hl.1.symm) hI (c_X12_look2 l X σ_31 a f_33 ha (by first | (clear h0 h1 h2 hm8 e8σ_3 if_5 if_6 if_7 mv9_σ_8 mv12_σ_8 mv14_σ_8 mv15_σ_8 mv16_σ_8 mv17_σ_8 if_9 if_10 gc_11_f_9 gc_11_f_10 c_11 if_12 ahpσ_14 bhpσ_14 chpσ_14 dhpσ_14 lkx hxat ahpσ_16 bhpσ_16 dhpσ_16 c_17 chpσ_16 ahpσ_19 bhpσ_19 dhpσ_19 c_20 chpσ_19 hm210 f210σ_31; omega) | omega) (by first | (clear h0 h1 h2 if_1 hm8 if_5 if_7 mv12_σ_8 mv14_σ_8 mv15_σ_8 mv16_σ_8 mv17_σ_8 if_9 gc_11_f_9 c_11 if_12 ahpσ_14 bhpσ_14 chpσ_14 dhpσ_14 lkx hxat ahpσ_16 bhpσ_16 dhpσ_16 c_17 chpσ_16 ahpσ_19 bhpσ_19 dhpσ_19 c_20 chpσ_19 hm210 f210σ_31 if_33; omega) | omega)) kv_X12_107 ha ⟨Nat.le_of_ble_eq_true rfl, Nat.le_of_ble_eq_true rfl⟩ (Nat.le_of_ble_eq_true rfl) dX12_next_215) hI (Nat.le_of_ble_eq_true rfl) (fun r_34 σ_35 H locs hpσ_35 hkσ_35 hI => ?_)
                  have ahpσ_35 := hpσ_35.1
                  have bhpσ_35 := hpσ_35.2.1
                  have chpσ_35 := hpσ_35.2.2.1
                  have dhpσ_35 := hpσ_35.2.2.2
                  clear hpσ_35
                  replace hI := q_Irw ahpσ_35 hI
                  replace hF := q_letX hF dhpσ_35
                  have lbr_34 : r_34.toInt = m_look X σ a f_33.toInt := bhpσ_35.trans (m_lookK ks_σ_31 hI.1 ha (fun b g h => ⟨h.1, by omega⟩) _)
                  have lcr_34 : f_33.toInt = (σ_31.1 a 16).toInt := if_33
                  rw [lcr_34] at lbr_34
                  have ldr_34 := fun h => m_look_lt (X := X) (σ := σ) (a := a) (p := (σ_31.1 a 16).toInt) h
                  refine q_ci (q_runS (As := [.int r_34]) (rest := []) E (hml.trans hl.1.symm) hI (c_X12_isDigit l X σ_31 r_34) ks_X12_126 rfl ⟨Nat.le_of_ble_eq_true rfl, Nat.le_of_ble_eq_true rfl⟩ ⟨Nat.le_refl _, Nat.le_refl _⟩ rfl (Nat.le_of_ble_eq_true rfl) dX12_next_218) hI (Nat.le_of_ble_eq_true rfl) (fun r_36 σ_37 H locs hpσ_37 hkσ_37 hI => ?_)
                  have ahpσ_37 := hpσ_37.1
                  have bhpσ_37 := hpσ_37.2.1
                  have chpσ_37 := hpσ_37.2.2.1
                  have dhpσ_37 := hpσ_37.2.2.2
                  clear hpσ_37
                  replace hI := q_Irw ahpσ_37 hI
                  replace hF := q_letX hF dhpσ_37
                  refine q_if_eq (A := r_36.toInt) E rfl (tgt := 273) dX12_next_221 (by decide) (fun c_38 => ?_) (fun c_38 => ?_)
                  · skip
                    replace hF := q_ifp hF c_38
                    replace chpσ_37 := q_ifNo chpσ_37 c_38
                    unfold F_X12_next_E273_4 at hF
                    refine lv_aload_n hx hb dX12_next_273 rfl (lv_at hl 0 rfl) ?_
                    refine lv_aload_n hx hb dX12_next_274 rfl (lv_at hl 0 rfl) ?_
                    refine gs_X12_101_12 E hI ha dX12_next_275 ?_
                    refine lv_topi (fun f_39 ef_39 => ?_)
                    replace hF := q_letX hF ef_39
                    have if_39 : f_39.toInt = (σ_31.1 a 16).toInt := congrArg Int32.toInt ef_39
                    refine lv_aload_n hx hb dX12_next_278 rfl (lv_at hl 0 rfl) ?_
                    refine gs_X12_104_12 E hI ha dX12_next_279 ?_
                    refine lv_topi (fun f_40 ef_40 => ?_)
                    replace hF := q_letX hF ef_40
                    have if_40 : f_40.toInt = (σ_31.1 a 15).toInt := congrArg Int32.toInt ef_40
                    refine lv_isub hx hb dX12_next_282 ?_
                    refine lv_topi (fun z_41 ez_41 => ?_)
                    replace hF := q_letX hF ez_41
                    have iz_41 := q_subI (A := f_39.toInt) (B := f_40.toInt) ez_41 rfl rfl (by first | (clear h0 h1 h2 if_1 hm8 e8σ_3 if_5 if_6 if_7 mv9_σ_8 mv12_σ_8 mv14_σ_8 mv15_σ_8 mv16_σ_8 mv17_σ_8 if_9 if_10 gc_11_f_9 gc_11_f_10 c_11 if_12 ahpσ_14 bhpσ_14 chpσ_14 dhpσ_14 lkx hxat ahpσ_16 bhpσ_16 dhpσ_16 c_17 chpσ_16 ahpσ_19 bhpσ_19 dhpσ_19 c_20 chpσ_19 hm210 f210σ_31 ahpσ_35 bhpσ_35 chpσ_35 dhpσ_35 lbr_34 ldr_34 ahpσ_37 bhpσ_37 dhpσ_37 c_38 chpσ_37; omega) | omega) (by first | (clear h0 h1 h2 hm8 mv12_σ_8 mv14_σ_8 mv17_σ_8 ahpσ_14 bhpσ_14 chpσ_14 dhpσ_14 lkx ahpσ_16 bhpσ_16 dhpσ_16 c_17 chpσ_16 ahpσ_19 bhpσ_19 dhpσ_19 c_20 chpσ_19 hm210 f210σ_31 ahpσ_35 bhpσ_35 chpσ_35 dhpσ_35 lbr_34 ldr_34 ahpσ_37 bhpσ_37 dhpσ_37 c_38 chpσ_37; omega) | omega)
                    refine lv_iconst (v := 4) hx hb dX12_next_283 zki_4 ?_
                    have gc_42_z_41 := q_rng z_41
                    refine q_icmp_le (A := z_41.toInt) (B := 4) E rfl (by decide) (tgt := 291) dX12_next_284 (by decide) (fun c_42 => ?_) (fun c_42 => ?_)
                    · skip
                      replace hF := q_ifn hF (Int.not_lt.mpr c_42)
                      refine lv_iconst (v := 2) hx hb dX12_next_291 zki_2 ?_
                      refine ps_X12_110_12 E hI ha (by decide) dX12_next_292 (fun H locs σ_43 hσ_43 hI => ?_)
                      replace hF := q_letX hF hσ_43
                      have fr_σ_43 := fr_σ_31.si hσ_43 ha rfl
                      have ks_σ_43 : q_KS (fun b g => b = a ∧ 12 ≤ g ∧ g ≤ 18) 9 X σ σ_43 := ks_σ_31.siS hσ_43 ⟨rfl, by decide, by decide⟩
                      have mv9_σ_43 : (σ_43.1 a 9).toInt = (σ_31.1 a 9).toInt := congrArg Int32.toInt (q_rdn hσ_43 (Or.inr (by decide)))
                      have mv12_σ_43 : (σ_43.1 a 12).toInt = (σ_31.1 a 12).toInt := congrArg Int32.toInt (q_rdn hσ_43 (Or.inr (by decide)))
                      have mv14_σ_43 : (σ_43.1 a 14).toInt = 2 := by rw [q_rd hσ_43]; rfl
                      have mv15_σ_43 : (σ_43.1 a 15).toInt = (σ_31.1 a 15).toInt := congrArg Int32.toInt (q_rdn hσ_43 (Or.inr (by decide)))
                      have mv16_σ_43 : (σ_43.1 a 16).toInt = (σ_31.1 a 16).toInt := congrArg Int32.toInt (q_rdn hσ_43 (Or.inr (by decide)))
                      have mv17_σ_43 : (σ_43.1 a 17).toInt = (σ_31.1 a 17).toInt := congrArg Int32.toInt (q_rdn hσ_43 (Or.inr (by decide)))
                      refine lv_goto (tgt := 330) hx hb dX12_next_295 (by decide) ?_
                      exact q_retv E hr hlk hI ⟨ks_σ_43, (by first | (clear h0 h1 h2 hm8 if_5 if_7 mv12_σ_8 mv14_σ_8 mv15_σ_8 mv16_σ_8 mv17_σ_8 if_9 gc_11_f_9 c_11 if_12 ahpσ_14 bhpσ_14 chpσ_14 dhpσ_14 lkx hxat ahpσ_16 bhpσ_16 dhpσ_16 c_17 chpσ_16 ahpσ_19 bhpσ_19 dhpσ_19 c_20 chpσ_19 hm210 ahpσ_35 dhpσ_35 ahpσ_37 bhpσ_37 dhpσ_37 c_38 mv12_σ_43 mv17_σ_43; omega) | omega), (by first | (clear h0 h1 h2 hm8 if_5 if_7 mv14_σ_8 mv15_σ_8 mv16_σ_8 mv17_σ_8 if_9 gc_11_f_9 gc_11_f_10 c_11 if_12 ahpσ_14 bhpσ_14 chpσ_14 dhpσ_14 lkx hxat ahpσ_16 bhpσ_16 dhpσ_16 c_17 chpσ_16 ahpσ_19 bhpσ_19 dhpσ_19 c_20 chpσ_19 hm210 f210σ_31 if_33 ahpσ_35 bhpσ_35 chpσ_35 dhpσ_35 lbr_34 ldr_34 ahpσ_37 bhpσ_37 dhpσ_37 c_38 chpσ_37 if_39 iz_41 gc_42_z_41 c_42 mv14_σ_43 mv16_σ_43 mv17_σ_43; omega) | omega), (hF.trans hout), fr_σ_43⟩ dX12_next_330
                    · skip
                      replace hF := q_ifp hF c_42
                      refine lv_iconst (v := 4) hx hb dX12_next_287 zki_4 ?_
                      refine lv_goto (tgt := 292) hx hb dX12_next_288 (by decide) ?_
                      refine ps_X12_110_12 E hI ha (by decide) dX12_next_292 (fun H locs σ_44 hσ_44 hI => ?_)
                      replace hF := q_letX hF hσ_44
                      have fr_σ_44 := fr_σ_31.si hσ_44 ha rfl
                      have ks_σ_44 : q_KS (fun b g => b = a ∧ 12 ≤ g ∧ g ≤ 18) 9 X σ σ_44 := ks_σ_31.siS hσ_44 ⟨rfl, by decide, by decide⟩
                      have mv9_σ_44 : (σ_44.1 a 9).toInt = (σ_31.1 a 9).toInt := congrArg Int32.toInt (q_rdn hσ_44 (Or.inr (by decide)))
                      have mv12_σ_44 : (σ_44.1 a 12).toInt = (σ_31.1 a 12).toInt := congrArg Int32.toInt (q_rdn hσ_44 (Or.inr (by decide)))
                      have mv14_σ_44 : (σ_44.1 a 14).toInt = 4 := by rw [q_rd hσ_44]; rfl
                      have mv15_σ_44 : (σ_44.1 a 15).toInt = (σ_31.1 a 15).toInt := congrArg Int32.toInt (q_rdn hσ_44 (Or.inr (by decide)))
                      have mv16_σ_44 : (σ_44.1 a 16).toInt = (σ_31.1 a 16).toInt := congrArg Int32.toInt (q_rdn hσ_44 (Or.inr (by decide)))
                      have mv17_σ_44 : (σ_44.1 a 17).toInt = (σ_31.1 a 17).toInt := congrArg Int32.toInt (q_rdn hσ_44 (Or.inr (by decide)))
                      refine lv_goto (tgt := 330) hx hb dX12_next_295 (by decide) ?_
                      exact q_retv E hr hlk hI ⟨ks_σ_44, (by first | (clear h0 h1 h2 hm8 if_5 if_7 mv12_σ_8 mv14_σ_8 mv15_σ_8 mv16_σ_8 mv17_σ_8 if_9 gc_11_f_9 c_11 if_12 ahpσ_14 bhpσ_14 chpσ_14 dhpσ_14 lkx hxat ahpσ_16 bhpσ_16 dhpσ_16 c_17 chpσ_16 ahpσ_19 bhpσ_19 dhpσ_19 c_20 chpσ_19 hm210 f210σ_31 ahpσ_35 bhpσ_35 chpσ_35 dhpσ_35 lbr_34 ldr_34 ahpσ_37 bhpσ_37 dhpσ_37 c_38 chpσ_37 mv12_σ_44 mv17_σ_44; omega) | omega), (by first | (clear h0 h1 h2 hm8 if_5 if_7 mv14_σ_8 mv15_σ_8 mv16_σ_8 mv17_σ_8 if_9 gc_11_f_9 gc_11_f_10 c_11 if_12 ahpσ_14 bhpσ_14 chpσ_14 dhpσ_14 lkx hxat ahpσ_16 bhpσ_16 dhpσ_16 c_17 chpσ_16 ahpσ_19 bhpσ_19 dhpσ_19 c_20 chpσ_19 hm210 f210σ_31 if_33 ahpσ_35 bhpσ_35 chpσ_35 dhpσ_35 lbr_34 ldr_34 ahpσ_37 bhpσ_37 dhpσ_37 c_38 chpσ_37 if_39 iz_41 gc_42_z_41 c_42 mv14_σ_44 mv16_σ_44 mv17_σ_44; omega) | omega), (hF.trans hout), fr_σ_44⟩ dX12_next_330
                  · skip
                    replace hF := q_ifn hF c_38
                    replace c_38 := q_ifOne bhpσ_37 c_38
                    replace chpσ_37 := q_ifYes chpσ_37 c_38
                    refine lv_aload_n hx hb dX12_next_224 rfl (lv_at hl 0 rfl) ?_
                    refine gs_X12_101_12 E hI ha dX12_next_225 ?_
                    refine lv_topi (fun f_45 ef_45 => ?_)
                    replace hF := q_letX hF ef_45
                    have if_45 : f_45.toInt = (σ_31.1 a 16).toInt := congrArg Int32.toInt ef_45
                    refine lv_aload_n hx hb dX12_next_228 rfl (lv_at hl 0 rfl) ?_
                    refine gs_X12_104_12 E hI ha dX12_next_229 ?_
                    refine lv_topi (fun f_46 ef_46 => ?_)
                    replace hF := q_letX hF ef_46
                    have if_46 : f_46.toInt = (σ_31.1 a 15).toInt := congrArg Int32.toInt ef_46
                    refine lv_isub hx hb dX12_next_232 ?_
                    refine lv_topi (fun z_47 ez_47 => ?_)
                    replace hF := q_letX hF ez_47
                    have iz_47 := q_subI (A := f_45.toInt) (B := f_46.toInt) ez_47 rfl rfl (by first | (clear h0 h1 h2 if_1 hm8 e8σ_3 if_5 if_6 if_7 mv9_σ_8 mv12_σ_8 mv14_σ_8 mv15_σ_8 mv16_σ_8 mv17_σ_8 if_9 if_10 gc_11_f_9 gc_11_f_10 c_11 if_12 ahpσ_14 bhpσ_14 chpσ_14 dhpσ_14 lkx hxat ahpσ_16 bhpσ_16 dhpσ_16 c_17 chpσ_16 ahpσ_19 bhpσ_19 dhpσ_19 c_20 chpσ_19 hm210 f210σ_31 ahpσ_35 bhpσ_35 chpσ_35 dhpσ_35 lbr_34 ldr_34 ahpσ_37 bhpσ_37 dhpσ_37 c_38 chpσ_37; omega) | omega) (by first | (clear h0 h1 h2 hm8 mv12_σ_8 mv14_σ_8 mv17_σ_8 ahpσ_14 bhpσ_14 chpσ_14 dhpσ_14 lkx ahpσ_16 bhpσ_16 dhpσ_16 c_17 chpσ_16 ahpσ_19 bhpσ_19 dhpσ_19 c_20 chpσ_19 hm210 f210σ_31 ahpσ_35 bhpσ_35 chpσ_35 dhpσ_35 lbr_34 ldr_34 ahpσ_37 bhpσ_37 dhpσ_37 c_38 chpσ_37; omega) | omega)
                    refine lv_iconst (v := 4) hx hb dX12_next_233 zki_4 ?_
                    have gc_48_z_47 := q_rng z_47
                    refine q_icmp_ge (A := z_47.toInt) (B := 4) E rfl (by decide) (tgt := 260) dX12_next_234 (by decide) (fun c_48 => ?_) (fun c_48 => ?_)
                    · skip
                      replace hF := q_ifn hF (Int.not_lt.mpr c_48)
                      refine lv_aload_n hx hb dX12_next_260 rfl (lv_at hl 0 rfl) ?_
                      refine lv_dup hx hb dX12_next_261 rfl ?_
                      refine gs_X12_101_12 E hI ha dX12_next_262 ?_
                      refine lv_topi (fun f_49 ef_49 => ?_)
                      replace hF := q_letX hF ef_49
                      have if_49 : f_49.toInt = (σ_31.1 a 16).toInt := congrArg Int32.toInt ef_49
                      refine lv_iconst (v := 1) hx hb dX12_next_265 zki_1 ?_
                      refine lv_iadd hx hb dX12_next_266 ?_
                      refine lv_topi (fun z_50 ez_50 => ?_)
                      replace hF := q_letX hF ez_50
                      have iz_50 := q_addI (A := f_49.toInt) (B := 1) ez_50 rfl (by decide) (by first | (clear h0 h1 h2 hm8 mv12_σ_8 mv14_σ_8 mv17_σ_8 ahpσ_14 bhpσ_14 chpσ_14 dhpσ_14 lkx ahpσ_16 bhpσ_16 dhpσ_16 c_17 chpσ_16 ahpσ_19 bhpσ_19 dhpσ_19 c_20 chpσ_19 hm210 f210σ_31 ahpσ_35 bhpσ_35 chpσ_35 dhpσ_35 lbr_34 ldr_34 ahpσ_37 bhpσ_37 dhpσ_37 c_38 chpσ_37; omega) | omega) (by first | (clear h0 h1 h2 hm8 mv12_σ_8 mv14_σ_8 mv17_σ_8 ahpσ_14 bhpσ_14 chpσ_14 dhpσ_14 lkx ahpσ_16 bhpσ_16 dhpσ_16 c_17 chpσ_16 ahpσ_19 bhpσ_19 dhpσ_19 c_20 chpσ_19 hm210 f210σ_31 ahpσ_35 bhpσ_35 chpσ_35 dhpσ_35 lbr_34 ldr_34 ahpσ_37 bhpσ_37 dhpσ_37 c_38 chpσ_37 if_46 gc_48_z_47 c_48; omega) | omega)
                      refine ps_X12_101_12 E hI ha (by decide) dX12_next_267 (fun H locs σ_51 hσ_51 hI => ?_)
                      replace hF := q_letX hF hσ_51
                      have fr_σ_51 := fr_σ_31.si hσ_51 ha rfl
                      have ks_σ_51 : q_KS (fun b g => b = a ∧ 12 ≤ g ∧ g ≤ 18) 9 X σ σ_51 := ks_σ_31.siS hσ_51 ⟨rfl, by decide, by decide⟩
                      have mv9_σ_51 : (σ_51.1 a 9).toInt = (σ_31.1 a 9).toInt := congrArg Int32.toInt (q_rdn hσ_51 (Or.inr (by decide)))
                      have mv12_σ_51 : (σ_51.1 a 12).toInt = (σ_31.1 a 12).toInt := congrArg Int32.toInt (q_rdn hσ_51 (Or.inr (by decide)))
                      have mv14_σ_51 : (σ_51.1 a 14).toInt = (σ_31.1 a 14).toInt := congrArg Int32.toInt (q_rdn hσ_51 (Or.inr (by decide)))
                      have mv15_σ_51 : (σ_51.1 a 15).toInt = (σ_31.1 a 15).toInt := congrArg Int32.toInt (q_rdn hσ_51 (Or.inr (by decide)))
                      have mv16_σ_51 : (σ_51.1 a 16).toInt = z_50.toInt := congrArg Int32.toInt (q_rd hσ_51)
                      have mv17_σ_51 : (σ_51.1 a 17).toInt = (σ_31.1 a 17).toInt := congrArg Int32.toInt (q_rdn hσ_51 (Or.inr (by decide)))
                      refine lv_goto (tgt := 210) hx hb dX12_next_270 (by decide) ?_
                      exact ih210 σ_51 _ _ ls (by first | (clear h0 h1 h2 if_1 hm8 if_5 if_7 mv12_σ_8 mv14_σ_8 mv15_σ_8 mv16_σ_8 mv17_σ_8 if_9 gc_11_f_9 gc_11_f_10 c_11 if_12 ahpσ_14 bhpσ_14 chpσ_14 dhpσ_14 lkx hxat ahpσ_16 bhpσ_16 dhpσ_16 c_17 chpσ_16 ahpσ_19 bhpσ_19 dhpσ_19 c_20 chpσ_19 ahpσ_35 dhpσ_35 ahpσ_37 bhpσ_37 dhpσ_37 c_38 if_46 gc_48_z_47 c_48 mv12_σ_51 mv14_σ_51 mv15_σ_51 mv17_σ_51; omega) | omega) (by first | (clear h0 h1 h2 hm8 if_5 if_7 mv14_σ_8 mv15_σ_8 mv16_σ_8 mv17_σ_8 if_9 gc_11_f_9 gc_11_f_10 c_11 if_12 ahpσ_14 bhpσ_14 chpσ_14 dhpσ_14 lkx hxat ahpσ_16 bhpσ_16 dhpσ_16 c_17 chpσ_16 ahpσ_19 bhpσ_19 dhpσ_19 c_20 chpσ_19 hm210 f210σ_31 ahpσ_35 dhpσ_35 ahpσ_37 bhpσ_37 dhpσ_37 c_38 mv14_σ_51 mv17_σ_51; omega) | omega) (by first | (clear h0 h1 h2 if_1 hm8 e8σ_3 if_5 if_6 if_7 mv9_σ_8 mv12_σ_8 mv14_σ_8 mv15_σ_8 mv16_σ_8 mv17_σ_8 if_9 if_10 gc_11_f_9 gc_11_f_10 c_11 if_12 ahpσ_14 bhpσ_14 chpσ_14 dhpσ_14 lkx hxat ahpσ_16 bhpσ_16 dhpσ_16 c_17 chpσ_16 ahpσ_19 bhpσ_19 dhpσ_19 c_20 chpσ_19 hm210 f210σ_31 ahpσ_35 bhpσ_35 chpσ_35 dhpσ_35 lbr_34 ldr_34 ahpσ_37 bhpσ_37 dhpσ_37 c_38 chpσ_37 mv9_σ_51 mv12_σ_51 mv14_σ_51 mv17_σ_51; omega) | omega) ks_σ_51 fr_σ_51 hF hI (lv_sub hl [0, 1] rfl)
                    · skip
                      replace hF := q_ifp hF c_48
                      refine lv_aload_n hx hb dX12_next_237 rfl (lv_at hl 0 rfl) ?_
                      refine lv_bipush (v := 10) hx hb dX12_next_238 zkb_10 ?_
                      refine lv_aload_n hx hb dX12_next_240 rfl (lv_at hl 0 rfl) ?_
                      refine gs_X12_129_12 E hI ha dX12_next_241 ?_
                      refine lv_topi (fun f_52 ef_52 => ?_)
                      replace hF := q_letX hF ef_52
                      have if_52 : f_52.toInt = (σ_31.1 a 17).toInt := congrArg Int32.toInt ef_52
                      refine lv_imul hx hb dX12_next_244 ?_
                      refine lv_topi (fun z_53 ez_53 => ?_)
                      replace hF := q_letX hF ez_53
                      refine lv_aload_n hx hb dX12_next_245 rfl (lv_at hl 0 rfl) ?_
                      refine lv_aload_n hx hb dX12_next_246 rfl (lv_at hl 0 rfl) ?_
                      refine gs_X12_101_12 E hI ha dX12_next_247 ?_
                      refine lv_topi (fun f_54 ef_54 => ?_)
                      replace hF := q_letX hF ef_54
                      have if_54 : f_54.toInt = (σ_31.1 a 16).toInt := congrArg Int32.toInt ef_54
                      refine q_ci (q_rV11_1 (rest := [.int z_53, .ref a]) E (hml.trans hl.1.symm) hI (c_X12_look2 l X σ_31 a f_54 ha (by first | (clear h0 h1 h2 hm8 mv12_σ_8 mv14_σ_8 mv17_σ_8 ahpσ_14 bhpσ_14 chpσ_14 dhpσ_14 lkx ahpσ_16 bhpσ_16 dhpσ_16 c_17 chpσ_16 ahpσ_19 bhpσ_19 dhpσ_19 c_20 chpσ_19 hm210 f210σ_31 ahpσ_35 bhpσ_35 chpσ_35 dhpσ_35 lbr_34 ldr_34 ahpσ_37 bhpσ_37 dhpσ_37 c_38 chpσ_37 if_52; omega) | omega) (by first | (clear h0 h1 h2 if_1 hm8 if_5 if_7 mv12_σ_8 mv14_σ_8 mv15_σ_8 mv16_σ_8 mv17_σ_8 if_9 gc_11_f_9 c_11 if_12 ahpσ_14 bhpσ_14 chpσ_14 dhpσ_14 lkx hxat ahpσ_16 bhpσ_16 dhpσ_16 c_17 chpσ_16 ahpσ_19 bhpσ_19 dhpσ_19 c_20 chpσ_19 hm210 f210σ_31 if_33 ahpσ_35 bhpσ_35 chpσ_35 dhpσ_35 lbr_34 ldr_34 ahpσ_37 bhpσ_37 dhpσ_37 c_38 chpσ_37 if_45 if_46 iz_47 gc_48_z_47 c_48 if_52 if_54; omega) | omega)) kv_X12_107 ha ⟨Nat.le_of_ble_eq_true rfl, Nat.le_of_ble_eq_true rfl⟩ (Nat.le_of_ble_eq_true rfl) dX12_next_250) hI (Nat.le_of_ble_eq_true rfl) (fun r_55 σ_56 H locs hpσ_56 hkσ_56 hI => ?_)
                      have ahpσ_56 := hpσ_56.1
                      have bhpσ_56 := hpσ_56.2.1
                      have chpσ_56 := hpσ_56.2.2.1
                      have dhpσ_56 := hpσ_56.2.2.2
                      clear hpσ_56
                      replace hI := q_Irw ahpσ_56 hI
                      replace hF := q_letX hF dhpσ_56
                      refine lv_iadd hx hb dX12_next_253 ?_
                      refine lv_topi (fun z_57 ez_57 => ?_)
                      replace hF := q_letX hF ez_57
                      refine lv_bipush (v := 48) hx hb dX12_next_254 zkb_48 ?_
                      refine lv_isub hx hb dX12_next_256 ?_
                      refine lv_topi (fun z_58 ez_58 => ?_)
                      replace hF := q_letX hF ez_58
                      refine ps_X12_129_12 E hI ha (by decide) dX12_next_257 (fun H locs σ_59 hσ_59 hI => ?_)
                      replace hF := q_letX hF hσ_59
                      have fr_σ_59 := fr_σ_31.si hσ_59 ha rfl
                      have ks_σ_59 : q_KS (fun b g => b = a ∧ 12 ≤ g ∧ g ≤ 18) 9 X σ σ_59 := ks_σ_31.siS hσ_59 ⟨rfl, by decide, by decide⟩
                      have mv9_σ_59 : (σ_59.1 a 9).toInt = (σ_31.1 a 9).toInt := congrArg Int32.toInt (q_rdn hσ_59 (Or.inr (by decide)))
                      have mv12_σ_59 : (σ_59.1 a 12).toInt = (σ_31.1 a 12).toInt := congrArg Int32.toInt (q_rdn hσ_59 (Or.inr (by decide)))
                      have mv14_σ_59 : (σ_59.1 a 14).toInt = (σ_31.1 a 14).toInt := congrArg Int32.toInt (q_rdn hσ_59 (Or.inr (by decide)))
                      have mv15_σ_59 : (σ_59.1 a 15).toInt = (σ_31.1 a 15).toInt := congrArg Int32.toInt (q_rdn hσ_59 (Or.inr (by decide)))
                      have mv16_σ_59 : (σ_59.1 a 16).toInt = (σ_31.1 a 16).toInt := congrArg Int32.toInt (q_rdn hσ_59 (Or.inr (by decide)))
                      have mv17_σ_59 : (σ_59.1 a 17).toInt = z_58.toInt := congrArg Int32.toInt (q_rd hσ_59)
                      refine lv_aload_n hx hb dX12_next_260 rfl (lv_at hl 0 rfl) ?_
                      refine lv_dup hx hb dX12_next_261 rfl ?_
                      refine gs_X12_101_12 E hI ha dX12_next_262 ?_
                      refine lv_topi (fun f_60 ef_60 => ?_)
                      replace hF := q_letX hF ef_60
                      have if_60 : f_60.toInt = (σ_59.1 a 16).toInt := congrArg Int32.toInt ef_60
                      refine lv_iconst (v := 1) hx hb dX12_next_265 zki_1 ?_
                      refine lv_iadd hx hb dX12_next_266 ?_
                      refine lv_topi (fun z_61 ez_61 => ?_)
                      replace hF := q_letX hF ez_61
                      have iz_61 := q_addI (A := f_60.toInt) (B := 1) ez_61 rfl (by decide) (by first | (clear h0 h1 h2 hm8 mv12_σ_8 mv14_σ_8 mv17_σ_8 ahpσ_14 bhpσ_14 chpσ_14 dhpσ_14 lkx ahpσ_16 bhpσ_16 dhpσ_16 c_17 chpσ_16 ahpσ_19 bhpσ_19 dhpσ_19 c_20 chpσ_19 hm210 f210σ_31 ahpσ_35 bhpσ_35 chpσ_35 dhpσ_35 lbr_34 ldr_34 ahpσ_37 bhpσ_37 dhpσ_37 c_38 chpσ_37 if_52 ahpσ_56 bhpσ_56 chpσ_56 dhpσ_56 mv12_σ_59 mv14_σ_59 mv17_σ_59; omega) | omega) (by first | (clear h0 h1 h2 hm8 mv12_σ_8 mv14_σ_8 mv17_σ_8 ahpσ_14 bhpσ_14 chpσ_14 dhpσ_14 lkx ahpσ_16 bhpσ_16 dhpσ_16 c_17 chpσ_16 ahpσ_19 bhpσ_19 dhpσ_19 c_20 chpσ_19 hm210 f210σ_31 ahpσ_35 bhpσ_35 chpσ_35 dhpσ_35 lbr_34 ldr_34 ahpσ_37 bhpσ_37 dhpσ_37 c_38 chpσ_37 if_46 gc_48_z_47 c_48 if_52 ahpσ_56 bhpσ_56 chpσ_56 dhpσ_56 mv12_σ_59 mv14_σ_59 mv15_σ_59 mv17_σ_59; omega) | omega)
                      refine ps_X12_101_12 E hI ha (by decide) dX12_next_267 (fun H locs σ_62 hσ_62 hI => ?_)
                      replace hF := q_letX hF hσ_62
                      have fr_σ_62 := fr_σ_59.si hσ_62 ha rfl
                      have ks_σ_62 : q_KS (fun b g => b = a ∧ 12 ≤ g ∧ g ≤ 18) 9 X σ σ_62 := ks_σ_59.siS hσ_62 ⟨rfl, by decide, by decide⟩
                      have mv9_σ_62 : (σ_62.1 a 9).toInt = (σ_59.1 a 9).toInt := congrArg Int32.toInt (q_rdn hσ_62 (Or.inr (by decide)))
                      have mv12_σ_62 : (σ_62.1 a 12).toInt = (σ_59.1 a 12).toInt := congrArg Int32.toInt (q_rdn hσ_62 (Or.inr (by decide)))
                      have mv14_σ_62 : (σ_62.1 a 14).toInt = (σ_59.1 a 14).toInt := congrArg Int32.toInt (q_rdn hσ_62 (Or.inr (by decide)))
                      have mv15_σ_62 : (σ_62.1 a 15).toInt = (σ_59.1 a 15).toInt := congrArg Int32.toInt (q_rdn hσ_62 (Or.inr (by decide)))
                      have mv16_σ_62 : (σ_62.1 a 16).toInt = z_61.toInt := congrArg Int32.toInt (q_rd hσ_62)
                      have mv17_σ_62 : (σ_62.1 a 17).toInt = (σ_59.1 a 17).toInt := congrArg Int32.toInt (q_rdn hσ_62 (Or.inr (by decide)))
                      refine lv_goto (tgt := 210) hx hb dX12_next_270 (by decide) ?_
                      exact ih210 σ_62 _ _ ls (by first | (clear h0 h1 h2 if_1 hm8 if_5 if_7 mv12_σ_8 mv14_σ_8 mv15_σ_8 mv16_σ_8 mv17_σ_8 if_9 gc_11_f_9 gc_11_f_10 c_11 if_12 ahpσ_14 bhpσ_14 chpσ_14 dhpσ_14 lkx hxat ahpσ_16 bhpσ_16 dhpσ_16 c_17 chpσ_16 ahpσ_19 bhpσ_19 dhpσ_19 c_20 chpσ_19 ahpσ_35 dhpσ_35 ahpσ_37 bhpσ_37 dhpσ_37 c_38 if_46 gc_48_z_47 c_48 if_52 ahpσ_56 bhpσ_56 chpσ_56 dhpσ_56 mv12_σ_59 mv14_σ_59 mv15_σ_59 mv17_σ_59 mv12_σ_62 mv14_σ_62 mv15_σ_62 mv17_σ_62; omega) | omega) (by first | (clear h0 h1 h2 hm8 if_5 if_7 mv14_σ_8 mv15_σ_8 mv16_σ_8 mv17_σ_8 if_9 gc_11_f_9 gc_11_f_10 c_11 if_12 ahpσ_14 bhpσ_14 chpσ_14 dhpσ_14 lkx hxat ahpσ_16 bhpσ_16 dhpσ_16 c_17 chpσ_16 ahpσ_19 bhpσ_19 dhpσ_19 c_20 chpσ_19 hm210 f210σ_31 ahpσ_35 dhpσ_35 ahpσ_37 bhpσ_37 dhpσ_37 c_38 if_52 ahpσ_56 bhpσ_56 chpσ_56 dhpσ_56 mv14_σ_59 mv17_σ_59 mv14_σ_62 mv17_σ_62; omega) | omega) (by first | (clear h0 h1 h2 if_1 hm8 e8σ_3 if_5 if_6 if_7 mv9_σ_8 mv12_σ_8 mv14_σ_8 mv15_σ_8 mv16_σ_8 mv17_σ_8 if_9 if_10 gc_11_f_9 gc_11_f_10 c_11 if_12 ahpσ_14 bhpσ_14 chpσ_14 dhpσ_14 lkx hxat ahpσ_16 bhpσ_16 dhpσ_16 c_17 chpσ_16 ahpσ_19 bhpσ_19 dhpσ_19 c_20 chpσ_19 hm210 f210σ_31 ahpσ_35 bhpσ_35 chpσ_35 dhpσ_35 lbr_34 ldr_34 ahpσ_37 bhpσ_37 dhpσ_37 c_38 chpσ_37 if_52 ahpσ_56 bhpσ_56 chpσ_56 dhpσ_56 mv9_σ_59 mv12_σ_59 mv14_σ_59 mv17_σ_59 mv9_σ_62 mv12_σ_62 mv14_σ_62 mv17_σ_62; omega) | omega) ks_σ_62 fr_σ_62 hF hI (lv_sub hl [0, 1] rfl)
              exact L_210_32 (((σ_30.1 a 9).toInt - (σ_30.1 a 16).toInt).toNat + 1) σ_30 _ _ ls (Nat.lt_succ_self _) (by first | (clear h0 h1 h2 hm8 mv14_σ_8 mv17_σ_8 gc_11_f_9 gc_11_f_10 ahpσ_14 bhpσ_14 chpσ_14 dhpσ_14 lkx ahpσ_16 bhpσ_16 dhpσ_16 c_17 chpσ_16 ahpσ_19 bhpσ_19 dhpσ_19 c_20 chpσ_19; omega) | omega) (Or.inr (by have q : (σ_30.1 a 16).toInt = xat := (by first | (clear h0 h1 h2 if_1 hm8 e8σ_3 if_6 mv9_σ_8 mv12_σ_8 mv14_σ_8 mv17_σ_8 if_10 gc_11_f_9 gc_11_f_10 c_11 ahpσ_14 bhpσ_14 chpσ_14 dhpσ_14 lkx ahpσ_16 bhpσ_16 dhpσ_16 c_17 chpσ_16 ahpσ_19 bhpσ_19 dhpσ_19 c_20 chpσ_19; omega) | omega); rw [q]; omega)) ks_σ_30 fr_σ_30 hF hI (lv_sub hl [1, 0] rfl)
          · skip
            replace hF := q_ifn hF c_17
            replace c_17 := q_ifOne bhpσ_16 c_17
            replace chpσ_16 := q_ifYes chpσ_16 c_17
            refine lv_aload_n hx hb dX12_next_99 rfl (lv_at hl 1 rfl) ?_
            refine lv_iconst (v := 1) hx hb dX12_next_100 zki_1 ?_
            refine ps_X12_110_12 E hI ha (by decide) dX12_next_101 (fun H locs σ_63 hσ_63 hI => ?_)
            replace hF := q_letX hF hσ_63
            have fr_σ_63 := fr_σ_8.si hσ_63 ha rfl
            have ks_σ_63 : q_KS (fun b g => b = a ∧ 12 ≤ g ∧ g ≤ 18) 9 X σ σ_63 := ks_σ_8.siS hσ_63 ⟨rfl, by decide, by decide⟩
            have mv9_σ_63 : (σ_63.1 a 9).toInt = (σ_8.1 a 9).toInt := congrArg Int32.toInt (q_rdn hσ_63 (Or.inr (by decide)))
            have mv12_σ_63 : (σ_63.1 a 12).toInt = (σ_8.1 a 12).toInt := congrArg Int32.toInt (q_rdn hσ_63 (Or.inr (by decide)))
            have mv14_σ_63 : (σ_63.1 a 14).toInt = 1 := by rw [q_rd hσ_63]; rfl
            have mv15_σ_63 : (σ_63.1 a 15).toInt = (σ_8.1 a 15).toInt := congrArg Int32.toInt (q_rdn hσ_63 (Or.inr (by decide)))
            have mv16_σ_63 : (σ_63.1 a 16).toInt = (σ_8.1 a 16).toInt := congrArg Int32.toInt (q_rdn hσ_63 (Or.inr (by decide)))
            have mv17_σ_63 : (σ_63.1 a 17).toInt = (σ_8.1 a 17).toInt := congrArg Int32.toInt (q_rdn hσ_63 (Or.inr (by decide)))
            refine lv_aload_n hx hb dX12_next_104 rfl (lv_at hl 1 rfl) ?_
            refine lv_lconst (v := 0) hx hb dX12_next_105 (by decide) ?_
            refine ps_X12_116_12 E hI ha  dX12_next_106 (fun H locs σ_64 hσ_64 hI => ?_)
            replace hF := q_letX hF hσ_64
            have fr_σ_64 := fr_σ_63.sl hσ_64 ha rfl
            have ks_σ_64 : q_KS (fun b g => b = a ∧ 12 ≤ g ∧ g ≤ 18) 9 X σ σ_64 := ks_σ_63.sl hσ_64
            have mv9_σ_64 : (σ_64.1 a 9).toInt = (σ_63.1 a 9).toInt := congrArg Int32.toInt ((fun b g _ => by rw [hσ_64]; rfl : q_K 8 X σ_63 σ_64) a 9 (by rw [ha]; decide))
            have mv12_σ_64 : (σ_64.1 a 12).toInt = (σ_63.1 a 12).toInt := congrArg Int32.toInt ((fun b g _ => by rw [hσ_64]; rfl : q_K 8 X σ_63 σ_64) a 12 (by rw [ha]; decide))
            have mv14_σ_64 : (σ_64.1 a 14).toInt = (σ_63.1 a 14).toInt := congrArg Int32.toInt ((fun b g _ => by rw [hσ_64]; rfl : q_K 8 X σ_63 σ_64) a 14 (by rw [ha]; decide))
            have mv15_σ_64 : (σ_64.1 a 15).toInt = (σ_63.1 a 15).toInt := congrArg Int32.toInt ((fun b g _ => by rw [hσ_64]; rfl : q_K 8 X σ_63 σ_64) a 15 (by rw [ha]; decide))
            have mv16_σ_64 : (σ_64.1 a 16).toInt = (σ_63.1 a 16).toInt := congrArg Int32.toInt ((fun b g _ => by rw [hσ_64]; rfl : q_K 8 X σ_63 σ_64) a 16 (by rw [ha]; decide))
            have mv17_σ_64 : (σ_64.1 a 17).toInt = (σ_63.1 a 17).toInt := congrArg Int32.toInt ((fun b g _ => by rw [hσ_64]; rfl : q_K 8 X σ_63 σ_64) a 17 (by rw [ha]; decide))
            have L_109_66 : ∀ (k_66 : Nat)  (σ_65 : ST) (H : Heap) (locs : List Loc) (ls : Array Slot), ((σ_65.1 a 9).toInt - (σ_65.1 a 16).toInt).toNat < k_66 → ((σ_65.1 a 9).toInt = (σ.1 a 9).toInt ∧ (σ_65.1 a 12).toInt = (σ.1 a 12).toInt ∧ (σ.1 a 16).toInt ≤ (σ_65.1 a 15).toInt ∧ (σ_65.1 a 14).toInt = 1 ∧ (σ_65.1 a 15).toInt ≤ (σ_65.1 a 16).toInt ∧ (σ_65.1 a 15).toInt < (σ.1 a 9).toInt ∧ (σ_65.1 a 16).toInt ≤ (σ.1 a 9).toInt) → ((σ_65.1 a 15).toInt < (σ_65.1 a 16).toInt ∨ (97 ≤ m_look X σ a (σ_65.1 a 16).toInt ∧ m_look X σ a (σ_65.1 a 16).toInt ≤ 122)) → (q_KS (fun b g => b = a ∧ 12 ≤ g ∧ g ≤ 18) 9 X σ σ_65) → (q_ow [(12, 14), (12, 15), (12, 16), (12, 17), (12, 18)] [(12, 19)] X σ σ_65) → (F_X12_next_L109_5 X a k_66 σ_65 = out) → q_I X 2 σ s.heap locs σ_65 H → lv_has ls 2 [(0, .ref a), (1, .int r_13)] → W p l e (q_rm 1 21) s m ([.ref a] : List Value).toArray below meth c H locs 0 0 (MQ below (q_Qv X 2 σ (fun (σ' : ST) => (q_KS (fun b g => b = a ∧ 12 ≤ g ∧ g ≤ 18) 9 X σ σ') ∧ (0 ≤ (σ'.1 a 15).toInt ∧ (σ'.1 a 15).toInt ≤ (σ'.1 a 16).toInt ∧ (σ'.1 a 16).toInt ≤ (σ'.1 a 9).toInt ∧ (σ'.1 a 9).toInt ≤ 900 ∧ 0 ≤ (σ'.1 a 14).toInt ∧ (σ'.1 a 14).toInt ≤ 4 ∧ (σ'.1 a 14).toInt ≤ 4 * ((σ'.1 a 16).toInt - (σ'.1 a 15).toInt) ∧ (σ'.1 a 14).toInt ≤ 4 * ((σ'.1 a 9).toInt - (σ'.1 a 15).toInt)) ∧ ((σ'.1 a 9).toInt = (σ.1 a 9).toInt ∧ (σ'.1 a 12).toInt = (σ.1 a 12).toInt ∧ (σ.1 a 16).toInt ≤ (σ'.1 a 15).toInt) ∧ σ' = F_X12_next X σ a ∧ q_ow [(12, 14), (12, 15), (12, 16), (12, 17), (12, 18)] [(12, 19)] X σ σ')) ([.ref a] : List Value).toArray s 0 0 (q_reg X)) (F0 m 109 ls []) := by
              clear hF
              intro k_66
              induction k_66 with
              | zero =>
                intro σ_65 H locs ls hms
                try clear fr_σ_63; try clear mv9_σ_63; try clear mv12_σ_63; try clear mv14_σ_63; try clear mv15_σ_63; try clear mv16_σ_63; try clear mv17_σ_63; try clear fr_σ_64; try clear mv9_σ_64; try clear mv12_σ_64; try clear mv14_σ_64; try clear mv15_σ_64; try clear mv16_σ_64; try clear mv17_σ_64
                exact absurd hms (Nat.not_lt_zero _)
              | succ k_66 ih109 =>
                intro σ_65 H locs ls hm109 e109σ_65 f109σ_65 ks_σ_65 fr_σ_65 hF hI hl
                replace hF := (F_X12_next_L109_5_s).symm.trans hF
                unfold F_X12_next_B109_5 at hF
                refine lv_aload_n hx hb dX12_next_109 rfl (lv_at hl 0 rfl) ?_
                refine lv_aload_n hx hb dX12_next_110 rfl (lv_at hl 0 rfl) ?_
                refine gs_X12_101_12 E hI ha dX12_next_111 ?_
                refine lv_topi (fun f_67 ef_67 => ?_)
                replace hF := q_letX hF ef_67
                have if_67 : f_67.toInt = (σ_65.1 a 16).toInt := congrArg Int32.toInt ef_67
                refine q_ci (q_rV11_1 (rest := []) E (hml.trans hl.1.symm) hI (c_X12_look2 l X σ_65 a f_67 ha (by first | (clear h0 h1 h2 hm8 e8σ_3 if_5 if_6 if_7 mv9_σ_8 mv12_σ_8 mv14_σ_8 mv15_σ_8 mv16_σ_8 mv17_σ_8 if_9 if_10 gc_11_f_9 gc_11_f_10 c_11 if_12 ahpσ_14 bhpσ_14 chpσ_14 dhpσ_14 lkx hxat ahpσ_16 bhpσ_16 dhpσ_16 c_17 chpσ_16 hm109 f109σ_65; omega) | omega) (by first | (clear h0 h1 h2 if_1 hm8 if_5 if_7 mv12_σ_8 mv14_σ_8 mv15_σ_8 mv16_σ_8 mv17_σ_8 if_9 gc_11_f_9 c_11 if_12 ahpσ_14 bhpσ_14 chpσ_14 dhpσ_14 lkx hxat ahpσ_16 bhpσ_16 dhpσ_16 c_17 chpσ_16 hm109 f109σ_65 if_67; omega) | omega)) kv_X12_107 ha ⟨Nat.le_of_ble_eq_true rfl, Nat.le_of_ble_eq_true rfl⟩ (Nat.le_of_ble_eq_true rfl) dX12_next_114) hI (Nat.le_of_ble_eq_true rfl) (fun r_68 σ_69 H locs hpσ_69 hkσ_69 hI => ?_)
                have ahpσ_69 := hpσ_69.1
                have bhpσ_69 := hpσ_69.2.1
                have chpσ_69 := hpσ_69.2.2.1
                have dhpσ_69 := hpσ_69.2.2.2
                clear hpσ_69
                replace hI := q_Irw ahpσ_69 hI
                replace hF := q_letX hF dhpσ_69
                have lbr_68 : r_68.toInt = m_look X σ a f_67.toInt := bhpσ_69.trans (m_lookK ks_σ_65 hI.1 ha (fun b g h => ⟨h.1, by omega⟩) _)
                have lcr_68 : f_67.toInt = (σ_65.1 a 16).toInt := if_67
                rw [lcr_68] at lbr_68
                have ldr_68 := fun h => m_look_lt (X := X) (σ := σ) (a := a) (p := (σ_65.1 a 16).toInt) h
                refine q_ci (q_runS (As := [.int r_68]) (rest := []) E (hml.trans hl.1.symm) hI (c_X12_isLetter l X σ_65 r_68) ks_X12_113 rfl ⟨Nat.le_of_ble_eq_true rfl, Nat.le_of_ble_eq_true rfl⟩ ⟨Nat.le_refl _, Nat.le_refl _⟩ rfl (Nat.le_of_ble_eq_true rfl) dX12_next_117) hI (Nat.le_of_ble_eq_true rfl) (fun r_70 σ_71 H locs hpσ_71 hkσ_71 hI => ?_)
                have ahpσ_71 := hpσ_71.1
                have bhpσ_71 := hpσ_71.2.1
                have chpσ_71 := hpσ_71.2.2.1
                have dhpσ_71 := hpσ_71.2.2.2
                clear hpσ_71
                replace hI := q_Irw ahpσ_71 hI
                replace hF := q_letX hF dhpσ_71
                refine q_if_eq (A := r_70.toInt) E rfl (tgt := 182) dX12_next_120 (by decide) (fun c_72 => ?_) (fun c_72 => ?_)
                · skip
                  replace hF := q_ifp hF c_72
                  replace chpσ_71 := q_ifNo chpσ_71 c_72
                  unfold F_X12_next_E182_6 at hF
                  refine lv_aload_n hx hb dX12_next_182 rfl (lv_at hl 0 rfl) ?_
                  refine lv_aload_n hx hb dX12_next_183 rfl (lv_at hl 0 rfl) ?_
                  refine gs_X12_101_12 E hI ha dX12_next_184 ?_
                  refine lv_topi (fun f_73 ef_73 => ?_)
                  replace hF := q_letX hF ef_73
                  have if_73 : f_73.toInt = (σ_65.1 a 16).toInt := congrArg Int32.toInt ef_73
                  refine lv_aload_n hx hb dX12_next_187 rfl (lv_at hl 0 rfl) ?_
                  refine gs_X12_104_12 E hI ha dX12_next_188 ?_
                  refine lv_topi (fun f_74 ef_74 => ?_)
                  replace hF := q_letX hF ef_74
                  have if_74 : f_74.toInt = (σ_65.1 a 15).toInt := congrArg Int32.toInt ef_74
                  refine lv_isub hx hb dX12_next_191 ?_
                  refine lv_topi (fun z_75 ez_75 => ?_)
                  replace hF := q_letX hF ez_75
                  have iz_75 := q_subI (A := f_73.toInt) (B := f_74.toInt) ez_75 rfl rfl (by first | (clear h0 h1 h2 if_1 hm8 e8σ_3 if_5 if_6 if_7 mv9_σ_8 mv12_σ_8 mv14_σ_8 mv15_σ_8 mv16_σ_8 mv17_σ_8 if_9 if_10 gc_11_f_9 gc_11_f_10 c_11 if_12 ahpσ_14 bhpσ_14 chpσ_14 dhpσ_14 lkx hxat ahpσ_16 bhpσ_16 dhpσ_16 c_17 chpσ_16 hm109 f109σ_65 ahpσ_69 bhpσ_69 chpσ_69 dhpσ_69 lbr_68 ldr_68 ahpσ_71 bhpσ_71 dhpσ_71 c_72 chpσ_71; omega) | omega) (by first | (clear h0 h1 h2 hm8 mv12_σ_8 mv14_σ_8 mv17_σ_8 ahpσ_14 bhpσ_14 chpσ_14 dhpσ_14 lkx ahpσ_16 bhpσ_16 dhpσ_16 c_17 chpσ_16 hm109 f109σ_65 ahpσ_69 bhpσ_69 chpσ_69 dhpσ_69 lbr_68 ldr_68 ahpσ_71 bhpσ_71 dhpσ_71 c_72 chpσ_71; omega) | omega)
                  refine ps_X12_123_12 E hI ha (by decide) dX12_next_192 (fun H locs σ_76 hσ_76 hI => ?_)
                  replace hF := q_letX hF hσ_76
                  have fr_σ_76 := fr_σ_65.si hσ_76 ha rfl
                  have ks_σ_76 : q_KS (fun b g => b = a ∧ 12 ≤ g ∧ g ≤ 18) 9 X σ σ_76 := ks_σ_65.siS hσ_76 ⟨rfl, by decide, by decide⟩
                  have mv9_σ_76 : (σ_76.1 a 9).toInt = (σ_65.1 a 9).toInt := congrArg Int32.toInt (q_rdn hσ_76 (Or.inr (by decide)))
                  have mv12_σ_76 : (σ_76.1 a 12).toInt = (σ_65.1 a 12).toInt := congrArg Int32.toInt (q_rdn hσ_76 (Or.inr (by decide)))
                  have mv14_σ_76 : (σ_76.1 a 14).toInt = (σ_65.1 a 14).toInt := congrArg Int32.toInt (q_rdn hσ_76 (Or.inr (by decide)))
                  have mv15_σ_76 : (σ_76.1 a 15).toInt = (σ_65.1 a 15).toInt := congrArg Int32.toInt (q_rdn hσ_76 (Or.inr (by decide)))
                  have mv16_σ_76 : (σ_76.1 a 16).toInt = (σ_65.1 a 16).toInt := congrArg Int32.toInt (q_rdn hσ_76 (Or.inr (by decide)))
                  have mv17_σ_76 : (σ_76.1 a 17).toInt = (σ_65.1 a 17).toInt := congrArg Int32.toInt (q_rdn hσ_76 (Or.inr (by decide)))
                  refine lv_goto (tgt := 330) hx hb dX12_next_195 (by decide) ?_
                  exact q_retv E hr hlk hI ⟨ks_σ_76, (by first | (clear h0 h1 h2 hm8 if_5 if_7 mv12_σ_8 mv14_σ_8 mv15_σ_8 mv16_σ_8 mv17_σ_8 if_9 gc_11_f_9 c_11 if_12 ahpσ_14 bhpσ_14 chpσ_14 dhpσ_14 lkx hxat ahpσ_16 bhpσ_16 dhpσ_16 c_17 chpσ_16 hm109 ahpσ_69 dhpσ_69 ahpσ_71 bhpσ_71 dhpσ_71 c_72 mv12_σ_76 mv17_σ_76; omega) | omega), (by first | (clear h0 h1 h2 hm8 if_5 if_7 mv14_σ_8 mv15_σ_8 mv16_σ_8 mv17_σ_8 if_9 gc_11_f_9 gc_11_f_10 c_11 if_12 ahpσ_14 bhpσ_14 chpσ_14 dhpσ_14 lkx hxat ahpσ_16 bhpσ_16 dhpσ_16 c_17 chpσ_16 hm109 f109σ_65 if_67 ahpσ_69 bhpσ_69 chpσ_69 dhpσ_69 lbr_68 ldr_68 ahpσ_71 bhpσ_71 dhpσ_71 c_72 chpσ_71 if_73 iz_75 mv14_σ_76 mv16_σ_76 mv17_σ_76; omega) | omega), (hF.trans hout), fr_σ_76⟩ dX12_next_330
                · skip
                  replace hF := q_ifn hF c_72
                  replace c_72 := q_ifOne bhpσ_71 c_72
                  replace chpσ_71 := q_ifYes chpσ_71 c_72
                  refine lv_aload_n hx hb dX12_next_123 rfl (lv_at hl 0 rfl) ?_
                  refine lv_aload_n hx hb dX12_next_124 rfl (lv_at hl 0 rfl) ?_
                  refine gs_X12_101_12 E hI ha dX12_next_125 ?_
                  refine lv_topi (fun f_77 ef_77 => ?_)
                  replace hF := q_letX hF ef_77
                  have if_77 : f_77.toInt = (σ_65.1 a 16).toInt := congrArg Int32.toInt ef_77
                  refine lv_aload_n hx hb dX12_next_128 rfl (lv_at hl 0 rfl) ?_
                  refine gs_X12_104_12 E hI ha dX12_next_129 ?_
                  refine lv_topi (fun f_78 ef_78 => ?_)
                  replace hF := q_letX hF ef_78
                  have if_78 : f_78.toInt = (σ_65.1 a 15).toInt := congrArg Int32.toInt ef_78
                  refine lv_isub hx hb dX12_next_132 ?_
                  refine lv_topi (fun z_79 ez_79 => ?_)
                  replace hF := q_letX hF ez_79
                  have iz_79 := q_subI (A := f_77.toInt) (B := f_78.toInt) ez_79 rfl rfl (by first | (clear h0 h1 h2 if_1 hm8 e8σ_3 if_5 if_6 if_7 mv9_σ_8 mv12_σ_8 mv14_σ_8 mv15_σ_8 mv16_σ_8 mv17_σ_8 if_9 if_10 gc_11_f_9 gc_11_f_10 c_11 if_12 ahpσ_14 bhpσ_14 chpσ_14 dhpσ_14 lkx hxat ahpσ_16 bhpσ_16 dhpσ_16 c_17 chpσ_16 hm109 f109σ_65 ahpσ_69 bhpσ_69 chpσ_69 dhpσ_69 lbr_68 ldr_68 ahpσ_71 bhpσ_71 dhpσ_71 c_72 chpσ_71; omega) | omega) (by first | (clear h0 h1 h2 hm8 mv12_σ_8 mv14_σ_8 mv17_σ_8 ahpσ_14 bhpσ_14 chpσ_14 dhpσ_14 lkx ahpσ_16 bhpσ_16 dhpσ_16 c_17 chpσ_16 hm109 f109σ_65 ahpσ_69 bhpσ_69 chpσ_69 dhpσ_69 lbr_68 ldr_68 ahpσ_71 bhpσ_71 dhpσ_71 c_72 chpσ_71; omega) | omega)
                  refine lv_bipush (v := 8) hx hb dX12_next_133 zkb_8 ?_
                  have gc_80_z_79 := q_rng z_79
                  refine q_icmp_ge (A := z_79.toInt) (B := 8) E rfl (by decide) (tgt := 163) dX12_next_135 (by decide) (fun c_80 => ?_) (fun c_80 => ?_)
                  · skip
                    replace hF := q_ifn hF (Int.not_lt.mpr c_80)
                    refine lv_ldc2 (v := (-1)) hx hb E.2.2.1 (E.2.2.2.1 _ (q_in_t7 (i := 163) (by first | rfl | decide +kernel) rfl)) dX12_next_163 ?_
                    refine ps_X12_116_12 E hI ha  dX12_next_166 (fun H locs σ_81 hσ_81 hI => ?_)
                    replace hF := q_letX hF hσ_81
                    have fr_σ_81 := fr_σ_65.sl hσ_81 ha rfl
                    have ks_σ_81 : q_KS (fun b g => b = a ∧ 12 ≤ g ∧ g ≤ 18) 9 X σ σ_81 := ks_σ_65.sl hσ_81
                    have mv9_σ_81 : (σ_81.1 a 9).toInt = (σ_65.1 a 9).toInt := congrArg Int32.toInt ((fun b g _ => by rw [hσ_81]; rfl : q_K 8 X σ_65 σ_81) a 9 (by rw [ha]; decide))
                    have mv12_σ_81 : (σ_81.1 a 12).toInt = (σ_65.1 a 12).toInt := congrArg Int32.toInt ((fun b g _ => by rw [hσ_81]; rfl : q_K 8 X σ_65 σ_81) a 12 (by rw [ha]; decide))
                    have mv14_σ_81 : (σ_81.1 a 14).toInt = (σ_65.1 a 14).toInt := congrArg Int32.toInt ((fun b g _ => by rw [hσ_81]; rfl : q_K 8 X σ_65 σ_81) a 14 (by rw [ha]; decide))
                    have mv15_σ_81 : (σ_81.1 a 15).toInt = (σ_65.1 a 15).toInt := congrArg Int32.toInt ((fun b g _ => by rw [hσ_81]; rfl : q_K 8 X σ_65 σ_81) a 15 (by rw [ha]; decide))
                    have mv16_σ_81 : (σ_81.1 a 16).toInt = (σ_65.1 a 16).toInt := congrArg Int32.toInt ((fun b g _ => by rw [hσ_81]; rfl : q_K 8 X σ_65 σ_81) a 16 (by rw [ha]; decide))
                    have mv17_σ_81 : (σ_81.1 a 17).toInt = (σ_65.1 a 17).toInt := congrArg Int32.toInt ((fun b g _ => by rw [hσ_81]; rfl : q_K 8 X σ_65 σ_81) a 17 (by rw [ha]; decide))
                    refine lv_aload_n hx hb dX12_next_169 rfl (lv_at hl 0 rfl) ?_
                    refine lv_dup hx hb dX12_next_170 rfl ?_
                    refine gs_X12_101_12 E hI ha dX12_next_171 ?_
                    refine lv_topi (fun f_82 ef_82 => ?_)
                    replace hF := q_letX hF ef_82
                    have if_82 : f_82.toInt = (σ_81.1 a 16).toInt := congrArg Int32.toInt ef_82
                    refine lv_iconst (v := 1) hx hb dX12_next_174 zki_1 ?_
                    refine lv_iadd hx hb dX12_next_175 ?_
                    refine lv_topi (fun z_83 ez_83 => ?_)
                    replace hF := q_letX hF ez_83
                    have iz_83 := q_addI (A := f_82.toInt) (B := 1) ez_83 rfl (by decide) (by first | (clear h0 h1 h2 hm8 mv12_σ_8 mv14_σ_8 mv17_σ_8 ahpσ_14 bhpσ_14 chpσ_14 dhpσ_14 lkx ahpσ_16 bhpσ_16 dhpσ_16 c_17 chpσ_16 hm109 f109σ_65 ahpσ_69 bhpσ_69 chpσ_69 dhpσ_69 lbr_68 ldr_68 ahpσ_71 bhpσ_71 dhpσ_71 c_72 chpσ_71 mv12_σ_81 mv14_σ_81 mv17_σ_81; omega) | omega) (by first | (clear h0 h1 h2 hm8 mv12_σ_8 mv14_σ_8 mv17_σ_8 ahpσ_14 bhpσ_14 chpσ_14 dhpσ_14 lkx ahpσ_16 bhpσ_16 dhpσ_16 c_17 chpσ_16 hm109 f109σ_65 ahpσ_69 bhpσ_69 chpσ_69 dhpσ_69 lbr_68 ldr_68 ahpσ_71 bhpσ_71 dhpσ_71 c_72 chpσ_71 gc_80_z_79 c_80 mv12_σ_81 mv14_σ_81 mv17_σ_81; omega) | omega)
                    refine ps_X12_101_12 E hI ha (by decide) dX12_next_176 (fun H locs σ_84 hσ_84 hI => ?_)
                    replace hF := q_letX hF hσ_84
                    have fr_σ_84 := fr_σ_81.si hσ_84 ha rfl
                    have ks_σ_84 : q_KS (fun b g => b = a ∧ 12 ≤ g ∧ g ≤ 18) 9 X σ σ_84 := ks_σ_81.siS hσ_84 ⟨rfl, by decide, by decide⟩
                    have mv9_σ_84 : (σ_84.1 a 9).toInt = (σ_81.1 a 9).toInt := congrArg Int32.toInt (q_rdn hσ_84 (Or.inr (by decide)))
                    have mv12_σ_84 : (σ_84.1 a 12).toInt = (σ_81.1 a 12).toInt := congrArg Int32.toInt (q_rdn hσ_84 (Or.inr (by decide)))
                    have mv14_σ_84 : (σ_84.1 a 14).toInt = (σ_81.1 a 14).toInt := congrArg Int32.toInt (q_rdn hσ_84 (Or.inr (by decide)))
                    have mv15_σ_84 : (σ_84.1 a 15).toInt = (σ_81.1 a 15).toInt := congrArg Int32.toInt (q_rdn hσ_84 (Or.inr (by decide)))
                    have mv16_σ_84 : (σ_84.1 a 16).toInt = z_83.toInt := congrArg Int32.toInt (q_rd hσ_84)
                    have mv17_σ_84 : (σ_84.1 a 17).toInt = (σ_81.1 a 17).toInt := congrArg Int32.toInt (q_rdn hσ_84 (Or.inr (by decide)))
                    refine lv_goto (tgt := 109) hx hb dX12_next_179 (by decide) ?_
                    exact ih109 σ_84 _ _ ls (by first | (clear h0 h1 h2 if_1 hm8 if_5 if_7 mv12_σ_8 mv14_σ_8 mv15_σ_8 mv16_σ_8 mv17_σ_8 if_9 gc_11_f_9 gc_11_f_10 c_11 if_12 ahpσ_14 bhpσ_14 chpσ_14 dhpσ_14 lkx hxat ahpσ_16 bhpσ_16 dhpσ_16 c_17 chpσ_16 ahpσ_69 dhpσ_69 ahpσ_71 bhpσ_71 dhpσ_71 c_72 gc_80_z_79 c_80 mv12_σ_81 mv14_σ_81 mv17_σ_81 mv12_σ_84 mv14_σ_84 mv15_σ_84 mv17_σ_84; omega) | omega) (by first | (clear h0 h1 h2 hm8 if_5 if_7 mv14_σ_8 mv15_σ_8 mv16_σ_8 mv17_σ_8 if_9 gc_11_f_9 gc_11_f_10 c_11 if_12 ahpσ_14 bhpσ_14 chpσ_14 dhpσ_14 lkx hxat ahpσ_16 bhpσ_16 dhpσ_16 c_17 chpσ_16 hm109 f109σ_65 ahpσ_69 dhpσ_69 ahpσ_71 bhpσ_71 dhpσ_71 c_72 mv17_σ_81 mv17_σ_84; omega) | omega) (by first | (clear h0 h1 h2 if_1 hm8 e8σ_3 if_5 if_6 if_7 mv9_σ_8 mv12_σ_8 mv14_σ_8 mv15_σ_8 mv16_σ_8 mv17_σ_8 if_9 if_10 gc_11_f_9 gc_11_f_10 c_11 if_12 ahpσ_14 bhpσ_14 chpσ_14 dhpσ_14 lkx hxat ahpσ_16 bhpσ_16 dhpσ_16 c_17 chpσ_16 hm109 f109σ_65 ahpσ_69 bhpσ_69 chpσ_69 dhpσ_69 lbr_68 ldr_68 ahpσ_71 bhpσ_71 dhpσ_71 c_72 chpσ_71 mv9_σ_81 mv12_σ_81 mv14_σ_81 mv17_σ_81 mv9_σ_84 mv12_σ_84 mv14_σ_84 mv17_σ_84; omega) | omega) ks_σ_84 fr_σ_84 hF hI (lv_sub hl [0, 1] rfl)
                  · skip
                    replace hF := q_ifp hF c_80
                    refine lv_aload_n hx hb dX12_next_138 rfl (lv_at hl 0 rfl) ?_
                    refine gs_X12_116_12 E hI ha dX12_next_139 ?_
                    refine lv_topl (fun g_85 eg_85 => ?_)
                    replace hF := q_letX hF eg_85
                    refine lv_ldc2 (v := 32) hx hb E.2.2.1 (E.2.2.2.1 _ (q_in_t7 (i := 199) (by first | rfl | decide +kernel) rfl)) dX12_next_142 ?_
                    refine lv_lmul hx hb dX12_next_145 ?_
                    refine lv_topl (fun y_86 ey_86 => ?_)
                    replace hF := q_letX hF ey_86
                    refine lv_aload_n hx hb dX12_next_146 rfl (lv_at hl 0 rfl) ?_
                    refine lv_aload_n hx hb dX12_next_147 rfl (lv_at hl 0 rfl) ?_
                    refine gs_X12_101_12 E hI ha dX12_next_148 ?_
                    refine lv_topi (fun f_87 ef_87 => ?_)
                    replace hF := q_letX hF ef_87
                    have if_87 : f_87.toInt = (σ_65.1 a 16).toInt := congrArg Int32.toInt ef_87
                    refine q_ci (q_rV11_1 (rest := [.long y_86, .ref a]) E (hml.trans hl.1.symm) hI (c_X12_look2 l X σ_65 a f_87 ha (by first | (clear h0 h1 h2 hm8 mv12_σ_8 mv14_σ_8 mv17_σ_8 ahpσ_14 bhpσ_14 chpσ_14 dhpσ_14 lkx ahpσ_16 bhpσ_16 dhpσ_16 c_17 chpσ_16 hm109 f109σ_65 ahpσ_69 bhpσ_69 chpσ_69 dhpσ_69 lbr_68 ldr_68 ahpσ_71 bhpσ_71 dhpσ_71 c_72 chpσ_71; omega) | omega) (by first | (clear h0 h1 h2 if_1 hm8 if_5 if_7 mv12_σ_8 mv14_σ_8 mv15_σ_8 mv16_σ_8 mv17_σ_8 if_9 gc_11_f_9 c_11 if_12 ahpσ_14 bhpσ_14 chpσ_14 dhpσ_14 lkx hxat ahpσ_16 bhpσ_16 dhpσ_16 c_17 chpσ_16 hm109 f109σ_65 if_67 ahpσ_69 bhpσ_69 chpσ_69 dhpσ_69 lbr_68 ldr_68 ahpσ_71 bhpσ_71 dhpσ_71 c_72 chpσ_71 if_77 if_78 iz_79 gc_80_z_79 c_80 if_87; omega) | omega)) kv_X12_107 ha ⟨Nat.le_of_ble_eq_true rfl, Nat.le_of_ble_eq_true rfl⟩ (Nat.le_of_ble_eq_true rfl) dX12_next_151) hI (Nat.le_of_ble_eq_true rfl) (fun r_88 σ_89 H locs hpσ_89 hkσ_89 hI => ?_)
                    have ahpσ_89 := hpσ_89.1
                    have bhpσ_89 := hpσ_89.2.1
                    have chpσ_89 := hpσ_89.2.2.1
                    have dhpσ_89 := hpσ_89.2.2.2
                    clear hpσ_89
                    replace hI := q_Irw ahpσ_89 hI
                    replace hF := q_letX hF dhpσ_89
                    refine lv_i2l hx hb dX12_next_154 rfl ?_
                    refine lv_topl (fun y_90 ey_90 => ?_)
                    replace hF := q_letX hF ey_90
                    refine lv_ladd hx hb dX12_next_155 ?_
                    refine lv_topl (fun y_91 ey_91 => ?_)
                    replace hF := q_letX hF ey_91
                    refine lv_ldc2 (v := 96) hx hb E.2.2.1 (E.2.2.2.1 _ (q_in_t7 (i := 200) (by first | rfl | decide +kernel) rfl)) dX12_next_156 ?_
                    refine lv_lsub hx hb dX12_next_159 ?_
                    refine lv_topl (fun y_92 ey_92 => ?_)
                    replace hF := q_letX hF ey_92
                    refine lv_goto (tgt := 166) hx hb dX12_next_160 (by decide) ?_
                    refine ps_X12_116_12 E hI ha  dX12_next_166 (fun H locs σ_93 hσ_93 hI => ?_)
                    replace hF := q_letX hF hσ_93
                    have fr_σ_93 := fr_σ_65.sl hσ_93 ha rfl
                    have ks_σ_93 : q_KS (fun b g => b = a ∧ 12 ≤ g ∧ g ≤ 18) 9 X σ σ_93 := ks_σ_65.sl hσ_93
                    have mv9_σ_93 : (σ_93.1 a 9).toInt = (σ_65.1 a 9).toInt := congrArg Int32.toInt ((fun b g _ => by rw [hσ_93]; rfl : q_K 8 X σ_65 σ_93) a 9 (by rw [ha]; decide))
                    have mv12_σ_93 : (σ_93.1 a 12).toInt = (σ_65.1 a 12).toInt := congrArg Int32.toInt ((fun b g _ => by rw [hσ_93]; rfl : q_K 8 X σ_65 σ_93) a 12 (by rw [ha]; decide))
                    have mv14_σ_93 : (σ_93.1 a 14).toInt = (σ_65.1 a 14).toInt := congrArg Int32.toInt ((fun b g _ => by rw [hσ_93]; rfl : q_K 8 X σ_65 σ_93) a 14 (by rw [ha]; decide))
                    have mv15_σ_93 : (σ_93.1 a 15).toInt = (σ_65.1 a 15).toInt := congrArg Int32.toInt ((fun b g _ => by rw [hσ_93]; rfl : q_K 8 X σ_65 σ_93) a 15 (by rw [ha]; decide))
                    have mv16_σ_93 : (σ_93.1 a 16).toInt = (σ_65.1 a 16).toInt := congrArg Int32.toInt ((fun b g _ => by rw [hσ_93]; rfl : q_K 8 X σ_65 σ_93) a 16 (by rw [ha]; decide))
                    have mv17_σ_93 : (σ_93.1 a 17).toInt = (σ_65.1 a 17).toInt := congrArg Int32.toInt ((fun b g _ => by rw [hσ_93]; rfl : q_K 8 X σ_65 σ_93) a 17 (by rw [ha]; decide))
                    refine lv_aload_n hx hb dX12_next_169 rfl (lv_at hl 0 rfl) ?_
                    refine lv_dup hx hb dX12_next_170 rfl ?_
                    refine gs_X12_101_12 E hI ha dX12_next_171 ?_
                    refine lv_topi (fun f_94 ef_94 => ?_)
                    replace hF := q_letX hF ef_94
                    have if_94 : f_94.toInt = (σ_93.1 a 16).toInt := congrArg Int32.toInt ef_94
                    refine lv_iconst (v := 1) hx hb dX12_next_174 zki_1 ?_
                    refine lv_iadd hx hb dX12_next_175 ?_
                    refine lv_topi (fun z_95 ez_95 => ?_)
                    replace hF := q_letX hF ez_95
                    have iz_95 := q_addI (A := f_94.toInt) (B := 1) ez_95 rfl (by decide) (by first | (clear h0 h1 h2 hm8 mv12_σ_8 mv14_σ_8 mv17_σ_8 ahpσ_14 bhpσ_14 chpσ_14 dhpσ_14 lkx ahpσ_16 bhpσ_16 dhpσ_16 c_17 chpσ_16 hm109 f109σ_65 ahpσ_69 bhpσ_69 chpσ_69 dhpσ_69 lbr_68 ldr_68 ahpσ_71 bhpσ_71 dhpσ_71 c_72 chpσ_71 ahpσ_89 bhpσ_89 chpσ_89 dhpσ_89 mv12_σ_93 mv14_σ_93 mv17_σ_93; omega) | omega) (by first | (clear h0 h1 h2 hm8 mv12_σ_8 mv14_σ_8 mv17_σ_8 ahpσ_14 bhpσ_14 chpσ_14 dhpσ_14 lkx ahpσ_16 bhpσ_16 dhpσ_16 c_17 chpσ_16 hm109 f109σ_65 ahpσ_69 bhpσ_69 chpσ_69 dhpσ_69 lbr_68 ldr_68 ahpσ_71 bhpσ_71 dhpσ_71 c_72 chpσ_71 if_78 gc_80_z_79 c_80 ahpσ_89 bhpσ_89 chpσ_89 dhpσ_89 mv12_σ_93 mv14_σ_93 mv15_σ_93 mv17_σ_93; omega) | omega)
                    refine ps_X12_101_12 E hI ha (by decide) dX12_next_176 (fun H locs σ_96 hσ_96 hI => ?_)
                    replace hF := q_letX hF hσ_96
                    have fr_σ_96 := fr_σ_93.si hσ_96 ha rfl
                    have ks_σ_96 : q_KS (fun b g => b = a ∧ 12 ≤ g ∧ g ≤ 18) 9 X σ σ_96 := ks_σ_93.siS hσ_96 ⟨rfl, by decide, by decide⟩
                    have mv9_σ_96 : (σ_96.1 a 9).toInt = (σ_93.1 a 9).toInt := congrArg Int32.toInt (q_rdn hσ_96 (Or.inr (by decide)))
                    have mv12_σ_96 : (σ_96.1 a 12).toInt = (σ_93.1 a 12).toInt := congrArg Int32.toInt (q_rdn hσ_96 (Or.inr (by decide)))
                    have mv14_σ_96 : (σ_96.1 a 14).toInt = (σ_93.1 a 14).toInt := congrArg Int32.toInt (q_rdn hσ_96 (Or.inr (by decide)))
                    have mv15_σ_96 : (σ_96.1 a 15).toInt = (σ_93.1 a 15).toInt := congrArg Int32.toInt (q_rdn hσ_96 (Or.inr (by decide)))
                    have mv16_σ_96 : (σ_96.1 a 16).toInt = z_95.toInt := congrArg Int32.toInt (q_rd hσ_96)
                    have mv17_σ_96 : (σ_96.1 a 17).toInt = (σ_93.1 a 17).toInt := congrArg Int32.toInt (q_rdn hσ_96 (Or.inr (by decide)))
                    refine lv_goto (tgt := 109) hx hb dX12_next_179 (by decide) ?_
                    exact ih109 σ_96 _ _ ls (by first | (clear h0 h1 h2 if_1 hm8 if_5 if_7 mv12_σ_8 mv14_σ_8 mv15_σ_8 mv16_σ_8 mv17_σ_8 if_9 gc_11_f_9 gc_11_f_10 c_11 if_12 ahpσ_14 bhpσ_14 chpσ_14 dhpσ_14 lkx hxat ahpσ_16 bhpσ_16 dhpσ_16 c_17 chpσ_16 ahpσ_69 dhpσ_69 ahpσ_71 bhpσ_71 dhpσ_71 c_72 if_78 gc_80_z_79 c_80 ahpσ_89 bhpσ_89 chpσ_89 dhpσ_89 mv12_σ_93 mv14_σ_93 mv15_σ_93 mv17_σ_93 mv12_σ_96 mv14_σ_96 mv15_σ_96 mv17_σ_96; omega) | omega) (by first | (clear h0 h1 h2 hm8 if_5 if_7 mv14_σ_8 mv15_σ_8 mv16_σ_8 mv17_σ_8 if_9 gc_11_f_9 gc_11_f_10 c_11 if_12 ahpσ_14 bhpσ_14 chpσ_14 dhpσ_14 lkx hxat ahpσ_16 bhpσ_16 dhpσ_16 c_17 chpσ_16 hm109 f109σ_65 ahpσ_69 dhpσ_69 ahpσ_71 bhpσ_71 dhpσ_71 c_72 ahpσ_89 bhpσ_89 chpσ_89 dhpσ_89 mv17_σ_93 mv17_σ_96; omega) | omega) (by first | (clear h0 h1 h2 if_1 hm8 e8σ_3 if_5 if_6 if_7 mv9_σ_8 mv12_σ_8 mv14_σ_8 mv15_σ_8 mv16_σ_8 mv17_σ_8 if_9 if_10 gc_11_f_9 gc_11_f_10 c_11 if_12 ahpσ_14 bhpσ_14 chpσ_14 dhpσ_14 lkx hxat ahpσ_16 bhpσ_16 dhpσ_16 c_17 chpσ_16 hm109 f109σ_65 ahpσ_69 bhpσ_69 chpσ_69 dhpσ_69 lbr_68 ldr_68 ahpσ_71 bhpσ_71 dhpσ_71 c_72 chpσ_71 ahpσ_89 bhpσ_89 chpσ_89 dhpσ_89 mv9_σ_93 mv12_σ_93 mv14_σ_93 mv17_σ_93 mv9_σ_96 mv12_σ_96 mv14_σ_96 mv17_σ_96; omega) | omega) ks_σ_96 fr_σ_96 hF hI (lv_sub hl [0, 1] rfl)
            exact L_109_66 (((σ_64.1 a 9).toInt - (σ_64.1 a 16).toInt).toNat + 1) σ_64 _ _ ls (Nat.lt_succ_self _) (by first | (clear h0 h1 h2 hm8 mv14_σ_8 mv17_σ_8 gc_11_f_9 gc_11_f_10 ahpσ_14 bhpσ_14 chpσ_14 dhpσ_14 lkx ahpσ_16 bhpσ_16 dhpσ_16 c_17 chpσ_16; omega) | omega) (Or.inr (by have q : (σ_64.1 a 16).toInt = xat := (by first | (clear h0 h1 h2 if_1 hm8 e8σ_3 if_6 mv9_σ_8 mv12_σ_8 mv14_σ_8 mv17_σ_8 if_10 gc_11_f_9 gc_11_f_10 c_11 ahpσ_14 bhpσ_14 chpσ_14 dhpσ_14 lkx ahpσ_16 bhpσ_16 dhpσ_16 c_17 chpσ_16; omega) | omega); rw [q]; omega)) ks_σ_64 fr_σ_64 hF hI (lv_sub hl [1, 0] rfl)
        · skip
          replace hF := q_ifn hF (Int.not_lt.mpr c_11)
          refine lv_aload_n hx hb dX12_next_77 rfl (lv_at hl 0 rfl) ?_
          refine lv_iconst (v := 0) hx hb dX12_next_78 zki_0 ?_
          refine ps_X12_110_12 E hI ha (by decide) dX12_next_79 (fun H locs σ_97 hσ_97 hI => ?_)
          replace hF := q_letX hF hσ_97
          have fr_σ_97 := fr_σ_8.si hσ_97 ha rfl
          have ks_σ_97 : q_KS (fun b g => b = a ∧ 12 ≤ g ∧ g ≤ 18) 9 X σ σ_97 := ks_σ_8.siS hσ_97 ⟨rfl, by decide, by decide⟩
          have mv9_σ_97 : (σ_97.1 a 9).toInt = (σ_8.1 a 9).toInt := congrArg Int32.toInt (q_rdn hσ_97 (Or.inr (by decide)))
          have mv12_σ_97 : (σ_97.1 a 12).toInt = (σ_8.1 a 12).toInt := congrArg Int32.toInt (q_rdn hσ_97 (Or.inr (by decide)))
          have mv14_σ_97 : (σ_97.1 a 14).toInt = 0 := by rw [q_rd hσ_97]; rfl
          have mv15_σ_97 : (σ_97.1 a 15).toInt = (σ_8.1 a 15).toInt := congrArg Int32.toInt (q_rdn hσ_97 (Or.inr (by decide)))
          have mv16_σ_97 : (σ_97.1 a 16).toInt = (σ_8.1 a 16).toInt := congrArg Int32.toInt (q_rdn hσ_97 (Or.inr (by decide)))
          have mv17_σ_97 : (σ_97.1 a 17).toInt = (σ_8.1 a 17).toInt := congrArg Int32.toInt (q_rdn hσ_97 (Or.inr (by decide)))
          exact q_retv E hr hlk hI ⟨ks_σ_97, (by first | (clear h0 h1 h2 hm8 mv12_σ_8 mv14_σ_8 mv17_σ_8 gc_11_f_9 mv12_σ_97 mv17_σ_97; omega) | omega), (by first | (clear h0 h1 h2 hm8 mv14_σ_8 mv17_σ_8 gc_11_f_9 gc_11_f_10 mv14_σ_97 mv17_σ_97; omega) | omega), (hF.trans hout), fr_σ_97⟩ dX12_next_82
      have gc_98_f_5 := q_rng f_5
      have gc_98_f_6 := q_rng f_6
      refine q_icmp_ge (A := f_5.toInt) (B := f_6.toInt) E rfl rfl (tgt := 58) dX12_next_16 (by decide) (fun c_98 => ?_) (fun c_98 => ?_)
      · skip
        replace hF := q_ifn hF (Int.not_lt.mpr c_98)
        exact J_58_6 _ _ ls hF hI (lv_sub hl [0] rfl)
      · skip
        replace hF := q_ifp hF c_98
        refine lv_aload_n hx hb dX12_next_19 rfl (lv_at hl 0 rfl) ?_
        refine lv_aload_n hx hb dX12_next_20 rfl (lv_at hl 0 rfl) ?_
        refine gs_X12_104_12 E hI ha dX12_next_21 ?_
        refine lv_topi (fun f_99 ef_99 => ?_)
        replace hF := q_letX hF ef_99
        have if_99 : f_99.toInt = (σ_3.1 a 15).toInt := congrArg Int32.toInt ef_99
        refine q_ci (q_rV11_1 (rest := []) E (hml.trans hl.1.symm) hI (c_X12_look2 l X σ_3 a f_99 ha (by first | (clear h0 h1 h2 hm8 if_6 gc_98_f_6 c_98; omega) | omega) (by first | (clear h0 h1 h2 if_1 hm8 if_5 gc_98_f_5 c_98 if_99; omega) | omega)) kv_X12_107 ha ⟨Nat.le_of_ble_eq_true rfl, Nat.le_of_ble_eq_true rfl⟩ (Nat.le_of_ble_eq_true rfl) dX12_next_24) hI (Nat.le_of_ble_eq_true rfl) (fun r_100 σ_101 H locs hpσ_101 hkσ_101 hI => ?_)
        have ahpσ_101 := hpσ_101.1
        have bhpσ_101 := hpσ_101.2.1
        have chpσ_101 := hpσ_101.2.2.1
        have dhpσ_101 := hpσ_101.2.2.2
        clear hpσ_101
        replace hI := q_Irw ahpσ_101 hI
        replace hF := q_letX hF dhpσ_101
        refine lv_bipush (v := 10) hx hb dX12_next_27 zkb_10 ?_
        have gc_102_r_100 := q_rng r_100
        refine q_icmp_eq (A := r_100.toInt) (B := 10) E rfl (by decide) (tgt := 45) dX12_next_29 (by decide) (fun c_102 => ?_) (fun c_102 => ?_)
        · skip
          replace hF := q_ifp hF c_102
          refine lv_aload_n hx hb dX12_next_45 rfl (lv_at hl 0 rfl) ?_
          refine lv_dup hx hb dX12_next_46 rfl ?_
          refine gs_X12_104_12 E hI ha dX12_next_47 ?_
          refine lv_topi (fun f_103 ef_103 => ?_)
          replace hF := q_letX hF ef_103
          have if_103 : f_103.toInt = (σ_3.1 a 15).toInt := congrArg Int32.toInt ef_103
          refine lv_iconst (v := 1) hx hb dX12_next_50 zki_1 ?_
          refine lv_iadd hx hb dX12_next_51 ?_
          refine lv_topi (fun z_104 ez_104 => ?_)
          replace hF := q_letX hF ez_104
          have iz_104 := q_addI (A := f_103.toInt) (B := 1) ez_104 rfl (by decide) (by first | (clear h0 h1 h2 if_1 hm8 e8σ_3 if_6 gc_98_f_6 c_98 ahpσ_101 bhpσ_101 chpσ_101 dhpσ_101 gc_102_r_100 c_102; omega) | omega) (by first | (clear h0 h1 h2 hm8 ahpσ_101 bhpσ_101 chpσ_101 dhpσ_101 gc_102_r_100 c_102; omega) | omega)
          refine ps_X12_104_12 E hI ha (by decide) dX12_next_52 (fun H locs σ_105 hσ_105 hI => ?_)
          replace hF := q_letX hF hσ_105
          have fr_σ_105 := fr_σ_3.si hσ_105 ha rfl
          have ks_σ_105 : q_KS (fun b g => b = a ∧ 12 ≤ g ∧ g ≤ 18) 9 X σ σ_105 := ks_σ_3.siS hσ_105 ⟨rfl, by decide, by decide⟩
          have mv9_σ_105 : (σ_105.1 a 9).toInt = (σ_3.1 a 9).toInt := congrArg Int32.toInt (q_rdn hσ_105 (Or.inr (by decide)))
          have mv12_σ_105 : (σ_105.1 a 12).toInt = (σ_3.1 a 12).toInt := congrArg Int32.toInt (q_rdn hσ_105 (Or.inr (by decide)))
          have mv14_σ_105 : (σ_105.1 a 14).toInt = (σ_3.1 a 14).toInt := congrArg Int32.toInt (q_rdn hσ_105 (Or.inr (by decide)))
          have mv15_σ_105 : (σ_105.1 a 15).toInt = z_104.toInt := congrArg Int32.toInt (q_rd hσ_105)
          have mv16_σ_105 : (σ_105.1 a 16).toInt = (σ_3.1 a 16).toInt := congrArg Int32.toInt (q_rdn hσ_105 (Or.inr (by decide)))
          have mv17_σ_105 : (σ_105.1 a 17).toInt = (σ_3.1 a 17).toInt := congrArg Int32.toInt (q_rdn hσ_105 (Or.inr (by decide)))
          refine lv_goto (tgt := 8) hx hb dX12_next_55 (by decide) ?_
          exact ih8 σ_105 _ _ ls (by first | (clear h0 h1 h2 if_1 e8σ_3 gc_98_f_5 gc_98_f_6 ahpσ_101 bhpσ_101 chpσ_101 dhpσ_101 gc_102_r_100 c_102 mv12_σ_105 mv14_σ_105 mv16_σ_105 mv17_σ_105; omega) | omega) (by first | (clear h0 h1 h2 hm8 gc_98_f_5 gc_98_f_6 ahpσ_101 bhpσ_101 chpσ_101 dhpσ_101 gc_102_r_100 c_102 mv14_σ_105 mv16_σ_105 mv17_σ_105; omega) | omega) ks_σ_105 fr_σ_105 hF hI (lv_sub hl [0] rfl)
        · skip
          replace hF := q_ifn hF c_102
          refine lv_aload_n hx hb dX12_next_32 rfl (lv_at hl 0 rfl) ?_
          refine lv_aload_n hx hb dX12_next_33 rfl (lv_at hl 0 rfl) ?_
          refine gs_X12_104_12 E hI ha dX12_next_34 ?_
          refine lv_topi (fun f_106 ef_106 => ?_)
          replace hF := q_letX hF ef_106
          have if_106 : f_106.toInt = (σ_3.1 a 15).toInt := congrArg Int32.toInt ef_106
          refine q_ci (q_rV11_1 (rest := []) E (hml.trans hl.1.symm) hI (c_X12_look2 l X σ_3 a f_106 ha (by first | (clear h0 h1 h2 hm8 if_6 gc_98_f_6 c_98 ahpσ_101 bhpσ_101 chpσ_101 dhpσ_101 gc_102_r_100 c_102; omega) | omega) (by first | (clear h0 h1 h2 if_1 hm8 if_5 gc_98_f_5 c_98 if_99 ahpσ_101 bhpσ_101 chpσ_101 dhpσ_101 gc_102_r_100 c_102 if_106; omega) | omega)) kv_X12_107 ha ⟨Nat.le_of_ble_eq_true rfl, Nat.le_of_ble_eq_true rfl⟩ (Nat.le_of_ble_eq_true rfl) dX12_next_37) hI (Nat.le_of_ble_eq_true rfl) (fun r_107 σ_108 H locs hpσ_108 hkσ_108 hI => ?_)
          have ahpσ_108 := hpσ_108.1
          have bhpσ_108 := hpσ_108.2.1
          have chpσ_108 := hpσ_108.2.2.1
          have dhpσ_108 := hpσ_108.2.2.2
          clear hpσ_108
          replace hI := q_Irw ahpσ_108 hI
          replace hF := q_letX hF dhpσ_108
          refine lv_bipush (v := 32) hx hb dX12_next_40 zkb_32 ?_
          have gc_109_r_107 := q_rng r_107
          refine q_icmp_ne (A := r_107.toInt) (B := 32) E rfl (by decide) (tgt := 58) dX12_next_42 (by decide) (fun c_109 => ?_) (fun c_109 => ?_)
          · skip
            replace hF := q_ifn hF c_109
            exact J_58_6 _ _ ls hF hI (lv_sub hl [0] rfl)
          · skip
            replace hF := q_ifp hF c_109
            refine lv_aload_n hx hb dX12_next_45 rfl (lv_at hl 0 rfl) ?_
            refine lv_dup hx hb dX12_next_46 rfl ?_
            refine gs_X12_104_12 E hI ha dX12_next_47 ?_
            refine lv_topi (fun f_110 ef_110 => ?_)
            replace hF := q_letX hF ef_110
            have if_110 : f_110.toInt = (σ_3.1 a 15).toInt := congrArg Int32.toInt ef_110
            refine lv_iconst (v := 1) hx hb dX12_next_50 zki_1 ?_
            refine lv_iadd hx hb dX12_next_51 ?_
            refine lv_topi (fun z_111 ez_111 => ?_)
            replace hF := q_letX hF ez_111
            have iz_111 := q_addI (A := f_110.toInt) (B := 1) ez_111 rfl (by decide) (by first | (clear h0 h1 h2 if_1 hm8 e8σ_3 if_6 gc_98_f_6 c_98 ahpσ_101 bhpσ_101 chpσ_101 dhpσ_101 gc_102_r_100 c_102 ahpσ_108 bhpσ_108 chpσ_108 dhpσ_108 gc_109_r_107 c_109; omega) | omega) (by first | (clear h0 h1 h2 hm8 ahpσ_101 bhpσ_101 chpσ_101 dhpσ_101 gc_102_r_100 c_102 ahpσ_108 bhpσ_108 chpσ_108 dhpσ_108 gc_109_r_107 c_109; omega) | omega)
            refine ps_X12_104_12 E hI ha (by decide) dX12_next_52 (fun H locs σ_112 hσ_112 hI => ?_)
            replace hF := q_letX hF hσ_112
            have fr_σ_112 := fr_σ_3.si hσ_112 ha rfl
            have ks_σ_112 : q_KS (fun b g => b = a ∧ 12 ≤ g ∧ g ≤ 18) 9 X σ σ_112 := ks_σ_3.siS hσ_112 ⟨rfl, by decide, by decide⟩
            have mv9_σ_112 : (σ_112.1 a 9).toInt = (σ_3.1 a 9).toInt := congrArg Int32.toInt (q_rdn hσ_112 (Or.inr (by decide)))
            have mv12_σ_112 : (σ_112.1 a 12).toInt = (σ_3.1 a 12).toInt := congrArg Int32.toInt (q_rdn hσ_112 (Or.inr (by decide)))
            have mv14_σ_112 : (σ_112.1 a 14).toInt = (σ_3.1 a 14).toInt := congrArg Int32.toInt (q_rdn hσ_112 (Or.inr (by decide)))
            have mv15_σ_112 : (σ_112.1 a 15).toInt = z_111.toInt := congrArg Int32.toInt (q_rd hσ_112)
            have mv16_σ_112 : (σ_112.1 a 16).toInt = (σ_3.1 a 16).toInt := congrArg Int32.toInt (q_rdn hσ_112 (Or.inr (by decide)))
            have mv17_σ_112 : (σ_112.1 a 17).toInt = (σ_3.1 a 17).toInt := congrArg Int32.toInt (q_rdn hσ_112 (Or.inr (by decide)))
            refine lv_goto (tgt := 8) hx hb dX12_next_55 (by decide) ?_
            exact ih8 σ_112 _ _ ls (by first | (clear h0 h1 h2 if_1 e8σ_3 gc_98_f_5 gc_98_f_6 ahpσ_101 bhpσ_101 chpσ_101 dhpσ_101 gc_102_r_100 ahpσ_108 bhpσ_108 chpσ_108 dhpσ_108 gc_109_r_107 c_109 mv12_σ_112 mv14_σ_112 mv16_σ_112 mv17_σ_112; omega) | omega) (by first | (clear h0 h1 h2 hm8 gc_98_f_5 gc_98_f_6 ahpσ_101 bhpσ_101 chpσ_101 dhpσ_101 gc_102_r_100 c_102 ahpσ_108 bhpσ_108 chpσ_108 dhpσ_108 gc_109_r_107 c_109 mv14_σ_112 mv16_σ_112 mv17_σ_112; omega) | omega) ks_σ_112 fr_σ_112 hF hI (lv_sub hl [0] rfl)
  exact L_8_4 (((σ_2.1 a 9).toInt - (σ_2.1 a 15).toInt).toNat + 1) σ_2 _ _ ls (Nat.lt_succ_self _) (by first | (clear h0 h1 h2; omega) | omega) ks_σ_2 fr_σ_2 hF hI (lv_sub hl [0] rfl)
end
