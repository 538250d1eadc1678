section
set_option maxRecDepth 100000 in
set_option maxHeartbeats 4000000 in
theorem c_X12_copy (l : Launch) (X : XW) (σ : ST) (a : Nat) (v1 : Int32) (v2 : Int32) (ha : q_kd X a = 12) (h0 : 0 ≤ v1.toInt ∧ v1.toInt ≤ 4) (h1 : 0 ≤ v2.toInt ∧ v2.toInt ≤ 3) (h2 : v1.toInt ≠ v2.toInt) : Met l yX12_copy (q_ws yX12_copy cX12_copy 4 none) (q_rm 0 0) (q_P X σ [.ref a, .int v1, .int v2]) (q_Qv X 1 σ (fun (σ' : ST) => (∀ j : Int, 0 ≤ j → m_c X σ' a j = if 930 * v2.toInt ≤ j ∧ j < 930 * v2.toInt + 930 then m_c X σ a (930 * v1.toInt + (j - 930 * v2.toInt)) else m_c X σ a j) ∧ σ' = F_X12_copy X σ a v1 v2 ∧ q_ow [(34, 99)] [(37, 99)] X σ σ')) 0 0 (q_reg X) := by
  refine q_met 1 (by first | exact rfl | decide +kernel) rfl (Nat.le_of_ble_eq_true rfl) (fun p e s m below meth c E hml hr hlk hI ls hl => ?_)
  have hx := E.1
  have hb := E.2.1
  have hl : lv_has ls 4 [(0, .ref a), (1, .int v1), (2, .int v2)] := hl
  have fr_σ : q_ow [(34, 99)] [(37, 99)] X σ σ := q_ow.rf
  obtain ⟨out, hout⟩ : ∃ o, o = F_X12_copy X σ a v1 v2 := ⟨_, rfl⟩
  have hF := hout.symm
  unfold F_X12_copy at hF
  refine lv_iconst (v := 0) hx hb dX12_copy_0 zki_0 ?_
  refine lv_istore_n (lv' := [(3, .int 0), (0, .ref a), (1, .int v1), (2, .int v2)]) hx hb dX12_copy_1 rfl hl (by decide) rfl (fun ls hl => ?_)
  have L_2_3 : ∀ (k_3 : Nat) (x_1 : Int32) (σ_2 : ST) (H : Heap) (locs : List Loc) (ls : Array Slot), (2147483647 - x_1.toInt).toNat < k_3 → (0 ≤ x_1.toInt ∧ x_1.toInt ≤ 930) → (∀ j : Int, 0 ≤ j → m_c X σ_2 a j = if 930 * v2.toInt ≤ j ∧ j < 930 * v2.toInt + x_1.toInt then m_c X σ a (930 * v1.toInt + (j - 930 * v2.toInt)) else m_c X σ a j) → (q_ow [(34, 99)] [(37, 99)] X σ σ_2) → (F_X12_copy_L2_1 X v2 v1 a k_3 x_1 σ_2 = out) → q_I X 1 σ s.heap locs σ_2 H → lv_has ls 4 [(0, .ref a), (1, .int v1), (2, .int v2), (3, .int x_1)] → W p l e (q_rm 0 0) s m ([.ref a, .int v1, .int v2] : List Value).toArray below meth c H locs 0 0 (MQ below (q_Qv X 1 σ (fun (σ' : ST) => (∀ j : Int, 0 ≤ j → m_c X σ' a j = if 930 * v2.toInt ≤ j ∧ j < 930 * v2.toInt + 930 then m_c X σ a (930 * v1.toInt + (j - 930 * v2.toInt)) else m_c X σ a j) ∧ σ' = F_X12_copy X σ a v1 v2 ∧ q_ow [(34, 99)] [(37, 99)] X σ σ')) ([.ref a, .int v1, .int v2] : List Value).toArray s 0 0 (q_reg X)) (F0 m 2 ls []) := by
    clear hF
    intro k_3
    induction k_3 with
    | zero =>
      intro x_1 σ_2 H locs ls hms
      try clear fr_σ
      exact absurd hms (Nat.not_lt_zero _)
    | succ k_3 ih2 =>
      intro x_1 σ_2 H locs ls hm2 hge2 cpσ_2 fr_σ_2 hF hI hl
      replace hF := (F_X12_copy_L2_1_s).symm.trans hF
      unfold F_X12_copy_B2_1 at hF
      refine lv_iload_n hx hb dX12_copy_2 rfl (lv_at hl 3 rfl) ?_
      refine lv_sipush (v := 930) hx hb dX12_copy_3 zks_930 ?_
      have gc_4_x_1 := q_rng x_1
      refine q_icmp_ge (A := x_1.toInt) (B := 930) E rfl (by decide) (tgt := 39) dX12_copy_6 (by decide) (fun c_4 => ?_) (fun c_4 => ?_)
      · skip
        replace hF := q_ifn hF (Int.not_lt.mpr c_4)
        skip
        refine lv_iconst (v := 0) hx hb dX12_copy_39 zki_0 ?_
        refine lv_istore_n (lv' := [(3, .int 0), (0, .ref a), (1, .int v1), (2, .int v2)]) hx hb dX12_copy_40 rfl hl (by decide) rfl (fun ls hl => ?_)
        have L_41_7 : ∀ (k_7 : Nat) (x_5 : Int32) (σ_6 : ST) (H : Heap) (locs : List Loc) (ls : Array Slot), (2147483647 - x_5.toInt).toNat < k_7 → (0 ≤ x_5.toInt ∧ x_5.toInt ≤ 6) → (∀ j : Int, 0 ≤ j → m_c X σ_6 a j = if 930 * v2.toInt ≤ j ∧ j < 930 * v2.toInt + 930 then m_c X σ a (930 * v1.toInt + (j - 930 * v2.toInt)) else m_c X σ a j) → (q_ow [(34, 99)] [(37, 99)] X σ σ_6) → (F_X12_copy_L41_3 X v2 v1 a k_7 x_5 σ_6 = out) → q_I X 1 σ s.heap locs σ_6 H → lv_has ls 4 [(0, .ref a), (1, .int v1), (2, .int v2), (3, .int x_5)] → W p l e (q_rm 0 0) s m ([.ref a, .int v1, .int v2] : List Value).toArray below meth c H locs 0 0 (MQ below (q_Qv X 1 σ (fun (σ' : ST) => (∀ j : Int, 0 ≤ j → m_c X σ' a j = if 930 * v2.toInt ≤ j ∧ j < 930 * v2.toInt + 930 then m_c X σ a (930 * v1.toInt + (j - 930 * v2.toInt)) else m_c X σ a j) ∧ σ' = F_X12_copy X σ a v1 v2 ∧ q_ow [(34, 99)] [(37, 99)] X σ σ')) ([.ref a, .int v1, .int v2] : List Value).toArray s 0 0 (q_reg X)) (F0 m 41 ls []) := by
          clear hF
          intro k_7
          induction k_7 with
          | zero =>
            intro x_5 σ_6 H locs ls hms
            exact absurd hms (Nat.not_lt_zero _)
          | succ k_7 ih41 =>
            intro x_5 σ_6 H locs ls hm41 hge41 cpσ_6 fr_σ_6 hF hI hl
            replace hF := (F_X12_copy_L41_3_s).symm.trans hF
            unfold F_X12_copy_B41_3 at hF
            refine lv_iload_n hx hb dX12_copy_41 rfl (lv_at hl 3 rfl) ?_
            refine lv_bipush (v := 6) hx hb dX12_copy_42 zkb_6 ?_
            have gc_8_x_5 := q_rng x_5
            refine q_icmp_ge (A := x_5.toInt) (B := 6) E rfl (by decide) (tgt := 75) dX12_copy_44 (by decide) (fun c_8 => ?_) (fun c_8 => ?_)
            · skip
              replace hF := q_ifn hF (Int.not_lt.mpr c_8)
              skip
              exact q_retv E hr hlk hI ⟨cpσ_6, (hF.trans hout), fr_σ_6⟩ dX12_copy_75
            · skip
              replace hF := q_ifp hF c_8
              refine lv_aload_n hx hb dX12_copy_47 rfl (lv_at hl 0 rfl) ?_
              refine gs_X12_44_12 E hI ha dX12_copy_48 ?_
              refine lv_bipush (v := 6) hx hb dX12_copy_51 zkb_6 ?_
              refine lv_iload_n hx hb dX12_copy_53 rfl (lv_at hl 2 rfl) ?_
              refine lv_imul hx hb dX12_copy_54 ?_
              refine lv_topi (fun z_9 ez_9 => ?_)
              replace hF := q_letX hF ez_9
              have iz_9 := q_mulI (A := 6) (B := v2.toInt) ez_9 (by decide) rfl (by first | (clear h0 h1 h2 hm2 hge2 gc_4_x_1 c_4 hm41 hge41 gc_8_x_5 c_8; omega) | omega) (by first | (clear h0 h1 h2 hm2 hge2 gc_4_x_1 c_4 hm41 hge41 gc_8_x_5 c_8; omega) | omega)
              refine lv_iload_n hx hb dX12_copy_55 rfl (lv_at hl 3 rfl) ?_
              refine lv_iadd hx hb dX12_copy_56 ?_
              refine lv_topi (fun z_10 ez_10 => ?_)
              replace hF := q_letX hF ez_10
              have iz_10 := q_addI (A := (6 * v2.toInt)) (B := x_5.toInt) ez_10 iz_9 rfl (by first | (clear h0 h1 h2 hm2 hge2 gc_4_x_1 c_4 hm41 gc_8_x_5 iz_9; omega) | omega) (by first | (clear h0 h1 h2 hm2 hge2 gc_4_x_1 c_4 hm41 gc_8_x_5 iz_9; omega) | omega)
              refine lv_aload_n hx hb dX12_copy_57 rfl (lv_at hl 0 rfl) ?_
              refine gs_X12_44_12 E hI ha dX12_copy_58 ?_
              refine lv_bipush (v := 6) hx hb dX12_copy_61 zkb_6 ?_
              refine lv_iload_n hx hb dX12_copy_63 rfl (lv_at hl 1 rfl) ?_
              refine lv_imul hx hb dX12_copy_64 ?_
              refine lv_topi (fun z_11 ez_11 => ?_)
              replace hF := q_letX hF ez_11
              have iz_11 := q_mulI (A := 6) (B := v1.toInt) ez_11 (by decide) rfl (by first | (clear h0 h1 h2 hm2 hge2 gc_4_x_1 c_4 hm41 hge41 gc_8_x_5 c_8 iz_9 iz_10; omega) | omega) (by first | (clear h0 h1 h2 hm2 hge2 gc_4_x_1 c_4 hm41 hge41 gc_8_x_5 c_8 iz_9 iz_10; omega) | omega)
              refine lv_iload_n hx hb dX12_copy_65 rfl (lv_at hl 3 rfl) ?_
              refine lv_iadd hx hb dX12_copy_66 ?_
              refine lv_topi (fun z_12 ez_12 => ?_)
              replace hF := q_letX hF ez_12
              have iz_12 := q_addI (A := (6 * v1.toInt)) (B := x_5.toInt) ez_12 iz_11 rfl (by first | (clear h0 h1 h2 hm2 hge2 gc_4_x_1 c_4 hm41 gc_8_x_5 iz_9 iz_11; omega) | omega) (by first | (clear h0 h1 h2 hm2 hge2 gc_4_x_1 c_4 hm41 gc_8_x_5 iz_9 iz_11; omega) | omega)
              refine q_lald E hI (q_tk (k' := 37) hI ha rfl (Nat.succ_ne_zero _)) ⟨by decide, rfl⟩ (by first | (clear h0 h1 h2 hm2 hge2 gc_4_x_1 c_4 hm41 gc_8_x_5 iz_9 iz_11; omega) | omega) (by rw [q_lnk (v := 30) hI (q_tk (k' := 37) hI ha rfl (Nat.succ_ne_zero _)) rfl (by decide)]; omega) dX12_copy_67 ?_
              refine lv_topl (fun g_13 eg_13 => ?_)
              replace hF := q_letX hF eg_13
              refine q_lastN E hI (q_tk (k' := 37) hI ha rfl (Nat.succ_ne_zero _)) ⟨by decide, rfl⟩ (by first | (clear h0 h1 h2 hm2 hge2 gc_4_x_1 c_4 hm41 gc_8_x_5 iz_9 iz_11; omega) | omega) (by rw [q_lnk (v := 30) hI (q_tk (k' := 37) hI ha rfl (Nat.succ_ne_zero _)) rfl (by decide)]; omega) dX12_copy_68 (fun H locs σ_14 hσ_14 hI => ?_)
              replace hF := q_letX hF hσ_14
              have fr_σ_14 := fr_σ_6.sl hσ_14 (q_tk (k' := 37) hI ha rfl (Nat.succ_ne_zero _)) rfl
              have mcσ_14 := m_wl (X := X) hσ_14 a
              have cpσ_14 : ∀ j : Int, 0 ≤ j → m_c X σ_14 a j = if 930 * v2.toInt ≤ j ∧ j < 930 * v2.toInt + 930 then m_c X σ a (930 * v1.toInt + (j - 930 * v2.toInt)) else m_c X σ a j := fun j hj => (mcσ_14 j).trans (cpσ_6 j hj)
              obtain ⟨z_15, ez_15⟩ : ∃ y : Int32, y = x_5 + 1 := ⟨_, rfl⟩
              replace hF := q_letX hF ez_15
              refine lv_iinc (v := z_15) (lv' := [(3, .int z_15), (0, .ref a), (1, .int v1), (2, .int v2)]) hx hb dX12_copy_69 hl (k := 3) rfl (by rw [ez_15]; rfl) (by decide) rfl (fun ls hl => ?_)
              have iz_15 : z_15.toInt = x_5.toInt + 1 := q_inc ez_15 (by first | (clear h0 h1 h2 hm2 hge2 gc_4_x_1 c_4 hm41 gc_8_x_5 iz_9 iz_11; omega) | omega)
              refine lv_goto (tgt := 41) hx hb dX12_copy_72 (by decide) ?_
              exact ih41 z_15 σ_14 _ _ ls (by first | (clear h0 h1 h2 hm2 hge2 gc_4_x_1 c_4 gc_8_x_5 iz_9 iz_11; omega) | omega) (by first | (clear h0 h1 h2 hm2 hge2 gc_4_x_1 c_4 hm41 gc_8_x_5 iz_9 iz_11; omega) | omega) cpσ_14 fr_σ_14 hF hI (lv_sub hl [1, 2, 3, 0] rfl)
        exact L_41_7 ((2147483647 - (0 : Int32).toInt).toNat + 1) 0 σ_2 _ _ ls (Nat.lt_succ_self _) (by decide) (m_cpy_n cpσ_2 (by first | (clear h0 h1 h2 hm2 gc_4_x_1; omega) | omega)) fr_σ_2 hF hI (lv_sub hl [1, 2, 3, 0] rfl)
      · skip
        replace hF := q_ifp hF c_4
        refine lv_aload_n hx hb dX12_copy_9 rfl (lv_at hl 0 rfl) ?_
        refine gs_X12_35_12 E hI ha dX12_copy_10 ?_
        refine lv_sipush (v := 930) hx hb dX12_copy_13 zks_930 ?_
        refine lv_iload_n hx hb dX12_copy_16 rfl (lv_at hl 2 rfl) ?_
        refine lv_imul hx hb dX12_copy_17 ?_
        refine lv_topi (fun z_16 ez_16 => ?_)
        replace hF := q_letX hF ez_16
        have iz_16 := q_mulI (A := 930) (B := v2.toInt) ez_16 (by decide) rfl (by first | (clear h0 h1 h2 hm2 hge2 gc_4_x_1 c_4; omega) | omega) (by first | (clear h0 h1 h2 hm2 hge2 gc_4_x_1 c_4; omega) | omega)
        refine lv_iload_n hx hb dX12_copy_18 rfl (lv_at hl 3 rfl) ?_
        refine lv_iadd hx hb dX12_copy_19 ?_
        refine lv_topi (fun z_17 ez_17 => ?_)
        replace hF := q_letX hF ez_17
        have iz_17 := q_addI (A := (930 * v2.toInt)) (B := x_1.toInt) ez_17 iz_16 rfl (by first | (clear h0 h1 h2 hm2 gc_4_x_1 iz_16; omega) | omega) (by first | (clear h0 h1 h2 hm2 gc_4_x_1 iz_16; omega) | omega)
        refine lv_aload_n hx hb dX12_copy_20 rfl (lv_at hl 0 rfl) ?_
        refine gs_X12_35_12 E hI ha dX12_copy_21 ?_
        refine lv_sipush (v := 930) hx hb dX12_copy_24 zks_930 ?_
        refine lv_iload_n hx hb dX12_copy_27 rfl (lv_at hl 1 rfl) ?_
        refine lv_imul hx hb dX12_copy_28 ?_
        refine lv_topi (fun z_18 ez_18 => ?_)
        replace hF := q_letX hF ez_18
        have iz_18 := q_mulI (A := 930) (B := v1.toInt) ez_18 (by decide) rfl (by first | (clear h0 h1 h2 hm2 hge2 gc_4_x_1 c_4 iz_16 iz_17; omega) | omega) (by first | (clear h0 h1 h2 hm2 hge2 gc_4_x_1 c_4 iz_16 iz_17; omega) | omega)
        refine lv_iload_n hx hb dX12_copy_29 rfl (lv_at hl 3 rfl) ?_
        refine lv_iadd hx hb dX12_copy_30 ?_
        refine lv_topi (fun z_19 ez_19 => ?_)
        replace hF := q_letX hF ez_19
        have iz_19 := q_addI (A := (930 * v1.toInt)) (B := x_1.toInt) ez_19 iz_18 rfl (by first | (clear h0 h1 h2 hm2 gc_4_x_1 iz_16 iz_18; omega) | omega) (by first | (clear h0 h1 h2 hm2 gc_4_x_1 iz_16 iz_18; omega) | omega)
        refine q_iald E hI (q_tk (k' := 34) hI ha rfl (Nat.succ_ne_zero _)) ⟨by decide, rfl⟩ (by first | (clear h0 h1 h2 hm2 gc_4_x_1 iz_16 iz_18; omega) | omega) (by rw [q_lnk (v := 4650) hI (q_tk (k' := 34) hI ha rfl (Nat.succ_ne_zero _)) rfl (by decide)]; omega) dX12_copy_31 ?_
        refine lv_topi (fun f_20 ef_20 => ?_)
        replace hF := q_letX hF ef_20
        have if_20 : f_20.toInt = m_c X σ_2 a ((930 * v1.toInt) + x_1.toInt) := m_rd ef_20 iz_19
        refine q_iastN E hI (q_tk (k' := 34) hI ha rfl (Nat.succ_ne_zero _)) ⟨by decide, rfl⟩ (by first | (clear h0 h1 h2 hm2 gc_4_x_1 iz_16 iz_18 if_20; omega) | omega) (by rw [q_lnk (v := 4650) hI (q_tk (k' := 34) hI ha rfl (Nat.succ_ne_zero _)) rfl (by decide)]; omega) (show 1 < 2 by decide) (q_inU rfl) dX12_copy_32 (fun H locs σ_21 hσ_21 hI => ?_)
        replace hF := q_letX hF hσ_21
        have fr_σ_21 := fr_σ_2.si hσ_21 (q_tk (k' := 34) hI ha rfl (Nat.succ_ne_zero _)) rfl
        have mcσ_21 := m_wr (v := f_20) (A := ((930 * v2.toInt) + x_1.toInt)) hσ_21 iz_17 (by first | (clear h0 h1 h2 hm2 gc_4_x_1 iz_16 iz_18 if_20; omega) | omega)
        have cpσ_21 := m_cpy (n := 930) cpσ_2 mcσ_21 if_20 (by first | (clear h0 h1 h2 hm2 gc_4_x_1 iz_16 iz_18 if_20; omega) | omega) (by first | (clear h0 h1 h2 hm2 hge2 gc_4_x_1 c_4 iz_16 iz_17 iz_18 iz_19 if_20; omega) | omega) (by first | (clear h0 h1 h2 hm2 gc_4_x_1 iz_16 iz_18 if_20; omega) | omega)
        obtain ⟨z_22, ez_22⟩ : ∃ y : Int32, y = x_1 + 1 := ⟨_, rfl⟩
        replace hF := q_letX hF ez_22
        refine lv_iinc (v := z_22) (lv' := [(3, .int z_22), (0, .ref a), (1, .int v1), (2, .int v2)]) hx hb dX12_copy_33 hl (k := 3) rfl (by rw [ez_22]; rfl) (by decide) rfl (fun ls hl => ?_)
        have iz_22 : z_22.toInt = x_1.toInt + 1 := q_inc ez_22 (by first | (clear h0 h1 h2 hm2 gc_4_x_1 iz_16 iz_18 if_20; omega) | omega)
        refine lv_goto (tgt := 2) hx hb dX12_copy_36 (by decide) ?_
        exact ih2 z_22 σ_21 _ _ ls (by first | (clear h0 h1 h2 gc_4_x_1 iz_16 iz_18 if_20; omega) | omega) (by first | (clear h0 h1 h2 hm2 gc_4_x_1 iz_16 iz_18 if_20; omega) | omega) (by rw [iz_22]; exact cpσ_21) fr_σ_21 hF hI (lv_sub hl [1, 2, 3, 0] rfl)
  exact L_2_3 ((2147483647 - (0 : Int32).toInt).toNat + 1) 0 σ _ _ ls (Nat.lt_succ_self _) (by decide) (fun j hj => by rw [if_neg (by have q : (0 : Int32).toInt = 0 := rfl; omega)]) fr_σ hF hI (lv_sub hl [1, 2, 3, 0] rfl)
end
