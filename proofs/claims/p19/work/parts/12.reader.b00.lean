set_option maxRecDepth 100000 in
set_option maxHeartbeats 4000000 in
theorem c_X6_reset (l : Launch) (X : XW) (σ : ST) (a : Nat) (ha : q_kd X a = 6) : Met l yX6_reset (q_ws yX6_reset cX6_reset 1 none) (q_rm 1 21) (q_P X σ [.ref a]) (q_Qv X 8 σ (fun (σ' : ST) => σ' = F_X6_reset X σ a ∧ q_ow [(6, 0), (6, 1), (6, 2), (6, 3), (6, 4), (20, 99)] [] X σ σ')) 0 0 (q_reg X) := by
  refine q_met 8 (by first | exact rfl | decide +kernel) rfl (Nat.le_of_ble_eq_true rfl) (fun p e s m below meth c E hml hr hlk hI ls hl => ?_)
  have hx := E.1
  have hb := E.2.1
  have hl : lv_has ls 1 [(0, .ref a)] := hl
  have fr_σ : q_ow [(6, 0), (6, 1), (6, 2), (6, 3), (6, 4), (20, 99)] [] X σ σ := q_ow.rf
  obtain ⟨out, hout⟩ : ∃ o, o = F_X6_reset X σ a := ⟨_, rfl⟩
  have hF := hout.symm
  unfold F_X6_reset at hF
  refine lv_aload_n hx hb dX6_reset_0 rfl (lv_at hl 0 rfl) ?_
  refine lv_iconst (v := 2) hx hb dX6_reset_1 (by decide) ?_
  refine ps_X6_9_6 E hI ha (by decide) (by decide) (by decide) dX6_reset_2 (fun H locs σ_1 hσ_1 hI => ?_)
  replace hF := q_letX hF hσ_1
  have fr_σ_1 := fr_σ.si hσ_1 ha rfl
  refine lv_aload_n hx hb dX6_reset_5 rfl (lv_at hl 0 rfl) ?_
  refine lv_iconst (v := 1) hx hb dX6_reset_6 (by decide) ?_
  refine ps_X6_15_6 E hI ha (by decide) dX6_reset_7 (fun H locs σ_2 hσ_2 hI => ?_)
  replace hF := q_letX hF hσ_2
  have fr_σ_2 := fr_σ_1.si hσ_2 ha rfl
  refine lv_aload_n hx hb dX6_reset_10 rfl (lv_at hl 0 rfl) ?_
  refine lv_iconst (v := 0) hx hb dX6_reset_11 (by decide) ?_
  refine ps_X6_18_6 E hI ha (by decide) dX6_reset_12 (fun H locs σ_3 hσ_3 hI => ?_)
  replace hF := q_letX hF hσ_3
  have fr_σ_3 := fr_σ_2.si hσ_3 ha rfl
  refine lv_aload_n hx hb dX6_reset_15 rfl (lv_at hl 0 rfl) ?_
  refine lv_iconst (v := 4) hx hb dX6_reset_16 (by decide) ?_
  refine ps_X6_21_6 E hI ha (by decide) (by decide) (by decide) dX6_reset_17 (fun H locs σ_4 hσ_4 hI => ?_)
  replace hF := q_letX hF hσ_4
  have fr_σ_4 := fr_σ_3.si hσ_4 ha rfl
  refine lv_aload_n hx hb dX6_reset_20 rfl (lv_at hl 0 rfl) ?_
  refine lv_iconst (v := 0) hx hb dX6_reset_21 (by decide) ?_
  refine ps_X6_24_6 E hI ha (by decide) dX6_reset_22 (fun H locs σ_5 hσ_5 hI => ?_)
  replace hF := q_letX hF hσ_5
  have fr_σ_5 := fr_σ_4.si hσ_5 ha rfl
  refine lv_aload_n hx hb dX6_reset_25 rfl (lv_at hl 0 rfl) ?_
  refine gs_X6_32_6 E hI ha dX6_reset_26 ?_
  refine q_cv (q_runV (As := []) (rest := []) E (hml.trans hl.1.symm) hI (c_X5_clear l X σ_5 (q_rf X a 5) (q_tk (k' := 5) hI ha rfl (by decide))) kv_X6_42 (q_tk (k' := 5) hI ha rfl (by decide)) ⟨rfl, by decide⟩ (show vwCl[4]? = some (RX5, TX5, 1) from rfl) rfl ⟨Nat.le_of_ble_eq_true rfl, Nat.le_of_ble_eq_true rfl⟩ ⟨Nat.le_refl _, Nat.le_refl _⟩ rfl (Nat.le_of_ble_eq_true rfl) dX6_reset_29) hI (by decide) (fun σ_7 H locs hpσ_7 hkσ_7 hI => ?_)
  obtain ⟨ahpσ_7, bhpσ_7⟩ := hpσ_7
  have fr_σ_7 := fr_σ_5.call bhpσ_7 rfl rfl
  replace hF := q_letX hF ahpσ_7
  exact q_retv E hr hlk hI ⟨(hF.trans hout), fr_σ_7⟩ dX6_reset_32

set_option maxRecDepth 100000 in
set_option maxHeartbeats 4000000 in
theorem c_X3_signAt (l : Launch) (X : XW) (σ : ST) (a : Nat) (v1 : Int32) (ha : q_kd X a = 4 ∨ q_kd X a = 9) : Met l yX3_signAt (q_ws yX3_signAt cX3_signAt 3 (some .int)) (q_rm 0 0) (q_P X σ [.ref a, .int v1]) (q_Qi X 9 σ (fun (r : Int32) (σ' : ST) => σ' = σ ∧ r = F_X3_signAt X σ a v1)) 0 0 (q_reg X) := by
  refine q_met 9 (by first | exact rfl | decide +kernel) rfl (Nat.le_of_ble_eq_true rfl) (fun p e s m below meth c E hml hr hlk hI ls hl => ?_)
  have hx := E.1
  have hb := E.2.1
  have hl : lv_has ls 3 [(0, .ref a), (1, .int v1)] := hl
  obtain ⟨out, hout⟩ : ∃ o, o = F_X3_signAt X σ a v1 := ⟨_, rfl⟩
  have hF := hout.symm
  unfold F_X3_signAt at hF
  refine lv_aload_n hx hb dX3_signAt_0 rfl (lv_at hl 0 rfl) ?_
  refine gsr_X3_19 E hI ha dX3_signAt_1 ?_
  refine lv_topi (fun f_1 ef_1 => ?_)
  replace hF := q_letX hF ef_1
  have bf_1 : 0 ≤ f_1.toInt ∧ f_1.toInt ≤ 2147483647 := by rw [ef_1]; exact q_bdR hI ha rfl rfl
  refine lv_iload_n hx hb dX3_signAt_4 rfl (lv_at hl 1 rfl) ?_
  refine lv_iadd hx hb dX3_signAt_5 ?_
  refine lv_topi (fun z_2 ez_2 => ?_)
  replace hF := q_letX hF ez_2
  refine lv_istore_n (lv' := [(2, .int z_2), (0, .ref a), (1, .int v1)]) hx hb dX3_signAt_6 rfl hl (by decide) rfl (fun ls hl => ?_)
  refine lv_iload_n hx hb dX3_signAt_7 rfl (lv_at hl 0 rfl) ?_
  refine q_if_lt (A := z_2.toInt) E rfl (tgt := 37) dX3_signAt_8 (by decide) (fun c_3 => ?_) (fun c_3 => ?_)
  · skip
    replace hF := q_ifp hF c_3
    refine lv_iconst (v := 0) hx hb dX3_signAt_37 (by decide) ?_
    exact q_reti E hr hlk hI ⟨rfl, (hF.trans hout)⟩ dX3_signAt_38
  · skip
    replace hF := q_ifn hF (Int.not_lt.mpr c_3)
    refine lv_iload_n hx hb dX3_signAt_11 rfl (lv_at hl 0 rfl) ?_
    refine lv_aload_n hx hb dX3_signAt_12 rfl (lv_at hl 1 rfl) ?_
    refine gsr_X3_15 E hI ha dX3_signAt_13 ?_
    refine lv_topi (fun f_4 ef_4 => ?_)
    replace hF := q_letX hF ef_4
    refine q_icmp_ge (A := z_2.toInt) (B := f_4.toInt) E rfl rfl (tgt := 37) dX3_signAt_16 (by decide) (fun c_5 => ?_) (fun c_5 => ?_)
    · skip
      replace hF := q_ifn hF (Int.not_lt.mpr c_5)
      refine lv_iconst (v := 0) hx hb dX3_signAt_37 (by decide) ?_
      exact q_reti E hr hlk hI ⟨rfl, (hF.trans hout)⟩ dX3_signAt_38
    · skip
      replace hF := q_ifp hF c_5
      refine lv_iload_n hx hb dX3_signAt_19 rfl (lv_at hl 0 rfl) ?_
      refine lv_aload_n hx hb dX3_signAt_20 rfl (lv_at hl 1 rfl) ?_
      refine gsr_X3_9 E hI ha dX3_signAt_21 ?_
      refine q_alenX E hI (q_txk hI ha) (by decide) (t := 0) rfl rfl dX3_signAt_24 (fun n_6 en_6 hn_6 => ?_)
      replace hF := q_letX hF en_6
      refine q_icmp_ge (A := z_2.toInt) (B := n_6.toInt) E rfl rfl (tgt := 37) dX3_signAt_25 (by decide) (fun c_7 => ?_) (fun c_7 => ?_)
      · skip
        replace hF := q_ifn hF (Int.not_lt.mpr c_7)
        refine lv_iconst (v := 0) hx hb dX3_signAt_37 (by decide) ?_
        exact q_reti E hr hlk hI ⟨rfl, (hF.trans hout)⟩ dX3_signAt_38
      · skip
        replace hF := q_ifp hF c_7
        refine lv_aload_n hx hb dX3_signAt_28 rfl (lv_at hl 1 rfl) ?_
        refine gsr_X3_9 E hI ha dX3_signAt_29 ?_
        refine lv_iload_n hx hb dX3_signAt_32 rfl (lv_at hl 0 rfl) ?_
        refine q_bald E hI (q_txk hI ha) ⟨by decide, rfl⟩ (by omega) (by first | (clear bf_1 c_3 c_5; omega) | omega) dX3_signAt_33 ?_
        refine lv_topi (fun f_8 ef_8 => ?_)
        replace hF := q_letX hF ef_8
        refine lv_goto (tgt := 38) hx hb dX3_signAt_34 (by decide) ?_
        exact q_reti E hr hlk hI ⟨rfl, (hF.trans hout)⟩ dX3_signAt_38

set_option maxRecDepth 100000 in
set_option maxHeartbeats 4000000 in
theorem c_X3_endOfRun (l : Launch) (X : XW) (σ : ST) (a : Nat) (v1 : Int32) (v2 : Int32) (ha : q_kd X a = 4 ∨ q_kd X a = 9) : Met l yX3_endOfRun (q_ws yX3_endOfRun cX3_endOfRun 4 (some .int)) (q_rm 0 0) (q_P X σ [.ref a, .int v1, .int v2]) (q_Qi X 9 σ (fun (r : Int32) (σ' : ST) => σ' = σ ∧ (0 ≤ r.toInt) ∧ r = F_X3_endOfRun X σ a v1 v2)) 0 0 (q_reg X) := by
  refine q_met 9 (by first | exact rfl | decide +kernel) rfl (Nat.le_of_ble_eq_true rfl) (fun p e s m below meth c E hml hr hlk hI ls hl => ?_)
  have hx := E.1
  have hb := E.2.1
  have hl : lv_has ls 4 [(0, .ref a), (1, .int v1), (2, .int v2)] := hl
  obtain ⟨out, hout⟩ : ∃ o, o = F_X3_endOfRun X σ a v1 v2 := ⟨_, rfl⟩
  have hF := hout.symm
  unfold F_X3_endOfRun at hF
  refine lv_aload_n hx hb dX3_endOfRun_0 rfl (lv_at hl 0 rfl) ?_
  refine gsr_X3_19 E hI ha dX3_endOfRun_1 ?_
  refine lv_topi (fun f_1 ef_1 => ?_)
  replace hF := q_letX hF ef_1
  have if_1 : f_1.toInt = (σ.1 a 2).toInt := congrArg Int32.toInt ef_1
  have bf_1 : 0 ≤ f_1.toInt ∧ f_1.toInt ≤ 2147483647 := by rw [ef_1]; exact q_bdR hI ha rfl rfl
  refine lv_istore_n (lv' := [(3, .int f_1), (0, .ref a), (1, .int v1), (2, .int v2)]) hx hb dX3_endOfRun_4 rfl hl (by decide) rfl (fun ls hl => ?_)
  have L_5_3 : ∀ (k_3 : Nat) (x_2 : Int32) (H : Heap) (locs : List Loc) (ls : Array Slot), (2147483647 - x_2.toInt).toNat < k_3 → (0 ≤ x_2.toInt) → (F_X3_endOfRun_L5_1 X σ a v1 v2 k_3 x_2 = out) → q_I X 9 σ s.heap locs σ H → lv_has ls 4 [(0, .ref a), (1, .int v1), (2, .int v2), (3, .int x_2)] → W p l e (q_rm 0 0) s m ([.ref a, .int v1, .int v2] : List Value).toArray below meth c H locs 0 0 (MQ below (q_Qi X 9 σ (fun (r : Int32) (σ' : ST) => σ' = σ ∧ (0 ≤ r.toInt) ∧ r = F_X3_endOfRun X σ a v1 v2)) ([.ref a, .int v1, .int v2] : List Value).toArray s 0 0 (q_reg X)) (F0 m 5 ls []) := by
    clear hF
    intro k_3
    induction k_3 with
    | zero =>
      intro x_2 H locs ls hms
      exact absurd hms (Nat.not_lt_zero _)
    | succ k_3 ih5 =>
      intro x_2 H locs ls hm5 hge5 hF hI hl
      replace hF := (F_X3_endOfRun_L5_1_s).symm.trans hF
      unfold F_X3_endOfRun_B5_1 at hF
      refine lv_iload_n hx hb dX3_endOfRun_5 rfl (lv_at hl 3 rfl) ?_
      refine lv_aload_n hx hb dX3_endOfRun_6 rfl (lv_at hl 0 rfl) ?_
      refine gsr_X3_15 E hI ha dX3_endOfRun_7 ?_
      refine lv_topi (fun f_4 ef_4 => ?_)
      replace hF := q_letX hF ef_4
      have if_4 : f_4.toInt = (σ.1 a 1).toInt := congrArg Int32.toInt ef_4
      have gc_5_x_2 := q_rng x_2
      have gc_5_f_4 := q_rng f_4
      refine q_icmp_ge (A := x_2.toInt) (B := f_4.toInt) E rfl rfl (tgt := 48) dX3_endOfRun_10 (by decide) (fun c_5 => ?_) (fun c_5 => ?_)
      · skip
        replace hF := q_ifn hF (Int.not_lt.mpr c_5)
        skip
        refine lv_iload_n hx hb dX3_endOfRun_48 rfl (lv_at hl 3 rfl) ?_
        exact q_reti E hr hlk hI ⟨rfl, (by omega), (hF.trans hout)⟩ dX3_endOfRun_49
      · skip
        replace hF := q_ifp hF c_5
        refine lv_iload_n hx hb dX3_endOfRun_13 rfl (lv_at hl 3 rfl) ?_
        refine lv_aload_n hx hb dX3_endOfRun_14 rfl (lv_at hl 0 rfl) ?_
        refine gsr_X3_9 E hI ha dX3_endOfRun_15 ?_
        refine q_alenX E hI (q_txk hI ha) (by decide) (t := 0) rfl rfl dX3_endOfRun_18 (fun n_6 en_6 hn_6 => ?_)
        replace hF := q_letX hF en_6
        have gc_7_x_2 := q_rng x_2
        have gc_7_n_6 := q_rng n_6
        refine q_icmp_ge (A := x_2.toInt) (B := n_6.toInt) E rfl rfl (tgt := 48) dX3_endOfRun_19 (by decide) (fun c_7 => ?_) (fun c_7 => ?_)
        · skip
          replace hF := q_ifn hF (Int.not_lt.mpr c_7)
          skip
          refine lv_iload_n hx hb dX3_endOfRun_48 rfl (lv_at hl 3 rfl) ?_
          exact q_reti E hr hlk hI ⟨rfl, (by omega), (hF.trans hout)⟩ dX3_endOfRun_49
        · skip
          replace hF := q_ifp hF c_7
          refine lv_aload_n hx hb dX3_endOfRun_22 rfl (lv_at hl 0 rfl) ?_
          refine gsr_X3_9 E hI ha dX3_endOfRun_23 ?_
          refine lv_iload_n hx hb dX3_endOfRun_26 rfl (lv_at hl 3 rfl) ?_
          refine q_bald E hI (q_txk hI ha) ⟨by decide, rfl⟩ (by omega) (by first | (clear if_1 bf_1 hm5 hge5 if_4 gc_5_x_2 gc_5_f_4 c_5 gc_7_x_2 gc_7_n_6; omega) | omega) dX3_endOfRun_27 ?_
          refine lv_topi (fun f_8 ef_8 => ?_)
          replace hF := q_letX hF ef_8
          refine lv_iload_n hx hb dX3_endOfRun_28 rfl (lv_at hl 1 rfl) ?_
          have gc_9_f_8 := q_rng f_8
          have gc_9_v1 := q_rng v1
          refine q_icmp_lt (A := f_8.toInt) (B := v1.toInt) E rfl rfl (tgt := 48) dX3_endOfRun_29 (by decide) (fun c_9 => ?_) (fun c_9 => ?_)
          · skip
            replace hF := q_ifp hF c_9
            skip
            refine lv_iload_n hx hb dX3_endOfRun_48 rfl (lv_at hl 3 rfl) ?_
            exact q_reti E hr hlk hI ⟨rfl, (by omega), (hF.trans hout)⟩ dX3_endOfRun_49
          · skip
            replace hF := q_ifn hF (Int.not_lt.mpr c_9)
            refine lv_aload_n hx hb dX3_endOfRun_32 rfl (lv_at hl 0 rfl) ?_
            refine gsr_X3_9 E hI ha dX3_endOfRun_33 ?_
            refine lv_iload_n hx hb dX3_endOfRun_36 rfl (lv_at hl 3 rfl) ?_
            refine q_bald E hI (q_txk hI ha) ⟨by decide, rfl⟩ (by omega) (by first | (clear if_1 bf_1 hm5 hge5 if_4 gc_5_x_2 gc_5_f_4 c_5 gc_7_x_2 gc_7_n_6 gc_9_f_8 gc_9_v1 c_9; omega) | omega) dX3_endOfRun_37 ?_
            refine lv_topi (fun f_10 ef_10 => ?_)
            replace hF := q_letX hF ef_10
            refine lv_iload_n hx hb dX3_endOfRun_38 rfl (lv_at hl 2 rfl) ?_
            have gc_11_f_10 := q_rng f_10
            have gc_11_v2 := q_rng v2
            refine q_icmp_gt (A := f_10.toInt) (B := v2.toInt) E rfl rfl (tgt := 48) dX3_endOfRun_39 (by decide) (fun c_11 => ?_) (fun c_11 => ?_)
            · skip
              replace hF := q_ifp hF c_11
              skip
              refine lv_iload_n hx hb dX3_endOfRun_48 rfl (lv_at hl 3 rfl) ?_
              exact q_reti E hr hlk hI ⟨rfl, (by omega), (hF.trans hout)⟩ dX3_endOfRun_49
            · skip
              replace hF := q_ifn hF (Int.not_lt.mpr c_11)
              obtain ⟨z_12, ez_12⟩ : ∃ y : Int32, y = x_2 + 1 := ⟨_, rfl⟩
              replace hF := q_letX hF ez_12
              refine lv_iinc (v := z_12) (lv' := [(3, .int z_12), (0, .ref a), (1, .int v1), (2, .int v2)]) hx hb dX3_endOfRun_42 hl (k := 3) rfl (by rw [ez_12]; rfl) (by decide) rfl (fun ls hl => ?_)
              have iz_12 : z_12.toInt = x_2.toInt + 1 := q_inc ez_12 (by first | (clear if_1 bf_1 hm5 if_4 gc_5_f_4 c_5 gc_7_x_2 gc_9_f_8 gc_9_v1 c_9 gc_11_f_10 gc_11_v2 c_11; omega) | omega)
              refine lv_goto (tgt := 5) hx hb dX3_endOfRun_45 (by decide) ?_
              exact ih5 z_12 _ _ ls (by first | (clear if_1 bf_1 hn_6 gc_7_x_2 gc_7_n_6 c_7 gc_9_f_8 gc_9_v1 c_9 gc_11_f_10 gc_11_v2 c_11; omega) | omega) (by first | (clear if_1 bf_1 hm5 if_4 gc_5_f_4 c_5 hn_6 gc_7_x_2 gc_7_n_6 c_7 gc_9_f_8 gc_9_v1 c_9 gc_11_f_10 gc_11_v2 c_11; omega) | omega) hF hI (lv_sub hl [1, 2, 3, 0] rfl)
  exact L_5_3 ((2147483647 - f_1.toInt).toNat + 1) f_1 _ _ ls (Nat.lt_succ_self _) (by omega) hF hI (lv_sub hl [1, 2, 3, 0] rfl)

set_option maxRecDepth 100000 in
set_option maxHeartbeats 4000000 in
theorem c_X3_size (l : Launch) (X : XW) (σ : ST) (a : Nat) (ha : q_kd X a = 4 ∨ q_kd X a = 9) : Met l yX3_size (q_ws yX3_size cX3_size 1 (some .int)) (q_rm 0 0) (q_P X σ [.ref a]) (q_Qi X 9 σ (fun (r : Int32) (σ' : ST) => σ' = σ ∧ r = F_X3_size X σ a)) 0 0 (q_reg X) := by
  refine q_met 9 (by first | exact rfl | decide +kernel) rfl (Nat.le_of_ble_eq_true rfl) (fun p e s m below meth c E hml hr hlk hI ls hl => ?_)
  have hx := E.1
  have hb := E.2.1
  have hl : lv_has ls 1 [(0, .ref a)] := hl
  obtain ⟨out, hout⟩ : ∃ o, o = F_X3_size X σ a := ⟨_, rfl⟩
  have hF := hout.symm
  unfold F_X3_size at hF
  refine lv_aload_n hx hb dX3_size_0 rfl (lv_at hl 0 rfl) ?_
  refine gsr_X3_22 E hI ha dX3_size_1 ?_
  refine lv_topi (fun f_1 ef_1 => ?_)
  replace hF := q_letX hF ef_1
  have bf_1 : 0 ≤ f_1.toInt ∧ f_1.toInt ≤ 2147483647 := by rw [ef_1]; exact q_bdR hI ha rfl rfl
  refine lv_aload_n hx hb dX3_size_4 rfl (lv_at hl 0 rfl) ?_
  refine gsr_X3_19 E hI ha dX3_size_5 ?_
  refine lv_topi (fun f_2 ef_2 => ?_)
  replace hF := q_letX hF ef_2
  have bf_2 : 0 ≤ f_2.toInt ∧ f_2.toInt ≤ 2147483647 := by rw [ef_2]; exact q_bdR hI ha rfl rfl
  refine lv_isub hx hb dX3_size_8 ?_
  refine lv_topi (fun z_3 ez_3 => ?_)
  replace hF := q_letX hF ez_3
  exact q_reti E hr hlk hI ⟨rfl, (hF.trans hout)⟩ dX3_size_9

set_option maxRecDepth 100000 in
set_option maxHeartbeats 4000000 in
theorem c_X3_advance (l : Launch) (X : XW) (σ : ST) (a : Nat) (ha : q_kd X a = 4 ∨ q_kd X a = 9) : Met l yX3_advance (q_ws yX3_advance cX3_advance 3 none) (q_rm 1 23) (q_P X σ [.ref a]) (q_Qv X 8 σ (fun (σ' : ST) => σ' = F_X3_advance X σ a ∧ q_ow [(4, 2), (4, 3), (4, 4), (4, 5), (9, 2), (9, 3), (9, 4), (9, 5)] [] X σ σ')) 0 0 (q_reg X) := by
  refine q_met 8 (by first | exact rfl | decide +kernel) rfl (Nat.le_of_ble_eq_true rfl) (fun p e s m below meth c E hml hr hlk hI ls hl => ?_)
  have hx := E.1
  have hb := E.2.1
  have hl : lv_has ls 3 [(0, .ref a)] := hl
  have fr_σ : q_ow [(4, 2), (4, 3), (4, 4), (4, 5), (9, 2), (9, 3), (9, 4), (9, 5)] [] X σ σ := q_ow.rf
  obtain ⟨out, hout⟩ : ∃ o, o = F_X3_advance X σ a := ⟨_, rfl⟩
  have hF := hout.symm
  unfold F_X3_advance at hF
  refine lv_aload_n hx hb dX3_advance_0 rfl (lv_at hl 0 rfl) ?_
  refine lv_aload_n hx hb dX3_advance_1 rfl (lv_at hl 0 rfl) ?_
  refine gsr_X3_22 E hI ha dX3_advance_2 ?_
  refine lv_topi (fun f_1 ef_1 => ?_)
  replace hF := q_letX hF ef_1
  have if_1 : f_1.toInt = (σ.1 a 3).toInt := congrArg Int32.toInt ef_1
  have bf_1 : 0 ≤ f_1.toInt ∧ f_1.toInt ≤ 2147483647 := by rw [ef_1]; exact q_bdR hI ha rfl rfl
  refine psr_X3_19 E hI ha (by decide) (by omega) (by omega) dX3_advance_5 (fun H locs σ_2 hσ_2 hI => ?_)
  replace hF := q_letX hF hσ_2
  have fr_σ_2 := fr_σ.siR hσ_2 ha rfl rfl
  have mv2_σ_2 : (σ_2.1 a 2).toInt = f_1.toInt := congrArg Int32.toInt (q_rd hσ_2)
  have L_8_4 : ∀ (k_4 : Nat)  (σ_3 : ST) (H : Heap) (locs : List Loc) (ls : Array Slot), (2147483647 - (σ_3.1 a 2).toInt).toNat < k_4 → (q_ow [(4, 2), (4, 3), (4, 4), (4, 5), (9, 2), (9, 3), (9, 4), (9, 5)] [] X σ σ_3) → (F_X3_advance_L8_1 X a k_4 σ_3 = out) → q_I X 8 σ s.heap locs σ_3 H → lv_has ls 3 [(0, .ref a)] → W p l e (q_rm 1 23) s m ([.ref a] : List Value).toArray below meth c H locs 0 0 (MQ below (q_Qv X 8 σ (fun (σ' : ST) => σ' = F_X3_advance X σ a ∧ q_ow [(4, 2), (4, 3), (4, 4), (4, 5), (9, 2), (9, 3), (9, 4), (9, 5)] [] X σ σ')) ([.ref a] : List Value).toArray s 0 0 (q_reg X)) (F0 m 8 ls []) := by
    clear hF
    intro k_4
    induction k_4 with
    | zero =>
      intro σ_3 H locs ls hms
      exact absurd hms (Nat.not_lt_zero _)
    | succ k_4 ih8 =>
      intro σ_3 H locs ls hm8 fr_σ_3 hF hI hl
      replace hF := (F_X3_advance_L8_1_s).symm.trans hF
      unfold F_X3_advance_B8_1 at hF
      refine lv_aload_n hx hb dX3_advance_8 rfl (lv_at hl 0 rfl) ?_
      refine gsr_X3_19 E hI ha dX3_advance_9 ?_
      refine lv_topi (fun f_5 ef_5 => ?_)
      replace hF := q_letX hF ef_5
      have if_5 : f_5.toInt = (σ_3.1 a 2).toInt := congrArg Int32.toInt ef_5
      have bf_5 : 0 ≤ f_5.toInt ∧ f_5.toInt ≤ 2147483647 := by rw [ef_5]; exact q_bdR hI ha rfl rfl
      refine lv_aload_n hx hb dX3_advance_12 rfl (lv_at hl 0 rfl) ?_
      refine gsr_X3_15 E hI ha dX3_advance_13 ?_
      refine lv_topi (fun f_6 ef_6 => ?_)
      replace hF := q_letX hF ef_6
      have if_6 : f_6.toInt = (σ_3.1 a 1).toInt := congrArg Int32.toInt ef_6
      have J_52_6 : ∀  (H : Heap) (locs : List Loc) (ls : Array Slot), (F_X3_advance_J52_2 X σ_3 a = out) → q_I X 8 σ s.heap locs σ_3 H → lv_has ls 3 [(0, .ref a)] → W p l e (q_rm 1 23) s m ([.ref a] : List Value).toArray below meth c H locs 0 0 (MQ below (q_Qv X 8 σ (fun (σ' : ST) => σ' = F_X3_advance X σ a ∧ q_ow [(4, 2), (4, 3), (4, 4), (4, 5), (9, 2), (9, 3), (9, 4), (9, 5)] [] X σ σ')) ([.ref a] : List Value).toArray s 0 0 (q_reg X)) (F0 m 52 ls []) := by
        clear hF
        intro  H locs ls  hF hI hl
        unfold F_X3_advance_J52_2 at hF
        refine lv_aload_n hx hb dX3_advance_52 rfl (lv_at hl 0 rfl) ?_
        refine lv_aload_n hx hb dX3_advance_53 rfl (lv_at hl 0 rfl) ?_
        refine gsr_X3_19 E hI ha dX3_advance_54 ?_
        refine lv_topi (fun f_7 ef_7 => ?_)
        replace hF := q_letX hF ef_7
        have if_7 : f_7.toInt = (σ_3.1 a 2).toInt := congrArg Int32.toInt ef_7
        have bf_7 : 0 ≤ f_7.toInt ∧ f_7.toInt ≤ 2147483647 := by rw [ef_7]; exact q_bdR hI ha rfl rfl
        refine psr_X3_22 E hI ha (by decide) (by first | (clear if_1 bf_1 mv2_σ_2 hm8 if_6 bf_7; omega) | omega) (by first | (clear if_1 bf_1 mv2_σ_2 hm8 if_6 bf_7; omega) | omega) dX3_advance_57 (fun H locs σ_8 hσ_8 hI => ?_)
        replace hF := q_letX hF hσ_8
        have fr_σ_8 := fr_σ_3.siR hσ_8 ha rfl rfl
        have mv2_σ_8 : (σ_8.1 a 2).toInt = (σ_3.1 a 2).toInt := congrArg Int32.toInt (q_rdn hσ_8 (Or.inr (by decide)))
        refine lv_aload_n hx hb dX3_advance_60 rfl (lv_at hl 0 rfl) ?_
        refine lv_iconst (v := 0) hx hb dX3_advance_61 (by decide) ?_
        have kc_9 : (0 : Int32).toInt = 0 := rfl
        refine q_ci (q_runR (As := [.int 0]) (rest := []) E (hml.trans hl.1.symm) hI (c_X3_signAt l X σ_8 a (0 : Int32) ha) kr_X3_49 ha rfl ⟨Nat.le_of_ble_eq_true rfl, Nat.le_of_ble_eq_true rfl⟩ ⟨Nat.le_refl _, Nat.le_refl _⟩ rfl (Nat.le_of_ble_eq_true rfl) dX3_advance_62) hI (by decide) (fun r_10 σ_11 H locs hpσ_11 hkσ_11 hI => ?_)
        obtain ⟨ahpσ_11, bhpσ_11⟩ := hpσ_11
        rw [ahpσ_11] at hI
        replace hF := q_letX hF bhpσ_11
        refine lv_istore_n (lv' := [(1, .int r_10), (0, .ref a)]) hx hb dX3_advance_65 rfl hl (by decide) rfl (fun ls hl => ?_)
        refine lv_aload_n hx hb dX3_advance_66 rfl (lv_at hl 1 rfl) ?_
        refine gsr_X3_19 E hI ha dX3_advance_67 ?_
        refine lv_topi (fun f_12 ef_12 => ?_)
        replace hF := q_letX hF ef_12
        have if_12 : f_12.toInt = (σ_8.1 a 2).toInt := congrArg Int32.toInt ef_12
        have bf_12 : 0 ≤ f_12.toInt ∧ f_12.toInt ≤ 2147483647 := by rw [ef_12]; exact q_bdR hI ha rfl rfl
        refine lv_aload_n hx hb dX3_advance_70 rfl (lv_at hl 1 rfl) ?_
        refine gsr_X3_15 E hI ha dX3_advance_71 ?_
        refine lv_topi (fun f_13 ef_13 => ?_)
        replace hF := q_letX hF ef_13
        have if_13 : f_13.toInt = (σ_8.1 a 1).toInt := congrArg Int32.toInt ef_13
        have gc_14_f_12 := q_rng f_12
        have gc_14_f_13 := q_rng f_13
        refine q_icmp_lt (A := f_12.toInt) (B := f_13.toInt) E rfl rfl (tgt := 85) dX3_advance_74 (by decide) (fun c_14 => ?_) (fun c_14 => ?_)
        · skip
          replace hF := q_ifp hF c_14
          refine lv_iload_n hx hb dX3_advance_85 rfl (lv_at hl 0 rfl) ?_
          refine lv_bipush (v := 97) hx hb dX3_advance_86 (by decide) ?_
          have J_117_14 : ∀  (H : Heap) (locs : List Loc) (ls : Array Slot), (F_X3_advance_J117_3 X r_10 σ_8 a = out) → q_I X 8 σ s.heap locs σ_8 H → lv_has ls 3 [(0, .ref a), (1, .int r_10)] → W p l e (q_rm 1 23) s m ([.ref a] : List Value).toArray below meth c H locs 0 0 (MQ below (q_Qv X 8 σ (fun (σ' : ST) => σ' = F_X3_advance X σ a ∧ q_ow [(4, 2), (4, 3), (4, 4), (4, 5), (9, 2), (9, 3), (9, 4), (9, 5)] [] X σ σ')) ([.ref a] : List Value).toArray s 0 0 (q_reg X)) (F0 m 117 ls []) := by
            clear hF
            intro  H locs ls  hF hI hl
            unfold F_X3_advance_J117_3 at hF
            refine lv_iload_n hx hb dX3_advance_117 rfl (lv_at hl 1 rfl) ?_
            refine lv_bipush (v := 48) hx hb dX3_advance_118 (by decide) ?_
            have gc_15_r_10 := q_rng r_10
            refine q_icmp_lt (A := r_10.toInt) (B := 48) E rfl (by decide) (tgt := 207) dX3_advance_120 (by decide) (fun c_15 => ?_) (fun c_15 => ?_)
            · skip
              replace hF := q_ifp hF c_15
              refine lv_aload_n hx hb dX3_advance_207 rfl (lv_at hl 0 rfl) ?_
              refine lv_iload_n hx hb dX3_advance_208 rfl (lv_at hl 1 rfl) ?_
              refine lv_bipush (v := 59) hx hb dX3_advance_209 (by decide) ?_
              have gc_16_r_10 := q_rng r_10
              refine q_icmp_eq (A := r_10.toInt) (B := 59) E rfl (by decide) (tgt := 232) dX3_advance_211 (by decide) (fun c_16 => ?_) (fun c_16 => ?_)
              · skip
                replace hF := q_ifp hF c_16
                refine lv_iconst (v := 3) hx hb dX3_advance_232 (by decide) ?_
                refine lv_goto (tgt := 237) hx hb dX3_advance_233 (by decide) ?_
                refine psr_X3_25 E hI ha (by decide) dX3_advance_237 (fun H locs σ_17 hσ_17 hI => ?_)
                replace hF := q_letX hF hσ_17
                have fr_σ_17 := fr_σ_8.siR hσ_17 ha rfl rfl
                have mv2_σ_17 : (σ_17.1 a 2).toInt = (σ_8.1 a 2).toInt := congrArg Int32.toInt (q_rdn hσ_17 (Or.inr (by decide)))
                refine lv_aload_n hx hb dX3_advance_240 rfl (lv_at hl 0 rfl) ?_
                refine lv_aload_n hx hb dX3_advance_241 rfl (lv_at hl 0 rfl) ?_
                refine gsr_X3_19 E hI ha dX3_advance_242 ?_
                refine lv_topi (fun f_18 ef_18 => ?_)
                replace hF := q_letX hF ef_18
                have if_18 : f_18.toInt = (σ_17.1 a 2).toInt := congrArg Int32.toInt ef_18
                have bf_18 : 0 ≤ f_18.toInt ∧ f_18.toInt ≤ 2147483647 := by rw [ef_18]; exact q_bdR hI ha rfl rfl
                refine lv_iconst (v := 1) hx hb dX3_advance_245 (by decide) ?_
                refine lv_iadd hx hb dX3_advance_246 ?_
                refine lv_topi (fun z_19 ez_19 => ?_)
                replace hF := q_letX hF ez_19
                have iz_19 : z_19.toInt = f_18.toInt + 1 := q_inc ez_19 (by first | (clear if_1 bf_1 mv2_σ_2 hm8 if_5 bf_5 if_6 if_7 bf_7 mv2_σ_8 kc_9 ahpσ_11 bhpσ_11 if_12 bf_12 if_13 gc_14_f_12 gc_14_f_13 c_14 gc_16_r_10 mv2_σ_17 if_18 bf_18; omega) | omega)
                refine psr_X3_22 E hI ha (by decide) (by first | (clear if_1 bf_1 mv2_σ_2 hm8 if_5 bf_5 if_6 if_7 bf_7 mv2_σ_8 kc_9 ahpσ_11 bhpσ_11 if_12 bf_12 if_13 gc_14_f_12 gc_14_f_13 c_14 gc_16_r_10 mv2_σ_17 if_18 bf_18 iz_19; omega) | omega) (by first | (clear if_1 bf_1 mv2_σ_2 hm8 if_5 bf_5 if_6 if_7 bf_7 mv2_σ_8 kc_9 ahpσ_11 bhpσ_11 if_12 bf_12 if_13 gc_14_f_12 gc_14_f_13 c_14 gc_16_r_10 mv2_σ_17 if_18 bf_18 iz_19; omega) | omega) dX3_advance_247 (fun H locs σ_20 hσ_20 hI => ?_)
                replace hF := q_letX hF hσ_20
                have fr_σ_20 := fr_σ_17.siR hσ_20 ha rfl rfl
                have mv2_σ_20 : (σ_20.1 a 2).toInt = (σ_17.1 a 2).toInt := congrArg Int32.toInt (q_rdn hσ_20 (Or.inr (by decide)))
                exact q_retv E hr hlk hI ⟨(hF.trans hout), fr_σ_20⟩ dX3_advance_250
              · skip
                replace hF := q_ifn hF c_16
                refine lv_iload_n hx hb dX3_advance_214 rfl (lv_at hl 1 rfl) ?_
                refine lv_bipush (v := 60) hx hb dX3_advance_215 (by decide) ?_
                have gc_21_r_10 := q_rng r_10
                refine q_icmp_eq (A := r_10.toInt) (B := 60) E rfl (by decide) (tgt := 232) dX3_advance_217 (by decide) (fun c_21 => ?_) (fun c_21 => ?_)
                · skip
                  replace hF := q_ifp hF c_21
                  refine lv_iconst (v := 3) hx hb dX3_advance_232 (by decide) ?_
                  refine lv_goto (tgt := 237) hx hb dX3_advance_233 (by decide) ?_
                  refine psr_X3_25 E hI ha (by decide) dX3_advance_237 (fun H locs σ_22 hσ_22 hI => ?_)
                  replace hF := q_letX hF hσ_22
                  have fr_σ_22 := fr_σ_8.siR hσ_22 ha rfl rfl
                  have mv2_σ_22 : (σ_22.1 a 2).toInt = (σ_8.1 a 2).toInt := congrArg Int32.toInt (q_rdn hσ_22 (Or.inr (by decide)))
                  refine lv_aload_n hx hb dX3_advance_240 rfl (lv_at hl 0 rfl) ?_
                  refine lv_aload_n hx hb dX3_advance_241 rfl (lv_at hl 0 rfl) ?_
                  refine gsr_X3_19 E hI ha dX3_advance_242 ?_
                  refine lv_topi (fun f_23 ef_23 => ?_)
                  replace hF := q_letX hF ef_23
                  have if_23 : f_23.toInt = (σ_22.1 a 2).toInt := congrArg Int32.toInt ef_23
                  have bf_23 : 0 ≤ f_23.toInt ∧ f_23.toInt ≤ 2147483647 := by rw [ef_23]; exact q_bdR hI ha rfl rfl
                  refine lv_iconst (v := 1) hx hb dX3_advance_245 (by decide) ?_
                  refine lv_iadd hx hb dX3_advance_246 ?_
                  refine lv_topi (fun z_24 ez_24 => ?_)
                  replace hF := q_letX hF ez_24
                  have iz_24 : z_24.toInt = f_23.toInt + 1 := q_inc ez_24 (by first | (clear if_1 bf_1 mv2_σ_2 hm8 if_5 bf_5 if_6 if_7 bf_7 mv2_σ_8 kc_9 ahpσ_11 bhpσ_11 if_12 bf_12 if_13 gc_14_f_12 gc_14_f_13 c_14 gc_16_r_10 c_16 gc_21_r_10 mv2_σ_22 if_23 bf_23; omega) | omega)
                  refine psr_X3_22 E hI ha (by decide) (by first | (clear if_1 bf_1 mv2_σ_2 hm8 if_5 bf_5 if_6 if_7 bf_7 mv2_σ_8 kc_9 ahpσ_11 bhpσ_11 if_12 bf_12 if_13 gc_14_f_12 gc_14_f_13 c_14 gc_16_r_10 c_16 gc_21_r_10 mv2_σ_22 if_23 bf_23 iz_24; omega) | omega) (by first | (clear if_1 bf_1 mv2_σ_2 hm8 if_5 bf_5 if_6 if_7 bf_7 mv2_σ_8 kc_9 ahpσ_11 bhpσ_11 if_12 bf_12 if_13 gc_14_f_12 gc_14_f_13 c_14 gc_16_r_10 c_16 gc_21_r_10 mv2_σ_22 if_23 bf_23 iz_24; omega) | omega) dX3_advance_247 (fun H locs σ_25 hσ_25 hI => ?_)
                  replace hF := q_letX hF hσ_25
                  have fr_σ_25 := fr_σ_22.siR hσ_25 ha rfl rfl
                  have mv2_σ_25 : (σ_25.1 a 2).toInt = (σ_22.1 a 2).toInt := congrArg Int32.toInt (q_rdn hσ_25 (Or.inr (by decide)))
                  exact q_retv E hr hlk hI ⟨(hF.trans hout), fr_σ_25⟩ dX3_advance_250
                · skip
                  replace hF := q_ifn hF c_21
                  refine lv_iload_n hx hb dX3_advance_220 rfl (lv_at hl 1 rfl) ?_
                  refine lv_bipush (v := 62) hx hb dX3_advance_221 (by decide) ?_
                  have gc_26_r_10 := q_rng r_10
                  refine q_icmp_eq (A := r_10.toInt) (B := 62) E rfl (by decide) (tgt := 232) dX3_advance_223 (by decide) (fun c_26 => ?_) (fun c_26 => ?_)
                  · skip
                    replace hF := q_ifp hF c_26
                    refine lv_iconst (v := 3) hx hb dX3_advance_232 (by decide) ?_
                    refine lv_goto (tgt := 237) hx hb dX3_advance_233 (by decide) ?_
                    refine psr_X3_25 E hI ha (by decide) dX3_advance_237 (fun H locs σ_27 hσ_27 hI => ?_)
                    replace hF := q_letX hF hσ_27
                    have fr_σ_27 := fr_σ_8.siR hσ_27 ha rfl rfl
                    have mv2_σ_27 : (σ_27.1 a 2).toInt = (σ_8.1 a 2).toInt := congrArg Int32.toInt (q_rdn hσ_27 (Or.inr (by decide)))
                    refine lv_aload_n hx hb dX3_advance_240 rfl (lv_at hl 0 rfl) ?_
                    refine lv_aload_n hx hb dX3_advance_241 rfl (lv_at hl 0 rfl) ?_
                    refine gsr_X3_19 E hI ha dX3_advance_242 ?_
                    refine lv_topi (fun f_28 ef_28 => ?_)
                    replace hF := q_letX hF ef_28
                    have if_28 : f_28.toInt = (σ_27.1 a 2).toInt := congrArg Int32.toInt ef_28
                    have bf_28 : 0 ≤ f_28.toInt ∧ f_28.toInt ≤ 2147483647 := by rw [ef_28]; exact q_bdR hI ha rfl rfl
                    refine lv_iconst (v := 1) hx hb dX3_advance_245 (by decide) ?_
                    refine lv_iadd hx hb dX3_advance_246 ?_
                    refine lv_topi (fun z_29 ez_29 => ?_)
                    replace hF := q_letX hF ez_29
                    have iz_29 : z_29.toInt = f_28.toInt + 1 := q_inc ez_29 (by first | (clear if_1 bf_1 mv2_σ_2 hm8 if_5 bf_5 if_6 if_7 bf_7 mv2_σ_8 kc_9 ahpσ_11 bhpσ_11 if_12 bf_12 if_13 gc_14_f_12 gc_14_f_13 c_14 gc_16_r_10 c_16 gc_21_r_10 c_21 gc_26_r_10 mv2_σ_27 if_28 bf_28; omega) | omega)
                    refine psr_X3_22 E hI ha (by decide) (by first | (clear if_1 bf_1 mv2_σ_2 hm8 if_5 bf_5 if_6 if_7 bf_7 mv2_σ_8 kc_9 ahpσ_11 bhpσ_11 if_12 bf_12 if_13 gc_14_f_12 gc_14_f_13 c_14 gc_16_r_10 c_16 gc_21_r_10 c_21 gc_26_r_10 mv2_σ_27 if_28 bf_28 iz_29; omega) | omega) (by first | (clear if_1 bf_1 mv2_σ_2 hm8 if_5 bf_5 if_6 if_7 bf_7 mv2_σ_8 kc_9 ahpσ_11 bhpσ_11 if_12 bf_12 if_13 gc_14_f_12 gc_14_f_13 c_14 gc_16_r_10 c_16 gc_21_r_10 c_21 gc_26_r_10 mv2_σ_27 if_28 bf_28 iz_29; omega) | omega) dX3_advance_247 (fun H locs σ_30 hσ_30 hI => ?_)
                    replace hF := q_letX hF hσ_30
                    have fr_σ_30 := fr_σ_27.siR hσ_30 ha rfl rfl
                    have mv2_σ_30 : (σ_30.1 a 2).toInt = (σ_27.1 a 2).toInt := congrArg Int32.toInt (q_rdn hσ_30 (Or.inr (by decide)))
                    exact q_retv E hr hlk hI ⟨(hF.trans hout), fr_σ_30⟩ dX3_advance_250
                  · skip
                    replace hF := q_ifn hF c_26
                    refine lv_iload_n hx hb dX3_advance_226 rfl (lv_at hl 1 rfl) ?_
                    refine lv_bipush (v := 61) hx hb dX3_advance_227 (by decide) ?_
                    have gc_31_r_10 := q_rng r_10
                    refine q_icmp_ne (A := r_10.toInt) (B := 61) E rfl (by decide) (tgt := 236) dX3_advance_229 (by decide) (fun c_31 => ?_) (fun c_31 => ?_)
                    · skip
                      replace hF := q_ifn hF c_31
                      refine lv_iconst (v := 4) hx hb dX3_advance_236 (by decide) ?_
                      refine psr_X3_25 E hI ha (by decide) dX3_advance_237 (fun H locs σ_32 hσ_32 hI => ?_)
                      replace hF := q_letX hF hσ_32
                      have fr_σ_32 := fr_σ_8.siR hσ_32 ha rfl rfl
                      have mv2_σ_32 : (σ_32.1 a 2).toInt = (σ_8.1 a 2).toInt := congrArg Int32.toInt (q_rdn hσ_32 (Or.inr (by decide)))
                      refine lv_aload_n hx hb dX3_advance_240 rfl (lv_at hl 0 rfl) ?_
                      refine lv_aload_n hx hb dX3_advance_241 rfl (lv_at hl 0 rfl) ?_
                      refine gsr_X3_19 E hI ha dX3_advance_242 ?_
                      refine lv_topi (fun f_33 ef_33 => ?_)
                      replace hF := q_letX hF ef_33
                      have if_33 : f_33.toInt = (σ_32.1 a 2).toInt := congrArg Int32.toInt ef_33
                      have bf_33 : 0 ≤ f_33.toInt ∧ f_33.toInt ≤ 2147483647 := by rw [ef_33]; exact q_bdR hI ha rfl rfl
                      refine lv_iconst (v := 1) hx hb dX3_advance_245 (by decide) ?_
                      refine lv_iadd hx hb dX3_advance_246 ?_
                      refine lv_topi (fun z_34 ez_34 => ?_)
                      replace hF := q_letX hF ez_34
                      have iz_34 : z_34.toInt = f_33.toInt + 1 := q_inc ez_34 (by first | (clear if_1 bf_1 mv2_σ_2 hm8 if_6 bf_7 kc_9 ahpσ_11 bhpσ_11 bf_12 gc_14_f_12 gc_15_r_10 c_15 gc_16_r_10 c_16 gc_21_r_10 c_21 gc_26_r_10 c_26 gc_31_r_10 c_31 bf_33; omega) | omega)
                      refine psr_X3_22 E hI ha (by decide) (by first | (clear if_1 bf_1 mv2_σ_2 hm8 if_6 bf_7 kc_9 ahpσ_11 bhpσ_11 bf_12 if_13 gc_14_f_12 gc_14_f_13 c_14 gc_15_r_10 c_15 gc_16_r_10 c_16 gc_21_r_10 c_21 gc_26_r_10 c_26 gc_31_r_10 c_31 bf_33; omega) | omega) (by first | (clear if_1 bf_1 mv2_σ_2 hm8 if_6 bf_7 kc_9 ahpσ_11 bhpσ_11 bf_12 gc_14_f_12 gc_15_r_10 c_15 gc_16_r_10 c_16 gc_21_r_10 c_21 gc_26_r_10 c_26 gc_31_r_10 c_31 bf_33; omega) | omega) dX3_advance_247 (fun H locs σ_35 hσ_35 hI => ?_)
                      replace hF := q_letX hF hσ_35
                      have fr_σ_35 := fr_σ_32.siR hσ_35 ha rfl rfl
                      have mv2_σ_35 : (σ_35.1 a 2).toInt = (σ_32.1 a 2).toInt := congrArg Int32.toInt (q_rdn hσ_35 (Or.inr (by decide)))
                      exact q_retv E hr hlk hI ⟨(hF.trans hout), fr_σ_35⟩ dX3_advance_250
                    · skip
                      replace hF := q_ifp hF c_31
                      refine lv_iconst (v := 3) hx hb dX3_advance_232 (by decide) ?_
                      refine lv_goto (tgt := 237) hx hb dX3_advance_233 (by decide) ?_
                      refine psr_X3_25 E hI ha (by decide) dX3_advance_237 (fun H locs σ_36 hσ_36 hI => ?_)
                      replace hF := q_letX hF hσ_36
                      have fr_σ_36 := fr_σ_8.siR hσ_36 ha rfl rfl
                      have mv2_σ_36 : (σ_36.1 a 2).toInt = (σ_8.1 a 2).toInt := congrArg Int32.toInt (q_rdn hσ_36 (Or.inr (by decide)))
                      refine lv_aload_n hx hb dX3_advance_240 rfl (lv_at hl 0 rfl) ?_
                      refine lv_aload_n hx hb dX3_advance_241 rfl (lv_at hl 0 rfl) ?_
                      refine gsr_X3_19 E hI ha dX3_advance_242 ?_
                      refine lv_topi (fun f_37 ef_37 => ?_)
                      replace hF := q_letX hF ef_37
                      have if_37 : f_37.toInt = (σ_36.1 a 2).toInt := congrArg Int32.toInt ef_37
                      have bf_37 : 0 ≤ f_37.toInt ∧ f_37.toInt ≤ 2147483647 := by rw [ef_37]; exact q_bdR hI ha rfl rfl
                      refine lv_iconst (v := 1) hx hb dX3_advance_245 (by decide) ?_
                      refine lv_iadd hx hb dX3_advance_246 ?_
                      refine lv_topi (fun z_38 ez_38 => ?_)
                      replace hF := q_letX hF ez_38
                      have iz_38 : z_38.toInt = f_37.toInt + 1 := q_inc ez_38 (by first | (clear if_1 bf_1 mv2_σ_2 hm8 if_5 bf_5 if_6 if_7 bf_7 mv2_σ_8 kc_9 ahpσ_11 bhpσ_11 if_12 bf_12 if_13 gc_14_f_12 gc_14_f_13 c_14 gc_16_r_10 c_16 gc_21_r_10 c_21 gc_26_r_10 c_26 gc_31_r_10 mv2_σ_36 if_37 bf_37; omega) | omega)
                      refine psr_X3_22 E hI ha (by decide) (by first | (clear if_1 bf_1 mv2_σ_2 hm8 if_5 bf_5 if_6 if_7 bf_7 mv2_σ_8 kc_9 ahpσ_11 bhpσ_11 if_12 bf_12 if_13 gc_14_f_12 gc_14_f_13 c_14 gc_16_r_10 c_16 gc_21_r_10 c_21 gc_26_r_10 c_26 gc_31_r_10 mv2_σ_36 if_37 bf_37 iz_38; omega) | omega) (by first | (clear if_1 bf_1 mv2_σ_2 hm8 if_5 bf_5 if_6 if_7 bf_7 mv2_σ_8 kc_9 ahpσ_11 bhpσ_11 if_12 bf_12 if_13 gc_14_f_12 gc_14_f_13 c_14 gc_16_r_10 c_16 gc_21_r_10 c_21 gc_26_r_10 c_26 gc_31_r_10 mv2_σ_36 if_37 bf_37 iz_38; omega) | omega) dX3_advance_247 (fun H locs σ_39 hσ_39 hI => ?_)
                      replace hF := q_letX hF hσ_39
                      have fr_σ_39 := fr_σ_36.siR hσ_39 ha rfl rfl
                      have mv2_σ_39 : (σ_39.1 a 2).toInt = (σ_36.1 a 2).toInt := congrArg Int32.toInt (q_rdn hσ_39 (Or.inr (by decide)))
                      exact q_retv E hr hlk hI ⟨(hF.trans hout), fr_σ_39⟩ dX3_advance_250
            · skip
              replace hF := q_ifn hF (Int.not_lt.mpr c_15)
              refine lv_iload_n hx hb dX3_advance_123 rfl (lv_at hl 1 rfl) ?_
              refine lv_bipush (v := 57) hx hb dX3_advance_124 (by decide) ?_
              have gc_40_r_10 := q_rng r_10
              refine q_icmp_gt (A := r_10.toInt) (B := 57) E rfl (by decide) (tgt := 207) dX3_advance_126 (by decide) (fun c_40 => ?_) (fun c_40 => ?_)
              · skip
                replace hF := q_ifp hF c_40
                refine lv_aload_n hx hb dX3_advance_207 rfl (lv_at hl 0 rfl) ?_
                refine lv_iload_n hx hb dX3_advance_208 rfl (lv_at hl 1 rfl) ?_
                refine lv_bipush (v := 59) hx hb dX3_advance_209 (by decide) ?_
                have gc_41_r_10 := q_rng r_10
                refine q_icmp_eq (A := r_10.toInt) (B := 59) E rfl (by decide) (tgt := 232) dX3_advance_211 (by decide) (fun c_41 => ?_) (fun c_41 => ?_)
                · skip
                  replace hF := q_ifp hF c_41
                  refine lv_iconst (v := 3) hx hb dX3_advance_232 (by decide) ?_
                  refine lv_goto (tgt := 237) hx hb dX3_advance_233 (by decide) ?_
                  refine psr_X3_25 E hI ha (by decide) dX3_advance_237 (fun H locs σ_42 hσ_42 hI => ?_)
                  replace hF := q_letX hF hσ_42
                  have fr_σ_42 := fr_σ_8.siR hσ_42 ha rfl rfl
                  have mv2_σ_42 : (σ_42.1 a 2).toInt = (σ_8.1 a 2).toInt := congrArg Int32.toInt (q_rdn hσ_42 (Or.inr (by decide)))
                  refine lv_aload_n hx hb dX3_advance_240 rfl (lv_at hl 0 rfl) ?_
                  refine lv_aload_n hx hb dX3_advance_241 rfl (lv_at hl 0 rfl) ?_
                  refine gsr_X3_19 E hI ha dX3_advance_242 ?_
                  refine lv_topi (fun f_43 ef_43 => ?_)
                  replace hF := q_letX hF ef_43
                  have if_43 : f_43.toInt = (σ_42.1 a 2).toInt := congrArg Int32.toInt ef_43
                  have bf_43 : 0 ≤ f_43.toInt ∧ f_43.toInt ≤ 2147483647 := by rw [ef_43]; exact q_bdR hI ha rfl rfl
                  refine lv_iconst (v := 1) hx hb dX3_advance_245 (by decide) ?_
                  refine lv_iadd hx hb dX3_advance_246 ?_
                  refine lv_topi (fun z_44 ez_44 => ?_)
                  replace hF := q_letX hF ez_44
                  have iz_44 : z_44.toInt = f_43.toInt + 1 := q_inc ez_44 (by first | (clear if_1 bf_1 mv2_σ_2 hm8 if_6 bf_7 kc_9 ahpσ_11 bhpσ_11 bf_12 gc_14_f_12 gc_15_r_10 c_15 gc_40_r_10 c_40 gc_41_r_10 c_41 bf_43; omega) | omega)
                  refine psr_X3_22 E hI ha (by decide) (by first | (clear if_1 bf_1 mv2_σ_2 hm8 if_6 bf_7 kc_9 ahpσ_11 bhpσ_11 bf_12 if_13 gc_14_f_12 gc_14_f_13 c_14 gc_15_r_10 c_15 gc_40_r_10 c_40 gc_41_r_10 c_41 bf_43; omega) | omega) (by first | (clear if_1 bf_1 mv2_σ_2 hm8 if_6 bf_7 kc_9 ahpσ_11 bhpσ_11 bf_12 gc_14_f_12 gc_15_r_10 c_15 gc_40_r_10 c_40 gc_41_r_10 c_41 bf_43; omega) | omega) dX3_advance_247 (fun H locs σ_45 hσ_45 hI => ?_)
                  replace hF := q_letX hF hσ_45
                  have fr_σ_45 := fr_σ_42.siR hσ_45 ha rfl rfl
                  have mv2_σ_45 : (σ_45.1 a 2).toInt = (σ_42.1 a 2).toInt := congrArg Int32.toInt (q_rdn hσ_45 (Or.inr (by decide)))
                  exact q_retv E hr hlk hI ⟨(hF.trans hout), fr_σ_45⟩ dX3_advance_250
                · skip
                  replace hF := q_ifn hF c_41
                  refine lv_iload_n hx hb dX3_advance_214 rfl (lv_at hl 1 rfl) ?_
                  refine lv_bipush (v := 60) hx hb dX3_advance_215 (by decide) ?_
                  have gc_46_r_10 := q_rng r_10
                  refine q_icmp_eq (A := r_10.toInt) (B := 60) E rfl (by decide) (tgt := 232) dX3_advance_217 (by decide) (fun c_46 => ?_) (fun c_46 => ?_)
                  · skip
                    replace hF := q_ifp hF c_46
                    refine lv_iconst (v := 3) hx hb dX3_advance_232 (by decide) ?_
                    refine lv_goto (tgt := 237) hx hb dX3_advance_233 (by decide) ?_
                    refine psr_X3_25 E hI ha (by decide) dX3_advance_237 (fun H locs σ_47 hσ_47 hI => ?_)
                    replace hF := q_letX hF hσ_47
                    have fr_σ_47 := fr_σ_8.siR hσ_47 ha rfl rfl
                    have mv2_σ_47 : (σ_47.1 a 2).toInt = (σ_8.1 a 2).toInt := congrArg Int32.toInt (q_rdn hσ_47 (Or.inr (by decide)))
                    refine lv_aload_n hx hb dX3_advance_240 rfl (lv_at hl 0 rfl) ?_
                    refine lv_aload_n hx hb dX3_advance_241 rfl (lv_at hl 0 rfl) ?_
                    refine gsr_X3_19 E hI ha dX3_advance_242 ?_
                    refine lv_topi (fun f_48 ef_48 => ?_)
                    replace hF := q_letX hF ef_48
                    have if_48 : f_48.toInt = (σ_47.1 a 2).toInt := congrArg Int32.toInt ef_48
                    have bf_48 : 0 ≤ f_48.toInt ∧ f_48.toInt ≤ 2147483647 := by rw [ef_48]; exact q_bdR hI ha rfl rfl
                    refine lv_iconst (v := 1) hx hb dX3_advance_245 (by decide) ?_
                    refine lv_iadd hx hb dX3_advance_246 ?_
                    refine lv_topi (fun z_49 ez_49 => ?_)
                    replace hF := q_letX hF ez_49
                    have iz_49 : z_49.toInt = f_48.toInt + 1 := q_inc ez_49 (by first | (clear if_1 bf_1 mv2_σ_2 hm8 if_6 bf_7 kc_9 ahpσ_11 bhpσ_11 bf_12 gc_14_f_12 gc_15_r_10 c_15 gc_40_r_10 c_40 gc_41_r_10 c_41 gc_46_r_10 c_46 bf_48; omega) | omega)
                    refine psr_X3_22 E hI ha (by decide) (by first | (clear if_1 bf_1 mv2_σ_2 hm8 if_6 bf_7 kc_9 ahpσ_11 bhpσ_11 bf_12 if_13 gc_14_f_12 gc_14_f_13 c_14 gc_15_r_10 c_15 gc_40_r_10 c_40 gc_41_r_10 c_41 gc_46_r_10 c_46 bf_48; omega) | omega) (by first | (clear if_1 bf_1 mv2_σ_2 hm8 if_6 bf_7 kc_9 ahpσ_11 bhpσ_11 bf_12 gc_14_f_12 gc_15_r_10 c_15 gc_40_r_10 c_40 gc_41_r_10 c_41 gc_46_r_10 c_46 bf_48; omega) | omega) dX3_advance_247 (fun H locs σ_50 hσ_50 hI => ?_)
                    replace hF := q_letX hF hσ_50
                    have fr_σ_50 := fr_σ_47.siR hσ_50 ha rfl rfl
                    have mv2_σ_50 : (σ_50.1 a 2).toInt = (σ_47.1 a 2).toInt := congrArg Int32.toInt (q_rdn hσ_50 (Or.inr (by decide)))
                    exact q_retv E hr hlk hI ⟨(hF.trans hout), fr_σ_50⟩ dX3_advance_250
                  · skip
                    replace hF := q_ifn hF c_46
                    refine lv_iload_n hx hb dX3_advance_220 rfl (lv_at hl 1 rfl) ?_
                    refine lv_bipush (v := 62) hx hb dX3_advance_221 (by decide) ?_
                    have gc_51_r_10 := q_rng r_10
                    refine q_icmp_eq (A := r_10.toInt) (B := 62) E rfl (by decide) (tgt := 232) dX3_advance_223 (by decide) (fun c_51 => ?_) (fun c_51 => ?_)
                    · skip
                      replace hF := q_ifp hF c_51
                      refine lv_iconst (v := 3) hx hb dX3_advance_232 (by decide) ?_
                      refine lv_goto (tgt := 237) hx hb dX3_advance_233 (by decide) ?_
                      refine psr_X3_25 E hI ha (by decide) dX3_advance_237 (fun H locs σ_52 hσ_52 hI => ?_)
                      replace hF := q_letX hF hσ_52
                      have fr_σ_52 := fr_σ_8.siR hσ_52 ha rfl rfl
                      have mv2_σ_52 : (σ_52.1 a 2).toInt = (σ_8.1 a 2).toInt := congrArg Int32.toInt (q_rdn hσ_52 (Or.inr (by decide)))
                      refine lv_aload_n hx hb dX3_advance_240 rfl (lv_at hl 0 rfl) ?_
                      refine lv_aload_n hx hb dX3_advance_241 rfl (lv_at hl 0 rfl) ?_
                      refine gsr_X3_19 E hI ha dX3_advance_242 ?_
                      refine lv_topi (fun f_53 ef_53 => ?_)
                      replace hF := q_letX hF ef_53
                      have if_53 : f_53.toInt = (σ_52.1 a 2).toInt := congrArg Int32.toInt ef_53
                      have bf_53 : 0 ≤ f_53.toInt ∧ f_53.toInt ≤ 2147483647 := by rw [ef_53]; exact q_bdR hI ha rfl rfl
                      refine lv_iconst (v := 1) hx hb dX3_advance_245 (by decide) ?_
                      refine lv_iadd hx hb dX3_advance_246 ?_
                      refine lv_topi (fun z_54 ez_54 => ?_)
                      replace hF := q_letX hF ez_54
                      have iz_54 : z_54.toInt = f_53.toInt + 1 := q_inc ez_54 (by first | (clear if_1 bf_1 mv2_σ_2 hm8 if_6 bf_7 kc_9 ahpσ_11 bhpσ_11 bf_12 gc_14_f_12 gc_15_r_10 c_15 gc_40_r_10 c_40 gc_41_r_10 c_41 gc_46_r_10 c_46 gc_51_r_10 c_51 bf_53; omega) | omega)
                      refine psr_X3_22 E hI ha (by decide) (by first | (clear if_1 bf_1 mv2_σ_2 hm8 if_6 bf_7 kc_9 ahpσ_11 bhpσ_11 bf_12 if_13 gc_14_f_12 gc_14_f_13 c_14 gc_15_r_10 c_15 gc_40_r_10 c_40 gc_41_r_10 c_41 gc_46_r_10 c_46 gc_51_r_10 c_51 bf_53; omega) | omega) (by first | (clear if_1 bf_1 mv2_σ_2 hm8 if_6 bf_7 kc_9 ahpσ_11 bhpσ_11 bf_12 gc_14_f_12 gc_15_r_10 c_15 gc_40_r_10 c_40 gc_41_r_10 c_41 gc_46_r_10 c_46 gc_51_r_10 c_51 bf_53; omega) | omega) dX3_advance_247 (fun H locs σ_55 hσ_55 hI => ?_)
                      replace hF := q_letX hF hσ_55
                      have fr_σ_55 := fr_σ_52.siR hσ_55 ha rfl rfl
                      have mv2_σ_55 : (σ_55.1 a 2).toInt = (σ_52.1 a 2).toInt := congrArg Int32.toInt (q_rdn hσ_55 (Or.inr (by decide)))
                      exact q_retv E hr hlk hI ⟨(hF.trans hout), fr_σ_55⟩ dX3_advance_250
                    · skip
                      replace hF := q_ifn hF c_51
                      refine lv_iload_n hx hb dX3_advance_226 rfl (lv_at hl 1 rfl) ?_
                      refine lv_bipush (v := 61) hx hb dX3_advance_227 (by decide) ?_
                      have gc_56_r_10 := q_rng r_10
                      refine q_icmp_ne (A := r_10.toInt) (B := 61) E rfl (by decide) (tgt := 236) dX3_advance_229 (by decide) (fun c_56 => ?_) (fun c_56 => ?_)
                      · skip
                        replace hF := q_ifn hF c_56
                        refine lv_iconst (v := 4) hx hb dX3_advance_236 (by decide) ?_
                        refine psr_X3_25 E hI ha (by decide) dX3_advance_237 (fun H locs σ_57 hσ_57 hI => ?_)
                        replace hF := q_letX hF hσ_57
                        have fr_σ_57 := fr_σ_8.siR hσ_57 ha rfl rfl
                        have mv2_σ_57 : (σ_57.1 a 2).toInt = (σ_8.1 a 2).toInt := congrArg Int32.toInt (q_rdn hσ_57 (Or.inr (by decide)))
                        refine lv_aload_n hx hb dX3_advance_240 rfl (lv_at hl 0 rfl) ?_
                        refine lv_aload_n hx hb dX3_advance_241 rfl (lv_at hl 0 rfl) ?_
                        refine gsr_X3_19 E hI ha dX3_advance_242 ?_
                        refine lv_topi (fun f_58 ef_58 => ?_)
                        replace hF := q_letX hF ef_58
                        have if_58 : f_58.toInt = (σ_57.1 a 2).toInt := congrArg Int32.toInt ef_58
                        have bf_58 : 0 ≤ f_58.toInt ∧ f_58.toInt ≤ 2147483647 := by rw [ef_58]; exact q_bdR hI ha rfl rfl
                        refine lv_iconst (v := 1) hx hb dX3_advance_245 (by decide) ?_
                        refine lv_iadd hx hb dX3_advance_246 ?_
                        refine lv_topi (fun z_59 ez_59 => ?_)
                        replace hF := q_letX hF ez_59
                        have iz_59 : z_59.toInt = f_58.toInt + 1 := q_inc ez_59 (by first | (clear if_1 bf_1 mv2_σ_2 hm8 if_6 bf_7 kc_9 ahpσ_11 bhpσ_11 bf_12 gc_14_f_12 gc_15_r_10 c_15 gc_40_r_10 c_40 gc_41_r_10 c_41 gc_46_r_10 c_46 gc_51_r_10 c_51 gc_56_r_10 c_56 bf_58; omega) | omega)
                        refine psr_X3_22 E hI ha (by decide) (by first | (clear if_1 bf_1 mv2_σ_2 hm8 if_6 bf_7 kc_9 ahpσ_11 bhpσ_11 bf_12 if_13 gc_14_f_12 gc_14_f_13 c_14 gc_15_r_10 c_15 gc_40_r_10 c_40 gc_41_r_10 c_41 gc_46_r_10 c_46 gc_51_r_10 c_51 gc_56_r_10 c_56 bf_58; omega) | omega) (by first | (clear if_1 bf_1 mv2_σ_2 hm8 if_6 bf_7 kc_9 ahpσ_11 bhpσ_11 bf_12 gc_14_f_12 gc_15_r_10 c_15 gc_40_r_10 c_40 gc_41_r_10 c_41 gc_46_r_10 c_46 gc_51_r_10 c_51 gc_56_r_10 c_56 bf_58; omega) | omega) dX3_advance_247 (fun H locs σ_60 hσ_60 hI => ?_)
                        replace hF := q_letX hF hσ_60
                        have fr_σ_60 := fr_σ_57.siR hσ_60 ha rfl rfl
                        have mv2_σ_60 : (σ_60.1 a 2).toInt = (σ_57.1 a 2).toInt := congrArg Int32.toInt (q_rdn hσ_60 (Or.inr (by decide)))
                        exact q_retv E hr hlk hI ⟨(hF.trans hout), fr_σ_60⟩ dX3_advance_250
                      · skip
                        replace hF := q_ifp hF c_56
                        refine lv_iconst (v := 3) hx hb dX3_advance_232 (by decide) ?_
                        refine lv_goto (tgt := 237) hx hb dX3_advance_233 (by decide) ?_
                        refine psr_X3_25 E hI ha (by decide) dX3_advance_237 (fun H locs σ_61 hσ_61 hI => ?_)
                        replace hF := q_letX hF hσ_61
                        have fr_σ_61 := fr_σ_8.siR hσ_61 ha rfl rfl
                        have mv2_σ_61 : (σ_61.1 a 2).toInt = (σ_8.1 a 2).toInt := congrArg Int32.toInt (q_rdn hσ_61 (Or.inr (by decide)))
                        refine lv_aload_n hx hb dX3_advance_240 rfl (lv_at hl 0 rfl) ?_
                        refine lv_aload_n hx hb dX3_advance_241 rfl (lv_at hl 0 rfl) ?_
                        refine gsr_X3_19 E hI ha dX3_advance_242 ?_
                        refine lv_topi (fun f_62 ef_62 => ?_)
                        replace hF := q_letX hF ef_62
                        have if_62 : f_62.toInt = (σ_61.1 a 2).toInt := congrArg Int32.toInt ef_62
                        have bf_62 : 0 ≤ f_62.toInt ∧ f_62.toInt ≤ 2147483647 := by rw [ef_62]; exact q_bdR hI ha rfl rfl
                        refine lv_iconst (v := 1) hx hb dX3_advance_245 (by decide) ?_
                        refine lv_iadd hx hb dX3_advance_246 ?_
                        refine lv_topi (fun z_63 ez_63 => ?_)
                        replace hF := q_letX hF ez_63
                        have iz_63 : z_63.toInt = f_62.toInt + 1 := q_inc ez_63 (by first | (clear if_1 bf_1 mv2_σ_2 hm8 if_6 bf_7 kc_9 ahpσ_11 bhpσ_11 bf_12 gc_14_f_12 gc_15_r_10 c_15 gc_40_r_10 c_40 gc_41_r_10 c_41 gc_46_r_10 c_46 gc_51_r_10 c_51 gc_56_r_10 c_56 bf_62; omega) | omega)
                        refine psr_X3_22 E hI ha (by decide) (by first | (clear if_1 bf_1 mv2_σ_2 hm8 if_6 bf_7 kc_9 ahpσ_11 bhpσ_11 bf_12 if_13 gc_14_f_12 gc_14_f_13 c_14 gc_15_r_10 c_15 gc_40_r_10 c_40 gc_41_r_10 c_41 gc_46_r_10 c_46 gc_51_r_10 c_51 gc_56_r_10 c_56 bf_62; omega) | omega) (by first | (clear if_1 bf_1 mv2_σ_2 hm8 if_6 bf_7 kc_9 ahpσ_11 bhpσ_11 bf_12 gc_14_f_12 gc_15_r_10 c_15 gc_40_r_10 c_40 gc_41_r_10 c_41 gc_46_r_10 c_46 gc_51_r_10 c_51 gc_56_r_10 c_56 bf_62; omega) | omega) dX3_advance_247 (fun H locs σ_64 hσ_64 hI => ?_)
                        replace hF := q_letX hF hσ_64
                        have fr_σ_64 := fr_σ_61.siR hσ_64 ha rfl rfl
                        have mv2_σ_64 : (σ_64.1 a 2).toInt = (σ_61.1 a 2).toInt := congrArg Int32.toInt (q_rdn hσ_64 (Or.inr (by decide)))
                        exact q_retv E hr hlk hI ⟨(hF.trans hout), fr_σ_64⟩ dX3_advance_250
              · skip
                replace hF := q_ifn hF (Int.not_lt.mpr c_40)
                refine lv_aload_n hx hb dX3_advance_129 rfl (lv_at hl 0 rfl) ?_
                refine lv_aload_n hx hb dX3_advance_130 rfl (lv_at hl 0 rfl) ?_
                refine lv_bipush (v := 48) hx hb dX3_advance_131 (by decide) ?_
                refine lv_bipush (v := 57) hx hb dX3_advance_133 (by decide) ?_
                have kc_65 : (48 : Int32).toInt = 48 := rfl
                have kc_66 : (57 : Int32).toInt = 57 := rfl
                refine q_ci (q_runR (As := [.int 48, .int 57]) (rest := [.ref a]) E (hml.trans hl.1.symm) hI (c_X3_endOfRun l X σ_8 a (48 : Int32) (57 : Int32) ha) kr_X3_53 ha rfl ⟨Nat.le_of_ble_eq_true rfl, Nat.le_of_ble_eq_true rfl⟩ ⟨Nat.le_refl _, Nat.le_refl _⟩ rfl (Nat.le_of_ble_eq_true rfl) dX3_advance_135) hI (by decide) (fun r_67 σ_68 H locs hpσ_68 hkσ_68 hI => ?_)
                obtain ⟨ahpσ_68, bhpσ_68, chpσ_68⟩ := hpσ_68
                rw [ahpσ_68] at hI
                replace hF := q_letX hF chpσ_68
                have gr_67 := q_rng r_67
                refine psr_X3_22 E hI ha (by decide) (by omega) (by first | (clear if_1 bf_1 mv2_σ_2 hm8 if_5 bf_5 if_6 if_7 bf_7 mv2_σ_8 kc_9 ahpσ_11 bhpσ_11 if_12 bf_12 if_13 gc_14_f_12 gc_14_f_13 c_14 gc_15_r_10 c_15 gc_40_r_10 c_40 kc_65 kc_66 ahpσ_68 chpσ_68; omega) | omega) dX3_advance_138 (fun H locs σ_69 hσ_69 hI => ?_)
                replace hF := q_letX hF hσ_69
                have fr_σ_69 := fr_σ_8.siR hσ_69 ha rfl rfl
                have mv2_σ_69 : (σ_69.1 a 2).toInt = (σ_8.1 a 2).toInt := congrArg Int32.toInt (q_rdn hσ_69 (Or.inr (by decide)))
                refine lv_aload_n hx hb dX3_advance_141 rfl (lv_at hl 0 rfl) ?_
                refine lv_aload_n hx hb dX3_advance_142 rfl (lv_at hl 0 rfl) ?_
                refine q_ci (q_runR (As := []) (rest := [.ref a]) E (hml.trans hl.1.symm) hI (c_X3_size l X σ_69 a ha) kr_X3_56 ha rfl ⟨Nat.le_of_ble_eq_true rfl, Nat.le_of_ble_eq_true rfl⟩ ⟨Nat.le_refl _, Nat.le_refl _⟩ rfl (Nat.le_of_ble_eq_true rfl) dX3_advance_143) hI (by decide) (fun r_70 σ_71 H locs hpσ_71 hkσ_71 hI => ?_)
                obtain ⟨ahpσ_71, bhpσ_71⟩ := hpσ_71
                rw [ahpσ_71] at hI
                replace hF := q_letX hF bhpσ_71
                refine lv_iconst (v := 4) hx hb dX3_advance_146 (by decide) ?_
                have gc_72_r_70 := q_rng r_70
                refine q_icmp_le (A := r_70.toInt) (B := 4) E rfl (by decide) (tgt := 154) dX3_advance_147 (by decide) (fun c_72 => ?_) (fun c_72 => ?_)
                · skip
                  replace hF := q_ifn hF (Int.not_lt.mpr c_72)
                  refine lv_iconst (v := 2) hx hb dX3_advance_154 (by decide) ?_
                  refine psr_X3_25 E hI ha (by decide) dX3_advance_155 (fun H locs σ_73 hσ_73 hI => ?_)
                  replace hF := q_letX hF hσ_73
                  have fr_σ_73 := fr_σ_69.siR hσ_73 ha rfl rfl
                  have mv2_σ_73 : (σ_73.1 a 2).toInt = (σ_69.1 a 2).toInt := congrArg Int32.toInt (q_rdn hσ_73 (Or.inr (by decide)))
                  refine lv_aload_n hx hb dX3_advance_158 rfl (lv_at hl 0 rfl) ?_
                  refine lv_iconst (v := 0) hx hb dX3_advance_159 (by decide) ?_
                  refine psr_X3_28 E hI ha (by decide) dX3_advance_160 (fun H locs σ_74 hσ_74 hI => ?_)
                  replace hF := q_letX hF hσ_74
                  have fr_σ_74 := fr_σ_73.siR hσ_74 ha rfl rfl
                  have mv2_σ_74 : (σ_74.1 a 2).toInt = (σ_73.1 a 2).toInt := congrArg Int32.toInt (q_rdn hσ_74 (Or.inr (by decide)))
                  refine lv_iconst (v := 0) hx hb dX3_advance_163 (by decide) ?_
                  refine lv_istore_n (lv' := [(2, .int 0), (0, .ref a), (1, .int r_10)]) hx hb dX3_advance_164 rfl hl (by decide) rfl (fun ls hl => ?_)
                  have L_165_77 : ∀ (k_77 : Nat) (x_75 : Int32) (σ_76 : ST) (H : Heap) (locs : List Loc) (ls : Array Slot), (2147483647 - x_75.toInt).toNat < k_77 → (0 ≤ x_75.toInt) → (q_ow [(4, 2), (4, 3), (4, 4), (4, 5), (9, 2), (9, 3), (9, 4), (9, 5)] [] X σ σ_76) → (F_X3_advance_L165_4 X a k_77 x_75 σ_76 = out) → q_I X 8 σ s.heap locs σ_76 H → lv_has ls 3 [(0, .ref a), (1, .int r_10), (2, .int x_75)] → W p l e (q_rm 1 23) s m ([.ref a] : List Value).toArray below meth c H locs 0 0 (MQ below (q_Qv X 8 σ (fun (σ' : ST) => σ' = F_X3_advance X σ a ∧ q_ow [(4, 2), (4, 3), (4, 4), (4, 5), (9, 2), (9, 3), (9, 4), (9, 5)] [] X σ σ')) ([.ref a] : List Value).toArray s 0 0 (q_reg X)) (F0 m 165 ls []) := by
                    clear hF
                    intro k_77
                    induction k_77 with
                    | zero =>
                      intro x_75 σ_76 H locs ls hms
                      exact absurd hms (Nat.not_lt_zero _)
                    | succ k_77 ih165 =>
                      intro x_75 σ_76 H locs ls hm165 hge165 fr_σ_76 hF hI hl
                      replace hF := (F_X3_advance_L165_4_s).symm.trans hF
                      unfold F_X3_advance_B165_4 at hF
                      refine lv_iload_n hx hb dX3_advance_165 rfl (lv_at hl 2 rfl) ?_
                      refine lv_iconst (v := 4) hx hb dX3_advance_166 (by decide) ?_
                      have gc_78_x_75 := q_rng x_75
                      refine q_icmp_ge (A := x_75.toInt) (B := 4) E rfl (by decide) (tgt := 204) dX3_advance_167 (by decide) (fun c_78 => ?_) (fun c_78 => ?_)
                      · skip
                        replace hF := q_ifn hF (Int.not_lt.mpr c_78)
                        skip
                        refine lv_goto (tgt := 250) hx hb dX3_advance_204 (by decide) ?_
                        exact q_retv E hr hlk hI ⟨(hF.trans hout), fr_σ_76⟩ dX3_advance_250
                      · skip
                        replace hF := q_ifp hF c_78
                        refine lv_iload_n hx hb dX3_advance_170 rfl (lv_at hl 2 rfl) ?_
                        refine lv_aload_n hx hb dX3_advance_171 rfl (lv_at hl 0 rfl) ?_
                        refine q_ci (q_runR (As := []) (rest := [.int x_75]) E (hml.trans hl.1.symm) hI (c_X3_size l X σ_76 a ha) kr_X3_56 ha rfl ⟨Nat.le_of_ble_eq_true rfl, Nat.le_of_ble_eq_true rfl⟩ ⟨Nat.le_refl _, Nat.le_refl _⟩ rfl (Nat.le_of_ble_eq_true rfl) dX3_advance_172) hI (by decide) (fun r_79 σ_80 H locs hpσ_80 hkσ_80 hI => ?_)
                        obtain ⟨ahpσ_80, bhpσ_80⟩ := hpσ_80
                        rw [ahpσ_80] at hI
                        replace hF := q_letX hF bhpσ_80
                        have gc_81_x_75 := q_rng x_75
                        have gc_81_r_79 := q_rng r_79
                        refine q_icmp_ge (A := x_75.toInt) (B := r_79.toInt) E rfl rfl (tgt := 204) dX3_advance_175 (by decide) (fun c_81 => ?_) (fun c_81 => ?_)
                        · skip
                          replace hF := q_ifn hF (Int.not_lt.mpr c_81)
                          skip
                          refine lv_goto (tgt := 250) hx hb dX3_advance_204 (by decide) ?_
                          exact q_retv E hr hlk hI ⟨(hF.trans hout), fr_σ_76⟩ dX3_advance_250
                        · skip
                          replace hF := q_ifp hF c_81
                          refine lv_aload_n hx hb dX3_advance_178 rfl (lv_at hl 0 rfl) ?_
                          refine lv_aload_n hx hb dX3_advance_179 rfl (lv_at hl 0 rfl) ?_
                          refine gsr_X3_28 E hI ha dX3_advance_180 ?_
                          refine lv_topi (fun f_82 ef_82 => ?_)
                          replace hF := q_letX hF ef_82
                          have if_82 : f_82.toInt = (σ_76.1 a 5).toInt := congrArg Int32.toInt ef_82
                          refine lv_bipush (v := 10) hx hb dX3_advance_183 (by decide) ?_
                          refine lv_imul hx hb dX3_advance_185 ?_
                          refine lv_topi (fun z_83 ez_83 => ?_)
                          replace hF := q_letX hF ez_83
                          refine lv_aload_n hx hb dX3_advance_186 rfl (lv_at hl 0 rfl) ?_
                          refine lv_iload_n hx hb dX3_advance_187 rfl (lv_at hl 2 rfl) ?_
                          refine q_ci (q_runR (As := [.int x_75]) (rest := [.int z_83, .ref a]) E (hml.trans hl.1.symm) hI (c_X3_signAt l X σ_76 a x_75 ha) kr_X3_49 ha rfl ⟨Nat.le_of_ble_eq_true rfl, Nat.le_of_ble_eq_true rfl⟩ ⟨Nat.le_refl _, Nat.le_refl _⟩ rfl (Nat.le_of_ble_eq_true rfl) dX3_advance_188) hI (by decide) (fun r_84 σ_85 H locs hpσ_85 hkσ_85 hI => ?_)
                          obtain ⟨ahpσ_85, bhpσ_85⟩ := hpσ_85
                          rw [ahpσ_85] at hI
                          replace hF := q_letX hF bhpσ_85
                          refine lv_iadd hx hb dX3_advance_191 ?_
                          refine lv_topi (fun z_86 ez_86 => ?_)
                          replace hF := q_letX hF ez_86
                          refine lv_bipush (v := 48) hx hb dX3_advance_192 (by decide) ?_
                          refine lv_isub hx hb dX3_advance_194 ?_
                          refine lv_topi (fun z_87 ez_87 => ?_)
                          replace hF := q_letX hF ez_87
                          refine psr_X3_28 E hI ha (by decide) dX3_advance_195 (fun H locs σ_88 hσ_88 hI => ?_)
                          replace hF := q_letX hF hσ_88
                          have fr_σ_88 := fr_σ_76.siR hσ_88 ha rfl rfl
                          have mv2_σ_88 : (σ_88.1 a 2).toInt = (σ_76.1 a 2).toInt := congrArg Int32.toInt (q_rdn hσ_88 (Or.inr (by decide)))
                          obtain ⟨z_89, ez_89⟩ : ∃ y : Int32, y = x_75 + 1 := ⟨_, rfl⟩
                          replace hF := q_letX hF ez_89
                          refine lv_iinc (v := z_89) (lv' := [(2, .int z_89), (0, .ref a), (1, .int r_10)]) hx hb dX3_advance_198 hl (k := 2) rfl (by rw [ez_89]; rfl) (by decide) rfl (fun ls hl => ?_)
                          have iz_89 : z_89.toInt = x_75.toInt + 1 := q_inc ez_89 (by first | (clear if_1 bf_1 mv2_σ_2 hm8 if_5 bf_5 if_6 if_7 bf_7 mv2_σ_8 kc_9 ahpσ_11 bhpσ_11 if_12 bf_12 if_13 gc_14_f_12 gc_14_f_13 c_14 gc_15_r_10 c_15 gc_40_r_10 c_40 kc_65 kc_66 ahpσ_68 bhpσ_68 chpσ_68 gr_67 mv2_σ_69 ahpσ_71 bhpσ_71 gc_72_r_70 c_72 mv2_σ_73 mv2_σ_74 hm165 ahpσ_80 bhpσ_80 gc_81_x_75 gc_81_r_79 c_81 if_82 ahpσ_85 bhpσ_85 mv2_σ_88; omega) | omega)
                          refine lv_goto (tgt := 165) hx hb dX3_advance_201 (by decide) ?_
                          exact ih165 z_89 σ_88 _ _ ls (by first | (clear if_1 bf_1 mv2_σ_2 hm8 if_5 bf_5 if_6 if_7 bf_7 mv2_σ_8 kc_9 ahpσ_11 bhpσ_11 if_12 bf_12 if_13 gc_14_f_12 gc_14_f_13 c_14 gc_15_r_10 c_15 gc_40_r_10 c_40 kc_65 kc_66 ahpσ_68 bhpσ_68 chpσ_68 gr_67 mv2_σ_69 ahpσ_71 bhpσ_71 gc_72_r_70 c_72 mv2_σ_73 mv2_σ_74 ahpσ_80 bhpσ_80 gc_81_x_75 gc_81_r_79 c_81 if_82 ahpσ_85 bhpσ_85 mv2_σ_88; omega) | omega) (by first | (clear if_1 bf_1 mv2_σ_2 hm8 if_5 bf_5 if_6 if_7 bf_7 mv2_σ_8 kc_9 ahpσ_11 bhpσ_11 if_12 bf_12 if_13 gc_14_f_12 gc_14_f_13 c_14 gc_15_r_10 c_15 gc_40_r_10 c_40 kc_65 kc_66 ahpσ_68 bhpσ_68 chpσ_68 gr_67 mv2_σ_69 ahpσ_71 bhpσ_71 gc_72_r_70 c_72 mv2_σ_73 mv2_σ_74 hm165 ahpσ_80 bhpσ_80 gc_81_x_75 gc_81_r_79 c_81 if_82 ahpσ_85 bhpσ_85 mv2_σ_88; omega) | omega) fr_σ_88 hF hI (lv_sub hl [1, 2, 0] rfl)
                  exact L_165_77 ((2147483647 - (0 : Int32).toInt).toNat + 1) 0 σ_74 _ _ ls (Nat.lt_succ_self _) (by decide) fr_σ_74 hF hI (lv_sub hl [1, 2, 0] rfl)
                · skip
                  replace hF := q_ifp hF c_72
                  refine lv_iconst (v := 4) hx hb dX3_advance_150 (by decide) ?_
                  refine lv_goto (tgt := 155) hx hb dX3_advance_151 (by decide) ?_
                  refine psr_X3_25 E hI ha (by decide) dX3_advance_155 (fun H locs σ_90 hσ_90 hI => ?_)
                  replace hF := q_letX hF hσ_90
                  have fr_σ_90 := fr_σ_69.siR hσ_90 ha rfl rfl
                  have mv2_σ_90 : (σ_90.1 a 2).toInt = (σ_69.1 a 2).toInt := congrArg Int32.toInt (q_rdn hσ_90 (Or.inr (by decide)))
                  refine lv_aload_n hx hb dX3_advance_158 rfl (lv_at hl 0 rfl) ?_
                  refine lv_iconst (v := 0) hx hb dX3_advance_159 (by decide) ?_
                  refine psr_X3_28 E hI ha (by decide) dX3_advance_160 (fun H locs σ_91 hσ_91 hI => ?_)
                  replace hF := q_letX hF hσ_91
                  have fr_σ_91 := fr_σ_90.siR hσ_91 ha rfl rfl
                  have mv2_σ_91 : (σ_91.1 a 2).toInt = (σ_90.1 a 2).toInt := congrArg Int32.toInt (q_rdn hσ_91 (Or.inr (by decide)))
                  refine lv_iconst (v := 0) hx hb dX3_advance_163 (by decide) ?_
                  refine lv_istore_n (lv' := [(2, .int 0), (0, .ref a), (1, .int r_10)]) hx hb dX3_advance_164 rfl hl (by decide) rfl (fun ls hl => ?_)
                  have L_165_94 : ∀ (k_94 : Nat) (x_92 : Int32) (σ_93 : ST) (H : Heap) (locs : List Loc) (ls : Array Slot), (2147483647 - x_92.toInt).toNat < k_94 → (0 ≤ x_92.toInt) → (q_ow [(4, 2), (4, 3), (4, 4), (4, 5), (9, 2), (9, 3), (9, 4), (9, 5)] [] X σ σ_93) → (F_X3_advance_L165_7 X a k_94 x_92 σ_93 = out) → q_I X 8 σ s.heap locs σ_93 H → lv_has ls 3 [(0, .ref a), (1, .int r_10), (2, .int x_92)] → W p l e (q_rm 1 23) s m ([.ref a] : List Value).toArray below meth c H locs 0 0 (MQ below (q_Qv X 8 σ (fun (σ' : ST) => σ' = F_X3_advance X σ a ∧ q_ow [(4, 2), (4, 3), (4, 4), (4, 5), (9, 2), (9, 3), (9, 4), (9, 5)] [] X σ σ')) ([.ref a] : List Value).toArray s 0 0 (q_reg X)) (F0 m 165 ls []) := by
                    clear hF
                    intro k_94
                    induction k_94 with
                    | zero =>
                      intro x_92 σ_93 H locs ls hms
                      exact absurd hms (Nat.not_lt_zero _)
                    | succ k_94 ih165 =>
                      intro x_92 σ_93 H locs ls hm165 hge165 fr_σ_93 hF hI hl
                      replace hF := (F_X3_advance_L165_7_s).symm.trans hF
                      unfold F_X3_advance_B165_7 at hF
                      refine lv_iload_n hx hb dX3_advance_165 rfl (lv_at hl 2 rfl) ?_
                      refine lv_iconst (v := 4) hx hb dX3_advance_166 (by decide) ?_
                      have gc_95_x_92 := q_rng x_92
                      refine q_icmp_ge (A := x_92.toInt) (B := 4) E rfl (by decide) (tgt := 204) dX3_advance_167 (by decide) (fun c_95 => ?_) (fun c_95 => ?_)
                      · skip
                        replace hF := q_ifn hF (Int.not_lt.mpr c_95)
                        skip
                        refine lv_goto (tgt := 250) hx hb dX3_advance_204 (by decide) ?_
                        exact q_retv E hr hlk hI ⟨(hF.trans hout), fr_σ_93⟩ dX3_advance_250
                      · skip
                        replace hF := q_ifp hF c_95
                        refine lv_iload_n hx hb dX3_advance_170 rfl (lv_at hl 2 rfl) ?_
                        refine lv_aload_n hx hb dX3_advance_171 rfl (lv_at hl 0 rfl) ?_
                        refine q_ci (q_runR (As := []) (rest := [.int x_92]) E (hml.trans hl.1.symm) hI (c_X3_size l X σ_93 a ha) kr_X3_56 ha rfl ⟨Nat.le_of_ble_eq_true rfl, Nat.le_of_ble_eq_true rfl⟩ ⟨Nat.le_refl _, Nat.le_refl _⟩ rfl (Nat.le_of_ble_eq_true rfl) dX3_advance_172) hI (by decide) (fun r_96 σ_97 H locs hpσ_97 hkσ_97 hI => ?_)
                        obtain ⟨ahpσ_97, bhpσ_97⟩ := hpσ_97
                        rw [ahpσ_97] at hI
                        replace hF := q_letX hF bhpσ_97
                        have gc_98_x_92 := q_rng x_92
                        have gc_98_r_96 := q_rng r_96
                        refine q_icmp_ge (A := x_92.toInt) (B := r_96.toInt) E rfl rfl (tgt := 204) dX3_advance_175 (by decide) (fun c_98 => ?_) (fun c_98 => ?_)
                        · skip
                          replace hF := q_ifn hF (Int.not_lt.mpr c_98)
                          skip
                          refine lv_goto (tgt := 250) hx hb dX3_advance_204 (by decide) ?_
                          exact q_retv E hr hlk hI ⟨(hF.trans hout), fr_σ_93⟩ dX3_advance_250
                        · skip
                          replace hF := q_ifp hF c_98
                          refine lv_aload_n hx hb dX3_advance_178 rfl (lv_at hl 0 rfl) ?_
                          refine lv_aload_n hx hb dX3_advance_179 rfl (lv_at hl 0 rfl) ?_
                          refine gsr_X3_28 E hI ha dX3_advance_180 ?_
                          refine lv_topi (fun f_99 ef_99 => ?_)
                          replace hF := q_letX hF ef_99
                          have if_99 : f_99.toInt = (σ_93.1 a 5).toInt := congrArg Int32.toInt ef_99
                          refine lv_bipush (v := 10) hx hb dX3_advance_183 (by decide) ?_
                          refine lv_imul hx hb dX3_advance_185 ?_
                          refine lv_topi (fun z_100 ez_100 => ?_)
                          replace hF := q_letX hF ez_100
                          refine lv_aload_n hx hb dX3_advance_186 rfl (lv_at hl 0 rfl) ?_
                          refine lv_iload_n hx hb dX3_advance_187 rfl (lv_at hl 2 rfl) ?_
                          refine q_ci (q_runR (As := [.int x_92]) (rest := [.int z_100, .ref a]) E (hml.trans hl.1.symm) hI (c_X3_signAt l X σ_93 a x_92 ha) kr_X3_49 ha rfl ⟨Nat.le_of_ble_eq_true rfl, Nat.le_of_ble_eq_true rfl⟩ ⟨Nat.le_refl _, Nat.le_refl _⟩ rfl (Nat.le_of_ble_eq_true rfl) dX3_advance_188) hI (by decide) (fun r_101 σ_102 H locs hpσ_102 hkσ_102 hI => ?_)
                          obtain ⟨ahpσ_102, bhpσ_102⟩ := hpσ_102
                          rw [ahpσ_102] at hI
                          replace hF := q_letX hF bhpσ_102
                          refine lv_iadd hx hb dX3_advance_191 ?_
                          refine lv_topi (fun z_103 ez_103 => ?_)
                          replace hF := q_letX hF ez_103
                          refine lv_bipush (v := 48) hx hb dX3_advance_192 (by decide) ?_
                          refine lv_isub hx hb dX3_advance_194 ?_
                          refine lv_topi (fun z_104 ez_104 => ?_)
                          replace hF := q_letX hF ez_104
                          refine psr_X3_28 E hI ha (by decide) dX3_advance_195 (fun H locs σ_105 hσ_105 hI => ?_)
                          replace hF := q_letX hF hσ_105
                          have fr_σ_105 := fr_σ_93.siR hσ_105 ha rfl rfl
                          have mv2_σ_105 : (σ_105.1 a 2).toInt = (σ_93.1 a 2).toInt := congrArg Int32.toInt (q_rdn hσ_105 (Or.inr (by decide)))
                          obtain ⟨z_106, ez_106⟩ : ∃ y : Int32, y = x_92 + 1 := ⟨_, rfl⟩
                          replace hF := q_letX hF ez_106
                          refine lv_iinc (v := z_106) (lv' := [(2, .int z_106), (0, .ref a), (1, .int r_10)]) hx hb dX3_advance_198 hl (k := 2) rfl (by rw [ez_106]; rfl) (by decide) rfl (fun ls hl => ?_)
                          have iz_106 : z_106.toInt = x_92.toInt + 1 := q_inc ez_106 (by first | (clear if_1 bf_1 mv2_σ_2 hm8 if_5 bf_5 if_6 if_7 bf_7 mv2_σ_8 kc_9 ahpσ_11 bhpσ_11 if_12 bf_12 if_13 gc_14_f_12 gc_14_f_13 c_14 gc_15_r_10 c_15 gc_40_r_10 c_40 kc_65 kc_66 ahpσ_68 bhpσ_68 chpσ_68 gr_67 mv2_σ_69 ahpσ_71 bhpσ_71 gc_72_r_70 c_72 mv2_σ_90 mv2_σ_91 hm165 ahpσ_97 bhpσ_97 gc_98_x_92 gc_98_r_96 c_98 if_99 ahpσ_102 bhpσ_102 mv2_σ_105; omega) | omega)
                          refine lv_goto (tgt := 165) hx hb dX3_advance_201 (by decide) ?_
                          exact ih165 z_106 σ_105 _ _ ls (by first | (clear if_1 bf_1 mv2_σ_2 hm8 if_5 bf_5 if_6 if_7 bf_7 mv2_σ_8 kc_9 ahpσ_11 bhpσ_11 if_12 bf_12 if_13 gc_14_f_12 gc_14_f_13 c_14 gc_15_r_10 c_15 gc_40_r_10 c_40 kc_65 kc_66 ahpσ_68 bhpσ_68 chpσ_68 gr_67 mv2_σ_69 ahpσ_71 bhpσ_71 gc_72_r_70 c_72 mv2_σ_90 mv2_σ_91 ahpσ_97 bhpσ_97 gc_98_x_92 gc_98_r_96 c_98 if_99 ahpσ_102 bhpσ_102 mv2_σ_105; omega) | omega) (by first | (clear if_1 bf_1 mv2_σ_2 hm8 if_5 bf_5 if_6 if_7 bf_7 mv2_σ_8 kc_9 ahpσ_11 bhpσ_11 if_12 bf_12 if_13 gc_14_f_12 gc_14_f_13 c_14 gc_15_r_10 c_15 gc_40_r_10 c_40 kc_65 kc_66 ahpσ_68 bhpσ_68 chpσ_68 gr_67 mv2_σ_69 ahpσ_71 bhpσ_71 gc_72_r_70 c_72 mv2_σ_90 mv2_σ_91 hm165 ahpσ_97 bhpσ_97 gc_98_x_92 gc_98_r_96 c_98 if_99 ahpσ_102 bhpσ_102 mv2_σ_105; omega) | omega) fr_σ_105 hF hI (lv_sub hl [1, 2, 0] rfl)
                  exact L_165_94 ((2147483647 - (0 : Int32).toInt).toNat + 1) 0 σ_91 _ _ ls (Nat.lt_succ_self _) (by decide) fr_σ_91 hF hI (lv_sub hl [1, 2, 0] rfl)
          have gc_107_r_10 := q_rng r_10
          refine q_icmp_lt (A := r_10.toInt) (B := 97) E rfl (by decide) (tgt := 117) dX3_advance_88 (by decide) (fun c_107 => ?_) (fun c_107 => ?_)
          · skip
            replace hF := q_ifp hF c_107
            exact J_117_14 _ _ ls hF hI (lv_sub hl [1, 0] rfl)
          · skip
            replace hF := q_ifn hF (Int.not_lt.mpr c_107)
            refine lv_iload_n hx hb dX3_advance_91 rfl (lv_at hl 0 rfl) ?_
            refine lv_bipush (v := 122) hx hb dX3_advance_92 (by decide) ?_
            have gc_108_r_10 := q_rng r_10
            refine q_icmp_gt (A := r_10.toInt) (B := 122) E rfl (by decide) (tgt := 117) dX3_advance_94 (by decide) (fun c_108 => ?_) (fun c_108 => ?_)
            · skip
              replace hF := q_ifp hF c_108
              exact J_117_14 _ _ ls hF hI (lv_sub hl [1, 0] rfl)
            · skip
              replace hF := q_ifn hF (Int.not_lt.mpr c_108)
              refine lv_aload_n hx hb dX3_advance_97 rfl (lv_at hl 1 rfl) ?_
              refine lv_iconst (v := 1) hx hb dX3_advance_98 (by decide) ?_
              refine psr_X3_25 E hI ha (by decide) dX3_advance_99 (fun H locs σ_109 hσ_109 hI => ?_)
              replace hF := q_letX hF hσ_109
              have fr_σ_109 := fr_σ_8.siR hσ_109 ha rfl rfl
              have mv2_σ_109 : (σ_109.1 a 2).toInt = (σ_8.1 a 2).toInt := congrArg Int32.toInt (q_rdn hσ_109 (Or.inr (by decide)))
              refine lv_aload_n hx hb dX3_advance_102 rfl (lv_at hl 1 rfl) ?_
              refine lv_aload_n hx hb dX3_advance_103 rfl (lv_at hl 1 rfl) ?_
              refine lv_bipush (v := 97) hx hb dX3_advance_104 (by decide) ?_
              refine lv_bipush (v := 122) hx hb dX3_advance_106 (by decide) ?_
              have kc_110 : (97 : Int32).toInt = 97 := rfl
              have kc_111 : (122 : Int32).toInt = 122 := rfl
              refine q_ci (q_runR (As := [.int 97, .int 122]) (rest := [.ref a]) E (hml.trans hl.1.symm) hI (c_X3_endOfRun l X σ_109 a (97 : Int32) (122 : Int32) ha) kr_X3_53 ha rfl ⟨Nat.le_of_ble_eq_true rfl, Nat.le_of_ble_eq_true rfl⟩ ⟨Nat.le_refl _, Nat.le_refl _⟩ rfl (Nat.le_of_ble_eq_true rfl) dX3_advance_108) hI (by decide) (fun r_112 σ_113 H locs hpσ_113 hkσ_113 hI => ?_)
              obtain ⟨ahpσ_113, bhpσ_113, chpσ_113⟩ := hpσ_113
              rw [ahpσ_113] at hI
              replace hF := q_letX hF chpσ_113
              have gr_112 := q_rng r_112
              refine psr_X3_22 E hI ha (by decide) (by omega) (by first | (clear if_1 bf_1 mv2_σ_2 hm8 if_5 bf_5 if_6 if_7 bf_7 mv2_σ_8 kc_9 ahpσ_11 bhpσ_11 if_12 bf_12 if_13 gc_14_f_12 gc_14_f_13 c_14 gc_107_r_10 c_107 gc_108_r_10 c_108 mv2_σ_109 kc_110 kc_111 ahpσ_113 chpσ_113; omega) | omega) dX3_advance_111 (fun H locs σ_114 hσ_114 hI => ?_)
              replace hF := q_letX hF hσ_114
              have fr_σ_114 := fr_σ_109.siR hσ_114 ha rfl rfl
              have mv2_σ_114 : (σ_114.1 a 2).toInt = (σ_109.1 a 2).toInt := congrArg Int32.toInt (q_rdn hσ_114 (Or.inr (by decide)))
              refine lv_goto (tgt := 250) hx hb dX3_advance_114 (by decide) ?_
              exact q_retv E hr hlk hI ⟨(hF.trans hout), fr_σ_114⟩ dX3_advance_250
        · skip
          replace hF := q_ifn hF (Int.not_lt.mpr c_14)
          refine lv_aload_n hx hb dX3_advance_77 rfl (lv_at hl 1 rfl) ?_
          refine lv_iconst (v := 0) hx hb dX3_advance_78 (by decide) ?_
          refine psr_X3_25 E hI ha (by decide) dX3_advance_79 (fun H locs σ_115 hσ_115 hI => ?_)
          replace hF := q_letX hF hσ_115
          have fr_σ_115 := fr_σ_8.siR hσ_115 ha rfl rfl
          have mv2_σ_115 : (σ_115.1 a 2).toInt = (σ_8.1 a 2).toInt := congrArg Int32.toInt (q_rdn hσ_115 (Or.inr (by decide)))
          refine lv_goto (tgt := 250) hx hb dX3_advance_82 (by decide) ?_
          exact q_retv E hr hlk hI ⟨(hF.trans hout), fr_σ_115⟩ dX3_advance_250
      have gc_116_f_5 := q_rng f_5
      have gc_116_f_6 := q_rng f_6
      refine q_icmp_ge (A := f_5.toInt) (B := f_6.toInt) E rfl rfl (tgt := 52) dX3_advance_16 (by decide) (fun c_116 => ?_) (fun c_116 => ?_)
      · skip
        replace hF := q_ifn hF (Int.not_lt.mpr c_116)
        exact J_52_6 _ _ ls hF hI (lv_sub hl [0] rfl)
      · skip
        replace hF := q_ifp hF c_116
        refine lv_aload_n hx hb dX3_advance_19 rfl (lv_at hl 0 rfl) ?_
        refine lv_iconst (v := 0) hx hb dX3_advance_20 (by decide) ?_
        have kc_117 : (0 : Int32).toInt = 0 := rfl
        refine q_ci (q_runR (As := [.int 0]) (rest := []) E (hml.trans hl.1.symm) hI (c_X3_signAt l X σ_3 a (0 : Int32) ha) kr_X3_49 ha rfl ⟨Nat.le_of_ble_eq_true rfl, Nat.le_of_ble_eq_true rfl⟩ ⟨Nat.le_refl _, Nat.le_refl _⟩ rfl (Nat.le_of_ble_eq_true rfl) dX3_advance_21) hI (by decide) (fun r_118 σ_119 H locs hpσ_119 hkσ_119 hI => ?_)
        obtain ⟨ahpσ_119, bhpσ_119⟩ := hpσ_119
        rw [ahpσ_119] at hI
        replace hF := q_letX hF bhpσ_119
        refine lv_bipush (v := 10) hx hb dX3_advance_24 (by decide) ?_
        have gc_120_r_118 := q_rng r_118
        refine q_icmp_eq (A := r_118.toInt) (B := 10) E rfl (by decide) (tgt := 39) dX3_advance_26 (by decide) (fun c_120 => ?_) (fun c_120 => ?_)
        · skip
          replace hF := q_ifp hF c_120
          refine lv_aload_n hx hb dX3_advance_39 rfl (lv_at hl 0 rfl) ?_
          refine lv_dup hx hb dX3_advance_40 rfl ?_
          refine gsr_X3_19 E hI ha dX3_advance_41 ?_
          refine lv_topi (fun f_121 ef_121 => ?_)
          replace hF := q_letX hF ef_121
          have if_121 : f_121.toInt = (σ_3.1 a 2).toInt := congrArg Int32.toInt ef_121
          have bf_121 : 0 ≤ f_121.toInt ∧ f_121.toInt ≤ 2147483647 := by rw [ef_121]; exact q_bdR hI ha rfl rfl
          refine lv_iconst (v := 1) hx hb dX3_advance_44 (by decide) ?_
          refine lv_iadd hx hb dX3_advance_45 ?_
          refine lv_topi (fun z_122 ez_122 => ?_)
          replace hF := q_letX hF ez_122
          have iz_122 : z_122.toInt = f_121.toInt + 1 := q_inc ez_122 (by first | (clear if_1 bf_1 mv2_σ_2 hm8 gc_116_f_5 kc_117 ahpσ_119 bhpσ_119 gc_120_r_118 c_120 bf_121; omega) | omega)
          refine psr_X3_19 E hI ha (by decide) (by first | (clear if_1 bf_1 mv2_σ_2 hm8 if_6 gc_116_f_5 gc_116_f_6 c_116 kc_117 ahpσ_119 bhpσ_119 gc_120_r_118 c_120 bf_121; omega) | omega) (by first | (clear if_1 bf_1 mv2_σ_2 hm8 gc_116_f_5 kc_117 ahpσ_119 bhpσ_119 gc_120_r_118 c_120 bf_121; omega) | omega) dX3_advance_46 (fun H locs σ_123 hσ_123 hI => ?_)
          replace hF := q_letX hF hσ_123
          have fr_σ_123 := fr_σ_3.siR hσ_123 ha rfl rfl
          have mv2_σ_123 : (σ_123.1 a 2).toInt = z_122.toInt := congrArg Int32.toInt (q_rd hσ_123)
          have mσ_123 : (σ_123.1 a 2).toInt = z_122.toInt := congrArg Int32.toInt (q_rd hσ_123)
          refine lv_goto (tgt := 8) hx hb dX3_advance_49 (by decide) ?_
          exact ih8 σ_123 _ _ ls (by first | (clear if_1 bf_1 mv2_σ_2 gc_116_f_5 kc_117 ahpσ_119 bhpσ_119 gc_120_r_118 c_120 bf_121; omega) | omega) fr_σ_123 hF hI (lv_sub hl [0] rfl)
        · skip
          replace hF := q_ifn hF c_120
          refine lv_aload_n hx hb dX3_advance_29 rfl (lv_at hl 0 rfl) ?_
          refine lv_iconst (v := 0) hx hb dX3_advance_30 (by decide) ?_
          have kc_124 : (0 : Int32).toInt = 0 := rfl
          refine q_ci (q_runR (As := [.int 0]) (rest := []) E (hml.trans hl.1.symm) hI (c_X3_signAt l X σ_3 a (0 : Int32) ha) kr_X3_49 ha rfl ⟨Nat.le_of_ble_eq_true rfl, Nat.le_of_ble_eq_true rfl⟩ ⟨Nat.le_refl _, Nat.le_refl _⟩ rfl (Nat.le_of_ble_eq_true rfl) dX3_advance_31) hI (by decide) (fun r_125 σ_126 H locs hpσ_126 hkσ_126 hI => ?_)
          obtain ⟨ahpσ_126, bhpσ_126⟩ := hpσ_126
          rw [ahpσ_126] at hI
          replace hF := q_letX hF bhpσ_126
          refine lv_bipush (v := 32) hx hb dX3_advance_34 (by decide) ?_
          have gc_127_r_125 := q_rng r_125
          refine q_icmp_ne (A := r_125.toInt) (B := 32) E rfl (by decide) (tgt := 52) dX3_advance_36 (by decide) (fun c_127 => ?_) (fun c_127 => ?_)
          · skip
            replace hF := q_ifn hF c_127
            exact J_52_6 _ _ ls hF hI (lv_sub hl [0] rfl)
          · skip
            replace hF := q_ifp hF c_127
            refine lv_aload_n hx hb dX3_advance_39 rfl (lv_at hl 0 rfl) ?_
            refine lv_dup hx hb dX3_advance_40 rfl ?_
            refine gsr_X3_19 E hI ha dX3_advance_41 ?_
            refine lv_topi (fun f_128 ef_128 => ?_)
            replace hF := q_letX hF ef_128
            have if_128 : f_128.toInt = (σ_3.1 a 2).toInt := congrArg Int32.toInt ef_128
            have bf_128 : 0 ≤ f_128.toInt ∧ f_128.toInt ≤ 2147483647 := by rw [ef_128]; exact q_bdR hI ha rfl rfl
            refine lv_iconst (v := 1) hx hb dX3_advance_44 (by decide) ?_
            refine lv_iadd hx hb dX3_advance_45 ?_
            refine lv_topi (fun z_129 ez_129 => ?_)
            replace hF := q_letX hF ez_129
            have iz_129 : z_129.toInt = f_128.toInt + 1 := q_inc ez_129 (by first | (clear if_1 bf_1 mv2_σ_2 hm8 gc_116_f_5 kc_117 ahpσ_119 bhpσ_119 gc_120_r_118 c_120 kc_124 ahpσ_126 bhpσ_126 gc_127_r_125 c_127 bf_128; omega) | omega)
            refine psr_X3_19 E hI ha (by decide) (by first | (clear if_1 bf_1 mv2_σ_2 hm8 if_6 gc_116_f_5 gc_116_f_6 c_116 kc_117 ahpσ_119 bhpσ_119 gc_120_r_118 c_120 kc_124 ahpσ_126 bhpσ_126 gc_127_r_125 c_127 bf_128; omega) | omega) (by first | (clear if_1 bf_1 mv2_σ_2 hm8 gc_116_f_5 kc_117 ahpσ_119 bhpσ_119 gc_120_r_118 c_120 kc_124 ahpσ_126 bhpσ_126 gc_127_r_125 c_127 bf_128; omega) | omega) dX3_advance_46 (fun H locs σ_130 hσ_130 hI => ?_)
            replace hF := q_letX hF hσ_130
            have fr_σ_130 := fr_σ_3.siR hσ_130 ha rfl rfl
            have mv2_σ_130 : (σ_130.1 a 2).toInt = z_129.toInt := congrArg Int32.toInt (q_rd hσ_130)
            have mσ_130 : (σ_130.1 a 2).toInt = z_129.toInt := congrArg Int32.toInt (q_rd hσ_130)
            refine lv_goto (tgt := 8) hx hb dX3_advance_49 (by decide) ?_
            exact ih8 σ_130 _ _ ls (by first | (clear if_1 bf_1 mv2_σ_2 gc_116_f_5 kc_117 ahpσ_119 bhpσ_119 gc_120_r_118 kc_124 ahpσ_126 bhpσ_126 gc_127_r_125 c_127 bf_128; omega) | omega) fr_σ_130 hF hI (lv_sub hl [0] rfl)
  exact L_8_4 ((2147483647 - (σ_2.1 a 2).toInt).toNat + 1) σ_2 _ _ ls (Nat.lt_succ_self _) fr_σ_2 hF hI (lv_sub hl [0] rfl)

set_option maxRecDepth 100000 in
set_option maxHeartbeats 4000000 in
theorem c_X3_start (l : Launch) (X : XW) (σ : ST) (a : Nat) (r1 : Nat) (v2 : Int32) (ha : q_kd X a = 4 ∨ q_kd X a = 9) (hr1 : q_kd X r1 = 22) : Met l yX3_start (q_ws yX3_start cX3_start 3 none) (q_rm 2 45) (q_P X σ [.ref a, .ref r1, .int v2]) (q_Qv X 8 σ (fun (σ' : ST) => σ' = F_X3_start X σ a r1 v2 ∧ q_ow [(4, 1), (4, 2), (4, 3), (4, 4), (4, 5), (4, 6), (4, 7), (9, 1), (9, 2), (9, 3), (9, 4), (9, 5), (9, 6), (9, 7)] [] X σ σ')) 0 0 (q_reg X) := by
  refine q_met 8 (by first | exact rfl | decide +kernel) rfl (Nat.le_of_ble_eq_true rfl) (fun p e s m below meth c E hml hr hlk hI ls hl => ?_)
  have hx := E.1
  have hb := E.2.1
  have hl : lv_has ls 3 [(0, .ref a), (1, .ref r1), (2, .int v2)] := hl
  have fr_σ : q_ow [(4, 1), (4, 2), (4, 3), (4, 4), (4, 5), (4, 6), (4, 7), (9, 1), (9, 2), (9, 3), (9, 4), (9, 5), (9, 6), (9, 7)] [] X σ σ := q_ow.rf
  obtain ⟨out, hout⟩ : ∃ o, o = F_X3_start X σ a r1 v2 := ⟨_, rfl⟩
  have hF := hout.symm
  unfold F_X3_start at hF
  refine lv_aload_n hx hb dX3_start_0 rfl (lv_at hl 0 rfl) ?_
  refine lv_aload_n hx hb dX3_start_1 rfl (lv_at hl 1 rfl) ?_
  refine psr_X3_9 E hI ha hr1 dX3_start_2 (fun H locs σ_1 hσ_1 hI => ?_)
  replace hF := q_letX hF hσ_1
  have fr_σ_1 := fr_σ.st hσ_1
  refine lv_aload_n hx hb dX3_start_5 rfl (lv_at hl 0 rfl) ?_
  refine lv_iconst (v := 0) hx hb dX3_start_6 (by decide) ?_
  refine lv_iload_n hx hb dX3_start_7 rfl (lv_at hl 2 rfl) ?_
  refine lv_aload_n hx hb dX3_start_8 rfl (lv_at hl 1 rfl) ?_
  refine q_alenX E hI hr1 (by decide) (t := 0) rfl rfl dX3_start_9 (fun n_2 en_2 hn_2 => ?_)
  replace hF := q_letX hF en_2
  refine q_ci (q_runS (As := [.int v2, .int n_2]) (rest := [.int 0, .ref a]) E (hml.trans hl.1.symm) hI (c_J9_min_7cf53 l X σ_1 v2 n_2) ks_X3_37 rfl ⟨Nat.le_of_ble_eq_true rfl, Nat.le_of_ble_eq_true rfl⟩ ⟨Nat.le_refl _, Nat.le_refl _⟩ rfl (Nat.le_of_ble_eq_true rfl) dX3_start_10) hI (by decide) (fun r_3 σ_4 H locs hpσ_4 hkσ_4 hI => ?_)
  obtain ⟨ahpσ_4, bhpσ_4, chpσ_4⟩ := hpσ_4
  rw [ahpσ_4] at hI
  replace hF := q_letX hF chpσ_4
  have kc_5 : (0 : Int32).toInt = 0 := rfl
  refine q_ci (q_runS (As := [.int 0, .int r_3]) (rest := [.ref a]) E (hml.trans hl.1.symm) hI (c_J9_max_7cf53 l X σ_1 (0 : Int32) r_3) ks_X3_43 rfl ⟨Nat.le_of_ble_eq_true rfl, Nat.le_of_ble_eq_true rfl⟩ ⟨Nat.le_refl _, Nat.le_refl _⟩ rfl (Nat.le_of_ble_eq_true rfl) dX3_start_13) hI (by decide) (fun r_6 σ_7 H locs hpσ_7 hkσ_7 hI => ?_)
  obtain ⟨ahpσ_7, bhpσ_7, chpσ_7⟩ := hpσ_7
  rw [ahpσ_7] at hI
  replace hF := q_letX hF chpσ_7
  refine psr_X3_15 E hI ha (by decide) dX3_start_16 (fun H locs σ_8 hσ_8 hI => ?_)
  replace hF := q_letX hF hσ_8
  have fr_σ_8 := fr_σ_1.siR hσ_8 ha rfl rfl
  refine lv_aload_n hx hb dX3_start_19 rfl (lv_at hl 0 rfl) ?_
  refine lv_iconst (v := 0) hx hb dX3_start_20 (by decide) ?_
  refine psr_X3_22 E hI ha (by decide) (by decide) (by decide) dX3_start_21 (fun H locs σ_9 hσ_9 hI => ?_)
  replace hF := q_letX hF hσ_9
  have fr_σ_9 := fr_σ_8.siR hσ_9 ha rfl rfl
  refine lv_aload_n hx hb dX3_start_24 rfl (lv_at hl 0 rfl) ?_
  refine lv_iconst (v := 0) hx hb dX3_start_25 (by decide) ?_
  refine psr_X3_31 E hI ha (by decide) dX3_start_26 (fun H locs σ_10 hσ_10 hI => ?_)
  replace hF := q_letX hF hσ_10
  have fr_σ_10 := fr_σ_9.siR hσ_10 ha rfl rfl
  refine lv_aload_n hx hb dX3_start_29 rfl (lv_at hl 0 rfl) ?_
  refine lv_iconst (v := (-1)) hx hb dX3_start_30 (by decide) ?_
  refine psr_X3_34 E hI ha (by decide) dX3_start_31 (fun H locs σ_11 hσ_11 hI => ?_)
  replace hF := q_letX hF hσ_11
  have fr_σ_11 := fr_σ_10.siR hσ_11 ha rfl rfl
  refine lv_aload_n hx hb dX3_start_34 rfl (lv_at hl 0 rfl) ?_
  refine q_cv (q_runR (As := []) (rest := []) E (hml.trans hl.1.symm) hI (c_X3_advance l X σ_11 a ha) kr_X3_46 ha rfl ⟨Nat.le_of_ble_eq_true rfl, Nat.le_of_ble_eq_true rfl⟩ ⟨Nat.le_refl _, Nat.le_refl _⟩ rfl (Nat.le_of_ble_eq_true rfl) dX3_start_35) hI (by decide) (fun σ_13 H locs hpσ_13 hkσ_13 hI => ?_)
  obtain ⟨ahpσ_13, bhpσ_13⟩ := hpσ_13
  have fr_σ_13 := fr_σ_11.call bhpσ_13 rfl rfl
  replace hF := q_letX hF ahpσ_13
  exact q_retv E hr hlk hI ⟨(hF.trans hout), fr_σ_13⟩ dX3_start_38

set_option maxRecDepth 100000 in
set_option maxHeartbeats 4000000 in
theorem c_X3_isWord (l : Launch) (X : XW) (σ : ST) (a : Nat) (r1 : Nat) (ha : q_kd X a = 4 ∨ q_kd X a = 9) (hr1 : r1 < 22) : Met l yX3_isWord (q_ws yX3_isWord cX3_isWord 3 (some .boolean)) (q_rm 4 85) (q_P X σ [.ref a, .ref (q_sk X r1)]) (q_Qi X 9 σ (fun (r : Int32) (σ' : ST) => σ' = σ ∧ (0 ≤ r.toInt ∧ r.toInt ≤ 1) ∧ r = F_X3_isWord X σ a r1)) 0 0 (q_reg X) := by
  refine q_met 9 (by first | exact rfl | decide +kernel) rfl (Nat.le_of_ble_eq_true rfl) (fun p e s m below meth c E hml hr hlk hI ls hl => ?_)
  have hx := E.1
  have hb := E.2.1
  have hl : lv_has ls 3 [(0, .ref a), (1, .ref (q_sk X r1))] := hl
  obtain ⟨out, hout⟩ : ∃ o, o = F_X3_isWord X σ a r1 := ⟨_, rfl⟩
  have hF := hout.symm
  unfold F_X3_isWord at hF
  refine lv_aload_n hx hb dX3_isWord_0 rfl (lv_at hl 0 rfl) ?_
  refine gsr_X3_25 E hI ha dX3_isWord_1 ?_
  refine lv_topi (fun f_1 ef_1 => ?_)
  replace hF := q_letX hF ef_1
  refine lv_iconst (v := 1) hx hb dX3_isWord_4 (by decide) ?_
  have gc_2_f_1 := q_rng f_1
  refine q_icmp_ne (A := f_1.toInt) (B := 1) E rfl (by decide) (tgt := 19) dX3_isWord_5 (by decide) (fun c_2 => ?_) (fun c_2 => ?_)
  · skip
    replace hF := q_ifn hF c_2
    refine lv_iconst (v := 0) hx hb dX3_isWord_19 (by decide) ?_
    have hrv : (0 : Int32).toInt = 0 := rfl
    exact q_retz E hr hlk hI ⟨by decide, by decide⟩ ⟨rfl, ⟨by decide, by decide⟩, (hF.trans hout)⟩ dX3_isWord_20
  · skip
    replace hF := q_ifp hF c_2
    refine lv_aload_n hx hb dX3_isWord_8 rfl (lv_at hl 0 rfl) ?_
    refine q_ci (q_runR (As := []) (rest := []) E (hml.trans hl.1.symm) hI (c_X3_size l X σ a ha) kr_X3_56 ha rfl ⟨Nat.le_of_ble_eq_true rfl, Nat.le_of_ble_eq_true rfl⟩ ⟨Nat.le_refl _, Nat.le_refl _⟩ rfl (Nat.le_of_ble_eq_true rfl) dX3_isWord_9) hI (by decide) (fun r_3 σ_4 H locs hpσ_4 hkσ_4 hI => ?_)
    obtain ⟨ahpσ_4, bhpσ_4⟩ := hpσ_4
    rw [ahpσ_4] at hI
    replace hF := q_letX hF bhpσ_4
    refine lv_aload_n hx hb dX3_isWord_12 rfl (lv_at hl 1 rfl) ?_
    refine q_ci (q_runT (As := []) (rest := [.int r_3]) E (hml.trans hl.1.symm) hI (c_J0_length_8abf5 l X σ r1 hr1) kt_X3_60 hr1 rfl ⟨Nat.le_of_ble_eq_true rfl, Nat.le_of_ble_eq_true rfl⟩ ⟨Nat.le_refl _, Nat.le_refl _⟩ rfl (Nat.le_of_ble_eq_true rfl) dX3_isWord_13) hI (by decide) (fun r_5 σ_6 H locs hpσ_6 hkσ_6 hI => ?_)
    obtain ⟨ahpσ_6, bhpσ_6, chpσ_6⟩ := hpσ_6
    rw [ahpσ_6] at hI
    replace hF := q_letX hF chpσ_6
    have gc_7_r_3 := q_rng r_3
    have gc_7_r_5 := q_rng r_5
    refine q_icmp_eq (A := r_3.toInt) (B := r_5.toInt) E rfl rfl (tgt := 21) dX3_isWord_16 (by decide) (fun c_7 => ?_) (fun c_7 => ?_)
    · skip
      replace hF := q_ifp hF c_7
      refine lv_iconst (v := 0) hx hb dX3_isWord_21 (by decide) ?_
      refine lv_istore_n (lv' := [(2, .int 0), (0, .ref a), (1, .ref (q_sk X r1))]) hx hb dX3_isWord_22 rfl hl (by decide) rfl (fun ls hl => ?_)
      have L_23_9 : ∀ (k_9 : Nat) (x_8 : Int32) (H : Heap) (locs : List Loc) (ls : Array Slot), (2147483647 - x_8.toInt).toNat < k_9 → (0 ≤ x_8.toInt) → (F_X3_isWord_L23_1 X σ r1 a k_9 x_8 = out) → q_I X 9 σ s.heap locs σ H → lv_has ls 3 [(0, .ref a), (1, .ref (q_sk X r1)), (2, .int x_8)] → W p l e (q_rm 4 85) s m ([.ref a, .ref (q_sk X r1)] : List Value).toArray below meth c H locs 0 0 (MQ below (q_Qi X 9 σ (fun (r : Int32) (σ' : ST) => σ' = σ ∧ (0 ≤ r.toInt ∧ r.toInt ≤ 1) ∧ r = F_X3_isWord X σ a r1)) ([.ref a, .ref (q_sk X r1)] : List Value).toArray s 0 0 (q_reg X)) (F0 m 23 ls []) := by
        clear hF
        intro k_9
        induction k_9 with
        | zero =>
          intro x_8 H locs ls hms
          exact absurd hms (Nat.not_lt_zero _)
        | succ k_9 ih23 =>
          intro x_8 H locs ls hm23 hge23 hF hI hl
          replace hF := (F_X3_isWord_L23_1_s).symm.trans hF
          unfold F_X3_isWord_B23_1 at hF
          refine lv_iload_n hx hb dX3_isWord_23 rfl (lv_at hl 2 rfl) ?_
          refine lv_aload_n hx hb dX3_isWord_24 rfl (lv_at hl 1 rfl) ?_
          refine q_ci (q_runT (As := []) (rest := [.int x_8]) E (hml.trans hl.1.symm) hI (c_J0_length_8abf5 l X σ r1 hr1) kt_X3_60 hr1 rfl ⟨Nat.le_of_ble_eq_true rfl, Nat.le_of_ble_eq_true rfl⟩ ⟨Nat.le_refl _, Nat.le_refl _⟩ rfl (Nat.le_of_ble_eq_true rfl) dX3_isWord_25) hI (by decide) (fun r_10 σ_11 H locs hpσ_11 hkσ_11 hI => ?_)
          obtain ⟨ahpσ_11, bhpσ_11, chpσ_11⟩ := hpσ_11
          rw [ahpσ_11] at hI
          replace hF := q_letX hF chpσ_11
          have gc_12_x_8 := q_rng x_8
          have gc_12_r_10 := q_rng r_10
          refine q_icmp_ge (A := x_8.toInt) (B := r_10.toInt) E rfl rfl (tgt := 52) dX3_isWord_28 (by decide) (fun c_12 => ?_) (fun c_12 => ?_)
          · skip
            replace hF := q_ifn hF (Int.not_lt.mpr c_12)
            skip
            refine lv_iconst (v := 1) hx hb dX3_isWord_52 (by decide) ?_
            have hrv : (1 : Int32).toInt = 1 := rfl
            exact q_retz E hr hlk hI ⟨by decide, by decide⟩ ⟨rfl, ⟨by decide, by decide⟩, (hF.trans hout)⟩ dX3_isWord_53
          · skip
            replace hF := q_ifp hF c_12
            refine lv_aload_n hx hb dX3_isWord_31 rfl (lv_at hl 1 rfl) ?_
            refine lv_iload_n hx hb dX3_isWord_32 rfl (lv_at hl 2 rfl) ?_
            refine q_ci (q_runT (As := [.int x_8]) (rest := []) E (hml.trans hl.1.symm) hI (c_J0_charAt_5068e l X σ r1 x_8 hr1 (by omega) (by first | (clear gc_2_f_1 c_2 ahpσ_4 bhpσ_4 ahpσ_6 chpσ_6 gc_7_r_3 gc_7_r_5 hm23 hge23 ahpσ_11 chpσ_11 gc_12_x_8 gc_12_r_10; omega) | omega)) kt_X3_64 hr1 rfl ⟨Nat.le_of_ble_eq_true rfl, Nat.le_of_ble_eq_true rfl⟩ ⟨Nat.le_refl _, Nat.le_refl _⟩ rfl (Nat.le_of_ble_eq_true rfl) dX3_isWord_33) hI (by decide) (fun r_13 σ_14 H locs hpσ_14 hkσ_14 hI => ?_)
            obtain ⟨ahpσ_14, bhpσ_14⟩ := hpσ_14
            rw [ahpσ_14] at hI
            replace hF := q_letX hF bhpσ_14
            refine lv_aload_n hx hb dX3_isWord_36 rfl (lv_at hl 0 rfl) ?_
            refine lv_iload_n hx hb dX3_isWord_37 rfl (lv_at hl 2 rfl) ?_
            refine q_ci (q_runR (As := [.int x_8]) (rest := [.int r_13]) E (hml.trans hl.1.symm) hI (c_X3_signAt l X σ a x_8 ha) kr_X3_49 ha rfl ⟨Nat.le_of_ble_eq_true rfl, Nat.le_of_ble_eq_true rfl⟩ ⟨Nat.le_refl _, Nat.le_refl _⟩ rfl (Nat.le_of_ble_eq_true rfl) dX3_isWord_38) hI (by decide) (fun r_15 σ_16 H locs hpσ_16 hkσ_16 hI => ?_)
            obtain ⟨ahpσ_16, bhpσ_16⟩ := hpσ_16
            rw [ahpσ_16] at hI
            replace hF := q_letX hF bhpσ_16
            have gc_17_r_13 := q_rng r_13
            have gc_17_r_15 := q_rng r_15
            refine q_icmp_eq (A := r_13.toInt) (B := r_15.toInt) E rfl rfl (tgt := 46) dX3_isWord_41 (by decide) (fun c_17 => ?_) (fun c_17 => ?_)
            · skip
              replace hF := q_ifp hF c_17
              obtain ⟨z_18, ez_18⟩ : ∃ y : Int32, y = x_8 + 1 := ⟨_, rfl⟩
              replace hF := q_letX hF ez_18
              refine lv_iinc (v := z_18) (lv' := [(2, .int z_18), (0, .ref a), (1, .ref (q_sk X r1))]) hx hb dX3_isWord_46 hl (k := 2) rfl (by rw [ez_18]; rfl) (by decide) rfl (fun ls hl => ?_)
              have iz_18 : z_18.toInt = x_8.toInt + 1 := q_inc ez_18 (by first | (clear gc_2_f_1 c_2 ahpσ_4 bhpσ_4 ahpσ_6 chpσ_6 gc_7_r_3 hm23 ahpσ_11 chpσ_11 gc_12_r_10 ahpσ_14 bhpσ_14 ahpσ_16 bhpσ_16 gc_17_r_13 gc_17_r_15 c_17; omega) | omega)
              refine lv_goto (tgt := 23) hx hb dX3_isWord_49 (by decide) ?_
              exact ih23 z_18 _ _ ls (by first | (clear gc_2_f_1 c_2 ahpσ_4 bhpσ_4 ahpσ_6 chpσ_6 gc_7_r_3 ahpσ_11 chpσ_11 gc_12_r_10 ahpσ_14 bhpσ_14 ahpσ_16 bhpσ_16 gc_17_r_13 gc_17_r_15 c_17; omega) | omega) (by first | (clear gc_2_f_1 c_2 ahpσ_4 bhpσ_4 ahpσ_6 bhpσ_6 chpσ_6 gc_7_r_3 gc_7_r_5 c_7 hm23 ahpσ_11 bhpσ_11 chpσ_11 gc_12_r_10 c_12 ahpσ_14 bhpσ_14 ahpσ_16 bhpσ_16 gc_17_r_13 gc_17_r_15 c_17; omega) | omega) hF hI (lv_sub hl [1, 2, 0] rfl)
            · skip
              replace hF := q_ifn hF c_17
              skip
              refine lv_iconst (v := 0) hx hb dX3_isWord_44 (by decide) ?_
              have hrv : (0 : Int32).toInt = 0 := rfl
              exact q_retz E hr hlk hI ⟨by decide, by decide⟩ ⟨rfl, ⟨by decide, by decide⟩, (hF.trans hout)⟩ dX3_isWord_45
      exact L_23_9 ((2147483647 - (0 : Int32).toInt).toNat + 1) 0 _ _ ls (Nat.lt_succ_self _) (by decide) hF hI (lv_sub hl [1, 2, 0] rfl)
    · skip
      replace hF := q_ifn hF c_7
      refine lv_iconst (v := 0) hx hb dX3_isWord_19 (by decide) ?_
      have hrv : (0 : Int32).toInt = 0 := rfl
      exact q_retz E hr hlk hI ⟨by decide, by decide⟩ ⟨rfl, ⟨by decide, by decide⟩, (hF.trans hout)⟩ dX3_isWord_20

set_option maxRecDepth 100000 in
set_option maxHeartbeats 4000000 in
theorem c_X3_fails (l : Launch) (X : XW) (σ : ST) (a : Nat) (v1 : Int32) (ha : q_kd X a = 4 ∨ q_kd X a = 9) : Met l yX3_fails (q_ws yX3_fails cX3_fails 2 (some .boolean)) (q_rm 0 0) (q_P X σ [.ref a, .int v1]) (q_Qi X 8 σ (fun (r : Int32) (σ' : ST) => (0 ≤ r.toInt ∧ r.toInt ≤ 1) ∧ (r.toInt = 0) ∧ (r, σ') = F_X3_fails X σ a v1 ∧ q_ow [(4, 6), (4, 7), (9, 6), (9, 7)] [] X σ σ')) 0 0 (q_reg X) := by
  refine q_met 8 (by first | exact rfl | decide +kernel) rfl (Nat.le_of_ble_eq_true rfl) (fun p e s m below meth c E hml hr hlk hI ls hl => ?_)
  have hx := E.1
  have hb := E.2.1
  have hl : lv_has ls 2 [(0, .ref a), (1, .int v1)] := hl
  have fr_σ : q_ow [(4, 6), (4, 7), (9, 6), (9, 7)] [] X σ σ := q_ow.rf
  obtain ⟨out, hout⟩ : ∃ o, o = F_X3_fails X σ a v1 := ⟨_, rfl⟩
  have hF := hout.symm
  unfold F_X3_fails at hF
  refine lv_aload_n hx hb dX3_fails_0 rfl (lv_at hl 0 rfl) ?_
  refine lv_aload_n hx hb dX3_fails_1 rfl (lv_at hl 0 rfl) ?_
  refine gsr_X3_25 E hI ha dX3_fails_2 ?_
  refine lv_topi (fun f_1 ef_1 => ?_)
  replace hF := q_letX hF ef_1
  refine lv_iconst (v := 4) hx hb dX3_fails_5 (by decide) ?_
  refine q_icmp_ne (A := f_1.toInt) (B := 4) E rfl (by decide) (tgt := 13) dX3_fails_6 (by decide) (fun c_2 => ?_) (fun c_2 => ?_)
  · skip
    replace hF := q_ifn hF c_2
    refine lv_iload_n hx hb dX3_fails_13 rfl (lv_at hl 1 rfl) ?_
    refine psr_X3_31 E hI ha (by decide) dX3_fails_14 (fun H locs σ_3 hσ_3 hI => ?_)
    replace hF := q_letX hF hσ_3
    have fr_σ_3 := fr_σ.siR hσ_3 ha rfl rfl
    refine lv_aload_n hx hb dX3_fails_17 rfl (lv_at hl 0 rfl) ?_
    refine lv_aload_n hx hb dX3_fails_18 rfl (lv_at hl 0 rfl) ?_
    refine gsr_X3_19 E hI ha dX3_fails_19 ?_
    refine lv_topi (fun f_4 ef_4 => ?_)
    replace hF := q_letX hF ef_4
    have bf_4 : 0 ≤ f_4.toInt ∧ f_4.toInt ≤ 2147483647 := by rw [ef_4]; exact q_bdR hI ha rfl rfl
    refine psr_X3_34 E hI ha (by decide) dX3_fails_22 (fun H locs σ_5 hσ_5 hI => ?_)
    replace hF := q_letX hF hσ_5
    have fr_σ_5 := fr_σ_3.siR hσ_5 ha rfl rfl
    refine lv_iconst (v := 0) hx hb dX3_fails_25 (by decide) ?_
    have hrv : (0 : Int32).toInt = 0 := rfl
    exact q_retz E hr hlk hI ⟨by decide, by decide⟩ ⟨⟨by decide, by decide⟩, (by decide), (hF.trans hout), fr_σ_5⟩ dX3_fails_26
  · skip
    replace hF := q_ifp hF c_2
    refine lv_iconst (v := 1) hx hb dX3_fails_9 (by decide) ?_
    refine lv_goto (tgt := 14) hx hb dX3_fails_10 (by decide) ?_
    refine psr_X3_31 E hI ha (by decide) dX3_fails_14 (fun H locs σ_6 hσ_6 hI => ?_)
    replace hF := q_letX hF hσ_6
    have fr_σ_6 := fr_σ.siR hσ_6 ha rfl rfl
    refine lv_aload_n hx hb dX3_fails_17 rfl (lv_at hl 0 rfl) ?_
    refine lv_aload_n hx hb dX3_fails_18 rfl (lv_at hl 0 rfl) ?_
    refine gsr_X3_19 E hI ha dX3_fails_19 ?_
    refine lv_topi (fun f_7 ef_7 => ?_)
    replace hF := q_letX hF ef_7
    have bf_7 : 0 ≤ f_7.toInt ∧ f_7.toInt ≤ 2147483647 := by rw [ef_7]; exact q_bdR hI ha rfl rfl
    refine psr_X3_34 E hI ha (by decide) dX3_fails_22 (fun H locs σ_8 hσ_8 hI => ?_)
    replace hF := q_letX hF hσ_8
    have fr_σ_8 := fr_σ_6.siR hσ_8 ha rfl rfl
    refine lv_iconst (v := 0) hx hb dX3_fails_25 (by decide) ?_
    have hrv : (0 : Int32).toInt = 0 := rfl
    exact q_retz E hr hlk hI ⟨by decide, by decide⟩ ⟨⟨by decide, by decide⟩, (by decide), (hF.trans hout), fr_σ_8⟩ dX3_fails_26

set_option maxRecDepth 100000 in
set_option maxHeartbeats 4000000 in
theorem c_X3_passWord (l : Launch) (X : XW) (σ : ST) (a : Nat) (r1 : Nat) (ha : q_kd X a = 4 ∨ q_kd X a = 9) (hr1 : r1 < 22) : Met l yX3_passWord (q_ws yX3_passWord cX3_passWord 2 (some .boolean)) (q_rm 5 107) (q_P X σ [.ref a, .ref (q_sk X r1)]) (q_Qi X 8 σ (fun (r : Int32) (σ' : ST) => (0 ≤ r.toInt ∧ r.toInt ≤ 1) ∧ (r, σ') = F_X3_passWord X σ a r1 ∧ q_ow [(4, 2), (4, 3), (4, 4), (4, 5), (4, 6), (4, 7), (9, 2), (9, 3), (9, 4), (9, 5), (9, 6), (9, 7)] [] X σ σ')) 0 0 (q_reg X) := by
  refine q_met 8 (by first | exact rfl | decide +kernel) rfl (Nat.le_of_ble_eq_true rfl) (fun p e s m below meth c E hml hr hlk hI ls hl => ?_)
  have hx := E.1
  have hb := E.2.1
  have hl : lv_has ls 2 [(0, .ref a), (1, .ref (q_sk X r1))] := hl
  have fr_σ : q_ow [(4, 2), (4, 3), (4, 4), (4, 5), (4, 6), (4, 7), (9, 2), (9, 3), (9, 4), (9, 5), (9, 6), (9, 7)] [] X σ σ := q_ow.rf
  obtain ⟨out, hout⟩ : ∃ o, o = F_X3_passWord X σ a r1 := ⟨_, rfl⟩
  have hF := hout.symm
  unfold F_X3_passWord at hF
  refine lv_aload_n hx hb dX3_passWord_0 rfl (lv_at hl 0 rfl) ?_
  refine lv_aload_n hx hb dX3_passWord_1 rfl (lv_at hl 1 rfl) ?_
  refine q_ci (q_runR (As := [.ref (q_sk X r1)]) (rest := []) E (hml.trans hl.1.symm) hI (c_X3_isWord l X σ a r1 ha hr1) kr_X3_91 ha rfl ⟨Nat.le_of_ble_eq_true rfl, Nat.le_of_ble_eq_true rfl⟩ ⟨Nat.le_refl _, Nat.le_refl _⟩ rfl (Nat.le_of_ble_eq_true rfl) dX3_passWord_2) hI (by decide) (fun r_1 σ_2 H locs hpσ_2 hkσ_2 hI => ?_)
  obtain ⟨ahpσ_2, bhpσ_2, chpσ_2⟩ := hpσ_2
  rw [ahpσ_2] at hI
  replace hF := q_letX hF chpσ_2
  refine q_if_ne (A := r_1.toInt) E rfl (tgt := 14) dX3_passWord_5 (by decide) (fun c_3 => ?_) (fun c_3 => ?_)
  · skip
    replace hF := q_ifn hF c_3
    replace c_3 := q_ifOne bhpσ_2 c_3
    refine lv_aload_n hx hb dX3_passWord_14 rfl (lv_at hl 0 rfl) ?_
    refine q_cv (q_runR (As := []) (rest := []) E (hml.trans hl.1.symm) hI (c_X3_advance l X σ a ha) kr_X3_46 ha rfl ⟨Nat.le_of_ble_eq_true rfl, Nat.le_of_ble_eq_true rfl⟩ ⟨Nat.le_refl _, Nat.le_refl _⟩ rfl (Nat.le_of_ble_eq_true rfl) dX3_passWord_15) hI (by decide) (fun σ_5 H locs hpσ_5 hkσ_5 hI => ?_)
    obtain ⟨ahpσ_5, bhpσ_5⟩ := hpσ_5
    have fr_σ_5 := fr_σ.call bhpσ_5 rfl rfl
    replace hF := q_letX hF ahpσ_5
    refine lv_iconst (v := 1) hx hb dX3_passWord_18 (by decide) ?_
    have hrv : (1 : Int32).toInt = 1 := rfl
    exact q_retz E hr hlk hI ⟨by decide, by decide⟩ ⟨⟨by decide, by decide⟩, (hF.trans hout), fr_σ_5⟩ dX3_passWord_19
  · skip
    replace hF := q_ifp hF c_3
    refine lv_aload_n hx hb dX3_passWord_8 rfl (lv_at hl 0 rfl) ?_
    refine lv_iconst (v := 2) hx hb dX3_passWord_9 (by decide) ?_
    have kc_6 : (2 : Int32).toInt = 2 := rfl
    refine q_ci (q_runR (As := [.int 2]) (rest := []) E (hml.trans hl.1.symm) hI (c_X3_fails l X σ a (2 : Int32) ha) kr_X3_74 ha rfl ⟨Nat.le_of_ble_eq_true rfl, Nat.le_of_ble_eq_true rfl⟩ ⟨Nat.le_refl _, Nat.le_refl _⟩ rfl (Nat.le_of_ble_eq_true rfl) dX3_passWord_10) hI (by decide) (fun r_7 σ_8 H locs hpσ_8 hkσ_8 hI => ?_)
    obtain ⟨ahpσ_8, bhpσ_8, chpσ_8, dhpσ_8⟩ := hpσ_8
    have fr_σ_8 := fr_σ.call dhpσ_8 rfl rfl
    replace hF := q_biX hF chpσ_8
    exact q_retz E hr hlk hI ⟨by omega, by omega⟩ ⟨⟨by omega, by omega⟩, (hF.trans hout), fr_σ_8⟩ dX3_passWord_13

set_option maxRecDepth 100000 in
set_option maxHeartbeats 4000000 in
theorem c_X3_mustBeNumber (l : Launch) (X : XW) (σ : ST) (a : Nat) (v1 : Int32) (v2 : Int32) (ha : q_kd X a = 4 ∨ q_kd X a = 9) : Met l yX3_mustBeNumber (q_ws yX3_mustBeNumber cX3_mustBeNumber 3 (some .boolean)) (q_rm 1 21) (q_P X σ [.ref a, .int v1, .int v2]) (q_Qi X 8 σ (fun (r : Int32) (σ' : ST) => (0 ≤ r.toInt ∧ r.toInt ≤ 1) ∧ (r.toInt = 1 → (v1.toInt ≤ (σ'.1 a 5).toInt ∧ (σ'.1 a 5).toInt ≤ v2.toInt)) ∧ (r, σ') = F_X3_mustBeNumber X σ a v1 v2 ∧ q_ow [(4, 6), (4, 7), (9, 6), (9, 7)] [] X σ σ')) 0 0 (q_reg X) := by
  refine q_met 8 (by first | exact rfl | decide +kernel) rfl (Nat.le_of_ble_eq_true rfl) (fun p e s m below meth c E hml hr hlk hI ls hl => ?_)
  have hx := E.1
  have hb := E.2.1
  have hl : lv_has ls 3 [(0, .ref a), (1, .int v1), (2, .int v2)] := hl
  have fr_σ : q_ow [(4, 6), (4, 7), (9, 6), (9, 7)] [] X σ σ := q_ow.rf
  obtain ⟨out, hout⟩ : ∃ o, o = F_X3_mustBeNumber X σ a v1 v2 := ⟨_, rfl⟩
  have hF := hout.symm
  unfold F_X3_mustBeNumber at hF
  refine lv_aload_n hx hb dX3_mustBeNumber_0 rfl (lv_at hl 0 rfl) ?_
  refine gsr_X3_25 E hI ha dX3_mustBeNumber_1 ?_
  refine lv_topi (fun f_1 ef_1 => ?_)
  replace hF := q_letX hF ef_1
  have if_1 : f_1.toInt = (σ.1 a 4).toInt := congrArg Int32.toInt ef_1
  refine lv_iconst (v := 2) hx hb dX3_mustBeNumber_4 (by decide) ?_
  refine q_icmp_eq (A := f_1.toInt) (B := 2) E rfl (by decide) (tgt := 14) dX3_mustBeNumber_5 (by decide) (fun c_2 => ?_) (fun c_2 => ?_)
  · skip
    replace hF := q_ifp hF c_2
    refine lv_aload_n hx hb dX3_mustBeNumber_14 rfl (lv_at hl 0 rfl) ?_
    refine gsr_X3_28 E hI ha dX3_mustBeNumber_15 ?_
    refine lv_topi (fun f_3 ef_3 => ?_)
    replace hF := q_letX hF ef_3
    have if_3 : f_3.toInt = (σ.1 a 5).toInt := congrArg Int32.toInt ef_3
    refine lv_iload_n hx hb dX3_mustBeNumber_18 rfl (lv_at hl 1 rfl) ?_
    refine q_icmp_lt (A := f_3.toInt) (B := v1.toInt) E rfl rfl (tgt := 30) dX3_mustBeNumber_19 (by decide) (fun c_4 => ?_) (fun c_4 => ?_)
    · skip
      replace hF := q_ifp hF c_4
      refine lv_aload_n hx hb dX3_mustBeNumber_30 rfl (lv_at hl 0 rfl) ?_
      refine lv_iconst (v := 4) hx hb dX3_mustBeNumber_31 (by decide) ?_
      have kc_5 : (4 : Int32).toInt = 4 := rfl
      refine q_ci (q_runR (As := [.int 4]) (rest := []) E (hml.trans hl.1.symm) hI (c_X3_fails l X σ a (4 : Int32) ha) kr_X3_74 ha rfl ⟨Nat.le_of_ble_eq_true rfl, Nat.le_of_ble_eq_true rfl⟩ ⟨Nat.le_refl _, Nat.le_refl _⟩ rfl (Nat.le_of_ble_eq_true rfl) dX3_mustBeNumber_32) hI (by decide) (fun r_6 σ_7 H locs hpσ_7 hkσ_7 hI => ?_)
      obtain ⟨ahpσ_7, bhpσ_7, chpσ_7, dhpσ_7⟩ := hpσ_7
      have fr_σ_7 := fr_σ.call dhpσ_7 rfl rfl
      replace hF := q_biX hF chpσ_7
      refine q_if_eq (A := r_6.toInt) E rfl (tgt := 42) dX3_mustBeNumber_35 (by decide) (fun c_8 => ?_) (fun c_8 => ?_)
      · skip
        replace hF := q_ifp hF c_8
        refine lv_iconst (v := 0) hx hb dX3_mustBeNumber_42 (by decide) ?_
        have hrv : (0 : Int32).toInt = 0 := rfl
        exact q_retz E hr hlk hI ⟨by decide, by decide⟩ ⟨⟨by decide, by decide⟩, (by first | (clear if_1 c_2 if_3 c_4 kc_5 ahpσ_7 bhpσ_7 chpσ_7 dhpσ_7 c_8; omega) | omega), (hF.trans hout), fr_σ_7⟩ dX3_mustBeNumber_43
      · skip
        replace hF := q_ifn hF c_8
        replace c_8 := q_ifOne ahpσ_7 c_8
        refine lv_iconst (v := 1) hx hb dX3_mustBeNumber_38 (by decide) ?_
        refine lv_goto (tgt := 43) hx hb dX3_mustBeNumber_39 (by decide) ?_
        have hrv : (1 : Int32).toInt = 1 := rfl
        exact q_retz E hr hlk hI ⟨by decide, by decide⟩ ⟨⟨by decide, by decide⟩, (by first | (clear if_1 c_2 if_3 c_4 kc_5 ahpσ_7 chpσ_7 dhpσ_7 hrv; omega) | omega), (hF.trans hout), fr_σ_7⟩ dX3_mustBeNumber_43
    · skip
      replace hF := q_ifn hF (Int.not_lt.mpr c_4)
      refine lv_aload_n hx hb dX3_mustBeNumber_22 rfl (lv_at hl 0 rfl) ?_
      refine gsr_X3_28 E hI ha dX3_mustBeNumber_23 ?_
      refine lv_topi (fun f_9 ef_9 => ?_)
      replace hF := q_letX hF ef_9
      have if_9 : f_9.toInt = (σ.1 a 5).toInt := congrArg Int32.toInt ef_9
      refine lv_iload_n hx hb dX3_mustBeNumber_26 rfl (lv_at hl 2 rfl) ?_
      refine q_icmp_le (A := f_9.toInt) (B := v2.toInt) E rfl rfl (tgt := 38) dX3_mustBeNumber_27 (by decide) (fun c_10 => ?_) (fun c_10 => ?_)
      · skip
        replace hF := q_ifn hF (Int.not_lt.mpr c_10)
        refine lv_iconst (v := 1) hx hb dX3_mustBeNumber_38 (by decide) ?_
        refine lv_goto (tgt := 43) hx hb dX3_mustBeNumber_39 (by decide) ?_
        have hrv : (1 : Int32).toInt = 1 := rfl
        exact q_retz E hr hlk hI ⟨by decide, by decide⟩ ⟨⟨by decide, by decide⟩, (by first | (clear if_1 c_2 hrv; omega) | omega), (hF.trans hout), fr_σ⟩ dX3_mustBeNumber_43
      · skip
        replace hF := q_ifp hF c_10
        refine lv_aload_n hx hb dX3_mustBeNumber_30 rfl (lv_at hl 0 rfl) ?_
        refine lv_iconst (v := 4) hx hb dX3_mustBeNumber_31 (by decide) ?_
        have kc_11 : (4 : Int32).toInt = 4 := rfl
        refine q_ci (q_runR (As := [.int 4]) (rest := []) E (hml.trans hl.1.symm) hI (c_X3_fails l X σ a (4 : Int32) ha) kr_X3_74 ha rfl ⟨Nat.le_of_ble_eq_true rfl, Nat.le_of_ble_eq_true rfl⟩ ⟨Nat.le_refl _, Nat.le_refl _⟩ rfl (Nat.le_of_ble_eq_true rfl) dX3_mustBeNumber_32) hI (by decide) (fun r_12 σ_13 H locs hpσ_13 hkσ_13 hI => ?_)
        obtain ⟨ahpσ_13, bhpσ_13, chpσ_13, dhpσ_13⟩ := hpσ_13
        have fr_σ_13 := fr_σ.call dhpσ_13 rfl rfl
        replace hF := q_biX hF chpσ_13
        refine q_if_eq (A := r_12.toInt) E rfl (tgt := 42) dX3_mustBeNumber_35 (by decide) (fun c_14 => ?_) (fun c_14 => ?_)
        · skip
          replace hF := q_ifp hF c_14
          refine lv_iconst (v := 0) hx hb dX3_mustBeNumber_42 (by decide) ?_
          have hrv : (0 : Int32).toInt = 0 := rfl
          exact q_retz E hr hlk hI ⟨by decide, by decide⟩ ⟨⟨by decide, by decide⟩, (by first | (clear if_1 c_2 if_3 c_4 if_9 c_10 kc_11 ahpσ_13 bhpσ_13 chpσ_13 dhpσ_13 c_14; omega) | omega), (hF.trans hout), fr_σ_13⟩ dX3_mustBeNumber_43
        · skip
          replace hF := q_ifn hF c_14
          replace c_14 := q_ifOne ahpσ_13 c_14
          refine lv_iconst (v := 1) hx hb dX3_mustBeNumber_38 (by decide) ?_
          refine lv_goto (tgt := 43) hx hb dX3_mustBeNumber_39 (by decide) ?_
          have hrv : (1 : Int32).toInt = 1 := rfl
          exact q_retz E hr hlk hI ⟨by decide, by decide⟩ ⟨⟨by decide, by decide⟩, (by first | (clear if_1 c_2 if_3 c_4 if_9 c_10 kc_11 ahpσ_13 chpσ_13 dhpσ_13 hrv; omega) | omega), (hF.trans hout), fr_σ_13⟩ dX3_mustBeNumber_43
  · skip
    replace hF := q_ifn hF c_2
    refine lv_aload_n hx hb dX3_mustBeNumber_8 rfl (lv_at hl 0 rfl) ?_
    refine lv_iconst (v := 2) hx hb dX3_mustBeNumber_9 (by decide) ?_
    have kc_15 : (2 : Int32).toInt = 2 := rfl
    refine q_ci (q_runR (As := [.int 2]) (rest := []) E (hml.trans hl.1.symm) hI (c_X3_fails l X σ a (2 : Int32) ha) kr_X3_74 ha rfl ⟨Nat.le_of_ble_eq_true rfl, Nat.le_of_ble_eq_true rfl⟩ ⟨Nat.le_refl _, Nat.le_refl _⟩ rfl (Nat.le_of_ble_eq_true rfl) dX3_mustBeNumber_10) hI (by decide) (fun r_16 σ_17 H locs hpσ_17 hkσ_17 hI => ?_)
    obtain ⟨ahpσ_17, bhpσ_17, chpσ_17, dhpσ_17⟩ := hpσ_17
    have fr_σ_17 := fr_σ.call dhpσ_17 rfl rfl
    replace hF := q_biX hF chpσ_17
    exact q_retz E hr hlk hI ⟨by omega, by omega⟩ ⟨⟨by omega, by omega⟩, (by first | (clear if_1 c_2 kc_15 ahpσ_17 chpσ_17 dhpσ_17; omega) | omega), (hF.trans hout), fr_σ_17⟩ dX3_mustBeNumber_13

set_option maxRecDepth 100000 in
set_option maxHeartbeats 4000000 in
theorem c_X3_passNumber (l : Launch) (X : XW) (σ : ST) (a : Nat) (v1 : Int32) (v2 : Int32) (ha : q_kd X a = 4 ∨ q_kd X a = 9) : Met l yX3_passNumber (q_ws yX3_passNumber cX3_passNumber 4 (some .int)) (q_rm 2 45) (q_P X σ [.ref a, .int v1, .int v2]) (q_Qi X 8 σ (fun (r : Int32) (σ' : ST) => (r.toInt = -1 ∨ (v1.toInt ≤ r.toInt ∧ r.toInt ≤ v2.toInt)) ∧ (r, σ') = F_X3_passNumber X σ a v1 v2 ∧ q_ow [(4, 2), (4, 3), (4, 4), (4, 5), (4, 6), (4, 7), (9, 2), (9, 3), (9, 4), (9, 5), (9, 6), (9, 7)] [] X σ σ')) 0 0 (q_reg X) := by
  refine q_met 8 (by first | exact rfl | decide +kernel) rfl (Nat.le_of_ble_eq_true rfl) (fun p e s m below meth c E hml hr hlk hI ls hl => ?_)
  have hx := E.1
  have hb := E.2.1
  have hl : lv_has ls 4 [(0, .ref a), (1, .int v1), (2, .int v2)] := hl
  have fr_σ : q_ow [(4, 2), (4, 3), (4, 4), (4, 5), (4, 6), (4, 7), (9, 2), (9, 3), (9, 4), (9, 5), (9, 6), (9, 7)] [] X σ σ := q_ow.rf
  obtain ⟨out, hout⟩ : ∃ o, o = F_X3_passNumber X σ a v1 v2 := ⟨_, rfl⟩
  have hF := hout.symm
  unfold F_X3_passNumber at hF
  refine lv_aload_n hx hb dX3_passNumber_0 rfl (lv_at hl 0 rfl) ?_
  refine lv_iload_n hx hb dX3_passNumber_1 rfl (lv_at hl 1 rfl) ?_
  refine lv_iload_n hx hb dX3_passNumber_2 rfl (lv_at hl 2 rfl) ?_
  refine q_ci (q_runR (As := [.int v1, .int v2]) (rest := []) E (hml.trans hl.1.symm) hI (c_X3_mustBeNumber l X σ a v1 v2 ha) kr_X3_87 ha rfl ⟨Nat.le_of_ble_eq_true rfl, Nat.le_of_ble_eq_true rfl⟩ ⟨Nat.le_refl _, Nat.le_refl _⟩ rfl (Nat.le_of_ble_eq_true rfl) dX3_passNumber_3) hI (by decide) (fun r_1 σ_2 H locs hpσ_2 hkσ_2 hI => ?_)
  obtain ⟨ahpσ_2, bhpσ_2, chpσ_2, dhpσ_2⟩ := hpσ_2
  have fr_σ_2 := fr_σ.call dhpσ_2 rfl rfl
  replace hF := q_biX hF chpσ_2
  refine q_if_ne (A := r_1.toInt) E rfl (tgt := 11) dX3_passNumber_6 (by decide) (fun c_3 => ?_) (fun c_3 => ?_)
  · skip
    replace hF := q_ifn hF c_3
    replace c_3 := q_ifOne ahpσ_2 c_3
    replace bhpσ_2 := bhpσ_2 c_3
    refine lv_aload_n hx hb dX3_passNumber_11 rfl (lv_at hl 0 rfl) ?_
    refine gsr_X3_28 E hI ha dX3_passNumber_12 ?_
    refine lv_topi (fun f_4 ef_4 => ?_)
    replace hF := q_letX hF ef_4
    have if_4 : f_4.toInt = (σ_2.1 a 5).toInt := congrArg Int32.toInt ef_4
    refine lv_istore_n (lv' := [(3, .int f_4), (0, .ref a), (1, .int v1), (2, .int v2)]) hx hb dX3_passNumber_15 rfl hl (by decide) rfl (fun ls hl => ?_)
    refine lv_aload_n hx hb dX3_passNumber_16 rfl (lv_at hl 1 rfl) ?_
    refine q_cv (q_runR (As := []) (rest := []) E (hml.trans hl.1.symm) hI (c_X3_advance l X σ_2 a ha) kr_X3_46 ha rfl ⟨Nat.le_of_ble_eq_true rfl, Nat.le_of_ble_eq_true rfl⟩ ⟨Nat.le_refl _, Nat.le_refl _⟩ rfl (Nat.le_of_ble_eq_true rfl) dX3_passNumber_17) hI (by decide) (fun σ_6 H locs hpσ_6 hkσ_6 hI => ?_)
    obtain ⟨ahpσ_6, bhpσ_6⟩ := hpσ_6
    have fr_σ_6 := fr_σ_2.call bhpσ_6 rfl rfl
    replace hF := q_letX hF ahpσ_6
    refine lv_iload_n hx hb dX3_passNumber_20 rfl (lv_at hl 0 rfl) ?_
    exact q_reti E hr hlk hI ⟨(by first | (clear ahpσ_2 chpσ_2 dhpσ_2 c_3 ahpσ_6 bhpσ_6; omega) | omega), (hF.trans hout), fr_σ_6⟩ dX3_passNumber_21
  · skip
    replace hF := q_ifp hF c_3
    clear bhpσ_2
    refine lv_iconst (v := (-1)) hx hb dX3_passNumber_9 (by decide) ?_
    have hrv : ((-1) : Int32).toInt = (-1) := rfl
    exact q_reti E hr hlk hI ⟨(by first | (clear ahpσ_2 chpσ_2 dhpσ_2 c_3; omega) | omega), (hF.trans hout), fr_σ_2⟩ dX3_passNumber_10

set_option maxRecDepth 100000 in
set_option maxHeartbeats 4000000 in
theorem c_X3_passSemicolon (l : Launch) (X : XW) (σ : ST) (a : Nat) (ha : q_kd X a = 4 ∨ q_kd X a = 9) : Met l yX3_passSemicolon (q_ws yX3_passSemicolon cX3_passSemicolon 1 (some .boolean)) (q_rm 2 45) (q_P X σ [.ref a]) (q_Qi X 8 σ (fun (r : Int32) (σ' : ST) => (0 ≤ r.toInt ∧ r.toInt ≤ 1) ∧ (r, σ') = F_X3_passSemicolon X σ a ∧ q_ow [(4, 2), (4, 3), (4, 4), (4, 5), (4, 6), (4, 7), (9, 2), (9, 3), (9, 4), (9, 5), (9, 6), (9, 7)] [] X σ σ')) 0 0 (q_reg X) := by
  refine q_met 8 (by first | exact rfl | decide +kernel) rfl (Nat.le_of_ble_eq_true rfl) (fun p e s m below meth c E hml hr hlk hI ls hl => ?_)
  have hx := E.1
  have hb := E.2.1
  have hl : lv_has ls 1 [(0, .ref a)] := hl
  have fr_σ : q_ow [(4, 2), (4, 3), (4, 4), (4, 5), (4, 6), (4, 7), (9, 2), (9, 3), (9, 4), (9, 5), (9, 6), (9, 7)] [] X σ σ := q_ow.rf
  obtain ⟨out, hout⟩ : ∃ o, o = F_X3_passSemicolon X σ a := ⟨_, rfl⟩
  have hF := hout.symm
  unfold F_X3_passSemicolon at hF
  refine lv_aload_n hx hb dX3_passSemicolon_0 rfl (lv_at hl 0 rfl) ?_
  refine gsr_X3_25 E hI ha dX3_passSemicolon_1 ?_
  refine lv_topi (fun f_1 ef_1 => ?_)
  replace hF := q_letX hF ef_1
  refine lv_iconst (v := 3) hx hb dX3_passSemicolon_4 (by decide) ?_
  refine q_icmp_ne (A := f_1.toInt) (B := 3) E rfl (by decide) (tgt := 18) dX3_passSemicolon_5 (by decide) (fun c_2 => ?_) (fun c_2 => ?_)
  · skip
    replace hF := q_ifn hF c_2
    refine lv_aload_n hx hb dX3_passSemicolon_18 rfl (lv_at hl 0 rfl) ?_
    refine lv_iconst (v := 2) hx hb dX3_passSemicolon_19 (by decide) ?_
    have kc_3 : (2 : Int32).toInt = 2 := rfl
    refine q_ci (q_runR (As := [.int 2]) (rest := []) E (hml.trans hl.1.symm) hI (c_X3_fails l X σ a (2 : Int32) ha) kr_X3_74 ha rfl ⟨Nat.le_of_ble_eq_true rfl, Nat.le_of_ble_eq_true rfl⟩ ⟨Nat.le_refl _, Nat.le_refl _⟩ rfl (Nat.le_of_ble_eq_true rfl) dX3_passSemicolon_20) hI (by decide) (fun r_4 σ_5 H locs hpσ_5 hkσ_5 hI => ?_)
    obtain ⟨ahpσ_5, bhpσ_5, chpσ_5, dhpσ_5⟩ := hpσ_5
    have fr_σ_5 := fr_σ.call dhpσ_5 rfl rfl
    replace hF := q_biX hF chpσ_5
    exact q_retz E hr hlk hI ⟨by omega, by omega⟩ ⟨⟨by omega, by omega⟩, (hF.trans hout), fr_σ_5⟩ dX3_passSemicolon_23
  · skip
    replace hF := q_ifp hF c_2
    refine lv_aload_n hx hb dX3_passSemicolon_8 rfl (lv_at hl 0 rfl) ?_
    refine lv_iconst (v := 0) hx hb dX3_passSemicolon_9 (by decide) ?_
    have kc_6 : (0 : Int32).toInt = 0 := rfl
    refine q_ci (q_runR (As := [.int 0]) (rest := []) E (hml.trans hl.1.symm) hI (c_X3_signAt l X σ a (0 : Int32) ha) kr_X3_49 ha rfl ⟨Nat.le_of_ble_eq_true rfl, Nat.le_of_ble_eq_true rfl⟩ ⟨Nat.le_refl _, Nat.le_refl _⟩ rfl (Nat.le_of_ble_eq_true rfl) dX3_passSemicolon_10) hI (by decide) (fun r_7 σ_8 H locs hpσ_8 hkσ_8 hI => ?_)
    obtain ⟨ahpσ_8, bhpσ_8⟩ := hpσ_8
    rw [ahpσ_8] at hI
    replace hF := q_letX hF bhpσ_8
    refine lv_bipush (v := 59) hx hb dX3_passSemicolon_13 (by decide) ?_
    refine q_icmp_eq (A := r_7.toInt) (B := 59) E rfl (by decide) (tgt := 24) dX3_passSemicolon_15 (by decide) (fun c_9 => ?_) (fun c_9 => ?_)
    · skip
      replace hF := q_ifp hF c_9
      refine lv_aload_n hx hb dX3_passSemicolon_24 rfl (lv_at hl 0 rfl) ?_
      refine q_cv (q_runR (As := []) (rest := []) E (hml.trans hl.1.symm) hI (c_X3_advance l X σ a ha) kr_X3_46 ha rfl ⟨Nat.le_of_ble_eq_true rfl, Nat.le_of_ble_eq_true rfl⟩ ⟨Nat.le_refl _, Nat.le_refl _⟩ rfl (Nat.le_of_ble_eq_true rfl) dX3_passSemicolon_25) hI (by decide) (fun σ_11 H locs hpσ_11 hkσ_11 hI => ?_)
      obtain ⟨ahpσ_11, bhpσ_11⟩ := hpσ_11
      have fr_σ_11 := fr_σ.call bhpσ_11 rfl rfl
      replace hF := q_letX hF ahpσ_11
      refine lv_iconst (v := 1) hx hb dX3_passSemicolon_28 (by decide) ?_
      have hrv : (1 : Int32).toInt = 1 := rfl
      exact q_retz E hr hlk hI ⟨by decide, by decide⟩ ⟨⟨by decide, by decide⟩, (hF.trans hout), fr_σ_11⟩ dX3_passSemicolon_29
    · skip
      replace hF := q_ifn hF c_9
      refine lv_aload_n hx hb dX3_passSemicolon_18 rfl (lv_at hl 0 rfl) ?_
      refine lv_iconst (v := 2) hx hb dX3_passSemicolon_19 (by decide) ?_
      have kc_12 : (2 : Int32).toInt = 2 := rfl
      refine q_ci (q_runR (As := [.int 2]) (rest := []) E (hml.trans hl.1.symm) hI (c_X3_fails l X σ a (2 : Int32) ha) kr_X3_74 ha rfl ⟨Nat.le_of_ble_eq_true rfl, Nat.le_of_ble_eq_true rfl⟩ ⟨Nat.le_refl _, Nat.le_refl _⟩ rfl (Nat.le_of_ble_eq_true rfl) dX3_passSemicolon_20) hI (by decide) (fun r_13 σ_14 H locs hpσ_14 hkσ_14 hI => ?_)
      obtain ⟨ahpσ_14, bhpσ_14, chpσ_14, dhpσ_14⟩ := hpσ_14
      have fr_σ_14 := fr_σ.call dhpσ_14 rfl rfl
      replace hF := q_biX hF chpσ_14
      exact q_retz E hr hlk hI ⟨by omega, by omega⟩ ⟨⟨by omega, by omega⟩, (hF.trans hout), fr_σ_14⟩ dX3_passSemicolon_23

set_option maxRecDepth 100000 in
set_option maxHeartbeats 4000000 in
theorem c_X3_isReserved (l : Launch) (X : XW) (σ : ST) (a : Nat) (ha : q_kd X a = 4 ∨ q_kd X a = 9) : Met l yX3_isReserved (q_ws yX3_isReserved cX3_isReserved 4 (some .boolean)) (q_rm 4 85) (q_P X σ [.ref a]) (q_Qi X 9 σ (fun (r : Int32) (σ' : ST) => σ' = σ ∧ (0 ≤ r.toInt ∧ r.toInt ≤ 1) ∧ r = F_X3_isReserved X σ a)) 0 0 (q_reg X) := by
  refine q_met 9 (by first | exact rfl | decide +kernel) rfl (Nat.le_of_ble_eq_true rfl) (fun p e s m below meth c E hml hr hlk hI ls hl => ?_)
  have hx := E.1
  have hb := E.2.1
  have hl : lv_has ls 4 [(0, .ref a)] := hl
  obtain ⟨out, hout⟩ : ∃ o, o = F_X3_isReserved X σ a := ⟨_, rfl⟩
  have hF := hout.symm
  unfold F_X3_isReserved at hF
  refine lv_iconst (v := 0) hx hb dX3_isReserved_0 (by decide) ?_
  refine lv_istore_n (lv' := [(1, .int 0), (0, .ref a)]) hx hb dX3_isReserved_1 rfl hl (by decide) rfl (fun ls hl => ?_)
  refine lv_iconst (v := 0) hx hb dX3_isReserved_2 (by decide) ?_
  refine lv_istore_n (lv' := [(2, .int 0), (1, .int 0), (0, .ref a)]) hx hb dX3_isReserved_3 rfl hl (by decide) rfl (fun ls hl => ?_)
  have L_4_3 : ∀ (k_3 : Nat) (x_1 : Int32) (x_2 : Int32) (H : Heap) (locs : List Loc) (ls : Array Slot), (2147483647 - x_2.toInt).toNat < k_3 → (0 ≤ x_2.toInt) → (F_X3_isReserved_L4_1 X σ a k_3 x_1 x_2 = out) → q_I X 9 σ s.heap locs σ H → lv_has ls 4 [(0, .ref a), (1, .int x_1), (2, .int x_2)] → W p l e (q_rm 4 85) s m ([.ref a] : List Value).toArray below meth c H locs 0 0 (MQ below (q_Qi X 9 σ (fun (r : Int32) (σ' : ST) => σ' = σ ∧ (0 ≤ r.toInt ∧ r.toInt ≤ 1) ∧ r = F_X3_isReserved X σ a)) ([.ref a] : List Value).toArray s 0 0 (q_reg X)) (F0 m 4 ls []) := by
    clear hF
    intro k_3
    induction k_3 with
    | zero =>
      intro x_1 x_2 H locs ls hms
      exact absurd hms (Nat.not_lt_zero _)
    | succ k_3 ih4 =>
      intro x_1 x_2 H locs ls hm4 hge4 hF hI hl
      replace hF := (F_X3_isReserved_L4_1_s).symm.trans hF
      unfold F_X3_isReserved_B4_1 at hF
      refine lv_iload_n hx hb dX3_isReserved_4 rfl (lv_at hl 2 rfl) ?_
      refine va_ldcS hx hb E.2.2.1 (kz_X3_68 E) dX3_isReserved_5 ?_
      refine q_ci (q_runT (As := []) (rest := [.int x_2]) E (hml.trans hl.1.symm) hI (c_J0_length_8abf5 l X σ 8 (by decide : 8 < 22)) kt_X3_60 (by decide : 8 < 22) rfl ⟨Nat.le_of_ble_eq_true rfl, Nat.le_of_ble_eq_true rfl⟩ ⟨Nat.le_refl _, Nat.le_refl _⟩ rfl (Nat.le_of_ble_eq_true rfl) dX3_isReserved_7) hI (by decide) (fun r_4 σ_5 H locs hpσ_5 hkσ_5 hI => ?_)
      obtain ⟨ahpσ_5, bhpσ_5, chpσ_5⟩ := hpσ_5
      rw [ahpσ_5] at hI
      replace hF := q_letX hF chpσ_5
      have gc_6_x_2 := q_rng x_2
      have gc_6_r_4 := q_rng r_4
      refine q_icmp_ge (A := x_2.toInt) (B := r_4.toInt) E rfl rfl (tgt := 68) dX3_isReserved_10 (by decide) (fun c_6 => ?_) (fun c_6 => ?_)
      · skip
        replace hF := q_ifn hF (Int.not_lt.mpr c_6)
        skip
        refine lv_iconst (v := 0) hx hb dX3_isReserved_68 (by decide) ?_
        have hrv : (0 : Int32).toInt = 0 := rfl
        exact q_retz E hr hlk hI ⟨by decide, by decide⟩ ⟨rfl, ⟨by decide, by decide⟩, (hF.trans hout)⟩ dX3_isReserved_69
      · skip
        replace hF := q_ifp hF c_6
        refine va_ldcS hx hb E.2.2.1 (kz_X3_68 E) dX3_isReserved_13 ?_
        refine lv_iload_n hx hb dX3_isReserved_15 rfl (lv_at hl 2 rfl) ?_
        refine q_ci (q_runT (As := [.int x_2]) (rest := []) E (hml.trans hl.1.symm) hI (c_J0_charAt_5068e l X σ 8 x_2 (by decide : 8 < 22) (by omega) (by first | (clear hm4 hge4 ahpσ_5 chpσ_5 gc_6_x_2 gc_6_r_4; omega) | omega)) kt_X3_64 (by decide : 8 < 22) rfl ⟨Nat.le_of_ble_eq_true rfl, Nat.le_of_ble_eq_true rfl⟩ ⟨Nat.le_refl _, Nat.le_refl _⟩ rfl (Nat.le_of_ble_eq_true rfl) dX3_isReserved_16) hI (by decide) (fun r_7 σ_8 H locs hpσ_8 hkσ_8 hI => ?_)
        obtain ⟨ahpσ_8, bhpσ_8⟩ := hpσ_8
        rw [ahpσ_8] at hI
        replace hF := q_letX hF bhpσ_8
        refine lv_istore_n (lv' := [(3, .int r_7), (0, .ref a), (1, .int x_1), (2, .int x_2)]) hx hb dX3_isReserved_19 rfl hl (by decide) rfl (fun ls hl => ?_)
        refine lv_iload_n hx hb dX3_isReserved_20 rfl (lv_at hl 0 rfl) ?_
        refine lv_bipush (v := 32) hx hb dX3_isReserved_21 (by decide) ?_
        have gc_9_r_7 := q_rng r_7
        refine q_icmp_ne (A := r_7.toInt) (B := 32) E rfl (by decide) (tgt := 41) dX3_isReserved_23 (by decide) (fun c_9 => ?_) (fun c_9 => ?_)
        · skip
          replace hF := q_ifn hF c_9
          refine lv_iload_n hx hb dX3_isReserved_41 rfl (lv_at hl 2 rfl) ?_
          refine q_if_lt (A := x_1.toInt) E rfl (tgt := 62) dX3_isReserved_42 (by decide) (fun c_10 => ?_) (fun c_10 => ?_)
          · skip
            replace hF := q_ifp hF c_10
            obtain ⟨z_11, ez_11⟩ : ∃ y : Int32, y = x_2 + 1 := ⟨_, rfl⟩
            replace hF := q_letX hF ez_11
            refine lv_iinc (v := z_11) (lv' := [(2, .int z_11), (3, .int r_7), (0, .ref a), (1, .int x_1)]) hx hb dX3_isReserved_62 hl (k := 3) rfl (by rw [ez_11]; rfl) (by decide) rfl (fun ls hl => ?_)
            have iz_11 : z_11.toInt = x_2.toInt + 1 := q_inc ez_11 (by first | (clear hm4 ahpσ_5 chpσ_5 ahpσ_8 bhpσ_8 gc_9_r_7 c_9 c_10; omega) | omega)
            refine lv_goto (tgt := 4) hx hb dX3_isReserved_65 (by decide) ?_
            exact ih4 x_1 z_11 _ _ ls (by first | (clear ahpσ_5 chpσ_5 ahpσ_8 bhpσ_8 gc_9_r_7 c_10; omega) | omega) (by first | (clear hm4 ahpσ_5 bhpσ_5 chpσ_5 gc_6_r_4 c_6 ahpσ_8 bhpσ_8 gc_9_r_7 c_9 c_10; omega) | omega) hF hI (lv_sub hl [2, 3, 0] rfl)
          · skip
            replace hF := q_ifn hF (Int.not_lt.mpr c_10)
            refine lv_iload_n hx hb dX3_isReserved_45 rfl (lv_at hl 0 rfl) ?_
            refine lv_aload_n hx hb dX3_isReserved_46 rfl (lv_at hl 1 rfl) ?_
            refine lv_iload_n hx hb dX3_isReserved_47 rfl (lv_at hl 2 rfl) ?_
            refine q_ci (q_runR (As := [.int x_1]) (rest := [.int r_7]) E (hml.trans hl.1.symm) hI (c_X3_signAt l X σ a x_1 ha) kr_X3_49 ha rfl ⟨Nat.le_of_ble_eq_true rfl, Nat.le_of_ble_eq_true rfl⟩ ⟨Nat.le_refl _, Nat.le_refl _⟩ rfl (Nat.le_of_ble_eq_true rfl) dX3_isReserved_48) hI (by decide) (fun r_12 σ_13 H locs hpσ_13 hkσ_13 hI => ?_)
            obtain ⟨ahpσ_13, bhpσ_13⟩ := hpσ_13
            rw [ahpσ_13] at hI
            replace hF := q_letX hF bhpσ_13
            have gc_14_r_7 := q_rng r_7
            have gc_14_r_12 := q_rng r_12
            refine q_icmp_ne (A := r_7.toInt) (B := r_12.toInt) E rfl rfl (tgt := 60) dX3_isReserved_51 (by decide) (fun c_14 => ?_) (fun c_14 => ?_)
            · skip
              replace hF := q_ifn hF c_14
              refine lv_iconst (v := (-1)) hx hb dX3_isReserved_60 (by decide) ?_
              refine lv_istore_n (lv' := [(1, .int (-1)), (3, .int r_7), (0, .ref a), (2, .int x_2)]) hx hb dX3_isReserved_61 rfl hl (by decide) rfl (fun ls hl => ?_)
              obtain ⟨z_15, ez_15⟩ : ∃ y : Int32, y = x_2 + 1 := ⟨_, rfl⟩
              replace hF := q_letX hF ez_15
              refine lv_iinc (v := z_15) (lv' := [(2, .int z_15), (1, .int (-1)), (3, .int r_7), (0, .ref a)]) hx hb dX3_isReserved_62 hl (k := 3) rfl (by rw [ez_15]; rfl) (by decide) rfl (fun ls hl => ?_)
              have iz_15 : z_15.toInt = x_2.toInt + 1 := q_inc ez_15 (by first | (clear hm4 ahpσ_5 chpσ_5 ahpσ_8 bhpσ_8 gc_9_r_7 c_9 c_10 ahpσ_13 bhpσ_13 gc_14_r_7 gc_14_r_12 c_14; omega) | omega)
              refine lv_goto (tgt := 4) hx hb dX3_isReserved_65 (by decide) ?_
              exact ih4 (-1) z_15 _ _ ls (by first | (clear ahpσ_5 chpσ_5 ahpσ_8 bhpσ_8 gc_9_r_7 c_10 ahpσ_13 bhpσ_13 gc_14_r_7 gc_14_r_12; omega) | omega) (by first | (clear hm4 ahpσ_5 bhpσ_5 chpσ_5 gc_6_r_4 c_6 ahpσ_8 bhpσ_8 gc_9_r_7 c_9 c_10 ahpσ_13 bhpσ_13 gc_14_r_7 gc_14_r_12 c_14; omega) | omega) hF hI (lv_sub hl [3, 1, 0] rfl)
            · skip
              replace hF := q_ifp hF c_14
              refine lv_iload_n hx hb dX3_isReserved_54 rfl (lv_at hl 2 rfl) ?_
              refine lv_iconst (v := 1) hx hb dX3_isReserved_55 (by decide) ?_
              refine lv_iadd hx hb dX3_isReserved_56 ?_
              refine lv_topi (fun z_16 ez_16 => ?_)
              replace hF := q_letX hF ez_16
              refine lv_goto (tgt := 61) hx hb dX3_isReserved_57 (by decide) ?_
              refine lv_istore_n (lv' := [(1, .int z_16), (3, .int r_7), (0, .ref a), (2, .int x_2)]) hx hb dX3_isReserved_61 rfl hl (by decide) rfl (fun ls hl => ?_)
              obtain ⟨z_17, ez_17⟩ : ∃ y : Int32, y = x_2 + 1 := ⟨_, rfl⟩
              replace hF := q_letX hF ez_17
              refine lv_iinc (v := z_17) (lv' := [(2, .int z_17), (1, .int z_16), (3, .int r_7), (0, .ref a)]) hx hb dX3_isReserved_62 hl (k := 3) rfl (by rw [ez_17]; rfl) (by decide) rfl (fun ls hl => ?_)
              have iz_17 : z_17.toInt = x_2.toInt + 1 := q_inc ez_17 (by first | (clear hm4 ahpσ_5 chpσ_5 ahpσ_8 bhpσ_8 gc_9_r_7 c_9 c_10 ahpσ_13 bhpσ_13 gc_14_r_7 gc_14_r_12 c_14; omega) | omega)
              refine lv_goto (tgt := 4) hx hb dX3_isReserved_65 (by decide) ?_
              exact ih4 z_16 z_17 _ _ ls (by first | (clear ahpσ_5 chpσ_5 ahpσ_8 bhpσ_8 gc_9_r_7 c_10 ahpσ_13 bhpσ_13 gc_14_r_7 gc_14_r_12 c_14; omega) | omega) (by first | (clear hm4 ahpσ_5 bhpσ_5 chpσ_5 gc_6_r_4 c_6 ahpσ_8 bhpσ_8 gc_9_r_7 c_9 c_10 ahpσ_13 bhpσ_13 gc_14_r_7 gc_14_r_12 c_14; omega) | omega) hF hI (lv_sub hl [3, 1, 0] rfl)
        · skip
          replace hF := q_ifp hF c_9
          refine lv_iload_n hx hb dX3_isReserved_26 rfl (lv_at hl 2 rfl) ?_
          refine lv_aload_n hx hb dX3_isReserved_27 rfl (lv_at hl 1 rfl) ?_
          refine q_ci (q_runR (As := []) (rest := [.int x_1]) E (hml.trans hl.1.symm) hI (c_X3_size l X σ a ha) kr_X3_56 ha rfl ⟨Nat.le_of_ble_eq_true rfl, Nat.le_of_ble_eq_true rfl⟩ ⟨Nat.le_refl _, Nat.le_refl _⟩ rfl (Nat.le_of_ble_eq_true rfl) dX3_isReserved_28) hI (by decide) (fun r_18 σ_19 H locs hpσ_19 hkσ_19 hI => ?_)
          obtain ⟨ahpσ_19, bhpσ_19⟩ := hpσ_19
          rw [ahpσ_19] at hI
          replace hF := q_letX hF bhpσ_19
          have gc_20_x_1 := q_rng x_1
          have gc_20_r_18 := q_rng r_18
          refine q_icmp_ne (A := x_1.toInt) (B := r_18.toInt) E rfl rfl (tgt := 36) dX3_isReserved_31 (by decide) (fun c_20 => ?_) (fun c_20 => ?_)
          · skip
            replace hF := q_ifn hF c_20
            refine lv_iconst (v := 0) hx hb dX3_isReserved_36 (by decide) ?_
            refine lv_istore_n (lv' := [(1, .int 0), (3, .int r_7), (0, .ref a), (2, .int x_2)]) hx hb dX3_isReserved_37 rfl hl (by decide) rfl (fun ls hl => ?_)
            refine lv_goto (tgt := 62) hx hb dX3_isReserved_38 (by decide) ?_
            obtain ⟨z_21, ez_21⟩ : ∃ y : Int32, y = x_2 + 1 := ⟨_, rfl⟩
            replace hF := q_letX hF ez_21
            refine lv_iinc (v := z_21) (lv' := [(2, .int z_21), (1, .int 0), (3, .int r_7), (0, .ref a)]) hx hb dX3_isReserved_62 hl (k := 3) rfl (by rw [ez_21]; rfl) (by decide) rfl (fun ls hl => ?_)
            have iz_21 : z_21.toInt = x_2.toInt + 1 := q_inc ez_21 (by first | (clear hm4 ahpσ_5 chpσ_5 ahpσ_8 bhpσ_8 gc_9_r_7 c_9 ahpσ_19 bhpσ_19 gc_20_x_1 gc_20_r_18 c_20; omega) | omega)
            refine lv_goto (tgt := 4) hx hb dX3_isReserved_65 (by decide) ?_
            exact ih4 0 z_21 _ _ ls (by first | (clear ahpσ_5 chpσ_5 ahpσ_8 bhpσ_8 gc_9_r_7 c_9 ahpσ_19 bhpσ_19 gc_20_x_1 gc_20_r_18; omega) | omega) (by first | (clear hm4 ahpσ_5 bhpσ_5 chpσ_5 gc_6_r_4 c_6 ahpσ_8 bhpσ_8 gc_9_r_7 c_9 ahpσ_19 bhpσ_19 gc_20_x_1 gc_20_r_18 c_20; omega) | omega) hF hI (lv_sub hl [3, 1, 0] rfl)
          · skip
            replace hF := q_ifp hF c_20
            skip
            refine lv_iconst (v := 1) hx hb dX3_isReserved_34 (by decide) ?_
            have hrv : (1 : Int32).toInt = 1 := rfl
            exact q_retz E hr hlk hI ⟨by decide, by decide⟩ ⟨rfl, ⟨by decide, by decide⟩, (hF.trans hout)⟩ dX3_isReserved_35
  exact L_4_3 ((2147483647 - (0 : Int32).toInt).toNat + 1) 0 0 _ _ ls (Nat.lt_succ_self _) (by decide) hF hI (lv_sub hl [2, 1, 0] rfl)

set_option maxRecDepth 100000 in
set_option maxHeartbeats 4000000 in
theorem c_X3_mustBeName (l : Launch) (X : XW) (σ : ST) (a : Nat) (ha : q_kd X a = 4 ∨ q_kd X a = 9) : Met l yX3_mustBeName (q_ws yX3_mustBeName cX3_mustBeName 1 (some .boolean)) (q_rm 5 108) (q_P X σ [.ref a]) (q_Qi X 8 σ (fun (r : Int32) (σ' : ST) => (0 ≤ r.toInt ∧ r.toInt ≤ 1) ∧ (r, σ') = F_X3_mustBeName X σ a ∧ q_ow [(4, 6), (4, 7), (9, 6), (9, 7)] [] X σ σ')) 0 0 (q_reg X) := by
  refine q_met 8 (by first | exact rfl | decide +kernel) rfl (Nat.le_of_ble_eq_true rfl) (fun p e s m below meth c E hml hr hlk hI ls hl => ?_)
  have hx := E.1
  have hb := E.2.1
  have hl : lv_has ls 1 [(0, .ref a)] := hl
  have fr_σ : q_ow [(4, 6), (4, 7), (9, 6), (9, 7)] [] X σ σ := q_ow.rf
  obtain ⟨out, hout⟩ : ∃ o, o = F_X3_mustBeName X σ a := ⟨_, rfl⟩
  have hF := hout.symm
  unfold F_X3_mustBeName at hF
  refine lv_aload_n hx hb dX3_mustBeName_0 rfl (lv_at hl 0 rfl) ?_
  refine gsr_X3_25 E hI ha dX3_mustBeName_1 ?_
  refine lv_topi (fun f_1 ef_1 => ?_)
  replace hF := q_letX hF ef_1
  refine lv_iconst (v := 1) hx hb dX3_mustBeName_4 (by decide) ?_
  refine q_icmp_ne (A := f_1.toInt) (B := 1) E rfl (by decide) (tgt := 24) dX3_mustBeName_5 (by decide) (fun c_2 => ?_) (fun c_2 => ?_)
  · skip
    replace hF := q_ifn hF c_2
    refine lv_aload_n hx hb dX3_mustBeName_24 rfl (lv_at hl 0 rfl) ?_
    refine lv_iconst (v := 2) hx hb dX3_mustBeName_25 (by decide) ?_
    have kc_3 : (2 : Int32).toInt = 2 := rfl
    refine q_ci (q_runR (As := [.int 2]) (rest := []) E (hml.trans hl.1.symm) hI (c_X3_fails l X σ a (2 : Int32) ha) kr_X3_74 ha rfl ⟨Nat.le_of_ble_eq_true rfl, Nat.le_of_ble_eq_true rfl⟩ ⟨Nat.le_refl _, Nat.le_refl _⟩ rfl (Nat.le_of_ble_eq_true rfl) dX3_mustBeName_26) hI (by decide) (fun r_4 σ_5 H locs hpσ_5 hkσ_5 hI => ?_)
    obtain ⟨ahpσ_5, bhpσ_5, chpσ_5, dhpσ_5⟩ := hpσ_5
    have fr_σ_5 := fr_σ.call dhpσ_5 rfl rfl
    replace hF := q_biX hF chpσ_5
    refine q_if_eq (A := r_4.toInt) E rfl (tgt := 36) dX3_mustBeName_29 (by decide) (fun c_6 => ?_) (fun c_6 => ?_)
    · skip
      replace hF := q_ifp hF c_6
      refine lv_iconst (v := 0) hx hb dX3_mustBeName_36 (by decide) ?_
      have hrv : (0 : Int32).toInt = 0 := rfl
      exact q_retz E hr hlk hI ⟨by decide, by decide⟩ ⟨⟨by decide, by decide⟩, (hF.trans hout), fr_σ_5⟩ dX3_mustBeName_37
    · skip
      replace hF := q_ifn hF c_6
      replace c_6 := q_ifOne ahpσ_5 c_6
      refine lv_iconst (v := 1) hx hb dX3_mustBeName_32 (by decide) ?_
      refine lv_goto (tgt := 37) hx hb dX3_mustBeName_33 (by decide) ?_
      have hrv : (1 : Int32).toInt = 1 := rfl
      exact q_retz E hr hlk hI ⟨by decide, by decide⟩ ⟨⟨by decide, by decide⟩, (hF.trans hout), fr_σ_5⟩ dX3_mustBeName_37
  · skip
    replace hF := q_ifp hF c_2
    refine lv_aload_n hx hb dX3_mustBeName_8 rfl (lv_at hl 0 rfl) ?_
    refine q_ci (q_runR (As := []) (rest := []) E (hml.trans hl.1.symm) hI (c_X3_size l X σ a ha) kr_X3_56 ha rfl ⟨Nat.le_of_ble_eq_true rfl, Nat.le_of_ble_eq_true rfl⟩ ⟨Nat.le_refl _, Nat.le_refl _⟩ rfl (Nat.le_of_ble_eq_true rfl) dX3_mustBeName_9) hI (by decide) (fun r_7 σ_8 H locs hpσ_8 hkσ_8 hI => ?_)
    obtain ⟨ahpσ_8, bhpσ_8⟩ := hpσ_8
    rw [ahpσ_8] at hI
    replace hF := q_letX hF bhpσ_8
    refine lv_bipush (v := 8) hx hb dX3_mustBeName_12 (by decide) ?_
    refine q_icmp_gt (A := r_7.toInt) (B := 8) E rfl (by decide) (tgt := 24) dX3_mustBeName_14 (by decide) (fun c_9 => ?_) (fun c_9 => ?_)
    · skip
      replace hF := q_ifp hF c_9
      refine lv_aload_n hx hb dX3_mustBeName_24 rfl (lv_at hl 0 rfl) ?_
      refine lv_iconst (v := 2) hx hb dX3_mustBeName_25 (by decide) ?_
      have kc_10 : (2 : Int32).toInt = 2 := rfl
      refine q_ci (q_runR (As := [.int 2]) (rest := []) E (hml.trans hl.1.symm) hI (c_X3_fails l X σ a (2 : Int32) ha) kr_X3_74 ha rfl ⟨Nat.le_of_ble_eq_true rfl, Nat.le_of_ble_eq_true rfl⟩ ⟨Nat.le_refl _, Nat.le_refl _⟩ rfl (Nat.le_of_ble_eq_true rfl) dX3_mustBeName_26) hI (by decide) (fun r_11 σ_12 H locs hpσ_12 hkσ_12 hI => ?_)
      obtain ⟨ahpσ_12, bhpσ_12, chpσ_12, dhpσ_12⟩ := hpσ_12
      have fr_σ_12 := fr_σ.call dhpσ_12 rfl rfl
      replace hF := q_biX hF chpσ_12
      refine q_if_eq (A := r_11.toInt) E rfl (tgt := 36) dX3_mustBeName_29 (by decide) (fun c_13 => ?_) (fun c_13 => ?_)
      · skip
        replace hF := q_ifp hF c_13
        refine lv_iconst (v := 0) hx hb dX3_mustBeName_36 (by decide) ?_
        have hrv : (0 : Int32).toInt = 0 := rfl
        exact q_retz E hr hlk hI ⟨by decide, by decide⟩ ⟨⟨by decide, by decide⟩, (hF.trans hout), fr_σ_12⟩ dX3_mustBeName_37
      · skip
        replace hF := q_ifn hF c_13
        replace c_13 := q_ifOne ahpσ_12 c_13
        refine lv_iconst (v := 1) hx hb dX3_mustBeName_32 (by decide) ?_
        refine lv_goto (tgt := 37) hx hb dX3_mustBeName_33 (by decide) ?_
        have hrv : (1 : Int32).toInt = 1 := rfl
        exact q_retz E hr hlk hI ⟨by decide, by decide⟩ ⟨⟨by decide, by decide⟩, (hF.trans hout), fr_σ_12⟩ dX3_mustBeName_37
    · skip
      replace hF := q_ifn hF (Int.not_lt.mpr c_9)
      refine lv_aload_n hx hb dX3_mustBeName_17 rfl (lv_at hl 0 rfl) ?_
      refine q_ci (q_runR (As := []) (rest := []) E (hml.trans hl.1.symm) hI (c_X3_isReserved l X σ a ha) kr_X3_70 ha rfl ⟨Nat.le_of_ble_eq_true rfl, Nat.le_of_ble_eq_true rfl⟩ ⟨Nat.le_refl _, Nat.le_refl _⟩ rfl (Nat.le_of_ble_eq_true rfl) dX3_mustBeName_18) hI (by decide) (fun r_14 σ_15 H locs hpσ_15 hkσ_15 hI => ?_)
      obtain ⟨ahpσ_15, bhpσ_15, chpσ_15⟩ := hpσ_15
      rw [ahpσ_15] at hI
      replace hF := q_letX hF chpσ_15
      refine q_if_eq (A := r_14.toInt) E rfl (tgt := 32) dX3_mustBeName_21 (by decide) (fun c_16 => ?_) (fun c_16 => ?_)
      · skip
        replace hF := q_ifp hF c_16
        refine lv_iconst (v := 1) hx hb dX3_mustBeName_32 (by decide) ?_
        refine lv_goto (tgt := 37) hx hb dX3_mustBeName_33 (by decide) ?_
        have hrv : (1 : Int32).toInt = 1 := rfl
        exact q_retz E hr hlk hI ⟨by decide, by decide⟩ ⟨⟨by decide, by decide⟩, (hF.trans hout), fr_σ⟩ dX3_mustBeName_37
      · skip
        replace hF := q_ifn hF c_16
        replace c_16 := q_ifOne bhpσ_15 c_16
        refine lv_aload_n hx hb dX3_mustBeName_24 rfl (lv_at hl 0 rfl) ?_
        refine lv_iconst (v := 2) hx hb dX3_mustBeName_25 (by decide) ?_
        have kc_17 : (2 : Int32).toInt = 2 := rfl
        refine q_ci (q_runR (As := [.int 2]) (rest := []) E (hml.trans hl.1.symm) hI (c_X3_fails l X σ a (2 : Int32) ha) kr_X3_74 ha rfl ⟨Nat.le_of_ble_eq_true rfl, Nat.le_of_ble_eq_true rfl⟩ ⟨Nat.le_refl _, Nat.le_refl _⟩ rfl (Nat.le_of_ble_eq_true rfl) dX3_mustBeName_26) hI (by decide) (fun r_18 σ_19 H locs hpσ_19 hkσ_19 hI => ?_)
        obtain ⟨ahpσ_19, bhpσ_19, chpσ_19, dhpσ_19⟩ := hpσ_19
        have fr_σ_19 := fr_σ.call dhpσ_19 rfl rfl
        replace hF := q_biX hF chpσ_19
        refine q_if_eq (A := r_18.toInt) E rfl (tgt := 36) dX3_mustBeName_29 (by decide) (fun c_20 => ?_) (fun c_20 => ?_)
        · skip
          replace hF := q_ifp hF c_20
          refine lv_iconst (v := 0) hx hb dX3_mustBeName_36 (by decide) ?_
          have hrv : (0 : Int32).toInt = 0 := rfl
          exact q_retz E hr hlk hI ⟨by decide, by decide⟩ ⟨⟨by decide, by decide⟩, (hF.trans hout), fr_σ_19⟩ dX3_mustBeName_37
        · skip
          replace hF := q_ifn hF c_20
          replace c_20 := q_ifOne ahpσ_19 c_20
          refine lv_iconst (v := 1) hx hb dX3_mustBeName_32 (by decide) ?_
          refine lv_goto (tgt := 37) hx hb dX3_mustBeName_33 (by decide) ?_
          have hrv : (1 : Int32).toInt = 1 := rfl
          exact q_retz E hr hlk hI ⟨by decide, by decide⟩ ⟨⟨by decide, by decide⟩, (hF.trans hout), fr_σ_19⟩ dX3_mustBeName_37

set_option maxRecDepth 100000 in
set_option maxHeartbeats 4000000 in
theorem c_X6_isNamed (l : Launch) (X : XW) (σ : ST) (a : Nat) (v1 : Int32) (r2 : Nat) (ha : q_kd X a = 6) (hr2 : q_kd X r2 = 4 ∨ q_kd X r2 = 9) : Met l yX6_isNamed (q_ws yX6_isNamed cX6_isNamed 5 (some .boolean)) (q_rm 1 22) (q_P X σ [.ref a, .int v1, .ref r2]) (q_Qi X 9 σ (fun (r : Int32) (σ' : ST) => σ' = σ ∧ (0 ≤ r.toInt ∧ r.toInt ≤ 1) ∧ r = F_X6_isNamed X σ a v1 r2)) 0 0 (q_reg X) := by
  refine q_met 9 (by first | exact rfl | decide +kernel) rfl (Nat.le_of_ble_eq_true rfl) (fun p e s m below meth c E hml hr hlk hI ls hl => ?_)
  have hx := E.1
  have hb := E.2.1
  have hl : lv_has ls 5 [(0, .ref a), (1, .int v1), (2, .ref r2)] := hl
  obtain ⟨out, hout⟩ : ∃ o, o = F_X6_isNamed X σ a v1 r2 := ⟨_, rfl⟩
  have hF := hout.symm
  unfold F_X6_isNamed at hF
  refine lv_aload_n hx hb dX6_isNamed_0 rfl (lv_at hl 0 rfl) ?_
  refine gs_X6_39_6 E hI ha dX6_isNamed_1 ?_
  refine lv_iload_n hx hb dX6_isNamed_4 rfl (lv_at hl 1 rfl) ?_
  refine q_ci (q_runV (As := [.int v1]) (rest := []) E (hml.trans hl.1.symm) hI (c_X5_get l X σ (q_rf X a 7) v1 (q_tk (k' := 5) hI ha rfl (by decide))) kv_X6_73 (q_tk (k' := 5) hI ha rfl (by decide)) ⟨rfl, by decide⟩ (show vwCl[4]? = some (RX5, TX5, 1) from rfl) rfl ⟨Nat.le_of_ble_eq_true rfl, Nat.le_of_ble_eq_true rfl⟩ ⟨Nat.le_refl _, Nat.le_refl _⟩ rfl (Nat.le_of_ble_eq_true rfl) dX6_isNamed_5) hI (by decide) (fun r_1 σ_2 H locs hpσ_2 hkσ_2 hI => ?_)
  obtain ⟨ahpσ_2, bhpσ_2⟩ := hpσ_2
  rw [ahpσ_2] at hI
  replace hF := q_letX hF bhpσ_2
  refine lv_istore_n (lv' := [(3, .int r_1), (0, .ref a), (1, .int v1), (2, .ref r2)]) hx hb dX6_isNamed_8 rfl hl (by decide) rfl (fun ls hl => ?_)
  refine lv_iload_n hx hb dX6_isNamed_9 rfl (lv_at hl 0 rfl) ?_
  refine lv_aload_n hx hb dX6_isNamed_10 rfl (lv_at hl 3 rfl) ?_
  refine q_ci (q_runR (As := []) (rest := [.int r_1]) E (hml.trans hl.1.symm) hI (c_X3_size l X σ r2 hr2) kr_X6_55 hr2 rfl ⟨Nat.le_of_ble_eq_true rfl, Nat.le_of_ble_eq_true rfl⟩ ⟨Nat.le_refl _, Nat.le_refl _⟩ rfl (Nat.le_of_ble_eq_true rfl) dX6_isNamed_11) hI (by decide) (fun r_3 σ_4 H locs hpσ_4 hkσ_4 hI => ?_)
  obtain ⟨ahpσ_4, bhpσ_4⟩ := hpσ_4
  rw [ahpσ_4] at hI
  replace hF := q_letX hF bhpσ_4
  have gc_5_r_1 := q_rng r_1
  have gc_5_r_3 := q_rng r_3
  refine q_icmp_eq (A := r_1.toInt) (B := r_3.toInt) E rfl rfl (tgt := 19) dX6_isNamed_14 (by decide) (fun c_5 => ?_) (fun c_5 => ?_)
  · skip
    replace hF := q_ifp hF c_5
    refine lv_iconst (v := 0) hx hb dX6_isNamed_19 (by decide) ?_
    refine lv_istore (lv' := [(4, .int 0), (3, .int r_1), (0, .ref a), (1, .int v1), (2, .ref r2)]) hx hb dX6_isNamed_20 hl (by decide) rfl (fun ls hl => ?_)
    have L_22_7 : ∀ (k_7 : Nat) (x_6 : Int32) (H : Heap) (locs : List Loc) (ls : Array Slot), (2147483647 - x_6.toInt).toNat < k_7 → (0 ≤ x_6.toInt) → (F_X6_isNamed_L22_1 X r_1 v1 σ a r2 k_7 x_6 = out) → q_I X 9 σ s.heap locs σ H → lv_has ls 5 [(0, .ref a), (1, .int v1), (2, .ref r2), (3, .int r_1), (4, .int x_6)] → W p l e (q_rm 1 22) s m ([.ref a, .int v1, .ref r2] : List Value).toArray below meth c H locs 0 0 (MQ below (q_Qi X 9 σ (fun (r : Int32) (σ' : ST) => σ' = σ ∧ (0 ≤ r.toInt ∧ r.toInt ≤ 1) ∧ r = F_X6_isNamed X σ a v1 r2)) ([.ref a, .int v1, .ref r2] : List Value).toArray s 0 0 (q_reg X)) (F0 m 22 ls []) := by
      clear hF
      intro k_7
      induction k_7 with
      | zero =>
        intro x_6 H locs ls hms
        exact absurd hms (Nat.not_lt_zero _)
      | succ k_7 ih22 =>
        intro x_6 H locs ls hm22 hge22 hF hI hl
        replace hF := (F_X6_isNamed_L22_1_s).symm.trans hF
        unfold F_X6_isNamed_B22_1 at hF
        refine lv_iload hx hb dX6_isNamed_22 (lv_at hl 4 rfl) ?_
        refine lv_iload_n hx hb dX6_isNamed_24 rfl (lv_at hl 3 rfl) ?_
        have gc_8_x_6 := q_rng x_6
        have gc_8_r_1 := q_rng r_1
        refine q_icmp_ge (A := x_6.toInt) (B := r_1.toInt) E rfl rfl (tgt := 59) dX6_isNamed_25 (by decide) (fun c_8 => ?_) (fun c_8 => ?_)
        · skip
          replace hF := q_ifn hF (Int.not_lt.mpr c_8)
          skip
          refine lv_iconst (v := 1) hx hb dX6_isNamed_59 (by decide) ?_
          have hrv : (1 : Int32).toInt = 1 := rfl
          exact q_retz E hr hlk hI ⟨by decide, by decide⟩ ⟨rfl, ⟨by decide, by decide⟩, (hF.trans hout)⟩ dX6_isNamed_60
        · skip
          replace hF := q_ifp hF c_8
          refine lv_aload_n hx hb dX6_isNamed_28 rfl (lv_at hl 0 rfl) ?_
          refine gs_X6_36_6 E hI ha dX6_isNamed_29 ?_
          refine lv_iload_n hx hb dX6_isNamed_32 rfl (lv_at hl 1 rfl) ?_
          refine lv_bipush (v := 8) hx hb dX6_isNamed_33 (by decide) ?_
          refine lv_imul hx hb dX6_isNamed_35 ?_
          refine lv_topi (fun z_9 ez_9 => ?_)
          replace hF := q_letX hF ez_9
          refine lv_iload hx hb dX6_isNamed_36 (lv_at hl 4 rfl) ?_
          refine lv_iadd hx hb dX6_isNamed_38 ?_
          refine lv_topi (fun z_10 ez_10 => ?_)
          replace hF := q_letX hF ez_10
          refine q_ci (q_runV (As := [.int z_10]) (rest := []) E (hml.trans hl.1.symm) hI (c_X5_get l X σ (q_rf X a 6) z_10 (q_tk (k' := 5) hI ha rfl (by decide))) kv_X6_73 (q_tk (k' := 5) hI ha rfl (by decide)) ⟨rfl, by decide⟩ (show vwCl[4]? = some (RX5, TX5, 1) from rfl) rfl ⟨Nat.le_of_ble_eq_true rfl, Nat.le_of_ble_eq_true rfl⟩ ⟨Nat.le_refl _, Nat.le_refl _⟩ rfl (Nat.le_of_ble_eq_true rfl) dX6_isNamed_39) hI (by decide) (fun r_11 σ_12 H locs hpσ_12 hkσ_12 hI => ?_)
          obtain ⟨ahpσ_12, bhpσ_12⟩ := hpσ_12
          rw [ahpσ_12] at hI
          replace hF := q_letX hF bhpσ_12
          refine lv_aload_n hx hb dX6_isNamed_42 rfl (lv_at hl 2 rfl) ?_
          refine lv_iload hx hb dX6_isNamed_43 (lv_at hl 4 rfl) ?_
          refine q_ci (q_runR (As := [.int x_6]) (rest := [.int r_11]) E (hml.trans hl.1.symm) hI (c_X3_signAt l X σ r2 x_6 hr2) kr_X6_61 hr2 rfl ⟨Nat.le_of_ble_eq_true rfl, Nat.le_of_ble_eq_true rfl⟩ ⟨Nat.le_refl _, Nat.le_refl _⟩ rfl (Nat.le_of_ble_eq_true rfl) dX6_isNamed_45) hI (by decide) (fun r_13 σ_14 H locs hpσ_14 hkσ_14 hI => ?_)
          obtain ⟨ahpσ_14, bhpσ_14⟩ := hpσ_14
          rw [ahpσ_14] at hI
          replace hF := q_letX hF bhpσ_14
          have gc_15_r_11 := q_rng r_11
          have gc_15_r_13 := q_rng r_13
          refine q_icmp_eq (A := r_11.toInt) (B := r_13.toInt) E rfl rfl (tgt := 53) dX6_isNamed_48 (by decide) (fun c_15 => ?_) (fun c_15 => ?_)
          · skip
            replace hF := q_ifp hF c_15
            obtain ⟨z_16, ez_16⟩ : ∃ y : Int32, y = x_6 + 1 := ⟨_, rfl⟩
            replace hF := q_letX hF ez_16
            refine lv_iinc (v := z_16) (lv' := [(4, .int z_16), (0, .ref a), (1, .int v1), (2, .ref r2), (3, .int r_1)]) hx hb dX6_isNamed_53 hl (k := 4) rfl (by rw [ez_16]; rfl) (by decide) rfl (fun ls hl => ?_)
            have iz_16 : z_16.toInt = x_6.toInt + 1 := q_inc ez_16 (by first | (clear ahpσ_2 bhpσ_2 ahpσ_4 bhpσ_4 gc_5_r_1 hm22 gc_8_r_1 ahpσ_12 bhpσ_12 ahpσ_14 bhpσ_14 gc_15_r_11 gc_15_r_13 c_15; omega) | omega)
            refine lv_goto (tgt := 22) hx hb dX6_isNamed_56 (by decide) ?_
            exact ih22 z_16 _ _ ls (by first | (clear ahpσ_2 bhpσ_2 ahpσ_4 bhpσ_4 gc_5_r_1 gc_8_r_1 ahpσ_12 bhpσ_12 ahpσ_14 bhpσ_14 gc_15_r_11 gc_15_r_13 c_15; omega) | omega) (by first | (clear ahpσ_2 bhpσ_2 ahpσ_4 bhpσ_4 gc_5_r_1 gc_5_r_3 c_5 hm22 gc_8_r_1 c_8 ahpσ_12 bhpσ_12 ahpσ_14 bhpσ_14 gc_15_r_11 gc_15_r_13 c_15; omega) | omega) hF hI (lv_sub hl [1, 2, 3, 4, 0] rfl)
          · skip
            replace hF := q_ifn hF c_15
            skip
            refine lv_iconst (v := 0) hx hb dX6_isNamed_51 (by decide) ?_
            have hrv : (0 : Int32).toInt = 0 := rfl
            exact q_retz E hr hlk hI ⟨by decide, by decide⟩ ⟨rfl, ⟨by decide, by decide⟩, (hF.trans hout)⟩ dX6_isNamed_52
    exact L_22_7 ((2147483647 - (0 : Int32).toInt).toNat + 1) 0 _ _ ls (Nat.lt_succ_self _) (by decide) hF hI (lv_sub hl [2, 3, 4, 1, 0] rfl)
  · skip
    replace hF := q_ifn hF c_5
    refine lv_iconst (v := 0) hx hb dX6_isNamed_17 (by decide) ?_
    have hrv : (0 : Int32).toInt = 0 := rfl
    exact q_retz E hr hlk hI ⟨by decide, by decide⟩ ⟨rfl, ⟨by decide, by decide⟩, (hF.trans hout)⟩ dX6_isNamed_18

set_option maxRecDepth 100000 in
set_option maxHeartbeats 4000000 in
theorem c_X6_playerNamed (l : Launch) (X : XW) (σ : ST) (a : Nat) (r1 : Nat) (ha : q_kd X a = 6) (hr1 : q_kd X r1 = 4 ∨ q_kd X r1 = 9) : Met l yX6_playerNamed (q_ws yX6_playerNamed cX6_playerNamed 3 (some .int)) (q_rm 2 46) (q_P X σ [.ref a, .ref r1]) (q_Qi X 9 σ (fun (r : Int32) (σ' : ST) => σ' = σ ∧ r = F_X6_playerNamed X σ a r1)) 0 0 (q_reg X) := by
  refine q_met 9 (by first | exact rfl | decide +kernel) rfl (Nat.le_of_ble_eq_true rfl) (fun p e s m below meth c E hml hr hlk hI ls hl => ?_)
  have hx := E.1
  have hb := E.2.1
  have hl : lv_has ls 3 [(0, .ref a), (1, .ref r1)] := hl
  obtain ⟨out, hout⟩ : ∃ o, o = F_X6_playerNamed X σ a r1 := ⟨_, rfl⟩
  have hF := hout.symm
  unfold F_X6_playerNamed at hF
  refine lv_iconst (v := 0) hx hb dX6_playerNamed_0 (by decide) ?_
  refine lv_istore_n (lv' := [(2, .int 0), (0, .ref a), (1, .ref r1)]) hx hb dX6_playerNamed_1 rfl hl (by decide) rfl (fun ls hl => ?_)
  have L_2_2 : ∀ (k_2 : Nat) (x_1 : Int32) (H : Heap) (locs : List Loc) (ls : Array Slot), (2147483647 - x_1.toInt).toNat < k_2 → (0 ≤ x_1.toInt) → (F_X6_playerNamed_L2_1 X σ a r1 k_2 x_1 = out) → q_I X 9 σ s.heap locs σ H → lv_has ls 3 [(0, .ref a), (1, .ref r1), (2, .int x_1)] → W p l e (q_rm 2 46) s m ([.ref a, .ref r1] : List Value).toArray below meth c H locs 0 0 (MQ below (q_Qi X 9 σ (fun (r : Int32) (σ' : ST) => σ' = σ ∧ r = F_X6_playerNamed X σ a r1)) ([.ref a, .ref r1] : List Value).toArray s 0 0 (q_reg X)) (F0 m 2 ls []) := by
    clear hF
    intro k_2
    induction k_2 with
    | zero =>
      intro x_1 H locs ls hms
      exact absurd hms (Nat.not_lt_zero _)
    | succ k_2 ih2 =>
      intro x_1 H locs ls hm2 hge2 hF hI hl
      replace hF := (F_X6_playerNamed_L2_1_s).symm.trans hF
      unfold F_X6_playerNamed_B2_1 at hF
      refine lv_iload_n hx hb dX6_playerNamed_2 rfl (lv_at hl 2 rfl) ?_
      refine lv_aload_n hx hb dX6_playerNamed_3 rfl (lv_at hl 0 rfl) ?_
      refine gs_X6_24_6 E hI ha dX6_playerNamed_4 ?_
      refine lv_topi (fun f_3 ef_3 => ?_)
      replace hF := q_letX hF ef_3
      have gc_4_x_1 := q_rng x_1
      have gc_4_f_3 := q_rng f_3
      refine q_icmp_ge (A := x_1.toInt) (B := f_3.toInt) E rfl rfl (tgt := 27) dX6_playerNamed_7 (by decide) (fun c_4 => ?_) (fun c_4 => ?_)
      · skip
        replace hF := q_ifn hF (Int.not_lt.mpr c_4)
        skip
        refine lv_iconst (v := (-1)) hx hb dX6_playerNamed_27 (by decide) ?_
        exact q_reti E hr hlk hI ⟨rfl, (hF.trans hout)⟩ dX6_playerNamed_28
      · skip
        replace hF := q_ifp hF c_4
        refine lv_aload_n hx hb dX6_playerNamed_10 rfl (lv_at hl 0 rfl) ?_
        refine lv_iload_n hx hb dX6_playerNamed_11 rfl (lv_at hl 2 rfl) ?_
        refine lv_aload_n hx hb dX6_playerNamed_12 rfl (lv_at hl 1 rfl) ?_
        refine q_ci (q_runV (As := [.int x_1, .ref r1]) (rest := []) E (hml.trans hl.1.symm) hI (c_X6_isNamed l X σ a x_1 r1 ha hr1) kv_X6_69 ha ⟨rfl, by decide⟩ (show vwCl[5]? = some (RX6, TX6, 8) from rfl) rfl ⟨Nat.le_of_ble_eq_true rfl, Nat.le_of_ble_eq_true rfl⟩ ⟨Nat.le_refl _, Nat.le_refl _⟩ rfl (Nat.le_of_ble_eq_true rfl) dX6_playerNamed_13) hI (by decide) (fun r_5 σ_6 H locs hpσ_6 hkσ_6 hI => ?_)
        obtain ⟨ahpσ_6, bhpσ_6, chpσ_6⟩ := hpσ_6
        rw [ahpσ_6] at hI
        replace hF := q_letX hF chpσ_6
        refine q_if_eq (A := r_5.toInt) E rfl (tgt := 21) dX6_playerNamed_16 (by decide) (fun c_7 => ?_) (fun c_7 => ?_)
        · skip
          replace hF := q_ifp hF c_7
          obtain ⟨z_8, ez_8⟩ : ∃ y : Int32, y = x_1 + 1 := ⟨_, rfl⟩
          replace hF := q_letX hF ez_8
          refine lv_iinc (v := z_8) (lv' := [(2, .int z_8), (0, .ref a), (1, .ref r1)]) hx hb dX6_playerNamed_21 hl (k := 2) rfl (by rw [ez_8]; rfl) (by decide) rfl (fun ls hl => ?_)
          have iz_8 : z_8.toInt = x_1.toInt + 1 := q_inc ez_8 (by first | (clear hm2 ahpσ_6 bhpσ_6 chpσ_6; omega) | omega)
          refine lv_goto (tgt := 2) hx hb dX6_playerNamed_24 (by decide) ?_
          exact ih2 z_8 _ _ ls (by first | (clear ahpσ_6 bhpσ_6 chpσ_6; omega) | omega) (by first | (clear hm2 gc_4_f_3 c_4 ahpσ_6 bhpσ_6 chpσ_6 c_7; omega) | omega) hF hI (lv_sub hl [1, 2, 0] rfl)
        · skip
          replace hF := q_ifn hF c_7
          replace c_7 := q_ifOne bhpσ_6 c_7
          skip
          refine lv_iload_n hx hb dX6_playerNamed_19 rfl (lv_at hl 2 rfl) ?_
          exact q_reti E hr hlk hI ⟨rfl, (hF.trans hout)⟩ dX6_playerNamed_20
  exact L_2_2 ((2147483647 - (0 : Int32).toInt).toNat + 1) 0 _ _ ls (Nat.lt_succ_self _) (by decide) hF hI (lv_sub hl [1, 2, 0] rfl)

set_option maxRecDepth 100000 in
set_option maxHeartbeats 4000000 in
theorem c_X6_addPlayer (l : Launch) (X : XW) (σ : ST) (a : Nat) (r1 : Nat) (ha : q_kd X a = 6) (hr1 : q_kd X r1 = 4 ∨ q_kd X r1 = 9) : Met l yX6_addPlayer (q_ws yX6_addPlayer cX6_addPlayer 3 none) (q_rm 1 22) (q_P X σ [.ref a, .ref r1]) (q_Qv X 8 σ (fun (σ' : ST) => σ' = F_X6_addPlayer X σ a r1 ∧ q_ow [(6, 4), (20, 99)] [] X σ σ')) 0 0 (q_reg X) := by
  refine q_met 8 (by first | exact rfl | decide +kernel) rfl (Nat.le_of_ble_eq_true rfl) (fun p e s m below meth c E hml hr hlk hI ls hl => ?_)
  have hx := E.1
  have hb := E.2.1
  have hl : lv_has ls 3 [(0, .ref a), (1, .ref r1)] := hl
  have fr_σ : q_ow [(6, 4), (20, 99)] [] X σ σ := q_ow.rf
  obtain ⟨out, hout⟩ : ∃ o, o = F_X6_addPlayer X σ a r1 := ⟨_, rfl⟩
  have hF := hout.symm
  unfold F_X6_addPlayer at hF
  refine lv_aload_n hx hb dX6_addPlayer_0 rfl (lv_at hl 0 rfl) ?_
  refine gs_X6_24_6 E hI ha dX6_addPlayer_1 ?_
  refine lv_topi (fun f_1 ef_1 => ?_)
  replace hF := q_letX hF ef_1
  refine lv_bipush (v := 6) hx hb dX6_addPlayer_4 (by decide) ?_
  have gc_2_f_1 := q_rng f_1
  refine q_icmp_ge (A := f_1.toInt) (B := 6) E rfl (by decide) (tgt := 18) dX6_addPlayer_6 (by decide) (fun c_2 => ?_) (fun c_2 => ?_)
  · skip
    replace hF := q_ifn hF (Int.not_lt.mpr c_2)
    exact q_retv E hr hlk hI ⟨(hF.trans hout), fr_σ⟩ dX6_addPlayer_18
  · skip
    replace hF := q_ifp hF c_2
    refine lv_aload_n hx hb dX6_addPlayer_9 rfl (lv_at hl 1 rfl) ?_
    refine q_ci (q_runR (As := []) (rest := []) E (hml.trans hl.1.symm) hI (c_X3_size l X σ r1 hr1) kr_X6_55 hr1 rfl ⟨Nat.le_of_ble_eq_true rfl, Nat.le_of_ble_eq_true rfl⟩ ⟨Nat.le_refl _, Nat.le_refl _⟩ rfl (Nat.le_of_ble_eq_true rfl) dX6_addPlayer_10) hI (by decide) (fun r_3 σ_4 H locs hpσ_4 hkσ_4 hI => ?_)
    obtain ⟨ahpσ_4, bhpσ_4⟩ := hpσ_4
    rw [ahpσ_4] at hI
    replace hF := q_letX hF bhpσ_4
    refine lv_bipush (v := 8) hx hb dX6_addPlayer_13 (by decide) ?_
    have gc_5_r_3 := q_rng r_3
    refine q_icmp_le (A := r_3.toInt) (B := 8) E rfl (by decide) (tgt := 19) dX6_addPlayer_15 (by decide) (fun c_5 => ?_) (fun c_5 => ?_)
    · skip
      replace hF := q_ifn hF (Int.not_lt.mpr c_5)
      refine lv_iconst (v := 0) hx hb dX6_addPlayer_19 (by decide) ?_
      refine lv_istore_n (lv' := [(2, .int 0), (0, .ref a), (1, .ref r1)]) hx hb dX6_addPlayer_20 rfl hl (by decide) rfl (fun ls hl => ?_)
      have L_21_8 : ∀ (k_8 : Nat) (x_6 : Int32) (σ_7 : ST) (H : Heap) (locs : List Loc) (ls : Array Slot), (2147483647 - x_6.toInt).toNat < k_8 → (0 ≤ x_6.toInt) → (q_ow [(6, 4), (20, 99)] [] X σ σ_7) → (F_X6_addPlayer_L21_1 X r1 a k_8 x_6 σ_7 = out) → q_I X 8 σ s.heap locs σ_7 H → lv_has ls 3 [(0, .ref a), (1, .ref r1), (2, .int x_6)] → W p l e (q_rm 1 22) s m ([.ref a, .ref r1] : List Value).toArray below meth c H locs 0 0 (MQ below (q_Qv X 8 σ (fun (σ' : ST) => σ' = F_X6_addPlayer X σ a r1 ∧ q_ow [(6, 4), (20, 99)] [] X σ σ')) ([.ref a, .ref r1] : List Value).toArray s 0 0 (q_reg X)) (F0 m 21 ls []) := by
        clear hF
        intro k_8
        induction k_8 with
        | zero =>
          intro x_6 σ_7 H locs ls hms
          exact absurd hms (Nat.not_lt_zero _)
        | succ k_8 ih21 =>
          intro x_6 σ_7 H locs ls hm21 hge21 fr_σ_7 hF hI hl
          replace hF := (F_X6_addPlayer_L21_1_s).symm.trans hF
          unfold F_X6_addPlayer_B21_1 at hF
          refine lv_iload_n hx hb dX6_addPlayer_21 rfl (lv_at hl 2 rfl) ?_
          refine lv_aload_n hx hb dX6_addPlayer_22 rfl (lv_at hl 1 rfl) ?_
          refine q_ci (q_runR (As := []) (rest := [.int x_6]) E (hml.trans hl.1.symm) hI (c_X3_size l X σ_7 r1 hr1) kr_X6_55 hr1 rfl ⟨Nat.le_of_ble_eq_true rfl, Nat.le_of_ble_eq_true rfl⟩ ⟨Nat.le_refl _, Nat.le_refl _⟩ rfl (Nat.le_of_ble_eq_true rfl) dX6_addPlayer_23) hI (by decide) (fun r_9 σ_10 H locs hpσ_10 hkσ_10 hI => ?_)
          obtain ⟨ahpσ_10, bhpσ_10⟩ := hpσ_10
          rw [ahpσ_10] at hI
          replace hF := q_letX hF bhpσ_10
          have gc_11_x_6 := q_rng x_6
          have gc_11_r_9 := q_rng r_9
          refine q_icmp_ge (A := x_6.toInt) (B := r_9.toInt) E rfl rfl (tgt := 56) dX6_addPlayer_26 (by decide) (fun c_11 => ?_) (fun c_11 => ?_)
          · skip
            replace hF := q_ifn hF (Int.not_lt.mpr c_11)
            unfold F_X6_addPlayer_E56_2 at hF
            refine lv_aload_n hx hb dX6_addPlayer_56 rfl (lv_at hl 0 rfl) ?_
            refine gs_X6_39_6 E hI ha dX6_addPlayer_57 ?_
            refine lv_aload_n hx hb dX6_addPlayer_60 rfl (lv_at hl 0 rfl) ?_
            refine gs_X6_24_6 E hI ha dX6_addPlayer_61 ?_
            refine lv_topi (fun f_12 ef_12 => ?_)
            replace hF := q_letX hF ef_12
            refine lv_aload_n hx hb dX6_addPlayer_64 rfl (lv_at hl 1 rfl) ?_
            refine q_ci (q_runR (As := []) (rest := [.int f_12, .ref (q_rf X a 7)]) E (hml.trans hl.1.symm) hI (c_X3_size l X σ_7 r1 hr1) kr_X6_55 hr1 rfl ⟨Nat.le_of_ble_eq_true rfl, Nat.le_of_ble_eq_true rfl⟩ ⟨Nat.le_refl _, Nat.le_refl _⟩ rfl (Nat.le_of_ble_eq_true rfl) dX6_addPlayer_65) hI (by decide) (fun r_13 σ_14 H locs hpσ_14 hkσ_14 hI => ?_)
            obtain ⟨ahpσ_14, bhpσ_14⟩ := hpσ_14
            rw [ahpσ_14] at hI
            replace hF := q_letX hF bhpσ_14
            refine q_cv (q_runV (As := [.int f_12, .int r_13]) (rest := []) E (hml.trans hl.1.symm) hI (c_X5_set l X σ_7 (q_rf X a 7) f_12 r_13 (q_tk (k' := 5) hI ha rfl (by decide))) kv_X6_65 (q_tk (k' := 5) hI ha rfl (by decide)) ⟨rfl, by decide⟩ (show vwCl[4]? = some (RX5, TX5, 1) from rfl) rfl ⟨Nat.le_of_ble_eq_true rfl, Nat.le_of_ble_eq_true rfl⟩ ⟨Nat.le_refl _, Nat.le_refl _⟩ rfl (Nat.le_of_ble_eq_true rfl) dX6_addPlayer_68) hI (by decide) (fun σ_16 H locs hpσ_16 hkσ_16 hI => ?_)
            obtain ⟨ahpσ_16, bhpσ_16⟩ := hpσ_16
            have fr_σ_16 := fr_σ_7.call bhpσ_16 rfl rfl
            replace hF := q_letX hF ahpσ_16
            refine lv_aload_n hx hb dX6_addPlayer_71 rfl (lv_at hl 0 rfl) ?_
            refine lv_dup hx hb dX6_addPlayer_72 rfl ?_
            refine gs_X6_24_6 E hI ha dX6_addPlayer_73 ?_
            refine lv_topi (fun f_17 ef_17 => ?_)
            replace hF := q_letX hF ef_17
            refine lv_iconst (v := 1) hx hb dX6_addPlayer_76 (by decide) ?_
            refine lv_iadd hx hb dX6_addPlayer_77 ?_
            refine lv_topi (fun z_18 ez_18 => ?_)
            replace hF := q_letX hF ez_18
            refine ps_X6_24_6 E hI ha (by decide) dX6_addPlayer_78 (fun H locs σ_19 hσ_19 hI => ?_)
            replace hF := q_letX hF hσ_19
            have fr_σ_19 := fr_σ_16.si hσ_19 ha rfl
            exact q_retv E hr hlk hI ⟨(hF.trans hout), fr_σ_19⟩ dX6_addPlayer_81
          · skip
            replace hF := q_ifp hF c_11
            refine lv_aload_n hx hb dX6_addPlayer_29 rfl (lv_at hl 0 rfl) ?_
            refine gs_X6_36_6 E hI ha dX6_addPlayer_30 ?_
            refine lv_aload_n hx hb dX6_addPlayer_33 rfl (lv_at hl 0 rfl) ?_
            refine gs_X6_24_6 E hI ha dX6_addPlayer_34 ?_
            refine lv_topi (fun f_20 ef_20 => ?_)
            replace hF := q_letX hF ef_20
            refine lv_bipush (v := 8) hx hb dX6_addPlayer_37 (by decide) ?_
            refine lv_imul hx hb dX6_addPlayer_39 ?_
            refine lv_topi (fun z_21 ez_21 => ?_)
            replace hF := q_letX hF ez_21
            refine lv_iload_n hx hb dX6_addPlayer_40 rfl (lv_at hl 2 rfl) ?_
            refine lv_iadd hx hb dX6_addPlayer_41 ?_
            refine lv_topi (fun z_22 ez_22 => ?_)
            replace hF := q_letX hF ez_22
            refine lv_aload_n hx hb dX6_addPlayer_42 rfl (lv_at hl 1 rfl) ?_
            refine lv_iload_n hx hb dX6_addPlayer_43 rfl (lv_at hl 2 rfl) ?_
            refine q_ci (q_runR (As := [.int x_6]) (rest := [.int z_22, .ref (q_rf X a 6)]) E (hml.trans hl.1.symm) hI (c_X3_signAt l X σ_7 r1 x_6 hr1) kr_X6_61 hr1 rfl ⟨Nat.le_of_ble_eq_true rfl, Nat.le_of_ble_eq_true rfl⟩ ⟨Nat.le_refl _, Nat.le_refl _⟩ rfl (Nat.le_of_ble_eq_true rfl) dX6_addPlayer_44) hI (by decide) (fun r_23 σ_24 H locs hpσ_24 hkσ_24 hI => ?_)
            obtain ⟨ahpσ_24, bhpσ_24⟩ := hpσ_24
            rw [ahpσ_24] at hI
            replace hF := q_letX hF bhpσ_24
            refine q_cv (q_runV (As := [.int z_22, .int r_23]) (rest := []) E (hml.trans hl.1.symm) hI (c_X5_set l X σ_7 (q_rf X a 6) z_22 r_23 (q_tk (k' := 5) hI ha rfl (by decide))) kv_X6_65 (q_tk (k' := 5) hI ha rfl (by decide)) ⟨rfl, by decide⟩ (show vwCl[4]? = some (RX5, TX5, 1) from rfl) rfl ⟨Nat.le_of_ble_eq_true rfl, Nat.le_of_ble_eq_true rfl⟩ ⟨Nat.le_refl _, Nat.le_refl _⟩ rfl (Nat.le_of_ble_eq_true rfl) dX6_addPlayer_47) hI (by decide) (fun σ_26 H locs hpσ_26 hkσ_26 hI => ?_)
            obtain ⟨ahpσ_26, bhpσ_26⟩ := hpσ_26
            have fr_σ_26 := fr_σ_7.call bhpσ_26 rfl rfl
            replace hF := q_letX hF ahpσ_26
            obtain ⟨z_27, ez_27⟩ : ∃ y : Int32, y = x_6 + 1 := ⟨_, rfl⟩
            replace hF := q_letX hF ez_27
            refine lv_iinc (v := z_27) (lv' := [(2, .int z_27), (0, .ref a), (1, .ref r1)]) hx hb dX6_addPlayer_50 hl (k := 2) rfl (by rw [ez_27]; rfl) (by decide) rfl (fun ls hl => ?_)
            have iz_27 : z_27.toInt = x_6.toInt + 1 := q_inc ez_27 (by first | (clear gc_2_f_1 c_2 ahpσ_4 bhpσ_4 gc_5_r_3 c_5 hm21 ahpσ_10 bhpσ_10 ahpσ_24 bhpσ_24 ahpσ_26 bhpσ_26; omega) | omega)
            refine lv_goto (tgt := 21) hx hb dX6_addPlayer_53 (by decide) ?_
            exact ih21 z_27 σ_26 _ _ ls (by first | (clear gc_2_f_1 c_2 ahpσ_4 bhpσ_4 gc_5_r_3 c_5 ahpσ_10 bhpσ_10 ahpσ_24 bhpσ_24 ahpσ_26 bhpσ_26; omega) | omega) (by first | (clear gc_2_f_1 c_2 ahpσ_4 bhpσ_4 gc_5_r_3 c_5 hm21 ahpσ_10 bhpσ_10 gc_11_r_9 c_11 ahpσ_24 bhpσ_24 ahpσ_26 bhpσ_26; omega) | omega) fr_σ_26 hF hI (lv_sub hl [1, 2, 0] rfl)
      exact L_21_8 ((2147483647 - (0 : Int32).toInt).toNat + 1) 0 σ _ _ ls (Nat.lt_succ_self _) (by decide) fr_σ hF hI (lv_sub hl [1, 2, 0] rfl)
    · skip
      replace hF := q_ifp hF c_5
      exact q_retv E hr hlk hI ⟨(hF.trans hout), fr_σ⟩ dX6_addPlayer_18

set_option maxRecDepth 100000 in
set_option maxHeartbeats 4000000 in
theorem c_X3_passPlayer (l : Launch) (X : XW) (σ : ST) (a : Nat) (r1 : Nat) (ha : q_kd X a = 4 ∨ q_kd X a = 9) (hr1 : q_kd X r1 = 6) : Met l yX3_passPlayer (q_ws yX3_passPlayer cX3_passPlayer 3 (some .int)) (q_rm 6 128) (q_P X σ [.ref a, .ref r1]) (q_Qi X 8 σ (fun (r : Int32) (σ' : ST) => (r, σ') = F_X3_passPlayer X σ a r1 ∧ q_ow [(4, 2), (4, 3), (4, 4), (4, 5), (4, 6), (4, 7), (9, 2), (9, 3), (9, 4), (9, 5), (9, 6), (9, 7)] [] X σ σ')) 0 0 (q_reg X) := by
  refine q_met 8 (by first | exact rfl | decide +kernel) rfl (Nat.le_of_ble_eq_true rfl) (fun p e s m below meth c E hml hr hlk hI ls hl => ?_)
  have hx := E.1
  have hb := E.2.1
  have hl : lv_has ls 3 [(0, .ref a), (1, .ref r1)] := hl
  have fr_σ : q_ow [(4, 2), (4, 3), (4, 4), (4, 5), (4, 6), (4, 7), (9, 2), (9, 3), (9, 4), (9, 5), (9, 6), (9, 7)] [] X σ σ := q_ow.rf
  obtain ⟨out, hout⟩ : ∃ o, o = F_X3_passPlayer X σ a r1 := ⟨_, rfl⟩
  have hF := hout.symm
  unfold F_X3_passPlayer at hF
  refine lv_aload_n hx hb dX3_passPlayer_0 rfl (lv_at hl 0 rfl) ?_
  refine q_ci (q_runR (As := []) (rest := []) E (hml.trans hl.1.symm) hI (c_X3_mustBeName l X σ a ha) kr_X3_78 ha rfl ⟨Nat.le_of_ble_eq_true rfl, Nat.le_of_ble_eq_true rfl⟩ ⟨Nat.le_refl _, Nat.le_refl _⟩ rfl (Nat.le_of_ble_eq_true rfl) dX3_passPlayer_1) hI (by decide) (fun r_1 σ_2 H locs hpσ_2 hkσ_2 hI => ?_)
  obtain ⟨ahpσ_2, bhpσ_2, chpσ_2⟩ := hpσ_2
  have fr_σ_2 := fr_σ.call chpσ_2 rfl rfl
  replace hF := q_biX hF bhpσ_2
  refine q_if_ne (A := r_1.toInt) E rfl (tgt := 9) dX3_passPlayer_4 (by decide) (fun c_3 => ?_) (fun c_3 => ?_)
  · skip
    replace hF := q_ifn hF c_3
    replace c_3 := q_ifOne ahpσ_2 c_3
    refine lv_aload_n hx hb dX3_passPlayer_9 rfl (lv_at hl 1 rfl) ?_
    refine lv_aload_n hx hb dX3_passPlayer_10 rfl (lv_at hl 0 rfl) ?_
    refine q_ci (q_runV (As := [.ref a]) (rest := []) E (hml.trans hl.1.symm) hI (c_X6_playerNamed l X σ_2 r1 a hr1 ha) kv_X3_81 hr1 ⟨rfl, by decide⟩ (show vwCl[5]? = some (RX6, TX6, 8) from rfl) rfl ⟨Nat.le_of_ble_eq_true rfl, Nat.le_of_ble_eq_true rfl⟩ ⟨Nat.le_refl _, Nat.le_refl _⟩ rfl (Nat.le_of_ble_eq_true rfl) dX3_passPlayer_11) hI (by decide) (fun r_4 σ_5 H locs hpσ_5 hkσ_5 hI => ?_)
    obtain ⟨ahpσ_5, bhpσ_5⟩ := hpσ_5
    rw [ahpσ_5] at hI
    replace hF := q_letX hF bhpσ_5
    refine lv_istore_n (lv' := [(2, .int r_4), (0, .ref a), (1, .ref r1)]) hx hb dX3_passPlayer_14 rfl hl (by decide) rfl (fun ls hl => ?_)
    refine lv_iload_n hx hb dX3_passPlayer_15 rfl (lv_at hl 0 rfl) ?_
    refine lv_iconst (v := (-1)) hx hb dX3_passPlayer_16 (by decide) ?_
    refine q_icmp_ne (A := r_4.toInt) (B := (-1)) E rfl (by decide) (tgt := 28) dX3_passPlayer_17 (by decide) (fun c_6 => ?_) (fun c_6 => ?_)
    · skip
      replace hF := q_ifn hF c_6
      refine lv_aload_n hx hb dX3_passPlayer_28 rfl (lv_at hl 1 rfl) ?_
      refine q_cv (q_runR (As := []) (rest := []) E (hml.trans hl.1.symm) hI (c_X3_advance l X σ_2 a ha) kr_X3_46 ha rfl ⟨Nat.le_of_ble_eq_true rfl, Nat.le_of_ble_eq_true rfl⟩ ⟨Nat.le_refl _, Nat.le_refl _⟩ rfl (Nat.le_of_ble_eq_true rfl) dX3_passPlayer_29) hI (by decide) (fun σ_8 H locs hpσ_8 hkσ_8 hI => ?_)
      obtain ⟨ahpσ_8, bhpσ_8⟩ := hpσ_8
      have fr_σ_8 := fr_σ_2.call bhpσ_8 rfl rfl
      replace hF := q_letX hF ahpσ_8
      refine lv_iload_n hx hb dX3_passPlayer_32 rfl (lv_at hl 0 rfl) ?_
      exact q_reti E hr hlk hI ⟨(hF.trans hout), fr_σ_8⟩ dX3_passPlayer_33
    · skip
      replace hF := q_ifp hF c_6
      refine lv_aload_n hx hb dX3_passPlayer_20 rfl (lv_at hl 1 rfl) ?_
      refine lv_iconst (v := 3) hx hb dX3_passPlayer_21 (by decide) ?_
      have kc_9 : (3 : Int32).toInt = 3 := rfl
      refine q_ci (q_runR (As := [.int 3]) (rest := []) E (hml.trans hl.1.symm) hI (c_X3_fails l X σ_2 a (3 : Int32) ha) kr_X3_74 ha rfl ⟨Nat.le_of_ble_eq_true rfl, Nat.le_of_ble_eq_true rfl⟩ ⟨Nat.le_refl _, Nat.le_refl _⟩ rfl (Nat.le_of_ble_eq_true rfl) dX3_passPlayer_22) hI (by decide) (fun r_10 σ_11 H locs hpσ_11 hkσ_11 hI => ?_)
      obtain ⟨ahpσ_11, bhpσ_11, chpσ_11, dhpσ_11⟩ := hpσ_11
      have fr_σ_11 := fr_σ_2.call dhpσ_11 rfl rfl
      replace hF := q_biX hF chpσ_11
      refine lv_pop hx hb dX3_passPlayer_25 rfl ?_
      refine lv_iconst (v := (-1)) hx hb dX3_passPlayer_26 (by decide) ?_
      exact q_reti E hr hlk hI ⟨(hF.trans hout), fr_σ_11⟩ dX3_passPlayer_27
  · skip
    replace hF := q_ifp hF c_3
    refine lv_iconst (v := (-1)) hx hb dX3_passPlayer_7 (by decide) ?_
    exact q_reti E hr hlk hI ⟨(hF.trans hout), fr_σ_2⟩ dX3_passPlayer_8

set_option maxRecDepth 100000 in
set_option maxHeartbeats 4000000 in
theorem c_X6_copyFrom (l : Launch) (X : XW) (σ : ST) (a : Nat) (r1 : Nat) (ha : q_kd X a = 6) (hr1 : q_kd X r1 = 6) : Met l yX6_copyFrom (q_ws yX6_copyFrom cX6_copyFrom 2 none) (q_rm 1 22) (q_P X σ [.ref a, .ref r1]) (q_Qv X 8 σ (fun (σ' : ST) => σ' = F_X6_copyFrom X σ a r1 ∧ q_ow [(6, 0), (6, 1), (6, 2), (6, 3), (6, 4), (20, 99)] [] X σ σ')) 0 0 (q_reg X) := by
  refine q_met 8 (by first | exact rfl | decide +kernel) rfl (Nat.le_of_ble_eq_true rfl) (fun p e s m below meth c E hml hr hlk hI ls hl => ?_)
  have hx := E.1
  have hb := E.2.1
  have hl : lv_has ls 2 [(0, .ref a), (1, .ref r1)] := hl
  have fr_σ : q_ow [(6, 0), (6, 1), (6, 2), (6, 3), (6, 4), (20, 99)] [] X σ σ := q_ow.rf
  obtain ⟨out, hout⟩ : ∃ o, o = F_X6_copyFrom X σ a r1 := ⟨_, rfl⟩
  have hF := hout.symm
  unfold F_X6_copyFrom at hF
  refine lv_aload_n hx hb dX6_copyFrom_0 rfl (lv_at hl 0 rfl) ?_
  refine lv_aload_n hx hb dX6_copyFrom_1 rfl (lv_at hl 1 rfl) ?_
  refine gs_X6_9_6 E hI hr1 dX6_copyFrom_2 ?_
  refine lv_topi (fun f_1 ef_1 => ?_)
  replace hF := q_letX hF ef_1
  have bf_1 : -2147483648 ≤ f_1.toInt ∧ f_1.toInt ≤ 10 := by rw [ef_1]; exact q_bd hI hr1 rfl
  refine ps_X6_9_6 E hI ha (by decide) (by omega) (by omega) dX6_copyFrom_5 (fun H locs σ_2 hσ_2 hI => ?_)
  replace hF := q_letX hF hσ_2
  have fr_σ_2 := fr_σ.si hσ_2 ha rfl
  refine lv_aload_n hx hb dX6_copyFrom_8 rfl (lv_at hl 0 rfl) ?_
  refine lv_aload_n hx hb dX6_copyFrom_9 rfl (lv_at hl 1 rfl) ?_
  refine gs_X6_15_6 E hI hr1 dX6_copyFrom_10 ?_
  refine lv_topi (fun f_3 ef_3 => ?_)
  replace hF := q_letX hF ef_3
  refine ps_X6_15_6 E hI ha (by decide) dX6_copyFrom_13 (fun H locs σ_4 hσ_4 hI => ?_)
  replace hF := q_letX hF hσ_4
  have fr_σ_4 := fr_σ_2.si hσ_4 ha rfl
  refine lv_aload_n hx hb dX6_copyFrom_16 rfl (lv_at hl 0 rfl) ?_
  refine lv_aload_n hx hb dX6_copyFrom_17 rfl (lv_at hl 1 rfl) ?_
  refine gs_X6_18_6 E hI hr1 dX6_copyFrom_18 ?_
  refine lv_topi (fun f_5 ef_5 => ?_)
  replace hF := q_letX hF ef_5
  refine ps_X6_18_6 E hI ha (by decide) dX6_copyFrom_21 (fun H locs σ_6 hσ_6 hI => ?_)
  replace hF := q_letX hF hσ_6
  have fr_σ_6 := fr_σ_4.si hσ_6 ha rfl
  refine lv_aload_n hx hb dX6_copyFrom_24 rfl (lv_at hl 0 rfl) ?_
  refine lv_aload_n hx hb dX6_copyFrom_25 rfl (lv_at hl 1 rfl) ?_
  refine gs_X6_21_6 E hI hr1 dX6_copyFrom_26 ?_
  refine lv_topi (fun f_7 ef_7 => ?_)
  replace hF := q_letX hF ef_7
  have bf_7 : -2147483648 ≤ f_7.toInt ∧ f_7.toInt ≤ 4 := by rw [ef_7]; exact q_bd hI hr1 rfl
  refine ps_X6_21_6 E hI ha (by decide) (by first | (clear bf_1; omega) | omega) (by first | (clear bf_1; omega) | omega) dX6_copyFrom_29 (fun H locs σ_8 hσ_8 hI => ?_)
  replace hF := q_letX hF hσ_8
  have fr_σ_8 := fr_σ_6.si hσ_8 ha rfl
  refine lv_aload_n hx hb dX6_copyFrom_32 rfl (lv_at hl 0 rfl) ?_
  refine lv_aload_n hx hb dX6_copyFrom_33 rfl (lv_at hl 1 rfl) ?_
  refine gs_X6_24_6 E hI hr1 dX6_copyFrom_34 ?_
  refine lv_topi (fun f_9 ef_9 => ?_)
  replace hF := q_letX hF ef_9
  refine ps_X6_24_6 E hI ha (by decide) dX6_copyFrom_37 (fun H locs σ_10 hσ_10 hI => ?_)
  replace hF := q_letX hF hσ_10
  have fr_σ_10 := fr_σ_8.si hσ_10 ha rfl
  refine lv_aload_n hx hb dX6_copyFrom_40 rfl (lv_at hl 0 rfl) ?_
  refine gs_X6_32_6 E hI ha dX6_copyFrom_41 ?_
  refine lv_aload_n hx hb dX6_copyFrom_44 rfl (lv_at hl 1 rfl) ?_
  refine gs_X6_32_6 E hI hr1 dX6_copyFrom_45 ?_
  refine q_cv (q_runV (As := [.ref (q_rf X r1 5)]) (rest := []) E (hml.trans hl.1.symm) hI (c_X5_copyFrom l X σ_10 (q_rf X a 5) (q_rf X r1 5) (q_tk (k' := 5) hI ha rfl (by decide)) (q_tk (k' := 5) hI hr1 rfl (by decide))) kv_X6_45 (q_tk (k' := 5) hI ha rfl (by decide)) ⟨rfl, by decide⟩ (show vwCl[4]? = some (RX5, TX5, 1) from rfl) rfl ⟨Nat.le_of_ble_eq_true rfl, Nat.le_of_ble_eq_true rfl⟩ ⟨Nat.le_refl _, Nat.le_refl _⟩ rfl (Nat.le_of_ble_eq_true rfl) dX6_copyFrom_48) hI (by decide) (fun σ_12 H locs hpσ_12 hkσ_12 hI => ?_)
  obtain ⟨ahpσ_12, bhpσ_12⟩ := hpσ_12
  have fr_σ_12 := fr_σ_10.call bhpσ_12 rfl rfl
  replace hF := q_letX hF ahpσ_12
  refine lv_aload_n hx hb dX6_copyFrom_51 rfl (lv_at hl 0 rfl) ?_
  refine gs_X6_36_6 E hI ha dX6_copyFrom_52 ?_
  refine lv_aload_n hx hb dX6_copyFrom_55 rfl (lv_at hl 1 rfl) ?_
  refine gs_X6_36_6 E hI hr1 dX6_copyFrom_56 ?_
  refine q_cv (q_runV (As := [.ref (q_rf X r1 6)]) (rest := []) E (hml.trans hl.1.symm) hI (c_X5_copyFrom l X σ_12 (q_rf X a 6) (q_rf X r1 6) (q_tk (k' := 5) hI ha rfl (by decide)) (q_tk (k' := 5) hI hr1 rfl (by decide))) kv_X6_45 (q_tk (k' := 5) hI ha rfl (by decide)) ⟨rfl, by decide⟩ (show vwCl[4]? = some (RX5, TX5, 1) from rfl) rfl ⟨Nat.le_of_ble_eq_true rfl, Nat.le_of_ble_eq_true rfl⟩ ⟨Nat.le_refl _, Nat.le_refl _⟩ rfl (Nat.le_of_ble_eq_true rfl) dX6_copyFrom_59) hI (by decide) (fun σ_14 H locs hpσ_14 hkσ_14 hI => ?_)
  obtain ⟨ahpσ_14, bhpσ_14⟩ := hpσ_14
  have fr_σ_14 := fr_σ_12.call bhpσ_14 rfl rfl
  replace hF := q_letX hF ahpσ_14
  refine lv_aload_n hx hb dX6_copyFrom_62 rfl (lv_at hl 0 rfl) ?_
  refine gs_X6_39_6 E hI ha dX6_copyFrom_63 ?_
  refine lv_aload_n hx hb dX6_copyFrom_66 rfl (lv_at hl 1 rfl) ?_
  refine gs_X6_39_6 E hI hr1 dX6_copyFrom_67 ?_
  refine q_cv (q_runV (As := [.ref (q_rf X r1 7)]) (rest := []) E (hml.trans hl.1.symm) hI (c_X5_copyFrom l X σ_14 (q_rf X a 7) (q_rf X r1 7) (q_tk (k' := 5) hI ha rfl (by decide)) (q_tk (k' := 5) hI hr1 rfl (by decide))) kv_X6_45 (q_tk (k' := 5) hI ha rfl (by decide)) ⟨rfl, by decide⟩ (show vwCl[4]? = some (RX5, TX5, 1) from rfl) rfl ⟨Nat.le_of_ble_eq_true rfl, Nat.le_of_ble_eq_true rfl⟩ ⟨Nat.le_refl _, Nat.le_refl _⟩ rfl (Nat.le_of_ble_eq_true rfl) dX6_copyFrom_70) hI (by decide) (fun σ_16 H locs hpσ_16 hkσ_16 hI => ?_)
  obtain ⟨ahpσ_16, bhpσ_16⟩ := hpσ_16
  have fr_σ_16 := fr_σ_14.call bhpσ_16 rfl rfl
  replace hF := q_letX hF ahpσ_16
  exact q_retv E hr hlk hI ⟨(hF.trans hout), fr_σ_16⟩ dX6_copyFrom_73

set_option maxRecDepth 100000 in
set_option maxHeartbeats 4000000 in
theorem c_X6_kindAfter (l : Launch) (X : XW) (σ : ST) (a : Nat) (v1 : Int32) (v2 : Int32) (ha : q_kd X a = 6) : Met l yX6_kindAfter (q_ws yX6_kindAfter cX6_kindAfter 3 (some .int)) (q_rm 1 22) (q_P X σ [.ref a, .int v1, .int v2]) (q_Qi X 9 σ (fun (r : Int32) (σ' : ST) => σ' = σ ∧ r = F_X6_kindAfter X σ a v1 v2)) 0 0 (q_reg X) := by
  refine q_met 9 (by first | exact rfl | decide +kernel) rfl (Nat.le_of_ble_eq_true rfl) (fun p e s m below meth c E hml hr hlk hI ls hl => ?_)
  have hx := E.1
  have hb := E.2.1
  have hl : lv_has ls 3 [(0, .ref a), (1, .int v1), (2, .int v2)] := hl
  obtain ⟨out, hout⟩ : ∃ o, o = F_X6_kindAfter X σ a v1 v2 := ⟨_, rfl⟩
  have hF := hout.symm
  unfold F_X6_kindAfter at hF
  refine lv_aload_n hx hb dX6_kindAfter_0 rfl (lv_at hl 0 rfl) ?_
  refine gs_X6_18_6 E hI ha dX6_kindAfter_1 ?_
  refine lv_topi (fun f_1 ef_1 => ?_)
  replace hF := q_letX hF ef_1
  have if_1 : f_1.toInt = (σ.1 a 2).toInt := congrArg Int32.toInt ef_1
  refine lv_iconst (v := 2) hx hb dX6_kindAfter_4 (by decide) ?_
  refine q_icmp_eq (A := f_1.toInt) (B := 2) E rfl (by decide) (tgt := 15) dX6_kindAfter_5 (by decide) (fun c_2 => ?_) (fun c_2 => ?_)
  · skip
    replace hF := q_ifp hF c_2
    refine lv_iload_n hx hb dX6_kindAfter_15 rfl (lv_at hl 1 rfl) ?_
    exact q_reti E hr hlk hI ⟨rfl, (hF.trans hout)⟩ dX6_kindAfter_16
  · skip
    replace hF := q_ifn hF c_2
    refine lv_aload_n hx hb dX6_kindAfter_8 rfl (lv_at hl 0 rfl) ?_
    refine gs_X6_9_6 E hI ha dX6_kindAfter_9 ?_
    refine lv_topi (fun f_3 ef_3 => ?_)
    replace hF := q_letX hF ef_3
    have if_3 : f_3.toInt = (σ.1 a 0).toInt := congrArg Int32.toInt ef_3
    have bf_3 : -2147483648 ≤ f_3.toInt ∧ f_3.toInt ≤ 10 := by rw [ef_3]; exact q_bd hI ha rfl
    refine q_if_gt (A := f_3.toInt) E rfl (tgt := 17) dX6_kindAfter_12 (by decide) (fun c_4 => ?_) (fun c_4 => ?_)
    · skip
      replace hF := q_ifp hF c_4
      refine lv_aload_n hx hb dX6_kindAfter_17 rfl (lv_at hl 0 rfl) ?_
      refine gs_X6_18_6 E hI ha dX6_kindAfter_18 ?_
      refine lv_topi (fun f_5 ef_5 => ?_)
      replace hF := q_letX hF ef_5
      have if_5 : f_5.toInt = (σ.1 a 2).toInt := congrArg Int32.toInt ef_5
      refine q_if_ne (A := f_5.toInt) E rfl (tgt := 30) dX6_kindAfter_21 (by decide) (fun c_6 => ?_) (fun c_6 => ?_)
      · skip
        replace hF := q_ifn hF c_6
        refine lv_iload_n hx hb dX6_kindAfter_30 rfl (lv_at hl 1 rfl) ?_
        refine lv_iload_n hx hb dX6_kindAfter_31 rfl (lv_at hl 2 rfl) ?_
        refine lv_isub hx hb dX6_kindAfter_32 ?_
        refine lv_topi (fun z_7 ez_7 => ?_)
        replace hF := q_letX hF ez_7
        refine lv_aload_n hx hb dX6_kindAfter_33 rfl (lv_at hl 0 rfl) ?_
        refine gs_X6_9_6 E hI ha dX6_kindAfter_34 ?_
        refine lv_topi (fun f_8 ef_8 => ?_)
        replace hF := q_letX hF ef_8
        have if_8 : f_8.toInt = (σ.1 a 0).toInt := congrArg Int32.toInt ef_8
        have bf_8 : -2147483648 ≤ f_8.toInt ∧ f_8.toInt ≤ 10 := by rw [ef_8]; exact q_bd hI ha rfl
        refine q_ci (q_runS (As := [.int z_7, .int f_8]) (rest := []) E (hml.trans hl.1.symm) hI (c_J9_floorMod_7cf53 l X σ z_7 f_8 (q_ne0 (by first | (clear if_1 c_2 if_5 c_6 bf_8; omega) | omega))) ks_X6_49 rfl ⟨Nat.le_of_ble_eq_true rfl, Nat.le_of_ble_eq_true rfl⟩ ⟨Nat.le_refl _, Nat.le_refl _⟩ rfl (Nat.le_of_ble_eq_true rfl) dX6_kindAfter_37) hI (by decide) (fun r_9 σ_10 H locs hpσ_10 hkσ_10 hI => ?_)
        obtain ⟨ahpσ_10, bhpσ_10⟩ := hpσ_10
        rw [ahpσ_10] at hI
        replace hF := q_letX hF bhpσ_10
        exact q_reti E hr hlk hI ⟨rfl, (hF.trans hout)⟩ dX6_kindAfter_40
      · skip
        replace hF := q_ifp hF c_6
        refine lv_iload_n hx hb dX6_kindAfter_24 rfl (lv_at hl 1 rfl) ?_
        refine lv_iload_n hx hb dX6_kindAfter_25 rfl (lv_at hl 2 rfl) ?_
        refine lv_iadd hx hb dX6_kindAfter_26 ?_
        refine lv_topi (fun z_11 ez_11 => ?_)
        replace hF := q_letX hF ez_11
        refine lv_goto (tgt := 33) hx hb dX6_kindAfter_27 (by decide) ?_
        refine lv_aload_n hx hb dX6_kindAfter_33 rfl (lv_at hl 0 rfl) ?_
        refine gs_X6_9_6 E hI ha dX6_kindAfter_34 ?_
        refine lv_topi (fun f_12 ef_12 => ?_)
        replace hF := q_letX hF ef_12
        have if_12 : f_12.toInt = (σ.1 a 0).toInt := congrArg Int32.toInt ef_12
        have bf_12 : -2147483648 ≤ f_12.toInt ∧ f_12.toInt ≤ 10 := by rw [ef_12]; exact q_bd hI ha rfl
        refine q_ci (q_runS (As := [.int z_11, .int f_12]) (rest := []) E (hml.trans hl.1.symm) hI (c_J9_floorMod_7cf53 l X σ z_11 f_12 (q_ne0 (by first | (clear if_1 c_2 if_5 c_6 bf_12; omega) | omega))) ks_X6_49 rfl ⟨Nat.le_of_ble_eq_true rfl, Nat.le_of_ble_eq_true rfl⟩ ⟨Nat.le_refl _, Nat.le_refl _⟩ rfl (Nat.le_of_ble_eq_true rfl) dX6_kindAfter_37) hI (by decide) (fun r_13 σ_14 H locs hpσ_14 hkσ_14 hI => ?_)
        obtain ⟨ahpσ_14, bhpσ_14⟩ := hpσ_14
        rw [ahpσ_14] at hI
        replace hF := q_letX hF bhpσ_14
        exact q_reti E hr hlk hI ⟨rfl, (hF.trans hout)⟩ dX6_kindAfter_40
    · skip
      replace hF := q_ifn hF (Int.not_lt.mpr c_4)
      refine lv_iload_n hx hb dX6_kindAfter_15 rfl (lv_at hl 1 rfl) ?_
      exact q_reti E hr hlk hI ⟨rfl, (hF.trans hout)⟩ dX6_kindAfter_16

set_option maxRecDepth 100000 in
set_option maxHeartbeats 4000000 in
theorem c_X6_playerAfter (l : Launch) (X : XW) (σ : ST) (a : Nat) (v1 : Int32) (v2 : Int32) (ha : q_kd X a = 6) : Met l yX6_playerAfter (q_ws yX6_playerAfter cX6_playerAfter 3 (some .int)) (q_rm 1 22) (q_P X σ [.ref a, .int v1, .int v2]) (q_Qi X 9 σ (fun (r : Int32) (σ' : ST) => σ' = σ ∧ r = F_X6_playerAfter X σ a v1 v2)) 0 0 (q_reg X) := by
  refine q_met 9 (by first | exact rfl | decide +kernel) rfl (Nat.le_of_ble_eq_true rfl) (fun p e s m below meth c E hml hr hlk hI ls hl => ?_)
  have hx := E.1
  have hb := E.2.1
  have hl : lv_has ls 3 [(0, .ref a), (1, .int v1), (2, .int v2)] := hl
  obtain ⟨out, hout⟩ : ∃ o, o = F_X6_playerAfter X σ a v1 v2 := ⟨_, rfl⟩
  have hF := hout.symm
  unfold F_X6_playerAfter at hF
  refine lv_aload_n hx hb dX6_playerAfter_0 rfl (lv_at hl 0 rfl) ?_
  refine gs_X6_24_6 E hI ha dX6_playerAfter_1 ?_
  refine lv_topi (fun f_1 ef_1 => ?_)
  replace hF := q_letX hF ef_1
  have if_1 : f_1.toInt = (σ.1 a 4).toInt := congrArg Int32.toInt ef_1
  refine q_if_gt (A := f_1.toInt) E rfl (tgt := 11) dX6_playerAfter_4 (by decide) (fun c_2 => ?_) (fun c_2 => ?_)
  · skip
    replace hF := q_ifp hF c_2
    refine lv_iload_n hx hb dX6_playerAfter_11 rfl (lv_at hl 1 rfl) ?_
    refine lv_iload_n hx hb dX6_playerAfter_12 rfl (lv_at hl 2 rfl) ?_
    refine lv_iadd hx hb dX6_playerAfter_13 ?_
    refine lv_topi (fun z_3 ez_3 => ?_)
    replace hF := q_letX hF ez_3
    refine lv_aload_n hx hb dX6_playerAfter_14 rfl (lv_at hl 0 rfl) ?_
    refine gs_X6_24_6 E hI ha dX6_playerAfter_15 ?_
    refine lv_topi (fun f_4 ef_4 => ?_)
    replace hF := q_letX hF ef_4
    have if_4 : f_4.toInt = (σ.1 a 4).toInt := congrArg Int32.toInt ef_4
    refine q_ci (q_runS (As := [.int z_3, .int f_4]) (rest := []) E (hml.trans hl.1.symm) hI (c_J9_floorMod_7cf53 l X σ z_3 f_4 (q_ne0 (by omega))) ks_X6_49 rfl ⟨Nat.le_of_ble_eq_true rfl, Nat.le_of_ble_eq_true rfl⟩ ⟨Nat.le_refl _, Nat.le_refl _⟩ rfl (Nat.le_of_ble_eq_true rfl) dX6_playerAfter_18) hI (by decide) (fun r_5 σ_6 H locs hpσ_6 hkσ_6 hI => ?_)
    obtain ⟨ahpσ_6, bhpσ_6⟩ := hpσ_6
    rw [ahpσ_6] at hI
    replace hF := q_letX hF bhpσ_6
    exact q_reti E hr hlk hI ⟨rfl, (hF.trans hout)⟩ dX6_playerAfter_21
  · skip
    replace hF := q_ifn hF (Int.not_lt.mpr c_2)
    refine lv_iconst (v := 0) hx hb dX6_playerAfter_7 (by decide) ?_
    refine lv_goto (tgt := 21) hx hb dX6_playerAfter_8 (by decide) ?_
    exact q_reti E hr hlk hI ⟨rfl, (hF.trans hout)⟩ dX6_playerAfter_21

set_option maxRecDepth 100000 in
set_option maxHeartbeats 4000000 in
theorem c_X6_kindAfterDoubt (l : Launch) (X : XW) (σ : ST) (a : Nat) (v1 : Int32) (ha : q_kd X a = 6) : Met l yX6_kindAfterDoubt (q_ws yX6_kindAfterDoubt cX6_kindAfterDoubt 2 (some .int)) (q_rm 1 22) (q_P X σ [.ref a, .int v1]) (q_Qi X 9 σ (fun (r : Int32) (σ' : ST) => σ' = σ ∧ r = F_X6_kindAfterDoubt X σ a v1)) 0 0 (q_reg X) := by
  refine q_met 9 (by first | exact rfl | decide +kernel) rfl (Nat.le_of_ble_eq_true rfl) (fun p e s m below meth c E hml hr hlk hI ls hl => ?_)
  have hx := E.1
  have hb := E.2.1
  have hl : lv_has ls 2 [(0, .ref a), (1, .int v1)] := hl
  obtain ⟨out, hout⟩ : ∃ o, o = F_X6_kindAfterDoubt X σ a v1 := ⟨_, rfl⟩
  have hF := hout.symm
  unfold F_X6_kindAfterDoubt at hF
  refine lv_aload_n hx hb dX6_kindAfterDoubt_0 rfl (lv_at hl 0 rfl) ?_
  refine gs_X6_9_6 E hI ha dX6_kindAfterDoubt_1 ?_
  refine lv_topi (fun f_1 ef_1 => ?_)
  replace hF := q_letX hF ef_1
  have if_1 : f_1.toInt = (σ.1 a 0).toInt := congrArg Int32.toInt ef_1
  have bf_1 : -2147483648 ≤ f_1.toInt ∧ f_1.toInt ≤ 10 := by rw [ef_1]; exact q_bd hI ha rfl
  refine q_if_gt (A := f_1.toInt) E rfl (tgt := 11) dX6_kindAfterDoubt_4 (by decide) (fun c_2 => ?_) (fun c_2 => ?_)
  · skip
    replace hF := q_ifp hF c_2
    refine lv_aload_n hx hb dX6_kindAfterDoubt_11 rfl (lv_at hl 0 rfl) ?_
    refine gs_X6_18_6 E hI ha dX6_kindAfterDoubt_12 ?_
    refine lv_topi (fun f_3 ef_3 => ?_)
    replace hF := q_letX hF ef_3
    have if_3 : f_3.toInt = (σ.1 a 2).toInt := congrArg Int32.toInt ef_3
    refine lv_iconst (v := 1) hx hb dX6_kindAfterDoubt_15 (by decide) ?_
    refine q_icmp_ne (A := f_3.toInt) (B := 1) E rfl (by decide) (tgt := 25) dX6_kindAfterDoubt_16 (by decide) (fun c_4 => ?_) (fun c_4 => ?_)
    · skip
      replace hF := q_ifn hF c_4
      refine lv_iload_n hx hb dX6_kindAfterDoubt_25 rfl (lv_at hl 1 rfl) ?_
      refine lv_iconst (v := 1) hx hb dX6_kindAfterDoubt_26 (by decide) ?_
      refine lv_iadd hx hb dX6_kindAfterDoubt_27 ?_
      refine lv_topi (fun z_5 ez_5 => ?_)
      replace hF := q_letX hF ez_5
      refine lv_aload_n hx hb dX6_kindAfterDoubt_28 rfl (lv_at hl 0 rfl) ?_
      refine gs_X6_9_6 E hI ha dX6_kindAfterDoubt_29 ?_
      refine lv_topi (fun f_6 ef_6 => ?_)
      replace hF := q_letX hF ef_6
      have if_6 : f_6.toInt = (σ.1 a 0).toInt := congrArg Int32.toInt ef_6
      have bf_6 : -2147483648 ≤ f_6.toInt ∧ f_6.toInt ≤ 10 := by rw [ef_6]; exact q_bd hI ha rfl
      refine q_ci (q_runS (As := [.int z_5, .int f_6]) (rest := []) E (hml.trans hl.1.symm) hI (c_J9_floorMod_7cf53 l X σ z_5 f_6 (q_ne0 (by first | (clear if_3 c_4 bf_6; omega) | omega))) ks_X6_49 rfl ⟨Nat.le_of_ble_eq_true rfl, Nat.le_of_ble_eq_true rfl⟩ ⟨Nat.le_refl _, Nat.le_refl _⟩ rfl (Nat.le_of_ble_eq_true rfl) dX6_kindAfterDoubt_32) hI (by decide) (fun r_7 σ_8 H locs hpσ_8 hkσ_8 hI => ?_)
      obtain ⟨ahpσ_8, bhpσ_8⟩ := hpσ_8
      rw [ahpσ_8] at hI
      replace hF := q_letX hF bhpσ_8
      exact q_reti E hr hlk hI ⟨rfl, (hF.trans hout)⟩ dX6_kindAfterDoubt_35
    · skip
      replace hF := q_ifp hF c_4
      refine lv_iload_n hx hb dX6_kindAfterDoubt_19 rfl (lv_at hl 1 rfl) ?_
      refine lv_iconst (v := 1) hx hb dX6_kindAfterDoubt_20 (by decide) ?_
      refine lv_isub hx hb dX6_kindAfterDoubt_21 ?_
      refine lv_topi (fun z_9 ez_9 => ?_)
      replace hF := q_letX hF ez_9
      refine lv_goto (tgt := 28) hx hb dX6_kindAfterDoubt_22 (by decide) ?_
      refine lv_aload_n hx hb dX6_kindAfterDoubt_28 rfl (lv_at hl 0 rfl) ?_
      refine gs_X6_9_6 E hI ha dX6_kindAfterDoubt_29 ?_
      refine lv_topi (fun f_10 ef_10 => ?_)
      replace hF := q_letX hF ef_10
      have if_10 : f_10.toInt = (σ.1 a 0).toInt := congrArg Int32.toInt ef_10
      have bf_10 : -2147483648 ≤ f_10.toInt ∧ f_10.toInt ≤ 10 := by rw [ef_10]; exact q_bd hI ha rfl
      refine q_ci (q_runS (As := [.int z_9, .int f_10]) (rest := []) E (hml.trans hl.1.symm) hI (c_J9_floorMod_7cf53 l X σ z_9 f_10 (q_ne0 (by first | (clear if_3 c_4 bf_10; omega) | omega))) ks_X6_49 rfl ⟨Nat.le_of_ble_eq_true rfl, Nat.le_of_ble_eq_true rfl⟩ ⟨Nat.le_refl _, Nat.le_refl _⟩ rfl (Nat.le_of_ble_eq_true rfl) dX6_kindAfterDoubt_32) hI (by decide) (fun r_11 σ_12 H locs hpσ_12 hkσ_12 hI => ?_)
      obtain ⟨ahpσ_12, bhpσ_12⟩ := hpσ_12
      rw [ahpσ_12] at hI
      replace hF := q_letX hF bhpσ_12
      exact q_reti E hr hlk hI ⟨rfl, (hF.trans hout)⟩ dX6_kindAfterDoubt_35
  · skip
    replace hF := q_ifn hF (Int.not_lt.mpr c_2)
    refine lv_iload_n hx hb dX6_kindAfterDoubt_7 rfl (lv_at hl 1 rfl) ?_
    refine lv_goto (tgt := 35) hx hb dX6_kindAfterDoubt_8 (by decide) ?_
    exact q_reti E hr hlk hI ⟨rfl, (hF.trans hout)⟩ dX6_kindAfterDoubt_35
