section
set_option maxRecDepth 100000 in
set_option maxHeartbeats 4000000 in
theorem c_X7_go (l : Launch) (X : XW) (σ : ST) (a : Nat) (r1 : Nat) (v2 : Int32) (ha : q_kd X a = 7) (hr1 : q_kd X r1 = 1) : Met l yX7_go (q_ws yX7_go cX7_go 6 none) (q_rm 6 141) (q_P X σ [.ref a, .ref r1, .int v2]) (q_Qv X 8 σ (fun (σ' : ST) => σ' = F_X7_go X σ a r1 v2 ∧ q_ow [(1, 4), (1, 5), (1, 6), (1, 7), (1, 9), (3, 0), (3, 1), (7, 0), (7, 1), (7, 2), (7, 3), (7, 4), (7, 5), (7, 6), (20, 99)] [] X σ σ')) 0 0 (q_reg X) := by
  refine q_met 8 (by first | exact rfl | decide +kernel) rfl (Nat.le_of_ble_eq_true rfl) (fun p e s m below meth c E hml hr hlk hI ls hl => ?_)
  have hx := E.1
  have hb := E.2.1
  have hl : lv_has ls 6 [(0, .ref a), (1, .ref r1), (2, .int v2)] := hl
  have fr_σ : q_ow [(1, 4), (1, 5), (1, 6), (1, 7), (1, 9), (3, 0), (3, 1), (7, 0), (7, 1), (7, 2), (7, 3), (7, 4), (7, 5), (7, 6), (20, 99)] [] X σ σ := q_ow.rf
  obtain ⟨out, hout⟩ : ∃ o, o = F_X7_go X σ a r1 v2 := ⟨_, rfl⟩
  have hF := hout.symm
  unfold F_X7_go at hF
  refine lv_aload_n hx hb dX7_go_0 rfl (lv_at hl 0 rfl) ?_
  refine lv_iconst (v := 0) hx hb dX7_go_1 (by decide) ?_
  refine ps_X7_9_7 E hI ha (by decide) dX7_go_2 (fun H locs σ_1 hσ_1 hI => ?_)
  replace hF := q_letX hF hσ_1
  have fr_σ_1 := fr_σ.si hσ_1 ha rfl
  refine lv_aload_n hx hb dX7_go_5 rfl (lv_at hl 0 rfl) ?_
  refine lv_iconst (v := 0) hx hb dX7_go_6 (by decide) ?_
  refine ps_X7_15_7 E hI ha (by decide) dX7_go_7 (fun H locs σ_2 hσ_2 hI => ?_)
  replace hF := q_letX hF hσ_2
  have fr_σ_2 := fr_σ_1.si hσ_2 ha rfl
  refine lv_aload_n hx hb dX7_go_10 rfl (lv_at hl 0 rfl) ?_
  refine lv_iconst (v := 0) hx hb dX7_go_11 (by decide) ?_
  refine ps_X7_18_7 E hI ha (by decide) dX7_go_12 (fun H locs σ_3 hσ_3 hI => ?_)
  replace hF := q_letX hF hσ_3
  have fr_σ_3 := fr_σ_2.si hσ_3 ha rfl
  refine lv_aload_n hx hb dX7_go_15 rfl (lv_at hl 0 rfl) ?_
  refine lv_iconst (v := 0) hx hb dX7_go_16 (by decide) ?_
  refine ps_X7_21_7 E hI ha (by decide) dX7_go_17 (fun H locs σ_4 hσ_4 hI => ?_)
  replace hF := q_letX hF hσ_4
  have fr_σ_4 := fr_σ_3.si hσ_4 ha rfl
  refine lv_aload_n hx hb dX7_go_20 rfl (lv_at hl 0 rfl) ?_
  refine lv_iconst (v := 0) hx hb dX7_go_21 (by decide) ?_
  refine ps_X7_24_7 E hI ha (by decide) dX7_go_22 (fun H locs σ_5 hσ_5 hI => ?_)
  replace hF := q_letX hF hσ_5
  have fr_σ_5 := fr_σ_4.si hσ_5 ha rfl
  refine lv_aload_n hx hb dX7_go_25 rfl (lv_at hl 0 rfl) ?_
  refine lv_iconst (v := 0) hx hb dX7_go_26 (by decide) ?_
  refine ps_X7_27_7 E hI ha (by decide) (by decide) (by decide) dX7_go_27 (fun H locs σ_6 hσ_6 hI => ?_)
  replace hF := q_letX hF hσ_6
  have fr_σ_6 := fr_σ_5.si hσ_6 ha rfl
  refine lv_aload_n hx hb dX7_go_30 rfl (lv_at hl 0 rfl) ?_
  refine lv_iload_n hx hb dX7_go_31 rfl (lv_at hl 2 rfl) ?_
  refine ps_X7_31_7 E hI ha (by decide) dX7_go_32 (fun H locs σ_7 hσ_7 hI => ?_)
  replace hF := q_letX hF hσ_7
  have fr_σ_7 := fr_σ_6.si hσ_7 ha rfl
  refine lv_aload_n hx hb dX7_go_35 rfl (lv_at hl 1 rfl) ?_
  refine gs_X7_45_1 E hI hr1 dX7_go_36 ?_
  refine lv_astore_n (lv' := [(3, .ref (q_rf X r1 3)), (0, .ref a), (1, .ref r1), (2, .int v2)]) hx hb dX7_go_39 rfl hl (by decide) rfl (fun ls hl => ?_)
  refine lv_iconst (v := 0) hx hb dX7_go_40 (by decide) ?_
  refine lv_istore (lv' := [(4, .int 0), (3, .ref (q_rf X r1 3)), (0, .ref a), (1, .ref r1), (2, .int v2)]) hx hb dX7_go_41 hl (by decide) rfl (fun ls hl => ?_)
  refine lv_iconst (v := 0) hx hb dX7_go_43 (by decide) ?_
  refine lv_istore (lv' := [(5, .int 0), (4, .int 0), (3, .ref (q_rf X r1 3)), (0, .ref a), (1, .ref r1), (2, .int v2)]) hx hb dX7_go_44 hl (by decide) rfl (fun ls hl => ?_)
  have L_46_11 : ∀ (k_11 : Nat) (x_8 : Int32) (x_9 : Int32) (σ_10 : ST) (H : Heap) (locs : List Loc) (ls : Array Slot), (2147483647 - x_9.toInt).toNat < k_11 → (0 ≤ x_9.toInt) → (q_ow [(1, 4), (1, 5), (1, 6), (1, 7), (1, 9), (3, 0), (3, 1), (7, 0), (7, 1), (7, 2), (7, 3), (7, 4), (7, 5), (7, 6), (20, 99)] [] X σ σ_10) → (F_X7_go_L46_1 X r1 a k_11 x_8 x_9 σ_10 = out) → q_I X 8 σ s.heap locs σ_10 H → lv_has ls 6 [(0, .ref a), (1, .ref r1), (2, .int v2), (3, .ref (q_rf X r1 3)), (4, .int x_8), (5, .int x_9)] → W p l e (q_rm 6 141) s m ([.ref a, .ref r1, .int v2] : List Value).toArray below meth c H locs 0 0 (MQ below (q_Qv X 8 σ (fun (σ' : ST) => σ' = F_X7_go X σ a r1 v2 ∧ q_ow [(1, 4), (1, 5), (1, 6), (1, 7), (1, 9), (3, 0), (3, 1), (7, 0), (7, 1), (7, 2), (7, 3), (7, 4), (7, 5), (7, 6), (20, 99)] [] X σ σ')) ([.ref a, .ref r1, .int v2] : List Value).toArray s 0 0 (q_reg X)) (F0 m 46 ls []) := by
    clear hF
    intro k_11
    induction k_11 with
    | zero =>
      intro x_8 x_9 σ_10 H locs ls hms
      exact absurd hms (Nat.not_lt_zero _)
    | succ k_11 ih46 =>
      intro x_8 x_9 σ_10 H locs ls hm46 hge46 fr_σ_10 hF hI hl
      replace hF := (F_X7_go_L46_1_s).symm.trans hF
      unfold F_X7_go_B46_1 at hF
      refine lv_iload hx hb dX7_go_46 (lv_at hl 5 rfl) ?_
      refine lv_ldc (v := 1000000) hx hb E.2.2.1 (E.2.2.2.1 _ (q_in_t6 (i := 144) (by first | rfl | decide +kernel) rfl)) dX7_go_48 ?_
      have gc_12_x_9 := q_rng x_9
      refine q_icmp_ge (A := x_9.toInt) (B := 1000000) E rfl (by decide) (tgt := 138) dX7_go_50 (by decide) (fun c_12 => ?_) (fun c_12 => ?_)
      · skip
        replace hF := q_ifn hF (Int.not_lt.mpr c_12)
        skip
        exact q_retv E hr hlk hI ⟨(hF.trans hout), fr_σ_10⟩ dX7_go_138
      · skip
        replace hF := q_ifp hF c_12
        refine lv_iload hx hb dX7_go_53 (lv_at hl 4 rfl) ?_
        refine lv_aload_n hx hb dX7_go_55 rfl (lv_at hl 3 rfl) ?_
        refine gs_X7_52_8 E hI (q_tk (k' := 8) hI hr1 rfl (by decide)) dX7_go_56 ?_
        refine lv_topi (fun f_13 ef_13 => ?_)
        replace hF := q_letX hF ef_13
        have gc_14_x_8 := q_rng x_8
        have gc_14_f_13 := q_rng f_13
        refine q_icmp_ge (A := x_8.toInt) (B := f_13.toInt) E rfl rfl (tgt := 138) dX7_go_59 (by decide) (fun c_14 => ?_) (fun c_14 => ?_)
        · skip
          replace hF := q_ifn hF (Int.not_lt.mpr c_14)
          skip
          exact q_retv E hr hlk hI ⟨(hF.trans hout), fr_σ_10⟩ dX7_go_138
        · skip
          replace hF := q_ifp hF c_14
          refine lv_aload_n hx hb dX7_go_62 rfl (lv_at hl 0 rfl) ?_
          refine gs_X7_27_7 E hI ha dX7_go_63 ?_
          refine lv_topi (fun f_15 ef_15 => ?_)
          replace hF := q_letX hF ef_15
          have bf_15 : 0 ≤ f_15.toInt ∧ f_15.toInt ≤ 1 := by rw [ef_15]; exact q_bd hI ha rfl
          refine q_if_ne (A := f_15.toInt) E rfl (tgt := 138) dX7_go_66 (by decide) (fun c_16 => ?_) (fun c_16 => ?_)
          · skip
            replace hF := q_ifn hF c_16
            skip
            exact q_retv E hr hlk hI ⟨(hF.trans hout), fr_σ_10⟩ dX7_go_138
          · skip
            replace hF := q_ifp hF c_16
            refine lv_aload_n hx hb dX7_go_69 rfl (lv_at hl 3 rfl) ?_
            refine gs_X7_55_8 E hI (q_tk (k' := 8) hI hr1 rfl (by decide)) dX7_go_70 ?_
            refine lv_iload hx hb dX7_go_73 (lv_at hl 4 rfl) ?_
            refine q_ci (q_runV (As := [.int x_8]) (rest := []) E (hml.trans hl.1.symm) hI (c_X5_get l X σ_10 (q_rf X (q_rf X r1 3) 3) x_8 (q_tk (k' := 5) hI (q_tk (k' := 8) hI hr1 rfl (by decide)) rfl (by decide))) kv_X7_58 (q_tk (k' := 5) hI (q_tk (k' := 8) hI hr1 rfl (by decide)) rfl (by decide)) ⟨rfl, by decide⟩ (show vwCl[4]? = some (RX5, TX5, 1) from rfl) rfl ⟨Nat.le_of_ble_eq_true rfl, Nat.le_of_ble_eq_true rfl⟩ ⟨Nat.le_refl _, Nat.le_refl _⟩ rfl (Nat.le_of_ble_eq_true rfl) dX7_go_75) hI (by decide) (fun r_17 σ_18 H locs hpσ_18 hkσ_18 hI => ?_)
            obtain ⟨ahpσ_18, bhpσ_18⟩ := hpσ_18
            rw [ahpσ_18] at hI
            replace hF := q_letX hF bhpσ_18
            refine lv_bipush (v := 9) hx hb dX7_go_78 (by decide) ?_
            have gc_19_r_17 := q_rng r_17
            refine q_icmp_ne (A := r_17.toInt) (B := 9) E rfl (by decide) (tgt := 95) dX7_go_80 (by decide) (fun c_19 => ?_) (fun c_19 => ?_)
            · skip
              replace hF := q_ifn hF c_19
              refine lv_aload_n hx hb dX7_go_95 rfl (lv_at hl 0 rfl) ?_
              refine gs_X7_9_7 E hI ha dX7_go_96 ?_
              refine lv_topi (fun f_20 ef_20 => ?_)
              replace hF := q_letX hF ef_20
              refine lv_sipush (v := 300) hx hb dX7_go_99 (by decide) ?_
              have gc_21_f_20 := q_rng f_20
              refine q_icmp_ne (A := f_20.toInt) (B := 300) E rfl (by decide) (tgt := 113) dX7_go_102 (by decide) (fun c_21 => ?_) (fun c_21 => ?_)
              · skip
                replace hF := q_ifn hF c_21
                refine lv_aload_n hx hb dX7_go_113 rfl (lv_at hl 0 rfl) ?_
                refine lv_dup hx hb dX7_go_114 rfl ?_
                refine gs_X7_9_7 E hI ha dX7_go_115 ?_
                refine lv_topi (fun f_22 ef_22 => ?_)
                replace hF := q_letX hF ef_22
                refine lv_iconst (v := 1) hx hb dX7_go_118 (by decide) ?_
                refine lv_iadd hx hb dX7_go_119 ?_
                refine lv_topi (fun z_23 ez_23 => ?_)
                replace hF := q_letX hF ez_23
                refine ps_X7_9_7 E hI ha (by decide) dX7_go_120 (fun H locs σ_24 hσ_24 hI => ?_)
                replace hF := q_letX hF hσ_24
                have fr_σ_24 := fr_σ_10.si hσ_24 ha rfl
                refine lv_aload_n hx hb dX7_go_123 rfl (lv_at hl 0 rfl) ?_
                refine lv_aload_n hx hb dX7_go_124 rfl (lv_at hl 1 rfl) ?_
                refine lv_iload hx hb dX7_go_125 (lv_at hl 4 rfl) ?_
                refine q_ci (q_runV (As := [.ref r1, .int x_8]) (rest := []) E (hml.trans hl.1.symm) hI (c_X7_behindStep l X σ_24 a r1 x_8 ha hr1) kv_X7_66 ha ⟨rfl, by decide⟩ (show vwCl[6]? = some (RX7, TX7, 8) from rfl) rfl ⟨Nat.le_of_ble_eq_true rfl, Nat.le_of_ble_eq_true rfl⟩ ⟨Nat.le_refl _, Nat.le_refl _⟩ rfl (Nat.le_of_ble_eq_true rfl) dX7_go_127) hI (by decide) (fun r_25 σ_26 H locs hpσ_26 hkσ_26 hI => ?_)
                obtain ⟨ahpσ_26, bhpσ_26⟩ := hpσ_26
                have fr_σ_26 := fr_σ_24.call bhpσ_26 rfl rfl
                replace hF := q_biX hF ahpσ_26
                refine lv_istore (lv' := [(4, .int r_25), (0, .ref a), (1, .ref r1), (2, .int v2), (3, .ref (q_rf X r1 3)), (5, .int x_9)]) hx hb dX7_go_130 hl (by decide) rfl (fun ls hl => ?_)
                obtain ⟨z_27, ez_27⟩ : ∃ y : Int32, y = x_9 + 1 := ⟨_, rfl⟩
                replace hF := q_letX hF ez_27
                refine lv_iinc (v := z_27) (lv' := [(5, .int z_27), (4, .int r_25), (0, .ref a), (1, .ref r1), (2, .int v2), (3, .ref (q_rf X r1 3))]) hx hb dX7_go_132 hl (k := 5) rfl (by rw [ez_27]; rfl) (by decide) rfl (fun ls hl => ?_)
                have iz_27 : z_27.toInt = x_9.toInt + 1 := q_inc ez_27 (by omega)
                refine lv_goto (tgt := 46) hx hb dX7_go_135 (by decide) ?_
                exact ih46 r_25 z_27 σ_26 _ _ ls (by omega) (by omega) fr_σ_26 hF hI (lv_sub hl [2, 3, 4, 5, 1, 0] rfl)
              · skip
                replace hF := q_ifp hF c_21
                refine lv_aload_n hx hb dX7_go_105 rfl (lv_at hl 0 rfl) ?_
                refine lv_iconst (v := 1) hx hb dX7_go_106 (by decide) ?_
                refine ps_X7_27_7 E hI ha (by decide) (by decide) (by decide) dX7_go_107 (fun H locs σ_28 hσ_28 hI => ?_)
                replace hF := q_letX hF hσ_28
                have fr_σ_28 := fr_σ_10.si hσ_28 ha rfl
                refine lv_goto (tgt := 132) hx hb dX7_go_110 (by decide) ?_
                obtain ⟨z_29, ez_29⟩ : ∃ y : Int32, y = x_9 + 1 := ⟨_, rfl⟩
                replace hF := q_letX hF ez_29
                refine lv_iinc (v := z_29) (lv' := [(5, .int z_29), (0, .ref a), (1, .ref r1), (2, .int v2), (3, .ref (q_rf X r1 3)), (4, .int x_8)]) hx hb dX7_go_132 hl (k := 5) rfl (by rw [ez_29]; rfl) (by decide) rfl (fun ls hl => ?_)
                have iz_29 : z_29.toInt = x_9.toInt + 1 := q_inc ez_29 (by omega)
                refine lv_goto (tgt := 46) hx hb dX7_go_135 (by decide) ?_
                exact ih46 x_8 z_29 σ_28 _ _ ls (by omega) (by omega) fr_σ_28 hF hI (lv_sub hl [1, 2, 3, 4, 5, 0] rfl)
            · skip
              replace hF := q_ifp hF c_19
              refine lv_aload_n hx hb dX7_go_83 rfl (lv_at hl 0 rfl) ?_
              refine lv_aload_n hx hb dX7_go_84 rfl (lv_at hl 3 rfl) ?_
              refine lv_iload hx hb dX7_go_85 (lv_at hl 4 rfl) ?_
              refine q_ci (q_runV (As := [.ref (q_rf X r1 3), .int x_8]) (rest := []) E (hml.trans hl.1.symm) hI (c_X7_behindEnd l X σ_10 a (q_rf X r1 3) x_8 ha (q_tk (k' := 8) hI hr1 rfl (by decide))) kv_X7_62 ha ⟨rfl, by decide⟩ (show vwCl[6]? = some (RX7, TX7, 8) from rfl) rfl ⟨Nat.le_of_ble_eq_true rfl, Nat.le_of_ble_eq_true rfl⟩ ⟨Nat.le_refl _, Nat.le_refl _⟩ rfl (Nat.le_of_ble_eq_true rfl) dX7_go_87) hI (by decide) (fun r_30 σ_31 H locs hpσ_31 hkσ_31 hI => ?_)
              obtain ⟨ahpσ_31, bhpσ_31⟩ := hpσ_31
              have fr_σ_31 := fr_σ_10.call bhpσ_31 rfl rfl
              replace hF := q_biX hF ahpσ_31
              refine lv_istore (lv' := [(4, .int r_30), (0, .ref a), (1, .ref r1), (2, .int v2), (3, .ref (q_rf X r1 3)), (5, .int x_9)]) hx hb dX7_go_90 hl (by decide) rfl (fun ls hl => ?_)
              refine lv_goto (tgt := 132) hx hb dX7_go_92 (by decide) ?_
              obtain ⟨z_32, ez_32⟩ : ∃ y : Int32, y = x_9 + 1 := ⟨_, rfl⟩
              replace hF := q_letX hF ez_32
              refine lv_iinc (v := z_32) (lv' := [(5, .int z_32), (4, .int r_30), (0, .ref a), (1, .ref r1), (2, .int v2), (3, .ref (q_rf X r1 3))]) hx hb dX7_go_132 hl (k := 5) rfl (by rw [ez_32]; rfl) (by decide) rfl (fun ls hl => ?_)
              have iz_32 : z_32.toInt = x_9.toInt + 1 := q_inc ez_32 (by omega)
              refine lv_goto (tgt := 46) hx hb dX7_go_135 (by decide) ?_
              exact ih46 r_30 z_32 σ_31 _ _ ls (by omega) (by omega) fr_σ_31 hF hI (lv_sub hl [2, 3, 4, 5, 1, 0] rfl)
  exact L_46_11 ((2147483647 - (0 : Int32).toInt).toNat + 1) 0 0 σ_7 _ _ ls (Nat.lt_succ_self _) (by decide) fr_σ_7 hF hI (lv_sub hl [3, 4, 5, 2, 1, 0] rfl)
end
