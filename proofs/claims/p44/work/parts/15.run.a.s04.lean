section
set_option maxRecDepth 100000 in
set_option maxHeartbeats 4000000 in
theorem c_X7_firstDoubter (l : Launch) (X : XW) (σ : ST) (a : Nat) (r1 : Nat) (ha : q_kd X a = 7) (hr1 : q_kd X r1 = 1) : Met l yX7_firstDoubter (q_ws yX7_firstDoubter cX7_firstDoubter 4 (some .int)) (q_rm 3 65) (q_P X σ [.ref a, .ref r1]) (q_Qi X 8 σ (fun (r : Int32) (σ' : ST) => (r, σ') = F_X7_firstDoubter X σ a r1 ∧ q_ow [(7, 6)] [] X σ σ')) 0 0 (q_reg X) := by
  refine q_met 8 (by first | exact rfl | decide +kernel) rfl (Nat.le_of_ble_eq_true rfl) (fun p e s m below meth c E hml hr hlk hI ls hl => ?_)
  have hx := E.1
  have hb := E.2.1
  have hl : lv_has ls 4 [(0, .ref a), (1, .ref r1)] := hl
  have fr_σ : q_ow [(7, 6)] [] X σ σ := q_ow.rf
  obtain ⟨out, hout⟩ : ∃ o, o = F_X7_firstDoubter X σ a r1 := ⟨_, rfl⟩
  have hF := hout.symm
  unfold F_X7_firstDoubter at hF
  refine lv_iconst (v := 1) hx hb dX7_firstDoubter_0 (by decide) ?_
  refine lv_istore_n (lv' := [(2, .int 1), (0, .ref a), (1, .ref r1)]) hx hb dX7_firstDoubter_1 rfl hl (by decide) rfl (fun ls hl => ?_)
  have L_2_3 : ∀ (k_3 : Nat) (x_1 : Int32) (σ_2 : ST) (H : Heap) (locs : List Loc) (ls : Array Slot), (2147483647 - x_1.toInt).toNat < k_3 → (0 ≤ x_1.toInt) → (q_ow [(7, 6)] [] X σ σ_2) → (F_X7_firstDoubter_L2_1 X r1 a k_3 x_1 σ_2 = out) → q_I X 8 σ s.heap locs σ_2 H → lv_has ls 4 [(0, .ref a), (1, .ref r1), (2, .int x_1)] → W p l e (q_rm 3 65) s m ([.ref a, .ref r1] : List Value).toArray below meth c H locs 0 0 (MQ below (q_Qi X 8 σ (fun (r : Int32) (σ' : ST) => (r, σ') = F_X7_firstDoubter X σ a r1 ∧ q_ow [(7, 6)] [] X σ σ')) ([.ref a, .ref r1] : List Value).toArray s 0 0 (q_reg X)) (F0 m 2 ls []) := by
    clear hF
    intro k_3
    induction k_3 with
    | zero =>
      intro x_1 σ_2 H locs ls hms
      exact absurd hms (Nat.not_lt_zero _)
    | succ k_3 ih2 =>
      intro x_1 σ_2 H locs ls hm2 hge2 fr_σ_2 hF hI hl
      replace hF := (F_X7_firstDoubter_L2_1_s).symm.trans hF
      unfold F_X7_firstDoubter_B2_1 at hF
      refine lv_iload_n hx hb dX7_firstDoubter_2 rfl (lv_at hl 2 rfl) ?_
      refine lv_aload_n hx hb dX7_firstDoubter_3 rfl (lv_at hl 1 rfl) ?_
      refine gs_X7_129_1 E hI hr1 dX7_firstDoubter_4 ?_
      refine gs_X7_133_6 E hI (q_tk (k' := 6) hI hr1 rfl (by decide)) dX7_firstDoubter_7 ?_
      refine lv_topi (fun f_4 ef_4 => ?_)
      replace hF := q_letX hF ef_4
      have gc_5_x_1 := q_rng x_1
      have gc_5_f_4 := q_rng f_4
      refine q_icmp_ge (A := x_1.toInt) (B := f_4.toInt) E rfl rfl (tgt := 60) dX7_firstDoubter_10 (by decide) (fun c_5 => ?_) (fun c_5 => ?_)
      · skip
        replace hF := q_ifn hF (Int.not_lt.mpr c_5)
        skip
        refine lv_iconst (v := (-1)) hx hb dX7_firstDoubter_60 (by decide) ?_
        exact q_reti E hr hlk hI ⟨(hF.trans hout), fr_σ_2⟩ dX7_firstDoubter_61
      · skip
        replace hF := q_ifp hF c_5
        refine lv_aload_n hx hb dX7_firstDoubter_13 rfl (lv_at hl 1 rfl) ?_
        refine gs_X7_129_1 E hI hr1 dX7_firstDoubter_14 ?_
        refine lv_aload_n hx hb dX7_firstDoubter_17 rfl (lv_at hl 1 rfl) ?_
        refine gs_X7_138_1 E hI hr1 dX7_firstDoubter_18 ?_
        refine lv_topi (fun f_6 ef_6 => ?_)
        replace hF := q_letX hF ef_6
        refine lv_iload_n hx hb dX7_firstDoubter_21 rfl (lv_at hl 2 rfl) ?_
        refine q_ci (q_runV (As := [.int f_6, .int x_1]) (rest := []) E (hml.trans hl.1.symm) hI (c_X6_playerAfter l X σ_2 (q_rf X r1 0) f_6 x_1 (q_tk (k' := 6) hI hr1 rfl (by decide))) kv_X7_188 (q_tk (k' := 6) hI hr1 rfl (by decide)) ⟨rfl, by decide⟩ (show vwCl[5]? = some (RX6, TX6, 8) from rfl) rfl ⟨Nat.le_of_ble_eq_true rfl, Nat.le_of_ble_eq_true rfl⟩ ⟨Nat.le_refl _, Nat.le_refl _⟩ rfl (Nat.le_of_ble_eq_true rfl) dX7_firstDoubter_22) hI (by decide) (fun r_7 σ_8 H locs hpσ_8 hkσ_8 hI => ?_)
        obtain ⟨ahpσ_8, bhpσ_8⟩ := hpσ_8
        rw [ahpσ_8] at hI
        replace hF := q_letX hF bhpσ_8
        refine lv_istore_n (lv' := [(3, .int r_7), (0, .ref a), (1, .ref r1), (2, .int x_1)]) hx hb dX7_firstDoubter_25 rfl hl (by decide) rfl (fun ls hl => ?_)
        refine lv_aload_n hx hb dX7_firstDoubter_26 rfl (lv_at hl 2 rfl) ?_
        refine lv_iload_n hx hb dX7_firstDoubter_27 rfl (lv_at hl 0 rfl) ?_
        refine q_ci (q_runV (As := [.int r_7]) (rest := []) E (hml.trans hl.1.symm) hI (c_X0_isImpossibleFor l X σ_2 r1 r_7 hr1) kv_X7_191 hr1 ⟨rfl, by decide⟩ (show vwCl[0]? = some (RX0, TX0, 15) from rfl) rfl ⟨Nat.le_of_ble_eq_true rfl, Nat.le_of_ble_eq_true rfl⟩ ⟨Nat.le_refl _, Nat.le_refl _⟩ rfl (Nat.le_of_ble_eq_true rfl) dX7_firstDoubter_28) hI (by decide) (fun r_9 σ_10 H locs hpσ_10 hkσ_10 hI => ?_)
        obtain ⟨ahpσ_10, bhpσ_10, chpσ_10⟩ := hpσ_10
        rw [ahpσ_10] at hI
        replace hF := q_letX hF chpσ_10
        refine q_if_ne (A := r_9.toInt) E rfl (tgt := 52) dX7_firstDoubter_31 (by decide) (fun c_11 => ?_) (fun c_11 => ?_)
        · skip
          replace hF := q_ifn hF c_11
          skip
          refine lv_iload_n hx hb dX7_firstDoubter_52 rfl (lv_at hl 0 rfl) ?_
          exact q_reti E hr hlk hI ⟨(hF.trans hout), fr_σ_2⟩ dX7_firstDoubter_53
        · skip
          replace hF := q_ifp hF c_11
          refine lv_aload_n hx hb dX7_firstDoubter_34 rfl (lv_at hl 1 rfl) ?_
          refine q_ci (q_runV (As := []) (rest := []) E (hml.trans hl.1.symm) hI (c_X7_draw l X σ_2 a ha) kv_X7_179 ha ⟨rfl, by decide⟩ (show vwCl[6]? = some (RX7, TX7, 8) from rfl) rfl ⟨Nat.le_of_ble_eq_true rfl, Nat.le_of_ble_eq_true rfl⟩ ⟨Nat.le_refl _, Nat.le_refl _⟩ rfl (Nat.le_of_ble_eq_true rfl) dX7_firstDoubter_35) hI (by decide) (fun r_12 σ_13 H locs hpσ_13 hkσ_13 hI => ?_)
          obtain ⟨ahpσ_13, bhpσ_13⟩ := hpσ_13
          have fr_σ_13 := fr_σ_2.call bhpσ_13 rfl rfl
          replace hF := q_biX hF ahpσ_13
          refine lv_aload_n hx hb dX7_firstDoubter_38 rfl (lv_at hl 2 rfl) ?_
          refine gs_X7_77_1 E hI hr1 dX7_firstDoubter_39 ?_
          refine gs_X7_99_2 E hI (q_tk (k' := 2) hI hr1 rfl (by decide)) dX7_firstDoubter_42 ?_
          refine lv_iload_n hx hb dX7_firstDoubter_45 rfl (lv_at hl 0 rfl) ?_
          refine q_ci (q_runV (As := [.int r_7]) (rest := [.int r_12]) E (hml.trans hl.1.symm) hI (c_X5_get l X σ_13 (q_rf X (q_rf X r1 1) 4) r_7 (q_tk (k' := 5) hI (q_tk (k' := 2) hI hr1 rfl (by decide)) rfl (by decide))) kv_X7_58 (q_tk (k' := 5) hI (q_tk (k' := 2) hI hr1 rfl (by decide)) rfl (by decide)) ⟨rfl, by decide⟩ (show vwCl[4]? = some (RX5, TX5, 1) from rfl) rfl ⟨Nat.le_of_ble_eq_true rfl, Nat.le_of_ble_eq_true rfl⟩ ⟨Nat.le_refl _, Nat.le_refl _⟩ rfl (Nat.le_of_ble_eq_true rfl) dX7_firstDoubter_46) hI (by decide) (fun r_14 σ_15 H locs hpσ_15 hkσ_15 hI => ?_)
          obtain ⟨ahpσ_15, bhpσ_15⟩ := hpσ_15
          rw [ahpσ_15] at hI
          replace hF := q_letX hF bhpσ_15
          have gc_16_r_12 := q_rng r_12
          have gc_16_r_14 := q_rng r_14
          refine q_icmp_ge (A := r_12.toInt) (B := r_14.toInt) E rfl rfl (tgt := 54) dX7_firstDoubter_49 (by decide) (fun c_16 => ?_) (fun c_16 => ?_)
          · skip
            replace hF := q_ifn hF (Int.not_lt.mpr c_16)
            obtain ⟨z_17, ez_17⟩ : ∃ y : Int32, y = x_1 + 1 := ⟨_, rfl⟩
            replace hF := q_letX hF ez_17
            refine lv_iinc (v := z_17) (lv' := [(2, .int z_17), (3, .int r_7), (0, .ref a), (1, .ref r1)]) hx hb dX7_firstDoubter_54 hl (k := 3) rfl (by rw [ez_17]; rfl) (by decide) rfl (fun ls hl => ?_)
            have iz_17 : z_17.toInt = x_1.toInt + 1 := q_inc ez_17 (by omega)
            refine lv_goto (tgt := 2) hx hb dX7_firstDoubter_57 (by decide) ?_
            exact ih2 z_17 σ_13 _ _ ls (by omega) (by omega) fr_σ_13 hF hI (lv_sub hl [2, 3, 0] rfl)
          · skip
            replace hF := q_ifp hF c_16
            skip
            refine lv_iload_n hx hb dX7_firstDoubter_52 rfl (lv_at hl 0 rfl) ?_
            exact q_reti E hr hlk hI ⟨(hF.trans hout), fr_σ_13⟩ dX7_firstDoubter_53
  exact L_2_3 ((2147483647 - (1 : Int32).toInt).toNat + 1) 1 σ _ _ ls (Nat.lt_succ_self _) (by decide) fr_σ hF hI (lv_sub hl [1, 2, 0] rfl)
end
