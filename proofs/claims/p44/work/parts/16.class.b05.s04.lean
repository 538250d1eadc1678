section
set_option maxRecDepth 100000 in
set_option maxHeartbeats 4000000 in
theorem c_X11_liar (l : Launch) (X : XW) (σ : ST) (a : Nat) (ha : q_kd X a = 11) : Met l yX11_liar (q_ws yX11_liar cX11_liar 4 (some .int)) (q_rm 2 42) (q_P X σ [.ref a]) (q_Qi X 8 σ (fun (r : Int32) (σ' : ST) => (r, σ') = F_X11_liar X σ a ∧ q_ow [(11, 0)] [] X σ σ')) 0 0 (q_reg X) := by
  refine q_met 8 (by first | exact rfl | decide +kernel) rfl (Nat.le_of_ble_eq_true rfl) (fun p e s m below meth c E hml hr hlk hI ls hl => ?_)
  have hx := E.1
  have hb := E.2.1
  have hl : lv_has ls 4 [(0, .ref a)] := hl
  have fr_σ : q_ow [(11, 0)] [] X σ σ := q_ow.rf
  obtain ⟨out, hout⟩ : ∃ o, o = F_X11_liar X σ a := ⟨_, rfl⟩
  have hF := hout.symm
  unfold F_X11_liar at hF
  refine lv_aload_n hx hb dX11_liar_0 rfl (lv_at hl 0 rfl) ?_
  refine gs_X11_42_11 E hI ha dX11_liar_1 ?_
  refine gs_X11_222_1 E hI (q_tk (k' := 1) hI ha rfl (by decide)) dX11_liar_4 ?_
  refine lv_astore_n (lv' := [(1, .ref (q_rf X (q_rf X a 8) 1)), (0, .ref a)]) hx hb dX11_liar_7 rfl hl (by decide) rfl (fun ls hl => ?_)
  refine lv_aload_n hx hb dX11_liar_8 rfl (lv_at hl 1 rfl) ?_
  refine gs_X11_42_11 E hI ha dX11_liar_9 ?_
  refine gs_X11_147_1 E hI (q_tk (k' := 1) hI ha rfl (by decide)) dX11_liar_12 ?_
  refine gs_X11_151_6 E hI (q_tk (k' := 6) hI (q_tk (k' := 1) hI ha rfl (by decide)) rfl (by decide)) dX11_liar_15 ?_
  refine lv_topi (fun f_1 ef_1 => ?_)
  replace hF := q_letX hF ef_1
  refine q_if_ne (A := f_1.toInt) E rfl (tgt := 25) dX11_liar_18 (by decide) (fun c_2 => ?_) (fun c_2 => ?_)
  · skip
    replace hF := q_ifn hF c_2
    refine lv_iconst (v := 0) hx hb dX11_liar_25 (by decide) ?_
    refine lv_istore_n (lv' := [(2, .int 0), (1, .ref (q_rf X (q_rf X a 8) 1)), (0, .ref a)]) hx hb dX11_liar_26 rfl hl (by decide) rfl (fun ls hl => ?_)
    refine lv_iconst (v := 1) hx hb dX11_liar_27 (by decide) ?_
    refine lv_istore_n (lv' := [(3, .int 1), (2, .int 0), (1, .ref (q_rf X (q_rf X a 8) 1)), (0, .ref a)]) hx hb dX11_liar_28 rfl hl (by decide) rfl (fun ls hl => ?_)
    have L_29_5 : ∀ (k_5 : Nat) (x_3 : Int32) (x_4 : Int32) (H : Heap) (locs : List Loc) (ls : Array Slot), (2147483647 - x_4.toInt).toNat < k_5 → (0 ≤ x_4.toInt) → (F_X11_liar_L29_1 X σ a k_5 x_3 x_4 = out) → q_I X 8 σ s.heap locs σ H → lv_has ls 4 [(0, .ref a), (1, .ref (q_rf X (q_rf X a 8) 1)), (2, .int x_3), (3, .int x_4)] → W p l e (q_rm 2 42) s m ([.ref a] : List Value).toArray below meth c H locs 0 0 (MQ below (q_Qi X 8 σ (fun (r : Int32) (σ' : ST) => (r, σ') = F_X11_liar X σ a ∧ q_ow [(11, 0)] [] X σ σ')) ([.ref a] : List Value).toArray s 0 0 (q_reg X)) (F0 m 29 ls []) := by
      clear hF
      intro k_5
      induction k_5 with
      | zero =>
        intro x_3 x_4 H locs ls hms
        exact absurd hms (Nat.not_lt_zero _)
      | succ k_5 ih29 =>
        intro x_3 x_4 H locs ls hm29 hge29 hF hI hl
        replace hF := (F_X11_liar_L29_1_s).symm.trans hF
        unfold F_X11_liar_B29_1 at hF
        refine lv_iload_n hx hb dX11_liar_29 rfl (lv_at hl 3 rfl) ?_
        refine lv_aload_n hx hb dX11_liar_30 rfl (lv_at hl 0 rfl) ?_
        refine gs_X11_42_11 E hI ha dX11_liar_31 ?_
        refine gs_X11_147_1 E hI (q_tk (k' := 1) hI ha rfl (by decide)) dX11_liar_34 ?_
        refine gs_X11_151_6 E hI (q_tk (k' := 6) hI (q_tk (k' := 1) hI ha rfl (by decide)) rfl (by decide)) dX11_liar_37 ?_
        refine lv_topi (fun f_6 ef_6 => ?_)
        replace hF := q_letX hF ef_6
        have gc_7_x_4 := q_rng x_4
        have gc_7_f_6 := q_rng f_6
        refine q_icmp_ge (A := x_4.toInt) (B := f_6.toInt) E rfl rfl (tgt := 77) dX11_liar_40 (by decide) (fun c_7 => ?_) (fun c_7 => ?_)
        · skip
          replace hF := q_ifn hF (Int.not_lt.mpr c_7)
          unfold F_X11_liar_E77_2 at hF
          refine lv_aload_n hx hb dX11_liar_77 rfl (lv_at hl 0 rfl) ?_
          refine lv_iload_n hx hb dX11_liar_78 rfl (lv_at hl 2 rfl) ?_
          refine q_ci (q_runV (As := [.int x_3]) (rest := []) E (hml.trans hl.1.symm) hI (c_X11_goodOrNotThere l X σ a x_3 ha) kv_X11_366 ha ⟨rfl, by decide⟩ (show vwCl[10]? = some (RX11, TX11, 17) from rfl) rfl ⟨Nat.le_of_ble_eq_true rfl, Nat.le_of_ble_eq_true rfl⟩ ⟨Nat.le_refl _, Nat.le_refl _⟩ rfl (Nat.le_of_ble_eq_true rfl) dX11_liar_79) hI (by decide) (fun r_8 σ_9 H locs hpσ_9 hkσ_9 hI => ?_)
          obtain ⟨ahpσ_9, bhpσ_9⟩ := hpσ_9
          have fr_σ_9 := fr_σ.call bhpσ_9 rfl rfl
          replace hF := q_biX hF ahpσ_9
          exact q_reti E hr hlk hI ⟨(hF.trans hout), fr_σ_9⟩ dX11_liar_82
        · skip
          replace hF := q_ifp hF c_7
          refine lv_aload_n hx hb dX11_liar_43 rfl (lv_at hl 1 rfl) ?_
          refine lv_iload_n hx hb dX11_liar_44 rfl (lv_at hl 3 rfl) ?_
          refine q_cl_ (q_runV (As := [.int x_4]) (rest := []) E (hml.trans hl.1.symm) hI (c_X1_honestTop l X σ (q_rf X (q_rf X a 8) 1) x_4 (q_tk (k' := 2) hI (q_tk (k' := 1) hI ha rfl (by decide)) rfl (by decide))) kv_X11_330 (q_tk (k' := 2) hI (q_tk (k' := 1) hI ha rfl (by decide)) rfl (by decide)) ⟨rfl, by decide⟩ (show vwCl[1]? = some (RX1, TX1, 7) from rfl) rfl ⟨Nat.le_of_ble_eq_true rfl, Nat.le_of_ble_eq_true rfl⟩ ⟨Nat.le_refl _, Nat.le_refl _⟩ rfl (Nat.le_of_ble_eq_true rfl) dX11_liar_45) hI (by decide) (fun r_10 σ_11 H locs hpσ_11 hkσ_11 hI => ?_)
          obtain ⟨ahpσ_11, bhpσ_11⟩ := hpσ_11
          rw [ahpσ_11] at hI
          replace hF := q_letX hF bhpσ_11
          refine lv_aload_n hx hb dX11_liar_48 rfl (lv_at hl 1 rfl) ?_
          refine lv_iload_n hx hb dX11_liar_49 rfl (lv_at hl 2 rfl) ?_
          refine q_cl_ (q_runV (As := [.int x_3]) (rest := [.long r_10]) E (hml.trans hl.1.symm) hI (c_X1_honestBottom l X σ (q_rf X (q_rf X a 8) 1) x_3 (q_tk (k' := 2) hI (q_tk (k' := 1) hI ha rfl (by decide)) rfl (by decide))) kv_X11_333 (q_tk (k' := 2) hI (q_tk (k' := 1) hI ha rfl (by decide)) rfl (by decide)) ⟨rfl, by decide⟩ (show vwCl[1]? = some (RX1, TX1, 7) from rfl) rfl ⟨Nat.le_of_ble_eq_true rfl, Nat.le_of_ble_eq_true rfl⟩ ⟨Nat.le_refl _, Nat.le_refl _⟩ rfl (Nat.le_of_ble_eq_true rfl) dX11_liar_50) hI (by decide) (fun r_12 σ_13 H locs hpσ_13 hkσ_13 hI => ?_)
          obtain ⟨ahpσ_13, bhpσ_13⟩ := hpσ_13
          rw [ahpσ_13] at hI
          replace hF := q_letX hF bhpσ_13
          refine lv_lmul hx hb dX11_liar_53 ?_
          refine lv_topl (fun y_14 ey_14 => ?_)
          replace hF := q_letX hF ey_14
          refine lv_aload_n hx hb dX11_liar_54 rfl (lv_at hl 1 rfl) ?_
          refine lv_iload_n hx hb dX11_liar_55 rfl (lv_at hl 2 rfl) ?_
          refine q_cl_ (q_runV (As := [.int x_3]) (rest := [.long y_14]) E (hml.trans hl.1.symm) hI (c_X1_honestTop l X σ (q_rf X (q_rf X a 8) 1) x_3 (q_tk (k' := 2) hI (q_tk (k' := 1) hI ha rfl (by decide)) rfl (by decide))) kv_X11_330 (q_tk (k' := 2) hI (q_tk (k' := 1) hI ha rfl (by decide)) rfl (by decide)) ⟨rfl, by decide⟩ (show vwCl[1]? = some (RX1, TX1, 7) from rfl) rfl ⟨Nat.le_of_ble_eq_true rfl, Nat.le_of_ble_eq_true rfl⟩ ⟨Nat.le_refl _, Nat.le_refl _⟩ rfl (Nat.le_of_ble_eq_true rfl) dX11_liar_56) hI (by decide) (fun r_15 σ_16 H locs hpσ_16 hkσ_16 hI => ?_)
          obtain ⟨ahpσ_16, bhpσ_16⟩ := hpσ_16
          rw [ahpσ_16] at hI
          replace hF := q_letX hF bhpσ_16
          refine lv_aload_n hx hb dX11_liar_59 rfl (lv_at hl 1 rfl) ?_
          refine lv_iload_n hx hb dX11_liar_60 rfl (lv_at hl 3 rfl) ?_
          refine q_cl_ (q_runV (As := [.int x_4]) (rest := [.long r_15, .long y_14]) E (hml.trans hl.1.symm) hI (c_X1_honestBottom l X σ (q_rf X (q_rf X a 8) 1) x_4 (q_tk (k' := 2) hI (q_tk (k' := 1) hI ha rfl (by decide)) rfl (by decide))) kv_X11_333 (q_tk (k' := 2) hI (q_tk (k' := 1) hI ha rfl (by decide)) rfl (by decide)) ⟨rfl, by decide⟩ (show vwCl[1]? = some (RX1, TX1, 7) from rfl) rfl ⟨Nat.le_of_ble_eq_true rfl, Nat.le_of_ble_eq_true rfl⟩ ⟨Nat.le_refl _, Nat.le_refl _⟩ rfl (Nat.le_of_ble_eq_true rfl) dX11_liar_61) hI (by decide) (fun r_17 σ_18 H locs hpσ_18 hkσ_18 hI => ?_)
          obtain ⟨ahpσ_18, bhpσ_18⟩ := hpσ_18
          rw [ahpσ_18] at hI
          replace hF := q_letX hF bhpσ_18
          refine lv_lmul hx hb dX11_liar_64 ?_
          refine lv_topl (fun y_19 ey_19 => ?_)
          replace hF := q_letX hF ey_19
          refine q_lcmpX E dX11_liar_65 (fun z_20 ez_20 hz_20 => ?_)
          replace hF := q_letX hF ez_20
          refine q_if_ge (A := z_20.toInt) E rfl (tgt := 71) dX11_liar_66 (by decide) (fun c_21 => ?_) (fun c_21 => ?_)
          · skip
            replace hF := q_ifn hF (Int.not_lt.mpr c_21)
            obtain ⟨z_22, ez_22⟩ : ∃ y : Int32, y = x_4 + 1 := ⟨_, rfl⟩
            replace hF := q_letX hF ez_22
            refine lv_iinc (v := z_22) (lv' := [(3, .int z_22), (0, .ref a), (1, .ref (q_rf X (q_rf X a 8) 1)), (2, .int x_3)]) hx hb dX11_liar_71 hl (k := 3) rfl (by rw [ez_22]; rfl) (by decide) rfl (fun ls hl => ?_)
            have iz_22 : z_22.toInt = x_4.toInt + 1 := q_inc ez_22 (by omega)
            refine lv_goto (tgt := 29) hx hb dX11_liar_74 (by decide) ?_
            exact ih29 x_3 z_22 _ _ ls (by omega) (by omega) hF hI (lv_sub hl [1, 2, 3, 0] rfl)
          · skip
            replace hF := q_ifp hF c_21
            refine lv_iload_n hx hb dX11_liar_69 rfl (lv_at hl 3 rfl) ?_
            refine lv_istore_n (lv' := [(2, .int x_4), (0, .ref a), (1, .ref (q_rf X (q_rf X a 8) 1)), (3, .int x_4)]) hx hb dX11_liar_70 rfl hl (by decide) rfl (fun ls hl => ?_)
            obtain ⟨z_23, ez_23⟩ : ∃ y : Int32, y = x_4 + 1 := ⟨_, rfl⟩
            replace hF := q_letX hF ez_23
            refine lv_iinc (v := z_23) (lv' := [(3, .int z_23), (2, .int x_4), (0, .ref a), (1, .ref (q_rf X (q_rf X a 8) 1))]) hx hb dX11_liar_71 hl (k := 3) rfl (by rw [ez_23]; rfl) (by decide) rfl (fun ls hl => ?_)
            have iz_23 : z_23.toInt = x_4.toInt + 1 := q_inc ez_23 (by omega)
            refine lv_goto (tgt := 29) hx hb dX11_liar_74 (by decide) ?_
            exact ih29 x_4 z_23 _ _ ls (by omega) (by omega) hF hI (lv_sub hl [2, 3, 1, 0] rfl)
    exact L_29_5 ((2147483647 - (1 : Int32).toInt).toNat + 1) 0 1 _ _ ls (Nat.lt_succ_self _) (by decide) hF hI (lv_sub hl [3, 2, 1, 0] rfl)
  · skip
    replace hF := q_ifp hF c_2
    refine lv_iconst (v := (-1)) hx hb dX11_liar_21 (by decide) ?_
    refine lv_goto (tgt := 26) hx hb dX11_liar_22 (by decide) ?_
    refine lv_istore_n (lv' := [(2, .int (-1)), (1, .ref (q_rf X (q_rf X a 8) 1)), (0, .ref a)]) hx hb dX11_liar_26 rfl hl (by decide) rfl (fun ls hl => ?_)
    refine lv_iconst (v := 1) hx hb dX11_liar_27 (by decide) ?_
    refine lv_istore_n (lv' := [(3, .int 1), (2, .int (-1)), (1, .ref (q_rf X (q_rf X a 8) 1)), (0, .ref a)]) hx hb dX11_liar_28 rfl hl (by decide) rfl (fun ls hl => ?_)
    have L_29_26 : ∀ (k_26 : Nat) (x_24 : Int32) (x_25 : Int32) (H : Heap) (locs : List Loc) (ls : Array Slot), (2147483647 - x_25.toInt).toNat < k_26 → (0 ≤ x_25.toInt) → (F_X11_liar_L29_3 X σ a k_26 x_24 x_25 = out) → q_I X 8 σ s.heap locs σ H → lv_has ls 4 [(0, .ref a), (1, .ref (q_rf X (q_rf X a 8) 1)), (2, .int x_24), (3, .int x_25)] → W p l e (q_rm 2 42) s m ([.ref a] : List Value).toArray below meth c H locs 0 0 (MQ below (q_Qi X 8 σ (fun (r : Int32) (σ' : ST) => (r, σ') = F_X11_liar X σ a ∧ q_ow [(11, 0)] [] X σ σ')) ([.ref a] : List Value).toArray s 0 0 (q_reg X)) (F0 m 29 ls []) := by
      clear hF
      intro k_26
      induction k_26 with
      | zero =>
        intro x_24 x_25 H locs ls hms
        exact absurd hms (Nat.not_lt_zero _)
      | succ k_26 ih29 =>
        intro x_24 x_25 H locs ls hm29 hge29 hF hI hl
        replace hF := (F_X11_liar_L29_3_s).symm.trans hF
        unfold F_X11_liar_B29_3 at hF
        refine lv_iload_n hx hb dX11_liar_29 rfl (lv_at hl 3 rfl) ?_
        refine lv_aload_n hx hb dX11_liar_30 rfl (lv_at hl 0 rfl) ?_
        refine gs_X11_42_11 E hI ha dX11_liar_31 ?_
        refine gs_X11_147_1 E hI (q_tk (k' := 1) hI ha rfl (by decide)) dX11_liar_34 ?_
        refine gs_X11_151_6 E hI (q_tk (k' := 6) hI (q_tk (k' := 1) hI ha rfl (by decide)) rfl (by decide)) dX11_liar_37 ?_
        refine lv_topi (fun f_27 ef_27 => ?_)
        replace hF := q_letX hF ef_27
        have gc_28_x_25 := q_rng x_25
        have gc_28_f_27 := q_rng f_27
        refine q_icmp_ge (A := x_25.toInt) (B := f_27.toInt) E rfl rfl (tgt := 77) dX11_liar_40 (by decide) (fun c_28 => ?_) (fun c_28 => ?_)
        · skip
          replace hF := q_ifn hF (Int.not_lt.mpr c_28)
          unfold F_X11_liar_E77_4 at hF
          refine lv_aload_n hx hb dX11_liar_77 rfl (lv_at hl 0 rfl) ?_
          refine lv_iload_n hx hb dX11_liar_78 rfl (lv_at hl 2 rfl) ?_
          refine q_ci (q_runV (As := [.int x_24]) (rest := []) E (hml.trans hl.1.symm) hI (c_X11_goodOrNotThere l X σ a x_24 ha) kv_X11_366 ha ⟨rfl, by decide⟩ (show vwCl[10]? = some (RX11, TX11, 17) from rfl) rfl ⟨Nat.le_of_ble_eq_true rfl, Nat.le_of_ble_eq_true rfl⟩ ⟨Nat.le_refl _, Nat.le_refl _⟩ rfl (Nat.le_of_ble_eq_true rfl) dX11_liar_79) hI (by decide) (fun r_29 σ_30 H locs hpσ_30 hkσ_30 hI => ?_)
          obtain ⟨ahpσ_30, bhpσ_30⟩ := hpσ_30
          have fr_σ_30 := fr_σ.call bhpσ_30 rfl rfl
          replace hF := q_biX hF ahpσ_30
          exact q_reti E hr hlk hI ⟨(hF.trans hout), fr_σ_30⟩ dX11_liar_82
        · skip
          replace hF := q_ifp hF c_28
          refine lv_aload_n hx hb dX11_liar_43 rfl (lv_at hl 1 rfl) ?_
          refine lv_iload_n hx hb dX11_liar_44 rfl (lv_at hl 3 rfl) ?_
          refine q_cl_ (q_runV (As := [.int x_25]) (rest := []) E (hml.trans hl.1.symm) hI (c_X1_honestTop l X σ (q_rf X (q_rf X a 8) 1) x_25 (q_tk (k' := 2) hI (q_tk (k' := 1) hI ha rfl (by decide)) rfl (by decide))) kv_X11_330 (q_tk (k' := 2) hI (q_tk (k' := 1) hI ha rfl (by decide)) rfl (by decide)) ⟨rfl, by decide⟩ (show vwCl[1]? = some (RX1, TX1, 7) from rfl) rfl ⟨Nat.le_of_ble_eq_true rfl, Nat.le_of_ble_eq_true rfl⟩ ⟨Nat.le_refl _, Nat.le_refl _⟩ rfl (Nat.le_of_ble_eq_true rfl) dX11_liar_45) hI (by decide) (fun r_31 σ_32 H locs hpσ_32 hkσ_32 hI => ?_)
          obtain ⟨ahpσ_32, bhpσ_32⟩ := hpσ_32
          rw [ahpσ_32] at hI
          replace hF := q_letX hF bhpσ_32
          refine lv_aload_n hx hb dX11_liar_48 rfl (lv_at hl 1 rfl) ?_
          refine lv_iload_n hx hb dX11_liar_49 rfl (lv_at hl 2 rfl) ?_
          refine q_cl_ (q_runV (As := [.int x_24]) (rest := [.long r_31]) E (hml.trans hl.1.symm) hI (c_X1_honestBottom l X σ (q_rf X (q_rf X a 8) 1) x_24 (q_tk (k' := 2) hI (q_tk (k' := 1) hI ha rfl (by decide)) rfl (by decide))) kv_X11_333 (q_tk (k' := 2) hI (q_tk (k' := 1) hI ha rfl (by decide)) rfl (by decide)) ⟨rfl, by decide⟩ (show vwCl[1]? = some (RX1, TX1, 7) from rfl) rfl ⟨Nat.le_of_ble_eq_true rfl, Nat.le_of_ble_eq_true rfl⟩ ⟨Nat.le_refl _, Nat.le_refl _⟩ rfl (Nat.le_of_ble_eq_true rfl) dX11_liar_50) hI (by decide) (fun r_33 σ_34 H locs hpσ_34 hkσ_34 hI => ?_)
          obtain ⟨ahpσ_34, bhpσ_34⟩ := hpσ_34
          rw [ahpσ_34] at hI
          replace hF := q_letX hF bhpσ_34
          refine lv_lmul hx hb dX11_liar_53 ?_
          refine lv_topl (fun y_35 ey_35 => ?_)
          replace hF := q_letX hF ey_35
          refine lv_aload_n hx hb dX11_liar_54 rfl (lv_at hl 1 rfl) ?_
          refine lv_iload_n hx hb dX11_liar_55 rfl (lv_at hl 2 rfl) ?_
          refine q_cl_ (q_runV (As := [.int x_24]) (rest := [.long y_35]) E (hml.trans hl.1.symm) hI (c_X1_honestTop l X σ (q_rf X (q_rf X a 8) 1) x_24 (q_tk (k' := 2) hI (q_tk (k' := 1) hI ha rfl (by decide)) rfl (by decide))) kv_X11_330 (q_tk (k' := 2) hI (q_tk (k' := 1) hI ha rfl (by decide)) rfl (by decide)) ⟨rfl, by decide⟩ (show vwCl[1]? = some (RX1, TX1, 7) from rfl) rfl ⟨Nat.le_of_ble_eq_true rfl, Nat.le_of_ble_eq_true rfl⟩ ⟨Nat.le_refl _, Nat.le_refl _⟩ rfl (Nat.le_of_ble_eq_true rfl) dX11_liar_56) hI (by decide) (fun r_36 σ_37 H locs hpσ_37 hkσ_37 hI => ?_)
          obtain ⟨ahpσ_37, bhpσ_37⟩ := hpσ_37
          rw [ahpσ_37] at hI
          replace hF := q_letX hF bhpσ_37
          refine lv_aload_n hx hb dX11_liar_59 rfl (lv_at hl 1 rfl) ?_
          refine lv_iload_n hx hb dX11_liar_60 rfl (lv_at hl 3 rfl) ?_
          refine q_cl_ (q_runV (As := [.int x_25]) (rest := [.long r_36, .long y_35]) E (hml.trans hl.1.symm) hI (c_X1_honestBottom l X σ (q_rf X (q_rf X a 8) 1) x_25 (q_tk (k' := 2) hI (q_tk (k' := 1) hI ha rfl (by decide)) rfl (by decide))) kv_X11_333 (q_tk (k' := 2) hI (q_tk (k' := 1) hI ha rfl (by decide)) rfl (by decide)) ⟨rfl, by decide⟩ (show vwCl[1]? = some (RX1, TX1, 7) from rfl) rfl ⟨Nat.le_of_ble_eq_true rfl, Nat.le_of_ble_eq_true rfl⟩ ⟨Nat.le_refl _, Nat.le_refl _⟩ rfl (Nat.le_of_ble_eq_true rfl) dX11_liar_61) hI (by decide) (fun r_38 σ_39 H locs hpσ_39 hkσ_39 hI => ?_)
          obtain ⟨ahpσ_39, bhpσ_39⟩ := hpσ_39
          rw [ahpσ_39] at hI
          replace hF := q_letX hF bhpσ_39
          refine lv_lmul hx hb dX11_liar_64 ?_
          refine lv_topl (fun y_40 ey_40 => ?_)
          replace hF := q_letX hF ey_40
          refine q_lcmpX E dX11_liar_65 (fun z_41 ez_41 hz_41 => ?_)
          replace hF := q_letX hF ez_41
          refine q_if_ge (A := z_41.toInt) E rfl (tgt := 71) dX11_liar_66 (by decide) (fun c_42 => ?_) (fun c_42 => ?_)
          · skip
            replace hF := q_ifn hF (Int.not_lt.mpr c_42)
            obtain ⟨z_43, ez_43⟩ : ∃ y : Int32, y = x_25 + 1 := ⟨_, rfl⟩
            replace hF := q_letX hF ez_43
            refine lv_iinc (v := z_43) (lv' := [(3, .int z_43), (0, .ref a), (1, .ref (q_rf X (q_rf X a 8) 1)), (2, .int x_24)]) hx hb dX11_liar_71 hl (k := 3) rfl (by rw [ez_43]; rfl) (by decide) rfl (fun ls hl => ?_)
            have iz_43 : z_43.toInt = x_25.toInt + 1 := q_inc ez_43 (by omega)
            refine lv_goto (tgt := 29) hx hb dX11_liar_74 (by decide) ?_
            exact ih29 x_24 z_43 _ _ ls (by omega) (by omega) hF hI (lv_sub hl [1, 2, 3, 0] rfl)
          · skip
            replace hF := q_ifp hF c_42
            refine lv_iload_n hx hb dX11_liar_69 rfl (lv_at hl 3 rfl) ?_
            refine lv_istore_n (lv' := [(2, .int x_25), (0, .ref a), (1, .ref (q_rf X (q_rf X a 8) 1)), (3, .int x_25)]) hx hb dX11_liar_70 rfl hl (by decide) rfl (fun ls hl => ?_)
            obtain ⟨z_44, ez_44⟩ : ∃ y : Int32, y = x_25 + 1 := ⟨_, rfl⟩
            replace hF := q_letX hF ez_44
            refine lv_iinc (v := z_44) (lv' := [(3, .int z_44), (2, .int x_25), (0, .ref a), (1, .ref (q_rf X (q_rf X a 8) 1))]) hx hb dX11_liar_71 hl (k := 3) rfl (by rw [ez_44]; rfl) (by decide) rfl (fun ls hl => ?_)
            have iz_44 : z_44.toInt = x_25.toInt + 1 := q_inc ez_44 (by omega)
            refine lv_goto (tgt := 29) hx hb dX11_liar_74 (by decide) ?_
            exact ih29 x_25 z_44 _ _ ls (by omega) (by omega) hF hI (lv_sub hl [2, 3, 1, 0] rfl)
    exact L_29_26 ((2147483647 - (1 : Int32).toInt).toNat + 1) (-1) 1 _ _ ls (Nat.lt_succ_self _) (by decide) hF hI (lv_sub hl [3, 2, 1, 0] rfl)
end
