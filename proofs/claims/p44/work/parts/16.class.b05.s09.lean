section
set_option maxRecDepth 100000 in
set_option maxHeartbeats 4000000 in
theorem c_X11_left (l : Launch) (X : XW) (σ : ST) (a : Nat) (v1 : Int32) (v2 : Int32) (v3 : Int32) (ha : q_kd X a = 11) : Met l yX11_left (q_ws yX11_left cX11_left 7 (some .boolean)) (q_rm 7 166) (q_P X σ [.ref a, .int v1, .int v2, .int v3]) (q_Qi X 8 σ (fun (r : Int32) (σ' : ST) => (0 ≤ r.toInt ∧ r.toInt ≤ 1) ∧ (r, σ') = F_X11_left X σ a v1 v2 v3 ∧ q_ow [(1, 4), (1, 5), (1, 6), (1, 7), (1, 9), (3, 0), (3, 1), (6, 0), (6, 1), (6, 2), (6, 3), (6, 4), (7, 0), (7, 1), (7, 2), (7, 3), (7, 4), (7, 5), (7, 6), (8, 0), (8, 1), (8, 2), (11, 0), (20, 99)] [(11, 1), (11, 2)] X σ σ')) 0 0 (q_reg X) := by
  refine q_met 8 (by first | exact rfl | decide +kernel) rfl (Nat.le_of_ble_eq_true rfl) (fun p e s m below meth c E hml hr hlk hI ls hl => ?_)
  have hx := E.1
  have hb := E.2.1
  have hl : lv_has ls 7 [(0, .ref a), (1, .int v1), (2, .int v2), (3, .int v3)] := hl
  have fr_σ : q_ow [(1, 4), (1, 5), (1, 6), (1, 7), (1, 9), (3, 0), (3, 1), (6, 0), (6, 1), (6, 2), (6, 3), (6, 4), (7, 0), (7, 1), (7, 2), (7, 3), (7, 4), (7, 5), (7, 6), (8, 0), (8, 1), (8, 2), (11, 0), (20, 99)] [(11, 1), (11, 2)] X σ σ := q_ow.rf
  obtain ⟨out, hout⟩ : ∃ o, o = F_X11_left X σ a v1 v2 v3 := ⟨_, rfl⟩
  have hF := hout.symm
  unfold F_X11_left at hF
  refine lv_aload_n hx hb dX11_left_0 rfl (lv_at hl 0 rfl) ?_
  refine lv_iload_n hx hb dX11_left_1 rfl (lv_at hl 1 rfl) ?_
  refine lv_iload_n hx hb dX11_left_2 rfl (lv_at hl 2 rfl) ?_
  refine lv_iload_n hx hb dX11_left_3 rfl (lv_at hl 3 rfl) ?_
  refine q_ci (q_runV (As := [.int v1, .int v2, .int v3]) (rest := []) E (hml.trans hl.1.symm) hI (c_X11_seedsStatus l X σ a v1 v2 v3 ha) kv_X11_417 ha ⟨rfl, by decide⟩ (show vwCl[10]? = some (RX11, TX11, 17) from rfl) rfl ⟨Nat.le_of_ble_eq_true rfl, Nat.le_of_ble_eq_true rfl⟩ ⟨Nat.le_refl _, Nat.le_refl _⟩ rfl (Nat.le_of_ble_eq_true rfl) dX11_left_4) hI (by decide) (fun r_1 σ_2 H locs hpσ_2 hkσ_2 hI => ?_)
  obtain ⟨ahpσ_2, bhpσ_2⟩ := hpσ_2
  rw [ahpσ_2] at hI
  replace hF := q_letX hF bhpσ_2
  refine lv_istore (lv' := [(4, .int r_1), (0, .ref a), (1, .int v1), (2, .int v2), (3, .int v3)]) hx hb dX11_left_7 hl (by decide) rfl (fun ls hl => ?_)
  refine lv_iload hx hb dX11_left_9 (lv_at hl 0 rfl) ?_
  refine q_if_eq (A := r_1.toInt) E rfl (tgt := 21) dX11_left_11 (by decide) (fun c_3 => ?_) (fun c_3 => ?_)
  · skip
    replace hF := q_ifp hF c_3
    refine lv_iconst (v := 0) hx hb dX11_left_21 (by decide) ?_
    refine lv_istore (lv' := [(5, .int 0), (4, .int r_1), (0, .ref a), (1, .int v1), (2, .int v2), (3, .int v3)]) hx hb dX11_left_22 hl (by decide) rfl (fun ls hl => ?_)
    refine lv_iconst (v := 0) hx hb dX11_left_24 (by decide) ?_
    refine lv_istore (lv' := [(6, .int 0), (5, .int 0), (4, .int r_1), (0, .ref a), (1, .int v1), (2, .int v2), (3, .int v3)]) hx hb dX11_left_25 hl (by decide) rfl (fun ls hl => ?_)
    have L_27_7 : ∀ (k_7 : Nat) (x_4 : Int32) (x_5 : Int32) (σ_6 : ST) (H : Heap) (locs : List Loc) (ls : Array Slot), (2147483647 - x_5.toInt).toNat < k_7 → (0 ≤ x_5.toInt) → (q_ow [(1, 4), (1, 5), (1, 6), (1, 7), (1, 9), (3, 0), (3, 1), (6, 0), (6, 1), (6, 2), (6, 3), (6, 4), (7, 0), (7, 1), (7, 2), (7, 3), (7, 4), (7, 5), (7, 6), (8, 0), (8, 1), (8, 2), (11, 0), (20, 99)] [(11, 1), (11, 2)] X σ σ_6) → (F_X11_left_L27_1 X v3 a v2 v1 k_7 x_4 x_5 σ_6 = out) → q_I X 8 σ s.heap locs σ_6 H → lv_has ls 7 [(0, .ref a), (1, .int v1), (2, .int v2), (3, .int v3), (4, .int r_1), (5, .int x_4), (6, .int x_5)] → W p l e (q_rm 7 166) s m ([.ref a, .int v1, .int v2, .int v3] : List Value).toArray below meth c H locs 0 0 (MQ below (q_Qi X 8 σ (fun (r : Int32) (σ' : ST) => (0 ≤ r.toInt ∧ r.toInt ≤ 1) ∧ (r, σ') = F_X11_left X σ a v1 v2 v3 ∧ q_ow [(1, 4), (1, 5), (1, 6), (1, 7), (1, 9), (3, 0), (3, 1), (6, 0), (6, 1), (6, 2), (6, 3), (6, 4), (7, 0), (7, 1), (7, 2), (7, 3), (7, 4), (7, 5), (7, 6), (8, 0), (8, 1), (8, 2), (11, 0), (20, 99)] [(11, 1), (11, 2)] X σ σ')) ([.ref a, .int v1, .int v2, .int v3] : List Value).toArray s 0 0 (q_reg X)) (F0 m 27 ls []) := by
      clear hF
      intro k_7
      induction k_7 with
      | zero =>
        intro x_4 x_5 σ_6 H locs ls hms
        exact absurd hms (Nat.not_lt_zero _)
      | succ k_7 ih27 =>
        intro x_4 x_5 σ_6 H locs ls hm27 hge27 fr_σ_6 hF hI hl
        replace hF := (F_X11_left_L27_1_s).symm.trans hF
        unfold F_X11_left_B27_1 at hF
        refine lv_iload hx hb dX11_left_27 (lv_at hl 6 rfl) ?_
        refine lv_iload_n hx hb dX11_left_29 rfl (lv_at hl 3 rfl) ?_
        have gc_8_x_5 := q_rng x_5
        have gc_8_v3 := q_rng v3
        refine q_icmp_ge (A := x_5.toInt) (B := v3.toInt) E rfl rfl (tgt := 84) dX11_left_30 (by decide) (fun c_8 => ?_) (fun c_8 => ?_)
        · skip
          replace hF := q_ifn hF (Int.not_lt.mpr c_8)
          unfold F_X11_left_E84_2 at hF
          refine lv_aload_n hx hb dX11_left_84 rfl (lv_at hl 0 rfl) ?_
          refine lv_iload hx hb dX11_left_85 (lv_at hl 5 rfl) ?_
          refine lv_i2l hx hb dX11_left_87 rfl ?_
          refine lv_topl (fun y_9 ey_9 => ?_)
          replace hF := q_letX hF ey_9
          refine lv_iload_n hx hb dX11_left_88 rfl (lv_at hl 3 rfl) ?_
          refine lv_i2l hx hb dX11_left_89 rfl ?_
          refine lv_topl (fun y_10 ey_10 => ?_)
          replace hF := q_letX hF ey_10
          refine q_ci (q_runV (As := [.long y_9, .long y_10]) (rest := []) E (hml.trans hl.1.symm) hI (c_X11_tell l X σ_6 a y_9 y_10 ha) kv_X11_326 ha ⟨rfl, by decide⟩ (show vwCl[10]? = some (RX11, TX11, 17) from rfl) rfl ⟨Nat.le_of_ble_eq_true rfl, Nat.le_of_ble_eq_true rfl⟩ ⟨Nat.le_refl _, Nat.le_refl _⟩ rfl (Nat.le_of_ble_eq_true rfl) dX11_left_90) hI (by decide) (fun r_11 σ_12 H locs hpσ_12 hkσ_12 hI => ?_)
          obtain ⟨ahpσ_12, bhpσ_12, chpσ_12⟩ := hpσ_12
          have fr_σ_12 := fr_σ_6.call chpσ_12 rfl rfl
          replace hF := q_biX hF bhpσ_12
          exact q_retz E hr hlk hI ⟨by omega, by omega⟩ ⟨⟨by omega, by omega⟩, (hF.trans hout), fr_σ_12⟩ dX11_left_93
        · skip
          replace hF := q_ifp hF c_8
          refine lv_aload_n hx hb dX11_left_33 rfl (lv_at hl 0 rfl) ?_
          refine gs_X11_46_11 E hI ha dX11_left_34 ?_
          refine lv_aload_n hx hb dX11_left_37 rfl (lv_at hl 0 rfl) ?_
          refine gs_X11_42_11 E hI ha dX11_left_38 ?_
          refine q_cv (q_runV (As := [.ref (q_rf X a 8)]) (rest := []) E (hml.trans hl.1.symm) hI (c_X0_copyFrom l X σ_6 (q_rf X a 9) (q_rf X a 8) (q_tk (k' := 1) hI ha rfl (by decide)) (q_tk (k' := 1) hI ha rfl (by decide))) kv_X11_144 (q_tk (k' := 1) hI ha rfl (by decide)) ⟨rfl, by decide⟩ (show vwCl[0]? = some (RX0, TX0, 15) from rfl) rfl ⟨Nat.le_of_ble_eq_true rfl, Nat.le_of_ble_eq_true rfl⟩ ⟨Nat.le_refl _, Nat.le_refl _⟩ rfl (Nat.le_of_ble_eq_true rfl) dX11_left_41) hI (by decide) (fun σ_14 H locs hpσ_14 hkσ_14 hI => ?_)
          obtain ⟨ahpσ_14, bhpσ_14⟩ := hpσ_14
          have fr_σ_14 := fr_σ_6.call bhpσ_14 rfl rfl
          replace hF := q_letX hF ahpσ_14
          refine lv_aload_n hx hb dX11_left_44 rfl (lv_at hl 0 rfl) ?_
          refine gs_X11_77_11 E hI ha dX11_left_45 ?_
          refine lv_aload_n hx hb dX11_left_48 rfl (lv_at hl 0 rfl) ?_
          refine gs_X11_46_11 E hI ha dX11_left_49 ?_
          refine lv_iload_n hx hb dX11_left_52 rfl (lv_at hl 2 rfl) ?_
          refine lv_iload hx hb dX11_left_53 (lv_at hl 6 rfl) ?_
          refine lv_iadd hx hb dX11_left_55 ?_
          refine lv_topi (fun z_15 ez_15 => ?_)
          replace hF := q_letX hF ez_15
          refine q_cv (q_runV (As := [.ref (q_rf X a 9), .int z_15]) (rest := []) E (hml.trans hl.1.symm) hI (c_X7_go l X σ_14 (q_rf X a 15) (q_rf X a 9) z_15 (q_tk (k' := 7) hI ha rfl (by decide)) (q_tk (k' := 1) hI ha rfl (by decide))) kv_X11_399 (q_tk (k' := 7) hI ha rfl (by decide)) ⟨rfl, by decide⟩ (show vwCl[6]? = some (RX7, TX7, 8) from rfl) rfl ⟨Nat.le_of_ble_eq_true rfl, Nat.le_of_ble_eq_true rfl⟩ ⟨Nat.le_refl _, Nat.le_refl _⟩ rfl (Nat.le_of_ble_eq_true rfl) dX11_left_56) hI (by decide) (fun σ_17 H locs hpσ_17 hkσ_17 hI => ?_)
          obtain ⟨ahpσ_17, bhpσ_17⟩ := hpσ_17
          have fr_σ_17 := fr_σ_14.call bhpσ_17 rfl rfl
          replace hF := q_letX hF ahpσ_17
          refine lv_iload hx hb dX11_left_59 (lv_at hl 5 rfl) ?_
          refine lv_aload_n hx hb dX11_left_61 rfl (lv_at hl 0 rfl) ?_
          refine gs_X11_46_11 E hI ha dX11_left_62 ?_
          refine gs_X11_222_1 E hI (q_tk (k' := 1) hI ha rfl (by decide)) dX11_left_65 ?_
          refine gs_X11_239_2 E hI (q_tk (k' := 2) hI (q_tk (k' := 1) hI ha rfl (by decide)) rfl (by decide)) dX11_left_68 ?_
          refine lv_iload_n hx hb dX11_left_71 rfl (lv_at hl 1 rfl) ?_
          refine q_ci (q_runV (As := [.int v1]) (rest := [.int x_4]) E (hml.trans hl.1.symm) hI (c_X5_get l X σ_17 (q_rf X (q_rf X (q_rf X a 9) 1) 2) v1 (q_tk (k' := 5) hI (q_tk (k' := 2) hI (q_tk (k' := 1) hI ha rfl (by decide)) rfl (by decide)) rfl (by decide))) kv_X11_232 (q_tk (k' := 5) hI (q_tk (k' := 2) hI (q_tk (k' := 1) hI ha rfl (by decide)) rfl (by decide)) rfl (by decide)) ⟨rfl, by decide⟩ (show vwCl[4]? = some (RX5, TX5, 1) from rfl) rfl ⟨Nat.le_of_ble_eq_true rfl, Nat.le_of_ble_eq_true rfl⟩ ⟨Nat.le_refl _, Nat.le_refl _⟩ rfl (Nat.le_of_ble_eq_true rfl) dX11_left_72) hI (by decide) (fun r_18 σ_19 H locs hpσ_19 hkσ_19 hI => ?_)
          obtain ⟨ahpσ_19, bhpσ_19⟩ := hpσ_19
          rw [ahpσ_19] at hI
          replace hF := q_letX hF bhpσ_19
          refine lv_iadd hx hb dX11_left_75 ?_
          refine lv_topi (fun z_20 ez_20 => ?_)
          replace hF := q_letX hF ez_20
          refine lv_istore (lv' := [(5, .int z_20), (0, .ref a), (1, .int v1), (2, .int v2), (3, .int v3), (4, .int r_1), (6, .int x_5)]) hx hb dX11_left_76 hl (by decide) rfl (fun ls hl => ?_)
          obtain ⟨z_21, ez_21⟩ : ∃ y : Int32, y = x_5 + 1 := ⟨_, rfl⟩
          replace hF := q_letX hF ez_21
          refine lv_iinc (v := z_21) (lv' := [(6, .int z_21), (5, .int z_20), (0, .ref a), (1, .int v1), (2, .int v2), (3, .int v3), (4, .int r_1)]) hx hb dX11_left_78 hl (k := 6) rfl (by rw [ez_21]; rfl) (by decide) rfl (fun ls hl => ?_)
          have iz_21 : z_21.toInt = x_5.toInt + 1 := q_inc ez_21 (by omega)
          refine lv_goto (tgt := 27) hx hb dX11_left_81 (by decide) ?_
          exact ih27 z_20 z_21 σ_17 _ _ ls (by omega) (by omega) fr_σ_17 hF hI (lv_sub hl [2, 3, 4, 5, 6, 1, 0] rfl)
    exact L_27_7 ((2147483647 - (0 : Int32).toInt).toNat + 1) 0 0 σ _ _ ls (Nat.lt_succ_self _) (by decide) fr_σ hF hI (lv_sub hl [3, 4, 5, 6, 2, 1, 0] rfl)
  · skip
    replace hF := q_ifn hF c_3
    refine lv_aload_n hx hb dX11_left_14 rfl (lv_at hl 1 rfl) ?_
    refine lv_iload hx hb dX11_left_15 (lv_at hl 0 rfl) ?_
    refine q_ci (q_runV (As := [.int r_1]) (rest := []) E (hml.trans hl.1.symm) hI (c_X11_no l X σ a r_1 ha) kv_X11_89 ha ⟨rfl, by decide⟩ (show vwCl[10]? = some (RX11, TX11, 17) from rfl) rfl ⟨Nat.le_of_ble_eq_true rfl, Nat.le_of_ble_eq_true rfl⟩ ⟨Nat.le_refl _, Nat.le_refl _⟩ rfl (Nat.le_of_ble_eq_true rfl) dX11_left_17) hI (by decide) (fun r_22 σ_23 H locs hpσ_23 hkσ_23 hI => ?_)
    obtain ⟨ahpσ_23, bhpσ_23, chpσ_23, dhpσ_23⟩ := hpσ_23
    have fr_σ_23 := fr_σ.call dhpσ_23 rfl rfl
    replace hF := q_biX hF chpσ_23
    exact q_retz E hr hlk hI ⟨by omega, by omega⟩ ⟨⟨by omega, by omega⟩, (hF.trans hout), fr_σ_23⟩ dX11_left_20
end
