section
set_option maxRecDepth 100000 in
set_option maxHeartbeats 4000000 in
theorem c_X11_quartet (l : Launch) (X : XW) (σ : ST) (a : Nat) (v1 : Int32) (ha : q_kd X a = 11) : Met l yX11_quartet (q_ws yX11_quartet cX11_quartet 4 (some .int)) (q_rm 2 43) (q_P X σ [.ref a, .int v1]) (q_Qi X 8 σ (fun (r : Int32) (σ' : ST) => (r, σ') = F_X11_quartet X σ a v1 ∧ q_ow [(11, 0)] [] X σ σ')) 0 0 (q_reg X) := by
  refine q_met 8 (by first | exact rfl | decide +kernel) rfl (Nat.le_of_ble_eq_true rfl) (fun p e s m below meth c E hml hr hlk hI ls hl => ?_)
  have hx := E.1
  have hb := E.2.1
  have hl : lv_has ls 4 [(0, .ref a), (1, .int v1)] := hl
  have fr_σ : q_ow [(11, 0)] [] X σ σ := q_ow.rf
  obtain ⟨out, hout⟩ : ∃ o, o = F_X11_quartet X σ a v1 := ⟨_, rfl⟩
  have hF := hout.symm
  unfold F_X11_quartet at hF
  refine lv_aload_n hx hb dX11_quartet_0 rfl (lv_at hl 0 rfl) ?_
  refine lv_iload_n hx hb dX11_quartet_1 rfl (lv_at hl 1 rfl) ?_
  refine q_ci (q_runV (As := [.int v1]) (rest := []) E (hml.trans hl.1.symm) hI (c_X11_isPlayer l X σ a v1 ha) kv_X11_219 ha ⟨rfl, by decide⟩ (show vwCl[10]? = some (RX11, TX11, 17) from rfl) rfl ⟨Nat.le_of_ble_eq_true rfl, Nat.le_of_ble_eq_true rfl⟩ ⟨Nat.le_refl _, Nat.le_refl _⟩ rfl (Nat.le_of_ble_eq_true rfl) dX11_quartet_2) hI (by decide) (fun r_1 σ_2 H locs hpσ_2 hkσ_2 hI => ?_)
  obtain ⟨ahpσ_2, bhpσ_2, chpσ_2⟩ := hpσ_2
  rw [ahpσ_2] at hI
  replace hF := q_letX hF chpσ_2
  refine q_if_ne (A := r_1.toInt) E rfl (tgt := 14) dX11_quartet_5 (by decide) (fun c_3 => ?_) (fun c_3 => ?_)
  · skip
    replace hF := q_ifn hF c_3
    refine lv_iconst (v := 0) hx hb dX11_quartet_14 (by decide) ?_
    refine lv_istore_n (lv' := [(2, .int 0), (0, .ref a), (1, .int v1)]) hx hb dX11_quartet_15 rfl hl (by decide) rfl (fun ls hl => ?_)
    have L_16_5 : ∀ (k_5 : Nat) (x_4 : Int32) (H : Heap) (locs : List Loc) (ls : Array Slot), (2147483647 - x_4.toInt).toNat < k_5 → (0 ≤ x_4.toInt) → (F_X11_quartet_L16_1 X σ a v1 k_5 x_4 = out) → q_I X 8 σ s.heap locs σ H → lv_has ls 4 [(0, .ref a), (1, .int v1), (2, .int x_4)] → W p l e (q_rm 2 43) s m ([.ref a, .int v1] : List Value).toArray below meth c H locs 0 0 (MQ below (q_Qi X 8 σ (fun (r : Int32) (σ' : ST) => (r, σ') = F_X11_quartet X σ a v1 ∧ q_ow [(11, 0)] [] X σ σ')) ([.ref a, .int v1] : List Value).toArray s 0 0 (q_reg X)) (F0 m 16 ls []) := by
      clear hF
      intro k_5
      induction k_5 with
      | zero =>
        intro x_4 H locs ls hms
        exact absurd hms (Nat.not_lt_zero _)
      | succ k_5 ih16 =>
        intro x_4 H locs ls hm16 hge16 hF hI hl
        replace hF := (F_X11_quartet_L16_1_s).symm.trans hF
        unfold F_X11_quartet_B16_1 at hF
        refine lv_iload_n hx hb dX11_quartet_16 rfl (lv_at hl 2 rfl) ?_
        refine lv_aload_n hx hb dX11_quartet_17 rfl (lv_at hl 0 rfl) ?_
        refine gs_X11_42_11 E hI ha dX11_quartet_18 ?_
        refine gs_X11_147_1 E hI (q_tk (k' := 1) hI ha rfl (by decide)) dX11_quartet_21 ?_
        refine gs_X11_183_6 E hI (q_tk (k' := 6) hI (q_tk (k' := 1) hI ha rfl (by decide)) rfl (by decide)) dX11_quartet_24 ?_
        refine lv_topi (fun f_6 ef_6 => ?_)
        replace hF := q_letX hF ef_6
        have bf_6 : -2147483648 ≤ f_6.toInt ∧ f_6.toInt ≤ 10 := by rw [ef_6]; exact q_bd hI (q_tk (k' := 6) hI (q_tk (k' := 1) hI ha rfl (by decide)) rfl (by decide)) rfl
        have gc_7_x_4 := q_rng x_4
        have gc_7_f_6 := q_rng f_6
        refine q_icmp_ge (A := x_4.toInt) (B := f_6.toInt) E rfl rfl (tgt := 77) dX11_quartet_27 (by decide) (fun c_7 => ?_) (fun c_7 => ?_)
        · skip
          replace hF := q_ifn hF (Int.not_lt.mpr c_7)
          unfold F_X11_quartet_E77_2 at hF
          refine lv_aload_n hx hb dX11_quartet_77 rfl (lv_at hl 0 rfl) ?_
          refine lv_bipush (v := 8) hx hb dX11_quartet_78 (by decide) ?_
          have kc_8 : (8 : Int32).toInt = 8 := rfl
          refine q_ci (q_runV (As := [.int 8]) (rest := []) E (hml.trans hl.1.symm) hI (c_X11_none l X σ a (8 : Int32) ha) kv_X11_109 ha ⟨rfl, by decide⟩ (show vwCl[10]? = some (RX11, TX11, 17) from rfl) rfl ⟨Nat.le_of_ble_eq_true rfl, Nat.le_of_ble_eq_true rfl⟩ ⟨Nat.le_refl _, Nat.le_refl _⟩ rfl (Nat.le_of_ble_eq_true rfl) dX11_quartet_80) hI (by decide) (fun r_9 σ_10 H locs hpσ_10 hkσ_10 hI => ?_)
          obtain ⟨ahpσ_10, bhpσ_10, chpσ_10⟩ := hpσ_10
          have fr_σ_10 := fr_σ.call chpσ_10 rfl rfl
          replace hF := q_biX hF bhpσ_10
          exact q_reti E hr hlk hI ⟨(hF.trans hout), fr_σ_10⟩ dX11_quartet_83
        · skip
          replace hF := q_ifp hF c_7
          refine lv_aload_n hx hb dX11_quartet_30 rfl (lv_at hl 0 rfl) ?_
          refine gs_X11_42_11 E hI ha dX11_quartet_31 ?_
          refine gs_X11_147_1 E hI (q_tk (k' := 1) hI ha rfl (by decide)) dX11_quartet_34 ?_
          refine gs_X11_257_6 E hI (q_tk (k' := 6) hI (q_tk (k' := 1) hI ha rfl (by decide)) rfl (by decide)) dX11_quartet_37 ?_
          refine lv_iload_n hx hb dX11_quartet_40 rfl (lv_at hl 2 rfl) ?_
          refine q_ci (q_runV (As := [.int x_4]) (rest := []) E (hml.trans hl.1.symm) hI (c_X5_get l X σ (q_rf X (q_rf X (q_rf X a 8) 0) 5) x_4 (q_tk (k' := 5) hI (q_tk (k' := 6) hI (q_tk (k' := 1) hI ha rfl (by decide)) rfl (by decide)) rfl (by decide))) kv_X11_232 (q_tk (k' := 5) hI (q_tk (k' := 6) hI (q_tk (k' := 1) hI ha rfl (by decide)) rfl (by decide)) rfl (by decide)) ⟨rfl, by decide⟩ (show vwCl[4]? = some (RX5, TX5, 1) from rfl) rfl ⟨Nat.le_of_ble_eq_true rfl, Nat.le_of_ble_eq_true rfl⟩ ⟨Nat.le_refl _, Nat.le_refl _⟩ rfl (Nat.le_of_ble_eq_true rfl) dX11_quartet_41) hI (by decide) (fun r_11 σ_12 H locs hpσ_12 hkσ_12 hI => ?_)
          obtain ⟨ahpσ_12, bhpσ_12⟩ := hpσ_12
          rw [ahpσ_12] at hI
          replace hF := q_letX hF bhpσ_12
          refine lv_istore_n (lv' := [(3, .int r_11), (0, .ref a), (1, .int v1), (2, .int x_4)]) hx hb dX11_quartet_44 rfl hl (by decide) rfl (fun ls hl => ?_)
          refine lv_iload_n hx hb dX11_quartet_45 rfl (lv_at hl 0 rfl) ?_
          refine q_if_le (A := r_11.toInt) E rfl (tgt := 71) dX11_quartet_46 (by decide) (fun c_13 => ?_) (fun c_13 => ?_)
          · skip
            replace hF := q_ifn hF (Int.not_lt.mpr c_13)
            obtain ⟨z_14, ez_14⟩ : ∃ y : Int32, y = x_4 + 1 := ⟨_, rfl⟩
            replace hF := q_letX hF ez_14
            refine lv_iinc (v := z_14) (lv' := [(2, .int z_14), (3, .int r_11), (0, .ref a), (1, .int v1)]) hx hb dX11_quartet_71 hl (k := 3) rfl (by rw [ez_14]; rfl) (by decide) rfl (fun ls hl => ?_)
            have iz_14 : z_14.toInt = x_4.toInt + 1 := q_inc ez_14 (by omega)
            refine lv_goto (tgt := 16) hx hb dX11_quartet_74 (by decide) ?_
            exact ih16 z_14 _ _ ls (by omega) (by omega) hF hI (lv_sub hl [2, 3, 0] rfl)
          · skip
            replace hF := q_ifp hF c_13
            refine lv_aload_n hx hb dX11_quartet_49 rfl (lv_at hl 1 rfl) ?_
            refine gs_X11_42_11 E hI ha dX11_quartet_50 ?_
            refine gs_X11_222_1 E hI (q_tk (k' := 1) hI ha rfl (by decide)) dX11_quartet_53 ?_
            refine lv_iload_n hx hb dX11_quartet_56 rfl (lv_at hl 2 rfl) ?_
            refine lv_iload_n hx hb dX11_quartet_57 rfl (lv_at hl 3 rfl) ?_
            refine q_ci (q_runV (As := [.int v1, .int x_4]) (rest := []) E (hml.trans hl.1.symm) hI (c_X1_heldBy l X σ (q_rf X (q_rf X a 8) 1) v1 x_4 (q_tk (k' := 2) hI (q_tk (k' := 1) hI ha rfl (by decide)) rfl (by decide))) kv_X11_253 (q_tk (k' := 2) hI (q_tk (k' := 1) hI ha rfl (by decide)) rfl (by decide)) ⟨rfl, by decide⟩ (show vwCl[1]? = some (RX1, TX1, 7) from rfl) rfl ⟨Nat.le_of_ble_eq_true rfl, Nat.le_of_ble_eq_true rfl⟩ ⟨Nat.le_refl _, Nat.le_refl _⟩ rfl (Nat.le_of_ble_eq_true rfl) dX11_quartet_58) hI (by decide) (fun r_15 σ_16 H locs hpσ_16 hkσ_16 hI => ?_)
            obtain ⟨ahpσ_16, bhpσ_16⟩ := hpσ_16
            rw [ahpσ_16] at hI
            replace hF := q_letX hF bhpσ_16
            refine lv_iload_n hx hb dX11_quartet_61 rfl (lv_at hl 0 rfl) ?_
            have gc_17_r_15 := q_rng r_15
            have gc_17_r_11 := q_rng r_11
            refine q_icmp_ne (A := r_15.toInt) (B := r_11.toInt) E rfl rfl (tgt := 71) dX11_quartet_62 (by decide) (fun c_17 => ?_) (fun c_17 => ?_)
            · skip
              replace hF := q_ifn hF c_17
              obtain ⟨z_18, ez_18⟩ : ∃ y : Int32, y = x_4 + 1 := ⟨_, rfl⟩
              replace hF := q_letX hF ez_18
              refine lv_iinc (v := z_18) (lv' := [(2, .int z_18), (3, .int r_11), (0, .ref a), (1, .int v1)]) hx hb dX11_quartet_71 hl (k := 3) rfl (by rw [ez_18]; rfl) (by decide) rfl (fun ls hl => ?_)
              have iz_18 : z_18.toInt = x_4.toInt + 1 := q_inc ez_18 (by omega)
              refine lv_goto (tgt := 16) hx hb dX11_quartet_74 (by decide) ?_
              exact ih16 z_18 _ _ ls (by omega) (by omega) hF hI (lv_sub hl [2, 3, 0] rfl)
            · skip
              replace hF := q_ifp hF c_17
              unfold F_X11_quartet_E65_3 at hF
              refine lv_aload_n hx hb dX11_quartet_65 rfl (lv_at hl 1 rfl) ?_
              refine lv_iload_n hx hb dX11_quartet_66 rfl (lv_at hl 3 rfl) ?_
              refine q_ci (q_runV (As := [.int x_4]) (rest := []) E (hml.trans hl.1.symm) hI (c_X11_good l X σ a x_4 ha) kv_X11_156 ha ⟨rfl, by decide⟩ (show vwCl[10]? = some (RX11, TX11, 17) from rfl) rfl ⟨Nat.le_of_ble_eq_true rfl, Nat.le_of_ble_eq_true rfl⟩ ⟨Nat.le_refl _, Nat.le_refl _⟩ rfl (Nat.le_of_ble_eq_true rfl) dX11_quartet_67) hI (by decide) (fun r_19 σ_20 H locs hpσ_20 hkσ_20 hI => ?_)
              obtain ⟨ahpσ_20, bhpσ_20, chpσ_20⟩ := hpσ_20
              have fr_σ_20 := fr_σ.call chpσ_20 rfl rfl
              replace hF := q_biX hF bhpσ_20
              exact q_reti E hr hlk hI ⟨(hF.trans hout), fr_σ_20⟩ dX11_quartet_70
    exact L_16_5 ((2147483647 - (0 : Int32).toInt).toNat + 1) 0 _ _ ls (Nat.lt_succ_self _) (by decide) hF hI (lv_sub hl [1, 2, 0] rfl)
  · skip
    replace hF := q_ifp hF c_3
    refine lv_aload_n hx hb dX11_quartet_8 rfl (lv_at hl 0 rfl) ?_
    refine lv_iconst (v := 2) hx hb dX11_quartet_9 (by decide) ?_
    have kc_21 : (2 : Int32).toInt = 2 := rfl
    refine q_ci (q_runV (As := [.int 2]) (rest := []) E (hml.trans hl.1.symm) hI (c_X11_none l X σ a (2 : Int32) ha) kv_X11_109 ha ⟨rfl, by decide⟩ (show vwCl[10]? = some (RX11, TX11, 17) from rfl) rfl ⟨Nat.le_of_ble_eq_true rfl, Nat.le_of_ble_eq_true rfl⟩ ⟨Nat.le_refl _, Nat.le_refl _⟩ rfl (Nat.le_of_ble_eq_true rfl) dX11_quartet_10) hI (by decide) (fun r_22 σ_23 H locs hpσ_23 hkσ_23 hI => ?_)
    obtain ⟨ahpσ_23, bhpσ_23, chpσ_23⟩ := hpσ_23
    have fr_σ_23 := fr_σ.call chpσ_23 rfl rfl
    replace hF := q_biX hF bhpσ_23
    exact q_reti E hr hlk hI ⟨(hF.trans hout), fr_σ_23⟩ dX11_quartet_13
end
