section
set_option maxRecDepth 100000 in
set_option maxHeartbeats 4000000 in
theorem c_X11_sorts (l : Launch) (X : XW) (σ : ST) (a : Nat) (v1 : Int32) (ha : q_kd X a = 11) : Met l yX11_sorts (q_ws yX11_sorts cX11_sorts 4 (some .int)) (q_rm 2 44) (q_P X σ [.ref a, .int v1]) (q_Qi X 8 σ (fun (r : Int32) (σ' : ST) => (r, σ') = F_X11_sorts X σ a v1 ∧ q_ow [(11, 0)] [] X σ σ')) 0 0 (q_reg X) := by
  refine q_met 8 (by first | exact rfl | decide +kernel) rfl (Nat.le_of_ble_eq_true rfl) (fun p e s m below meth c E hml hr hlk hI ls hl => ?_)
  have hx := E.1
  have hb := E.2.1
  have hl : lv_has ls 4 [(0, .ref a), (1, .int v1)] := hl
  have fr_σ : q_ow [(11, 0)] [] X σ σ := q_ow.rf
  obtain ⟨out, hout⟩ : ∃ o, o = F_X11_sorts X σ a v1 := ⟨_, rfl⟩
  have hF := hout.symm
  unfold F_X11_sorts at hF
  refine lv_iload_n hx hb dX11_sorts_0 rfl (lv_at hl 1 rfl) ?_
  refine q_if_lt (A := v1.toInt) E rfl (tgt := 9) dX11_sorts_1 (by decide) (fun c_1 => ?_) (fun c_1 => ?_)
  · skip
    replace hF := q_ifp hF c_1
    refine lv_aload_n hx hb dX11_sorts_9 rfl (lv_at hl 0 rfl) ?_
    refine lv_iconst (v := 5) hx hb dX11_sorts_10 (by decide) ?_
    have kc_2 : (5 : Int32).toInt = 5 := rfl
    refine q_ci (q_runV (As := [.int 5]) (rest := []) E (hml.trans hl.1.symm) hI (c_X11_none l X σ a (5 : Int32) ha) kv_X11_109 ha ⟨rfl, by decide⟩ (show vwCl[10]? = some (RX11, TX11, 17) from rfl) rfl ⟨Nat.le_of_ble_eq_true rfl, Nat.le_of_ble_eq_true rfl⟩ ⟨Nat.le_refl _, Nat.le_refl _⟩ rfl (Nat.le_of_ble_eq_true rfl) dX11_sorts_11) hI (by decide) (fun r_3 σ_4 H locs hpσ_4 hkσ_4 hI => ?_)
    obtain ⟨ahpσ_4, bhpσ_4, chpσ_4⟩ := hpσ_4
    have fr_σ_4 := fr_σ.call chpσ_4 rfl rfl
    replace hF := q_biX hF bhpσ_4
    exact q_reti E hr hlk hI ⟨(hF.trans hout), fr_σ_4⟩ dX11_sorts_14
  · skip
    replace hF := q_ifn hF (Int.not_lt.mpr c_1)
    refine lv_iload_n hx hb dX11_sorts_4 rfl (lv_at hl 1 rfl) ?_
    refine lv_iconst (v := 2) hx hb dX11_sorts_5 (by decide) ?_
    have gc_5_v1 := q_rng v1
    refine q_icmp_le (A := v1.toInt) (B := 2) E rfl (by decide) (tgt := 15) dX11_sorts_6 (by decide) (fun c_5 => ?_) (fun c_5 => ?_)
    · skip
      replace hF := q_ifn hF (Int.not_lt.mpr c_5)
      refine lv_iconst (v := 0) hx hb dX11_sorts_15 (by decide) ?_
      refine lv_istore_n (lv' := [(2, .int 0), (0, .ref a), (1, .int v1)]) hx hb dX11_sorts_16 rfl hl (by decide) rfl (fun ls hl => ?_)
      refine lv_iconst (v := 0) hx hb dX11_sorts_17 (by decide) ?_
      refine lv_istore_n (lv' := [(3, .int 0), (2, .int 0), (0, .ref a), (1, .int v1)]) hx hb dX11_sorts_18 rfl hl (by decide) rfl (fun ls hl => ?_)
      have L_19_8 : ∀ (k_8 : Nat) (x_6 : Int32) (x_7 : Int32) (H : Heap) (locs : List Loc) (ls : Array Slot), (2147483647 - x_7.toInt).toNat < k_8 → (0 ≤ x_7.toInt) → (F_X11_sorts_L19_1 X σ a v1 k_8 x_6 x_7 = out) → q_I X 8 σ s.heap locs σ H → lv_has ls 4 [(0, .ref a), (1, .int v1), (2, .int x_6), (3, .int x_7)] → W p l e (q_rm 2 44) s m ([.ref a, .int v1] : List Value).toArray below meth c H locs 0 0 (MQ below (q_Qi X 8 σ (fun (r : Int32) (σ' : ST) => (r, σ') = F_X11_sorts X σ a v1 ∧ q_ow [(11, 0)] [] X σ σ')) ([.ref a, .int v1] : List Value).toArray s 0 0 (q_reg X)) (F0 m 19 ls []) := by
        clear hF
        intro k_8
        induction k_8 with
        | zero =>
          intro x_6 x_7 H locs ls hms
          exact absurd hms (Nat.not_lt_zero _)
        | succ k_8 ih19 =>
          intro x_6 x_7 H locs ls hm19 hge19 hF hI hl
          replace hF := (F_X11_sorts_L19_1_s).symm.trans hF
          unfold F_X11_sorts_B19_1 at hF
          refine lv_iload_n hx hb dX11_sorts_19 rfl (lv_at hl 3 rfl) ?_
          refine lv_aload_n hx hb dX11_sorts_20 rfl (lv_at hl 0 rfl) ?_
          refine gs_X11_42_11 E hI ha dX11_sorts_21 ?_
          refine gs_X11_201_1 E hI (q_tk (k' := 1) hI ha rfl (by decide)) dX11_sorts_24 ?_
          refine gs_X11_216_3 E hI (q_tk (k' := 3) hI (q_tk (k' := 1) hI ha rfl (by decide)) rfl (by decide)) dX11_sorts_27 ?_
          refine lv_topi (fun f_9 ef_9 => ?_)
          replace hF := q_letX hF ef_9
          have gc_10_x_7 := q_rng x_7
          have gc_10_f_9 := q_rng f_9
          refine q_icmp_ge (A := x_7.toInt) (B := f_9.toInt) E rfl rfl (tgt := 57) dX11_sorts_30 (by decide) (fun c_10 => ?_) (fun c_10 => ?_)
          · skip
            replace hF := q_ifn hF (Int.not_lt.mpr c_10)
            unfold F_X11_sorts_E57_2 at hF
            refine lv_aload_n hx hb dX11_sorts_57 rfl (lv_at hl 0 rfl) ?_
            refine lv_iload_n hx hb dX11_sorts_58 rfl (lv_at hl 2 rfl) ?_
            refine q_ci (q_runV (As := [.int x_6]) (rest := []) E (hml.trans hl.1.symm) hI (c_X11_good l X σ a x_6 ha) kv_X11_156 ha ⟨rfl, by decide⟩ (show vwCl[10]? = some (RX11, TX11, 17) from rfl) rfl ⟨Nat.le_of_ble_eq_true rfl, Nat.le_of_ble_eq_true rfl⟩ ⟨Nat.le_refl _, Nat.le_refl _⟩ rfl (Nat.le_of_ble_eq_true rfl) dX11_sorts_59) hI (by decide) (fun r_11 σ_12 H locs hpσ_12 hkσ_12 hI => ?_)
            obtain ⟨ahpσ_12, bhpσ_12, chpσ_12⟩ := hpσ_12
            have fr_σ_12 := fr_σ.call chpσ_12 rfl rfl
            replace hF := q_biX hF bhpσ_12
            exact q_reti E hr hlk hI ⟨(hF.trans hout), fr_σ_12⟩ dX11_sorts_62
          · skip
            replace hF := q_ifp hF c_10
            refine lv_aload_n hx hb dX11_sorts_33 rfl (lv_at hl 0 rfl) ?_
            refine gs_X11_42_11 E hI ha dX11_sorts_34 ?_
            refine gs_X11_201_1 E hI (q_tk (k' := 1) hI ha rfl (by decide)) dX11_sorts_37 ?_
            refine lv_iload_n hx hb dX11_sorts_40 rfl (lv_at hl 3 rfl) ?_
            refine q_ci (q_runV (As := [.int x_7]) (rest := []) E (hml.trans hl.1.symm) hI (c_X2_truth l X σ (q_rf X (q_rf X a 8) 2) x_7 (q_tk (k' := 3) hI (q_tk (k' := 1) hI ha rfl (by decide)) rfl (by decide))) kv_X11_269 (q_tk (k' := 3) hI (q_tk (k' := 1) hI ha rfl (by decide)) rfl (by decide)) ⟨rfl, by decide⟩ (show vwCl[2]? = some (RX2, TX2, 6) from rfl) rfl ⟨Nat.le_of_ble_eq_true rfl, Nat.le_of_ble_eq_true rfl⟩ ⟨Nat.le_refl _, Nat.le_refl _⟩ rfl (Nat.le_of_ble_eq_true rfl) dX11_sorts_41) hI (by decide) (fun r_13 σ_14 H locs hpσ_14 hkσ_14 hI => ?_)
            obtain ⟨ahpσ_14, bhpσ_14⟩ := hpσ_14
            rw [ahpσ_14] at hI
            replace hF := q_letX hF bhpσ_14
            refine lv_iload_n hx hb dX11_sorts_44 rfl (lv_at hl 1 rfl) ?_
            have gc_15_r_13 := q_rng r_13
            have gc_15_v1 := q_rng v1
            refine q_icmp_ne (A := r_13.toInt) (B := v1.toInt) E rfl rfl (tgt := 51) dX11_sorts_45 (by decide) (fun c_15 => ?_) (fun c_15 => ?_)
            · skip
              replace hF := q_ifn hF c_15
              obtain ⟨z_16, ez_16⟩ : ∃ y : Int32, y = x_7 + 1 := ⟨_, rfl⟩
              replace hF := q_letX hF ez_16
              refine lv_iinc (v := z_16) (lv' := [(3, .int z_16), (0, .ref a), (1, .int v1), (2, .int x_6)]) hx hb dX11_sorts_51 hl (k := 3) rfl (by rw [ez_16]; rfl) (by decide) rfl (fun ls hl => ?_)
              have iz_16 : z_16.toInt = x_7.toInt + 1 := q_inc ez_16 (by omega)
              refine lv_goto (tgt := 19) hx hb dX11_sorts_54 (by decide) ?_
              exact ih19 x_6 z_16 _ _ ls (by omega) (by omega) hF hI (lv_sub hl [1, 2, 3, 0] rfl)
            · skip
              replace hF := q_ifp hF c_15
              obtain ⟨z_17, ez_17⟩ : ∃ y : Int32, y = x_6 + 1 := ⟨_, rfl⟩
              replace hF := q_letX hF ez_17
              refine lv_iinc (v := z_17) (lv' := [(2, .int z_17), (0, .ref a), (1, .int v1), (3, .int x_7)]) hx hb dX11_sorts_48 hl (k := 2) rfl (by rw [ez_17]; rfl) (by decide) rfl (fun ls hl => ?_)
              obtain ⟨z_18, ez_18⟩ : ∃ y : Int32, y = x_7 + 1 := ⟨_, rfl⟩
              replace hF := q_letX hF ez_18
              refine lv_iinc (v := z_18) (lv' := [(3, .int z_18), (2, .int z_17), (0, .ref a), (1, .int v1)]) hx hb dX11_sorts_51 hl (k := 3) rfl (by rw [ez_18]; rfl) (by decide) rfl (fun ls hl => ?_)
              have iz_18 : z_18.toInt = x_7.toInt + 1 := q_inc ez_18 (by omega)
              refine lv_goto (tgt := 19) hx hb dX11_sorts_54 (by decide) ?_
              exact ih19 z_17 z_18 _ _ ls (by omega) (by omega) hF hI (lv_sub hl [2, 3, 1, 0] rfl)
      exact L_19_8 ((2147483647 - (0 : Int32).toInt).toNat + 1) 0 0 _ _ ls (Nat.lt_succ_self _) (by decide) hF hI (lv_sub hl [2, 3, 1, 0] rfl)
    · skip
      replace hF := q_ifp hF c_5
      refine lv_aload_n hx hb dX11_sorts_9 rfl (lv_at hl 0 rfl) ?_
      refine lv_iconst (v := 5) hx hb dX11_sorts_10 (by decide) ?_
      have kc_19 : (5 : Int32).toInt = 5 := rfl
      refine q_ci (q_runV (As := [.int 5]) (rest := []) E (hml.trans hl.1.symm) hI (c_X11_none l X σ a (5 : Int32) ha) kv_X11_109 ha ⟨rfl, by decide⟩ (show vwCl[10]? = some (RX11, TX11, 17) from rfl) rfl ⟨Nat.le_of_ble_eq_true rfl, Nat.le_of_ble_eq_true rfl⟩ ⟨Nat.le_refl _, Nat.le_refl _⟩ rfl (Nat.le_of_ble_eq_true rfl) dX11_sorts_11) hI (by decide) (fun r_20 σ_21 H locs hpσ_21 hkσ_21 hI => ?_)
      obtain ⟨ahpσ_21, bhpσ_21, chpσ_21⟩ := hpσ_21
      have fr_σ_21 := fr_σ.call chpσ_21 rfl rfl
      replace hF := q_biX hF bhpσ_21
      exact q_reti E hr hlk hI ⟨(hF.trans hout), fr_σ_21⟩ dX11_sorts_14
end
