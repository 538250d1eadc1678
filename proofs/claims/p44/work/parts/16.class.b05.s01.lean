section
set_option maxRecDepth 100000 in
set_option maxHeartbeats 4000000 in
theorem c_X11_fullest (l : Launch) (X : XW) (σ : ST) (a : Nat) (ha : q_kd X a = 11) : Met l yX11_fullest (q_ws yX11_fullest cX11_fullest 4 (some .int)) (q_rm 2 42) (q_P X σ [.ref a]) (q_Qi X 8 σ (fun (r : Int32) (σ' : ST) => (r, σ') = F_X11_fullest X σ a ∧ q_ow [(11, 0)] [] X σ σ')) 0 0 (q_reg X) := by
  refine q_met 8 (by first | exact rfl | decide +kernel) rfl (Nat.le_of_ble_eq_true rfl) (fun p e s m below meth c E hml hr hlk hI ls hl => ?_)
  have hx := E.1
  have hb := E.2.1
  have hl : lv_has ls 4 [(0, .ref a)] := hl
  have fr_σ : q_ow [(11, 0)] [] X σ σ := q_ow.rf
  obtain ⟨out, hout⟩ : ∃ o, o = F_X11_fullest X σ a := ⟨_, rfl⟩
  have hF := hout.symm
  unfold F_X11_fullest at hF
  refine lv_iconst (v := (-1)) hx hb dX11_fullest_0 (by decide) ?_
  refine lv_istore_n (lv' := [(1, .int (-1)), (0, .ref a)]) hx hb dX11_fullest_1 rfl hl (by decide) rfl (fun ls hl => ?_)
  refine lv_iconst (v := (-1)) hx hb dX11_fullest_2 (by decide) ?_
  refine lv_istore_n (lv' := [(2, .int (-1)), (1, .int (-1)), (0, .ref a)]) hx hb dX11_fullest_3 rfl hl (by decide) rfl (fun ls hl => ?_)
  refine lv_iconst (v := 0) hx hb dX11_fullest_4 (by decide) ?_
  refine lv_istore_n (lv' := [(3, .int 0), (2, .int (-1)), (1, .int (-1)), (0, .ref a)]) hx hb dX11_fullest_5 rfl hl (by decide) rfl (fun ls hl => ?_)
  have L_6_4 : ∀ (k_4 : Nat) (x_1 : Int32) (x_2 : Int32) (x_3 : Int32) (H : Heap) (locs : List Loc) (ls : Array Slot), (2147483647 - x_3.toInt).toNat < k_4 → (0 ≤ x_3.toInt) → (F_X11_fullest_L6_1 X σ a k_4 x_1 x_2 x_3 = out) → q_I X 8 σ s.heap locs σ H → lv_has ls 4 [(0, .ref a), (1, .int x_1), (2, .int x_2), (3, .int x_3)] → W p l e (q_rm 2 42) s m ([.ref a] : List Value).toArray below meth c H locs 0 0 (MQ below (q_Qi X 8 σ (fun (r : Int32) (σ' : ST) => (r, σ') = F_X11_fullest X σ a ∧ q_ow [(11, 0)] [] X σ σ')) ([.ref a] : List Value).toArray s 0 0 (q_reg X)) (F0 m 6 ls []) := by
    clear hF
    intro k_4
    induction k_4 with
    | zero =>
      intro x_1 x_2 x_3 H locs ls hms
      exact absurd hms (Nat.not_lt_zero _)
    | succ k_4 ih6 =>
      intro x_1 x_2 x_3 H locs ls hm6 hge6 hF hI hl
      replace hF := (F_X11_fullest_L6_1_s).symm.trans hF
      unfold F_X11_fullest_B6_1 at hF
      refine lv_iload_n hx hb dX11_fullest_6 rfl (lv_at hl 3 rfl) ?_
      refine lv_aload_n hx hb dX11_fullest_7 rfl (lv_at hl 0 rfl) ?_
      refine gs_X11_42_11 E hI ha dX11_fullest_8 ?_
      refine gs_X11_147_1 E hI (q_tk (k' := 1) hI ha rfl (by decide)) dX11_fullest_11 ?_
      refine gs_X11_151_6 E hI (q_tk (k' := 6) hI (q_tk (k' := 1) hI ha rfl (by decide)) rfl (by decide)) dX11_fullest_14 ?_
      refine lv_topi (fun f_5 ef_5 => ?_)
      replace hF := q_letX hF ef_5
      have gc_6_x_3 := q_rng x_3
      have gc_6_f_5 := q_rng f_5
      refine q_icmp_ge (A := x_3.toInt) (B := f_5.toInt) E rfl rfl (tgt := 61) dX11_fullest_17 (by decide) (fun c_6 => ?_) (fun c_6 => ?_)
      · skip
        replace hF := q_ifn hF (Int.not_lt.mpr c_6)
        unfold F_X11_fullest_E61_2 at hF
        refine lv_aload_n hx hb dX11_fullest_61 rfl (lv_at hl 0 rfl) ?_
        refine lv_iload_n hx hb dX11_fullest_62 rfl (lv_at hl 1 rfl) ?_
        refine q_ci (q_runV (As := [.int x_1]) (rest := []) E (hml.trans hl.1.symm) hI (c_X11_goodOrNotThere l X σ a x_1 ha) kv_X11_366 ha ⟨rfl, by decide⟩ (show vwCl[10]? = some (RX11, TX11, 17) from rfl) rfl ⟨Nat.le_of_ble_eq_true rfl, Nat.le_of_ble_eq_true rfl⟩ ⟨Nat.le_refl _, Nat.le_refl _⟩ rfl (Nat.le_of_ble_eq_true rfl) dX11_fullest_63) hI (by decide) (fun r_7 σ_8 H locs hpσ_8 hkσ_8 hI => ?_)
        obtain ⟨ahpσ_8, bhpσ_8⟩ := hpσ_8
        have fr_σ_8 := fr_σ.call bhpσ_8 rfl rfl
        replace hF := q_biX hF ahpσ_8
        exact q_reti E hr hlk hI ⟨(hF.trans hout), fr_σ_8⟩ dX11_fullest_66
      · skip
        replace hF := q_ifp hF c_6
        refine lv_aload_n hx hb dX11_fullest_20 rfl (lv_at hl 0 rfl) ?_
        refine gs_X11_42_11 E hI ha dX11_fullest_21 ?_
        refine gs_X11_222_1 E hI (q_tk (k' := 1) hI ha rfl (by decide)) dX11_fullest_24 ?_
        refine gs_X11_239_2 E hI (q_tk (k' := 2) hI (q_tk (k' := 1) hI ha rfl (by decide)) rfl (by decide)) dX11_fullest_27 ?_
        refine lv_iload_n hx hb dX11_fullest_30 rfl (lv_at hl 3 rfl) ?_
        refine q_ci (q_runV (As := [.int x_3]) (rest := []) E (hml.trans hl.1.symm) hI (c_X5_get l X σ (q_rf X (q_rf X (q_rf X a 8) 1) 2) x_3 (q_tk (k' := 5) hI (q_tk (k' := 2) hI (q_tk (k' := 1) hI ha rfl (by decide)) rfl (by decide)) rfl (by decide))) kv_X11_232 (q_tk (k' := 5) hI (q_tk (k' := 2) hI (q_tk (k' := 1) hI ha rfl (by decide)) rfl (by decide)) rfl (by decide)) ⟨rfl, by decide⟩ (show vwCl[4]? = some (RX5, TX5, 1) from rfl) rfl ⟨Nat.le_of_ble_eq_true rfl, Nat.le_of_ble_eq_true rfl⟩ ⟨Nat.le_refl _, Nat.le_refl _⟩ rfl (Nat.le_of_ble_eq_true rfl) dX11_fullest_31) hI (by decide) (fun r_9 σ_10 H locs hpσ_10 hkσ_10 hI => ?_)
        obtain ⟨ahpσ_10, bhpσ_10⟩ := hpσ_10
        rw [ahpσ_10] at hI
        replace hF := q_letX hF bhpσ_10
        refine lv_iload_n hx hb dX11_fullest_34 rfl (lv_at hl 2 rfl) ?_
        have gc_11_r_9 := q_rng r_9
        have gc_11_x_2 := q_rng x_2
        refine q_icmp_le (A := r_9.toInt) (B := x_2.toInt) E rfl rfl (tgt := 55) dX11_fullest_35 (by decide) (fun c_11 => ?_) (fun c_11 => ?_)
        · skip
          replace hF := q_ifn hF (Int.not_lt.mpr c_11)
          obtain ⟨z_12, ez_12⟩ : ∃ y : Int32, y = x_3 + 1 := ⟨_, rfl⟩
          replace hF := q_letX hF ez_12
          refine lv_iinc (v := z_12) (lv' := [(3, .int z_12), (0, .ref a), (1, .int x_1), (2, .int x_2)]) hx hb dX11_fullest_55 hl (k := 3) rfl (by rw [ez_12]; rfl) (by decide) rfl (fun ls hl => ?_)
          have iz_12 : z_12.toInt = x_3.toInt + 1 := q_inc ez_12 (by omega)
          refine lv_goto (tgt := 6) hx hb dX11_fullest_58 (by decide) ?_
          exact ih6 x_1 x_2 z_12 _ _ ls (by omega) (by omega) hF hI (lv_sub hl [1, 2, 3, 0] rfl)
        · skip
          replace hF := q_ifp hF c_11
          refine lv_aload_n hx hb dX11_fullest_38 rfl (lv_at hl 0 rfl) ?_
          refine gs_X11_42_11 E hI ha dX11_fullest_39 ?_
          refine gs_X11_222_1 E hI (q_tk (k' := 1) hI ha rfl (by decide)) dX11_fullest_42 ?_
          refine gs_X11_239_2 E hI (q_tk (k' := 2) hI (q_tk (k' := 1) hI ha rfl (by decide)) rfl (by decide)) dX11_fullest_45 ?_
          refine lv_iload_n hx hb dX11_fullest_48 rfl (lv_at hl 3 rfl) ?_
          refine q_ci (q_runV (As := [.int x_3]) (rest := []) E (hml.trans hl.1.symm) hI (c_X5_get l X σ (q_rf X (q_rf X (q_rf X a 8) 1) 2) x_3 (q_tk (k' := 5) hI (q_tk (k' := 2) hI (q_tk (k' := 1) hI ha rfl (by decide)) rfl (by decide)) rfl (by decide))) kv_X11_232 (q_tk (k' := 5) hI (q_tk (k' := 2) hI (q_tk (k' := 1) hI ha rfl (by decide)) rfl (by decide)) rfl (by decide)) ⟨rfl, by decide⟩ (show vwCl[4]? = some (RX5, TX5, 1) from rfl) rfl ⟨Nat.le_of_ble_eq_true rfl, Nat.le_of_ble_eq_true rfl⟩ ⟨Nat.le_refl _, Nat.le_refl _⟩ rfl (Nat.le_of_ble_eq_true rfl) dX11_fullest_49) hI (by decide) (fun r_13 σ_14 H locs hpσ_14 hkσ_14 hI => ?_)
          obtain ⟨ahpσ_14, bhpσ_14⟩ := hpσ_14
          rw [ahpσ_14] at hI
          replace hF := q_letX hF bhpσ_14
          refine lv_istore_n (lv' := [(2, .int r_13), (0, .ref a), (1, .int x_1), (3, .int x_3)]) hx hb dX11_fullest_52 rfl hl (by decide) rfl (fun ls hl => ?_)
          refine lv_iload_n hx hb dX11_fullest_53 rfl (lv_at hl 3 rfl) ?_
          refine lv_istore_n (lv' := [(1, .int x_3), (2, .int r_13), (0, .ref a), (3, .int x_3)]) hx hb dX11_fullest_54 rfl hl (by decide) rfl (fun ls hl => ?_)
          obtain ⟨z_15, ez_15⟩ : ∃ y : Int32, y = x_3 + 1 := ⟨_, rfl⟩
          replace hF := q_letX hF ez_15
          refine lv_iinc (v := z_15) (lv' := [(3, .int z_15), (1, .int x_3), (2, .int r_13), (0, .ref a)]) hx hb dX11_fullest_55 hl (k := 3) rfl (by rw [ez_15]; rfl) (by decide) rfl (fun ls hl => ?_)
          have iz_15 : z_15.toInt = x_3.toInt + 1 := q_inc ez_15 (by omega)
          refine lv_goto (tgt := 6) hx hb dX11_fullest_58 (by decide) ?_
          exact ih6 x_3 r_13 z_15 _ _ ls (by omega) (by omega) hF hI (lv_sub hl [3, 1, 2, 0] rfl)
  exact L_6_4 ((2147483647 - (0 : Int32).toInt).toNat + 1) (-1) (-1) 0 _ _ ls (Nat.lt_succ_self _) (by decide) hF hI (lv_sub hl [3, 2, 1, 0] rfl)
end
