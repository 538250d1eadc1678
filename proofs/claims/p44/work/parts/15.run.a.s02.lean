section
set_option maxRecDepth 100000 in
set_option maxHeartbeats 4000000 in
theorem c_X7_draw (l : Launch) (X : XW) (σ : ST) (a : Nat) (ha : q_kd X a = 7) : Met l yX7_draw (q_ws yX7_draw cX7_draw 1 (some .int)) (q_rm 0 0) (q_P X σ [.ref a]) (q_Qi X 8 σ (fun (r : Int32) (σ' : ST) => (r, σ') = F_X7_draw X σ a ∧ q_ow [(7, 6)] [] X σ σ')) 0 0 (q_reg X) := by
  refine q_met 8 (by first | exact rfl | decide +kernel) rfl (Nat.le_of_ble_eq_true rfl) (fun p e s m below meth c E hml hr hlk hI ls hl => ?_)
  have hx := E.1
  have hb := E.2.1
  have hl : lv_has ls 1 [(0, .ref a)] := hl
  have fr_σ : q_ow [(7, 6)] [] X σ σ := q_ow.rf
  obtain ⟨out, hout⟩ : ∃ o, o = F_X7_draw X σ a := ⟨_, rfl⟩
  have hF := hout.symm
  unfold F_X7_draw at hF
  refine lv_aload_n hx hb dX7_draw_0 rfl (lv_at hl 0 rfl) ?_
  refine lv_aload_n hx hb dX7_draw_1 rfl (lv_at hl 0 rfl) ?_
  refine gs_X7_31_7 E hI ha dX7_draw_2 ?_
  refine lv_topi (fun f_1 ef_1 => ?_)
  replace hF := q_letX hF ef_1
  refine lv_sipush (v := 2861) hx hb dX7_draw_5 (by decide) ?_
  refine lv_imul hx hb dX7_draw_8 ?_
  refine lv_topi (fun z_2 ez_2 => ?_)
  replace hF := q_letX hF ez_2
  refine lv_sipush (v := 10259) hx hb dX7_draw_9 (by decide) ?_
  refine lv_iadd hx hb dX7_draw_12 ?_
  refine lv_topi (fun z_3 ez_3 => ?_)
  replace hF := q_letX hF ez_3
  refine lv_ldc (v := 65536) hx hb E.2.2.1 (E.2.2.2.1 _ (q_in_t6 (i := 172) (by first | rfl | decide +kernel) rfl)) dX7_draw_13 ?_
  refine lv_irem hx hb dX7_draw_15 (by decide) ?_
  refine lv_topi (fun z_4 ez_4 => ?_)
  replace hF := q_letX hF (ez_4.trans (q_remI _ _))
  refine ps_X7_31_7 E hI ha (by decide) dX7_draw_16 (fun H locs σ_5 hσ_5 hI => ?_)
  replace hF := q_letX hF hσ_5
  have fr_σ_5 := fr_σ.si hσ_5 ha rfl
  refine lv_aload_n hx hb dX7_draw_19 rfl (lv_at hl 0 rfl) ?_
  refine gs_X7_31_7 E hI ha dX7_draw_20 ?_
  refine lv_topi (fun f_6 ef_6 => ?_)
  replace hF := q_letX hF ef_6
  refine lv_bipush (v := 8) hx hb dX7_draw_23 (by decide) ?_
  refine lv_idiv hx hb dX7_draw_25 (by decide) ?_
  refine lv_topi (fun z_7 ez_7 => ?_)
  replace hF := q_letX hF ez_7
  refine lv_bipush (v := 16) hx hb dX7_draw_26 (by decide) ?_
  refine lv_irem hx hb dX7_draw_28 (by decide) ?_
  refine lv_topi (fun z_8 ez_8 => ?_)
  replace hF := q_letX hF (ez_8.trans (q_remI _ _))
  exact q_reti E hr hlk hI ⟨(hF.trans hout), fr_σ_5⟩ dX7_draw_29

set_option maxRecDepth 100000 in
set_option maxHeartbeats 4000000 in
theorem c_X7_fullestOther (l : Launch) (X : XW) (σ : ST) (r0 : Nat) (hr0 : q_kd X r0 = 1) : Met l yX7_fullestOther (q_ws yX7_fullestOther cX7_fullestOther 5 (some .int)) (q_rm 2 43) (q_P X σ [.ref r0]) (q_Qi X 9 σ (fun (r : Int32) (σ' : ST) => σ' = σ ∧ r = F_X7_fullestOther X σ r0)) 0 0 (q_reg X) := by
  refine q_met 9 (by first | exact rfl | decide +kernel) rfl (Nat.le_of_ble_eq_true rfl) (fun p e s m below meth c E hml hr hlk hI ls hl => ?_)
  have hx := E.1
  have hb := E.2.1
  have hl : lv_has ls 5 [(0, .ref r0)] := hl
  obtain ⟨out, hout⟩ : ∃ o, o = F_X7_fullestOther X σ r0 := ⟨_, rfl⟩
  have hF := hout.symm
  unfold F_X7_fullestOther at hF
  refine lv_iconst (v := (-1)) hx hb dX7_fullestOther_0 (by decide) ?_
  refine lv_istore_n (lv' := [(1, .int (-1)), (0, .ref r0)]) hx hb dX7_fullestOther_1 rfl hl (by decide) rfl (fun ls hl => ?_)
  refine lv_iconst (v := 0) hx hb dX7_fullestOther_2 (by decide) ?_
  refine lv_istore_n (lv' := [(2, .int 0), (1, .int (-1)), (0, .ref r0)]) hx hb dX7_fullestOther_3 rfl hl (by decide) rfl (fun ls hl => ?_)
  refine lv_iconst (v := 0) hx hb dX7_fullestOther_4 (by decide) ?_
  refine lv_istore_n (lv' := [(3, .int 0), (2, .int 0), (1, .int (-1)), (0, .ref r0)]) hx hb dX7_fullestOther_5 rfl hl (by decide) rfl (fun ls hl => ?_)
  have L_6_4 : ∀ (k_4 : Nat) (x_1 : Int32) (x_2 : Int32) (x_3 : Int32) (H : Heap) (locs : List Loc) (ls : Array Slot), (2147483647 - x_3.toInt).toNat < k_4 → (0 ≤ x_3.toInt) → (F_X7_fullestOther_L6_1 X σ r0 k_4 x_1 x_2 x_3 = out) → q_I X 9 σ s.heap locs σ H → lv_has ls 5 [(0, .ref r0), (1, .int x_1), (2, .int x_2), (3, .int x_3)] → W p l e (q_rm 2 43) s m ([.ref r0] : List Value).toArray below meth c H locs 0 0 (MQ below (q_Qi X 9 σ (fun (r : Int32) (σ' : ST) => σ' = σ ∧ r = F_X7_fullestOther X σ r0)) ([.ref r0] : List Value).toArray s 0 0 (q_reg X)) (F0 m 6 ls []) := by
    clear hF
    intro k_4
    induction k_4 with
    | zero =>
      intro x_1 x_2 x_3 H locs ls hms
      exact absurd hms (Nat.not_lt_zero _)
    | succ k_4 ih6 =>
      intro x_1 x_2 x_3 H locs ls hm6 hge6 hF hI hl
      replace hF := (F_X7_fullestOther_L6_1_s).symm.trans hF
      unfold F_X7_fullestOther_B6_1 at hF
      refine lv_iload_n hx hb dX7_fullestOther_6 rfl (lv_at hl 3 rfl) ?_
      refine lv_aload_n hx hb dX7_fullestOther_7 rfl (lv_at hl 0 rfl) ?_
      refine gs_X7_129_1 E hI hr0 dX7_fullestOther_8 ?_
      refine gs_X7_185_6 E hI (q_tk (k' := 6) hI hr0 rfl (by decide)) dX7_fullestOther_11 ?_
      refine lv_topi (fun f_5 ef_5 => ?_)
      replace hF := q_letX hF ef_5
      have bf_5 : -2147483648 ≤ f_5.toInt ∧ f_5.toInt ≤ 10 := by rw [ef_5]; exact q_bd hI (q_tk (k' := 6) hI hr0 rfl (by decide)) rfl
      have gc_6_x_3 := q_rng x_3
      have gc_6_f_5 := q_rng f_5
      refine q_icmp_ge (A := x_3.toInt) (B := f_5.toInt) E rfl rfl (tgt := 56) dX7_fullestOther_14 (by decide) (fun c_6 => ?_) (fun c_6 => ?_)
      · skip
        replace hF := q_ifn hF (Int.not_lt.mpr c_6)
        skip
        refine lv_iload_n hx hb dX7_fullestOther_56 rfl (lv_at hl 1 rfl) ?_
        exact q_reti E hr hlk hI ⟨rfl, (hF.trans hout)⟩ dX7_fullestOther_57
      · skip
        replace hF := q_ifp hF c_6
        refine lv_aload_n hx hb dX7_fullestOther_17 rfl (lv_at hl 0 rfl) ?_
        refine gs_X7_77_1 E hI hr0 dX7_fullestOther_18 ?_
        refine lv_aload_n hx hb dX7_fullestOther_21 rfl (lv_at hl 0 rfl) ?_
        refine gs_X7_138_1 E hI hr0 dX7_fullestOther_22 ?_
        refine lv_topi (fun f_7 ef_7 => ?_)
        replace hF := q_letX hF ef_7
        refine lv_iload_n hx hb dX7_fullestOther_25 rfl (lv_at hl 3 rfl) ?_
        refine q_ci (q_runV (As := [.int f_7, .int x_3]) (rest := []) E (hml.trans hl.1.symm) hI (c_X1_heldBy l X σ (q_rf X r0 1) f_7 x_3 (q_tk (k' := 2) hI hr0 rfl (by decide))) kv_X7_161 (q_tk (k' := 2) hI hr0 rfl (by decide)) ⟨rfl, by decide⟩ (show vwCl[1]? = some (RX1, TX1, 7) from rfl) rfl ⟨Nat.le_of_ble_eq_true rfl, Nat.le_of_ble_eq_true rfl⟩ ⟨Nat.le_refl _, Nat.le_refl _⟩ rfl (Nat.le_of_ble_eq_true rfl) dX7_fullestOther_26) hI (by decide) (fun r_8 σ_9 H locs hpσ_9 hkσ_9 hI => ?_)
        obtain ⟨ahpσ_9, bhpσ_9⟩ := hpσ_9
        rw [ahpσ_9] at hI
        replace hF := q_letX hF bhpσ_9
        refine lv_istore (lv' := [(4, .int r_8), (0, .ref r0), (1, .int x_1), (2, .int x_2), (3, .int x_3)]) hx hb dX7_fullestOther_29 hl (by decide) rfl (fun ls hl => ?_)
        refine lv_iload_n hx hb dX7_fullestOther_31 rfl (lv_at hl 4 rfl) ?_
        refine lv_aload_n hx hb dX7_fullestOther_32 rfl (lv_at hl 1 rfl) ?_
        refine gs_X7_158_1 E hI hr0 dX7_fullestOther_33 ?_
        refine lv_topi (fun f_10 ef_10 => ?_)
        replace hF := q_letX hF ef_10
        have gc_11_x_3 := q_rng x_3
        have gc_11_f_10 := q_rng f_10
        refine q_icmp_eq (A := x_3.toInt) (B := f_10.toInt) E rfl rfl (tgt := 50) dX7_fullestOther_36 (by decide) (fun c_11 => ?_) (fun c_11 => ?_)
        · skip
          replace hF := q_ifp hF c_11
          obtain ⟨z_12, ez_12⟩ : ∃ y : Int32, y = x_3 + 1 := ⟨_, rfl⟩
          replace hF := q_letX hF ez_12
          refine lv_iinc (v := z_12) (lv' := [(3, .int z_12), (4, .int r_8), (0, .ref r0), (1, .int x_1), (2, .int x_2)]) hx hb dX7_fullestOther_50 hl (k := 4) rfl (by rw [ez_12]; rfl) (by decide) rfl (fun ls hl => ?_)
          have iz_12 : z_12.toInt = x_3.toInt + 1 := q_inc ez_12 (by omega)
          refine lv_goto (tgt := 6) hx hb dX7_fullestOther_53 (by decide) ?_
          exact ih6 x_1 x_2 z_12 _ _ ls (by omega) (by omega) hF hI (lv_sub hl [2, 3, 4, 0] rfl)
        · skip
          replace hF := q_ifn hF c_11
          refine lv_iload hx hb dX7_fullestOther_39 (lv_at hl 0 rfl) ?_
          refine lv_iload_n hx hb dX7_fullestOther_41 rfl (lv_at hl 3 rfl) ?_
          have gc_13_r_8 := q_rng r_8
          have gc_13_x_2 := q_rng x_2
          refine q_icmp_le (A := r_8.toInt) (B := x_2.toInt) E rfl rfl (tgt := 50) dX7_fullestOther_42 (by decide) (fun c_13 => ?_) (fun c_13 => ?_)
          · skip
            replace hF := q_ifn hF (Int.not_lt.mpr c_13)
            obtain ⟨z_14, ez_14⟩ : ∃ y : Int32, y = x_3 + 1 := ⟨_, rfl⟩
            replace hF := q_letX hF ez_14
            refine lv_iinc (v := z_14) (lv' := [(3, .int z_14), (4, .int r_8), (0, .ref r0), (1, .int x_1), (2, .int x_2)]) hx hb dX7_fullestOther_50 hl (k := 4) rfl (by rw [ez_14]; rfl) (by decide) rfl (fun ls hl => ?_)
            have iz_14 : z_14.toInt = x_3.toInt + 1 := q_inc ez_14 (by omega)
            refine lv_goto (tgt := 6) hx hb dX7_fullestOther_53 (by decide) ?_
            exact ih6 x_1 x_2 z_14 _ _ ls (by omega) (by omega) hF hI (lv_sub hl [2, 3, 4, 0] rfl)
          · skip
            replace hF := q_ifp hF c_13
            refine lv_iload hx hb dX7_fullestOther_45 (lv_at hl 0 rfl) ?_
            refine lv_istore_n (lv' := [(2, .int r_8), (4, .int r_8), (0, .ref r0), (1, .int x_1), (3, .int x_3)]) hx hb dX7_fullestOther_47 rfl hl (by decide) rfl (fun ls hl => ?_)
            refine lv_iload_n hx hb dX7_fullestOther_48 rfl (lv_at hl 4 rfl) ?_
            refine lv_istore_n (lv' := [(1, .int x_3), (2, .int r_8), (4, .int r_8), (0, .ref r0), (3, .int x_3)]) hx hb dX7_fullestOther_49 rfl hl (by decide) rfl (fun ls hl => ?_)
            obtain ⟨z_15, ez_15⟩ : ∃ y : Int32, y = x_3 + 1 := ⟨_, rfl⟩
            replace hF := q_letX hF ez_15
            refine lv_iinc (v := z_15) (lv' := [(3, .int z_15), (1, .int x_3), (2, .int r_8), (4, .int r_8), (0, .ref r0)]) hx hb dX7_fullestOther_50 hl (k := 4) rfl (by rw [ez_15]; rfl) (by decide) rfl (fun ls hl => ?_)
            have iz_15 : z_15.toInt = x_3.toInt + 1 := q_inc ez_15 (by omega)
            refine lv_goto (tgt := 6) hx hb dX7_fullestOther_53 (by decide) ?_
            exact ih6 x_3 r_8 z_15 _ _ ls (by omega) (by omega) hF hI (lv_sub hl [4, 1, 2, 0] rfl)
  exact L_6_4 ((2147483647 - (0 : Int32).toInt).toNat + 1) (-1) 0 0 _ _ ls (Nat.lt_succ_self _) (by decide) hF hI (lv_sub hl [3, 2, 1, 0] rfl)
end
