set_option maxRecDepth 100000 in
set_option maxHeartbeats 4000000 in
theorem c_J9_max_7cf53 (l : Launch) (X : XW) (σ : ST) (v0 : Int32) (v1 : Int32) : Met l yJ9_max_7cf53 (q_ws yJ9_max_7cf53 cJ9_max_7cf53 2 (some .int)) (q_rm 0 0) (q_P X σ [.int v0, .int v1]) (q_Qi X 9 σ (fun (r : Int32) (σ' : ST) => σ' = σ ∧ (r.toInt = max v0.toInt v1.toInt))) 0 0 (q_reg X) := by
  refine q_met 9 (by decide +kernel) rfl (Nat.le_of_ble_eq_true rfl) (fun p e s m below meth c E hml hr hlk hI ls hl => ?_)
  have hx := E.1
  have hb := E.2.1
  have hl : lv_has ls 2 [(0, .int v0), (1, .int v1)] := hl
  refine lv_iload_n hx hb dJ9_max_7cf53_0 rfl (lv_at hl 0 rfl) ?_
  refine lv_iload_n hx hb dJ9_max_7cf53_1 rfl (lv_at hl 1 rfl) ?_
  refine q_icmp_lt (A := v0.toInt) (B := v1.toInt) E rfl rfl (tgt := 9) dJ9_max_7cf53_2 (by decide) (fun c_1 => ?_) (fun c_1 => ?_)
  · skip
    refine lv_iload_n hx hb dJ9_max_7cf53_9 rfl (lv_at hl 1 rfl) ?_
    exact q_reti E hr hlk hI ⟨rfl, (by omega)⟩ dJ9_max_7cf53_10
  · skip
    refine lv_iload_n hx hb dJ9_max_7cf53_5 rfl (lv_at hl 0 rfl) ?_
    refine lv_goto (tgt := 10) hx hb dJ9_max_7cf53_6 (by decide) ?_
    exact q_reti E hr hlk hI ⟨rfl, (by omega)⟩ dJ9_max_7cf53_10

set_option maxRecDepth 100000 in
set_option maxHeartbeats 4000000 in
theorem c_J9_min_7cf53 (l : Launch) (X : XW) (σ : ST) (v0 : Int32) (v1 : Int32) : Met l yJ9_min_7cf53 (q_ws yJ9_min_7cf53 cJ9_min_7cf53 2 (some .int)) (q_rm 0 0) (q_P X σ [.int v0, .int v1]) (q_Qi X 9 σ (fun (r : Int32) (σ' : ST) => σ' = σ ∧ (r.toInt = min v0.toInt v1.toInt))) 0 0 (q_reg X) := by
  refine q_met 9 (by decide +kernel) rfl (Nat.le_of_ble_eq_true rfl) (fun p e s m below meth c E hml hr hlk hI ls hl => ?_)
  have hx := E.1
  have hb := E.2.1
  have hl : lv_has ls 2 [(0, .int v0), (1, .int v1)] := hl
  refine lv_iload_n hx hb dJ9_min_7cf53_0 rfl (lv_at hl 0 rfl) ?_
  refine lv_iload_n hx hb dJ9_min_7cf53_1 rfl (lv_at hl 1 rfl) ?_
  refine q_icmp_gt (A := v0.toInt) (B := v1.toInt) E rfl rfl (tgt := 9) dJ9_min_7cf53_2 (by decide) (fun c_1 => ?_) (fun c_1 => ?_)
  · skip
    refine lv_iload_n hx hb dJ9_min_7cf53_9 rfl (lv_at hl 1 rfl) ?_
    exact q_reti E hr hlk hI ⟨rfl, (by omega)⟩ dJ9_min_7cf53_10
  · skip
    refine lv_iload_n hx hb dJ9_min_7cf53_5 rfl (lv_at hl 0 rfl) ?_
    refine lv_goto (tgt := 10) hx hb dJ9_min_7cf53_6 (by decide) ?_
    exact q_reti E hr hlk hI ⟨rfl, (by omega)⟩ dJ9_min_7cf53_10

set_option maxRecDepth 100000 in
set_option maxHeartbeats 4000000 in
theorem c_X5_get (l : Launch) (X : XW) (σ : ST) (a : Nat) (v1 : Int32) (ha : q_kd X a = 5) : Met l yX5_get (q_ws yX5_get cX5_get 2 (some .int)) (q_rm 0 0) (q_P X σ [.ref a, .int v1]) (q_Qi X 1 σ (fun (r : Int32) (σ' : ST) => σ' = σ)) 0 0 (q_reg X) := by
  refine q_met 1 (by decide +kernel) rfl (Nat.le_of_ble_eq_true rfl) (fun p e s m below meth c E hml hr hlk hI ls hl => ?_)
  have hx := E.1
  have hb := E.2.1
  have hl : lv_has ls 2 [(0, .ref a), (1, .int v1)] := hl
  refine lv_iload_n hx hb dX5_get_0 rfl (lv_at hl 1 rfl) ?_
  refine q_if_lt (A := v1.toInt) E rfl (tgt := 22) dX5_get_1 (by decide) (fun c_1 => ?_) (fun c_1 => ?_)
  · skip
    refine lv_iconst (v := 0) hx hb dX5_get_22 (by decide) ?_
    exact q_reti E hr hlk hI rfl dX5_get_23
  · skip
    refine lv_iload_n hx hb dX5_get_4 rfl (lv_at hl 1 rfl) ?_
    refine lv_aload_n hx hb dX5_get_5 rfl (lv_at hl 0 rfl) ?_
    refine gs_X5_13_5 E hI ha dX5_get_6 ?_
    refine q_alen E hI (q_tk hI ha rfl (by decide)) (by decide) (t := 1) rfl rfl dX5_get_9 (fun n_2 hn_2 => ?_)
    refine q_icmp_ge (A := v1.toInt) (B := n_2.toInt) E rfl rfl (tgt := 22) dX5_get_10 (by decide) (fun c_3 => ?_) (fun c_3 => ?_)
    · skip
      refine lv_iconst (v := 0) hx hb dX5_get_22 (by decide) ?_
      exact q_reti E hr hlk hI rfl dX5_get_23
    · skip
      refine lv_aload_n hx hb dX5_get_13 rfl (lv_at hl 0 rfl) ?_
      refine gs_X5_13_5 E hI ha dX5_get_14 ?_
      refine lv_iload_n hx hb dX5_get_17 rfl (lv_at hl 1 rfl) ?_
      refine q_iald E hI (q_tk hI ha rfl (by decide)) ⟨by decide, rfl⟩ (by omega) (by omega) dX5_get_18 ?_
      refine lv_topi (fun f_4 ef_4 => ?_)
      refine lv_goto (tgt := 23) hx hb dX5_get_19 (by decide) ?_
      exact q_reti E hr hlk hI rfl dX5_get_23

set_option maxRecDepth 100000 in
set_option maxHeartbeats 4000000 in
theorem c_X5_set (l : Launch) (X : XW) (σ : ST) (a : Nat) (v1 : Int32) (v2 : Int32) (ha : q_kd X a = 5) : Met l yX5_set (q_ws yX5_set cX5_set 3 none) (q_rm 0 0) (q_P X σ [.ref a, .int v1, .int v2]) (q_Qv X 1 σ (fun (σ' : ST) => True)) 0 0 (q_reg X) := by
  refine q_met 1 (by decide +kernel) rfl (Nat.le_of_ble_eq_true rfl) (fun p e s m below meth c E hml hr hlk hI ls hl => ?_)
  have hx := E.1
  have hb := E.2.1
  have hl : lv_has ls 3 [(0, .ref a), (1, .int v1), (2, .int v2)] := hl
  refine lv_iload_n hx hb dX5_set_0 rfl (lv_at hl 1 rfl) ?_
  refine q_if_lt (A := v1.toInt) E rfl (tgt := 20) dX5_set_1 (by decide) (fun c_1 => ?_) (fun c_1 => ?_)
  · skip
    exact q_retv E hr hlk hI trivial dX5_set_20
  · skip
    refine lv_iload_n hx hb dX5_set_4 rfl (lv_at hl 1 rfl) ?_
    refine lv_aload_n hx hb dX5_set_5 rfl (lv_at hl 0 rfl) ?_
    refine gs_X5_13_5 E hI ha dX5_set_6 ?_
    refine q_alen E hI (q_tk hI ha rfl (by decide)) (by decide) (t := 1) rfl rfl dX5_set_9 (fun n_2 hn_2 => ?_)
    refine q_icmp_ge (A := v1.toInt) (B := n_2.toInt) E rfl rfl (tgt := 20) dX5_set_10 (by decide) (fun c_3 => ?_) (fun c_3 => ?_)
    · skip
      exact q_retv E hr hlk hI trivial dX5_set_20
    · skip
      refine lv_aload_n hx hb dX5_set_13 rfl (lv_at hl 0 rfl) ?_
      refine gs_X5_13_5 E hI ha dX5_set_14 ?_
      refine lv_iload_n hx hb dX5_set_17 rfl (lv_at hl 1 rfl) ?_
      refine lv_iload_n hx hb dX5_set_18 rfl (lv_at hl 2 rfl) ?_
      refine q_iastN E hI (q_tk hI ha rfl (by decide)) ⟨by decide, rfl⟩ (by omega) (by omega) (show 1 < 9 by decide) (q_inU rfl) dX5_set_19 (fun H locs σ_4 hσ_4 hI => ?_)
      exact q_retv E hr hlk hI trivial dX5_set_20

set_option maxRecDepth 100000 in
set_option maxHeartbeats 4000000 in
theorem c_X5_add (l : Launch) (X : XW) (σ : ST) (a : Nat) (v1 : Int32) (v2 : Int32) (ha : q_kd X a = 5) : Met l yX5_add (q_ws yX5_add cX5_add 3 none) (q_rm 0 0) (q_P X σ [.ref a, .int v1, .int v2]) (q_Qv X 1 σ (fun (σ' : ST) => True)) 0 0 (q_reg X) := by
  refine q_met 1 (by decide +kernel) rfl (Nat.le_of_ble_eq_true rfl) (fun p e s m below meth c E hml hr hlk hI ls hl => ?_)
  have hx := E.1
  have hb := E.2.1
  have hl : lv_has ls 3 [(0, .ref a), (1, .int v1), (2, .int v2)] := hl
  refine lv_iload_n hx hb dX5_add_0 rfl (lv_at hl 1 rfl) ?_
  refine q_if_lt (A := v1.toInt) E rfl (tgt := 23) dX5_add_1 (by decide) (fun c_1 => ?_) (fun c_1 => ?_)
  · skip
    exact q_retv E hr hlk hI trivial dX5_add_23
  · skip
    refine lv_iload_n hx hb dX5_add_4 rfl (lv_at hl 1 rfl) ?_
    refine lv_aload_n hx hb dX5_add_5 rfl (lv_at hl 0 rfl) ?_
    refine gs_X5_13_5 E hI ha dX5_add_6 ?_
    refine q_alen E hI (q_tk hI ha rfl (by decide)) (by decide) (t := 1) rfl rfl dX5_add_9 (fun n_2 hn_2 => ?_)
    refine q_icmp_ge (A := v1.toInt) (B := n_2.toInt) E rfl rfl (tgt := 23) dX5_add_10 (by decide) (fun c_3 => ?_) (fun c_3 => ?_)
    · skip
      exact q_retv E hr hlk hI trivial dX5_add_23
    · skip
      refine lv_aload_n hx hb dX5_add_13 rfl (lv_at hl 0 rfl) ?_
      refine gs_X5_13_5 E hI ha dX5_add_14 ?_
      refine lv_iload_n hx hb dX5_add_17 rfl (lv_at hl 1 rfl) ?_
      refine lv_dup2_11 hx hb dX5_add_18 rfl rfl ?_
      refine q_iald E hI (q_tk hI ha rfl (by decide)) ⟨by decide, rfl⟩ (by omega) (by omega) dX5_add_19 ?_
      refine lv_topi (fun f_4 ef_4 => ?_)
      refine lv_iload_n hx hb dX5_add_20 rfl (lv_at hl 2 rfl) ?_
      refine lv_iadd hx hb dX5_add_21 ?_
      refine lv_topi (fun z_5 ez_5 => ?_)
      refine q_iastN E hI (q_tk hI ha rfl (by decide)) ⟨by decide, rfl⟩ (by omega) (by omega) (show 1 < 9 by decide) (q_inU rfl) dX5_add_22 (fun H locs σ_6 hσ_6 hI => ?_)
      exact q_retv E hr hlk hI trivial dX5_add_23

set_option maxRecDepth 100000 in
set_option maxHeartbeats 4000000 in
theorem c_X5_sum (l : Launch) (X : XW) (σ : ST) (a : Nat) (v1 : Int32) (v2 : Int32) (ha : q_kd X a = 5) : Met l yX5_sum (q_ws yX5_sum cX5_sum 5 (some .int)) (q_rm 1 21) (q_P X σ [.ref a, .int v1, .int v2]) (q_Qi X 1 σ (fun (r : Int32) (σ' : ST) => σ' = σ)) 0 0 (q_reg X) := by
  refine q_met 1 (by decide +kernel) rfl (Nat.le_of_ble_eq_true rfl) (fun p e s m below meth c E hml hr hlk hI ls hl => ?_)
  have hx := E.1
  have hb := E.2.1
  have hl : lv_has ls 5 [(0, .ref a), (1, .int v1), (2, .int v2)] := hl
  refine lv_iconst (v := 0) hx hb dX5_sum_0 (by decide) ?_
  refine lv_istore_n (lv' := [(3, .int 0), (0, .ref a), (1, .int v1), (2, .int v2)]) hx hb dX5_sum_1 rfl hl (by decide) rfl (fun ls hl => ?_)
  refine lv_iload_n hx hb dX5_sum_2 rfl (lv_at hl 2 rfl) ?_
  refine lv_istore (lv' := [(4, .int v1), (3, .int 0), (0, .ref a), (1, .int v1), (2, .int v2)]) hx hb dX5_sum_3 hl (by decide) rfl (fun ls hl => ?_)
  have L_5_3 : ∀ (k_3 : Nat) (x_1 : Int32) (x_2 : Int32) (H : Heap) (locs : List Loc) (ls : Array Slot), (2147483647 - x_2.toInt).toNat < k_3 → q_I X 1 σ s.heap locs σ H → lv_has ls 5 [(0, .ref a), (1, .int v1), (2, .int v2), (3, .int x_1), (4, .int x_2)] → W p l e (q_rm 1 21) s m ([.ref a, .int v1, .int v2] : List Value).toArray below meth c H locs 0 0 (MQ below (q_Qi X 1 σ (fun (r : Int32) (σ' : ST) => σ' = σ)) ([.ref a, .int v1, .int v2] : List Value).toArray s 0 0 (q_reg X)) (F0 m 5 ls []) := by
    intro k_3
    induction k_3 with
    | zero =>
      intro x_1 x_2 H locs ls hms
      exact absurd hms (Nat.not_lt_zero _)
    | succ k_3 ih5 =>
      intro x_1 x_2 H locs ls hm5  hI hl
      refine lv_iload hx hb dX5_sum_5 (lv_at hl 4 rfl) ?_
      refine lv_iload_n hx hb dX5_sum_7 rfl (lv_at hl 1 rfl) ?_
      refine lv_iload_n hx hb dX5_sum_8 rfl (lv_at hl 2 rfl) ?_
      refine lv_iadd hx hb dX5_sum_9 ?_
      refine lv_topi (fun z_4 ez_4 => ?_)
      have gc_5_x_2 := q_rng x_2
      have gc_5_z_4 := q_rng z_4
      refine q_icmp_ge (A := x_2.toInt) (B := z_4.toInt) E rfl rfl (tgt := 28) dX5_sum_10 (by decide) (fun c_5 => ?_) (fun c_5 => ?_)
      · skip
        refine lv_iload_n hx hb dX5_sum_28 rfl (lv_at hl 3 rfl) ?_
        exact q_reti E hr hlk hI rfl dX5_sum_29
      · skip
        refine lv_iload_n hx hb dX5_sum_13 rfl (lv_at hl 3 rfl) ?_
        refine lv_aload_n hx hb dX5_sum_14 rfl (lv_at hl 0 rfl) ?_
        refine lv_iload hx hb dX5_sum_15 (lv_at hl 4 rfl) ?_
        refine q_ci (q_runV (As := [.int x_2]) (rest := [.int x_1]) E (hml.trans hl.1.symm) hI (c_X5_get l X σ a x_2 ha) kv_X5_19 ha ⟨rfl, by decide⟩ (show vwCl[4]? = some (RX5, TX5, 1) from rfl) rfl ⟨Nat.le_of_ble_eq_true rfl, Nat.le_of_ble_eq_true rfl⟩ ⟨Nat.le_refl _, Nat.le_refl _⟩ rfl (Nat.le_of_ble_eq_true rfl) dX5_sum_17) hI (by decide) (fun r_6 σ_7 H locs hpσ_7 hkσ_7 hI => ?_)
        have ahpσ_7 := hpσ_7
        rw [ahpσ_7] at hI
        refine lv_iadd hx hb dX5_sum_20 ?_
        refine lv_topi (fun z_8 ez_8 => ?_)
        refine lv_istore_n (lv' := [(3, .int z_8), (0, .ref a), (1, .int v1), (2, .int v2), (4, .int x_2)]) hx hb dX5_sum_21 rfl hl (by decide) rfl (fun ls hl => ?_)
        obtain ⟨z_9, ez_9⟩ : ∃ y : Int32, y = x_2 + 1 := ⟨_, rfl⟩
        refine lv_iinc (v := z_9) (lv' := [(4, .int z_9), (3, .int z_8), (0, .ref a), (1, .int v1), (2, .int v2)]) hx hb dX5_sum_22 hl (k := 4) rfl (by rw [ez_9]; rfl) (by decide) rfl (fun ls hl => ?_)
        have iz_9 : z_9.toInt = x_2.toInt + 1 := q_inc ez_9 (by omega)
        refine lv_goto (tgt := 5) hx hb dX5_sum_25 (by decide) ?_
        exact ih5 z_8 z_9 _ _ ls (by omega) hI (lv_sub hl [2, 3, 4, 1, 0] rfl)
  exact L_5_3 ((2147483647 - v1.toInt).toNat + 1) 0 v1 _ _ ls (Nat.lt_succ_self _) hI (lv_sub hl [2, 3, 4, 1, 0] rfl)

set_option maxRecDepth 100000 in
set_option maxHeartbeats 4000000 in
theorem c_X5_clear (l : Launch) (X : XW) (σ : ST) (a : Nat) (ha : q_kd X a = 5) : Met l yX5_clear (q_ws yX5_clear cX5_clear 2 none) (q_rm 0 0) (q_P X σ [.ref a]) (q_Qv X 1 σ (fun (σ' : ST) => True)) 0 0 (q_reg X) := by
  refine q_met 1 (by decide +kernel) rfl (Nat.le_of_ble_eq_true rfl) (fun p e s m below meth c E hml hr hlk hI ls hl => ?_)
  have hx := E.1
  have hb := E.2.1
  have hl : lv_has ls 2 [(0, .ref a)] := hl
  refine lv_iconst (v := 0) hx hb dX5_clear_0 (by decide) ?_
  refine lv_istore_n (lv' := [(1, .int 0), (0, .ref a)]) hx hb dX5_clear_1 rfl hl (by decide) rfl (fun ls hl => ?_)
  have L_2_3 : ∀ (k_3 : Nat) (x_1 : Int32) (σ_2 : ST) (H : Heap) (locs : List Loc) (ls : Array Slot), (2147483647 - x_1.toInt).toNat < k_3 → (0 ≤ x_1.toInt) → q_I X 1 σ s.heap locs σ_2 H → lv_has ls 2 [(0, .ref a), (1, .int x_1)] → W p l e (q_rm 0 0) s m ([.ref a] : List Value).toArray below meth c H locs 0 0 (MQ below (q_Qv X 1 σ (fun (σ' : ST) => True)) ([.ref a] : List Value).toArray s 0 0 (q_reg X)) (F0 m 2 ls []) := by
    intro k_3
    induction k_3 with
    | zero =>
      intro x_1 σ_2 H locs ls hms
      exact absurd hms (Nat.not_lt_zero _)
    | succ k_3 ih2 =>
      intro x_1 σ_2 H locs ls hm2 hge2 hI hl
      refine lv_iload_n hx hb dX5_clear_2 rfl (lv_at hl 1 rfl) ?_
      refine lv_aload_n hx hb dX5_clear_3 rfl (lv_at hl 0 rfl) ?_
      refine gs_X5_13_5 E hI ha dX5_clear_4 ?_
      refine q_alen E hI (q_tk hI ha rfl (by decide)) (by decide) (t := 1) rfl rfl dX5_clear_7 (fun n_4 hn_4 => ?_)
      have gc_5_x_1 := q_rng x_1
      have gc_5_n_4 := q_rng n_4
      refine q_icmp_ge (A := x_1.toInt) (B := n_4.toInt) E rfl rfl (tgt := 24) dX5_clear_8 (by decide) (fun c_5 => ?_) (fun c_5 => ?_)
      · skip
        exact q_retv E hr hlk hI trivial dX5_clear_24
      · skip
        refine lv_aload_n hx hb dX5_clear_11 rfl (lv_at hl 0 rfl) ?_
        refine gs_X5_13_5 E hI ha dX5_clear_12 ?_
        refine lv_iload_n hx hb dX5_clear_15 rfl (lv_at hl 1 rfl) ?_
        refine lv_iconst (v := 0) hx hb dX5_clear_16 (by decide) ?_
        refine q_iastN E hI (q_tk hI ha rfl (by decide)) ⟨by decide, rfl⟩ (by omega) (by omega) (show 1 < 9 by decide) (q_inU rfl) dX5_clear_17 (fun H locs σ_6 hσ_6 hI => ?_)
        obtain ⟨z_7, ez_7⟩ : ∃ y : Int32, y = x_1 + 1 := ⟨_, rfl⟩
        refine lv_iinc (v := z_7) (lv' := [(1, .int z_7), (0, .ref a)]) hx hb dX5_clear_18 hl (k := 1) rfl (by rw [ez_7]; rfl) (by decide) rfl (fun ls hl => ?_)
        have iz_7 : z_7.toInt = x_1.toInt + 1 := q_inc ez_7 (by omega)
        refine lv_goto (tgt := 2) hx hb dX5_clear_21 (by decide) ?_
        exact ih2 z_7 σ_6 _ _ ls (by omega) (by omega) hI (lv_sub hl [1, 0] rfl)
  exact L_2_3 ((2147483647 - (0 : Int32).toInt).toNat + 1) 0 σ _ _ ls (Nat.lt_succ_self _) (by decide) hI (lv_sub hl [1, 0] rfl)

set_option maxRecDepth 100000 in
set_option maxHeartbeats 4000000 in
theorem c_X5_copyFrom (l : Launch) (X : XW) (σ : ST) (a : Nat) (r1 : Nat) (ha : q_kd X a = 5) (hr1 : q_kd X r1 = 5) : Met l yX5_copyFrom (q_ws yX5_copyFrom cX5_copyFrom 3 none) (q_rm 0 0) (q_P X σ [.ref a, .ref r1]) (q_Qv X 1 σ (fun (σ' : ST) => True)) 0 0 (q_reg X) := by
  refine q_met 1 (by decide +kernel) rfl (Nat.le_of_ble_eq_true rfl) (fun p e s m below meth c E hml hr hlk hI ls hl => ?_)
  have hx := E.1
  have hb := E.2.1
  have hl : lv_has ls 3 [(0, .ref a), (1, .ref r1)] := hl
  refine lv_iconst (v := 0) hx hb dX5_copyFrom_0 (by decide) ?_
  refine lv_istore_n (lv' := [(2, .int 0), (0, .ref a), (1, .ref r1)]) hx hb dX5_copyFrom_1 rfl hl (by decide) rfl (fun ls hl => ?_)
  have L_2_3 : ∀ (k_3 : Nat) (x_1 : Int32) (σ_2 : ST) (H : Heap) (locs : List Loc) (ls : Array Slot), (2147483647 - x_1.toInt).toNat < k_3 → (0 ≤ x_1.toInt) → q_I X 1 σ s.heap locs σ_2 H → lv_has ls 3 [(0, .ref a), (1, .ref r1), (2, .int x_1)] → W p l e (q_rm 0 0) s m ([.ref a, .ref r1] : List Value).toArray below meth c H locs 0 0 (MQ below (q_Qv X 1 σ (fun (σ' : ST) => True)) ([.ref a, .ref r1] : List Value).toArray s 0 0 (q_reg X)) (F0 m 2 ls []) := by
    intro k_3
    induction k_3 with
    | zero =>
      intro x_1 σ_2 H locs ls hms
      exact absurd hms (Nat.not_lt_zero _)
    | succ k_3 ih2 =>
      intro x_1 σ_2 H locs ls hm2 hge2 hI hl
      refine lv_iload_n hx hb dX5_copyFrom_2 rfl (lv_at hl 2 rfl) ?_
      refine lv_aload_n hx hb dX5_copyFrom_3 rfl (lv_at hl 0 rfl) ?_
      refine gs_X5_13_5 E hI ha dX5_copyFrom_4 ?_
      refine q_alen E hI (q_tk hI ha rfl (by decide)) (by decide) (t := 1) rfl rfl dX5_copyFrom_7 (fun n_4 hn_4 => ?_)
      have gc_5_x_1 := q_rng x_1
      have gc_5_n_4 := q_rng n_4
      refine q_icmp_ge (A := x_1.toInt) (B := n_4.toInt) E rfl rfl (tgt := 38) dX5_copyFrom_8 (by decide) (fun c_5 => ?_) (fun c_5 => ?_)
      · skip
        exact q_retv E hr hlk hI trivial dX5_copyFrom_38
      · skip
        refine lv_iload_n hx hb dX5_copyFrom_11 rfl (lv_at hl 2 rfl) ?_
        refine lv_aload_n hx hb dX5_copyFrom_12 rfl (lv_at hl 1 rfl) ?_
        refine gs_X5_13_5 E hI hr1 dX5_copyFrom_13 ?_
        refine q_alen E hI (q_tk hI hr1 rfl (by decide)) (by decide) (t := 1) rfl rfl dX5_copyFrom_16 (fun n_6 hn_6 => ?_)
        have gc_7_x_1 := q_rng x_1
        have gc_7_n_6 := q_rng n_6
        refine q_icmp_ge (A := x_1.toInt) (B := n_6.toInt) E rfl rfl (tgt := 38) dX5_copyFrom_17 (by decide) (fun c_7 => ?_) (fun c_7 => ?_)
        · skip
          exact q_retv E hr hlk hI trivial dX5_copyFrom_38
        · skip
          refine lv_aload_n hx hb dX5_copyFrom_20 rfl (lv_at hl 0 rfl) ?_
          refine gs_X5_13_5 E hI ha dX5_copyFrom_21 ?_
          refine lv_iload_n hx hb dX5_copyFrom_24 rfl (lv_at hl 2 rfl) ?_
          refine lv_aload_n hx hb dX5_copyFrom_25 rfl (lv_at hl 1 rfl) ?_
          refine gs_X5_13_5 E hI hr1 dX5_copyFrom_26 ?_
          refine lv_iload_n hx hb dX5_copyFrom_29 rfl (lv_at hl 2 rfl) ?_
          refine q_iald E hI (q_tk hI hr1 rfl (by decide)) ⟨by decide, rfl⟩ (by omega) (by omega) dX5_copyFrom_30 ?_
          refine lv_topi (fun f_8 ef_8 => ?_)
          refine q_iastN E hI (q_tk hI ha rfl (by decide)) ⟨by decide, rfl⟩ (by omega) (by omega) (show 1 < 9 by decide) (q_inU rfl) dX5_copyFrom_31 (fun H locs σ_9 hσ_9 hI => ?_)
          obtain ⟨z_10, ez_10⟩ : ∃ y : Int32, y = x_1 + 1 := ⟨_, rfl⟩
          refine lv_iinc (v := z_10) (lv' := [(2, .int z_10), (0, .ref a), (1, .ref r1)]) hx hb dX5_copyFrom_32 hl (k := 2) rfl (by rw [ez_10]; rfl) (by decide) rfl (fun ls hl => ?_)
          have iz_10 : z_10.toInt = x_1.toInt + 1 := q_inc ez_10 (by omega)
          refine lv_goto (tgt := 2) hx hb dX5_copyFrom_35 (by decide) ?_
          exact ih2 z_10 σ_9 _ _ ls (by omega) (by omega) hI (lv_sub hl [1, 2, 0] rfl)
  exact L_2_3 ((2147483647 - (0 : Int32).toInt).toNat + 1) 0 σ _ _ ls (Nat.lt_succ_self _) (by decide) hI (lv_sub hl [1, 2, 0] rfl)
