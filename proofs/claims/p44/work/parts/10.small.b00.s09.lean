section
set_option maxRecDepth 100000 in
set_option maxHeartbeats 4000000 in
theorem c_X5_add (l : Launch) (X : XW) (σ : ST) (a : Nat) (v1 : Int32) (v2 : Int32) (ha : q_kd X a = 5) : Met l yX5_add (q_ws yX5_add cX5_add 3 none) (q_rm 0 0) (q_P X σ [.ref a, .int v1, .int v2]) (q_Qv X 8 σ (fun (σ' : ST) => σ' = F_X5_add X σ a v1 v2 ∧ q_ow [(20, 99)] [] X σ σ')) 0 0 (q_reg X) := by
  refine q_met 8 (by first | exact rfl | decide +kernel) rfl (Nat.le_of_ble_eq_true rfl) (fun p e s m below meth c E hml hr hlk hI ls hl => ?_)
  have hx := E.1
  have hb := E.2.1
  have hl : lv_has ls 3 [(0, .ref a), (1, .int v1), (2, .int v2)] := hl
  have fr_σ : q_ow [(20, 99)] [] X σ σ := q_ow.rf
  obtain ⟨out, hout⟩ : ∃ o, o = F_X5_add X σ a v1 v2 := ⟨_, rfl⟩
  have hF := hout.symm
  unfold F_X5_add at hF
  refine lv_iload_n hx hb dX5_add_0 rfl (lv_at hl 1 rfl) ?_
  refine q_if_lt (A := v1.toInt) E rfl (tgt := 23) dX5_add_1 (by decide) (fun c_1 => ?_) (fun c_1 => ?_)
  · skip
    replace hF := q_ifp hF c_1
    exact q_retv E hr hlk hI ⟨(hF.trans hout), fr_σ⟩ dX5_add_23
  · skip
    replace hF := q_ifn hF (Int.not_lt.mpr c_1)
    refine lv_iload_n hx hb dX5_add_4 rfl (lv_at hl 1 rfl) ?_
    refine lv_aload_n hx hb dX5_add_5 rfl (lv_at hl 0 rfl) ?_
    refine gs_X5_13_5 E hI ha dX5_add_6 ?_
    refine q_alenX E hI (q_tk (k' := 20) hI ha rfl (by decide)) (by decide) (t := 1) rfl rfl dX5_add_9 (fun n_2 en_2 hn_2 => ?_)
    replace hF := q_letX hF en_2
    refine q_icmp_ge (A := v1.toInt) (B := n_2.toInt) E rfl rfl (tgt := 23) dX5_add_10 (by decide) (fun c_3 => ?_) (fun c_3 => ?_)
    · skip
      replace hF := q_ifn hF (Int.not_lt.mpr c_3)
      exact q_retv E hr hlk hI ⟨(hF.trans hout), fr_σ⟩ dX5_add_23
    · skip
      replace hF := q_ifp hF c_3
      refine lv_aload_n hx hb dX5_add_13 rfl (lv_at hl 0 rfl) ?_
      refine gs_X5_13_5 E hI ha dX5_add_14 ?_
      refine lv_iload_n hx hb dX5_add_17 rfl (lv_at hl 1 rfl) ?_
      refine lv_dup2_11 hx hb dX5_add_18 rfl rfl ?_
      refine q_iald E hI (q_tk (k' := 20) hI ha rfl (by decide)) ⟨by decide, rfl⟩ (by omega) (by omega) dX5_add_19 ?_
      refine lv_topi (fun f_4 ef_4 => ?_)
      replace hF := q_letX hF ef_4
      refine lv_iload_n hx hb dX5_add_20 rfl (lv_at hl 2 rfl) ?_
      refine lv_iadd hx hb dX5_add_21 ?_
      refine lv_topi (fun z_5 ez_5 => ?_)
      replace hF := q_letX hF ez_5
      refine q_iastN E hI (q_tk (k' := 20) hI ha rfl (by decide)) ⟨by decide, rfl⟩ (by omega) (by omega) (show 8 < 9 by decide) (q_inU rfl) dX5_add_22 (fun H locs σ_6 hσ_6 hI => ?_)
      replace hF := q_letX hF hσ_6
      have fr_σ_6 := fr_σ.si hσ_6 (q_tk (k' := 20) hI ha rfl (by decide)) rfl
      exact q_retv E hr hlk hI ⟨(hF.trans hout), fr_σ_6⟩ dX5_add_23

set_option maxRecDepth 100000 in
set_option maxHeartbeats 4000000 in
theorem c_X5_copyFrom (l : Launch) (X : XW) (σ : ST) (a : Nat) (r1 : Nat) (ha : q_kd X a = 5) (hr1 : q_kd X r1 = 5) : Met l yX5_copyFrom (q_ws yX5_copyFrom cX5_copyFrom 3 none) (q_rm 0 0) (q_P X σ [.ref a, .ref r1]) (q_Qv X 8 σ (fun (σ' : ST) => σ' = F_X5_copyFrom X σ a r1 ∧ q_ow [(20, 99)] [] X σ σ')) 0 0 (q_reg X) := by
  refine q_met 8 (by first | exact rfl | decide +kernel) rfl (Nat.le_of_ble_eq_true rfl) (fun p e s m below meth c E hml hr hlk hI ls hl => ?_)
  have hx := E.1
  have hb := E.2.1
  have hl : lv_has ls 3 [(0, .ref a), (1, .ref r1)] := hl
  have fr_σ : q_ow [(20, 99)] [] X σ σ := q_ow.rf
  obtain ⟨out, hout⟩ : ∃ o, o = F_X5_copyFrom X σ a r1 := ⟨_, rfl⟩
  have hF := hout.symm
  unfold F_X5_copyFrom at hF
  refine lv_iconst (v := 0) hx hb dX5_copyFrom_0 (by decide) ?_
  refine lv_istore_n (lv' := [(2, .int 0), (0, .ref a), (1, .ref r1)]) hx hb dX5_copyFrom_1 rfl hl (by decide) rfl (fun ls hl => ?_)
  have L_2_3 : ∀ (k_3 : Nat) (x_1 : Int32) (σ_2 : ST) (H : Heap) (locs : List Loc) (ls : Array Slot), (2147483647 - x_1.toInt).toNat < k_3 → (0 ≤ x_1.toInt) → (q_ow [(20, 99)] [] X σ σ_2) → (F_X5_copyFrom_L2_1 X a r1 k_3 x_1 σ_2 = out) → q_I X 8 σ s.heap locs σ_2 H → lv_has ls 3 [(0, .ref a), (1, .ref r1), (2, .int x_1)] → W p l e (q_rm 0 0) s m ([.ref a, .ref r1] : List Value).toArray below meth c H locs 0 0 (MQ below (q_Qv X 8 σ (fun (σ' : ST) => σ' = F_X5_copyFrom X σ a r1 ∧ q_ow [(20, 99)] [] X σ σ')) ([.ref a, .ref r1] : List Value).toArray s 0 0 (q_reg X)) (F0 m 2 ls []) := by
    clear hF
    intro k_3
    induction k_3 with
    | zero =>
      intro x_1 σ_2 H locs ls hms
      exact absurd hms (Nat.not_lt_zero _)
    | succ k_3 ih2 =>
      intro x_1 σ_2 H locs ls hm2 hge2 fr_σ_2 hF hI hl
      replace hF := (F_X5_copyFrom_L2_1_s).symm.trans hF
      unfold F_X5_copyFrom_B2_1 at hF
      refine lv_iload_n hx hb dX5_copyFrom_2 rfl (lv_at hl 2 rfl) ?_
      refine lv_aload_n hx hb dX5_copyFrom_3 rfl (lv_at hl 0 rfl) ?_
      refine gs_X5_13_5 E hI ha dX5_copyFrom_4 ?_
      refine q_alenX E hI (q_tk (k' := 20) hI ha rfl (by decide)) (by decide) (t := 1) rfl rfl dX5_copyFrom_7 (fun n_4 en_4 hn_4 => ?_)
      replace hF := q_letX hF en_4
      have gc_5_x_1 := q_rng x_1
      have gc_5_n_4 := q_rng n_4
      refine q_icmp_ge (A := x_1.toInt) (B := n_4.toInt) E rfl rfl (tgt := 38) dX5_copyFrom_8 (by decide) (fun c_5 => ?_) (fun c_5 => ?_)
      · skip
        replace hF := q_ifn hF (Int.not_lt.mpr c_5)
        skip
        exact q_retv E hr hlk hI ⟨(hF.trans hout), fr_σ_2⟩ dX5_copyFrom_38
      · skip
        replace hF := q_ifp hF c_5
        refine lv_iload_n hx hb dX5_copyFrom_11 rfl (lv_at hl 2 rfl) ?_
        refine lv_aload_n hx hb dX5_copyFrom_12 rfl (lv_at hl 1 rfl) ?_
        refine gs_X5_13_5 E hI hr1 dX5_copyFrom_13 ?_
        refine q_alenX E hI (q_tk (k' := 20) hI hr1 rfl (by decide)) (by decide) (t := 1) rfl rfl dX5_copyFrom_16 (fun n_6 en_6 hn_6 => ?_)
        replace hF := q_letX hF en_6
        have gc_7_x_1 := q_rng x_1
        have gc_7_n_6 := q_rng n_6
        refine q_icmp_ge (A := x_1.toInt) (B := n_6.toInt) E rfl rfl (tgt := 38) dX5_copyFrom_17 (by decide) (fun c_7 => ?_) (fun c_7 => ?_)
        · skip
          replace hF := q_ifn hF (Int.not_lt.mpr c_7)
          skip
          exact q_retv E hr hlk hI ⟨(hF.trans hout), fr_σ_2⟩ dX5_copyFrom_38
        · skip
          replace hF := q_ifp hF c_7
          refine lv_aload_n hx hb dX5_copyFrom_20 rfl (lv_at hl 0 rfl) ?_
          refine gs_X5_13_5 E hI ha dX5_copyFrom_21 ?_
          refine lv_iload_n hx hb dX5_copyFrom_24 rfl (lv_at hl 2 rfl) ?_
          refine lv_aload_n hx hb dX5_copyFrom_25 rfl (lv_at hl 1 rfl) ?_
          refine gs_X5_13_5 E hI hr1 dX5_copyFrom_26 ?_
          refine lv_iload_n hx hb dX5_copyFrom_29 rfl (lv_at hl 2 rfl) ?_
          refine q_iald E hI (q_tk (k' := 20) hI hr1 rfl (by decide)) ⟨by decide, rfl⟩ (by omega) (by omega) dX5_copyFrom_30 ?_
          refine lv_topi (fun f_8 ef_8 => ?_)
          replace hF := q_letX hF ef_8
          refine q_iastN E hI (q_tk (k' := 20) hI ha rfl (by decide)) ⟨by decide, rfl⟩ (by omega) (by omega) (show 8 < 9 by decide) (q_inU rfl) dX5_copyFrom_31 (fun H locs σ_9 hσ_9 hI => ?_)
          replace hF := q_letX hF hσ_9
          have fr_σ_9 := fr_σ_2.si hσ_9 (q_tk (k' := 20) hI ha rfl (by decide)) rfl
          obtain ⟨z_10, ez_10⟩ : ∃ y : Int32, y = x_1 + 1 := ⟨_, rfl⟩
          replace hF := q_letX hF ez_10
          refine lv_iinc (v := z_10) (lv' := [(2, .int z_10), (0, .ref a), (1, .ref r1)]) hx hb dX5_copyFrom_32 hl (k := 2) rfl (by rw [ez_10]; rfl) (by decide) rfl (fun ls hl => ?_)
          have iz_10 : z_10.toInt = x_1.toInt + 1 := q_inc ez_10 (by omega)
          refine lv_goto (tgt := 2) hx hb dX5_copyFrom_35 (by decide) ?_
          exact ih2 z_10 σ_9 _ _ ls (by omega) (by omega) fr_σ_9 hF hI (lv_sub hl [1, 2, 0] rfl)
  exact L_2_3 ((2147483647 - (0 : Int32).toInt).toNat + 1) 0 σ _ _ ls (Nat.lt_succ_self _) (by decide) fr_σ hF hI (lv_sub hl [1, 2, 0] rfl)
end
