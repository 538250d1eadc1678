section
set_option maxRecDepth 100000 in
set_option maxHeartbeats 4000000 in
theorem c_X5_sum (l : Launch) (X : XW) (σ : ST) (a : Nat) (v1 : Int32) (v2 : Int32) (ha : q_kd X a = 5) : Met l yX5_sum (q_ws yX5_sum cX5_sum 5 (some .int)) (q_rm 1 21) (q_P X σ [.ref a, .int v1, .int v2]) (q_Qi X 9 σ (fun (r : Int32) (σ' : ST) => σ' = σ ∧ r = F_X5_sum X σ a v1 v2)) 0 0 (q_reg X) := by
  refine q_met 9 (by first | exact rfl | decide +kernel) rfl (Nat.le_of_ble_eq_true rfl) (fun p e s m below meth c E hml hr hlk hI ls hl => ?_)
  have hx := E.1
  have hb := E.2.1
  have hl : lv_has ls 5 [(0, .ref a), (1, .int v1), (2, .int v2)] := hl
  obtain ⟨out, hout⟩ : ∃ o, o = F_X5_sum X σ a v1 v2 := ⟨_, rfl⟩
  have hF := hout.symm
  unfold F_X5_sum at hF
  refine lv_iconst (v := 0) hx hb dX5_sum_0 (by decide) ?_
  refine lv_istore_n (lv' := [(3, .int 0), (0, .ref a), (1, .int v1), (2, .int v2)]) hx hb dX5_sum_1 rfl hl (by decide) rfl (fun ls hl => ?_)
  refine lv_iload_n hx hb dX5_sum_2 rfl (lv_at hl 2 rfl) ?_
  refine lv_istore (lv' := [(4, .int v1), (3, .int 0), (0, .ref a), (1, .int v1), (2, .int v2)]) hx hb dX5_sum_3 hl (by decide) rfl (fun ls hl => ?_)
  have L_5_3 : ∀ (k_3 : Nat) (x_1 : Int32) (x_2 : Int32) (H : Heap) (locs : List Loc) (ls : Array Slot), (2147483647 - x_2.toInt).toNat < k_3 → (F_X5_sum_L5_1 X v1 v2 σ a k_3 x_1 x_2 = out) → q_I X 9 σ s.heap locs σ H → lv_has ls 5 [(0, .ref a), (1, .int v1), (2, .int v2), (3, .int x_1), (4, .int x_2)] → W p l e (q_rm 1 21) s m ([.ref a, .int v1, .int v2] : List Value).toArray below meth c H locs 0 0 (MQ below (q_Qi X 9 σ (fun (r : Int32) (σ' : ST) => σ' = σ ∧ r = F_X5_sum X σ a v1 v2)) ([.ref a, .int v1, .int v2] : List Value).toArray s 0 0 (q_reg X)) (F0 m 5 ls []) := by
    clear hF
    intro k_3
    induction k_3 with
    | zero =>
      intro x_1 x_2 H locs ls hms
      exact absurd hms (Nat.not_lt_zero _)
    | succ k_3 ih5 =>
      intro x_1 x_2 H locs ls hm5  hF hI hl
      replace hF := (F_X5_sum_L5_1_s).symm.trans hF
      unfold F_X5_sum_B5_1 at hF
      refine lv_iload hx hb dX5_sum_5 (lv_at hl 4 rfl) ?_
      refine lv_iload_n hx hb dX5_sum_7 rfl (lv_at hl 1 rfl) ?_
      refine lv_iload_n hx hb dX5_sum_8 rfl (lv_at hl 2 rfl) ?_
      refine lv_iadd hx hb dX5_sum_9 ?_
      refine lv_topi (fun z_4 ez_4 => ?_)
      replace hF := q_letX hF ez_4
      have gc_5_x_2 := q_rng x_2
      have gc_5_z_4 := q_rng z_4
      refine q_icmp_ge (A := x_2.toInt) (B := z_4.toInt) E rfl rfl (tgt := 28) dX5_sum_10 (by decide) (fun c_5 => ?_) (fun c_5 => ?_)
      · skip
        replace hF := q_ifn hF (Int.not_lt.mpr c_5)
        skip
        refine lv_iload_n hx hb dX5_sum_28 rfl (lv_at hl 3 rfl) ?_
        exact q_reti E hr hlk hI ⟨rfl, (hF.trans hout)⟩ dX5_sum_29
      · skip
        replace hF := q_ifp hF c_5
        refine lv_iload_n hx hb dX5_sum_13 rfl (lv_at hl 3 rfl) ?_
        refine lv_aload_n hx hb dX5_sum_14 rfl (lv_at hl 0 rfl) ?_
        refine lv_iload hx hb dX5_sum_15 (lv_at hl 4 rfl) ?_
        refine q_ci (q_runV (As := [.int x_2]) (rest := [.int x_1]) E (hml.trans hl.1.symm) hI (c_X5_get l X σ a x_2 ha) kv_X5_19 ha ⟨rfl, by decide⟩ (show vwCl[4]? = some (RX5, TX5, 1) from rfl) rfl ⟨Nat.le_of_ble_eq_true rfl, Nat.le_of_ble_eq_true rfl⟩ ⟨Nat.le_refl _, Nat.le_refl _⟩ rfl (Nat.le_of_ble_eq_true rfl) dX5_sum_17) hI (by decide) (fun r_6 σ_7 H locs hpσ_7 hkσ_7 hI => ?_)
        obtain ⟨ahpσ_7, bhpσ_7⟩ := hpσ_7
        rw [ahpσ_7] at hI
        replace hF := q_letX hF bhpσ_7
        refine lv_iadd hx hb dX5_sum_20 ?_
        refine lv_topi (fun z_8 ez_8 => ?_)
        replace hF := q_letX hF ez_8
        refine lv_istore_n (lv' := [(3, .int z_8), (0, .ref a), (1, .int v1), (2, .int v2), (4, .int x_2)]) hx hb dX5_sum_21 rfl hl (by decide) rfl (fun ls hl => ?_)
        obtain ⟨z_9, ez_9⟩ : ∃ y : Int32, y = x_2 + 1 := ⟨_, rfl⟩
        replace hF := q_letX hF ez_9
        refine lv_iinc (v := z_9) (lv' := [(4, .int z_9), (3, .int z_8), (0, .ref a), (1, .int v1), (2, .int v2)]) hx hb dX5_sum_22 hl (k := 4) rfl (by rw [ez_9]; rfl) (by decide) rfl (fun ls hl => ?_)
        have iz_9 : z_9.toInt = x_2.toInt + 1 := q_inc ez_9 (by omega)
        refine lv_goto (tgt := 5) hx hb dX5_sum_25 (by decide) ?_
        exact ih5 z_8 z_9 _ _ ls (by omega) hF hI (lv_sub hl [2, 3, 4, 1, 0] rfl)
  exact L_5_3 ((2147483647 - v1.toInt).toNat + 1) 0 v1 _ _ ls (Nat.lt_succ_self _) hF hI (lv_sub hl [2, 3, 4, 1, 0] rfl)
end
