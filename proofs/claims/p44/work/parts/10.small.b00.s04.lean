section
set_option maxRecDepth 100000 in
set_option maxHeartbeats 4000000 in
theorem c_X5_clear (l : Launch) (X : XW) (σ : ST) (a : Nat) (ha : q_kd X a = 5) : Met l yX5_clear (q_ws yX5_clear cX5_clear 2 none) (q_rm 0 0) (q_P X σ [.ref a]) (q_Qv X 8 σ (fun (σ' : ST) => σ' = F_X5_clear X σ a ∧ q_ow [(20, 99)] [] X σ σ')) 0 0 (q_reg X) := by
  refine q_met 8 (by first | exact rfl | decide +kernel) rfl (Nat.le_of_ble_eq_true rfl) (fun p e s m below meth c E hml hr hlk hI ls hl => ?_)
  have hx := E.1
  have hb := E.2.1
  have hl : lv_has ls 2 [(0, .ref a)] := hl
  have fr_σ : q_ow [(20, 99)] [] X σ σ := q_ow.rf
  obtain ⟨out, hout⟩ : ∃ o, o = F_X5_clear X σ a := ⟨_, rfl⟩
  have hF := hout.symm
  unfold F_X5_clear at hF
  refine lv_iconst (v := 0) hx hb dX5_clear_0 (by decide) ?_
  refine lv_istore_n (lv' := [(1, .int 0), (0, .ref a)]) hx hb dX5_clear_1 rfl hl (by decide) rfl (fun ls hl => ?_)
  have L_2_3 : ∀ (k_3 : Nat) (x_1 : Int32) (σ_2 : ST) (H : Heap) (locs : List Loc) (ls : Array Slot), (2147483647 - x_1.toInt).toNat < k_3 → (0 ≤ x_1.toInt) → (q_ow [(20, 99)] [] X σ σ_2) → (F_X5_clear_L2_1 X a k_3 x_1 σ_2 = out) → q_I X 8 σ s.heap locs σ_2 H → lv_has ls 2 [(0, .ref a), (1, .int x_1)] → W p l e (q_rm 0 0) s m ([.ref a] : List Value).toArray below meth c H locs 0 0 (MQ below (q_Qv X 8 σ (fun (σ' : ST) => σ' = F_X5_clear X σ a ∧ q_ow [(20, 99)] [] X σ σ')) ([.ref a] : List Value).toArray s 0 0 (q_reg X)) (F0 m 2 ls []) := by
    clear hF
    intro k_3
    induction k_3 with
    | zero =>
      intro x_1 σ_2 H locs ls hms
      exact absurd hms (Nat.not_lt_zero _)
    | succ k_3 ih2 =>
      intro x_1 σ_2 H locs ls hm2 hge2 fr_σ_2 hF hI hl
      replace hF := (F_X5_clear_L2_1_s).symm.trans hF
      unfold F_X5_clear_B2_1 at hF
      refine lv_iload_n hx hb dX5_clear_2 rfl (lv_at hl 1 rfl) ?_
      refine lv_aload_n hx hb dX5_clear_3 rfl (lv_at hl 0 rfl) ?_
      refine gs_X5_13_5 E hI ha dX5_clear_4 ?_
      refine q_alenX E hI (q_tk (k' := 20) hI ha rfl (by decide)) (by decide) (t := 1) rfl rfl dX5_clear_7 (fun n_4 en_4 hn_4 => ?_)
      replace hF := q_letX hF en_4
      have gc_5_x_1 := q_rng x_1
      have gc_5_n_4 := q_rng n_4
      refine q_icmp_ge (A := x_1.toInt) (B := n_4.toInt) E rfl rfl (tgt := 24) dX5_clear_8 (by decide) (fun c_5 => ?_) (fun c_5 => ?_)
      · skip
        replace hF := q_ifn hF (Int.not_lt.mpr c_5)
        skip
        exact q_retv E hr hlk hI ⟨(hF.trans hout), fr_σ_2⟩ dX5_clear_24
      · skip
        replace hF := q_ifp hF c_5
        refine lv_aload_n hx hb dX5_clear_11 rfl (lv_at hl 0 rfl) ?_
        refine gs_X5_13_5 E hI ha dX5_clear_12 ?_
        refine lv_iload_n hx hb dX5_clear_15 rfl (lv_at hl 1 rfl) ?_
        refine lv_iconst (v := 0) hx hb dX5_clear_16 (by decide) ?_
        refine q_iastN E hI (q_tk (k' := 20) hI ha rfl (by decide)) ⟨by decide, rfl⟩ (by omega) (by omega) (show 8 < 9 by decide) (q_inU rfl) dX5_clear_17 (fun H locs σ_6 hσ_6 hI => ?_)
        replace hF := q_letX hF hσ_6
        have fr_σ_6 := fr_σ_2.si hσ_6 (q_tk (k' := 20) hI ha rfl (by decide)) rfl
        obtain ⟨z_7, ez_7⟩ : ∃ y : Int32, y = x_1 + 1 := ⟨_, rfl⟩
        replace hF := q_letX hF ez_7
        refine lv_iinc (v := z_7) (lv' := [(1, .int z_7), (0, .ref a)]) hx hb dX5_clear_18 hl (k := 1) rfl (by rw [ez_7]; rfl) (by decide) rfl (fun ls hl => ?_)
        have iz_7 : z_7.toInt = x_1.toInt + 1 := q_inc ez_7 (by omega)
        refine lv_goto (tgt := 2) hx hb dX5_clear_21 (by decide) ?_
        exact ih2 z_7 σ_6 _ _ ls (by omega) (by omega) fr_σ_6 hF hI (lv_sub hl [1, 0] rfl)
  exact L_2_3 ((2147483647 - (0 : Int32).toInt).toNat + 1) 0 σ _ _ ls (Nat.lt_succ_self _) (by decide) fr_σ hF hI (lv_sub hl [1, 0] rfl)

set_option maxRecDepth 100000 in
set_option maxHeartbeats 4000000 in
theorem c_J0_coder_7d493 (l : Launch) (X : XW) (σ : ST) (a : Nat) (ha : a < 22) : Met l yJ0_coder_7d493 (q_ws yJ0_coder_7d493 cJ0_coder_7d493 1 (some .byte)) (q_rm 0 0) (q_P X σ [.ref (q_sk X a)]) (q_Qi X 9 σ (fun (r : Int32) (σ' : ST) => σ' = σ ∧ (r.toInt = 0) ∧ r = F_J0_coder_7d493 X σ a)) 0 0 (q_reg X) := by
  refine q_met 9 (by first | exact rfl | decide +kernel) rfl (Nat.le_of_ble_eq_true rfl) (fun p e s m below meth c E hml hr hlk hI ls hl => ?_)
  have hx := E.1
  have hb := E.2.1
  have hl : lv_has ls 1 [(0, .ref (q_sk X a))] := hl
  obtain ⟨out, hout⟩ : ∃ o, o = F_J0_coder_7d493 X σ a := ⟨_, rfl⟩
  have hF := hout.symm
  unfold F_J0_coder_7d493 at hF
  refine va_gets hx hb E.2.2.2.2.2.2.1 hI.S E.2.2.1 (E.2.2.2.1 _ (q_in_t3 (i := 194) (by first | rfl | decide +kernel) rfl)) (fun _ h => h) dJ0_coder_7d493_0 ?_
  refine q_if_eq (A := 1) E (by decide) (tgt := 13) dJ0_coder_7d493_3 (by decide) (fun c_1 => ?_) (fun c_1 => ?_)
  · skip
    replace hF := q_ifp hF c_1
    exact absurd c_1 (by omega)
  · skip
    replace hF := q_ifn hF c_1
    refine lv_aload_n hx hb dJ0_coder_7d493_6 rfl (lv_at hl 0 rfl) ?_
    refine vk_getf hx hb (E.2.2.2.2.2.1.1 _ ha).2.1 hI.S E.2.2.1 (E.2.2.2.1 _ (q_in_t9 (i := 211) (by first | rfl | decide +kernel) rfl)) (fun _ h => h) dJ0_coder_7d493_7 ?_
    refine lv_goto (tgt := 14) hx hb dJ0_coder_7d493_10 (by decide) ?_
    have hrv : (0 : Int32).toInt = 0 := rfl
    exact q_retn E hr hlk hI rfl ⟨rfl, (by decide), (hF.trans hout)⟩ dJ0_coder_7d493_14
end
