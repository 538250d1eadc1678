section
set_option maxRecDepth 100000 in
set_option maxHeartbeats 4000000 in
theorem c_X12_lays (l : Launch) (X : XW) (σ : ST) (a : Nat) (v1 : Int32) (ha : q_kd X a = 12) (h0 : (σ.1 a 8).toInt ≤ 896) : Met l yX12_lays (q_ws yX12_lays cX12_lays 3 none) (q_rm 0 0) (q_P X σ [.ref a, .int v1]) (q_Qv X 0 σ (fun (σ' : ST) => (q_KS (fun b g => b = a ∧ g = 8) 8 X σ σ') ∧ ((σ'.1 a 8).toInt = (σ.1 a 8).toInt + 4) ∧ σ' = F_X12_lays X σ a v1 ∧ q_ow [(12, 8), (33, 99)] [] X σ σ')) 0 0 (q_reg X) := by
  refine q_met 0 (by first | exact rfl | decide +kernel) rfl (Nat.le_of_ble_eq_true rfl) (fun p e s m below meth c E hml hr hlk hI ls hl => ?_)
  have hx := E.1
  have hb := E.2.1
  have hl : lv_has ls 3 [(0, .ref a), (1, .int v1)] := hl
  have ks_σ : q_KS (fun b g => b = a ∧ g = 8) 8 X σ σ := q_KS.rf
  have fr_σ : q_ow [(12, 8), (33, 99)] [] X σ σ := q_ow.rf
  obtain ⟨out, hout⟩ : ∃ o, o = F_X12_lays X σ a v1 := ⟨_, rfl⟩
  have hF := hout.symm
  unfold F_X12_lays at hF
  refine lv_iconst (v := 3) hx hb dX12_lays_0 (by decide) ?_
  refine lv_istore_n (lv' := [(2, .int 3), (0, .ref a), (1, .int v1)]) hx hb dX12_lays_1 rfl hl (by decide) rfl (fun ls hl => ?_)
  have L_2_3 : ∀ (k_3 : Nat) (x_1 : Int32) (σ_2 : ST) (H : Heap) (locs : List Loc) (ls : Array Slot), (x_1.toInt + 2147483656).toNat < k_3 → ((σ_2.1 a 8).toInt - (σ.1 a 8).toInt = 3 - x_1.toInt) → (-1 ≤ x_1.toInt) → (q_KS (fun b g => b = a ∧ g = 8) 8 X σ σ_2) → (q_ow [(12, 8), (33, 99)] [] X σ σ_2) → (F_X12_lays_L2_1 X a v1 k_3 x_1 σ_2 = out) → q_I X 0 σ s.heap locs σ_2 H → lv_has ls 3 [(0, .ref a), (1, .int v1), (2, .int x_1)] → W p l e (q_rm 0 0) s m ([.ref a, .int v1] : List Value).toArray below meth c H locs 0 0 (MQ below (q_Qv X 0 σ (fun (σ' : ST) => (q_KS (fun b g => b = a ∧ g = 8) 8 X σ σ') ∧ ((σ'.1 a 8).toInt = (σ.1 a 8).toInt + 4) ∧ σ' = F_X12_lays X σ a v1 ∧ q_ow [(12, 8), (33, 99)] [] X σ σ')) ([.ref a, .int v1] : List Value).toArray s 0 0 (q_reg X)) (F0 m 2 ls []) := by
    clear hF
    intro k_3
    induction k_3 with
    | zero =>
      intro x_1 σ_2 H locs ls hms
      try clear fr_σ
      exact absurd hms (Nat.not_lt_zero _)
    | succ k_3 ih2 =>
      intro x_1 σ_2 H locs ls hm2 hsh hs8 ks_σ_2 fr_σ_2 hF hI hl
      replace hF := (F_X12_lays_L2_1_s).symm.trans hF
      unfold F_X12_lays_B2_1 at hF
      refine lv_iload_n hx hb dX12_lays_2 rfl (lv_at hl 2 rfl) ?_
      refine q_if_lt (A := x_1.toInt) E rfl (tgt := 38) dX12_lays_3 (by decide) (fun c_4 => ?_) (fun c_4 => ?_)
      · skip
        replace hF := q_ifp hF c_4
        skip
        exact q_retv E hr hlk hI ⟨ks_σ_2, (by omega), (hF.trans hout), fr_σ_2⟩ dX12_lays_38
      · skip
        replace hF := q_ifn hF (Int.not_lt.mpr c_4)
        refine lv_aload_n hx hb dX12_lays_6 rfl (lv_at hl 0 rfl) ?_
        refine gs_X12_24_12 E hI ha dX12_lays_7 ?_
        refine lv_aload_n hx hb dX12_lays_10 rfl (lv_at hl 0 rfl) ?_
        refine gs_X12_203_12 E hI ha dX12_lays_11 ?_
        refine lv_topi (fun f_5 ef_5 => ?_)
        replace hF := q_letX hF ef_5
        have if_5 : f_5.toInt = (σ_2.1 a 8).toInt := congrArg Int32.toInt ef_5
        have bf_5 : 0 ≤ f_5.toInt ∧ f_5.toInt ≤ 900 := by rw [ef_5]; exact q_bd hI ha rfl
        refine lv_iload_n hx hb dX12_lays_14 rfl (lv_at hl 1 rfl) ?_
        refine lv_bipush (v := 8) hx hb dX12_lays_15 (by decide) ?_
        refine lv_iload_n hx hb dX12_lays_17 rfl (lv_at hl 2 rfl) ?_
        refine lv_imul hx hb dX12_lays_18 ?_
        refine lv_topi (fun z_6 ez_6 => ?_)
        replace hF := q_letX hF ez_6
        refine lv_ishr hx hb dX12_lays_19 ?_
        refine lv_topi (fun z_7 ez_7 => ?_)
        replace hF := q_letX hF ez_7
        refine lv_i2b hx hb dX12_lays_20 rfl ?_
        refine lv_topi (fun z_8 ez_8 => ?_)
        replace hF := q_letX hF ez_8
        refine q_bastN E hI (q_tk (k' := 33) hI ha rfl (by decide)) ⟨by decide, rfl⟩ (by omega) (by rw [q_lnk (v := 900) hI (q_tk (k' := 33) hI ha rfl (by decide)) rfl (by decide)]; omega) (show 0 < 9 by decide) rfl dX12_lays_21 (fun H locs σ_9 hσ_9 hI => ?_)
        replace hF := q_letX hF hσ_9
        have fr_σ_9 := fr_σ_2.si hσ_9 (q_tk (k' := 33) hI ha rfl (by decide)) rfl
        have mv8_σ_9 : (σ_9.1 a 8).toInt = (σ_2.1 a 8).toInt := congrArg Int32.toInt ((hσ_9 ▸ (q_K.si (q_tk (k' := 33) hI ha rfl (by decide)) (show 8 < 9 by decide) : q_K 8 X σ_2 (q_si σ_2 (q_rf X a 7) (f_5 : Int32).toNatClampNeg _))) a 8 (by rw [ha]; decide))
        have ks_σ_9 : q_KS (fun b g => b = a ∧ g = 8) 8 X σ σ_9 := ks_σ_2.si hσ_9 (q_tk (k' := 33) hI ha rfl (by decide)) (show 8 < 9 by decide)
        refine lv_aload_n hx hb dX12_lays_22 rfl (lv_at hl 0 rfl) ?_
        refine lv_dup hx hb dX12_lays_23 rfl ?_
        refine gs_X12_203_12 E hI ha dX12_lays_24 ?_
        refine lv_topi (fun f_10 ef_10 => ?_)
        replace hF := q_letX hF ef_10
        have if_10 : f_10.toInt = (σ_2.1 a 8).toInt := (congrArg Int32.toInt ef_10).trans mv8_σ_9
        have bf_10 : 0 ≤ f_10.toInt ∧ f_10.toInt ≤ 900 := by rw [ef_10]; exact q_bd hI ha rfl
        refine lv_iconst (v := 1) hx hb dX12_lays_27 (by decide) ?_
        refine lv_iadd hx hb dX12_lays_28 ?_
        refine lv_topi (fun z_11 ez_11 => ?_)
        replace hF := q_letX hF ez_11
        have iz_11 := q_addI (A := f_10.toInt) (B := 1) ez_11 rfl (by decide) (by omega) (by omega)
        refine ps_X12_203_12 E hI ha (by decide) (by omega) (by omega) dX12_lays_29 (fun H locs σ_12 hσ_12 hI => ?_)
        replace hF := q_letX hF hσ_12
        have fr_σ_12 := fr_σ_9.si hσ_12 ha rfl
        have ks_σ_12 : q_KS (fun b g => b = a ∧ g = 8) 8 X σ σ_12 := ks_σ_9.siS hσ_12 ⟨rfl, rfl⟩
        have mv8_σ_12 : (σ_12.1 a 8).toInt = z_11.toInt := congrArg Int32.toInt (q_rd hσ_12)
        obtain ⟨z_13, ez_13⟩ : ∃ y : Int32, y = x_1 + (-1) := ⟨_, rfl⟩
        replace hF := q_letX hF ez_13
        refine lv_iinc (v := z_13) (lv' := [(2, .int z_13), (0, .ref a), (1, .int v1)]) hx hb dX12_lays_32 hl (k := 2) rfl (by rw [ez_13]; rfl) (by decide) rfl (fun ls hl => ?_)
        have iz_13 : z_13.toInt = x_1.toInt - 1 := q_dec ez_13 (by first | (clear mv8_σ_9; omega) | omega)
        refine lv_goto (tgt := 2) hx hb dX12_lays_35 (by decide) ?_
        exact ih2 z_13 σ_12 _ _ ls (by first | (clear mv8_σ_9; omega) | omega) (by first | (clear mv8_σ_9; omega) | omega) (by first | (clear mv8_σ_9; omega) | omega) ks_σ_12 fr_σ_12 hF hI (lv_sub hl [1, 2, 0] rfl)
  exact L_2_3 (((3 : Int32).toInt + 2147483656).toNat + 1) 3 σ _ _ ls (Nat.lt_succ_self _) (by have h3 : (3 : Int32).toInt = 3 := rfl; omega) (by decide) ks_σ fr_σ hF hI (lv_sub hl [1, 2, 0] rfl)
end
