section
set_option maxRecDepth 100000 in
set_option maxHeartbeats 4000000 in
theorem c_X12_read (l : Launch) (X : XW) (σ : ST) (a : Nat) (v1 : Int32) (v2 : Int32) (ha : q_kd X a = 12) : Met l yX12_read (q_ws yX12_read cX12_read 3 (some .long)) (q_rm 2 44) (q_P X σ [.ref a, .int v1, .int v2]) (q_Ql X 8 σ (fun (r : Int64) (σ' : ST) => (r, σ') = F_X12_read X σ a v1 v2 ∧ q_ow [(12, 0), (12, 1)] [] X σ σ')) 0 0 (q_reg X) := by
  refine q_met 8 (by first | exact rfl | decide +kernel) rfl (Nat.le_of_ble_eq_true rfl) (fun p e s m below meth c E hml hr hlk hI ls hl => ?_)
  have hx := E.1
  have hb := E.2.1
  have hl : lv_has ls 3 [(0, .ref a), (1, .int v1), (2, .int v2)] := hl
  have fr_σ : q_ow [(12, 0), (12, 1)] [] X σ σ := q_ow.rf
  obtain ⟨out, hout⟩ : ∃ o, o = F_X12_read X σ a v1 v2 := ⟨_, rfl⟩
  have hF := hout.symm
  unfold F_X12_read at hF
  refine lv_aload_n hx hb dX12_read_0 rfl (lv_at hl 0 rfl) ?_
  refine lv_iconst (v := 0) hx hb dX12_read_1 (by decide) ?_
  refine ps_X12_59_12 E hI ha (by decide) dX12_read_2 (fun H locs σ_1 hσ_1 hI => ?_)
  replace hF := q_letX hF hσ_1
  have fr_σ_1 := fr_σ.si hσ_1 ha rfl
  have mv0_σ_1 : (σ_1.1 a 0).toInt = (σ.1 a 0).toInt := congrArg Int32.toInt (q_rdn hσ_1 (Or.inr (by decide)))
  have tbσ_1 := q_bd (f := v1.toNatClampNeg) (lo := -1) (hi := 60) hI (q_tk (f := 5) (k' := 31) hI ha rfl (by decide)) rfl
  refine lv_aload_n hx hb dX12_read_5 rfl (lv_at hl 0 rfl) ?_
  refine lv_aload_n hx hb dX12_read_6 rfl (lv_at hl 0 rfl) ?_
  refine lv_iload_n hx hb dX12_read_7 rfl (lv_at hl 1 rfl) ?_
  refine lv_iload_n hx hb dX12_read_8 rfl (lv_at hl 2 rfl) ?_
  refine q_ci (q_runV (As := [.int v1, .int v2]) (rest := [.ref a]) E (hml.trans hl.1.symm) hI (c_X12_placed l X σ_1 a v1 v2 ha) kv_X12_82 ha ⟨rfl, by decide⟩ (show vwCl[11]? = some (RX12, TX12, 46) from rfl) rfl ⟨Nat.le_of_ble_eq_true rfl, Nat.le_of_ble_eq_true rfl⟩ ⟨Nat.le_refl _, Nat.le_refl _⟩ rfl (Nat.le_of_ble_eq_true rfl) dX12_read_9) hI (by decide) (fun r_2 σ_3 H locs hpσ_3 hkσ_3 hI => ?_)
  obtain ⟨ahpσ_3, bhpσ_3, chpσ_3, dhpσ_3⟩ := hpσ_3
  rw [ahpσ_3] at hI
  replace hF := q_letX hF dhpσ_3
  refine ps_X12_62_12 E hI ha (by decide) dX12_read_12 (fun H locs σ_4 hσ_4 hI => ?_)
  replace hF := q_letX hF hσ_4
  have fr_σ_4 := fr_σ_1.si hσ_4 ha rfl
  have mv0_σ_4 : (σ_4.1 a 0).toInt = r_2.toInt := congrArg Int32.toInt (q_rd hσ_4)
  refine lv_aload_n hx hb dX12_read_15 rfl (lv_at hl 0 rfl) ?_
  refine gs_X12_62_12 E hI ha dX12_read_16 ?_
  refine lv_topi (fun f_5 ef_5 => ?_)
  replace hF := q_letX hF ef_5
  have if_5 : f_5.toInt = r_2.toInt := (congrArg Int32.toInt ef_5).trans mv0_σ_4
  refine q_if_le (A := f_5.toInt) E rfl (tgt := 28) dX12_read_19 (by decide) (fun c_6 => ?_) (fun c_6 => ?_)
  · skip
    replace hF := q_ifn hF (Int.not_lt.mpr c_6)
    refine lv_aload_n hx hb dX12_read_28 rfl (lv_at hl 0 rfl) ?_
    refine gs_X12_20_12 E hI ha dX12_read_29 ?_
    refine lv_bipush (v := 60) hx hb dX12_read_32 (by decide) ?_
    refine lv_iload_n hx hb dX12_read_34 rfl (lv_at hl 1 rfl) ?_
    refine lv_imul hx hb dX12_read_35 ?_
    refine lv_topi (fun z_7 ez_7 => ?_)
    replace hF := q_letX hF ez_7
    have iz_7 := q_mulI (A := 60) (B := v1.toInt) ez_7 (by decide) rfl (by first | (clear mv0_σ_1; omega) | omega) (by first | (clear mv0_σ_1; omega) | omega)
    refine lv_iload_n hx hb dX12_read_36 rfl (lv_at hl 2 rfl) ?_
    refine lv_iadd hx hb dX12_read_37 ?_
    refine lv_topi (fun z_8 ez_8 => ?_)
    replace hF := q_letX hF ez_8
    have iz_8 := q_addI (A := (60 * v1.toInt)) (B := v2.toInt) ez_8 iz_7 rfl (by first | (clear mv0_σ_1; omega) | omega) (by first | (clear mv0_σ_1; omega) | omega)
    refine q_lald E hI (q_tk (k' := 32) hI ha rfl (by decide)) ⟨by decide, rfl⟩ (by first | (clear mv0_σ_1; omega) | omega) (by rw [q_lnk (v := 240) hI (q_tk (k' := 32) hI ha rfl (by decide)) rfl (by decide)]; omega) dX12_read_38 ?_
    refine lv_topl (fun g_9 eg_9 => ?_)
    replace hF := q_letX hF eg_9
    exact q_retl E hr hlk hI ⟨(hF.trans hout), fr_σ_4⟩ dX12_read_39
  · skip
    replace hF := q_ifp hF c_6
    refine lv_ldc2 (v := (-1)) hx hb E.2.2.1 (E.2.2.2.1 _ (q_in_t7 (i := 163) (by first | rfl | decide +kernel) rfl)) dX12_read_22 ?_
    refine lv_goto (tgt := 39) hx hb dX12_read_25 (by decide) ?_
    exact q_retl E hr hlk hI ⟨(hF.trans hout), fr_σ_4⟩ dX12_read_39
end
