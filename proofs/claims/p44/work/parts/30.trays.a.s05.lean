section
set_option maxRecDepth 100000 in
set_option maxHeartbeats 4000000 in
theorem c_X12_write (l : Launch) (X : XW) (σ : ST) (a : Nat) (v1 : Int32) (v2 : Int32) (v3 : Int64) (ha : q_kd X a = 12) : Met l yX12_write (q_ws yX12_write cX12_write 5 (some .boolean)) (q_rm 2 44) (q_P X σ [.ref a, .int v1, .int v2, .long v3]) (q_Qi X 8 σ (fun (r : Int32) (σ' : ST) => (0 ≤ r.toInt ∧ r.toInt ≤ 1) ∧ (r.toInt = 1 ↔ (0 ≤ v1.toInt ∧ v1.toInt < 4 ∧ 0 ≤ v2.toInt ∧ v2.toInt + 1 ≤ (σ.1 (q_rf X a 5) v1.toNatClampNeg).toInt)) ∧ (r, σ') = F_X12_write X σ a v1 v2 v3 ∧ q_ow [(12, 0), (12, 1)] [(32, 99)] X σ σ')) 0 0 (q_reg X) := by
  refine q_met 8 (by first | exact rfl | decide +kernel) rfl (Nat.le_of_ble_eq_true rfl) (fun p e s m below meth c E hml hr hlk hI ls hl => ?_)
  have hx := E.1
  have hb := E.2.1
  have hl : lv_has ls 5 [(0, .ref a), (1, .int v1), (2, .int v2), (3, .long v3)] := hl
  have fr_σ : q_ow [(12, 0), (12, 1)] [(32, 99)] X σ σ := q_ow.rf
  obtain ⟨out, hout⟩ : ∃ o, o = F_X12_write X σ a v1 v2 v3 := ⟨_, rfl⟩
  have hF := hout.symm
  unfold F_X12_write at hF
  refine lv_aload_n hx hb dX12_write_0 rfl (lv_at hl 0 rfl) ?_
  refine lv_iconst (v := 0) hx hb dX12_write_1 (by decide) ?_
  refine ps_X12_59_12 E hI ha (by decide) dX12_write_2 (fun H locs σ_1 hσ_1 hI => ?_)
  replace hF := q_letX hF hσ_1
  have fr_σ_1 := fr_σ.si hσ_1 ha rfl
  have mv0_σ_1 : (σ_1.1 a 0).toInt = (σ.1 a 0).toInt := congrArg Int32.toInt (q_rdn hσ_1 (Or.inr (by decide)))
  have tfσ_1 := m_k31 hI.2.2.2.2.2 hI.1 ha (by decide) v1.toNatClampNeg
  have tbσ_1 := q_bd (f := v1.toNatClampNeg) (lo := -1) (hi := 60) hI (q_tk (f := 5) (k' := 31) hI ha rfl (by decide)) rfl
  refine lv_aload_n hx hb dX12_write_5 rfl (lv_at hl 0 rfl) ?_
  refine lv_aload_n hx hb dX12_write_6 rfl (lv_at hl 0 rfl) ?_
  refine lv_iload_n hx hb dX12_write_7 rfl (lv_at hl 1 rfl) ?_
  refine lv_iload_n hx hb dX12_write_8 rfl (lv_at hl 2 rfl) ?_
  refine q_ci (q_runV (As := [.int v1, .int v2]) (rest := [.ref a]) E (hml.trans hl.1.symm) hI (c_X12_placed l X σ_1 a v1 v2 ha) kv_X12_82 ha ⟨rfl, by decide⟩ (show vwCl[11]? = some (RX12, TX12, 46) from rfl) rfl ⟨Nat.le_of_ble_eq_true rfl, Nat.le_of_ble_eq_true rfl⟩ ⟨Nat.le_refl _, Nat.le_refl _⟩ rfl (Nat.le_of_ble_eq_true rfl) dX12_write_9) hI (by decide) (fun r_2 σ_3 H locs hpσ_3 hkσ_3 hI => ?_)
  obtain ⟨ahpσ_3, bhpσ_3, chpσ_3, dhpσ_3⟩ := hpσ_3
  rw [ahpσ_3] at hI
  replace hF := q_letX hF dhpσ_3
  refine ps_X12_62_12 E hI ha (by decide) dX12_write_12 (fun H locs σ_4 hσ_4 hI => ?_)
  replace hF := q_letX hF hσ_4
  have fr_σ_4 := fr_σ_1.si hσ_4 ha rfl
  have mv0_σ_4 : (σ_4.1 a 0).toInt = r_2.toInt := congrArg Int32.toInt (q_rd hσ_4)
  refine lv_aload_n hx hb dX12_write_15 rfl (lv_at hl 0 rfl) ?_
  refine gs_X12_62_12 E hI ha dX12_write_16 ?_
  refine lv_topi (fun f_5 ef_5 => ?_)
  replace hF := q_letX hF ef_5
  have if_5 : f_5.toInt = r_2.toInt := (congrArg Int32.toInt ef_5).trans mv0_σ_4
  refine q_if_le (A := f_5.toInt) E rfl (tgt := 24) dX12_write_19 (by decide) (fun c_6 => ?_) (fun c_6 => ?_)
  · skip
    replace hF := q_ifn hF (Int.not_lt.mpr c_6)
    refine lv_aload_n hx hb dX12_write_24 rfl (lv_at hl 0 rfl) ?_
    refine gs_X12_20_12 E hI ha dX12_write_25 ?_
    refine lv_bipush (v := 60) hx hb dX12_write_28 (by decide) ?_
    refine lv_iload_n hx hb dX12_write_30 rfl (lv_at hl 1 rfl) ?_
    refine lv_imul hx hb dX12_write_31 ?_
    refine lv_topi (fun z_7 ez_7 => ?_)
    replace hF := q_letX hF ez_7
    have iz_7 := q_mulI (A := 60) (B := v1.toInt) ez_7 (by decide) rfl (by first | (clear mv0_σ_1; omega) | omega) (by first | (clear mv0_σ_1; omega) | omega)
    refine lv_iload_n hx hb dX12_write_32 rfl (lv_at hl 2 rfl) ?_
    refine lv_iadd hx hb dX12_write_33 ?_
    refine lv_topi (fun z_8 ez_8 => ?_)
    replace hF := q_letX hF ez_8
    have iz_8 := q_addI (A := (60 * v1.toInt)) (B := v2.toInt) ez_8 iz_7 rfl (by first | (clear mv0_σ_1; omega) | omega) (by first | (clear mv0_σ_1; omega) | omega)
    refine lv_aload_n hx hb dX12_write_34 rfl (lv_at hl 0 rfl) ?_
    refine gs_X12_13_12 E hI ha dX12_write_35 ?_
    refine lv_iload_n hx hb dX12_write_38 rfl (lv_at hl 1 rfl) ?_
    refine q_iald E hI (q_tk (k' := 30) hI ha rfl (by decide)) ⟨by decide, rfl⟩ (by first | (clear mv0_σ_1; omega) | omega) (by rw [q_lnk (v := 4) hI (q_tk (k' := 30) hI ha rfl (by decide)) rfl (by decide)]; omega) dX12_write_39 ?_
    refine lv_topi (fun f_9 ef_9 => ?_)
    replace hF := q_letX hF ef_9
    have bf_9 : 0 ≤ f_9.toInt ∧ f_9.toInt ≤ 3 := by rw [ef_9]; exact q_bd hI (q_tk (k' := 30) hI ha rfl (by decide)) rfl
    have if_9 : f_9.toInt = (σ_4.1 (q_rf X a 4) (v1 : Int32).toNatClampNeg).toInt := congrArg Int32.toInt ef_9
    refine lv_lload_n hx hb dX12_write_40 rfl (lv_at hl 3 rfl) ?_
    refine q_cl_ (q_runS (As := [.int f_9, .long v3]) (rest := [.int z_8, .ref (q_rf X a 6)]) E (hml.trans hl.1.symm) hI (c_X12_cut l X σ_4 f_9 v3) ks_X12_86 rfl ⟨Nat.le_of_ble_eq_true rfl, Nat.le_of_ble_eq_true rfl⟩ ⟨Nat.le_refl _, Nat.le_refl _⟩ rfl (Nat.le_of_ble_eq_true rfl) dX12_write_41) hI (by decide) (fun r_10 σ_11 H locs hpσ_11 hkσ_11 hI => ?_)
    obtain ⟨ahpσ_11, bhpσ_11⟩ := hpσ_11
    rw [ahpσ_11] at hI
    replace hF := q_letX hF bhpσ_11
    refine q_lastN E hI (q_tk (k' := 32) hI ha rfl (by decide)) ⟨by decide, rfl⟩ (by first | (clear mv0_σ_1; omega) | omega) (by rw [q_lnk (v := 240) hI (q_tk (k' := 32) hI ha rfl (by decide)) rfl (by decide)]; omega) dX12_write_44 (fun H locs σ_12 hσ_12 hI => ?_)
    replace hF := q_letX hF hσ_12
    have fr_σ_12 := fr_σ_4.sl hσ_12 (q_tk (k' := 32) hI ha rfl (by decide)) rfl
    refine lv_iconst (v := 1) hx hb dX12_write_45 (by decide) ?_
    have hrv : (1 : Int32).toInt = 1 := rfl
    exact q_retz E hr hlk hI ⟨by decide, by decide⟩ ⟨⟨by decide, by decide⟩, (by constructor <;> intro h9 <;> omega), (hF.trans hout), fr_σ_12⟩ dX12_write_46
  · skip
    replace hF := q_ifp hF c_6
    refine lv_iconst (v := 0) hx hb dX12_write_22 (by decide) ?_
    have hrv : (0 : Int32).toInt = 0 := rfl
    exact q_retz E hr hlk hI ⟨by decide, by decide⟩ ⟨⟨by decide, by decide⟩, (by constructor <;> intro h9 <;> omega), (hF.trans hout), fr_σ_4⟩ dX12_write_23
end
