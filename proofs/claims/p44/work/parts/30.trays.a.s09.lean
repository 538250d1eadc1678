section
set_option maxRecDepth 100000 in
set_option maxHeartbeats 4000000 in
theorem c_X12_feed (l : Launch) (X : XW) (σ : ST) (a : Nat) (v1 : Int32) (v2 : Int32) (v3 : Int32) (v4 : Int32) (v5 : Int32) (ha : q_kd X a = 12) : Met l yX12_feed (q_ws yX12_feed cX12_feed 6 (some .int)) (q_rm 1 22) (q_P X σ [.ref a, .int v1, .int v2, .int v3, .int v4, .int v5]) (q_Qi X 0 σ (fun (r : Int32) (σ' : ST) => (q_KS (fun b g => b = a ∧ g = 8) 8 X σ σ') ∧ ((σ.1 a 8).toInt + 20 > 900 → r.toInt = -1 ∧ (σ'.1 a 8).toInt = (σ.1 a 8).toInt) ∧ ((σ.1 a 8).toInt + 20 ≤ 900 → r.toInt = (σ.1 a 8).toInt + 20 ∧ (σ'.1 a 8).toInt = (σ.1 a 8).toInt + 20) ∧ (r, σ') = F_X12_feed X σ a v1 v2 v3 v4 v5 ∧ q_ow [(12, 1), (12, 8), (33, 99)] [] X σ σ')) 0 0 (q_reg X) := by
  refine q_met 0 (by first | exact rfl | decide +kernel) rfl (Nat.le_of_ble_eq_true rfl) (fun p e s m below meth c E hml hr hlk hI ls hl => ?_)
  have hx := E.1
  have hb := E.2.1
  have hl : lv_has ls 6 [(0, .ref a), (1, .int v1), (2, .int v2), (3, .int v3), (4, .int v4), (5, .int v5)] := hl
  have ks_σ : q_KS (fun b g => b = a ∧ g = 8) 8 X σ σ := q_KS.rf
  have fr_σ : q_ow [(12, 1), (12, 8), (33, 99)] [] X σ σ := q_ow.rf
  obtain ⟨out, hout⟩ : ∃ o, o = F_X12_feed X σ a v1 v2 v3 v4 v5 := ⟨_, rfl⟩
  have hF := hout.symm
  unfold F_X12_feed at hF
  refine lv_aload_n hx hb dX12_feed_0 rfl (lv_at hl 0 rfl) ?_
  refine lv_iconst (v := 0) hx hb dX12_feed_1 (by decide) ?_
  refine ps_X12_59_12 E hI ha (by decide) dX12_feed_2 (fun H locs σ_1 hσ_1 hI => ?_)
  replace hF := q_letX hF hσ_1
  have fr_σ_1 := fr_σ.si hσ_1 ha rfl
  have ks_σ_1 : q_KS (fun b g => b = a ∧ g = 8) 8 X σ σ_1 := ks_σ.si hσ_1 ha (show 8 < 9 by decide)
  have mv8_σ_1 : (σ_1.1 a 8).toInt = (σ.1 a 8).toInt := congrArg Int32.toInt (q_rdn hσ_1 (Or.inr (by decide)))
  refine lv_aload_n hx hb dX12_feed_5 rfl (lv_at hl 0 rfl) ?_
  refine gs_X12_203_12 E hI ha dX12_feed_6 ?_
  refine lv_topi (fun f_2 ef_2 => ?_)
  replace hF := q_letX hF ef_2
  have if_2 : f_2.toInt = (σ.1 a 8).toInt := (congrArg Int32.toInt ef_2).trans mv8_σ_1
  have bf_2 : 0 ≤ f_2.toInt ∧ f_2.toInt ≤ 900 := by rw [ef_2]; exact q_bd hI ha rfl
  refine lv_bipush (v := 20) hx hb dX12_feed_9 (by decide) ?_
  refine lv_iadd hx hb dX12_feed_11 ?_
  refine lv_topi (fun z_3 ez_3 => ?_)
  replace hF := q_letX hF ez_3
  have iz_3 := q_addI (A := f_2.toInt) (B := 20) ez_3 rfl (by decide) (by omega) (by omega)
  refine lv_sipush (v := 900) hx hb dX12_feed_12 (by decide) ?_
  refine q_icmp_le (A := z_3.toInt) (B := 900) E rfl (by decide) (tgt := 20) dX12_feed_15 (by decide) (fun c_4 => ?_) (fun c_4 => ?_)
  · skip
    replace hF := q_ifn hF (Int.not_lt.mpr c_4)
    refine lv_aload_n hx hb dX12_feed_20 rfl (lv_at hl 0 rfl) ?_
    refine lv_iload_n hx hb dX12_feed_21 rfl (lv_at hl 1 rfl) ?_
    refine q_cv (q_runV (As := [.int v1]) (rest := []) E (hml.trans hl.1.symm) hI (c_X12_lays l X σ_1 a v1 ha (by omega)) kv_X12_206 ha ⟨rfl, by decide⟩ (show vwCl[11]? = some (RX12, TX12, 46) from rfl) rfl ⟨Nat.le_of_ble_eq_true rfl, Nat.le_of_ble_eq_true rfl⟩ ⟨Nat.le_refl _, Nat.le_refl _⟩ rfl (Nat.le_of_ble_eq_true rfl) dX12_feed_22) hI (by decide) (fun σ_6 H locs hpσ_6 hkσ_6 hI => ?_)
    obtain ⟨ahpσ_6, bhpσ_6, chpσ_6, dhpσ_6⟩ := hpσ_6
    have fr_σ_6 := fr_σ_1.call dhpσ_6 rfl rfl
    replace hF := q_letX hF chpσ_6
    have ks_σ_6 : q_KS (fun b g => b = a ∧ g = 8) 8 X σ σ_6 := ks_σ_1.KS ahpσ_6 (by decide) (fun _ _ h => h)
    refine lv_aload_n hx hb dX12_feed_25 rfl (lv_at hl 0 rfl) ?_
    refine lv_iload_n hx hb dX12_feed_26 rfl (lv_at hl 2 rfl) ?_
    refine q_cv (q_runV (As := [.int v2]) (rest := []) E (hml.trans hl.1.symm) hI (c_X12_lays l X σ_6 a v2 ha (by omega)) kv_X12_206 ha ⟨rfl, by decide⟩ (show vwCl[11]? = some (RX12, TX12, 46) from rfl) rfl ⟨Nat.le_of_ble_eq_true rfl, Nat.le_of_ble_eq_true rfl⟩ ⟨Nat.le_refl _, Nat.le_refl _⟩ rfl (Nat.le_of_ble_eq_true rfl) dX12_feed_27) hI (by decide) (fun σ_8 H locs hpσ_8 hkσ_8 hI => ?_)
    obtain ⟨ahpσ_8, bhpσ_8, chpσ_8, dhpσ_8⟩ := hpσ_8
    have fr_σ_8 := fr_σ_6.call dhpσ_8 rfl rfl
    replace hF := q_letX hF chpσ_8
    have ks_σ_8 : q_KS (fun b g => b = a ∧ g = 8) 8 X σ σ_8 := ks_σ_6.KS ahpσ_8 (by decide) (fun _ _ h => h)
    refine lv_aload_n hx hb dX12_feed_30 rfl (lv_at hl 0 rfl) ?_
    refine lv_iload_n hx hb dX12_feed_31 rfl (lv_at hl 3 rfl) ?_
    refine q_cv (q_runV (As := [.int v3]) (rest := []) E (hml.trans hl.1.symm) hI (c_X12_lays l X σ_8 a v3 ha (by omega)) kv_X12_206 ha ⟨rfl, by decide⟩ (show vwCl[11]? = some (RX12, TX12, 46) from rfl) rfl ⟨Nat.le_of_ble_eq_true rfl, Nat.le_of_ble_eq_true rfl⟩ ⟨Nat.le_refl _, Nat.le_refl _⟩ rfl (Nat.le_of_ble_eq_true rfl) dX12_feed_32) hI (by decide) (fun σ_10 H locs hpσ_10 hkσ_10 hI => ?_)
    obtain ⟨ahpσ_10, bhpσ_10, chpσ_10, dhpσ_10⟩ := hpσ_10
    have fr_σ_10 := fr_σ_8.call dhpσ_10 rfl rfl
    replace hF := q_letX hF chpσ_10
    have ks_σ_10 : q_KS (fun b g => b = a ∧ g = 8) 8 X σ σ_10 := ks_σ_8.KS ahpσ_10 (by decide) (fun _ _ h => h)
    refine lv_aload_n hx hb dX12_feed_35 rfl (lv_at hl 0 rfl) ?_
    refine lv_iload hx hb dX12_feed_36 (lv_at hl 4 rfl) ?_
    refine q_cv (q_runV (As := [.int v4]) (rest := []) E (hml.trans hl.1.symm) hI (c_X12_lays l X σ_10 a v4 ha (by omega)) kv_X12_206 ha ⟨rfl, by decide⟩ (show vwCl[11]? = some (RX12, TX12, 46) from rfl) rfl ⟨Nat.le_of_ble_eq_true rfl, Nat.le_of_ble_eq_true rfl⟩ ⟨Nat.le_refl _, Nat.le_refl _⟩ rfl (Nat.le_of_ble_eq_true rfl) dX12_feed_38) hI (by decide) (fun σ_12 H locs hpσ_12 hkσ_12 hI => ?_)
    obtain ⟨ahpσ_12, bhpσ_12, chpσ_12, dhpσ_12⟩ := hpσ_12
    have fr_σ_12 := fr_σ_10.call dhpσ_12 rfl rfl
    replace hF := q_letX hF chpσ_12
    have ks_σ_12 : q_KS (fun b g => b = a ∧ g = 8) 8 X σ σ_12 := ks_σ_10.KS ahpσ_12 (by decide) (fun _ _ h => h)
    refine lv_aload_n hx hb dX12_feed_41 rfl (lv_at hl 0 rfl) ?_
    refine lv_iload hx hb dX12_feed_42 (lv_at hl 5 rfl) ?_
    refine q_cv (q_runV (As := [.int v5]) (rest := []) E (hml.trans hl.1.symm) hI (c_X12_lays l X σ_12 a v5 ha (by omega)) kv_X12_206 ha ⟨rfl, by decide⟩ (show vwCl[11]? = some (RX12, TX12, 46) from rfl) rfl ⟨Nat.le_of_ble_eq_true rfl, Nat.le_of_ble_eq_true rfl⟩ ⟨Nat.le_refl _, Nat.le_refl _⟩ rfl (Nat.le_of_ble_eq_true rfl) dX12_feed_44) hI (by decide) (fun σ_14 H locs hpσ_14 hkσ_14 hI => ?_)
    obtain ⟨ahpσ_14, bhpσ_14, chpσ_14, dhpσ_14⟩ := hpσ_14
    have fr_σ_14 := fr_σ_12.call dhpσ_14 rfl rfl
    replace hF := q_letX hF chpσ_14
    have ks_σ_14 : q_KS (fun b g => b = a ∧ g = 8) 8 X σ σ_14 := ks_σ_12.KS ahpσ_14 (by decide) (fun _ _ h => h)
    refine lv_aload_n hx hb dX12_feed_47 rfl (lv_at hl 0 rfl) ?_
    refine gs_X12_203_12 E hI ha dX12_feed_48 ?_
    refine lv_topi (fun f_15 ef_15 => ?_)
    replace hF := q_letX hF ef_15
    have if_15 : f_15.toInt = (σ_14.1 a 8).toInt := congrArg Int32.toInt ef_15
    have bf_15 : 0 ≤ f_15.toInt ∧ f_15.toInt ≤ 900 := by rw [ef_15]; exact q_bd hI ha rfl
    exact q_reti E hr hlk hI ⟨ks_σ_14, (by omega), (by omega), (hF.trans hout), fr_σ_14⟩ dX12_feed_51
  · skip
    replace hF := q_ifp hF c_4
    refine lv_iconst (v := (-1)) hx hb dX12_feed_18 (by decide) ?_
    have hrv : ((-1) : Int32).toInt = (-1) := rfl
    exact q_reti E hr hlk hI ⟨ks_σ_1, (by omega), (by omega), (hF.trans hout), fr_σ_1⟩ dX12_feed_19
end
