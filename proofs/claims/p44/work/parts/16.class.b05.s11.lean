section
set_option maxRecDepth 100000 in
set_option maxHeartbeats 4000000 in
theorem c_X11_back (l : Launch) (X : XW) (σ : ST) (a : Nat) (ha : q_kd X a = 11) : Met l yX11_back (q_ws yX11_back cX11_back 2 (some .int)) (q_rm 3 64) (q_P X σ [.ref a]) (q_Qi X 0 σ (fun (r : Int32) (σ' : ST) => (q_KS (fun b g => b = a ∧ g = 11) 8 X σ σ') ∧ (0 < (σ.1 a 11).toInt → (σ'.1 a 11).toInt = (σ.1 a 11).toInt - 1 ∧ r.toInt = (σ.1 a 11).toInt - 1) ∧ ((σ.1 a 11).toInt = 0 → (σ'.1 a 11).toInt = 0 ∧ r.toInt = -1) ∧ (r, σ') = F_X11_back X σ a ∧ q_ow [(1, 4), (1, 5), (1, 6), (1, 7), (3, 0), (3, 1), (6, 0), (6, 1), (6, 2), (6, 3), (6, 4), (8, 0), (8, 1), (8, 2), (11, 0), (11, 11), (20, 99)] [] X σ σ')) 0 0 (q_reg X) := by
  refine q_met 0 (by first | exact rfl | decide +kernel) rfl (Nat.le_of_ble_eq_true rfl) (fun p e s m below meth c E hml hr hlk hI ls hl => ?_)
  have hx := E.1
  have hb := E.2.1
  have hl : lv_has ls 2 [(0, .ref a)] := hl
  have ks_σ : q_KS (fun b g => b = a ∧ g = 11) 8 X σ σ := q_KS.rf
  have fr_σ : q_ow [(1, 4), (1, 5), (1, 6), (1, 7), (3, 0), (3, 1), (6, 0), (6, 1), (6, 2), (6, 3), (6, 4), (8, 0), (8, 1), (8, 2), (11, 0), (11, 11), (20, 99)] [] X σ σ := q_ow.rf
  obtain ⟨out, hout⟩ : ∃ o, o = F_X11_back X σ a := ⟨_, rfl⟩
  have hF := hout.symm
  unfold F_X11_back at hF
  refine lv_aload_n hx hb dX11_back_0 rfl (lv_at hl 0 rfl) ?_
  refine lv_aload_n hx hb dX11_back_1 rfl (lv_at hl 0 rfl) ?_
  refine gs_X11_53_11 E hI ha dX11_back_2 ?_
  refine lv_topi (fun f_1 ef_1 => ?_)
  replace hF := q_letX hF ef_1
  have if_1 : f_1.toInt = (σ.1 a 11).toInt := congrArg Int32.toInt ef_1
  have bf_1 : 0 ≤ f_1.toInt ∧ f_1.toInt ≤ 3 := by rw [ef_1]; exact q_bd hI ha rfl
  refine lv_iconst (v := 1) hx hb dX11_back_5 (by decide) ?_
  refine lv_isub hx hb dX11_back_6 ?_
  refine lv_topi (fun z_2 ez_2 => ?_)
  replace hF := q_letX hF ez_2
  have kc_3 : (1 : Int32).toInt = 1 := rfl
  have iz_2 := q_sub ez_2 (by omega) (by omega)
  refine q_cq (q_runV (As := [.int z_2]) (rest := []) E (hml.trans hl.1.symm) hI (c_X11_markAt l X σ a z_2 ha) kv_X11_420 ha ⟨rfl, by decide⟩ (show vwCl[10]? = some (RX11, TX11, 17) from rfl) rfl ⟨Nat.le_of_ble_eq_true rfl, Nat.le_of_ble_eq_true rfl⟩ ⟨Nat.le_refl _, Nat.le_refl _⟩ rfl (Nat.le_of_ble_eq_true rfl) dX11_back_7) hI (by decide) (fun r_4 σ_5 H locs hpσ_5 hkσ_5 hI => ?_)
  obtain ⟨ahpσ_5, bhpσ_5, chpσ_5⟩ := hpσ_5
  rw [ahpσ_5] at hI
  replace hF := q_letX hF chpσ_5
  rcases r_4 with _ | r_4
  · show W _ _ _ _ _ _ _ _ _ _ _ _ _ _ _ (F0 m (7 + 3) ls [.null])
    replace hF := q_onN hF
    have nq_z_2 := bhpσ_5.2 rfl
    refine lv_astore_nN (lv' := [(1, .null), (0, .ref a)]) hx hb dX11_back_10 rfl hl (by decide) rfl (fun ls hl => ?_)
    refine lv_aload_nN hx hb dX11_back_11 rfl (lv_at hl 0 rfl) ?_
    refine lv_ifnonnullN hx hb dX11_back_12 ?_
    refine lv_aload_n hx hb dX11_back_15 rfl (lv_at hl 1 rfl) ?_
    refine lv_bipush (v := 8) hx hb dX11_back_16 (by decide) ?_
    have kc_6 : (8 : Int32).toInt = 8 := rfl
    refine q_ci (q_runV (As := [.int 8]) (rest := []) E (hml.trans hl.1.symm) hI (c_X11_none l X σ a (8 : Int32) ha) kv_X11_109 ha ⟨rfl, by decide⟩ (show vwCl[10]? = some (RX11, TX11, 17) from rfl) rfl ⟨Nat.le_of_ble_eq_true rfl, Nat.le_of_ble_eq_true rfl⟩ ⟨Nat.le_refl _, Nat.le_refl _⟩ rfl (Nat.le_of_ble_eq_true rfl) dX11_back_18) hI (by decide) (fun r_7 σ_8 H locs hpσ_8 hkσ_8 hI => ?_)
    obtain ⟨ahpσ_8, bhpσ_8, chpσ_8⟩ := hpσ_8
    have fr_σ_8 := fr_σ.call chpσ_8 rfl rfl
    replace hF := q_biX hF bhpσ_8
    have mv11_σ_8 : (σ_8.1 a 11).toInt = (σ.1 a 11).toInt := congrArg Int32.toInt ((q_K.le hkσ_8 (by decide) : q_K 8 X σ σ_8) a 11 (by rw [ha]; decide))
    have ks_σ_8 : q_KS (fun b g => b = a ∧ g = 11) 8 X σ σ_8 := ks_σ.K hkσ_8 (by decide)
    exact q_reti E hr hlk hI ⟨ks_σ_8, (by omega), (by omega), (hF.trans hout), fr_σ_8⟩ dX11_back_21
  · show W _ _ _ _ _ _ _ _ _ _ _ _ _ _ _ (F0 m (7 + 3) ls [.ref r_4])
    replace hF := q_onS hF
    obtain ⟨kq_r_4, lo_r_4, hi_r_4⟩ := bhpσ_5.1 _ rfl
    refine lv_astore_n (lv' := [(1, .ref r_4), (0, .ref a)]) hx hb dX11_back_10 rfl hl (by decide) rfl (fun ls hl => ?_)
    refine lv_aload_n hx hb dX11_back_11 rfl (lv_at hl 0 rfl) ?_
    refine lv_ifnonnull (tgt := 22) hx hb dX11_back_12 (by decide) ?_
    refine lv_aload_n hx hb dX11_back_22 rfl (lv_at hl 1 rfl) ?_
    refine gs_X11_42_11 E hI ha dX11_back_23 ?_
    refine lv_aload_n hx hb dX11_back_26 rfl (lv_at hl 0 rfl) ?_
    refine q_cv (q_runV (As := [.ref r_4]) (rest := []) E (hml.trans hl.1.symm) hI (c_X0_copyFrom l X σ (q_rf X a 8) r_4 (q_tk (k' := 1) hI ha rfl (by decide)) kq_r_4) kv_X11_144 (q_tk (k' := 1) hI ha rfl (by decide)) ⟨rfl, by decide⟩ (show vwCl[0]? = some (RX0, TX0, 15) from rfl) rfl ⟨Nat.le_of_ble_eq_true rfl, Nat.le_of_ble_eq_true rfl⟩ ⟨Nat.le_refl _, Nat.le_refl _⟩ rfl (Nat.le_of_ble_eq_true rfl) dX11_back_27) hI (by decide) (fun σ_10 H locs hpσ_10 hkσ_10 hI => ?_)
    obtain ⟨ahpσ_10, bhpσ_10⟩ := hpσ_10
    have fr_σ_10 := fr_σ.call bhpσ_10 rfl rfl
    replace hF := q_letX hF ahpσ_10
    have mv11_σ_10 : (σ_10.1 a 11).toInt = (σ.1 a 11).toInt := congrArg Int32.toInt ((q_K.le hkσ_10 (by decide) : q_K 8 X σ σ_10) a 11 (by rw [ha]; decide))
    have ks_σ_10 : q_KS (fun b g => b = a ∧ g = 11) 8 X σ σ_10 := ks_σ.K hkσ_10 (by decide)
    refine lv_aload_n hx hb dX11_back_30 rfl (lv_at hl 1 rfl) ?_
    refine lv_dup hx hb dX11_back_31 rfl ?_
    refine gs_X11_53_11 E hI ha dX11_back_32 ?_
    refine lv_topi (fun f_11 ef_11 => ?_)
    replace hF := q_letX hF ef_11
    have if_11 : f_11.toInt = (σ.1 a 11).toInt := (congrArg Int32.toInt ef_11).trans mv11_σ_10
    have bf_11 : 0 ≤ f_11.toInt ∧ f_11.toInt ≤ 3 := by rw [ef_11]; exact q_bd hI ha rfl
    refine lv_iconst (v := 1) hx hb dX11_back_35 (by decide) ?_
    refine lv_isub hx hb dX11_back_36 ?_
    refine lv_topi (fun z_12 ez_12 => ?_)
    replace hF := q_letX hF ez_12
    have kc_13 : (1 : Int32).toInt = 1 := rfl
    have iz_12 := q_sub ez_12 (by omega) (by omega)
    refine ps_X11_53_11 E hI ha (by decide) (by omega) (by omega) dX11_back_37 (fun H locs σ_14 hσ_14 hI => ?_)
    replace hF := q_letX hF hσ_14
    have fr_σ_14 := fr_σ_10.si hσ_14 ha rfl
    have ks_σ_14 : q_KS (fun b g => b = a ∧ g = 11) 8 X σ σ_14 := ks_σ_10.siS hσ_14 ⟨rfl, rfl⟩
    have mv11_σ_14 : (σ_14.1 a 11).toInt = z_12.toInt := congrArg Int32.toInt (q_rd hσ_14)
    refine lv_aload_n hx hb dX11_back_40 rfl (lv_at hl 1 rfl) ?_
    refine lv_aload_n hx hb dX11_back_41 rfl (lv_at hl 1 rfl) ?_
    refine gs_X11_53_11 E hI ha dX11_back_42 ?_
    refine lv_topi (fun f_15 ef_15 => ?_)
    replace hF := q_letX hF ef_15
    have if_15 : f_15.toInt = z_12.toInt := (congrArg Int32.toInt ef_15).trans mv11_σ_14
    have bf_15 : 0 ≤ f_15.toInt ∧ f_15.toInt ≤ 3 := by rw [ef_15]; exact q_bd hI ha rfl
    refine q_ci (q_runV (As := [.int f_15]) (rest := []) E (hml.trans hl.1.symm) hI (c_X11_good l X σ_14 a f_15 ha) kv_X11_156 ha ⟨rfl, by decide⟩ (show vwCl[10]? = some (RX11, TX11, 17) from rfl) rfl ⟨Nat.le_of_ble_eq_true rfl, Nat.le_of_ble_eq_true rfl⟩ ⟨Nat.le_refl _, Nat.le_refl _⟩ rfl (Nat.le_of_ble_eq_true rfl) dX11_back_45) hI (by decide) (fun r_16 σ_17 H locs hpσ_17 hkσ_17 hI => ?_)
    obtain ⟨ahpσ_17, bhpσ_17, chpσ_17⟩ := hpσ_17
    have fr_σ_17 := fr_σ_14.call chpσ_17 rfl rfl
    replace hF := q_biX hF bhpσ_17
    have mv11_σ_17 : (σ_17.1 a 11).toInt = z_12.toInt := (congrArg Int32.toInt ((q_K.le hkσ_17 (by decide) : q_K 8 X σ_14 σ_17) a 11 (by rw [ha]; decide))).trans mv11_σ_14
    have ks_σ_17 : q_KS (fun b g => b = a ∧ g = 11) 8 X σ σ_17 := ks_σ_14.K hkσ_17 (by decide)
    exact q_reti E hr hlk hI ⟨ks_σ_17, (by first | (clear mv11_σ_10 mv11_σ_14; omega) | omega), (by first | (clear mv11_σ_10 mv11_σ_14; omega) | omega), (hF.trans hout), fr_σ_17⟩ dX11_back_48
end
