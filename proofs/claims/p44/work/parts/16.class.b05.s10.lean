section
set_option maxRecDepth 100000 in
set_option maxHeartbeats 4000000 in
theorem c_X11_markAt (l : Launch) (X : XW) (σ : ST) (a : Nat) (v1 : Int32) (ha : q_kd X a = 11) : Met l yX11_markAt (q_ws yX11_markAt cX11_markAt 2 (some (.object "CheatHeap$Game"))) (q_rm 0 0) (q_P X σ [.ref a, .int v1]) (q_Qq X 9 σ (fun (r : Option Nat) (σ' : ST) => σ' = σ ∧ ((∀ y, r = some y → q_kd X y = 1 ∧ 0 ≤ v1.toInt ∧ v1.toInt < 3) ∧ (r = none → ¬ (0 ≤ v1.toInt ∧ v1.toInt < 3))) ∧ r = F_X11_markAt X σ a v1)) 0 0 (q_reg X) := by
  refine q_met 9 (by first | exact rfl | decide +kernel) rfl (Nat.le_of_ble_eq_true rfl) (fun p e s m below meth c E hml hr hlk hI ls hl => ?_)
  have hx := E.1
  have hb := E.2.1
  have hl : lv_has ls 2 [(0, .ref a), (1, .int v1)] := hl
  obtain ⟨out, hout⟩ : ∃ o, o = F_X11_markAt X σ a v1 := ⟨_, rfl⟩
  have hF := hout.symm
  unfold F_X11_markAt at hF
  refine lv_iload_n hx hb dX11_markAt_0 rfl (lv_at hl 1 rfl) ?_
  refine q_if_lt (A := v1.toInt) E rfl (tgt := 18) dX11_markAt_1 (by decide) (fun c_1 => ?_) (fun c_1 => ?_)
  · skip
    replace hF := q_ifp hF c_1
    refine lv_null hx hb dX11_markAt_18 ?_
    exact q_retq (r := none) E hr hlk hI rfl ⟨rfl, ⟨fun y h => (nomatch h), fun _ => by omega⟩, (hF.trans hout)⟩ dX11_markAt_19
  · skip
    replace hF := q_ifn hF (Int.not_lt.mpr c_1)
    refine lv_iload_n hx hb dX11_markAt_4 rfl (lv_at hl 1 rfl) ?_
    refine lv_iconst (v := 3) hx hb dX11_markAt_5 (by decide) ?_
    refine q_icmp_ge (A := v1.toInt) (B := 3) E rfl (by decide) (tgt := 18) dX11_markAt_6 (by decide) (fun c_2 => ?_) (fun c_2 => ?_)
    · skip
      replace hF := q_ifn hF (Int.not_lt.mpr c_2)
      refine lv_null hx hb dX11_markAt_18 ?_
      exact q_retq (r := none) E hr hlk hI rfl ⟨rfl, ⟨fun y h => (nomatch h), fun _ => by omega⟩, (hF.trans hout)⟩ dX11_markAt_19
    · skip
      replace hF := q_ifp hF c_2
      refine lv_aload_n hx hb dX11_markAt_9 rfl (lv_at hl 0 rfl) ?_
      refine gs_X11_49_11 E hI ha dX11_markAt_10 ?_
      refine lv_iload_n hx hb dX11_markAt_13 rfl (lv_at hl 1 rfl) ?_
      refine q_aald E hI (q_tk (k' := 24) hI ha rfl (by decide)) (Or.inr rfl) (by omega) (by rw [q_lnk (v := 3) hI (q_tk (k' := 24) hI ha rfl (by decide)) rfl (by decide)]; omega) dX11_markAt_14 ?_
      refine lv_goto (tgt := 19) hx hb dX11_markAt_15 (by decide) ?_
      exact q_retq (r := some (q_rf X (q_rf X a 10) (v1 : Int32).toNatClampNeg)) E hr hlk hI rfl ⟨rfl, ⟨fun y h => by cases h; exact ⟨(q_tk24 hI (q_tk (k' := 24) hI ha rfl (by decide)) (by omega) (by omega)), by omega, by omega⟩, fun h => (nomatch h)⟩, (hF.trans hout)⟩ dX11_markAt_19
set_option maxRecDepth 100000 in
set_option maxHeartbeats 4000000 in
theorem c_X11_mark (l : Launch) (X : XW) (σ : ST) (a : Nat) (ha : q_kd X a = 11) : Met l yX11_mark (q_ws yX11_mark cX11_mark 2 (some .int)) (q_rm 3 64) (q_P X σ [.ref a]) (q_Qi X 0 σ (fun (r : Int32) (σ' : ST) => (q_KS (fun b g => b = a ∧ g = 11) 8 X σ σ') ∧ ((σ.1 a 11).toInt < 3 → (σ'.1 a 11).toInt = (σ.1 a 11).toInt + 1 ∧ r.toInt = (σ.1 a 11).toInt + 1) ∧ ((σ.1 a 11).toInt = 3 → (σ'.1 a 11).toInt = 3 ∧ r.toInt = -1) ∧ (r, σ') = F_X11_mark X σ a ∧ q_ow [(1, 4), (1, 5), (1, 6), (1, 7), (3, 0), (3, 1), (6, 0), (6, 1), (6, 2), (6, 3), (6, 4), (8, 0), (8, 1), (8, 2), (11, 0), (11, 11), (20, 99)] [] X σ σ')) 0 0 (q_reg X) := by
  refine q_met 0 (by first | exact rfl | decide +kernel) rfl (Nat.le_of_ble_eq_true rfl) (fun p e s m below meth c E hml hr hlk hI ls hl => ?_)
  have hx := E.1
  have hb := E.2.1
  have hl : lv_has ls 2 [(0, .ref a)] := hl
  have ks_σ : q_KS (fun b g => b = a ∧ g = 11) 8 X σ σ := q_KS.rf
  have fr_σ : q_ow [(1, 4), (1, 5), (1, 6), (1, 7), (3, 0), (3, 1), (6, 0), (6, 1), (6, 2), (6, 3), (6, 4), (8, 0), (8, 1), (8, 2), (11, 0), (11, 11), (20, 99)] [] X σ σ := q_ow.rf
  obtain ⟨out, hout⟩ : ∃ o, o = F_X11_mark X σ a := ⟨_, rfl⟩
  have hF := hout.symm
  unfold F_X11_mark at hF
  refine lv_aload_n hx hb dX11_mark_0 rfl (lv_at hl 0 rfl) ?_
  refine lv_aload_n hx hb dX11_mark_1 rfl (lv_at hl 0 rfl) ?_
  refine gs_X11_53_11 E hI ha dX11_mark_2 ?_
  refine lv_topi (fun f_1 ef_1 => ?_)
  replace hF := q_letX hF ef_1
  have if_1 : f_1.toInt = (σ.1 a 11).toInt := congrArg Int32.toInt ef_1
  have bf_1 : 0 ≤ f_1.toInt ∧ f_1.toInt ≤ 3 := by rw [ef_1]; exact q_bd hI ha rfl
  refine q_cq (q_runV (As := [.int f_1]) (rest := []) E (hml.trans hl.1.symm) hI (c_X11_markAt l X σ a f_1 ha) kv_X11_420 ha ⟨rfl, by decide⟩ (show vwCl[10]? = some (RX11, TX11, 17) from rfl) rfl ⟨Nat.le_of_ble_eq_true rfl, Nat.le_of_ble_eq_true rfl⟩ ⟨Nat.le_refl _, Nat.le_refl _⟩ rfl (Nat.le_of_ble_eq_true rfl) dX11_mark_5) hI (by decide) (fun r_2 σ_3 H locs hpσ_3 hkσ_3 hI => ?_)
  obtain ⟨ahpσ_3, bhpσ_3, chpσ_3⟩ := hpσ_3
  rw [ahpσ_3] at hI
  replace hF := q_letX hF chpσ_3
  rcases r_2 with _ | r_2
  · show W _ _ _ _ _ _ _ _ _ _ _ _ _ _ _ (F0 m (5 + 3) ls [.null])
    replace hF := q_onN hF
    have nq_f_1 := bhpσ_3.2 rfl
    refine lv_astore_nN (lv' := [(1, .null), (0, .ref a)]) hx hb dX11_mark_8 rfl hl (by decide) rfl (fun ls hl => ?_)
    refine lv_aload_nN hx hb dX11_mark_9 rfl (lv_at hl 0 rfl) ?_
    refine lv_ifnonnullN hx hb dX11_mark_10 ?_
    refine lv_aload_n hx hb dX11_mark_13 rfl (lv_at hl 1 rfl) ?_
    refine lv_bipush (v := 7) hx hb dX11_mark_14 (by decide) ?_
    have kc_4 : (7 : Int32).toInt = 7 := rfl
    refine q_ci (q_runV (As := [.int 7]) (rest := []) E (hml.trans hl.1.symm) hI (c_X11_none l X σ a (7 : Int32) ha) kv_X11_109 ha ⟨rfl, by decide⟩ (show vwCl[10]? = some (RX11, TX11, 17) from rfl) rfl ⟨Nat.le_of_ble_eq_true rfl, Nat.le_of_ble_eq_true rfl⟩ ⟨Nat.le_refl _, Nat.le_refl _⟩ rfl (Nat.le_of_ble_eq_true rfl) dX11_mark_16) hI (by decide) (fun r_5 σ_6 H locs hpσ_6 hkσ_6 hI => ?_)
    obtain ⟨ahpσ_6, bhpσ_6, chpσ_6⟩ := hpσ_6
    have fr_σ_6 := fr_σ.call chpσ_6 rfl rfl
    replace hF := q_biX hF bhpσ_6
    have mv11_σ_6 : (σ_6.1 a 11).toInt = (σ.1 a 11).toInt := congrArg Int32.toInt ((q_K.le hkσ_6 (by decide) : q_K 8 X σ σ_6) a 11 (by rw [ha]; decide))
    have ks_σ_6 : q_KS (fun b g => b = a ∧ g = 11) 8 X σ σ_6 := ks_σ.K hkσ_6 (by decide)
    exact q_reti E hr hlk hI ⟨ks_σ_6, (by omega), (by omega), (hF.trans hout), fr_σ_6⟩ dX11_mark_19
  · show W _ _ _ _ _ _ _ _ _ _ _ _ _ _ _ (F0 m (5 + 3) ls [.ref r_2])
    replace hF := q_onS hF
    obtain ⟨kq_r_2, lo_r_2, hi_r_2⟩ := bhpσ_3.1 _ rfl
    refine lv_astore_n (lv' := [(1, .ref r_2), (0, .ref a)]) hx hb dX11_mark_8 rfl hl (by decide) rfl (fun ls hl => ?_)
    refine lv_aload_n hx hb dX11_mark_9 rfl (lv_at hl 0 rfl) ?_
    refine lv_ifnonnull (tgt := 20) hx hb dX11_mark_10 (by decide) ?_
    refine lv_aload_n hx hb dX11_mark_20 rfl (lv_at hl 0 rfl) ?_
    refine lv_aload_n hx hb dX11_mark_21 rfl (lv_at hl 1 rfl) ?_
    refine gs_X11_42_11 E hI ha dX11_mark_22 ?_
    refine q_cv (q_runV (As := [.ref (q_rf X a 8)]) (rest := []) E (hml.trans hl.1.symm) hI (c_X0_copyFrom l X σ r_2 (q_rf X a 8) kq_r_2 (q_tk (k' := 1) hI ha rfl (by decide))) kv_X11_144 kq_r_2 ⟨rfl, by decide⟩ (show vwCl[0]? = some (RX0, TX0, 15) from rfl) rfl ⟨Nat.le_of_ble_eq_true rfl, Nat.le_of_ble_eq_true rfl⟩ ⟨Nat.le_refl _, Nat.le_refl _⟩ rfl (Nat.le_of_ble_eq_true rfl) dX11_mark_25) hI (by decide) (fun σ_8 H locs hpσ_8 hkσ_8 hI => ?_)
    obtain ⟨ahpσ_8, bhpσ_8⟩ := hpσ_8
    have fr_σ_8 := fr_σ.call bhpσ_8 rfl rfl
    replace hF := q_letX hF ahpσ_8
    have mv11_σ_8 : (σ_8.1 a 11).toInt = (σ.1 a 11).toInt := congrArg Int32.toInt ((q_K.le hkσ_8 (by decide) : q_K 8 X σ σ_8) a 11 (by rw [ha]; decide))
    have ks_σ_8 : q_KS (fun b g => b = a ∧ g = 11) 8 X σ σ_8 := ks_σ.K hkσ_8 (by decide)
    refine lv_aload_n hx hb dX11_mark_28 rfl (lv_at hl 1 rfl) ?_
    refine lv_dup hx hb dX11_mark_29 rfl ?_
    refine gs_X11_53_11 E hI ha dX11_mark_30 ?_
    refine lv_topi (fun f_9 ef_9 => ?_)
    replace hF := q_letX hF ef_9
    have if_9 : f_9.toInt = (σ.1 a 11).toInt := (congrArg Int32.toInt ef_9).trans mv11_σ_8
    have bf_9 : 0 ≤ f_9.toInt ∧ f_9.toInt ≤ 3 := by rw [ef_9]; exact q_bd hI ha rfl
    refine lv_iconst (v := 1) hx hb dX11_mark_33 (by decide) ?_
    refine lv_iadd hx hb dX11_mark_34 ?_
    refine lv_topi (fun z_10 ez_10 => ?_)
    replace hF := q_letX hF ez_10
    have kc_11 : (1 : Int32).toInt = 1 := rfl
    have iz_10 := q_add ez_10 (by omega) (by omega)
    refine ps_X11_53_11 E hI ha (by decide) (by omega) (by omega) dX11_mark_35 (fun H locs σ_12 hσ_12 hI => ?_)
    replace hF := q_letX hF hσ_12
    have fr_σ_12 := fr_σ_8.si hσ_12 ha rfl
    have ks_σ_12 : q_KS (fun b g => b = a ∧ g = 11) 8 X σ σ_12 := ks_σ_8.siS hσ_12 ⟨rfl, rfl⟩
    have mv11_σ_12 : (σ_12.1 a 11).toInt = z_10.toInt := congrArg Int32.toInt (q_rd hσ_12)
    refine lv_aload_n hx hb dX11_mark_38 rfl (lv_at hl 1 rfl) ?_
    refine lv_aload_n hx hb dX11_mark_39 rfl (lv_at hl 1 rfl) ?_
    refine gs_X11_53_11 E hI ha dX11_mark_40 ?_
    refine lv_topi (fun f_13 ef_13 => ?_)
    replace hF := q_letX hF ef_13
    have if_13 : f_13.toInt = z_10.toInt := (congrArg Int32.toInt ef_13).trans mv11_σ_12
    have bf_13 : 0 ≤ f_13.toInt ∧ f_13.toInt ≤ 3 := by rw [ef_13]; exact q_bd hI ha rfl
    refine q_ci (q_runV (As := [.int f_13]) (rest := []) E (hml.trans hl.1.symm) hI (c_X11_good l X σ_12 a f_13 ha) kv_X11_156 ha ⟨rfl, by decide⟩ (show vwCl[10]? = some (RX11, TX11, 17) from rfl) rfl ⟨Nat.le_of_ble_eq_true rfl, Nat.le_of_ble_eq_true rfl⟩ ⟨Nat.le_refl _, Nat.le_refl _⟩ rfl (Nat.le_of_ble_eq_true rfl) dX11_mark_43) hI (by decide) (fun r_14 σ_15 H locs hpσ_15 hkσ_15 hI => ?_)
    obtain ⟨ahpσ_15, bhpσ_15, chpσ_15⟩ := hpσ_15
    have fr_σ_15 := fr_σ_12.call chpσ_15 rfl rfl
    replace hF := q_biX hF bhpσ_15
    have mv11_σ_15 : (σ_15.1 a 11).toInt = z_10.toInt := (congrArg Int32.toInt ((q_K.le hkσ_15 (by decide) : q_K 8 X σ_12 σ_15) a 11 (by rw [ha]; decide))).trans mv11_σ_12
    have ks_σ_15 : q_KS (fun b g => b = a ∧ g = 11) 8 X σ σ_15 := ks_σ_12.K hkσ_15 (by decide)
    exact q_reti E hr hlk hI ⟨ks_σ_15, (by first | (clear mv11_σ_8 mv11_σ_12; omega) | omega), (by first | (clear mv11_σ_8 mv11_σ_12; omega) | omega), (hF.trans hout), fr_σ_15⟩ dX11_mark_46
end
