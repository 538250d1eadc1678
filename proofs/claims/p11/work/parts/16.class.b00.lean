set_option maxRecDepth 100000 in
set_option maxHeartbeats 4000000 in
theorem c_X11_status (l : Launch) (X : XW) (σ : ST) (a : Nat) (ha : q_kd X a = 11) : Met l yX11_status (q_ws yX11_status cX11_status 1 (some .int)) (q_rm 0 0) (q_P X σ [.ref a]) (q_Qi X 9 σ (fun (r : Int32) (σ' : ST) => σ' = σ ∧ r = F_X11_status X σ a)) 0 0 (q_reg X) := by
  refine q_met 9 (by decide +kernel) rfl (Nat.le_of_ble_eq_true rfl) (fun p e s m below meth c E hml hr hlk hI ls hl => ?_)
  have hx := E.1
  have hb := E.2.1
  have hl : lv_has ls 1 [(0, .ref a)] := hl
  obtain ⟨out, hout⟩ : ∃ o, o = F_X11_status X σ a := ⟨_, rfl⟩
  have hF := hout.symm
  unfold F_X11_status at hF
  refine lv_aload_n hx hb dX11_status_0 rfl (lv_at hl 0 rfl) ?_
  refine gs_X11_9_11 E hI ha dX11_status_1 ?_
  refine lv_topi (fun f_1 ef_1 => ?_)
  replace hF := q_letX hF ef_1
  exact q_reti E hr hlk hI ⟨rfl, (hF.trans hout)⟩ dX11_status_4

set_option maxRecDepth 100000 in
set_option maxHeartbeats 4000000 in
theorem c_X11_top (l : Launch) (X : XW) (σ : ST) (a : Nat) (ha : q_kd X a = 11) : Met l yX11_top (q_ws yX11_top cX11_top 1 (some .long)) (q_rm 0 0) (q_P X σ [.ref a]) (q_Ql X 9 σ (fun (r : Int64) (σ' : ST) => σ' = σ ∧ r = F_X11_top X σ a)) 0 0 (q_reg X) := by
  refine q_met 9 (by decide +kernel) rfl (Nat.le_of_ble_eq_true rfl) (fun p e s m below meth c E hml hr hlk hI ls hl => ?_)
  have hx := E.1
  have hb := E.2.1
  have hl : lv_has ls 1 [(0, .ref a)] := hl
  obtain ⟨out, hout⟩ : ∃ o, o = F_X11_top X σ a := ⟨_, rfl⟩
  have hF := hout.symm
  unfold F_X11_top at hF
  refine lv_aload_n hx hb dX11_top_0 rfl (lv_at hl 0 rfl) ?_
  refine gs_X11_13_11 E hI ha dX11_top_1 ?_
  refine lv_topl (fun g_1 eg_1 => ?_)
  replace hF := q_letX hF eg_1
  exact q_retl E hr hlk hI ⟨rfl, (hF.trans hout)⟩ dX11_top_4

set_option maxRecDepth 100000 in
set_option maxHeartbeats 4000000 in
theorem c_X11_bottom (l : Launch) (X : XW) (σ : ST) (a : Nat) (ha : q_kd X a = 11) : Met l yX11_bottom (q_ws yX11_bottom cX11_bottom 1 (some .long)) (q_rm 0 0) (q_P X σ [.ref a]) (q_Ql X 9 σ (fun (r : Int64) (σ' : ST) => σ' = σ ∧ r = F_X11_bottom X σ a)) 0 0 (q_reg X) := by
  refine q_met 9 (by decide +kernel) rfl (Nat.le_of_ble_eq_true rfl) (fun p e s m below meth c E hml hr hlk hI ls hl => ?_)
  have hx := E.1
  have hb := E.2.1
  have hl : lv_has ls 1 [(0, .ref a)] := hl
  obtain ⟨out, hout⟩ : ∃ o, o = F_X11_bottom X σ a := ⟨_, rfl⟩
  have hF := hout.symm
  unfold F_X11_bottom at hF
  refine lv_aload_n hx hb dX11_bottom_0 rfl (lv_at hl 0 rfl) ?_
  refine gs_X11_17_11 E hI ha dX11_bottom_1 ?_
  refine lv_topl (fun g_1 eg_1 => ?_)
  replace hF := q_letX hF eg_1
  exact q_retl E hr hlk hI ⟨rfl, (hF.trans hout)⟩ dX11_bottom_4

set_option maxRecDepth 100000 in
set_option maxHeartbeats 4000000 in
theorem c_X11_trayAt (l : Launch) (X : XW) (σ : ST) (a : Nat) (v1 : Int32) (ha : q_kd X a = 11) : Met l yX11_trayAt (q_ws yX11_trayAt cX11_trayAt 2 (some (.object "CheatHeap$Tray"))) (q_rm 0 0) (q_P X σ [.ref a, .int v1]) (q_Qq X 9 σ (fun (r : Option Nat) (σ' : ST) => σ' = σ ∧ ((∀ y, r = some y → q_kd X y = 10 ∧ y = (q_rf X (q_rf X a 3) v1.toNatClampNeg) ∧ 0 ≤ v1.toInt ∧ v1.toInt < 4) ∧ (r = none → ¬ (0 ≤ v1.toInt ∧ v1.toInt < 4))) ∧ r = F_X11_trayAt X σ a v1)) 0 0 (q_reg X) := by
  refine q_met 9 (by decide +kernel) rfl (Nat.le_of_ble_eq_true rfl) (fun p e s m below meth c E hml hr hlk hI ls hl => ?_)
  have hx := E.1
  have hb := E.2.1
  have hl : lv_has ls 2 [(0, .ref a), (1, .int v1)] := hl
  obtain ⟨out, hout⟩ : ∃ o, o = F_X11_trayAt X σ a v1 := ⟨_, rfl⟩
  have hF := hout.symm
  unfold F_X11_trayAt at hF
  refine lv_iload_n hx hb dX11_trayAt_0 rfl (lv_at hl 1 rfl) ?_
  refine q_if_lt (A := v1.toInt) E rfl (tgt := 18) dX11_trayAt_1 (by decide) (fun c_1 => ?_) (fun c_1 => ?_)
  · skip
    replace hF := q_ifp hF c_1
    refine lv_null hx hb dX11_trayAt_18 ?_
    exact q_retq (r := none) E hr hlk hI rfl ⟨rfl, ⟨fun y h => (nomatch h), fun _ => by omega⟩, (hF.trans hout)⟩ dX11_trayAt_19
  · skip
    replace hF := q_ifn hF (Int.not_lt.mpr c_1)
    refine lv_iload_n hx hb dX11_trayAt_4 rfl (lv_at hl 1 rfl) ?_
    refine lv_iconst (v := 4) hx hb dX11_trayAt_5 (by decide) ?_
    refine q_icmp_ge (A := v1.toInt) (B := 4) E rfl (by decide) (tgt := 18) dX11_trayAt_6 (by decide) (fun c_2 => ?_) (fun c_2 => ?_)
    · skip
      replace hF := q_ifn hF (Int.not_lt.mpr c_2)
      refine lv_null hx hb dX11_trayAt_18 ?_
      exact q_retq (r := none) E hr hlk hI rfl ⟨rfl, ⟨fun y h => (nomatch h), fun _ => by omega⟩, (hF.trans hout)⟩ dX11_trayAt_19
    · skip
      replace hF := q_ifp hF c_2
      refine lv_aload_n hx hb dX11_trayAt_9 rfl (lv_at hl 0 rfl) ?_
      refine gs_X11_22_11 E hI ha dX11_trayAt_10 ?_
      refine lv_iload_n hx hb dX11_trayAt_13 rfl (lv_at hl 1 rfl) ?_
      refine q_aald E hI (q_tk (k' := 23) hI ha rfl (by decide)) (Or.inl rfl) (by omega) (by rw [q_lnk (v := 4) hI (q_tk (k' := 23) hI ha rfl (by decide)) rfl (by decide)]; omega) dX11_trayAt_14 ?_
      refine lv_goto (tgt := 19) hx hb dX11_trayAt_15 (by decide) ?_
      exact q_retq (r := some (q_rf X (q_rf X a 3) (v1 : Int32).toNatClampNeg)) E hr hlk hI rfl ⟨rfl, ⟨fun y h => by cases h; exact ⟨(q_tk23 hI (q_tk (k' := 23) hI ha rfl (by decide)) (by omega) (by omega)), rfl, by omega, by omega⟩, fun h => (nomatch h)⟩, (hF.trans hout)⟩ dX11_trayAt_19

set_option maxRecDepth 100000 in
set_option maxHeartbeats 4000000 in
theorem c_X11_no (l : Launch) (X : XW) (σ : ST) (a : Nat) (v1 : Int32) (ha : q_kd X a = 11) : Met l yX11_no (q_ws yX11_no cX11_no 2 (some .boolean)) (q_rm 0 0) (q_P X σ [.ref a, .int v1]) (q_Qi X 8 σ (fun (r : Int32) (σ' : ST) => (0 ≤ r.toInt ∧ r.toInt ≤ 1) ∧ (r.toInt = 0) ∧ (r, σ') = F_X11_no X σ a v1 ∧ q_ow [(11, 0)] [] X σ σ')) 0 0 (q_reg X) := by
  refine q_met 8 (by decide +kernel) rfl (Nat.le_of_ble_eq_true rfl) (fun p e s m below meth c E hml hr hlk hI ls hl => ?_)
  have hx := E.1
  have hb := E.2.1
  have hl : lv_has ls 2 [(0, .ref a), (1, .int v1)] := hl
  have fr_σ : q_ow [(11, 0)] [] X σ σ := q_ow.rf
  obtain ⟨out, hout⟩ : ∃ o, o = F_X11_no X σ a v1 := ⟨_, rfl⟩
  have hF := hout.symm
  unfold F_X11_no at hF
  refine lv_aload_n hx hb dX11_no_0 rfl (lv_at hl 0 rfl) ?_
  refine lv_iload_n hx hb dX11_no_1 rfl (lv_at hl 1 rfl) ?_
  refine ps_X11_9_11 E hI ha (by decide) dX11_no_2 (fun H locs σ_1 hσ_1 hI => ?_)
  replace hF := q_letX hF hσ_1
  have fr_σ_1 := fr_σ.si hσ_1 ha rfl
  refine lv_iconst (v := 0) hx hb dX11_no_5 (by decide) ?_
  have hrv : (0 : Int32).toInt = 0 := rfl
  exact q_retz E hr hlk hI ⟨by decide, by decide⟩ ⟨⟨by decide, by decide⟩, (by decide), (hF.trans hout), fr_σ_1⟩ dX11_no_6

set_option maxRecDepth 100000 in
set_option maxHeartbeats 4000000 in
theorem c_X11_yes (l : Launch) (X : XW) (σ : ST) (a : Nat) (ha : q_kd X a = 11) : Met l yX11_yes (q_ws yX11_yes cX11_yes 1 (some .boolean)) (q_rm 0 0) (q_P X σ [.ref a]) (q_Qi X 8 σ (fun (r : Int32) (σ' : ST) => (0 ≤ r.toInt ∧ r.toInt ≤ 1) ∧ (r.toInt = 1) ∧ (r, σ') = F_X11_yes X σ a ∧ q_ow [(11, 0)] [] X σ σ')) 0 0 (q_reg X) := by
  refine q_met 8 (by decide +kernel) rfl (Nat.le_of_ble_eq_true rfl) (fun p e s m below meth c E hml hr hlk hI ls hl => ?_)
  have hx := E.1
  have hb := E.2.1
  have hl : lv_has ls 1 [(0, .ref a)] := hl
  have fr_σ : q_ow [(11, 0)] [] X σ σ := q_ow.rf
  obtain ⟨out, hout⟩ : ∃ o, o = F_X11_yes X σ a := ⟨_, rfl⟩
  have hF := hout.symm
  unfold F_X11_yes at hF
  refine lv_aload_n hx hb dX11_yes_0 rfl (lv_at hl 0 rfl) ?_
  refine lv_iconst (v := 0) hx hb dX11_yes_1 (by decide) ?_
  refine ps_X11_9_11 E hI ha (by decide) dX11_yes_2 (fun H locs σ_1 hσ_1 hI => ?_)
  replace hF := q_letX hF hσ_1
  have fr_σ_1 := fr_σ.si hσ_1 ha rfl
  refine lv_iconst (v := 1) hx hb dX11_yes_5 (by decide) ?_
  have hrv : (1 : Int32).toInt = 1 := rfl
  exact q_retz E hr hlk hI ⟨by decide, by decide⟩ ⟨⟨by decide, by decide⟩, (by decide), (hF.trans hout), fr_σ_1⟩ dX11_yes_6

set_option maxRecDepth 100000 in
set_option maxHeartbeats 4000000 in
theorem c_X11_tray (l : Launch) (X : XW) (σ : ST) (a : Nat) (v1 : Int32) (v2 : Int32) (v3 : Int32) (ha : q_kd X a = 11) : Met l yX11_tray (q_ws yX11_tray cX11_tray 5 (some .boolean)) (q_rm 2 44) (q_P X σ [.ref a, .int v1, .int v2, .int v3]) (q_Qi X 0 σ (fun (r : Int32) (σ' : ST) => (0 ≤ r.toInt ∧ r.toInt ≤ 1) ∧ (q_KS (fun b g => b = (q_rf X (q_rf X a 3) v1.toNatClampNeg) ∧ g ≤ 1) 8 X σ σ') ∧ (r.toInt = 1 ↔ (0 ≤ v1.toInt ∧ v1.toInt < 4 ∧ 0 ≤ v2.toInt ∧ v2.toInt ≤ 3 ∧ 0 ≤ v3.toInt ∧ v3.toInt ≤ 60)) ∧ (r.toInt = 1 → σ'.1 (q_rf X (q_rf X a 3) v1.toNatClampNeg) 0 = v2 ∧ (σ'.1 (q_rf X (q_rf X a 3) v1.toNatClampNeg) 1).toInt = v3.toInt) ∧ (r.toInt = 0 → q_K 8 X σ σ') ∧ (r, σ') = F_X11_tray X σ a v1 v2 v3 ∧ q_ow [(10, 0), (10, 1), (11, 0)] [(21, 99)] X σ σ')) 0 0 (q_reg X) := by
  refine q_met 0 (by decide +kernel) rfl (Nat.le_of_ble_eq_true rfl) (fun p e s m below meth c E hml hr hlk hI ls hl => ?_)
  have hx := E.1
  have hb := E.2.1
  have hl : lv_has ls 5 [(0, .ref a), (1, .int v1), (2, .int v2), (3, .int v3)] := hl
  have ks_σ : q_KS (fun b g => b = (q_rf X (q_rf X a 3) v1.toNatClampNeg) ∧ g ≤ 1) 8 X σ σ := q_KS.rf
  have fr_σ : q_ow [(10, 0), (10, 1), (11, 0)] [(21, 99)] X σ σ := q_ow.rf
  obtain ⟨out, hout⟩ : ∃ o, o = F_X11_tray X σ a v1 v2 v3 := ⟨_, rfl⟩
  have hF := hout.symm
  unfold F_X11_tray at hF
  refine lv_aload_n hx hb dX11_tray_0 rfl (lv_at hl 0 rfl) ?_
  refine lv_iload_n hx hb dX11_tray_1 rfl (lv_at hl 1 rfl) ?_
  refine q_cq (q_runV (As := [.int v1]) (rest := []) E (hml.trans hl.1.symm) hI (c_X11_trayAt l X σ a v1 ha) kv_X11_85 ha ⟨rfl, by decide⟩ (show vwCl[10]? = some (RX11, TX11, 17) from rfl) rfl ⟨Nat.le_of_ble_eq_true rfl, Nat.le_of_ble_eq_true rfl⟩ ⟨Nat.le_refl _, Nat.le_refl _⟩ rfl (Nat.le_of_ble_eq_true rfl) dX11_tray_2) hI (by decide) (fun r_1 σ_2 H locs hpσ_2 hkσ_2 hI => ?_)
  obtain ⟨ahpσ_2, bhpσ_2, chpσ_2⟩ := hpσ_2
  rw [ahpσ_2] at hI
  replace hF := q_letX hF chpσ_2
  rcases r_1 with _ | r_1
  · show W _ _ _ _ _ _ _ _ _ _ _ _ _ _ _ (F0 m (2 + 3) ls [.null])
    replace hF := q_onN hF
    have nq_v1 := bhpσ_2.2 rfl
    refine lv_astoreN (lv' := [(4, .null), (0, .ref a), (1, .int v1), (2, .int v2), (3, .int v3)]) hx hb dX11_tray_5 hl (by decide) rfl (fun ls hl => ?_)
    refine lv_aloadN hx hb dX11_tray_7 (lv_at hl 0 rfl) ?_
    refine lv_ifnullN (tgt := 21) hx hb dX11_tray_9 (by decide) ?_
    refine lv_aload_n hx hb dX11_tray_21 rfl (lv_at hl 1 rfl) ?_
    refine lv_iconst (v := 1) hx hb dX11_tray_22 (by decide) ?_
    have kc_3 : (1 : Int32).toInt = 1 := rfl
    refine q_ci (q_runV (As := [.int 1]) (rest := []) E (hml.trans hl.1.symm) hI (c_X11_no l X σ a (1 : Int32) ha) kv_X11_89 ha ⟨rfl, by decide⟩ (show vwCl[10]? = some (RX11, TX11, 17) from rfl) rfl ⟨Nat.le_of_ble_eq_true rfl, Nat.le_of_ble_eq_true rfl⟩ ⟨Nat.le_refl _, Nat.le_refl _⟩ rfl (Nat.le_of_ble_eq_true rfl) dX11_tray_23) hI (by decide) (fun r_4 σ_5 H locs hpσ_5 hkσ_5 hI => ?_)
    obtain ⟨ahpσ_5, bhpσ_5, chpσ_5, dhpσ_5⟩ := hpσ_5
    have fr_σ_5 := fr_σ.call dhpσ_5 rfl rfl
    replace hF := q_biX hF chpσ_5
    have ks_σ_5 : q_KS (fun b g => b = (q_rf X (q_rf X a 3) v1.toNatClampNeg) ∧ g ≤ 1) 8 X σ σ_5 := ks_σ.K hkσ_5 (by decide)
    exact q_retz E hr hlk hI ⟨by omega, by omega⟩ ⟨⟨by omega, by omega⟩, ks_σ_5, (by constructor <;> intro h9 <;> omega), (by intro h9; exfalso; omega), (fun _ => hkσ_5), (hF.trans hout), fr_σ_5⟩ dX11_tray_26
  · show W _ _ _ _ _ _ _ _ _ _ _ _ _ _ _ (F0 m (2 + 3) ls [.ref r_1])
    replace hF := q_onS hF
    obtain ⟨kq_r_1, eq_r_1, lo_r_1, hi_r_1⟩ := bhpσ_2.1 _ rfl
    have f0_r_1 : (σ.1 (q_rf X (q_rf X a 3) v1.toNatClampNeg) 0).toInt = (σ.1 r_1 0).toInt := by rw [← eq_r_1]
    have f1_r_1 : (σ.1 (q_rf X (q_rf X a 3) v1.toNatClampNeg) 1).toInt = (σ.1 r_1 1).toInt := by rw [← eq_r_1]
    have g1_r_1 : -1 ≤ (σ.1 r_1 1).toInt ∧ (σ.1 r_1 1).toInt ≤ 60 := q_bd hI kq_r_1 rfl
    refine lv_astore (lv' := [(4, .ref r_1), (0, .ref a), (1, .int v1), (2, .int v2), (3, .int v3)]) hx hb dX11_tray_5 hl (by decide) rfl (fun ls hl => ?_)
    refine lv_aload hx hb dX11_tray_7 (lv_at hl 0 rfl) ?_
    refine lv_ifnull hx hb dX11_tray_9 ?_
    refine lv_iload_n hx hb dX11_tray_12 rfl (lv_at hl 3 rfl) ?_
    refine q_if_lt (A := v2.toInt) E rfl (tgt := 21) dX11_tray_13 (by decide) (fun c_6 => ?_) (fun c_6 => ?_)
    · skip
      replace hF := q_ifp hF c_6
      refine lv_aload_n hx hb dX11_tray_21 rfl (lv_at hl 1 rfl) ?_
      refine lv_iconst (v := 1) hx hb dX11_tray_22 (by decide) ?_
      have kc_7 : (1 : Int32).toInt = 1 := rfl
      refine q_ci (q_runV (As := [.int 1]) (rest := []) E (hml.trans hl.1.symm) hI (c_X11_no l X σ a (1 : Int32) ha) kv_X11_89 ha ⟨rfl, by decide⟩ (show vwCl[10]? = some (RX11, TX11, 17) from rfl) rfl ⟨Nat.le_of_ble_eq_true rfl, Nat.le_of_ble_eq_true rfl⟩ ⟨Nat.le_refl _, Nat.le_refl _⟩ rfl (Nat.le_of_ble_eq_true rfl) dX11_tray_23) hI (by decide) (fun r_8 σ_9 H locs hpσ_9 hkσ_9 hI => ?_)
      obtain ⟨ahpσ_9, bhpσ_9, chpσ_9, dhpσ_9⟩ := hpσ_9
      have fr_σ_9 := fr_σ.call dhpσ_9 rfl rfl
      replace hF := q_biX hF chpσ_9
      have ks_σ_9 : q_KS (fun b g => b = (q_rf X (q_rf X a 3) v1.toNatClampNeg) ∧ g ≤ 1) 8 X σ σ_9 := ks_σ.K hkσ_9 (by decide)
      exact q_retz E hr hlk hI ⟨by omega, by omega⟩ ⟨⟨by omega, by omega⟩, ks_σ_9, (by constructor <;> intro h9 <;> omega), (by intro h9; exfalso; omega), (fun _ => hkσ_9), (hF.trans hout), fr_σ_9⟩ dX11_tray_26
    · skip
      replace hF := q_ifn hF (Int.not_lt.mpr c_6)
      refine lv_iload_n hx hb dX11_tray_16 rfl (lv_at hl 3 rfl) ?_
      refine lv_iconst (v := 3) hx hb dX11_tray_17 (by decide) ?_
      refine q_icmp_le (A := v2.toInt) (B := 3) E rfl (by decide) (tgt := 27) dX11_tray_18 (by decide) (fun c_10 => ?_) (fun c_10 => ?_)
      · skip
        replace hF := q_ifn hF (Int.not_lt.mpr c_10)
        refine lv_iload_n hx hb dX11_tray_27 rfl (lv_at hl 4 rfl) ?_
        refine lv_bipush (v := 60) hx hb dX11_tray_28 (by decide) ?_
        refine q_icmp_le (A := v3.toInt) (B := 60) E rfl (by decide) (tgt := 39) dX11_tray_30 (by decide) (fun c_11 => ?_) (fun c_11 => ?_)
        · skip
          replace hF := q_ifn hF (Int.not_lt.mpr c_11)
          refine lv_iload_n hx hb dX11_tray_39 rfl (lv_at hl 4 rfl) ?_
          refine q_if_ge (A := v3.toInt) E rfl (tgt := 50) dX11_tray_40 (by decide) (fun c_12 => ?_) (fun c_12 => ?_)
          · skip
            replace hF := q_ifn hF (Int.not_lt.mpr c_12)
            refine lv_aload hx hb dX11_tray_50 (lv_at hl 0 rfl) ?_
            refine lv_iload_n hx hb dX11_tray_52 rfl (lv_at hl 3 rfl) ?_
            refine lv_iload_n hx hb dX11_tray_53 rfl (lv_at hl 4 rfl) ?_
            refine q_cv (q_runV (As := [.int v2, .int v3]) (rest := []) E (hml.trans hl.1.symm) hI (c_X10_make l X σ r_1 v2 v3 kq_r_1 (by omega) (by omega)) kv_X11_93 kq_r_1 ⟨rfl, by decide⟩ (show vwCl[9]? = some (RX10, TX10, 3) from rfl) rfl ⟨Nat.le_of_ble_eq_true rfl, Nat.le_of_ble_eq_true rfl⟩ ⟨Nat.le_refl _, Nat.le_refl _⟩ rfl (Nat.le_of_ble_eq_true rfl) dX11_tray_54) hI (by decide) (fun σ_14 H locs hpσ_14 hkσ_14 hI => ?_)
            obtain ⟨ahpσ_14, bhpσ_14, chpσ_14, dhpσ_14, ehpσ_14⟩ := hpσ_14
            have fr_σ_14 := fr_σ.call ehpσ_14 rfl rfl
            replace hF := q_letX hF dhpσ_14
            have ks_σ_14 : q_KS (fun b g => b = (q_rf X (q_rf X a 3) v1.toNatClampNeg) ∧ g ≤ 1) 8 X σ σ_14 := ks_σ.KS ahpσ_14 (by decide) (fun b g h => ⟨h.1.trans eq_r_1, h.2⟩)
            have mk0σ_14 : σ_14.1 r_1 0 = v2 := bhpσ_14
            have mk1σ_14 : (σ_14.1 r_1 1).toInt = v3.toInt := by rw [chpσ_14]; omega
            refine lv_aload_n hx hb dX11_tray_57 rfl (lv_at hl 1 rfl) ?_
            refine q_ci (q_runV (As := []) (rest := []) E (hml.trans hl.1.symm) hI (c_X11_yes l X σ_14 a ha) kv_X11_97 ha ⟨rfl, by decide⟩ (show vwCl[10]? = some (RX11, TX11, 17) from rfl) rfl ⟨Nat.le_of_ble_eq_true rfl, Nat.le_of_ble_eq_true rfl⟩ ⟨Nat.le_refl _, Nat.le_refl _⟩ rfl (Nat.le_of_ble_eq_true rfl) dX11_tray_58) hI (by decide) (fun r_15 σ_16 H locs hpσ_16 hkσ_16 hI => ?_)
            obtain ⟨ahpσ_16, bhpσ_16, chpσ_16, dhpσ_16⟩ := hpσ_16
            have fr_σ_16 := fr_σ_14.call dhpσ_16 rfl rfl
            replace hF := q_biX hF chpσ_16
            have ks_σ_16 : q_KS (fun b g => b = (q_rf X (q_rf X a 3) v1.toNatClampNeg) ∧ g ≤ 1) 8 X σ σ_16 := ks_σ_14.K hkσ_16 (by decide)
            have mk0σ_16 : σ_16.1 r_1 0 = v2 := (hkσ_16 r_1 0 (by rw [kq_r_1]; decide)).trans mk0σ_14
            have mk1σ_16 : (σ_16.1 r_1 1).toInt = v3.toInt := (congrArg Int32.toInt (hkσ_16 r_1 1 (by rw [kq_r_1]; decide))).trans mk1σ_14
            exact q_retz E hr hlk hI ⟨by omega, by omega⟩ ⟨⟨by omega, by omega⟩, ks_σ_16, (by constructor <;> intro h9 <;> omega), (fun _ => ⟨by rw [← eq_r_1]; exact mk0σ_16, by rw [← eq_r_1]; exact mk1σ_16⟩), (by intro h9; exfalso; omega), (hF.trans hout), fr_σ_16⟩ dX11_tray_61
          · skip
            replace hF := q_ifp hF c_12
            refine lv_aload_n hx hb dX11_tray_43 rfl (lv_at hl 1 rfl) ?_
            refine lv_bipush (v := 6) hx hb dX11_tray_44 (by decide) ?_
            have kc_17 : (6 : Int32).toInt = 6 := rfl
            refine q_ci (q_runV (As := [.int 6]) (rest := []) E (hml.trans hl.1.symm) hI (c_X11_no l X σ a (6 : Int32) ha) kv_X11_89 ha ⟨rfl, by decide⟩ (show vwCl[10]? = some (RX11, TX11, 17) from rfl) rfl ⟨Nat.le_of_ble_eq_true rfl, Nat.le_of_ble_eq_true rfl⟩ ⟨Nat.le_refl _, Nat.le_refl _⟩ rfl (Nat.le_of_ble_eq_true rfl) dX11_tray_46) hI (by decide) (fun r_18 σ_19 H locs hpσ_19 hkσ_19 hI => ?_)
            obtain ⟨ahpσ_19, bhpσ_19, chpσ_19, dhpσ_19⟩ := hpσ_19
            have fr_σ_19 := fr_σ.call dhpσ_19 rfl rfl
            replace hF := q_biX hF chpσ_19
            have ks_σ_19 : q_KS (fun b g => b = (q_rf X (q_rf X a 3) v1.toNatClampNeg) ∧ g ≤ 1) 8 X σ σ_19 := ks_σ.K hkσ_19 (by decide)
            exact q_retz E hr hlk hI ⟨by omega, by omega⟩ ⟨⟨by omega, by omega⟩, ks_σ_19, (by constructor <;> intro h9 <;> omega), (by intro h9; exfalso; omega), (fun _ => hkσ_19), (hF.trans hout), fr_σ_19⟩ dX11_tray_49
        · skip
          replace hF := q_ifp hF c_11
          refine lv_aload_n hx hb dX11_tray_33 rfl (lv_at hl 1 rfl) ?_
          refine lv_iconst (v := 5) hx hb dX11_tray_34 (by decide) ?_
          have kc_20 : (5 : Int32).toInt = 5 := rfl
          refine q_ci (q_runV (As := [.int 5]) (rest := []) E (hml.trans hl.1.symm) hI (c_X11_no l X σ a (5 : Int32) ha) kv_X11_89 ha ⟨rfl, by decide⟩ (show vwCl[10]? = some (RX11, TX11, 17) from rfl) rfl ⟨Nat.le_of_ble_eq_true rfl, Nat.le_of_ble_eq_true rfl⟩ ⟨Nat.le_refl _, Nat.le_refl _⟩ rfl (Nat.le_of_ble_eq_true rfl) dX11_tray_35) hI (by decide) (fun r_21 σ_22 H locs hpσ_22 hkσ_22 hI => ?_)
          obtain ⟨ahpσ_22, bhpσ_22, chpσ_22, dhpσ_22⟩ := hpσ_22
          have fr_σ_22 := fr_σ.call dhpσ_22 rfl rfl
          replace hF := q_biX hF chpσ_22
          have ks_σ_22 : q_KS (fun b g => b = (q_rf X (q_rf X a 3) v1.toNatClampNeg) ∧ g ≤ 1) 8 X σ σ_22 := ks_σ.K hkσ_22 (by decide)
          exact q_retz E hr hlk hI ⟨by omega, by omega⟩ ⟨⟨by omega, by omega⟩, ks_σ_22, (by constructor <;> intro h9 <;> omega), (by intro h9; exfalso; omega), (fun _ => hkσ_22), (hF.trans hout), fr_σ_22⟩ dX11_tray_38
      · skip
        replace hF := q_ifp hF c_10
        refine lv_aload_n hx hb dX11_tray_21 rfl (lv_at hl 1 rfl) ?_
        refine lv_iconst (v := 1) hx hb dX11_tray_22 (by decide) ?_
        have kc_23 : (1 : Int32).toInt = 1 := rfl
        refine q_ci (q_runV (As := [.int 1]) (rest := []) E (hml.trans hl.1.symm) hI (c_X11_no l X σ a (1 : Int32) ha) kv_X11_89 ha ⟨rfl, by decide⟩ (show vwCl[10]? = some (RX11, TX11, 17) from rfl) rfl ⟨Nat.le_of_ble_eq_true rfl, Nat.le_of_ble_eq_true rfl⟩ ⟨Nat.le_refl _, Nat.le_refl _⟩ rfl (Nat.le_of_ble_eq_true rfl) dX11_tray_23) hI (by decide) (fun r_24 σ_25 H locs hpσ_25 hkσ_25 hI => ?_)
        obtain ⟨ahpσ_25, bhpσ_25, chpσ_25, dhpσ_25⟩ := hpσ_25
        have fr_σ_25 := fr_σ.call dhpσ_25 rfl rfl
        replace hF := q_biX hF chpσ_25
        have ks_σ_25 : q_KS (fun b g => b = (q_rf X (q_rf X a 3) v1.toNatClampNeg) ∧ g ≤ 1) 8 X σ σ_25 := ks_σ.K hkσ_25 (by decide)
        exact q_retz E hr hlk hI ⟨by omega, by omega⟩ ⟨⟨by omega, by omega⟩, ks_σ_25, (by constructor <;> intro h9 <;> omega), (by intro h9; exfalso; omega), (fun _ => hkσ_25), (hF.trans hout), fr_σ_25⟩ dX11_tray_26

set_option maxRecDepth 100000 in
set_option maxHeartbeats 4000000 in
theorem c_X11_placeStatus (l : Launch) (X : XW) (σ : ST) (r0 : Nat) (v1 : Int32) (hr0 : q_kd X r0 = 10) : Met l yX11_placeStatus (q_ws yX11_placeStatus cX11_placeStatus 2 (some .int)) (q_rm 1 22) (q_P X σ [.ref r0, .int v1]) (q_Qi X 9 σ (fun (r : Int32) (σ' : ST) => σ' = σ ∧ ((σ.1 r0 1).toInt = -1 → r.toInt = 3) ∧ ((σ.1 r0 1).toInt ≠ -1 → (r.toInt = 0 ↔ 0 ≤ v1.toInt ∧ v1.toInt + 1 ≤ (σ.1 r0 1).toInt)) ∧ (r.toInt = 0 ∨ r.toInt = 3 ∨ r.toInt = 4) ∧ r = F_X11_placeStatus X σ r0 v1)) 0 0 (q_reg X) := by
  refine q_met 9 (by decide +kernel) rfl (Nat.le_of_ble_eq_true rfl) (fun p e s m below meth c E hml hr hlk hI ls hl => ?_)
  have hx := E.1
  have hb := E.2.1
  have hl : lv_has ls 2 [(0, .ref r0), (1, .int v1)] := hl
  obtain ⟨out, hout⟩ : ∃ o, o = F_X11_placeStatus X σ r0 v1 := ⟨_, rfl⟩
  have hF := hout.symm
  unfold F_X11_placeStatus at hF
  refine lv_aload_n hx hb dX11_placeStatus_0 rfl (lv_at hl 0 rfl) ?_
  refine lv_ifnonnull (tgt := 6) hx hb dX11_placeStatus_1 (by decide) ?_
  refine lv_aload_n hx hb dX11_placeStatus_6 rfl (lv_at hl 0 rfl) ?_
  refine q_ci (q_runV (As := []) (rest := []) E (hml.trans hl.1.symm) hI (c_X10_isMissing l X σ r0 hr0) kv_X11_117 hr0 ⟨rfl, by decide⟩ (show vwCl[9]? = some (RX10, TX10, 3) from rfl) rfl ⟨Nat.le_of_ble_eq_true rfl, Nat.le_of_ble_eq_true rfl⟩ ⟨Nat.le_refl _, Nat.le_refl _⟩ rfl (Nat.le_of_ble_eq_true rfl) dX11_placeStatus_7) hI (by decide) (fun r_1 σ_2 H locs hpσ_2 hkσ_2 hI => ?_)
  obtain ⟨ahpσ_2, bhpσ_2, chpσ_2, dhpσ_2⟩ := hpσ_2
  rw [ahpσ_2] at hI
  replace hF := q_letX hF dhpσ_2
  refine q_if_eq (A := r_1.toInt) E rfl (tgt := 15) dX11_placeStatus_10 (by decide) (fun c_3 => ?_) (fun c_3 => ?_)
  · skip
    replace hF := q_ifp hF c_3
    refine lv_aload_n hx hb dX11_placeStatus_15 rfl (lv_at hl 0 rfl) ?_
    refine lv_iload_n hx hb dX11_placeStatus_16 rfl (lv_at hl 1 rfl) ?_
    refine lv_iconst (v := 1) hx hb dX11_placeStatus_17 (by decide) ?_
    have kc_4 : (1 : Int32).toInt = 1 := rfl
    refine q_ci (q_runV (As := [.int v1, .int 1]) (rest := []) E (hml.trans hl.1.symm) hI (c_X10_hasPlaces l X σ r0 v1 (1 : Int32) hr0) kv_X11_123 hr0 ⟨rfl, by decide⟩ (show vwCl[9]? = some (RX10, TX10, 3) from rfl) rfl ⟨Nat.le_of_ble_eq_true rfl, Nat.le_of_ble_eq_true rfl⟩ ⟨Nat.le_refl _, Nat.le_refl _⟩ rfl (Nat.le_of_ble_eq_true rfl) dX11_placeStatus_18) hI (by decide) (fun r_5 σ_6 H locs hpσ_6 hkσ_6 hI => ?_)
    obtain ⟨ahpσ_6, bhpσ_6, chpσ_6, dhpσ_6⟩ := hpσ_6
    rw [ahpσ_6] at hI
    replace hF := q_letX hF dhpσ_6
    refine q_if_eq (A := r_5.toInt) E rfl (tgt := 28) dX11_placeStatus_21 (by decide) (fun c_7 => ?_) (fun c_7 => ?_)
    · skip
      replace hF := q_ifp hF c_7
      refine lv_iconst (v := 4) hx hb dX11_placeStatus_28 (by decide) ?_
      have hrv : (4 : Int32).toInt = 4 := rfl
      exact q_reti E hr hlk hI ⟨rfl, (by omega), (by intro h8; constructor <;> intro h9 <;> omega), (by omega), (hF.trans hout)⟩ dX11_placeStatus_29
    · skip
      replace hF := q_ifn hF c_7
      refine lv_iconst (v := 0) hx hb dX11_placeStatus_24 (by decide) ?_
      refine lv_goto (tgt := 29) hx hb dX11_placeStatus_25 (by decide) ?_
      have hrv : (0 : Int32).toInt = 0 := rfl
      exact q_reti E hr hlk hI ⟨rfl, (by omega), (by intro h8; constructor <;> intro h9 <;> omega), (by omega), (hF.trans hout)⟩ dX11_placeStatus_29
  · skip
    replace hF := q_ifn hF c_3
    refine lv_iconst (v := 3) hx hb dX11_placeStatus_13 (by decide) ?_
    have hrv : (3 : Int32).toInt = 3 := rfl
    exact q_reti E hr hlk hI ⟨rfl, (by omega), (by intro h8; constructor <;> intro h9 <;> omega), (by omega), (hF.trans hout)⟩ dX11_placeStatus_14

set_option maxRecDepth 100000 in
set_option maxHeartbeats 4000000 in
theorem c_X11_placeStatus_n (l : Launch) (X : XW) (σ : ST) (v1 : Int32) : Met l yX11_placeStatus (q_ws yX11_placeStatus cX11_placeStatus 2 (some .int)) (q_rm 1 22) (q_P X σ [.null, .int v1]) (q_Qi X 9 σ (fun (r : Int32) (σ' : ST) => σ' = σ ∧ (r.toInt = 1) ∧ r = F_X11_placeStatus_n X σ v1)) 0 0 (q_reg X) := by
  refine q_met 9 (by decide +kernel) rfl (Nat.le_of_ble_eq_true rfl) (fun p e s m below meth c E hml hr hlk hI ls hl => ?_)
  have hx := E.1
  have hb := E.2.1
  have hl : lv_has ls 2 [(0, .null), (1, .int v1)] := hl
  obtain ⟨out, hout⟩ : ∃ o, o = F_X11_placeStatus_n X σ v1 := ⟨_, rfl⟩
  have hF := hout.symm
  unfold F_X11_placeStatus_n at hF
  refine lv_aload_nN hx hb dX11_placeStatus_0 rfl (lv_at hl 0 rfl) ?_
  refine lv_ifnonnullN hx hb dX11_placeStatus_1 ?_
  refine lv_iconst (v := 1) hx hb dX11_placeStatus_4 (by decide) ?_
  have hrv : (1 : Int32).toInt = 1 := rfl
  exact q_reti E hr hlk hI ⟨rfl, (by decide), (hF.trans hout)⟩ dX11_placeStatus_5

set_option maxRecDepth 100000 in
set_option maxHeartbeats 4000000 in
theorem c_X11_write (l : Launch) (X : XW) (σ : ST) (a : Nat) (v1 : Int32) (v2 : Int32) (v3 : Int64) (ha : q_kd X a = 11) : Met l yX11_write (q_ws yX11_write cX11_write 7 (some .boolean)) (q_rm 2 45) (q_P X σ [.ref a, .int v1, .int v2, .long v3]) (q_Qi X 8 σ (fun (r : Int32) (σ' : ST) => (0 ≤ r.toInt ∧ r.toInt ≤ 1) ∧ (r.toInt = 1 ↔ (0 ≤ v1.toInt ∧ v1.toInt < 4 ∧ 0 ≤ v2.toInt ∧ v2.toInt + 1 ≤ (σ.1 (q_rf X (q_rf X a 3) v1.toNatClampNeg) 1).toInt)) ∧ (r, σ') = F_X11_write X σ a v1 v2 v3 ∧ q_ow [(11, 0)] [(21, 99)] X σ σ')) 0 0 (q_reg X) := by
  refine q_met 8 (by decide +kernel) rfl (Nat.le_of_ble_eq_true rfl) (fun p e s m below meth c E hml hr hlk hI ls hl => ?_)
  have hx := E.1
  have hb := E.2.1
  have hl : lv_has ls 7 [(0, .ref a), (1, .int v1), (2, .int v2), (3, .long v3)] := hl
  have fr_σ : q_ow [(11, 0)] [(21, 99)] X σ σ := q_ow.rf
  obtain ⟨out, hout⟩ : ∃ o, o = F_X11_write X σ a v1 v2 v3 := ⟨_, rfl⟩
  have hF := hout.symm
  unfold F_X11_write at hF
  refine lv_aload_n hx hb dX11_write_0 rfl (lv_at hl 0 rfl) ?_
  refine lv_iload_n hx hb dX11_write_1 rfl (lv_at hl 1 rfl) ?_
  refine q_cq (q_runV (As := [.int v1]) (rest := []) E (hml.trans hl.1.symm) hI (c_X11_trayAt l X σ a v1 ha) kv_X11_85 ha ⟨rfl, by decide⟩ (show vwCl[10]? = some (RX11, TX11, 17) from rfl) rfl ⟨Nat.le_of_ble_eq_true rfl, Nat.le_of_ble_eq_true rfl⟩ ⟨Nat.le_refl _, Nat.le_refl _⟩ rfl (Nat.le_of_ble_eq_true rfl) dX11_write_2) hI (by decide) (fun r_1 σ_2 H locs hpσ_2 hkσ_2 hI => ?_)
  obtain ⟨ahpσ_2, bhpσ_2, chpσ_2⟩ := hpσ_2
  rw [ahpσ_2] at hI
  replace hF := q_letX hF chpσ_2
  rcases r_1 with _ | r_1
  · show W _ _ _ _ _ _ _ _ _ _ _ _ _ _ _ (F0 m (2 + 3) ls [.null])
    replace hF := q_onN hF
    have nq_v1 := bhpσ_2.2 rfl
    refine lv_astoreN (lv' := [(5, .null), (0, .ref a), (1, .int v1), (2, .int v2), (3, .long v3)]) hx hb dX11_write_5 hl (by decide) rfl (fun ls hl => ?_)
    refine lv_aloadN hx hb dX11_write_7 (lv_at hl 0 rfl) ?_
    refine lv_iload_n hx hb dX11_write_9 rfl (lv_at hl 3 rfl) ?_
    refine q_ci (q_runS (As := [.null, .int v2]) (rest := []) E (hml.trans hl.1.symm) hI (c_X11_placeStatus_n l X σ v2) ks_X11_101 rfl ⟨Nat.le_of_ble_eq_true rfl, Nat.le_of_ble_eq_true rfl⟩ ⟨Nat.le_refl _, Nat.le_refl _⟩ rfl (Nat.le_of_ble_eq_true rfl) dX11_write_10) hI (by decide) (fun r_3 σ_4 H locs hpσ_4 hkσ_4 hI => ?_)
    obtain ⟨ahpσ_4, bhpσ_4, chpσ_4⟩ := hpσ_4
    rw [ahpσ_4] at hI
    replace hF := q_letX hF chpσ_4
    refine lv_istore (lv' := [(6, .int r_3), (5, .null), (0, .ref a), (1, .int v1), (2, .int v2), (3, .long v3)]) hx hb dX11_write_13 hl (by decide) rfl (fun ls hl => ?_)
    refine lv_aloadN hx hb dX11_write_15 (lv_at hl 1 rfl) ?_
    refine lv_ifnullN (tgt := 25) hx hb dX11_write_17 (by decide) ?_
    refine lv_aload_n hx hb dX11_write_25 rfl (lv_at hl 2 rfl) ?_
    refine lv_iload hx hb dX11_write_26 (lv_at hl 0 rfl) ?_
    refine q_ci (q_runV (As := [.int r_3]) (rest := []) E (hml.trans hl.1.symm) hI (c_X11_no l X σ a r_3 ha) kv_X11_89 ha ⟨rfl, by decide⟩ (show vwCl[10]? = some (RX11, TX11, 17) from rfl) rfl ⟨Nat.le_of_ble_eq_true rfl, Nat.le_of_ble_eq_true rfl⟩ ⟨Nat.le_refl _, Nat.le_refl _⟩ rfl (Nat.le_of_ble_eq_true rfl) dX11_write_28) hI (by decide) (fun r_5 σ_6 H locs hpσ_6 hkσ_6 hI => ?_)
    obtain ⟨ahpσ_6, bhpσ_6, chpσ_6, dhpσ_6⟩ := hpσ_6
    have fr_σ_6 := fr_σ.call dhpσ_6 rfl rfl
    replace hF := q_biX hF chpσ_6
    exact q_retz E hr hlk hI ⟨by omega, by omega⟩ ⟨⟨by omega, by omega⟩, (by constructor <;> intro h9 <;> omega), (hF.trans hout), fr_σ_6⟩ dX11_write_31
  · show W _ _ _ _ _ _ _ _ _ _ _ _ _ _ _ (F0 m (2 + 3) ls [.ref r_1])
    replace hF := q_onS hF
    obtain ⟨kq_r_1, eq_r_1, lo_r_1, hi_r_1⟩ := bhpσ_2.1 _ rfl
    have f0_r_1 : (σ.1 (q_rf X (q_rf X a 3) v1.toNatClampNeg) 0).toInt = (σ.1 r_1 0).toInt := by rw [← eq_r_1]
    have f1_r_1 : (σ.1 (q_rf X (q_rf X a 3) v1.toNatClampNeg) 1).toInt = (σ.1 r_1 1).toInt := by rw [← eq_r_1]
    have g1_r_1 : -1 ≤ (σ.1 r_1 1).toInt ∧ (σ.1 r_1 1).toInt ≤ 60 := q_bd hI kq_r_1 rfl
    refine lv_astore (lv' := [(5, .ref r_1), (0, .ref a), (1, .int v1), (2, .int v2), (3, .long v3)]) hx hb dX11_write_5 hl (by decide) rfl (fun ls hl => ?_)
    refine lv_aload hx hb dX11_write_7 (lv_at hl 0 rfl) ?_
    refine lv_iload_n hx hb dX11_write_9 rfl (lv_at hl 3 rfl) ?_
    refine q_ci (q_runS (As := [.ref r_1, .int v2]) (rest := []) E (hml.trans hl.1.symm) hI (c_X11_placeStatus l X σ r_1 v2 kq_r_1) ks_X11_101 rfl ⟨Nat.le_of_ble_eq_true rfl, Nat.le_of_ble_eq_true rfl⟩ ⟨Nat.le_refl _, Nat.le_refl _⟩ rfl (Nat.le_of_ble_eq_true rfl) dX11_write_10) hI (by decide) (fun r_7 σ_8 H locs hpσ_8 hkσ_8 hI => ?_)
    obtain ⟨ahpσ_8, bhpσ_8, chpσ_8, dhpσ_8, ehpσ_8⟩ := hpσ_8
    rw [ahpσ_8] at hI
    replace hF := q_letX hF ehpσ_8
    refine lv_istore (lv' := [(6, .int r_7), (5, .ref r_1), (0, .ref a), (1, .int v1), (2, .int v2), (3, .long v3)]) hx hb dX11_write_13 hl (by decide) rfl (fun ls hl => ?_)
    refine lv_aload hx hb dX11_write_15 (lv_at hl 1 rfl) ?_
    refine lv_ifnull hx hb dX11_write_17 ?_
    refine lv_iload hx hb dX11_write_20 (lv_at hl 0 rfl) ?_
    refine q_if_eq (A := r_7.toInt) E rfl (tgt := 32) dX11_write_22 (by decide) (fun c_9 => ?_) (fun c_9 => ?_)
    · skip
      replace hF := q_ifp hF c_9
      refine lv_aload hx hb dX11_write_32 (lv_at hl 1 rfl) ?_
      refine lv_iload_n hx hb dX11_write_34 rfl (lv_at hl 4 rfl) ?_
      refine lv_lload_n hx hb dX11_write_35 rfl (lv_at hl 5 rfl) ?_
      refine q_cv (q_runV (As := [.int v2, .long v3]) (rest := []) E (hml.trans hl.1.symm) hI (c_X10_put l X σ r_1 v2 v3 kq_r_1) kv_X11_105 kq_r_1 ⟨rfl, by decide⟩ (show vwCl[9]? = some (RX10, TX10, 3) from rfl) rfl ⟨Nat.le_of_ble_eq_true rfl, Nat.le_of_ble_eq_true rfl⟩ ⟨Nat.le_refl _, Nat.le_refl _⟩ rfl (Nat.le_of_ble_eq_true rfl) dX11_write_36) hI (by decide) (fun σ_11 H locs hpσ_11 hkσ_11 hI => ?_)
      obtain ⟨ahpσ_11, bhpσ_11⟩ := hpσ_11
      have fr_σ_11 := fr_σ.call bhpσ_11 rfl rfl
      replace hF := q_letX hF ahpσ_11
      refine lv_aload_n hx hb dX11_write_39 rfl (lv_at hl 2 rfl) ?_
      refine q_ci (q_runV (As := []) (rest := []) E (hml.trans hl.1.symm) hI (c_X11_yes l X σ_11 a ha) kv_X11_97 ha ⟨rfl, by decide⟩ (show vwCl[10]? = some (RX11, TX11, 17) from rfl) rfl ⟨Nat.le_of_ble_eq_true rfl, Nat.le_of_ble_eq_true rfl⟩ ⟨Nat.le_refl _, Nat.le_refl _⟩ rfl (Nat.le_of_ble_eq_true rfl) dX11_write_40) hI (by decide) (fun r_12 σ_13 H locs hpσ_13 hkσ_13 hI => ?_)
      obtain ⟨ahpσ_13, bhpσ_13, chpσ_13, dhpσ_13⟩ := hpσ_13
      have fr_σ_13 := fr_σ_11.call dhpσ_13 rfl rfl
      replace hF := q_biX hF chpσ_13
      exact q_retz E hr hlk hI ⟨by omega, by omega⟩ ⟨⟨by omega, by omega⟩, (by constructor <;> intro h9 <;> omega), (hF.trans hout), fr_σ_13⟩ dX11_write_43
    · skip
      replace hF := q_ifn hF c_9
      refine lv_aload_n hx hb dX11_write_25 rfl (lv_at hl 2 rfl) ?_
      refine lv_iload hx hb dX11_write_26 (lv_at hl 0 rfl) ?_
      refine q_ci (q_runV (As := [.int r_7]) (rest := []) E (hml.trans hl.1.symm) hI (c_X11_no l X σ a r_7 ha) kv_X11_89 ha ⟨rfl, by decide⟩ (show vwCl[10]? = some (RX11, TX11, 17) from rfl) rfl ⟨Nat.le_of_ble_eq_true rfl, Nat.le_of_ble_eq_true rfl⟩ ⟨Nat.le_refl _, Nat.le_refl _⟩ rfl (Nat.le_of_ble_eq_true rfl) dX11_write_28) hI (by decide) (fun r_14 σ_15 H locs hpσ_15 hkσ_15 hI => ?_)
      obtain ⟨ahpσ_15, bhpσ_15, chpσ_15, dhpσ_15⟩ := hpσ_15
      have fr_σ_15 := fr_σ.call dhpσ_15 rfl rfl
      replace hF := q_biX hF chpσ_15
      exact q_retz E hr hlk hI ⟨by omega, by omega⟩ ⟨⟨by omega, by omega⟩, (by constructor <;> intro h9 <;> omega), (hF.trans hout), fr_σ_15⟩ dX11_write_31

set_option maxRecDepth 100000 in
set_option maxHeartbeats 4000000 in
theorem c_X11_none (l : Launch) (X : XW) (σ : ST) (a : Nat) (v1 : Int32) (ha : q_kd X a = 11) : Met l yX11_none (q_ws yX11_none cX11_none 2 (some .int)) (q_rm 0 0) (q_P X σ [.ref a, .int v1]) (q_Qi X 8 σ (fun (r : Int32) (σ' : ST) => (r.toInt = -1) ∧ (r, σ') = F_X11_none X σ a v1 ∧ q_ow [(11, 0)] [] X σ σ')) 0 0 (q_reg X) := by
  refine q_met 8 (by decide +kernel) rfl (Nat.le_of_ble_eq_true rfl) (fun p e s m below meth c E hml hr hlk hI ls hl => ?_)
  have hx := E.1
  have hb := E.2.1
  have hl : lv_has ls 2 [(0, .ref a), (1, .int v1)] := hl
  have fr_σ : q_ow [(11, 0)] [] X σ σ := q_ow.rf
  obtain ⟨out, hout⟩ : ∃ o, o = F_X11_none X σ a v1 := ⟨_, rfl⟩
  have hF := hout.symm
  unfold F_X11_none at hF
  refine lv_aload_n hx hb dX11_none_0 rfl (lv_at hl 0 rfl) ?_
  refine lv_iload_n hx hb dX11_none_1 rfl (lv_at hl 1 rfl) ?_
  refine ps_X11_9_11 E hI ha (by decide) dX11_none_2 (fun H locs σ_1 hσ_1 hI => ?_)
  replace hF := q_letX hF hσ_1
  have fr_σ_1 := fr_σ.si hσ_1 ha rfl
  refine lv_iconst (v := (-1)) hx hb dX11_none_5 (by decide) ?_
  have hrv : ((-1) : Int32).toInt = (-1) := rfl
  exact q_reti E hr hlk hI ⟨(by decide), (hF.trans hout), fr_σ_1⟩ dX11_none_6

set_option maxRecDepth 100000 in
set_option maxHeartbeats 4000000 in
theorem c_X11_read (l : Launch) (X : XW) (σ : ST) (a : Nat) (v1 : Int32) (v2 : Int32) (ha : q_kd X a = 11) : Met l yX11_read (q_ws yX11_read cX11_read 5 (some .long)) (q_rm 2 43) (q_P X σ [.ref a, .int v1, .int v2]) (q_Ql X 8 σ (fun (r : Int64) (σ' : ST) => (r, σ') = F_X11_read X σ a v1 v2 ∧ q_ow [(11, 0)] [] X σ σ')) 0 0 (q_reg X) := by
  refine q_met 8 (by decide +kernel) rfl (Nat.le_of_ble_eq_true rfl) (fun p e s m below meth c E hml hr hlk hI ls hl => ?_)
  have hx := E.1
  have hb := E.2.1
  have hl : lv_has ls 5 [(0, .ref a), (1, .int v1), (2, .int v2)] := hl
  have fr_σ : q_ow [(11, 0)] [] X σ σ := q_ow.rf
  obtain ⟨out, hout⟩ : ∃ o, o = F_X11_read X σ a v1 v2 := ⟨_, rfl⟩
  have hF := hout.symm
  unfold F_X11_read at hF
  refine lv_aload_n hx hb dX11_read_0 rfl (lv_at hl 0 rfl) ?_
  refine lv_iload_n hx hb dX11_read_1 rfl (lv_at hl 1 rfl) ?_
  refine q_cq (q_runV (As := [.int v1]) (rest := []) E (hml.trans hl.1.symm) hI (c_X11_trayAt l X σ a v1 ha) kv_X11_85 ha ⟨rfl, by decide⟩ (show vwCl[10]? = some (RX11, TX11, 17) from rfl) rfl ⟨Nat.le_of_ble_eq_true rfl, Nat.le_of_ble_eq_true rfl⟩ ⟨Nat.le_refl _, Nat.le_refl _⟩ rfl (Nat.le_of_ble_eq_true rfl) dX11_read_2) hI (by decide) (fun r_1 σ_2 H locs hpσ_2 hkσ_2 hI => ?_)
  obtain ⟨ahpσ_2, bhpσ_2, chpσ_2⟩ := hpσ_2
  rw [ahpσ_2] at hI
  replace hF := q_letX hF chpσ_2
  rcases r_1 with _ | r_1
  · show W _ _ _ _ _ _ _ _ _ _ _ _ _ _ _ (F0 m (2 + 3) ls [.null])
    replace hF := q_onN hF
    have nq_v1 := bhpσ_2.2 rfl
    refine lv_astore_nN (lv' := [(3, .null), (0, .ref a), (1, .int v1), (2, .int v2)]) hx hb dX11_read_5 rfl hl (by decide) rfl (fun ls hl => ?_)
    refine lv_aload_nN hx hb dX11_read_6 rfl (lv_at hl 0 rfl) ?_
    refine lv_iload_n hx hb dX11_read_7 rfl (lv_at hl 3 rfl) ?_
    refine q_ci (q_runS (As := [.null, .int v2]) (rest := []) E (hml.trans hl.1.symm) hI (c_X11_placeStatus_n l X σ v2) ks_X11_101 rfl ⟨Nat.le_of_ble_eq_true rfl, Nat.le_of_ble_eq_true rfl⟩ ⟨Nat.le_refl _, Nat.le_refl _⟩ rfl (Nat.le_of_ble_eq_true rfl) dX11_read_8) hI (by decide) (fun r_3 σ_4 H locs hpσ_4 hkσ_4 hI => ?_)
    obtain ⟨ahpσ_4, bhpσ_4, chpσ_4⟩ := hpσ_4
    rw [ahpσ_4] at hI
    replace hF := q_letX hF chpσ_4
    refine lv_istore (lv' := [(4, .int r_3), (3, .null), (0, .ref a), (1, .int v1), (2, .int v2)]) hx hb dX11_read_11 hl (by decide) rfl (fun ls hl => ?_)
    refine lv_aload_nN hx hb dX11_read_13 rfl (lv_at hl 1 rfl) ?_
    refine lv_ifnullN (tgt := 22) hx hb dX11_read_14 (by decide) ?_
    refine lv_aload_n hx hb dX11_read_22 rfl (lv_at hl 2 rfl) ?_
    refine lv_iload hx hb dX11_read_23 (lv_at hl 0 rfl) ?_
    refine q_ci (q_runV (As := [.int r_3]) (rest := []) E (hml.trans hl.1.symm) hI (c_X11_none l X σ a r_3 ha) kv_X11_109 ha ⟨rfl, by decide⟩ (show vwCl[10]? = some (RX11, TX11, 17) from rfl) rfl ⟨Nat.le_of_ble_eq_true rfl, Nat.le_of_ble_eq_true rfl⟩ ⟨Nat.le_refl _, Nat.le_refl _⟩ rfl (Nat.le_of_ble_eq_true rfl) dX11_read_25) hI (by decide) (fun r_5 σ_6 H locs hpσ_6 hkσ_6 hI => ?_)
    obtain ⟨ahpσ_6, bhpσ_6, chpσ_6⟩ := hpσ_6
    have fr_σ_6 := fr_σ.call chpσ_6 rfl rfl
    replace hF := q_biX hF bhpσ_6
    refine lv_i2l hx hb dX11_read_28 rfl ?_
    refine lv_topl (fun y_7 ey_7 => ?_)
    replace hF := q_letX hF ey_7
    exact q_retl E hr hlk hI ⟨(hF.trans hout), fr_σ_6⟩ dX11_read_29
  · show W _ _ _ _ _ _ _ _ _ _ _ _ _ _ _ (F0 m (2 + 3) ls [.ref r_1])
    replace hF := q_onS hF
    obtain ⟨kq_r_1, eq_r_1, lo_r_1, hi_r_1⟩ := bhpσ_2.1 _ rfl
    have f0_r_1 : (σ.1 (q_rf X (q_rf X a 3) v1.toNatClampNeg) 0).toInt = (σ.1 r_1 0).toInt := by rw [← eq_r_1]
    have f1_r_1 : (σ.1 (q_rf X (q_rf X a 3) v1.toNatClampNeg) 1).toInt = (σ.1 r_1 1).toInt := by rw [← eq_r_1]
    have g1_r_1 : -1 ≤ (σ.1 r_1 1).toInt ∧ (σ.1 r_1 1).toInt ≤ 60 := q_bd hI kq_r_1 rfl
    refine lv_astore_n (lv' := [(3, .ref r_1), (0, .ref a), (1, .int v1), (2, .int v2)]) hx hb dX11_read_5 rfl hl (by decide) rfl (fun ls hl => ?_)
    refine lv_aload_n hx hb dX11_read_6 rfl (lv_at hl 0 rfl) ?_
    refine lv_iload_n hx hb dX11_read_7 rfl (lv_at hl 3 rfl) ?_
    refine q_ci (q_runS (As := [.ref r_1, .int v2]) (rest := []) E (hml.trans hl.1.symm) hI (c_X11_placeStatus l X σ r_1 v2 kq_r_1) ks_X11_101 rfl ⟨Nat.le_of_ble_eq_true rfl, Nat.le_of_ble_eq_true rfl⟩ ⟨Nat.le_refl _, Nat.le_refl _⟩ rfl (Nat.le_of_ble_eq_true rfl) dX11_read_8) hI (by decide) (fun r_8 σ_9 H locs hpσ_9 hkσ_9 hI => ?_)
    obtain ⟨ahpσ_9, bhpσ_9, chpσ_9, dhpσ_9, ehpσ_9⟩ := hpσ_9
    rw [ahpσ_9] at hI
    replace hF := q_letX hF ehpσ_9
    refine lv_istore (lv' := [(4, .int r_8), (3, .ref r_1), (0, .ref a), (1, .int v1), (2, .int v2)]) hx hb dX11_read_11 hl (by decide) rfl (fun ls hl => ?_)
    refine lv_aload_n hx hb dX11_read_13 rfl (lv_at hl 1 rfl) ?_
    refine lv_ifnull hx hb dX11_read_14 ?_
    refine lv_iload hx hb dX11_read_17 (lv_at hl 0 rfl) ?_
    refine q_if_eq (A := r_8.toInt) E rfl (tgt := 30) dX11_read_19 (by decide) (fun c_10 => ?_) (fun c_10 => ?_)
    · skip
      replace hF := q_ifp hF c_10
      refine lv_aload_n hx hb dX11_read_30 rfl (lv_at hl 2 rfl) ?_
      refine lv_iconst (v := 0) hx hb dX11_read_31 (by decide) ?_
      refine ps_X11_9_11 E hI ha (by decide) dX11_read_32 (fun H locs σ_11 hσ_11 hI => ?_)
      replace hF := q_letX hF hσ_11
      have fr_σ_11 := fr_σ.si hσ_11 ha rfl
      refine lv_aload_n hx hb dX11_read_35 rfl (lv_at hl 1 rfl) ?_
      refine lv_iload_n hx hb dX11_read_36 rfl (lv_at hl 4 rfl) ?_
      refine q_cl_ (q_runV (As := [.int v2]) (rest := []) E (hml.trans hl.1.symm) hI (c_X10_get l X σ_11 r_1 v2 kq_r_1) kv_X11_113 kq_r_1 ⟨rfl, by decide⟩ (show vwCl[9]? = some (RX10, TX10, 3) from rfl) rfl ⟨Nat.le_of_ble_eq_true rfl, Nat.le_of_ble_eq_true rfl⟩ ⟨Nat.le_refl _, Nat.le_refl _⟩ rfl (Nat.le_of_ble_eq_true rfl) dX11_read_37) hI (by decide) (fun r_12 σ_13 H locs hpσ_13 hkσ_13 hI => ?_)
      obtain ⟨ahpσ_13, bhpσ_13⟩ := hpσ_13
      rw [ahpσ_13] at hI
      replace hF := q_letX hF bhpσ_13
      exact q_retl E hr hlk hI ⟨(hF.trans hout), fr_σ_11⟩ dX11_read_40
    · skip
      replace hF := q_ifn hF c_10
      refine lv_aload_n hx hb dX11_read_22 rfl (lv_at hl 2 rfl) ?_
      refine lv_iload hx hb dX11_read_23 (lv_at hl 0 rfl) ?_
      refine q_ci (q_runV (As := [.int r_8]) (rest := []) E (hml.trans hl.1.symm) hI (c_X11_none l X σ a r_8 ha) kv_X11_109 ha ⟨rfl, by decide⟩ (show vwCl[10]? = some (RX11, TX11, 17) from rfl) rfl ⟨Nat.le_of_ble_eq_true rfl, Nat.le_of_ble_eq_true rfl⟩ ⟨Nat.le_refl _, Nat.le_refl _⟩ rfl (Nat.le_of_ble_eq_true rfl) dX11_read_25) hI (by decide) (fun r_14 σ_15 H locs hpσ_15 hkσ_15 hI => ?_)
      obtain ⟨ahpσ_15, bhpσ_15, chpσ_15⟩ := hpσ_15
      have fr_σ_15 := fr_σ.call chpσ_15 rfl rfl
      replace hF := q_biX hF bhpσ_15
      refine lv_i2l hx hb dX11_read_28 rfl ?_
      refine lv_topl (fun y_16 ey_16 => ?_)
      replace hF := q_letX hF ey_16
      exact q_retl E hr hlk hI ⟨(hF.trans hout), fr_σ_15⟩ dX11_read_29
