section
set_option maxRecDepth 100000 in
set_option maxHeartbeats 4000000 in
theorem c_X12_back (l : Launch) (X : XW) (σ : ST) (a : Nat) (n : Int) (ha : q_kd X a = 12) (hM : m_M (m_c X σ a) (σ.1 a 24).toInt n) : Met l yX12_back (q_ws yX12_back cX12_back 1 (some .int)) (q_rm 1 23) (q_P X σ [.ref a]) (q_Qi X 0 σ (fun (r : Int32) (σ' : ST) => (q_KS (fun b g => b = a ∧ g = 24) 1 X σ σ') ∧ (m_M (m_c X σ' a) (σ'.1 a 24).toInt n) ∧ (0 < (σ.1 a 24).toInt → (σ'.1 a 24).toInt = (σ.1 a 24).toInt - 1 ∧ r.toInt = (σ.1 a 24).toInt - 1) ∧ ((σ.1 a 24).toInt = 0 → (σ'.1 a 24).toInt = 0 ∧ r.toInt = -1) ∧ (r, σ') = F_X12_back X σ a ∧ q_ow [(12, 0), (12, 1), (12, 24), (34, 99)] [(37, 99)] X σ σ')) 0 0 (q_reg X) := by
  refine q_met 0 (by first | exact rfl | decide +kernel) rfl (Nat.le_of_ble_eq_true rfl) (fun p e s m below meth c E hml hr hlk hI ls hl => ?_)
  have hx := E.1
  have hb := E.2.1
  have hl : lv_has ls 1 [(0, .ref a)] := hl
  have ks_σ : q_KS (fun b g => b = a ∧ g = 24) 1 X σ σ := q_KS.rf
  have fxσ : m_c X σ a = m_c X σ a := rfl
  have fr_σ : q_ow [(12, 0), (12, 1), (12, 24), (34, 99)] [(37, 99)] X σ σ := q_ow.rf
  have b24 := q_bd (f := 24) (lo := 0) (hi := 3) hI ha rfl
  obtain ⟨out, hout⟩ : ∃ o, o = F_X12_back X σ a := ⟨_, rfl⟩
  have hF := hout.symm
  unfold F_X12_back at hF
  refine lv_aload_n hx hb dX12_back_0 rfl (lv_at hl 0 rfl) ?_
  refine lv_iconst (v := 0) hx hb dX12_back_1 (by decide) ?_
  refine ps_X12_59_12 E hI ha (by decide) dX12_back_2 (fun H locs σ_1 hσ_1 hI => ?_)
  replace hF := q_letX hF hσ_1
  have fr_σ_1 := fr_σ.si hσ_1 ha rfl
  have ks_σ_1 : q_KS (fun b g => b = a ∧ g = 24) 1 X σ σ_1 := ks_σ.si hσ_1 ha (show 1 < 9 by decide)
  have mv24_σ_1 : (σ_1.1 a 24).toInt = (σ.1 a 24).toInt := congrArg Int32.toInt (q_rdn hσ_1 (Or.inr (by decide)))
  have mcσ_1 := m_wo hσ_1 (m_ne ha (q_tk (f := 20) (k' := 34) hI ha rfl (by decide)) (by decide))
  have fxσ_1 : m_c X σ_1 a = m_c X σ a := (funext mcσ_1).trans fxσ
  refine lv_aload_n hx hb dX12_back_5 rfl (lv_at hl 0 rfl) ?_
  refine lv_iconst (v := 0) hx hb dX12_back_6 (by decide) ?_
  refine ps_X12_62_12 E hI ha (by decide) dX12_back_7 (fun H locs σ_2 hσ_2 hI => ?_)
  replace hF := q_letX hF hσ_2
  have fr_σ_2 := fr_σ_1.si hσ_2 ha rfl
  have ks_σ_2 : q_KS (fun b g => b = a ∧ g = 24) 1 X σ σ_2 := ks_σ_1.si hσ_2 ha (show 1 < 9 by decide)
  have mv24_σ_2 : (σ_2.1 a 24).toInt = (σ.1 a 24).toInt := (congrArg Int32.toInt (q_rdn hσ_2 (Or.inr (by decide)))).trans mv24_σ_1
  have mcσ_2 := m_wo hσ_2 (m_ne ha (q_tk (f := 20) (k' := 34) hI ha rfl (by decide)) (by decide))
  have fxσ_2 : m_c X σ_2 a = m_c X σ a := (funext mcσ_2).trans fxσ_1
  refine lv_aload_n hx hb dX12_back_10 rfl (lv_at hl 0 rfl) ?_
  refine gs_X12_455_12 E hI ha dX12_back_11 ?_
  refine lv_topi (fun f_3 ef_3 => ?_)
  replace hF := q_letX hF ef_3
  have if_3 : f_3.toInt = (σ.1 a 24).toInt := (congrArg Int32.toInt ef_3).trans mv24_σ_2
  have bf_3 : 0 ≤ f_3.toInt ∧ f_3.toInt ≤ 3 := by rw [ef_3]; exact q_bd hI ha rfl
  refine q_if_ne (A := f_3.toInt) E rfl (tgt := 24) dX12_back_14 (by decide) (fun c_4 => ?_) (fun c_4 => ?_)
  · skip
    replace hF := q_ifn hF c_4
    refine lv_aload_n hx hb dX12_back_24 rfl (lv_at hl 0 rfl) ?_
    refine lv_aload_n hx hb dX12_back_25 rfl (lv_at hl 0 rfl) ?_
    refine gs_X12_455_12 E hI ha dX12_back_26 ?_
    refine lv_topi (fun f_5 ef_5 => ?_)
    replace hF := q_letX hF ef_5
    have if_5 : f_5.toInt = (σ.1 a 24).toInt := (congrArg Int32.toInt ef_5).trans mv24_σ_2
    have bf_5 : 0 ≤ f_5.toInt ∧ f_5.toInt ≤ 3 := by rw [ef_5]; exact q_bd hI ha rfl
    refine lv_iconst (v := 0) hx hb dX12_back_29 (by decide) ?_
    have kc_6 : (0 : Int32).toInt = 0 := rfl
    refine q_cv (q_runV (As := [.int f_5, .int 0]) (rest := []) E (hml.trans hl.1.symm) hI (c_X12_copy l X σ_2 a f_5 (0 : Int32) ha (by first | (clear mv24_σ_1; omega) | omega) (by first | (clear mv24_σ_1; omega) | omega) (by first | (clear mv24_σ_1; omega) | omega)) kv_X12_261 ha ⟨rfl, by decide⟩ (show vwCl[11]? = some (RX12, TX12, 46) from rfl) rfl ⟨Nat.le_of_ble_eq_true rfl, Nat.le_of_ble_eq_true rfl⟩ ⟨Nat.le_refl _, Nat.le_refl _⟩ rfl (Nat.le_of_ble_eq_true rfl) dX12_back_30) hI (by decide) (fun σ_8 H locs hpσ_8 hkσ_8 hI => ?_)
    obtain ⟨ahpσ_8, bhpσ_8, chpσ_8⟩ := hpσ_8
    have fr_σ_8 := fr_σ_2.call chpσ_8 rfl rfl
    replace hF := q_letX hF bhpσ_8
    have mv24_σ_8 : (σ_8.1 a 24).toInt = (σ.1 a 24).toInt := (congrArg Int32.toInt (hkσ_8 a 24 (by rw [ha]; decide))).trans mv24_σ_2
    have ks_σ_8 : q_KS (fun b g => b = a ∧ g = 24) 1 X σ σ_8 := ks_σ_2.K hkσ_8 (by decide)
    have mmσ_8 : m_M (m_c X σ_8 a) ((σ.1 a 24).toInt - 1) n := m_M.back (w := f_5.toInt) (z := (0 : Int32).toInt) hM (by first | (clear mv24_σ_1 mv24_σ_2; omega) | omega) (by first | (clear mv24_σ_1 mv24_σ_2; omega) | omega) (by decide) (fun j hj => (by have q := ahpσ_8 j hj; rw [fxσ_2] at q; exact q))
    refine lv_aload_n hx hb dX12_back_33 rfl (lv_at hl 0 rfl) ?_
    refine lv_dup hx hb dX12_back_34 rfl ?_
    refine gs_X12_455_12 E hI ha dX12_back_35 ?_
    refine lv_topi (fun f_9 ef_9 => ?_)
    replace hF := q_letX hF ef_9
    have if_9 : f_9.toInt = (σ.1 a 24).toInt := (congrArg Int32.toInt ef_9).trans mv24_σ_8
    have bf_9 : 0 ≤ f_9.toInt ∧ f_9.toInt ≤ 3 := by rw [ef_9]; exact q_bd hI ha rfl
    refine lv_iconst (v := 1) hx hb dX12_back_38 (by decide) ?_
    refine lv_isub hx hb dX12_back_39 ?_
    refine lv_topi (fun z_10 ez_10 => ?_)
    replace hF := q_letX hF ez_10
    have iz_10 := q_subI (A := f_9.toInt) (B := 1) ez_10 rfl (by decide) (by first | (clear mv24_σ_1 mv24_σ_2; omega) | omega) (by first | (clear mv24_σ_1 mv24_σ_2; omega) | omega)
    refine ps_X12_455_12 E hI ha (by decide) (by first | (clear mv24_σ_1 mv24_σ_2; omega) | omega) (by first | (clear mv24_σ_1 mv24_σ_2; omega) | omega) dX12_back_40 (fun H locs σ_11 hσ_11 hI => ?_)
    replace hF := q_letX hF hσ_11
    have fr_σ_11 := fr_σ_8.si hσ_11 ha rfl
    have ks_σ_11 : q_KS (fun b g => b = a ∧ g = 24) 1 X σ σ_11 := ks_σ_8.siS hσ_11 ⟨rfl, rfl⟩
    have mv24_σ_11 : (σ_11.1 a 24).toInt = z_10.toInt := congrArg Int32.toInt (q_rd hσ_11)
    have mcσ_11 := m_wo hσ_11 (m_ne ha (q_tk (f := 20) (k' := 34) hI ha rfl (by decide)) (by decide))
    have fyσ_11 : m_c X σ_11 a = m_c X σ_8 a := funext mcσ_11
    have mnσ_11 := mmσ_8
    rw [← fyσ_11] at mnσ_11
    refine lv_aload_n hx hb dX12_back_43 rfl (lv_at hl 0 rfl) ?_
    refine gs_X12_455_12 E hI ha dX12_back_44 ?_
    refine lv_topi (fun f_12 ef_12 => ?_)
    replace hF := q_letX hF ef_12
    have if_12 : f_12.toInt = z_10.toInt := (congrArg Int32.toInt ef_12).trans mv24_σ_11
    have bf_12 : 0 ≤ f_12.toInt ∧ f_12.toInt ≤ 3 := by rw [ef_12]; exact q_bd hI ha rfl
    exact q_reti E hr hlk hI ⟨ks_σ_11, (by first | (have q : (σ_11.1 a 24).toInt = (σ.1 a 24).toInt := (by first | (clear mv24_σ_1 mv24_σ_2 mv24_σ_8; omega) | omega); rw [fxσ_11, q]; exact hM) | (have q : (σ_11.1 a 24).toInt = (σ.1 a 24).toInt - 1 := (by first | (clear mv24_σ_1 mv24_σ_2 mv24_σ_8; omega) | omega); rw [q]; exact mnσ_11)), (by first | (clear mv24_σ_1 mv24_σ_2 mv24_σ_8; omega) | omega), (by first | (clear mv24_σ_1 mv24_σ_2 mv24_σ_8; omega) | omega), (hF.trans hout), fr_σ_11⟩ dX12_back_47
  · skip
    replace hF := q_ifp hF c_4
    refine lv_aload_n hx hb dX12_back_17 rfl (lv_at hl 0 rfl) ?_
    refine lv_bipush (v := 8) hx hb dX12_back_18 (by decide) ?_
    have kc_13 : (8 : Int32).toInt = 8 := rfl
    refine q_ci (q_runV (As := [.int 8]) (rest := []) E (hml.trans hl.1.symm) hI (c_X12_refuse l X σ_2 a (8 : Int32) ha) kv_X12_284 ha ⟨rfl, by decide⟩ (show vwCl[11]? = some (RX12, TX12, 46) from rfl) rfl ⟨Nat.le_of_ble_eq_true rfl, Nat.le_of_ble_eq_true rfl⟩ ⟨Nat.le_refl _, Nat.le_refl _⟩ rfl (Nat.le_of_ble_eq_true rfl) dX12_back_20) hI (by decide) (fun r_14 σ_15 H locs hpσ_15 hkσ_15 hI => ?_)
    obtain ⟨ahpσ_15, bhpσ_15, chpσ_15⟩ := hpσ_15
    have fr_σ_15 := fr_σ_2.call chpσ_15 rfl rfl
    replace hF := q_biX hF bhpσ_15
    have mv24_σ_15 : (σ_15.1 a 24).toInt = (σ.1 a 24).toInt := (congrArg Int32.toInt ((q_K.le hkσ_15 (by decide) : q_K 8 X σ_2 σ_15) a 24 (by rw [ha]; decide))).trans mv24_σ_2
    have mcσ_15 := m_cK hkσ_15 hI.1 ha (by decide)
    have fxσ_15 : m_c X σ_15 a = m_c X σ a := (funext mcσ_15).trans fxσ_2
    have ks_σ_15 : q_KS (fun b g => b = a ∧ g = 24) 1 X σ σ_15 := ks_σ_2.K hkσ_15 (by decide)
    exact q_reti E hr hlk hI ⟨ks_σ_15, (by first | (have q : (σ_15.1 a 24).toInt = (σ.1 a 24).toInt := (by first | (clear mv24_σ_1 mv24_σ_2; omega) | omega); rw [fxσ_15, q]; exact hM) | (have q : (σ_15.1 a 24).toInt = (σ.1 a 24).toInt - 1 := (by first | (clear mv24_σ_1 mv24_σ_2; omega) | omega); rw [q]; exact mnσ_15)), (by first | (clear mv24_σ_1 mv24_σ_2; omega) | omega), (by first | (clear mv24_σ_1 mv24_σ_2; omega) | omega), (hF.trans hout), fr_σ_15⟩ dX12_back_23
end
