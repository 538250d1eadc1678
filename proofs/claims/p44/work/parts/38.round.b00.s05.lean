section
set_option maxRecDepth 100000 in
theorem c_X12_readStep_d3 (l : Launch) (X : XW) (σ : ST) (a : Nat) (v1 : Int32) (ha : q_kd X a = 12) (hs : 0 ≤ (σ.1 a 15).toInt ∧ (σ.1 a 15).toInt ≤ (σ.1 a 16).toInt ∧ (σ.1 a 16).toInt ≤ (σ.1 a 9).toInt ∧ (σ.1 a 9).toInt ≤ 900 ∧ 0 ≤ (σ.1 a 14).toInt ∧ (σ.1 a 14).toInt ≤ 4 ∧ (σ.1 a 14).toInt ≤ 4 * ((σ.1 a 16).toInt - (σ.1 a 15).toInt) ∧ (σ.1 a 14).toInt ≤ 4 * ((σ.1 a 9).toInt - (σ.1 a 15).toInt) ∧ 0 ≤ (σ.1 a 12).toInt) (hz : (σ.1 a 12).toInt = 0) (hc2 : m_c X σ a 2 ≤ 6) (hn : 0 ≤ (σ.1 a 27).toInt ∧ (σ.1 a 27).toInt ≤ 30) (hd : v1.toInt = 0) : Met l yX12_readStep (q_ws yX12_readStep cX12_readStep 5 none) (q_rm 12 269) (q_P X σ [.ref a, .int v1]) (q_Qv X 1 σ (fun (σ' : ST) => (∀ j, 0 ≤ j → j < 4376 + 9 * (σ.1 a 27).toInt → m_c X σ' a j = m_c X σ a j) ∧ (0 ≤ (σ'.1 a 15).toInt ∧ (σ'.1 a 15).toInt ≤ (σ'.1 a 16).toInt ∧ (σ'.1 a 16).toInt ≤ (σ'.1 a 9).toInt ∧ (σ'.1 a 9).toInt ≤ 900 ∧ 0 ≤ (σ'.1 a 14).toInt ∧ (σ'.1 a 14).toInt ≤ 4 ∧ (σ'.1 a 14).toInt ≤ 4 * ((σ'.1 a 16).toInt - (σ'.1 a 15).toInt) ∧ (σ'.1 a 14).toInt ≤ 4 * ((σ'.1 a 9).toInt - (σ'.1 a 15).toInt) ∧ 0 ≤ (σ'.1 a 12).toInt ∧ (σ'.1 a 9).toInt = (σ.1 a 9).toInt ∧ (σ.1 a 15).toInt ≤ (σ'.1 a 15).toInt ∧ (σ.1 a 12).toInt ≤ (σ'.1 a 12).toInt) ∧ ((σ.1 a 15).toInt + 1 ≤ (σ'.1 a 15).toInt + 1000 * (σ'.1 a 12).toInt) ∧ ((σ.1 a 27).toInt ≤ (σ'.1 a 27).toInt ∧ (σ'.1 a 27).toInt ≤ 30) ∧ (m_oz (σ'.1 a 12).toInt (∀ t, (σ.1 a 27).toInt ≤ t → t < (σ'.1 a 27).toInt → m_stp (m_c X σ' a) (4376 + 9 * t) t (σ'.1 a 27).toInt)) ∧ σ' = F_X12_readStep_d3 X σ a v1 ∧ q_ow [(12, 12), (12, 13), (12, 14), (12, 15), (12, 16), (12, 17), (12, 18), (12, 27), (34, 99)] [(12, 19)] X σ σ')) 0 0 (q_reg X) :=
  c_X12_readStep_g l X a ha 11 245 (by decide) (by decide) 0 (by decide) F_X12_readStep_d2 F_X12_readStep_d3_E168_6 F_X12_readStep_d3_E168_7 F_X12_readStep_d3_E168_8 F_X12_readStep_d3_B140_5 F_X12_readStep_d3_L140_5 F_X12_readStep_d3_J81_4 F_X12_readStep_d3_J55_3 F_X12_readStep_d3_J29_2 F_X12_readStep_d3_J20_1 F_X12_readStep_d3 (fun _ _ _ _ _ => rfl) (fun _ _ _ _ _ => rfl) (fun _ _ _ _ _ => rfl) (fun _ _ _ _ _ _ _ => rfl) (fun _ _ _ _ _ _ _ => F_X12_readStep_d3_L140_5_s) (fun _ _ _ _ _ _ => rfl) (fun _ _ _ _ _ _ => rfl) (fun _ _ _ _ _ _ => rfl) (fun _ _ _ _ _ _ => rfl) (fun _ _ _ _ => rfl) (fun σ v1 hs hz hc2 hn hd => c_X12_readStep_d2 l X σ a v1 ha hs hz hc2 hn (by omega)) σ v1 hs hz hc2 hn hd
set_option maxRecDepth 100000 in
set_option maxHeartbeats 4000000 in
theorem c_X12_round (l : Launch) (X : XW) (σ : ST) (a : Nat) (v1 : Int32) (n : Int) (ha : q_kd X a = 12) (hG : m_G (m_c X σ a)) (hW : m_W (m_c X σ a) n) (hn : 0 ≤ n) : Met l yX12_round (q_ws yX12_round cX12_round 3 (some .int)) (q_rm 13 293) (q_P X σ [.ref a, .int v1]) (q_Qi X 0 σ (fun (r : Int32) (σ' : ST) => (q_KS (fun b g => b = a ∧ 8 ≤ g ∧ g ≤ 18) 1 X σ σ') ∧ (m_G (m_c X σ' a)) ∧ (m_W (m_c X σ' a) n) ∧ (∀ j, 930 ≤ j → j < 3720 → m_c X σ' a j = m_c X σ a j) ∧ ((v1.toInt < 0 ∨ (σ.1 a 8).toInt < v1.toInt ∨ 300 < v1.toInt) → (σ'.1 a 8).toInt = (σ.1 a 8).toInt) ∧ ((0 ≤ v1.toInt ∧ v1.toInt ≤ (σ.1 a 8).toInt ∧ v1.toInt ≤ 300) → (σ'.1 a 8).toInt = 0) ∧ (r, σ') = F_X12_round X σ a v1 ∧ q_ow [(12, 0), (12, 1), (12, 8), (12, 9), (12, 10), (12, 11), (12, 12), (12, 13), (12, 14), (12, 15), (12, 16), (12, 17), (12, 18), (12, 27), (34, 99)] [(12, 19)] X σ σ')) 0 0 (q_reg X) := by
  refine q_metQ 0 (by first | exact rfl | decide +kernel) rfl (Nat.le_of_ble_eq_true rfl) (fun QQ hQQ p e s m below meth c E hml hr hlk hI ls hl => ?_)
  have hx := E.1
  have hb := E.2.1
  have hl : lv_has ls 3 [(0, .ref a), (1, .int v1)] := hl
  have ks_σ : q_KS (fun b g => b = a ∧ 8 ≤ g ∧ g ≤ 18) 1 X σ σ := q_KS.rf
  have kpσ : ∀ j, 0 ≤ j → j < 3720 → m_c X σ a j = m_c X σ a j := fun _ _ _ => rfl
  have fr_σ : q_ow [(12, 0), (12, 1), (12, 8), (12, 9), (12, 10), (12, 11), (12, 12), (12, 13), (12, 14), (12, 15), (12, 16), (12, 17), (12, 18), (12, 27), (34, 99)] [(12, 19)] X σ σ := q_ow.rf
  obtain ⟨out, hout⟩ : ∃ o, o = F_X12_round X σ a v1 := ⟨_, rfl⟩
  have hF := hout.symm
  unfold F_X12_round at hF
  refine lv_aload_n hx hb dX12_round_0 rfl (lv_at hl 0 rfl) ?_
  refine lv_iconst (v := 0) hx hb dX12_round_1 (by decide) ?_
  refine ps_X12_59_12 E hI ha (by decide) dX12_round_2 (fun H locs σ_1 hσ_1 hI => ?_)
  replace hF := q_letX hF hσ_1
  have fr_σ_1 := fr_σ.si hσ_1 ha rfl
  have ks_σ_1 : q_KS (fun b g => b = a ∧ 8 ≤ g ∧ g ≤ 18) 1 X σ σ_1 := ks_σ.si hσ_1 ha (show 1 < 9 by decide)
  have mv9_σ_1 : (σ_1.1 a 9).toInt = (σ.1 a 9).toInt := congrArg Int32.toInt (q_rdn hσ_1 (Or.inr (by decide)))
  have mv12_σ_1 : (σ_1.1 a 12).toInt = (σ.1 a 12).toInt := congrArg Int32.toInt (q_rdn hσ_1 (Or.inr (by decide)))
  have mv14_σ_1 : (σ_1.1 a 14).toInt = (σ.1 a 14).toInt := congrArg Int32.toInt (q_rdn hσ_1 (Or.inr (by decide)))
  have mv15_σ_1 : (σ_1.1 a 15).toInt = (σ.1 a 15).toInt := congrArg Int32.toInt (q_rdn hσ_1 (Or.inr (by decide)))
  have mv16_σ_1 : (σ_1.1 a 16).toInt = (σ.1 a 16).toInt := congrArg Int32.toInt (q_rdn hσ_1 (Or.inr (by decide)))
  have mv8_σ_1 : (σ_1.1 a 8).toInt = (σ.1 a 8).toInt := congrArg Int32.toInt (q_rdn hσ_1 (Or.inr (by decide)))
  have mv27_σ_1 : (σ_1.1 a 27).toInt = (σ.1 a 27).toInt := congrArg Int32.toInt (q_rdn hσ_1 (Or.inr (by decide)))
  have mcσ_1 := m_wo hσ_1 (m_ne ha (q_tk (f := 20) (k' := 34) hI ha rfl (by decide)) (by decide))
  have kpσ_1 : ∀ j, 0 ≤ j → j < 3720 → m_c X σ_1 a j = m_c X σ a j := fun j h0 h1 => (mcσ_1 j).trans (kpσ j h0 h1)
  refine lv_aload_n hx hb dX12_round_5 rfl (lv_at hl 0 rfl) ?_
  refine lv_iconst (v := 0) hx hb dX12_round_6 (by decide) ?_
  refine ps_X12_62_12 E hI ha (by decide) dX12_round_7 (fun H locs σ_2 hσ_2 hI => ?_)
  replace hF := q_letX hF hσ_2
  have fr_σ_2 := fr_σ_1.si hσ_2 ha rfl
  have ks_σ_2 : q_KS (fun b g => b = a ∧ 8 ≤ g ∧ g ≤ 18) 1 X σ σ_2 := ks_σ_1.si hσ_2 ha (show 1 < 9 by decide)
  have mv9_σ_2 : (σ_2.1 a 9).toInt = (σ.1 a 9).toInt := (congrArg Int32.toInt (q_rdn hσ_2 (Or.inr (by decide)))).trans mv9_σ_1
  have mv12_σ_2 : (σ_2.1 a 12).toInt = (σ.1 a 12).toInt := (congrArg Int32.toInt (q_rdn hσ_2 (Or.inr (by decide)))).trans mv12_σ_1
  have mv14_σ_2 : (σ_2.1 a 14).toInt = (σ.1 a 14).toInt := (congrArg Int32.toInt (q_rdn hσ_2 (Or.inr (by decide)))).trans mv14_σ_1
  have mv15_σ_2 : (σ_2.1 a 15).toInt = (σ.1 a 15).toInt := (congrArg Int32.toInt (q_rdn hσ_2 (Or.inr (by decide)))).trans mv15_σ_1
  have mv16_σ_2 : (σ_2.1 a 16).toInt = (σ.1 a 16).toInt := (congrArg Int32.toInt (q_rdn hσ_2 (Or.inr (by decide)))).trans mv16_σ_1
  have mv8_σ_2 : (σ_2.1 a 8).toInt = (σ.1 a 8).toInt := (congrArg Int32.toInt (q_rdn hσ_2 (Or.inr (by decide)))).trans mv8_σ_1
  have mv27_σ_2 : (σ_2.1 a 27).toInt = (σ.1 a 27).toInt := (congrArg Int32.toInt (q_rdn hσ_2 (Or.inr (by decide)))).trans mv27_σ_1
  have mcσ_2 := m_wo hσ_2 (m_ne ha (q_tk (f := 20) (k' := 34) hI ha rfl (by decide)) (by decide))
  have kpσ_2 : ∀ j, 0 ≤ j → j < 3720 → m_c X σ_2 a j = m_c X σ a j := fun j h0 h1 => (mcσ_2 j).trans (kpσ_1 j h0 h1)
  refine lv_aload_n hx hb dX12_round_10 rfl (lv_at hl 0 rfl) ?_
  refine lv_iload_n hx hb dX12_round_11 rfl (lv_at hl 1 rfl) ?_
  refine lv_sipush (v := 300) hx hb dX12_round_12 (by decide) ?_
  have kc_3 : (300 : Int32).toInt = 300 := rfl
  refine q_ci (q_runV (As := [.int v1, .int 300]) (rest := []) E (hml.trans hl.1.symm) hI (c_X12_opens l X σ_2 a v1 (300 : Int32) ha (by decide)) kv_X12_239 ha ⟨rfl, by decide⟩ (show vwCl[11]? = some (RX12, TX12, 46) from rfl) rfl ⟨Nat.le_of_ble_eq_true rfl, Nat.le_of_ble_eq_true rfl⟩ ⟨Nat.le_refl _, Nat.le_refl _⟩ rfl (Nat.le_of_ble_eq_true rfl) dX12_round_15) hI (by decide) (fun r_4 σ_5 H locs hpσ_5 hkσ_5 hI => ?_)
  obtain ⟨ahpσ_5, bhpσ_5, chpσ_5, dhpσ_5, ehpσ_5, fhpσ_5, ghpσ_5⟩ := hpσ_5
  have fr_σ_5 := fr_σ_2.call ghpσ_5 rfl rfl
  replace hF := q_biX hF fhpσ_5
  have mcσ_5 := ehpσ_5
  have kpσ_5 : ∀ j, 0 ≤ j → j < 3720 → m_c X σ_5 a j = m_c X σ a j := fun j h0 h1 => (mcσ_5 j).trans (kpσ_2 j h0 h1)
  have ks_σ_5 : q_KS (fun b g => b = a ∧ 8 ≤ g ∧ g ≤ 18) 1 X σ σ_5 := ks_σ_2.KS bhpσ_5 (by decide) (fun b g h => ⟨h.1, by have := h.2; omega⟩)
  have so := chpσ_5
  have sf := dhpσ_5
  clear chpσ_5 dhpσ_5
  refine q_if_ne (A := r_4.toInt) E rfl (tgt := 23) dX12_round_18 (by decide) (fun c_6 => ?_) (fun c_6 => ?_)
  · skip
    replace hF := q_ifn hF c_6
    replace so := so (by first | (clear mv9_σ_1 mv12_σ_1 mv14_σ_1 mv15_σ_1 mv16_σ_1 mv8_σ_1 mv27_σ_1; omega) | omega)
    clear sf
    have smσ_5 : 0 ≤ (σ_5.1 a 15).toInt ∧ (σ_5.1 a 15).toInt ≤ (σ_5.1 a 16).toInt ∧ (σ_5.1 a 16).toInt ≤ (σ_5.1 a 9).toInt ∧ (σ_5.1 a 9).toInt ≤ 900 ∧ 0 ≤ (σ_5.1 a 14).toInt ∧ (σ_5.1 a 14).toInt ≤ 4 ∧ (σ_5.1 a 14).toInt ≤ 4 * ((σ_5.1 a 16).toInt - (σ_5.1 a 15).toInt) ∧ (σ_5.1 a 14).toInt ≤ 4 * ((σ_5.1 a 9).toInt - (σ_5.1 a 15).toInt) ∧ 0 ≤ (σ_5.1 a 12).toInt ∧ (σ_5.1 a 8).toInt = 0 := (by first | (clear mv9_σ_1 mv12_σ_1 mv14_σ_1 mv15_σ_1 mv16_σ_1 mv8_σ_1 mv27_σ_1; omega) | omega)
    have sv : 0 ≤ v1.toInt ∧ v1.toInt ≤ (σ.1 a 8).toInt ∧ v1.toInt ≤ 300 := (by first | (clear mv9_σ_1 mv12_σ_1 mv14_σ_1 mv15_σ_1 mv16_σ_1 mv8_σ_1 mv27_σ_1; omega) | omega)
    clear so
    refine lv_aload_n hx hb dX12_round_23 rfl (lv_at hl 0 rfl) ?_
    refine lv_iconst (v := 0) hx hb dX12_round_24 (by decide) ?_
    refine ps_X12_267_12 E hI ha (by decide) dX12_round_25 (fun H locs σ_7 hσ_7 hI => ?_)
    replace hF := q_letX hF hσ_7
    have fr_σ_7 := fr_σ_5.si hσ_7 ha rfl
    have ks_σ_7 : q_KS (fun b g => b = a ∧ 8 ≤ g ∧ g ≤ 18) 1 X σ σ_7 := ks_σ_5.si hσ_7 ha (show 1 < 3 by decide)
    have mv9_σ_7 : (σ_7.1 a 9).toInt = (σ_5.1 a 9).toInt := congrArg Int32.toInt (q_rdn hσ_7 (Or.inr (by decide)))
    have mv12_σ_7 : (σ_7.1 a 12).toInt = (σ_5.1 a 12).toInt := congrArg Int32.toInt (q_rdn hσ_7 (Or.inr (by decide)))
    have mv14_σ_7 : (σ_7.1 a 14).toInt = (σ_5.1 a 14).toInt := congrArg Int32.toInt (q_rdn hσ_7 (Or.inr (by decide)))
    have mv15_σ_7 : (σ_7.1 a 15).toInt = (σ_5.1 a 15).toInt := congrArg Int32.toInt (q_rdn hσ_7 (Or.inr (by decide)))
    have mv16_σ_7 : (σ_7.1 a 16).toInt = (σ_5.1 a 16).toInt := congrArg Int32.toInt (q_rdn hσ_7 (Or.inr (by decide)))
    have mv8_σ_7 : (σ_7.1 a 8).toInt = (σ_5.1 a 8).toInt := congrArg Int32.toInt (q_rdn hσ_7 (Or.inr (by decide)))
    have mv27_σ_7 : (σ_7.1 a 27).toInt = 0 := by rw [q_rd hσ_7]; rfl
    have mcσ_7 := m_wo hσ_7 (m_ne ha (q_tk (f := 20) (k' := 34) hI ha rfl (by decide)) (by decide))
    have kpσ_7 : ∀ j, 0 ≤ j → j < 3720 → m_c X σ_7 a j = m_c X σ a j := fun j h0 h1 => (mcσ_7 j).trans (kpσ_5 j h0 h1)
    have smσ_7 : 0 ≤ (σ_7.1 a 15).toInt ∧ (σ_7.1 a 15).toInt ≤ (σ_7.1 a 16).toInt ∧ (σ_7.1 a 16).toInt ≤ (σ_7.1 a 9).toInt ∧ (σ_7.1 a 9).toInt ≤ 900 ∧ 0 ≤ (σ_7.1 a 14).toInt ∧ (σ_7.1 a 14).toInt ≤ 4 ∧ (σ_7.1 a 14).toInt ≤ 4 * ((σ_7.1 a 16).toInt - (σ_7.1 a 15).toInt) ∧ (σ_7.1 a 14).toInt ≤ 4 * ((σ_7.1 a 9).toInt - (σ_7.1 a 15).toInt) ∧ 0 ≤ (σ_7.1 a 12).toInt ∧ (σ_7.1 a 8).toInt = 0 := (by first | (rw [mv12_σ_7, mv14_σ_7, mv15_σ_7, mv16_σ_7, mv8_σ_7, mv9_σ_7]; exact smσ_5) | omega)
    have nrσ_7 : 0 ≤ (σ_7.1 a 27).toInt ∧ (σ_7.1 a 27).toInt ≤ 30 := (by first | (clear mv9_σ_1 mv12_σ_1 mv14_σ_1 mv15_σ_1 mv16_σ_1 mv8_σ_1 mv27_σ_1 mv9_σ_2 mv12_σ_2 mv14_σ_2 mv15_σ_2 mv16_σ_2 mv8_σ_2 mv27_σ_2; omega) | omega)
    have L_28_9 : ∀ (k_9 : Nat)  (σ_8 : ST) (H : Heap) (locs : List Loc) (ls : Array Slot), (901 - (σ_8.1 a 15).toInt).toNat + (1 - (σ_8.1 a 12).toInt).toNat < k_9 → (m_oz (σ_8.1 a 12).toInt (m_rs (m_c X σ_8 a) (σ_8.1 a 27).toInt)) → (q_KS (fun b g => b = a ∧ 8 ≤ g ∧ g ≤ 18) 1 X σ σ_8) → (q_ow [(12, 0), (12, 1), (12, 8), (12, 9), (12, 10), (12, 11), (12, 12), (12, 13), (12, 14), (12, 15), (12, 16), (12, 17), (12, 18), (12, 27), (34, 99)] [(12, 19)] X σ σ_8) → (∀ j, 0 ≤ j → j < 3720 → m_c X σ_8 a j = m_c X σ a j) → (0 ≤ (σ_8.1 a 15).toInt ∧ (σ_8.1 a 15).toInt ≤ (σ_8.1 a 16).toInt ∧ (σ_8.1 a 16).toInt ≤ (σ_8.1 a 9).toInt ∧ (σ_8.1 a 9).toInt ≤ 900 ∧ 0 ≤ (σ_8.1 a 14).toInt ∧ (σ_8.1 a 14).toInt ≤ 4 ∧ (σ_8.1 a 14).toInt ≤ 4 * ((σ_8.1 a 16).toInt - (σ_8.1 a 15).toInt) ∧ (σ_8.1 a 14).toInt ≤ 4 * ((σ_8.1 a 9).toInt - (σ_8.1 a 15).toInt) ∧ 0 ≤ (σ_8.1 a 12).toInt ∧ (σ_8.1 a 8).toInt = 0) → (0 ≤ (σ_8.1 a 27).toInt ∧ (σ_8.1 a 27).toInt ≤ 30) → (F_X12_round_L28_1 X a k_9 σ_8 = out) → q_I X 0 σ s.heap locs σ_8 H → lv_has ls 3 [(0, .ref a), (1, .int v1)] → W p l e (q_rm 13 293) s m ([.ref a, .int v1] : List Value).toArray below meth c H locs 0 0 (MQ below QQ ([.ref a, .int v1] : List Value).toArray s 0 0 (q_reg X)) (F0 m 28 ls []) := by
      clear hF
      intro k_9
      induction k_9 with
      | zero =>
        intro σ_8 H locs ls hms
        try clear smσ_5; try clear fr_σ_7; try clear mv9_σ_7; try clear mv12_σ_7; try clear mv14_σ_7; try clear mv15_σ_7; try clear mv16_σ_7; try clear mv8_σ_7; try clear mv27_σ_7; try clear mcσ_7; try clear kpσ_7; try clear smσ_7; try clear nrσ_7
        exact absurd hms (Nat.not_lt_zero _)
      | succ k_9 ih28 =>
        intro σ_8 H locs ls hm28 stσ_8 ks_σ_8 fr_σ_8 kpσ_8 smσ_8 nrσ_8 hF hI hl
        replace hF := (F_X12_round_L28_1_s).symm.trans hF
        unfold F_X12_round_B28_1 at hF
        refine lv_aload_n hx hb dX12_round_28 rfl (lv_at hl 0 rfl) ?_
        refine gs_X12_187_12 E hI ha dX12_round_29 ?_
        refine lv_topi (fun f_10 ef_10 => ?_)
        replace hF := q_letX hF ef_10
        have if_10 : f_10.toInt = (σ_8.1 a 12).toInt := congrArg Int32.toInt ef_10
        have J_50_10 : ∀  (H : Heap) (locs : List Loc) (ls : Array Slot), (F_X12_round_J50_2 X σ_8 a = out) → q_I X 0 σ s.heap locs σ_8 H → lv_has ls 3 [(0, .ref a), (1, .int v1)] → W p l e (q_rm 13 293) s m ([.ref a, .int v1] : List Value).toArray below meth c H locs 0 0 (MQ below QQ ([.ref a, .int v1] : List Value).toArray s 0 0 (q_reg X)) (F0 m 50 ls []) := by
          clear hF
          intro  H locs ls  hF hI hl
          unfold F_X12_round_J50_2 at hF
          refine lv_aload_n hx hb dX12_round_50 rfl (lv_at hl 0 rfl) ?_
          refine q_ci (q_runV (As := []) (rest := []) E (hml.trans hl.1.symm) hI (c_X12_isWell l X σ_8 a ha) kv_X12_258 ha ⟨rfl, by decide⟩ (show vwCl[11]? = some (RX12, TX12, 46) from rfl) rfl ⟨Nat.le_of_ble_eq_true rfl, Nat.le_of_ble_eq_true rfl⟩ ⟨Nat.le_refl _, Nat.le_refl _⟩ rfl (Nat.le_of_ble_eq_true rfl) dX12_round_51) hI (by decide) (fun r_11 σ_12 H locs hpσ_12 hkσ_12 hI => ?_)
          obtain ⟨ahpσ_12, bhpσ_12, chpσ_12, dhpσ_12⟩ := hpσ_12
          have fr_σ_12 := fr_σ_8.call dhpσ_12 rfl rfl
          replace hF := q_biX hF chpσ_12
          have mv9_σ_12 : (σ_12.1 a 9).toInt = (σ_8.1 a 9).toInt := congrArg Int32.toInt ((q_K.le hkσ_12 (by decide) : q_K 8 X σ_8 σ_12) a 9 (by rw [ha]; decide))
          have mv12_σ_12 : (σ_12.1 a 12).toInt = (σ_8.1 a 12).toInt := congrArg Int32.toInt ((q_K.le hkσ_12 (by decide) : q_K 8 X σ_8 σ_12) a 12 (by rw [ha]; decide))
          have mv14_σ_12 : (σ_12.1 a 14).toInt = (σ_8.1 a 14).toInt := congrArg Int32.toInt ((q_K.le hkσ_12 (by decide) : q_K 8 X σ_8 σ_12) a 14 (by rw [ha]; decide))
          have mv15_σ_12 : (σ_12.1 a 15).toInt = (σ_8.1 a 15).toInt := congrArg Int32.toInt ((q_K.le hkσ_12 (by decide) : q_K 8 X σ_8 σ_12) a 15 (by rw [ha]; decide))
          have mv16_σ_12 : (σ_12.1 a 16).toInt = (σ_8.1 a 16).toInt := congrArg Int32.toInt ((q_K.le hkσ_12 (by decide) : q_K 8 X σ_8 σ_12) a 16 (by rw [ha]; decide))
          have mv8_σ_12 : (σ_12.1 a 8).toInt = (σ_8.1 a 8).toInt := congrArg Int32.toInt ((q_K.le hkσ_12 (by decide) : q_K 8 X σ_8 σ_12) a 8 (by rw [ha]; decide))
          have mv27_σ_12 : (σ_12.1 a 27).toInt = (σ_8.1 a 27).toInt := congrArg Int32.toInt ((q_K.le hkσ_12 (by decide) : q_K 8 X σ_8 σ_12) a 27 (by rw [ha]; decide))
          have mcσ_12 := m_cK hkσ_12 hI.1 ha (by decide)
          have kpσ_12 : ∀ j, 0 ≤ j → j < 3720 → m_c X σ_12 a j = m_c X σ a j := fun j h0 h1 => (mcσ_12 j).trans (kpσ_8 j h0 h1)
          have smσ_12 : 0 ≤ (σ_12.1 a 15).toInt ∧ (σ_12.1 a 15).toInt ≤ (σ_12.1 a 16).toInt ∧ (σ_12.1 a 16).toInt ≤ (σ_12.1 a 9).toInt ∧ (σ_12.1 a 9).toInt ≤ 900 ∧ 0 ≤ (σ_12.1 a 14).toInt ∧ (σ_12.1 a 14).toInt ≤ 4 ∧ (σ_12.1 a 14).toInt ≤ 4 * ((σ_12.1 a 16).toInt - (σ_12.1 a 15).toInt) ∧ (σ_12.1 a 14).toInt ≤ 4 * ((σ_12.1 a 9).toInt - (σ_12.1 a 15).toInt) ∧ 0 ≤ (σ_12.1 a 12).toInt ∧ (σ_12.1 a 8).toInt = 0 := (by first | (rw [mv12_σ_12, mv14_σ_12, mv15_σ_12, mv16_σ_12, mv8_σ_12, mv9_σ_12]; exact smσ_8) | omega)
          have nrσ_12 : 0 ≤ (σ_12.1 a 27).toInt ∧ (σ_12.1 a 27).toInt ≤ 30 := (by first | (clear mv9_σ_1 mv12_σ_1 mv14_σ_1 mv15_σ_1 mv16_σ_1 mv8_σ_1 mv27_σ_1 mv9_σ_2 mv12_σ_2 mv14_σ_2 mv15_σ_2 mv16_σ_2 mv8_σ_2 mv27_σ_2; omega) | omega)
          have stσ_12 : m_oz (σ_12.1 a 12).toInt (m_rs (m_c X σ_12 a) (σ_12.1 a 27).toInt) := (m_oz.mono stσ_8 (by first | (clear mv9_σ_1 mv12_σ_1 mv14_σ_1 mv15_σ_1 mv16_σ_1 mv8_σ_1 mv27_σ_1 mv9_σ_2 mv12_σ_2 mv14_σ_2 mv15_σ_2 mv16_σ_2 mv8_σ_2 mv27_σ_2; omega) | omega) (by first | (clear mv9_σ_1 mv12_σ_1 mv14_σ_1 mv15_σ_1 mv16_σ_1 mv8_σ_1 mv27_σ_1 mv9_σ_2 mv12_σ_2 mv14_σ_2 mv15_σ_2 mv16_σ_2 mv8_σ_2 mv27_σ_2; omega) | omega) (fun h => m_rs.ext h (fun j h0 => mcσ_12 j) (by first | (clear mv9_σ_1 mv12_σ_1 mv14_σ_1 mv15_σ_1 mv16_σ_1 mv8_σ_1 mv27_σ_1 mv9_σ_2 mv12_σ_2 mv14_σ_2 mv15_σ_2 mv16_σ_2 mv8_σ_2 mv27_σ_2; omega) | omega)))
          have ks_σ_12 : q_KS (fun b g => b = a ∧ 8 ≤ g ∧ g ≤ 18) 1 X σ σ_12 := ks_σ_8.K hkσ_12 (by decide)
          refine q_if_ne (A := r_11.toInt) E rfl (tgt := 59) dX12_round_54 (by decide) (fun c_13 => ?_) (fun c_13 => ?_)
          · skip
            replace hF := q_ifn hF c_13
            refine lv_aload_n hx hb dX12_round_59 rfl (lv_at hl 0 rfl) ?_
            refine gs_X12_35_12 E hI ha dX12_round_60 ?_
            refine lv_sipush (v := 654) hx hb dX12_round_63 (by decide) ?_
            refine lv_iconst (v := 1) hx hb dX12_round_66 (by decide) ?_
            have kc_15 : (1 : Int32).toInt = 1 := rfl
            refine q_iastN E hI (q_tk (k' := 34) hI ha rfl (by decide)) ⟨by decide, rfl⟩ (by decide) (by rw [q_lnk (v := 4650) hI (q_tk (k' := 34) hI ha rfl (by decide)) rfl (by decide)]; decide) (show 0 < 2 by decide) (q_inU rfl) dX12_round_67 (fun H locs σ_14 hσ_14 hI => ?_)
            replace hF := q_letX hF hσ_14
            have fr_σ_14 := fr_σ_12.si hσ_14 (q_tk (k' := 34) hI ha rfl (by decide)) rfl
            have mv9_σ_14 : (σ_14.1 a 9).toInt = (σ_8.1 a 9).toInt := (congrArg Int32.toInt (q_rdn hσ_14 (Or.inl (m_ne ha (q_tk (k' := 34) hI ha rfl (by decide)) (by decide))))).trans mv9_σ_12
            have mv12_σ_14 : (σ_14.1 a 12).toInt = (σ_8.1 a 12).toInt := (congrArg Int32.toInt (q_rdn hσ_14 (Or.inl (m_ne ha (q_tk (k' := 34) hI ha rfl (by decide)) (by decide))))).trans mv12_σ_12
            have mv14_σ_14 : (σ_14.1 a 14).toInt = (σ_8.1 a 14).toInt := (congrArg Int32.toInt (q_rdn hσ_14 (Or.inl (m_ne ha (q_tk (k' := 34) hI ha rfl (by decide)) (by decide))))).trans mv14_σ_12
            have mv15_σ_14 : (σ_14.1 a 15).toInt = (σ_8.1 a 15).toInt := (congrArg Int32.toInt (q_rdn hσ_14 (Or.inl (m_ne ha (q_tk (k' := 34) hI ha rfl (by decide)) (by decide))))).trans mv15_σ_12
            have mv16_σ_14 : (σ_14.1 a 16).toInt = (σ_8.1 a 16).toInt := (congrArg Int32.toInt (q_rdn hσ_14 (Or.inl (m_ne ha (q_tk (k' := 34) hI ha rfl (by decide)) (by decide))))).trans mv16_σ_12
            have mv8_σ_14 : (σ_14.1 a 8).toInt = (σ_8.1 a 8).toInt := (congrArg Int32.toInt (q_rdn hσ_14 (Or.inl (m_ne ha (q_tk (k' := 34) hI ha rfl (by decide)) (by decide))))).trans mv8_σ_12
            have mv27_σ_14 : (σ_14.1 a 27).toInt = (σ_8.1 a 27).toInt := (congrArg Int32.toInt (q_rdn hσ_14 (Or.inl (m_ne ha (q_tk (k' := 34) hI ha rfl (by decide)) (by decide))))).trans mv27_σ_12
            have ks_σ_14 : q_KS (fun b g => b = a ∧ 8 ≤ g ∧ g ≤ 18) 1 X σ σ_14 := ks_σ_12.si hσ_14 (q_tk (k' := 34) hI ha rfl (by decide)) (show 1 < 2 by decide)
            have mcσ_14 := m_wr (v := (1 : Int32)) (A := 654) hσ_14 (by decide) (by decide)
            have smσ_14 : 0 ≤ (σ_14.1 a 15).toInt ∧ (σ_14.1 a 15).toInt ≤ (σ_14.1 a 16).toInt ∧ (σ_14.1 a 16).toInt ≤ (σ_14.1 a 9).toInt ∧ (σ_14.1 a 9).toInt ≤ 900 ∧ 0 ≤ (σ_14.1 a 14).toInt ∧ (σ_14.1 a 14).toInt ≤ 4 ∧ (σ_14.1 a 14).toInt ≤ 4 * ((σ_14.1 a 16).toInt - (σ_14.1 a 15).toInt) ∧ (σ_14.1 a 14).toInt ≤ 4 * ((σ_14.1 a 9).toInt - (σ_14.1 a 15).toInt) ∧ 0 ≤ (σ_14.1 a 12).toInt ∧ (σ_14.1 a 8).toInt = 0 := (by first | (rw [mv12_σ_14, mv14_σ_14, mv15_σ_14, mv16_σ_14, mv8_σ_14, mv9_σ_14]; exact smσ_12) | omega)
            have nrσ_14 : 0 ≤ (σ_14.1 a 27).toInt ∧ (σ_14.1 a 27).toInt ≤ 30 := (by first | (clear mv9_σ_1 mv12_σ_1 mv14_σ_1 mv15_σ_1 mv16_σ_1 mv8_σ_1 mv27_σ_1 mv9_σ_2 mv12_σ_2 mv14_σ_2 mv15_σ_2 mv16_σ_2 mv8_σ_2 mv27_σ_2 mv9_σ_12 mv12_σ_12 mv14_σ_12 mv15_σ_12 mv16_σ_12 mv8_σ_12 mv27_σ_12; omega) | omega)
            have stσ_14 : m_oz (σ_14.1 a 12).toInt (m_rs (m_c X σ_14 a) (σ_14.1 a 27).toInt) := (m_oz.mono stσ_12 (by first | (clear mv9_σ_1 mv12_σ_1 mv14_σ_1 mv15_σ_1 mv16_σ_1 mv8_σ_1 mv27_σ_1 mv9_σ_2 mv12_σ_2 mv14_σ_2 mv15_σ_2 mv16_σ_2 mv8_σ_2 mv27_σ_2 mv9_σ_12 mv12_σ_12 mv14_σ_12 mv15_σ_12 mv16_σ_12 mv8_σ_12 mv27_σ_12; omega) | omega) (by first | (clear mv9_σ_1 mv12_σ_1 mv14_σ_1 mv15_σ_1 mv16_σ_1 mv8_σ_1 mv27_σ_1 mv9_σ_2 mv12_σ_2 mv14_σ_2 mv15_σ_2 mv16_σ_2 mv8_σ_2 mv27_σ_2 mv9_σ_12 mv12_σ_12 mv14_σ_12 mv15_σ_12 mv16_σ_12 mv8_σ_12 mv27_σ_12; omega) | omega) (fun h => m_rs.ext h (fun j h0 => by rw [mcσ_14 j (by first | (clear mv9_σ_1 mv12_σ_1 mv14_σ_1 mv15_σ_1 mv16_σ_1 mv8_σ_1 mv27_σ_1 mv9_σ_2 mv12_σ_2 mv14_σ_2 mv15_σ_2 mv16_σ_2 mv8_σ_2 mv27_σ_2 mv9_σ_12 mv12_σ_12 mv14_σ_12 mv15_σ_12 mv16_σ_12 mv8_σ_12 mv27_σ_12; omega) | omega), if_neg (by first | (clear mv9_σ_1 mv12_σ_1 mv14_σ_1 mv15_σ_1 mv16_σ_1 mv8_σ_1 mv27_σ_1 mv9_σ_2 mv12_σ_2 mv14_σ_2 mv15_σ_2 mv16_σ_2 mv8_σ_2 mv27_σ_2 mv9_σ_12 mv12_σ_12 mv14_σ_12 mv15_σ_12 mv16_σ_12 mv8_σ_12 mv27_σ_12; omega) | omega)]) (by first | (clear mv9_σ_1 mv12_σ_1 mv14_σ_1 mv15_σ_1 mv16_σ_1 mv8_σ_1 mv27_σ_1 mv9_σ_2 mv12_σ_2 mv14_σ_2 mv15_σ_2 mv16_σ_2 mv8_σ_2 mv27_σ_2 mv9_σ_12 mv12_σ_12 mv14_σ_12 mv15_σ_12 mv16_σ_12 mv8_σ_12 mv27_σ_12; omega) | omega)))
            have gσ_14 : m_G (m_c X σ_14 a) := (m_G.wr (m_G.ext (fun j a b => kpσ_12 j a (by first | (clear mv9_σ_1 mv12_σ_1 mv14_σ_1 mv15_σ_1 mv16_σ_1 mv8_σ_1 mv27_σ_1 mv9_σ_2 mv12_σ_2 mv14_σ_2 mv15_σ_2 mv16_σ_2 mv8_σ_2 mv27_σ_2 mv9_σ_12 mv12_σ_12 mv14_σ_12 mv15_σ_12 mv16_σ_12 mv8_σ_12 mv27_σ_12; omega) | omega)) hG) mcσ_14 (by first | (clear mv9_σ_1 mv12_σ_1 mv14_σ_1 mv15_σ_1 mv16_σ_1 mv8_σ_1 mv27_σ_1 mv9_σ_2 mv12_σ_2 mv14_σ_2 mv15_σ_2 mv16_σ_2 mv8_σ_2 mv27_σ_2 mv9_σ_12 mv12_σ_12 mv14_σ_12 mv15_σ_12 mv16_σ_12 mv8_σ_12 mv27_σ_12; omega) | omega))
            have kzσ_14 : ∀ j, 0 ≤ j → j < 3720 → j ≠ 654 → m_c X σ_14 a j = m_c X σ a j := fun j h0 h1 h2 => by rw [mcσ_14 j h0, if_neg (by first | (clear mv9_σ_1 mv12_σ_1 mv14_σ_1 mv15_σ_1 mv16_σ_1 mv8_σ_1 mv27_σ_1 mv9_σ_2 mv12_σ_2 mv14_σ_2 mv15_σ_2 mv16_σ_2 mv8_σ_2 mv27_σ_2 mv9_σ_12 mv12_σ_12 mv14_σ_12 mv15_σ_12 mv16_σ_12 mv8_σ_12 mv27_σ_12; omega) | omega)]; exact kpσ_12 j h0 h1
            refine lv_aload_n hx hb dX12_round_68 rfl (lv_at hl 0 rfl) ?_
            refine gs_X12_35_12 E hI ha dX12_round_69 ?_
            refine lv_sipush (v := 655) hx hb dX12_round_72 (by decide) ?_
            refine lv_aload_n hx hb dX12_round_75 rfl (lv_at hl 0 rfl) ?_
            refine gs_X12_267_12 E hI ha dX12_round_76 ?_
            refine lv_topi (fun f_16 ef_16 => ?_)
            replace hF := q_letX hF ef_16
            have if_16 : f_16.toInt = (σ_8.1 a 27).toInt := (congrArg Int32.toInt ef_16).trans mv27_σ_14
            refine q_iastN E hI (q_tk (k' := 34) hI ha rfl (by decide)) ⟨by decide, rfl⟩ (by decide) (by rw [q_lnk (v := 4650) hI (q_tk (k' := 34) hI ha rfl (by decide)) rfl (by decide)]; decide) (show 0 < 2 by decide) (q_inU rfl) dX12_round_79 (fun H locs σ_17 hσ_17 hI => ?_)
            replace hF := q_letX hF hσ_17
            have fr_σ_17 := fr_σ_14.si hσ_17 (q_tk (k' := 34) hI ha rfl (by decide)) rfl
            have mv9_σ_17 : (σ_17.1 a 9).toInt = (σ_8.1 a 9).toInt := (congrArg Int32.toInt (q_rdn hσ_17 (Or.inl (m_ne ha (q_tk (k' := 34) hI ha rfl (by decide)) (by decide))))).trans mv9_σ_14
            have mv12_σ_17 : (σ_17.1 a 12).toInt = (σ_8.1 a 12).toInt := (congrArg Int32.toInt (q_rdn hσ_17 (Or.inl (m_ne ha (q_tk (k' := 34) hI ha rfl (by decide)) (by decide))))).trans mv12_σ_14
            have mv14_σ_17 : (σ_17.1 a 14).toInt = (σ_8.1 a 14).toInt := (congrArg Int32.toInt (q_rdn hσ_17 (Or.inl (m_ne ha (q_tk (k' := 34) hI ha rfl (by decide)) (by decide))))).trans mv14_σ_14
            have mv15_σ_17 : (σ_17.1 a 15).toInt = (σ_8.1 a 15).toInt := (congrArg Int32.toInt (q_rdn hσ_17 (Or.inl (m_ne ha (q_tk (k' := 34) hI ha rfl (by decide)) (by decide))))).trans mv15_σ_14
            have mv16_σ_17 : (σ_17.1 a 16).toInt = (σ_8.1 a 16).toInt := (congrArg Int32.toInt (q_rdn hσ_17 (Or.inl (m_ne ha (q_tk (k' := 34) hI ha rfl (by decide)) (by decide))))).trans mv16_σ_14
            have mv8_σ_17 : (σ_17.1 a 8).toInt = (σ_8.1 a 8).toInt := (congrArg Int32.toInt (q_rdn hσ_17 (Or.inl (m_ne ha (q_tk (k' := 34) hI ha rfl (by decide)) (by decide))))).trans mv8_σ_14
            have mv27_σ_17 : (σ_17.1 a 27).toInt = (σ_8.1 a 27).toInt := (congrArg Int32.toInt (q_rdn hσ_17 (Or.inl (m_ne ha (q_tk (k' := 34) hI ha rfl (by decide)) (by decide))))).trans mv27_σ_14
            have ks_σ_17 : q_KS (fun b g => b = a ∧ 8 ≤ g ∧ g ≤ 18) 1 X σ σ_17 := ks_σ_14.si hσ_17 (q_tk (k' := 34) hI ha rfl (by decide)) (show 1 < 2 by decide)
            have mcσ_17 := m_wr (v := f_16) (A := 655) hσ_17 (by decide) (by decide)
            have smσ_17 : 0 ≤ (σ_17.1 a 15).toInt ∧ (σ_17.1 a 15).toInt ≤ (σ_17.1 a 16).toInt ∧ (σ_17.1 a 16).toInt ≤ (σ_17.1 a 9).toInt ∧ (σ_17.1 a 9).toInt ≤ 900 ∧ 0 ≤ (σ_17.1 a 14).toInt ∧ (σ_17.1 a 14).toInt ≤ 4 ∧ (σ_17.1 a 14).toInt ≤ 4 * ((σ_17.1 a 16).toInt - (σ_17.1 a 15).toInt) ∧ (σ_17.1 a 14).toInt ≤ 4 * ((σ_17.1 a 9).toInt - (σ_17.1 a 15).toInt) ∧ 0 ≤ (σ_17.1 a 12).toInt ∧ (σ_17.1 a 8).toInt = 0 := (by first | (rw [mv12_σ_17, mv14_σ_17, mv15_σ_17, mv16_σ_17, mv8_σ_17, mv9_σ_17]; exact smσ_14) | omega)
            obtain ⟨cA, hA⟩ : ∃ f : Int → Int, f = m_c X σ_14 a := ⟨_, rfl⟩
            obtain ⟨cB, hB⟩ : ∃ f : Int → Int, f = m_c X σ_17 a := ⟨_, rfl⟩
            obtain ⟨nB, hnB⟩ : ∃ y : Int, y = (σ_14.1 a 27).toInt := ⟨_, rfl⟩
            have bN : 0 ≤ nB ∧ nB ≤ 30 := by omega
            have vN : (f_16).toInt = nB := by omega
            have e1 : ∀ j : Int, 0 ≤ j → cB j = if j = 655 then nB else cA j := by rw [hA, hB, ← vN]; exact mcσ_17
            have gA : m_G cA := by rw [hA]; exact gσ_14
            have sA : m_rs cA nB := by rw [hA, hnB]; exact stσ_14 (by first | (clear mv9_σ_1 mv12_σ_1 mv14_σ_1 mv15_σ_1 mv16_σ_1 mv8_σ_1 mv27_σ_1 mv9_σ_2 mv12_σ_2 mv14_σ_2 mv15_σ_2 mv16_σ_2 mv8_σ_2 mv27_σ_2 mv9_σ_12 mv12_σ_12 mv14_σ_12 mv15_σ_12 mv16_σ_12 mv8_σ_12 mv27_σ_12 mv9_σ_14 mv12_σ_14 mv14_σ_14 mv15_σ_14 mv16_σ_14 mv8_σ_14 mv27_σ_14; omega) | omega)
            have kA : ∀ j, 0 ≤ j → j < 3720 → j ≠ 654 → cA j = m_c X σ a j := by rw [hA]; exact kzσ_14
            refine lv_iconst (v := 0) hx hb dX12_round_80 (by decide) ?_
            refine lv_istore_n (lv' := [(2, .int 0), (0, .ref a), (1, .int v1)]) hx hb dX12_round_81 rfl hl (by decide) rfl (fun ls hl => ?_)
            have L_82_20 : ∀ (k_20 : Nat) (x_18 : Int32) (σ_19 : ST) (H : Heap) (locs : List Loc) (ls : Array Slot), (2147483647 - x_18.toInt).toNat < k_20 → (0 ≤ x_18.toInt ∧ x_18.toInt ≤ 9 * nB) → ((σ_19.1 a 27).toInt = nB) → (∀ j : Int, 0 ≤ j → m_c X σ_19 a j = if 656 ≤ j ∧ j < 656 + x_18.toInt then cB (4376 + (j - 656)) else cB j) → (q_KS (fun b g => b = a ∧ 8 ≤ g ∧ g ≤ 18) 1 X σ σ_19) → (q_ow [(12, 0), (12, 1), (12, 8), (12, 9), (12, 10), (12, 11), (12, 12), (12, 13), (12, 14), (12, 15), (12, 16), (12, 17), (12, 18), (12, 27), (34, 99)] [(12, 19)] X σ σ_19) → (0 ≤ (σ_19.1 a 15).toInt ∧ (σ_19.1 a 15).toInt ≤ (σ_19.1 a 16).toInt ∧ (σ_19.1 a 16).toInt ≤ (σ_19.1 a 9).toInt ∧ (σ_19.1 a 9).toInt ≤ 900 ∧ 0 ≤ (σ_19.1 a 14).toInt ∧ (σ_19.1 a 14).toInt ≤ 4 ∧ (σ_19.1 a 14).toInt ≤ 4 * ((σ_19.1 a 16).toInt - (σ_19.1 a 15).toInt) ∧ (σ_19.1 a 14).toInt ≤ 4 * ((σ_19.1 a 9).toInt - (σ_19.1 a 15).toInt) ∧ 0 ≤ (σ_19.1 a 12).toInt ∧ (σ_19.1 a 8).toInt = 0) → (F_X12_round_L82_3 X a k_20 x_18 σ_19 = out) → q_I X 0 σ s.heap locs σ_19 H → lv_has ls 3 [(0, .ref a), (1, .int v1), (2, .int x_18)] → W p l e (q_rm 13 293) s m ([.ref a, .int v1] : List Value).toArray below meth c H locs 0 0 (MQ below QQ ([.ref a, .int v1] : List Value).toArray s 0 0 (q_reg X)) (F0 m 82 ls []) := by
              clear hF
              intro k_20
              induction k_20 with
              | zero =>
                intro x_18 σ_19 H locs ls hms
                try clear stσ_8; try clear fr_σ_8; try clear kpσ_8; try clear smσ_8; try clear nrσ_8; try clear fr_σ_14; try clear mv9_σ_14; try clear mv12_σ_14; try clear mv14_σ_14; try clear mv15_σ_14; try clear mv16_σ_14; try clear mv8_σ_14; try clear mv27_σ_14; try clear mcσ_14; try clear smσ_14; try clear nrσ_14; try clear stσ_14; try clear kzσ_14; try clear fr_σ_17; try clear mv9_σ_17; try clear mv12_σ_17; try clear mv14_σ_17; try clear mv15_σ_17; try clear mv16_σ_17; try clear mv8_σ_17; try clear mv27_σ_17; try clear mcσ_17; try clear smσ_17
                exact absurd hms (Nat.not_lt_zero _)
              | succ k_20 ih82 =>
                intro x_18 σ_19 H locs ls hm82 hge82 hn82 cpσ_19 ks_σ_19 fr_σ_19 smσ_19 hF hI hl
                replace hF := (F_X12_round_L82_3_s).symm.trans hF
                unfold F_X12_round_B82_3 at hF
                refine lv_iload_n hx hb dX12_round_82 rfl (lv_at hl 2 rfl) ?_
                refine lv_bipush (v := 9) hx hb dX12_round_83 (by decide) ?_
                refine lv_aload_n hx hb dX12_round_85 rfl (lv_at hl 0 rfl) ?_
                refine gs_X12_267_12 E hI ha dX12_round_86 ?_
                refine lv_topi (fun f_21 ef_21 => ?_)
                replace hF := q_letX hF ef_21
                have if_21 : f_21.toInt = (σ_19.1 a 27).toInt := congrArg Int32.toInt ef_21
                refine lv_imul hx hb dX12_round_89 ?_
                refine lv_topi (fun z_22 ez_22 => ?_)
                replace hF := q_letX hF ez_22
                have iz_22 := q_mulI (A := 9) (B := f_21.toInt) ez_22 (by decide) rfl (by first | (clear mv9_σ_1 mv12_σ_1 mv14_σ_1 mv15_σ_1 mv16_σ_1 mv8_σ_1 mv27_σ_1 mv9_σ_2 mv12_σ_2 mv14_σ_2 mv15_σ_2 mv16_σ_2 mv8_σ_2 mv27_σ_2 mv9_σ_12 mv12_σ_12 mv14_σ_12 mv15_σ_12 mv16_σ_12 mv8_σ_12 mv27_σ_12; omega) | omega) (by first | (clear mv9_σ_1 mv12_σ_1 mv14_σ_1 mv15_σ_1 mv16_σ_1 mv8_σ_1 mv27_σ_1 mv9_σ_2 mv12_σ_2 mv14_σ_2 mv15_σ_2 mv16_σ_2 mv8_σ_2 mv27_σ_2 mv9_σ_12 mv12_σ_12 mv14_σ_12 mv15_σ_12 mv16_σ_12 mv8_σ_12 mv27_σ_12; omega) | omega)
                have gc_23_x_18 := q_rng x_18
                have gc_23_z_22 := q_rng z_22
                refine q_icmp_ge (A := x_18.toInt) (B := z_22.toInt) E rfl rfl (tgt := 119) dX12_round_90 (by decide) (fun c_23 => ?_) (fun c_23 => ?_)
                · skip
                  replace hF := q_ifn hF (Int.not_lt.mpr c_23)
                  unfold F_X12_round_E119_4 at hF
                  have rd := m_rd_done cpσ_19 e1 (by first | (clear mv9_σ_1 mv12_σ_1 mv14_σ_1 mv15_σ_1 mv16_σ_1 mv8_σ_1 mv27_σ_1 mv9_σ_2 mv12_σ_2 mv14_σ_2 mv15_σ_2 mv16_σ_2 mv8_σ_2 mv27_σ_2 mv9_σ_12 mv12_σ_12 mv14_σ_12 mv15_σ_12 mv16_σ_12 mv8_σ_12 mv27_σ_12; omega) | omega)
                  have kf : ∀ j, 0 ≤ j → j < 3720 → j < 654 ∨ 930 ≤ j → m_c X σ_19 a j = m_c X σ a j := fun j h0 h1 h2 => by rw [rd j h0, if_neg (by first | (clear mv9_σ_1 mv12_σ_1 mv14_σ_1 mv15_σ_1 mv16_σ_1 mv8_σ_1 mv27_σ_1 mv9_σ_2 mv12_σ_2 mv14_σ_2 mv15_σ_2 mv16_σ_2 mv8_σ_2 mv27_σ_2 mv9_σ_12 mv12_σ_12 mv14_σ_12 mv15_σ_12 mv16_σ_12 mv8_σ_12 mv27_σ_12; omega) | omega), if_neg (by first | (clear mv9_σ_1 mv12_σ_1 mv14_σ_1 mv15_σ_1 mv16_σ_1 mv8_σ_1 mv27_σ_1 mv9_σ_2 mv12_σ_2 mv14_σ_2 mv15_σ_2 mv16_σ_2 mv8_σ_2 mv27_σ_2 mv9_σ_12 mv12_σ_12 mv14_σ_12 mv15_σ_12 mv16_σ_12 mv8_σ_12 mv27_σ_12; omega) | omega)]; exact kA j h0 h1 (by first | (clear mv9_σ_1 mv12_σ_1 mv14_σ_1 mv15_σ_1 mv16_σ_1 mv8_σ_1 mv27_σ_1 mv9_σ_2 mv12_σ_2 mv14_σ_2 mv15_σ_2 mv16_σ_2 mv8_σ_2 mv27_σ_2 mv9_σ_12 mv12_σ_12 mv14_σ_12 mv15_σ_12 mv16_σ_12 mv8_σ_12 mv27_σ_12; omega) | omega)
                  refine lv_aload_n hx hb dX12_round_119 rfl (lv_at hl 0 rfl) ?_
                  refine gs_X12_267_12 E hI ha dX12_round_120 ?_
                  refine lv_topi (fun f_24 ef_24 => ?_)
                  replace hF := q_letX hF ef_24
                  have if_24 : f_24.toInt = (σ_19.1 a 27).toInt := congrArg Int32.toInt ef_24
                  rewrite [hQQ]; exact q_reti E hr hlk hI ⟨ks_σ_19, (m_G.round gA sA bN rd), (m_W.ext (fun j a b => kf j (by first | exact smσ_19 | omega) (by first | exact smσ_19 | omega) (by first | exact smσ_19 | omega)) hW), (fun j a b => kf j (by first | exact smσ_19 | omega) b (by first | exact smσ_19 | omega)), (by first | exact smσ_19 | omega), (by first | exact smσ_19 | omega), (hF.trans hout), fr_σ_19⟩ dX12_round_123
                · skip
                  replace hF := q_ifp hF c_23
                  refine lv_aload_n hx hb dX12_round_93 rfl (lv_at hl 0 rfl) ?_
                  refine gs_X12_35_12 E hI ha dX12_round_94 ?_
                  refine lv_sipush (v := 656) hx hb dX12_round_97 (by decide) ?_
                  refine lv_iload_n hx hb dX12_round_100 rfl (lv_at hl 2 rfl) ?_
                  refine lv_iadd hx hb dX12_round_101 ?_
                  refine lv_topi (fun z_25 ez_25 => ?_)
                  replace hF := q_letX hF ez_25
                  have iz_25 := q_addI (A := 656) (B := x_18.toInt) ez_25 (by decide) rfl (by first | (clear mv9_σ_1 mv12_σ_1 mv14_σ_1 mv15_σ_1 mv16_σ_1 mv8_σ_1 mv27_σ_1 mv9_σ_2 mv12_σ_2 mv14_σ_2 mv15_σ_2 mv16_σ_2 mv8_σ_2 mv27_σ_2 mv9_σ_12 mv12_σ_12 mv14_σ_12 mv15_σ_12 mv16_σ_12 mv8_σ_12 mv27_σ_12; omega) | omega) (by first | (clear mv9_σ_1 mv12_σ_1 mv14_σ_1 mv15_σ_1 mv16_σ_1 mv8_σ_1 mv27_σ_1 mv9_σ_2 mv12_σ_2 mv14_σ_2 mv15_σ_2 mv16_σ_2 mv8_σ_2 mv27_σ_2 mv9_σ_12 mv12_σ_12 mv14_σ_12 mv15_σ_12 mv16_σ_12 mv8_σ_12 mv27_σ_12; omega) | omega)
                  refine lv_aload_n hx hb dX12_round_102 rfl (lv_at hl 0 rfl) ?_
                  refine gs_X12_35_12 E hI ha dX12_round_103 ?_
                  refine lv_sipush (v := 4376) hx hb dX12_round_106 (by decide) ?_
                  refine lv_iload_n hx hb dX12_round_109 rfl (lv_at hl 2 rfl) ?_
                  refine lv_iadd hx hb dX12_round_110 ?_
                  refine lv_topi (fun z_26 ez_26 => ?_)
                  replace hF := q_letX hF ez_26
                  have iz_26 := q_addI (A := 4376) (B := x_18.toInt) ez_26 (by decide) rfl (by first | (clear mv9_σ_1 mv12_σ_1 mv14_σ_1 mv15_σ_1 mv16_σ_1 mv8_σ_1 mv27_σ_1 mv9_σ_2 mv12_σ_2 mv14_σ_2 mv15_σ_2 mv16_σ_2 mv8_σ_2 mv27_σ_2 mv9_σ_12 mv12_σ_12 mv14_σ_12 mv15_σ_12 mv16_σ_12 mv8_σ_12 mv27_σ_12; omega) | omega) (by first | (clear mv9_σ_1 mv12_σ_1 mv14_σ_1 mv15_σ_1 mv16_σ_1 mv8_σ_1 mv27_σ_1 mv9_σ_2 mv12_σ_2 mv14_σ_2 mv15_σ_2 mv16_σ_2 mv8_σ_2 mv27_σ_2 mv9_σ_12 mv12_σ_12 mv14_σ_12 mv15_σ_12 mv16_σ_12 mv8_σ_12 mv27_σ_12; omega) | omega)
                  refine q_iald E hI (q_tk (k' := 34) hI ha rfl (by decide)) ⟨by decide, rfl⟩ (by first | (clear mv9_σ_1 mv12_σ_1 mv14_σ_1 mv15_σ_1 mv16_σ_1 mv8_σ_1 mv27_σ_1 mv9_σ_2 mv12_σ_2 mv14_σ_2 mv15_σ_2 mv16_σ_2 mv8_σ_2 mv27_σ_2 mv9_σ_12 mv12_σ_12 mv14_σ_12 mv15_σ_12 mv16_σ_12 mv8_σ_12 mv27_σ_12; omega) | omega) (by rw [q_lnk (v := 4650) hI (q_tk (k' := 34) hI ha rfl (by decide)) rfl (by decide)]; omega) dX12_round_111 ?_
                  refine lv_topi (fun f_27 ef_27 => ?_)
                  replace hF := q_letX hF ef_27
                  have if_27 : f_27.toInt = m_c X σ_19 a (4376 + x_18.toInt) := m_rd ef_27 iz_26
                  refine q_iastN E hI (q_tk (k' := 34) hI ha rfl (by decide)) ⟨by decide, rfl⟩ (by first | (clear mv9_σ_1 mv12_σ_1 mv14_σ_1 mv15_σ_1 mv16_σ_1 mv8_σ_1 mv27_σ_1 mv9_σ_2 mv12_σ_2 mv14_σ_2 mv15_σ_2 mv16_σ_2 mv8_σ_2 mv27_σ_2 mv9_σ_12 mv12_σ_12 mv14_σ_12 mv15_σ_12 mv16_σ_12 mv8_σ_12 mv27_σ_12; omega) | omega) (by rw [q_lnk (v := 4650) hI (q_tk (k' := 34) hI ha rfl (by decide)) rfl (by decide)]; omega) (show 0 < 2 by decide) (q_inU rfl) dX12_round_112 (fun H locs σ_28 hσ_28 hI => ?_)
                  replace hF := q_letX hF hσ_28
                  have fr_σ_28 := fr_σ_19.si hσ_28 (q_tk (k' := 34) hI ha rfl (by decide)) rfl
                  have mv9_σ_28 : (σ_28.1 a 9).toInt = (σ_19.1 a 9).toInt := congrArg Int32.toInt (q_rdn hσ_28 (Or.inl (m_ne ha (q_tk (k' := 34) hI ha rfl (by decide)) (by decide))))
                  have mv12_σ_28 : (σ_28.1 a 12).toInt = (σ_19.1 a 12).toInt := congrArg Int32.toInt (q_rdn hσ_28 (Or.inl (m_ne ha (q_tk (k' := 34) hI ha rfl (by decide)) (by decide))))
                  have mv14_σ_28 : (σ_28.1 a 14).toInt = (σ_19.1 a 14).toInt := congrArg Int32.toInt (q_rdn hσ_28 (Or.inl (m_ne ha (q_tk (k' := 34) hI ha rfl (by decide)) (by decide))))
                  have mv15_σ_28 : (σ_28.1 a 15).toInt = (σ_19.1 a 15).toInt := congrArg Int32.toInt (q_rdn hσ_28 (Or.inl (m_ne ha (q_tk (k' := 34) hI ha rfl (by decide)) (by decide))))
                  have mv16_σ_28 : (σ_28.1 a 16).toInt = (σ_19.1 a 16).toInt := congrArg Int32.toInt (q_rdn hσ_28 (Or.inl (m_ne ha (q_tk (k' := 34) hI ha rfl (by decide)) (by decide))))
                  have mv8_σ_28 : (σ_28.1 a 8).toInt = (σ_19.1 a 8).toInt := congrArg Int32.toInt (q_rdn hσ_28 (Or.inl (m_ne ha (q_tk (k' := 34) hI ha rfl (by decide)) (by decide))))
                  have mv27_σ_28 : (σ_28.1 a 27).toInt = (σ_19.1 a 27).toInt := congrArg Int32.toInt (q_rdn hσ_28 (Or.inl (m_ne ha (q_tk (k' := 34) hI ha rfl (by decide)) (by decide))))
                  have ks_σ_28 : q_KS (fun b g => b = a ∧ 8 ≤ g ∧ g ≤ 18) 1 X σ σ_28 := ks_σ_19.si hσ_28 (q_tk (k' := 34) hI ha rfl (by decide)) (show 1 < 2 by decide)
                  have mcσ_28 := m_wr (v := f_27) (A := (656 + x_18.toInt)) hσ_28 iz_25 (by first | (clear mv9_σ_1 mv12_σ_1 mv14_σ_1 mv15_σ_1 mv16_σ_1 mv8_σ_1 mv27_σ_1 mv9_σ_2 mv12_σ_2 mv14_σ_2 mv15_σ_2 mv16_σ_2 mv8_σ_2 mv27_σ_2 mv9_σ_12 mv12_σ_12 mv14_σ_12 mv15_σ_12 mv16_σ_12 mv8_σ_12 mv27_σ_12; omega) | omega)
                  have smσ_28 : 0 ≤ (σ_28.1 a 15).toInt ∧ (σ_28.1 a 15).toInt ≤ (σ_28.1 a 16).toInt ∧ (σ_28.1 a 16).toInt ≤ (σ_28.1 a 9).toInt ∧ (σ_28.1 a 9).toInt ≤ 900 ∧ 0 ≤ (σ_28.1 a 14).toInt ∧ (σ_28.1 a 14).toInt ≤ 4 ∧ (σ_28.1 a 14).toInt ≤ 4 * ((σ_28.1 a 16).toInt - (σ_28.1 a 15).toInt) ∧ (σ_28.1 a 14).toInt ≤ 4 * ((σ_28.1 a 9).toInt - (σ_28.1 a 15).toInt) ∧ 0 ≤ (σ_28.1 a 12).toInt ∧ (σ_28.1 a 8).toInt = 0 := (by first | (rw [mv12_σ_28, mv14_σ_28, mv15_σ_28, mv16_σ_28, mv8_σ_28, mv9_σ_28]; exact smσ_19) | omega)
                  have cpσ_28 := m_cpy (D := 656) (B := 4376) (n := 270) cpσ_19 mcσ_28 if_27 (by first | (clear mv9_σ_1 mv12_σ_1 mv14_σ_1 mv15_σ_1 mv16_σ_1 mv8_σ_1 mv27_σ_1 mv9_σ_2 mv12_σ_2 mv14_σ_2 mv15_σ_2 mv16_σ_2 mv8_σ_2 mv27_σ_2 mv9_σ_12 mv12_σ_12 mv14_σ_12 mv15_σ_12 mv16_σ_12 mv8_σ_12 mv27_σ_12; omega) | omega) (by decide) (by decide)
                  obtain ⟨z_29, ez_29⟩ : ∃ y : Int32, y = x_18 + 1 := ⟨_, rfl⟩
                  replace hF := q_letX hF ez_29
                  refine lv_iinc (v := z_29) (lv' := [(2, .int z_29), (0, .ref a), (1, .int v1)]) hx hb dX12_round_113 hl (k := 2) rfl (by rw [ez_29]; rfl) (by decide) rfl (fun ls hl => ?_)
                  have iz_29 : z_29.toInt = x_18.toInt + 1 := q_inc ez_29 (by first | (clear mv9_σ_1 mv12_σ_1 mv14_σ_1 mv15_σ_1 mv16_σ_1 mv8_σ_1 mv27_σ_1 mv9_σ_2 mv12_σ_2 mv14_σ_2 mv15_σ_2 mv16_σ_2 mv8_σ_2 mv27_σ_2 mv9_σ_12 mv12_σ_12 mv14_σ_12 mv15_σ_12 mv16_σ_12 mv8_σ_12 mv27_σ_12; omega) | omega)
                  refine lv_goto (tgt := 82) hx hb dX12_round_116 (by decide) ?_
                  exact ih82 z_29 σ_28 _ _ ls (by first | (clear mv9_σ_1 mv12_σ_1 mv14_σ_1 mv15_σ_1 mv16_σ_1 mv8_σ_1 mv27_σ_1 mv9_σ_2 mv12_σ_2 mv14_σ_2 mv15_σ_2 mv16_σ_2 mv8_σ_2 mv27_σ_2 mv9_σ_12 mv12_σ_12 mv14_σ_12 mv15_σ_12 mv16_σ_12 mv8_σ_12 mv27_σ_12; omega) | omega) (by first | (clear mv9_σ_1 mv12_σ_1 mv14_σ_1 mv15_σ_1 mv16_σ_1 mv8_σ_1 mv27_σ_1 mv9_σ_2 mv12_σ_2 mv14_σ_2 mv15_σ_2 mv16_σ_2 mv8_σ_2 mv27_σ_2 mv9_σ_12 mv12_σ_12 mv14_σ_12 mv15_σ_12 mv16_σ_12 mv8_σ_12 mv27_σ_12; omega) | omega) (by first | (clear mv9_σ_1 mv12_σ_1 mv14_σ_1 mv15_σ_1 mv16_σ_1 mv8_σ_1 mv27_σ_1 mv9_σ_2 mv12_σ_2 mv14_σ_2 mv15_σ_2 mv16_σ_2 mv8_σ_2 mv27_σ_2 mv9_σ_12 mv12_σ_12 mv14_σ_12 mv15_σ_12 mv16_σ_12 mv8_σ_12 mv27_σ_12; omega) | omega) (by rw [iz_29]; exact cpσ_28) ks_σ_28 fr_σ_28 smσ_28 hF hI (lv_sub hl [1, 2, 0] rfl)
            have kc_30 : (0 : Int32).toInt = 0 := rfl
            exact L_82_20 ((2147483647 - (0 : Int32).toInt).toNat + 1) 0 σ_17 _ _ ls (Nat.lt_succ_self _) (by have q : (0 : Int32).toInt = 0 := rfl; omega) (by first | (clear mv9_σ_1 mv12_σ_1 mv14_σ_1 mv15_σ_1 mv16_σ_1 mv8_σ_1 mv27_σ_1 mv9_σ_2 mv12_σ_2 mv14_σ_2 mv15_σ_2 mv16_σ_2 mv8_σ_2 mv27_σ_2 mv9_σ_12 mv12_σ_12 mv14_σ_12 mv15_σ_12 mv16_σ_12 mv8_σ_12 mv27_σ_12; omega) | omega) (fun j hj => by rw [if_neg (by have q : (0 : Int32).toInt = 0 := rfl; omega), hB]) ks_σ_17 fr_σ_17 smσ_17 hF hI (lv_sub hl [1, 2, 0] rfl)
          · skip
            replace hF := q_ifp hF c_13
            refine lv_iconst (v := (-1)) hx hb dX12_round_57 (by decide) ?_
            have hrv : ((-1) : Int32).toInt = (-1) := rfl
            rewrite [hQQ]; exact q_reti E hr hlk hI ⟨ks_σ_12, (m_G.ext (fun j a b => kpσ_12 j a (by first | exact smσ_12 | omega)) hG), (m_W.ext (fun j a b => kpσ_12 j (by first | exact smσ_12 | omega) (by first | exact smσ_12 | omega)) hW), (fun j a b => kpσ_12 j (by first | exact smσ_12 | omega) b), (by first | exact smσ_12 | omega), (by first | exact smσ_12 | omega), (hF.trans hout), fr_σ_12⟩ dX12_round_58
        refine q_if_ne (A := f_10.toInt) E rfl (tgt := 50) dX12_round_32 (by decide) (fun c_31 => ?_) (fun c_31 => ?_)
        · skip
          replace hF := q_ifn hF c_31
          exact J_50_10 _ _ ls hF hI (lv_sub hl [0, 1] rfl)
        · skip
          replace hF := q_ifp hF c_31
          refine lv_aload_n hx hb dX12_round_35 rfl (lv_at hl 0 rfl) ?_
          refine gs_X12_110_12 E hI ha dX12_round_36 ?_
          refine lv_topi (fun f_32 ef_32 => ?_)
          replace hF := q_letX hF ef_32
          have if_32 : f_32.toInt = (σ_8.1 a 14).toInt := congrArg Int32.toInt ef_32
          refine q_if_eq (A := f_32.toInt) E rfl (tgt := 50) dX12_round_39 (by decide) (fun c_33 => ?_) (fun c_33 => ?_)
          · skip
            replace hF := q_ifp hF c_33
            exact J_50_10 _ _ ls hF hI (lv_sub hl [0, 1] rfl)
          · skip
            replace hF := q_ifn hF c_33
            refine lv_aload_n hx hb dX12_round_42 rfl (lv_at hl 0 rfl) ?_
            refine lv_iconst (v := 0) hx hb dX12_round_43 (by decide) ?_
            have kc_34 : (0 : Int32).toInt = 0 := rfl
            refine q_cv (q_runV (As := [.int 0]) (rest := []) E (hml.trans hl.1.symm) hI (c_X12_readStep_d3 l X σ_8 a (0 : Int32) ha (by first | exact sm_9 smσ_8 | exact hs | omega) (by first | (clear mv9_σ_1 mv12_σ_1 mv14_σ_1 mv15_σ_1 mv16_σ_1 mv8_σ_1 mv27_σ_1 mv9_σ_2 mv12_σ_2 mv14_σ_2 mv15_σ_2 mv16_σ_2 mv8_σ_2 mv27_σ_2; omega) | omega) (by rw [kpσ_8 2 (by decide) (by decide)]; exact hG.hd.2.1.2) (by first | (clear mv9_σ_1 mv12_σ_1 mv14_σ_1 mv15_σ_1 mv16_σ_1 mv8_σ_1 mv27_σ_1 mv9_σ_2 mv12_σ_2 mv14_σ_2 mv15_σ_2 mv16_σ_2 mv8_σ_2 mv27_σ_2; omega) | omega) (by decide)) kv_X12_273 ha ⟨rfl, by decide⟩ (show vwCl[11]? = some (RX12, TX12, 46) from rfl) rfl ⟨Nat.le_of_ble_eq_true rfl, Nat.le_of_ble_eq_true rfl⟩ ⟨Nat.le_refl _, Nat.le_refl _⟩ rfl (Nat.le_of_ble_eq_true rfl) dX12_round_44) hI (by decide) (fun σ_36 H locs hpσ_36 hkσ_36 hI => ?_)
            obtain ⟨ahpσ_36, bhpσ_36, chpσ_36, dhpσ_36, ehpσ_36, fhpσ_36, ghpσ_36⟩ := hpσ_36
            have fr_σ_36 := fr_σ_8.call ghpσ_36 rfl rfl
            replace hF := q_letX hF fhpσ_36
            have mv8_σ_36 : (σ_36.1 a 8).toInt = (σ_8.1 a 8).toInt := congrArg Int32.toInt (hkσ_36 a 8 (by rw [ha]; decide))
            have kpσ_36 : ∀ j, 0 ≤ j → j < 3720 → m_c X σ_36 a j = m_c X σ a j := (fun j h0 h1 => (ahpσ_36 j h0 (by first | (clear mv9_σ_1 mv12_σ_1 mv14_σ_1 mv15_σ_1 mv16_σ_1 mv8_σ_1 mv27_σ_1 mv9_σ_2 mv12_σ_2 mv14_σ_2 mv15_σ_2 mv16_σ_2 mv8_σ_2 mv27_σ_2; omega) | omega)).trans (kpσ_8 j h0 h1))
            have smσ_36 : 0 ≤ (σ_36.1 a 15).toInt ∧ (σ_36.1 a 15).toInt ≤ (σ_36.1 a 16).toInt ∧ (σ_36.1 a 16).toInt ≤ (σ_36.1 a 9).toInt ∧ (σ_36.1 a 9).toInt ≤ 900 ∧ 0 ≤ (σ_36.1 a 14).toInt ∧ (σ_36.1 a 14).toInt ≤ 4 ∧ (σ_36.1 a 14).toInt ≤ 4 * ((σ_36.1 a 16).toInt - (σ_36.1 a 15).toInt) ∧ (σ_36.1 a 14).toInt ≤ 4 * ((σ_36.1 a 9).toInt - (σ_36.1 a 15).toInt) ∧ 0 ≤ (σ_36.1 a 12).toInt ∧ (σ_36.1 a 8).toInt = 0 := (by first | (clear mv9_σ_1 mv12_σ_1 mv14_σ_1 mv15_σ_1 mv16_σ_1 mv8_σ_1 mv27_σ_1 mv9_σ_2 mv12_σ_2 mv14_σ_2 mv15_σ_2 mv16_σ_2 mv8_σ_2 mv27_σ_2; omega) | omega)
            have nrσ_36 : 0 ≤ (σ_36.1 a 27).toInt ∧ (σ_36.1 a 27).toInt ≤ 30 := (by first | (clear mv9_σ_1 mv12_σ_1 mv14_σ_1 mv15_σ_1 mv16_σ_1 mv8_σ_1 mv27_σ_1 mv9_σ_2 mv12_σ_2 mv14_σ_2 mv15_σ_2 mv16_σ_2 mv8_σ_2 mv27_σ_2; omega) | omega)
            have stσ_36 : m_oz (σ_36.1 a 12).toInt (m_rs (m_c X σ_36 a) (σ_36.1 a 27).toInt) := (fun e => m_rs.step (stσ_8 (by first | (clear mv9_σ_1 mv12_σ_1 mv14_σ_1 mv15_σ_1 mv16_σ_1 mv8_σ_1 mv27_σ_1 mv9_σ_2 mv12_σ_2 mv14_σ_2 mv15_σ_2 mv16_σ_2 mv8_σ_2 mv27_σ_2; omega) | omega)) ahpσ_36 (ehpσ_36 e) (by first | (clear mv9_σ_1 mv12_σ_1 mv14_σ_1 mv15_σ_1 mv16_σ_1 mv8_σ_1 mv27_σ_1 mv9_σ_2 mv12_σ_2 mv14_σ_2 mv15_σ_2 mv16_σ_2 mv8_σ_2 mv27_σ_2; omega) | omega))
            have ks_σ_36 : q_KS (fun b g => b = a ∧ 8 ≤ g ∧ g ≤ 18) 1 X σ σ_36 := ks_σ_8.K hkσ_36 (by decide)
            refine lv_goto (tgt := 28) hx hb dX12_round_47 (by decide) ?_
            exact ih28 σ_36 _ _ ls (by first | (clear mv9_σ_1 mv12_σ_1 mv14_σ_1 mv15_σ_1 mv16_σ_1 mv8_σ_1 mv27_σ_1 mv9_σ_2 mv12_σ_2 mv14_σ_2 mv15_σ_2 mv16_σ_2 mv8_σ_2 mv27_σ_2; omega) | omega) stσ_36 ks_σ_36 fr_σ_36 kpσ_36 smσ_36 nrσ_36 hF hI (lv_sub hl [0, 1] rfl)
    exact L_28_9 ((901 - (σ_7.1 a 15).toInt).toNat + (1 - (σ_7.1 a 12).toInt).toNat + 1) σ_7 _ _ ls (Nat.lt_succ_self _) (fun e s h0 h1 => by omega) ks_σ_7 fr_σ_7 kpσ_7 smσ_7 nrσ_7 hF hI (lv_sub hl [0, 1] rfl)
  · skip
    replace hF := q_ifp hF c_6
    replace sf := sf (by first | (clear mv9_σ_1 mv12_σ_1 mv14_σ_1 mv15_σ_1 mv16_σ_1 mv8_σ_1 mv27_σ_1; omega) | omega)
    clear so
    refine lv_iconst (v := (-1)) hx hb dX12_round_21 (by decide) ?_
    have hrv : ((-1) : Int32).toInt = (-1) := rfl
    rewrite [hQQ]; exact q_reti E hr hlk hI ⟨ks_σ_5, (m_G.ext (fun j a b => kpσ_5 j a (by first | exact smσ_5 | omega)) hG), (m_W.ext (fun j a b => kpσ_5 j (by first | exact smσ_5 | omega) (by first | exact smσ_5 | omega)) hW), (fun j a b => kpσ_5 j (by first | exact smσ_5 | omega) b), (by first | exact smσ_5 | omega), (by first | exact smσ_5 | omega), (hF.trans hout), fr_σ_5⟩ dX12_round_22
end
