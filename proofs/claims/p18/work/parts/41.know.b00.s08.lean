section
set_option maxRecDepth 100000 in
set_option maxHeartbeats 4000000 in
theorem c_X12_whyNot (l : Launch) (X : XW) (σ : ST) (a : Nat) (v1 : Int32) (ha : q_kd X a = 12) (hG : m_G (m_c X σ a)) : Met l yX12_whyNot (q_ws yX12_whyNot cX12_whyNot 2 (some .int)) (q_rm 2 46) (q_P X σ [.ref a, .int v1]) (q_Qi X 9 σ (fun (r : Int32) (σ' : ST) => σ' = σ ∧ (0 ≤ r.toInt) ∧ (r.toInt = 0 → (0 ≤ v1.toInt ∧ v1.toInt < m_c X σ a 2 ∧ m_c X σ a 7 = 1 ∧ v1.toInt ≠ m_c X σ a 6)) ∧ r = F_X12_whyNot X σ a v1)) 0 0 (q_reg X) := by
  refine q_met 9 (by first | exact rfl | decide +kernel) rfl (Nat.le_of_ble_eq_true rfl) (fun p e s m below meth c E hml hr hlk hI ls hl => ?_)
  have hx := E.1
  have hb := E.2.1
  have hl : lv_has ls 2 [(0, .ref a), (1, .int v1)] := hl
  have hh := hG.hd
  obtain ⟨out, hout⟩ : ∃ o, o = F_X12_whyNot X σ a v1 := ⟨_, rfl⟩
  have hF := hout.symm
  unfold F_X12_whyNot at hF
  refine lv_aload_n hx hb dX12_whyNot_0 rfl (lv_at hl 0 rfl) ?_
  refine lv_iload_n hx hb dX12_whyNot_1 rfl (lv_at hl 1 rfl) ?_
  refine q_ci (q_rV11_1 (rest := []) E (hml.trans hl.1.symm) hI (c_X12_isPlayerAt l X σ a v1 ha hG) kv_X12_290 ha ⟨Nat.le_of_ble_eq_true rfl, Nat.le_of_ble_eq_true rfl⟩ (Nat.le_of_ble_eq_true rfl) dX12_whyNot_2) hI (Nat.le_of_ble_eq_true rfl) (fun r_1 σ_2 H locs hpσ_2 hkσ_2 hI => ?_)
  have ahpσ_2 := hpσ_2.1
  have bhpσ_2 := hpσ_2.2.1
  have chpσ_2 := hpσ_2.2.2.1
  have dhpσ_2 := hpσ_2.2.2.2
  clear hpσ_2
  replace hI := q_Irw ahpσ_2 hI
  replace hF := q_letX hF dhpσ_2
  refine q_if_ne (A := r_1.toInt) E rfl (tgt := 12) dX12_whyNot_5 (by decide) (fun c_3 => ?_) (fun c_3 => ?_)
  · skip
    replace hF := q_ifn hF c_3
    replace c_3 := q_ifOne bhpσ_2 c_3
    replace chpσ_2 := q_ifYes chpσ_2 c_3
    refine lv_aload_n hx hb dX12_whyNot_12 rfl (lv_at hl 0 rfl) ?_
    refine gs_X12_35_12 E hI ha dX12_whyNot_13 ?_
    refine lv_bipush (v := 7) hx hb dX12_whyNot_16 zkb_7 ?_
    refine q_iald E hI (q_tk (k' := 34) hI ha rfl (Nat.succ_ne_zero _)) ⟨by decide, rfl⟩ (by decide) (by rw [q_lnk (v := 4650) hI (q_tk (k' := 34) hI ha rfl (Nat.succ_ne_zero _)) rfl (by decide)]; decide) dX12_whyNot_18 ?_
    refine lv_topi (fun f_4 ef_4 => ?_)
    replace hF := q_letX hF ef_4
    have if_4 : f_4.toInt = m_c X σ a 7 := m_rd ef_4 (by decide)
    refine q_if_ne (A := f_4.toInt) E rfl (tgt := 27) dX12_whyNot_19 (by decide) (fun c_5 => ?_) (fun c_5 => ?_)
    · skip
      replace hF := q_ifn hF c_5
      refine lv_aload_n hx hb dX12_whyNot_27 rfl (lv_at hl 0 rfl) ?_
      refine gs_X12_35_12 E hI ha dX12_whyNot_28 ?_
      refine lv_bipush (v := 6) hx hb dX12_whyNot_31 zkb_6 ?_
      refine q_iald E hI (q_tk (k' := 34) hI ha rfl (Nat.succ_ne_zero _)) ⟨by decide, rfl⟩ (by decide) (by rw [q_lnk (v := 4650) hI (q_tk (k' := 34) hI ha rfl (Nat.succ_ne_zero _)) rfl (by decide)]; decide) dX12_whyNot_33 ?_
      refine lv_topi (fun f_6 ef_6 => ?_)
      replace hF := q_letX hF ef_6
      have if_6 : f_6.toInt = m_c X σ a 6 := m_rd ef_6 (by decide)
      refine lv_iload_n hx hb dX12_whyNot_34 rfl (lv_at hl 1 rfl) ?_
      refine q_icmp_ne (A := f_6.toInt) (B := v1.toInt) E rfl rfl (tgt := 42) dX12_whyNot_35 (by decide) (fun c_7 => ?_) (fun c_7 => ?_)
      · skip
        replace hF := q_ifn hF c_7
        refine lv_iconst (v := 0) hx hb dX12_whyNot_42 zki_0 ?_
        have hrv : (0 : Int32).toInt = 0 := zt_0
        exact q_reti E hr hlk hI ⟨rfl, (by first | (clear hh ahpσ_2 bhpσ_2 dhpσ_2 c_3 chpσ_2 if_4 c_5 if_6 c_7; omega) | omega), (by first | (clear ahpσ_2 bhpσ_2 dhpσ_2 c_3 hrv; omega) | omega), (hF.trans hout)⟩ dX12_whyNot_43
      · skip
        replace hF := q_ifp hF c_7
        refine lv_iconst (v := 5) hx hb dX12_whyNot_38 zki_5 ?_
        refine lv_goto (tgt := 43) hx hb dX12_whyNot_39 (by decide) ?_
        have hrv : (5 : Int32).toInt = 5 := zt_5
        exact q_reti E hr hlk hI ⟨rfl, (by first | (clear hh ahpσ_2 bhpσ_2 dhpσ_2 c_3 chpσ_2 if_4 c_5 if_6 c_7; omega) | omega), (by first | (clear hh ahpσ_2 bhpσ_2 dhpσ_2 c_3 chpσ_2 if_4 c_5 if_6 c_7; omega) | omega), (hF.trans hout)⟩ dX12_whyNot_43
    · skip
      replace hF := q_ifp hF c_5
      refine lv_bipush (v := 8) hx hb dX12_whyNot_22 zkb_8 ?_
      refine lv_goto (tgt := 43) hx hb dX12_whyNot_24 (by decide) ?_
      have hrv : (8 : Int32).toInt = 8 := zt_8
      exact q_reti E hr hlk hI ⟨rfl, (by first | (clear hh ahpσ_2 bhpσ_2 dhpσ_2 c_3 chpσ_2 if_4 c_5; omega) | omega), (by first | (clear hh ahpσ_2 bhpσ_2 dhpσ_2 c_3 chpσ_2 if_4 c_5; omega) | omega), (hF.trans hout)⟩ dX12_whyNot_43
  · skip
    replace hF := q_ifp hF c_3
    replace chpσ_2 := q_ifNo chpσ_2 c_3
    refine lv_iconst (v := 2) hx hb dX12_whyNot_8 zki_2 ?_
    refine lv_goto (tgt := 43) hx hb dX12_whyNot_9 (by decide) ?_
    have hrv : (2 : Int32).toInt = 2 := zt_2
    exact q_reti E hr hlk hI ⟨rfl, (by first | (clear hh ahpσ_2 bhpσ_2 dhpσ_2 c_3 chpσ_2; omega) | omega), (by first | (clear hh ahpσ_2 bhpσ_2 dhpσ_2 c_3 chpσ_2; omega) | omega), (hF.trans hout)⟩ dX12_whyNot_43
end
