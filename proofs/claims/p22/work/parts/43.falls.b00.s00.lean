section
set_option maxRecDepth 100000 in
set_option maxHeartbeats 4000000 in
theorem c_X12_waits (l : Launch) (X : XW) (σ : ST) (a : Nat) (v1 : Int32) (ha : q_kd X a = 12) (hG : m_G (m_c X σ a)) : Met l yX12_waits (q_ws yX12_waits cX12_waits 2 (some .int)) (q_rm 2 46) (q_P X σ [.ref a, .int v1]) (q_Qi X 8 σ (fun (r : Int32) (σ' : ST) => (r, σ') = F_X12_waits X σ a v1 ∧ q_ow [(12, 0), (12, 1)] [] X σ σ')) 0 0 (q_reg X) := by
  refine q_met 8 (by first | exact rfl | decide +kernel) rfl (Nat.le_of_ble_eq_true rfl) (fun p e s m below meth c E hml hr hlk hI ls hl => ?_)
  have hx := E.1
  have hb := E.2.1
  have hl : lv_has ls 2 [(0, .ref a), (1, .int v1)] := hl
  have feσ : m_c X σ a = m_c X σ a := rfl
  have fr_σ : q_ow [(12, 0), (12, 1)] [] X σ σ := q_ow.rf
  have hh := hG.hd
  obtain ⟨out, hout⟩ : ∃ o, o = F_X12_waits X σ a v1 := ⟨_, rfl⟩
  have hF := hout.symm
  unfold F_X12_waits at hF
  refine lv_aload_n hx hb dX12_waits_0 rfl (lv_at hl 0 rfl) ?_
  refine lv_iconst (v := 0) hx hb dX12_waits_1 zki_0 ?_
  refine ps_X12_59_12 E hI ha (by decide) dX12_waits_2 (fun H locs σ_1 hσ_1 hI => ?_)
  replace hF := q_letX hF hσ_1
  have fr_σ_1 := fr_σ.si hσ_1 ha rfl
  have mcσ_1 := m_wo hσ_1 (m_ne ha (q_tk (f := 20) (k' := 34) hI ha rfl (by decide)) (by decide))
  have feσ_1 : m_c X σ_1 a = m_c X σ a := (funext mcσ_1).trans feσ
  refine lv_aload_n hx hb dX12_waits_5 rfl (lv_at hl 0 rfl) ?_
  refine lv_iconst (v := 0) hx hb dX12_waits_6 zki_0 ?_
  refine ps_X12_62_12 E hI ha (by decide) dX12_waits_7 (fun H locs σ_2 hσ_2 hI => ?_)
  replace hF := q_letX hF hσ_2
  have fr_σ_2 := fr_σ_1.si hσ_2 ha rfl
  have mcσ_2 := m_wo hσ_2 (m_ne ha (q_tk (f := 20) (k' := 34) hI ha rfl (by decide)) (by decide))
  have feσ_2 : m_c X σ_2 a = m_c X σ a := (funext mcσ_2).trans feσ_1
  refine lv_aload_n hx hb dX12_waits_10 rfl (lv_at hl 0 rfl) ?_
  refine lv_iload_n hx hb dX12_waits_11 rfl (lv_at hl 1 rfl) ?_
  refine q_ci (q_rV11_1 (rest := []) E (hml.trans hl.1.symm) hI (c_X12_isPlayerAt l X σ_2 a v1 ha (by rw [feσ_2]; exact hG)) kv_X12_290 ha ⟨Nat.le_of_ble_eq_true rfl, Nat.le_of_ble_eq_true rfl⟩ (Nat.le_of_ble_eq_true rfl) dX12_waits_12) hI (Nat.le_of_ble_eq_true rfl) (fun r_3 σ_4 H locs hpσ_4 hkσ_4 hI => ?_)
  have ahpσ_4 := hpσ_4.1
  have bhpσ_4 := hpσ_4.2.1
  have chpσ_4 := hpσ_4.2.2.1
  have dhpσ_4 := hpσ_4.2.2.2
  clear hpσ_4
  replace hI := q_Irw ahpσ_4 hI
  rw [feσ_2] at chpσ_4
  replace hF := q_letX hF dhpσ_4
  refine q_if_eq (A := r_3.toInt) E rfl (tgt := 26) dX12_waits_15 (by decide) (fun c_5 => ?_) (fun c_5 => ?_)
  · skip
    replace hF := q_ifp hF c_5
    replace chpσ_4 := q_ifNo chpσ_4 c_5
    refine lv_aload_n hx hb dX12_waits_26 rfl (lv_at hl 0 rfl) ?_
    refine lv_iconst (v := 2) hx hb dX12_waits_27 zki_2 ?_
    have kc_6 : (2 : Int32).toInt = 2 := zt_2
    refine q_ci (q_rV11_1 (rest := []) E (hml.trans hl.1.symm) hI (c_X12_refuse l X σ_2 a (2 : Int32) ha) kv_X12_284 ha ⟨Nat.le_of_ble_eq_true rfl, Nat.le_of_ble_eq_true rfl⟩ (Nat.le_of_ble_eq_true rfl) dX12_waits_28) hI (Nat.le_of_ble_eq_true rfl) (fun r_7 σ_8 H locs hpσ_8 hkσ_8 hI => ?_)
    have ahpσ_8 := hpσ_8.1
    have bhpσ_8 := hpσ_8.2.1
    have chpσ_8 := hpσ_8.2.2
    clear hpσ_8
    have fr_σ_8 := fr_σ_2.call chpσ_8 rfl rfl
    replace hF := q_biX hF bhpσ_8
    have mcσ_8 := m_cK hkσ_8 hI.1 ha (by decide)
    have feσ_8 : m_c X σ_8 a = m_c X σ a := (funext mcσ_8).trans feσ_2
    exact q_reti E hr hlk hI ⟨(hF.trans hout), fr_σ_8⟩ dX12_waits_31
  · skip
    replace hF := q_ifn hF c_5
    replace c_5 := q_ifOne bhpσ_4 c_5
    replace chpσ_4 := q_ifYes chpσ_4 c_5
    refine lv_aload_n hx hb dX12_waits_18 rfl (lv_at hl 0 rfl) ?_
    refine lv_iload_n hx hb dX12_waits_19 rfl (lv_at hl 1 rfl) ?_
    refine q_ci (q_rV11_1 (rest := []) E (hml.trans hl.1.symm) hI (c_X12_waitsOf l X σ_2 a v1 ha (by rw [feσ_2]; exact hG) (by rw [feσ_2]; exact (by omega))) kv_X12_367 ha ⟨Nat.le_of_ble_eq_true rfl, Nat.le_of_ble_eq_true rfl⟩ (Nat.le_of_ble_eq_true rfl) dX12_waits_20) hI (Nat.le_of_ble_eq_true rfl) (fun r_9 σ_10 H locs hpσ_10 hkσ_10 hI => ?_)
    have ahpσ_10 := hpσ_10.1
    have bhpσ_10 := hpσ_10.2.1
    have chpσ_10 := hpσ_10.2.2
    clear hpσ_10
    replace hI := q_Irw ahpσ_10 hI
    rw [feσ_2] at bhpσ_10
    replace hF := q_letX hF chpσ_10
    refine lv_goto (tgt := 31) hx hb dX12_waits_23 (by decide) ?_
    exact q_reti E hr hlk hI ⟨(hF.trans hout), fr_σ_2⟩ dX12_waits_31
end
