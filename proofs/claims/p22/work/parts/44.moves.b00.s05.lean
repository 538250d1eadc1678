section
set_option maxRecDepth 100000 in
set_option maxHeartbeats 4000000 in
theorem c_X12_leave (l : Launch) (X : XW) (σ : ST) (a : Nat) (n : Int) (ha : q_kd X a = 12) (hG : m_G (m_c X σ a)) (hW : m_W (m_c X σ a) n) (hn : n ≤ 199000) : Met l yX12_leave (q_ws yX12_leave cX12_leave 1 (some .int)) (q_rm 3 66) (q_P X σ [.ref a]) (q_Qi X 1 σ (fun (r : Int32) (σ' : ST) => (m_G (m_c X σ' a)) ∧ (m_W (m_c X σ' a) (n + 301)) ∧ (∀ j, 930 ≤ j → j < 3720 → m_c X σ' a j = m_c X σ a j) ∧ (r, σ') = F_X12_leave X σ a ∧ q_ow [(12, 0), (12, 1), (34, 99)] [] X σ σ')) 0 0 (q_reg X) := by
  refine q_met 1 (by first | exact rfl | decide +kernel) rfl (Nat.le_of_ble_eq_true rfl) (fun p e s m below meth c E hml hr hlk hI ls hl => ?_)
  have hx := E.1
  have hb := E.2.1
  have hl : lv_has ls 1 [(0, .ref a)] := hl
  have gσ : m_G (m_c X σ a) := hG
  have wσ : m_W (m_c X σ a) n := hW
  have kqσ : ∀ j, 654 ≤ j → m_c X σ a j = m_c X σ a j := fun _ _ => rfl
  have fxσ : m_c X σ a = m_c X σ a := rfl
  have fr_σ : q_ow [(12, 0), (12, 1), (34, 99)] [] X σ σ := q_ow.rf
  have hh := hG.hd
  obtain ⟨out, hout⟩ : ∃ o, o = F_X12_leave X σ a := ⟨_, rfl⟩
  have hF := hout.symm
  unfold F_X12_leave at hF
  refine lv_aload_n hx hb dX12_leave_0 rfl (lv_at hl 0 rfl) ?_
  refine lv_iconst (v := 0) hx hb dX12_leave_1 zki_0 ?_
  refine ps_X12_59_12 E hI ha (by decide) dX12_leave_2 (fun H locs σ_1 hσ_1 hI => ?_)
  replace hF := q_letX hF hσ_1
  have fr_σ_1 := fr_σ.si hσ_1 ha rfl
  have mcσ_1 := m_wo hσ_1 (m_ne ha (q_tk (f := 20) (k' := 34) hI ha rfl (by decide)) (by decide))
  have gσ_1 : m_G (m_c X σ_1 a) := m_G.ext (fun j _ _ => mcσ_1 j) gσ
  have wσ_1 : m_W (m_c X σ_1 a) n := m_W.ext (fun j _ _ => mcσ_1 j) wσ
  have kqσ_1 : ∀ j, 654 ≤ j → m_c X σ_1 a j = m_c X σ a j := fun j h => (mcσ_1 j).trans (kqσ j h)
  have fxσ_1 : m_c X σ_1 a = m_c X σ a := (funext mcσ_1).trans fxσ
  refine lv_aload_n hx hb dX12_leave_5 rfl (lv_at hl 0 rfl) ?_
  refine lv_iconst (v := 0) hx hb dX12_leave_6 zki_0 ?_
  refine ps_X12_62_12 E hI ha (by decide) dX12_leave_7 (fun H locs σ_2 hσ_2 hI => ?_)
  replace hF := q_letX hF hσ_2
  have fr_σ_2 := fr_σ_1.si hσ_2 ha rfl
  have mcσ_2 := m_wo hσ_2 (m_ne ha (q_tk (f := 20) (k' := 34) hI ha rfl (by decide)) (by decide))
  have gσ_2 : m_G (m_c X σ_2 a) := m_G.ext (fun j _ _ => mcσ_2 j) gσ_1
  have wσ_2 : m_W (m_c X σ_2 a) n := m_W.ext (fun j _ _ => mcσ_2 j) wσ_1
  have kqσ_2 : ∀ j, 654 ≤ j → m_c X σ_2 a j = m_c X σ a j := fun j h => (mcσ_2 j).trans (kqσ_1 j h)
  have fxσ_2 : m_c X σ_2 a = m_c X σ a := (funext mcσ_2).trans fxσ_1
  refine lv_aload_n hx hb dX12_leave_10 rfl (lv_at hl 0 rfl) ?_
  refine gs_X12_35_12 E hI ha dX12_leave_11 ?_
  refine lv_bipush (v := 7) hx hb dX12_leave_14 zkb_7 ?_
  refine q_iald E hI (q_tk (k' := 34) hI ha rfl (Nat.succ_ne_zero _)) ⟨by decide, rfl⟩ (by decide) (by rw [q_lnk (v := 4650) hI (q_tk (k' := 34) hI ha rfl (Nat.succ_ne_zero _)) rfl (by decide)]; decide) dX12_leave_16 ?_
  refine lv_topi (fun f_3 ef_3 => ?_)
  replace hF := q_letX hF ef_3
  have if_3 : f_3.toInt = m_c X σ a 7 := (m_rd ef_3 (by decide)).trans (congrFun fxσ_2 _)
  refine q_if_ne (A := f_3.toInt) E rfl (tgt := 27) dX12_leave_17 (by decide) (fun c_4 => ?_) (fun c_4 => ?_)
  · skip
    replace hF := q_ifn hF c_4
    refine lv_aload_n hx hb dX12_leave_27 rfl (lv_at hl 0 rfl) ?_
    refine q_cv (q_rV11_0 (rest := []) E (hml.trans hl.1.symm) hI (c_X12_leaves l X σ_2 a n ha gσ_2 wσ_2 (by rw [fxσ_2]; omega)) kv_X12_322 ha ⟨Nat.le_of_ble_eq_true rfl, Nat.le_of_ble_eq_true rfl⟩ (Nat.le_of_ble_eq_true rfl) dX12_leave_28) hI (Nat.le_of_ble_eq_true rfl) (fun σ_6 H locs hpσ_6 hkσ_6 hI => ?_)
    have ahpσ_6 := hpσ_6.1
    have bhpσ_6 := hpσ_6.2.1
    have chpσ_6 := hpσ_6.2.2.1
    have dhpσ_6 := hpσ_6.2.2.2.1
    have ehpσ_6 := hpσ_6.2.2.2.2.1
    have fhpσ_6 := hpσ_6.2.2.2.2.2.1
    have ghpσ_6 := hpσ_6.2.2.2.2.2.2.1
    have hhpσ_6 := hpσ_6.2.2.2.2.2.2.2
    clear hpσ_6
    have fr_σ_6 := fr_σ_2.call hhpσ_6 rfl rfl
    replace hF := q_letX hF ghpσ_6
    have gσ_6 : m_G (m_c X σ_6 a) := ahpσ_6
    have wσ_6 : m_W (m_c X σ_6 a) n := bhpσ_6
    have kqσ_6 : ∀ j, 654 ≤ j → m_c X σ_6 a j = m_c X σ a j := (fun j h => (chpσ_6 j h).trans (kqσ_2 j h))
    refine lv_aload_n hx hb dX12_leave_31 rfl (lv_at hl 0 rfl) ?_
    refine gs_X12_35_12 E hI ha dX12_leave_32 ?_
    refine lv_bipush (v := 6) hx hb dX12_leave_35 zkb_6 ?_
    refine q_iald E hI (q_tk (k' := 34) hI ha rfl (Nat.succ_ne_zero _)) ⟨by decide, rfl⟩ (by decide) (by rw [q_lnk (v := 4650) hI (q_tk (k' := 34) hI ha rfl (Nat.succ_ne_zero _)) rfl (by decide)]; decide) dX12_leave_37 ?_
    refine lv_topi (fun f_7 ef_7 => ?_)
    replace hF := q_letX hF ef_7
    have if_7 : f_7.toInt = m_c X σ_6 a 6 := m_rd ef_7 (by decide)
    exact q_reti E hr hlk hI ⟨gσ_6, (by first | exact m_W.le vσ_6 (by omega) | exact m_W.le wσ_6 (by first | (clear hn gσ wσ hh gσ_1 wσ_1 gσ_2 wσ_2 if_3 c_4 ahpσ_6 bhpσ_6 chpσ_6 dhpσ_6 ehpσ_6 fhpσ_6 gσ_6 wσ_6 if_7; omega) | omega)), (fun j h0 h1 => kqσ_6 j (by first | (clear hn gσ wσ hh gσ_1 wσ_1 gσ_2 wσ_2 if_3 c_4 ahpσ_6 bhpσ_6 chpσ_6 dhpσ_6 ehpσ_6 fhpσ_6 gσ_6 wσ_6 if_7; omega) | omega)), (hF.trans hout), fr_σ_6⟩ dX12_leave_38
  · skip
    replace hF := q_ifp hF c_4
    refine lv_aload_n hx hb dX12_leave_20 rfl (lv_at hl 0 rfl) ?_
    refine lv_bipush (v := 8) hx hb dX12_leave_21 zkb_8 ?_
    have kc_8 : (8 : Int32).toInt = 8 := zt_8
    refine q_ci (q_rV11_1 (rest := []) E (hml.trans hl.1.symm) hI (c_X12_refuse l X σ_2 a (8 : Int32) ha) kv_X12_284 ha ⟨Nat.le_of_ble_eq_true rfl, Nat.le_of_ble_eq_true rfl⟩ (Nat.le_of_ble_eq_true rfl) dX12_leave_23) hI (Nat.le_of_ble_eq_true rfl) (fun r_9 σ_10 H locs hpσ_10 hkσ_10 hI => ?_)
    have ahpσ_10 := hpσ_10.1
    have bhpσ_10 := hpσ_10.2.1
    have chpσ_10 := hpσ_10.2.2
    clear hpσ_10
    have fr_σ_10 := fr_σ_2.call chpσ_10 rfl rfl
    replace hF := q_biX hF bhpσ_10
    have mcσ_10 := m_cK hkσ_10 hI.1 ha (by decide)
    have gσ_10 : m_G (m_c X σ_10 a) := m_G.ext (fun j _ _ => mcσ_10 j) gσ_2
    have wσ_10 : m_W (m_c X σ_10 a) n := m_W.ext (fun j _ _ => mcσ_10 j) wσ_2
    have kqσ_10 : ∀ j, 654 ≤ j → m_c X σ_10 a j = m_c X σ a j := fun j h => (mcσ_10 j).trans (kqσ_2 j h)
    have fxσ_10 : m_c X σ_10 a = m_c X σ a := (funext mcσ_10).trans fxσ_2
    exact q_reti E hr hlk hI ⟨gσ_10, (by first | exact m_W.le vσ_10 (by omega) | exact m_W.le wσ_10 (by omega)), (fun j h0 h1 => kqσ_10 j (by omega)), (hF.trans hout), fr_σ_10⟩ dX12_leave_26
end
