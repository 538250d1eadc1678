section
set_option maxRecDepth 100000 in
set_option maxHeartbeats 4000000 in
theorem c_X12_doubt (l : Launch) (X : XW) (σ : ST) (a : Nat) (v1 : Int32) (n : Int) (ha : q_kd X a = 12) (hG : m_G (m_c X σ a)) (hW : m_W (m_c X σ a) n) (hn : n ≤ 199000) : Met l yX12_doubt (q_ws yX12_doubt cX12_doubt 2 (some .int)) (q_rm 3 68) (q_P X σ [.ref a, .int v1]) (q_Qi X 1 σ (fun (r : Int32) (σ' : ST) => (m_G (m_c X σ' a)) ∧ (m_W (m_c X σ' a) (n + 301)) ∧ (∀ j, 930 ≤ j → j < 3720 → m_c X σ' a j = m_c X σ a j) ∧ (r, σ') = F_X12_doubt X σ a v1 ∧ q_ow [(12, 0), (12, 1), (34, 99)] [] X σ σ')) 0 0 (q_reg X) := by
  refine q_met 1 (by first | exact rfl | decide +kernel) rfl (Nat.le_of_ble_eq_true rfl) (fun p e s m below meth c E hml hr hlk hI ls hl => ?_)
  have hx := E.1
  have hb := E.2.1
  have hl : lv_has ls 2 [(0, .ref a), (1, .int v1)] := hl
  have gσ : m_G (m_c X σ a) := hG
  have wσ : m_W (m_c X σ a) n := hW
  have kqσ : ∀ j, 654 ≤ j → m_c X σ a j = m_c X σ a j := fun _ _ => rfl
  have fxσ : m_c X σ a = m_c X σ a := rfl
  have fr_σ : q_ow [(12, 0), (12, 1), (34, 99)] [] X σ σ := q_ow.rf
  have hh := hG.hd
  obtain ⟨out, hout⟩ : ∃ o, o = F_X12_doubt X σ a v1 := ⟨_, rfl⟩
  have hF := hout.symm
  unfold F_X12_doubt at hF
  refine lv_aload_n hx hb dX12_doubt_0 rfl (lv_at hl 0 rfl) ?_
  refine lv_iconst (v := 0) hx hb dX12_doubt_1 zki_0 ?_
  refine ps_X12_59_12 E hI ha (by decide) dX12_doubt_2 (fun H locs σ_1 hσ_1 hI => ?_)
  replace hF := q_letX hF hσ_1
  have fr_σ_1 := fr_σ.si hσ_1 ha rfl
  have mcσ_1 := m_wo hσ_1 (m_ne ha (q_tk (f := 20) (k' := 34) hI ha rfl (by decide)) (by decide))
  have gσ_1 : m_G (m_c X σ_1 a) := m_G.ext (fun j _ _ => mcσ_1 j) gσ
  have wσ_1 : m_W (m_c X σ_1 a) n := m_W.ext (fun j _ _ => mcσ_1 j) wσ
  have kqσ_1 : ∀ j, 654 ≤ j → m_c X σ_1 a j = m_c X σ a j := fun j h => (mcσ_1 j).trans (kqσ j h)
  have fxσ_1 : m_c X σ_1 a = m_c X σ a := (funext mcσ_1).trans fxσ
  refine lv_aload_n hx hb dX12_doubt_5 rfl (lv_at hl 0 rfl) ?_
  refine lv_iconst (v := 0) hx hb dX12_doubt_6 zki_0 ?_
  refine ps_X12_62_12 E hI ha (by decide) dX12_doubt_7 (fun H locs σ_2 hσ_2 hI => ?_)
  replace hF := q_letX hF hσ_2
  have fr_σ_2 := fr_σ_1.si hσ_2 ha rfl
  have mcσ_2 := m_wo hσ_2 (m_ne ha (q_tk (f := 20) (k' := 34) hI ha rfl (by decide)) (by decide))
  have gσ_2 : m_G (m_c X σ_2 a) := m_G.ext (fun j _ _ => mcσ_2 j) gσ_1
  have wσ_2 : m_W (m_c X σ_2 a) n := m_W.ext (fun j _ _ => mcσ_2 j) wσ_1
  have kqσ_2 : ∀ j, 654 ≤ j → m_c X σ_2 a j = m_c X σ a j := fun j h => (mcσ_2 j).trans (kqσ_1 j h)
  have fxσ_2 : m_c X σ_2 a = m_c X σ a := (funext mcσ_2).trans fxσ_1
  refine lv_aload_n hx hb dX12_doubt_10 rfl (lv_at hl 0 rfl) ?_
  refine lv_iload_n hx hb dX12_doubt_11 rfl (lv_at hl 1 rfl) ?_
  refine q_ci (q_rV11_1 (rest := []) E (hml.trans hl.1.symm) hI (c_X12_isPlayerAt l X σ_2 a v1 ha (by rw [fxσ_2]; exact hG)) kv_X12_290 ha ⟨Nat.le_of_ble_eq_true rfl, Nat.le_of_ble_eq_true rfl⟩ (Nat.le_of_ble_eq_true rfl) dX12_doubt_12) hI (Nat.le_of_ble_eq_true rfl) (fun r_3 σ_4 H locs hpσ_4 hkσ_4 hI => ?_)
  have ahpσ_4 := hpσ_4.1
  have bhpσ_4 := hpσ_4.2.1
  have chpσ_4 := hpσ_4.2.2.1
  have dhpσ_4 := hpσ_4.2.2.2
  clear hpσ_4
  replace hI := q_Irw ahpσ_4 hI
  rw [fxσ_2] at chpσ_4
  replace hF := q_letX hF dhpσ_4
  refine q_if_ne (A := r_3.toInt) E rfl (tgt := 24) dX12_doubt_15 (by decide) (fun c_5 => ?_) (fun c_5 => ?_)
  · skip
    replace hF := q_ifn hF c_5
    replace c_5 := q_ifOne bhpσ_4 c_5
    replace chpσ_4 := q_ifYes chpσ_4 c_5
    refine lv_aload_n hx hb dX12_doubt_24 rfl (lv_at hl 0 rfl) ?_
    refine gs_X12_35_12 E hI ha dX12_doubt_25 ?_
    refine lv_bipush (v := 7) hx hb dX12_doubt_28 zkb_7 ?_
    refine q_iald E hI (q_tk (k' := 34) hI ha rfl (Nat.succ_ne_zero _)) ⟨by decide, rfl⟩ (by decide) (by rw [q_lnk (v := 4650) hI (q_tk (k' := 34) hI ha rfl (Nat.succ_ne_zero _)) rfl (by decide)]; decide) dX12_doubt_30 ?_
    refine lv_topi (fun f_6 ef_6 => ?_)
    replace hF := q_letX hF ef_6
    have if_6 : f_6.toInt = m_c X σ a 7 := (m_rd ef_6 (by decide)).trans (congrFun fxσ_2 _)
    refine q_if_ne (A := f_6.toInt) E rfl (tgt := 41) dX12_doubt_31 (by decide) (fun c_7 => ?_) (fun c_7 => ?_)
    · skip
      replace hF := q_ifn hF c_7
      refine lv_aload_n hx hb dX12_doubt_41 rfl (lv_at hl 0 rfl) ?_
      refine gs_X12_35_12 E hI ha dX12_doubt_42 ?_
      refine lv_bipush (v := 6) hx hb dX12_doubt_45 zkb_6 ?_
      refine q_iald E hI (q_tk (k' := 34) hI ha rfl (Nat.succ_ne_zero _)) ⟨by decide, rfl⟩ (by decide) (by rw [q_lnk (v := 4650) hI (q_tk (k' := 34) hI ha rfl (Nat.succ_ne_zero _)) rfl (by decide)]; decide) dX12_doubt_47 ?_
      refine lv_topi (fun f_8 ef_8 => ?_)
      replace hF := q_letX hF ef_8
      have if_8 : f_8.toInt = m_c X σ a 6 := (m_rd ef_8 (by decide)).trans (congrFun fxσ_2 _)
      refine lv_iload_n hx hb dX12_doubt_48 rfl (lv_at hl 1 rfl) ?_
      refine q_icmp_ne (A := f_8.toInt) (B := v1.toInt) E rfl rfl (tgt := 60) dX12_doubt_49 (by decide) (fun c_9 => ?_) (fun c_9 => ?_)
      · skip
        replace hF := q_ifn hF c_9
        refine lv_aload_n hx hb dX12_doubt_60 rfl (lv_at hl 0 rfl) ?_
        refine lv_iload_n hx hb dX12_doubt_61 rfl (lv_at hl 1 rfl) ?_
        refine q_ci (q_rV11_1 (rest := []) E (hml.trans hl.1.symm) hI (c_X12_doubts l X σ_2 a v1 n ha gσ_2 wσ_2 (by first | (clear gσ wσ hh gσ_1 wσ_1 gσ_2 wσ_2 ahpσ_4 bhpσ_4 dhpσ_4 c_5 chpσ_4 if_6 c_7 if_8 c_9; omega) | omega) (by rw [fxσ_2]; omega) (by rw [fxσ_2]; omega) (by rw [fxσ_2]; omega)) kv_X12_328 ha ⟨Nat.le_of_ble_eq_true rfl, Nat.le_of_ble_eq_true rfl⟩ (Nat.le_of_ble_eq_true rfl) dX12_doubt_62) hI (Nat.le_of_ble_eq_true rfl) (fun r_10 σ_11 H locs hpσ_11 hkσ_11 hI => ?_)
        have ahpσ_11 := hpσ_11.1
        have bhpσ_11 := hpσ_11.2.1
        have chpσ_11 := hpσ_11.2.2.1
        have dhpσ_11 := hpσ_11.2.2.2.1
        have ehpσ_11 := hpσ_11.2.2.2.2.1
        have fhpσ_11 := hpσ_11.2.2.2.2.2
        clear hpσ_11
        have fr_σ_11 := fr_σ_2.call fhpσ_11 rfl rfl
        replace hF := q_biX hF ehpσ_11
        have gσ_11 : m_G (m_c X σ_11 a) := ahpσ_11
        have vσ_11 : m_W (m_c X σ_11 a) (n + 1) := bhpσ_11
        have kqσ_11 : ∀ j, 654 ≤ j → m_c X σ_11 a j = m_c X σ a j := (fun j h => (chpσ_11 j h).trans (kqσ_2 j h))
        exact q_reti E hr hlk hI ⟨gσ_11, (by first | exact m_W.le vσ_11 (by first | (clear hn gσ wσ hh gσ_1 wσ_1 gσ_2 wσ_2 ahpσ_4 bhpσ_4 dhpσ_4 c_5 chpσ_4 if_6 c_7 if_8 c_9 ahpσ_11 bhpσ_11 chpσ_11 dhpσ_11 ehpσ_11 fhpσ_11 gσ_11 vσ_11; omega) | omega) | exact m_W.le wσ_11 (by omega)), (fun j h0 h1 => kqσ_11 j (by first | (clear hn gσ wσ hh gσ_1 wσ_1 gσ_2 wσ_2 ahpσ_4 bhpσ_4 dhpσ_4 c_5 chpσ_4 if_6 c_7 if_8 c_9 ahpσ_11 bhpσ_11 chpσ_11 dhpσ_11 ehpσ_11 fhpσ_11 gσ_11 vσ_11; omega) | omega)), (hF.trans hout), fr_σ_11⟩ dX12_doubt_65
      · skip
        replace hF := q_ifp hF c_9
        refine lv_aload_n hx hb dX12_doubt_52 rfl (lv_at hl 0 rfl) ?_
        refine lv_iconst (v := 5) hx hb dX12_doubt_53 zki_5 ?_
        have kc_12 : (5 : Int32).toInt = 5 := zt_5
        refine q_ci (q_rV11_1 (rest := []) E (hml.trans hl.1.symm) hI (c_X12_refuse l X σ_2 a (5 : Int32) ha) kv_X12_284 ha ⟨Nat.le_of_ble_eq_true rfl, Nat.le_of_ble_eq_true rfl⟩ (Nat.le_of_ble_eq_true rfl) dX12_doubt_54) hI (Nat.le_of_ble_eq_true rfl) (fun r_13 σ_14 H locs hpσ_14 hkσ_14 hI => ?_)
        have ahpσ_14 := hpσ_14.1
        have bhpσ_14 := hpσ_14.2.1
        have chpσ_14 := hpσ_14.2.2
        clear hpσ_14
        have fr_σ_14 := fr_σ_2.call chpσ_14 rfl rfl
        replace hF := q_biX hF bhpσ_14
        have mcσ_14 := m_cK hkσ_14 hI.1 ha (by decide)
        have gσ_14 : m_G (m_c X σ_14 a) := m_G.ext (fun j _ _ => mcσ_14 j) gσ_2
        have wσ_14 : m_W (m_c X σ_14 a) n := m_W.ext (fun j _ _ => mcσ_14 j) wσ_2
        have kqσ_14 : ∀ j, 654 ≤ j → m_c X σ_14 a j = m_c X σ a j := fun j h => (mcσ_14 j).trans (kqσ_2 j h)
        have fxσ_14 : m_c X σ_14 a = m_c X σ a := (funext mcσ_14).trans fxσ_2
        refine lv_goto (tgt := 65) hx hb dX12_doubt_57 (by decide) ?_
        exact q_reti E hr hlk hI ⟨gσ_14, (by first | exact m_W.le vσ_14 (by omega) | exact m_W.le wσ_14 (by first | (clear hn gσ wσ hh gσ_1 wσ_1 gσ_2 wσ_2 ahpσ_4 bhpσ_4 dhpσ_4 c_5 chpσ_4 if_6 c_7 if_8 c_9 kc_12 ahpσ_14 bhpσ_14 chpσ_14 gσ_14 wσ_14; omega) | omega)), (fun j h0 h1 => kqσ_14 j (by first | (clear hn gσ wσ hh gσ_1 wσ_1 gσ_2 wσ_2 ahpσ_4 bhpσ_4 dhpσ_4 c_5 chpσ_4 if_6 c_7 if_8 c_9 kc_12 ahpσ_14 bhpσ_14 chpσ_14 gσ_14 wσ_14; omega) | omega)), (hF.trans hout), fr_σ_14⟩ dX12_doubt_65
    · skip
      replace hF := q_ifp hF c_7
      refine lv_aload_n hx hb dX12_doubt_34 rfl (lv_at hl 0 rfl) ?_
      refine lv_bipush (v := 8) hx hb dX12_doubt_35 zkb_8 ?_
      have kc_15 : (8 : Int32).toInt = 8 := zt_8
      refine q_ci (q_rV11_1 (rest := []) E (hml.trans hl.1.symm) hI (c_X12_refuse l X σ_2 a (8 : Int32) ha) kv_X12_284 ha ⟨Nat.le_of_ble_eq_true rfl, Nat.le_of_ble_eq_true rfl⟩ (Nat.le_of_ble_eq_true rfl) dX12_doubt_37) hI (Nat.le_of_ble_eq_true rfl) (fun r_16 σ_17 H locs hpσ_17 hkσ_17 hI => ?_)
      have ahpσ_17 := hpσ_17.1
      have bhpσ_17 := hpσ_17.2.1
      have chpσ_17 := hpσ_17.2.2
      clear hpσ_17
      have fr_σ_17 := fr_σ_2.call chpσ_17 rfl rfl
      replace hF := q_biX hF bhpσ_17
      have mcσ_17 := m_cK hkσ_17 hI.1 ha (by decide)
      have gσ_17 : m_G (m_c X σ_17 a) := m_G.ext (fun j _ _ => mcσ_17 j) gσ_2
      have wσ_17 : m_W (m_c X σ_17 a) n := m_W.ext (fun j _ _ => mcσ_17 j) wσ_2
      have kqσ_17 : ∀ j, 654 ≤ j → m_c X σ_17 a j = m_c X σ a j := fun j h => (mcσ_17 j).trans (kqσ_2 j h)
      have fxσ_17 : m_c X σ_17 a = m_c X σ a := (funext mcσ_17).trans fxσ_2
      exact q_reti E hr hlk hI ⟨gσ_17, (by first | exact m_W.le vσ_17 (by omega) | exact m_W.le wσ_17 (by first | (clear hn gσ wσ hh gσ_1 wσ_1 gσ_2 wσ_2 ahpσ_4 bhpσ_4 dhpσ_4 c_5 chpσ_4 if_6 c_7 kc_15 ahpσ_17 bhpσ_17 chpσ_17 gσ_17 wσ_17; omega) | omega)), (fun j h0 h1 => kqσ_17 j (by first | (clear hn gσ wσ hh gσ_1 wσ_1 gσ_2 wσ_2 ahpσ_4 bhpσ_4 dhpσ_4 c_5 chpσ_4 if_6 c_7 kc_15 ahpσ_17 bhpσ_17 chpσ_17 gσ_17 wσ_17; omega) | omega)), (hF.trans hout), fr_σ_17⟩ dX12_doubt_40
  · skip
    replace hF := q_ifp hF c_5
    replace chpσ_4 := q_ifNo chpσ_4 c_5
    refine lv_aload_n hx hb dX12_doubt_18 rfl (lv_at hl 0 rfl) ?_
    refine lv_iconst (v := 2) hx hb dX12_doubt_19 zki_2 ?_
    have kc_18 : (2 : Int32).toInt = 2 := zt_2
    refine q_ci (q_rV11_1 (rest := []) E (hml.trans hl.1.symm) hI (c_X12_refuse l X σ_2 a (2 : Int32) ha) kv_X12_284 ha ⟨Nat.le_of_ble_eq_true rfl, Nat.le_of_ble_eq_true rfl⟩ (Nat.le_of_ble_eq_true rfl) dX12_doubt_20) hI (Nat.le_of_ble_eq_true rfl) (fun r_19 σ_20 H locs hpσ_20 hkσ_20 hI => ?_)
    have ahpσ_20 := hpσ_20.1
    have bhpσ_20 := hpσ_20.2.1
    have chpσ_20 := hpσ_20.2.2
    clear hpσ_20
    have fr_σ_20 := fr_σ_2.call chpσ_20 rfl rfl
    replace hF := q_biX hF bhpσ_20
    have mcσ_20 := m_cK hkσ_20 hI.1 ha (by decide)
    have gσ_20 : m_G (m_c X σ_20 a) := m_G.ext (fun j _ _ => mcσ_20 j) gσ_2
    have wσ_20 : m_W (m_c X σ_20 a) n := m_W.ext (fun j _ _ => mcσ_20 j) wσ_2
    have kqσ_20 : ∀ j, 654 ≤ j → m_c X σ_20 a j = m_c X σ a j := fun j h => (mcσ_20 j).trans (kqσ_2 j h)
    have fxσ_20 : m_c X σ_20 a = m_c X σ a := (funext mcσ_20).trans fxσ_2
    exact q_reti E hr hlk hI ⟨gσ_20, (by first | exact m_W.le vσ_20 (by omega) | exact m_W.le wσ_20 (by omega)), (fun j h0 h1 => kqσ_20 j (by omega)), (hF.trans hout), fr_σ_20⟩ dX12_doubt_23
end
