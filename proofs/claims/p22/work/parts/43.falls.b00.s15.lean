section
set_option maxRecDepth 100000 in
set_option maxHeartbeats 4000000 in
theorem c_X12_quartet (l : Launch) (X : XW) (σ : ST) (a : Nat) (v1 : Int32) (ha : q_kd X a = 12) (hG : m_G (m_c X σ a)) : Met l yX12_quartet (q_ws yX12_quartet cX12_quartet 3 (some .int)) (q_rm 3 69) (q_P X σ [.ref a, .int v1]) (q_Qi X 8 σ (fun (r : Int32) (σ' : ST) => (r, σ') = F_X12_quartet X σ a v1 ∧ q_ow [(12, 0), (12, 1)] [] X σ σ')) 0 0 (q_reg X) := by
  refine q_met 8 (by first | exact rfl | decide +kernel) rfl (Nat.le_of_ble_eq_true rfl) (fun p e s m below meth c E hml hr hlk hI ls hl => ?_)
  have hx := E.1
  have hb := E.2.1
  have hl : lv_has ls 3 [(0, .ref a), (1, .int v1)] := hl
  have feσ : m_c X σ a = m_c X σ a := rfl
  have fr_σ : q_ow [(12, 0), (12, 1)] [] X σ σ := q_ow.rf
  have hh := hG.hd
  obtain ⟨out, hout⟩ : ∃ o, o = F_X12_quartet X σ a v1 := ⟨_, rfl⟩
  have hF := hout.symm
  unfold F_X12_quartet at hF
  refine lv_aload_n hx hb dX12_quartet_0 rfl (lv_at hl 0 rfl) ?_
  refine lv_iconst (v := 0) hx hb dX12_quartet_1 zki_0 ?_
  refine ps_X12_59_12 E hI ha (by decide) dX12_quartet_2 (fun H locs σ_1 hσ_1 hI => ?_)
  replace hF := q_letX hF hσ_1
  have fr_σ_1 := fr_σ.si hσ_1 ha rfl
  have mcσ_1 := m_wo hσ_1 (m_ne ha (q_tk (f := 20) (k' := 34) hI ha rfl (by decide)) (by decide))
  have feσ_1 : m_c X σ_1 a = m_c X σ a := (funext mcσ_1).trans feσ
  refine lv_aload_n hx hb dX12_quartet_5 rfl (lv_at hl 0 rfl) ?_
  refine lv_iconst (v := 0) hx hb dX12_quartet_6 zki_0 ?_
  refine ps_X12_62_12 E hI ha (by decide) dX12_quartet_7 (fun H locs σ_2 hσ_2 hI => ?_)
  replace hF := q_letX hF hσ_2
  have fr_σ_2 := fr_σ_1.si hσ_2 ha rfl
  have mcσ_2 := m_wo hσ_2 (m_ne ha (q_tk (f := 20) (k' := 34) hI ha rfl (by decide)) (by decide))
  have feσ_2 : m_c X σ_2 a = m_c X σ a := (funext mcσ_2).trans feσ_1
  refine lv_aload_n hx hb dX12_quartet_10 rfl (lv_at hl 0 rfl) ?_
  refine lv_iload_n hx hb dX12_quartet_11 rfl (lv_at hl 1 rfl) ?_
  refine q_ci (q_rV11_1 (rest := []) E (hml.trans hl.1.symm) hI (c_X12_isPlayerAt l X σ_2 a v1 ha (by rw [feσ_2]; exact hG)) kv_X12_290 ha ⟨Nat.le_of_ble_eq_true rfl, Nat.le_of_ble_eq_true rfl⟩ (Nat.le_of_ble_eq_true rfl) dX12_quartet_12) hI (Nat.le_of_ble_eq_true rfl) (fun r_3 σ_4 H locs hpσ_4 hkσ_4 hI => ?_)
  have ahpσ_4 := hpσ_4.1
  have bhpσ_4 := hpσ_4.2.1
  have chpσ_4 := hpσ_4.2.2.1
  have dhpσ_4 := hpσ_4.2.2.2
  clear hpσ_4
  replace hI := q_Irw ahpσ_4 hI
  rw [feσ_2] at chpσ_4
  replace hF := q_letX hF dhpσ_4
  refine q_if_ne (A := r_3.toInt) E rfl (tgt := 24) dX12_quartet_15 (by decide) (fun c_5 => ?_) (fun c_5 => ?_)
  · skip
    replace hF := q_ifn hF c_5
    replace c_5 := q_ifOne bhpσ_4 c_5
    replace chpσ_4 := q_ifYes chpσ_4 c_5
    refine lv_iconst (v := 0) hx hb dX12_quartet_24 zki_0 ?_
    refine lv_istore_n (lv' := [(2, .int 0), (0, .ref a), (1, .int v1)]) hx hb dX12_quartet_25 rfl hl (by decide) rfl (fun ls hl => ?_)
    have L_26_7 : ∀ (k_7 : Nat) (x_6 : Int32) (H : Heap) (locs : List Loc) (ls : Array Slot), (2147483647 - x_6.toInt).toNat < k_7 → (0 ≤ x_6.toInt) → (F_X12_quartet_L26_1 X σ_2 a v1 k_7 x_6 = out) → q_I X 8 σ s.heap locs σ_2 H → lv_has ls 3 [(0, .ref a), (1, .int v1), (2, .int x_6)] → W p l e (q_rm 3 69) s m ([.ref a, .int v1] : List Value).toArray below meth c H locs 0 0 (MQ below (q_Qi X 8 σ (fun (r : Int32) (σ' : ST) => (r, σ') = F_X12_quartet X σ a v1 ∧ q_ow [(12, 0), (12, 1)] [] X σ σ')) ([.ref a, .int v1] : List Value).toArray s 0 0 (q_reg X)) (F0 m 26 ls []) := by
      clear hF
      intro k_7
      induction k_7 with
      | zero =>
        intro x_6 H locs ls hms
        exact absurd hms (Nat.not_lt_zero _)
      | succ k_7 ih26 =>
        intro x_6 H locs ls hm26 hge26 hF hI hl
        replace hF := (F_X12_quartet_L26_1_s).symm.trans hF
        unfold F_X12_quartet_B26_1 at hF
        refine lv_iload_n hx hb dX12_quartet_26 rfl (lv_at hl 2 rfl) ?_
        refine lv_aload_n hx hb dX12_quartet_27 rfl (lv_at hl 0 rfl) ?_
        refine gs_X12_35_12 E hI ha dX12_quartet_28 ?_
        refine lv_iconst (v := 0) hx hb dX12_quartet_31 zki_0 ?_
        refine q_iald E hI (q_tk (k' := 34) hI ha rfl (Nat.succ_ne_zero _)) ⟨by decide, rfl⟩ (by decide) (by rw [q_lnk (v := 4650) hI (q_tk (k' := 34) hI ha rfl (Nat.succ_ne_zero _)) rfl (by decide)]; decide) dX12_quartet_32 ?_
        refine lv_topi (fun f_8 ef_8 => ?_)
        replace hF := q_letX hF ef_8
        have if_8 : f_8.toInt = m_c X σ a 0 := (m_rd ef_8 (by decide)).trans (congrFun feσ_2 _)
        have gc_9_x_6 := q_rng x_6
        have gc_9_f_8 := q_rng f_8
        refine q_icmp_ge (A := x_6.toInt) (B := f_8.toInt) E rfl rfl (tgt := 67) dX12_quartet_33 (by decide) (fun c_9 => ?_) (fun c_9 => ?_)
        · skip
          replace hF := q_ifn hF (Int.not_lt.mpr c_9)
          unfold F_X12_quartet_E67_2 at hF
          refine lv_aload_n hx hb dX12_quartet_67 rfl (lv_at hl 0 rfl) ?_
          refine lv_bipush (v := 8) hx hb dX12_quartet_68 zkb_8 ?_
          have kc_10 : (8 : Int32).toInt = 8 := zt_8
          refine q_ci (q_rV11_1 (rest := []) E (hml.trans hl.1.symm) hI (c_X12_refuse l X σ_2 a (8 : Int32) ha) kv_X12_284 ha ⟨Nat.le_of_ble_eq_true rfl, Nat.le_of_ble_eq_true rfl⟩ (Nat.le_of_ble_eq_true rfl) dX12_quartet_70) hI (Nat.le_of_ble_eq_true rfl) (fun r_11 σ_12 H locs hpσ_12 hkσ_12 hI => ?_)
          have ahpσ_12 := hpσ_12.1
          have bhpσ_12 := hpσ_12.2.1
          have chpσ_12 := hpσ_12.2.2
          clear hpσ_12
          have fr_σ_12 := fr_σ_2.call chpσ_12 rfl rfl
          replace hF := q_biX hF bhpσ_12
          have mcσ_12 := m_cK hkσ_12 hI.1 ha (by decide)
          have feσ_12 : m_c X σ_12 a = m_c X σ a := (funext mcσ_12).trans feσ_2
          exact q_reti E hr hlk hI ⟨(hF.trans hout), fr_σ_12⟩ dX12_quartet_73
        · skip
          replace hF := q_ifp hF c_9
          refine lv_aload_n hx hb dX12_quartet_36 rfl (lv_at hl 0 rfl) ?_
          refine lv_iload_n hx hb dX12_quartet_37 rfl (lv_at hl 1 rfl) ?_
          refine lv_iload_n hx hb dX12_quartet_38 rfl (lv_at hl 2 rfl) ?_
          refine q_ci (q_rV11_2 (rest := []) E (hml.trans hl.1.symm) hI (c_X12_handOf l X σ_2 a v1 x_6 ha (by omega) (by omega)) kv_X12_276 ha ⟨Nat.le_of_ble_eq_true rfl, Nat.le_of_ble_eq_true rfl⟩ (Nat.le_of_ble_eq_true rfl) dX12_quartet_39) hI (Nat.le_of_ble_eq_true rfl) (fun r_13 σ_14 H locs hpσ_14 hkσ_14 hI => ?_)
          have ahpσ_14 := hpσ_14.1
          have bhpσ_14 := hpσ_14.2.1
          have chpσ_14 := hpσ_14.2.2
          clear hpσ_14
          replace hI := q_Irw ahpσ_14 hI
          rw [feσ_2] at bhpσ_14
          replace hF := q_letX hF chpσ_14
          have ir_13 : r_13.toInt = (m_c X σ a (34 + 10 * v1.toInt + x_6.toInt)) := (by first | exact bhpσ_14 | (rw [bhpσ_14]) | (simp only [bhpσ_14]))
          refine q_if_le (A := r_13.toInt) E rfl (tgt := 61) dX12_quartet_42 (by decide) (fun c_15 => ?_) (fun c_15 => ?_)
          · skip
            replace hF := q_ifn hF (Int.not_lt.mpr c_15)
            obtain ⟨z_16, ez_16⟩ : ∃ y : Int32, y = x_6 + 1 := ⟨_, rfl⟩
            replace hF := q_letX hF ez_16
            refine lv_iinc (v := z_16) (lv' := [(2, .int z_16), (0, .ref a), (1, .int v1)]) hx hb dX12_quartet_61 hl (k := 2) rfl (by rw [ez_16]; rfl) (by decide) rfl (fun ls hl => ?_)
            have iz_16 : z_16.toInt = x_6.toInt + 1 := q_inc ez_16 (by omega)
            refine lv_goto (tgt := 26) hx hb dX12_quartet_64 (by decide) ?_
            exact ih26 z_16 _ _ ls (by omega) (by omega) hF hI (lv_sub hl [1, 2, 0] rfl)
          · skip
            replace hF := q_ifp hF c_15
            refine lv_aload_n hx hb dX12_quartet_45 rfl (lv_at hl 0 rfl) ?_
            refine lv_iload_n hx hb dX12_quartet_46 rfl (lv_at hl 1 rfl) ?_
            refine lv_iload_n hx hb dX12_quartet_47 rfl (lv_at hl 2 rfl) ?_
            refine q_ci (q_rV11_2 (rest := []) E (hml.trans hl.1.symm) hI (c_X12_handOf l X σ_2 a v1 x_6 ha (by first | (clear ahpσ_4 bhpσ_4 dhpσ_4 c_5 hm26 hge26 if_8 gc_9_x_6 gc_9_f_8 c_9 ahpσ_14 bhpσ_14 chpσ_14 ir_13 c_15; omega) | omega) (by first | (clear ahpσ_4 bhpσ_4 dhpσ_4 c_5 chpσ_4 hm26 gc_9_f_8 ahpσ_14 bhpσ_14 chpσ_14 ir_13 c_15; omega) | omega)) kv_X12_276 ha ⟨Nat.le_of_ble_eq_true rfl, Nat.le_of_ble_eq_true rfl⟩ (Nat.le_of_ble_eq_true rfl) dX12_quartet_48) hI (Nat.le_of_ble_eq_true rfl) (fun r_17 σ_18 H locs hpσ_18 hkσ_18 hI => ?_)
            have ahpσ_18 := hpσ_18.1
            have bhpσ_18 := hpσ_18.2.1
            have chpσ_18 := hpσ_18.2.2
            clear hpσ_18
            replace hI := q_Irw ahpσ_18 hI
            rw [feσ_2] at bhpσ_18
            replace hF := q_letX hF chpσ_18
            have ir_17 : r_17.toInt = (m_c X σ a (34 + 10 * v1.toInt + x_6.toInt)) := (by first | exact bhpσ_18 | (rw [bhpσ_18]) | (simp only [bhpσ_18]))
            refine lv_aload_n hx hb dX12_quartet_51 rfl (lv_at hl 0 rfl) ?_
            refine lv_iload_n hx hb dX12_quartet_52 rfl (lv_at hl 2 rfl) ?_
            refine q_ci (q_rV11_1 (rest := [.int r_17]) E (hml.trans hl.1.symm) hI (c_X12_inGameOf l X σ_2 a x_6 ha (by rw [feσ_2]; exact hG) (by first | (clear ahpσ_4 bhpσ_4 dhpσ_4 c_5 chpσ_4 hm26 gc_9_f_8 ahpσ_14 bhpσ_14 chpσ_14 ir_13 c_15 ahpσ_18 bhpσ_18 chpσ_18 ir_17; omega) | omega)) kv_X12_302 ha ⟨Nat.le_of_ble_eq_true rfl, Nat.le_of_ble_eq_true rfl⟩ (Nat.le_of_ble_eq_true rfl) dX12_quartet_53) hI (Nat.le_of_ble_eq_true rfl) (fun r_19 σ_20 H locs hpσ_20 hkσ_20 hI => ?_)
            have ahpσ_20 := hpσ_20.1
            have bhpσ_20 := hpσ_20.2.1
            have chpσ_20 := hpσ_20.2.2.1
            have dhpσ_20 := hpσ_20.2.2.2
            clear hpσ_20
            replace hI := q_Irw ahpσ_20 hI
            rw [feσ_2] at bhpσ_20
            replace hF := q_letX hF dhpσ_20
            have ir_19 : r_19.toInt = (m_I (m_c X σ a) x_6.toInt) := (by first | exact bhpσ_20 | (rw [bhpσ_20]) | (simp only [bhpσ_20]))
            have gc_21_r_17 := q_rng r_17
            have gc_21_r_19 := q_rng r_19
            refine q_icmp_ne (A := r_17.toInt) (B := r_19.toInt) E rfl rfl (tgt := 61) dX12_quartet_56 (by decide) (fun c_21 => ?_) (fun c_21 => ?_)
            · skip
              replace hF := q_ifn hF c_21
              obtain ⟨z_22, ez_22⟩ : ∃ y : Int32, y = x_6 + 1 := ⟨_, rfl⟩
              replace hF := q_letX hF ez_22
              refine lv_iinc (v := z_22) (lv' := [(2, .int z_22), (0, .ref a), (1, .int v1)]) hx hb dX12_quartet_61 hl (k := 2) rfl (by rw [ez_22]; rfl) (by decide) rfl (fun ls hl => ?_)
              have iz_22 : z_22.toInt = x_6.toInt + 1 := q_inc ez_22 (by first | (clear ahpσ_4 bhpσ_4 dhpσ_4 c_5 chpσ_4 hm26 gc_9_f_8 ahpσ_14 bhpσ_14 chpσ_14 ir_13 c_15 ahpσ_18 bhpσ_18 chpσ_18 ir_17 ahpσ_20 bhpσ_20 chpσ_20 dhpσ_20 ir_19 gc_21_r_17 gc_21_r_19 c_21; omega) | omega)
              refine lv_goto (tgt := 26) hx hb dX12_quartet_64 (by decide) ?_
              exact ih26 z_22 _ _ ls (by first | (clear ahpσ_4 bhpσ_4 dhpσ_4 c_5 chpσ_4 gc_9_f_8 ahpσ_14 bhpσ_14 chpσ_14 ir_13 c_15 ahpσ_18 bhpσ_18 chpσ_18 ir_17 ahpσ_20 bhpσ_20 chpσ_20 dhpσ_20 ir_19 gc_21_r_17 gc_21_r_19; omega) | omega) (by first | (clear hh ahpσ_4 bhpσ_4 dhpσ_4 c_5 chpσ_4 hm26 if_8 gc_9_f_8 c_9 ahpσ_14 bhpσ_14 chpσ_14 ir_13 c_15 ahpσ_18 bhpσ_18 chpσ_18 ir_17 ahpσ_20 bhpσ_20 chpσ_20 dhpσ_20 ir_19 gc_21_r_17 gc_21_r_19 c_21; omega) | omega) hF hI (lv_sub hl [1, 2, 0] rfl)
            · skip
              replace hF := q_ifp hF c_21
              skip
              refine lv_iload_n hx hb dX12_quartet_59 rfl (lv_at hl 2 rfl) ?_
              exact q_reti E hr hlk hI ⟨(hF.trans hout), fr_σ_2⟩ dX12_quartet_60
    have kc_23 : (0 : Int32).toInt = 0 := zt_0
    exact L_26_7 ((2147483647 - (0 : Int32).toInt).toNat + 1) 0 _ _ ls (Nat.lt_succ_self _) (by decide) hF hI (lv_sub hl [1, 2, 0] rfl)
  · skip
    replace hF := q_ifp hF c_5
    replace chpσ_4 := q_ifNo chpσ_4 c_5
    refine lv_aload_n hx hb dX12_quartet_18 rfl (lv_at hl 0 rfl) ?_
    refine lv_iconst (v := 2) hx hb dX12_quartet_19 zki_2 ?_
    have kc_24 : (2 : Int32).toInt = 2 := zt_2
    refine q_ci (q_rV11_1 (rest := []) E (hml.trans hl.1.symm) hI (c_X12_refuse l X σ_2 a (2 : Int32) ha) kv_X12_284 ha ⟨Nat.le_of_ble_eq_true rfl, Nat.le_of_ble_eq_true rfl⟩ (Nat.le_of_ble_eq_true rfl) dX12_quartet_20) hI (Nat.le_of_ble_eq_true rfl) (fun r_25 σ_26 H locs hpσ_26 hkσ_26 hI => ?_)
    have ahpσ_26 := hpσ_26.1
    have bhpσ_26 := hpσ_26.2.1
    have chpσ_26 := hpσ_26.2.2
    clear hpσ_26
    have fr_σ_26 := fr_σ_2.call chpσ_26 rfl rfl
    replace hF := q_biX hF bhpσ_26
    have mcσ_26 := m_cK hkσ_26 hI.1 ha (by decide)
    have feσ_26 : m_c X σ_26 a = m_c X σ a := (funext mcσ_26).trans feσ_2
    exact q_reti E hr hlk hI ⟨(hF.trans hout), fr_σ_26⟩ dX12_quartet_23
end
