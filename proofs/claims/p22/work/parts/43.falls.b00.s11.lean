section
set_option maxRecDepth 100000 in
set_option maxHeartbeats 4000000 in
theorem c_X12_has (l : Launch) (X : XW) (σ : ST) (a : Nat) (v1 : Int32) (ha : q_kd X a = 12) (hG : m_G (m_c X σ a)) : Met l yX12_has (q_ws yX12_has cX12_has 4 (some .int)) (q_rm 2 46) (q_P X σ [.ref a, .int v1]) (q_Qi X 8 σ (fun (r : Int32) (σ' : ST) => (r, σ') = F_X12_has X σ a v1 ∧ q_ow [(12, 0), (12, 1)] [] X σ σ')) 0 0 (q_reg X) := by
  refine q_met 8 (by first | exact rfl | decide +kernel) rfl (Nat.le_of_ble_eq_true rfl) (fun p e s m below meth c E hml hr hlk hI ls hl => ?_)
  have hx := E.1
  have hb := E.2.1
  have hl : lv_has ls 4 [(0, .ref a), (1, .int v1)] := hl
  have feσ : m_c X σ a = m_c X σ a := rfl
  have fr_σ : q_ow [(12, 0), (12, 1)] [] X σ σ := q_ow.rf
  have hh := hG.hd
  obtain ⟨out, hout⟩ : ∃ o, o = F_X12_has X σ a v1 := ⟨_, rfl⟩
  have hF := hout.symm
  unfold F_X12_has at hF
  refine lv_aload_n hx hb dX12_has_0 rfl (lv_at hl 0 rfl) ?_
  refine lv_iconst (v := 0) hx hb dX12_has_1 zki_0 ?_
  refine ps_X12_59_12 E hI ha (by decide) dX12_has_2 (fun H locs σ_1 hσ_1 hI => ?_)
  replace hF := q_letX hF hσ_1
  have fr_σ_1 := fr_σ.si hσ_1 ha rfl
  have mcσ_1 := m_wo hσ_1 (m_ne ha (q_tk (f := 20) (k' := 34) hI ha rfl (by decide)) (by decide))
  have feσ_1 : m_c X σ_1 a = m_c X σ a := (funext mcσ_1).trans feσ
  refine lv_aload_n hx hb dX12_has_5 rfl (lv_at hl 0 rfl) ?_
  refine lv_iconst (v := 0) hx hb dX12_has_6 zki_0 ?_
  refine ps_X12_62_12 E hI ha (by decide) dX12_has_7 (fun H locs σ_2 hσ_2 hI => ?_)
  replace hF := q_letX hF hσ_2
  have fr_σ_2 := fr_σ_1.si hσ_2 ha rfl
  have mcσ_2 := m_wo hσ_2 (m_ne ha (q_tk (f := 20) (k' := 34) hI ha rfl (by decide)) (by decide))
  have feσ_2 : m_c X σ_2 a = m_c X σ a := (funext mcσ_2).trans feσ_1
  refine lv_aload_n hx hb dX12_has_10 rfl (lv_at hl 0 rfl) ?_
  refine lv_iload_n hx hb dX12_has_11 rfl (lv_at hl 1 rfl) ?_
  refine q_ci (q_rV11_1 (rest := []) E (hml.trans hl.1.symm) hI (c_X12_isPlayerAt l X σ_2 a v1 ha (by rw [feσ_2]; exact hG)) kv_X12_290 ha ⟨Nat.le_of_ble_eq_true rfl, Nat.le_of_ble_eq_true rfl⟩ (Nat.le_of_ble_eq_true rfl) dX12_has_12) hI (Nat.le_of_ble_eq_true rfl) (fun r_3 σ_4 H locs hpσ_4 hkσ_4 hI => ?_)
  have ahpσ_4 := hpσ_4.1
  have bhpσ_4 := hpσ_4.2.1
  have chpσ_4 := hpσ_4.2.2.1
  have dhpσ_4 := hpσ_4.2.2.2
  clear hpσ_4
  replace hI := q_Irw ahpσ_4 hI
  rw [feσ_2] at chpσ_4
  replace hF := q_letX hF dhpσ_4
  refine q_if_ne (A := r_3.toInt) E rfl (tgt := 24) dX12_has_15 (by decide) (fun c_5 => ?_) (fun c_5 => ?_)
  · skip
    replace hF := q_ifn hF c_5
    replace c_5 := q_ifOne bhpσ_4 c_5
    replace chpσ_4 := q_ifYes chpσ_4 c_5
    refine lv_iconst (v := 0) hx hb dX12_has_24 zki_0 ?_
    refine lv_istore_n (lv' := [(2, .int 0), (0, .ref a), (1, .int v1)]) hx hb dX12_has_25 rfl hl (by decide) rfl (fun ls hl => ?_)
    refine lv_iconst (v := 0) hx hb dX12_has_26 zki_0 ?_
    refine lv_istore_n (lv' := [(3, .int 0), (2, .int 0), (0, .ref a), (1, .int v1)]) hx hb dX12_has_27 rfl hl (by decide) rfl (fun ls hl => ?_)
    have L_28_8 : ∀ (k_8 : Nat) (x_6 : Int32) (x_7 : Int32) (H : Heap) (locs : List Loc) (ls : Array Slot), (2147483647 - x_7.toInt).toNat < k_8 → (0 ≤ x_7.toInt) → (F_X12_has_L28_1 X σ_2 a v1 k_8 x_6 x_7 = out) → q_I X 8 σ s.heap locs σ_2 H → lv_has ls 4 [(0, .ref a), (1, .int v1), (2, .int x_6), (3, .int x_7)] → W p l e (q_rm 2 46) s m ([.ref a, .int v1] : List Value).toArray below meth c H locs 0 0 (MQ below (q_Qi X 8 σ (fun (r : Int32) (σ' : ST) => (r, σ') = F_X12_has X σ a v1 ∧ q_ow [(12, 0), (12, 1)] [] X σ σ')) ([.ref a, .int v1] : List Value).toArray s 0 0 (q_reg X)) (F0 m 28 ls []) := by
      clear hF
      intro k_8
      induction k_8 with
      | zero =>
        intro x_6 x_7 H locs ls hms
        exact absurd hms (Nat.not_lt_zero _)
      | succ k_8 ih28 =>
        intro x_6 x_7 H locs ls hm28 hge28 hF hI hl
        replace hF := (F_X12_has_L28_1_s).symm.trans hF
        unfold F_X12_has_B28_1 at hF
        refine lv_iload_n hx hb dX12_has_28 rfl (lv_at hl 3 rfl) ?_
        refine lv_aload_n hx hb dX12_has_29 rfl (lv_at hl 0 rfl) ?_
        refine gs_X12_35_12 E hI ha dX12_has_30 ?_
        refine lv_iconst (v := 0) hx hb dX12_has_33 zki_0 ?_
        refine q_iald E hI (q_tk (k' := 34) hI ha rfl (Nat.succ_ne_zero _)) ⟨by decide, rfl⟩ (by decide) (by rw [q_lnk (v := 4650) hI (q_tk (k' := 34) hI ha rfl (Nat.succ_ne_zero _)) rfl (by decide)]; decide) dX12_has_34 ?_
        refine lv_topi (fun f_9 ef_9 => ?_)
        replace hF := q_letX hF ef_9
        have if_9 : f_9.toInt = m_c X σ a 0 := (m_rd ef_9 (by decide)).trans (congrFun feσ_2 _)
        have gc_10_x_7 := q_rng x_7
        have gc_10_f_9 := q_rng f_9
        refine q_icmp_ge (A := x_7.toInt) (B := f_9.toInt) E rfl rfl (tgt := 63) dX12_has_35 (by decide) (fun c_10 => ?_) (fun c_10 => ?_)
        · skip
          replace hF := q_ifn hF (Int.not_lt.mpr c_10)
          skip
          refine lv_iload_n hx hb dX12_has_63 rfl (lv_at hl 2 rfl) ?_
          exact q_reti E hr hlk hI ⟨(hF.trans hout), fr_σ_2⟩ dX12_has_64
        · skip
          replace hF := q_ifp hF c_10
          refine lv_iload_n hx hb dX12_has_38 rfl (lv_at hl 2 rfl) ?_
          refine lv_aload_n hx hb dX12_has_39 rfl (lv_at hl 0 rfl) ?_
          refine lv_iload_n hx hb dX12_has_40 rfl (lv_at hl 1 rfl) ?_
          refine lv_iload_n hx hb dX12_has_41 rfl (lv_at hl 3 rfl) ?_
          refine q_ci (q_rV11_2 (rest := [.int x_6]) E (hml.trans hl.1.symm) hI (c_X12_handOf l X σ_2 a v1 x_7 ha (by first | (clear ahpσ_4 bhpσ_4 dhpσ_4 c_5 hm28 hge28 if_9 gc_10_x_7 gc_10_f_9 c_10; omega) | omega) (by first | (clear ahpσ_4 bhpσ_4 dhpσ_4 c_5 chpσ_4 hm28 gc_10_f_9; omega) | omega)) kv_X12_276 ha ⟨Nat.le_of_ble_eq_true rfl, Nat.le_of_ble_eq_true rfl⟩ (Nat.le_of_ble_eq_true rfl) dX12_has_42) hI (Nat.le_of_ble_eq_true rfl) (fun r_11 σ_12 H locs hpσ_12 hkσ_12 hI => ?_)
          have ahpσ_12 := hpσ_12.1
          have bhpσ_12 := hpσ_12.2.1
          have chpσ_12 := hpσ_12.2.2
          clear hpσ_12
          replace hI := q_Irw ahpσ_12 hI
          rw [feσ_2] at bhpσ_12
          replace hF := q_letX hF chpσ_12
          have ir_11 : r_11.toInt = (m_c X σ a (34 + 10 * v1.toInt + x_7.toInt)) := (by first | exact bhpσ_12 | (rw [bhpσ_12]) | (simp only [bhpσ_12]))
          refine q_if_le (A := r_11.toInt) E rfl (tgt := 54) dX12_has_45 (by decide) (fun c_13 => ?_) (fun c_13 => ?_)
          · skip
            replace hF := q_ifn hF (Int.not_lt.mpr c_13)
            refine lv_iconst (v := 0) hx hb dX12_has_54 zki_0 ?_
            refine lv_ior hx hb dX12_has_55 ?_
            refine lv_topi (fun z_14 ez_14 => ?_)
            replace hF := q_letX hF ez_14
            refine lv_istore_n (lv' := [(2, .int z_14), (0, .ref a), (1, .int v1), (3, .int x_7)]) hx hb dX12_has_56 rfl hl (by decide) rfl (fun ls hl => ?_)
            obtain ⟨z_15, ez_15⟩ : ∃ y : Int32, y = x_7 + 1 := ⟨_, rfl⟩
            replace hF := q_letX hF ez_15
            refine lv_iinc (v := z_15) (lv' := [(3, .int z_15), (2, .int z_14), (0, .ref a), (1, .int v1)]) hx hb dX12_has_57 hl (k := 3) rfl (by rw [ez_15]; rfl) (by decide) rfl (fun ls hl => ?_)
            have iz_15 : z_15.toInt = x_7.toInt + 1 := q_inc ez_15 (by first | (clear ahpσ_4 bhpσ_4 dhpσ_4 c_5 chpσ_4 hm28 gc_10_f_9 ahpσ_12 bhpσ_12 chpσ_12 ir_11 c_13; omega) | omega)
            refine lv_goto (tgt := 28) hx hb dX12_has_60 (by decide) ?_
            exact ih28 z_14 z_15 _ _ ls (by first | (clear ahpσ_4 bhpσ_4 dhpσ_4 c_5 chpσ_4 gc_10_f_9 ahpσ_12 bhpσ_12 chpσ_12 ir_11 c_13; omega) | omega) (by first | (clear hh ahpσ_4 bhpσ_4 dhpσ_4 c_5 chpσ_4 hm28 if_9 gc_10_f_9 c_10 ahpσ_12 bhpσ_12 chpσ_12 ir_11 c_13; omega) | omega) hF hI (lv_sub hl [2, 3, 1, 0] rfl)
          · skip
            replace hF := q_ifp hF c_13
            refine lv_iconst (v := 1) hx hb dX12_has_48 zki_1 ?_
            refine lv_iload_n hx hb dX12_has_49 rfl (lv_at hl 3 rfl) ?_
            refine lv_ishl hx hb dX12_has_50 ?_
            refine lv_topi (fun z_16 ez_16 => ?_)
            replace hF := q_letX hF ez_16
            refine lv_goto (tgt := 55) hx hb dX12_has_51 (by decide) ?_
            refine lv_ior hx hb dX12_has_55 ?_
            refine lv_topi (fun z_17 ez_17 => ?_)
            replace hF := q_letX hF ez_17
            refine lv_istore_n (lv' := [(2, .int z_17), (0, .ref a), (1, .int v1), (3, .int x_7)]) hx hb dX12_has_56 rfl hl (by decide) rfl (fun ls hl => ?_)
            obtain ⟨z_18, ez_18⟩ : ∃ y : Int32, y = x_7 + 1 := ⟨_, rfl⟩
            replace hF := q_letX hF ez_18
            refine lv_iinc (v := z_18) (lv' := [(3, .int z_18), (2, .int z_17), (0, .ref a), (1, .int v1)]) hx hb dX12_has_57 hl (k := 3) rfl (by rw [ez_18]; rfl) (by decide) rfl (fun ls hl => ?_)
            have iz_18 : z_18.toInt = x_7.toInt + 1 := q_inc ez_18 (by first | (clear ahpσ_4 bhpσ_4 dhpσ_4 c_5 chpσ_4 hm28 gc_10_f_9 ahpσ_12 bhpσ_12 chpσ_12 ir_11 c_13; omega) | omega)
            refine lv_goto (tgt := 28) hx hb dX12_has_60 (by decide) ?_
            exact ih28 z_17 z_18 _ _ ls (by first | (clear ahpσ_4 bhpσ_4 dhpσ_4 c_5 chpσ_4 gc_10_f_9 ahpσ_12 bhpσ_12 chpσ_12 ir_11 c_13; omega) | omega) (by first | (clear hh ahpσ_4 bhpσ_4 dhpσ_4 c_5 chpσ_4 hm28 if_9 gc_10_f_9 c_10 ahpσ_12 bhpσ_12 chpσ_12 ir_11 c_13; omega) | omega) hF hI (lv_sub hl [2, 3, 1, 0] rfl)
    have kc_19 : (0 : Int32).toInt = 0 := zt_0
    exact L_28_8 ((2147483647 - (0 : Int32).toInt).toNat + 1) 0 0 _ _ ls (Nat.lt_succ_self _) (by decide) hF hI (lv_sub hl [2, 3, 1, 0] rfl)
  · skip
    replace hF := q_ifp hF c_5
    replace chpσ_4 := q_ifNo chpσ_4 c_5
    refine lv_aload_n hx hb dX12_has_18 rfl (lv_at hl 0 rfl) ?_
    refine lv_iconst (v := 2) hx hb dX12_has_19 zki_2 ?_
    have kc_20 : (2 : Int32).toInt = 2 := zt_2
    refine q_ci (q_rV11_1 (rest := []) E (hml.trans hl.1.symm) hI (c_X12_refuse l X σ_2 a (2 : Int32) ha) kv_X12_284 ha ⟨Nat.le_of_ble_eq_true rfl, Nat.le_of_ble_eq_true rfl⟩ (Nat.le_of_ble_eq_true rfl) dX12_has_20) hI (Nat.le_of_ble_eq_true rfl) (fun r_21 σ_22 H locs hpσ_22 hkσ_22 hI => ?_)
    have ahpσ_22 := hpσ_22.1
    have bhpσ_22 := hpσ_22.2.1
    have chpσ_22 := hpσ_22.2.2
    clear hpσ_22
    have fr_σ_22 := fr_σ_2.call chpσ_22 rfl rfl
    replace hF := q_biX hF bhpσ_22
    have mcσ_22 := m_cK hkσ_22 hI.1 ha (by decide)
    have feσ_22 : m_c X σ_22 a = m_c X σ a := (funext mcσ_22).trans feσ_2
    exact q_reti E hr hlk hI ⟨(hF.trans hout), fr_σ_22⟩ dX12_has_23
end
