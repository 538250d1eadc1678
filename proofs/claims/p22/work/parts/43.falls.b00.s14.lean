section
set_option maxRecDepth 100000 in
set_option maxHeartbeats 4000000 in
theorem c_X12_fullest (l : Launch) (X : XW) (σ : ST) (a : Nat) (ha : q_kd X a = 12) (hG : m_G (m_c X σ a)) : Met l yX12_fullest (q_ws yX12_fullest cX12_fullest 3 (some .int)) (q_rm 2 45) (q_P X σ [.ref a]) (q_Qi X 8 σ (fun (r : Int32) (σ' : ST) => (r, σ') = F_X12_fullest X σ a ∧ q_ow [(12, 0), (12, 1)] [] X σ σ')) 0 0 (q_reg X) := by
  refine q_met 8 (by first | exact rfl | decide +kernel) rfl (Nat.le_of_ble_eq_true rfl) (fun p e s m below meth c E hml hr hlk hI ls hl => ?_)
  have hx := E.1
  have hb := E.2.1
  have hl : lv_has ls 3 [(0, .ref a)] := hl
  have feσ : m_c X σ a = m_c X σ a := rfl
  have fr_σ : q_ow [(12, 0), (12, 1)] [] X σ σ := q_ow.rf
  have hh := hG.hd
  obtain ⟨out, hout⟩ : ∃ o, o = F_X12_fullest X σ a := ⟨_, rfl⟩
  have hF := hout.symm
  unfold F_X12_fullest at hF
  refine lv_aload_n hx hb dX12_fullest_0 rfl (lv_at hl 0 rfl) ?_
  refine lv_iconst (v := 0) hx hb dX12_fullest_1 zki_0 ?_
  refine ps_X12_59_12 E hI ha (by decide) dX12_fullest_2 (fun H locs σ_1 hσ_1 hI => ?_)
  replace hF := q_letX hF hσ_1
  have fr_σ_1 := fr_σ.si hσ_1 ha rfl
  have mcσ_1 := m_wo hσ_1 (m_ne ha (q_tk (f := 20) (k' := 34) hI ha rfl (by decide)) (by decide))
  have feσ_1 : m_c X σ_1 a = m_c X σ a := (funext mcσ_1).trans feσ
  refine lv_aload_n hx hb dX12_fullest_5 rfl (lv_at hl 0 rfl) ?_
  refine lv_iconst (v := 0) hx hb dX12_fullest_6 zki_0 ?_
  refine ps_X12_62_12 E hI ha (by decide) dX12_fullest_7 (fun H locs σ_2 hσ_2 hI => ?_)
  replace hF := q_letX hF hσ_2
  have fr_σ_2 := fr_σ_1.si hσ_2 ha rfl
  have mcσ_2 := m_wo hσ_2 (m_ne ha (q_tk (f := 20) (k' := 34) hI ha rfl (by decide)) (by decide))
  have feσ_2 : m_c X σ_2 a = m_c X σ a := (funext mcσ_2).trans feσ_1
  refine lv_iconst (v := (-1)) hx hb dX12_fullest_10 zki_m1 ?_
  refine lv_istore_n (lv' := [(1, .int (-1)), (0, .ref a)]) hx hb dX12_fullest_11 rfl hl (by decide) rfl (fun ls hl => ?_)
  refine lv_iconst (v := 0) hx hb dX12_fullest_12 zki_0 ?_
  refine lv_istore_n (lv' := [(2, .int 0), (1, .int (-1)), (0, .ref a)]) hx hb dX12_fullest_13 rfl hl (by decide) rfl (fun ls hl => ?_)
  have L_14_5 : ∀ (k_5 : Nat) (x_3 : Int32) (x_4 : Int32) (H : Heap) (locs : List Loc) (ls : Array Slot), (2147483647 - x_4.toInt).toNat < k_5 → (0 ≤ x_4.toInt ∧ -1 ≤ x_3.toInt ∧ x_3.toInt < m_c X σ a 2) → (F_X12_fullest_L14_1 X σ_2 a k_5 x_3 x_4 = out) → q_I X 8 σ s.heap locs σ_2 H → lv_has ls 3 [(0, .ref a), (1, .int x_3), (2, .int x_4)] → W p l e (q_rm 2 45) s m ([.ref a] : List Value).toArray below meth c H locs 0 0 (MQ below (q_Qi X 8 σ (fun (r : Int32) (σ' : ST) => (r, σ') = F_X12_fullest X σ a ∧ q_ow [(12, 0), (12, 1)] [] X σ σ')) ([.ref a] : List Value).toArray s 0 0 (q_reg X)) (F0 m 14 ls []) := by
    clear hF
    intro k_5
    induction k_5 with
    | zero =>
      intro x_3 x_4 H locs ls hms
      exact absurd hms (Nat.not_lt_zero _)
    | succ k_5 ih14 =>
      intro x_3 x_4 H locs ls hm14 hge14 hF hI hl
      replace hF := (F_X12_fullest_L14_1_s).symm.trans hF
      unfold F_X12_fullest_B14_1 at hF
      refine lv_iload_n hx hb dX12_fullest_14 rfl (lv_at hl 2 rfl) ?_
      refine lv_aload_n hx hb dX12_fullest_15 rfl (lv_at hl 0 rfl) ?_
      refine gs_X12_35_12 E hI ha dX12_fullest_16 ?_
      refine lv_iconst (v := 2) hx hb dX12_fullest_19 zki_2 ?_
      refine q_iald E hI (q_tk (k' := 34) hI ha rfl (Nat.succ_ne_zero _)) ⟨by decide, rfl⟩ (by decide) (by rw [q_lnk (v := 4650) hI (q_tk (k' := 34) hI ha rfl (Nat.succ_ne_zero _)) rfl (by decide)]; decide) dX12_fullest_20 ?_
      refine lv_topi (fun f_6 ef_6 => ?_)
      replace hF := q_letX hF ef_6
      have if_6 : f_6.toInt = m_c X σ a 2 := (m_rd ef_6 (by decide)).trans (congrFun feσ_2 _)
      have gc_7_x_4 := q_rng x_4
      have gc_7_f_6 := q_rng f_6
      refine q_icmp_ge (A := x_4.toInt) (B := f_6.toInt) E rfl rfl (tgt := 49) dX12_fullest_21 (by decide) (fun c_7 => ?_) (fun c_7 => ?_)
      · skip
        replace hF := q_ifn hF (Int.not_lt.mpr c_7)
        unfold F_X12_fullest_E49_2 at hF
        refine lv_iload_n hx hb dX12_fullest_49 rfl (lv_at hl 1 rfl) ?_
        refine q_if_ge (A := x_3.toInt) E rfl (tgt := 62) dX12_fullest_50 (by decide) (fun c_8 => ?_) (fun c_8 => ?_)
        · skip
          replace hF := q_ifn hF (Int.not_lt.mpr c_8)
          refine lv_iload_n hx hb dX12_fullest_62 rfl (lv_at hl 1 rfl) ?_
          exact q_reti E hr hlk hI ⟨(hF.trans hout), fr_σ_2⟩ dX12_fullest_63
        · skip
          replace hF := q_ifp hF c_8
          refine lv_aload_n hx hb dX12_fullest_53 rfl (lv_at hl 0 rfl) ?_
          refine lv_bipush (v := 8) hx hb dX12_fullest_54 zkb_8 ?_
          have kc_9 : (8 : Int32).toInt = 8 := zt_8
          refine q_ci (q_rV11_1 (rest := []) E (hml.trans hl.1.symm) hI (c_X12_refuse l X σ_2 a (8 : Int32) ha) kv_X12_284 ha ⟨Nat.le_of_ble_eq_true rfl, Nat.le_of_ble_eq_true rfl⟩ (Nat.le_of_ble_eq_true rfl) dX12_fullest_56) hI (Nat.le_of_ble_eq_true rfl) (fun r_10 σ_11 H locs hpσ_11 hkσ_11 hI => ?_)
          have ahpσ_11 := hpσ_11.1
          have bhpσ_11 := hpσ_11.2.1
          have chpσ_11 := hpσ_11.2.2
          clear hpσ_11
          have fr_σ_11 := fr_σ_2.call chpσ_11 rfl rfl
          replace hF := q_biX hF bhpσ_11
          have mcσ_11 := m_cK hkσ_11 hI.1 ha (by decide)
          have feσ_11 : m_c X σ_11 a = m_c X σ a := (funext mcσ_11).trans feσ_2
          refine lv_goto (tgt := 63) hx hb dX12_fullest_59 (by decide) ?_
          exact q_reti E hr hlk hI ⟨(hF.trans hout), fr_σ_11⟩ dX12_fullest_63
      · skip
        replace hF := q_ifp hF c_7
        refine lv_iload_n hx hb dX12_fullest_24 rfl (lv_at hl 1 rfl) ?_
        refine q_if_lt (A := x_3.toInt) E rfl (tgt := 41) dX12_fullest_25 (by decide) (fun c_12 => ?_) (fun c_12 => ?_)
        · skip
          replace hF := q_ifp hF c_12
          refine lv_iload_n hx hb dX12_fullest_41 rfl (lv_at hl 2 rfl) ?_
          refine lv_istore_n (lv' := [(1, .int x_4), (0, .ref a), (2, .int x_4)]) hx hb dX12_fullest_42 rfl hl (by decide) rfl (fun ls hl => ?_)
          obtain ⟨z_13, ez_13⟩ : ∃ y : Int32, y = x_4 + 1 := ⟨_, rfl⟩
          replace hF := q_letX hF ez_13
          refine lv_iinc (v := z_13) (lv' := [(2, .int z_13), (1, .int x_4), (0, .ref a)]) hx hb dX12_fullest_43 hl (k := 2) rfl (by rw [ez_13]; rfl) (by decide) rfl (fun ls hl => ?_)
          have iz_13 : z_13.toInt = x_4.toInt + 1 := q_inc ez_13 (by first | (clear hm14 gc_7_f_6 c_12; omega) | omega)
          refine lv_goto (tgt := 14) hx hb dX12_fullest_46 (by decide) ?_
          exact ih14 x_4 z_13 _ _ ls (by first | (clear gc_7_f_6 c_12; omega) | omega) (by first | (clear hh hm14 gc_7_f_6 c_12; omega) | omega) hF hI (lv_sub hl [2, 1, 0] rfl)
        · skip
          replace hF := q_ifn hF (Int.not_lt.mpr c_12)
          refine lv_aload_n hx hb dX12_fullest_28 rfl (lv_at hl 0 rfl) ?_
          refine lv_iload_n hx hb dX12_fullest_29 rfl (lv_at hl 2 rfl) ?_
          refine q_ci (q_rV11_1 (rest := []) E (hml.trans hl.1.symm) hI (c_X12_cardsOf l X σ_2 a x_4 ha (by rw [feσ_2]; exact hG) (by first | (clear hm14 gc_7_f_6; omega) | omega)) kv_X12_293 ha ⟨Nat.le_of_ble_eq_true rfl, Nat.le_of_ble_eq_true rfl⟩ (Nat.le_of_ble_eq_true rfl) dX12_fullest_30) hI (Nat.le_of_ble_eq_true rfl) (fun r_14 σ_15 H locs hpσ_15 hkσ_15 hI => ?_)
          have ahpσ_15 := hpσ_15.1
          have bhpσ_15 := hpσ_15.2.1
          have chpσ_15 := hpσ_15.2.2.1
          have dhpσ_15 := hpσ_15.2.2.2
          clear hpσ_15
          replace hI := q_Irw ahpσ_15 hI
          rw [feσ_2] at bhpσ_15
          replace hF := q_letX hF dhpσ_15
          refine lv_aload_n hx hb dX12_fullest_33 rfl (lv_at hl 0 rfl) ?_
          refine lv_iload_n hx hb dX12_fullest_34 rfl (lv_at hl 1 rfl) ?_
          refine q_ci (q_rV11_1 (rest := [.int r_14]) E (hml.trans hl.1.symm) hI (c_X12_cardsOf l X σ_2 a x_3 ha (by rw [feσ_2]; exact hG) (by first | (clear hm14 gc_7_x_4 gc_7_f_6 c_7 ahpσ_15 bhpσ_15 chpσ_15 dhpσ_15; omega) | omega)) kv_X12_293 ha ⟨Nat.le_of_ble_eq_true rfl, Nat.le_of_ble_eq_true rfl⟩ (Nat.le_of_ble_eq_true rfl) dX12_fullest_35) hI (Nat.le_of_ble_eq_true rfl) (fun r_16 σ_17 H locs hpσ_17 hkσ_17 hI => ?_)
          have ahpσ_17 := hpσ_17.1
          have bhpσ_17 := hpσ_17.2.1
          have chpσ_17 := hpσ_17.2.2.1
          have dhpσ_17 := hpσ_17.2.2.2
          clear hpσ_17
          replace hI := q_Irw ahpσ_17 hI
          rw [feσ_2] at bhpσ_17
          replace hF := q_letX hF dhpσ_17
          have gc_18_r_14 := q_rng r_14
          have gc_18_r_16 := q_rng r_16
          refine q_icmp_le (A := r_14.toInt) (B := r_16.toInt) E rfl rfl (tgt := 43) dX12_fullest_38 (by decide) (fun c_18 => ?_) (fun c_18 => ?_)
          · skip
            replace hF := q_ifn hF (Int.not_lt.mpr c_18)
            obtain ⟨z_19, ez_19⟩ : ∃ y : Int32, y = x_4 + 1 := ⟨_, rfl⟩
            replace hF := q_letX hF ez_19
            refine lv_iinc (v := z_19) (lv' := [(2, .int z_19), (0, .ref a), (1, .int x_3)]) hx hb dX12_fullest_43 hl (k := 2) rfl (by rw [ez_19]; rfl) (by decide) rfl (fun ls hl => ?_)
            have iz_19 : z_19.toInt = x_4.toInt + 1 := q_inc ez_19 (by first | (clear hm14 gc_7_f_6 c_12 ahpσ_15 bhpσ_15 chpσ_15 dhpσ_15 ahpσ_17 bhpσ_17 chpσ_17 dhpσ_17 gc_18_r_14 gc_18_r_16 c_18; omega) | omega)
            refine lv_goto (tgt := 14) hx hb dX12_fullest_46 (by decide) ?_
            exact ih14 x_3 z_19 _ _ ls (by first | (clear gc_7_f_6 ahpσ_15 bhpσ_15 chpσ_15 dhpσ_15 ahpσ_17 bhpσ_17 chpσ_17 dhpσ_17 gc_18_r_14 gc_18_r_16 c_18; omega) | omega) (by first | (clear hh hm14 gc_7_f_6 c_7 ahpσ_15 bhpσ_15 chpσ_15 dhpσ_15 ahpσ_17 bhpσ_17 chpσ_17 dhpσ_17 gc_18_r_14 gc_18_r_16 c_18; omega) | omega) hF hI (lv_sub hl [1, 2, 0] rfl)
          · skip
            replace hF := q_ifp hF c_18
            refine lv_iload_n hx hb dX12_fullest_41 rfl (lv_at hl 2 rfl) ?_
            refine lv_istore_n (lv' := [(1, .int x_4), (0, .ref a), (2, .int x_4)]) hx hb dX12_fullest_42 rfl hl (by decide) rfl (fun ls hl => ?_)
            obtain ⟨z_20, ez_20⟩ : ∃ y : Int32, y = x_4 + 1 := ⟨_, rfl⟩
            replace hF := q_letX hF ez_20
            refine lv_iinc (v := z_20) (lv' := [(2, .int z_20), (1, .int x_4), (0, .ref a)]) hx hb dX12_fullest_43 hl (k := 2) rfl (by rw [ez_20]; rfl) (by decide) rfl (fun ls hl => ?_)
            have iz_20 : z_20.toInt = x_4.toInt + 1 := q_inc ez_20 (by first | (clear hm14 gc_7_f_6 c_12 ahpσ_15 bhpσ_15 chpσ_15 dhpσ_15 ahpσ_17 bhpσ_17 chpσ_17 dhpσ_17 gc_18_r_14 gc_18_r_16 c_18; omega) | omega)
            refine lv_goto (tgt := 14) hx hb dX12_fullest_46 (by decide) ?_
            exact ih14 x_4 z_20 _ _ ls (by first | (clear gc_7_f_6 ahpσ_15 bhpσ_15 chpσ_15 dhpσ_15 ahpσ_17 bhpσ_17 chpσ_17 dhpσ_17 gc_18_r_14 gc_18_r_16 c_18; omega) | omega) (by first | (clear hh hm14 gc_7_f_6 c_12 ahpσ_15 bhpσ_15 chpσ_15 dhpσ_15 ahpσ_17 bhpσ_17 chpσ_17 dhpσ_17 gc_18_r_14 gc_18_r_16 c_18; omega) | omega) hF hI (lv_sub hl [2, 1, 0] rfl)
  have kc_21 : ((-1) : Int32).toInt = (-1) := zt_m1
  have kc_22 : (0 : Int32).toInt = 0 := zt_0
  exact L_14_5 ((2147483647 - (0 : Int32).toInt).toNat + 1) (-1) 0 _ _ ls (Nat.lt_succ_self _) (by have q : (0 : Int32).toInt = 0 := rfl; have q1 : ((-1) : Int32).toInt = -1 := rfl; omega) hF hI (lv_sub hl [2, 1, 0] rfl)
end
