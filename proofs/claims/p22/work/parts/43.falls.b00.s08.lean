section
set_option maxRecDepth 100000 in
set_option maxHeartbeats 4000000 in
theorem c_X12_soonest (l : Launch) (X : XW) (σ : ST) (a : Nat) (ha : q_kd X a = 12) (hG : m_G (m_c X σ a)) : Met l yX12_soonest (q_ws yX12_soonest cX12_soonest 5 (some .int)) (q_rm 5 115) (q_P X σ [.ref a]) (q_Qi X 8 σ (fun (r : Int32) (σ' : ST) => (r, σ') = F_X12_soonest X σ a ∧ q_ow [(12, 0), (12, 1), (12, 33), (12, 34), (12, 35), (38, 99)] [] X σ σ')) 0 0 (q_reg X) := by
  refine q_met 8 (by first | exact rfl | decide +kernel) rfl (Nat.le_of_ble_eq_true rfl) (fun p e s m below meth c E hml hr hlk hI ls hl => ?_)
  have hx := E.1
  have hb := E.2.1
  have hl : lv_has ls 5 [(0, .ref a)] := hl
  have feσ : m_c X σ a = m_c X σ a := rfl
  have fr_σ : q_ow [(12, 0), (12, 1), (12, 33), (12, 34), (12, 35), (38, 99)] [] X σ σ := q_ow.rf
  have hh := hG.hd
  obtain ⟨out, hout⟩ : ∃ o, o = F_X12_soonest X σ a := ⟨_, rfl⟩
  have hF := hout.symm
  unfold F_X12_soonest at hF
  refine lv_aload_n hx hb dX12_soonest_0 rfl (lv_at hl 0 rfl) ?_
  refine lv_iconst (v := 0) hx hb dX12_soonest_1 zki_0 ?_
  refine ps_X12_59_12 E hI ha (by decide) dX12_soonest_2 (fun H locs σ_1 hσ_1 hI => ?_)
  replace hF := q_letX hF hσ_1
  have fr_σ_1 := fr_σ.si hσ_1 ha rfl
  have mcσ_1 := m_wo hσ_1 (m_ne ha (q_tk (f := 20) (k' := 34) hI ha rfl (by decide)) (by decide))
  have feσ_1 : m_c X σ_1 a = m_c X σ a := (funext mcσ_1).trans feσ
  refine lv_aload_n hx hb dX12_soonest_5 rfl (lv_at hl 0 rfl) ?_
  refine lv_iconst (v := 0) hx hb dX12_soonest_6 zki_0 ?_
  refine ps_X12_62_12 E hI ha (by decide) dX12_soonest_7 (fun H locs σ_2 hσ_2 hI => ?_)
  replace hF := q_letX hF hσ_2
  have fr_σ_2 := fr_σ_1.si hσ_2 ha rfl
  have mcσ_2 := m_wo hσ_2 (m_ne ha (q_tk (f := 20) (k' := 34) hI ha rfl (by decide)) (by decide))
  have feσ_2 : m_c X σ_2 a = m_c X σ a := (funext mcσ_2).trans feσ_1
  refine lv_iconst (v := (-1)) hx hb dX12_soonest_10 zki_m1 ?_
  refine lv_istore_n (lv' := [(1, .int (-1)), (0, .ref a)]) hx hb dX12_soonest_11 rfl hl (by decide) rfl (fun ls hl => ?_)
  refine lv_bipush (v := 99) hx hb dX12_soonest_12 zkb_99 ?_
  refine lv_istore_n (lv' := [(2, .int 99), (1, .int (-1)), (0, .ref a)]) hx hb dX12_soonest_14 rfl hl (by decide) rfl (fun ls hl => ?_)
  refine lv_iconst (v := 0) hx hb dX12_soonest_15 zki_0 ?_
  refine lv_istore_n (lv' := [(3, .int 0), (2, .int 99), (1, .int (-1)), (0, .ref a)]) hx hb dX12_soonest_16 rfl hl (by decide) rfl (fun ls hl => ?_)
  have L_17_7 : ∀ (k_7 : Nat) (x_3 : Int32) (x_4 : Int32) (x_5 : Int32) (σ_6 : ST) (H : Heap) (locs : List Loc) (ls : Array Slot), (2147483647 - x_5.toInt).toNat < k_7 → (0 ≤ x_5.toInt) → (q_ow [(12, 0), (12, 1), (12, 33), (12, 34), (12, 35), (38, 99)] [] X σ σ_6) → (m_c X σ_6 a = m_c X σ a) → (F_X12_soonest_L17_1 X a k_7 x_3 x_4 x_5 σ_6 = out) → q_I X 8 σ s.heap locs σ_6 H → lv_has ls 5 [(0, .ref a), (1, .int x_3), (2, .int x_4), (3, .int x_5)] → W p l e (q_rm 5 115) s m ([.ref a] : List Value).toArray below meth c H locs 0 0 (MQ below (q_Qi X 8 σ (fun (r : Int32) (σ' : ST) => (r, σ') = F_X12_soonest X σ a ∧ q_ow [(12, 0), (12, 1), (12, 33), (12, 34), (12, 35), (38, 99)] [] X σ σ')) ([.ref a] : List Value).toArray s 0 0 (q_reg X)) (F0 m 17 ls []) := by
    clear hF
    intro k_7
    induction k_7 with
    | zero =>
      intro x_3 x_4 x_5 σ_6 H locs ls hms
      try clear feσ; try clear fr_σ; try clear fr_σ_1; try clear mcσ_1; try clear feσ_1; try clear fr_σ_2; try clear mcσ_2; try clear feσ_2
      exact absurd hms (Nat.not_lt_zero _)
    | succ k_7 ih17 =>
      intro x_3 x_4 x_5 σ_6 H locs ls hm17 hge17 fr_σ_6 feσ_6 hF hI hl
      replace hF := (F_X12_soonest_L17_1_s).symm.trans hF
      unfold F_X12_soonest_B17_1 at hF
      refine lv_iload_n hx hb dX12_soonest_17 rfl (lv_at hl 3 rfl) ?_
      refine lv_aload_n hx hb dX12_soonest_18 rfl (lv_at hl 0 rfl) ?_
      refine gs_X12_35_12 E hI ha dX12_soonest_19 ?_
      refine lv_iconst (v := 2) hx hb dX12_soonest_22 zki_2 ?_
      refine q_iald E hI (q_tk (k' := 34) hI ha rfl (Nat.succ_ne_zero _)) ⟨by decide, rfl⟩ (by decide) (by rw [q_lnk (v := 4650) hI (q_tk (k' := 34) hI ha rfl (Nat.succ_ne_zero _)) rfl (by decide)]; decide) dX12_soonest_23 ?_
      refine lv_topi (fun f_8 ef_8 => ?_)
      replace hF := q_letX hF ef_8
      have if_8 : f_8.toInt = m_c X σ a 2 := (m_rd ef_8 (by decide)).trans (congrFun feσ_6 _)
      have gc_9_x_5 := q_rng x_5
      have gc_9_f_8 := q_rng f_8
      refine q_icmp_ge (A := x_5.toInt) (B := f_8.toInt) E rfl rfl (tgt := 59) dX12_soonest_24 (by decide) (fun c_9 => ?_) (fun c_9 => ?_)
      · skip
        replace hF := q_ifn hF (Int.not_lt.mpr c_9)
        unfold F_X12_soonest_E59_2 at hF
        refine lv_iload_n hx hb dX12_soonest_59 rfl (lv_at hl 1 rfl) ?_
        refine q_if_ge (A := x_3.toInt) E rfl (tgt := 72) dX12_soonest_60 (by decide) (fun c_10 => ?_) (fun c_10 => ?_)
        · skip
          replace hF := q_ifn hF (Int.not_lt.mpr c_10)
          refine lv_iload_n hx hb dX12_soonest_72 rfl (lv_at hl 1 rfl) ?_
          exact q_reti E hr hlk hI ⟨(hF.trans hout), fr_σ_6⟩ dX12_soonest_73
        · skip
          replace hF := q_ifp hF c_10
          refine lv_aload_n hx hb dX12_soonest_63 rfl (lv_at hl 0 rfl) ?_
          refine lv_bipush (v := 8) hx hb dX12_soonest_64 zkb_8 ?_
          have kc_11 : (8 : Int32).toInt = 8 := zt_8
          refine q_ci (q_rV11_1 (rest := []) E (hml.trans hl.1.symm) hI (c_X12_refuse l X σ_6 a (8 : Int32) ha) kv_X12_284 ha ⟨Nat.le_of_ble_eq_true rfl, Nat.le_of_ble_eq_true rfl⟩ (Nat.le_of_ble_eq_true rfl) dX12_soonest_66) hI (Nat.le_of_ble_eq_true rfl) (fun r_12 σ_13 H locs hpσ_13 hkσ_13 hI => ?_)
          have ahpσ_13 := hpσ_13.1
          have bhpσ_13 := hpσ_13.2.1
          have chpσ_13 := hpσ_13.2.2
          clear hpσ_13
          have fr_σ_13 := fr_σ_6.call chpσ_13 rfl rfl
          replace hF := q_biX hF bhpσ_13
          have mcσ_13 := m_cK hkσ_13 hI.1 ha (by decide)
          have feσ_13 : m_c X σ_13 a = m_c X σ a := (funext mcσ_13).trans feσ_6
          refine lv_goto (tgt := 73) hx hb dX12_soonest_69 (by decide) ?_
          exact q_reti E hr hlk hI ⟨(hF.trans hout), fr_σ_13⟩ dX12_soonest_73
      · skip
        replace hF := q_ifp hF c_9
        refine lv_aload_n hx hb dX12_soonest_27 rfl (lv_at hl 0 rfl) ?_
        refine lv_iload_n hx hb dX12_soonest_28 rfl (lv_at hl 3 rfl) ?_
        refine q_ci (q_rV11_1 (rest := []) E (hml.trans hl.1.symm) hI (c_X12_ridOf l X σ_6 a x_5 ha (by rw [feσ_6]; exact hG) (by rw [feσ_6]; exact (by first | (clear hh hm17 gc_9_f_8; omega) | omega))) kv_X12_390 ha ⟨Nat.le_of_ble_eq_true rfl, Nat.le_of_ble_eq_true rfl⟩ (Nat.le_of_ble_eq_true rfl) dX12_soonest_29) hI (Nat.le_of_ble_eq_true rfl) (fun r_14 σ_15 H locs hpσ_15 hkσ_15 hI => ?_)
        have ahpσ_15 := hpσ_15.1
        have bhpσ_15 := hpσ_15.2.1
        have chpσ_15 := hpσ_15.2.2
        clear hpσ_15
        have fr_σ_15 := fr_σ_6.call chpσ_15 rfl rfl
        replace hF := q_biX hF bhpσ_15
        have mcσ_15 := m_cK hkσ_15 hI.1 ha (by decide)
        have feσ_15 : m_c X σ_15 a = m_c X σ a := (funext mcσ_15).trans feσ_6
        refine lv_istore (lv' := [(4, .int r_14), (0, .ref a), (1, .int x_3), (2, .int x_4), (3, .int x_5)]) hx hb dX12_soonest_32 hl (by decide) rfl (fun ls hl => ?_)
        refine lv_iload hx hb dX12_soonest_34 (lv_at hl 0 rfl) ?_
        refine q_if_lt (A := r_14.toInt) E rfl (tgt := 53) dX12_soonest_36 (by decide) (fun c_16 => ?_) (fun c_16 => ?_)
        · skip
          replace hF := q_ifp hF c_16
          obtain ⟨z_17, ez_17⟩ : ∃ y : Int32, y = x_5 + 1 := ⟨_, rfl⟩
          replace hF := q_letX hF ez_17
          refine lv_iinc (v := z_17) (lv' := [(3, .int z_17), (4, .int r_14), (0, .ref a), (1, .int x_3), (2, .int x_4)]) hx hb dX12_soonest_53 hl (k := 4) rfl (by rw [ez_17]; rfl) (by decide) rfl (fun ls hl => ?_)
          have iz_17 : z_17.toInt = x_5.toInt + 1 := q_inc ez_17 (by first | (clear hm17 gc_9_f_8 ahpσ_15 bhpσ_15 chpσ_15 c_16; omega) | omega)
          refine lv_goto (tgt := 17) hx hb dX12_soonest_56 (by decide) ?_
          exact ih17 x_3 x_4 z_17 σ_15 _ _ ls (by first | (clear gc_9_f_8 ahpσ_15 bhpσ_15 chpσ_15 c_16; omega) | omega) (by first | (clear hh hm17 if_8 gc_9_f_8 c_9 ahpσ_15 bhpσ_15 chpσ_15 c_16; omega) | omega) fr_σ_15 feσ_15 hF hI (lv_sub hl [2, 3, 4, 0] rfl)
        · skip
          replace hF := q_ifn hF (Int.not_lt.mpr c_16)
          refine lv_iload hx hb dX12_soonest_39 (lv_at hl 0 rfl) ?_
          refine lv_iload_n hx hb dX12_soonest_41 rfl (lv_at hl 3 rfl) ?_
          have gc_18_r_14 := q_rng r_14
          have gc_18_x_4 := q_rng x_4
          refine q_icmp_lt (A := r_14.toInt) (B := x_4.toInt) E rfl rfl (tgt := 48) dX12_soonest_42 (by decide) (fun c_18 => ?_) (fun c_18 => ?_)
          · skip
            replace hF := q_ifp hF c_18
            refine lv_iload_n hx hb dX12_soonest_48 rfl (lv_at hl 4 rfl) ?_
            refine lv_istore_n (lv' := [(1, .int x_5), (4, .int r_14), (0, .ref a), (2, .int x_4), (3, .int x_5)]) hx hb dX12_soonest_49 rfl hl (by decide) rfl (fun ls hl => ?_)
            refine lv_iload hx hb dX12_soonest_50 (lv_at hl 1 rfl) ?_
            refine lv_istore_n (lv' := [(2, .int r_14), (1, .int x_5), (4, .int r_14), (0, .ref a), (3, .int x_5)]) hx hb dX12_soonest_52 rfl hl (by decide) rfl (fun ls hl => ?_)
            obtain ⟨z_19, ez_19⟩ : ∃ y : Int32, y = x_5 + 1 := ⟨_, rfl⟩
            replace hF := q_letX hF ez_19
            refine lv_iinc (v := z_19) (lv' := [(3, .int z_19), (2, .int r_14), (1, .int x_5), (4, .int r_14), (0, .ref a)]) hx hb dX12_soonest_53 hl (k := 4) rfl (by rw [ez_19]; rfl) (by decide) rfl (fun ls hl => ?_)
            have iz_19 : z_19.toInt = x_5.toInt + 1 := q_inc ez_19 (by first | (clear hm17 gc_9_f_8 ahpσ_15 bhpσ_15 chpσ_15 c_16 gc_18_r_14 gc_18_x_4 c_18; omega) | omega)
            refine lv_goto (tgt := 17) hx hb dX12_soonest_56 (by decide) ?_
            exact ih17 x_5 r_14 z_19 σ_15 _ _ ls (by first | (clear gc_9_f_8 ahpσ_15 bhpσ_15 chpσ_15 c_16 gc_18_r_14 gc_18_x_4 c_18; omega) | omega) (by first | (clear hh hm17 if_8 gc_9_f_8 c_9 ahpσ_15 bhpσ_15 chpσ_15 c_16 gc_18_r_14 gc_18_x_4 c_18; omega) | omega) fr_σ_15 feσ_15 hF hI (lv_sub hl [4, 2, 1, 0] rfl)
          · skip
            replace hF := q_ifn hF (Int.not_lt.mpr c_18)
            refine lv_goto (tgt := 53) hx hb dX12_soonest_45 (by decide) ?_
            obtain ⟨z_20, ez_20⟩ : ∃ y : Int32, y = x_5 + 1 := ⟨_, rfl⟩
            replace hF := q_letX hF ez_20
            refine lv_iinc (v := z_20) (lv' := [(3, .int z_20), (4, .int r_14), (0, .ref a), (1, .int x_3), (2, .int x_4)]) hx hb dX12_soonest_53 hl (k := 4) rfl (by rw [ez_20]; rfl) (by decide) rfl (fun ls hl => ?_)
            have iz_20 : z_20.toInt = x_5.toInt + 1 := q_inc ez_20 (by first | (clear hm17 gc_9_f_8 ahpσ_15 bhpσ_15 chpσ_15 c_16 gc_18_r_14 gc_18_x_4 c_18; omega) | omega)
            refine lv_goto (tgt := 17) hx hb dX12_soonest_56 (by decide) ?_
            exact ih17 x_3 x_4 z_20 σ_15 _ _ ls (by first | (clear gc_9_f_8 ahpσ_15 bhpσ_15 chpσ_15 c_16 gc_18_r_14 gc_18_x_4 c_18; omega) | omega) (by first | (clear hh hm17 if_8 gc_9_f_8 c_9 ahpσ_15 bhpσ_15 chpσ_15 c_16 gc_18_r_14 gc_18_x_4 c_18; omega) | omega) fr_σ_15 feσ_15 hF hI (lv_sub hl [2, 3, 4, 0] rfl)
  have kc_21 : ((-1) : Int32).toInt = (-1) := zt_m1
  have kc_22 : (99 : Int32).toInt = 99 := zt_99
  have kc_23 : (0 : Int32).toInt = 0 := zt_0
  exact L_17_7 ((2147483647 - (0 : Int32).toInt).toNat + 1) (-1) 99 0 σ_2 _ _ ls (Nat.lt_succ_self _) (by decide) fr_σ_2 feσ_2 hF hI (lv_sub hl [3, 2, 1, 0] rfl)
end
