section
set_option maxRecDepth 100000 in
set_option maxHeartbeats 4000000 in
theorem c_X12_otherKind (l : Launch) (X : XW) (σ : ST) (a : Nat) (v1 : Int32) (ha : q_kd X a = 12) (hG : m_G (m_c X σ a)) (h0 : 0 ≤ v1.toInt ∧ v1.toInt ≤ 5) : Met l yX12_otherKind (q_ws yX12_otherKind cX12_otherKind 4 (some .int)) (q_rm 1 22) (q_P X σ [.ref a, .int v1]) (q_Qi X 9 σ (fun (r : Int32) (σ' : ST) => σ' = σ ∧ (m_ok (m_c X σ a) v1.toInt r.toInt (m_c X σ a 0)) ∧ (-1 ≤ r.toInt ∧ r.toInt < m_c X σ a 0) ∧ r = F_X12_otherKind X σ a v1)) 0 0 (q_reg X) := by
  refine q_met 9 (by first | exact rfl | decide +kernel) rfl (Nat.le_of_ble_eq_true rfl) (fun p e s m below meth c E hml hr hlk hI ls hl => ?_)
  have hx := E.1
  have hb := E.2.1
  have hl : lv_has ls 4 [(0, .ref a), (1, .int v1)] := hl
  have hh := hG.hd
  obtain ⟨out, hout⟩ : ∃ o, o = F_X12_otherKind X σ a v1 := ⟨_, rfl⟩
  have hF := hout.symm
  unfold F_X12_otherKind at hF
  refine lv_iconst (v := (-1)) hx hb dX12_otherKind_0 zki_m1 ?_
  refine lv_istore_n (lv' := [(2, .int (-1)), (0, .ref a), (1, .int v1)]) hx hb dX12_otherKind_1 rfl hl (by decide) rfl (fun ls hl => ?_)
  refine lv_iconst (v := 0) hx hb dX12_otherKind_2 zki_0 ?_
  refine lv_istore_n (lv' := [(3, .int 0), (2, .int (-1)), (0, .ref a), (1, .int v1)]) hx hb dX12_otherKind_3 rfl hl (by decide) rfl (fun ls hl => ?_)
  have L_4_3 : ∀ (k_3 : Nat) (x_1 : Int32) (x_2 : Int32) (H : Heap) (locs : List Loc) (ls : Array Slot), (2147483647 - x_2.toInt).toNat < k_3 → (0 ≤ x_2.toInt ∧ x_2.toInt ≤ m_c X σ a 0 ∧ -1 ≤ x_1.toInt ∧ x_1.toInt < m_c X σ a 0) → (m_ok (m_c X σ a) v1.toInt x_1.toInt x_2.toInt) → (F_X12_otherKind_L4_1 X σ a v1 k_3 x_1 x_2 = out) → q_I X 9 σ s.heap locs σ H → lv_has ls 4 [(0, .ref a), (1, .int v1), (2, .int x_1), (3, .int x_2)] → W p l e (q_rm 1 22) s m ([.ref a, .int v1] : List Value).toArray below meth c H locs 0 0 (MQ below (q_Qi X 9 σ (fun (r : Int32) (σ' : ST) => σ' = σ ∧ (m_ok (m_c X σ a) v1.toInt r.toInt (m_c X σ a 0)) ∧ (-1 ≤ r.toInt ∧ r.toInt < m_c X σ a 0) ∧ r = F_X12_otherKind X σ a v1)) ([.ref a, .int v1] : List Value).toArray s 0 0 (q_reg X)) (F0 m 4 ls []) := by
    clear hF
    intro k_3
    induction k_3 with
    | zero =>
      intro x_1 x_2 H locs ls hms
      exact absurd hms (Nat.not_lt_zero _)
    | succ k_3 ih4 =>
      intro x_1 x_2 H locs ls hm4 hge4 ok4 hF hI hl
      replace hF := (F_X12_otherKind_L4_1_s).symm.trans hF
      unfold F_X12_otherKind_B4_1 at hF
      refine lv_iload_n hx hb dX12_otherKind_4 rfl (lv_at hl 3 rfl) ?_
      refine lv_aload_n hx hb dX12_otherKind_5 rfl (lv_at hl 0 rfl) ?_
      refine gs_X12_35_12 E hI ha dX12_otherKind_6 ?_
      refine lv_iconst (v := 0) hx hb dX12_otherKind_9 zki_0 ?_
      refine q_iald E hI (q_tk (k' := 34) hI ha rfl (Nat.succ_ne_zero _)) ⟨by decide, rfl⟩ (by decide) (by rw [q_lnk (v := 4650) hI (q_tk (k' := 34) hI ha rfl (Nat.succ_ne_zero _)) rfl (by decide)]; decide) dX12_otherKind_10 ?_
      refine lv_topi (fun f_4 ef_4 => ?_)
      replace hF := q_letX hF ef_4
      have if_4 : f_4.toInt = m_c X σ a 0 := m_rd ef_4 (by decide)
      have gc_5_x_2 := q_rng x_2
      have gc_5_f_4 := q_rng f_4
      refine q_icmp_ge (A := x_2.toInt) (B := f_4.toInt) E rfl rfl (tgt := 60) dX12_otherKind_11 (by decide) (fun c_5 => ?_) (fun c_5 => ?_)
      · skip
        replace hF := q_ifn hF (Int.not_lt.mpr c_5)
        skip
        refine lv_iload_n hx hb dX12_otherKind_60 rfl (lv_at hl 2 rfl) ?_
        exact q_reti E hr hlk hI ⟨rfl, (by have q : x_2.toInt = m_c X σ a 0 := (by first | (clear h0 hh hm4 gc_5_x_2 gc_5_f_4; omega) | omega); rw [q] at ok4; exact ok4), (by first | (clear h0 hh hm4 gc_5_x_2 gc_5_f_4 c_5; omega) | omega), (hF.trans hout)⟩ dX12_otherKind_61
      · skip
        replace hF := q_ifp hF c_5
        refine lv_iload_n hx hb dX12_otherKind_14 rfl (lv_at hl 3 rfl) ?_
        refine lv_aload_n hx hb dX12_otherKind_15 rfl (lv_at hl 0 rfl) ?_
        refine gs_X12_35_12 E hI ha dX12_otherKind_16 ?_
        refine lv_iconst (v := 5) hx hb dX12_otherKind_19 zki_5 ?_
        refine q_iald E hI (q_tk (k' := 34) hI ha rfl (Nat.succ_ne_zero _)) ⟨by decide, rfl⟩ (by decide) (by rw [q_lnk (v := 4650) hI (q_tk (k' := 34) hI ha rfl (Nat.succ_ne_zero _)) rfl (by decide)]; decide) dX12_otherKind_20 ?_
        refine lv_topi (fun f_6 ef_6 => ?_)
        replace hF := q_letX hF ef_6
        have if_6 : f_6.toInt = m_c X σ a 5 := m_rd ef_6 (by decide)
        have gc_7_x_2 := q_rng x_2
        have gc_7_f_6 := q_rng f_6
        refine q_icmp_eq (A := x_2.toInt) (B := f_6.toInt) E rfl rfl (tgt := 54) dX12_otherKind_21 (by decide) (fun c_7 => ?_) (fun c_7 => ?_)
        · skip
          replace hF := q_ifp hF c_7
          obtain ⟨z_8, ez_8⟩ : ∃ y : Int32, y = x_2 + 1 := ⟨_, rfl⟩
          replace hF := q_letX hF ez_8
          refine lv_iinc (v := z_8) (lv' := [(3, .int z_8), (0, .ref a), (1, .int v1), (2, .int x_1)]) hx hb dX12_otherKind_54 hl (k := 3) rfl (by rw [ez_8]; rfl) (by decide) rfl (fun ls hl => ?_)
          have iz_8 : z_8.toInt = x_2.toInt + 1 := q_inc ez_8 (by first | (clear h0 hm4 hge4 gc_5_x_2 gc_5_f_4 gc_7_x_2; omega) | omega)
          refine lv_goto (tgt := 4) hx hb dX12_otherKind_57 (by decide) ?_
          exact ih4 x_1 z_8 _ _ ls (by first | (clear h0 hge4 gc_5_x_2 gc_5_f_4 gc_7_x_2; omega) | omega) (by first | (clear h0 hm4 gc_5_x_2 gc_5_f_4 gc_7_x_2; omega) | omega) (by rw [iz_8]; first | exact ok4.skip (Or.inl (by first | (clear h0 hh hm4 hge4 if_4 gc_5_x_2 gc_5_f_4 c_5 gc_7_x_2 gc_7_f_6 iz_8; omega) | omega)) | exact ok4.skip (Or.inr (by omega)) | exact m_ok.set (by omega) (by omega) (by omega) | exact ok4.old (by omega)) hF hI (lv_sub hl [1, 2, 3, 0] rfl)
        · skip
          replace hF := q_ifn hF c_7
          refine lv_aload_n hx hb dX12_otherKind_24 rfl (lv_at hl 0 rfl) ?_
          refine lv_iload_n hx hb dX12_otherKind_25 rfl (lv_at hl 1 rfl) ?_
          refine lv_iload_n hx hb dX12_otherKind_26 rfl (lv_at hl 3 rfl) ?_
          refine q_ci (q_rV11_2 (rest := []) E (hml.trans hl.1.symm) hI (c_X12_handOf l X σ a v1 x_2 ha (by omega) (by first | (clear h0 hm4 gc_5_f_4 if_6 gc_7_x_2 gc_7_f_6 c_7; omega) | omega)) kv_X12_276 ha ⟨Nat.le_of_ble_eq_true rfl, Nat.le_of_ble_eq_true rfl⟩ (Nat.le_of_ble_eq_true rfl) dX12_otherKind_27) hI (Nat.le_of_ble_eq_true rfl) (fun r_9 σ_10 H locs hpσ_10 hkσ_10 hI => ?_)
          have ahpσ_10 := hpσ_10.1
          have bhpσ_10 := hpσ_10.2.1
          have chpσ_10 := hpσ_10.2.2
          clear hpσ_10
          replace hI := q_Irw ahpσ_10 hI
          replace hF := q_letX hF chpσ_10
          have ir_9 : r_9.toInt = (m_c X σ a (34 + 10 * v1.toInt + x_2.toInt)) := (by first | exact bhpσ_10 | (rw [bhpσ_10]) | (simp only [bhpσ_10]))
          refine q_if_le (A := r_9.toInt) E rfl (tgt := 54) dX12_otherKind_30 (by decide) (fun c_11 => ?_) (fun c_11 => ?_)
          · skip
            replace hF := q_ifn hF (Int.not_lt.mpr c_11)
            obtain ⟨z_12, ez_12⟩ : ∃ y : Int32, y = x_2 + 1 := ⟨_, rfl⟩
            replace hF := q_letX hF ez_12
            refine lv_iinc (v := z_12) (lv' := [(3, .int z_12), (0, .ref a), (1, .int v1), (2, .int x_1)]) hx hb dX12_otherKind_54 hl (k := 3) rfl (by rw [ez_12]; rfl) (by decide) rfl (fun ls hl => ?_)
            have iz_12 : z_12.toInt = x_2.toInt + 1 := q_inc ez_12 (by first | (clear h0 hm4 gc_5_f_4 if_6 gc_7_x_2 gc_7_f_6 c_7 ahpσ_10 bhpσ_10 chpσ_10 ir_9 c_11; omega) | omega)
            refine lv_goto (tgt := 4) hx hb dX12_otherKind_57 (by decide) ?_
            exact ih4 x_1 z_12 _ _ ls (by first | (clear h0 gc_5_f_4 if_6 gc_7_x_2 gc_7_f_6 ahpσ_10 bhpσ_10 chpσ_10 ir_9 c_11; omega) | omega) (by first | (clear h0 hh hm4 gc_5_f_4 if_6 gc_7_x_2 gc_7_f_6 c_7 ahpσ_10 bhpσ_10 chpσ_10 ir_9 c_11; omega) | omega) (by rw [iz_12]; first | exact ok4.skip (Or.inl (by omega)) | exact ok4.skip (Or.inr (by first | (clear h0 hh hm4 hge4 if_4 gc_5_x_2 gc_5_f_4 c_5 if_6 gc_7_x_2 gc_7_f_6 c_7 ahpσ_10 chpσ_10 ir_9 iz_12; omega) | omega)) | exact m_ok.set (by omega) (by omega) (by omega) | exact ok4.old (by omega)) hF hI (lv_sub hl [1, 2, 3, 0] rfl)
          · skip
            replace hF := q_ifp hF c_11
            refine lv_iload_n hx hb dX12_otherKind_33 rfl (lv_at hl 2 rfl) ?_
            refine q_if_lt (A := x_1.toInt) E rfl (tgt := 52) dX12_otherKind_34 (by decide) (fun c_13 => ?_) (fun c_13 => ?_)
            · skip
              replace hF := q_ifp hF c_13
              refine lv_iload_n hx hb dX12_otherKind_52 rfl (lv_at hl 3 rfl) ?_
              refine lv_istore_n (lv' := [(2, .int x_2), (0, .ref a), (1, .int v1), (3, .int x_2)]) hx hb dX12_otherKind_53 rfl hl (by decide) rfl (fun ls hl => ?_)
              obtain ⟨z_14, ez_14⟩ : ∃ y : Int32, y = x_2 + 1 := ⟨_, rfl⟩
              replace hF := q_letX hF ez_14
              refine lv_iinc (v := z_14) (lv' := [(3, .int z_14), (2, .int x_2), (0, .ref a), (1, .int v1)]) hx hb dX12_otherKind_54 hl (k := 3) rfl (by rw [ez_14]; rfl) (by decide) rfl (fun ls hl => ?_)
              have iz_14 : z_14.toInt = x_2.toInt + 1 := q_inc ez_14 (by first | (clear h0 hm4 gc_5_f_4 if_6 gc_7_x_2 gc_7_f_6 c_7 ahpσ_10 bhpσ_10 chpσ_10 ir_9 c_11 c_13; omega) | omega)
              refine lv_goto (tgt := 4) hx hb dX12_otherKind_57 (by decide) ?_
              exact ih4 x_2 z_14 _ _ ls (by first | (clear h0 gc_5_f_4 if_6 gc_7_x_2 gc_7_f_6 ahpσ_10 bhpσ_10 chpσ_10 ir_9 c_11 c_13; omega) | omega) (by first | (clear h0 hh hm4 gc_5_f_4 if_6 gc_7_x_2 gc_7_f_6 c_7 ahpσ_10 bhpσ_10 chpσ_10 ir_9 c_11 c_13; omega) | omega) (by rw [iz_14]; first | exact ok4.skip (Or.inl (by omega)) | exact ok4.skip (Or.inr (by omega)) | exact m_ok.set (by first | (clear h0 hh hm4 if_4 gc_5_f_4 c_5 if_6 gc_7_x_2 gc_7_f_6 c_7 ahpσ_10 bhpσ_10 chpσ_10 ir_9 c_11 c_13; omega) | omega) (by first | (clear h0 hh hm4 hge4 if_4 gc_5_x_2 gc_5_f_4 c_5 gc_7_x_2 gc_7_f_6 ahpσ_10 bhpσ_10 chpσ_10 ir_9 c_11 c_13; omega) | omega) (by first | (clear h0 hh hm4 hge4 if_4 gc_5_x_2 gc_5_f_4 c_5 if_6 gc_7_x_2 gc_7_f_6 c_7 ahpσ_10 chpσ_10 ir_9 c_13 iz_14; omega) | omega) | exact ok4.old (by omega)) hF hI (lv_sub hl [2, 3, 1, 0] rfl)
            · skip
              replace hF := q_ifn hF (Int.not_lt.mpr c_13)
              refine lv_aload_n hx hb dX12_otherKind_37 rfl (lv_at hl 0 rfl) ?_
              refine lv_iload_n hx hb dX12_otherKind_38 rfl (lv_at hl 1 rfl) ?_
              refine lv_iload_n hx hb dX12_otherKind_39 rfl (lv_at hl 3 rfl) ?_
              refine q_ci (q_rV11_2 (rest := []) E (hml.trans hl.1.symm) hI (c_X12_handOf l X σ a v1 x_2 ha (by omega) (by first | (clear h0 hm4 gc_5_f_4 if_6 gc_7_x_2 gc_7_f_6 c_7 ahpσ_10 bhpσ_10 chpσ_10 ir_9 c_11 c_13; omega) | omega)) kv_X12_276 ha ⟨Nat.le_of_ble_eq_true rfl, Nat.le_of_ble_eq_true rfl⟩ (Nat.le_of_ble_eq_true rfl) dX12_otherKind_40) hI (Nat.le_of_ble_eq_true rfl) (fun r_15 σ_16 H locs hpσ_16 hkσ_16 hI => ?_)
              have ahpσ_16 := hpσ_16.1
              have bhpσ_16 := hpσ_16.2.1
              have chpσ_16 := hpσ_16.2.2
              clear hpσ_16
              replace hI := q_Irw ahpσ_16 hI
              replace hF := q_letX hF chpσ_16
              have ir_15 : r_15.toInt = (m_c X σ a (34 + 10 * v1.toInt + x_2.toInt)) := (by first | exact bhpσ_16 | (rw [bhpσ_16]) | (simp only [bhpσ_16]))
              refine lv_aload_n hx hb dX12_otherKind_43 rfl (lv_at hl 0 rfl) ?_
              refine lv_iload_n hx hb dX12_otherKind_44 rfl (lv_at hl 1 rfl) ?_
              refine lv_iload_n hx hb dX12_otherKind_45 rfl (lv_at hl 2 rfl) ?_
              refine q_ci (q_rV11_2 (rest := [.int r_15]) E (hml.trans hl.1.symm) hI (c_X12_handOf l X σ a v1 x_1 ha (by omega) (by first | (clear h0 hm4 gc_5_x_2 gc_5_f_4 c_5 if_6 gc_7_x_2 gc_7_f_6 c_7 ahpσ_10 bhpσ_10 chpσ_10 ir_9 c_11 ahpσ_16 bhpσ_16 chpσ_16 ir_15; omega) | omega)) kv_X12_276 ha ⟨Nat.le_of_ble_eq_true rfl, Nat.le_of_ble_eq_true rfl⟩ (Nat.le_of_ble_eq_true rfl) dX12_otherKind_46) hI (Nat.le_of_ble_eq_true rfl) (fun r_17 σ_18 H locs hpσ_18 hkσ_18 hI => ?_)
              have ahpσ_18 := hpσ_18.1
              have bhpσ_18 := hpσ_18.2.1
              have chpσ_18 := hpσ_18.2.2
              clear hpσ_18
              replace hI := q_Irw ahpσ_18 hI
              replace hF := q_letX hF chpσ_18
              have ir_17 : r_17.toInt = (m_c X σ a (34 + 10 * v1.toInt + x_1.toInt)) := (by first | exact bhpσ_18 | (rw [bhpσ_18]) | (simp only [bhpσ_18]))
              have gc_19_r_15 := q_rng r_15
              have gc_19_r_17 := q_rng r_17
              refine q_icmp_le (A := r_15.toInt) (B := r_17.toInt) E rfl rfl (tgt := 54) dX12_otherKind_49 (by decide) (fun c_19 => ?_) (fun c_19 => ?_)
              · skip
                replace hF := q_ifn hF (Int.not_lt.mpr c_19)
                obtain ⟨z_20, ez_20⟩ : ∃ y : Int32, y = x_2 + 1 := ⟨_, rfl⟩
                replace hF := q_letX hF ez_20
                refine lv_iinc (v := z_20) (lv' := [(3, .int z_20), (0, .ref a), (1, .int v1), (2, .int x_1)]) hx hb dX12_otherKind_54 hl (k := 3) rfl (by rw [ez_20]; rfl) (by decide) rfl (fun ls hl => ?_)
                have iz_20 : z_20.toInt = x_2.toInt + 1 := q_inc ez_20 (by first | (clear h0 hm4 gc_5_f_4 if_6 gc_7_x_2 gc_7_f_6 c_7 ahpσ_10 bhpσ_10 chpσ_10 ir_9 c_11 c_13 ahpσ_16 bhpσ_16 chpσ_16 ir_15 ahpσ_18 bhpσ_18 chpσ_18 ir_17 gc_19_r_15 gc_19_r_17 c_19; omega) | omega)
                refine lv_goto (tgt := 4) hx hb dX12_otherKind_57 (by decide) ?_
                exact ih4 x_1 z_20 _ _ ls (by first | (clear h0 gc_5_f_4 if_6 gc_7_x_2 gc_7_f_6 ahpσ_10 bhpσ_10 chpσ_10 ir_9 c_11 c_13 ahpσ_16 bhpσ_16 chpσ_16 ir_15 ahpσ_18 bhpσ_18 chpσ_18 ir_17 gc_19_r_15 gc_19_r_17 c_19; omega) | omega) (by first | (clear h0 hh hm4 gc_5_f_4 if_6 gc_7_x_2 gc_7_f_6 c_7 ahpσ_10 bhpσ_10 chpσ_10 ir_9 c_11 ahpσ_16 bhpσ_16 chpσ_16 ir_15 ahpσ_18 bhpσ_18 chpσ_18 ir_17 gc_19_r_15 gc_19_r_17 c_19; omega) | omega) (by rw [iz_20]; first | exact ok4.skip (Or.inl (by omega)) | exact ok4.skip (Or.inr (by omega)) | exact m_ok.set (by omega) (by omega) (by omega) | exact ok4.old (by omega)) hF hI (lv_sub hl [1, 2, 3, 0] rfl)
              · skip
                replace hF := q_ifp hF c_19
                refine lv_iload_n hx hb dX12_otherKind_52 rfl (lv_at hl 3 rfl) ?_
                refine lv_istore_n (lv' := [(2, .int x_2), (0, .ref a), (1, .int v1), (3, .int x_2)]) hx hb dX12_otherKind_53 rfl hl (by decide) rfl (fun ls hl => ?_)
                obtain ⟨z_21, ez_21⟩ : ∃ y : Int32, y = x_2 + 1 := ⟨_, rfl⟩
                replace hF := q_letX hF ez_21
                refine lv_iinc (v := z_21) (lv' := [(3, .int z_21), (2, .int x_2), (0, .ref a), (1, .int v1)]) hx hb dX12_otherKind_54 hl (k := 3) rfl (by rw [ez_21]; rfl) (by decide) rfl (fun ls hl => ?_)
                have iz_21 : z_21.toInt = x_2.toInt + 1 := q_inc ez_21 (by first | (clear h0 hm4 gc_5_f_4 if_6 gc_7_x_2 gc_7_f_6 c_7 ahpσ_10 bhpσ_10 chpσ_10 ir_9 c_11 c_13 ahpσ_16 bhpσ_16 chpσ_16 ir_15 ahpσ_18 bhpσ_18 chpσ_18 ir_17 gc_19_r_15 gc_19_r_17 c_19; omega) | omega)
                refine lv_goto (tgt := 4) hx hb dX12_otherKind_57 (by decide) ?_
                exact ih4 x_2 z_21 _ _ ls (by first | (clear h0 gc_5_f_4 if_6 gc_7_x_2 gc_7_f_6 ahpσ_10 bhpσ_10 chpσ_10 ir_9 c_11 c_13 ahpσ_16 bhpσ_16 chpσ_16 ir_15 ahpσ_18 bhpσ_18 chpσ_18 ir_17 gc_19_r_15 gc_19_r_17 c_19; omega) | omega) (by first | (clear h0 hh hm4 gc_5_f_4 if_6 gc_7_x_2 gc_7_f_6 c_7 ahpσ_10 bhpσ_10 chpσ_10 ir_9 c_11 c_13 ahpσ_16 bhpσ_16 chpσ_16 ir_15 ahpσ_18 bhpσ_18 chpσ_18 ir_17 gc_19_r_15 gc_19_r_17 c_19; omega) | omega) (by rw [iz_21]; first | exact ok4.skip (Or.inl (by omega)) | exact ok4.skip (Or.inr (by omega)) | exact m_ok.set (by first | (clear h0 hh hm4 if_4 gc_5_f_4 c_5 if_6 gc_7_x_2 gc_7_f_6 c_7 ahpσ_10 bhpσ_10 chpσ_10 ir_9 c_11 c_13 ahpσ_16 bhpσ_16 chpσ_16 ir_15 ahpσ_18 bhpσ_18 chpσ_18 ir_17 gc_19_r_15 gc_19_r_17 c_19; omega) | omega) (by first | (clear h0 hh hm4 hge4 if_4 gc_5_x_2 gc_5_f_4 c_5 gc_7_x_2 gc_7_f_6 ahpσ_10 bhpσ_10 chpσ_10 ir_9 c_11 c_13 ahpσ_16 bhpσ_16 chpσ_16 ir_15 ahpσ_18 bhpσ_18 chpσ_18 ir_17 gc_19_r_15 gc_19_r_17 c_19; omega) | omega) (by first | (clear h0 hh hm4 hge4 if_4 gc_5_x_2 gc_5_f_4 c_5 if_6 gc_7_x_2 gc_7_f_6 c_7 ahpσ_10 chpσ_10 ir_9 c_13 ahpσ_16 chpσ_16 ir_15 ahpσ_18 bhpσ_18 chpσ_18 ir_17 gc_19_r_17 c_19 iz_21; omega) | omega) | exact ok4.old (by omega)) hF hI (lv_sub hl [2, 3, 1, 0] rfl)
  have kc_22 : ((-1) : Int32).toInt = (-1) := zt_m1
  have kc_23 : (0 : Int32).toInt = 0 := zt_0
  exact L_4_3 ((2147483647 - (0 : Int32).toInt).toNat + 1) (-1) 0 _ _ ls (Nat.lt_succ_self _) (by have q : (0 : Int32).toInt = 0 := rfl; have q1 : ((-1) : Int32).toInt = -1 := rfl; omega) (m_ok.start _ _) hF hI (lv_sub hl [2, 3, 1, 0] rfl)
end
