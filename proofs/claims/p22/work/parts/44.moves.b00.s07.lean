section
set_option maxRecDepth 100000 in
set_option maxHeartbeats 4000000 in
theorem c_X12_lay (l : Launch) (X : XW) (σ : ST) (a : Nat) (v1 : Int32) (v2 : Int32) (v3 : Int32) (v4 : Int32) (n : Int) (ha : q_kd X a = 12) (hG : m_G (m_c X σ a)) (hW : m_W (m_c X σ a) n) (hn : n ≤ 199000) : Met l yX12_lay (q_ws yX12_lay cX12_lay 9 (some .int)) (q_rm 2 46) (q_P X σ [.ref a, .int v1, .int v2, .int v3, .int v4]) (q_Qi X 1 σ (fun (r : Int32) (σ' : ST) => (m_G (m_c X σ' a)) ∧ (m_W (m_c X σ' a) (n + 301)) ∧ (∀ j, 930 ≤ j → j < 3720 → m_c X σ' a j = m_c X σ a j) ∧ (r, σ') = F_X12_lay X σ a v1 v2 v3 v4 ∧ q_ow [(12, 0), (12, 1), (34, 99), (39, 99), (40, 99)] [] X σ σ')) 0 0 (q_reg X) := by
  refine q_met 1 (by first | exact rfl | decide +kernel) rfl (Nat.le_of_ble_eq_true rfl) (fun p e s m below meth c E hml hr hlk hI ls hl => ?_)
  have hx := E.1
  have hb := E.2.1
  have hl : lv_has ls 9 [(0, .ref a), (1, .int v1), (2, .int v2), (3, .int v3), (4, .int v4)] := hl
  have gσ : m_G (m_c X σ a) := hG
  have wσ : m_W (m_c X σ a) n := hW
  have kqσ : ∀ j, 654 ≤ j → m_c X σ a j = m_c X σ a j := fun _ _ => rfl
  have fxσ : m_c X σ a = m_c X σ a := rfl
  have fr_σ : q_ow [(12, 0), (12, 1), (34, 99), (39, 99), (40, 99)] [] X σ σ := q_ow.rf
  have hh := hG.hd
  obtain ⟨out, hout⟩ : ∃ o, o = F_X12_lay X σ a v1 v2 v3 v4 := ⟨_, rfl⟩
  have hF := hout.symm
  unfold F_X12_lay at hF
  refine lv_aload_n hx hb dX12_lay_0 rfl (lv_at hl 0 rfl) ?_
  refine lv_iconst (v := 0) hx hb dX12_lay_1 zki_0 ?_
  refine ps_X12_59_12 E hI ha (by decide) dX12_lay_2 (fun H locs σ_1 hσ_1 hI => ?_)
  replace hF := q_letX hF hσ_1
  have fr_σ_1 := fr_σ.si hσ_1 ha rfl
  have mcσ_1 := m_wo hσ_1 (m_ne ha (q_tk (f := 20) (k' := 34) hI ha rfl (by decide)) (by decide))
  have gσ_1 : m_G (m_c X σ_1 a) := m_G.ext (fun j _ _ => mcσ_1 j) gσ
  have wσ_1 : m_W (m_c X σ_1 a) n := m_W.ext (fun j _ _ => mcσ_1 j) wσ
  have kqσ_1 : ∀ j, 654 ≤ j → m_c X σ_1 a j = m_c X σ a j := fun j h => (mcσ_1 j).trans (kqσ j h)
  have fxσ_1 : m_c X σ_1 a = m_c X σ a := (funext mcσ_1).trans fxσ
  refine lv_aload_n hx hb dX12_lay_5 rfl (lv_at hl 0 rfl) ?_
  refine lv_iconst (v := 0) hx hb dX12_lay_6 zki_0 ?_
  refine ps_X12_62_12 E hI ha (by decide) dX12_lay_7 (fun H locs σ_2 hσ_2 hI => ?_)
  replace hF := q_letX hF hσ_2
  have fr_σ_2 := fr_σ_1.si hσ_2 ha rfl
  have mcσ_2 := m_wo hσ_2 (m_ne ha (q_tk (f := 20) (k' := 34) hI ha rfl (by decide)) (by decide))
  have gσ_2 : m_G (m_c X σ_2 a) := m_G.ext (fun j _ _ => mcσ_2 j) gσ_1
  have wσ_2 : m_W (m_c X σ_2 a) n := m_W.ext (fun j _ _ => mcσ_2 j) wσ_1
  have kqσ_2 : ∀ j, 654 ≤ j → m_c X σ_2 a j = m_c X σ a j := fun j h => (mcσ_2 j).trans (kqσ_1 j h)
  have fxσ_2 : m_c X σ_2 a = m_c X σ a := (funext mcσ_2).trans fxσ_1
  refine lv_aload_n hx hb dX12_lay_10 rfl (lv_at hl 0 rfl) ?_
  refine gs_X12_50_12 E hI ha dX12_lay_11 ?_
  refine lv_iconst (v := 0) hx hb dX12_lay_14 zki_0 ?_
  refine lv_iload_n hx hb dX12_lay_15 rfl (lv_at hl 1 rfl) ?_
  refine q_iastN E hI (q_tk (k' := 40) hI ha rfl (Nat.succ_ne_zero _)) ⟨by decide, rfl⟩ (by decide) (by rw [q_lnk (v := 4) hI (q_tk (k' := 40) hI ha rfl (Nat.succ_ne_zero _)) rfl (by decide)]; decide) (show 1 < 9 by decide) (q_inU rfl) dX12_lay_16 (fun H locs σ_3 hσ_3 hI => ?_)
  replace hF := q_letX hF hσ_3
  have fr_σ_3 := fr_σ_2.si hσ_3 (q_tk (k' := 40) hI ha rfl (Nat.succ_ne_zero _)) rfl
  have mcσ_3 := m_wo hσ_3 (m_ne (q_tk (k' := 40) hI ha rfl (Nat.succ_ne_zero _)) (q_tk (f := 20) (k' := 34) hI ha rfl (by decide)) (by decide))
  have gσ_3 : m_G (m_c X σ_3 a) := m_G.ext (fun j _ _ => mcσ_3 j) gσ_2
  have wσ_3 : m_W (m_c X σ_3 a) n := m_W.ext (fun j _ _ => mcσ_3 j) wσ_2
  have kqσ_3 : ∀ j, 654 ≤ j → m_c X σ_3 a j = m_c X σ a j := fun j h => (mcσ_3 j).trans (kqσ_2 j h)
  have fxσ_3 : m_c X σ_3 a = m_c X σ a := (funext mcσ_3).trans fxσ_2
  refine lv_aload_n hx hb dX12_lay_17 rfl (lv_at hl 0 rfl) ?_
  refine gs_X12_50_12 E hI ha dX12_lay_18 ?_
  refine lv_iconst (v := 1) hx hb dX12_lay_21 zki_1 ?_
  refine lv_iload_n hx hb dX12_lay_22 rfl (lv_at hl 2 rfl) ?_
  refine q_iastN E hI (q_tk (k' := 40) hI ha rfl (Nat.succ_ne_zero _)) ⟨by decide, rfl⟩ (by decide) (by rw [q_lnk (v := 4) hI (q_tk (k' := 40) hI ha rfl (Nat.succ_ne_zero _)) rfl (by decide)]; decide) (show 1 < 9 by decide) (q_inU rfl) dX12_lay_23 (fun H locs σ_4 hσ_4 hI => ?_)
  replace hF := q_letX hF hσ_4
  have fr_σ_4 := fr_σ_3.si hσ_4 (q_tk (k' := 40) hI ha rfl (Nat.succ_ne_zero _)) rfl
  have mcσ_4 := m_wo hσ_4 (m_ne (q_tk (k' := 40) hI ha rfl (Nat.succ_ne_zero _)) (q_tk (f := 20) (k' := 34) hI ha rfl (by decide)) (by decide))
  have gσ_4 : m_G (m_c X σ_4 a) := m_G.ext (fun j _ _ => mcσ_4 j) gσ_3
  have wσ_4 : m_W (m_c X σ_4 a) n := m_W.ext (fun j _ _ => mcσ_4 j) wσ_3
  have kqσ_4 : ∀ j, 654 ≤ j → m_c X σ_4 a j = m_c X σ a j := fun j h => (mcσ_4 j).trans (kqσ_3 j h)
  have fxσ_4 : m_c X σ_4 a = m_c X σ a := (funext mcσ_4).trans fxσ_3
  refine lv_aload_n hx hb dX12_lay_24 rfl (lv_at hl 0 rfl) ?_
  refine gs_X12_50_12 E hI ha dX12_lay_25 ?_
  refine lv_iconst (v := 2) hx hb dX12_lay_28 zki_2 ?_
  refine lv_iload_n hx hb dX12_lay_29 rfl (lv_at hl 3 rfl) ?_
  refine q_iastN E hI (q_tk (k' := 40) hI ha rfl (Nat.succ_ne_zero _)) ⟨by decide, rfl⟩ (by decide) (by rw [q_lnk (v := 4) hI (q_tk (k' := 40) hI ha rfl (Nat.succ_ne_zero _)) rfl (by decide)]; decide) (show 1 < 9 by decide) (q_inU rfl) dX12_lay_30 (fun H locs σ_5 hσ_5 hI => ?_)
  replace hF := q_letX hF hσ_5
  have fr_σ_5 := fr_σ_4.si hσ_5 (q_tk (k' := 40) hI ha rfl (Nat.succ_ne_zero _)) rfl
  have mcσ_5 := m_wo hσ_5 (m_ne (q_tk (k' := 40) hI ha rfl (Nat.succ_ne_zero _)) (q_tk (f := 20) (k' := 34) hI ha rfl (by decide)) (by decide))
  have gσ_5 : m_G (m_c X σ_5 a) := m_G.ext (fun j _ _ => mcσ_5 j) gσ_4
  have wσ_5 : m_W (m_c X σ_5 a) n := m_W.ext (fun j _ _ => mcσ_5 j) wσ_4
  have kqσ_5 : ∀ j, 654 ≤ j → m_c X σ_5 a j = m_c X σ a j := fun j h => (mcσ_5 j).trans (kqσ_4 j h)
  have fxσ_5 : m_c X σ_5 a = m_c X σ a := (funext mcσ_5).trans fxσ_4
  refine lv_aload_n hx hb dX12_lay_31 rfl (lv_at hl 0 rfl) ?_
  refine gs_X12_50_12 E hI ha dX12_lay_32 ?_
  refine lv_iconst (v := 3) hx hb dX12_lay_35 zki_3 ?_
  refine lv_iload hx hb dX12_lay_36 (lv_at hl 4 rfl) ?_
  refine q_iastN E hI (q_tk (k' := 40) hI ha rfl (Nat.succ_ne_zero _)) ⟨by decide, rfl⟩ (by decide) (by rw [q_lnk (v := 4) hI (q_tk (k' := 40) hI ha rfl (Nat.succ_ne_zero _)) rfl (by decide)]; decide) (show 1 < 9 by decide) (q_inU rfl) dX12_lay_38 (fun H locs σ_6 hσ_6 hI => ?_)
  replace hF := q_letX hF hσ_6
  have fr_σ_6 := fr_σ_5.si hσ_6 (q_tk (k' := 40) hI ha rfl (Nat.succ_ne_zero _)) rfl
  have mcσ_6 := m_wo hσ_6 (m_ne (q_tk (k' := 40) hI ha rfl (Nat.succ_ne_zero _)) (q_tk (f := 20) (k' := 34) hI ha rfl (by decide)) (by decide))
  have gσ_6 : m_G (m_c X σ_6 a) := m_G.ext (fun j _ _ => mcσ_6 j) gσ_5
  have wσ_6 : m_W (m_c X σ_6 a) n := m_W.ext (fun j _ _ => mcσ_6 j) wσ_5
  have kqσ_6 : ∀ j, 654 ≤ j → m_c X σ_6 a j = m_c X σ a j := fun j h => (mcσ_6 j).trans (kqσ_5 j h)
  have fxσ_6 : m_c X σ_6 a = m_c X σ a := (funext mcσ_6).trans fxσ_5
  refine lv_iconst (v := 0) hx hb dX12_lay_39 zki_0 ?_
  refine lv_istore (lv' := [(5, .int 0), (0, .ref a), (1, .int v1), (2, .int v2), (3, .int v3), (4, .int v4)]) hx hb dX12_lay_40 hl (by decide) rfl (fun ls hl => ?_)
  have L_42_9 : ∀ (k_9 : Nat) (x_7 : Int32) (σ_8 : ST) (H : Heap) (locs : List Loc) (ls : Array Slot), (2147483647 - x_7.toInt).toNat < k_9 → (0 ≤ x_7.toInt ∧ x_7.toInt ≤ 10) → (∀ k, 0 ≤ k → k < x_7.toInt → m_of σ_8 (q_rf X a 28) k = 0) → (q_ow [(12, 0), (12, 1), (34, 99), (39, 99), (40, 99)] [] X σ σ_8) → (m_G (m_c X σ_8 a)) → (m_W (m_c X σ_8 a) n) → (∀ j, 654 ≤ j → m_c X σ_8 a j = m_c X σ a j) → (m_c X σ_8 a = m_c X σ a) → (F_X12_lay_L42_1 X a k_9 x_7 σ_8 = out) → q_I X 1 σ s.heap locs σ_8 H → lv_has ls 9 [(0, .ref a), (1, .int v1), (2, .int v2), (3, .int v3), (4, .int v4), (5, .int x_7)] → W p l e (q_rm 2 46) s m ([.ref a, .int v1, .int v2, .int v3, .int v4] : List Value).toArray below meth c H locs 0 0 (MQ below (q_Qi X 1 σ (fun (r : Int32) (σ' : ST) => (m_G (m_c X σ' a)) ∧ (m_W (m_c X σ' a) (n + 301)) ∧ (∀ j, 930 ≤ j → j < 3720 → m_c X σ' a j = m_c X σ a j) ∧ (r, σ') = F_X12_lay X σ a v1 v2 v3 v4 ∧ q_ow [(12, 0), (12, 1), (34, 99), (39, 99), (40, 99)] [] X σ σ')) ([.ref a, .int v1, .int v2, .int v3, .int v4] : List Value).toArray s 0 0 (q_reg X)) (F0 m 42 ls []) := by
    clear hF
    intro k_9
    induction k_9 with
    | zero =>
      intro x_7 σ_8 H locs ls hms
      try clear kqσ; try clear fxσ; try clear fr_σ; try clear fr_σ_1; try clear mcσ_1; try clear kqσ_1; try clear fxσ_1; try clear fr_σ_2; try clear mcσ_2; try clear kqσ_2; try clear fxσ_2; try clear fr_σ_3; try clear mcσ_3; try clear kqσ_3; try clear fxσ_3; try clear fr_σ_4; try clear mcσ_4; try clear kqσ_4; try clear fxσ_4; try clear fr_σ_5; try clear mcσ_5; try clear kqσ_5; try clear fxσ_5; try clear fr_σ_6; try clear mcσ_6; try clear kqσ_6; try clear fxσ_6
      exact absurd hms (Nat.not_lt_zero _)
    | succ k_9 ih42 =>
      intro x_7 σ_8 H locs ls hm42 hge42 zlσ_8 fr_σ_8 gσ_8 wσ_8 kqσ_8 fxσ_8 hF hI hl
      replace hF := (F_X12_lay_L42_1_s).symm.trans hF
      unfold F_X12_lay_B42_1 at hF
      refine lv_iload hx hb dX12_lay_42 (lv_at hl 5 rfl) ?_
      refine lv_bipush (v := 10) hx hb dX12_lay_44 zkb_10 ?_
      have gc_10_x_7 := q_rng x_7
      refine q_icmp_ge (A := x_7.toInt) (B := 10) E rfl (by decide) (tgt := 63) dX12_lay_46 (by decide) (fun c_10 => ?_) (fun c_10 => ?_)
      · skip
        replace hF := q_ifn hF (Int.not_lt.mpr c_10)
        skip
        have nnσ_8 : ∀ k, 0 ≤ k → k < 10 → 0 ≤ m_of σ_8 (q_rf X a 28) k := fun k a b => Int.le_of_eq (zlσ_8 k a (by first | (clear hn gσ wσ hh gσ_1 wσ_1 gσ_2 wσ_2 gσ_3 wσ_3 gσ_4 wσ_4 gσ_5 wσ_5 gσ_6 wσ_6 hm42 gσ_8 wσ_8 gc_10_x_7; omega) | omega)).symm
        have szσ_8 := m_S_zero (f := m_of σ_8 (q_rf X a 28)) (n := 10) (fun j a b => zlσ_8 j a (by first | (clear hn gσ wσ hh gσ_1 wσ_1 gσ_2 wσ_2 gσ_3 wσ_3 gσ_4 wσ_4 gσ_5 wσ_5 gσ_6 wσ_6 hm42 gσ_8 wσ_8 gc_10_x_7; omega) | omega))
        refine lv_iconst (v := 0) hx hb dX12_lay_63 zki_0 ?_
        refine lv_istore (lv' := [(5, .int 0), (0, .ref a), (1, .int v1), (2, .int v2), (3, .int v3), (4, .int v4)]) hx hb dX12_lay_64 hl (by decide) rfl (fun ls hl => ?_)
        refine lv_iconst (v := 0) hx hb dX12_lay_66 zki_0 ?_
        refine lv_istore (lv' := [(6, .int 0), (5, .int 0), (0, .ref a), (1, .int v1), (2, .int v2), (3, .int v3), (4, .int v4)]) hx hb dX12_lay_67 hl (by decide) rfl (fun ls hl => ?_)
        refine lv_iconst (v := 0) hx hb dX12_lay_69 zki_0 ?_
        refine lv_istore (lv' := [(7, .int 0), (6, .int 0), (5, .int 0), (0, .ref a), (1, .int v1), (2, .int v2), (3, .int v3), (4, .int v4)]) hx hb dX12_lay_70 hl (by decide) rfl (fun ls hl => ?_)
        refine lv_iconst (v := 0) hx hb dX12_lay_72 zki_0 ?_
        refine lv_istore (lv' := [(8, .int 0), (7, .int 0), (6, .int 0), (5, .int 0), (0, .ref a), (1, .int v1), (2, .int v2), (3, .int v3), (4, .int v4)]) hx hb dX12_lay_73 hl (by decide) rfl (fun ls hl => ?_)
        have L_75_16 : ∀ (k_16 : Nat) (x_11 : Int32) (x_12 : Int32) (x_13 : Int32) (x_14 : Int32) (σ_15 : ST) (H : Heap) (locs : List Loc) (ls : Array Slot), (2147483647 - x_14.toInt).toNat < k_16 → (0 ≤ x_14.toInt ∧ x_14.toInt ≤ 4 ∧ 0 ≤ x_11.toInt ∧ x_11.toInt ≤ x_14.toInt) → (m_S (m_of σ_15 (q_rf X a 28)) 0 10 = x_11.toInt) → (∀ k, 0 ≤ k → k < 10 → 0 ≤ m_of σ_15 (q_rf X a 28) k) → (q_ow [(12, 0), (12, 1), (34, 99), (39, 99), (40, 99)] [] X σ σ_15) → (m_G (m_c X σ_15 a)) → (m_W (m_c X σ_15 a) n) → (∀ j, 654 ≤ j → m_c X σ_15 a j = m_c X σ a j) → (m_c X σ_15 a = m_c X σ a) → (F_X12_lay_L75_3 X a k_16 x_11 x_12 x_13 x_14 σ_15 = out) → q_I X 1 σ s.heap locs σ_15 H → lv_has ls 9 [(0, .ref a), (1, .int v1), (2, .int v2), (3, .int v3), (4, .int v4), (5, .int x_11), (6, .int x_12), (7, .int x_13), (8, .int x_14)] → W p l e (q_rm 2 46) s m ([.ref a, .int v1, .int v2, .int v3, .int v4] : List Value).toArray below meth c H locs 0 0 (MQ below (q_Qi X 1 σ (fun (r : Int32) (σ' : ST) => (m_G (m_c X σ' a)) ∧ (m_W (m_c X σ' a) (n + 301)) ∧ (∀ j, 930 ≤ j → j < 3720 → m_c X σ' a j = m_c X σ a j) ∧ (r, σ') = F_X12_lay X σ a v1 v2 v3 v4 ∧ q_ow [(12, 0), (12, 1), (34, 99), (39, 99), (40, 99)] [] X σ σ')) ([.ref a, .int v1, .int v2, .int v3, .int v4] : List Value).toArray s 0 0 (q_reg X)) (F0 m 75 ls []) := by
          clear hF
          intro k_16
          induction k_16 with
          | zero =>
            intro x_11 x_12 x_13 x_14 σ_15 H locs ls hms
            try clear nnσ_8; try clear szσ_8
            exact absurd hms (Nat.not_lt_zero _)
          | succ k_16 ih75 =>
            intro x_11 x_12 x_13 x_14 σ_15 H locs ls hm75 hge75 szσ_15 nnσ_15 fr_σ_15 gσ_15 wσ_15 kqσ_15 fxσ_15 hF hI hl
            replace hF := (F_X12_lay_L75_3_s).symm.trans hF
            unfold F_X12_lay_B75_3 at hF
            refine lv_iload hx hb dX12_lay_75 (lv_at hl 8 rfl) ?_
            refine lv_iconst (v := 4) hx hb dX12_lay_77 zki_4 ?_
            have gc_17_x_14 := q_rng x_14
            refine q_icmp_ge (A := x_14.toInt) (B := 4) E rfl (by decide) (tgt := 217) dX12_lay_78 (by decide) (fun c_17 => ?_) (fun c_17 => ?_)
            · skip
              replace hF := q_ifn hF (Int.not_lt.mpr c_17)
              unfold F_X12_lay_E217_7 at hF
              refine lv_iload hx hb dX12_lay_217 (lv_at hl 5 rfl) ?_
              refine q_if_eq (A := x_11.toInt) E rfl (tgt := 227) dX12_lay_219 (by decide) (fun c_18 => ?_) (fun c_18 => ?_)
              · skip
                replace hF := q_ifp hF c_18
                refine lv_aload_n hx hb dX12_lay_227 rfl (lv_at hl 0 rfl) ?_
                refine lv_iconst (v := 5) hx hb dX12_lay_228 zki_5 ?_
                have kc_19 : (5 : Int32).toInt = 5 := zt_5
                refine q_ci (q_rV11_1 (rest := []) E (hml.trans hl.1.symm) hI (c_X12_refuse l X σ_15 a (5 : Int32) ha) kv_X12_284 ha ⟨Nat.le_of_ble_eq_true rfl, Nat.le_of_ble_eq_true rfl⟩ (Nat.le_of_ble_eq_true rfl) dX12_lay_229) hI (Nat.le_of_ble_eq_true rfl) (fun r_20 σ_21 H locs hpσ_21 hkσ_21 hI => ?_)
                have ahpσ_21 := hpσ_21.1
                have bhpσ_21 := hpσ_21.2.1
                have chpσ_21 := hpσ_21.2.2
                clear hpσ_21
                have fr_σ_21 := fr_σ_15.call chpσ_21 rfl rfl
                replace hF := q_biX hF bhpσ_21
                have mcσ_21 := m_cK hkσ_21 hI.1 ha (by decide)
                have gσ_21 : m_G (m_c X σ_21 a) := m_G.ext (fun j _ _ => mcσ_21 j) gσ_15
                have wσ_21 : m_W (m_c X σ_21 a) n := m_W.ext (fun j _ _ => mcσ_21 j) wσ_15
                have kqσ_21 : ∀ j, 654 ≤ j → m_c X σ_21 a j = m_c X σ a j := fun j h => (mcσ_21 j).trans (kqσ_15 j h)
                have fxσ_21 : m_c X σ_21 a = m_c X σ a := (funext mcσ_21).trans fxσ_15
                exact q_reti E hr hlk hI ⟨gσ_21, (by first | exact m_W.le vσ_21 (by omega) | exact m_W.le wσ_21 (by first | (clear hn gσ wσ hh gσ_1 wσ_1 gσ_2 wσ_2 gσ_3 wσ_3 gσ_4 wσ_4 gσ_5 wσ_5 gσ_6 wσ_6 hm42 hge42 gσ_8 wσ_8 gc_10_x_7 c_10 hm75 hge75 szσ_15 gσ_15 wσ_15 gc_17_x_14 c_17 c_18 kc_19 ahpσ_21 bhpσ_21 chpσ_21 gσ_21 wσ_21; omega) | omega)), (fun j h0 h1 => kqσ_21 j (by first | (clear hn gσ wσ hh gσ_1 wσ_1 gσ_2 wσ_2 gσ_3 wσ_3 gσ_4 wσ_4 gσ_5 wσ_5 gσ_6 wσ_6 hm42 hge42 gσ_8 wσ_8 gc_10_x_7 c_10 hm75 hge75 szσ_15 gσ_15 wσ_15 gc_17_x_14 c_17 c_18 kc_19 ahpσ_21 bhpσ_21 chpσ_21 gσ_21 wσ_21; omega) | omega)), (hF.trans hout), fr_σ_21⟩ dX12_lay_232
              · skip
                replace hF := q_ifn hF c_18
                refine lv_iload hx hb dX12_lay_222 (lv_at hl 6 rfl) ?_
                refine q_if_eq (A := x_12.toInt) E rfl (tgt := 233) dX12_lay_224 (by decide) (fun c_22 => ?_) (fun c_22 => ?_)
                · skip
                  replace hF := q_ifp hF c_22
                  refine lv_iload hx hb dX12_lay_233 (lv_at hl 5 rfl) ?_
                  refine lv_aload_n hx hb dX12_lay_235 rfl (lv_at hl 0 rfl) ?_
                  refine gs_X12_35_12 E hI ha dX12_lay_236 ?_
                  refine lv_iconst (v := 4) hx hb dX12_lay_239 zki_4 ?_
                  refine q_iald E hI (q_tk (k' := 34) hI ha rfl (Nat.succ_ne_zero _)) ⟨by decide, rfl⟩ (by decide) (by rw [q_lnk (v := 4650) hI (q_tk (k' := 34) hI ha rfl (Nat.succ_ne_zero _)) rfl (by decide)]; decide) dX12_lay_240 ?_
                  refine lv_topi (fun f_23 ef_23 => ?_)
                  replace hF := q_letX hF ef_23
                  have if_23 : f_23.toInt = m_c X σ a 4 := (m_rd ef_23 (by decide)).trans (congrFun fxσ_15 _)
                  have gc_24_x_11 := q_rng x_11
                  have gc_24_f_23 := q_rng f_23
                  refine q_icmp_le (A := x_11.toInt) (B := f_23.toInt) E rfl rfl (tgt := 251) dX12_lay_241 (by decide) (fun c_24 => ?_) (fun c_24 => ?_)
                  · skip
                    replace hF := q_ifn hF (Int.not_lt.mpr c_24)
                    refine lv_aload_n hx hb dX12_lay_251 rfl (lv_at hl 0 rfl) ?_
                    refine gs_X12_35_12 E hI ha dX12_lay_252 ?_
                    refine lv_bipush (v := 7) hx hb dX12_lay_255 zkb_7 ?_
                    refine q_iald E hI (q_tk (k' := 34) hI ha rfl (Nat.succ_ne_zero _)) ⟨by decide, rfl⟩ (by decide) (by rw [q_lnk (v := 4650) hI (q_tk (k' := 34) hI ha rfl (Nat.succ_ne_zero _)) rfl (by decide)]; decide) dX12_lay_257 ?_
                    refine lv_topi (fun f_25 ef_25 => ?_)
                    replace hF := q_letX hF ef_25
                    have if_25 : f_25.toInt = m_c X σ a 7 := (m_rd ef_25 (by decide)).trans (congrFun fxσ_15 _)
                    refine lv_iconst (v := 1) hx hb dX12_lay_258 zki_1 ?_
                    have gc_26_f_25 := q_rng f_25
                    refine q_icmp_eq (A := f_25.toInt) (B := 1) E rfl (by decide) (tgt := 282) dX12_lay_259 (by decide) (fun c_26 => ?_) (fun c_26 => ?_)
                    · skip
                      replace hF := q_ifp hF c_26
                      refine lv_aload_n hx hb dX12_lay_282 rfl (lv_at hl 0 rfl) ?_
                      refine lv_bipush (v := 9) hx hb dX12_lay_283 zkb_9 ?_
                      have kc_27 : (9 : Int32).toInt = 9 := zt_9
                      refine q_ci (q_rV11_1 (rest := []) E (hml.trans hl.1.symm) hI (c_X12_refuse l X σ_15 a (9 : Int32) ha) kv_X12_284 ha ⟨Nat.le_of_ble_eq_true rfl, Nat.le_of_ble_eq_true rfl⟩ (Nat.le_of_ble_eq_true rfl) dX12_lay_285) hI (Nat.le_of_ble_eq_true rfl) (fun r_28 σ_29 H locs hpσ_29 hkσ_29 hI => ?_)
                      have ahpσ_29 := hpσ_29.1
                      have bhpσ_29 := hpσ_29.2.1
                      have chpσ_29 := hpσ_29.2.2
                      clear hpσ_29
                      have fr_σ_29 := fr_σ_15.call chpσ_29 rfl rfl
                      replace hF := q_biX hF bhpσ_29
                      have mcσ_29 := m_cK hkσ_29 hI.1 ha (by decide)
                      have gσ_29 : m_G (m_c X σ_29 a) := m_G.ext (fun j _ _ => mcσ_29 j) gσ_15
                      have wσ_29 : m_W (m_c X σ_29 a) n := m_W.ext (fun j _ _ => mcσ_29 j) wσ_15
                      have kqσ_29 : ∀ j, 654 ≤ j → m_c X σ_29 a j = m_c X σ a j := fun j h => (mcσ_29 j).trans (kqσ_15 j h)
                      have fxσ_29 : m_c X σ_29 a = m_c X σ a := (funext mcσ_29).trans fxσ_15
                      exact q_reti E hr hlk hI ⟨gσ_29, (by first | exact m_W.le vσ_29 (by omega) | exact m_W.le wσ_29 (by first | (clear hn gσ wσ hh gσ_1 wσ_1 gσ_2 wσ_2 gσ_3 wσ_3 gσ_4 wσ_4 gσ_5 wσ_5 gσ_6 wσ_6 hm42 hge42 gσ_8 wσ_8 gc_10_x_7 c_10 hm75 hge75 szσ_15 gσ_15 wσ_15 gc_17_x_14 c_17 c_18 c_22 if_23 gc_24_x_11 gc_24_f_23 c_24 if_25 gc_26_f_25 c_26 kc_27 ahpσ_29 bhpσ_29 chpσ_29 gσ_29 wσ_29; omega) | omega)), (fun j h0 h1 => kqσ_29 j (by first | (clear hn gσ wσ hh gσ_1 wσ_1 gσ_2 wσ_2 gσ_3 wσ_3 gσ_4 wσ_4 gσ_5 wσ_5 gσ_6 wσ_6 hm42 hge42 gσ_8 wσ_8 gc_10_x_7 c_10 hm75 hge75 szσ_15 gσ_15 wσ_15 gc_17_x_14 c_17 c_18 c_22 if_23 gc_24_x_11 gc_24_f_23 c_24 if_25 gc_26_f_25 c_26 kc_27 ahpσ_29 bhpσ_29 chpσ_29 gσ_29 wσ_29; omega) | omega)), (hF.trans hout), fr_σ_29⟩ dX12_lay_288
                    · skip
                      replace hF := q_ifn hF c_26
                      refine lv_aload_n hx hb dX12_lay_262 rfl (lv_at hl 0 rfl) ?_
                      refine gs_X12_35_12 E hI ha dX12_lay_263 ?_
                      refine lv_bipush (v := 8) hx hb dX12_lay_266 zkb_8 ?_
                      refine q_iald E hI (q_tk (k' := 34) hI ha rfl (Nat.succ_ne_zero _)) ⟨by decide, rfl⟩ (by decide) (by rw [q_lnk (v := 4650) hI (q_tk (k' := 34) hI ha rfl (Nat.succ_ne_zero _)) rfl (by decide)]; decide) dX12_lay_268 ?_
                      refine lv_topi (fun f_30 ef_30 => ?_)
                      replace hF := q_letX hF ef_30
                      have if_30 : f_30.toInt = m_c X σ a 8 := (m_rd ef_30 (by decide)).trans (congrFun fxσ_15 _)
                      refine q_if_ge (A := f_30.toInt) E rfl (tgt := 282) dX12_lay_269 (by decide) (fun c_31 => ?_) (fun c_31 => ?_)
                      · skip
                        replace hF := q_ifn hF (Int.not_lt.mpr c_31)
                        refine lv_aload_n hx hb dX12_lay_282 rfl (lv_at hl 0 rfl) ?_
                        refine lv_bipush (v := 9) hx hb dX12_lay_283 zkb_9 ?_
                        have kc_32 : (9 : Int32).toInt = 9 := zt_9
                        refine q_ci (q_rV11_1 (rest := []) E (hml.trans hl.1.symm) hI (c_X12_refuse l X σ_15 a (9 : Int32) ha) kv_X12_284 ha ⟨Nat.le_of_ble_eq_true rfl, Nat.le_of_ble_eq_true rfl⟩ (Nat.le_of_ble_eq_true rfl) dX12_lay_285) hI (Nat.le_of_ble_eq_true rfl) (fun r_33 σ_34 H locs hpσ_34 hkσ_34 hI => ?_)
                        have ahpσ_34 := hpσ_34.1
                        have bhpσ_34 := hpσ_34.2.1
                        have chpσ_34 := hpσ_34.2.2
                        clear hpσ_34
                        have fr_σ_34 := fr_σ_15.call chpσ_34 rfl rfl
                        replace hF := q_biX hF bhpσ_34
                        have mcσ_34 := m_cK hkσ_34 hI.1 ha (by decide)
                        have gσ_34 : m_G (m_c X σ_34 a) := m_G.ext (fun j _ _ => mcσ_34 j) gσ_15
                        have wσ_34 : m_W (m_c X σ_34 a) n := m_W.ext (fun j _ _ => mcσ_34 j) wσ_15
                        have kqσ_34 : ∀ j, 654 ≤ j → m_c X σ_34 a j = m_c X σ a j := fun j h => (mcσ_34 j).trans (kqσ_15 j h)
                        have fxσ_34 : m_c X σ_34 a = m_c X σ a := (funext mcσ_34).trans fxσ_15
                        exact q_reti E hr hlk hI ⟨gσ_34, (by first | exact m_W.le vσ_34 (by omega) | exact m_W.le wσ_34 (by first | (clear hn gσ wσ hh gσ_1 wσ_1 gσ_2 wσ_2 gσ_3 wσ_3 gσ_4 wσ_4 gσ_5 wσ_5 gσ_6 wσ_6 hm42 hge42 gσ_8 wσ_8 gc_10_x_7 c_10 hm75 hge75 szσ_15 gσ_15 wσ_15 gc_17_x_14 c_17 c_18 c_22 if_23 gc_24_x_11 gc_24_f_23 c_24 if_25 gc_26_f_25 c_26 if_30 c_31 kc_32 ahpσ_34 bhpσ_34 chpσ_34 gσ_34 wσ_34; omega) | omega)), (fun j h0 h1 => kqσ_34 j (by first | (clear hn gσ wσ hh gσ_1 wσ_1 gσ_2 wσ_2 gσ_3 wσ_3 gσ_4 wσ_4 gσ_5 wσ_5 gσ_6 wσ_6 hm42 hge42 gσ_8 wσ_8 gc_10_x_7 c_10 hm75 hge75 szσ_15 gσ_15 wσ_15 gc_17_x_14 c_17 c_18 c_22 if_23 gc_24_x_11 gc_24_f_23 c_24 if_25 gc_26_f_25 c_26 if_30 c_31 kc_32 ahpσ_34 bhpσ_34 chpσ_34 gσ_34 wσ_34; omega) | omega)), (hF.trans hout), fr_σ_34⟩ dX12_lay_288
                      · skip
                        replace hF := q_ifp hF c_31
                        refine lv_aload_n hx hb dX12_lay_272 rfl (lv_at hl 0 rfl) ?_
                        refine gs_X12_35_12 E hI ha dX12_lay_273 ?_
                        refine lv_bipush (v := 6) hx hb dX12_lay_276 zkb_6 ?_
                        refine q_iald E hI (q_tk (k' := 34) hI ha rfl (Nat.succ_ne_zero _)) ⟨by decide, rfl⟩ (by decide) (by rw [q_lnk (v := 4650) hI (q_tk (k' := 34) hI ha rfl (Nat.succ_ne_zero _)) rfl (by decide)]; decide) dX12_lay_278 ?_
                        refine lv_topi (fun f_35 ef_35 => ?_)
                        replace hF := q_letX hF ef_35
                        have if_35 : f_35.toInt = m_c X σ a 6 := (m_rd ef_35 (by decide)).trans (congrFun fxσ_15 _)
                        refine q_if_ge (A := f_35.toInt) E rfl (tgt := 289) dX12_lay_279 (by decide) (fun c_36 => ?_) (fun c_36 => ?_)
                        · skip
                          replace hF := q_ifn hF (Int.not_lt.mpr c_36)
                          refine lv_iconst (v := 0) hx hb dX12_lay_289 zki_0 ?_
                          refine lv_istore (lv' := [(8, .int 0), (0, .ref a), (1, .int v1), (2, .int v2), (3, .int v3), (4, .int v4), (5, .int x_11), (6, .int x_12), (7, .int x_13)]) hx hb dX12_lay_290 hl (by decide) rfl (fun ls hl => ?_)
                          have L_292_38 : ∀ (k_38 : Nat) (x_37 : Int32) (H : Heap) (locs : List Loc) (ls : Array Slot), (2147483647 - x_37.toInt).toNat < k_38 → (0 ≤ x_37.toInt ∧ x_37.toInt ≤ 10) → (∀ t, 0 ≤ t → t < x_37.toInt → m_of σ_15 (q_rf X a 28) t ≤ m_c X σ a (34 + 10 * m_c X σ a 6 + t)) → (F_X12_lay_L292_5 X σ_15 a k_38 x_37 = out) → q_I X 1 σ s.heap locs σ_15 H → lv_has ls 9 [(0, .ref a), (1, .int v1), (2, .int v2), (3, .int v3), (4, .int v4), (5, .int x_11), (6, .int x_12), (7, .int x_13), (8, .int x_37)] → W p l e (q_rm 2 46) s m ([.ref a, .int v1, .int v2, .int v3, .int v4] : List Value).toArray below meth c H locs 0 0 (MQ below (q_Qi X 1 σ (fun (r : Int32) (σ' : ST) => (m_G (m_c X σ' a)) ∧ (m_W (m_c X σ' a) (n + 301)) ∧ (∀ j, 930 ≤ j → j < 3720 → m_c X σ' a j = m_c X σ a j) ∧ (r, σ') = F_X12_lay X σ a v1 v2 v3 v4 ∧ q_ow [(12, 0), (12, 1), (34, 99), (39, 99), (40, 99)] [] X σ σ')) ([.ref a, .int v1, .int v2, .int v3, .int v4] : List Value).toArray s 0 0 (q_reg X)) (F0 m 292 ls []) := by
                            clear hF
                            intro k_38
                            induction k_38 with
                            | zero =>
                              intro x_37 H locs ls hms
                              exact absurd hms (Nat.not_lt_zero _)
                            | succ k_38 ih292 =>
                              intro x_37 H locs ls hm292 hge292 hq292 hF hI hl
                              replace hF := (F_X12_lay_L292_5_s).symm.trans hF
                              unfold F_X12_lay_B292_5 at hF
                              refine lv_iload hx hb dX12_lay_292 (lv_at hl 8 rfl) ?_
                              refine lv_bipush (v := 10) hx hb dX12_lay_294 zkb_10 ?_
                              have gc_39_x_37 := q_rng x_37
                              refine q_icmp_ge (A := x_37.toInt) (B := 10) E rfl (by decide) (tgt := 335) dX12_lay_296 (by decide) (fun c_39 => ?_) (fun c_39 => ?_)
                              · skip
                                replace hF := q_ifn hF (Int.not_lt.mpr c_39)
                                unfold F_X12_lay_E335_6 at hF
                                refine lv_aload_n hx hb dX12_lay_335 rfl (lv_at hl 0 rfl) ?_
                                refine lv_aload_n hx hb dX12_lay_336 rfl (lv_at hl 0 rfl) ?_
                                refine gs_X12_35_12 E hI ha dX12_lay_337 ?_
                                refine lv_bipush (v := 6) hx hb dX12_lay_340 zkb_6 ?_
                                refine q_iald E hI (q_tk (k' := 34) hI ha rfl (Nat.succ_ne_zero _)) ⟨by decide, rfl⟩ (by decide) (by rw [q_lnk (v := 4650) hI (q_tk (k' := 34) hI ha rfl (Nat.succ_ne_zero _)) rfl (by decide)]; decide) dX12_lay_342 ?_
                                refine lv_topi (fun f_40 ef_40 => ?_)
                                replace hF := q_letX hF ef_40
                                have if_40 : f_40.toInt = m_c X σ a 6 := (m_rd ef_40 (by decide)).trans (congrFun fxσ_15 _)
                                refine lv_aload_n hx hb dX12_lay_343 rfl (lv_at hl 0 rfl) ?_
                                refine gs_X12_47_12 E hI ha dX12_lay_344 ?_
                                refine q_cv (q_rV11_2 (rest := []) E (hml.trans hl.1.symm) hI (c_X12_laysDown l X σ_15 a f_40 (q_rf X a 28) ha (q_tk (k' := 39) hI ha rfl (Nat.succ_ne_zero _)) (by rw [fxσ_15, if_40]; exact ⟨hG, by omega, fun k a b => ⟨nnσ_15 k a b, hq292 k a (by first | (clear hn gσ wσ hh gσ_1 wσ_1 gσ_2 wσ_2 gσ_3 wσ_3 gσ_4 wσ_4 gσ_5 wσ_5 gσ_6 wσ_6 hm42 hge42 gσ_8 wσ_8 gc_10_x_7 c_10 hm75 hge75 szσ_15 gσ_15 wσ_15 gc_17_x_14 c_17 c_18 c_22 if_23 gc_24_x_11 gc_24_f_23 c_24 if_25 gc_26_f_25 c_26 if_30 c_31 if_35 c_36 hm292 hq292 gc_39_x_37 if_40; omega) | omega)⟩, by omega⟩) (by rw [fxσ_15]; omega)) kv_X12_311 ha ⟨Nat.le_of_ble_eq_true rfl, Nat.le_of_ble_eq_true rfl⟩ (Nat.le_of_ble_eq_true rfl) dX12_lay_347) hI (Nat.le_of_ble_eq_true rfl) (fun σ_42 H locs hpσ_42 hkσ_42 hI => ?_)
                                have ahpσ_42 := hpσ_42.1
                                have bhpσ_42 := hpσ_42.2.1
                                have chpσ_42 := hpσ_42.2.2.1
                                have dhpσ_42 := hpσ_42.2.2.2.1
                                have ehpσ_42 := hpσ_42.2.2.2.2.1
                                have fhpσ_42 := hpσ_42.2.2.2.2.2.1
                                have ghpσ_42 := hpσ_42.2.2.2.2.2.2.1
                                have hhpσ_42 := hpσ_42.2.2.2.2.2.2.2
                                clear hpσ_42
                                have fr_σ_42 := fr_σ_15.call hhpσ_42 rfl rfl
                                replace hF := q_letX hF ghpσ_42
                                have gσ_42 : m_G (m_c X σ_42 a) := ahpσ_42
                                have wσ_42 : m_W (m_c X σ_42 a) n := m_W.ext (fun j h0 h1 => bhpσ_42 j (by first | (clear hn gσ wσ hh gσ_1 wσ_1 gσ_2 wσ_2 gσ_3 wσ_3 gσ_4 wσ_4 gσ_5 wσ_5 gσ_6 wσ_6 hm42 hge42 gσ_8 wσ_8 gc_10_x_7 c_10 hm75 hge75 szσ_15 gσ_15 wσ_15 gc_17_x_14 c_17 c_18 c_22 if_23 gc_24_x_11 gc_24_f_23 c_24 if_25 gc_26_f_25 c_26 if_30 c_31 if_35 c_36 hm292 hge292 hq292 gc_39_x_37 c_39 if_40 ahpσ_42 bhpσ_42 chpσ_42 dhpσ_42 ehpσ_42 fhpσ_42 gσ_42; omega) | omega) (by first | (clear hn gσ wσ hh gσ_1 wσ_1 gσ_2 wσ_2 gσ_3 wσ_3 gσ_4 wσ_4 gσ_5 wσ_5 gσ_6 wσ_6 hm42 hge42 gσ_8 wσ_8 gc_10_x_7 c_10 hm75 hge75 szσ_15 gσ_15 wσ_15 gc_17_x_14 c_17 c_18 c_22 if_23 gc_24_x_11 gc_24_f_23 c_24 if_25 gc_26_f_25 c_26 if_30 c_31 if_35 c_36 hm292 hge292 hq292 gc_39_x_37 c_39 if_40 ahpσ_42 bhpσ_42 chpσ_42 dhpσ_42 ehpσ_42 fhpσ_42 gσ_42; omega) | omega)) wσ_15
                                have kqσ_42 : ∀ j, 654 ≤ j → m_c X σ_42 a j = m_c X σ a j := (fun j h => (bhpσ_42 j (by first | (clear hn gσ wσ hh gσ_1 wσ_1 gσ_2 wσ_2 gσ_3 wσ_3 gσ_4 wσ_4 gσ_5 wσ_5 gσ_6 wσ_6 hm42 hge42 gσ_8 wσ_8 gc_10_x_7 c_10 hm75 hge75 szσ_15 gσ_15 wσ_15 gc_17_x_14 c_17 c_18 c_22 if_23 gc_24_x_11 gc_24_f_23 c_24 if_25 gc_26_f_25 c_26 if_30 c_31 if_35 c_36 hm292 hge292 hq292 gc_39_x_37 c_39 if_40 ahpσ_42 bhpσ_42 chpσ_42 dhpσ_42 ehpσ_42 fhpσ_42 gσ_42 wσ_42; omega) | omega) (by first | (clear hn gσ wσ hh gσ_1 wσ_1 gσ_2 wσ_2 gσ_3 wσ_3 gσ_4 wσ_4 gσ_5 wσ_5 gσ_6 wσ_6 hm42 hge42 gσ_8 wσ_8 gc_10_x_7 c_10 hm75 hge75 szσ_15 gσ_15 wσ_15 gc_17_x_14 c_17 c_18 c_22 if_23 gc_24_x_11 gc_24_f_23 c_24 if_25 gc_26_f_25 c_26 if_30 c_31 if_35 c_36 hm292 hge292 hq292 gc_39_x_37 c_39 if_40 ahpσ_42 bhpσ_42 chpσ_42 dhpσ_42 ehpσ_42 fhpσ_42 gσ_42 wσ_42; omega) | omega)).trans (kqσ_15 j h))
                                refine lv_aload_n hx hb dX12_lay_350 rfl (lv_at hl 0 rfl) ?_
                                refine q_ci (q_rV11_0 (rest := []) E (hml.trans hl.1.symm) hI (c_X12_heapMany l X σ_42 a ha gσ_42) kv_X12_287 ha ⟨Nat.le_of_ble_eq_true rfl, Nat.le_of_ble_eq_true rfl⟩ (Nat.le_of_ble_eq_true rfl) dX12_lay_351) hI (Nat.le_of_ble_eq_true rfl) (fun r_43 σ_44 H locs hpσ_44 hkσ_44 hI => ?_)
                                have ahpσ_44 := hpσ_44.1
                                have bhpσ_44 := hpσ_44.2.1
                                have chpσ_44 := hpσ_44.2.2.1
                                have dhpσ_44 := hpσ_44.2.2.2
                                clear hpσ_44
                                replace hI := q_Irw ahpσ_44 hI
                                replace hF := q_letX hF dhpσ_44
                                exact q_reti E hr hlk hI ⟨gσ_42, (by first | exact m_W.le vσ_42 (by omega) | exact m_W.le wσ_42 (by first | (clear hn gσ wσ hh gσ_1 wσ_1 gσ_2 wσ_2 gσ_3 wσ_3 gσ_4 wσ_4 gσ_5 wσ_5 gσ_6 wσ_6 hm42 hge42 gσ_8 wσ_8 gc_10_x_7 c_10 hm75 hge75 szσ_15 gσ_15 wσ_15 gc_17_x_14 c_17 c_18 c_22 if_23 gc_24_x_11 gc_24_f_23 c_24 if_25 gc_26_f_25 c_26 if_30 c_31 if_35 c_36 hm292 hge292 hq292 gc_39_x_37 c_39 if_40 ahpσ_42 bhpσ_42 chpσ_42 dhpσ_42 ehpσ_42 fhpσ_42 gσ_42 wσ_42 ahpσ_44 bhpσ_44 chpσ_44 dhpσ_44; omega) | omega)), (fun j h0 h1 => kqσ_42 j (by first | (clear hn gσ wσ hh gσ_1 wσ_1 gσ_2 wσ_2 gσ_3 wσ_3 gσ_4 wσ_4 gσ_5 wσ_5 gσ_6 wσ_6 hm42 hge42 gσ_8 wσ_8 gc_10_x_7 c_10 hm75 hge75 szσ_15 gσ_15 wσ_15 gc_17_x_14 c_17 c_18 c_22 if_23 gc_24_x_11 gc_24_f_23 c_24 if_25 gc_26_f_25 c_26 if_30 c_31 if_35 c_36 hm292 hge292 hq292 gc_39_x_37 c_39 if_40 ahpσ_42 bhpσ_42 chpσ_42 dhpσ_42 ehpσ_42 fhpσ_42 gσ_42 wσ_42 ahpσ_44 bhpσ_44 chpσ_44 dhpσ_44; omega) | omega)), (hF.trans hout), fr_σ_42⟩ dX12_lay_354
                              · skip
                                replace hF := q_ifp hF c_39
                                refine lv_aload_n hx hb dX12_lay_299 rfl (lv_at hl 0 rfl) ?_
                                refine gs_X12_47_12 E hI ha dX12_lay_300 ?_
                                refine lv_iload hx hb dX12_lay_303 (lv_at hl 8 rfl) ?_
                                refine q_iald E hI (q_tk (k' := 39) hI ha rfl (Nat.succ_ne_zero _)) ⟨by decide, rfl⟩ (by first | (clear hn gσ wσ hh gσ_1 wσ_1 gσ_2 wσ_2 gσ_3 wσ_3 gσ_4 wσ_4 gσ_5 wσ_5 gσ_6 wσ_6 hm42 hge42 gσ_8 wσ_8 gc_10_x_7 c_10 hm75 hge75 szσ_15 gσ_15 wσ_15 gc_17_x_14 c_17 c_18 c_22 if_23 gc_24_x_11 gc_24_f_23 c_24 if_25 gc_26_f_25 c_26 if_30 c_31 if_35 c_36 hm292 hq292 gc_39_x_37; omega) | omega) (by rw [q_lnk (v := 10) hI (q_tk (k' := 39) hI ha rfl (Nat.succ_ne_zero _)) rfl (by decide)]; omega) dX12_lay_305 ?_
                                refine lv_topi (fun f_45 ef_45 => ?_)
                                replace hF := q_letX hF ef_45
                                have lkf_45 : f_45.toInt = m_of σ_15 (q_rf X a 28) x_37.toInt := by rw [ef_45]; rfl
                                refine lv_aload_n hx hb dX12_lay_306 rfl (lv_at hl 0 rfl) ?_
                                refine lv_aload_n hx hb dX12_lay_307 rfl (lv_at hl 0 rfl) ?_
                                refine gs_X12_35_12 E hI ha dX12_lay_308 ?_
                                refine lv_bipush (v := 6) hx hb dX12_lay_311 zkb_6 ?_
                                refine q_iald E hI (q_tk (k' := 34) hI ha rfl (Nat.succ_ne_zero _)) ⟨by decide, rfl⟩ (by decide) (by rw [q_lnk (v := 4650) hI (q_tk (k' := 34) hI ha rfl (Nat.succ_ne_zero _)) rfl (by decide)]; decide) dX12_lay_313 ?_
                                refine lv_topi (fun f_46 ef_46 => ?_)
                                replace hF := q_letX hF ef_46
                                have if_46 : f_46.toInt = m_c X σ a 6 := (m_rd ef_46 (by decide)).trans (congrFun fxσ_15 _)
                                refine lv_iload hx hb dX12_lay_314 (lv_at hl 8 rfl) ?_
                                refine q_ci (q_rV11_2 (rest := [.int f_45]) E (hml.trans hl.1.symm) hI (c_X12_handOf l X σ_15 a f_46 x_37 ha (by first | (clear hn gσ wσ gσ_1 wσ_1 gσ_2 wσ_2 gσ_3 wσ_3 gσ_4 wσ_4 gσ_5 wσ_5 gσ_6 wσ_6 hm42 hge42 gσ_8 wσ_8 gc_10_x_7 c_10 hm75 hge75 szσ_15 gσ_15 wσ_15 gc_17_x_14 c_17 c_18 c_22 if_23 gc_24_x_11 gc_24_f_23 c_24 if_25 gc_26_f_25 c_26 if_30 c_31 hm292 hge292 hq292 gc_39_x_37 c_39 lkf_45; omega) | omega) (by first | (clear hn gσ wσ hh gσ_1 wσ_1 gσ_2 wσ_2 gσ_3 wσ_3 gσ_4 wσ_4 gσ_5 wσ_5 gσ_6 wσ_6 hm42 hge42 gσ_8 wσ_8 gc_10_x_7 c_10 hm75 hge75 szσ_15 gσ_15 wσ_15 gc_17_x_14 c_17 c_18 c_22 if_23 gc_24_x_11 gc_24_f_23 c_24 if_25 gc_26_f_25 c_26 if_30 c_31 if_35 c_36 hm292 hq292 gc_39_x_37 lkf_45 if_46; omega) | omega)) kv_X12_276 ha ⟨Nat.le_of_ble_eq_true rfl, Nat.le_of_ble_eq_true rfl⟩ (Nat.le_of_ble_eq_true rfl) dX12_lay_316) hI (Nat.le_of_ble_eq_true rfl) (fun r_47 σ_48 H locs hpσ_48 hkσ_48 hI => ?_)
                                have ahpσ_48 := hpσ_48.1
                                have bhpσ_48 := hpσ_48.2.1
                                have chpσ_48 := hpσ_48.2.2
                                clear hpσ_48
                                replace hI := q_Irw ahpσ_48 hI
                                rw [fxσ_15] at bhpσ_48
                                replace hF := q_letX hF chpσ_48
                                have ir_47 : r_47.toInt = (m_c X σ a (34 + 10 * (m_c X σ a 6) + x_37.toInt)) := (by first | exact bhpσ_48 | (rw [bhpσ_48, if_46]) | (simp only [bhpσ_48, if_46]))
                                have gc_49_f_45 := q_rng f_45
                                have gc_49_r_47 := q_rng r_47
                                refine q_icmp_le (A := f_45.toInt) (B := r_47.toInt) E rfl rfl (tgt := 329) dX12_lay_319 (by decide) (fun c_49 => ?_) (fun c_49 => ?_)
                                · skip
                                  replace hF := q_ifn hF (Int.not_lt.mpr c_49)
                                  obtain ⟨z_50, ez_50⟩ : ∃ y : Int32, y = x_37 + 1 := ⟨_, rfl⟩
                                  replace hF := q_letX hF ez_50
                                  refine lv_iinc (v := z_50) (lv' := [(8, .int z_50), (0, .ref a), (1, .int v1), (2, .int v2), (3, .int v3), (4, .int v4), (5, .int x_11), (6, .int x_12), (7, .int x_13)]) hx hb dX12_lay_329 hl (k := 8) rfl (by rw [ez_50]; rfl) (by decide) rfl (fun ls hl => ?_)
                                  have iz_50 : z_50.toInt = x_37.toInt + 1 := q_inc ez_50 (by first | (clear hn gσ wσ hh gσ_1 wσ_1 gσ_2 wσ_2 gσ_3 wσ_3 gσ_4 wσ_4 gσ_5 wσ_5 gσ_6 wσ_6 hm42 hge42 gσ_8 wσ_8 gc_10_x_7 c_10 hm75 hge75 szσ_15 gσ_15 wσ_15 gc_17_x_14 c_17 c_18 c_22 if_23 gc_24_x_11 gc_24_f_23 c_24 if_25 gc_26_f_25 c_26 if_30 c_31 if_35 c_36 hm292 hq292 gc_39_x_37 lkf_45 if_46 ahpσ_48 bhpσ_48 chpσ_48 ir_47 gc_49_f_45 gc_49_r_47 c_49; omega) | omega)
                                  have hqz_50 : ∀ t, 0 ≤ t → t < z_50.toInt → m_of σ_15 (q_rf X a 28) t ≤ m_c X σ a (34 + 10 * m_c X σ a 6 + t) := fun t h0 h1 => if w : t = x_37.toInt then (by rw [w]; omega) else hq292 t h0 (by first | (clear hn gσ wσ hh gσ_1 wσ_1 gσ_2 wσ_2 gσ_3 wσ_3 gσ_4 wσ_4 gσ_5 wσ_5 gσ_6 wσ_6 hm42 hge42 gσ_8 wσ_8 gc_10_x_7 c_10 hm75 hge75 szσ_15 gσ_15 wσ_15 gc_17_x_14 c_17 c_18 c_22 if_23 gc_24_x_11 gc_24_f_23 c_24 if_25 gc_26_f_25 c_26 if_30 c_31 if_35 c_36 hm292 hge292 hq292 gc_39_x_37 c_39 lkf_45 if_46 ahpσ_48 bhpσ_48 chpσ_48 ir_47 gc_49_f_45 gc_49_r_47 c_49; omega) | omega)
                                  refine lv_goto (tgt := 292) hx hb dX12_lay_332 (by decide) ?_
                                  exact ih292 z_50 _ _ ls (by first | (clear hn gσ wσ hh gσ_1 wσ_1 gσ_2 wσ_2 gσ_3 wσ_3 gσ_4 wσ_4 gσ_5 wσ_5 gσ_6 wσ_6 hm42 hge42 gσ_8 wσ_8 gc_10_x_7 c_10 hm75 hge75 szσ_15 gσ_15 wσ_15 gc_17_x_14 c_17 c_18 c_22 if_23 gc_24_x_11 gc_24_f_23 c_24 if_25 gc_26_f_25 c_26 if_30 c_31 if_35 c_36 hq292 gc_39_x_37 lkf_45 if_46 ahpσ_48 bhpσ_48 chpσ_48 ir_47 gc_49_f_45 gc_49_r_47 c_49; omega) | omega) (by first | (clear hn gσ wσ hh gσ_1 wσ_1 gσ_2 wσ_2 gσ_3 wσ_3 gσ_4 wσ_4 gσ_5 wσ_5 gσ_6 wσ_6 hm42 hge42 gσ_8 wσ_8 gc_10_x_7 c_10 hm75 hge75 szσ_15 gσ_15 wσ_15 gc_17_x_14 c_17 c_18 c_22 if_23 gc_24_x_11 gc_24_f_23 c_24 if_25 gc_26_f_25 c_26 if_30 c_31 if_35 c_36 hm292 hq292 gc_39_x_37 lkf_45 if_46 ahpσ_48 bhpσ_48 chpσ_48 ir_47 gc_49_f_45 gc_49_r_47 c_49; omega) | omega) hqz_50 hF hI (lv_sub hl [1, 2, 3, 4, 5, 6, 7, 8, 0] rfl)
                                · skip
                                  replace hF := q_ifp hF c_49
                                  unfold F_X12_lay_E322_7 at hF
                                  refine lv_aload_n hx hb dX12_lay_322 rfl (lv_at hl 0 rfl) ?_
                                  refine lv_bipush (v := 9) hx hb dX12_lay_323 zkb_9 ?_
                                  have kc_51 : (9 : Int32).toInt = 9 := zt_9
                                  refine q_ci (q_rV11_1 (rest := []) E (hml.trans hl.1.symm) hI (c_X12_refuse l X σ_15 a (9 : Int32) ha) kv_X12_284 ha ⟨Nat.le_of_ble_eq_true rfl, Nat.le_of_ble_eq_true rfl⟩ (Nat.le_of_ble_eq_true rfl) dX12_lay_325) hI (Nat.le_of_ble_eq_true rfl) (fun r_52 σ_53 H locs hpσ_53 hkσ_53 hI => ?_)
                                  have ahpσ_53 := hpσ_53.1
                                  have bhpσ_53 := hpσ_53.2.1
                                  have chpσ_53 := hpσ_53.2.2
                                  clear hpσ_53
                                  have fr_σ_53 := fr_σ_15.call chpσ_53 rfl rfl
                                  replace hF := q_biX hF bhpσ_53
                                  have mcσ_53 := m_cK hkσ_53 hI.1 ha (by decide)
                                  have gσ_53 : m_G (m_c X σ_53 a) := m_G.ext (fun j _ _ => mcσ_53 j) gσ_15
                                  have wσ_53 : m_W (m_c X σ_53 a) n := m_W.ext (fun j _ _ => mcσ_53 j) wσ_15
                                  have kqσ_53 : ∀ j, 654 ≤ j → m_c X σ_53 a j = m_c X σ a j := fun j h => (mcσ_53 j).trans (kqσ_15 j h)
                                  have fxσ_53 : m_c X σ_53 a = m_c X σ a := (funext mcσ_53).trans fxσ_15
                                  exact q_reti E hr hlk hI ⟨gσ_53, (by first | exact m_W.le vσ_53 (by omega) | exact m_W.le wσ_53 (by first | (clear hn gσ wσ hh gσ_1 wσ_1 gσ_2 wσ_2 gσ_3 wσ_3 gσ_4 wσ_4 gσ_5 wσ_5 gσ_6 wσ_6 hm42 hge42 gσ_8 wσ_8 gc_10_x_7 c_10 hm75 hge75 szσ_15 gσ_15 wσ_15 gc_17_x_14 c_17 c_18 c_22 if_23 gc_24_x_11 gc_24_f_23 c_24 if_25 gc_26_f_25 c_26 if_30 c_31 if_35 c_36 hm292 hge292 hq292 gc_39_x_37 c_39 lkf_45 if_46 ahpσ_48 bhpσ_48 chpσ_48 ir_47 gc_49_f_45 gc_49_r_47 c_49 kc_51 ahpσ_53 bhpσ_53 chpσ_53 gσ_53 wσ_53; omega) | omega)), (fun j h0 h1 => kqσ_53 j (by first | (clear hn gσ wσ hh gσ_1 wσ_1 gσ_2 wσ_2 gσ_3 wσ_3 gσ_4 wσ_4 gσ_5 wσ_5 gσ_6 wσ_6 hm42 hge42 gσ_8 wσ_8 gc_10_x_7 c_10 hm75 hge75 szσ_15 gσ_15 wσ_15 gc_17_x_14 c_17 c_18 c_22 if_23 gc_24_x_11 gc_24_f_23 c_24 if_25 gc_26_f_25 c_26 if_30 c_31 if_35 c_36 hm292 hge292 hq292 gc_39_x_37 c_39 lkf_45 if_46 ahpσ_48 bhpσ_48 chpσ_48 ir_47 gc_49_f_45 gc_49_r_47 c_49 kc_51 ahpσ_53 bhpσ_53 chpσ_53 gσ_53 wσ_53; omega) | omega)), (hF.trans hout), fr_σ_53⟩ dX12_lay_328
                          have kc_54 : (0 : Int32).toInt = 0 := zt_0
                          exact L_292_38 ((2147483647 - (0 : Int32).toInt).toNat + 1) 0 _ _ ls (Nat.lt_succ_self _) (by decide) (fun t h0 h1 => by have q : (0 : Int32).toInt = 0 := rfl; omega) hF hI (lv_sub hl [1, 2, 3, 4, 5, 6, 7, 8, 0] rfl)
                        · skip
                          replace hF := q_ifp hF c_36
                          refine lv_aload_n hx hb dX12_lay_282 rfl (lv_at hl 0 rfl) ?_
                          refine lv_bipush (v := 9) hx hb dX12_lay_283 zkb_9 ?_
                          have kc_55 : (9 : Int32).toInt = 9 := zt_9
                          refine q_ci (q_rV11_1 (rest := []) E (hml.trans hl.1.symm) hI (c_X12_refuse l X σ_15 a (9 : Int32) ha) kv_X12_284 ha ⟨Nat.le_of_ble_eq_true rfl, Nat.le_of_ble_eq_true rfl⟩ (Nat.le_of_ble_eq_true rfl) dX12_lay_285) hI (Nat.le_of_ble_eq_true rfl) (fun r_56 σ_57 H locs hpσ_57 hkσ_57 hI => ?_)
                          have ahpσ_57 := hpσ_57.1
                          have bhpσ_57 := hpσ_57.2.1
                          have chpσ_57 := hpσ_57.2.2
                          clear hpσ_57
                          have fr_σ_57 := fr_σ_15.call chpσ_57 rfl rfl
                          replace hF := q_biX hF bhpσ_57
                          have mcσ_57 := m_cK hkσ_57 hI.1 ha (by decide)
                          have gσ_57 : m_G (m_c X σ_57 a) := m_G.ext (fun j _ _ => mcσ_57 j) gσ_15
                          have wσ_57 : m_W (m_c X σ_57 a) n := m_W.ext (fun j _ _ => mcσ_57 j) wσ_15
                          have kqσ_57 : ∀ j, 654 ≤ j → m_c X σ_57 a j = m_c X σ a j := fun j h => (mcσ_57 j).trans (kqσ_15 j h)
                          have fxσ_57 : m_c X σ_57 a = m_c X σ a := (funext mcσ_57).trans fxσ_15
                          exact q_reti E hr hlk hI ⟨gσ_57, (by first | exact m_W.le vσ_57 (by omega) | exact m_W.le wσ_57 (by first | (clear hn gσ wσ hh gσ_1 wσ_1 gσ_2 wσ_2 gσ_3 wσ_3 gσ_4 wσ_4 gσ_5 wσ_5 gσ_6 wσ_6 hm42 hge42 gσ_8 wσ_8 gc_10_x_7 c_10 hm75 hge75 szσ_15 gσ_15 wσ_15 gc_17_x_14 c_17 c_18 c_22 if_23 gc_24_x_11 gc_24_f_23 c_24 if_25 gc_26_f_25 c_26 if_30 c_31 if_35 c_36 kc_55 ahpσ_57 bhpσ_57 chpσ_57 gσ_57 wσ_57; omega) | omega)), (fun j h0 h1 => kqσ_57 j (by first | (clear hn gσ wσ hh gσ_1 wσ_1 gσ_2 wσ_2 gσ_3 wσ_3 gσ_4 wσ_4 gσ_5 wσ_5 gσ_6 wσ_6 hm42 hge42 gσ_8 wσ_8 gc_10_x_7 c_10 hm75 hge75 szσ_15 gσ_15 wσ_15 gc_17_x_14 c_17 c_18 c_22 if_23 gc_24_x_11 gc_24_f_23 c_24 if_25 gc_26_f_25 c_26 if_30 c_31 if_35 c_36 kc_55 ahpσ_57 bhpσ_57 chpσ_57 gσ_57 wσ_57; omega) | omega)), (hF.trans hout), fr_σ_57⟩ dX12_lay_288
                  · skip
                    replace hF := q_ifp hF c_24
                    refine lv_aload_n hx hb dX12_lay_244 rfl (lv_at hl 0 rfl) ?_
                    refine lv_bipush (v := 7) hx hb dX12_lay_245 zkb_7 ?_
                    have kc_58 : (7 : Int32).toInt = 7 := zt_7
                    refine q_ci (q_rV11_1 (rest := []) E (hml.trans hl.1.symm) hI (c_X12_refuse l X σ_15 a (7 : Int32) ha) kv_X12_284 ha ⟨Nat.le_of_ble_eq_true rfl, Nat.le_of_ble_eq_true rfl⟩ (Nat.le_of_ble_eq_true rfl) dX12_lay_247) hI (Nat.le_of_ble_eq_true rfl) (fun r_59 σ_60 H locs hpσ_60 hkσ_60 hI => ?_)
                    have ahpσ_60 := hpσ_60.1
                    have bhpσ_60 := hpσ_60.2.1
                    have chpσ_60 := hpσ_60.2.2
                    clear hpσ_60
                    have fr_σ_60 := fr_σ_15.call chpσ_60 rfl rfl
                    replace hF := q_biX hF bhpσ_60
                    have mcσ_60 := m_cK hkσ_60 hI.1 ha (by decide)
                    have gσ_60 : m_G (m_c X σ_60 a) := m_G.ext (fun j _ _ => mcσ_60 j) gσ_15
                    have wσ_60 : m_W (m_c X σ_60 a) n := m_W.ext (fun j _ _ => mcσ_60 j) wσ_15
                    have kqσ_60 : ∀ j, 654 ≤ j → m_c X σ_60 a j = m_c X σ a j := fun j h => (mcσ_60 j).trans (kqσ_15 j h)
                    have fxσ_60 : m_c X σ_60 a = m_c X σ a := (funext mcσ_60).trans fxσ_15
                    exact q_reti E hr hlk hI ⟨gσ_60, (by first | exact m_W.le vσ_60 (by omega) | exact m_W.le wσ_60 (by first | (clear hn gσ wσ hh gσ_1 wσ_1 gσ_2 wσ_2 gσ_3 wσ_3 gσ_4 wσ_4 gσ_5 wσ_5 gσ_6 wσ_6 hm42 hge42 gσ_8 wσ_8 gc_10_x_7 c_10 hm75 hge75 szσ_15 gσ_15 wσ_15 gc_17_x_14 c_17 c_18 c_22 if_23 gc_24_x_11 gc_24_f_23 c_24 kc_58 ahpσ_60 bhpσ_60 chpσ_60 gσ_60 wσ_60; omega) | omega)), (fun j h0 h1 => kqσ_60 j (by first | (clear hn gσ wσ hh gσ_1 wσ_1 gσ_2 wσ_2 gσ_3 wσ_3 gσ_4 wσ_4 gσ_5 wσ_5 gσ_6 wσ_6 hm42 hge42 gσ_8 wσ_8 gc_10_x_7 c_10 hm75 hge75 szσ_15 gσ_15 wσ_15 gc_17_x_14 c_17 c_18 c_22 if_23 gc_24_x_11 gc_24_f_23 c_24 kc_58 ahpσ_60 bhpσ_60 chpσ_60 gσ_60 wσ_60; omega) | omega)), (hF.trans hout), fr_σ_60⟩ dX12_lay_250
                · skip
                  replace hF := q_ifn hF c_22
                  refine lv_aload_n hx hb dX12_lay_227 rfl (lv_at hl 0 rfl) ?_
                  refine lv_iconst (v := 5) hx hb dX12_lay_228 zki_5 ?_
                  have kc_61 : (5 : Int32).toInt = 5 := zt_5
                  refine q_ci (q_rV11_1 (rest := []) E (hml.trans hl.1.symm) hI (c_X12_refuse l X σ_15 a (5 : Int32) ha) kv_X12_284 ha ⟨Nat.le_of_ble_eq_true rfl, Nat.le_of_ble_eq_true rfl⟩ (Nat.le_of_ble_eq_true rfl) dX12_lay_229) hI (Nat.le_of_ble_eq_true rfl) (fun r_62 σ_63 H locs hpσ_63 hkσ_63 hI => ?_)
                  have ahpσ_63 := hpσ_63.1
                  have bhpσ_63 := hpσ_63.2.1
                  have chpσ_63 := hpσ_63.2.2
                  clear hpσ_63
                  have fr_σ_63 := fr_σ_15.call chpσ_63 rfl rfl
                  replace hF := q_biX hF bhpσ_63
                  have mcσ_63 := m_cK hkσ_63 hI.1 ha (by decide)
                  have gσ_63 : m_G (m_c X σ_63 a) := m_G.ext (fun j _ _ => mcσ_63 j) gσ_15
                  have wσ_63 : m_W (m_c X σ_63 a) n := m_W.ext (fun j _ _ => mcσ_63 j) wσ_15
                  have kqσ_63 : ∀ j, 654 ≤ j → m_c X σ_63 a j = m_c X σ a j := fun j h => (mcσ_63 j).trans (kqσ_15 j h)
                  have fxσ_63 : m_c X σ_63 a = m_c X σ a := (funext mcσ_63).trans fxσ_15
                  exact q_reti E hr hlk hI ⟨gσ_63, (by first | exact m_W.le vσ_63 (by omega) | exact m_W.le wσ_63 (by first | (clear hn gσ wσ hh gσ_1 wσ_1 gσ_2 wσ_2 gσ_3 wσ_3 gσ_4 wσ_4 gσ_5 wσ_5 gσ_6 wσ_6 hm42 hge42 gσ_8 wσ_8 gc_10_x_7 c_10 hm75 hge75 szσ_15 gσ_15 wσ_15 gc_17_x_14 c_17 c_18 c_22 kc_61 ahpσ_63 bhpσ_63 chpσ_63 gσ_63 wσ_63; omega) | omega)), (fun j h0 h1 => kqσ_63 j (by first | (clear hn gσ wσ hh gσ_1 wσ_1 gσ_2 wσ_2 gσ_3 wσ_3 gσ_4 wσ_4 gσ_5 wσ_5 gσ_6 wσ_6 hm42 hge42 gσ_8 wσ_8 gc_10_x_7 c_10 hm75 hge75 szσ_15 gσ_15 wσ_15 gc_17_x_14 c_17 c_18 c_22 kc_61 ahpσ_63 bhpσ_63 chpσ_63 gσ_63 wσ_63; omega) | omega)), (hF.trans hout), fr_σ_63⟩ dX12_lay_232
            · skip
              replace hF := q_ifp hF c_17
              refine lv_aload_n hx hb dX12_lay_81 rfl (lv_at hl 0 rfl) ?_
              refine gs_X12_50_12 E hI ha dX12_lay_82 ?_
              refine lv_iload hx hb dX12_lay_85 (lv_at hl 8 rfl) ?_
              refine q_iald E hI (q_tk (k' := 40) hI ha rfl (Nat.succ_ne_zero _)) ⟨by decide, rfl⟩ (by first | (clear hn gσ wσ hh gσ_1 wσ_1 gσ_2 wσ_2 gσ_3 wσ_3 gσ_4 wσ_4 gσ_5 wσ_5 gσ_6 wσ_6 hm42 hge42 gσ_8 wσ_8 gc_10_x_7 c_10 hm75 szσ_15 gσ_15 wσ_15 gc_17_x_14; omega) | omega) (by rw [q_lnk (v := 4) hI (q_tk (k' := 40) hI ha rfl (Nat.succ_ne_zero _)) rfl (by decide)]; omega) dX12_lay_87 ?_
              refine lv_topi (fun f_64 ef_64 => ?_)
              replace hF := q_letX hF ef_64
              have asf_64 : f_64.toInt = m_of σ_15 (q_rf X a 29) x_14.toInt := by rw [ef_64]; rfl
              refine lv_iconst (v := (-1)) hx hb dX12_lay_88 zki_m1 ?_
              have J_112_64 : ∀  (H : Heap) (locs : List Loc) (ls : Array Slot), (m_of σ_15 (q_rf X a 29) x_14.toInt = -1 ∨ (0 ≤ m_of σ_15 (q_rf X a 29) x_14.toInt ∧ m_of σ_15 (q_rf X a 29) x_14.toInt < m_c X σ a 0)) → (F_X12_lay_J112_8 X x_13 σ_15 a x_14 x_12 x_11 (F_X12_lay_L75_3 X a k_16) = out) → q_I X 1 σ s.heap locs σ_15 H → lv_has ls 9 [(0, .ref a), (1, .int v1), (2, .int v2), (3, .int v3), (4, .int v4), (5, .int x_11), (6, .int x_12), (7, .int x_13), (8, .int x_14)] → W p l e (q_rm 2 46) s m ([.ref a, .int v1, .int v2, .int v3, .int v4] : List Value).toArray below meth c H locs 0 0 (MQ below (q_Qi X 1 σ (fun (r : Int32) (σ' : ST) => (m_G (m_c X σ' a)) ∧ (m_W (m_c X σ' a) (n + 301)) ∧ (∀ j, 930 ≤ j → j < 3720 → m_c X σ' a j = m_c X σ a j) ∧ (r, σ') = F_X12_lay X σ a v1 v2 v3 v4 ∧ q_ow [(12, 0), (12, 1), (34, 99), (39, 99), (40, 99)] [] X σ σ')) ([.ref a, .int v1, .int v2, .int v3, .int v4] : List Value).toArray s 0 0 (q_reg X)) (F0 m 112 ls []) := by
                clear hF
                intro  H locs ls j112 hF hI hl
                unfold F_X12_lay_J112_8 at hF
                refine lv_iload hx hb dX12_lay_112 (lv_at hl 7 rfl) ?_
                have J_133_65 : ∀ (x_65 : Int32) (H : Heap) (locs : List Loc) (ls : Array Slot), (F_X12_lay_J133_9 X x_12 σ_15 a x_14 x_11 (F_X12_lay_L75_3 X a k_16) x_65 = out) → q_I X 1 σ s.heap locs σ_15 H → lv_has ls 9 [(0, .ref a), (1, .int v1), (2, .int v2), (3, .int v3), (4, .int v4), (5, .int x_11), (6, .int x_12), (7, .int x_13), (8, .int x_14)] → W p l e (q_rm 2 46) s m ([.ref a, .int v1, .int v2, .int v3, .int v4] : List Value).toArray below meth c H locs 0 0 (MQ below (q_Qi X 1 σ (fun (r : Int32) (σ' : ST) => (m_G (m_c X σ' a)) ∧ (m_W (m_c X σ' a) (n + 301)) ∧ (∀ j, 930 ≤ j → j < 3720 → m_c X σ' a j = m_c X σ a j) ∧ (r, σ') = F_X12_lay X σ a v1 v2 v3 v4 ∧ q_ow [(12, 0), (12, 1), (34, 99), (39, 99), (40, 99)] [] X σ σ')) ([.ref a, .int v1, .int v2, .int v3, .int v4] : List Value).toArray s 0 0 (q_reg X)) (F0 m 133 ls [.int x_65]) := by
                  clear hF
                  intro x_65 H locs ls  hF hI hl
                  unfold F_X12_lay_J133_9 at hF
                  refine lv_istore (lv' := [(7, .int x_65), (0, .ref a), (1, .int v1), (2, .int v2), (3, .int v3), (4, .int v4), (5, .int x_11), (6, .int x_12), (8, .int x_14)]) hx hb dX12_lay_133 hl (by decide) rfl (fun ls hl => ?_)
                  refine lv_iload hx hb dX12_lay_135 (lv_at hl 7 rfl) ?_
                  have J_161_66 : ∀ (x_66 : Int32) (H : Heap) (locs : List Loc) (ls : Array Slot), (F_X12_lay_J161_10 X σ_15 a x_14 x_11 (F_X12_lay_L75_3 X a k_16) x_65 x_66 = out) → q_I X 1 σ s.heap locs σ_15 H → lv_has ls 9 [(0, .ref a), (1, .int v1), (2, .int v2), (3, .int v3), (4, .int v4), (5, .int x_11), (6, .int x_12), (7, .int x_65), (8, .int x_14)] → W p l e (q_rm 2 46) s m ([.ref a, .int v1, .int v2, .int v3, .int v4] : List Value).toArray below meth c H locs 0 0 (MQ below (q_Qi X 1 σ (fun (r : Int32) (σ' : ST) => (m_G (m_c X σ' a)) ∧ (m_W (m_c X σ' a) (n + 301)) ∧ (∀ j, 930 ≤ j → j < 3720 → m_c X σ' a j = m_c X σ a j) ∧ (r, σ') = F_X12_lay X σ a v1 v2 v3 v4 ∧ q_ow [(12, 0), (12, 1), (34, 99), (39, 99), (40, 99)] [] X σ σ')) ([.ref a, .int v1, .int v2, .int v3, .int v4] : List Value).toArray s 0 0 (q_reg X)) (F0 m 161 ls [.int x_66]) := by
                    clear hF
                    intro x_66 H locs ls  hF hI hl
                    unfold F_X12_lay_J161_10 at hF
                    refine lv_istore (lv' := [(6, .int x_66), (0, .ref a), (1, .int v1), (2, .int v2), (3, .int v3), (4, .int v4), (5, .int x_11), (7, .int x_65), (8, .int x_14)]) hx hb dX12_lay_161 hl (by decide) rfl (fun ls hl => ?_)
                    refine lv_iload hx hb dX12_lay_163 (lv_at hl 6 rfl) ?_
                    refine lv_aload_n hx hb dX12_lay_165 rfl (lv_at hl 1 rfl) ?_
                    refine gs_X12_50_12 E hI ha dX12_lay_166 ?_
                    refine lv_iload hx hb dX12_lay_169 (lv_at hl 8 rfl) ?_
                    refine q_iald E hI (q_tk (k' := 40) hI ha rfl (Nat.succ_ne_zero _)) ⟨by decide, rfl⟩ (by first | (clear hn gσ wσ hh gσ_1 wσ_1 gσ_2 wσ_2 gσ_3 wσ_3 gσ_4 wσ_4 gσ_5 wσ_5 gσ_6 wσ_6 hm42 hge42 gσ_8 wσ_8 gc_10_x_7 c_10 hm75 szσ_15 gσ_15 wσ_15 gc_17_x_14 asf_64 j112; omega) | omega) (by rw [q_lnk (v := 4) hI (q_tk (k' := 40) hI ha rfl (Nat.succ_ne_zero _)) rfl (by decide)]; omega) dX12_lay_171 ?_
                    refine lv_topi (fun f_67 ef_67 => ?_)
                    replace hF := q_letX hF ef_67
                    have asf_67 : f_67.toInt = m_of σ_15 (q_rf X a 29) x_14.toInt := by rw [ef_67]; rfl
                    refine lv_iconst (v := (-1)) hx hb dX12_lay_172 zki_m1 ?_
                    have gc_68_f_67 := q_rng f_67
                    refine q_icmp_ne (A := f_67.toInt) (B := (-1)) E rfl (by decide) (tgt := 180) dX12_lay_173 (by decide) (fun c_68 => ?_) (fun c_68 => ?_)
                    · skip
                      replace hF := q_ifn hF c_68
                      refine lv_iconst (v := 1) hx hb dX12_lay_180 zki_1 ?_
                      refine lv_iadd hx hb dX12_lay_181 ?_
                      refine lv_topi (fun z_69 ez_69 => ?_)
                      replace hF := q_letX hF ez_69
                      have iz_69 := q_addI (A := x_11.toInt) (B := 1) ez_69 rfl (by decide) (by first | (clear hn gσ wσ hh gσ_1 wσ_1 gσ_2 wσ_2 gσ_3 wσ_3 gσ_4 wσ_4 gσ_5 wσ_5 gσ_6 wσ_6 hm42 hge42 gσ_8 wσ_8 gc_10_x_7 c_10 hm75 gσ_15 wσ_15 gc_17_x_14 c_17 asf_64 j112 asf_67 gc_68_f_67 c_68; omega) | omega) (by first | (clear hn gσ wσ hh gσ_1 wσ_1 gσ_2 wσ_2 gσ_3 wσ_3 gσ_4 wσ_4 gσ_5 wσ_5 gσ_6 wσ_6 hm42 hge42 gσ_8 wσ_8 gc_10_x_7 c_10 hm75 gσ_15 wσ_15 gc_17_x_14 asf_64 j112 asf_67 gc_68_f_67 c_68; omega) | omega)
                      refine lv_istore (lv' := [(5, .int z_69), (6, .int x_66), (0, .ref a), (1, .int v1), (2, .int v2), (3, .int v3), (4, .int v4), (7, .int x_65), (8, .int x_14)]) hx hb dX12_lay_182 hl (by decide) rfl (fun ls hl => ?_)
                      refine lv_aload_n hx hb dX12_lay_184 rfl (lv_at hl 2 rfl) ?_
                      refine gs_X12_50_12 E hI ha dX12_lay_185 ?_
                      refine lv_iload hx hb dX12_lay_188 (lv_at hl 8 rfl) ?_
                      refine q_iald E hI (q_tk (k' := 40) hI ha rfl (Nat.succ_ne_zero _)) ⟨by decide, rfl⟩ (by first | (clear hn gσ wσ hh gσ_1 wσ_1 gσ_2 wσ_2 gσ_3 wσ_3 gσ_4 wσ_4 gσ_5 wσ_5 gσ_6 wσ_6 hm42 hge42 gσ_8 wσ_8 gc_10_x_7 c_10 hm75 szσ_15 gσ_15 wσ_15 gc_17_x_14 asf_64 j112 asf_67 gc_68_f_67 c_68 iz_69; omega) | omega) (by rw [q_lnk (v := 4) hI (q_tk (k' := 40) hI ha rfl (Nat.succ_ne_zero _)) rfl (by decide)]; omega) dX12_lay_190 ?_
                      refine lv_topi (fun f_70 ef_70 => ?_)
                      replace hF := q_letX hF ef_70
                      have asf_70 : f_70.toInt = m_of σ_15 (q_rf X a 29) x_14.toInt := by rw [ef_70]; rfl
                      refine lv_iconst (v := (-1)) hx hb dX12_lay_191 zki_m1 ?_
                      have gc_71_f_70 := q_rng f_70
                      refine q_icmp_eq (A := f_70.toInt) (B := (-1)) E rfl (by decide) (tgt := 211) dX12_lay_192 (by decide) (fun c_71 => ?_) (fun c_71 => ?_)
                      · skip
                        replace hF := q_ifp hF c_71
                        obtain ⟨z_72, ez_72⟩ : ∃ y : Int32, y = x_14 + 1 := ⟨_, rfl⟩
                        replace hF := q_letX hF ez_72
                        refine lv_iinc (v := z_72) (lv' := [(8, .int z_72), (5, .int z_69), (6, .int x_66), (0, .ref a), (1, .int v1), (2, .int v2), (3, .int v3), (4, .int v4), (7, .int x_65)]) hx hb dX12_lay_211 hl (k := 8) rfl (by rw [ez_72]; rfl) (by decide) rfl (fun ls hl => ?_)
                        have iz_72 : z_72.toInt = x_14.toInt + 1 := q_inc ez_72 (by first | (clear hn gσ wσ hh gσ_1 wσ_1 gσ_2 wσ_2 gσ_3 wσ_3 gσ_4 wσ_4 gσ_5 wσ_5 gσ_6 wσ_6 hm42 hge42 gσ_8 wσ_8 gc_10_x_7 c_10 hm75 szσ_15 gσ_15 wσ_15 gc_17_x_14 asf_64 j112 asf_67 gc_68_f_67 c_68 iz_69 asf_70 gc_71_f_70 c_71; omega) | omega)
                        refine lv_goto (tgt := 75) hx hb dX12_lay_214 (by decide) ?_
                        exact ih75 z_69 x_66 x_65 z_72 σ_15 _ _ ls (by first | (clear hn gσ wσ hh gσ_1 wσ_1 gσ_2 wσ_2 gσ_3 wσ_3 gσ_4 wσ_4 gσ_5 wσ_5 gσ_6 wσ_6 hm42 hge42 gσ_8 wσ_8 gc_10_x_7 c_10 hm75 szσ_15 gσ_15 wσ_15 gc_17_x_14 asf_64 j112 gc_68_f_67 iz_69 gc_71_f_70; omega) | omega) (by first | (clear hn gσ wσ hh gσ_1 wσ_1 gσ_2 wσ_2 gσ_3 wσ_3 gσ_4 wσ_4 gσ_5 wσ_5 gσ_6 wσ_6 hm42 hge42 gσ_8 wσ_8 gc_10_x_7 c_10 hm75 gσ_15 wσ_15 gc_17_x_14 asf_64 j112 asf_67 gc_68_f_67 c_68 asf_70 gc_71_f_70 c_71; omega) | omega) (by first | (clear hn gσ wσ hh gσ_1 wσ_1 gσ_2 wσ_2 gσ_3 wσ_3 gσ_4 wσ_4 gσ_5 wσ_5 gσ_6 wσ_6 hm42 hge42 gσ_8 wσ_8 gc_10_x_7 c_10 hm75 hge75 gσ_15 wσ_15 gc_17_x_14 c_17 asf_64 j112 gc_68_f_67 gc_71_f_70 iz_72; omega) | omega) nnσ_15 fr_σ_15 gσ_15 wσ_15 kqσ_15 fxσ_15 hF hI (lv_sub hl [3, 4, 5, 6, 7, 1, 2, 8, 0] rfl)
                      · skip
                        replace hF := q_ifn hF c_71
                        refine lv_aload_n hx hb dX12_lay_195 rfl (lv_at hl 2 rfl) ?_
                        refine gs_X12_47_12 E hI ha dX12_lay_196 ?_
                        refine lv_aload_n hx hb dX12_lay_199 rfl (lv_at hl 2 rfl) ?_
                        refine gs_X12_50_12 E hI ha dX12_lay_200 ?_
                        refine lv_iload hx hb dX12_lay_203 (lv_at hl 8 rfl) ?_
                        refine q_iald E hI (q_tk (k' := 40) hI ha rfl (Nat.succ_ne_zero _)) ⟨by decide, rfl⟩ (by first | (clear hn gσ wσ hh gσ_1 wσ_1 gσ_2 wσ_2 gσ_3 wσ_3 gσ_4 wσ_4 gσ_5 wσ_5 gσ_6 wσ_6 hm42 hge42 gσ_8 wσ_8 gc_10_x_7 c_10 hm75 szσ_15 gσ_15 wσ_15 gc_17_x_14 asf_64 j112 asf_67 gc_68_f_67 c_68 iz_69 asf_70 gc_71_f_70 c_71; omega) | omega) (by rw [q_lnk (v := 4) hI (q_tk (k' := 40) hI ha rfl (Nat.succ_ne_zero _)) rfl (by decide)]; omega) dX12_lay_205 ?_
                        refine lv_topi (fun f_73 ef_73 => ?_)
                        replace hF := q_letX hF ef_73
                        have asf_73 : f_73.toInt = m_of σ_15 (q_rf X a 29) x_14.toInt := by rw [ef_73]; rfl
                        refine lv_dup2_11 hx hb dX12_lay_206 rfl rfl ?_
                        refine q_iald E hI (q_tk (k' := 39) hI ha rfl (Nat.succ_ne_zero _)) ⟨by decide, rfl⟩ (by first | (clear hn gσ wσ hh gσ_1 wσ_1 gσ_2 wσ_2 gσ_3 wσ_3 gσ_4 wσ_4 gσ_5 wσ_5 gσ_6 wσ_6 hm42 hge42 gσ_8 wσ_8 gc_10_x_7 c_10 hm75 hge75 szσ_15 gσ_15 wσ_15 gc_17_x_14 c_17 asf_64 iz_69 gc_71_f_70; omega) | omega) (by rw [q_lnk (v := 10) hI (q_tk (k' := 39) hI ha rfl (Nat.succ_ne_zero _)) rfl (by decide)]; omega) dX12_lay_207 ?_
                        refine lv_topi (fun f_74 ef_74 => ?_)
                        replace hF := q_letX hF ef_74
                        have lyf_74 : f_74.toInt = m_of σ_15 (q_rf X a 28) (m_of σ_15 (q_rf X a 29) x_14.toInt) := by rw [ef_74, ← asf_73]; rfl
                        have lbf_74 := m_S_ge (c := m_of σ_15 (q_rf X a 28)) (b := 0) (A := m_of σ_15 (q_rf X a 29) x_14.toInt) (n := 10) (fun j a b => nnσ_15 j a (by first | (clear hn gσ wσ hh gσ_1 wσ_1 gσ_2 wσ_2 gσ_3 wσ_3 gσ_4 wσ_4 gσ_5 wσ_5 gσ_6 wσ_6 hm42 hge42 gσ_8 wσ_8 gc_10_x_7 c_10 hm75 hge75 szσ_15 gσ_15 wσ_15 gc_17_x_14 c_17 asf_64 j112 asf_67 gc_68_f_67 c_68 iz_69 asf_70 gc_71_f_70 c_71 asf_73 lyf_74; omega) | omega)) (by first | (clear hn gσ wσ hh gσ_1 wσ_1 gσ_2 wσ_2 gσ_3 wσ_3 gσ_4 wσ_4 gσ_5 wσ_5 gσ_6 wσ_6 hm42 hge42 gσ_8 wσ_8 gc_10_x_7 c_10 hm75 hge75 szσ_15 gσ_15 wσ_15 gc_17_x_14 c_17 asf_64 iz_69 gc_71_f_70 lyf_74; omega) | omega) (by first | (clear hn gσ wσ gσ_1 wσ_1 gσ_2 wσ_2 gσ_3 wσ_3 gσ_4 wσ_4 gσ_5 wσ_5 gσ_6 wσ_6 hm42 hge42 gσ_8 wσ_8 gc_10_x_7 c_10 hm75 hge75 szσ_15 gσ_15 wσ_15 gc_17_x_14 c_17 asf_64 iz_69 gc_71_f_70 lyf_74; omega) | omega)
                        have lnf_74 := nnσ_15 (m_of σ_15 (q_rf X a 29) x_14.toInt) (by first | (clear hn gσ wσ hh gσ_1 wσ_1 gσ_2 wσ_2 gσ_3 wσ_3 gσ_4 wσ_4 gσ_5 wσ_5 gσ_6 wσ_6 hm42 hge42 gσ_8 wσ_8 gc_10_x_7 c_10 hm75 hge75 szσ_15 gσ_15 wσ_15 gc_17_x_14 c_17 asf_64 iz_69 gc_71_f_70 lyf_74 lbf_74; omega) | omega) (by first | (clear hn gσ wσ gσ_1 wσ_1 gσ_2 wσ_2 gσ_3 wσ_3 gσ_4 wσ_4 gσ_5 wσ_5 gσ_6 wσ_6 hm42 hge42 gσ_8 wσ_8 gc_10_x_7 c_10 hm75 hge75 szσ_15 gσ_15 wσ_15 gc_17_x_14 c_17 asf_64 iz_69 gc_71_f_70 lyf_74 lbf_74; omega) | omega)
                        refine lv_iconst (v := 1) hx hb dX12_lay_208 zki_1 ?_
                        refine lv_iadd hx hb dX12_lay_209 ?_
                        refine lv_topi (fun z_75 ez_75 => ?_)
                        replace hF := q_letX hF ez_75
                        have iz_75 := q_addI (A := f_74.toInt) (B := 1) ez_75 rfl (by decide) (by first | (clear hn gσ wσ hh gσ_1 wσ_1 gσ_2 wσ_2 gσ_3 wσ_3 gσ_4 wσ_4 gσ_5 wσ_5 gσ_6 wσ_6 hm42 hge42 gσ_8 wσ_8 gc_10_x_7 c_10 hm75 hge75 szσ_15 gσ_15 wσ_15 gc_17_x_14 c_17 asf_64 j112 asf_67 gc_68_f_67 c_68 iz_69 asf_70 gc_71_f_70 c_71 asf_73 lbf_74; omega) | omega) (by first | (clear hn gσ wσ hh gσ_1 wσ_1 gσ_2 wσ_2 gσ_3 wσ_3 gσ_4 wσ_4 gσ_5 wσ_5 gσ_6 wσ_6 hm42 hge42 gσ_8 wσ_8 gc_10_x_7 c_10 hm75 gσ_15 wσ_15 gc_17_x_14 asf_64 j112 asf_67 gc_68_f_67 c_68 asf_70 gc_71_f_70 c_71 asf_73 lnf_74; omega) | omega)
                        refine q_iastN E hI (q_tk (k' := 39) hI ha rfl (Nat.succ_ne_zero _)) ⟨by decide, rfl⟩ (by first | (clear hn gσ wσ hh gσ_1 wσ_1 gσ_2 wσ_2 gσ_3 wσ_3 gσ_4 wσ_4 gσ_5 wσ_5 gσ_6 wσ_6 hm42 hge42 gσ_8 wσ_8 gc_10_x_7 c_10 hm75 hge75 szσ_15 gσ_15 wσ_15 gc_17_x_14 c_17 asf_64 iz_69 gc_71_f_70 lyf_74 lbf_74 lnf_74 iz_75; omega) | omega) (by rw [q_lnk (v := 10) hI (q_tk (k' := 39) hI ha rfl (Nat.succ_ne_zero _)) rfl (by decide)]; omega) (show 1 < 9 by decide) (q_inU rfl) dX12_lay_210 (fun H locs σ_76 hσ_76 hI => ?_)
                        replace hF := q_letX hF hσ_76
                        have fr_σ_76 := fr_σ_15.si hσ_76 (q_tk (k' := 39) hI ha rfl (Nat.succ_ne_zero _)) rfl
                        have mcσ_76 := m_wo hσ_76 (m_ne (q_tk (k' := 39) hI ha rfl (Nat.succ_ne_zero _)) (q_tk (f := 20) (k' := 34) hI ha rfl (by decide)) (by decide))
                        have gσ_76 : m_G (m_c X σ_76 a) := m_G.ext (fun j _ _ => mcσ_76 j) gσ_15
                        have wσ_76 : m_W (m_c X σ_76 a) n := m_W.ext (fun j _ _ => mcσ_76 j) wσ_15
                        have kqσ_76 : ∀ j, 654 ≤ j → m_c X σ_76 a j = m_c X σ a j := fun j h => (mcσ_76 j).trans (kqσ_15 j h)
                        have fxσ_76 : m_c X σ_76 a = m_c X σ a := (funext mcσ_76).trans fxσ_15
                        have moσ_76 := m_ofw hσ_76 asf_73 (by first | (clear hn gσ wσ hh gσ_1 wσ_1 gσ_2 wσ_2 gσ_3 wσ_3 gσ_4 wσ_4 gσ_5 wσ_5 gσ_6 wσ_6 hm42 hge42 gσ_8 wσ_8 gc_10_x_7 c_10 hm75 hge75 szσ_15 gσ_15 wσ_15 gc_17_x_14 c_17 asf_64 iz_69 gc_71_f_70 lyf_74 lbf_74 lnf_74 iz_75 gσ_76 wσ_76; omega) | omega)
                        have suσ_76 := m_S_upd (c := m_of σ_15 (q_rf X a 28)) (c' := m_of σ_76 (q_rf X a 28)) (b := 0) (n := 10) (fun j a b => moσ_76 j a) (by first | (clear hn gσ wσ hh gσ_1 wσ_1 gσ_2 wσ_2 gσ_3 wσ_3 gσ_4 wσ_4 gσ_5 wσ_5 gσ_6 wσ_6 hm42 hge42 gσ_8 wσ_8 gc_10_x_7 c_10 hm75 hge75 szσ_15 gσ_15 wσ_15 gc_17_x_14 c_17 asf_64 iz_69 gc_71_f_70 lyf_74 lbf_74 lnf_74 iz_75 gσ_76 wσ_76; omega) | omega) (by first | (clear hn gσ wσ gσ_1 wσ_1 gσ_2 wσ_2 gσ_3 wσ_3 gσ_4 wσ_4 gσ_5 wσ_5 gσ_6 wσ_6 hm42 hge42 gσ_8 wσ_8 gc_10_x_7 c_10 hm75 hge75 szσ_15 gσ_15 wσ_15 gc_17_x_14 c_17 asf_64 iz_69 gc_71_f_70 lyf_74 lbf_74 lnf_74 iz_75 gσ_76 wσ_76; omega) | omega)
                        have nnσ_76 : ∀ k, 0 ≤ k → k < 10 → 0 ≤ m_of σ_76 (q_rf X a 28) k := fun k a b => by rw [moσ_76 k a]; split; exact (by first | (clear hn gσ wσ hh gσ_1 wσ_1 gσ_2 wσ_2 gσ_3 wσ_3 gσ_4 wσ_4 gσ_5 wσ_5 gσ_6 wσ_6 hm42 hge42 gσ_8 wσ_8 gc_10_x_7 c_10 hm75 hge75 szσ_15 gσ_15 wσ_15 gc_17_x_14 c_17 asf_64 j112 asf_67 gc_68_f_67 c_68 iz_69 asf_70 gc_71_f_70 c_71 asf_73 lbf_74 gσ_76 wσ_76 suσ_76; omega) | omega); exact nnσ_15 k a b
                        obtain ⟨z_77, ez_77⟩ : ∃ y : Int32, y = x_14 + 1 := ⟨_, rfl⟩
                        replace hF := q_letX hF ez_77
                        refine lv_iinc (v := z_77) (lv' := [(8, .int z_77), (5, .int z_69), (6, .int x_66), (0, .ref a), (1, .int v1), (2, .int v2), (3, .int v3), (4, .int v4), (7, .int x_65)]) hx hb dX12_lay_211 hl (k := 8) rfl (by rw [ez_77]; rfl) (by decide) rfl (fun ls hl => ?_)
                        have iz_77 : z_77.toInt = x_14.toInt + 1 := q_inc ez_77 (by first | (clear hn gσ wσ hh gσ_1 wσ_1 gσ_2 wσ_2 gσ_3 wσ_3 gσ_4 wσ_4 gσ_5 wσ_5 gσ_6 wσ_6 hm42 hge42 gσ_8 wσ_8 gc_10_x_7 c_10 hm75 szσ_15 gσ_15 wσ_15 gc_17_x_14 asf_64 j112 asf_67 gc_68_f_67 c_68 iz_69 asf_70 gc_71_f_70 c_71 asf_73 lyf_74 lbf_74 lnf_74 iz_75 gσ_76 wσ_76 suσ_76; omega) | omega)
                        refine lv_goto (tgt := 75) hx hb dX12_lay_214 (by decide) ?_
                        exact ih75 z_69 x_66 x_65 z_77 σ_76 _ _ ls (by first | (clear hn gσ wσ hh gσ_1 wσ_1 gσ_2 wσ_2 gσ_3 wσ_3 gσ_4 wσ_4 gσ_5 wσ_5 gσ_6 wσ_6 hm42 hge42 gσ_8 wσ_8 gc_10_x_7 c_10 szσ_15 gσ_15 wσ_15 gc_17_x_14 asf_64 iz_69 gc_71_f_70 lyf_74 lbf_74 lnf_74 iz_75 gσ_76 wσ_76 suσ_76; omega) | omega) (by first | (clear hn gσ wσ hh gσ_1 wσ_1 gσ_2 wσ_2 gσ_3 wσ_3 gσ_4 wσ_4 gσ_5 wσ_5 gσ_6 wσ_6 hm42 hge42 gσ_8 wσ_8 gc_10_x_7 c_10 hm75 gσ_15 wσ_15 gc_17_x_14 asf_64 j112 asf_67 gc_68_f_67 c_68 asf_70 gc_71_f_70 c_71 asf_73 lbf_74 lnf_74 gσ_76 wσ_76; omega) | omega) (by first | (clear hn gσ wσ hh gσ_1 wσ_1 gσ_2 wσ_2 gσ_3 wσ_3 gσ_4 wσ_4 gσ_5 wσ_5 gσ_6 wσ_6 hm42 hge42 gσ_8 wσ_8 gc_10_x_7 c_10 hm75 hge75 gσ_15 wσ_15 gc_17_x_14 c_17 asf_64 j112 asf_67 gc_68_f_67 c_68 asf_70 gc_71_f_70 c_71 asf_73 lbf_74 lnf_74 gσ_76 wσ_76 iz_77; omega) | omega) nnσ_76 fr_σ_76 gσ_76 wσ_76 kqσ_76 fxσ_76 hF hI (lv_sub hl [3, 4, 5, 6, 7, 1, 2, 8, 0] rfl)
                    · skip
                      replace hF := q_ifp hF c_68
                      refine lv_iconst (v := 0) hx hb dX12_lay_176 zki_0 ?_
                      refine lv_goto (tgt := 181) hx hb dX12_lay_177 (by decide) ?_
                      refine lv_iadd hx hb dX12_lay_181 ?_
                      refine lv_topi (fun z_78 ez_78 => ?_)
                      replace hF := q_letX hF ez_78
                      have iz_78 := q_addI (A := x_11.toInt) (B := 0) ez_78 rfl (by decide) (by first | (clear hn gσ wσ hh gσ_1 wσ_1 gσ_2 wσ_2 gσ_3 wσ_3 gσ_4 wσ_4 gσ_5 wσ_5 gσ_6 wσ_6 hm42 hge42 gσ_8 wσ_8 gc_10_x_7 c_10 hm75 gσ_15 wσ_15 gc_17_x_14 c_17 asf_64 j112 asf_67 gc_68_f_67 c_68; omega) | omega) (by first | (clear hn gσ wσ hh gσ_1 wσ_1 gσ_2 wσ_2 gσ_3 wσ_3 gσ_4 wσ_4 gσ_5 wσ_5 gσ_6 wσ_6 hm42 hge42 gσ_8 wσ_8 gc_10_x_7 c_10 hm75 gσ_15 wσ_15 gc_17_x_14 asf_64 j112 asf_67 gc_68_f_67 c_68; omega) | omega)
                      refine lv_istore (lv' := [(5, .int z_78), (6, .int x_66), (0, .ref a), (1, .int v1), (2, .int v2), (3, .int v3), (4, .int v4), (7, .int x_65), (8, .int x_14)]) hx hb dX12_lay_182 hl (by decide) rfl (fun ls hl => ?_)
                      refine lv_aload_n hx hb dX12_lay_184 rfl (lv_at hl 2 rfl) ?_
                      refine gs_X12_50_12 E hI ha dX12_lay_185 ?_
                      refine lv_iload hx hb dX12_lay_188 (lv_at hl 8 rfl) ?_
                      refine q_iald E hI (q_tk (k' := 40) hI ha rfl (Nat.succ_ne_zero _)) ⟨by decide, rfl⟩ (by first | (clear hn gσ wσ hh gσ_1 wσ_1 gσ_2 wσ_2 gσ_3 wσ_3 gσ_4 wσ_4 gσ_5 wσ_5 gσ_6 wσ_6 hm42 hge42 gσ_8 wσ_8 gc_10_x_7 c_10 hm75 szσ_15 gσ_15 wσ_15 gc_17_x_14 asf_64 j112 asf_67 gc_68_f_67 c_68 iz_78; omega) | omega) (by rw [q_lnk (v := 4) hI (q_tk (k' := 40) hI ha rfl (Nat.succ_ne_zero _)) rfl (by decide)]; omega) dX12_lay_190 ?_
                      refine lv_topi (fun f_79 ef_79 => ?_)
                      replace hF := q_letX hF ef_79
                      have asf_79 : f_79.toInt = m_of σ_15 (q_rf X a 29) x_14.toInt := by rw [ef_79]; rfl
                      refine lv_iconst (v := (-1)) hx hb dX12_lay_191 zki_m1 ?_
                      have gc_80_f_79 := q_rng f_79
                      refine q_icmp_eq (A := f_79.toInt) (B := (-1)) E rfl (by decide) (tgt := 211) dX12_lay_192 (by decide) (fun c_80 => ?_) (fun c_80 => ?_)
                      · skip
                        replace hF := q_ifp hF c_80
                        obtain ⟨z_81, ez_81⟩ : ∃ y : Int32, y = x_14 + 1 := ⟨_, rfl⟩
                        replace hF := q_letX hF ez_81
                        refine lv_iinc (v := z_81) (lv' := [(8, .int z_81), (5, .int z_78), (6, .int x_66), (0, .ref a), (1, .int v1), (2, .int v2), (3, .int v3), (4, .int v4), (7, .int x_65)]) hx hb dX12_lay_211 hl (k := 8) rfl (by rw [ez_81]; rfl) (by decide) rfl (fun ls hl => ?_)
                        have iz_81 : z_81.toInt = x_14.toInt + 1 := q_inc ez_81 (by first | (clear hn gσ wσ hh gσ_1 wσ_1 gσ_2 wσ_2 gσ_3 wσ_3 gσ_4 wσ_4 gσ_5 wσ_5 gσ_6 wσ_6 hm42 hge42 gσ_8 wσ_8 gc_10_x_7 c_10 hm75 szσ_15 gσ_15 wσ_15 gc_17_x_14 asf_64 j112 asf_67 gc_68_f_67 c_68 iz_78 asf_79 gc_80_f_79 c_80; omega) | omega)
                        refine lv_goto (tgt := 75) hx hb dX12_lay_214 (by decide) ?_
                        exact ih75 z_78 x_66 x_65 z_81 σ_15 _ _ ls (by first | (clear hn gσ wσ hh gσ_1 wσ_1 gσ_2 wσ_2 gσ_3 wσ_3 gσ_4 wσ_4 gσ_5 wσ_5 gσ_6 wσ_6 hm42 hge42 gσ_8 wσ_8 gc_10_x_7 c_10 szσ_15 gσ_15 wσ_15 gc_17_x_14 asf_64 gc_68_f_67 iz_78 asf_79 gc_80_f_79 c_80; omega) | omega) (by first | (clear hn gσ wσ hh gσ_1 wσ_1 gσ_2 wσ_2 gσ_3 wσ_3 gσ_4 wσ_4 gσ_5 wσ_5 gσ_6 wσ_6 hm42 hge42 gσ_8 wσ_8 gc_10_x_7 c_10 hm75 gσ_15 wσ_15 gc_17_x_14 asf_64 j112 asf_67 gc_68_f_67 c_68 asf_79 gc_80_f_79 c_80; omega) | omega) (by first | (clear hn gσ wσ hh gσ_1 wσ_1 gσ_2 wσ_2 gσ_3 wσ_3 gσ_4 wσ_4 gσ_5 wσ_5 gσ_6 wσ_6 hm42 hge42 gσ_8 wσ_8 gc_10_x_7 c_10 hm75 hge75 gσ_15 wσ_15 gc_17_x_14 c_17 asf_64 j112 asf_67 gc_68_f_67 c_68 asf_79 gc_80_f_79 c_80 iz_81; omega) | omega) nnσ_15 fr_σ_15 gσ_15 wσ_15 kqσ_15 fxσ_15 hF hI (lv_sub hl [3, 4, 5, 6, 7, 1, 2, 8, 0] rfl)
                      · skip
                        replace hF := q_ifn hF c_80
                        refine lv_aload_n hx hb dX12_lay_195 rfl (lv_at hl 2 rfl) ?_
                        refine gs_X12_47_12 E hI ha dX12_lay_196 ?_
                        refine lv_aload_n hx hb dX12_lay_199 rfl (lv_at hl 2 rfl) ?_
                        refine gs_X12_50_12 E hI ha dX12_lay_200 ?_
                        refine lv_iload hx hb dX12_lay_203 (lv_at hl 8 rfl) ?_
                        refine q_iald E hI (q_tk (k' := 40) hI ha rfl (Nat.succ_ne_zero _)) ⟨by decide, rfl⟩ (by first | (clear hn gσ wσ hh gσ_1 wσ_1 gσ_2 wσ_2 gσ_3 wσ_3 gσ_4 wσ_4 gσ_5 wσ_5 gσ_6 wσ_6 hm42 hge42 gσ_8 wσ_8 gc_10_x_7 c_10 hm75 szσ_15 gσ_15 wσ_15 gc_17_x_14 asf_64 j112 asf_67 gc_68_f_67 c_68 iz_78 asf_79 gc_80_f_79 c_80; omega) | omega) (by rw [q_lnk (v := 4) hI (q_tk (k' := 40) hI ha rfl (Nat.succ_ne_zero _)) rfl (by decide)]; omega) dX12_lay_205 ?_
                        refine lv_topi (fun f_82 ef_82 => ?_)
                        replace hF := q_letX hF ef_82
                        have asf_82 : f_82.toInt = m_of σ_15 (q_rf X a 29) x_14.toInt := by rw [ef_82]; rfl
                        refine lv_dup2_11 hx hb dX12_lay_206 rfl rfl ?_
                        refine q_iald E hI (q_tk (k' := 39) hI ha rfl (Nat.succ_ne_zero _)) ⟨by decide, rfl⟩ (by first | (clear hn gσ wσ hh gσ_1 wσ_1 gσ_2 wσ_2 gσ_3 wσ_3 gσ_4 wσ_4 gσ_5 wσ_5 gσ_6 wσ_6 hm42 hge42 gσ_8 wσ_8 gc_10_x_7 c_10 hm75 hge75 szσ_15 gσ_15 wσ_15 gc_17_x_14 c_17 asf_64 j112 gc_68_f_67 iz_78 gc_80_f_79 asf_82; omega) | omega) (by rw [q_lnk (v := 10) hI (q_tk (k' := 39) hI ha rfl (Nat.succ_ne_zero _)) rfl (by decide)]; omega) dX12_lay_207 ?_
                        refine lv_topi (fun f_83 ef_83 => ?_)
                        replace hF := q_letX hF ef_83
                        have lyf_83 : f_83.toInt = m_of σ_15 (q_rf X a 28) (m_of σ_15 (q_rf X a 29) x_14.toInt) := by rw [ef_83, ← asf_82]; rfl
                        have lbf_83 := m_S_ge (c := m_of σ_15 (q_rf X a 28)) (b := 0) (A := m_of σ_15 (q_rf X a 29) x_14.toInt) (n := 10) (fun j a b => nnσ_15 j a (by first | (clear hn gσ wσ hh gσ_1 wσ_1 gσ_2 wσ_2 gσ_3 wσ_3 gσ_4 wσ_4 gσ_5 wσ_5 gσ_6 wσ_6 hm42 hge42 gσ_8 wσ_8 gc_10_x_7 c_10 hm75 hge75 szσ_15 gσ_15 wσ_15 gc_17_x_14 c_17 asf_64 j112 asf_67 gc_68_f_67 c_68 iz_78 asf_79 gc_80_f_79 c_80 asf_82 lyf_83; omega) | omega)) (by first | (clear hn gσ wσ hh gσ_1 wσ_1 gσ_2 wσ_2 gσ_3 wσ_3 gσ_4 wσ_4 gσ_5 wσ_5 gσ_6 wσ_6 hm42 hge42 gσ_8 wσ_8 gc_10_x_7 c_10 hm75 hge75 szσ_15 gσ_15 wσ_15 gc_17_x_14 c_17 asf_64 j112 gc_68_f_67 iz_78 gc_80_f_79 asf_82 lyf_83; omega) | omega) (by first | (clear hn gσ wσ hh gσ_1 wσ_1 gσ_2 wσ_2 gσ_3 wσ_3 gσ_4 wσ_4 gσ_5 wσ_5 gσ_6 wσ_6 hm42 hge42 gσ_8 wσ_8 gc_10_x_7 c_10 hm75 hge75 szσ_15 gσ_15 wσ_15 gc_17_x_14 c_17 asf_64 j112 gc_68_f_67 iz_78 asf_79 gc_80_f_79 c_80 asf_82 lyf_83; omega) | omega)
                        have lnf_83 := nnσ_15 (m_of σ_15 (q_rf X a 29) x_14.toInt) (by first | (clear hn gσ wσ hh gσ_1 wσ_1 gσ_2 wσ_2 gσ_3 wσ_3 gσ_4 wσ_4 gσ_5 wσ_5 gσ_6 wσ_6 hm42 hge42 gσ_8 wσ_8 gc_10_x_7 c_10 hm75 hge75 szσ_15 gσ_15 wσ_15 gc_17_x_14 c_17 asf_64 j112 gc_68_f_67 iz_78 gc_80_f_79 asf_82 lyf_83 lbf_83; omega) | omega) (by first | (clear hn gσ wσ hh gσ_1 wσ_1 gσ_2 wσ_2 gσ_3 wσ_3 gσ_4 wσ_4 gσ_5 wσ_5 gσ_6 wσ_6 hm42 hge42 gσ_8 wσ_8 gc_10_x_7 c_10 hm75 hge75 szσ_15 gσ_15 wσ_15 gc_17_x_14 c_17 asf_64 j112 gc_68_f_67 iz_78 asf_79 gc_80_f_79 c_80 asf_82 lyf_83 lbf_83; omega) | omega)
                        refine lv_iconst (v := 1) hx hb dX12_lay_208 zki_1 ?_
                        refine lv_iadd hx hb dX12_lay_209 ?_
                        refine lv_topi (fun z_84 ez_84 => ?_)
                        replace hF := q_letX hF ez_84
                        have iz_84 := q_addI (A := f_83.toInt) (B := 1) ez_84 rfl (by decide) (by first | (clear hn gσ wσ hh gσ_1 wσ_1 gσ_2 wσ_2 gσ_3 wσ_3 gσ_4 wσ_4 gσ_5 wσ_5 gσ_6 wσ_6 hm42 hge42 gσ_8 wσ_8 gc_10_x_7 c_10 hm75 hge75 szσ_15 gσ_15 wσ_15 gc_17_x_14 c_17 asf_64 j112 asf_67 gc_68_f_67 c_68 iz_78 asf_79 gc_80_f_79 c_80 asf_82 lbf_83; omega) | omega) (by first | (clear hn gσ wσ hh gσ_1 wσ_1 gσ_2 wσ_2 gσ_3 wσ_3 gσ_4 wσ_4 gσ_5 wσ_5 gσ_6 wσ_6 hm42 hge42 gσ_8 wσ_8 gc_10_x_7 c_10 hm75 gσ_15 wσ_15 gc_17_x_14 asf_64 j112 asf_67 gc_68_f_67 c_68 asf_79 gc_80_f_79 c_80 asf_82 lnf_83; omega) | omega)
                        refine q_iastN E hI (q_tk (k' := 39) hI ha rfl (Nat.succ_ne_zero _)) ⟨by decide, rfl⟩ (by first | (clear hn gσ wσ hh gσ_1 wσ_1 gσ_2 wσ_2 gσ_3 wσ_3 gσ_4 wσ_4 gσ_5 wσ_5 gσ_6 wσ_6 hm42 hge42 gσ_8 wσ_8 gc_10_x_7 c_10 hm75 hge75 szσ_15 gσ_15 wσ_15 gc_17_x_14 c_17 asf_64 j112 gc_68_f_67 iz_78 gc_80_f_79 asf_82 lyf_83 lbf_83 lnf_83 iz_84; omega) | omega) (by rw [q_lnk (v := 10) hI (q_tk (k' := 39) hI ha rfl (Nat.succ_ne_zero _)) rfl (by decide)]; omega) (show 1 < 9 by decide) (q_inU rfl) dX12_lay_210 (fun H locs σ_85 hσ_85 hI => ?_)
                        replace hF := q_letX hF hσ_85
                        have fr_σ_85 := fr_σ_15.si hσ_85 (q_tk (k' := 39) hI ha rfl (Nat.succ_ne_zero _)) rfl
                        have mcσ_85 := m_wo hσ_85 (m_ne (q_tk (k' := 39) hI ha rfl (Nat.succ_ne_zero _)) (q_tk (f := 20) (k' := 34) hI ha rfl (by decide)) (by decide))
                        have gσ_85 : m_G (m_c X σ_85 a) := m_G.ext (fun j _ _ => mcσ_85 j) gσ_15
                        have wσ_85 : m_W (m_c X σ_85 a) n := m_W.ext (fun j _ _ => mcσ_85 j) wσ_15
                        have kqσ_85 : ∀ j, 654 ≤ j → m_c X σ_85 a j = m_c X σ a j := fun j h => (mcσ_85 j).trans (kqσ_15 j h)
                        have fxσ_85 : m_c X σ_85 a = m_c X σ a := (funext mcσ_85).trans fxσ_15
                        have moσ_85 := m_ofw hσ_85 asf_82 (by first | (clear hn gσ wσ hh gσ_1 wσ_1 gσ_2 wσ_2 gσ_3 wσ_3 gσ_4 wσ_4 gσ_5 wσ_5 gσ_6 wσ_6 hm42 hge42 gσ_8 wσ_8 gc_10_x_7 c_10 hm75 hge75 szσ_15 gσ_15 wσ_15 gc_17_x_14 c_17 asf_64 j112 gc_68_f_67 iz_78 gc_80_f_79 asf_82 lyf_83 lbf_83 lnf_83 iz_84 gσ_85 wσ_85; omega) | omega)
                        have suσ_85 := m_S_upd (c := m_of σ_15 (q_rf X a 28)) (c' := m_of σ_85 (q_rf X a 28)) (b := 0) (n := 10) (fun j a b => moσ_85 j a) (by first | (clear hn gσ wσ hh gσ_1 wσ_1 gσ_2 wσ_2 gσ_3 wσ_3 gσ_4 wσ_4 gσ_5 wσ_5 gσ_6 wσ_6 hm42 hge42 gσ_8 wσ_8 gc_10_x_7 c_10 hm75 hge75 szσ_15 gσ_15 wσ_15 gc_17_x_14 c_17 asf_64 j112 gc_68_f_67 iz_78 gc_80_f_79 asf_82 lyf_83 lbf_83 lnf_83 iz_84 gσ_85 wσ_85; omega) | omega) (by first | (clear hn gσ wσ hh gσ_1 wσ_1 gσ_2 wσ_2 gσ_3 wσ_3 gσ_4 wσ_4 gσ_5 wσ_5 gσ_6 wσ_6 hm42 hge42 gσ_8 wσ_8 gc_10_x_7 c_10 hm75 hge75 szσ_15 gσ_15 wσ_15 gc_17_x_14 c_17 asf_64 j112 gc_68_f_67 iz_78 asf_79 gc_80_f_79 c_80 asf_82 lyf_83 lbf_83 lnf_83 iz_84 gσ_85 wσ_85; omega) | omega)
                        have nnσ_85 : ∀ k, 0 ≤ k → k < 10 → 0 ≤ m_of σ_85 (q_rf X a 28) k := fun k a b => by rw [moσ_85 k a]; split; exact (by first | (clear hn gσ wσ hh gσ_1 wσ_1 gσ_2 wσ_2 gσ_3 wσ_3 gσ_4 wσ_4 gσ_5 wσ_5 gσ_6 wσ_6 hm42 hge42 gσ_8 wσ_8 gc_10_x_7 c_10 hm75 hge75 szσ_15 gσ_15 wσ_15 gc_17_x_14 c_17 asf_64 j112 gc_68_f_67 iz_78 asf_79 gc_80_f_79 c_80 asf_82 lyf_83 lbf_83 lnf_83 iz_84 gσ_85 wσ_85 suσ_85; omega) | omega); exact nnσ_15 k a b
                        obtain ⟨z_86, ez_86⟩ : ∃ y : Int32, y = x_14 + 1 := ⟨_, rfl⟩
                        replace hF := q_letX hF ez_86
                        refine lv_iinc (v := z_86) (lv' := [(8, .int z_86), (5, .int z_78), (6, .int x_66), (0, .ref a), (1, .int v1), (2, .int v2), (3, .int v3), (4, .int v4), (7, .int x_65)]) hx hb dX12_lay_211 hl (k := 8) rfl (by rw [ez_86]; rfl) (by decide) rfl (fun ls hl => ?_)
                        have iz_86 : z_86.toInt = x_14.toInt + 1 := q_inc ez_86 (by first | (clear hn gσ wσ hh gσ_1 wσ_1 gσ_2 wσ_2 gσ_3 wσ_3 gσ_4 wσ_4 gσ_5 wσ_5 gσ_6 wσ_6 hm42 hge42 gσ_8 wσ_8 gc_10_x_7 c_10 hm75 szσ_15 gσ_15 wσ_15 gc_17_x_14 asf_64 j112 asf_67 gc_68_f_67 c_68 iz_78 asf_79 gc_80_f_79 c_80 asf_82 lyf_83 lbf_83 lnf_83 iz_84 gσ_85 wσ_85 suσ_85; omega) | omega)
                        refine lv_goto (tgt := 75) hx hb dX12_lay_214 (by decide) ?_
                        exact ih75 z_78 x_66 x_65 z_86 σ_85 _ _ ls (by first | (clear hn gσ wσ hh gσ_1 wσ_1 gσ_2 wσ_2 gσ_3 wσ_3 gσ_4 wσ_4 gσ_5 wσ_5 gσ_6 wσ_6 hm42 hge42 gσ_8 wσ_8 gc_10_x_7 c_10 hm75 szσ_15 gσ_15 wσ_15 gc_17_x_14 asf_64 j112 gc_68_f_67 iz_78 gc_80_f_79 asf_82 lyf_83 lbf_83 lnf_83 iz_84 gσ_85 wσ_85 suσ_85; omega) | omega) (by first | (clear hn gσ wσ hh gσ_1 wσ_1 gσ_2 wσ_2 gσ_3 wσ_3 gσ_4 wσ_4 gσ_5 wσ_5 gσ_6 wσ_6 hm42 hge42 gσ_8 wσ_8 gc_10_x_7 c_10 hm75 gσ_15 wσ_15 gc_17_x_14 asf_64 j112 asf_67 gc_68_f_67 c_68 asf_79 gc_80_f_79 c_80 asf_82 lbf_83 lnf_83 gσ_85 wσ_85; omega) | omega) (by first | (clear hn gσ wσ hh gσ_1 wσ_1 gσ_2 wσ_2 gσ_3 wσ_3 gσ_4 wσ_4 gσ_5 wσ_5 gσ_6 wσ_6 hm42 hge42 gσ_8 wσ_8 gc_10_x_7 c_10 hm75 hge75 gσ_15 wσ_15 gc_17_x_14 c_17 asf_64 j112 gc_68_f_67 gc_80_f_79 asf_82 lbf_83 lnf_83 gσ_85 wσ_85 iz_86; omega) | omega) nnσ_85 fr_σ_85 gσ_85 wσ_85 kqσ_85 fxσ_85 hF hI (lv_sub hl [3, 4, 5, 6, 7, 1, 2, 8, 0] rfl)
                  refine q_if_ne (A := x_12.toInt) E rfl (tgt := 156) dX12_lay_137 (by decide) (fun c_87 => ?_) (fun c_87 => ?_)
                  · skip
                    replace hF := q_ifn hF c_87
                    refine lv_iconst (v := 1) hx hb dX12_lay_156 zki_1 ?_
                    refine lv_goto (tgt := 161) hx hb dX12_lay_157 (by decide) ?_
                    exact J_161_66 1 _ _ ls hF hI (lv_sub hl [1, 2, 3, 4, 5, 6, 7, 0, 8] rfl)
                  · skip
                    replace hF := q_ifp hF c_87
                    refine lv_iload hx hb dX12_lay_140 (lv_at hl 0 rfl) ?_
                    refine q_if_eq (A := x_65.toInt) E rfl (tgt := 160) dX12_lay_142 (by decide) (fun c_88 => ?_) (fun c_88 => ?_)
                    · skip
                      replace hF := q_ifp hF c_88
                      refine lv_iconst (v := 0) hx hb dX12_lay_160 zki_0 ?_
                      exact J_161_66 0 _ _ ls hF hI (lv_sub hl [1, 2, 3, 4, 5, 6, 7, 0, 8] rfl)
                    · skip
                      replace hF := q_ifn hF c_88
                      refine lv_aload_n hx hb dX12_lay_145 rfl (lv_at hl 1 rfl) ?_
                      refine gs_X12_50_12 E hI ha dX12_lay_146 ?_
                      refine lv_iload hx hb dX12_lay_149 (lv_at hl 8 rfl) ?_
                      refine q_iald E hI (q_tk (k' := 40) hI ha rfl (Nat.succ_ne_zero _)) ⟨by decide, rfl⟩ (by first | (clear hn gσ wσ hh gσ_1 wσ_1 gσ_2 wσ_2 gσ_3 wσ_3 gσ_4 wσ_4 gσ_5 wσ_5 gσ_6 wσ_6 hm42 hge42 gσ_8 wσ_8 gc_10_x_7 c_10 hm75 szσ_15 gσ_15 wσ_15 gc_17_x_14 asf_64 j112 c_87 c_88; omega) | omega) (by rw [q_lnk (v := 4) hI (q_tk (k' := 40) hI ha rfl (Nat.succ_ne_zero _)) rfl (by decide)]; omega) dX12_lay_151 ?_
                      refine lv_topi (fun f_89 ef_89 => ?_)
                      replace hF := q_letX hF ef_89
                      have asf_89 : f_89.toInt = m_of σ_15 (q_rf X a 29) x_14.toInt := by rw [ef_89]; rfl
                      refine lv_iconst (v := (-1)) hx hb dX12_lay_152 zki_m1 ?_
                      have gc_90_f_89 := q_rng f_89
                      refine q_icmp_eq (A := f_89.toInt) (B := (-1)) E rfl (by decide) (tgt := 160) dX12_lay_153 (by decide) (fun c_90 => ?_) (fun c_90 => ?_)
                      · skip
                        replace hF := q_ifp hF c_90
                        refine lv_iconst (v := 0) hx hb dX12_lay_160 zki_0 ?_
                        exact J_161_66 0 _ _ ls hF hI (lv_sub hl [1, 2, 3, 4, 5, 6, 7, 0, 8] rfl)
                      · skip
                        replace hF := q_ifn hF c_90
                        refine lv_iconst (v := 1) hx hb dX12_lay_156 zki_1 ?_
                        refine lv_goto (tgt := 161) hx hb dX12_lay_157 (by decide) ?_
                        exact J_161_66 1 _ _ ls hF hI (lv_sub hl [1, 2, 3, 4, 5, 6, 7, 0, 8] rfl)
                refine q_if_ne (A := x_13.toInt) E rfl (tgt := 128) dX12_lay_114 (by decide) (fun c_91 => ?_) (fun c_91 => ?_)
                · skip
                  replace hF := q_ifn hF c_91
                  refine lv_iconst (v := 1) hx hb dX12_lay_128 zki_1 ?_
                  refine lv_goto (tgt := 133) hx hb dX12_lay_129 (by decide) ?_
                  exact J_133_65 1 _ _ ls hF hI (lv_sub hl [0, 1, 2, 3, 4, 5, 6, 7, 8] rfl)
                · skip
                  replace hF := q_ifp hF c_91
                  refine lv_aload_n hx hb dX12_lay_117 rfl (lv_at hl 0 rfl) ?_
                  refine gs_X12_50_12 E hI ha dX12_lay_118 ?_
                  refine lv_iload hx hb dX12_lay_121 (lv_at hl 8 rfl) ?_
                  refine q_iald E hI (q_tk (k' := 40) hI ha rfl (Nat.succ_ne_zero _)) ⟨by decide, rfl⟩ (by first | (clear hn gσ wσ hh gσ_1 wσ_1 gσ_2 wσ_2 gσ_3 wσ_3 gσ_4 wσ_4 gσ_5 wσ_5 gσ_6 wσ_6 hm42 hge42 gσ_8 wσ_8 gc_10_x_7 c_10 hm75 szσ_15 gσ_15 wσ_15 gc_17_x_14 asf_64 j112 c_91; omega) | omega) (by rw [q_lnk (v := 4) hI (q_tk (k' := 40) hI ha rfl (Nat.succ_ne_zero _)) rfl (by decide)]; omega) dX12_lay_123 ?_
                  refine lv_topi (fun f_92 ef_92 => ?_)
                  replace hF := q_letX hF ef_92
                  have asf_92 : f_92.toInt = m_of σ_15 (q_rf X a 29) x_14.toInt := by rw [ef_92]; rfl
                  refine lv_iconst (v := (-1)) hx hb dX12_lay_124 zki_m1 ?_
                  have gc_93_f_92 := q_rng f_92
                  refine q_icmp_ne (A := f_92.toInt) (B := (-1)) E rfl (by decide) (tgt := 132) dX12_lay_125 (by decide) (fun c_93 => ?_) (fun c_93 => ?_)
                  · skip
                    replace hF := q_ifn hF c_93
                    refine lv_iconst (v := 0) hx hb dX12_lay_132 zki_0 ?_
                    exact J_133_65 0 _ _ ls hF hI (lv_sub hl [0, 1, 2, 3, 4, 5, 6, 7, 8] rfl)
                  · skip
                    replace hF := q_ifp hF c_93
                    refine lv_iconst (v := 1) hx hb dX12_lay_128 zki_1 ?_
                    refine lv_goto (tgt := 133) hx hb dX12_lay_129 (by decide) ?_
                    exact J_133_65 1 _ _ ls hF hI (lv_sub hl [0, 1, 2, 3, 4, 5, 6, 7, 8] rfl)
              have gc_94_f_64 := q_rng f_64
              refine q_icmp_eq (A := f_64.toInt) (B := (-1)) E rfl (by decide) (tgt := 112) dX12_lay_89 (by decide) (fun c_94 => ?_) (fun c_94 => ?_)
              · skip
                replace hF := q_ifp hF c_94
                exact J_112_64 _ _ ls (by first | (clear hn gσ wσ gσ_1 wσ_1 gσ_2 wσ_2 gσ_3 wσ_3 gσ_4 wσ_4 gσ_5 wσ_5 gσ_6 wσ_6 hm42 hge42 gσ_8 wσ_8 gc_10_x_7 c_10 hm75 hge75 szσ_15 gσ_15 wσ_15 gc_17_x_14 c_17 gc_94_f_64; omega) | omega) hF hI (lv_sub hl [0, 1, 2, 3, 4, 5, 6, 7, 8] rfl)
              · skip
                replace hF := q_ifn hF c_94
                refine lv_aload_n hx hb dX12_lay_92 rfl (lv_at hl 0 rfl) ?_
                refine lv_aload_n hx hb dX12_lay_93 rfl (lv_at hl 0 rfl) ?_
                refine gs_X12_50_12 E hI ha dX12_lay_94 ?_
                refine lv_iload hx hb dX12_lay_97 (lv_at hl 8 rfl) ?_
                refine q_iald E hI (q_tk (k' := 40) hI ha rfl (Nat.succ_ne_zero _)) ⟨by decide, rfl⟩ (by first | (clear hn gσ wσ hh gσ_1 wσ_1 gσ_2 wσ_2 gσ_3 wσ_3 gσ_4 wσ_4 gσ_5 wσ_5 gσ_6 wσ_6 hm42 hge42 gσ_8 wσ_8 gc_10_x_7 c_10 hm75 szσ_15 gσ_15 wσ_15 gc_17_x_14 asf_64 gc_94_f_64 c_94; omega) | omega) (by rw [q_lnk (v := 4) hI (q_tk (k' := 40) hI ha rfl (Nat.succ_ne_zero _)) rfl (by decide)]; omega) dX12_lay_99 ?_
                refine lv_topi (fun f_95 ef_95 => ?_)
                replace hF := q_letX hF ef_95
                have asf_95 : f_95.toInt = m_of σ_15 (q_rf X a 29) x_14.toInt := by rw [ef_95]; rfl
                refine q_ci (q_rV11_1 (rest := []) E (hml.trans hl.1.symm) hI (c_X12_isKindAt l X σ_15 a f_95 ha (by rw [fxσ_15]; exact hG)) kv_X12_299 ha ⟨Nat.le_of_ble_eq_true rfl, Nat.le_of_ble_eq_true rfl⟩ (Nat.le_of_ble_eq_true rfl) dX12_lay_100) hI (Nat.le_of_ble_eq_true rfl) (fun r_96 σ_97 H locs hpσ_97 hkσ_97 hI => ?_)
                have ahpσ_97 := hpσ_97.1
                have bhpσ_97 := hpσ_97.2.1
                have chpσ_97 := hpσ_97.2.2.1
                have dhpσ_97 := hpσ_97.2.2.2
                clear hpσ_97
                replace hI := q_Irw ahpσ_97 hI
                rw [fxσ_15] at chpσ_97
                replace hF := q_letX hF dhpσ_97
                refine q_if_ne (A := r_96.toInt) E rfl (tgt := 112) dX12_lay_103 (by decide) (fun c_98 => ?_) (fun c_98 => ?_)
                · skip
                  replace hF := q_ifn hF c_98
                  replace c_98 := q_ifOne bhpσ_97 c_98
                  replace chpσ_97 := q_ifYes chpσ_97 c_98
                  exact J_112_64 _ _ ls (by first | (clear hn gσ wσ hh gσ_1 wσ_1 gσ_2 wσ_2 gσ_3 wσ_3 gσ_4 wσ_4 gσ_5 wσ_5 gσ_6 wσ_6 hm42 hge42 gσ_8 wσ_8 gc_10_x_7 c_10 hm75 hge75 szσ_15 gσ_15 wσ_15 gc_17_x_14 c_17 c_94 ahpσ_97 bhpσ_97 dhpσ_97 c_98; omega) | omega) hF hI (lv_sub hl [0, 1, 2, 3, 4, 5, 6, 7, 8] rfl)
                · skip
                  replace hF := q_ifp hF c_98
                  replace chpσ_97 := q_ifNo chpσ_97 c_98
                  unfold F_X12_lay_E106_11 at hF
                  refine lv_aload_n hx hb dX12_lay_106 rfl (lv_at hl 0 rfl) ?_
                  refine lv_iconst (v := 2) hx hb dX12_lay_107 zki_2 ?_
                  have kc_99 : (2 : Int32).toInt = 2 := zt_2
                  refine q_ci (q_rV11_1 (rest := []) E (hml.trans hl.1.symm) hI (c_X12_refuse l X σ_15 a (2 : Int32) ha) kv_X12_284 ha ⟨Nat.le_of_ble_eq_true rfl, Nat.le_of_ble_eq_true rfl⟩ (Nat.le_of_ble_eq_true rfl) dX12_lay_108) hI (Nat.le_of_ble_eq_true rfl) (fun r_100 σ_101 H locs hpσ_101 hkσ_101 hI => ?_)
                  have ahpσ_101 := hpσ_101.1
                  have bhpσ_101 := hpσ_101.2.1
                  have chpσ_101 := hpσ_101.2.2
                  clear hpσ_101
                  have fr_σ_101 := fr_σ_15.call chpσ_101 rfl rfl
                  replace hF := q_biX hF bhpσ_101
                  have mcσ_101 := m_cK hkσ_101 hI.1 ha (by decide)
                  have gσ_101 : m_G (m_c X σ_101 a) := m_G.ext (fun j _ _ => mcσ_101 j) gσ_15
                  have wσ_101 : m_W (m_c X σ_101 a) n := m_W.ext (fun j _ _ => mcσ_101 j) wσ_15
                  have kqσ_101 : ∀ j, 654 ≤ j → m_c X σ_101 a j = m_c X σ a j := fun j h => (mcσ_101 j).trans (kqσ_15 j h)
                  have fxσ_101 : m_c X σ_101 a = m_c X σ a := (funext mcσ_101).trans fxσ_15
                  exact q_reti E hr hlk hI ⟨gσ_101, (by first | exact m_W.le vσ_101 (by omega) | exact m_W.le wσ_101 (by first | (clear hn gσ wσ hh gσ_1 wσ_1 gσ_2 wσ_2 gσ_3 wσ_3 gσ_4 wσ_4 gσ_5 wσ_5 gσ_6 wσ_6 hm42 hge42 gσ_8 wσ_8 gc_10_x_7 c_10 hm75 hge75 szσ_15 gσ_15 wσ_15 gc_17_x_14 c_17 asf_64 gc_94_f_64 c_94 asf_95 ahpσ_97 bhpσ_97 dhpσ_97 c_98 chpσ_97 kc_99 ahpσ_101 bhpσ_101 chpσ_101 gσ_101 wσ_101; omega) | omega)), (fun j h0 h1 => kqσ_101 j (by first | (clear hn gσ wσ hh gσ_1 wσ_1 gσ_2 wσ_2 gσ_3 wσ_3 gσ_4 wσ_4 gσ_5 wσ_5 gσ_6 wσ_6 hm42 hge42 gσ_8 wσ_8 gc_10_x_7 c_10 hm75 hge75 szσ_15 gσ_15 wσ_15 gc_17_x_14 c_17 asf_64 gc_94_f_64 c_94 asf_95 ahpσ_97 bhpσ_97 dhpσ_97 c_98 chpσ_97 kc_99 ahpσ_101 bhpσ_101 chpσ_101 gσ_101 wσ_101; omega) | omega)), (hF.trans hout), fr_σ_101⟩ dX12_lay_111
        have kc_102 : (0 : Int32).toInt = 0 := zt_0
        exact L_75_16 ((2147483647 - (0 : Int32).toInt).toNat + 1) 0 0 0 0 σ_8 _ _ ls (Nat.lt_succ_self _) (by decide) szσ_8 nnσ_8 fr_σ_8 gσ_8 wσ_8 kqσ_8 fxσ_8 hF hI (lv_sub hl [4, 5, 6, 7, 8, 3, 2, 1, 0] rfl)
      · skip
        replace hF := q_ifp hF c_10
        refine lv_aload_n hx hb dX12_lay_49 rfl (lv_at hl 0 rfl) ?_
        refine gs_X12_47_12 E hI ha dX12_lay_50 ?_
        refine lv_iload hx hb dX12_lay_53 (lv_at hl 5 rfl) ?_
        refine lv_iconst (v := 0) hx hb dX12_lay_55 zki_0 ?_
        have kc_104 : (0 : Int32).toInt = 0 := zt_0
        refine q_iastN E hI (q_tk (k' := 39) hI ha rfl (Nat.succ_ne_zero _)) ⟨by decide, rfl⟩ (by first | (clear hn gσ wσ hh gσ_1 wσ_1 gσ_2 wσ_2 gσ_3 wσ_3 gσ_4 wσ_4 gσ_5 wσ_5 gσ_6 wσ_6 hm42 gσ_8 wσ_8 gc_10_x_7 kc_104; omega) | omega) (by rw [q_lnk (v := 10) hI (q_tk (k' := 39) hI ha rfl (Nat.succ_ne_zero _)) rfl (by decide)]; omega) (show 1 < 9 by decide) (q_inU rfl) dX12_lay_56 (fun H locs σ_103 hσ_103 hI => ?_)
        replace hF := q_letX hF hσ_103
        have fr_σ_103 := fr_σ_8.si hσ_103 (q_tk (k' := 39) hI ha rfl (Nat.succ_ne_zero _)) rfl
        have mcσ_103 := m_wo hσ_103 (m_ne (q_tk (k' := 39) hI ha rfl (Nat.succ_ne_zero _)) (q_tk (f := 20) (k' := 34) hI ha rfl (by decide)) (by decide))
        have gσ_103 : m_G (m_c X σ_103 a) := m_G.ext (fun j _ _ => mcσ_103 j) gσ_8
        have wσ_103 : m_W (m_c X σ_103 a) n := m_W.ext (fun j _ _ => mcσ_103 j) wσ_8
        have kqσ_103 : ∀ j, 654 ≤ j → m_c X σ_103 a j = m_c X σ a j := fun j h => (mcσ_103 j).trans (kqσ_8 j h)
        have fxσ_103 : m_c X σ_103 a = m_c X σ a := (funext mcσ_103).trans fxσ_8
        have moσ_103 := m_ofw hσ_103 (rfl : x_7.toInt = _) (by first | (clear hn gσ wσ hh gσ_1 wσ_1 gσ_2 wσ_2 gσ_3 wσ_3 gσ_4 wσ_4 gσ_5 wσ_5 gσ_6 wσ_6 hm42 gσ_8 wσ_8 gc_10_x_7 kc_104 gσ_103 wσ_103; omega) | omega)
        have zlσ_103x := zlσ_8
        obtain ⟨z_105, ez_105⟩ : ∃ y : Int32, y = x_7 + 1 := ⟨_, rfl⟩
        replace hF := q_letX hF ez_105
        refine lv_iinc (v := z_105) (lv' := [(5, .int z_105), (0, .ref a), (1, .int v1), (2, .int v2), (3, .int v3), (4, .int v4)]) hx hb dX12_lay_57 hl (k := 5) rfl (by rw [ez_105]; rfl) (by decide) rfl (fun ls hl => ?_)
        have iz_105 : z_105.toInt = x_7.toInt + 1 := q_inc ez_105 (by first | (clear hn gσ wσ hh gσ_1 wσ_1 gσ_2 wσ_2 gσ_3 wσ_3 gσ_4 wσ_4 gσ_5 wσ_5 gσ_6 wσ_6 hm42 gσ_8 wσ_8 gc_10_x_7 kc_104 gσ_103 wσ_103; omega) | omega)
        refine lv_goto (tgt := 42) hx hb dX12_lay_60 (by decide) ?_
        exact ih42 z_105 σ_103 _ _ ls (by first | (clear hn gσ wσ hh gσ_1 wσ_1 gσ_2 wσ_2 gσ_3 wσ_3 gσ_4 wσ_4 gσ_5 wσ_5 gσ_6 wσ_6 gσ_8 wσ_8 gc_10_x_7 kc_104 gσ_103 wσ_103; omega) | omega) (by first | (clear hn gσ wσ hh gσ_1 wσ_1 gσ_2 wσ_2 gσ_3 wσ_3 gσ_4 wσ_4 gσ_5 wσ_5 gσ_6 wσ_6 hm42 gσ_8 wσ_8 gc_10_x_7 kc_104 gσ_103 wσ_103; omega) | omega) (fun k h0 h1 => by rw [moσ_103 k h0]; split; rfl; exact zlσ_103x k h0 (by first | (clear hn gσ wσ hh gσ_1 wσ_1 gσ_2 wσ_2 gσ_3 wσ_3 gσ_4 wσ_4 gσ_5 wσ_5 gσ_6 wσ_6 hm42 hge42 gσ_8 wσ_8 gc_10_x_7 c_10 kc_104 gσ_103 wσ_103; omega) | omega)) fr_σ_103 gσ_103 wσ_103 kqσ_103 fxσ_103 hF hI (lv_sub hl [1, 2, 3, 4, 5, 0] rfl)
  have kc_106 : (0 : Int32).toInt = 0 := zt_0
  exact L_42_9 ((2147483647 - (0 : Int32).toInt).toNat + 1) 0 σ_6 _ _ ls (Nat.lt_succ_self _) (by decide) (fun k h0 h1 => by have q : (0 : Int32).toInt = 0 := rfl; omega) fr_σ_6 gσ_6 wσ_6 kqσ_6 fxσ_6 hF hI (lv_sub hl [1, 2, 3, 4, 5, 0] rfl)
end
