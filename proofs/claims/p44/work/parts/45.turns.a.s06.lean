section
set_option maxRecDepth 100000 in
set_option maxHeartbeats 4000000 in
theorem c_X12_doAll_s (l : Launch) (X : XW) (σ : ST) (a : Nat) (v1 : Int32) (v2 : Int32) (n : Int) (d : Nat) (FO : ST → Int32 → ST) (hO : ∀ (σ : ST) (v1 : Int32) (hG : m_G (m_c X σ a)) (hW : m_W (m_c X σ a) (n + (σ.1 a 40).toInt)) (hn : 0 ≤ n ∧ n ≤ 199500) (hd : 0 ≤ (σ.1 a 40).toInt ∧ (σ.1 a 40).toInt ≤ 300) (hs : 29 - (d : Int) ≤ v1.toInt ∧ 0 ≤ v1.toInt ∧ v1.toInt < m_c X σ a 655), Met l yX12_doOne (q_ws yX12_doOne cX12_doOne 5 none) (q_rm (8 + 2 * d) (181 + 47 * d)) (q_P X σ [.ref a, .int v1]) (q_Qv X 1 σ (fun (σ' : ST) => (m_G (m_c X σ' a)) ∧ (m_W (m_c X σ' a) (n + (σ'.1 a 40).toInt)) ∧ (∀ j, 654 ≤ j → m_c X σ' a j = m_c X σ a j) ∧ ((σ.1 a 40).toInt ≤ (σ'.1 a 40).toInt ∧ (σ'.1 a 40).toInt ≤ 300) ∧ (∀ b g, q_kd X b = 35 → σ'.1 b g = σ.1 b g) ∧ σ' = FO σ v1 ∧ q_ow [(12, 38), (12, 39), (12, 40), (12, 41), (12, 42), (12, 43), (12, 44), (12, 45), (34, 99), (39, 99)] [] X σ σ')) 0 0 (q_reg X)) (ha : q_kd X a = 12) (hG : m_G (m_c X σ a)) (hW : m_W (m_c X σ a) (n + (σ.1 a 40).toInt)) (hn : 0 ≤ n ∧ n ≤ 199500) (hd : 0 ≤ (σ.1 a 40).toInt ∧ (σ.1 a 40).toInt ≤ 300) (hf : 29 - (d : Int) ≤ v1.toInt ∧ 0 ≤ v1.toInt) (ht : v2.toInt ≤ m_c X σ a 655) : Met l yX12_doAll (q_ws yX12_doAll cX12_doAll 4 none) (q_rm (7 + 2 * (d + 1)) (158 + 47 * (d + 1))) (q_P X σ [.ref a, .int v1, .int v2]) (q_Qv X 1 σ (fun (σ' : ST) => (m_G (m_c X σ' a)) ∧ (m_W (m_c X σ' a) (n + (σ'.1 a 40).toInt)) ∧ (∀ j, 654 ≤ j → m_c X σ' a j = m_c X σ a j) ∧ ((σ.1 a 40).toInt ≤ (σ'.1 a 40).toInt ∧ (σ'.1 a 40).toInt ≤ 300) ∧ (∀ b g, q_kd X b = 35 → σ'.1 b g = σ.1 b g) ∧ σ' = F_X12_doAll_s X σ a v1 v2 FO ∧ q_ow [(12, 38), (12, 39), (12, 40), (12, 41), (12, 42), (12, 43), (12, 44), (12, 45), (34, 99), (39, 99)] [] X σ σ')) 0 0 (q_reg X) := by
  refine q_met 1 (by first | exact rfl | decide +kernel) rfl (Nat.le_of_ble_eq_true rfl) (fun p e s m below meth c E hml hr hlk hI ls hl => ?_)
  have hx := E.1
  have hb := E.2.1
  have hl : lv_has ls 4 [(0, .ref a), (1, .int v1), (2, .int v2)] := hl
  have gσ : m_G (m_c X σ a) := hG
  have wσ : m_W (m_c X σ a) (n + (σ.1 a 40).toInt) := hW
  have kqσ : ∀ j, 654 ≤ j → m_c X σ a j = m_c X σ a j := fun _ _ => rfl
  have dnσ : (σ.1 a 40).toInt ≤ (σ.1 a 40).toInt ∧ (σ.1 a 40).toInt ≤ 300 := (by omega)
  have k5σ : ∀ b g, q_kd X b = 35 → σ.1 b g = σ.1 b g := fun _ _ _ => rfl
  have fr_σ : q_ow [(12, 38), (12, 39), (12, 40), (12, 41), (12, 42), (12, 43), (12, 44), (12, 45), (34, 99), (39, 99)] [] X σ σ := q_ow.rf
  have hh := hG.hd
  have hQ := hG.2.2.2.2.2.1
  obtain ⟨out, hout⟩ : ∃ o, o = F_X12_doAll_s X σ a v1 v2 FO := ⟨_, rfl⟩
  have hF := hout.symm
  unfold F_X12_doAll_s at hF
  refine lv_iload_n hx hb dX12_doAll_0 rfl (lv_at hl 1 rfl) ?_
  refine lv_istore_n (lv' := [(3, .int v1), (0, .ref a), (1, .int v1), (2, .int v2)]) hx hb dX12_doAll_1 rfl hl (by decide) rfl (fun ls hl => ?_)
  have L_2_3 : ∀ (k_3 : Nat) (x_1 : Int32) (σ_2 : ST) (H : Heap) (locs : List Loc) (ls : Array Slot), (31 - x_1.toInt).toNat < k_3 → (29 - (d : Int) ≤ x_1.toInt ∧ 0 ≤ x_1.toInt) → (q_ow [(12, 38), (12, 39), (12, 40), (12, 41), (12, 42), (12, 43), (12, 44), (12, 45), (34, 99), (39, 99)] [] X σ σ_2) → (m_G (m_c X σ_2 a)) → (m_W (m_c X σ_2 a) (n + (σ_2.1 a 40).toInt)) → (∀ j, 654 ≤ j → m_c X σ_2 a j = m_c X σ a j) → ((σ.1 a 40).toInt ≤ (σ_2.1 a 40).toInt ∧ (σ_2.1 a 40).toInt ≤ 300) → (∀ b g, q_kd X b = 35 → σ_2.1 b g = σ.1 b g) → (F_X12_doAll_s_L2_1 X v2 a FO k_3 x_1 σ_2 = out) → q_I X 1 σ s.heap locs σ_2 H → lv_has ls 4 [(0, .ref a), (1, .int v1), (2, .int v2), (3, .int x_1)] → W p l e (q_rm (7 + 2 * (d + 1)) (158 + 47 * (d + 1))) s m ([.ref a, .int v1, .int v2] : List Value).toArray below meth c H locs 0 0 (MQ below (q_Qv X 1 σ (fun (σ' : ST) => (m_G (m_c X σ' a)) ∧ (m_W (m_c X σ' a) (n + (σ'.1 a 40).toInt)) ∧ (∀ j, 654 ≤ j → m_c X σ' a j = m_c X σ a j) ∧ ((σ.1 a 40).toInt ≤ (σ'.1 a 40).toInt ∧ (σ'.1 a 40).toInt ≤ 300) ∧ (∀ b g, q_kd X b = 35 → σ'.1 b g = σ.1 b g) ∧ σ' = F_X12_doAll_s X σ a v1 v2 FO ∧ q_ow [(12, 38), (12, 39), (12, 40), (12, 41), (12, 42), (12, 43), (12, 44), (12, 45), (34, 99), (39, 99)] [] X σ σ')) ([.ref a, .int v1, .int v2] : List Value).toArray s 0 0 (q_reg X)) (F0 m 2 ls []) := by
    clear hF
    intro k_3
    induction k_3 with
    | zero =>
      intro x_1 σ_2 H locs ls hms
      try clear kqσ; try clear dnσ; try clear fr_σ
      exact absurd hms (Nat.not_lt_zero _)
    | succ k_3 ih2 =>
      intro x_1 σ_2 H locs ls hm2 hge2 fr_σ_2 gσ_2 wσ_2 kqσ_2 dnσ_2 k5σ_2 hF hI hl
      replace hF := (F_X12_doAll_s_L2_1_s).symm.trans hF
      unfold F_X12_doAll_s_B2_1 at hF
      have q5 := kqσ_2 655 (by decide)
      refine lv_iload_n hx hb dX12_doAll_2 rfl (lv_at hl 3 rfl) ?_
      refine lv_iload_n hx hb dX12_doAll_3 rfl (lv_at hl 2 rfl) ?_
      have gc_4_x_1 := q_rng x_1
      have gc_4_v2 := q_rng v2
      refine q_icmp_ge (A := x_1.toInt) (B := v2.toInt) E rfl rfl (tgt := 39) dX12_doAll_4 (by decide) (fun c_4 => ?_) (fun c_4 => ?_)
      · skip
        replace hF := q_ifn hF (Int.not_lt.mpr c_4)
        skip
        exact q_retv E hr hlk hI ⟨gσ_2, (by first | exact wσ_2 | exact m_W.le w0σ_2 (by omega)), kqσ_2, dnσ_2, k5σ_2, (hF.trans hout), fr_σ_2⟩ dX12_doAll_39
      · skip
        replace hF := q_ifp hF c_4
        refine lv_aload_n hx hb dX12_doAll_7 rfl (lv_at hl 0 rfl) ?_
        refine gs_X12_420_12 E hI ha dX12_doAll_8 ?_
        refine lv_topi (fun f_5 ef_5 => ?_)
        replace hF := q_letX hF ef_5
        have if_5 : f_5.toInt = (σ_2.1 a 38).toInt := congrArg Int32.toInt ef_5
        have bf_5 : 0 ≤ f_5.toInt ∧ f_5.toInt ≤ 1 := by rw [ef_5]; exact q_bd hI ha rfl
        refine q_if_ne (A := f_5.toInt) E rfl (tgt := 39) dX12_doAll_11 (by decide) (fun c_6 => ?_) (fun c_6 => ?_)
        · skip
          replace hF := q_ifn hF c_6
          skip
          exact q_retv E hr hlk hI ⟨gσ_2, (by first | exact wσ_2 | exact m_W.le w0σ_2 (by omega)), kqσ_2, dnσ_2, k5σ_2, (hF.trans hout), fr_σ_2⟩ dX12_doAll_39
        · skip
          replace hF := q_ifp hF c_6
          refine lv_aload_n hx hb dX12_doAll_14 rfl (lv_at hl 0 rfl) ?_
          refine lv_iload_n hx hb dX12_doAll_15 rfl (lv_at hl 3 rfl) ?_
          refine q_cv (q_runV (As := [.int x_1]) (rest := []) E (hml.trans hl.1.symm) hI (hO σ_2 x_1 gσ_2 wσ_2 (by omega) (by omega) (by omega)) kv_X12_438 ha ⟨rfl, by decide⟩ (show vwCl[11]? = some (RX12, TX12, 46) from rfl) rfl (by constructor <;> (simp only [q_rm]; omega)) ⟨Nat.le_refl _, Nat.le_refl _⟩ rfl (Nat.le_of_ble_eq_true rfl) dX12_doAll_16) hI (by decide) (fun σ_8 H locs hpσ_8 hkσ_8 hI => ?_)
          obtain ⟨ahpσ_8, bhpσ_8, chpσ_8, dhpσ_8, ehpσ_8, fhpσ_8, ghpσ_8⟩ := hpσ_8
          have fr_σ_8 := fr_σ_2.call ghpσ_8 rfl rfl
          replace hF := q_letX hF fhpσ_8
          have gσ_8 : m_G (m_c X σ_8 a) := ahpσ_8
          have wσ_8 : m_W (m_c X σ_8 a) (n + (σ_8.1 a 40).toInt) := bhpσ_8
          have kqσ_8 : ∀ j, 654 ≤ j → m_c X σ_8 a j = m_c X σ a j := (fun j h => (chpσ_8 j h).trans (kqσ_2 j h))
          have dnσ_8 : (σ.1 a 40).toInt ≤ (σ_8.1 a 40).toInt ∧ (σ_8.1 a 40).toInt ≤ 300 := (by omega)
          have k5σ_8 : ∀ b g, q_kd X b = 35 → σ_8.1 b g = σ.1 b g := (fun b g q => (ehpσ_8 b g q).trans (k5σ_2 b g q))
          have q8 := kqσ_8 (656 + 9 * x_1.toInt + 8) (by omega)
          have st := hG.2.2.2.2.2.2 x_1.toInt (by omega) (by omega)
          have s4 := st.2.2.2
          refine lv_aload_n hx hb dX12_doAll_19 rfl (lv_at hl 0 rfl) ?_
          refine gs_X12_35_12 E hI ha dX12_doAll_20 ?_
          refine lv_sipush (v := 656) hx hb dX12_doAll_23 (by decide) ?_
          refine lv_bipush (v := 9) hx hb dX12_doAll_26 (by decide) ?_
          refine lv_iload_n hx hb dX12_doAll_28 rfl (lv_at hl 3 rfl) ?_
          refine lv_imul hx hb dX12_doAll_29 ?_
          refine lv_topi (fun z_9 ez_9 => ?_)
          replace hF := q_letX hF ez_9
          have iz_9 := q_mulI (A := 9) (B := x_1.toInt) ez_9 (by decide) rfl (by omega) (by omega)
          refine lv_iadd hx hb dX12_doAll_30 ?_
          refine lv_topi (fun z_10 ez_10 => ?_)
          replace hF := q_letX hF ez_10
          have iz_10 := q_addI (A := 656) (B := (9 * x_1.toInt)) ez_10 (by decide) iz_9 (by omega) (by omega)
          refine lv_bipush (v := 8) hx hb dX12_doAll_31 (by decide) ?_
          refine lv_iadd hx hb dX12_doAll_33 ?_
          refine lv_topi (fun z_11 ez_11 => ?_)
          replace hF := q_letX hF ez_11
          have iz_11 := q_addI (A := (656 + (9 * x_1.toInt))) (B := 8) ez_11 iz_10 (by decide) (by omega) (by omega)
          refine q_iald E hI (q_tk (k' := 34) hI ha rfl (by decide)) ⟨by decide, rfl⟩ (by omega) (by rw [q_lnk (v := 4650) hI (q_tk (k' := 34) hI ha rfl (by decide)) rfl (by decide)]; omega) dX12_doAll_34 ?_
          refine lv_topi (fun f_12 ef_12 => ?_)
          replace hF := q_letX hF ef_12
          have if_12 : f_12.toInt = m_c X σ_8 a ((656 + (9 * x_1.toInt)) + 8) := m_rd ef_12 iz_11
          refine lv_istore_n (lv' := [(3, .int f_12), (0, .ref a), (1, .int v1), (2, .int v2)]) hx hb dX12_doAll_35 rfl hl (by decide) rfl (fun ls hl => ?_)
          refine lv_goto (tgt := 2) hx hb dX12_doAll_36 (by decide) ?_
          exact ih2 f_12 σ_8 _ _ ls (by omega) (by omega) fr_σ_8 gσ_8 wσ_8 kqσ_8 dnσ_8 k5σ_8 hF hI (lv_sub hl [1, 2, 3, 0] rfl)
  exact L_2_3 ((31 - v1.toInt).toNat + 1) v1 σ _ _ ls (Nat.lt_succ_self _) (by omega) fr_σ gσ wσ kqσ dnσ k5σ hF hI (lv_sub hl [1, 2, 3, 0] rfl)
end
