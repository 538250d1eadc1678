set_option maxRecDepth 100000 in
set_option maxHeartbeats 4000000 in
theorem c_X12_toldOf (l : Launch) (X : XW) (σ : ST) (a : Nat) (v1 : Int32) (ha : q_kd X a = 12) (h0 : 0 ≤ v1.toInt) (h1 : v1.toInt ≤ 9) (hN : m_N (m_c X σ a)) : Met l yX12_toldOf (q_ws yX12_toldOf cX12_toldOf 4 (some .int)) (q_rm 0 0) (q_P X σ [.ref a, .int v1]) (q_Qi X 9 σ (fun (r : Int32) (σ' : ST) => σ' = σ ∧ (r.toInt = m_sum (m_c X σ a) 3720 v1.toInt) ∧ r = F_X12_toldOf X σ a v1)) 0 0 (q_reg X) := by
  refine q_met 9 (by first | exact rfl | decide +kernel) rfl (Nat.le_of_ble_eq_true rfl) (fun p e s m below meth c E hml hr hlk hI ls hl => ?_)
  have hx := E.1
  have hb := E.2.1
  have hl : lv_has ls 4 [(0, .ref a), (1, .int v1)] := hl
  obtain ⟨out, hout⟩ : ∃ o, o = F_X12_toldOf X σ a v1 := ⟨_, rfl⟩
  have hF := hout.symm
  unfold F_X12_toldOf at hF
  refine lv_iconst (v := 0) hx hb dX12_toldOf_0 (by decide) ?_
  refine lv_istore_n (lv' := [(2, .int 0), (0, .ref a), (1, .int v1)]) hx hb dX12_toldOf_1 rfl hl (by decide) rfl (fun ls hl => ?_)
  refine lv_iconst (v := 0) hx hb dX12_toldOf_2 (by decide) ?_
  refine lv_istore_n (lv' := [(3, .int 0), (2, .int 0), (0, .ref a), (1, .int v1)]) hx hb dX12_toldOf_3 rfl hl (by decide) rfl (fun ls hl => ?_)
  have L_4_3 : ∀ (k_3 : Nat) (x_1 : Int32) (x_2 : Int32) (H : Heap) (locs : List Loc) (ls : Array Slot), (2147483647 - x_2.toInt).toNat < k_3 → (0 ≤ x_2.toInt ∧ x_2.toInt ≤ 6) → (x_1.toInt = m_ps (m_c X σ a) v1.toInt x_2.toInt.toNat) → (F_X12_toldOf_L4_1 X v1 σ a k_3 x_1 x_2 = out) → q_I X 9 σ s.heap locs σ H → lv_has ls 4 [(0, .ref a), (1, .int v1), (2, .int x_1), (3, .int x_2)] → W p l e (q_rm 0 0) s m ([.ref a, .int v1] : List Value).toArray below meth c H locs 0 0 (MQ below (q_Qi X 9 σ (fun (r : Int32) (σ' : ST) => σ' = σ ∧ (r.toInt = m_sum (m_c X σ a) 3720 v1.toInt) ∧ r = F_X12_toldOf X σ a v1)) ([.ref a, .int v1] : List Value).toArray s 0 0 (q_reg X)) (F0 m 4 ls []) := by
    clear hF
    intro k_3
    induction k_3 with
    | zero =>
      intro x_1 x_2 H locs ls hms
      exact absurd hms (Nat.not_lt_zero _)
    | succ k_3 ih4 =>
      intro x_1 x_2 H locs ls hm4 hge4 hps hF hI hl
      replace hF := (F_X12_toldOf_L4_1_s).symm.trans hF
      unfold F_X12_toldOf_B4_1 at hF
      have pb := m_ps_bd hN ⟨h0, by omega⟩ x_2.toInt.toNat (by first | (clear h0 h1 hm4; omega) | omega)
      have pc := fun h => m_ps_bd hN ⟨h0, by omega⟩ (x_2.toInt + 1).toNat h
      have ps := m_ps_succ (m_c X σ a) v1.toInt x_2.toInt hge4.1
      refine lv_iload_n hx hb dX12_toldOf_4 rfl (lv_at hl 3 rfl) ?_
      refine lv_bipush (v := 6) hx hb dX12_toldOf_5 (by decide) ?_
      have gc_4_x_2 := q_rng x_2
      refine q_icmp_ge (A := x_2.toInt) (B := 6) E rfl (by decide) (tgt := 34) dX12_toldOf_7 (by decide) (fun c_4 => ?_) (fun c_4 => ?_)
      · skip
        replace hF := q_ifn hF (Int.not_lt.mpr c_4)
        skip
        refine lv_iload_n hx hb dX12_toldOf_34 rfl (lv_at hl 2 rfl) ?_
        exact q_reti E hr hlk hI ⟨rfl, (by rw [← m_ps_6]; have q : x_2.toInt.toNat = 6 := (by first | (clear h0 h1 hm4 pc ps gc_4_x_2; omega) | omega); rw [q] at hps; exact hps), (hF.trans hout)⟩ dX12_toldOf_35
      · skip
        replace hF := q_ifp hF c_4
        refine lv_iload_n hx hb dX12_toldOf_10 rfl (lv_at hl 2 rfl) ?_
        refine lv_aload_n hx hb dX12_toldOf_11 rfl (lv_at hl 0 rfl) ?_
        refine gs_X12_35_12 E hI ha dX12_toldOf_12 ?_
        refine lv_sipush (v := 3754) hx hb dX12_toldOf_15 (by decide) ?_
        refine lv_bipush (v := 10) hx hb dX12_toldOf_18 (by decide) ?_
        refine lv_iload_n hx hb dX12_toldOf_20 rfl (lv_at hl 3 rfl) ?_
        refine lv_imul hx hb dX12_toldOf_21 ?_
        refine lv_topi (fun z_5 ez_5 => ?_)
        replace hF := q_letX hF ez_5
        have iz_5 := q_mulI (A := 10) (B := x_2.toInt) ez_5 (by decide) rfl (by first | (clear h0 h1 hm4 pc ps gc_4_x_2; omega) | omega) (by first | (clear h0 h1 hm4 pc ps gc_4_x_2; omega) | omega)
        refine lv_iadd hx hb dX12_toldOf_22 ?_
        refine lv_topi (fun z_6 ez_6 => ?_)
        replace hF := q_letX hF ez_6
        have iz_6 := q_addI (A := 3754) (B := (10 * x_2.toInt)) ez_6 (by decide) iz_5 (by first | (clear h0 h1 hm4 pc ps gc_4_x_2 iz_5; omega) | omega) (by first | (clear h0 h1 hm4 pc ps gc_4_x_2 iz_5; omega) | omega)
        refine lv_iload_n hx hb dX12_toldOf_23 rfl (lv_at hl 1 rfl) ?_
        refine lv_iadd hx hb dX12_toldOf_24 ?_
        refine lv_topi (fun z_7 ez_7 => ?_)
        replace hF := q_letX hF ez_7
        have iz_7 := q_addI (A := (3754 + (10 * x_2.toInt))) (B := v1.toInt) ez_7 iz_6 rfl (by first | (clear h0 h1 hm4 pc ps gc_4_x_2 iz_5 iz_6; omega) | omega) (by first | (clear h0 h1 hm4 pc ps gc_4_x_2 iz_5 iz_6; omega) | omega)
        refine q_iald E hI (q_tk (k' := 34) hI ha rfl (by decide)) ⟨by decide, rfl⟩ (by first | (clear h0 h1 hm4 pc ps gc_4_x_2 iz_5 iz_6; omega) | omega) (by rw [q_lnk (v := 4650) hI (q_tk (k' := 34) hI ha rfl (by decide)) rfl (by decide)]; omega) dX12_toldOf_25 ?_
        refine lv_topi (fun f_8 ef_8 => ?_)
        replace hF := q_letX hF ef_8
        have if_8 : f_8.toInt = m_c X σ a ((3754 + (10 * x_2.toInt)) + v1.toInt) := m_rd ef_8 iz_7
        have pcx := pc (by first | (clear h0 h1 hm4 pc ps gc_4_x_2 iz_5 iz_6 iz_7 if_8; omega) | omega)
        rw [ps] at pcx
        refine lv_iadd hx hb dX12_toldOf_26 ?_
        refine lv_topi (fun z_9 ez_9 => ?_)
        replace hF := q_letX hF ez_9
        have iz_9 := q_addI (A := x_1.toInt) (B := (m_c X σ a ((3754 + (10 * x_2.toInt)) + v1.toInt))) ez_9 rfl if_8 (by first | (clear h0 h1 hm4 hge4 pc gc_4_x_2 c_4 iz_5 iz_6 iz_7 if_8; omega) | omega) (by first | (clear h0 h1 hm4 hge4 pc gc_4_x_2 c_4 iz_5 iz_6 iz_7 if_8; omega) | omega)
        refine lv_istore_n (lv' := [(2, .int z_9), (0, .ref a), (1, .int v1), (3, .int x_2)]) hx hb dX12_toldOf_27 rfl hl (by decide) rfl (fun ls hl => ?_)
        obtain ⟨z_10, ez_10⟩ : ∃ y : Int32, y = x_2 + 1 := ⟨_, rfl⟩
        replace hF := q_letX hF ez_10
        refine lv_iinc (v := z_10) (lv' := [(3, .int z_10), (2, .int z_9), (0, .ref a), (1, .int v1)]) hx hb dX12_toldOf_28 hl (k := 3) rfl (by rw [ez_10]; rfl) (by decide) rfl (fun ls hl => ?_)
        have iz_10 : z_10.toInt = x_2.toInt + 1 := q_inc ez_10 (by first | (clear h0 h1 hm4 pc ps gc_4_x_2 iz_5 iz_6 iz_7 if_8 pcx iz_9; omega) | omega)
        have pz := ps
        rw [← iz_10] at pz
        refine lv_goto (tgt := 4) hx hb dX12_toldOf_31 (by decide) ?_
        exact ih4 z_9 z_10 _ _ ls (by first | (clear h0 h1 ps gc_4_x_2 iz_5 iz_6 iz_7 if_8 pcx iz_9 pz; omega) | omega) (by first | (clear h0 h1 hm4 pc ps gc_4_x_2 iz_5 iz_6 iz_7 if_8 pcx iz_9 pz; omega) | omega) (by first | (clear h0 h1 hm4 hge4 pc gc_4_x_2 c_4 iz_5 iz_6 iz_7 if_8 pcx iz_10; omega) | omega) hF hI (lv_sub hl [2, 3, 1, 0] rfl)
  exact L_4_3 ((2147483647 - (0 : Int32).toInt).toNat + 1) 0 0 _ _ ls (Nat.lt_succ_self _) (by decide) rfl hF hI (lv_sub hl [2, 3, 1, 0] rfl)

set_option maxRecDepth 100000 in
set_option maxHeartbeats 4000000 in
theorem c_X12_readLaw (l : Launch) (X : XW) (σ : ST) (a : Nat) (ha : q_kd X a = 12) (hs : 0 ≤ (σ.1 a 15).toInt ∧ (σ.1 a 15).toInt ≤ (σ.1 a 16).toInt ∧ (σ.1 a 16).toInt ≤ (σ.1 a 9).toInt ∧ (σ.1 a 9).toInt ≤ 900 ∧ 0 ≤ (σ.1 a 14).toInt ∧ (σ.1 a 14).toInt ≤ 4 ∧ (σ.1 a 14).toInt ≤ 4 * ((σ.1 a 16).toInt - (σ.1 a 15).toInt) ∧ (σ.1 a 14).toInt ≤ 4 * ((σ.1 a 9).toInt - (σ.1 a 15).toInt) ∧ 0 ≤ (σ.1 a 12).toInt) (hN : m_N (m_c X σ a)) (hz : (σ.1 a 12).toInt = 0) (hk : 2 ≤ m_c X σ a 3720) (h4 : 1 ≤ m_c X σ a 3724) : Met l yX12_readLaw (q_ws yX12_readLaw cX12_readLaw 1 none) (q_rm 3 63) (q_P X σ [.ref a]) (q_Qv X 1 σ (fun (σ' : ST) => (m_N (m_c X σ' a)) ∧ (∀ j, 0 ≤ j → j < 3720 → m_c X σ' a j = m_c X σ a j) ∧ (0 ≤ (σ'.1 a 15).toInt ∧ (σ'.1 a 15).toInt ≤ (σ'.1 a 16).toInt ∧ (σ'.1 a 16).toInt ≤ (σ'.1 a 9).toInt ∧ (σ'.1 a 9).toInt ≤ 900 ∧ 0 ≤ (σ'.1 a 14).toInt ∧ (σ'.1 a 14).toInt ≤ 4 ∧ (σ'.1 a 14).toInt ≤ 4 * ((σ'.1 a 16).toInt - (σ'.1 a 15).toInt) ∧ (σ'.1 a 14).toInt ≤ 4 * ((σ'.1 a 9).toInt - (σ'.1 a 15).toInt) ∧ 0 ≤ (σ'.1 a 12).toInt ∧ (σ'.1 a 9).toInt = (σ.1 a 9).toInt ∧ (σ.1 a 15).toInt ≤ (σ'.1 a 15).toInt ∧ (σ.1 a 12).toInt ≤ (σ'.1 a 12).toInt) ∧ ((σ.1 a 16).toInt ≤ (σ'.1 a 15).toInt + 1000 * (σ'.1 a 12).toInt) ∧ (m_c X σ' a 3720 = m_c X σ a 3720 ∧ m_c X σ' a 3721 = m_c X σ a 3721) ∧ (1 ≤ m_c X σ' a 3724 + 10 * (σ'.1 a 12).toInt) ∧ σ' = F_X12_readLaw X σ a ∧ q_ow [(12, 12), (12, 13), (12, 14), (12, 15), (12, 16), (12, 17), (12, 18), (12, 25), (34, 99)] [(12, 19)] X σ σ')) 0 0 (q_reg X) := by
  refine q_met 1 (by first | exact rfl | decide +kernel) rfl (Nat.le_of_ble_eq_true rfl) (fun p e s m below meth c E hml hr hlk hI ls hl => ?_)
  have hx := E.1
  have hb := E.2.1
  have hl : lv_has ls 1 [(0, .ref a)] := hl
  have nnσ : m_N (m_c X σ a) := hN
  have kpσ : ∀ j, 0 ≤ j → j < 3720 → m_c X σ a j = m_c X σ a j := fun _ _ _ => rfl
  have k3σ : m_c X σ a 3720 = m_c X σ a 3720 ∧ m_c X σ a 3721 = m_c X σ a 3721 := ⟨rfl, rfl⟩
  have k4σ : 1 ≤ m_c X σ a 3724 + 10 * (σ.1 a 12).toInt := (by first | (clear hs hk h4 k3σ; omega) | omega)
  have smσ : 0 ≤ (σ.1 a 15).toInt ∧ (σ.1 a 15).toInt ≤ (σ.1 a 16).toInt ∧ (σ.1 a 16).toInt ≤ (σ.1 a 9).toInt ∧ (σ.1 a 9).toInt ≤ 900 ∧ 0 ≤ (σ.1 a 14).toInt ∧ (σ.1 a 14).toInt ≤ 4 ∧ (σ.1 a 14).toInt ≤ 4 * ((σ.1 a 16).toInt - (σ.1 a 15).toInt) ∧ (σ.1 a 14).toInt ≤ 4 * ((σ.1 a 9).toInt - (σ.1 a 15).toInt) ∧ 0 ≤ (σ.1 a 12).toInt ∧ (σ.1 a 9).toInt = (σ.1 a 9).toInt ∧ (σ.1 a 15).toInt ≤ (σ.1 a 15).toInt ∧ (σ.1 a 12).toInt ≤ (σ.1 a 12).toInt := (by first | (clear hk h4 k3σ k4σ; omega) | omega)
  have beσ : (σ.1 a 16).toInt = (σ.1 a 16).toInt := rfl
  have fr_σ : q_ow [(12, 12), (12, 13), (12, 14), (12, 15), (12, 16), (12, 17), (12, 18), (12, 25), (34, 99)] [(12, 19)] X σ σ := q_ow.rf
  obtain ⟨out, hout⟩ : ∃ o, o = F_X12_readLaw X σ a := ⟨_, rfl⟩
  have hF := hout.symm
  unfold F_X12_readLaw at hF
  refine lv_aload_n hx hb dX12_readLaw_0 rfl (lv_at hl 0 rfl) ?_
  refine gs_X12_232_12 E hI ha dX12_readLaw_1 ?_
  refine lv_topi (fun f_1 ef_1 => ?_)
  replace hF := q_letX hF ef_1
  have if_1 : f_1.toInt = (σ.1 a 25).toInt := congrArg Int32.toInt ef_1
  have bf_1 : 0 ≤ f_1.toInt ∧ f_1.toInt ≤ 1 := by rw [ef_1]; exact q_bd hI ha rfl
  refine q_if_eq (A := f_1.toInt) E rfl (tgt := 16) dX12_readLaw_4 (by decide) (fun c_2 => ?_) (fun c_2 => ?_)
  · skip
    replace hF := q_ifp hF c_2
    refine lv_aload_n hx hb dX12_readLaw_16 rfl (lv_at hl 0 rfl) ?_
    refine gs_X12_187_12 E hI ha dX12_readLaw_17 ?_
    refine lv_topi (fun f_3 ef_3 => ?_)
    replace hF := q_letX hF ef_3
    have if_3 : f_3.toInt = (σ.1 a 12).toInt := congrArg Int32.toInt ef_3
    refine q_if_le (A := f_3.toInt) E rfl (tgt := 24) dX12_readLaw_20 (by decide) (fun c_4 => ?_) (fun c_4 => ?_)
    · skip
      replace hF := q_ifn hF (Int.not_lt.mpr c_4)
      refine lv_aload_n hx hb dX12_readLaw_24 rfl (lv_at hl 0 rfl) ?_
      refine lv_iconst (v := 1) hx hb dX12_readLaw_25 (by decide) ?_
      refine ps_X12_232_12 E hI ha (by decide) (by decide) (by decide) dX12_readLaw_26 (fun H locs σ_5 hσ_5 hI => ?_)
      replace hF := q_letX hF hσ_5
      have fr_σ_5 := fr_σ.si hσ_5 ha rfl
      have mv9_σ_5 : (σ_5.1 a 9).toInt = (σ.1 a 9).toInt := congrArg Int32.toInt (q_rdn hσ_5 (Or.inr (by decide)))
      have mv12_σ_5 : (σ_5.1 a 12).toInt = (σ.1 a 12).toInt := congrArg Int32.toInt (q_rdn hσ_5 (Or.inr (by decide)))
      have mv14_σ_5 : (σ_5.1 a 14).toInt = (σ.1 a 14).toInt := congrArg Int32.toInt (q_rdn hσ_5 (Or.inr (by decide)))
      have mv15_σ_5 : (σ_5.1 a 15).toInt = (σ.1 a 15).toInt := congrArg Int32.toInt (q_rdn hσ_5 (Or.inr (by decide)))
      have mv16_σ_5 : (σ_5.1 a 16).toInt = (σ.1 a 16).toInt := congrArg Int32.toInt (q_rdn hσ_5 (Or.inr (by decide)))
      have mcσ_5 := m_wo hσ_5 (m_ne ha (q_tk (f := 20) (k' := 34) hI ha rfl (by decide)) (by decide))
      have nnσ_5 : m_N (m_c X σ_5 a) := m_N.ext mcσ_5 nnσ
      have kpσ_5 : ∀ j, 0 ≤ j → j < 3720 → m_c X σ_5 a j = m_c X σ a j := fun j h0 h1 => (mcσ_5 j).trans (kpσ j h0 h1)
      have k3σ_5 : m_c X σ_5 a 3720 = m_c X σ a 3720 ∧ m_c X σ_5 a 3721 = m_c X σ a 3721 := ⟨(mcσ_5 3720).trans k3σ.1, (mcσ_5 3721).trans k3σ.2⟩
      have k4σ_5 : 1 ≤ m_c X σ_5 a 3724 + 10 * (σ_5.1 a 12).toInt := (by have := mcσ_5 3724; omega)
      have smσ_5 : 0 ≤ (σ_5.1 a 15).toInt ∧ (σ_5.1 a 15).toInt ≤ (σ_5.1 a 16).toInt ∧ (σ_5.1 a 16).toInt ≤ (σ_5.1 a 9).toInt ∧ (σ_5.1 a 9).toInt ≤ 900 ∧ 0 ≤ (σ_5.1 a 14).toInt ∧ (σ_5.1 a 14).toInt ≤ 4 ∧ (σ_5.1 a 14).toInt ≤ 4 * ((σ_5.1 a 16).toInt - (σ_5.1 a 15).toInt) ∧ (σ_5.1 a 14).toInt ≤ 4 * ((σ_5.1 a 9).toInt - (σ_5.1 a 15).toInt) ∧ 0 ≤ (σ_5.1 a 12).toInt ∧ (σ_5.1 a 9).toInt = (σ.1 a 9).toInt ∧ (σ.1 a 15).toInt ≤ (σ_5.1 a 15).toInt ∧ (σ.1 a 12).toInt ≤ (σ_5.1 a 12).toInt := (by first | (rw [mv12_σ_5, mv14_σ_5, mv15_σ_5, mv16_σ_5, mv9_σ_5]; exact smσ) | omega)
      have beσ_5 : (σ_5.1 a 16).toInt = (σ.1 a 16).toInt := (by omega)
      clear mv9_σ_5 mv12_σ_5 mv14_σ_5 mv15_σ_5 mv16_σ_5 k4σ smσ beσ
      refine lv_aload_n hx hb dX12_readLaw_29 rfl (lv_at hl 0 rfl) ?_
      refine q_cv (q_runV (As := []) (rest := []) E (hml.trans hl.1.symm) hI (c_X12_next l X σ_5 a ha (by first | (clear hz hk h4 k3σ if_1 bf_1 c_2 if_3 c_4 k3σ_5 k4σ_5 smσ_5; omega) | omega) (by first | (clear hs hz hk h4 k3σ if_1 bf_1 c_2 if_3 c_4 k3σ_5 k4σ_5 beσ_5; omega) | omega) (by first | (clear hz hk h4 k3σ if_1 bf_1 c_2 if_3 c_4 k3σ_5 k4σ_5 beσ_5; omega) | omega)) kv_X12_197 ha ⟨rfl, by decide⟩ (show vwCl[11]? = some (RX12, TX12, 46) from rfl) rfl ⟨Nat.le_of_ble_eq_true rfl, Nat.le_of_ble_eq_true rfl⟩ ⟨Nat.le_refl _, Nat.le_refl _⟩ rfl (Nat.le_of_ble_eq_true rfl) dX12_readLaw_30) hI (by decide) (fun σ_7 H locs hpσ_7 hkσ_7 hI => ?_)
      obtain ⟨ahpσ_7, bhpσ_7, chpσ_7, dhpσ_7, ehpσ_7⟩ := hpσ_7
      have fr_σ_7 := fr_σ_5.call ehpσ_7 rfl rfl
      replace hF := q_letX hF dhpσ_7
      have mcσ_7 := m_cK hkσ_7 hI.1 ha (by decide)
      have nnσ_7 : m_N (m_c X σ_7 a) := m_N.ext mcσ_7 nnσ_5
      have kpσ_7 : ∀ j, 0 ≤ j → j < 3720 → m_c X σ_7 a j = m_c X σ a j := fun j h0 h1 => (mcσ_7 j).trans (kpσ_5 j h0 h1)
      have k3σ_7 : m_c X σ_7 a 3720 = m_c X σ a 3720 ∧ m_c X σ_7 a 3721 = m_c X σ a 3721 := ⟨(mcσ_7 3720).trans k3σ_5.1, (mcσ_7 3721).trans k3σ_5.2⟩
      have k4σ_7 : 1 ≤ m_c X σ_7 a 3724 + 10 * (σ_7.1 a 12).toInt := (by have := mcσ_7 3724; omega)
      have smσ_7 : 0 ≤ (σ_7.1 a 15).toInt ∧ (σ_7.1 a 15).toInt ≤ (σ_7.1 a 16).toInt ∧ (σ_7.1 a 16).toInt ≤ (σ_7.1 a 9).toInt ∧ (σ_7.1 a 9).toInt ≤ 900 ∧ 0 ≤ (σ_7.1 a 14).toInt ∧ (σ_7.1 a 14).toInt ≤ 4 ∧ (σ_7.1 a 14).toInt ≤ 4 * ((σ_7.1 a 16).toInt - (σ_7.1 a 15).toInt) ∧ (σ_7.1 a 14).toInt ≤ 4 * ((σ_7.1 a 9).toInt - (σ_7.1 a 15).toInt) ∧ 0 ≤ (σ_7.1 a 12).toInt ∧ (σ_7.1 a 9).toInt = (σ.1 a 9).toInt ∧ (σ.1 a 15).toInt ≤ (σ_7.1 a 15).toInt ∧ (σ.1 a 12).toInt ≤ (σ_7.1 a 12).toInt := (by first | exact sm_nx smσ_5 bhpσ_7 chpσ_7 | omega)
      have onσ_7 : (σ.1 a 16).toInt ≤ (σ_7.1 a 15).toInt := (by first | (clear hs hz hk h4 k3σ if_1 bf_1 c_2 if_3 c_4 k3σ_5 k4σ_5 smσ_5 ahpσ_7 bhpσ_7 dhpσ_7 ehpσ_7 k3σ_7 k4σ_7 smσ_7; omega) | omega)
      clear k4σ_5 smσ_5 bhpσ_7 chpσ_7
      refine lv_aload_n hx hb dX12_readLaw_33 rfl (lv_at hl 0 rfl) ?_
      refine gs_X12_35_12 E hI ha dX12_readLaw_34 ?_
      refine lv_sipush (v := 3723) hx hb dX12_readLaw_37 (by decide) ?_
      refine lv_iconst (v := 0) hx hb dX12_readLaw_40 (by decide) ?_
      refine lv_aload_n hx hb dX12_readLaw_41 rfl (lv_at hl 0 rfl) ?_
      refine q_ci (q_runV (As := []) (rest := [.int 0, .int 3723, .ref (q_rf X a 20)]) E (hml.trans hl.1.symm) hI (c_X12_lawWord l X σ_7 a ha) kv_X12_171 ha ⟨rfl, by decide⟩ (show vwCl[11]? = some (RX12, TX12, 46) from rfl) rfl ⟨Nat.le_of_ble_eq_true rfl, Nat.le_of_ble_eq_true rfl⟩ ⟨Nat.le_refl _, Nat.le_refl _⟩ rfl (Nat.le_of_ble_eq_true rfl) dX12_readLaw_42) hI (by decide) (fun r_8 σ_9 H locs hpσ_9 hkσ_9 hI => ?_)
      obtain ⟨ahpσ_9, bhpσ_9, chpσ_9⟩ := hpσ_9
      rw [ahpσ_9] at hI
      replace hF := q_letX hF chpσ_9
      have kc_10 : (0 : Int32).toInt = 0 := rfl
      refine q_ci (q_runS (As := [.int 0, .int r_8]) (rest := [.int 3723, .ref (q_rf X a 20)]) E (hml.trans hl.1.symm) hI (c_J9_max_7cf53 l X σ_7 (0 : Int32) r_8) ks_X12_220 rfl ⟨Nat.le_of_ble_eq_true rfl, Nat.le_of_ble_eq_true rfl⟩ ⟨Nat.le_refl _, Nat.le_refl _⟩ rfl (Nat.le_of_ble_eq_true rfl) dX12_readLaw_45) hI (by decide) (fun r_11 σ_12 H locs hpσ_12 hkσ_12 hI => ?_)
      obtain ⟨ahpσ_12, bhpσ_12, chpσ_12⟩ := hpσ_12
      rw [ahpσ_12] at hI
      replace hF := q_letX hF chpσ_12
      refine q_iastN E hI (q_tk (k' := 34) hI ha rfl (by decide)) ⟨by decide, rfl⟩ (by decide) (by rw [q_lnk (v := 4650) hI (q_tk (k' := 34) hI ha rfl (by decide)) rfl (by decide)]; decide) (show 1 < 2 by decide) (q_inU rfl) dX12_readLaw_48 (fun H locs σ_13 hσ_13 hI => ?_)
      replace hF := q_letX hF hσ_13
      have fr_σ_13 := fr_σ_7.si hσ_13 (q_tk (k' := 34) hI ha rfl (by decide)) rfl
      have mv9_σ_13 : (σ_13.1 a 9).toInt = (σ_7.1 a 9).toInt := congrArg Int32.toInt (q_rdn hσ_13 (Or.inl (m_ne ha (q_tk (k' := 34) hI ha rfl (by decide)) (by decide))))
      have mv12_σ_13 : (σ_13.1 a 12).toInt = (σ_7.1 a 12).toInt := congrArg Int32.toInt (q_rdn hσ_13 (Or.inl (m_ne ha (q_tk (k' := 34) hI ha rfl (by decide)) (by decide))))
      have mv14_σ_13 : (σ_13.1 a 14).toInt = (σ_7.1 a 14).toInt := congrArg Int32.toInt (q_rdn hσ_13 (Or.inl (m_ne ha (q_tk (k' := 34) hI ha rfl (by decide)) (by decide))))
      have mv15_σ_13 : (σ_13.1 a 15).toInt = (σ_7.1 a 15).toInt := congrArg Int32.toInt (q_rdn hσ_13 (Or.inl (m_ne ha (q_tk (k' := 34) hI ha rfl (by decide)) (by decide))))
      have mv16_σ_13 : (σ_13.1 a 16).toInt = (σ_7.1 a 16).toInt := congrArg Int32.toInt (q_rdn hσ_13 (Or.inl (m_ne ha (q_tk (k' := 34) hI ha rfl (by decide)) (by decide))))
      have mcσ_13 := m_wr (v := r_11) (A := 3723) hσ_13 (by decide) (by decide)
      have nnσ_13 : m_N (m_c X σ_13 a) := m_N.wr nnσ_7 mcσ_13 (by first | (clear hs hz hk h4 k3σ if_1 bf_1 c_2 if_3 c_4 k3σ_5 beσ_5 ahpσ_7 dhpσ_7 ehpσ_7 k3σ_7 k4σ_7 smσ_7 onσ_7 ahpσ_9 chpσ_9 ahpσ_12 chpσ_12 mv9_σ_13 mv12_σ_13 mv14_σ_13 mv15_σ_13 mv16_σ_13; omega) | omega)
      have kpσ_13 : ∀ j, 0 ≤ j → j < 3720 → m_c X σ_13 a j = m_c X σ a j := fun j h0 h1 => by rw [mcσ_13 j h0, if_neg (by first | (clear hs hz hk h4 k3σ if_1 bf_1 c_2 if_3 c_4 k3σ_5 beσ_5 ahpσ_7 dhpσ_7 ehpσ_7 k3σ_7 k4σ_7 smσ_7 onσ_7 ahpσ_9 bhpσ_9 chpσ_9 kc_10 ahpσ_12 bhpσ_12 chpσ_12 mv9_σ_13 mv12_σ_13 mv14_σ_13 mv15_σ_13 mv16_σ_13; omega) | omega)]; exact kpσ_7 j h0 h1
      have k3σ_13 : m_c X σ_13 a 3720 = m_c X σ a 3720 ∧ m_c X σ_13 a 3721 = m_c X σ a 3721 := ⟨by rw [mcσ_13 3720 (by decide), if_neg (by first | (clear hs hz hk h4 k3σ if_1 bf_1 c_2 if_3 c_4 k3σ_5 beσ_5 ahpσ_7 dhpσ_7 ehpσ_7 k3σ_7 k4σ_7 smσ_7 onσ_7 ahpσ_9 bhpσ_9 chpσ_9 kc_10 ahpσ_12 bhpσ_12 chpσ_12 mv9_σ_13 mv12_σ_13 mv14_σ_13 mv15_σ_13 mv16_σ_13; omega) | omega)]; exact k3σ_7.1, by rw [mcσ_13 3721 (by decide), if_neg (by first | (clear hs hz hk h4 k3σ if_1 bf_1 c_2 if_3 c_4 k3σ_5 beσ_5 ahpσ_7 dhpσ_7 ehpσ_7 k3σ_7 k4σ_7 smσ_7 onσ_7 ahpσ_9 bhpσ_9 chpσ_9 kc_10 ahpσ_12 bhpσ_12 chpσ_12 mv9_σ_13 mv12_σ_13 mv14_σ_13 mv15_σ_13 mv16_σ_13; omega) | omega)]; exact k3σ_7.2⟩
      have k4σ_13 : 1 ≤ m_c X σ_13 a 3724 + 10 * (σ_13.1 a 12).toInt := (by have := mcσ_13 3724 (by decide); rw [if_neg (by first | (clear hs hz hk h4 k3σ if_1 bf_1 c_2 if_3 c_4 k3σ_5 beσ_5 ahpσ_7 dhpσ_7 ehpσ_7 k3σ_7 k4σ_7 smσ_7 onσ_7 ahpσ_9 bhpσ_9 chpσ_9 kc_10 ahpσ_12 bhpσ_12 chpσ_12 mv9_σ_13 mv12_σ_13 mv14_σ_13 mv15_σ_13 mv16_σ_13 k3σ_13; omega) | omega)] at this; omega)
      have smσ_13 : 0 ≤ (σ_13.1 a 15).toInt ∧ (σ_13.1 a 15).toInt ≤ (σ_13.1 a 16).toInt ∧ (σ_13.1 a 16).toInt ≤ (σ_13.1 a 9).toInt ∧ (σ_13.1 a 9).toInt ≤ 900 ∧ 0 ≤ (σ_13.1 a 14).toInt ∧ (σ_13.1 a 14).toInt ≤ 4 ∧ (σ_13.1 a 14).toInt ≤ 4 * ((σ_13.1 a 16).toInt - (σ_13.1 a 15).toInt) ∧ (σ_13.1 a 14).toInt ≤ 4 * ((σ_13.1 a 9).toInt - (σ_13.1 a 15).toInt) ∧ 0 ≤ (σ_13.1 a 12).toInt ∧ (σ_13.1 a 9).toInt = (σ.1 a 9).toInt ∧ (σ.1 a 15).toInt ≤ (σ_13.1 a 15).toInt ∧ (σ.1 a 12).toInt ≤ (σ_13.1 a 12).toInt := (by first | (rw [mv12_σ_13, mv14_σ_13, mv15_σ_13, mv16_σ_13, mv9_σ_13]; exact smσ_7) | omega)
      have onσ_13 : (σ.1 a 16).toInt ≤ (σ_13.1 a 15).toInt := (by first | (clear hs hz hk h4 k3σ if_1 bf_1 c_2 if_3 c_4 k3σ_5 ahpσ_7 dhpσ_7 ehpσ_7 k3σ_7 k4σ_7 smσ_7 ahpσ_9 bhpσ_9 chpσ_9 kc_10 ahpσ_12 bhpσ_12 chpσ_12 mv9_σ_13 mv12_σ_13 mv14_σ_13 mv16_σ_13 k3σ_13 k4σ_13 smσ_13; omega) | omega)
      clear mv9_σ_13 mv12_σ_13 mv14_σ_13 mv15_σ_13 mv16_σ_13 k4σ_7 smσ_7 onσ_7
      refine lv_aload_n hx hb dX12_readLaw_49 rfl (lv_at hl 0 rfl) ?_
      refine lv_aload_n hx hb dX12_readLaw_50 rfl (lv_at hl 0 rfl) ?_
      refine q_ci (q_runV (As := []) (rest := [.ref a]) E (hml.trans hl.1.symm) hI (c_X12_lawWord l X σ_13 a ha) kv_X12_171 ha ⟨rfl, by decide⟩ (show vwCl[11]? = some (RX12, TX12, 46) from rfl) rfl ⟨Nat.le_of_ble_eq_true rfl, Nat.le_of_ble_eq_true rfl⟩ ⟨Nat.le_refl _, Nat.le_refl _⟩ rfl (Nat.le_of_ble_eq_true rfl) dX12_readLaw_51) hI (by decide) (fun r_14 σ_15 H locs hpσ_15 hkσ_15 hI => ?_)
      obtain ⟨ahpσ_15, bhpσ_15, chpσ_15⟩ := hpσ_15
      rw [ahpσ_15] at hI
      replace hF := q_letX hF chpσ_15
      refine q_if_lt (A := r_14.toInt) E rfl (tgt := 61) dX12_readLaw_54 (by decide) (fun c_16 => ?_) (fun c_16 => ?_)
      · skip
        replace hF := q_ifp hF c_16
        refine lv_iconst (v := 0) hx hb dX12_readLaw_61 (by decide) ?_
        have kc_17 : (0 : Int32).toInt = 0 := rfl
        refine q_cv (q_runV (As := [.int 0]) (rest := []) E (hml.trans hl.1.symm) hI (c_X12_must l X σ_13 a (0 : Int32) ha (by first | exact sm_9 smσ_13 | exact hs | omega) (by first | (clear hs hz hk h4 k3σ if_1 bf_1 c_2 if_3 c_4 k3σ_5 beσ_5 ahpσ_7 dhpσ_7 ehpσ_7 k3σ_7 ahpσ_9 bhpσ_9 chpσ_9 ahpσ_12 bhpσ_12 chpσ_12 k3σ_13 k4σ_13 smσ_13 onσ_13 ahpσ_15 bhpσ_15 chpσ_15 c_16 kc_17; omega) | omega)) kv_X12_216 ha ⟨rfl, by decide⟩ (show vwCl[11]? = some (RX12, TX12, 46) from rfl) rfl ⟨Nat.le_of_ble_eq_true rfl, Nat.le_of_ble_eq_true rfl⟩ ⟨Nat.le_refl _, Nat.le_refl _⟩ rfl (Nat.le_of_ble_eq_true rfl) dX12_readLaw_62) hI (by decide) (fun σ_19 H locs hpσ_19 hkσ_19 hI => ?_)
        obtain ⟨ahpσ_19, bhpσ_19, chpσ_19, dhpσ_19, ehpσ_19⟩ := hpσ_19
        have fr_σ_19 := fr_σ_13.call ehpσ_19 rfl rfl
        replace hF := q_letX hF dhpσ_19
        have mcσ_19 := m_cK hkσ_19 hI.1 ha (by decide)
        have nnσ_19 : m_N (m_c X σ_19 a) := m_N.ext mcσ_19 nnσ_13
        have kpσ_19 : ∀ j, 0 ≤ j → j < 3720 → m_c X σ_19 a j = m_c X σ a j := fun j h0 h1 => (mcσ_19 j).trans (kpσ_13 j h0 h1)
        have k3σ_19 : m_c X σ_19 a 3720 = m_c X σ a 3720 ∧ m_c X σ_19 a 3721 = m_c X σ a 3721 := ⟨(mcσ_19 3720).trans k3σ_13.1, (mcσ_19 3721).trans k3σ_13.2⟩
        have k4σ_19 : 1 ≤ m_c X σ_19 a 3724 + 10 * (σ_19.1 a 12).toInt := (by have := mcσ_19 3724; omega)
        have smσ_19 : 0 ≤ (σ_19.1 a 15).toInt ∧ (σ_19.1 a 15).toInt ≤ (σ_19.1 a 16).toInt ∧ (σ_19.1 a 16).toInt ≤ (σ_19.1 a 9).toInt ∧ (σ_19.1 a 9).toInt ≤ 900 ∧ 0 ≤ (σ_19.1 a 14).toInt ∧ (σ_19.1 a 14).toInt ≤ 4 ∧ (σ_19.1 a 14).toInt ≤ 4 * ((σ_19.1 a 16).toInt - (σ_19.1 a 15).toInt) ∧ (σ_19.1 a 14).toInt ≤ 4 * ((σ_19.1 a 9).toInt - (σ_19.1 a 15).toInt) ∧ 0 ≤ (σ_19.1 a 12).toInt ∧ (σ_19.1 a 9).toInt = (σ.1 a 9).toInt ∧ (σ.1 a 15).toInt ≤ (σ_19.1 a 15).toInt ∧ (σ.1 a 12).toInt ≤ (σ_19.1 a 12).toInt := (by first | exact sm_tr smσ_13 bhpσ_19 | exact sm_tr smσ_13 chpσ_19 | omega)
        have onσ_19 : (σ.1 a 16).toInt ≤ (σ_19.1 a 15).toInt := (by first | (clear hs hz hk h4 k3σ if_1 bf_1 c_2 if_3 c_4 k3σ_5 ahpσ_7 dhpσ_7 ehpσ_7 k3σ_7 ahpσ_9 bhpσ_9 chpσ_9 kc_10 ahpσ_12 bhpσ_12 chpσ_12 k3σ_13 k4σ_13 smσ_13 ahpσ_15 bhpσ_15 chpσ_15 c_16 kc_17 ahpσ_19 chpσ_19 dhpσ_19 ehpσ_19 k3σ_19 k4σ_19 smσ_19; omega) | omega)
        clear k4σ_13 smσ_13 onσ_13 bhpσ_19
        exact q_retv E hr hlk hI ⟨nnσ_19, kpσ_19, (by first | exact smσ_19 | omega), (by first | exact smσ_19 | omega), k3σ_19, k4σ_19, (hF.trans hout), fr_σ_19⟩ dX12_readLaw_65
      · skip
        replace hF := q_ifn hF (Int.not_lt.mpr c_16)
        refine lv_iconst (v := 1) hx hb dX12_readLaw_57 (by decide) ?_
        refine lv_goto (tgt := 62) hx hb dX12_readLaw_58 (by decide) ?_
        have kc_20 : (1 : Int32).toInt = 1 := rfl
        refine q_cv (q_runV (As := [.int 1]) (rest := []) E (hml.trans hl.1.symm) hI (c_X12_must l X σ_13 a (1 : Int32) ha (by first | exact sm_9 smσ_13 | exact hs | omega) (by first | (clear hs hk h4 k3σ if_1 bf_1 c_2 k3σ_5 beσ_5 ahpσ_7 dhpσ_7 ehpσ_7 k3σ_7 ahpσ_9 bhpσ_9 chpσ_9 kc_10 ahpσ_12 bhpσ_12 chpσ_12 k3σ_13 ahpσ_15 bhpσ_15 chpσ_15 c_16; omega) | omega)) kv_X12_216 ha ⟨rfl, by decide⟩ (show vwCl[11]? = some (RX12, TX12, 46) from rfl) rfl ⟨Nat.le_of_ble_eq_true rfl, Nat.le_of_ble_eq_true rfl⟩ ⟨Nat.le_refl _, Nat.le_refl _⟩ rfl (Nat.le_of_ble_eq_true rfl) dX12_readLaw_62) hI (by decide) (fun σ_22 H locs hpσ_22 hkσ_22 hI => ?_)
        obtain ⟨ahpσ_22, bhpσ_22, chpσ_22, dhpσ_22, ehpσ_22⟩ := hpσ_22
        have fr_σ_22 := fr_σ_13.call ehpσ_22 rfl rfl
        replace hF := q_letX hF dhpσ_22
        have mcσ_22 := m_cK hkσ_22 hI.1 ha (by decide)
        have nnσ_22 : m_N (m_c X σ_22 a) := m_N.ext mcσ_22 nnσ_13
        have kpσ_22 : ∀ j, 0 ≤ j → j < 3720 → m_c X σ_22 a j = m_c X σ a j := fun j h0 h1 => (mcσ_22 j).trans (kpσ_13 j h0 h1)
        have k3σ_22 : m_c X σ_22 a 3720 = m_c X σ a 3720 ∧ m_c X σ_22 a 3721 = m_c X σ a 3721 := ⟨(mcσ_22 3720).trans k3σ_13.1, (mcσ_22 3721).trans k3σ_13.2⟩
        have k4σ_22 : 1 ≤ m_c X σ_22 a 3724 + 10 * (σ_22.1 a 12).toInt := (by have := mcσ_22 3724; omega)
        have smσ_22 : 0 ≤ (σ_22.1 a 15).toInt ∧ (σ_22.1 a 15).toInt ≤ (σ_22.1 a 16).toInt ∧ (σ_22.1 a 16).toInt ≤ (σ_22.1 a 9).toInt ∧ (σ_22.1 a 9).toInt ≤ 900 ∧ 0 ≤ (σ_22.1 a 14).toInt ∧ (σ_22.1 a 14).toInt ≤ 4 ∧ (σ_22.1 a 14).toInt ≤ 4 * ((σ_22.1 a 16).toInt - (σ_22.1 a 15).toInt) ∧ (σ_22.1 a 14).toInt ≤ 4 * ((σ_22.1 a 9).toInt - (σ_22.1 a 15).toInt) ∧ 0 ≤ (σ_22.1 a 12).toInt ∧ (σ_22.1 a 9).toInt = (σ.1 a 9).toInt ∧ (σ.1 a 15).toInt ≤ (σ_22.1 a 15).toInt ∧ (σ.1 a 12).toInt ≤ (σ_22.1 a 12).toInt := (by first | exact sm_tr smσ_13 bhpσ_22 | exact sm_tr smσ_13 chpσ_22 | omega)
        have onσ_22 : (σ.1 a 16).toInt ≤ (σ_22.1 a 15).toInt := (by first | (clear hs hz hk h4 k3σ if_1 bf_1 c_2 if_3 c_4 k3σ_5 ahpσ_7 dhpσ_7 ehpσ_7 k3σ_7 ahpσ_9 bhpσ_9 chpσ_9 kc_10 ahpσ_12 bhpσ_12 chpσ_12 k3σ_13 ahpσ_15 bhpσ_15 chpσ_15 c_16 kc_20 ahpσ_22 chpσ_22 dhpσ_22 ehpσ_22 k3σ_22 k4σ_22 smσ_22; omega) | omega)
        clear k4σ_13 smσ_13 onσ_13 bhpσ_22
        exact q_retv E hr hlk hI ⟨nnσ_22, kpσ_22, (by first | exact smσ_22 | omega), (by first | exact smσ_22 | omega), k3σ_22, k4σ_22, (hF.trans hout), fr_σ_22⟩ dX12_readLaw_65
    · skip
      replace hF := q_ifp hF c_4
      exact q_retv E hr hlk hI ⟨nnσ, kpσ, (by first | exact smσ | omega), (by first | exact smσ | omega), k3σ, k4σ, (hF.trans hout), fr_σ⟩ dX12_readLaw_23
  · skip
    replace hF := q_ifn hF c_2
    refine lv_aload_n hx hb dX12_readLaw_7 rfl (lv_at hl 0 rfl) ?_
    refine lv_iconst (v := 5) hx hb dX12_readLaw_8 (by decide) ?_
    refine lv_aload_n hx hb dX12_readLaw_9 rfl (lv_at hl 0 rfl) ?_
    refine gs_X12_104_12 E hI ha dX12_readLaw_10 ?_
    refine lv_topi (fun f_23 ef_23 => ?_)
    replace hF := q_letX hF ef_23
    have if_23 : f_23.toInt = (σ.1 a 15).toInt := congrArg Int32.toInt ef_23
    have kc_24 : (5 : Int32).toInt = 5 := rfl
    refine q_cv (q_runV (As := [.int 5, .int f_23]) (rest := []) E (hml.trans hl.1.symm) hI (c_X12_fail l X σ a (5 : Int32) f_23 ha (by first | (clear hs hk h4 k3σ if_1 bf_1 c_2 if_23 kc_24; omega) | omega) (by first | (clear hs hz hk h4 k3σ if_1 bf_1 c_2 if_23; omega) | omega)) kv_X12_193 ha ⟨rfl, by decide⟩ (show vwCl[11]? = some (RX12, TX12, 46) from rfl) rfl ⟨Nat.le_of_ble_eq_true rfl, Nat.le_of_ble_eq_true rfl⟩ ⟨Nat.le_refl _, Nat.le_refl _⟩ rfl (Nat.le_of_ble_eq_true rfl) dX12_readLaw_13) hI (by decide) (fun σ_26 H locs hpσ_26 hkσ_26 hI => ?_)
    obtain ⟨ahpσ_26, bhpσ_26, chpσ_26, dhpσ_26, ehpσ_26⟩ := hpσ_26
    have fr_σ_26 := fr_σ.call ehpσ_26 rfl rfl
    replace hF := q_letX hF dhpσ_26
    have mcσ_26 := m_cK hkσ_26 hI.1 ha (by decide)
    have nnσ_26 : m_N (m_c X σ_26 a) := m_N.ext mcσ_26 nnσ
    have kpσ_26 : ∀ j, 0 ≤ j → j < 3720 → m_c X σ_26 a j = m_c X σ a j := fun j h0 h1 => (mcσ_26 j).trans (kpσ j h0 h1)
    have k3σ_26 : m_c X σ_26 a 3720 = m_c X σ a 3720 ∧ m_c X σ_26 a 3721 = m_c X σ a 3721 := ⟨(mcσ_26 3720).trans k3σ.1, (mcσ_26 3721).trans k3σ.2⟩
    have k4σ_26 : 1 ≤ m_c X σ_26 a 3724 + 10 * (σ_26.1 a 12).toInt := (by have := mcσ_26 3724; omega)
    have smσ_26 : 0 ≤ (σ_26.1 a 15).toInt ∧ (σ_26.1 a 15).toInt ≤ (σ_26.1 a 16).toInt ∧ (σ_26.1 a 16).toInt ≤ (σ_26.1 a 9).toInt ∧ (σ_26.1 a 9).toInt ≤ 900 ∧ 0 ≤ (σ_26.1 a 14).toInt ∧ (σ_26.1 a 14).toInt ≤ 4 ∧ (σ_26.1 a 14).toInt ≤ 4 * ((σ_26.1 a 16).toInt - (σ_26.1 a 15).toInt) ∧ (σ_26.1 a 14).toInt ≤ 4 * ((σ_26.1 a 9).toInt - (σ_26.1 a 15).toInt) ∧ 0 ≤ (σ_26.1 a 12).toInt ∧ (σ_26.1 a 9).toInt = (σ.1 a 9).toInt ∧ (σ.1 a 15).toInt ≤ (σ_26.1 a 15).toInt ∧ (σ.1 a 12).toInt ≤ (σ_26.1 a 12).toInt := (by first | exact sm_fl smσ bhpσ_26 chpσ_26 | omega)
    have beσ_26 : (σ_26.1 a 16).toInt = (σ.1 a 16).toInt := (by first | (clear hs hz hk h4 k3σ if_1 bf_1 c_2 if_23 kc_24 ahpσ_26 chpσ_26 dhpσ_26 ehpσ_26 k3σ_26 k4σ_26 smσ_26; omega) | omega)
    clear k4σ smσ beσ bhpσ_26
    refine lv_aload_n hx hb dX12_readLaw_16 rfl (lv_at hl 0 rfl) ?_
    refine gs_X12_187_12 E hI ha dX12_readLaw_17 ?_
    refine lv_topi (fun f_27 ef_27 => ?_)
    replace hF := q_letX hF ef_27
    have if_27 : f_27.toInt = (σ_26.1 a 12).toInt := congrArg Int32.toInt ef_27
    refine q_if_le (A := f_27.toInt) E rfl (tgt := 24) dX12_readLaw_20 (by decide) (fun c_28 => ?_) (fun c_28 => ?_)
    · skip
      replace hF := q_ifn hF (Int.not_lt.mpr c_28)
      refine lv_aload_n hx hb dX12_readLaw_24 rfl (lv_at hl 0 rfl) ?_
      refine lv_iconst (v := 1) hx hb dX12_readLaw_25 (by decide) ?_
      refine ps_X12_232_12 E hI ha (by decide) (by decide) (by decide) dX12_readLaw_26 (fun H locs σ_29 hσ_29 hI => ?_)
      replace hF := q_letX hF hσ_29
      have fr_σ_29 := fr_σ_26.si hσ_29 ha rfl
      have mv9_σ_29 : (σ_29.1 a 9).toInt = (σ_26.1 a 9).toInt := congrArg Int32.toInt (q_rdn hσ_29 (Or.inr (by decide)))
      have mv12_σ_29 : (σ_29.1 a 12).toInt = (σ_26.1 a 12).toInt := congrArg Int32.toInt (q_rdn hσ_29 (Or.inr (by decide)))
      have mv14_σ_29 : (σ_29.1 a 14).toInt = (σ_26.1 a 14).toInt := congrArg Int32.toInt (q_rdn hσ_29 (Or.inr (by decide)))
      have mv15_σ_29 : (σ_29.1 a 15).toInt = (σ_26.1 a 15).toInt := congrArg Int32.toInt (q_rdn hσ_29 (Or.inr (by decide)))
      have mv16_σ_29 : (σ_29.1 a 16).toInt = (σ_26.1 a 16).toInt := congrArg Int32.toInt (q_rdn hσ_29 (Or.inr (by decide)))
      have mcσ_29 := m_wo hσ_29 (m_ne ha (q_tk (f := 20) (k' := 34) hI ha rfl (by decide)) (by decide))
      have nnσ_29 : m_N (m_c X σ_29 a) := m_N.ext mcσ_29 nnσ_26
      have kpσ_29 : ∀ j, 0 ≤ j → j < 3720 → m_c X σ_29 a j = m_c X σ a j := fun j h0 h1 => (mcσ_29 j).trans (kpσ_26 j h0 h1)
      have k3σ_29 : m_c X σ_29 a 3720 = m_c X σ a 3720 ∧ m_c X σ_29 a 3721 = m_c X σ a 3721 := ⟨(mcσ_29 3720).trans k3σ_26.1, (mcσ_29 3721).trans k3σ_26.2⟩
      have k4σ_29 : 1 ≤ m_c X σ_29 a 3724 + 10 * (σ_29.1 a 12).toInt := (by have := mcσ_29 3724; omega)
      have smσ_29 : 0 ≤ (σ_29.1 a 15).toInt ∧ (σ_29.1 a 15).toInt ≤ (σ_29.1 a 16).toInt ∧ (σ_29.1 a 16).toInt ≤ (σ_29.1 a 9).toInt ∧ (σ_29.1 a 9).toInt ≤ 900 ∧ 0 ≤ (σ_29.1 a 14).toInt ∧ (σ_29.1 a 14).toInt ≤ 4 ∧ (σ_29.1 a 14).toInt ≤ 4 * ((σ_29.1 a 16).toInt - (σ_29.1 a 15).toInt) ∧ (σ_29.1 a 14).toInt ≤ 4 * ((σ_29.1 a 9).toInt - (σ_29.1 a 15).toInt) ∧ 0 ≤ (σ_29.1 a 12).toInt ∧ (σ_29.1 a 9).toInt = (σ.1 a 9).toInt ∧ (σ.1 a 15).toInt ≤ (σ_29.1 a 15).toInt ∧ (σ.1 a 12).toInt ≤ (σ_29.1 a 12).toInt := (by first | (rw [mv12_σ_29, mv14_σ_29, mv15_σ_29, mv16_σ_29, mv9_σ_29]; exact smσ_26) | omega)
      have beσ_29 : (σ_29.1 a 16).toInt = (σ.1 a 16).toInt := (by first | (clear hs hz hk h4 k3σ if_1 bf_1 c_2 if_23 kc_24 ahpσ_26 dhpσ_26 ehpσ_26 k3σ_26 k4σ_26 smσ_26 beσ_26 mv9_σ_29 mv12_σ_29 mv14_σ_29 mv15_σ_29 mv16_σ_29 k3σ_29 k4σ_29 smσ_29; omega) | omega)
      clear mv9_σ_29 mv12_σ_29 mv14_σ_29 mv15_σ_29 mv16_σ_29 k4σ_26 smσ_26 beσ_26
      refine lv_aload_n hx hb dX12_readLaw_29 rfl (lv_at hl 0 rfl) ?_
      refine q_cv (q_runV (As := []) (rest := []) E (hml.trans hl.1.symm) hI (c_X12_next l X σ_29 a ha (by first | (clear hs hz hk h4 k3σ if_1 bf_1 c_2 if_23 kc_24 ahpσ_26 dhpσ_26 ehpσ_26 k3σ_26 k3σ_29 k4σ_29 smσ_29 beσ_29; omega) | omega) (by first | (clear hs hz hk h4 k3σ if_1 bf_1 c_2 if_23 kc_24 ahpσ_26 dhpσ_26 ehpσ_26 k3σ_26 k3σ_29 k4σ_29 smσ_29 beσ_29; omega) | omega) (by first | (clear hs hz hk h4 k3σ if_1 bf_1 c_2 if_23 kc_24 ahpσ_26 dhpσ_26 ehpσ_26 k3σ_26 k3σ_29 k4σ_29 smσ_29 beσ_29; omega) | omega)) kv_X12_197 ha ⟨rfl, by decide⟩ (show vwCl[11]? = some (RX12, TX12, 46) from rfl) rfl ⟨Nat.le_of_ble_eq_true rfl, Nat.le_of_ble_eq_true rfl⟩ ⟨Nat.le_refl _, Nat.le_refl _⟩ rfl (Nat.le_of_ble_eq_true rfl) dX12_readLaw_30) hI (by decide) (fun σ_31 H locs hpσ_31 hkσ_31 hI => ?_)
      obtain ⟨ahpσ_31, bhpσ_31, chpσ_31, dhpσ_31, ehpσ_31⟩ := hpσ_31
      have fr_σ_31 := fr_σ_29.call ehpσ_31 rfl rfl
      replace hF := q_letX hF dhpσ_31
      have mcσ_31 := m_cK hkσ_31 hI.1 ha (by decide)
      have nnσ_31 : m_N (m_c X σ_31 a) := m_N.ext mcσ_31 nnσ_29
      have kpσ_31 : ∀ j, 0 ≤ j → j < 3720 → m_c X σ_31 a j = m_c X σ a j := fun j h0 h1 => (mcσ_31 j).trans (kpσ_29 j h0 h1)
      have k3σ_31 : m_c X σ_31 a 3720 = m_c X σ a 3720 ∧ m_c X σ_31 a 3721 = m_c X σ a 3721 := ⟨(mcσ_31 3720).trans k3σ_29.1, (mcσ_31 3721).trans k3σ_29.2⟩
      have k4σ_31 : 1 ≤ m_c X σ_31 a 3724 + 10 * (σ_31.1 a 12).toInt := (by have := mcσ_31 3724; omega)
      have smσ_31 : 0 ≤ (σ_31.1 a 15).toInt ∧ (σ_31.1 a 15).toInt ≤ (σ_31.1 a 16).toInt ∧ (σ_31.1 a 16).toInt ≤ (σ_31.1 a 9).toInt ∧ (σ_31.1 a 9).toInt ≤ 900 ∧ 0 ≤ (σ_31.1 a 14).toInt ∧ (σ_31.1 a 14).toInt ≤ 4 ∧ (σ_31.1 a 14).toInt ≤ 4 * ((σ_31.1 a 16).toInt - (σ_31.1 a 15).toInt) ∧ (σ_31.1 a 14).toInt ≤ 4 * ((σ_31.1 a 9).toInt - (σ_31.1 a 15).toInt) ∧ 0 ≤ (σ_31.1 a 12).toInt ∧ (σ_31.1 a 9).toInt = (σ.1 a 9).toInt ∧ (σ.1 a 15).toInt ≤ (σ_31.1 a 15).toInt ∧ (σ.1 a 12).toInt ≤ (σ_31.1 a 12).toInt := (by first | exact sm_nx smσ_29 bhpσ_31 chpσ_31 | omega)
      have onσ_31 : (σ.1 a 16).toInt ≤ (σ_31.1 a 15).toInt := (by first | (clear hs hz hk h4 k3σ if_1 bf_1 c_2 if_23 kc_24 ahpσ_26 dhpσ_26 ehpσ_26 k3σ_26 k3σ_29 k4σ_29 smσ_29 beσ_29 ahpσ_31 bhpσ_31 chpσ_31 dhpσ_31 ehpσ_31 k3σ_31 k4σ_31 smσ_31; omega) | omega)
      clear k4σ_29 smσ_29 bhpσ_31 chpσ_31
      refine lv_aload_n hx hb dX12_readLaw_33 rfl (lv_at hl 0 rfl) ?_
      refine gs_X12_35_12 E hI ha dX12_readLaw_34 ?_
      refine lv_sipush (v := 3723) hx hb dX12_readLaw_37 (by decide) ?_
      refine lv_iconst (v := 0) hx hb dX12_readLaw_40 (by decide) ?_
      refine lv_aload_n hx hb dX12_readLaw_41 rfl (lv_at hl 0 rfl) ?_
      refine q_ci (q_runV (As := []) (rest := [.int 0, .int 3723, .ref (q_rf X a 20)]) E (hml.trans hl.1.symm) hI (c_X12_lawWord l X σ_31 a ha) kv_X12_171 ha ⟨rfl, by decide⟩ (show vwCl[11]? = some (RX12, TX12, 46) from rfl) rfl ⟨Nat.le_of_ble_eq_true rfl, Nat.le_of_ble_eq_true rfl⟩ ⟨Nat.le_refl _, Nat.le_refl _⟩ rfl (Nat.le_of_ble_eq_true rfl) dX12_readLaw_42) hI (by decide) (fun r_32 σ_33 H locs hpσ_33 hkσ_33 hI => ?_)
      obtain ⟨ahpσ_33, bhpσ_33, chpσ_33⟩ := hpσ_33
      rw [ahpσ_33] at hI
      replace hF := q_letX hF chpσ_33
      have kc_34 : (0 : Int32).toInt = 0 := rfl
      refine q_ci (q_runS (As := [.int 0, .int r_32]) (rest := [.int 3723, .ref (q_rf X a 20)]) E (hml.trans hl.1.symm) hI (c_J9_max_7cf53 l X σ_31 (0 : Int32) r_32) ks_X12_220 rfl ⟨Nat.le_of_ble_eq_true rfl, Nat.le_of_ble_eq_true rfl⟩ ⟨Nat.le_refl _, Nat.le_refl _⟩ rfl (Nat.le_of_ble_eq_true rfl) dX12_readLaw_45) hI (by decide) (fun r_35 σ_36 H locs hpσ_36 hkσ_36 hI => ?_)
      obtain ⟨ahpσ_36, bhpσ_36, chpσ_36⟩ := hpσ_36
      rw [ahpσ_36] at hI
      replace hF := q_letX hF chpσ_36
      refine q_iastN E hI (q_tk (k' := 34) hI ha rfl (by decide)) ⟨by decide, rfl⟩ (by decide) (by rw [q_lnk (v := 4650) hI (q_tk (k' := 34) hI ha rfl (by decide)) rfl (by decide)]; decide) (show 1 < 2 by decide) (q_inU rfl) dX12_readLaw_48 (fun H locs σ_37 hσ_37 hI => ?_)
      replace hF := q_letX hF hσ_37
      have fr_σ_37 := fr_σ_31.si hσ_37 (q_tk (k' := 34) hI ha rfl (by decide)) rfl
      have mv9_σ_37 : (σ_37.1 a 9).toInt = (σ_31.1 a 9).toInt := congrArg Int32.toInt (q_rdn hσ_37 (Or.inl (m_ne ha (q_tk (k' := 34) hI ha rfl (by decide)) (by decide))))
      have mv12_σ_37 : (σ_37.1 a 12).toInt = (σ_31.1 a 12).toInt := congrArg Int32.toInt (q_rdn hσ_37 (Or.inl (m_ne ha (q_tk (k' := 34) hI ha rfl (by decide)) (by decide))))
      have mv14_σ_37 : (σ_37.1 a 14).toInt = (σ_31.1 a 14).toInt := congrArg Int32.toInt (q_rdn hσ_37 (Or.inl (m_ne ha (q_tk (k' := 34) hI ha rfl (by decide)) (by decide))))
      have mv15_σ_37 : (σ_37.1 a 15).toInt = (σ_31.1 a 15).toInt := congrArg Int32.toInt (q_rdn hσ_37 (Or.inl (m_ne ha (q_tk (k' := 34) hI ha rfl (by decide)) (by decide))))
      have mv16_σ_37 : (σ_37.1 a 16).toInt = (σ_31.1 a 16).toInt := congrArg Int32.toInt (q_rdn hσ_37 (Or.inl (m_ne ha (q_tk (k' := 34) hI ha rfl (by decide)) (by decide))))
      have mcσ_37 := m_wr (v := r_35) (A := 3723) hσ_37 (by decide) (by decide)
      have nnσ_37 : m_N (m_c X σ_37 a) := m_N.wr nnσ_31 mcσ_37 (by first | (clear hs hz hk h4 k3σ if_1 bf_1 c_2 if_23 kc_24 ahpσ_26 dhpσ_26 ehpσ_26 k3σ_26 k3σ_29 beσ_29 ahpσ_31 dhpσ_31 ehpσ_31 k3σ_31 k4σ_31 smσ_31 onσ_31 ahpσ_33 bhpσ_33 chpσ_33 kc_34 ahpσ_36 bhpσ_36 chpσ_36 mv9_σ_37 mv12_σ_37 mv14_σ_37 mv15_σ_37 mv16_σ_37; omega) | omega)
      have kpσ_37 : ∀ j, 0 ≤ j → j < 3720 → m_c X σ_37 a j = m_c X σ a j := fun j h0 h1 => by rw [mcσ_37 j h0, if_neg (by first | (clear hs hz hk h4 k3σ if_1 bf_1 c_2 if_23 kc_24 ahpσ_26 dhpσ_26 ehpσ_26 k3σ_26 k3σ_29 beσ_29 ahpσ_31 dhpσ_31 ehpσ_31 k3σ_31 k4σ_31 smσ_31 onσ_31 ahpσ_33 bhpσ_33 chpσ_33 kc_34 ahpσ_36 bhpσ_36 chpσ_36 mv9_σ_37 mv12_σ_37 mv14_σ_37 mv15_σ_37 mv16_σ_37; omega) | omega)]; exact kpσ_31 j h0 h1
      have k3σ_37 : m_c X σ_37 a 3720 = m_c X σ a 3720 ∧ m_c X σ_37 a 3721 = m_c X σ a 3721 := ⟨by rw [mcσ_37 3720 (by decide), if_neg (by first | (clear hs hz hk h4 k3σ if_1 bf_1 c_2 if_23 kc_24 ahpσ_26 dhpσ_26 ehpσ_26 k3σ_26 k3σ_29 beσ_29 ahpσ_31 dhpσ_31 ehpσ_31 k3σ_31 k4σ_31 smσ_31 onσ_31 ahpσ_33 bhpσ_33 chpσ_33 kc_34 ahpσ_36 bhpσ_36 chpσ_36 mv9_σ_37 mv12_σ_37 mv14_σ_37 mv15_σ_37 mv16_σ_37; omega) | omega)]; exact k3σ_31.1, by rw [mcσ_37 3721 (by decide), if_neg (by first | (clear hs hz hk h4 k3σ if_1 bf_1 c_2 if_23 kc_24 ahpσ_26 dhpσ_26 ehpσ_26 k3σ_26 k3σ_29 beσ_29 ahpσ_31 dhpσ_31 ehpσ_31 k3σ_31 k4σ_31 smσ_31 onσ_31 ahpσ_33 bhpσ_33 chpσ_33 kc_34 ahpσ_36 bhpσ_36 chpσ_36 mv9_σ_37 mv12_σ_37 mv14_σ_37 mv15_σ_37 mv16_σ_37; omega) | omega)]; exact k3σ_31.2⟩
      have k4σ_37 : 1 ≤ m_c X σ_37 a 3724 + 10 * (σ_37.1 a 12).toInt := (by have := mcσ_37 3724 (by decide); rw [if_neg (by first | (clear hs hz hk h4 k3σ if_1 bf_1 c_2 if_23 kc_24 ahpσ_26 dhpσ_26 ehpσ_26 k3σ_26 k3σ_29 beσ_29 ahpσ_31 dhpσ_31 ehpσ_31 k3σ_31 k4σ_31 smσ_31 onσ_31 ahpσ_33 bhpσ_33 chpσ_33 kc_34 ahpσ_36 bhpσ_36 chpσ_36 mv9_σ_37 mv12_σ_37 mv14_σ_37 mv15_σ_37 mv16_σ_37 k3σ_37; omega) | omega)] at this; omega)
      have smσ_37 : 0 ≤ (σ_37.1 a 15).toInt ∧ (σ_37.1 a 15).toInt ≤ (σ_37.1 a 16).toInt ∧ (σ_37.1 a 16).toInt ≤ (σ_37.1 a 9).toInt ∧ (σ_37.1 a 9).toInt ≤ 900 ∧ 0 ≤ (σ_37.1 a 14).toInt ∧ (σ_37.1 a 14).toInt ≤ 4 ∧ (σ_37.1 a 14).toInt ≤ 4 * ((σ_37.1 a 16).toInt - (σ_37.1 a 15).toInt) ∧ (σ_37.1 a 14).toInt ≤ 4 * ((σ_37.1 a 9).toInt - (σ_37.1 a 15).toInt) ∧ 0 ≤ (σ_37.1 a 12).toInt ∧ (σ_37.1 a 9).toInt = (σ.1 a 9).toInt ∧ (σ.1 a 15).toInt ≤ (σ_37.1 a 15).toInt ∧ (σ.1 a 12).toInt ≤ (σ_37.1 a 12).toInt := (by first | (rw [mv12_σ_37, mv14_σ_37, mv15_σ_37, mv16_σ_37, mv9_σ_37]; exact smσ_31) | omega)
      have onσ_37 : (σ.1 a 16).toInt ≤ (σ_37.1 a 15).toInt := (by first | (clear hs hz hk h4 k3σ if_1 bf_1 c_2 if_23 kc_24 ahpσ_26 dhpσ_26 ehpσ_26 k3σ_26 k3σ_29 beσ_29 ahpσ_31 dhpσ_31 ehpσ_31 k3σ_31 k4σ_31 smσ_31 onσ_31 ahpσ_33 bhpσ_33 chpσ_33 kc_34 ahpσ_36 bhpσ_36 chpσ_36 mv9_σ_37 mv12_σ_37 mv14_σ_37 mv15_σ_37 mv16_σ_37 k3σ_37 k4σ_37 smσ_37; omega) | omega)
      clear mv9_σ_37 mv12_σ_37 mv14_σ_37 mv15_σ_37 mv16_σ_37 k4σ_31 smσ_31 onσ_31
      refine lv_aload_n hx hb dX12_readLaw_49 rfl (lv_at hl 0 rfl) ?_
      refine lv_aload_n hx hb dX12_readLaw_50 rfl (lv_at hl 0 rfl) ?_
      refine q_ci (q_runV (As := []) (rest := [.ref a]) E (hml.trans hl.1.symm) hI (c_X12_lawWord l X σ_37 a ha) kv_X12_171 ha ⟨rfl, by decide⟩ (show vwCl[11]? = some (RX12, TX12, 46) from rfl) rfl ⟨Nat.le_of_ble_eq_true rfl, Nat.le_of_ble_eq_true rfl⟩ ⟨Nat.le_refl _, Nat.le_refl _⟩ rfl (Nat.le_of_ble_eq_true rfl) dX12_readLaw_51) hI (by decide) (fun r_38 σ_39 H locs hpσ_39 hkσ_39 hI => ?_)
      obtain ⟨ahpσ_39, bhpσ_39, chpσ_39⟩ := hpσ_39
      rw [ahpσ_39] at hI
      replace hF := q_letX hF chpσ_39
      refine q_if_lt (A := r_38.toInt) E rfl (tgt := 61) dX12_readLaw_54 (by decide) (fun c_40 => ?_) (fun c_40 => ?_)
      · skip
        replace hF := q_ifp hF c_40
        refine lv_iconst (v := 0) hx hb dX12_readLaw_61 (by decide) ?_
        have kc_41 : (0 : Int32).toInt = 0 := rfl
        refine q_cv (q_runV (As := [.int 0]) (rest := []) E (hml.trans hl.1.symm) hI (c_X12_must l X σ_37 a (0 : Int32) ha (by first | exact sm_9 smσ_37 | exact hs | omega) (by first | (clear hz hk h4 k3σ if_1 bf_1 c_2 if_23 kc_24 ahpσ_26 dhpσ_26 ehpσ_26 k3σ_26 k3σ_29 beσ_29 ahpσ_31 dhpσ_31 ehpσ_31 k3σ_31 ahpσ_33 bhpσ_33 chpσ_33 kc_34 ahpσ_36 bhpσ_36 chpσ_36 k3σ_37 k4σ_37 smσ_37 onσ_37 ahpσ_39 bhpσ_39 chpσ_39 c_40 kc_41; omega) | omega)) kv_X12_216 ha ⟨rfl, by decide⟩ (show vwCl[11]? = some (RX12, TX12, 46) from rfl) rfl ⟨Nat.le_of_ble_eq_true rfl, Nat.le_of_ble_eq_true rfl⟩ ⟨Nat.le_refl _, Nat.le_refl _⟩ rfl (Nat.le_of_ble_eq_true rfl) dX12_readLaw_62) hI (by decide) (fun σ_43 H locs hpσ_43 hkσ_43 hI => ?_)
        obtain ⟨ahpσ_43, bhpσ_43, chpσ_43, dhpσ_43, ehpσ_43⟩ := hpσ_43
        have fr_σ_43 := fr_σ_37.call ehpσ_43 rfl rfl
        replace hF := q_letX hF dhpσ_43
        have mcσ_43 := m_cK hkσ_43 hI.1 ha (by decide)
        have nnσ_43 : m_N (m_c X σ_43 a) := m_N.ext mcσ_43 nnσ_37
        have kpσ_43 : ∀ j, 0 ≤ j → j < 3720 → m_c X σ_43 a j = m_c X σ a j := fun j h0 h1 => (mcσ_43 j).trans (kpσ_37 j h0 h1)
        have k3σ_43 : m_c X σ_43 a 3720 = m_c X σ a 3720 ∧ m_c X σ_43 a 3721 = m_c X σ a 3721 := ⟨(mcσ_43 3720).trans k3σ_37.1, (mcσ_43 3721).trans k3σ_37.2⟩
        have k4σ_43 : 1 ≤ m_c X σ_43 a 3724 + 10 * (σ_43.1 a 12).toInt := (by have := mcσ_43 3724; omega)
        have smσ_43 : 0 ≤ (σ_43.1 a 15).toInt ∧ (σ_43.1 a 15).toInt ≤ (σ_43.1 a 16).toInt ∧ (σ_43.1 a 16).toInt ≤ (σ_43.1 a 9).toInt ∧ (σ_43.1 a 9).toInt ≤ 900 ∧ 0 ≤ (σ_43.1 a 14).toInt ∧ (σ_43.1 a 14).toInt ≤ 4 ∧ (σ_43.1 a 14).toInt ≤ 4 * ((σ_43.1 a 16).toInt - (σ_43.1 a 15).toInt) ∧ (σ_43.1 a 14).toInt ≤ 4 * ((σ_43.1 a 9).toInt - (σ_43.1 a 15).toInt) ∧ 0 ≤ (σ_43.1 a 12).toInt ∧ (σ_43.1 a 9).toInt = (σ.1 a 9).toInt ∧ (σ.1 a 15).toInt ≤ (σ_43.1 a 15).toInt ∧ (σ.1 a 12).toInt ≤ (σ_43.1 a 12).toInt := (by first | exact sm_tr smσ_37 bhpσ_43 | exact sm_tr smσ_37 chpσ_43 | omega)
        have onσ_43 : (σ.1 a 16).toInt ≤ (σ_43.1 a 15).toInt := (by first | (clear hs hz hk h4 k3σ if_1 bf_1 c_2 if_23 kc_24 ahpσ_26 dhpσ_26 ehpσ_26 k3σ_26 k3σ_29 beσ_29 ahpσ_31 dhpσ_31 ehpσ_31 k3σ_31 ahpσ_33 bhpσ_33 chpσ_33 kc_34 ahpσ_36 bhpσ_36 chpσ_36 k3σ_37 k4σ_37 smσ_37 onσ_37 ahpσ_39 bhpσ_39 chpσ_39 c_40 kc_41 ahpσ_43 bhpσ_43 chpσ_43 dhpσ_43 ehpσ_43 k3σ_43 k4σ_43 smσ_43; omega) | omega)
        clear k4σ_37 smσ_37 onσ_37 bhpσ_43
        exact q_retv E hr hlk hI ⟨nnσ_43, kpσ_43, (by first | exact smσ_43 | omega), (by first | exact smσ_43 | omega), k3σ_43, k4σ_43, (hF.trans hout), fr_σ_43⟩ dX12_readLaw_65
      · skip
        replace hF := q_ifn hF (Int.not_lt.mpr c_40)
        refine lv_iconst (v := 1) hx hb dX12_readLaw_57 (by decide) ?_
        refine lv_goto (tgt := 62) hx hb dX12_readLaw_58 (by decide) ?_
        have kc_44 : (1 : Int32).toInt = 1 := rfl
        refine q_cv (q_runV (As := [.int 1]) (rest := []) E (hml.trans hl.1.symm) hI (c_X12_must l X σ_37 a (1 : Int32) ha (by first | exact sm_9 smσ_37 | exact hs | omega) (by first | (clear hs hz hk h4 k3σ if_1 bf_1 c_2 if_23 kc_24 ahpσ_26 dhpσ_26 ehpσ_26 k3σ_26 k3σ_29 beσ_29 ahpσ_31 dhpσ_31 ehpσ_31 k3σ_31 ahpσ_33 bhpσ_33 chpσ_33 kc_34 ahpσ_36 bhpσ_36 chpσ_36 k3σ_37 ahpσ_39 bhpσ_39 chpσ_39 c_40 kc_44; omega) | omega)) kv_X12_216 ha ⟨rfl, by decide⟩ (show vwCl[11]? = some (RX12, TX12, 46) from rfl) rfl ⟨Nat.le_of_ble_eq_true rfl, Nat.le_of_ble_eq_true rfl⟩ ⟨Nat.le_refl _, Nat.le_refl _⟩ rfl (Nat.le_of_ble_eq_true rfl) dX12_readLaw_62) hI (by decide) (fun σ_46 H locs hpσ_46 hkσ_46 hI => ?_)
        obtain ⟨ahpσ_46, bhpσ_46, chpσ_46, dhpσ_46, ehpσ_46⟩ := hpσ_46
        have fr_σ_46 := fr_σ_37.call ehpσ_46 rfl rfl
        replace hF := q_letX hF dhpσ_46
        have mcσ_46 := m_cK hkσ_46 hI.1 ha (by decide)
        have nnσ_46 : m_N (m_c X σ_46 a) := m_N.ext mcσ_46 nnσ_37
        have kpσ_46 : ∀ j, 0 ≤ j → j < 3720 → m_c X σ_46 a j = m_c X σ a j := fun j h0 h1 => (mcσ_46 j).trans (kpσ_37 j h0 h1)
        have k3σ_46 : m_c X σ_46 a 3720 = m_c X σ a 3720 ∧ m_c X σ_46 a 3721 = m_c X σ a 3721 := ⟨(mcσ_46 3720).trans k3σ_37.1, (mcσ_46 3721).trans k3σ_37.2⟩
        have k4σ_46 : 1 ≤ m_c X σ_46 a 3724 + 10 * (σ_46.1 a 12).toInt := (by have := mcσ_46 3724; omega)
        have smσ_46 : 0 ≤ (σ_46.1 a 15).toInt ∧ (σ_46.1 a 15).toInt ≤ (σ_46.1 a 16).toInt ∧ (σ_46.1 a 16).toInt ≤ (σ_46.1 a 9).toInt ∧ (σ_46.1 a 9).toInt ≤ 900 ∧ 0 ≤ (σ_46.1 a 14).toInt ∧ (σ_46.1 a 14).toInt ≤ 4 ∧ (σ_46.1 a 14).toInt ≤ 4 * ((σ_46.1 a 16).toInt - (σ_46.1 a 15).toInt) ∧ (σ_46.1 a 14).toInt ≤ 4 * ((σ_46.1 a 9).toInt - (σ_46.1 a 15).toInt) ∧ 0 ≤ (σ_46.1 a 12).toInt ∧ (σ_46.1 a 9).toInt = (σ.1 a 9).toInt ∧ (σ.1 a 15).toInt ≤ (σ_46.1 a 15).toInt ∧ (σ.1 a 12).toInt ≤ (σ_46.1 a 12).toInt := (by first | exact sm_tr smσ_37 bhpσ_46 | exact sm_tr smσ_37 chpσ_46 | omega)
        have onσ_46 : (σ.1 a 16).toInt ≤ (σ_46.1 a 15).toInt := (by first | (clear hs hz hk h4 k3σ if_1 bf_1 c_2 if_23 kc_24 ahpσ_26 dhpσ_26 ehpσ_26 k3σ_26 k3σ_29 beσ_29 ahpσ_31 dhpσ_31 ehpσ_31 k3σ_31 ahpσ_33 bhpσ_33 chpσ_33 kc_34 ahpσ_36 bhpσ_36 chpσ_36 k3σ_37 ahpσ_39 bhpσ_39 chpσ_39 c_40 kc_44 ahpσ_46 bhpσ_46 chpσ_46 dhpσ_46 ehpσ_46 k3σ_46 k4σ_46 smσ_46; omega) | omega)
        clear k4σ_37 smσ_37 onσ_37 bhpσ_46
        exact q_retv E hr hlk hI ⟨nnσ_46, kpσ_46, (by first | exact smσ_46 | omega), (by first | exact smσ_46 | omega), k3σ_46, k4σ_46, (hF.trans hout), fr_σ_46⟩ dX12_readLaw_65
    · skip
      replace hF := q_ifp hF c_28
      exact q_retv E hr hlk hI ⟨nnσ_26, kpσ_26, (by first | exact smσ_26 | omega), (by first | exact smσ_26 | omega), k3σ_26, k4σ_26, (hF.trans hout), fr_σ_26⟩ dX12_readLaw_23

set_option maxRecDepth 100000 in
set_option maxHeartbeats 4000000 in
theorem c_X12_readMost (l : Launch) (X : XW) (σ : ST) (a : Nat) (ha : q_kd X a = 12) (hs : 0 ≤ (σ.1 a 15).toInt ∧ (σ.1 a 15).toInt ≤ (σ.1 a 16).toInt ∧ (σ.1 a 16).toInt ≤ (σ.1 a 9).toInt ∧ (σ.1 a 9).toInt ≤ 900 ∧ 0 ≤ (σ.1 a 14).toInt ∧ (σ.1 a 14).toInt ≤ 4 ∧ (σ.1 a 14).toInt ≤ 4 * ((σ.1 a 16).toInt - (σ.1 a 15).toInt) ∧ (σ.1 a 14).toInt ≤ 4 * ((σ.1 a 9).toInt - (σ.1 a 15).toInt) ∧ 0 ≤ (σ.1 a 12).toInt) (hN : m_N (m_c X σ a)) (hz : (σ.1 a 12).toInt = 0) (hk : 2 ≤ m_c X σ a 3720) (h4 : 1 ≤ m_c X σ a 3724) : Met l yX12_readMost (q_ws yX12_readMost cX12_readMost 1 none) (q_rm 3 65) (q_P X σ [.ref a]) (q_Qv X 1 σ (fun (σ' : ST) => (m_N (m_c X σ' a)) ∧ (∀ j, 0 ≤ j → j < 3720 → m_c X σ' a j = m_c X σ a j) ∧ (0 ≤ (σ'.1 a 15).toInt ∧ (σ'.1 a 15).toInt ≤ (σ'.1 a 16).toInt ∧ (σ'.1 a 16).toInt ≤ (σ'.1 a 9).toInt ∧ (σ'.1 a 9).toInt ≤ 900 ∧ 0 ≤ (σ'.1 a 14).toInt ∧ (σ'.1 a 14).toInt ≤ 4 ∧ (σ'.1 a 14).toInt ≤ 4 * ((σ'.1 a 16).toInt - (σ'.1 a 15).toInt) ∧ (σ'.1 a 14).toInt ≤ 4 * ((σ'.1 a 9).toInt - (σ'.1 a 15).toInt) ∧ 0 ≤ (σ'.1 a 12).toInt ∧ (σ'.1 a 9).toInt = (σ.1 a 9).toInt ∧ (σ.1 a 15).toInt ≤ (σ'.1 a 15).toInt ∧ (σ.1 a 12).toInt ≤ (σ'.1 a 12).toInt) ∧ ((σ.1 a 16).toInt ≤ (σ'.1 a 15).toInt + 1000 * (σ'.1 a 12).toInt) ∧ (m_c X σ' a 3720 = m_c X σ a 3720 ∧ m_c X σ' a 3721 = m_c X σ a 3721) ∧ (1 ≤ m_c X σ' a 3724 + 10 * (σ'.1 a 12).toInt) ∧ σ' = F_X12_readMost X σ a ∧ q_ow [(12, 12), (12, 13), (12, 14), (12, 15), (12, 16), (12, 17), (12, 18), (12, 26), (34, 99)] [(12, 19)] X σ σ')) 0 0 (q_reg X) := by
  refine q_met 1 (by first | exact rfl | decide +kernel) rfl (Nat.le_of_ble_eq_true rfl) (fun p e s m below meth c E hml hr hlk hI ls hl => ?_)
  have hx := E.1
  have hb := E.2.1
  have hl : lv_has ls 1 [(0, .ref a)] := hl
  have nnσ : m_N (m_c X σ a) := hN
  have kpσ : ∀ j, 0 ≤ j → j < 3720 → m_c X σ a j = m_c X σ a j := fun _ _ _ => rfl
  have k3σ : m_c X σ a 3720 = m_c X σ a 3720 ∧ m_c X σ a 3721 = m_c X σ a 3721 := ⟨rfl, rfl⟩
  have k4σ : 1 ≤ m_c X σ a 3724 + 10 * (σ.1 a 12).toInt := (by omega)
  have smσ : 0 ≤ (σ.1 a 15).toInt ∧ (σ.1 a 15).toInt ≤ (σ.1 a 16).toInt ∧ (σ.1 a 16).toInt ≤ (σ.1 a 9).toInt ∧ (σ.1 a 9).toInt ≤ 900 ∧ 0 ≤ (σ.1 a 14).toInt ∧ (σ.1 a 14).toInt ≤ 4 ∧ (σ.1 a 14).toInt ≤ 4 * ((σ.1 a 16).toInt - (σ.1 a 15).toInt) ∧ (σ.1 a 14).toInt ≤ 4 * ((σ.1 a 9).toInt - (σ.1 a 15).toInt) ∧ 0 ≤ (σ.1 a 12).toInt ∧ (σ.1 a 9).toInt = (σ.1 a 9).toInt ∧ (σ.1 a 15).toInt ≤ (σ.1 a 15).toInt ∧ (σ.1 a 12).toInt ≤ (σ.1 a 12).toInt := (by omega)
  have beσ : (σ.1 a 16).toInt = (σ.1 a 16).toInt := rfl
  have fr_σ : q_ow [(12, 12), (12, 13), (12, 14), (12, 15), (12, 16), (12, 17), (12, 18), (12, 26), (34, 99)] [(12, 19)] X σ σ := q_ow.rf
  obtain ⟨out, hout⟩ : ∃ o, o = F_X12_readMost X σ a := ⟨_, rfl⟩
  have hF := hout.symm
  unfold F_X12_readMost at hF
  refine lv_aload_n hx hb dX12_readMost_0 rfl (lv_at hl 0 rfl) ?_
  refine gs_X12_236_12 E hI ha dX12_readMost_1 ?_
  refine lv_topi (fun f_1 ef_1 => ?_)
  replace hF := q_letX hF ef_1
  have if_1 : f_1.toInt = (σ.1 a 26).toInt := congrArg Int32.toInt ef_1
  have bf_1 : 0 ≤ f_1.toInt ∧ f_1.toInt ≤ 1 := by rw [ef_1]; exact q_bd hI ha rfl
  refine q_if_eq (A := f_1.toInt) E rfl (tgt := 16) dX12_readMost_4 (by decide) (fun c_2 => ?_) (fun c_2 => ?_)
  · skip
    replace hF := q_ifp hF c_2
    refine lv_aload_n hx hb dX12_readMost_16 rfl (lv_at hl 0 rfl) ?_
    refine gs_X12_187_12 E hI ha dX12_readMost_17 ?_
    refine lv_topi (fun f_3 ef_3 => ?_)
    replace hF := q_letX hF ef_3
    have if_3 : f_3.toInt = (σ.1 a 12).toInt := congrArg Int32.toInt ef_3
    refine q_if_le (A := f_3.toInt) E rfl (tgt := 24) dX12_readMost_20 (by decide) (fun c_4 => ?_) (fun c_4 => ?_)
    · skip
      replace hF := q_ifn hF (Int.not_lt.mpr c_4)
      refine lv_aload_n hx hb dX12_readMost_24 rfl (lv_at hl 0 rfl) ?_
      refine lv_iconst (v := 1) hx hb dX12_readMost_25 (by decide) ?_
      refine ps_X12_236_12 E hI ha (by decide) (by decide) (by decide) dX12_readMost_26 (fun H locs σ_5 hσ_5 hI => ?_)
      replace hF := q_letX hF hσ_5
      have fr_σ_5 := fr_σ.si hσ_5 ha rfl
      have mv9_σ_5 : (σ_5.1 a 9).toInt = (σ.1 a 9).toInt := congrArg Int32.toInt (q_rdn hσ_5 (Or.inr (by decide)))
      have mv12_σ_5 : (σ_5.1 a 12).toInt = (σ.1 a 12).toInt := congrArg Int32.toInt (q_rdn hσ_5 (Or.inr (by decide)))
      have mv14_σ_5 : (σ_5.1 a 14).toInt = (σ.1 a 14).toInt := congrArg Int32.toInt (q_rdn hσ_5 (Or.inr (by decide)))
      have mv15_σ_5 : (σ_5.1 a 15).toInt = (σ.1 a 15).toInt := congrArg Int32.toInt (q_rdn hσ_5 (Or.inr (by decide)))
      have mv16_σ_5 : (σ_5.1 a 16).toInt = (σ.1 a 16).toInt := congrArg Int32.toInt (q_rdn hσ_5 (Or.inr (by decide)))
      have mcσ_5 := m_wo hσ_5 (m_ne ha (q_tk (f := 20) (k' := 34) hI ha rfl (by decide)) (by decide))
      have nnσ_5 : m_N (m_c X σ_5 a) := m_N.ext mcσ_5 nnσ
      have kpσ_5 : ∀ j, 0 ≤ j → j < 3720 → m_c X σ_5 a j = m_c X σ a j := fun j h0 h1 => (mcσ_5 j).trans (kpσ j h0 h1)
      have k3σ_5 : m_c X σ_5 a 3720 = m_c X σ a 3720 ∧ m_c X σ_5 a 3721 = m_c X σ a 3721 := ⟨(mcσ_5 3720).trans k3σ.1, (mcσ_5 3721).trans k3σ.2⟩
      have k4σ_5 : 1 ≤ m_c X σ_5 a 3724 + 10 * (σ_5.1 a 12).toInt := (by have := mcσ_5 3724; omega)
      have smσ_5 : 0 ≤ (σ_5.1 a 15).toInt ∧ (σ_5.1 a 15).toInt ≤ (σ_5.1 a 16).toInt ∧ (σ_5.1 a 16).toInt ≤ (σ_5.1 a 9).toInt ∧ (σ_5.1 a 9).toInt ≤ 900 ∧ 0 ≤ (σ_5.1 a 14).toInt ∧ (σ_5.1 a 14).toInt ≤ 4 ∧ (σ_5.1 a 14).toInt ≤ 4 * ((σ_5.1 a 16).toInt - (σ_5.1 a 15).toInt) ∧ (σ_5.1 a 14).toInt ≤ 4 * ((σ_5.1 a 9).toInt - (σ_5.1 a 15).toInt) ∧ 0 ≤ (σ_5.1 a 12).toInt ∧ (σ_5.1 a 9).toInt = (σ.1 a 9).toInt ∧ (σ.1 a 15).toInt ≤ (σ_5.1 a 15).toInt ∧ (σ.1 a 12).toInt ≤ (σ_5.1 a 12).toInt := (by first | (rw [mv12_σ_5, mv14_σ_5, mv15_σ_5, mv16_σ_5, mv9_σ_5]; exact smσ) | omega)
      have beσ_5 : (σ_5.1 a 16).toInt = (σ.1 a 16).toInt := (by omega)
      clear mv9_σ_5 mv12_σ_5 mv14_σ_5 mv15_σ_5 mv16_σ_5 k4σ smσ beσ
      refine lv_aload_n hx hb dX12_readMost_29 rfl (lv_at hl 0 rfl) ?_
      refine q_cv (q_runV (As := []) (rest := []) E (hml.trans hl.1.symm) hI (c_X12_next l X σ_5 a ha (by omega) (by omega) (by omega)) kv_X12_197 ha ⟨rfl, by decide⟩ (show vwCl[11]? = some (RX12, TX12, 46) from rfl) rfl ⟨Nat.le_of_ble_eq_true rfl, Nat.le_of_ble_eq_true rfl⟩ ⟨Nat.le_refl _, Nat.le_refl _⟩ rfl (Nat.le_of_ble_eq_true rfl) dX12_readMost_30) hI (by decide) (fun σ_7 H locs hpσ_7 hkσ_7 hI => ?_)
      obtain ⟨ahpσ_7, bhpσ_7, chpσ_7, dhpσ_7, ehpσ_7⟩ := hpσ_7
      have fr_σ_7 := fr_σ_5.call ehpσ_7 rfl rfl
      replace hF := q_letX hF dhpσ_7
      have mcσ_7 := m_cK hkσ_7 hI.1 ha (by decide)
      have nnσ_7 : m_N (m_c X σ_7 a) := m_N.ext mcσ_7 nnσ_5
      have kpσ_7 : ∀ j, 0 ≤ j → j < 3720 → m_c X σ_7 a j = m_c X σ a j := fun j h0 h1 => (mcσ_7 j).trans (kpσ_5 j h0 h1)
      have k3σ_7 : m_c X σ_7 a 3720 = m_c X σ a 3720 ∧ m_c X σ_7 a 3721 = m_c X σ a 3721 := ⟨(mcσ_7 3720).trans k3σ_5.1, (mcσ_7 3721).trans k3σ_5.2⟩
      have k4σ_7 : 1 ≤ m_c X σ_7 a 3724 + 10 * (σ_7.1 a 12).toInt := (by have := mcσ_7 3724; omega)
      have smσ_7 : 0 ≤ (σ_7.1 a 15).toInt ∧ (σ_7.1 a 15).toInt ≤ (σ_7.1 a 16).toInt ∧ (σ_7.1 a 16).toInt ≤ (σ_7.1 a 9).toInt ∧ (σ_7.1 a 9).toInt ≤ 900 ∧ 0 ≤ (σ_7.1 a 14).toInt ∧ (σ_7.1 a 14).toInt ≤ 4 ∧ (σ_7.1 a 14).toInt ≤ 4 * ((σ_7.1 a 16).toInt - (σ_7.1 a 15).toInt) ∧ (σ_7.1 a 14).toInt ≤ 4 * ((σ_7.1 a 9).toInt - (σ_7.1 a 15).toInt) ∧ 0 ≤ (σ_7.1 a 12).toInt ∧ (σ_7.1 a 9).toInt = (σ.1 a 9).toInt ∧ (σ.1 a 15).toInt ≤ (σ_7.1 a 15).toInt ∧ (σ.1 a 12).toInt ≤ (σ_7.1 a 12).toInt := (by first | exact sm_nx smσ_5 bhpσ_7 chpσ_7 | omega)
      have onσ_7 : (σ.1 a 16).toInt ≤ (σ_7.1 a 15).toInt := (by omega)
      clear k4σ_5 smσ_5 bhpσ_7 chpσ_7
      refine lv_aload_n hx hb dX12_readMost_33 rfl (lv_at hl 0 rfl) ?_
      refine gs_X12_35_12 E hI ha dX12_readMost_34 ?_
      refine lv_sipush (v := 3724) hx hb dX12_readMost_37 (by decide) ?_
      refine lv_aload_n hx hb dX12_readMost_40 rfl (lv_at hl 0 rfl) ?_
      refine lv_iconst (v := 1) hx hb dX12_readMost_41 (by decide) ?_
      refine lv_iconst (v := 4) hx hb dX12_readMost_42 (by decide) ?_
      have kc_8 : (1 : Int32).toInt = 1 := rfl
      have kc_9 : (4 : Int32).toInt = 4 := rfl
      refine q_ci (q_runV (As := [.int 1, .int 4]) (rest := [.int 3724, .ref (q_rf X a 20)]) E (hml.trans hl.1.symm) hI (c_X12_count l X σ_7 a (1 : Int32) (4 : Int32) ha (by first | exact sm_9 smσ_7 | exact hs | omega) (by first | (clear hs hz hk h4 k3σ if_1 bf_1 c_2 if_3 c_4 k3σ_5 beσ_5 ahpσ_7 dhpσ_7 ehpσ_7 k3σ_7 k4σ_7 smσ_7 onσ_7; omega) | omega)) kv_X12_223 ha ⟨rfl, by decide⟩ (show vwCl[11]? = some (RX12, TX12, 46) from rfl) rfl ⟨Nat.le_of_ble_eq_true rfl, Nat.le_of_ble_eq_true rfl⟩ ⟨Nat.le_refl _, Nat.le_refl _⟩ rfl (Nat.le_of_ble_eq_true rfl) dX12_readMost_43) hI (by decide) (fun r_10 σ_11 H locs hpσ_11 hkσ_11 hI => ?_)
      obtain ⟨ahpσ_11, bhpσ_11, chpσ_11, dhpσ_11, ehpσ_11⟩ := hpσ_11
      have fr_σ_11 := fr_σ_7.call ehpσ_11 rfl rfl
      replace hF := q_biX hF dhpσ_11
      have mcσ_11 := m_cK hkσ_11 hI.1 ha (by decide)
      have nnσ_11 : m_N (m_c X σ_11 a) := m_N.ext mcσ_11 nnσ_7
      have kpσ_11 : ∀ j, 0 ≤ j → j < 3720 → m_c X σ_11 a j = m_c X σ a j := fun j h0 h1 => (mcσ_11 j).trans (kpσ_7 j h0 h1)
      have k3σ_11 : m_c X σ_11 a 3720 = m_c X σ a 3720 ∧ m_c X σ_11 a 3721 = m_c X σ a 3721 := ⟨(mcσ_11 3720).trans k3σ_7.1, (mcσ_11 3721).trans k3σ_7.2⟩
      have k4σ_11 : 1 ≤ m_c X σ_11 a 3724 + 10 * (σ_11.1 a 12).toInt := (by have := mcσ_11 3724; omega)
      have smσ_11 : 0 ≤ (σ_11.1 a 15).toInt ∧ (σ_11.1 a 15).toInt ≤ (σ_11.1 a 16).toInt ∧ (σ_11.1 a 16).toInt ≤ (σ_11.1 a 9).toInt ∧ (σ_11.1 a 9).toInt ≤ 900 ∧ 0 ≤ (σ_11.1 a 14).toInt ∧ (σ_11.1 a 14).toInt ≤ 4 ∧ (σ_11.1 a 14).toInt ≤ 4 * ((σ_11.1 a 16).toInt - (σ_11.1 a 15).toInt) ∧ (σ_11.1 a 14).toInt ≤ 4 * ((σ_11.1 a 9).toInt - (σ_11.1 a 15).toInt) ∧ 0 ≤ (σ_11.1 a 12).toInt ∧ (σ_11.1 a 9).toInt = (σ.1 a 9).toInt ∧ (σ.1 a 15).toInt ≤ (σ_11.1 a 15).toInt ∧ (σ.1 a 12).toInt ≤ (σ_11.1 a 12).toInt := (by first | exact sm_tr smσ_7 bhpσ_11 | exact sm_tr smσ_7 chpσ_11 | omega)
      have onσ_11 : (σ.1 a 16).toInt ≤ (σ_11.1 a 15).toInt := (by first | (clear hs hz hk h4 k3σ if_1 bf_1 c_2 if_3 c_4 k3σ_5 ahpσ_7 dhpσ_7 ehpσ_7 k3σ_7 k4σ_7 smσ_7 kc_8 kc_9 ahpσ_11 chpσ_11 dhpσ_11 ehpσ_11 k3σ_11 k4σ_11 smσ_11; omega) | omega)
      clear k4σ_7 smσ_7 onσ_7 bhpσ_11
      refine q_iastN E hI (q_tk (k' := 34) hI ha rfl (by decide)) ⟨by decide, rfl⟩ (by decide) (by rw [q_lnk (v := 4650) hI (q_tk (k' := 34) hI ha rfl (by decide)) rfl (by decide)]; decide) (show 1 < 2 by decide) (q_inU rfl) dX12_readMost_46 (fun H locs σ_12 hσ_12 hI => ?_)
      replace hF := q_letX hF hσ_12
      have fr_σ_12 := fr_σ_11.si hσ_12 (q_tk (k' := 34) hI ha rfl (by decide)) rfl
      have mv9_σ_12 : (σ_12.1 a 9).toInt = (σ_11.1 a 9).toInt := congrArg Int32.toInt (q_rdn hσ_12 (Or.inl (m_ne ha (q_tk (k' := 34) hI ha rfl (by decide)) (by decide))))
      have mv12_σ_12 : (σ_12.1 a 12).toInt = (σ_11.1 a 12).toInt := congrArg Int32.toInt (q_rdn hσ_12 (Or.inl (m_ne ha (q_tk (k' := 34) hI ha rfl (by decide)) (by decide))))
      have mv14_σ_12 : (σ_12.1 a 14).toInt = (σ_11.1 a 14).toInt := congrArg Int32.toInt (q_rdn hσ_12 (Or.inl (m_ne ha (q_tk (k' := 34) hI ha rfl (by decide)) (by decide))))
      have mv15_σ_12 : (σ_12.1 a 15).toInt = (σ_11.1 a 15).toInt := congrArg Int32.toInt (q_rdn hσ_12 (Or.inl (m_ne ha (q_tk (k' := 34) hI ha rfl (by decide)) (by decide))))
      have mv16_σ_12 : (σ_12.1 a 16).toInt = (σ_11.1 a 16).toInt := congrArg Int32.toInt (q_rdn hσ_12 (Or.inl (m_ne ha (q_tk (k' := 34) hI ha rfl (by decide)) (by decide))))
      have mcσ_12 := m_wr (v := r_10) (A := 3724) hσ_12 (by decide) (by decide)
      have nnσ_12 : m_N (m_c X σ_12 a) := m_N.wr nnσ_11 mcσ_12 (by first | (clear hs hz hk h4 k3σ if_1 bf_1 c_2 if_3 c_4 k3σ_5 beσ_5 ahpσ_7 dhpσ_7 ehpσ_7 k3σ_7 kc_8 ahpσ_11 dhpσ_11 ehpσ_11 k3σ_11 k4σ_11 smσ_11 onσ_11 mv9_σ_12 mv12_σ_12 mv14_σ_12 mv15_σ_12 mv16_σ_12; omega) | omega)
      have kpσ_12 : ∀ j, 0 ≤ j → j < 3720 → m_c X σ_12 a j = m_c X σ a j := fun j h0 h1 => by rw [mcσ_12 j h0, if_neg (by first | (clear hs hz hk h4 k3σ if_1 bf_1 c_2 if_3 c_4 k3σ_5 beσ_5 ahpσ_7 dhpσ_7 ehpσ_7 k3σ_7 kc_8 kc_9 ahpσ_11 chpσ_11 dhpσ_11 ehpσ_11 k3σ_11 k4σ_11 smσ_11 onσ_11 mv9_σ_12 mv12_σ_12 mv14_σ_12 mv15_σ_12 mv16_σ_12; omega) | omega)]; exact kpσ_11 j h0 h1
      have k3σ_12 : m_c X σ_12 a 3720 = m_c X σ a 3720 ∧ m_c X σ_12 a 3721 = m_c X σ a 3721 := ⟨by rw [mcσ_12 3720 (by decide), if_neg (by first | (clear hs hz hk h4 k3σ if_1 bf_1 c_2 if_3 c_4 k3σ_5 beσ_5 ahpσ_7 dhpσ_7 ehpσ_7 k3σ_7 kc_8 kc_9 ahpσ_11 chpσ_11 dhpσ_11 ehpσ_11 k3σ_11 k4σ_11 smσ_11 onσ_11 mv9_σ_12 mv12_σ_12 mv14_σ_12 mv15_σ_12 mv16_σ_12; omega) | omega)]; exact k3σ_11.1, by rw [mcσ_12 3721 (by decide), if_neg (by first | (clear hs hz hk h4 k3σ if_1 bf_1 c_2 if_3 c_4 k3σ_5 beσ_5 ahpσ_7 dhpσ_7 ehpσ_7 k3σ_7 kc_8 kc_9 ahpσ_11 chpσ_11 dhpσ_11 ehpσ_11 k3σ_11 k4σ_11 smσ_11 onσ_11 mv9_σ_12 mv12_σ_12 mv14_σ_12 mv15_σ_12 mv16_σ_12; omega) | omega)]; exact k3σ_11.2⟩
      have k4σ_12 : 1 ≤ m_c X σ_12 a 3724 + 10 * (σ_12.1 a 12).toInt := (by have := mcσ_12 3724 (by decide); rw [if_pos (by first | (clear hs hz hk h4 k3σ if_1 bf_1 c_2 if_3 c_4 k3σ_5 beσ_5 ahpσ_7 dhpσ_7 ehpσ_7 k3σ_7 kc_8 kc_9 ahpσ_11 chpσ_11 dhpσ_11 ehpσ_11 k3σ_11 k4σ_11 smσ_11 onσ_11 mv9_σ_12 mv12_σ_12 mv14_σ_12 mv15_σ_12 mv16_σ_12 k3σ_12; omega) | omega)] at this; omega)
      have smσ_12 : 0 ≤ (σ_12.1 a 15).toInt ∧ (σ_12.1 a 15).toInt ≤ (σ_12.1 a 16).toInt ∧ (σ_12.1 a 16).toInt ≤ (σ_12.1 a 9).toInt ∧ (σ_12.1 a 9).toInt ≤ 900 ∧ 0 ≤ (σ_12.1 a 14).toInt ∧ (σ_12.1 a 14).toInt ≤ 4 ∧ (σ_12.1 a 14).toInt ≤ 4 * ((σ_12.1 a 16).toInt - (σ_12.1 a 15).toInt) ∧ (σ_12.1 a 14).toInt ≤ 4 * ((σ_12.1 a 9).toInt - (σ_12.1 a 15).toInt) ∧ 0 ≤ (σ_12.1 a 12).toInt ∧ (σ_12.1 a 9).toInt = (σ.1 a 9).toInt ∧ (σ.1 a 15).toInt ≤ (σ_12.1 a 15).toInt ∧ (σ.1 a 12).toInt ≤ (σ_12.1 a 12).toInt := (by first | (rw [mv12_σ_12, mv14_σ_12, mv15_σ_12, mv16_σ_12, mv9_σ_12]; exact smσ_11) | omega)
      have onσ_12 : (σ.1 a 16).toInt ≤ (σ_12.1 a 15).toInt := (by first | (clear hs hz hk h4 k3σ if_1 bf_1 c_2 if_3 c_4 k3σ_5 ahpσ_7 dhpσ_7 ehpσ_7 k3σ_7 kc_8 kc_9 ahpσ_11 chpσ_11 dhpσ_11 ehpσ_11 k3σ_11 k4σ_11 smσ_11 mv9_σ_12 mv12_σ_12 mv14_σ_12 mv16_σ_12 k3σ_12 k4σ_12 smσ_12; omega) | omega)
      clear mv9_σ_12 mv12_σ_12 mv14_σ_12 mv15_σ_12 mv16_σ_12 k4σ_11 smσ_11 onσ_11
      exact q_retv E hr hlk hI ⟨nnσ_12, kpσ_12, (by first | exact smσ_12 | omega), (by first | exact smσ_12 | omega), k3σ_12, k4σ_12, (hF.trans hout), fr_σ_12⟩ dX12_readMost_47
    · skip
      replace hF := q_ifp hF c_4
      exact q_retv E hr hlk hI ⟨nnσ, kpσ, (by first | exact smσ | omega), (by first | exact smσ | omega), k3σ, k4σ, (hF.trans hout), fr_σ⟩ dX12_readMost_23
  · skip
    replace hF := q_ifn hF c_2
    refine lv_aload_n hx hb dX12_readMost_7 rfl (lv_at hl 0 rfl) ?_
    refine lv_iconst (v := 5) hx hb dX12_readMost_8 (by decide) ?_
    refine lv_aload_n hx hb dX12_readMost_9 rfl (lv_at hl 0 rfl) ?_
    refine gs_X12_104_12 E hI ha dX12_readMost_10 ?_
    refine lv_topi (fun f_13 ef_13 => ?_)
    replace hF := q_letX hF ef_13
    have if_13 : f_13.toInt = (σ.1 a 15).toInt := congrArg Int32.toInt ef_13
    have kc_14 : (5 : Int32).toInt = 5 := rfl
    refine q_cv (q_runV (As := [.int 5, .int f_13]) (rest := []) E (hml.trans hl.1.symm) hI (c_X12_fail l X σ a (5 : Int32) f_13 ha (by omega) (by omega)) kv_X12_193 ha ⟨rfl, by decide⟩ (show vwCl[11]? = some (RX12, TX12, 46) from rfl) rfl ⟨Nat.le_of_ble_eq_true rfl, Nat.le_of_ble_eq_true rfl⟩ ⟨Nat.le_refl _, Nat.le_refl _⟩ rfl (Nat.le_of_ble_eq_true rfl) dX12_readMost_13) hI (by decide) (fun σ_16 H locs hpσ_16 hkσ_16 hI => ?_)
    obtain ⟨ahpσ_16, bhpσ_16, chpσ_16, dhpσ_16, ehpσ_16⟩ := hpσ_16
    have fr_σ_16 := fr_σ.call ehpσ_16 rfl rfl
    replace hF := q_letX hF dhpσ_16
    have mcσ_16 := m_cK hkσ_16 hI.1 ha (by decide)
    have nnσ_16 : m_N (m_c X σ_16 a) := m_N.ext mcσ_16 nnσ
    have kpσ_16 : ∀ j, 0 ≤ j → j < 3720 → m_c X σ_16 a j = m_c X σ a j := fun j h0 h1 => (mcσ_16 j).trans (kpσ j h0 h1)
    have k3σ_16 : m_c X σ_16 a 3720 = m_c X σ a 3720 ∧ m_c X σ_16 a 3721 = m_c X σ a 3721 := ⟨(mcσ_16 3720).trans k3σ.1, (mcσ_16 3721).trans k3σ.2⟩
    have k4σ_16 : 1 ≤ m_c X σ_16 a 3724 + 10 * (σ_16.1 a 12).toInt := (by have := mcσ_16 3724; omega)
    have smσ_16 : 0 ≤ (σ_16.1 a 15).toInt ∧ (σ_16.1 a 15).toInt ≤ (σ_16.1 a 16).toInt ∧ (σ_16.1 a 16).toInt ≤ (σ_16.1 a 9).toInt ∧ (σ_16.1 a 9).toInt ≤ 900 ∧ 0 ≤ (σ_16.1 a 14).toInt ∧ (σ_16.1 a 14).toInt ≤ 4 ∧ (σ_16.1 a 14).toInt ≤ 4 * ((σ_16.1 a 16).toInt - (σ_16.1 a 15).toInt) ∧ (σ_16.1 a 14).toInt ≤ 4 * ((σ_16.1 a 9).toInt - (σ_16.1 a 15).toInt) ∧ 0 ≤ (σ_16.1 a 12).toInt ∧ (σ_16.1 a 9).toInt = (σ.1 a 9).toInt ∧ (σ.1 a 15).toInt ≤ (σ_16.1 a 15).toInt ∧ (σ.1 a 12).toInt ≤ (σ_16.1 a 12).toInt := (by first | exact sm_fl smσ bhpσ_16 chpσ_16 | omega)
    have beσ_16 : (σ_16.1 a 16).toInt = (σ.1 a 16).toInt := (by omega)
    clear k4σ smσ beσ bhpσ_16
    refine lv_aload_n hx hb dX12_readMost_16 rfl (lv_at hl 0 rfl) ?_
    refine gs_X12_187_12 E hI ha dX12_readMost_17 ?_
    refine lv_topi (fun f_17 ef_17 => ?_)
    replace hF := q_letX hF ef_17
    have if_17 : f_17.toInt = (σ_16.1 a 12).toInt := congrArg Int32.toInt ef_17
    refine q_if_le (A := f_17.toInt) E rfl (tgt := 24) dX12_readMost_20 (by decide) (fun c_18 => ?_) (fun c_18 => ?_)
    · skip
      replace hF := q_ifn hF (Int.not_lt.mpr c_18)
      refine lv_aload_n hx hb dX12_readMost_24 rfl (lv_at hl 0 rfl) ?_
      refine lv_iconst (v := 1) hx hb dX12_readMost_25 (by decide) ?_
      refine ps_X12_236_12 E hI ha (by decide) (by decide) (by decide) dX12_readMost_26 (fun H locs σ_19 hσ_19 hI => ?_)
      replace hF := q_letX hF hσ_19
      have fr_σ_19 := fr_σ_16.si hσ_19 ha rfl
      have mv9_σ_19 : (σ_19.1 a 9).toInt = (σ_16.1 a 9).toInt := congrArg Int32.toInt (q_rdn hσ_19 (Or.inr (by decide)))
      have mv12_σ_19 : (σ_19.1 a 12).toInt = (σ_16.1 a 12).toInt := congrArg Int32.toInt (q_rdn hσ_19 (Or.inr (by decide)))
      have mv14_σ_19 : (σ_19.1 a 14).toInt = (σ_16.1 a 14).toInt := congrArg Int32.toInt (q_rdn hσ_19 (Or.inr (by decide)))
      have mv15_σ_19 : (σ_19.1 a 15).toInt = (σ_16.1 a 15).toInt := congrArg Int32.toInt (q_rdn hσ_19 (Or.inr (by decide)))
      have mv16_σ_19 : (σ_19.1 a 16).toInt = (σ_16.1 a 16).toInt := congrArg Int32.toInt (q_rdn hσ_19 (Or.inr (by decide)))
      have mcσ_19 := m_wo hσ_19 (m_ne ha (q_tk (f := 20) (k' := 34) hI ha rfl (by decide)) (by decide))
      have nnσ_19 : m_N (m_c X σ_19 a) := m_N.ext mcσ_19 nnσ_16
      have kpσ_19 : ∀ j, 0 ≤ j → j < 3720 → m_c X σ_19 a j = m_c X σ a j := fun j h0 h1 => (mcσ_19 j).trans (kpσ_16 j h0 h1)
      have k3σ_19 : m_c X σ_19 a 3720 = m_c X σ a 3720 ∧ m_c X σ_19 a 3721 = m_c X σ a 3721 := ⟨(mcσ_19 3720).trans k3σ_16.1, (mcσ_19 3721).trans k3σ_16.2⟩
      have k4σ_19 : 1 ≤ m_c X σ_19 a 3724 + 10 * (σ_19.1 a 12).toInt := (by have := mcσ_19 3724; omega)
      have smσ_19 : 0 ≤ (σ_19.1 a 15).toInt ∧ (σ_19.1 a 15).toInt ≤ (σ_19.1 a 16).toInt ∧ (σ_19.1 a 16).toInt ≤ (σ_19.1 a 9).toInt ∧ (σ_19.1 a 9).toInt ≤ 900 ∧ 0 ≤ (σ_19.1 a 14).toInt ∧ (σ_19.1 a 14).toInt ≤ 4 ∧ (σ_19.1 a 14).toInt ≤ 4 * ((σ_19.1 a 16).toInt - (σ_19.1 a 15).toInt) ∧ (σ_19.1 a 14).toInt ≤ 4 * ((σ_19.1 a 9).toInt - (σ_19.1 a 15).toInt) ∧ 0 ≤ (σ_19.1 a 12).toInt ∧ (σ_19.1 a 9).toInt = (σ.1 a 9).toInt ∧ (σ.1 a 15).toInt ≤ (σ_19.1 a 15).toInt ∧ (σ.1 a 12).toInt ≤ (σ_19.1 a 12).toInt := (by first | (rw [mv12_σ_19, mv14_σ_19, mv15_σ_19, mv16_σ_19, mv9_σ_19]; exact smσ_16) | omega)
      have beσ_19 : (σ_19.1 a 16).toInt = (σ.1 a 16).toInt := (by omega)
      clear mv9_σ_19 mv12_σ_19 mv14_σ_19 mv15_σ_19 mv16_σ_19 k4σ_16 smσ_16 beσ_16
      refine lv_aload_n hx hb dX12_readMost_29 rfl (lv_at hl 0 rfl) ?_
      refine q_cv (q_runV (As := []) (rest := []) E (hml.trans hl.1.symm) hI (c_X12_next l X σ_19 a ha (by omega) (by omega) (by omega)) kv_X12_197 ha ⟨rfl, by decide⟩ (show vwCl[11]? = some (RX12, TX12, 46) from rfl) rfl ⟨Nat.le_of_ble_eq_true rfl, Nat.le_of_ble_eq_true rfl⟩ ⟨Nat.le_refl _, Nat.le_refl _⟩ rfl (Nat.le_of_ble_eq_true rfl) dX12_readMost_30) hI (by decide) (fun σ_21 H locs hpσ_21 hkσ_21 hI => ?_)
      obtain ⟨ahpσ_21, bhpσ_21, chpσ_21, dhpσ_21, ehpσ_21⟩ := hpσ_21
      have fr_σ_21 := fr_σ_19.call ehpσ_21 rfl rfl
      replace hF := q_letX hF dhpσ_21
      have mcσ_21 := m_cK hkσ_21 hI.1 ha (by decide)
      have nnσ_21 : m_N (m_c X σ_21 a) := m_N.ext mcσ_21 nnσ_19
      have kpσ_21 : ∀ j, 0 ≤ j → j < 3720 → m_c X σ_21 a j = m_c X σ a j := fun j h0 h1 => (mcσ_21 j).trans (kpσ_19 j h0 h1)
      have k3σ_21 : m_c X σ_21 a 3720 = m_c X σ a 3720 ∧ m_c X σ_21 a 3721 = m_c X σ a 3721 := ⟨(mcσ_21 3720).trans k3σ_19.1, (mcσ_21 3721).trans k3σ_19.2⟩
      have k4σ_21 : 1 ≤ m_c X σ_21 a 3724 + 10 * (σ_21.1 a 12).toInt := (by have := mcσ_21 3724; omega)
      have smσ_21 : 0 ≤ (σ_21.1 a 15).toInt ∧ (σ_21.1 a 15).toInt ≤ (σ_21.1 a 16).toInt ∧ (σ_21.1 a 16).toInt ≤ (σ_21.1 a 9).toInt ∧ (σ_21.1 a 9).toInt ≤ 900 ∧ 0 ≤ (σ_21.1 a 14).toInt ∧ (σ_21.1 a 14).toInt ≤ 4 ∧ (σ_21.1 a 14).toInt ≤ 4 * ((σ_21.1 a 16).toInt - (σ_21.1 a 15).toInt) ∧ (σ_21.1 a 14).toInt ≤ 4 * ((σ_21.1 a 9).toInt - (σ_21.1 a 15).toInt) ∧ 0 ≤ (σ_21.1 a 12).toInt ∧ (σ_21.1 a 9).toInt = (σ.1 a 9).toInt ∧ (σ.1 a 15).toInt ≤ (σ_21.1 a 15).toInt ∧ (σ.1 a 12).toInt ≤ (σ_21.1 a 12).toInt := (by first | exact sm_nx smσ_19 bhpσ_21 chpσ_21 | omega)
      have onσ_21 : (σ.1 a 16).toInt ≤ (σ_21.1 a 15).toInt := (by omega)
      clear k4σ_19 smσ_19 bhpσ_21 chpσ_21
      refine lv_aload_n hx hb dX12_readMost_33 rfl (lv_at hl 0 rfl) ?_
      refine gs_X12_35_12 E hI ha dX12_readMost_34 ?_
      refine lv_sipush (v := 3724) hx hb dX12_readMost_37 (by decide) ?_
      refine lv_aload_n hx hb dX12_readMost_40 rfl (lv_at hl 0 rfl) ?_
      refine lv_iconst (v := 1) hx hb dX12_readMost_41 (by decide) ?_
      refine lv_iconst (v := 4) hx hb dX12_readMost_42 (by decide) ?_
      have kc_22 : (1 : Int32).toInt = 1 := rfl
      have kc_23 : (4 : Int32).toInt = 4 := rfl
      refine q_ci (q_runV (As := [.int 1, .int 4]) (rest := [.int 3724, .ref (q_rf X a 20)]) E (hml.trans hl.1.symm) hI (c_X12_count l X σ_21 a (1 : Int32) (4 : Int32) ha (by first | exact sm_9 smσ_21 | exact hs | omega) (by omega)) kv_X12_223 ha ⟨rfl, by decide⟩ (show vwCl[11]? = some (RX12, TX12, 46) from rfl) rfl ⟨Nat.le_of_ble_eq_true rfl, Nat.le_of_ble_eq_true rfl⟩ ⟨Nat.le_refl _, Nat.le_refl _⟩ rfl (Nat.le_of_ble_eq_true rfl) dX12_readMost_43) hI (by decide) (fun r_24 σ_25 H locs hpσ_25 hkσ_25 hI => ?_)
      obtain ⟨ahpσ_25, bhpσ_25, chpσ_25, dhpσ_25, ehpσ_25⟩ := hpσ_25
      have fr_σ_25 := fr_σ_21.call ehpσ_25 rfl rfl
      replace hF := q_biX hF dhpσ_25
      have mcσ_25 := m_cK hkσ_25 hI.1 ha (by decide)
      have nnσ_25 : m_N (m_c X σ_25 a) := m_N.ext mcσ_25 nnσ_21
      have kpσ_25 : ∀ j, 0 ≤ j → j < 3720 → m_c X σ_25 a j = m_c X σ a j := fun j h0 h1 => (mcσ_25 j).trans (kpσ_21 j h0 h1)
      have k3σ_25 : m_c X σ_25 a 3720 = m_c X σ a 3720 ∧ m_c X σ_25 a 3721 = m_c X σ a 3721 := ⟨(mcσ_25 3720).trans k3σ_21.1, (mcσ_25 3721).trans k3σ_21.2⟩
      have k4σ_25 : 1 ≤ m_c X σ_25 a 3724 + 10 * (σ_25.1 a 12).toInt := (by have := mcσ_25 3724; omega)
      have smσ_25 : 0 ≤ (σ_25.1 a 15).toInt ∧ (σ_25.1 a 15).toInt ≤ (σ_25.1 a 16).toInt ∧ (σ_25.1 a 16).toInt ≤ (σ_25.1 a 9).toInt ∧ (σ_25.1 a 9).toInt ≤ 900 ∧ 0 ≤ (σ_25.1 a 14).toInt ∧ (σ_25.1 a 14).toInt ≤ 4 ∧ (σ_25.1 a 14).toInt ≤ 4 * ((σ_25.1 a 16).toInt - (σ_25.1 a 15).toInt) ∧ (σ_25.1 a 14).toInt ≤ 4 * ((σ_25.1 a 9).toInt - (σ_25.1 a 15).toInt) ∧ 0 ≤ (σ_25.1 a 12).toInt ∧ (σ_25.1 a 9).toInt = (σ.1 a 9).toInt ∧ (σ.1 a 15).toInt ≤ (σ_25.1 a 15).toInt ∧ (σ.1 a 12).toInt ≤ (σ_25.1 a 12).toInt := (by first | exact sm_tr smσ_21 bhpσ_25 | exact sm_tr smσ_21 chpσ_25 | omega)
      have onσ_25 : (σ.1 a 16).toInt ≤ (σ_25.1 a 15).toInt := (by omega)
      clear k4σ_21 smσ_21 onσ_21 bhpσ_25
      refine q_iastN E hI (q_tk (k' := 34) hI ha rfl (by decide)) ⟨by decide, rfl⟩ (by decide) (by rw [q_lnk (v := 4650) hI (q_tk (k' := 34) hI ha rfl (by decide)) rfl (by decide)]; decide) (show 1 < 2 by decide) (q_inU rfl) dX12_readMost_46 (fun H locs σ_26 hσ_26 hI => ?_)
      replace hF := q_letX hF hσ_26
      have fr_σ_26 := fr_σ_25.si hσ_26 (q_tk (k' := 34) hI ha rfl (by decide)) rfl
      have mv9_σ_26 : (σ_26.1 a 9).toInt = (σ_25.1 a 9).toInt := congrArg Int32.toInt (q_rdn hσ_26 (Or.inl (m_ne ha (q_tk (k' := 34) hI ha rfl (by decide)) (by decide))))
      have mv12_σ_26 : (σ_26.1 a 12).toInt = (σ_25.1 a 12).toInt := congrArg Int32.toInt (q_rdn hσ_26 (Or.inl (m_ne ha (q_tk (k' := 34) hI ha rfl (by decide)) (by decide))))
      have mv14_σ_26 : (σ_26.1 a 14).toInt = (σ_25.1 a 14).toInt := congrArg Int32.toInt (q_rdn hσ_26 (Or.inl (m_ne ha (q_tk (k' := 34) hI ha rfl (by decide)) (by decide))))
      have mv15_σ_26 : (σ_26.1 a 15).toInt = (σ_25.1 a 15).toInt := congrArg Int32.toInt (q_rdn hσ_26 (Or.inl (m_ne ha (q_tk (k' := 34) hI ha rfl (by decide)) (by decide))))
      have mv16_σ_26 : (σ_26.1 a 16).toInt = (σ_25.1 a 16).toInt := congrArg Int32.toInt (q_rdn hσ_26 (Or.inl (m_ne ha (q_tk (k' := 34) hI ha rfl (by decide)) (by decide))))
      have mcσ_26 := m_wr (v := r_24) (A := 3724) hσ_26 (by decide) (by decide)
      have nnσ_26 : m_N (m_c X σ_26 a) := m_N.wr nnσ_25 mcσ_26 (by omega)
      have kpσ_26 : ∀ j, 0 ≤ j → j < 3720 → m_c X σ_26 a j = m_c X σ a j := fun j h0 h1 => by rw [mcσ_26 j h0, if_neg (by omega)]; exact kpσ_25 j h0 h1
      have k3σ_26 : m_c X σ_26 a 3720 = m_c X σ a 3720 ∧ m_c X σ_26 a 3721 = m_c X σ a 3721 := ⟨by rw [mcσ_26 3720 (by decide), if_neg (by omega)]; exact k3σ_25.1, by rw [mcσ_26 3721 (by decide), if_neg (by omega)]; exact k3σ_25.2⟩
      have k4σ_26 : 1 ≤ m_c X σ_26 a 3724 + 10 * (σ_26.1 a 12).toInt := (by have := mcσ_26 3724 (by decide); rw [if_pos (by omega)] at this; omega)
      have smσ_26 : 0 ≤ (σ_26.1 a 15).toInt ∧ (σ_26.1 a 15).toInt ≤ (σ_26.1 a 16).toInt ∧ (σ_26.1 a 16).toInt ≤ (σ_26.1 a 9).toInt ∧ (σ_26.1 a 9).toInt ≤ 900 ∧ 0 ≤ (σ_26.1 a 14).toInt ∧ (σ_26.1 a 14).toInt ≤ 4 ∧ (σ_26.1 a 14).toInt ≤ 4 * ((σ_26.1 a 16).toInt - (σ_26.1 a 15).toInt) ∧ (σ_26.1 a 14).toInt ≤ 4 * ((σ_26.1 a 9).toInt - (σ_26.1 a 15).toInt) ∧ 0 ≤ (σ_26.1 a 12).toInt ∧ (σ_26.1 a 9).toInt = (σ.1 a 9).toInt ∧ (σ.1 a 15).toInt ≤ (σ_26.1 a 15).toInt ∧ (σ.1 a 12).toInt ≤ (σ_26.1 a 12).toInt := (by first | (rw [mv12_σ_26, mv14_σ_26, mv15_σ_26, mv16_σ_26, mv9_σ_26]; exact smσ_25) | omega)
      have onσ_26 : (σ.1 a 16).toInt ≤ (σ_26.1 a 15).toInt := (by omega)
      clear mv9_σ_26 mv12_σ_26 mv14_σ_26 mv15_σ_26 mv16_σ_26 k4σ_25 smσ_25 onσ_25
      exact q_retv E hr hlk hI ⟨nnσ_26, kpσ_26, (by first | exact smσ_26 | omega), (by first | exact smσ_26 | omega), k3σ_26, k4σ_26, (hF.trans hout), fr_σ_26⟩ dX12_readMost_47
    · skip
      replace hF := q_ifp hF c_18
      exact q_retv E hr hlk hI ⟨nnσ_16, kpσ_16, (by first | exact smσ_16 | omega), (by first | exact smσ_16 | omega), k3σ_16, k4σ_16, (hF.trans hout), fr_σ_16⟩ dX12_readMost_23

set_option maxRecDepth 100000 in
set_option maxHeartbeats 4000000 in
theorem c_X12_readPlayer (l : Launch) (X : XW) (σ : ST) (a : Nat) (ha : q_kd X a = 12) (hs : 0 ≤ (σ.1 a 15).toInt ∧ (σ.1 a 15).toInt ≤ (σ.1 a 16).toInt ∧ (σ.1 a 16).toInt ≤ (σ.1 a 9).toInt ∧ (σ.1 a 9).toInt ≤ 900 ∧ 0 ≤ (σ.1 a 14).toInt ∧ (σ.1 a 14).toInt ≤ 4 ∧ (σ.1 a 14).toInt ≤ 4 * ((σ.1 a 16).toInt - (σ.1 a 15).toInt) ∧ (σ.1 a 14).toInt ≤ 4 * ((σ.1 a 9).toInt - (σ.1 a 15).toInt) ∧ 0 ≤ (σ.1 a 12).toInt) (hN : m_N (m_c X σ a)) (hz : (σ.1 a 12).toInt = 0) (hk : 2 ≤ m_c X σ a 3720) (h4 : 1 ≤ m_c X σ a 3724) : Met l yX12_readPlayer (q_ws yX12_readPlayer cX12_readPlayer 2 none) (q_rm 5 107) (q_P X σ [.ref a]) (q_Qv X 1 σ (fun (σ' : ST) => (m_N (m_c X σ' a)) ∧ (∀ j, 0 ≤ j → j < 3720 → m_c X σ' a j = m_c X σ a j) ∧ (0 ≤ (σ'.1 a 15).toInt ∧ (σ'.1 a 15).toInt ≤ (σ'.1 a 16).toInt ∧ (σ'.1 a 16).toInt ≤ (σ'.1 a 9).toInt ∧ (σ'.1 a 9).toInt ≤ 900 ∧ 0 ≤ (σ'.1 a 14).toInt ∧ (σ'.1 a 14).toInt ≤ 4 ∧ (σ'.1 a 14).toInt ≤ 4 * ((σ'.1 a 16).toInt - (σ'.1 a 15).toInt) ∧ (σ'.1 a 14).toInt ≤ 4 * ((σ'.1 a 9).toInt - (σ'.1 a 15).toInt) ∧ 0 ≤ (σ'.1 a 12).toInt ∧ (σ'.1 a 9).toInt = (σ.1 a 9).toInt ∧ (σ.1 a 15).toInt ≤ (σ'.1 a 15).toInt ∧ (σ.1 a 12).toInt ≤ (σ'.1 a 12).toInt) ∧ ((σ.1 a 16).toInt ≤ (σ'.1 a 15).toInt + 1000 * (σ'.1 a 12).toInt) ∧ (m_c X σ' a 3720 = m_c X σ a 3720 ∧ m_c X σ' a 3721 = m_c X σ a 3721) ∧ (1 ≤ m_c X σ' a 3724 + 10 * (σ'.1 a 12).toInt) ∧ σ' = F_X12_readPlayer X σ a ∧ q_ow [(12, 12), (12, 13), (12, 14), (12, 15), (12, 16), (12, 17), (12, 18), (34, 99)] [(12, 19), (37, 99)] X σ σ')) 0 0 (q_reg X) := by
  refine q_met 1 (by first | exact rfl | decide +kernel) rfl (Nat.le_of_ble_eq_true rfl) (fun p e s m below meth c E hml hr hlk hI ls hl => ?_)
  have hx := E.1
  have hb := E.2.1
  have hl : lv_has ls 2 [(0, .ref a)] := hl
  have nnσ : m_N (m_c X σ a) := hN
  have kpσ : ∀ j, 0 ≤ j → j < 3720 → m_c X σ a j = m_c X σ a j := fun _ _ _ => rfl
  have k3σ : m_c X σ a 3720 = m_c X σ a 3720 ∧ m_c X σ a 3721 = m_c X σ a 3721 := ⟨rfl, rfl⟩
  have k4σ : 1 ≤ m_c X σ a 3724 + 10 * (σ.1 a 12).toInt := (by omega)
  have smσ : 0 ≤ (σ.1 a 15).toInt ∧ (σ.1 a 15).toInt ≤ (σ.1 a 16).toInt ∧ (σ.1 a 16).toInt ≤ (σ.1 a 9).toInt ∧ (σ.1 a 9).toInt ≤ 900 ∧ 0 ≤ (σ.1 a 14).toInt ∧ (σ.1 a 14).toInt ≤ 4 ∧ (σ.1 a 14).toInt ≤ 4 * ((σ.1 a 16).toInt - (σ.1 a 15).toInt) ∧ (σ.1 a 14).toInt ≤ 4 * ((σ.1 a 9).toInt - (σ.1 a 15).toInt) ∧ 0 ≤ (σ.1 a 12).toInt ∧ (σ.1 a 9).toInt = (σ.1 a 9).toInt ∧ (σ.1 a 15).toInt ≤ (σ.1 a 15).toInt ∧ (σ.1 a 12).toInt ≤ (σ.1 a 12).toInt := (by omega)
  have beσ : (σ.1 a 16).toInt = (σ.1 a 16).toInt := rfl
  have kmσ : m_c X σ a 3722 = m_c X σ a 3722 := rfl
  have fr_σ : q_ow [(12, 12), (12, 13), (12, 14), (12, 15), (12, 16), (12, 17), (12, 18), (34, 99)] [(12, 19), (37, 99)] X σ σ := q_ow.rf
  have n2 := hN.2.2.1
  obtain ⟨out, hout⟩ : ∃ o, o = F_X12_readPlayer X σ a := ⟨_, rfl⟩
  have hF := hout.symm
  unfold F_X12_readPlayer at hF
  refine lv_aload_n hx hb dX12_readPlayer_0 rfl (lv_at hl 0 rfl) ?_
  refine gs_X12_35_12 E hI ha dX12_readPlayer_1 ?_
  refine lv_sipush (v := 3722) hx hb dX12_readPlayer_4 (by decide) ?_
  refine q_iald E hI (q_tk (k' := 34) hI ha rfl (by decide)) ⟨by decide, rfl⟩ (by decide) (by rw [q_lnk (v := 4650) hI (q_tk (k' := 34) hI ha rfl (by decide)) rfl (by decide)]; decide) dX12_readPlayer_7 ?_
  refine lv_topi (fun f_1 ef_1 => ?_)
  replace hF := q_letX hF ef_1
  have if_1 : f_1.toInt = m_c X σ a 3722 := m_rd ef_1 (by decide)
  refine lv_istore_n (lv' := [(1, .int f_1), (0, .ref a)]) hx hb dX12_readPlayer_8 rfl hl (by decide) rfl (fun ls hl => ?_)
  refine lv_iload_n hx hb dX12_readPlayer_9 rfl (lv_at hl 0 rfl) ?_
  refine lv_bipush (v := 6) hx hb dX12_readPlayer_10 (by decide) ?_
  have J_25_2 : ∀  (σ_2 : ST) (H : Heap) (locs : List Loc) (ls : Array Slot), (f_1.toInt ≤ 5 + (σ_2.1 a 12).toInt) → (q_ow [(12, 12), (12, 13), (12, 14), (12, 15), (12, 16), (12, 17), (12, 18), (34, 99)] [(12, 19), (37, 99)] X σ σ_2) → (m_N (m_c X σ_2 a)) → (∀ j, 0 ≤ j → j < 3720 → m_c X σ_2 a j = m_c X σ a j) → (m_c X σ_2 a 3720 = m_c X σ a 3720 ∧ m_c X σ_2 a 3721 = m_c X σ a 3721) → (1 ≤ m_c X σ_2 a 3724 + 10 * (σ_2.1 a 12).toInt) → (0 ≤ (σ_2.1 a 15).toInt ∧ (σ_2.1 a 15).toInt ≤ (σ_2.1 a 16).toInt ∧ (σ_2.1 a 16).toInt ≤ (σ_2.1 a 9).toInt ∧ (σ_2.1 a 9).toInt ≤ 900 ∧ 0 ≤ (σ_2.1 a 14).toInt ∧ (σ_2.1 a 14).toInt ≤ 4 ∧ (σ_2.1 a 14).toInt ≤ 4 * ((σ_2.1 a 16).toInt - (σ_2.1 a 15).toInt) ∧ (σ_2.1 a 14).toInt ≤ 4 * ((σ_2.1 a 9).toInt - (σ_2.1 a 15).toInt) ∧ 0 ≤ (σ_2.1 a 12).toInt ∧ (σ_2.1 a 9).toInt = (σ.1 a 9).toInt ∧ (σ.1 a 15).toInt ≤ (σ_2.1 a 15).toInt ∧ (σ.1 a 12).toInt ≤ (σ_2.1 a 12).toInt) → ((σ_2.1 a 16).toInt = (σ.1 a 16).toInt) → (m_c X σ_2 a 3722 = m_c X σ a 3722) → (F_X12_readPlayer_J25_1 X a f_1 σ_2 = out) → q_I X 1 σ s.heap locs σ_2 H → lv_has ls 2 [(0, .ref a), (1, .int f_1)] → W p l e (q_rm 5 107) s m ([.ref a] : List Value).toArray below meth c H locs 0 0 (MQ below (q_Qv X 1 σ (fun (σ' : ST) => (m_N (m_c X σ' a)) ∧ (∀ j, 0 ≤ j → j < 3720 → m_c X σ' a j = m_c X σ a j) ∧ (0 ≤ (σ'.1 a 15).toInt ∧ (σ'.1 a 15).toInt ≤ (σ'.1 a 16).toInt ∧ (σ'.1 a 16).toInt ≤ (σ'.1 a 9).toInt ∧ (σ'.1 a 9).toInt ≤ 900 ∧ 0 ≤ (σ'.1 a 14).toInt ∧ (σ'.1 a 14).toInt ≤ 4 ∧ (σ'.1 a 14).toInt ≤ 4 * ((σ'.1 a 16).toInt - (σ'.1 a 15).toInt) ∧ (σ'.1 a 14).toInt ≤ 4 * ((σ'.1 a 9).toInt - (σ'.1 a 15).toInt) ∧ 0 ≤ (σ'.1 a 12).toInt ∧ (σ'.1 a 9).toInt = (σ.1 a 9).toInt ∧ (σ.1 a 15).toInt ≤ (σ'.1 a 15).toInt ∧ (σ.1 a 12).toInt ≤ (σ'.1 a 12).toInt) ∧ ((σ.1 a 16).toInt ≤ (σ'.1 a 15).toInt + 1000 * (σ'.1 a 12).toInt) ∧ (m_c X σ' a 3720 = m_c X σ a 3720 ∧ m_c X σ' a 3721 = m_c X σ a 3721) ∧ (1 ≤ m_c X σ' a 3724 + 10 * (σ'.1 a 12).toInt) ∧ σ' = F_X12_readPlayer X σ a ∧ q_ow [(12, 12), (12, 13), (12, 14), (12, 15), (12, 16), (12, 17), (12, 18), (34, 99)] [(12, 19), (37, 99)] X σ σ')) ([.ref a] : List Value).toArray s 0 0 (q_reg X)) (F0 m 25 ls []) := by
    clear hF
    intro σ_2 H locs ls j25σ_2 fr_σ_2 nnσ_2 kpσ_2 k3σ_2 k4σ_2 smσ_2 beσ_2 kmσ_2 hF hI hl
    try clear nnσ; try clear kpσ; try clear smσ; try clear beσ; try clear kmσ; try clear fr_σ
    unfold F_X12_readPlayer_J25_1 at hF
    refine lv_aload_n hx hb dX12_readPlayer_25 rfl (lv_at hl 0 rfl) ?_
    refine gs_X12_187_12 E hI ha dX12_readPlayer_26 ?_
    refine lv_topi (fun f_3 ef_3 => ?_)
    replace hF := q_letX hF ef_3
    have if_3 : f_3.toInt = (σ_2.1 a 12).toInt := congrArg Int32.toInt ef_3
    refine q_if_le (A := f_3.toInt) E rfl (tgt := 33) dX12_readPlayer_29 (by decide) (fun c_4 => ?_) (fun c_4 => ?_)
    · skip
      replace hF := q_ifn hF (Int.not_lt.mpr c_4)
      refine lv_aload_n hx hb dX12_readPlayer_33 rfl (lv_at hl 0 rfl) ?_
      refine q_cv (q_runV (As := []) (rest := []) E (hml.trans hl.1.symm) hI (c_X12_next l X σ_2 a ha (by first | (clear hz hk h4 k3σ k4σ if_1 j25σ_2 k3σ_2 k4σ_2 smσ_2 kmσ_2 if_3 c_4; omega) | omega) (by first | (clear hz hk h4 k3σ k4σ if_1 j25σ_2 k3σ_2 k4σ_2 kmσ_2 if_3 c_4; omega) | omega) (by first | (clear hz hk h4 k3σ k4σ if_1 j25σ_2 k3σ_2 k4σ_2 beσ_2 kmσ_2 if_3 c_4; omega) | omega)) kv_X12_197 ha ⟨rfl, by decide⟩ (show vwCl[11]? = some (RX12, TX12, 46) from rfl) rfl ⟨Nat.le_of_ble_eq_true rfl, Nat.le_of_ble_eq_true rfl⟩ ⟨Nat.le_refl _, Nat.le_refl _⟩ rfl (Nat.le_of_ble_eq_true rfl) dX12_readPlayer_34) hI (by decide) (fun σ_6 H locs hpσ_6 hkσ_6 hI => ?_)
      obtain ⟨ahpσ_6, bhpσ_6, chpσ_6, dhpσ_6, ehpσ_6⟩ := hpσ_6
      have fr_σ_6 := fr_σ_2.call ehpσ_6 rfl rfl
      replace hF := q_letX hF dhpσ_6
      have mcσ_6 := m_cK hkσ_6 hI.1 ha (by decide)
      have nnσ_6 : m_N (m_c X σ_6 a) := m_N.ext mcσ_6 nnσ_2
      have kpσ_6 : ∀ j, 0 ≤ j → j < 3720 → m_c X σ_6 a j = m_c X σ a j := fun j h0 h1 => (mcσ_6 j).trans (kpσ_2 j h0 h1)
      have k3σ_6 : m_c X σ_6 a 3720 = m_c X σ a 3720 ∧ m_c X σ_6 a 3721 = m_c X σ a 3721 := ⟨(mcσ_6 3720).trans k3σ_2.1, (mcσ_6 3721).trans k3σ_2.2⟩
      have k4σ_6 : 1 ≤ m_c X σ_6 a 3724 + 10 * (σ_6.1 a 12).toInt := (by have := mcσ_6 3724; omega)
      have smσ_6 : 0 ≤ (σ_6.1 a 15).toInt ∧ (σ_6.1 a 15).toInt ≤ (σ_6.1 a 16).toInt ∧ (σ_6.1 a 16).toInt ≤ (σ_6.1 a 9).toInt ∧ (σ_6.1 a 9).toInt ≤ 900 ∧ 0 ≤ (σ_6.1 a 14).toInt ∧ (σ_6.1 a 14).toInt ≤ 4 ∧ (σ_6.1 a 14).toInt ≤ 4 * ((σ_6.1 a 16).toInt - (σ_6.1 a 15).toInt) ∧ (σ_6.1 a 14).toInt ≤ 4 * ((σ_6.1 a 9).toInt - (σ_6.1 a 15).toInt) ∧ 0 ≤ (σ_6.1 a 12).toInt ∧ (σ_6.1 a 9).toInt = (σ.1 a 9).toInt ∧ (σ.1 a 15).toInt ≤ (σ_6.1 a 15).toInt ∧ (σ.1 a 12).toInt ≤ (σ_6.1 a 12).toInt := (by first | exact sm_nx smσ_2 bhpσ_6 chpσ_6 | omega)
      have onσ_6 : (σ.1 a 16).toInt ≤ (σ_6.1 a 15).toInt := (by first | (clear hs hz hk h4 k3σ k4σ if_1 j25σ_2 k3σ_2 k4σ_2 smσ_2 kmσ_2 if_3 c_4 ahpσ_6 bhpσ_6 dhpσ_6 ehpσ_6 k3σ_6 k4σ_6 smσ_6; omega) | omega)
      have kmσ_6 : m_c X σ_6 a 3722 = m_c X σ a 3722 := (mcσ_6 3722).trans kmσ_2
      clear k4σ_2 smσ_2 kmσ_2 bhpσ_6 chpσ_6
      refine lv_aload_n hx hb dX12_readPlayer_37 rfl (lv_at hl 0 rfl) ?_
      refine q_ci (q_runV (As := []) (rest := []) E (hml.trans hl.1.symm) hI (c_X12_isName l X σ_6 a ha (by first | (clear hs hz hk h4 k3σ k4σ if_1 j25σ_2 k3σ_2 beσ_2 if_3 c_4 ahpσ_6 dhpσ_6 ehpσ_6 k3σ_6 k4σ_6 onσ_6 kmσ_6; omega) | omega)) kv_X12_210 ha ⟨rfl, by decide⟩ (show vwCl[11]? = some (RX12, TX12, 46) from rfl) rfl ⟨Nat.le_of_ble_eq_true rfl, Nat.le_of_ble_eq_true rfl⟩ ⟨Nat.le_refl _, Nat.le_refl _⟩ rfl (Nat.le_of_ble_eq_true rfl) dX12_readPlayer_38) hI (by decide) (fun r_7 σ_8 H locs hpσ_8 hkσ_8 hI => ?_)
      obtain ⟨ahpσ_8, bhpσ_8, chpσ_8⟩ := hpσ_8
      rw [ahpσ_8] at hI
      replace hF := q_letX hF chpσ_8
      have J_48_9 : ∀  (σ_9 : ST) (H : Heap) (locs : List Loc) (ls : Array Slot), (q_ow [(12, 12), (12, 13), (12, 14), (12, 15), (12, 16), (12, 17), (12, 18), (34, 99)] [(12, 19), (37, 99)] X σ σ_9) → (m_N (m_c X σ_9 a)) → (∀ j, 0 ≤ j → j < 3720 → m_c X σ_9 a j = m_c X σ a j) → (m_c X σ_9 a 3720 = m_c X σ a 3720 ∧ m_c X σ_9 a 3721 = m_c X σ a 3721) → (1 ≤ m_c X σ_9 a 3724 + 10 * (σ_9.1 a 12).toInt) → (0 ≤ (σ_9.1 a 15).toInt ∧ (σ_9.1 a 15).toInt ≤ (σ_9.1 a 16).toInt ∧ (σ_9.1 a 16).toInt ≤ (σ_9.1 a 9).toInt ∧ (σ_9.1 a 9).toInt ≤ 900 ∧ 0 ≤ (σ_9.1 a 14).toInt ∧ (σ_9.1 a 14).toInt ≤ 4 ∧ (σ_9.1 a 14).toInt ≤ 4 * ((σ_9.1 a 16).toInt - (σ_9.1 a 15).toInt) ∧ (σ_9.1 a 14).toInt ≤ 4 * ((σ_9.1 a 9).toInt - (σ_9.1 a 15).toInt) ∧ 0 ≤ (σ_9.1 a 12).toInt ∧ (σ_9.1 a 9).toInt = (σ.1 a 9).toInt ∧ (σ.1 a 15).toInt ≤ (σ_9.1 a 15).toInt ∧ (σ.1 a 12).toInt ≤ (σ_9.1 a 12).toInt) → ((σ.1 a 16).toInt ≤ (σ_9.1 a 15).toInt) → (m_c X σ_9 a 3722 = m_c X σ a 3722) → (F_X12_readPlayer_J48_2 X a f_1 σ_9 = out) → q_I X 1 σ s.heap locs σ_9 H → lv_has ls 2 [(0, .ref a), (1, .int f_1)] → W p l e (q_rm 5 107) s m ([.ref a] : List Value).toArray below meth c H locs 0 0 (MQ below (q_Qv X 1 σ (fun (σ' : ST) => (m_N (m_c X σ' a)) ∧ (∀ j, 0 ≤ j → j < 3720 → m_c X σ' a j = m_c X σ a j) ∧ (0 ≤ (σ'.1 a 15).toInt ∧ (σ'.1 a 15).toInt ≤ (σ'.1 a 16).toInt ∧ (σ'.1 a 16).toInt ≤ (σ'.1 a 9).toInt ∧ (σ'.1 a 9).toInt ≤ 900 ∧ 0 ≤ (σ'.1 a 14).toInt ∧ (σ'.1 a 14).toInt ≤ 4 ∧ (σ'.1 a 14).toInt ≤ 4 * ((σ'.1 a 16).toInt - (σ'.1 a 15).toInt) ∧ (σ'.1 a 14).toInt ≤ 4 * ((σ'.1 a 9).toInt - (σ'.1 a 15).toInt) ∧ 0 ≤ (σ'.1 a 12).toInt ∧ (σ'.1 a 9).toInt = (σ.1 a 9).toInt ∧ (σ.1 a 15).toInt ≤ (σ'.1 a 15).toInt ∧ (σ.1 a 12).toInt ≤ (σ'.1 a 12).toInt) ∧ ((σ.1 a 16).toInt ≤ (σ'.1 a 15).toInt + 1000 * (σ'.1 a 12).toInt) ∧ (m_c X σ' a 3720 = m_c X σ a 3720 ∧ m_c X σ' a 3721 = m_c X σ a 3721) ∧ (1 ≤ m_c X σ' a 3724 + 10 * (σ'.1 a 12).toInt) ∧ σ' = F_X12_readPlayer X σ a ∧ q_ow [(12, 12), (12, 13), (12, 14), (12, 15), (12, 16), (12, 17), (12, 18), (34, 99)] [(12, 19), (37, 99)] X σ σ')) ([.ref a] : List Value).toArray s 0 0 (q_reg X)) (F0 m 48 ls []) := by
        clear hF
        intro σ_9 H locs ls fr_σ_9 nnσ_9 kpσ_9 k3σ_9 k4σ_9 smσ_9 onσ_9 kmσ_9 hF hI hl
        try clear ahpσ_6; try clear fr_σ_6; try clear mcσ_6; try clear nnσ_6; try clear kpσ_6; try clear smσ_6; try clear onσ_6; try clear kmσ_6; try clear ahpσ_8
        unfold F_X12_readPlayer_J48_2 at hF
        refine lv_aload_n hx hb dX12_readPlayer_48 rfl (lv_at hl 0 rfl) ?_
        refine gs_X12_187_12 E hI ha dX12_readPlayer_49 ?_
        refine lv_topi (fun f_10 ef_10 => ?_)
        replace hF := q_letX hF ef_10
        have if_10 : f_10.toInt = (σ_9.1 a 12).toInt := congrArg Int32.toInt ef_10
        have J_72_11 : ∀  (σ_11 : ST) (H : Heap) (locs : List Loc) (ls : Array Slot), (q_ow [(12, 12), (12, 13), (12, 14), (12, 15), (12, 16), (12, 17), (12, 18), (34, 99)] [(12, 19), (37, 99)] X σ σ_11) → (m_N (m_c X σ_11 a)) → (∀ j, 0 ≤ j → j < 3720 → m_c X σ_11 a j = m_c X σ a j) → (m_c X σ_11 a 3720 = m_c X σ a 3720 ∧ m_c X σ_11 a 3721 = m_c X σ a 3721) → (1 ≤ m_c X σ_11 a 3724 + 10 * (σ_11.1 a 12).toInt) → (0 ≤ (σ_11.1 a 15).toInt ∧ (σ_11.1 a 15).toInt ≤ (σ_11.1 a 16).toInt ∧ (σ_11.1 a 16).toInt ≤ (σ_11.1 a 9).toInt ∧ (σ_11.1 a 9).toInt ≤ 900 ∧ 0 ≤ (σ_11.1 a 14).toInt ∧ (σ_11.1 a 14).toInt ≤ 4 ∧ (σ_11.1 a 14).toInt ≤ 4 * ((σ_11.1 a 16).toInt - (σ_11.1 a 15).toInt) ∧ (σ_11.1 a 14).toInt ≤ 4 * ((σ_11.1 a 9).toInt - (σ_11.1 a 15).toInt) ∧ 0 ≤ (σ_11.1 a 12).toInt ∧ (σ_11.1 a 9).toInt = (σ.1 a 9).toInt ∧ (σ.1 a 15).toInt ≤ (σ_11.1 a 15).toInt ∧ (σ.1 a 12).toInt ≤ (σ_11.1 a 12).toInt) → ((σ.1 a 16).toInt ≤ (σ_11.1 a 15).toInt) → (m_c X σ_11 a 3722 = m_c X σ a 3722) → (F_X12_readPlayer_J72_3 X a f_1 σ_11 = out) → q_I X 1 σ s.heap locs σ_11 H → lv_has ls 2 [(0, .ref a), (1, .int f_1)] → W p l e (q_rm 5 107) s m ([.ref a] : List Value).toArray below meth c H locs 0 0 (MQ below (q_Qv X 1 σ (fun (σ' : ST) => (m_N (m_c X σ' a)) ∧ (∀ j, 0 ≤ j → j < 3720 → m_c X σ' a j = m_c X σ a j) ∧ (0 ≤ (σ'.1 a 15).toInt ∧ (σ'.1 a 15).toInt ≤ (σ'.1 a 16).toInt ∧ (σ'.1 a 16).toInt ≤ (σ'.1 a 9).toInt ∧ (σ'.1 a 9).toInt ≤ 900 ∧ 0 ≤ (σ'.1 a 14).toInt ∧ (σ'.1 a 14).toInt ≤ 4 ∧ (σ'.1 a 14).toInt ≤ 4 * ((σ'.1 a 16).toInt - (σ'.1 a 15).toInt) ∧ (σ'.1 a 14).toInt ≤ 4 * ((σ'.1 a 9).toInt - (σ'.1 a 15).toInt) ∧ 0 ≤ (σ'.1 a 12).toInt ∧ (σ'.1 a 9).toInt = (σ.1 a 9).toInt ∧ (σ.1 a 15).toInt ≤ (σ'.1 a 15).toInt ∧ (σ.1 a 12).toInt ≤ (σ'.1 a 12).toInt) ∧ ((σ.1 a 16).toInt ≤ (σ'.1 a 15).toInt + 1000 * (σ'.1 a 12).toInt) ∧ (m_c X σ' a 3720 = m_c X σ a 3720 ∧ m_c X σ' a 3721 = m_c X σ a 3721) ∧ (1 ≤ m_c X σ' a 3724 + 10 * (σ'.1 a 12).toInt) ∧ σ' = F_X12_readPlayer X σ a ∧ q_ow [(12, 12), (12, 13), (12, 14), (12, 15), (12, 16), (12, 17), (12, 18), (34, 99)] [(12, 19), (37, 99)] X σ σ')) ([.ref a] : List Value).toArray s 0 0 (q_reg X)) (F0 m 72 ls []) := by
          clear hF
          intro σ_11 H locs ls fr_σ_11 nnσ_11 kpσ_11 k3σ_11 k4σ_11 smσ_11 onσ_11 kmσ_11 hF hI hl
          try clear fr_σ_9; try clear nnσ_9; try clear kpσ_9; try clear smσ_9; try clear onσ_9; try clear kmσ_9
          unfold F_X12_readPlayer_J72_3 at hF
          refine lv_aload_n hx hb dX12_readPlayer_72 rfl (lv_at hl 0 rfl) ?_
          refine gs_X12_187_12 E hI ha dX12_readPlayer_73 ?_
          refine lv_topi (fun f_12 ef_12 => ?_)
          replace hF := q_letX hF ef_12
          have if_12 : f_12.toInt = (σ_11.1 a 12).toInt := congrArg Int32.toInt ef_12
          refine q_if_le (A := f_12.toInt) E rfl (tgt := 80) dX12_readPlayer_76 (by decide) (fun c_13 => ?_) (fun c_13 => ?_)
          · skip
            replace hF := q_ifn hF (Int.not_lt.mpr c_13)
            refine lv_aload_n hx hb dX12_readPlayer_80 rfl (lv_at hl 0 rfl) ?_
            refine gs_X12_44_12 E hI ha dX12_readPlayer_81 ?_
            refine lv_bipush (v := 24) hx hb dX12_readPlayer_84 (by decide) ?_
            refine lv_iload_n hx hb dX12_readPlayer_86 rfl (lv_at hl 1 rfl) ?_
            refine lv_iadd hx hb dX12_readPlayer_87 ?_
            refine lv_topi (fun z_14 ez_14 => ?_)
            replace hF := q_letX hF ez_14
            have iz_14 := q_addI (A := 24) (B := (m_c X σ a 3722)) ez_14 (by decide) if_1 (by first | (clear hs hz hk h4 k3σ k4σ j25σ_2 k3σ_2 beσ_2 if_3 c_4 dhpσ_6 ehpσ_6 k3σ_6 k4σ_6 bhpσ_8 chpσ_8 k3σ_9 k4σ_9 if_10 k3σ_11 k4σ_11 smσ_11 onσ_11 if_12 c_13; omega) | omega) (by first | (clear hs hz hk h4 k3σ k4σ j25σ_2 k3σ_2 beσ_2 if_3 c_4 dhpσ_6 ehpσ_6 k3σ_6 k4σ_6 bhpσ_8 chpσ_8 k3σ_9 k4σ_9 if_10 k3σ_11 k4σ_11 smσ_11 onσ_11 if_12 c_13; omega) | omega)
            refine lv_aload_n hx hb dX12_readPlayer_88 rfl (lv_at hl 0 rfl) ?_
            refine gs_X12_116_12 E hI ha dX12_readPlayer_89 ?_
            refine lv_topl (fun g_15 eg_15 => ?_)
            replace hF := q_letX hF eg_15
            refine q_lastN E hI (q_tk (k' := 37) hI ha rfl (by decide)) ⟨by decide, rfl⟩ (by first | (clear hs hz hk h4 k3σ k4σ j25σ_2 k3σ_2 beσ_2 if_3 c_4 dhpσ_6 ehpσ_6 k3σ_6 k4σ_6 bhpσ_8 chpσ_8 k3σ_9 k4σ_9 if_10 k3σ_11 k4σ_11 smσ_11 onσ_11 if_12 c_13; omega) | omega) (by rw [q_lnk (v := 30) hI (q_tk (k' := 37) hI ha rfl (by decide)) rfl (by decide)]; omega) dX12_readPlayer_92 (fun H locs σ_16 hσ_16 hI => ?_)
            replace hF := q_letX hF hσ_16
            have fr_σ_16 := fr_σ_11.sl hσ_16 (q_tk (k' := 37) hI ha rfl (by decide)) rfl
            have mv9_σ_16 : (σ_16.1 a 9).toInt = (σ_11.1 a 9).toInt := congrArg Int32.toInt ((fun b g _ => by rw [hσ_16]; rfl : q_K 8 X σ_11 σ_16) a 9 (by rw [ha]; decide))
            have mv12_σ_16 : (σ_16.1 a 12).toInt = (σ_11.1 a 12).toInt := congrArg Int32.toInt ((fun b g _ => by rw [hσ_16]; rfl : q_K 8 X σ_11 σ_16) a 12 (by rw [ha]; decide))
            have mv14_σ_16 : (σ_16.1 a 14).toInt = (σ_11.1 a 14).toInt := congrArg Int32.toInt ((fun b g _ => by rw [hσ_16]; rfl : q_K 8 X σ_11 σ_16) a 14 (by rw [ha]; decide))
            have mv15_σ_16 : (σ_16.1 a 15).toInt = (σ_11.1 a 15).toInt := congrArg Int32.toInt ((fun b g _ => by rw [hσ_16]; rfl : q_K 8 X σ_11 σ_16) a 15 (by rw [ha]; decide))
            have mv16_σ_16 : (σ_16.1 a 16).toInt = (σ_11.1 a 16).toInt := congrArg Int32.toInt ((fun b g _ => by rw [hσ_16]; rfl : q_K 8 X σ_11 σ_16) a 16 (by rw [ha]; decide))
            have mcσ_16 := m_wl (X := X) hσ_16 a
            have nnσ_16 : m_N (m_c X σ_16 a) := m_N.ext mcσ_16 nnσ_11
            have kpσ_16 : ∀ j, 0 ≤ j → j < 3720 → m_c X σ_16 a j = m_c X σ a j := fun j h0 h1 => (mcσ_16 j).trans (kpσ_11 j h0 h1)
            have k3σ_16 : m_c X σ_16 a 3720 = m_c X σ a 3720 ∧ m_c X σ_16 a 3721 = m_c X σ a 3721 := ⟨(mcσ_16 3720).trans k3σ_11.1, (mcσ_16 3721).trans k3σ_11.2⟩
            have k4σ_16 : 1 ≤ m_c X σ_16 a 3724 + 10 * (σ_16.1 a 12).toInt := (by have := mcσ_16 3724; omega)
            have smσ_16 : 0 ≤ (σ_16.1 a 15).toInt ∧ (σ_16.1 a 15).toInt ≤ (σ_16.1 a 16).toInt ∧ (σ_16.1 a 16).toInt ≤ (σ_16.1 a 9).toInt ∧ (σ_16.1 a 9).toInt ≤ 900 ∧ 0 ≤ (σ_16.1 a 14).toInt ∧ (σ_16.1 a 14).toInt ≤ 4 ∧ (σ_16.1 a 14).toInt ≤ 4 * ((σ_16.1 a 16).toInt - (σ_16.1 a 15).toInt) ∧ (σ_16.1 a 14).toInt ≤ 4 * ((σ_16.1 a 9).toInt - (σ_16.1 a 15).toInt) ∧ 0 ≤ (σ_16.1 a 12).toInt ∧ (σ_16.1 a 9).toInt = (σ.1 a 9).toInt ∧ (σ.1 a 15).toInt ≤ (σ_16.1 a 15).toInt ∧ (σ.1 a 12).toInt ≤ (σ_16.1 a 12).toInt := (by first | (rw [mv12_σ_16, mv14_σ_16, mv15_σ_16, mv16_σ_16, mv9_σ_16]; exact smσ_11) | omega)
            have onσ_16 : (σ.1 a 16).toInt ≤ (σ_16.1 a 15).toInt := (by first | (clear hs hz hk h4 k3σ k4σ if_1 j25σ_2 k3σ_2 if_3 c_4 dhpσ_6 ehpσ_6 k3σ_6 k4σ_6 bhpσ_8 chpσ_8 k3σ_9 k4σ_9 if_10 k3σ_11 k4σ_11 smσ_11 kmσ_11 if_12 c_13 iz_14 mv9_σ_16 mv12_σ_16 mv14_σ_16 mv16_σ_16 k3σ_16 k4σ_16 smσ_16; omega) | omega)
            have kmσ_16 : m_c X σ_16 a 3722 = m_c X σ a 3722 := (mcσ_16 3722).trans kmσ_11
            clear mv9_σ_16 mv12_σ_16 mv14_σ_16 mv15_σ_16 mv16_σ_16 k4σ_11 smσ_11 onσ_11 kmσ_11
            refine lv_aload_n hx hb dX12_readPlayer_93 rfl (lv_at hl 0 rfl) ?_
            refine q_cv (q_runV (As := []) (rest := []) E (hml.trans hl.1.symm) hI (c_X12_next l X σ_16 a ha (by first | (clear hs hz hk h4 k3σ k4σ if_1 j25σ_2 k3σ_2 beσ_2 if_3 c_4 dhpσ_6 ehpσ_6 k3σ_6 k4σ_6 bhpσ_8 chpσ_8 k3σ_9 k4σ_9 if_10 k3σ_11 if_12 c_13 iz_14 k3σ_16 k4σ_16 onσ_16 kmσ_16; omega) | omega) (by first | (clear hs hz hk h4 k3σ k4σ if_1 j25σ_2 k3σ_2 beσ_2 if_3 c_4 dhpσ_6 ehpσ_6 k3σ_6 k4σ_6 bhpσ_8 chpσ_8 k3σ_9 k4σ_9 if_10 k3σ_11 if_12 c_13 iz_14 k3σ_16 k4σ_16 onσ_16 kmσ_16; omega) | omega) (by first | (clear hz hk h4 k3σ k4σ if_1 j25σ_2 k3σ_2 beσ_2 if_3 c_4 dhpσ_6 ehpσ_6 k3σ_6 k4σ_6 bhpσ_8 chpσ_8 k3σ_9 k4σ_9 if_10 k3σ_11 if_12 c_13 iz_14 k3σ_16 k4σ_16 onσ_16 kmσ_16; omega) | omega)) kv_X12_197 ha ⟨rfl, by decide⟩ (show vwCl[11]? = some (RX12, TX12, 46) from rfl) rfl ⟨Nat.le_of_ble_eq_true rfl, Nat.le_of_ble_eq_true rfl⟩ ⟨Nat.le_refl _, Nat.le_refl _⟩ rfl (Nat.le_of_ble_eq_true rfl) dX12_readPlayer_94) hI (by decide) (fun σ_18 H locs hpσ_18 hkσ_18 hI => ?_)
            obtain ⟨ahpσ_18, bhpσ_18, chpσ_18, dhpσ_18, ehpσ_18⟩ := hpσ_18
            have fr_σ_18 := fr_σ_16.call ehpσ_18 rfl rfl
            replace hF := q_letX hF dhpσ_18
            have mcσ_18 := m_cK hkσ_18 hI.1 ha (by decide)
            have nnσ_18 : m_N (m_c X σ_18 a) := m_N.ext mcσ_18 nnσ_16
            have kpσ_18 : ∀ j, 0 ≤ j → j < 3720 → m_c X σ_18 a j = m_c X σ a j := fun j h0 h1 => (mcσ_18 j).trans (kpσ_16 j h0 h1)
            have k3σ_18 : m_c X σ_18 a 3720 = m_c X σ a 3720 ∧ m_c X σ_18 a 3721 = m_c X σ a 3721 := ⟨(mcσ_18 3720).trans k3σ_16.1, (mcσ_18 3721).trans k3σ_16.2⟩
            have k4σ_18 : 1 ≤ m_c X σ_18 a 3724 + 10 * (σ_18.1 a 12).toInt := (by have := mcσ_18 3724; omega)
            have smσ_18 : 0 ≤ (σ_18.1 a 15).toInt ∧ (σ_18.1 a 15).toInt ≤ (σ_18.1 a 16).toInt ∧ (σ_18.1 a 16).toInt ≤ (σ_18.1 a 9).toInt ∧ (σ_18.1 a 9).toInt ≤ 900 ∧ 0 ≤ (σ_18.1 a 14).toInt ∧ (σ_18.1 a 14).toInt ≤ 4 ∧ (σ_18.1 a 14).toInt ≤ 4 * ((σ_18.1 a 16).toInt - (σ_18.1 a 15).toInt) ∧ (σ_18.1 a 14).toInt ≤ 4 * ((σ_18.1 a 9).toInt - (σ_18.1 a 15).toInt) ∧ 0 ≤ (σ_18.1 a 12).toInt ∧ (σ_18.1 a 9).toInt = (σ.1 a 9).toInt ∧ (σ.1 a 15).toInt ≤ (σ_18.1 a 15).toInt ∧ (σ.1 a 12).toInt ≤ (σ_18.1 a 12).toInt := (by first | exact sm_nx smσ_16 bhpσ_18 chpσ_18 | omega)
            have onσ_18 : (σ.1 a 16).toInt ≤ (σ_18.1 a 15).toInt := (by first | (clear hs hz hk h4 k3σ k4σ if_1 j25σ_2 k3σ_2 if_3 c_4 dhpσ_6 ehpσ_6 k3σ_6 k4σ_6 bhpσ_8 chpσ_8 k3σ_9 k4σ_9 if_10 k3σ_11 if_12 c_13 iz_14 k3σ_16 k4σ_16 kmσ_16 ahpσ_18 bhpσ_18 dhpσ_18 ehpσ_18 k3σ_18 k4σ_18 smσ_18; omega) | omega)
            have kmσ_18 : m_c X σ_18 a 3722 = m_c X σ a 3722 := (mcσ_18 3722).trans kmσ_16
            clear k4σ_16 smσ_16 onσ_16 kmσ_16 bhpσ_18 chpσ_18
            refine lv_aload_n hx hb dX12_readPlayer_97 rfl (lv_at hl 0 rfl) ?_
            refine q_ci (q_runV (As := []) (rest := []) E (hml.trans hl.1.symm) hI (c_X12_isLies l X σ_18 a ha) kv_X12_143 ha ⟨rfl, by decide⟩ (show vwCl[11]? = some (RX12, TX12, 46) from rfl) rfl ⟨Nat.le_of_ble_eq_true rfl, Nat.le_of_ble_eq_true rfl⟩ ⟨Nat.le_refl _, Nat.le_refl _⟩ rfl (Nat.le_of_ble_eq_true rfl) dX12_readPlayer_98) hI (by decide) (fun r_19 σ_20 H locs hpσ_20 hkσ_20 hI => ?_)
            obtain ⟨ahpσ_20, bhpσ_20, chpσ_20, dhpσ_20⟩ := hpσ_20
            rw [ahpσ_20] at hI
            replace hF := q_letX hF dhpσ_20
            have J_125_21 : ∀  (σ_21 : ST) (H : Heap) (locs : List Loc) (ls : Array Slot), (q_ow [(12, 12), (12, 13), (12, 14), (12, 15), (12, 16), (12, 17), (12, 18), (34, 99)] [(12, 19), (37, 99)] X σ σ_21) → (m_N (m_c X σ_21 a)) → (∀ j, 0 ≤ j → j < 3720 → m_c X σ_21 a j = m_c X σ a j) → (m_c X σ_21 a 3720 = m_c X σ a 3720 ∧ m_c X σ_21 a 3721 = m_c X σ a 3721) → (1 ≤ m_c X σ_21 a 3724 + 10 * (σ_21.1 a 12).toInt) → (0 ≤ (σ_21.1 a 15).toInt ∧ (σ_21.1 a 15).toInt ≤ (σ_21.1 a 16).toInt ∧ (σ_21.1 a 16).toInt ≤ (σ_21.1 a 9).toInt ∧ (σ_21.1 a 9).toInt ≤ 900 ∧ 0 ≤ (σ_21.1 a 14).toInt ∧ (σ_21.1 a 14).toInt ≤ 4 ∧ (σ_21.1 a 14).toInt ≤ 4 * ((σ_21.1 a 16).toInt - (σ_21.1 a 15).toInt) ∧ (σ_21.1 a 14).toInt ≤ 4 * ((σ_21.1 a 9).toInt - (σ_21.1 a 15).toInt) ∧ 0 ≤ (σ_21.1 a 12).toInt ∧ (σ_21.1 a 9).toInt = (σ.1 a 9).toInt ∧ (σ.1 a 15).toInt ≤ (σ_21.1 a 15).toInt ∧ (σ.1 a 12).toInt ≤ (σ_21.1 a 12).toInt) → ((σ.1 a 16).toInt ≤ (σ_21.1 a 15).toInt) → (m_c X σ_21 a 3722 = m_c X σ a 3722) → (F_X12_readPlayer_J125_4 X a f_1 σ_21 = out) → q_I X 1 σ s.heap locs σ_21 H → lv_has ls 2 [(0, .ref a), (1, .int f_1)] → W p l e (q_rm 5 107) s m ([.ref a] : List Value).toArray below meth c H locs 0 0 (MQ below (q_Qv X 1 σ (fun (σ' : ST) => (m_N (m_c X σ' a)) ∧ (∀ j, 0 ≤ j → j < 3720 → m_c X σ' a j = m_c X σ a j) ∧ (0 ≤ (σ'.1 a 15).toInt ∧ (σ'.1 a 15).toInt ≤ (σ'.1 a 16).toInt ∧ (σ'.1 a 16).toInt ≤ (σ'.1 a 9).toInt ∧ (σ'.1 a 9).toInt ≤ 900 ∧ 0 ≤ (σ'.1 a 14).toInt ∧ (σ'.1 a 14).toInt ≤ 4 ∧ (σ'.1 a 14).toInt ≤ 4 * ((σ'.1 a 16).toInt - (σ'.1 a 15).toInt) ∧ (σ'.1 a 14).toInt ≤ 4 * ((σ'.1 a 9).toInt - (σ'.1 a 15).toInt) ∧ 0 ≤ (σ'.1 a 12).toInt ∧ (σ'.1 a 9).toInt = (σ.1 a 9).toInt ∧ (σ.1 a 15).toInt ≤ (σ'.1 a 15).toInt ∧ (σ.1 a 12).toInt ≤ (σ'.1 a 12).toInt) ∧ ((σ.1 a 16).toInt ≤ (σ'.1 a 15).toInt + 1000 * (σ'.1 a 12).toInt) ∧ (m_c X σ' a 3720 = m_c X σ a 3720 ∧ m_c X σ' a 3721 = m_c X σ a 3721) ∧ (1 ≤ m_c X σ' a 3724 + 10 * (σ'.1 a 12).toInt) ∧ σ' = F_X12_readPlayer X σ a ∧ q_ow [(12, 12), (12, 13), (12, 14), (12, 15), (12, 16), (12, 17), (12, 18), (34, 99)] [(12, 19), (37, 99)] X σ σ')) ([.ref a] : List Value).toArray s 0 0 (q_reg X)) (F0 m 125 ls []) := by
              clear hF
              intro σ_21 H locs ls fr_σ_21 nnσ_21 kpσ_21 k3σ_21 k4σ_21 smσ_21 onσ_21 kmσ_21 hF hI hl
              try clear fr_σ_16; try clear mcσ_16; try clear nnσ_16; try clear kpσ_16; try clear ahpσ_18; try clear fr_σ_18; try clear mcσ_18; try clear nnσ_18; try clear kpσ_18; try clear smσ_18; try clear onσ_18; try clear kmσ_18; try clear ahpσ_20
              unfold F_X12_readPlayer_J125_4 at hF
              refine lv_aload_n hx hb dX12_readPlayer_125 rfl (lv_at hl 0 rfl) ?_
              refine gs_X12_187_12 E hI ha dX12_readPlayer_126 ?_
              refine lv_topi (fun f_22 ef_22 => ?_)
              replace hF := q_letX hF ef_22
              have if_22 : f_22.toInt = (σ_21.1 a 12).toInt := congrArg Int32.toInt ef_22
              have J_160_23 : ∀  (σ_23 : ST) (H : Heap) (locs : List Loc) (ls : Array Slot), (q_ow [(12, 12), (12, 13), (12, 14), (12, 15), (12, 16), (12, 17), (12, 18), (34, 99)] [(12, 19), (37, 99)] X σ σ_23) → (m_N (m_c X σ_23 a)) → (∀ j, 0 ≤ j → j < 3720 → m_c X σ_23 a j = m_c X σ a j) → (m_c X σ_23 a 3720 = m_c X σ a 3720 ∧ m_c X σ_23 a 3721 = m_c X σ a 3721) → (1 ≤ m_c X σ_23 a 3724 + 10 * (σ_23.1 a 12).toInt) → (0 ≤ (σ_23.1 a 15).toInt ∧ (σ_23.1 a 15).toInt ≤ (σ_23.1 a 16).toInt ∧ (σ_23.1 a 16).toInt ≤ (σ_23.1 a 9).toInt ∧ (σ_23.1 a 9).toInt ≤ 900 ∧ 0 ≤ (σ_23.1 a 14).toInt ∧ (σ_23.1 a 14).toInt ≤ 4 ∧ (σ_23.1 a 14).toInt ≤ 4 * ((σ_23.1 a 16).toInt - (σ_23.1 a 15).toInt) ∧ (σ_23.1 a 14).toInt ≤ 4 * ((σ_23.1 a 9).toInt - (σ_23.1 a 15).toInt) ∧ 0 ≤ (σ_23.1 a 12).toInt ∧ (σ_23.1 a 9).toInt = (σ.1 a 9).toInt ∧ (σ.1 a 15).toInt ≤ (σ_23.1 a 15).toInt ∧ (σ.1 a 12).toInt ≤ (σ_23.1 a 12).toInt) → ((σ.1 a 16).toInt ≤ (σ_23.1 a 15).toInt) → (m_c X σ_23 a 3722 = m_c X σ a 3722) → (F_X12_readPlayer_J160_5 X a σ_23 = out) → q_I X 1 σ s.heap locs σ_23 H → lv_has ls 2 [(0, .ref a), (1, .int f_1)] → W p l e (q_rm 5 107) s m ([.ref a] : List Value).toArray below meth c H locs 0 0 (MQ below (q_Qv X 1 σ (fun (σ' : ST) => (m_N (m_c X σ' a)) ∧ (∀ j, 0 ≤ j → j < 3720 → m_c X σ' a j = m_c X σ a j) ∧ (0 ≤ (σ'.1 a 15).toInt ∧ (σ'.1 a 15).toInt ≤ (σ'.1 a 16).toInt ∧ (σ'.1 a 16).toInt ≤ (σ'.1 a 9).toInt ∧ (σ'.1 a 9).toInt ≤ 900 ∧ 0 ≤ (σ'.1 a 14).toInt ∧ (σ'.1 a 14).toInt ≤ 4 ∧ (σ'.1 a 14).toInt ≤ 4 * ((σ'.1 a 16).toInt - (σ'.1 a 15).toInt) ∧ (σ'.1 a 14).toInt ≤ 4 * ((σ'.1 a 9).toInt - (σ'.1 a 15).toInt) ∧ 0 ≤ (σ'.1 a 12).toInt ∧ (σ'.1 a 9).toInt = (σ.1 a 9).toInt ∧ (σ.1 a 15).toInt ≤ (σ'.1 a 15).toInt ∧ (σ.1 a 12).toInt ≤ (σ'.1 a 12).toInt) ∧ ((σ.1 a 16).toInt ≤ (σ'.1 a 15).toInt + 1000 * (σ'.1 a 12).toInt) ∧ (m_c X σ' a 3720 = m_c X σ a 3720 ∧ m_c X σ' a 3721 = m_c X σ a 3721) ∧ (1 ≤ m_c X σ' a 3724 + 10 * (σ'.1 a 12).toInt) ∧ σ' = F_X12_readPlayer X σ a ∧ q_ow [(12, 12), (12, 13), (12, 14), (12, 15), (12, 16), (12, 17), (12, 18), (34, 99)] [(12, 19), (37, 99)] X σ σ')) ([.ref a] : List Value).toArray s 0 0 (q_reg X)) (F0 m 160 ls []) := by
                clear hF
                intro σ_23 H locs ls fr_σ_23 nnσ_23 kpσ_23 k3σ_23 k4σ_23 smσ_23 onσ_23 kmσ_23 hF hI hl
                try clear fr_σ_21; try clear nnσ_21; try clear kpσ_21; try clear smσ_21; try clear onσ_21; try clear kmσ_21
                unfold F_X12_readPlayer_J160_5 at hF
                refine lv_aload_n hx hb dX12_readPlayer_160 rfl (lv_at hl 0 rfl) ?_
                refine gs_X12_187_12 E hI ha dX12_readPlayer_161 ?_
                refine lv_topi (fun f_24 ef_24 => ?_)
                replace hF := q_letX hF ef_24
                have if_24 : f_24.toInt = (σ_23.1 a 12).toInt := congrArg Int32.toInt ef_24
                refine q_if_ne (A := f_24.toInt) E rfl (tgt := 179) dX12_readPlayer_164 (by decide) (fun c_25 => ?_) (fun c_25 => ?_)
                · skip
                  replace hF := q_ifn hF c_25
                  exact q_retv E hr hlk hI ⟨nnσ_23, kpσ_23, (by first | exact smσ_23 | omega), (by first | exact smσ_23 | omega), k3σ_23, k4σ_23, (hF.trans hout), fr_σ_23⟩ dX12_readPlayer_179
                · skip
                  replace hF := q_ifp hF c_25
                  refine lv_aload_n hx hb dX12_readPlayer_167 rfl (lv_at hl 0 rfl) ?_
                  refine gs_X12_35_12 E hI ha dX12_readPlayer_168 ?_
                  refine lv_sipush (v := 3722) hx hb dX12_readPlayer_171 (by decide) ?_
                  refine lv_dup2_11 hx hb dX12_readPlayer_174 rfl rfl ?_
                  refine q_iald E hI (q_tk (k' := 34) hI ha rfl (by decide)) ⟨by decide, rfl⟩ (by decide) (by rw [q_lnk (v := 4650) hI (q_tk (k' := 34) hI ha rfl (by decide)) rfl (by decide)]; decide) dX12_readPlayer_175 ?_
                  refine lv_topi (fun f_26 ef_26 => ?_)
                  replace hF := q_letX hF ef_26
                  have if_26 : f_26.toInt = m_c X σ_23 a 3722 := m_rd ef_26 (by decide)
                  refine lv_iconst (v := 1) hx hb dX12_readPlayer_176 (by decide) ?_
                  refine lv_iadd hx hb dX12_readPlayer_177 ?_
                  refine lv_topi (fun z_27 ez_27 => ?_)
                  replace hF := q_letX hF ez_27
                  have iz_27 := q_addI (A := (m_c X σ_23 a 3722)) (B := 1) ez_27 if_26 (by decide) (by first | (clear hs hz hk h4 k3σ k4σ j25σ_2 k3σ_2 beσ_2 if_3 c_4 dhpσ_6 ehpσ_6 k3σ_6 k4σ_6 bhpσ_8 chpσ_8 k3σ_9 k4σ_9 if_10 k3σ_11 if_12 c_13 k3σ_16 dhpσ_18 ehpσ_18 k3σ_18 k4σ_18 bhpσ_20 chpσ_20 dhpσ_20 k3σ_21 k4σ_21 if_22 k3σ_23 k4σ_23 smσ_23 onσ_23 if_24 c_25; omega) | omega) (by first | (clear hs hz hk h4 k3σ k4σ j25σ_2 k3σ_2 beσ_2 if_3 c_4 dhpσ_6 ehpσ_6 k3σ_6 k4σ_6 bhpσ_8 chpσ_8 k3σ_9 k4σ_9 if_10 k3σ_11 if_12 c_13 k3σ_16 dhpσ_18 ehpσ_18 k3σ_18 k4σ_18 bhpσ_20 chpσ_20 dhpσ_20 k3σ_21 k4σ_21 if_22 k3σ_23 k4σ_23 smσ_23 onσ_23 if_24 c_25; omega) | omega)
                  refine q_iastN E hI (q_tk (k' := 34) hI ha rfl (by decide)) ⟨by decide, rfl⟩ (by decide) (by rw [q_lnk (v := 4650) hI (q_tk (k' := 34) hI ha rfl (by decide)) rfl (by decide)]; decide) (show 1 < 2 by decide) (q_inU rfl) dX12_readPlayer_178 (fun H locs σ_28 hσ_28 hI => ?_)
                  replace hF := q_letX hF hσ_28
                  have fr_σ_28 := fr_σ_23.si hσ_28 (q_tk (k' := 34) hI ha rfl (by decide)) rfl
                  have mv9_σ_28 : (σ_28.1 a 9).toInt = (σ_23.1 a 9).toInt := congrArg Int32.toInt (q_rdn hσ_28 (Or.inl (m_ne ha (q_tk (k' := 34) hI ha rfl (by decide)) (by decide))))
                  have mv12_σ_28 : (σ_28.1 a 12).toInt = (σ_23.1 a 12).toInt := congrArg Int32.toInt (q_rdn hσ_28 (Or.inl (m_ne ha (q_tk (k' := 34) hI ha rfl (by decide)) (by decide))))
                  have mv14_σ_28 : (σ_28.1 a 14).toInt = (σ_23.1 a 14).toInt := congrArg Int32.toInt (q_rdn hσ_28 (Or.inl (m_ne ha (q_tk (k' := 34) hI ha rfl (by decide)) (by decide))))
                  have mv15_σ_28 : (σ_28.1 a 15).toInt = (σ_23.1 a 15).toInt := congrArg Int32.toInt (q_rdn hσ_28 (Or.inl (m_ne ha (q_tk (k' := 34) hI ha rfl (by decide)) (by decide))))
                  have mv16_σ_28 : (σ_28.1 a 16).toInt = (σ_23.1 a 16).toInt := congrArg Int32.toInt (q_rdn hσ_28 (Or.inl (m_ne ha (q_tk (k' := 34) hI ha rfl (by decide)) (by decide))))
                  have mcσ_28 := m_wr (v := z_27) (A := 3722) hσ_28 (by decide) (by decide)
                  have nnσ_28 : m_N (m_c X σ_28 a) := m_N.wr nnσ_23 mcσ_28 (by first | (clear hs hz hk h4 k3σ k4σ k3σ_2 beσ_2 dhpσ_6 ehpσ_6 k3σ_6 k4σ_6 bhpσ_8 chpσ_8 k3σ_9 k4σ_9 if_10 k3σ_11 if_12 c_13 k3σ_16 dhpσ_18 ehpσ_18 k3σ_18 k4σ_18 bhpσ_20 chpσ_20 dhpσ_20 k3σ_21 k4σ_21 if_22 k3σ_23 k4σ_23 smσ_23 onσ_23 if_24 c_25 mv9_σ_28 mv12_σ_28 mv14_σ_28 mv15_σ_28 mv16_σ_28; omega) | omega)
                  have kpσ_28 : ∀ j, 0 ≤ j → j < 3720 → m_c X σ_28 a j = m_c X σ a j := fun j h0 h1 => by rw [mcσ_28 j h0, if_neg (by first | (clear hs hz hk h4 k3σ k4σ if_1 j25σ_2 k3σ_2 beσ_2 if_3 c_4 dhpσ_6 ehpσ_6 k3σ_6 k4σ_6 bhpσ_8 chpσ_8 k3σ_9 k4σ_9 if_10 k3σ_11 if_12 c_13 iz_14 k3σ_16 dhpσ_18 ehpσ_18 k3σ_18 k4σ_18 bhpσ_20 chpσ_20 dhpσ_20 k3σ_21 k4σ_21 if_22 k3σ_23 k4σ_23 smσ_23 onσ_23 kmσ_23 if_24 c_25 if_26 iz_27 mv9_σ_28 mv12_σ_28 mv14_σ_28 mv15_σ_28 mv16_σ_28; omega) | omega)]; exact kpσ_23 j h0 h1
                  have k3σ_28 : m_c X σ_28 a 3720 = m_c X σ a 3720 ∧ m_c X σ_28 a 3721 = m_c X σ a 3721 := ⟨by rw [mcσ_28 3720 (by decide), if_neg (by first | (clear hs hz hk h4 k3σ k4σ if_1 j25σ_2 k3σ_2 beσ_2 if_3 c_4 dhpσ_6 ehpσ_6 k3σ_6 k4σ_6 bhpσ_8 chpσ_8 k3σ_9 k4σ_9 if_10 k3σ_11 if_12 c_13 iz_14 k3σ_16 dhpσ_18 ehpσ_18 k3σ_18 k4σ_18 bhpσ_20 chpσ_20 dhpσ_20 k3σ_21 k4σ_21 if_22 k3σ_23 k4σ_23 smσ_23 onσ_23 kmσ_23 if_24 c_25 if_26 iz_27 mv9_σ_28 mv12_σ_28 mv14_σ_28 mv15_σ_28 mv16_σ_28; omega) | omega)]; exact k3σ_23.1, by rw [mcσ_28 3721 (by decide), if_neg (by first | (clear hs hz hk h4 k3σ k4σ if_1 j25σ_2 k3σ_2 beσ_2 if_3 c_4 dhpσ_6 ehpσ_6 k3σ_6 k4σ_6 bhpσ_8 chpσ_8 k3σ_9 k4σ_9 if_10 k3σ_11 if_12 c_13 iz_14 k3σ_16 dhpσ_18 ehpσ_18 k3σ_18 k4σ_18 bhpσ_20 chpσ_20 dhpσ_20 k3σ_21 k4σ_21 if_22 k3σ_23 k4σ_23 smσ_23 onσ_23 kmσ_23 if_24 c_25 if_26 iz_27 mv9_σ_28 mv12_σ_28 mv14_σ_28 mv15_σ_28 mv16_σ_28; omega) | omega)]; exact k3σ_23.2⟩
                  have k4σ_28 : 1 ≤ m_c X σ_28 a 3724 + 10 * (σ_28.1 a 12).toInt := (by have := mcσ_28 3724 (by decide); rw [if_neg (by first | (clear hs hz hk h4 k3σ k4σ if_1 j25σ_2 k3σ_2 beσ_2 if_3 c_4 dhpσ_6 ehpσ_6 k3σ_6 k4σ_6 bhpσ_8 chpσ_8 k3σ_9 k4σ_9 if_10 k3σ_11 if_12 c_13 iz_14 k3σ_16 dhpσ_18 ehpσ_18 k3σ_18 k4σ_18 bhpσ_20 chpσ_20 dhpσ_20 k3σ_21 k4σ_21 if_22 k3σ_23 k4σ_23 smσ_23 onσ_23 kmσ_23 if_24 c_25 if_26 iz_27 mv9_σ_28 mv12_σ_28 mv14_σ_28 mv15_σ_28 mv16_σ_28 k3σ_28; omega) | omega)] at this; omega)
                  have smσ_28 : 0 ≤ (σ_28.1 a 15).toInt ∧ (σ_28.1 a 15).toInt ≤ (σ_28.1 a 16).toInt ∧ (σ_28.1 a 16).toInt ≤ (σ_28.1 a 9).toInt ∧ (σ_28.1 a 9).toInt ≤ 900 ∧ 0 ≤ (σ_28.1 a 14).toInt ∧ (σ_28.1 a 14).toInt ≤ 4 ∧ (σ_28.1 a 14).toInt ≤ 4 * ((σ_28.1 a 16).toInt - (σ_28.1 a 15).toInt) ∧ (σ_28.1 a 14).toInt ≤ 4 * ((σ_28.1 a 9).toInt - (σ_28.1 a 15).toInt) ∧ 0 ≤ (σ_28.1 a 12).toInt ∧ (σ_28.1 a 9).toInt = (σ.1 a 9).toInt ∧ (σ.1 a 15).toInt ≤ (σ_28.1 a 15).toInt ∧ (σ.1 a 12).toInt ≤ (σ_28.1 a 12).toInt := (by first | (rw [mv12_σ_28, mv14_σ_28, mv15_σ_28, mv16_σ_28, mv9_σ_28]; exact smσ_23) | omega)
                  have onσ_28 : (σ.1 a 16).toInt ≤ (σ_28.1 a 15).toInt := (by first | (clear hs hz hk h4 k3σ k4σ if_1 j25σ_2 k3σ_2 if_3 c_4 dhpσ_6 ehpσ_6 k3σ_6 k4σ_6 bhpσ_8 chpσ_8 k3σ_9 k4σ_9 if_10 k3σ_11 if_12 c_13 iz_14 k3σ_16 dhpσ_18 ehpσ_18 k3σ_18 k4σ_18 bhpσ_20 chpσ_20 dhpσ_20 k3σ_21 k4σ_21 if_22 k3σ_23 k4σ_23 smσ_23 kmσ_23 if_24 c_25 if_26 iz_27 mv9_σ_28 mv12_σ_28 mv14_σ_28 mv16_σ_28 k3σ_28 k4σ_28 smσ_28; omega) | omega)
                  clear mv9_σ_28 mv12_σ_28 mv14_σ_28 mv15_σ_28 mv16_σ_28 k4σ_23 smσ_23 onσ_23
                  exact q_retv E hr hlk hI ⟨nnσ_28, kpσ_28, (by first | exact smσ_28 | omega), (by first | exact smσ_28 | omega), k3σ_28, k4σ_28, (hF.trans hout), fr_σ_28⟩ dX12_readPlayer_179
              refine q_if_ne (A := f_22.toInt) E rfl (tgt := 160) dX12_readPlayer_129 (by decide) (fun c_29 => ?_) (fun c_29 => ?_)
              · skip
                replace hF := q_ifn hF c_29
                exact J_160_23 σ_21 _ _ ls fr_σ_21 nnσ_21 kpσ_21 k3σ_21 k4σ_21 smσ_21 onσ_21 kmσ_21 hF hI (lv_sub hl [0, 1] rfl)
              · skip
                replace hF := q_ifp hF c_29
                refine lv_aload_n hx hb dX12_readPlayer_132 rfl (lv_at hl 0 rfl) ?_
                refine q_ci (q_runV (As := []) (rest := []) E (hml.trans hl.1.symm) hI (c_X12_isDoubts l X σ_21 a ha) kv_X12_147 ha ⟨rfl, by decide⟩ (show vwCl[11]? = some (RX12, TX12, 46) from rfl) rfl ⟨Nat.le_of_ble_eq_true rfl, Nat.le_of_ble_eq_true rfl⟩ ⟨Nat.le_refl _, Nat.le_refl _⟩ rfl (Nat.le_of_ble_eq_true rfl) dX12_readPlayer_133) hI (by decide) (fun r_30 σ_31 H locs hpσ_31 hkσ_31 hI => ?_)
                obtain ⟨ahpσ_31, bhpσ_31, chpσ_31, dhpσ_31⟩ := hpσ_31
                rw [ahpσ_31] at hI
                replace hF := q_letX hF dhpσ_31
                refine q_if_eq (A := r_30.toInt) E rfl (tgt := 160) dX12_readPlayer_136 (by decide) (fun c_32 => ?_) (fun c_32 => ?_)
                · skip
                  replace hF := q_ifp hF c_32
                  clear chpσ_31
                  exact J_160_23 σ_21 _ _ ls fr_σ_21 nnσ_21 kpσ_21 k3σ_21 k4σ_21 smσ_21 onσ_21 kmσ_21 hF hI (lv_sub hl [0, 1] rfl)
                · skip
                  replace hF := q_ifn hF c_32
                  replace c_32 := q_ifOne bhpσ_31 c_32
                  replace chpσ_31 := chpσ_31 c_32
                  refine lv_aload_n hx hb dX12_readPlayer_139 rfl (lv_at hl 0 rfl) ?_
                  refine q_cv (q_runV (As := []) (rest := []) E (hml.trans hl.1.symm) hI (c_X12_next l X σ_21 a ha (by first | (clear hs hz hk h4 k3σ k4σ if_1 j25σ_2 k3σ_2 beσ_2 if_3 c_4 dhpσ_6 ehpσ_6 k3σ_6 k4σ_6 bhpσ_8 chpσ_8 k3σ_9 k4σ_9 if_10 k3σ_11 if_12 c_13 iz_14 k3σ_16 dhpσ_18 ehpσ_18 k3σ_18 k4σ_18 bhpσ_20 chpσ_20 dhpσ_20 k3σ_21 k4σ_21 if_22 c_29 ahpσ_31 bhpσ_31 dhpσ_31 c_32 chpσ_31; omega) | omega) (by first | (clear hs hz hk h4 k3σ k4σ if_1 j25σ_2 k3σ_2 beσ_2 if_3 c_4 dhpσ_6 ehpσ_6 k3σ_6 k4σ_6 bhpσ_8 chpσ_8 k3σ_9 k4σ_9 if_10 k3σ_11 if_12 c_13 iz_14 k3σ_16 dhpσ_18 ehpσ_18 k3σ_18 k4σ_18 bhpσ_20 chpσ_20 dhpσ_20 k3σ_21 k4σ_21 if_22 c_29 ahpσ_31 bhpσ_31 dhpσ_31 c_32 chpσ_31; omega) | omega) (by first | (clear hs hz hk h4 k3σ k4σ if_1 j25σ_2 k3σ_2 beσ_2 if_3 c_4 dhpσ_6 ehpσ_6 k3σ_6 k4σ_6 bhpσ_8 chpσ_8 k3σ_9 k4σ_9 if_10 k3σ_11 if_12 c_13 iz_14 k3σ_16 dhpσ_18 ehpσ_18 k3σ_18 k4σ_18 bhpσ_20 chpσ_20 dhpσ_20 k3σ_21 k4σ_21 if_22 c_29 ahpσ_31 bhpσ_31 dhpσ_31 c_32 chpσ_31; omega) | omega)) kv_X12_197 ha ⟨rfl, by decide⟩ (show vwCl[11]? = some (RX12, TX12, 46) from rfl) rfl ⟨Nat.le_of_ble_eq_true rfl, Nat.le_of_ble_eq_true rfl⟩ ⟨Nat.le_refl _, Nat.le_refl _⟩ rfl (Nat.le_of_ble_eq_true rfl) dX12_readPlayer_140) hI (by decide) (fun σ_34 H locs hpσ_34 hkσ_34 hI => ?_)
                  obtain ⟨ahpσ_34, bhpσ_34, chpσ_34, dhpσ_34, ehpσ_34⟩ := hpσ_34
                  have fr_σ_34 := fr_σ_21.call ehpσ_34 rfl rfl
                  replace hF := q_letX hF dhpσ_34
                  have mcσ_34 := m_cK hkσ_34 hI.1 ha (by decide)
                  have nnσ_34 : m_N (m_c X σ_34 a) := m_N.ext mcσ_34 nnσ_21
                  have kpσ_34 : ∀ j, 0 ≤ j → j < 3720 → m_c X σ_34 a j = m_c X σ a j := fun j h0 h1 => (mcσ_34 j).trans (kpσ_21 j h0 h1)
                  have k3σ_34 : m_c X σ_34 a 3720 = m_c X σ a 3720 ∧ m_c X σ_34 a 3721 = m_c X σ a 3721 := ⟨(mcσ_34 3720).trans k3σ_21.1, (mcσ_34 3721).trans k3σ_21.2⟩
                  have k4σ_34 : 1 ≤ m_c X σ_34 a 3724 + 10 * (σ_34.1 a 12).toInt := (by have := mcσ_34 3724; omega)
                  have smσ_34 : 0 ≤ (σ_34.1 a 15).toInt ∧ (σ_34.1 a 15).toInt ≤ (σ_34.1 a 16).toInt ∧ (σ_34.1 a 16).toInt ≤ (σ_34.1 a 9).toInt ∧ (σ_34.1 a 9).toInt ≤ 900 ∧ 0 ≤ (σ_34.1 a 14).toInt ∧ (σ_34.1 a 14).toInt ≤ 4 ∧ (σ_34.1 a 14).toInt ≤ 4 * ((σ_34.1 a 16).toInt - (σ_34.1 a 15).toInt) ∧ (σ_34.1 a 14).toInt ≤ 4 * ((σ_34.1 a 9).toInt - (σ_34.1 a 15).toInt) ∧ 0 ≤ (σ_34.1 a 12).toInt ∧ (σ_34.1 a 9).toInt = (σ.1 a 9).toInt ∧ (σ.1 a 15).toInt ≤ (σ_34.1 a 15).toInt ∧ (σ.1 a 12).toInt ≤ (σ_34.1 a 12).toInt := (by first | exact sm_nx smσ_21 bhpσ_34 chpσ_34 | omega)
                  have onσ_34 : (σ.1 a 16).toInt ≤ (σ_34.1 a 15).toInt := (by first | (clear hs hz hk h4 k3σ k4σ if_1 j25σ_2 k3σ_2 if_3 c_4 dhpσ_6 ehpσ_6 k3σ_6 k4σ_6 bhpσ_8 chpσ_8 k3σ_9 k4σ_9 if_10 k3σ_11 if_12 c_13 iz_14 k3σ_16 dhpσ_18 ehpσ_18 k3σ_18 k4σ_18 bhpσ_20 chpσ_20 dhpσ_20 k3σ_21 k4σ_21 if_22 c_29 ahpσ_31 bhpσ_31 dhpσ_31 c_32 ahpσ_34 bhpσ_34 dhpσ_34 ehpσ_34 k3σ_34 k4σ_34 smσ_34; omega) | omega)
                  have kmσ_34 : m_c X σ_34 a 3722 = m_c X σ a 3722 := (mcσ_34 3722).trans kmσ_21
                  clear k4σ_21 smσ_21 onσ_21 kmσ_21 bhpσ_34 chpσ_34
                  refine lv_aload_n hx hb dX12_readPlayer_143 rfl (lv_at hl 0 rfl) ?_
                  refine gs_X12_35_12 E hI ha dX12_readPlayer_144 ?_
                  refine lv_sipush (v := 3736) hx hb dX12_readPlayer_147 (by decide) ?_
                  refine lv_iload_n hx hb dX12_readPlayer_150 rfl (lv_at hl 1 rfl) ?_
                  refine lv_iadd hx hb dX12_readPlayer_151 ?_
                  refine lv_topi (fun z_35 ez_35 => ?_)
                  replace hF := q_letX hF ez_35
                  have iz_35 := q_addI (A := 3736) (B := (m_c X σ a 3722)) ez_35 (by decide) if_1 (by first | (clear hs hz hk h4 k3σ k4σ j25σ_2 k3σ_2 beσ_2 if_3 c_4 dhpσ_6 ehpσ_6 k3σ_6 k4σ_6 bhpσ_8 chpσ_8 k3σ_9 k4σ_9 if_10 k3σ_11 if_12 c_13 k3σ_16 dhpσ_18 ehpσ_18 k3σ_18 k4σ_18 bhpσ_20 chpσ_20 dhpσ_20 k3σ_21 if_22 c_29 ahpσ_31 bhpσ_31 dhpσ_31 c_32 chpσ_31 ahpσ_34 dhpσ_34 ehpσ_34 k3σ_34 k4σ_34 smσ_34 onσ_34; omega) | omega) (by first | (clear hs hz hk h4 k3σ k4σ j25σ_2 k3σ_2 beσ_2 if_3 c_4 dhpσ_6 ehpσ_6 k3σ_6 k4σ_6 bhpσ_8 chpσ_8 k3σ_9 k4σ_9 if_10 k3σ_11 if_12 c_13 k3σ_16 dhpσ_18 ehpσ_18 k3σ_18 k4σ_18 bhpσ_20 chpσ_20 dhpσ_20 k3σ_21 if_22 c_29 ahpσ_31 bhpσ_31 dhpσ_31 c_32 chpσ_31 ahpσ_34 dhpσ_34 ehpσ_34 k3σ_34 k4σ_34 smσ_34 onσ_34; omega) | omega)
                  refine lv_aload_n hx hb dX12_readPlayer_152 rfl (lv_at hl 0 rfl) ?_
                  refine lv_iconst (v := 0) hx hb dX12_readPlayer_153 (by decide) ?_
                  refine lv_bipush (v := 16) hx hb dX12_readPlayer_154 (by decide) ?_
                  have kc_36 : (0 : Int32).toInt = 0 := rfl
                  have kc_37 : (16 : Int32).toInt = 16 := rfl
                  refine q_ci (q_runV (As := [.int 0, .int 16]) (rest := [.int z_35, .ref (q_rf X a 20)]) E (hml.trans hl.1.symm) hI (c_X12_count l X σ_34 a (0 : Int32) (16 : Int32) ha (by first | exact sm_9 smσ_34 | exact hs | omega) (by first | (clear hs hz hk h4 k3σ k4σ if_1 j25σ_2 k3σ_2 beσ_2 if_3 c_4 dhpσ_6 ehpσ_6 k3σ_6 k4σ_6 bhpσ_8 chpσ_8 k3σ_9 k4σ_9 if_10 k3σ_11 if_12 c_13 iz_14 k3σ_16 dhpσ_18 ehpσ_18 k3σ_18 k4σ_18 bhpσ_20 chpσ_20 dhpσ_20 k3σ_21 if_22 c_29 ahpσ_31 bhpσ_31 dhpσ_31 c_32 chpσ_31 ahpσ_34 dhpσ_34 ehpσ_34 k3σ_34 k4σ_34 smσ_34 onσ_34 kmσ_34 iz_35; omega) | omega)) kv_X12_223 ha ⟨rfl, by decide⟩ (show vwCl[11]? = some (RX12, TX12, 46) from rfl) rfl ⟨Nat.le_of_ble_eq_true rfl, Nat.le_of_ble_eq_true rfl⟩ ⟨Nat.le_refl _, Nat.le_refl _⟩ rfl (Nat.le_of_ble_eq_true rfl) dX12_readPlayer_156) hI (by decide) (fun r_38 σ_39 H locs hpσ_39 hkσ_39 hI => ?_)
                  obtain ⟨ahpσ_39, bhpσ_39, chpσ_39, dhpσ_39, ehpσ_39⟩ := hpσ_39
                  have fr_σ_39 := fr_σ_34.call ehpσ_39 rfl rfl
                  replace hF := q_biX hF dhpσ_39
                  have mcσ_39 := m_cK hkσ_39 hI.1 ha (by decide)
                  have nnσ_39 : m_N (m_c X σ_39 a) := m_N.ext mcσ_39 nnσ_34
                  have kpσ_39 : ∀ j, 0 ≤ j → j < 3720 → m_c X σ_39 a j = m_c X σ a j := fun j h0 h1 => (mcσ_39 j).trans (kpσ_34 j h0 h1)
                  have k3σ_39 : m_c X σ_39 a 3720 = m_c X σ a 3720 ∧ m_c X σ_39 a 3721 = m_c X σ a 3721 := ⟨(mcσ_39 3720).trans k3σ_34.1, (mcσ_39 3721).trans k3σ_34.2⟩
                  have k4σ_39 : 1 ≤ m_c X σ_39 a 3724 + 10 * (σ_39.1 a 12).toInt := (by have := mcσ_39 3724; omega)
                  have smσ_39 : 0 ≤ (σ_39.1 a 15).toInt ∧ (σ_39.1 a 15).toInt ≤ (σ_39.1 a 16).toInt ∧ (σ_39.1 a 16).toInt ≤ (σ_39.1 a 9).toInt ∧ (σ_39.1 a 9).toInt ≤ 900 ∧ 0 ≤ (σ_39.1 a 14).toInt ∧ (σ_39.1 a 14).toInt ≤ 4 ∧ (σ_39.1 a 14).toInt ≤ 4 * ((σ_39.1 a 16).toInt - (σ_39.1 a 15).toInt) ∧ (σ_39.1 a 14).toInt ≤ 4 * ((σ_39.1 a 9).toInt - (σ_39.1 a 15).toInt) ∧ 0 ≤ (σ_39.1 a 12).toInt ∧ (σ_39.1 a 9).toInt = (σ.1 a 9).toInt ∧ (σ.1 a 15).toInt ≤ (σ_39.1 a 15).toInt ∧ (σ.1 a 12).toInt ≤ (σ_39.1 a 12).toInt := (by first | exact sm_tr smσ_34 bhpσ_39 | exact sm_tr smσ_34 chpσ_39 | omega)
                  have onσ_39 : (σ.1 a 16).toInt ≤ (σ_39.1 a 15).toInt := (by first | (clear hs hz hk h4 k3σ k4σ if_1 j25σ_2 k3σ_2 if_3 c_4 dhpσ_6 ehpσ_6 k3σ_6 k4σ_6 bhpσ_8 chpσ_8 k3σ_9 k4σ_9 if_10 k3σ_11 if_12 c_13 iz_14 k3σ_16 dhpσ_18 ehpσ_18 k3σ_18 k4σ_18 bhpσ_20 chpσ_20 dhpσ_20 k3σ_21 if_22 c_29 ahpσ_31 bhpσ_31 dhpσ_31 c_32 chpσ_31 ahpσ_34 dhpσ_34 ehpσ_34 k3σ_34 k4σ_34 smσ_34 kmσ_34 iz_35 kc_36 kc_37 ahpσ_39 chpσ_39 dhpσ_39 ehpσ_39 k3σ_39 k4σ_39 smσ_39; omega) | omega)
                  have kmσ_39 : m_c X σ_39 a 3722 = m_c X σ a 3722 := (mcσ_39 3722).trans kmσ_34
                  clear k4σ_34 smσ_34 onσ_34 kmσ_34 bhpσ_39
                  refine q_iastN E hI (q_tk (k' := 34) hI ha rfl (by decide)) ⟨by decide, rfl⟩ (by first | (clear hs hz hk h4 k3σ k4σ j25σ_2 k3σ_2 beσ_2 if_3 c_4 dhpσ_6 ehpσ_6 k3σ_6 k4σ_6 bhpσ_8 chpσ_8 k3σ_9 k4σ_9 if_10 k3σ_11 if_12 c_13 k3σ_16 dhpσ_18 ehpσ_18 k3σ_18 k4σ_18 bhpσ_20 chpσ_20 dhpσ_20 k3σ_21 if_22 c_29 ahpσ_31 bhpσ_31 dhpσ_31 c_32 chpσ_31 ahpσ_34 dhpσ_34 ehpσ_34 k3σ_34 kc_36 kc_37 ahpσ_39 chpσ_39 dhpσ_39 ehpσ_39 k3σ_39 k4σ_39 smσ_39 onσ_39; omega) | omega) (by rw [q_lnk (v := 4650) hI (q_tk (k' := 34) hI ha rfl (by decide)) rfl (by decide)]; omega) (show 1 < 2 by decide) (q_inU rfl) dX12_readPlayer_159 (fun H locs σ_40 hσ_40 hI => ?_)
                  replace hF := q_letX hF hσ_40
                  have fr_σ_40 := fr_σ_39.si hσ_40 (q_tk (k' := 34) hI ha rfl (by decide)) rfl
                  have mv9_σ_40 : (σ_40.1 a 9).toInt = (σ_39.1 a 9).toInt := congrArg Int32.toInt (q_rdn hσ_40 (Or.inl (m_ne ha (q_tk (k' := 34) hI ha rfl (by decide)) (by decide))))
                  have mv12_σ_40 : (σ_40.1 a 12).toInt = (σ_39.1 a 12).toInt := congrArg Int32.toInt (q_rdn hσ_40 (Or.inl (m_ne ha (q_tk (k' := 34) hI ha rfl (by decide)) (by decide))))
                  have mv14_σ_40 : (σ_40.1 a 14).toInt = (σ_39.1 a 14).toInt := congrArg Int32.toInt (q_rdn hσ_40 (Or.inl (m_ne ha (q_tk (k' := 34) hI ha rfl (by decide)) (by decide))))
                  have mv15_σ_40 : (σ_40.1 a 15).toInt = (σ_39.1 a 15).toInt := congrArg Int32.toInt (q_rdn hσ_40 (Or.inl (m_ne ha (q_tk (k' := 34) hI ha rfl (by decide)) (by decide))))
                  have mv16_σ_40 : (σ_40.1 a 16).toInt = (σ_39.1 a 16).toInt := congrArg Int32.toInt (q_rdn hσ_40 (Or.inl (m_ne ha (q_tk (k' := 34) hI ha rfl (by decide)) (by decide))))
                  have mcσ_40 := m_wr (v := r_38) (A := (3736 + (m_c X σ a 3722))) hσ_40 iz_35 (by first | (clear hs hz hk h4 k3σ k4σ j25σ_2 k3σ_2 beσ_2 if_3 c_4 dhpσ_6 ehpσ_6 k3σ_6 k4σ_6 bhpσ_8 chpσ_8 k3σ_9 k4σ_9 if_10 k3σ_11 if_12 c_13 k3σ_16 dhpσ_18 ehpσ_18 k3σ_18 k4σ_18 bhpσ_20 chpσ_20 dhpσ_20 k3σ_21 if_22 c_29 ahpσ_31 bhpσ_31 dhpσ_31 c_32 chpσ_31 ahpσ_34 dhpσ_34 ehpσ_34 k3σ_34 kc_36 kc_37 ahpσ_39 chpσ_39 dhpσ_39 ehpσ_39 k3σ_39 k4σ_39 smσ_39 onσ_39 mv9_σ_40 mv12_σ_40 mv14_σ_40 mv15_σ_40 mv16_σ_40; omega) | omega)
                  have nnσ_40 : m_N (m_c X σ_40 a) := m_N.wr nnσ_39 mcσ_40 (by first | (clear hs hz hk h4 k3σ k4σ k3σ_2 beσ_2 dhpσ_6 ehpσ_6 k3σ_6 k4σ_6 bhpσ_8 chpσ_8 k3σ_9 k4σ_9 if_10 k3σ_11 if_12 c_13 k3σ_16 dhpσ_18 ehpσ_18 k3σ_18 k4σ_18 bhpσ_20 chpσ_20 dhpσ_20 k3σ_21 if_22 c_29 ahpσ_31 bhpσ_31 dhpσ_31 c_32 chpσ_31 ahpσ_34 dhpσ_34 ehpσ_34 k3σ_34 kc_36 kc_37 ahpσ_39 chpσ_39 dhpσ_39 ehpσ_39 k3σ_39 k4σ_39 smσ_39 onσ_39 mv9_σ_40 mv12_σ_40 mv14_σ_40 mv15_σ_40 mv16_σ_40; omega) | omega)
                  have kpσ_40 : ∀ j, 0 ≤ j → j < 3720 → m_c X σ_40 a j = m_c X σ a j := fun j h0 h1 => by rw [mcσ_40 j h0, if_neg (by first | (clear hs hz hk h4 k3σ k4σ j25σ_2 k3σ_2 beσ_2 if_3 c_4 dhpσ_6 ehpσ_6 k3σ_6 k4σ_6 bhpσ_8 chpσ_8 k3σ_9 k4σ_9 if_10 k3σ_11 if_12 c_13 k3σ_16 dhpσ_18 ehpσ_18 k3σ_18 k4σ_18 bhpσ_20 chpσ_20 dhpσ_20 k3σ_21 if_22 c_29 ahpσ_31 bhpσ_31 dhpσ_31 c_32 chpσ_31 ahpσ_34 dhpσ_34 ehpσ_34 k3σ_34 kc_36 kc_37 ahpσ_39 chpσ_39 dhpσ_39 ehpσ_39 k3σ_39 k4σ_39 smσ_39 onσ_39 mv9_σ_40 mv12_σ_40 mv14_σ_40 mv15_σ_40 mv16_σ_40; omega) | omega)]; exact kpσ_39 j h0 h1
                  have k3σ_40 : m_c X σ_40 a 3720 = m_c X σ a 3720 ∧ m_c X σ_40 a 3721 = m_c X σ a 3721 := ⟨by rw [mcσ_40 3720 (by decide), if_neg (by first | (clear hs hz hk h4 k3σ k4σ j25σ_2 k3σ_2 beσ_2 if_3 c_4 dhpσ_6 ehpσ_6 k3σ_6 k4σ_6 bhpσ_8 chpσ_8 k3σ_9 k4σ_9 if_10 k3σ_11 if_12 c_13 k3σ_16 dhpσ_18 ehpσ_18 k3σ_18 k4σ_18 bhpσ_20 chpσ_20 dhpσ_20 k3σ_21 if_22 c_29 ahpσ_31 bhpσ_31 dhpσ_31 c_32 chpσ_31 ahpσ_34 dhpσ_34 ehpσ_34 k3σ_34 kc_36 kc_37 ahpσ_39 chpσ_39 dhpσ_39 ehpσ_39 k3σ_39 k4σ_39 smσ_39 onσ_39 mv9_σ_40 mv12_σ_40 mv14_σ_40 mv15_σ_40 mv16_σ_40; omega) | omega)]; exact k3σ_39.1, by rw [mcσ_40 3721 (by decide), if_neg (by first | (clear hs hz hk h4 k3σ k4σ j25σ_2 k3σ_2 beσ_2 if_3 c_4 dhpσ_6 ehpσ_6 k3σ_6 k4σ_6 bhpσ_8 chpσ_8 k3σ_9 k4σ_9 if_10 k3σ_11 if_12 c_13 k3σ_16 dhpσ_18 ehpσ_18 k3σ_18 k4σ_18 bhpσ_20 chpσ_20 dhpσ_20 k3σ_21 if_22 c_29 ahpσ_31 bhpσ_31 dhpσ_31 c_32 chpσ_31 ahpσ_34 dhpσ_34 ehpσ_34 k3σ_34 kc_36 kc_37 ahpσ_39 chpσ_39 dhpσ_39 ehpσ_39 k3σ_39 k4σ_39 smσ_39 onσ_39 mv9_σ_40 mv12_σ_40 mv14_σ_40 mv15_σ_40 mv16_σ_40; omega) | omega)]; exact k3σ_39.2⟩
                  have k4σ_40 : 1 ≤ m_c X σ_40 a 3724 + 10 * (σ_40.1 a 12).toInt := (by have := mcσ_40 3724 (by decide); rw [if_neg (by first | (clear hs hz hk h4 k3σ k4σ j25σ_2 k3σ_2 beσ_2 if_3 c_4 dhpσ_6 ehpσ_6 k3σ_6 k4σ_6 bhpσ_8 chpσ_8 k3σ_9 k4σ_9 if_10 k3σ_11 if_12 c_13 k3σ_16 dhpσ_18 ehpσ_18 k3σ_18 k4σ_18 bhpσ_20 chpσ_20 dhpσ_20 k3σ_21 if_22 c_29 ahpσ_31 bhpσ_31 dhpσ_31 c_32 chpσ_31 ahpσ_34 dhpσ_34 ehpσ_34 k3σ_34 kc_36 kc_37 ahpσ_39 chpσ_39 dhpσ_39 ehpσ_39 k3σ_39 k4σ_39 smσ_39 onσ_39 mv9_σ_40 mv12_σ_40 mv14_σ_40 mv15_σ_40 mv16_σ_40 k3σ_40; omega) | omega)] at this; omega)
                  have smσ_40 : 0 ≤ (σ_40.1 a 15).toInt ∧ (σ_40.1 a 15).toInt ≤ (σ_40.1 a 16).toInt ∧ (σ_40.1 a 16).toInt ≤ (σ_40.1 a 9).toInt ∧ (σ_40.1 a 9).toInt ≤ 900 ∧ 0 ≤ (σ_40.1 a 14).toInt ∧ (σ_40.1 a 14).toInt ≤ 4 ∧ (σ_40.1 a 14).toInt ≤ 4 * ((σ_40.1 a 16).toInt - (σ_40.1 a 15).toInt) ∧ (σ_40.1 a 14).toInt ≤ 4 * ((σ_40.1 a 9).toInt - (σ_40.1 a 15).toInt) ∧ 0 ≤ (σ_40.1 a 12).toInt ∧ (σ_40.1 a 9).toInt = (σ.1 a 9).toInt ∧ (σ.1 a 15).toInt ≤ (σ_40.1 a 15).toInt ∧ (σ.1 a 12).toInt ≤ (σ_40.1 a 12).toInt := (by first | (rw [mv12_σ_40, mv14_σ_40, mv15_σ_40, mv16_σ_40, mv9_σ_40]; exact smσ_39) | omega)
                  have onσ_40 : (σ.1 a 16).toInt ≤ (σ_40.1 a 15).toInt := (by first | (clear hs hz hk h4 k3σ k4σ if_1 j25σ_2 k3σ_2 if_3 c_4 dhpσ_6 ehpσ_6 k3σ_6 k4σ_6 bhpσ_8 chpσ_8 k3σ_9 k4σ_9 if_10 k3σ_11 if_12 c_13 iz_14 k3σ_16 dhpσ_18 ehpσ_18 k3σ_18 k4σ_18 bhpσ_20 chpσ_20 dhpσ_20 k3σ_21 if_22 c_29 ahpσ_31 bhpσ_31 dhpσ_31 c_32 chpσ_31 ahpσ_34 dhpσ_34 ehpσ_34 k3σ_34 iz_35 kc_36 kc_37 ahpσ_39 chpσ_39 dhpσ_39 ehpσ_39 k3σ_39 k4σ_39 smσ_39 kmσ_39 mv9_σ_40 mv12_σ_40 mv14_σ_40 mv16_σ_40 k3σ_40 k4σ_40 smσ_40; omega) | omega)
                  have kmσ_40 : m_c X σ_40 a 3722 = m_c X σ a 3722 := (by rw [mcσ_40 3722 (by decide), if_neg (by first | (clear hs hz hk h4 k3σ k4σ j25σ_2 k3σ_2 beσ_2 if_3 c_4 dhpσ_6 ehpσ_6 k3σ_6 k4σ_6 bhpσ_8 chpσ_8 k3σ_9 k4σ_9 if_10 k3σ_11 if_12 c_13 k3σ_16 dhpσ_18 ehpσ_18 k3σ_18 k4σ_18 bhpσ_20 chpσ_20 dhpσ_20 k3σ_21 if_22 c_29 ahpσ_31 bhpσ_31 dhpσ_31 c_32 chpσ_31 ahpσ_34 dhpσ_34 ehpσ_34 k3σ_34 kc_36 kc_37 ahpσ_39 chpσ_39 dhpσ_39 ehpσ_39 k3σ_39 k4σ_39 smσ_39 onσ_39 mv9_σ_40 mv12_σ_40 mv14_σ_40 mv15_σ_40 mv16_σ_40 k3σ_40 k4σ_40 smσ_40 onσ_40; omega) | omega)]; exact kmσ_39)
                  clear mv9_σ_40 mv12_σ_40 mv14_σ_40 mv15_σ_40 mv16_σ_40 k4σ_39 smσ_39 onσ_39 kmσ_39
                  exact J_160_23 σ_40 _ _ ls fr_σ_40 nnσ_40 kpσ_40 k3σ_40 k4σ_40 smσ_40 onσ_40 kmσ_40 hF hI (lv_sub hl [0, 1] rfl)
            refine q_if_eq (A := r_19.toInt) E rfl (tgt := 125) dX12_readPlayer_101 (by decide) (fun c_41 => ?_) (fun c_41 => ?_)
            · skip
              replace hF := q_ifp hF c_41
              clear chpσ_20
              exact J_125_21 σ_18 _ _ ls fr_σ_18 nnσ_18 kpσ_18 k3σ_18 k4σ_18 smσ_18 onσ_18 kmσ_18 hF hI (lv_sub hl [0, 1] rfl)
            · skip
              replace hF := q_ifn hF c_41
              replace c_41 := q_ifOne bhpσ_20 c_41
              replace chpσ_20 := chpσ_20 c_41
              refine lv_aload_n hx hb dX12_readPlayer_104 rfl (lv_at hl 0 rfl) ?_
              refine q_cv (q_runV (As := []) (rest := []) E (hml.trans hl.1.symm) hI (c_X12_next l X σ_18 a ha (by first | (clear hs hz hk h4 k3σ k4σ if_1 j25σ_2 k3σ_2 beσ_2 if_3 c_4 dhpσ_6 ehpσ_6 k3σ_6 k4σ_6 bhpσ_8 chpσ_8 k3σ_9 k4σ_9 if_10 k3σ_11 if_12 c_13 iz_14 k3σ_16 dhpσ_18 ehpσ_18 k3σ_18 k4σ_18 bhpσ_20 dhpσ_20 c_41 chpσ_20; omega) | omega) (by first | (clear hs hz hk h4 k3σ k4σ if_1 j25σ_2 k3σ_2 beσ_2 if_3 c_4 dhpσ_6 ehpσ_6 k3σ_6 k4σ_6 bhpσ_8 chpσ_8 k3σ_9 k4σ_9 if_10 k3σ_11 if_12 c_13 iz_14 k3σ_16 dhpσ_18 ehpσ_18 k3σ_18 k4σ_18 bhpσ_20 dhpσ_20 c_41 chpσ_20; omega) | omega) (by first | (clear hz hk h4 k3σ k4σ if_1 j25σ_2 k3σ_2 beσ_2 if_3 c_4 dhpσ_6 ehpσ_6 k3σ_6 k4σ_6 bhpσ_8 chpσ_8 k3σ_9 k4σ_9 if_10 k3σ_11 if_12 c_13 iz_14 k3σ_16 dhpσ_18 ehpσ_18 k3σ_18 k4σ_18 bhpσ_20 dhpσ_20 c_41 chpσ_20; omega) | omega)) kv_X12_197 ha ⟨rfl, by decide⟩ (show vwCl[11]? = some (RX12, TX12, 46) from rfl) rfl ⟨Nat.le_of_ble_eq_true rfl, Nat.le_of_ble_eq_true rfl⟩ ⟨Nat.le_refl _, Nat.le_refl _⟩ rfl (Nat.le_of_ble_eq_true rfl) dX12_readPlayer_105) hI (by decide) (fun σ_43 H locs hpσ_43 hkσ_43 hI => ?_)
              obtain ⟨ahpσ_43, bhpσ_43, chpσ_43, dhpσ_43, ehpσ_43⟩ := hpσ_43
              have fr_σ_43 := fr_σ_18.call ehpσ_43 rfl rfl
              replace hF := q_letX hF dhpσ_43
              have mcσ_43 := m_cK hkσ_43 hI.1 ha (by decide)
              have nnσ_43 : m_N (m_c X σ_43 a) := m_N.ext mcσ_43 nnσ_18
              have kpσ_43 : ∀ j, 0 ≤ j → j < 3720 → m_c X σ_43 a j = m_c X σ a j := fun j h0 h1 => (mcσ_43 j).trans (kpσ_18 j h0 h1)
              have k3σ_43 : m_c X σ_43 a 3720 = m_c X σ a 3720 ∧ m_c X σ_43 a 3721 = m_c X σ a 3721 := ⟨(mcσ_43 3720).trans k3σ_18.1, (mcσ_43 3721).trans k3σ_18.2⟩
              have k4σ_43 : 1 ≤ m_c X σ_43 a 3724 + 10 * (σ_43.1 a 12).toInt := (by have := mcσ_43 3724; omega)
              have smσ_43 : 0 ≤ (σ_43.1 a 15).toInt ∧ (σ_43.1 a 15).toInt ≤ (σ_43.1 a 16).toInt ∧ (σ_43.1 a 16).toInt ≤ (σ_43.1 a 9).toInt ∧ (σ_43.1 a 9).toInt ≤ 900 ∧ 0 ≤ (σ_43.1 a 14).toInt ∧ (σ_43.1 a 14).toInt ≤ 4 ∧ (σ_43.1 a 14).toInt ≤ 4 * ((σ_43.1 a 16).toInt - (σ_43.1 a 15).toInt) ∧ (σ_43.1 a 14).toInt ≤ 4 * ((σ_43.1 a 9).toInt - (σ_43.1 a 15).toInt) ∧ 0 ≤ (σ_43.1 a 12).toInt ∧ (σ_43.1 a 9).toInt = (σ.1 a 9).toInt ∧ (σ.1 a 15).toInt ≤ (σ_43.1 a 15).toInt ∧ (σ.1 a 12).toInt ≤ (σ_43.1 a 12).toInt := (by first | exact sm_nx smσ_18 bhpσ_43 chpσ_43 | omega)
              have onσ_43 : (σ.1 a 16).toInt ≤ (σ_43.1 a 15).toInt := (by first | (clear hs hz hk h4 k3σ k4σ if_1 j25σ_2 k3σ_2 if_3 c_4 dhpσ_6 ehpσ_6 k3σ_6 k4σ_6 bhpσ_8 chpσ_8 k3σ_9 k4σ_9 if_10 k3σ_11 if_12 c_13 iz_14 k3σ_16 dhpσ_18 ehpσ_18 k3σ_18 k4σ_18 bhpσ_20 dhpσ_20 c_41 ahpσ_43 bhpσ_43 dhpσ_43 ehpσ_43 k3σ_43 k4σ_43 smσ_43; omega) | omega)
              have kmσ_43 : m_c X σ_43 a 3722 = m_c X σ a 3722 := (mcσ_43 3722).trans kmσ_18
              clear k4σ_18 smσ_18 onσ_18 kmσ_18 bhpσ_43 chpσ_43
              refine lv_aload_n hx hb dX12_readPlayer_108 rfl (lv_at hl 0 rfl) ?_
              refine gs_X12_35_12 E hI ha dX12_readPlayer_109 ?_
              refine lv_sipush (v := 3730) hx hb dX12_readPlayer_112 (by decide) ?_
              refine lv_iload_n hx hb dX12_readPlayer_115 rfl (lv_at hl 1 rfl) ?_
              refine lv_iadd hx hb dX12_readPlayer_116 ?_
              refine lv_topi (fun z_44 ez_44 => ?_)
              replace hF := q_letX hF ez_44
              have iz_44 := q_addI (A := 3730) (B := (m_c X σ a 3722)) ez_44 (by decide) if_1 (by first | (clear hs hz hk h4 k3σ k4σ j25σ_2 k3σ_2 beσ_2 if_3 c_4 dhpσ_6 ehpσ_6 k3σ_6 k4σ_6 bhpσ_8 chpσ_8 k3σ_9 k4σ_9 if_10 k3σ_11 if_12 c_13 k3σ_16 dhpσ_18 ehpσ_18 k3σ_18 bhpσ_20 dhpσ_20 c_41 chpσ_20 ahpσ_43 dhpσ_43 ehpσ_43 k3σ_43 k4σ_43 smσ_43 onσ_43; omega) | omega) (by first | (clear hs hz hk h4 k3σ k4σ j25σ_2 k3σ_2 beσ_2 if_3 c_4 dhpσ_6 ehpσ_6 k3σ_6 k4σ_6 bhpσ_8 chpσ_8 k3σ_9 k4σ_9 if_10 k3σ_11 if_12 c_13 k3σ_16 dhpσ_18 ehpσ_18 k3σ_18 bhpσ_20 dhpσ_20 c_41 chpσ_20 ahpσ_43 dhpσ_43 ehpσ_43 k3σ_43 k4σ_43 smσ_43 onσ_43; omega) | omega)
              refine lv_aload_n hx hb dX12_readPlayer_117 rfl (lv_at hl 0 rfl) ?_
              refine lv_iconst (v := 0) hx hb dX12_readPlayer_118 (by decide) ?_
              refine lv_bipush (v := 16) hx hb dX12_readPlayer_119 (by decide) ?_
              have kc_45 : (0 : Int32).toInt = 0 := rfl
              have kc_46 : (16 : Int32).toInt = 16 := rfl
              refine q_ci (q_runV (As := [.int 0, .int 16]) (rest := [.int z_44, .ref (q_rf X a 20)]) E (hml.trans hl.1.symm) hI (c_X12_count l X σ_43 a (0 : Int32) (16 : Int32) ha (by first | exact sm_9 smσ_43 | exact hs | omega) (by first | (clear hs hz hk h4 k3σ k4σ if_1 j25σ_2 k3σ_2 beσ_2 if_3 c_4 dhpσ_6 ehpσ_6 k3σ_6 k4σ_6 bhpσ_8 chpσ_8 k3σ_9 k4σ_9 if_10 k3σ_11 if_12 c_13 iz_14 k3σ_16 dhpσ_18 ehpσ_18 k3σ_18 bhpσ_20 dhpσ_20 c_41 chpσ_20 ahpσ_43 dhpσ_43 ehpσ_43 k3σ_43 k4σ_43 smσ_43 onσ_43 kmσ_43 iz_44; omega) | omega)) kv_X12_223 ha ⟨rfl, by decide⟩ (show vwCl[11]? = some (RX12, TX12, 46) from rfl) rfl ⟨Nat.le_of_ble_eq_true rfl, Nat.le_of_ble_eq_true rfl⟩ ⟨Nat.le_refl _, Nat.le_refl _⟩ rfl (Nat.le_of_ble_eq_true rfl) dX12_readPlayer_121) hI (by decide) (fun r_47 σ_48 H locs hpσ_48 hkσ_48 hI => ?_)
              obtain ⟨ahpσ_48, bhpσ_48, chpσ_48, dhpσ_48, ehpσ_48⟩ := hpσ_48
              have fr_σ_48 := fr_σ_43.call ehpσ_48 rfl rfl
              replace hF := q_biX hF dhpσ_48
              have mcσ_48 := m_cK hkσ_48 hI.1 ha (by decide)
              have nnσ_48 : m_N (m_c X σ_48 a) := m_N.ext mcσ_48 nnσ_43
              have kpσ_48 : ∀ j, 0 ≤ j → j < 3720 → m_c X σ_48 a j = m_c X σ a j := fun j h0 h1 => (mcσ_48 j).trans (kpσ_43 j h0 h1)
              have k3σ_48 : m_c X σ_48 a 3720 = m_c X σ a 3720 ∧ m_c X σ_48 a 3721 = m_c X σ a 3721 := ⟨(mcσ_48 3720).trans k3σ_43.1, (mcσ_48 3721).trans k3σ_43.2⟩
              have k4σ_48 : 1 ≤ m_c X σ_48 a 3724 + 10 * (σ_48.1 a 12).toInt := (by have := mcσ_48 3724; omega)
              have smσ_48 : 0 ≤ (σ_48.1 a 15).toInt ∧ (σ_48.1 a 15).toInt ≤ (σ_48.1 a 16).toInt ∧ (σ_48.1 a 16).toInt ≤ (σ_48.1 a 9).toInt ∧ (σ_48.1 a 9).toInt ≤ 900 ∧ 0 ≤ (σ_48.1 a 14).toInt ∧ (σ_48.1 a 14).toInt ≤ 4 ∧ (σ_48.1 a 14).toInt ≤ 4 * ((σ_48.1 a 16).toInt - (σ_48.1 a 15).toInt) ∧ (σ_48.1 a 14).toInt ≤ 4 * ((σ_48.1 a 9).toInt - (σ_48.1 a 15).toInt) ∧ 0 ≤ (σ_48.1 a 12).toInt ∧ (σ_48.1 a 9).toInt = (σ.1 a 9).toInt ∧ (σ.1 a 15).toInt ≤ (σ_48.1 a 15).toInt ∧ (σ.1 a 12).toInt ≤ (σ_48.1 a 12).toInt := (by first | exact sm_tr smσ_43 bhpσ_48 | exact sm_tr smσ_43 chpσ_48 | omega)
              have onσ_48 : (σ.1 a 16).toInt ≤ (σ_48.1 a 15).toInt := (by first | (clear hs hz hk h4 k3σ k4σ if_1 j25σ_2 k3σ_2 if_3 c_4 dhpσ_6 ehpσ_6 k3σ_6 k4σ_6 bhpσ_8 chpσ_8 k3σ_9 k4σ_9 if_10 k3σ_11 if_12 c_13 iz_14 k3σ_16 dhpσ_18 ehpσ_18 k3σ_18 bhpσ_20 dhpσ_20 c_41 chpσ_20 ahpσ_43 dhpσ_43 ehpσ_43 k3σ_43 k4σ_43 smσ_43 kmσ_43 iz_44 kc_45 kc_46 ahpσ_48 chpσ_48 dhpσ_48 ehpσ_48 k3σ_48 k4σ_48 smσ_48; omega) | omega)
              have kmσ_48 : m_c X σ_48 a 3722 = m_c X σ a 3722 := (mcσ_48 3722).trans kmσ_43
              clear k4σ_43 smσ_43 onσ_43 kmσ_43 bhpσ_48
              refine q_iastN E hI (q_tk (k' := 34) hI ha rfl (by decide)) ⟨by decide, rfl⟩ (by first | (clear hs hz hk h4 k3σ k4σ j25σ_2 k3σ_2 beσ_2 if_3 c_4 dhpσ_6 ehpσ_6 k3σ_6 k4σ_6 bhpσ_8 chpσ_8 k3σ_9 k4σ_9 if_10 k3σ_11 if_12 c_13 k3σ_16 dhpσ_18 ehpσ_18 k3σ_18 bhpσ_20 dhpσ_20 c_41 chpσ_20 ahpσ_43 dhpσ_43 ehpσ_43 k3σ_43 kc_45 kc_46 ahpσ_48 chpσ_48 dhpσ_48 ehpσ_48 k3σ_48 k4σ_48 smσ_48 onσ_48; omega) | omega) (by rw [q_lnk (v := 4650) hI (q_tk (k' := 34) hI ha rfl (by decide)) rfl (by decide)]; omega) (show 1 < 2 by decide) (q_inU rfl) dX12_readPlayer_124 (fun H locs σ_49 hσ_49 hI => ?_)
              replace hF := q_letX hF hσ_49
              have fr_σ_49 := fr_σ_48.si hσ_49 (q_tk (k' := 34) hI ha rfl (by decide)) rfl
              have mv9_σ_49 : (σ_49.1 a 9).toInt = (σ_48.1 a 9).toInt := congrArg Int32.toInt (q_rdn hσ_49 (Or.inl (m_ne ha (q_tk (k' := 34) hI ha rfl (by decide)) (by decide))))
              have mv12_σ_49 : (σ_49.1 a 12).toInt = (σ_48.1 a 12).toInt := congrArg Int32.toInt (q_rdn hσ_49 (Or.inl (m_ne ha (q_tk (k' := 34) hI ha rfl (by decide)) (by decide))))
              have mv14_σ_49 : (σ_49.1 a 14).toInt = (σ_48.1 a 14).toInt := congrArg Int32.toInt (q_rdn hσ_49 (Or.inl (m_ne ha (q_tk (k' := 34) hI ha rfl (by decide)) (by decide))))
              have mv15_σ_49 : (σ_49.1 a 15).toInt = (σ_48.1 a 15).toInt := congrArg Int32.toInt (q_rdn hσ_49 (Or.inl (m_ne ha (q_tk (k' := 34) hI ha rfl (by decide)) (by decide))))
              have mv16_σ_49 : (σ_49.1 a 16).toInt = (σ_48.1 a 16).toInt := congrArg Int32.toInt (q_rdn hσ_49 (Or.inl (m_ne ha (q_tk (k' := 34) hI ha rfl (by decide)) (by decide))))
              have mcσ_49 := m_wr (v := r_47) (A := (3730 + (m_c X σ a 3722))) hσ_49 iz_44 (by first | (clear hs hz hk h4 k3σ k4σ j25σ_2 k3σ_2 beσ_2 if_3 c_4 dhpσ_6 ehpσ_6 k3σ_6 k4σ_6 bhpσ_8 chpσ_8 k3σ_9 k4σ_9 if_10 k3σ_11 if_12 c_13 k3σ_16 dhpσ_18 ehpσ_18 k3σ_18 bhpσ_20 dhpσ_20 c_41 chpσ_20 ahpσ_43 dhpσ_43 ehpσ_43 k3σ_43 kc_45 kc_46 ahpσ_48 chpσ_48 dhpσ_48 ehpσ_48 k3σ_48 k4σ_48 smσ_48 onσ_48 mv9_σ_49 mv12_σ_49 mv14_σ_49 mv15_σ_49 mv16_σ_49; omega) | omega)
              have nnσ_49 : m_N (m_c X σ_49 a) := m_N.wr nnσ_48 mcσ_49 (by first | (clear hs hz hk h4 k3σ k4σ j25σ_2 k3σ_2 beσ_2 if_3 c_4 dhpσ_6 ehpσ_6 k3σ_6 k4σ_6 bhpσ_8 chpσ_8 k3σ_9 k4σ_9 if_10 k3σ_11 if_12 c_13 k3σ_16 dhpσ_18 ehpσ_18 k3σ_18 bhpσ_20 dhpσ_20 c_41 chpσ_20 ahpσ_43 dhpσ_43 ehpσ_43 k3σ_43 kc_45 kc_46 ahpσ_48 chpσ_48 dhpσ_48 ehpσ_48 k3σ_48 k4σ_48 smσ_48 onσ_48 mv9_σ_49 mv12_σ_49 mv14_σ_49 mv15_σ_49 mv16_σ_49; omega) | omega)
              have kpσ_49 : ∀ j, 0 ≤ j → j < 3720 → m_c X σ_49 a j = m_c X σ a j := fun j h0 h1 => by rw [mcσ_49 j h0, if_neg (by first | (clear hs hz hk h4 k3σ k4σ j25σ_2 k3σ_2 beσ_2 if_3 c_4 dhpσ_6 ehpσ_6 k3σ_6 k4σ_6 bhpσ_8 chpσ_8 k3σ_9 k4σ_9 if_10 k3σ_11 if_12 c_13 k3σ_16 dhpσ_18 ehpσ_18 k3σ_18 bhpσ_20 dhpσ_20 c_41 chpσ_20 ahpσ_43 dhpσ_43 ehpσ_43 k3σ_43 kc_45 kc_46 ahpσ_48 chpσ_48 dhpσ_48 ehpσ_48 k3σ_48 k4σ_48 smσ_48 onσ_48 mv9_σ_49 mv12_σ_49 mv14_σ_49 mv15_σ_49 mv16_σ_49; omega) | omega)]; exact kpσ_48 j h0 h1
              have k3σ_49 : m_c X σ_49 a 3720 = m_c X σ a 3720 ∧ m_c X σ_49 a 3721 = m_c X σ a 3721 := ⟨by rw [mcσ_49 3720 (by decide), if_neg (by first | (clear hs hz hk h4 k3σ k4σ j25σ_2 k3σ_2 beσ_2 if_3 c_4 dhpσ_6 ehpσ_6 k3σ_6 k4σ_6 bhpσ_8 chpσ_8 k3σ_9 k4σ_9 if_10 k3σ_11 if_12 c_13 k3σ_16 dhpσ_18 ehpσ_18 k3σ_18 bhpσ_20 dhpσ_20 c_41 chpσ_20 ahpσ_43 dhpσ_43 ehpσ_43 k3σ_43 kc_45 kc_46 ahpσ_48 chpσ_48 dhpσ_48 ehpσ_48 k3σ_48 k4σ_48 smσ_48 onσ_48 mv9_σ_49 mv12_σ_49 mv14_σ_49 mv15_σ_49 mv16_σ_49; omega) | omega)]; exact k3σ_48.1, by rw [mcσ_49 3721 (by decide), if_neg (by first | (clear hs hz hk h4 k3σ k4σ j25σ_2 k3σ_2 beσ_2 if_3 c_4 dhpσ_6 ehpσ_6 k3σ_6 k4σ_6 bhpσ_8 chpσ_8 k3σ_9 k4σ_9 if_10 k3σ_11 if_12 c_13 k3σ_16 dhpσ_18 ehpσ_18 k3σ_18 bhpσ_20 dhpσ_20 c_41 chpσ_20 ahpσ_43 dhpσ_43 ehpσ_43 k3σ_43 kc_45 kc_46 ahpσ_48 chpσ_48 dhpσ_48 ehpσ_48 k3σ_48 k4σ_48 smσ_48 onσ_48 mv9_σ_49 mv12_σ_49 mv14_σ_49 mv15_σ_49 mv16_σ_49; omega) | omega)]; exact k3σ_48.2⟩
              have k4σ_49 : 1 ≤ m_c X σ_49 a 3724 + 10 * (σ_49.1 a 12).toInt := (by have := mcσ_49 3724 (by decide); rw [if_neg (by first | (clear hs hz hk h4 k3σ k4σ j25σ_2 k3σ_2 beσ_2 if_3 c_4 dhpσ_6 ehpσ_6 k3σ_6 k4σ_6 bhpσ_8 chpσ_8 k3σ_9 k4σ_9 if_10 k3σ_11 if_12 c_13 k3σ_16 dhpσ_18 ehpσ_18 k3σ_18 bhpσ_20 dhpσ_20 c_41 chpσ_20 ahpσ_43 dhpσ_43 ehpσ_43 k3σ_43 kc_45 kc_46 ahpσ_48 chpσ_48 dhpσ_48 ehpσ_48 k3σ_48 k4σ_48 smσ_48 onσ_48 mv9_σ_49 mv12_σ_49 mv14_σ_49 mv15_σ_49 mv16_σ_49 k3σ_49; omega) | omega)] at this; omega)
              have smσ_49 : 0 ≤ (σ_49.1 a 15).toInt ∧ (σ_49.1 a 15).toInt ≤ (σ_49.1 a 16).toInt ∧ (σ_49.1 a 16).toInt ≤ (σ_49.1 a 9).toInt ∧ (σ_49.1 a 9).toInt ≤ 900 ∧ 0 ≤ (σ_49.1 a 14).toInt ∧ (σ_49.1 a 14).toInt ≤ 4 ∧ (σ_49.1 a 14).toInt ≤ 4 * ((σ_49.1 a 16).toInt - (σ_49.1 a 15).toInt) ∧ (σ_49.1 a 14).toInt ≤ 4 * ((σ_49.1 a 9).toInt - (σ_49.1 a 15).toInt) ∧ 0 ≤ (σ_49.1 a 12).toInt ∧ (σ_49.1 a 9).toInt = (σ.1 a 9).toInt ∧ (σ.1 a 15).toInt ≤ (σ_49.1 a 15).toInt ∧ (σ.1 a 12).toInt ≤ (σ_49.1 a 12).toInt := (by first | (rw [mv12_σ_49, mv14_σ_49, mv15_σ_49, mv16_σ_49, mv9_σ_49]; exact smσ_48) | omega)
              have onσ_49 : (σ.1 a 16).toInt ≤ (σ_49.1 a 15).toInt := (by first | (clear hs hz hk h4 k3σ k4σ if_1 j25σ_2 k3σ_2 if_3 c_4 dhpσ_6 ehpσ_6 k3σ_6 k4σ_6 bhpσ_8 chpσ_8 k3σ_9 k4σ_9 if_10 k3σ_11 if_12 c_13 iz_14 k3σ_16 dhpσ_18 ehpσ_18 k3σ_18 bhpσ_20 dhpσ_20 c_41 chpσ_20 ahpσ_43 dhpσ_43 ehpσ_43 k3σ_43 iz_44 kc_45 kc_46 ahpσ_48 chpσ_48 dhpσ_48 ehpσ_48 k3σ_48 k4σ_48 smσ_48 kmσ_48 mv9_σ_49 mv12_σ_49 mv14_σ_49 mv16_σ_49 k3σ_49 k4σ_49 smσ_49; omega) | omega)
              have kmσ_49 : m_c X σ_49 a 3722 = m_c X σ a 3722 := (by rw [mcσ_49 3722 (by decide), if_neg (by first | (clear hs hz hk h4 k3σ k4σ j25σ_2 k3σ_2 beσ_2 if_3 c_4 dhpσ_6 ehpσ_6 k3σ_6 k4σ_6 bhpσ_8 chpσ_8 k3σ_9 k4σ_9 if_10 k3σ_11 if_12 c_13 k3σ_16 dhpσ_18 ehpσ_18 k3σ_18 bhpσ_20 dhpσ_20 c_41 chpσ_20 ahpσ_43 dhpσ_43 ehpσ_43 k3σ_43 kc_45 kc_46 ahpσ_48 chpσ_48 dhpσ_48 ehpσ_48 k3σ_48 k4σ_48 smσ_48 onσ_48 mv9_σ_49 mv12_σ_49 mv14_σ_49 mv15_σ_49 mv16_σ_49 k3σ_49 k4σ_49 smσ_49 onσ_49; omega) | omega)]; exact kmσ_48)
              clear mv9_σ_49 mv12_σ_49 mv14_σ_49 mv15_σ_49 mv16_σ_49 k4σ_48 smσ_48 onσ_48 kmσ_48
              exact J_125_21 σ_49 _ _ ls fr_σ_49 nnσ_49 kpσ_49 k3σ_49 k4σ_49 smσ_49 onσ_49 kmσ_49 hF hI (lv_sub hl [0, 1] rfl)
          · skip
            replace hF := q_ifp hF c_13
            exact q_retv E hr hlk hI ⟨nnσ_11, kpσ_11, (by first | exact smσ_11 | omega), (by first | exact smσ_11 | omega), k3σ_11, k4σ_11, (hF.trans hout), fr_σ_11⟩ dX12_readPlayer_79
        refine q_if_ne (A := f_10.toInt) E rfl (tgt := 72) dX12_readPlayer_52 (by decide) (fun c_50 => ?_) (fun c_50 => ?_)
        · skip
          replace hF := q_ifn hF c_50
          exact J_72_11 σ_9 _ _ ls fr_σ_9 nnσ_9 kpσ_9 k3σ_9 k4σ_9 smσ_9 onσ_9 kmσ_9 hF hI (lv_sub hl [0, 1] rfl)
        · skip
          replace hF := q_ifp hF c_50
          refine lv_aload_n hx hb dX12_readPlayer_55 rfl (lv_at hl 0 rfl) ?_
          refine lv_iconst (v := 4) hx hb dX12_readPlayer_56 (by decide) ?_
          have kc_51 : (4 : Int32).toInt = 4 := rfl
          refine q_ci (q_runV (As := [.int 4]) (rest := []) E (hml.trans hl.1.symm) hI (c_X12_named l X σ_9 a (4 : Int32) ha (Or.inr rfl) (by show m_c X σ_9 a 3722 ≤ 6; have := nnσ_9.2.2.1; omega)) kv_X12_213 ha ⟨rfl, by decide⟩ (show vwCl[11]? = some (RX12, TX12, 46) from rfl) rfl ⟨Nat.le_of_ble_eq_true rfl, Nat.le_of_ble_eq_true rfl⟩ ⟨Nat.le_refl _, Nat.le_refl _⟩ rfl (Nat.le_of_ble_eq_true rfl) dX12_readPlayer_57) hI (by decide) (fun r_52 σ_53 H locs hpσ_53 hkσ_53 hI => ?_)
          obtain ⟨ahpσ_53, bhpσ_53, chpσ_53⟩ := hpσ_53
          rw [ahpσ_53] at hI
          replace hF := q_letX hF chpσ_53
          refine q_if_lt (A := r_52.toInt) E rfl (tgt := 72) dX12_readPlayer_60 (by decide) (fun c_54 => ?_) (fun c_54 => ?_)
          · skip
            replace hF := q_ifp hF c_54
            exact J_72_11 σ_9 _ _ ls fr_σ_9 nnσ_9 kpσ_9 k3σ_9 k4σ_9 smσ_9 onσ_9 kmσ_9 hF hI (lv_sub hl [0, 1] rfl)
          · skip
            replace hF := q_ifn hF (Int.not_lt.mpr c_54)
            refine lv_aload_n hx hb dX12_readPlayer_63 rfl (lv_at hl 0 rfl) ?_
            refine lv_iconst (v := 3) hx hb dX12_readPlayer_64 (by decide) ?_
            refine lv_aload_n hx hb dX12_readPlayer_65 rfl (lv_at hl 0 rfl) ?_
            refine gs_X12_104_12 E hI ha dX12_readPlayer_66 ?_
            refine lv_topi (fun f_55 ef_55 => ?_)
            replace hF := q_letX hF ef_55
            have if_55 : f_55.toInt = (σ_9.1 a 15).toInt := congrArg Int32.toInt ef_55
            have kc_56 : (3 : Int32).toInt = 3 := rfl
            refine q_cv (q_runV (As := [.int 3, .int f_55]) (rest := []) E (hml.trans hl.1.symm) hI (c_X12_fail l X σ_9 a (3 : Int32) f_55 ha (by first | (clear hs hz hk h4 k3σ k4σ if_1 j25σ_2 k3σ_2 beσ_2 if_3 c_4 dhpσ_6 ehpσ_6 k3σ_6 k4σ_6 bhpσ_8 chpσ_8 k3σ_9 k4σ_9 kc_51 ahpσ_53 bhpσ_53 chpσ_53 c_54 if_55 kc_56; omega) | omega) (by first | (clear hs hz hk h4 k3σ k4σ if_1 j25σ_2 k3σ_2 beσ_2 if_3 c_4 dhpσ_6 ehpσ_6 k3σ_6 k4σ_6 bhpσ_8 chpσ_8 k3σ_9 k4σ_9 if_10 c_50 kc_51 ahpσ_53 bhpσ_53 chpσ_53 c_54 if_55; omega) | omega)) kv_X12_193 ha ⟨rfl, by decide⟩ (show vwCl[11]? = some (RX12, TX12, 46) from rfl) rfl ⟨Nat.le_of_ble_eq_true rfl, Nat.le_of_ble_eq_true rfl⟩ ⟨Nat.le_refl _, Nat.le_refl _⟩ rfl (Nat.le_of_ble_eq_true rfl) dX12_readPlayer_69) hI (by decide) (fun σ_58 H locs hpσ_58 hkσ_58 hI => ?_)
            obtain ⟨ahpσ_58, bhpσ_58, chpσ_58, dhpσ_58, ehpσ_58⟩ := hpσ_58
            have fr_σ_58 := fr_σ_9.call ehpσ_58 rfl rfl
            replace hF := q_letX hF dhpσ_58
            have mcσ_58 := m_cK hkσ_58 hI.1 ha (by decide)
            have nnσ_58 : m_N (m_c X σ_58 a) := m_N.ext mcσ_58 nnσ_9
            have kpσ_58 : ∀ j, 0 ≤ j → j < 3720 → m_c X σ_58 a j = m_c X σ a j := fun j h0 h1 => (mcσ_58 j).trans (kpσ_9 j h0 h1)
            have k3σ_58 : m_c X σ_58 a 3720 = m_c X σ a 3720 ∧ m_c X σ_58 a 3721 = m_c X σ a 3721 := ⟨(mcσ_58 3720).trans k3σ_9.1, (mcσ_58 3721).trans k3σ_9.2⟩
            have k4σ_58 : 1 ≤ m_c X σ_58 a 3724 + 10 * (σ_58.1 a 12).toInt := (by have := mcσ_58 3724; omega)
            have smσ_58 : 0 ≤ (σ_58.1 a 15).toInt ∧ (σ_58.1 a 15).toInt ≤ (σ_58.1 a 16).toInt ∧ (σ_58.1 a 16).toInt ≤ (σ_58.1 a 9).toInt ∧ (σ_58.1 a 9).toInt ≤ 900 ∧ 0 ≤ (σ_58.1 a 14).toInt ∧ (σ_58.1 a 14).toInt ≤ 4 ∧ (σ_58.1 a 14).toInt ≤ 4 * ((σ_58.1 a 16).toInt - (σ_58.1 a 15).toInt) ∧ (σ_58.1 a 14).toInt ≤ 4 * ((σ_58.1 a 9).toInt - (σ_58.1 a 15).toInt) ∧ 0 ≤ (σ_58.1 a 12).toInt ∧ (σ_58.1 a 9).toInt = (σ.1 a 9).toInt ∧ (σ.1 a 15).toInt ≤ (σ_58.1 a 15).toInt ∧ (σ.1 a 12).toInt ≤ (σ_58.1 a 12).toInt := (by first | exact sm_fl smσ_9 bhpσ_58 chpσ_58 | omega)
            have onσ_58 : (σ.1 a 16).toInt ≤ (σ_58.1 a 15).toInt := (by first | (clear hs hz hk h4 k3σ k4σ if_1 j25σ_2 k3σ_2 if_3 c_4 dhpσ_6 ehpσ_6 k3σ_6 k4σ_6 bhpσ_8 chpσ_8 k3σ_9 k4σ_9 if_10 c_50 kc_51 ahpσ_53 bhpσ_53 chpσ_53 c_54 kc_56 ahpσ_58 chpσ_58 dhpσ_58 ehpσ_58 k3σ_58 k4σ_58 smσ_58; omega) | omega)
            have kmσ_58 : m_c X σ_58 a 3722 = m_c X σ a 3722 := (mcσ_58 3722).trans kmσ_9
            clear k4σ_9 smσ_9 onσ_9 kmσ_9 bhpσ_58
            exact J_72_11 σ_58 _ _ ls fr_σ_58 nnσ_58 kpσ_58 k3σ_58 k4σ_58 smσ_58 onσ_58 kmσ_58 hF hI (lv_sub hl [0, 1] rfl)
      refine q_if_ne (A := r_7.toInt) E rfl (tgt := 48) dX12_readPlayer_41 (by decide) (fun c_59 => ?_) (fun c_59 => ?_)
      · skip
        replace hF := q_ifn hF c_59
        replace c_59 := q_ifOne bhpσ_8 c_59
        exact J_48_9 σ_6 _ _ ls fr_σ_6 nnσ_6 kpσ_6 k3σ_6 k4σ_6 smσ_6 onσ_6 kmσ_6 hF hI (lv_sub hl [0, 1] rfl)
      · skip
        replace hF := q_ifp hF c_59
        refine lv_aload_n hx hb dX12_readPlayer_44 rfl (lv_at hl 0 rfl) ?_
        refine q_cv (q_runV (As := []) (rest := []) E (hml.trans hl.1.symm) hI (c_X12_wrong l X σ_6 a ha (by first | (clear hs hz hk h4 k3σ k4σ if_1 j25σ_2 k3σ_2 beσ_2 if_3 c_4 dhpσ_6 ehpσ_6 k3σ_6 k4σ_6 bhpσ_8 chpσ_8 c_59; omega) | omega)) kv_X12_200 ha ⟨rfl, by decide⟩ (show vwCl[11]? = some (RX12, TX12, 46) from rfl) rfl ⟨Nat.le_of_ble_eq_true rfl, Nat.le_of_ble_eq_true rfl⟩ ⟨Nat.le_refl _, Nat.le_refl _⟩ rfl (Nat.le_of_ble_eq_true rfl) dX12_readPlayer_45) hI (by decide) (fun σ_61 H locs hpσ_61 hkσ_61 hI => ?_)
        obtain ⟨ahpσ_61, bhpσ_61, chpσ_61, dhpσ_61, ehpσ_61⟩ := hpσ_61
        have fr_σ_61 := fr_σ_6.call ehpσ_61 rfl rfl
        replace hF := q_letX hF dhpσ_61
        have mcσ_61 := m_cK hkσ_61 hI.1 ha (by decide)
        have nnσ_61 : m_N (m_c X σ_61 a) := m_N.ext mcσ_61 nnσ_6
        have kpσ_61 : ∀ j, 0 ≤ j → j < 3720 → m_c X σ_61 a j = m_c X σ a j := fun j h0 h1 => (mcσ_61 j).trans (kpσ_6 j h0 h1)
        have k3σ_61 : m_c X σ_61 a 3720 = m_c X σ a 3720 ∧ m_c X σ_61 a 3721 = m_c X σ a 3721 := ⟨(mcσ_61 3720).trans k3σ_6.1, (mcσ_61 3721).trans k3σ_6.2⟩
        have k4σ_61 : 1 ≤ m_c X σ_61 a 3724 + 10 * (σ_61.1 a 12).toInt := (by have := mcσ_61 3724; omega)
        have smσ_61 : 0 ≤ (σ_61.1 a 15).toInt ∧ (σ_61.1 a 15).toInt ≤ (σ_61.1 a 16).toInt ∧ (σ_61.1 a 16).toInt ≤ (σ_61.1 a 9).toInt ∧ (σ_61.1 a 9).toInt ≤ 900 ∧ 0 ≤ (σ_61.1 a 14).toInt ∧ (σ_61.1 a 14).toInt ≤ 4 ∧ (σ_61.1 a 14).toInt ≤ 4 * ((σ_61.1 a 16).toInt - (σ_61.1 a 15).toInt) ∧ (σ_61.1 a 14).toInt ≤ 4 * ((σ_61.1 a 9).toInt - (σ_61.1 a 15).toInt) ∧ 0 ≤ (σ_61.1 a 12).toInt ∧ (σ_61.1 a 9).toInt = (σ.1 a 9).toInt ∧ (σ.1 a 15).toInt ≤ (σ_61.1 a 15).toInt ∧ (σ.1 a 12).toInt ≤ (σ_61.1 a 12).toInt := (by first | exact sm_fl smσ_6 bhpσ_61 chpσ_61 | omega)
        have onσ_61 : (σ.1 a 16).toInt ≤ (σ_61.1 a 15).toInt := (by first | (clear hs hz hk h4 k3σ k4σ if_1 j25σ_2 k3σ_2 if_3 c_4 dhpσ_6 ehpσ_6 k3σ_6 k4σ_6 bhpσ_8 chpσ_8 c_59 ahpσ_61 chpσ_61 dhpσ_61 ehpσ_61 k3σ_61 k4σ_61 smσ_61; omega) | omega)
        have kmσ_61 : m_c X σ_61 a 3722 = m_c X σ a 3722 := (mcσ_61 3722).trans kmσ_6
        clear k4σ_6 smσ_6 onσ_6 kmσ_6 bhpσ_61
        exact J_48_9 σ_61 _ _ ls fr_σ_61 nnσ_61 kpσ_61 k3σ_61 k4σ_61 smσ_61 onσ_61 kmσ_61 hF hI (lv_sub hl [0, 1] rfl)
    · skip
      replace hF := q_ifp hF c_4
      exact q_retv E hr hlk hI ⟨nnσ_2, kpσ_2, (by first | exact smσ_2 | omega), (by first | exact smσ_2 | omega), k3σ_2, k4σ_2, (hF.trans hout), fr_σ_2⟩ dX12_readPlayer_32
  refine q_icmp_ne (A := f_1.toInt) (B := 6) E rfl (by decide) (tgt := 25) dX12_readPlayer_12 (by decide) (fun c_62 => ?_) (fun c_62 => ?_)
  · skip
    replace hF := q_ifn hF c_62
    exact J_25_2 σ _ _ ls (by first | (clear hs hk h4 k3σ k4σ; omega) | omega) fr_σ nnσ kpσ k3σ k4σ smσ beσ kmσ hF hI (lv_sub hl [1, 0] rfl)
  · skip
    replace hF := q_ifp hF c_62
    refine lv_aload_n hx hb dX12_readPlayer_15 rfl (lv_at hl 1 rfl) ?_
    refine lv_bipush (v := 6) hx hb dX12_readPlayer_16 (by decide) ?_
    refine lv_aload_n hx hb dX12_readPlayer_18 rfl (lv_at hl 1 rfl) ?_
    refine gs_X12_104_12 E hI ha dX12_readPlayer_19 ?_
    refine lv_topi (fun f_63 ef_63 => ?_)
    replace hF := q_letX hF ef_63
    have if_63 : f_63.toInt = (σ.1 a 15).toInt := congrArg Int32.toInt ef_63
    have kc_64 : (6 : Int32).toInt = 6 := rfl
    refine q_cv (q_runV (As := [.int 6, .int f_63]) (rest := []) E (hml.trans hl.1.symm) hI (c_X12_fail l X σ a (6 : Int32) f_63 ha (by omega) (by first | (clear hs hz hk h4 k3σ k4σ if_1 c_62 if_63; omega) | omega)) kv_X12_193 ha ⟨rfl, by decide⟩ (show vwCl[11]? = some (RX12, TX12, 46) from rfl) rfl ⟨Nat.le_of_ble_eq_true rfl, Nat.le_of_ble_eq_true rfl⟩ ⟨Nat.le_refl _, Nat.le_refl _⟩ rfl (Nat.le_of_ble_eq_true rfl) dX12_readPlayer_22) hI (by decide) (fun σ_66 H locs hpσ_66 hkσ_66 hI => ?_)
    obtain ⟨ahpσ_66, bhpσ_66, chpσ_66, dhpσ_66, ehpσ_66⟩ := hpσ_66
    have fr_σ_66 := fr_σ.call ehpσ_66 rfl rfl
    replace hF := q_letX hF dhpσ_66
    have mcσ_66 := m_cK hkσ_66 hI.1 ha (by decide)
    have nnσ_66 : m_N (m_c X σ_66 a) := m_N.ext mcσ_66 nnσ
    have kpσ_66 : ∀ j, 0 ≤ j → j < 3720 → m_c X σ_66 a j = m_c X σ a j := fun j h0 h1 => (mcσ_66 j).trans (kpσ j h0 h1)
    have k3σ_66 : m_c X σ_66 a 3720 = m_c X σ a 3720 ∧ m_c X σ_66 a 3721 = m_c X σ a 3721 := ⟨(mcσ_66 3720).trans k3σ.1, (mcσ_66 3721).trans k3σ.2⟩
    have k4σ_66 : 1 ≤ m_c X σ_66 a 3724 + 10 * (σ_66.1 a 12).toInt := (by have := mcσ_66 3724; omega)
    have smσ_66 : 0 ≤ (σ_66.1 a 15).toInt ∧ (σ_66.1 a 15).toInt ≤ (σ_66.1 a 16).toInt ∧ (σ_66.1 a 16).toInt ≤ (σ_66.1 a 9).toInt ∧ (σ_66.1 a 9).toInt ≤ 900 ∧ 0 ≤ (σ_66.1 a 14).toInt ∧ (σ_66.1 a 14).toInt ≤ 4 ∧ (σ_66.1 a 14).toInt ≤ 4 * ((σ_66.1 a 16).toInt - (σ_66.1 a 15).toInt) ∧ (σ_66.1 a 14).toInt ≤ 4 * ((σ_66.1 a 9).toInt - (σ_66.1 a 15).toInt) ∧ 0 ≤ (σ_66.1 a 12).toInt ∧ (σ_66.1 a 9).toInt = (σ.1 a 9).toInt ∧ (σ.1 a 15).toInt ≤ (σ_66.1 a 15).toInt ∧ (σ.1 a 12).toInt ≤ (σ_66.1 a 12).toInt := (by first | exact sm_fl smσ bhpσ_66 chpσ_66 | omega)
    have beσ_66 : (σ_66.1 a 16).toInt = (σ.1 a 16).toInt := (by omega)
    have kmσ_66 : m_c X σ_66 a 3722 = m_c X σ a 3722 := (mcσ_66 3722).trans kmσ
    clear k4σ smσ beσ kmσ bhpσ_66
    exact J_25_2 σ_66 _ _ ls (by first | (clear hs hz hk h4 k3σ if_1 if_63 kc_64 ahpσ_66 dhpσ_66 ehpσ_66 k3σ_66 k4σ_66 smσ_66 beσ_66 kmσ_66; omega) | omega) fr_σ_66 nnσ_66 kpσ_66 k3σ_66 k4σ_66 smσ_66 beσ_66 kmσ_66 hF hI (lv_sub hl [1, 0] rfl)

set_option maxRecDepth 100000 in
set_option maxHeartbeats 4000000 in
theorem c_X12_readHand (l : Launch) (X : XW) (σ : ST) (a : Nat) (ha : q_kd X a = 12) (hs : 0 ≤ (σ.1 a 15).toInt ∧ (σ.1 a 15).toInt ≤ (σ.1 a 16).toInt ∧ (σ.1 a 16).toInt ≤ (σ.1 a 9).toInt ∧ (σ.1 a 9).toInt ≤ 900 ∧ 0 ≤ (σ.1 a 14).toInt ∧ (σ.1 a 14).toInt ≤ 4 ∧ (σ.1 a 14).toInt ≤ 4 * ((σ.1 a 16).toInt - (σ.1 a 15).toInt) ∧ (σ.1 a 14).toInt ≤ 4 * ((σ.1 a 9).toInt - (σ.1 a 15).toInt) ∧ 0 ≤ (σ.1 a 12).toInt) (hN : m_N (m_c X σ a)) (hz : (σ.1 a 12).toInt = 0) (hk : 2 ≤ m_c X σ a 3720) (h4 : 1 ≤ m_c X σ a 3724) : Met l yX12_readHand (q_ws yX12_readHand cX12_readHand 6 none) (q_rm 6 129) (q_P X σ [.ref a]) (q_Qv X 1 σ (fun (σ' : ST) => (m_N (m_c X σ' a)) ∧ (∀ j, 0 ≤ j → j < 3720 → m_c X σ' a j = m_c X σ a j) ∧ (0 ≤ (σ'.1 a 15).toInt ∧ (σ'.1 a 15).toInt ≤ (σ'.1 a 16).toInt ∧ (σ'.1 a 16).toInt ≤ (σ'.1 a 9).toInt ∧ (σ'.1 a 9).toInt ≤ 900 ∧ 0 ≤ (σ'.1 a 14).toInt ∧ (σ'.1 a 14).toInt ≤ 4 ∧ (σ'.1 a 14).toInt ≤ 4 * ((σ'.1 a 16).toInt - (σ'.1 a 15).toInt) ∧ (σ'.1 a 14).toInt ≤ 4 * ((σ'.1 a 9).toInt - (σ'.1 a 15).toInt) ∧ 0 ≤ (σ'.1 a 12).toInt ∧ (σ'.1 a 9).toInt = (σ.1 a 9).toInt ∧ (σ.1 a 15).toInt ≤ (σ'.1 a 15).toInt ∧ (σ.1 a 12).toInt ≤ (σ'.1 a 12).toInt) ∧ ((σ.1 a 16).toInt ≤ (σ'.1 a 15).toInt + 1000 * (σ'.1 a 12).toInt) ∧ (m_c X σ' a 3720 = m_c X σ a 3720 ∧ m_c X σ' a 3721 = m_c X σ a 3721) ∧ (1 ≤ m_c X σ' a 3724 + 10 * (σ'.1 a 12).toInt) ∧ σ' = F_X12_readHand X σ a ∧ q_ow [(12, 12), (12, 13), (12, 14), (12, 15), (12, 16), (12, 17), (12, 18), (34, 99), (36, 99)] [(12, 19)] X σ σ')) 0 0 (q_reg X) := by
  refine q_met 1 (by first | exact rfl | decide +kernel) rfl (Nat.le_of_ble_eq_true rfl) (fun p e s m below meth c E hml hr hlk hI ls hl => ?_)
  have hx := E.1
  have hb := E.2.1
  have hl : lv_has ls 6 [(0, .ref a)] := hl
  have nnσ : m_N (m_c X σ a) := hN
  have kpσ : ∀ j, 0 ≤ j → j < 3720 → m_c X σ a j = m_c X σ a j := fun _ _ _ => rfl
  have k3σ : m_c X σ a 3720 = m_c X σ a 3720 ∧ m_c X σ a 3721 = m_c X σ a 3721 := ⟨rfl, rfl⟩
  have k4σ : 1 ≤ m_c X σ a 3724 + 10 * (σ.1 a 12).toInt := (by omega)
  have smσ : 0 ≤ (σ.1 a 15).toInt ∧ (σ.1 a 15).toInt ≤ (σ.1 a 16).toInt ∧ (σ.1 a 16).toInt ≤ (σ.1 a 9).toInt ∧ (σ.1 a 9).toInt ≤ 900 ∧ 0 ≤ (σ.1 a 14).toInt ∧ (σ.1 a 14).toInt ≤ 4 ∧ (σ.1 a 14).toInt ≤ 4 * ((σ.1 a 16).toInt - (σ.1 a 15).toInt) ∧ (σ.1 a 14).toInt ≤ 4 * ((σ.1 a 9).toInt - (σ.1 a 15).toInt) ∧ 0 ≤ (σ.1 a 12).toInt ∧ (σ.1 a 9).toInt = (σ.1 a 9).toInt ∧ (σ.1 a 15).toInt ≤ (σ.1 a 15).toInt ∧ (σ.1 a 12).toInt ≤ (σ.1 a 12).toInt := (by omega)
  have fr_σ : q_ow [(12, 12), (12, 13), (12, 14), (12, 15), (12, 16), (12, 17), (12, 18), (34, 99), (36, 99)] [(12, 19)] X σ σ := q_ow.rf
  have n0 := hN.1
  have n1 := hN.2.1
  obtain ⟨out, hout⟩ : ∃ o, o = F_X12_readHand X σ a := ⟨_, rfl⟩
  have hF := hout.symm
  unfold F_X12_readHand at hF
  refine lv_aload_n hx hb dX12_readHand_0 rfl (lv_at hl 0 rfl) ?_
  refine q_cv (q_runV (As := []) (rest := []) E (hml.trans hl.1.symm) hI (c_X12_next l X σ a ha (by first | (clear hz hk h4 k3σ k4σ smσ; omega) | omega) (by first | (clear hz hk h4 k3σ k4σ smσ; omega) | omega) (by first | (clear hz hk h4 k3σ k4σ smσ; omega) | omega)) kv_X12_197 ha ⟨rfl, by decide⟩ (show vwCl[11]? = some (RX12, TX12, 46) from rfl) rfl ⟨Nat.le_of_ble_eq_true rfl, Nat.le_of_ble_eq_true rfl⟩ ⟨Nat.le_refl _, Nat.le_refl _⟩ rfl (Nat.le_of_ble_eq_true rfl) dX12_readHand_1) hI (by decide) (fun σ_2 H locs hpσ_2 hkσ_2 hI => ?_)
  obtain ⟨ahpσ_2, bhpσ_2, chpσ_2, dhpσ_2, ehpσ_2⟩ := hpσ_2
  have fr_σ_2 := fr_σ.call ehpσ_2 rfl rfl
  replace hF := q_letX hF dhpσ_2
  have mcσ_2 := m_cK hkσ_2 hI.1 ha (by decide)
  have nnσ_2 : m_N (m_c X σ_2 a) := m_N.ext mcσ_2 nnσ
  have kpσ_2 : ∀ j, 0 ≤ j → j < 3720 → m_c X σ_2 a j = m_c X σ a j := fun j h0 h1 => (mcσ_2 j).trans (kpσ j h0 h1)
  have k3σ_2 : m_c X σ_2 a 3720 = m_c X σ a 3720 ∧ m_c X σ_2 a 3721 = m_c X σ a 3721 := ⟨(mcσ_2 3720).trans k3σ.1, (mcσ_2 3721).trans k3σ.2⟩
  have k4σ_2 : 1 ≤ m_c X σ_2 a 3724 + 10 * (σ_2.1 a 12).toInt := (by have := mcσ_2 3724; omega)
  have smσ_2 : 0 ≤ (σ_2.1 a 15).toInt ∧ (σ_2.1 a 15).toInt ≤ (σ_2.1 a 16).toInt ∧ (σ_2.1 a 16).toInt ≤ (σ_2.1 a 9).toInt ∧ (σ_2.1 a 9).toInt ≤ 900 ∧ 0 ≤ (σ_2.1 a 14).toInt ∧ (σ_2.1 a 14).toInt ≤ 4 ∧ (σ_2.1 a 14).toInt ≤ 4 * ((σ_2.1 a 16).toInt - (σ_2.1 a 15).toInt) ∧ (σ_2.1 a 14).toInt ≤ 4 * ((σ_2.1 a 9).toInt - (σ_2.1 a 15).toInt) ∧ 0 ≤ (σ_2.1 a 12).toInt ∧ (σ_2.1 a 9).toInt = (σ.1 a 9).toInt ∧ (σ.1 a 15).toInt ≤ (σ_2.1 a 15).toInt ∧ (σ.1 a 12).toInt ≤ (σ_2.1 a 12).toInt := (by first | exact sm_nx smσ bhpσ_2 chpσ_2 | omega)
  have onσ_2 : (σ.1 a 16).toInt ≤ (σ_2.1 a 15).toInt := (by first | (clear hs hz hk h4 k3σ k4σ smσ ahpσ_2 bhpσ_2 dhpσ_2 ehpσ_2 k3σ_2 k4σ_2 smσ_2; omega) | omega)
  clear k4σ smσ bhpσ_2 chpσ_2
  refine lv_aload_n hx hb dX12_readHand_4 rfl (lv_at hl 0 rfl) ?_
  refine lv_iconst (v := 4) hx hb dX12_readHand_5 (by decide) ?_
  have kc_3 : (4 : Int32).toInt = 4 := rfl
  refine q_ci (q_runV (As := [.int 4]) (rest := []) E (hml.trans hl.1.symm) hI (c_X12_readTold l X σ_2 a (4 : Int32) ha (by first | exact sm_9 smσ_2 | exact hs | omega) (Or.inr rfl) (by show m_c X σ_2 a 3722 ≤ 6; have := nnσ_2.2.2.1; omega)) kv_X12_226 ha ⟨rfl, by decide⟩ (show vwCl[11]? = some (RX12, TX12, 46) from rfl) rfl ⟨Nat.le_of_ble_eq_true rfl, Nat.le_of_ble_eq_true rfl⟩ ⟨Nat.le_refl _, Nat.le_refl _⟩ rfl (Nat.le_of_ble_eq_true rfl) dX12_readHand_6) hI (by decide) (fun r_4 σ_5 H locs hpσ_5 hkσ_5 hI => ?_)
  obtain ⟨ahpσ_5, bhpσ_5, chpσ_5, dhpσ_5, ehpσ_5⟩ := hpσ_5
  have fr_σ_5 := fr_σ_2.call ehpσ_5 rfl rfl
  replace hF := q_biX hF dhpσ_5
  have mcσ_5 := m_cK hkσ_5 hI.1 ha (by decide)
  have nnσ_5 : m_N (m_c X σ_5 a) := m_N.ext mcσ_5 nnσ_2
  have kpσ_5 : ∀ j, 0 ≤ j → j < 3720 → m_c X σ_5 a j = m_c X σ a j := fun j h0 h1 => (mcσ_5 j).trans (kpσ_2 j h0 h1)
  have k3σ_5 : m_c X σ_5 a 3720 = m_c X σ a 3720 ∧ m_c X σ_5 a 3721 = m_c X σ a 3721 := ⟨(mcσ_5 3720).trans k3σ_2.1, (mcσ_5 3721).trans k3σ_2.2⟩
  have k4σ_5 : 1 ≤ m_c X σ_5 a 3724 + 10 * (σ_5.1 a 12).toInt := (by have := mcσ_5 3724; omega)
  have smσ_5 : 0 ≤ (σ_5.1 a 15).toInt ∧ (σ_5.1 a 15).toInt ≤ (σ_5.1 a 16).toInt ∧ (σ_5.1 a 16).toInt ≤ (σ_5.1 a 9).toInt ∧ (σ_5.1 a 9).toInt ≤ 900 ∧ 0 ≤ (σ_5.1 a 14).toInt ∧ (σ_5.1 a 14).toInt ≤ 4 ∧ (σ_5.1 a 14).toInt ≤ 4 * ((σ_5.1 a 16).toInt - (σ_5.1 a 15).toInt) ∧ (σ_5.1 a 14).toInt ≤ 4 * ((σ_5.1 a 9).toInt - (σ_5.1 a 15).toInt) ∧ 0 ≤ (σ_5.1 a 12).toInt ∧ (σ_5.1 a 9).toInt = (σ.1 a 9).toInt ∧ (σ.1 a 15).toInt ≤ (σ_5.1 a 15).toInt ∧ (σ.1 a 12).toInt ≤ (σ_5.1 a 12).toInt := (by first | exact sm_tr smσ_2 bhpσ_5 | exact sm_tr smσ_2 chpσ_5 | omega)
  have onσ_5 : (σ.1 a 16).toInt ≤ (σ_5.1 a 15).toInt := (by first | (clear hs hz hk h4 k3σ ahpσ_2 dhpσ_2 ehpσ_2 k3σ_2 k4σ_2 smσ_2 kc_3 ahpσ_5 chpσ_5 dhpσ_5 ehpσ_5 k3σ_5 k4σ_5 smσ_5; omega) | omega)
  clear k4σ_2 smσ_2 onσ_2 bhpσ_5
  refine lv_istore_n (lv' := [(1, .int r_4), (0, .ref a)]) hx hb dX12_readHand_9 rfl hl (by decide) rfl (fun ls hl => ?_)
  refine lv_aload_n hx hb dX12_readHand_10 rfl (lv_at hl 1 rfl) ?_
  refine lv_iconst (v := 0) hx hb dX12_readHand_11 (by decide) ?_
  refine lv_bipush (v := 8) hx hb dX12_readHand_12 (by decide) ?_
  have kc_6 : (0 : Int32).toInt = 0 := rfl
  have kc_7 : (8 : Int32).toInt = 8 := rfl
  refine q_ci (q_runV (As := [.int 0, .int 8]) (rest := []) E (hml.trans hl.1.symm) hI (c_X12_count l X σ_5 a (0 : Int32) (8 : Int32) ha (by first | exact sm_9 smσ_5 | exact hs | omega) (by first | (clear hs hz hk h4 k3σ ahpσ_2 dhpσ_2 ehpσ_2 k3σ_2 kc_3 ahpσ_5 chpσ_5 dhpσ_5 ehpσ_5 k3σ_5 k4σ_5 smσ_5 onσ_5; omega) | omega)) kv_X12_223 ha ⟨rfl, by decide⟩ (show vwCl[11]? = some (RX12, TX12, 46) from rfl) rfl ⟨Nat.le_of_ble_eq_true rfl, Nat.le_of_ble_eq_true rfl⟩ ⟨Nat.le_refl _, Nat.le_refl _⟩ rfl (Nat.le_of_ble_eq_true rfl) dX12_readHand_14) hI (by decide) (fun r_8 σ_9 H locs hpσ_9 hkσ_9 hI => ?_)
  obtain ⟨ahpσ_9, bhpσ_9, chpσ_9, dhpσ_9, ehpσ_9⟩ := hpσ_9
  have fr_σ_9 := fr_σ_5.call ehpσ_9 rfl rfl
  replace hF := q_biX hF dhpσ_9
  have mcσ_9 := m_cK hkσ_9 hI.1 ha (by decide)
  have nnσ_9 : m_N (m_c X σ_9 a) := m_N.ext mcσ_9 nnσ_5
  have kpσ_9 : ∀ j, 0 ≤ j → j < 3720 → m_c X σ_9 a j = m_c X σ a j := fun j h0 h1 => (mcσ_9 j).trans (kpσ_5 j h0 h1)
  have k3σ_9 : m_c X σ_9 a 3720 = m_c X σ a 3720 ∧ m_c X σ_9 a 3721 = m_c X σ a 3721 := ⟨(mcσ_9 3720).trans k3σ_5.1, (mcσ_9 3721).trans k3σ_5.2⟩
  have k4σ_9 : 1 ≤ m_c X σ_9 a 3724 + 10 * (σ_9.1 a 12).toInt := (by have := mcσ_9 3724; omega)
  have smσ_9 : 0 ≤ (σ_9.1 a 15).toInt ∧ (σ_9.1 a 15).toInt ≤ (σ_9.1 a 16).toInt ∧ (σ_9.1 a 16).toInt ≤ (σ_9.1 a 9).toInt ∧ (σ_9.1 a 9).toInt ≤ 900 ∧ 0 ≤ (σ_9.1 a 14).toInt ∧ (σ_9.1 a 14).toInt ≤ 4 ∧ (σ_9.1 a 14).toInt ≤ 4 * ((σ_9.1 a 16).toInt - (σ_9.1 a 15).toInt) ∧ (σ_9.1 a 14).toInt ≤ 4 * ((σ_9.1 a 9).toInt - (σ_9.1 a 15).toInt) ∧ 0 ≤ (σ_9.1 a 12).toInt ∧ (σ_9.1 a 9).toInt = (σ.1 a 9).toInt ∧ (σ.1 a 15).toInt ≤ (σ_9.1 a 15).toInt ∧ (σ.1 a 12).toInt ≤ (σ_9.1 a 12).toInt := (by first | exact sm_tr smσ_5 bhpσ_9 | exact sm_tr smσ_5 chpσ_9 | omega)
  have onσ_9 : (σ.1 a 16).toInt ≤ (σ_9.1 a 15).toInt := (by first | (clear hs hz hk h4 k3σ ahpσ_2 dhpσ_2 ehpσ_2 k3σ_2 kc_3 ahpσ_5 chpσ_5 dhpσ_5 ehpσ_5 k3σ_5 k4σ_5 smσ_5 kc_6 kc_7 ahpσ_9 chpσ_9 dhpσ_9 ehpσ_9 k3σ_9 k4σ_9 smσ_9; omega) | omega)
  clear k4σ_5 smσ_5 onσ_5 bhpσ_9
  refine lv_istore_n (lv' := [(2, .int r_8), (1, .int r_4), (0, .ref a)]) hx hb dX12_readHand_17 rfl hl (by decide) rfl (fun ls hl => ?_)
  refine lv_aload_n hx hb dX12_readHand_18 rfl (lv_at hl 2 rfl) ?_
  refine lv_aload_n hx hb dX12_readHand_19 rfl (lv_at hl 2 rfl) ?_
  refine q_ci (q_runV (As := []) (rest := [.ref a]) E (hml.trans hl.1.symm) hI (c_X12_isOf l X σ_9 a ha) kv_X12_168 ha ⟨rfl, by decide⟩ (show vwCl[11]? = some (RX12, TX12, 46) from rfl) rfl ⟨Nat.le_of_ble_eq_true rfl, Nat.le_of_ble_eq_true rfl⟩ ⟨Nat.le_refl _, Nat.le_refl _⟩ rfl (Nat.le_of_ble_eq_true rfl) dX12_readHand_20) hI (by decide) (fun r_10 σ_11 H locs hpσ_11 hkσ_11 hI => ?_)
  obtain ⟨ahpσ_11, bhpσ_11, chpσ_11⟩ := hpσ_11
  rw [ahpσ_11] at hI
  replace hF := q_letX hF chpσ_11
  refine q_cv (q_runV (As := [.int r_10]) (rest := []) E (hml.trans hl.1.symm) hI (c_X12_must l X σ_9 a r_10 ha (by first | exact sm_9 smσ_9 | exact hs | omega) (by first | (clear hs hz hk h4 k3σ ahpσ_2 dhpσ_2 ehpσ_2 k3σ_2 kc_3 ahpσ_5 chpσ_5 dhpσ_5 ehpσ_5 k3σ_5 kc_6 kc_7 ahpσ_9 chpσ_9 dhpσ_9 ehpσ_9 k3σ_9 k4σ_9 smσ_9 onσ_9 ahpσ_11 chpσ_11; omega) | omega)) kv_X12_216 ha ⟨rfl, by decide⟩ (show vwCl[11]? = some (RX12, TX12, 46) from rfl) rfl ⟨Nat.le_of_ble_eq_true rfl, Nat.le_of_ble_eq_true rfl⟩ ⟨Nat.le_refl _, Nat.le_refl _⟩ rfl (Nat.le_of_ble_eq_true rfl) dX12_readHand_23) hI (by decide) (fun σ_13 H locs hpσ_13 hkσ_13 hI => ?_)
  obtain ⟨ahpσ_13, bhpσ_13, chpσ_13, dhpσ_13, ehpσ_13⟩ := hpσ_13
  have fr_σ_13 := fr_σ_9.call ehpσ_13 rfl rfl
  replace hF := q_letX hF dhpσ_13
  have mcσ_13 := m_cK hkσ_13 hI.1 ha (by decide)
  have nnσ_13 : m_N (m_c X σ_13 a) := m_N.ext mcσ_13 nnσ_9
  have kpσ_13 : ∀ j, 0 ≤ j → j < 3720 → m_c X σ_13 a j = m_c X σ a j := fun j h0 h1 => (mcσ_13 j).trans (kpσ_9 j h0 h1)
  have k3σ_13 : m_c X σ_13 a 3720 = m_c X σ a 3720 ∧ m_c X σ_13 a 3721 = m_c X σ a 3721 := ⟨(mcσ_13 3720).trans k3σ_9.1, (mcσ_13 3721).trans k3σ_9.2⟩
  have k4σ_13 : 1 ≤ m_c X σ_13 a 3724 + 10 * (σ_13.1 a 12).toInt := (by have := mcσ_13 3724; omega)
  have smσ_13 : 0 ≤ (σ_13.1 a 15).toInt ∧ (σ_13.1 a 15).toInt ≤ (σ_13.1 a 16).toInt ∧ (σ_13.1 a 16).toInt ≤ (σ_13.1 a 9).toInt ∧ (σ_13.1 a 9).toInt ≤ 900 ∧ 0 ≤ (σ_13.1 a 14).toInt ∧ (σ_13.1 a 14).toInt ≤ 4 ∧ (σ_13.1 a 14).toInt ≤ 4 * ((σ_13.1 a 16).toInt - (σ_13.1 a 15).toInt) ∧ (σ_13.1 a 14).toInt ≤ 4 * ((σ_13.1 a 9).toInt - (σ_13.1 a 15).toInt) ∧ 0 ≤ (σ_13.1 a 12).toInt ∧ (σ_13.1 a 9).toInt = (σ.1 a 9).toInt ∧ (σ.1 a 15).toInt ≤ (σ_13.1 a 15).toInt ∧ (σ.1 a 12).toInt ≤ (σ_13.1 a 12).toInt := (by first | exact sm_tr smσ_9 bhpσ_13 | exact sm_tr smσ_9 chpσ_13 | omega)
  have onσ_13 : (σ.1 a 16).toInt ≤ (σ_13.1 a 15).toInt := (by first | (clear hs hz hk h4 k3σ ahpσ_2 dhpσ_2 ehpσ_2 k3σ_2 kc_3 ahpσ_5 chpσ_5 dhpσ_5 ehpσ_5 k3σ_5 kc_6 kc_7 ahpσ_9 chpσ_9 dhpσ_9 ehpσ_9 k3σ_9 k4σ_9 smσ_9 ahpσ_11 bhpσ_11 chpσ_11 ahpσ_13 chpσ_13 dhpσ_13 ehpσ_13 k3σ_13 k4σ_13 smσ_13; omega) | omega)
  clear k4σ_9 smσ_9 onσ_9 bhpσ_13
  refine lv_aload_n hx hb dX12_readHand_26 rfl (lv_at hl 2 rfl) ?_
  refine gs_X12_104_12 E hI ha dX12_readHand_27 ?_
  refine lv_topi (fun f_14 ef_14 => ?_)
  replace hF := q_letX hF ef_14
  have if_14 : f_14.toInt = (σ_13.1 a 15).toInt := congrArg Int32.toInt ef_14
  refine lv_istore_n (lv' := [(3, .int f_14), (2, .int r_8), (1, .int r_4), (0, .ref a)]) hx hb dX12_readHand_30 rfl hl (by decide) rfl (fun ls hl => ?_)
  refine lv_aload_n hx hb dX12_readHand_31 rfl (lv_at hl 3 rfl) ?_
  refine lv_iconst (v := 0) hx hb dX12_readHand_32 (by decide) ?_
  refine lv_aload_n hx hb dX12_readHand_33 rfl (lv_at hl 3 rfl) ?_
  refine gs_X12_35_12 E hI ha dX12_readHand_34 ?_
  refine lv_sipush (v := 3720) hx hb dX12_readHand_37 (by decide) ?_
  refine q_iald E hI (q_tk (k' := 34) hI ha rfl (by decide)) ⟨by decide, rfl⟩ (by decide) (by rw [q_lnk (v := 4650) hI (q_tk (k' := 34) hI ha rfl (by decide)) rfl (by decide)]; decide) dX12_readHand_40 ?_
  refine lv_topi (fun f_15 ef_15 => ?_)
  replace hF := q_letX hF ef_15
  have if_15 : f_15.toInt = m_c X σ_13 a 3720 := m_rd ef_15 (by decide)
  refine lv_iconst (v := 1) hx hb dX12_readHand_41 (by decide) ?_
  refine lv_isub hx hb dX12_readHand_42 ?_
  refine lv_topi (fun z_16 ez_16 => ?_)
  replace hF := q_letX hF ez_16
  have iz_16 := q_subI (A := (m_c X σ_13 a 3720)) (B := 1) ez_16 if_15 (by decide) (by first | (clear hs hz h4 k3σ ahpσ_2 dhpσ_2 ehpσ_2 kc_3 ahpσ_5 chpσ_5 dhpσ_5 ehpσ_5 kc_6 kc_7 ahpσ_9 chpσ_9 dhpσ_9 ehpσ_9 ahpσ_11 bhpσ_11 chpσ_11 ahpσ_13 chpσ_13 dhpσ_13 ehpσ_13 k4σ_13 smσ_13 onσ_13 if_14; omega) | omega) (by first | (clear hs hz h4 k3σ ahpσ_2 dhpσ_2 ehpσ_2 kc_3 ahpσ_5 chpσ_5 dhpσ_5 ehpσ_5 kc_6 kc_7 ahpσ_9 chpσ_9 dhpσ_9 ehpσ_9 ahpσ_11 bhpσ_11 chpσ_11 ahpσ_13 chpσ_13 dhpσ_13 ehpσ_13 k4σ_13 smσ_13 onσ_13 if_14; omega) | omega)
  have kc_17 : (0 : Int32).toInt = 0 := rfl
  refine q_ci (q_runV (As := [.int 0, .int z_16]) (rest := []) E (hml.trans hl.1.symm) hI (c_X12_count l X σ_13 a (0 : Int32) z_16 ha (by first | exact sm_9 smσ_13 | exact hs | omega) (by first | (clear hs hz h4 k3σ ahpσ_2 dhpσ_2 ehpσ_2 kc_3 ahpσ_5 chpσ_5 dhpσ_5 ehpσ_5 kc_7 ahpσ_9 chpσ_9 dhpσ_9 ehpσ_9 ahpσ_11 bhpσ_11 chpσ_11 ahpσ_13 chpσ_13 dhpσ_13 ehpσ_13 k4σ_13 smσ_13 onσ_13 if_14 kc_17; omega) | omega)) kv_X12_223 ha ⟨rfl, by decide⟩ (show vwCl[11]? = some (RX12, TX12, 46) from rfl) rfl ⟨Nat.le_of_ble_eq_true rfl, Nat.le_of_ble_eq_true rfl⟩ ⟨Nat.le_refl _, Nat.le_refl _⟩ rfl (Nat.le_of_ble_eq_true rfl) dX12_readHand_43) hI (by decide) (fun r_18 σ_19 H locs hpσ_19 hkσ_19 hI => ?_)
  obtain ⟨ahpσ_19, bhpσ_19, chpσ_19, dhpσ_19, ehpσ_19⟩ := hpσ_19
  have fr_σ_19 := fr_σ_13.call ehpσ_19 rfl rfl
  replace hF := q_biX hF dhpσ_19
  have mcσ_19 := m_cK hkσ_19 hI.1 ha (by decide)
  have nnσ_19 : m_N (m_c X σ_19 a) := m_N.ext mcσ_19 nnσ_13
  have kpσ_19 : ∀ j, 0 ≤ j → j < 3720 → m_c X σ_19 a j = m_c X σ a j := fun j h0 h1 => (mcσ_19 j).trans (kpσ_13 j h0 h1)
  have k3σ_19 : m_c X σ_19 a 3720 = m_c X σ a 3720 ∧ m_c X σ_19 a 3721 = m_c X σ a 3721 := ⟨(mcσ_19 3720).trans k3σ_13.1, (mcσ_19 3721).trans k3σ_13.2⟩
  have k4σ_19 : 1 ≤ m_c X σ_19 a 3724 + 10 * (σ_19.1 a 12).toInt := (by have := mcσ_19 3724; omega)
  have smσ_19 : 0 ≤ (σ_19.1 a 15).toInt ∧ (σ_19.1 a 15).toInt ≤ (σ_19.1 a 16).toInt ∧ (σ_19.1 a 16).toInt ≤ (σ_19.1 a 9).toInt ∧ (σ_19.1 a 9).toInt ≤ 900 ∧ 0 ≤ (σ_19.1 a 14).toInt ∧ (σ_19.1 a 14).toInt ≤ 4 ∧ (σ_19.1 a 14).toInt ≤ 4 * ((σ_19.1 a 16).toInt - (σ_19.1 a 15).toInt) ∧ (σ_19.1 a 14).toInt ≤ 4 * ((σ_19.1 a 9).toInt - (σ_19.1 a 15).toInt) ∧ 0 ≤ (σ_19.1 a 12).toInt ∧ (σ_19.1 a 9).toInt = (σ.1 a 9).toInt ∧ (σ.1 a 15).toInt ≤ (σ_19.1 a 15).toInt ∧ (σ.1 a 12).toInt ≤ (σ_19.1 a 12).toInt := (by first | exact sm_tr smσ_13 bhpσ_19 | exact sm_tr smσ_13 chpσ_19 | omega)
  have onσ_19 : (σ.1 a 16).toInt ≤ (σ_19.1 a 15).toInt := (by first | (clear hs hz hk h4 k3σ ahpσ_2 dhpσ_2 ehpσ_2 k3σ_2 kc_3 ahpσ_5 chpσ_5 dhpσ_5 ehpσ_5 k3σ_5 kc_6 kc_7 ahpσ_9 chpσ_9 dhpσ_9 ehpσ_9 k3σ_9 ahpσ_11 bhpσ_11 chpσ_11 ahpσ_13 chpσ_13 dhpσ_13 ehpσ_13 k3σ_13 k4σ_13 smσ_13 if_15 iz_16 kc_17 ahpσ_19 chpσ_19 dhpσ_19 ehpσ_19 k3σ_19 k4σ_19 smσ_19; omega) | omega)
  clear k4σ_13 smσ_13 onσ_13 bhpσ_19
  refine lv_istore (lv' := [(4, .int r_18), (3, .int f_14), (2, .int r_8), (1, .int r_4), (0, .ref a)]) hx hb dX12_readHand_46 hl (by decide) rfl (fun ls hl => ?_)
  refine lv_bipush (v := 10) hx hb dX12_readHand_48 (by decide) ?_
  refine lv_iload_n hx hb dX12_readHand_50 rfl (lv_at hl 3 rfl) ?_
  refine lv_imul hx hb dX12_readHand_51 ?_
  refine lv_topi (fun z_20 ez_20 => ?_)
  replace hF := q_letX hF ez_20
  have iz_20 := q_mulI (A := 10) (B := r_4.toInt) ez_20 (by decide) rfl (by first | (clear hs hz hk h4 k3σ ahpσ_2 dhpσ_2 ehpσ_2 k3σ_2 kc_3 ahpσ_5 dhpσ_5 ehpσ_5 k3σ_5 kc_6 kc_7 ahpσ_9 chpσ_9 dhpσ_9 ehpσ_9 k3σ_9 ahpσ_11 bhpσ_11 chpσ_11 ahpσ_13 chpσ_13 dhpσ_13 ehpσ_13 k3σ_13 if_14 if_15 iz_16 kc_17 ahpσ_19 chpσ_19 dhpσ_19 ehpσ_19 k3σ_19 k4σ_19 smσ_19 onσ_19; omega) | omega) (by first | (clear hs hz hk h4 k3σ ahpσ_2 dhpσ_2 ehpσ_2 k3σ_2 kc_3 ahpσ_5 dhpσ_5 ehpσ_5 k3σ_5 kc_6 kc_7 ahpσ_9 chpσ_9 dhpσ_9 ehpσ_9 k3σ_9 ahpσ_11 bhpσ_11 chpσ_11 ahpσ_13 chpσ_13 dhpσ_13 ehpσ_13 k3σ_13 if_14 if_15 iz_16 kc_17 ahpσ_19 chpσ_19 dhpσ_19 ehpσ_19 k3σ_19 k4σ_19 smσ_19 onσ_19; omega) | omega)
  refine lv_iload hx hb dX12_readHand_52 (lv_at hl 0 rfl) ?_
  refine lv_iadd hx hb dX12_readHand_54 ?_
  refine lv_topi (fun z_21 ez_21 => ?_)
  replace hF := q_letX hF ez_21
  have iz_21 := q_addI (A := (10 * r_4.toInt)) (B := r_18.toInt) ez_21 iz_20 rfl (by first | (clear hs hz hk h4 k3σ ahpσ_2 dhpσ_2 ehpσ_2 k3σ_2 kc_3 ahpσ_5 dhpσ_5 ehpσ_5 k3σ_5 kc_6 kc_7 ahpσ_9 chpσ_9 dhpσ_9 ehpσ_9 k3σ_9 ahpσ_11 bhpσ_11 chpσ_11 ahpσ_13 chpσ_13 dhpσ_13 ehpσ_13 k3σ_13 if_14 if_15 iz_16 kc_17 ahpσ_19 dhpσ_19 ehpσ_19 k3σ_19 k4σ_19 smσ_19 onσ_19 iz_20; omega) | omega) (by first | (clear hs hz h4 k3σ ahpσ_2 dhpσ_2 ehpσ_2 kc_3 ahpσ_5 dhpσ_5 ehpσ_5 kc_6 kc_7 ahpσ_9 chpσ_9 dhpσ_9 ehpσ_9 ahpσ_11 bhpσ_11 chpσ_11 ahpσ_13 chpσ_13 dhpσ_13 ehpσ_13 if_14 kc_17 ahpσ_19 dhpσ_19 ehpσ_19 k4σ_19 smσ_19 onσ_19 iz_20; omega) | omega)
  refine lv_istore (lv' := [(5, .int z_21), (4, .int r_18), (3, .int f_14), (2, .int r_8), (1, .int r_4), (0, .ref a)]) hx hb dX12_readHand_55 hl (by decide) rfl (fun ls hl => ?_)
  refine lv_aload_n hx hb dX12_readHand_57 rfl (lv_at hl 5 rfl) ?_
  refine gs_X12_187_12 E hI ha dX12_readHand_58 ?_
  refine lv_topi (fun f_22 ef_22 => ?_)
  replace hF := q_letX hF ef_22
  have if_22 : f_22.toInt = (σ_19.1 a 12).toInt := congrArg Int32.toInt ef_22
  refine q_if_ne (A := f_22.toInt) E rfl (tgt := 100) dX12_readHand_61 (by decide) (fun c_23 => ?_) (fun c_23 => ?_)
  · skip
    replace hF := q_ifn hF c_23
    refine lv_aload_n hx hb dX12_readHand_100 rfl (lv_at hl 5 rfl) ?_
    refine gs_X12_187_12 E hI ha dX12_readHand_101 ?_
    refine lv_topi (fun f_24 ef_24 => ?_)
    replace hF := q_letX hF ef_24
    have if_24 : f_24.toInt = (σ_19.1 a 12).toInt := congrArg Int32.toInt ef_24
    refine q_if_le (A := f_24.toInt) E rfl (tgt := 108) dX12_readHand_104 (by decide) (fun c_25 => ?_) (fun c_25 => ?_)
    · skip
      replace hF := q_ifn hF (Int.not_lt.mpr c_25)
      refine lv_aload_n hx hb dX12_readHand_108 rfl (lv_at hl 5 rfl) ?_
      refine gs_X12_41_12 E hI ha dX12_readHand_109 ?_
      refine lv_iload hx hb dX12_readHand_112 (lv_at hl 0 rfl) ?_
      refine lv_iconst (v := 1) hx hb dX12_readHand_114 (by decide) ?_
      refine q_iastN E hI (q_tk (k' := 36) hI ha rfl (by decide)) ⟨by decide, rfl⟩ (by first | (clear hs hz h4 k3σ ahpσ_2 dhpσ_2 ehpσ_2 kc_3 ahpσ_5 dhpσ_5 ehpσ_5 kc_6 kc_7 ahpσ_9 chpσ_9 dhpσ_9 ehpσ_9 ahpσ_11 bhpσ_11 chpσ_11 ahpσ_13 chpσ_13 dhpσ_13 ehpσ_13 if_14 kc_17 ahpσ_19 dhpσ_19 ehpσ_19 k4σ_19 smσ_19 onσ_19 iz_20 if_22 c_23 if_24 c_25; omega) | omega) (by rw [q_lnk (v := 60) hI (q_tk (k' := 36) hI ha rfl (by decide)) rfl (by decide)]; omega) (show 1 < 9 by decide) (q_inU rfl) dX12_readHand_115 (fun H locs σ_26 hσ_26 hI => ?_)
      replace hF := q_letX hF hσ_26
      have fr_σ_26 := fr_σ_19.si hσ_26 (q_tk (k' := 36) hI ha rfl (by decide)) rfl
      have mv9_σ_26 : (σ_26.1 a 9).toInt = (σ_19.1 a 9).toInt := congrArg Int32.toInt ((hσ_26 ▸ (q_K.si (q_tk (k' := 36) hI ha rfl (by decide)) (show 8 < 9 by decide) : q_K 8 X σ_19 (q_si σ_19 (q_rf X a 22) (z_21 : Int32).toNatClampNeg _))) a 9 (by rw [ha]; decide))
      have mv12_σ_26 : (σ_26.1 a 12).toInt = (σ_19.1 a 12).toInt := congrArg Int32.toInt ((hσ_26 ▸ (q_K.si (q_tk (k' := 36) hI ha rfl (by decide)) (show 8 < 9 by decide) : q_K 8 X σ_19 (q_si σ_19 (q_rf X a 22) (z_21 : Int32).toNatClampNeg _))) a 12 (by rw [ha]; decide))
      have mv14_σ_26 : (σ_26.1 a 14).toInt = (σ_19.1 a 14).toInt := congrArg Int32.toInt ((hσ_26 ▸ (q_K.si (q_tk (k' := 36) hI ha rfl (by decide)) (show 8 < 9 by decide) : q_K 8 X σ_19 (q_si σ_19 (q_rf X a 22) (z_21 : Int32).toNatClampNeg _))) a 14 (by rw [ha]; decide))
      have mv15_σ_26 : (σ_26.1 a 15).toInt = (σ_19.1 a 15).toInt := congrArg Int32.toInt ((hσ_26 ▸ (q_K.si (q_tk (k' := 36) hI ha rfl (by decide)) (show 8 < 9 by decide) : q_K 8 X σ_19 (q_si σ_19 (q_rf X a 22) (z_21 : Int32).toNatClampNeg _))) a 15 (by rw [ha]; decide))
      have mv16_σ_26 : (σ_26.1 a 16).toInt = (σ_19.1 a 16).toInt := congrArg Int32.toInt ((hσ_26 ▸ (q_K.si (q_tk (k' := 36) hI ha rfl (by decide)) (show 8 < 9 by decide) : q_K 8 X σ_19 (q_si σ_19 (q_rf X a 22) (z_21 : Int32).toNatClampNeg _))) a 16 (by rw [ha]; decide))
      have mcσ_26 := m_wo hσ_26 (m_ne (q_tk (k' := 36) hI ha rfl (by decide)) (q_tk (f := 20) (k' := 34) hI ha rfl (by decide)) (by decide))
      have nnσ_26 : m_N (m_c X σ_26 a) := m_N.ext mcσ_26 nnσ_19
      have kpσ_26 : ∀ j, 0 ≤ j → j < 3720 → m_c X σ_26 a j = m_c X σ a j := fun j h0 h1 => (mcσ_26 j).trans (kpσ_19 j h0 h1)
      have k3σ_26 : m_c X σ_26 a 3720 = m_c X σ a 3720 ∧ m_c X σ_26 a 3721 = m_c X σ a 3721 := ⟨(mcσ_26 3720).trans k3σ_19.1, (mcσ_26 3721).trans k3σ_19.2⟩
      have k4σ_26 : 1 ≤ m_c X σ_26 a 3724 + 10 * (σ_26.1 a 12).toInt := (by have := mcσ_26 3724; omega)
      have smσ_26 : 0 ≤ (σ_26.1 a 15).toInt ∧ (σ_26.1 a 15).toInt ≤ (σ_26.1 a 16).toInt ∧ (σ_26.1 a 16).toInt ≤ (σ_26.1 a 9).toInt ∧ (σ_26.1 a 9).toInt ≤ 900 ∧ 0 ≤ (σ_26.1 a 14).toInt ∧ (σ_26.1 a 14).toInt ≤ 4 ∧ (σ_26.1 a 14).toInt ≤ 4 * ((σ_26.1 a 16).toInt - (σ_26.1 a 15).toInt) ∧ (σ_26.1 a 14).toInt ≤ 4 * ((σ_26.1 a 9).toInt - (σ_26.1 a 15).toInt) ∧ 0 ≤ (σ_26.1 a 12).toInt ∧ (σ_26.1 a 9).toInt = (σ.1 a 9).toInt ∧ (σ.1 a 15).toInt ≤ (σ_26.1 a 15).toInt ∧ (σ.1 a 12).toInt ≤ (σ_26.1 a 12).toInt := (by first | (rw [mv12_σ_26, mv14_σ_26, mv15_σ_26, mv16_σ_26, mv9_σ_26]; exact smσ_19) | omega)
      have onσ_26 : (σ.1 a 16).toInt ≤ (σ_26.1 a 15).toInt := (by first | (clear hs hz hk h4 k3σ ahpσ_2 dhpσ_2 ehpσ_2 k3σ_2 kc_3 ahpσ_5 chpσ_5 dhpσ_5 ehpσ_5 k3σ_5 kc_6 kc_7 ahpσ_9 chpσ_9 dhpσ_9 ehpσ_9 k3σ_9 ahpσ_11 bhpσ_11 chpσ_11 ahpσ_13 chpσ_13 dhpσ_13 ehpσ_13 k3σ_13 if_14 if_15 iz_16 kc_17 ahpσ_19 chpσ_19 dhpσ_19 ehpσ_19 k3σ_19 k4σ_19 smσ_19 iz_20 iz_21 if_22 c_23 if_24 c_25 mv9_σ_26 mv12_σ_26 mv14_σ_26 mv16_σ_26 k3σ_26 k4σ_26 smσ_26; omega) | omega)
      clear mv9_σ_26 mv12_σ_26 mv14_σ_26 mv15_σ_26 mv16_σ_26 k4σ_19 smσ_19 onσ_19
      refine lv_aload_n hx hb dX12_readHand_116 rfl (lv_at hl 5 rfl) ?_
      refine gs_X12_35_12 E hI ha dX12_readHand_117 ?_
      refine lv_sipush (v := 3754) hx hb dX12_readHand_120 (by decide) ?_
      refine lv_iload hx hb dX12_readHand_123 (lv_at hl 0 rfl) ?_
      refine lv_iadd hx hb dX12_readHand_125 ?_
      refine lv_topi (fun z_27 ez_27 => ?_)
      replace hF := q_letX hF ez_27
      have iz_27 := q_addI (A := 3754) (B := ((10 * r_4.toInt) + r_18.toInt)) ez_27 (by decide) iz_21 (by first | (clear hs hz hk h4 k3σ ahpσ_2 dhpσ_2 ehpσ_2 k3σ_2 kc_3 ahpσ_5 dhpσ_5 ehpσ_5 k3σ_5 kc_7 ahpσ_9 chpσ_9 dhpσ_9 ehpσ_9 k3σ_9 ahpσ_11 bhpσ_11 chpσ_11 ahpσ_13 chpσ_13 dhpσ_13 ehpσ_13 k3σ_13 if_14 if_15 iz_16 kc_17 ahpσ_19 dhpσ_19 ehpσ_19 k3σ_19 iz_20 c_23 k3σ_26 k4σ_26 smσ_26 onσ_26; omega) | omega) (by first | (clear hs hz h4 k3σ ahpσ_2 dhpσ_2 ehpσ_2 kc_3 ahpσ_5 dhpσ_5 ehpσ_5 kc_6 kc_7 ahpσ_9 chpσ_9 dhpσ_9 ehpσ_9 ahpσ_11 bhpσ_11 chpσ_11 ahpσ_13 chpσ_13 dhpσ_13 ehpσ_13 if_14 kc_17 ahpσ_19 dhpσ_19 ehpσ_19 iz_20 if_22 c_23 if_24 c_25 k4σ_26 smσ_26 onσ_26; omega) | omega)
      refine lv_iload_n hx hb dX12_readHand_126 rfl (lv_at hl 3 rfl) ?_
      refine q_iastN E hI (q_tk (k' := 34) hI ha rfl (by decide)) ⟨by decide, rfl⟩ (by first | (clear hs hz h4 k3σ ahpσ_2 dhpσ_2 ehpσ_2 kc_3 ahpσ_5 dhpσ_5 ehpσ_5 kc_6 kc_7 ahpσ_9 chpσ_9 dhpσ_9 ehpσ_9 ahpσ_11 bhpσ_11 chpσ_11 ahpσ_13 chpσ_13 dhpσ_13 ehpσ_13 if_14 kc_17 ahpσ_19 dhpσ_19 ehpσ_19 iz_20 if_22 c_23 if_24 c_25 k4σ_26 smσ_26 onσ_26; omega) | omega) (by rw [q_lnk (v := 4650) hI (q_tk (k' := 34) hI ha rfl (by decide)) rfl (by decide)]; omega) (show 1 < 2 by decide) (q_inU rfl) dX12_readHand_127 (fun H locs σ_28 hσ_28 hI => ?_)
      replace hF := q_letX hF hσ_28
      have fr_σ_28 := fr_σ_26.si hσ_28 (q_tk (k' := 34) hI ha rfl (by decide)) rfl
      have mv9_σ_28 : (σ_28.1 a 9).toInt = (σ_26.1 a 9).toInt := congrArg Int32.toInt (q_rdn hσ_28 (Or.inl (m_ne ha (q_tk (k' := 34) hI ha rfl (by decide)) (by decide))))
      have mv12_σ_28 : (σ_28.1 a 12).toInt = (σ_26.1 a 12).toInt := congrArg Int32.toInt (q_rdn hσ_28 (Or.inl (m_ne ha (q_tk (k' := 34) hI ha rfl (by decide)) (by decide))))
      have mv14_σ_28 : (σ_28.1 a 14).toInt = (σ_26.1 a 14).toInt := congrArg Int32.toInt (q_rdn hσ_28 (Or.inl (m_ne ha (q_tk (k' := 34) hI ha rfl (by decide)) (by decide))))
      have mv15_σ_28 : (σ_28.1 a 15).toInt = (σ_26.1 a 15).toInt := congrArg Int32.toInt (q_rdn hσ_28 (Or.inl (m_ne ha (q_tk (k' := 34) hI ha rfl (by decide)) (by decide))))
      have mv16_σ_28 : (σ_28.1 a 16).toInt = (σ_26.1 a 16).toInt := congrArg Int32.toInt (q_rdn hσ_28 (Or.inl (m_ne ha (q_tk (k' := 34) hI ha rfl (by decide)) (by decide))))
      have mcσ_28 := m_wr (v := r_8) (A := (3754 + ((10 * r_4.toInt) + r_18.toInt))) hσ_28 iz_27 (by first | (clear hs hz h4 k3σ ahpσ_2 dhpσ_2 ehpσ_2 kc_3 ahpσ_5 dhpσ_5 ehpσ_5 kc_6 kc_7 ahpσ_9 chpσ_9 dhpσ_9 ehpσ_9 ahpσ_11 bhpσ_11 chpσ_11 ahpσ_13 chpσ_13 dhpσ_13 ehpσ_13 if_14 kc_17 ahpσ_19 dhpσ_19 ehpσ_19 iz_20 if_22 c_23 if_24 c_25 k4σ_26 smσ_26 onσ_26 mv9_σ_28 mv12_σ_28 mv14_σ_28 mv15_σ_28 mv16_σ_28; omega) | omega)
      have nnσ_28 : m_N (m_c X σ_28 a) := m_N.hand nnσ_26 (by first | (clear hs hz hk h4 k3σ ahpσ_2 dhpσ_2 ehpσ_2 k3σ_2 kc_3 ahpσ_5 dhpσ_5 ehpσ_5 k3σ_5 kc_6 kc_7 ahpσ_9 chpσ_9 dhpσ_9 ehpσ_9 k3σ_9 ahpσ_11 bhpσ_11 chpσ_11 ahpσ_13 chpσ_13 dhpσ_13 ehpσ_13 k3σ_13 if_14 if_15 iz_16 kc_17 ahpσ_19 chpσ_19 dhpσ_19 ehpσ_19 k3σ_19 iz_20 iz_21 if_22 c_23 if_24 c_25 k3σ_26 k4σ_26 smσ_26 onσ_26 iz_27 mv9_σ_28 mv12_σ_28 mv14_σ_28 mv15_σ_28 mv16_σ_28; omega) | omega) (by first | (clear hs hz h4 k3σ ahpσ_2 dhpσ_2 ehpσ_2 kc_3 ahpσ_5 chpσ_5 dhpσ_5 ehpσ_5 kc_6 kc_7 ahpσ_9 chpσ_9 dhpσ_9 ehpσ_9 ahpσ_11 bhpσ_11 chpσ_11 ahpσ_13 chpσ_13 dhpσ_13 ehpσ_13 if_14 kc_17 ahpσ_19 dhpσ_19 ehpσ_19 iz_20 if_22 c_23 if_24 c_25 k4σ_26 smσ_26 onσ_26 mv9_σ_28 mv12_σ_28 mv14_σ_28 mv15_σ_28 mv16_σ_28; omega) | omega) (by first | (clear hs hz hk h4 k3σ ahpσ_2 dhpσ_2 ehpσ_2 kc_3 ahpσ_5 chpσ_5 dhpσ_5 ehpσ_5 kc_6 kc_7 ahpσ_9 chpσ_9 dhpσ_9 ehpσ_9 ahpσ_11 bhpσ_11 chpσ_11 ahpσ_13 chpσ_13 dhpσ_13 ehpσ_13 if_14 kc_17 ahpσ_19 dhpσ_19 ehpσ_19 iz_20 if_22 c_23 if_24 c_25 k4σ_26 smσ_26 onσ_26 mv9_σ_28 mv12_σ_28 mv14_σ_28 mv15_σ_28 mv16_σ_28; omega) | omega) mcσ_28 (by first | (clear hs hz hk h4 k3σ ahpσ_2 dhpσ_2 ehpσ_2 k3σ_2 kc_3 ahpσ_5 chpσ_5 dhpσ_5 ehpσ_5 k3σ_5 kc_6 ahpσ_9 dhpσ_9 ehpσ_9 k3σ_9 ahpσ_11 bhpσ_11 chpσ_11 ahpσ_13 chpσ_13 dhpσ_13 ehpσ_13 k3σ_13 if_14 if_15 iz_16 kc_17 ahpσ_19 chpσ_19 dhpσ_19 ehpσ_19 k3σ_19 iz_20 iz_21 if_22 c_23 if_24 c_25 k3σ_26 k4σ_26 smσ_26 onσ_26 iz_27 mv9_σ_28 mv12_σ_28 mv14_σ_28 mv15_σ_28 mv16_σ_28; omega) | omega) (by rw [funext mcσ_26]; omega)
      have kpσ_28 : ∀ j, 0 ≤ j → j < 3720 → m_c X σ_28 a j = m_c X σ a j := fun j h0 h1 => by rw [mcσ_28 j h0, if_neg (by first | (clear hs hz h4 k3σ ahpσ_2 dhpσ_2 ehpσ_2 kc_3 ahpσ_5 dhpσ_5 ehpσ_5 kc_6 kc_7 ahpσ_9 chpσ_9 dhpσ_9 ehpσ_9 ahpσ_11 bhpσ_11 chpσ_11 ahpσ_13 chpσ_13 dhpσ_13 ehpσ_13 if_14 kc_17 ahpσ_19 dhpσ_19 ehpσ_19 iz_20 if_22 c_23 if_24 c_25 k4σ_26 smσ_26 onσ_26 mv9_σ_28 mv12_σ_28 mv14_σ_28 mv15_σ_28 mv16_σ_28; omega) | omega)]; exact kpσ_26 j h0 h1
      have k3σ_28 : m_c X σ_28 a 3720 = m_c X σ a 3720 ∧ m_c X σ_28 a 3721 = m_c X σ a 3721 := ⟨by rw [mcσ_28 3720 (by decide), if_neg (by first | (clear hs hz h4 k3σ ahpσ_2 dhpσ_2 ehpσ_2 kc_3 ahpσ_5 dhpσ_5 ehpσ_5 kc_6 kc_7 ahpσ_9 chpσ_9 dhpσ_9 ehpσ_9 ahpσ_11 bhpσ_11 chpσ_11 ahpσ_13 chpσ_13 dhpσ_13 ehpσ_13 if_14 kc_17 ahpσ_19 dhpσ_19 ehpσ_19 iz_20 if_22 c_23 if_24 c_25 k4σ_26 smσ_26 onσ_26 mv9_σ_28 mv12_σ_28 mv14_σ_28 mv15_σ_28 mv16_σ_28; omega) | omega)]; exact k3σ_26.1, by rw [mcσ_28 3721 (by decide), if_neg (by first | (clear hs hz h4 k3σ ahpσ_2 dhpσ_2 ehpσ_2 kc_3 ahpσ_5 dhpσ_5 ehpσ_5 kc_6 kc_7 ahpσ_9 chpσ_9 dhpσ_9 ehpσ_9 ahpσ_11 bhpσ_11 chpσ_11 ahpσ_13 chpσ_13 dhpσ_13 ehpσ_13 if_14 kc_17 ahpσ_19 dhpσ_19 ehpσ_19 iz_20 if_22 c_23 if_24 c_25 k4σ_26 smσ_26 onσ_26 mv9_σ_28 mv12_σ_28 mv14_σ_28 mv15_σ_28 mv16_σ_28; omega) | omega)]; exact k3σ_26.2⟩
      have k4σ_28 : 1 ≤ m_c X σ_28 a 3724 + 10 * (σ_28.1 a 12).toInt := (by have := mcσ_28 3724 (by decide); rw [if_neg (by first | (clear hs hz hk h4 k3σ ahpσ_2 dhpσ_2 ehpσ_2 k3σ_2 kc_3 ahpσ_5 dhpσ_5 ehpσ_5 k3σ_5 kc_6 kc_7 ahpσ_9 chpσ_9 dhpσ_9 ehpσ_9 k3σ_9 ahpσ_11 bhpσ_11 chpσ_11 ahpσ_13 chpσ_13 dhpσ_13 ehpσ_13 k3σ_13 if_14 if_15 iz_16 kc_17 ahpσ_19 dhpσ_19 ehpσ_19 k3σ_19 iz_20 if_22 c_23 if_24 c_25 k3σ_26 k4σ_26 smσ_26 onσ_26 mv9_σ_28 mv12_σ_28 mv14_σ_28 mv15_σ_28 mv16_σ_28 k3σ_28; omega) | omega)] at this; omega)
      have smσ_28 : 0 ≤ (σ_28.1 a 15).toInt ∧ (σ_28.1 a 15).toInt ≤ (σ_28.1 a 16).toInt ∧ (σ_28.1 a 16).toInt ≤ (σ_28.1 a 9).toInt ∧ (σ_28.1 a 9).toInt ≤ 900 ∧ 0 ≤ (σ_28.1 a 14).toInt ∧ (σ_28.1 a 14).toInt ≤ 4 ∧ (σ_28.1 a 14).toInt ≤ 4 * ((σ_28.1 a 16).toInt - (σ_28.1 a 15).toInt) ∧ (σ_28.1 a 14).toInt ≤ 4 * ((σ_28.1 a 9).toInt - (σ_28.1 a 15).toInt) ∧ 0 ≤ (σ_28.1 a 12).toInt ∧ (σ_28.1 a 9).toInt = (σ.1 a 9).toInt ∧ (σ.1 a 15).toInt ≤ (σ_28.1 a 15).toInt ∧ (σ.1 a 12).toInt ≤ (σ_28.1 a 12).toInt := (by first | (rw [mv12_σ_28, mv14_σ_28, mv15_σ_28, mv16_σ_28, mv9_σ_28]; exact smσ_26) | omega)
      have onσ_28 : (σ.1 a 16).toInt ≤ (σ_28.1 a 15).toInt := (by first | (clear hs hz hk h4 k3σ ahpσ_2 dhpσ_2 ehpσ_2 k3σ_2 kc_3 ahpσ_5 chpσ_5 dhpσ_5 ehpσ_5 k3σ_5 kc_6 kc_7 ahpσ_9 chpσ_9 dhpσ_9 ehpσ_9 k3σ_9 ahpσ_11 bhpσ_11 chpσ_11 ahpσ_13 chpσ_13 dhpσ_13 ehpσ_13 k3σ_13 if_14 if_15 iz_16 kc_17 ahpσ_19 chpσ_19 dhpσ_19 ehpσ_19 k3σ_19 iz_20 iz_21 if_22 c_23 if_24 c_25 k3σ_26 k4σ_26 smσ_26 iz_27 mv9_σ_28 mv12_σ_28 mv14_σ_28 mv16_σ_28 k3σ_28 k4σ_28 smσ_28; omega) | omega)
      clear mv9_σ_28 mv12_σ_28 mv14_σ_28 mv15_σ_28 mv16_σ_28 k4σ_26 smσ_26 onσ_26
      exact q_retv E hr hlk hI ⟨nnσ_28, kpσ_28, (by first | exact smσ_28 | omega), (by first | exact smσ_28 | omega), k3σ_28, k4σ_28, (hF.trans hout), fr_σ_28⟩ dX12_readHand_128
    · skip
      replace hF := q_ifp hF c_25
      exact q_retv E hr hlk hI ⟨nnσ_19, kpσ_19, (by first | exact smσ_19 | omega), (by first | exact smσ_19 | omega), k3σ_19, k4σ_19, (hF.trans hout), fr_σ_19⟩ dX12_readHand_107
  · skip
    replace hF := q_ifp hF c_23
    refine lv_aload_n hx hb dX12_readHand_64 rfl (lv_at hl 5 rfl) ?_
    refine gs_X12_41_12 E hI ha dX12_readHand_65 ?_
    refine lv_iload hx hb dX12_readHand_68 (lv_at hl 0 rfl) ?_
    refine q_iald E hI (q_tk (k' := 36) hI ha rfl (by decide)) ⟨by decide, rfl⟩ (by first | (clear hs hz hk h4 k3σ ahpσ_2 dhpσ_2 ehpσ_2 k3σ_2 kc_3 ahpσ_5 dhpσ_5 ehpσ_5 k3σ_5 kc_7 ahpσ_9 chpσ_9 dhpσ_9 ehpσ_9 k3σ_9 ahpσ_11 bhpσ_11 chpσ_11 ahpσ_13 chpσ_13 dhpσ_13 ehpσ_13 k3σ_13 if_14 if_15 iz_16 kc_17 ahpσ_19 dhpσ_19 ehpσ_19 k3σ_19 iz_20; omega) | omega) (by rw [q_lnk (v := 60) hI (q_tk (k' := 36) hI ha rfl (by decide)) rfl (by decide)]; omega) dX12_readHand_70 ?_
    refine lv_topi (fun f_29 ef_29 => ?_)
    replace hF := q_letX hF ef_29
    refine lv_iconst (v := 1) hx hb dX12_readHand_71 (by decide) ?_
    refine q_icmp_eq (A := f_29.toInt) (B := 1) E rfl (by decide) (tgt := 94) dX12_readHand_72 (by decide) (fun c_30 => ?_) (fun c_30 => ?_)
    · skip
      replace hF := q_ifp hF c_30
      refine lv_aload_n hx hb dX12_readHand_94 rfl (lv_at hl 5 rfl) ?_
      refine lv_iconst (v := 5) hx hb dX12_readHand_95 (by decide) ?_
      refine lv_iload_n hx hb dX12_readHand_96 rfl (lv_at hl 2 rfl) ?_
      have kc_31 : (5 : Int32).toInt = 5 := rfl
      refine q_cv (q_runV (As := [.int 5, .int f_14]) (rest := []) E (hml.trans hl.1.symm) hI (c_X12_fail l X σ_19 a (5 : Int32) f_14 ha (by first | (clear hs hz hk h4 k3σ ahpσ_2 dhpσ_2 ehpσ_2 k3σ_2 kc_3 ahpσ_5 chpσ_5 dhpσ_5 ehpσ_5 k3σ_5 kc_6 kc_7 ahpσ_9 chpσ_9 dhpσ_9 ehpσ_9 k3σ_9 ahpσ_11 bhpσ_11 chpσ_11 ahpσ_13 chpσ_13 dhpσ_13 ehpσ_13 k3σ_13 if_14 if_15 iz_16 kc_17 ahpσ_19 chpσ_19 dhpσ_19 ehpσ_19 k3σ_19 iz_20 iz_21 c_30 kc_31; omega) | omega) (by first | (clear hs hz hk h4 k3σ ahpσ_2 dhpσ_2 ehpσ_2 k3σ_2 kc_3 ahpσ_5 chpσ_5 dhpσ_5 ehpσ_5 k3σ_5 kc_6 kc_7 ahpσ_9 chpσ_9 dhpσ_9 ehpσ_9 k3σ_9 ahpσ_11 bhpσ_11 chpσ_11 ahpσ_13 chpσ_13 dhpσ_13 ehpσ_13 k3σ_13 if_14 if_15 iz_16 kc_17 ahpσ_19 chpσ_19 dhpσ_19 ehpσ_19 k3σ_19 iz_20 iz_21 if_22 c_23 c_30; omega) | omega)) kv_X12_193 ha ⟨rfl, by decide⟩ (show vwCl[11]? = some (RX12, TX12, 46) from rfl) rfl ⟨Nat.le_of_ble_eq_true rfl, Nat.le_of_ble_eq_true rfl⟩ ⟨Nat.le_refl _, Nat.le_refl _⟩ rfl (Nat.le_of_ble_eq_true rfl) dX12_readHand_97) hI (by decide) (fun σ_33 H locs hpσ_33 hkσ_33 hI => ?_)
      obtain ⟨ahpσ_33, bhpσ_33, chpσ_33, dhpσ_33, ehpσ_33⟩ := hpσ_33
      have fr_σ_33 := fr_σ_19.call ehpσ_33 rfl rfl
      replace hF := q_letX hF dhpσ_33
      have mcσ_33 := m_cK hkσ_33 hI.1 ha (by decide)
      have nnσ_33 : m_N (m_c X σ_33 a) := m_N.ext mcσ_33 nnσ_19
      have kpσ_33 : ∀ j, 0 ≤ j → j < 3720 → m_c X σ_33 a j = m_c X σ a j := fun j h0 h1 => (mcσ_33 j).trans (kpσ_19 j h0 h1)
      have k3σ_33 : m_c X σ_33 a 3720 = m_c X σ a 3720 ∧ m_c X σ_33 a 3721 = m_c X σ a 3721 := ⟨(mcσ_33 3720).trans k3σ_19.1, (mcσ_33 3721).trans k3σ_19.2⟩
      have k4σ_33 : 1 ≤ m_c X σ_33 a 3724 + 10 * (σ_33.1 a 12).toInt := (by have := mcσ_33 3724; omega)
      have smσ_33 : 0 ≤ (σ_33.1 a 15).toInt ∧ (σ_33.1 a 15).toInt ≤ (σ_33.1 a 16).toInt ∧ (σ_33.1 a 16).toInt ≤ (σ_33.1 a 9).toInt ∧ (σ_33.1 a 9).toInt ≤ 900 ∧ 0 ≤ (σ_33.1 a 14).toInt ∧ (σ_33.1 a 14).toInt ≤ 4 ∧ (σ_33.1 a 14).toInt ≤ 4 * ((σ_33.1 a 16).toInt - (σ_33.1 a 15).toInt) ∧ (σ_33.1 a 14).toInt ≤ 4 * ((σ_33.1 a 9).toInt - (σ_33.1 a 15).toInt) ∧ 0 ≤ (σ_33.1 a 12).toInt ∧ (σ_33.1 a 9).toInt = (σ.1 a 9).toInt ∧ (σ.1 a 15).toInt ≤ (σ_33.1 a 15).toInt ∧ (σ.1 a 12).toInt ≤ (σ_33.1 a 12).toInt := (by first | exact sm_fl smσ_19 bhpσ_33 chpσ_33 | omega)
      have onσ_33 : (σ.1 a 16).toInt ≤ (σ_33.1 a 15).toInt := (by first | (clear hs hz hk h4 k3σ ahpσ_2 dhpσ_2 ehpσ_2 k3σ_2 kc_3 ahpσ_5 chpσ_5 dhpσ_5 ehpσ_5 k3σ_5 kc_6 kc_7 ahpσ_9 chpσ_9 dhpσ_9 ehpσ_9 k3σ_9 ahpσ_11 bhpσ_11 chpσ_11 ahpσ_13 chpσ_13 dhpσ_13 ehpσ_13 k3σ_13 if_14 if_15 iz_16 kc_17 ahpσ_19 chpσ_19 dhpσ_19 ehpσ_19 k3σ_19 iz_20 iz_21 if_22 c_23 c_30 kc_31 ahpσ_33 chpσ_33 dhpσ_33 ehpσ_33 k3σ_33 k4σ_33 smσ_33; omega) | omega)
      clear k4σ_19 smσ_19 onσ_19 bhpσ_33
      refine lv_aload_n hx hb dX12_readHand_100 rfl (lv_at hl 5 rfl) ?_
      refine gs_X12_187_12 E hI ha dX12_readHand_101 ?_
      refine lv_topi (fun f_34 ef_34 => ?_)
      replace hF := q_letX hF ef_34
      have if_34 : f_34.toInt = (σ_33.1 a 12).toInt := congrArg Int32.toInt ef_34
      refine q_if_le (A := f_34.toInt) E rfl (tgt := 108) dX12_readHand_104 (by decide) (fun c_35 => ?_) (fun c_35 => ?_)
      · skip
        replace hF := q_ifn hF (Int.not_lt.mpr c_35)
        refine lv_aload_n hx hb dX12_readHand_108 rfl (lv_at hl 5 rfl) ?_
        refine gs_X12_41_12 E hI ha dX12_readHand_109 ?_
        refine lv_iload hx hb dX12_readHand_112 (lv_at hl 0 rfl) ?_
        refine lv_iconst (v := 1) hx hb dX12_readHand_114 (by decide) ?_
        refine q_iastN E hI (q_tk (k' := 36) hI ha rfl (by decide)) ⟨by decide, rfl⟩ (by first | (clear hs hz hk h4 k3σ ahpσ_2 dhpσ_2 ehpσ_2 k3σ_2 kc_3 ahpσ_5 chpσ_5 dhpσ_5 ehpσ_5 k3σ_5 kc_6 kc_7 ahpσ_9 chpσ_9 dhpσ_9 ehpσ_9 k3σ_9 ahpσ_11 bhpσ_11 chpσ_11 ahpσ_13 chpσ_13 dhpσ_13 ehpσ_13 k3σ_13 if_14 if_15 iz_16 kc_17 ahpσ_19 chpσ_19 dhpσ_19 ehpσ_19 k3σ_19 iz_20 iz_21 if_22 c_23 c_30 kc_31 ahpσ_33 dhpσ_33 ehpσ_33 k3σ_33 k4σ_33 smσ_33 onσ_33; omega) | omega) (by rw [q_lnk (v := 60) hI (q_tk (k' := 36) hI ha rfl (by decide)) rfl (by decide)]; omega) (show 1 < 9 by decide) (q_inU rfl) dX12_readHand_115 (fun H locs σ_36 hσ_36 hI => ?_)
        replace hF := q_letX hF hσ_36
        have fr_σ_36 := fr_σ_33.si hσ_36 (q_tk (k' := 36) hI ha rfl (by decide)) rfl
        have mv9_σ_36 : (σ_36.1 a 9).toInt = (σ_33.1 a 9).toInt := congrArg Int32.toInt ((hσ_36 ▸ (q_K.si (q_tk (k' := 36) hI ha rfl (by decide)) (show 8 < 9 by decide) : q_K 8 X σ_33 (q_si σ_33 (q_rf X a 22) (z_21 : Int32).toNatClampNeg _))) a 9 (by rw [ha]; decide))
        have mv12_σ_36 : (σ_36.1 a 12).toInt = (σ_33.1 a 12).toInt := congrArg Int32.toInt ((hσ_36 ▸ (q_K.si (q_tk (k' := 36) hI ha rfl (by decide)) (show 8 < 9 by decide) : q_K 8 X σ_33 (q_si σ_33 (q_rf X a 22) (z_21 : Int32).toNatClampNeg _))) a 12 (by rw [ha]; decide))
        have mv14_σ_36 : (σ_36.1 a 14).toInt = (σ_33.1 a 14).toInt := congrArg Int32.toInt ((hσ_36 ▸ (q_K.si (q_tk (k' := 36) hI ha rfl (by decide)) (show 8 < 9 by decide) : q_K 8 X σ_33 (q_si σ_33 (q_rf X a 22) (z_21 : Int32).toNatClampNeg _))) a 14 (by rw [ha]; decide))
        have mv15_σ_36 : (σ_36.1 a 15).toInt = (σ_33.1 a 15).toInt := congrArg Int32.toInt ((hσ_36 ▸ (q_K.si (q_tk (k' := 36) hI ha rfl (by decide)) (show 8 < 9 by decide) : q_K 8 X σ_33 (q_si σ_33 (q_rf X a 22) (z_21 : Int32).toNatClampNeg _))) a 15 (by rw [ha]; decide))
        have mv16_σ_36 : (σ_36.1 a 16).toInt = (σ_33.1 a 16).toInt := congrArg Int32.toInt ((hσ_36 ▸ (q_K.si (q_tk (k' := 36) hI ha rfl (by decide)) (show 8 < 9 by decide) : q_K 8 X σ_33 (q_si σ_33 (q_rf X a 22) (z_21 : Int32).toNatClampNeg _))) a 16 (by rw [ha]; decide))
        have mcσ_36 := m_wo hσ_36 (m_ne (q_tk (k' := 36) hI ha rfl (by decide)) (q_tk (f := 20) (k' := 34) hI ha rfl (by decide)) (by decide))
        have nnσ_36 : m_N (m_c X σ_36 a) := m_N.ext mcσ_36 nnσ_33
        have kpσ_36 : ∀ j, 0 ≤ j → j < 3720 → m_c X σ_36 a j = m_c X σ a j := fun j h0 h1 => (mcσ_36 j).trans (kpσ_33 j h0 h1)
        have k3σ_36 : m_c X σ_36 a 3720 = m_c X σ a 3720 ∧ m_c X σ_36 a 3721 = m_c X σ a 3721 := ⟨(mcσ_36 3720).trans k3σ_33.1, (mcσ_36 3721).trans k3σ_33.2⟩
        have k4σ_36 : 1 ≤ m_c X σ_36 a 3724 + 10 * (σ_36.1 a 12).toInt := (by have := mcσ_36 3724; omega)
        have smσ_36 : 0 ≤ (σ_36.1 a 15).toInt ∧ (σ_36.1 a 15).toInt ≤ (σ_36.1 a 16).toInt ∧ (σ_36.1 a 16).toInt ≤ (σ_36.1 a 9).toInt ∧ (σ_36.1 a 9).toInt ≤ 900 ∧ 0 ≤ (σ_36.1 a 14).toInt ∧ (σ_36.1 a 14).toInt ≤ 4 ∧ (σ_36.1 a 14).toInt ≤ 4 * ((σ_36.1 a 16).toInt - (σ_36.1 a 15).toInt) ∧ (σ_36.1 a 14).toInt ≤ 4 * ((σ_36.1 a 9).toInt - (σ_36.1 a 15).toInt) ∧ 0 ≤ (σ_36.1 a 12).toInt ∧ (σ_36.1 a 9).toInt = (σ.1 a 9).toInt ∧ (σ.1 a 15).toInt ≤ (σ_36.1 a 15).toInt ∧ (σ.1 a 12).toInt ≤ (σ_36.1 a 12).toInt := (by first | (rw [mv12_σ_36, mv14_σ_36, mv15_σ_36, mv16_σ_36, mv9_σ_36]; exact smσ_33) | omega)
        have onσ_36 : (σ.1 a 16).toInt ≤ (σ_36.1 a 15).toInt := (by first | (clear hs hz hk h4 k3σ ahpσ_2 dhpσ_2 ehpσ_2 k3σ_2 kc_3 ahpσ_5 chpσ_5 dhpσ_5 ehpσ_5 k3σ_5 kc_6 kc_7 ahpσ_9 chpσ_9 dhpσ_9 ehpσ_9 k3σ_9 ahpσ_11 bhpσ_11 chpσ_11 ahpσ_13 chpσ_13 dhpσ_13 ehpσ_13 k3σ_13 if_14 if_15 iz_16 kc_17 ahpσ_19 chpσ_19 dhpσ_19 ehpσ_19 k3σ_19 iz_20 iz_21 if_22 c_23 c_30 kc_31 ahpσ_33 dhpσ_33 ehpσ_33 k3σ_33 k4σ_33 smσ_33 onσ_33 mv9_σ_36 mv12_σ_36 mv14_σ_36 mv15_σ_36 mv16_σ_36 k3σ_36 k4σ_36 smσ_36; omega) | omega)
        clear mv9_σ_36 mv12_σ_36 mv14_σ_36 mv15_σ_36 mv16_σ_36 k4σ_33 smσ_33 onσ_33
        refine lv_aload_n hx hb dX12_readHand_116 rfl (lv_at hl 5 rfl) ?_
        refine gs_X12_35_12 E hI ha dX12_readHand_117 ?_
        refine lv_sipush (v := 3754) hx hb dX12_readHand_120 (by decide) ?_
        refine lv_iload hx hb dX12_readHand_123 (lv_at hl 0 rfl) ?_
        refine lv_iadd hx hb dX12_readHand_125 ?_
        refine lv_topi (fun z_37 ez_37 => ?_)
        replace hF := q_letX hF ez_37
        have iz_37 := q_addI (A := 3754) (B := ((10 * r_4.toInt) + r_18.toInt)) ez_37 (by decide) iz_21 (by first | (clear hs hz hk h4 k3σ ahpσ_2 dhpσ_2 ehpσ_2 k3σ_2 kc_3 ahpσ_5 chpσ_5 dhpσ_5 ehpσ_5 k3σ_5 kc_6 kc_7 ahpσ_9 chpσ_9 dhpσ_9 ehpσ_9 k3σ_9 ahpσ_11 bhpσ_11 chpσ_11 ahpσ_13 chpσ_13 dhpσ_13 ehpσ_13 k3σ_13 if_14 if_15 iz_16 kc_17 ahpσ_19 chpσ_19 dhpσ_19 ehpσ_19 k3σ_19 iz_20 iz_21 if_22 c_23 c_30 kc_31 ahpσ_33 dhpσ_33 ehpσ_33 k3σ_33 k3σ_36 k4σ_36 smσ_36 onσ_36; omega) | omega) (by first | (clear hs hz hk h4 k3σ ahpσ_2 dhpσ_2 ehpσ_2 k3σ_2 kc_3 ahpσ_5 chpσ_5 dhpσ_5 ehpσ_5 k3σ_5 kc_6 kc_7 ahpσ_9 chpσ_9 dhpσ_9 ehpσ_9 k3σ_9 ahpσ_11 bhpσ_11 chpσ_11 ahpσ_13 chpσ_13 dhpσ_13 ehpσ_13 k3σ_13 if_14 if_15 iz_16 kc_17 ahpσ_19 chpσ_19 dhpσ_19 ehpσ_19 k3σ_19 iz_20 iz_21 if_22 c_23 c_30 kc_31 ahpσ_33 dhpσ_33 ehpσ_33 k3σ_33 k3σ_36 k4σ_36 smσ_36 onσ_36; omega) | omega)
        refine lv_iload_n hx hb dX12_readHand_126 rfl (lv_at hl 3 rfl) ?_
        refine q_iastN E hI (q_tk (k' := 34) hI ha rfl (by decide)) ⟨by decide, rfl⟩ (by first | (clear hs hz hk h4 k3σ ahpσ_2 dhpσ_2 ehpσ_2 k3σ_2 kc_3 ahpσ_5 chpσ_5 dhpσ_5 ehpσ_5 k3σ_5 kc_6 kc_7 ahpσ_9 chpσ_9 dhpσ_9 ehpσ_9 k3σ_9 ahpσ_11 bhpσ_11 chpσ_11 ahpσ_13 chpσ_13 dhpσ_13 ehpσ_13 k3σ_13 if_14 if_15 iz_16 kc_17 ahpσ_19 chpσ_19 dhpσ_19 ehpσ_19 k3σ_19 iz_20 iz_21 if_22 c_23 c_30 kc_31 ahpσ_33 dhpσ_33 ehpσ_33 k3σ_33 k3σ_36 k4σ_36 smσ_36 onσ_36 iz_37; omega) | omega) (by rw [q_lnk (v := 4650) hI (q_tk (k' := 34) hI ha rfl (by decide)) rfl (by decide)]; omega) (show 1 < 2 by decide) (q_inU rfl) dX12_readHand_127 (fun H locs σ_38 hσ_38 hI => ?_)
        replace hF := q_letX hF hσ_38
        have fr_σ_38 := fr_σ_36.si hσ_38 (q_tk (k' := 34) hI ha rfl (by decide)) rfl
        have mv9_σ_38 : (σ_38.1 a 9).toInt = (σ_36.1 a 9).toInt := congrArg Int32.toInt (q_rdn hσ_38 (Or.inl (m_ne ha (q_tk (k' := 34) hI ha rfl (by decide)) (by decide))))
        have mv12_σ_38 : (σ_38.1 a 12).toInt = (σ_36.1 a 12).toInt := congrArg Int32.toInt (q_rdn hσ_38 (Or.inl (m_ne ha (q_tk (k' := 34) hI ha rfl (by decide)) (by decide))))
        have mv14_σ_38 : (σ_38.1 a 14).toInt = (σ_36.1 a 14).toInt := congrArg Int32.toInt (q_rdn hσ_38 (Or.inl (m_ne ha (q_tk (k' := 34) hI ha rfl (by decide)) (by decide))))
        have mv15_σ_38 : (σ_38.1 a 15).toInt = (σ_36.1 a 15).toInt := congrArg Int32.toInt (q_rdn hσ_38 (Or.inl (m_ne ha (q_tk (k' := 34) hI ha rfl (by decide)) (by decide))))
        have mv16_σ_38 : (σ_38.1 a 16).toInt = (σ_36.1 a 16).toInt := congrArg Int32.toInt (q_rdn hσ_38 (Or.inl (m_ne ha (q_tk (k' := 34) hI ha rfl (by decide)) (by decide))))
        have mcσ_38 := m_wr (v := r_8) (A := (3754 + ((10 * r_4.toInt) + r_18.toInt))) hσ_38 iz_37 (by first | (clear hs hz hk h4 k3σ ahpσ_2 dhpσ_2 ehpσ_2 k3σ_2 kc_3 ahpσ_5 chpσ_5 dhpσ_5 ehpσ_5 k3σ_5 kc_6 kc_7 ahpσ_9 chpσ_9 dhpσ_9 ehpσ_9 k3σ_9 ahpσ_11 bhpσ_11 chpσ_11 ahpσ_13 chpσ_13 dhpσ_13 ehpσ_13 k3σ_13 if_14 if_15 iz_16 kc_17 ahpσ_19 chpσ_19 dhpσ_19 ehpσ_19 k3σ_19 iz_20 iz_21 if_22 c_23 c_30 kc_31 ahpσ_33 dhpσ_33 ehpσ_33 k3σ_33 k3σ_36 k4σ_36 smσ_36 onσ_36 iz_37 mv9_σ_38 mv12_σ_38 mv14_σ_38 mv15_σ_38 mv16_σ_38; omega) | omega)
        have nnσ_38 : m_N (m_c X σ_38 a) := m_N.hand nnσ_36 (by first | (clear hs hz hk h4 k3σ ahpσ_2 dhpσ_2 ehpσ_2 k3σ_2 kc_3 ahpσ_5 chpσ_5 dhpσ_5 ehpσ_5 k3σ_5 kc_6 kc_7 ahpσ_9 chpσ_9 dhpσ_9 ehpσ_9 k3σ_9 ahpσ_11 bhpσ_11 chpσ_11 ahpσ_13 chpσ_13 dhpσ_13 ehpσ_13 k3σ_13 if_14 if_15 iz_16 kc_17 ahpσ_19 chpσ_19 dhpσ_19 ehpσ_19 k3σ_19 iz_20 iz_21 if_22 c_23 c_30 kc_31 ahpσ_33 dhpσ_33 ehpσ_33 k3σ_33 k3σ_36 k4σ_36 smσ_36 onσ_36 iz_37 mv9_σ_38 mv12_σ_38 mv14_σ_38 mv15_σ_38 mv16_σ_38; omega) | omega) (by first | (clear hs hz hk h4 k3σ ahpσ_2 dhpσ_2 ehpσ_2 k3σ_2 kc_3 ahpσ_5 chpσ_5 dhpσ_5 ehpσ_5 k3σ_5 kc_6 kc_7 ahpσ_9 chpσ_9 dhpσ_9 ehpσ_9 k3σ_9 ahpσ_11 bhpσ_11 chpσ_11 ahpσ_13 chpσ_13 dhpσ_13 ehpσ_13 k3σ_13 if_14 if_15 iz_16 kc_17 ahpσ_19 chpσ_19 dhpσ_19 ehpσ_19 k3σ_19 iz_20 iz_21 if_22 c_23 c_30 kc_31 ahpσ_33 dhpσ_33 ehpσ_33 k3σ_33 k3σ_36 k4σ_36 smσ_36 onσ_36 iz_37 mv9_σ_38 mv12_σ_38 mv14_σ_38 mv15_σ_38 mv16_σ_38; omega) | omega) (by first | (clear hs hz hk h4 k3σ ahpσ_2 dhpσ_2 ehpσ_2 k3σ_2 kc_3 ahpσ_5 chpσ_5 dhpσ_5 ehpσ_5 k3σ_5 kc_6 kc_7 ahpσ_9 chpσ_9 dhpσ_9 ehpσ_9 k3σ_9 ahpσ_11 bhpσ_11 chpσ_11 ahpσ_13 chpσ_13 dhpσ_13 ehpσ_13 k3σ_13 if_14 if_15 iz_16 kc_17 ahpσ_19 chpσ_19 dhpσ_19 ehpσ_19 k3σ_19 iz_20 iz_21 if_22 c_23 c_30 kc_31 ahpσ_33 dhpσ_33 ehpσ_33 k3σ_33 k3σ_36 k4σ_36 smσ_36 onσ_36 iz_37 mv9_σ_38 mv12_σ_38 mv14_σ_38 mv15_σ_38 mv16_σ_38; omega) | omega) mcσ_38 (by first | (clear hs hz hk h4 k3σ ahpσ_2 dhpσ_2 ehpσ_2 k3σ_2 kc_3 ahpσ_5 chpσ_5 dhpσ_5 ehpσ_5 k3σ_5 kc_6 kc_7 ahpσ_9 chpσ_9 dhpσ_9 ehpσ_9 k3σ_9 ahpσ_11 bhpσ_11 chpσ_11 ahpσ_13 chpσ_13 dhpσ_13 ehpσ_13 k3σ_13 if_14 if_15 iz_16 kc_17 ahpσ_19 chpσ_19 dhpσ_19 ehpσ_19 k3σ_19 iz_20 iz_21 if_22 c_23 c_30 kc_31 ahpσ_33 dhpσ_33 ehpσ_33 k3σ_33 k3σ_36 k4σ_36 smσ_36 onσ_36 iz_37 mv9_σ_38 mv12_σ_38 mv14_σ_38 mv15_σ_38 mv16_σ_38; omega) | omega) (by rw [funext mcσ_36]; omega)
        have kpσ_38 : ∀ j, 0 ≤ j → j < 3720 → m_c X σ_38 a j = m_c X σ a j := fun j h0 h1 => by rw [mcσ_38 j h0, if_neg (by first | (clear hs hz hk h4 k3σ ahpσ_2 dhpσ_2 ehpσ_2 k3σ_2 kc_3 ahpσ_5 chpσ_5 dhpσ_5 ehpσ_5 k3σ_5 kc_6 kc_7 ahpσ_9 chpσ_9 dhpσ_9 ehpσ_9 k3σ_9 ahpσ_11 bhpσ_11 chpσ_11 ahpσ_13 chpσ_13 dhpσ_13 ehpσ_13 k3σ_13 if_14 if_15 iz_16 kc_17 ahpσ_19 chpσ_19 dhpσ_19 ehpσ_19 k3σ_19 iz_20 iz_21 if_22 c_23 c_30 kc_31 ahpσ_33 dhpσ_33 ehpσ_33 k3σ_33 k3σ_36 k4σ_36 smσ_36 onσ_36 iz_37 mv9_σ_38 mv12_σ_38 mv14_σ_38 mv15_σ_38 mv16_σ_38; omega) | omega)]; exact kpσ_36 j h0 h1
        have k3σ_38 : m_c X σ_38 a 3720 = m_c X σ a 3720 ∧ m_c X σ_38 a 3721 = m_c X σ a 3721 := ⟨by rw [mcσ_38 3720 (by decide), if_neg (by first | (clear hs hz hk h4 k3σ ahpσ_2 dhpσ_2 ehpσ_2 k3σ_2 kc_3 ahpσ_5 chpσ_5 dhpσ_5 ehpσ_5 k3σ_5 kc_6 kc_7 ahpσ_9 chpσ_9 dhpσ_9 ehpσ_9 k3σ_9 ahpσ_11 bhpσ_11 chpσ_11 ahpσ_13 chpσ_13 dhpσ_13 ehpσ_13 k3σ_13 if_14 if_15 iz_16 kc_17 ahpσ_19 chpσ_19 dhpσ_19 ehpσ_19 k3σ_19 iz_20 iz_21 if_22 c_23 c_30 kc_31 ahpσ_33 dhpσ_33 ehpσ_33 k3σ_33 k3σ_36 k4σ_36 smσ_36 onσ_36 iz_37 mv9_σ_38 mv12_σ_38 mv14_σ_38 mv15_σ_38 mv16_σ_38; omega) | omega)]; exact k3σ_36.1, by rw [mcσ_38 3721 (by decide), if_neg (by first | (clear hs hz hk h4 k3σ ahpσ_2 dhpσ_2 ehpσ_2 k3σ_2 kc_3 ahpσ_5 chpσ_5 dhpσ_5 ehpσ_5 k3σ_5 kc_6 kc_7 ahpσ_9 chpσ_9 dhpσ_9 ehpσ_9 k3σ_9 ahpσ_11 bhpσ_11 chpσ_11 ahpσ_13 chpσ_13 dhpσ_13 ehpσ_13 k3σ_13 if_14 if_15 iz_16 kc_17 ahpσ_19 chpσ_19 dhpσ_19 ehpσ_19 k3σ_19 iz_20 iz_21 if_22 c_23 c_30 kc_31 ahpσ_33 dhpσ_33 ehpσ_33 k3σ_33 k3σ_36 k4σ_36 smσ_36 onσ_36 iz_37 mv9_σ_38 mv12_σ_38 mv14_σ_38 mv15_σ_38 mv16_σ_38; omega) | omega)]; exact k3σ_36.2⟩
        have k4σ_38 : 1 ≤ m_c X σ_38 a 3724 + 10 * (σ_38.1 a 12).toInt := (by have := mcσ_38 3724 (by decide); rw [if_neg (by first | (clear hs hz hk h4 k3σ ahpσ_2 dhpσ_2 ehpσ_2 k3σ_2 kc_3 ahpσ_5 chpσ_5 dhpσ_5 ehpσ_5 k3σ_5 kc_6 kc_7 ahpσ_9 chpσ_9 dhpσ_9 ehpσ_9 k3σ_9 ahpσ_11 bhpσ_11 chpσ_11 ahpσ_13 chpσ_13 dhpσ_13 ehpσ_13 k3σ_13 if_14 if_15 iz_16 kc_17 ahpσ_19 chpσ_19 dhpσ_19 ehpσ_19 k3σ_19 iz_20 iz_21 if_22 c_23 c_30 kc_31 ahpσ_33 dhpσ_33 ehpσ_33 k3σ_33 k3σ_36 k4σ_36 smσ_36 onσ_36 iz_37 mv9_σ_38 mv12_σ_38 mv14_σ_38 mv15_σ_38 mv16_σ_38 k3σ_38; omega) | omega)] at this; omega)
        have smσ_38 : 0 ≤ (σ_38.1 a 15).toInt ∧ (σ_38.1 a 15).toInt ≤ (σ_38.1 a 16).toInt ∧ (σ_38.1 a 16).toInt ≤ (σ_38.1 a 9).toInt ∧ (σ_38.1 a 9).toInt ≤ 900 ∧ 0 ≤ (σ_38.1 a 14).toInt ∧ (σ_38.1 a 14).toInt ≤ 4 ∧ (σ_38.1 a 14).toInt ≤ 4 * ((σ_38.1 a 16).toInt - (σ_38.1 a 15).toInt) ∧ (σ_38.1 a 14).toInt ≤ 4 * ((σ_38.1 a 9).toInt - (σ_38.1 a 15).toInt) ∧ 0 ≤ (σ_38.1 a 12).toInt ∧ (σ_38.1 a 9).toInt = (σ.1 a 9).toInt ∧ (σ.1 a 15).toInt ≤ (σ_38.1 a 15).toInt ∧ (σ.1 a 12).toInt ≤ (σ_38.1 a 12).toInt := (by first | (rw [mv12_σ_38, mv14_σ_38, mv15_σ_38, mv16_σ_38, mv9_σ_38]; exact smσ_36) | omega)
        have onσ_38 : (σ.1 a 16).toInt ≤ (σ_38.1 a 15).toInt := (by first | (clear hs hz hk h4 k3σ ahpσ_2 dhpσ_2 ehpσ_2 k3σ_2 kc_3 ahpσ_5 chpσ_5 dhpσ_5 ehpσ_5 k3σ_5 kc_6 kc_7 ahpσ_9 chpσ_9 dhpσ_9 ehpσ_9 k3σ_9 ahpσ_11 bhpσ_11 chpσ_11 ahpσ_13 chpσ_13 dhpσ_13 ehpσ_13 k3σ_13 if_14 if_15 iz_16 kc_17 ahpσ_19 chpσ_19 dhpσ_19 ehpσ_19 k3σ_19 iz_20 iz_21 if_22 c_23 c_30 kc_31 ahpσ_33 dhpσ_33 ehpσ_33 k3σ_33 k3σ_36 k4σ_36 smσ_36 onσ_36 iz_37 mv9_σ_38 mv12_σ_38 mv14_σ_38 mv15_σ_38 mv16_σ_38 k3σ_38 k4σ_38 smσ_38; omega) | omega)
        clear mv9_σ_38 mv12_σ_38 mv14_σ_38 mv15_σ_38 mv16_σ_38 k4σ_36 smσ_36 onσ_36
        exact q_retv E hr hlk hI ⟨nnσ_38, kpσ_38, (by first | exact smσ_38 | omega), (by first | exact smσ_38 | omega), k3σ_38, k4σ_38, (hF.trans hout), fr_σ_38⟩ dX12_readHand_128
      · skip
        replace hF := q_ifp hF c_35
        exact q_retv E hr hlk hI ⟨nnσ_33, kpσ_33, (by first | exact smσ_33 | omega), (by first | exact smσ_33 | omega), k3σ_33, k4σ_33, (hF.trans hout), fr_σ_33⟩ dX12_readHand_107
    · skip
      replace hF := q_ifn hF c_30
      refine lv_aload_n hx hb dX12_readHand_75 rfl (lv_at hl 5 rfl) ?_
      refine lv_iload hx hb dX12_readHand_76 (lv_at hl 1 rfl) ?_
      refine q_ci (q_runV (As := [.int r_18]) (rest := []) E (hml.trans hl.1.symm) hI (c_X12_toldOf l X σ_19 a r_18 ha (by first | (clear hs hz hk h4 k3σ ahpσ_2 dhpσ_2 ehpσ_2 k3σ_2 kc_3 ahpσ_5 chpσ_5 dhpσ_5 ehpσ_5 k3σ_5 kc_6 kc_7 ahpσ_9 chpσ_9 dhpσ_9 ehpσ_9 k3σ_9 ahpσ_11 bhpσ_11 chpσ_11 ahpσ_13 chpσ_13 dhpσ_13 ehpσ_13 k3σ_13 if_14 if_15 iz_16 kc_17 ahpσ_19 dhpσ_19 ehpσ_19 k3σ_19 iz_20 if_22 c_23 c_30; omega) | omega) (by first | (clear hs hz h4 k3σ ahpσ_2 dhpσ_2 ehpσ_2 kc_3 ahpσ_5 chpσ_5 dhpσ_5 ehpσ_5 kc_6 kc_7 ahpσ_9 chpσ_9 dhpσ_9 ehpσ_9 ahpσ_11 bhpσ_11 chpσ_11 ahpσ_13 chpσ_13 dhpσ_13 ehpσ_13 if_14 kc_17 ahpσ_19 dhpσ_19 ehpσ_19 iz_20 if_22 c_23 c_30; omega) | omega) nnσ_19) kv_X12_229 ha ⟨rfl, by decide⟩ (show vwCl[11]? = some (RX12, TX12, 46) from rfl) rfl ⟨Nat.le_of_ble_eq_true rfl, Nat.le_of_ble_eq_true rfl⟩ ⟨Nat.le_refl _, Nat.le_refl _⟩ rfl (Nat.le_of_ble_eq_true rfl) dX12_readHand_78) hI (by decide) (fun r_39 σ_40 H locs hpσ_40 hkσ_40 hI => ?_)
      obtain ⟨ahpσ_40, bhpσ_40, chpσ_40⟩ := hpσ_40
      rw [ahpσ_40] at hI
      replace hF := q_letX hF chpσ_40
      have ts := m_ps_bd nnσ_19 ⟨(by omega : 0 ≤ r_18.toInt), (by first | (clear hs hz h4 k3σ ahpσ_2 dhpσ_2 ehpσ_2 kc_3 ahpσ_5 chpσ_5 dhpσ_5 ehpσ_5 kc_6 kc_7 ahpσ_9 chpσ_9 dhpσ_9 ehpσ_9 ahpσ_11 bhpσ_11 chpσ_11 ahpσ_13 chpσ_13 dhpσ_13 ehpσ_13 if_14 kc_17 ahpσ_19 dhpσ_19 ehpσ_19 iz_20 if_22 c_23 c_30 ahpσ_40 bhpσ_40 chpσ_40; omega) | omega)⟩ 6 (by decide)
      rw [m_ps_6] at ts
      refine lv_iload_n hx hb dX12_readHand_81 rfl (lv_at hl 3 rfl) ?_
      refine lv_iadd hx hb dX12_readHand_82 ?_
      refine lv_topi (fun z_41 ez_41 => ?_)
      replace hF := q_letX hF ez_41
      have iz_41 := q_addI (A := r_39.toInt) (B := r_8.toInt) ez_41 rfl rfl (by first | (clear hs hz hk h4 k3σ ahpσ_2 dhpσ_2 ehpσ_2 k3σ_2 kc_3 ahpσ_5 chpσ_5 dhpσ_5 ehpσ_5 k3σ_5 kc_6 ahpσ_9 dhpσ_9 ehpσ_9 k3σ_9 ahpσ_11 bhpσ_11 chpσ_11 ahpσ_13 chpσ_13 dhpσ_13 ehpσ_13 k3σ_13 if_14 if_15 iz_16 kc_17 ahpσ_19 chpσ_19 dhpσ_19 ehpσ_19 k3σ_19 iz_20 iz_21 if_22 c_23 c_30 ahpσ_40 chpσ_40; omega) | omega) (by first | (clear hs hz hk h4 k3σ ahpσ_2 dhpσ_2 ehpσ_2 k3σ_2 kc_3 ahpσ_5 chpσ_5 dhpσ_5 ehpσ_5 k3σ_5 kc_6 ahpσ_9 dhpσ_9 ehpσ_9 k3σ_9 ahpσ_11 bhpσ_11 chpσ_11 ahpσ_13 chpσ_13 dhpσ_13 ehpσ_13 k3σ_13 if_14 if_15 iz_16 kc_17 ahpσ_19 chpσ_19 dhpσ_19 ehpσ_19 k3σ_19 iz_20 iz_21 if_22 c_23 c_30 ahpσ_40 chpσ_40; omega) | omega)
      refine lv_aload_n hx hb dX12_readHand_83 rfl (lv_at hl 5 rfl) ?_
      refine gs_X12_35_12 E hI ha dX12_readHand_84 ?_
      refine lv_sipush (v := 3721) hx hb dX12_readHand_87 (by decide) ?_
      refine q_iald E hI (q_tk (k' := 34) hI ha rfl (by decide)) ⟨by decide, rfl⟩ (by decide) (by rw [q_lnk (v := 4650) hI (q_tk (k' := 34) hI ha rfl (by decide)) rfl (by decide)]; decide) dX12_readHand_90 ?_
      refine lv_topi (fun f_42 ef_42 => ?_)
      replace hF := q_letX hF ef_42
      have if_42 : f_42.toInt = m_c X σ_19 a 3721 := m_rd ef_42 (by decide)
      refine q_icmp_le (A := z_41.toInt) (B := f_42.toInt) E rfl rfl (tgt := 100) dX12_readHand_91 (by decide) (fun c_43 => ?_) (fun c_43 => ?_)
      · skip
        replace hF := q_ifn hF (Int.not_lt.mpr c_43)
        refine lv_aload_n hx hb dX12_readHand_100 rfl (lv_at hl 5 rfl) ?_
        refine gs_X12_187_12 E hI ha dX12_readHand_101 ?_
        refine lv_topi (fun f_44 ef_44 => ?_)
        replace hF := q_letX hF ef_44
        have if_44 : f_44.toInt = (σ_19.1 a 12).toInt := congrArg Int32.toInt ef_44
        refine q_if_le (A := f_44.toInt) E rfl (tgt := 108) dX12_readHand_104 (by decide) (fun c_45 => ?_) (fun c_45 => ?_)
        · skip
          replace hF := q_ifn hF (Int.not_lt.mpr c_45)
          refine lv_aload_n hx hb dX12_readHand_108 rfl (lv_at hl 5 rfl) ?_
          refine gs_X12_41_12 E hI ha dX12_readHand_109 ?_
          refine lv_iload hx hb dX12_readHand_112 (lv_at hl 0 rfl) ?_
          refine lv_iconst (v := 1) hx hb dX12_readHand_114 (by decide) ?_
          refine q_iastN E hI (q_tk (k' := 36) hI ha rfl (by decide)) ⟨by decide, rfl⟩ (by first | (clear hs hz hk h4 k3σ ahpσ_2 dhpσ_2 ehpσ_2 k3σ_2 kc_3 ahpσ_5 dhpσ_5 ehpσ_5 k3σ_5 kc_7 ahpσ_9 chpσ_9 dhpσ_9 ehpσ_9 k3σ_9 ahpσ_11 bhpσ_11 chpσ_11 ahpσ_13 chpσ_13 dhpσ_13 ehpσ_13 k3σ_13 if_14 if_15 iz_16 kc_17 ahpσ_19 dhpσ_19 ehpσ_19 k3σ_19 iz_20 c_30 ahpσ_40 bhpσ_40 chpσ_40 ts iz_41 if_42 c_43 if_44 c_45; omega) | omega) (by rw [q_lnk (v := 60) hI (q_tk (k' := 36) hI ha rfl (by decide)) rfl (by decide)]; omega) (show 1 < 9 by decide) (q_inU rfl) dX12_readHand_115 (fun H locs σ_46 hσ_46 hI => ?_)
          replace hF := q_letX hF hσ_46
          have fr_σ_46 := fr_σ_19.si hσ_46 (q_tk (k' := 36) hI ha rfl (by decide)) rfl
          have mv9_σ_46 : (σ_46.1 a 9).toInt = (σ_19.1 a 9).toInt := congrArg Int32.toInt ((hσ_46 ▸ (q_K.si (q_tk (k' := 36) hI ha rfl (by decide)) (show 8 < 9 by decide) : q_K 8 X σ_19 (q_si σ_19 (q_rf X a 22) (z_21 : Int32).toNatClampNeg _))) a 9 (by rw [ha]; decide))
          have mv12_σ_46 : (σ_46.1 a 12).toInt = (σ_19.1 a 12).toInt := congrArg Int32.toInt ((hσ_46 ▸ (q_K.si (q_tk (k' := 36) hI ha rfl (by decide)) (show 8 < 9 by decide) : q_K 8 X σ_19 (q_si σ_19 (q_rf X a 22) (z_21 : Int32).toNatClampNeg _))) a 12 (by rw [ha]; decide))
          have mv14_σ_46 : (σ_46.1 a 14).toInt = (σ_19.1 a 14).toInt := congrArg Int32.toInt ((hσ_46 ▸ (q_K.si (q_tk (k' := 36) hI ha rfl (by decide)) (show 8 < 9 by decide) : q_K 8 X σ_19 (q_si σ_19 (q_rf X a 22) (z_21 : Int32).toNatClampNeg _))) a 14 (by rw [ha]; decide))
          have mv15_σ_46 : (σ_46.1 a 15).toInt = (σ_19.1 a 15).toInt := congrArg Int32.toInt ((hσ_46 ▸ (q_K.si (q_tk (k' := 36) hI ha rfl (by decide)) (show 8 < 9 by decide) : q_K 8 X σ_19 (q_si σ_19 (q_rf X a 22) (z_21 : Int32).toNatClampNeg _))) a 15 (by rw [ha]; decide))
          have mv16_σ_46 : (σ_46.1 a 16).toInt = (σ_19.1 a 16).toInt := congrArg Int32.toInt ((hσ_46 ▸ (q_K.si (q_tk (k' := 36) hI ha rfl (by decide)) (show 8 < 9 by decide) : q_K 8 X σ_19 (q_si σ_19 (q_rf X a 22) (z_21 : Int32).toNatClampNeg _))) a 16 (by rw [ha]; decide))
          have mcσ_46 := m_wo hσ_46 (m_ne (q_tk (k' := 36) hI ha rfl (by decide)) (q_tk (f := 20) (k' := 34) hI ha rfl (by decide)) (by decide))
          have nnσ_46 : m_N (m_c X σ_46 a) := m_N.ext mcσ_46 nnσ_19
          have kpσ_46 : ∀ j, 0 ≤ j → j < 3720 → m_c X σ_46 a j = m_c X σ a j := fun j h0 h1 => (mcσ_46 j).trans (kpσ_19 j h0 h1)
          have k3σ_46 : m_c X σ_46 a 3720 = m_c X σ a 3720 ∧ m_c X σ_46 a 3721 = m_c X σ a 3721 := ⟨(mcσ_46 3720).trans k3σ_19.1, (mcσ_46 3721).trans k3σ_19.2⟩
          have k4σ_46 : 1 ≤ m_c X σ_46 a 3724 + 10 * (σ_46.1 a 12).toInt := (by have := mcσ_46 3724; omega)
          have smσ_46 : 0 ≤ (σ_46.1 a 15).toInt ∧ (σ_46.1 a 15).toInt ≤ (σ_46.1 a 16).toInt ∧ (σ_46.1 a 16).toInt ≤ (σ_46.1 a 9).toInt ∧ (σ_46.1 a 9).toInt ≤ 900 ∧ 0 ≤ (σ_46.1 a 14).toInt ∧ (σ_46.1 a 14).toInt ≤ 4 ∧ (σ_46.1 a 14).toInt ≤ 4 * ((σ_46.1 a 16).toInt - (σ_46.1 a 15).toInt) ∧ (σ_46.1 a 14).toInt ≤ 4 * ((σ_46.1 a 9).toInt - (σ_46.1 a 15).toInt) ∧ 0 ≤ (σ_46.1 a 12).toInt ∧ (σ_46.1 a 9).toInt = (σ.1 a 9).toInt ∧ (σ.1 a 15).toInt ≤ (σ_46.1 a 15).toInt ∧ (σ.1 a 12).toInt ≤ (σ_46.1 a 12).toInt := (by first | (rw [mv12_σ_46, mv14_σ_46, mv15_σ_46, mv16_σ_46, mv9_σ_46]; exact smσ_19) | omega)
          have onσ_46 : (σ.1 a 16).toInt ≤ (σ_46.1 a 15).toInt := (by first | (clear hs hz hk h4 k3σ ahpσ_2 dhpσ_2 ehpσ_2 k3σ_2 kc_3 ahpσ_5 chpσ_5 dhpσ_5 ehpσ_5 k3σ_5 kc_6 kc_7 ahpσ_9 chpσ_9 dhpσ_9 ehpσ_9 k3σ_9 ahpσ_11 bhpσ_11 chpσ_11 ahpσ_13 chpσ_13 dhpσ_13 ehpσ_13 k3σ_13 if_14 if_15 iz_16 kc_17 ahpσ_19 chpσ_19 dhpσ_19 ehpσ_19 k3σ_19 iz_20 iz_21 if_22 c_23 c_30 ahpσ_40 bhpσ_40 chpσ_40 ts iz_41 if_42 c_43 if_44 c_45 mv9_σ_46 mv12_σ_46 mv14_σ_46 mv16_σ_46 k3σ_46 k4σ_46 smσ_46; omega) | omega)
          clear mv9_σ_46 mv12_σ_46 mv14_σ_46 mv15_σ_46 mv16_σ_46 k4σ_19 smσ_19 onσ_19
          refine lv_aload_n hx hb dX12_readHand_116 rfl (lv_at hl 5 rfl) ?_
          refine gs_X12_35_12 E hI ha dX12_readHand_117 ?_
          refine lv_sipush (v := 3754) hx hb dX12_readHand_120 (by decide) ?_
          refine lv_iload hx hb dX12_readHand_123 (lv_at hl 0 rfl) ?_
          refine lv_iadd hx hb dX12_readHand_125 ?_
          refine lv_topi (fun z_47 ez_47 => ?_)
          replace hF := q_letX hF ez_47
          have iz_47 := q_addI (A := 3754) (B := ((10 * r_4.toInt) + r_18.toInt)) ez_47 (by decide) iz_21 (by first | (clear hs hz hk h4 k3σ ahpσ_2 dhpσ_2 ehpσ_2 k3σ_2 kc_3 ahpσ_5 dhpσ_5 ehpσ_5 k3σ_5 kc_6 kc_7 ahpσ_9 chpσ_9 dhpσ_9 ehpσ_9 k3σ_9 ahpσ_11 bhpσ_11 chpσ_11 ahpσ_13 chpσ_13 dhpσ_13 ehpσ_13 k3σ_13 if_14 if_15 iz_16 kc_17 ahpσ_19 dhpσ_19 ehpσ_19 k3σ_19 iz_20 if_22 c_23 c_30 ahpσ_40 bhpσ_40 chpσ_40 ts iz_41 if_42 c_43 if_44 c_45 k3σ_46 k4σ_46 smσ_46 onσ_46; omega) | omega) (by first | (clear hs hz h4 k3σ ahpσ_2 dhpσ_2 ehpσ_2 kc_3 ahpσ_5 dhpσ_5 ehpσ_5 kc_6 kc_7 ahpσ_9 chpσ_9 dhpσ_9 ehpσ_9 ahpσ_11 bhpσ_11 chpσ_11 ahpσ_13 chpσ_13 dhpσ_13 ehpσ_13 if_14 kc_17 ahpσ_19 dhpσ_19 ehpσ_19 iz_20 if_22 c_23 c_30 ahpσ_40 bhpσ_40 chpσ_40 ts iz_41 if_42 c_43 if_44 c_45 k4σ_46 smσ_46 onσ_46; omega) | omega)
          refine lv_iload_n hx hb dX12_readHand_126 rfl (lv_at hl 3 rfl) ?_
          refine q_iastN E hI (q_tk (k' := 34) hI ha rfl (by decide)) ⟨by decide, rfl⟩ (by first | (clear hs hz h4 k3σ ahpσ_2 dhpσ_2 ehpσ_2 kc_3 ahpσ_5 dhpσ_5 ehpσ_5 kc_7 ahpσ_9 chpσ_9 dhpσ_9 ehpσ_9 ahpσ_11 bhpσ_11 chpσ_11 ahpσ_13 chpσ_13 dhpσ_13 ehpσ_13 if_14 kc_17 ahpσ_19 dhpσ_19 ehpσ_19 iz_20 c_30 ahpσ_40 bhpσ_40 chpσ_40 ts iz_41 if_42 c_43 if_44 c_45 k4σ_46 smσ_46 onσ_46; omega) | omega) (by rw [q_lnk (v := 4650) hI (q_tk (k' := 34) hI ha rfl (by decide)) rfl (by decide)]; omega) (show 1 < 2 by decide) (q_inU rfl) dX12_readHand_127 (fun H locs σ_48 hσ_48 hI => ?_)
          replace hF := q_letX hF hσ_48
          have fr_σ_48 := fr_σ_46.si hσ_48 (q_tk (k' := 34) hI ha rfl (by decide)) rfl
          have mv9_σ_48 : (σ_48.1 a 9).toInt = (σ_46.1 a 9).toInt := congrArg Int32.toInt (q_rdn hσ_48 (Or.inl (m_ne ha (q_tk (k' := 34) hI ha rfl (by decide)) (by decide))))
          have mv12_σ_48 : (σ_48.1 a 12).toInt = (σ_46.1 a 12).toInt := congrArg Int32.toInt (q_rdn hσ_48 (Or.inl (m_ne ha (q_tk (k' := 34) hI ha rfl (by decide)) (by decide))))
          have mv14_σ_48 : (σ_48.1 a 14).toInt = (σ_46.1 a 14).toInt := congrArg Int32.toInt (q_rdn hσ_48 (Or.inl (m_ne ha (q_tk (k' := 34) hI ha rfl (by decide)) (by decide))))
          have mv15_σ_48 : (σ_48.1 a 15).toInt = (σ_46.1 a 15).toInt := congrArg Int32.toInt (q_rdn hσ_48 (Or.inl (m_ne ha (q_tk (k' := 34) hI ha rfl (by decide)) (by decide))))
          have mv16_σ_48 : (σ_48.1 a 16).toInt = (σ_46.1 a 16).toInt := congrArg Int32.toInt (q_rdn hσ_48 (Or.inl (m_ne ha (q_tk (k' := 34) hI ha rfl (by decide)) (by decide))))
          have mcσ_48 := m_wr (v := r_8) (A := (3754 + ((10 * r_4.toInt) + r_18.toInt))) hσ_48 iz_47 (by first | (clear hs hz h4 k3σ ahpσ_2 dhpσ_2 ehpσ_2 kc_3 ahpσ_5 dhpσ_5 ehpσ_5 kc_7 ahpσ_9 chpσ_9 dhpσ_9 ehpσ_9 ahpσ_11 bhpσ_11 chpσ_11 ahpσ_13 chpσ_13 dhpσ_13 ehpσ_13 if_14 kc_17 ahpσ_19 dhpσ_19 ehpσ_19 iz_20 c_30 ahpσ_40 bhpσ_40 chpσ_40 ts iz_41 if_42 c_43 if_44 c_45 k4σ_46 smσ_46 onσ_46 mv9_σ_48 mv12_σ_48 mv14_σ_48 mv15_σ_48 mv16_σ_48; omega) | omega)
          have nnσ_48 : m_N (m_c X σ_48 a) := m_N.hand nnσ_46 (by first | (clear hs hz hk h4 k3σ ahpσ_2 dhpσ_2 ehpσ_2 k3σ_2 kc_3 ahpσ_5 dhpσ_5 ehpσ_5 k3σ_5 kc_6 kc_7 ahpσ_9 chpσ_9 dhpσ_9 ehpσ_9 k3σ_9 ahpσ_11 bhpσ_11 chpσ_11 ahpσ_13 chpσ_13 dhpσ_13 ehpσ_13 k3σ_13 if_14 if_15 iz_16 kc_17 ahpσ_19 chpσ_19 dhpσ_19 ehpσ_19 k3σ_19 iz_20 iz_21 if_22 c_23 c_30 ahpσ_40 bhpσ_40 chpσ_40 ts iz_41 if_42 c_43 if_44 c_45 k3σ_46 k4σ_46 smσ_46 onσ_46 iz_47 mv9_σ_48 mv12_σ_48 mv14_σ_48 mv15_σ_48 mv16_σ_48; omega) | omega) (by first | (clear hs hz h4 k3σ ahpσ_2 dhpσ_2 ehpσ_2 kc_3 ahpσ_5 chpσ_5 dhpσ_5 ehpσ_5 kc_7 ahpσ_9 chpσ_9 dhpσ_9 ehpσ_9 ahpσ_11 bhpσ_11 chpσ_11 ahpσ_13 chpσ_13 dhpσ_13 ehpσ_13 if_14 kc_17 ahpσ_19 dhpσ_19 ehpσ_19 iz_20 c_30 ahpσ_40 bhpσ_40 chpσ_40 ts iz_41 if_42 c_43 if_44 c_45 k4σ_46 smσ_46 onσ_46 mv9_σ_48 mv12_σ_48 mv14_σ_48 mv15_σ_48 mv16_σ_48; omega) | omega) (by first | (clear hs hz hk h4 k3σ ahpσ_2 dhpσ_2 ehpσ_2 kc_3 ahpσ_5 chpσ_5 dhpσ_5 ehpσ_5 kc_6 kc_7 ahpσ_9 chpσ_9 dhpσ_9 ehpσ_9 ahpσ_11 bhpσ_11 chpσ_11 ahpσ_13 chpσ_13 dhpσ_13 ehpσ_13 if_14 kc_17 ahpσ_19 dhpσ_19 ehpσ_19 iz_20 if_22 c_23 c_30 ahpσ_40 bhpσ_40 chpσ_40 ts iz_41 if_42 c_43 if_44 c_45 k4σ_46 smσ_46 onσ_46 mv9_σ_48 mv12_σ_48 mv14_σ_48 mv15_σ_48 mv16_σ_48; omega) | omega) mcσ_48 (by first | (clear hs hz hk h4 k3σ ahpσ_2 dhpσ_2 ehpσ_2 k3σ_2 kc_3 ahpσ_5 chpσ_5 dhpσ_5 ehpσ_5 k3σ_5 kc_6 ahpσ_9 dhpσ_9 ehpσ_9 k3σ_9 ahpσ_11 bhpσ_11 chpσ_11 ahpσ_13 chpσ_13 dhpσ_13 ehpσ_13 k3σ_13 if_14 if_15 iz_16 kc_17 ahpσ_19 chpσ_19 dhpσ_19 ehpσ_19 k3σ_19 iz_20 iz_21 if_22 c_23 c_30 ahpσ_40 chpσ_40 ts if_42 c_43 if_44 c_45 k3σ_46 k4σ_46 smσ_46 onσ_46 iz_47 mv9_σ_48 mv12_σ_48 mv14_σ_48 mv15_σ_48 mv16_σ_48; omega) | omega) (by rw [funext mcσ_46]; omega)
          have kpσ_48 : ∀ j, 0 ≤ j → j < 3720 → m_c X σ_48 a j = m_c X σ a j := fun j h0 h1 => by rw [mcσ_48 j h0, if_neg (by first | (clear hs hz h4 k3σ ahpσ_2 dhpσ_2 ehpσ_2 kc_3 ahpσ_5 dhpσ_5 ehpσ_5 kc_7 ahpσ_9 chpσ_9 dhpσ_9 ehpσ_9 ahpσ_11 bhpσ_11 chpσ_11 ahpσ_13 chpσ_13 dhpσ_13 ehpσ_13 if_14 kc_17 ahpσ_19 dhpσ_19 ehpσ_19 iz_20 c_30 ahpσ_40 bhpσ_40 chpσ_40 ts iz_41 if_42 c_43 if_44 c_45 k4σ_46 smσ_46 onσ_46 mv9_σ_48 mv12_σ_48 mv14_σ_48 mv15_σ_48 mv16_σ_48; omega) | omega)]; exact kpσ_46 j h0 h1
          have k3σ_48 : m_c X σ_48 a 3720 = m_c X σ a 3720 ∧ m_c X σ_48 a 3721 = m_c X σ a 3721 := ⟨by rw [mcσ_48 3720 (by decide), if_neg (by first | (clear hs hz h4 k3σ ahpσ_2 dhpσ_2 ehpσ_2 kc_3 ahpσ_5 dhpσ_5 ehpσ_5 kc_7 ahpσ_9 chpσ_9 dhpσ_9 ehpσ_9 ahpσ_11 bhpσ_11 chpσ_11 ahpσ_13 chpσ_13 dhpσ_13 ehpσ_13 if_14 kc_17 ahpσ_19 dhpσ_19 ehpσ_19 iz_20 c_30 ahpσ_40 bhpσ_40 chpσ_40 ts iz_41 if_42 c_43 if_44 c_45 k4σ_46 smσ_46 onσ_46 mv9_σ_48 mv12_σ_48 mv14_σ_48 mv15_σ_48 mv16_σ_48; omega) | omega)]; exact k3σ_46.1, by rw [mcσ_48 3721 (by decide), if_neg (by first | (clear hs hz h4 k3σ ahpσ_2 dhpσ_2 ehpσ_2 kc_3 ahpσ_5 dhpσ_5 ehpσ_5 kc_7 ahpσ_9 chpσ_9 dhpσ_9 ehpσ_9 ahpσ_11 bhpσ_11 chpσ_11 ahpσ_13 chpσ_13 dhpσ_13 ehpσ_13 if_14 kc_17 ahpσ_19 dhpσ_19 ehpσ_19 iz_20 c_30 ahpσ_40 bhpσ_40 chpσ_40 ts iz_41 if_42 c_43 if_44 c_45 k4σ_46 smσ_46 onσ_46 mv9_σ_48 mv12_σ_48 mv14_σ_48 mv15_σ_48 mv16_σ_48; omega) | omega)]; exact k3σ_46.2⟩
          have k4σ_48 : 1 ≤ m_c X σ_48 a 3724 + 10 * (σ_48.1 a 12).toInt := (by have := mcσ_48 3724 (by decide); rw [if_neg (by first | (clear hs hz hk h4 k3σ ahpσ_2 dhpσ_2 ehpσ_2 k3σ_2 kc_3 ahpσ_5 dhpσ_5 ehpσ_5 k3σ_5 kc_7 ahpσ_9 chpσ_9 dhpσ_9 ehpσ_9 k3σ_9 ahpσ_11 bhpσ_11 chpσ_11 ahpσ_13 chpσ_13 dhpσ_13 ehpσ_13 k3σ_13 if_14 if_15 iz_16 kc_17 ahpσ_19 dhpσ_19 ehpσ_19 k3σ_19 iz_20 c_30 ahpσ_40 bhpσ_40 chpσ_40 ts iz_41 if_42 c_43 if_44 c_45 k3σ_46 k4σ_46 smσ_46 onσ_46 mv9_σ_48 mv12_σ_48 mv14_σ_48 mv15_σ_48 mv16_σ_48 k3σ_48; omega) | omega)] at this; omega)
          have smσ_48 : 0 ≤ (σ_48.1 a 15).toInt ∧ (σ_48.1 a 15).toInt ≤ (σ_48.1 a 16).toInt ∧ (σ_48.1 a 16).toInt ≤ (σ_48.1 a 9).toInt ∧ (σ_48.1 a 9).toInt ≤ 900 ∧ 0 ≤ (σ_48.1 a 14).toInt ∧ (σ_48.1 a 14).toInt ≤ 4 ∧ (σ_48.1 a 14).toInt ≤ 4 * ((σ_48.1 a 16).toInt - (σ_48.1 a 15).toInt) ∧ (σ_48.1 a 14).toInt ≤ 4 * ((σ_48.1 a 9).toInt - (σ_48.1 a 15).toInt) ∧ 0 ≤ (σ_48.1 a 12).toInt ∧ (σ_48.1 a 9).toInt = (σ.1 a 9).toInt ∧ (σ.1 a 15).toInt ≤ (σ_48.1 a 15).toInt ∧ (σ.1 a 12).toInt ≤ (σ_48.1 a 12).toInt := (by first | (rw [mv12_σ_48, mv14_σ_48, mv15_σ_48, mv16_σ_48, mv9_σ_48]; exact smσ_46) | omega)
          have onσ_48 : (σ.1 a 16).toInt ≤ (σ_48.1 a 15).toInt := (by first | (clear hs hz hk h4 k3σ ahpσ_2 dhpσ_2 ehpσ_2 k3σ_2 kc_3 ahpσ_5 chpσ_5 dhpσ_5 ehpσ_5 k3σ_5 kc_6 kc_7 ahpσ_9 chpσ_9 dhpσ_9 ehpσ_9 k3σ_9 ahpσ_11 bhpσ_11 chpσ_11 ahpσ_13 chpσ_13 dhpσ_13 ehpσ_13 k3σ_13 if_14 if_15 iz_16 kc_17 ahpσ_19 chpσ_19 dhpσ_19 ehpσ_19 k3σ_19 iz_20 iz_21 if_22 c_23 c_30 ahpσ_40 bhpσ_40 chpσ_40 ts iz_41 if_42 c_43 if_44 c_45 k3σ_46 k4σ_46 smσ_46 iz_47 mv9_σ_48 mv12_σ_48 mv14_σ_48 mv16_σ_48 k3σ_48 k4σ_48 smσ_48; omega) | omega)
          clear mv9_σ_48 mv12_σ_48 mv14_σ_48 mv15_σ_48 mv16_σ_48 k4σ_46 smσ_46 onσ_46
          exact q_retv E hr hlk hI ⟨nnσ_48, kpσ_48, (by first | exact smσ_48 | omega), (by first | exact smσ_48 | omega), k3σ_48, k4σ_48, (hF.trans hout), fr_σ_48⟩ dX12_readHand_128
        · skip
          replace hF := q_ifp hF c_45
          exact q_retv E hr hlk hI ⟨nnσ_19, kpσ_19, (by first | exact smσ_19 | omega), (by first | exact smσ_19 | omega), k3σ_19, k4σ_19, (hF.trans hout), fr_σ_19⟩ dX12_readHand_107
      · skip
        replace hF := q_ifp hF c_43
        refine lv_aload_n hx hb dX12_readHand_94 rfl (lv_at hl 5 rfl) ?_
        refine lv_iconst (v := 5) hx hb dX12_readHand_95 (by decide) ?_
        refine lv_iload_n hx hb dX12_readHand_96 rfl (lv_at hl 2 rfl) ?_
        have kc_49 : (5 : Int32).toInt = 5 := rfl
        refine q_cv (q_runV (As := [.int 5, .int f_14]) (rest := []) E (hml.trans hl.1.symm) hI (c_X12_fail l X σ_19 a (5 : Int32) f_14 ha (by first | (clear hs hz hk h4 k3σ ahpσ_2 dhpσ_2 ehpσ_2 k3σ_2 kc_3 ahpσ_5 chpσ_5 dhpσ_5 ehpσ_5 k3σ_5 kc_6 kc_7 ahpσ_9 chpσ_9 dhpσ_9 ehpσ_9 k3σ_9 ahpσ_11 bhpσ_11 chpσ_11 ahpσ_13 chpσ_13 dhpσ_13 ehpσ_13 k3σ_13 if_14 if_15 iz_16 kc_17 ahpσ_19 chpσ_19 dhpσ_19 ehpσ_19 k3σ_19 iz_20 iz_21 c_30 ahpσ_40 bhpσ_40 chpσ_40 ts iz_41 if_42 c_43 kc_49; omega) | omega) (by first | (clear hs hz hk h4 k3σ ahpσ_2 dhpσ_2 ehpσ_2 k3σ_2 kc_3 ahpσ_5 chpσ_5 dhpσ_5 ehpσ_5 k3σ_5 kc_6 kc_7 ahpσ_9 chpσ_9 dhpσ_9 ehpσ_9 k3σ_9 ahpσ_11 bhpσ_11 chpσ_11 ahpσ_13 chpσ_13 dhpσ_13 ehpσ_13 k3σ_13 if_14 if_15 iz_16 kc_17 ahpσ_19 chpσ_19 dhpσ_19 ehpσ_19 k3σ_19 iz_20 iz_21 if_22 c_23 c_30 ahpσ_40 bhpσ_40 chpσ_40 ts iz_41 if_42 c_43; omega) | omega)) kv_X12_193 ha ⟨rfl, by decide⟩ (show vwCl[11]? = some (RX12, TX12, 46) from rfl) rfl ⟨Nat.le_of_ble_eq_true rfl, Nat.le_of_ble_eq_true rfl⟩ ⟨Nat.le_refl _, Nat.le_refl _⟩ rfl (Nat.le_of_ble_eq_true rfl) dX12_readHand_97) hI (by decide) (fun σ_51 H locs hpσ_51 hkσ_51 hI => ?_)
        obtain ⟨ahpσ_51, bhpσ_51, chpσ_51, dhpσ_51, ehpσ_51⟩ := hpσ_51
        have fr_σ_51 := fr_σ_19.call ehpσ_51 rfl rfl
        replace hF := q_letX hF dhpσ_51
        have mcσ_51 := m_cK hkσ_51 hI.1 ha (by decide)
        have nnσ_51 : m_N (m_c X σ_51 a) := m_N.ext mcσ_51 nnσ_19
        have kpσ_51 : ∀ j, 0 ≤ j → j < 3720 → m_c X σ_51 a j = m_c X σ a j := fun j h0 h1 => (mcσ_51 j).trans (kpσ_19 j h0 h1)
        have k3σ_51 : m_c X σ_51 a 3720 = m_c X σ a 3720 ∧ m_c X σ_51 a 3721 = m_c X σ a 3721 := ⟨(mcσ_51 3720).trans k3σ_19.1, (mcσ_51 3721).trans k3σ_19.2⟩
        have k4σ_51 : 1 ≤ m_c X σ_51 a 3724 + 10 * (σ_51.1 a 12).toInt := (by have := mcσ_51 3724; omega)
        have smσ_51 : 0 ≤ (σ_51.1 a 15).toInt ∧ (σ_51.1 a 15).toInt ≤ (σ_51.1 a 16).toInt ∧ (σ_51.1 a 16).toInt ≤ (σ_51.1 a 9).toInt ∧ (σ_51.1 a 9).toInt ≤ 900 ∧ 0 ≤ (σ_51.1 a 14).toInt ∧ (σ_51.1 a 14).toInt ≤ 4 ∧ (σ_51.1 a 14).toInt ≤ 4 * ((σ_51.1 a 16).toInt - (σ_51.1 a 15).toInt) ∧ (σ_51.1 a 14).toInt ≤ 4 * ((σ_51.1 a 9).toInt - (σ_51.1 a 15).toInt) ∧ 0 ≤ (σ_51.1 a 12).toInt ∧ (σ_51.1 a 9).toInt = (σ.1 a 9).toInt ∧ (σ.1 a 15).toInt ≤ (σ_51.1 a 15).toInt ∧ (σ.1 a 12).toInt ≤ (σ_51.1 a 12).toInt := (by first | exact sm_fl smσ_19 bhpσ_51 chpσ_51 | omega)
        have onσ_51 : (σ.1 a 16).toInt ≤ (σ_51.1 a 15).toInt := (by first | (clear hs hz hk h4 k3σ ahpσ_2 dhpσ_2 ehpσ_2 k3σ_2 kc_3 ahpσ_5 chpσ_5 dhpσ_5 ehpσ_5 k3σ_5 kc_6 kc_7 ahpσ_9 chpσ_9 dhpσ_9 ehpσ_9 k3σ_9 ahpσ_11 bhpσ_11 chpσ_11 ahpσ_13 chpσ_13 dhpσ_13 ehpσ_13 k3σ_13 if_14 if_15 iz_16 kc_17 ahpσ_19 chpσ_19 dhpσ_19 ehpσ_19 k3σ_19 iz_20 iz_21 if_22 c_23 c_30 ahpσ_40 bhpσ_40 chpσ_40 ts iz_41 if_42 c_43 kc_49 ahpσ_51 chpσ_51 dhpσ_51 ehpσ_51 k3σ_51 k4σ_51 smσ_51; omega) | omega)
        clear k4σ_19 smσ_19 onσ_19 bhpσ_51
        refine lv_aload_n hx hb dX12_readHand_100 rfl (lv_at hl 5 rfl) ?_
        refine gs_X12_187_12 E hI ha dX12_readHand_101 ?_
        refine lv_topi (fun f_52 ef_52 => ?_)
        replace hF := q_letX hF ef_52
        have if_52 : f_52.toInt = (σ_51.1 a 12).toInt := congrArg Int32.toInt ef_52
        refine q_if_le (A := f_52.toInt) E rfl (tgt := 108) dX12_readHand_104 (by decide) (fun c_53 => ?_) (fun c_53 => ?_)
        · skip
          replace hF := q_ifn hF (Int.not_lt.mpr c_53)
          refine lv_aload_n hx hb dX12_readHand_108 rfl (lv_at hl 5 rfl) ?_
          refine gs_X12_41_12 E hI ha dX12_readHand_109 ?_
          refine lv_iload hx hb dX12_readHand_112 (lv_at hl 0 rfl) ?_
          refine lv_iconst (v := 1) hx hb dX12_readHand_114 (by decide) ?_
          refine q_iastN E hI (q_tk (k' := 36) hI ha rfl (by decide)) ⟨by decide, rfl⟩ (by first | (clear hs hz hk h4 k3σ ahpσ_2 dhpσ_2 ehpσ_2 k3σ_2 kc_3 ahpσ_5 chpσ_5 dhpσ_5 ehpσ_5 k3σ_5 kc_6 kc_7 ahpσ_9 chpσ_9 dhpσ_9 ehpσ_9 k3σ_9 ahpσ_11 bhpσ_11 chpσ_11 ahpσ_13 chpσ_13 dhpσ_13 ehpσ_13 k3σ_13 if_14 if_15 iz_16 kc_17 ahpσ_19 chpσ_19 dhpσ_19 ehpσ_19 k3σ_19 iz_20 iz_21 if_22 c_23 c_30 ahpσ_40 bhpσ_40 chpσ_40 ts iz_41 if_42 c_43 kc_49 ahpσ_51 dhpσ_51 ehpσ_51 k3σ_51 k4σ_51 smσ_51 onσ_51; omega) | omega) (by rw [q_lnk (v := 60) hI (q_tk (k' := 36) hI ha rfl (by decide)) rfl (by decide)]; omega) (show 1 < 9 by decide) (q_inU rfl) dX12_readHand_115 (fun H locs σ_54 hσ_54 hI => ?_)
          replace hF := q_letX hF hσ_54
          have fr_σ_54 := fr_σ_51.si hσ_54 (q_tk (k' := 36) hI ha rfl (by decide)) rfl
          have mv9_σ_54 : (σ_54.1 a 9).toInt = (σ_51.1 a 9).toInt := congrArg Int32.toInt ((hσ_54 ▸ (q_K.si (q_tk (k' := 36) hI ha rfl (by decide)) (show 8 < 9 by decide) : q_K 8 X σ_51 (q_si σ_51 (q_rf X a 22) (z_21 : Int32).toNatClampNeg _))) a 9 (by rw [ha]; decide))
          have mv12_σ_54 : (σ_54.1 a 12).toInt = (σ_51.1 a 12).toInt := congrArg Int32.toInt ((hσ_54 ▸ (q_K.si (q_tk (k' := 36) hI ha rfl (by decide)) (show 8 < 9 by decide) : q_K 8 X σ_51 (q_si σ_51 (q_rf X a 22) (z_21 : Int32).toNatClampNeg _))) a 12 (by rw [ha]; decide))
          have mv14_σ_54 : (σ_54.1 a 14).toInt = (σ_51.1 a 14).toInt := congrArg Int32.toInt ((hσ_54 ▸ (q_K.si (q_tk (k' := 36) hI ha rfl (by decide)) (show 8 < 9 by decide) : q_K 8 X σ_51 (q_si σ_51 (q_rf X a 22) (z_21 : Int32).toNatClampNeg _))) a 14 (by rw [ha]; decide))
          have mv15_σ_54 : (σ_54.1 a 15).toInt = (σ_51.1 a 15).toInt := congrArg Int32.toInt ((hσ_54 ▸ (q_K.si (q_tk (k' := 36) hI ha rfl (by decide)) (show 8 < 9 by decide) : q_K 8 X σ_51 (q_si σ_51 (q_rf X a 22) (z_21 : Int32).toNatClampNeg _))) a 15 (by rw [ha]; decide))
          have mv16_σ_54 : (σ_54.1 a 16).toInt = (σ_51.1 a 16).toInt := congrArg Int32.toInt ((hσ_54 ▸ (q_K.si (q_tk (k' := 36) hI ha rfl (by decide)) (show 8 < 9 by decide) : q_K 8 X σ_51 (q_si σ_51 (q_rf X a 22) (z_21 : Int32).toNatClampNeg _))) a 16 (by rw [ha]; decide))
          have mcσ_54 := m_wo hσ_54 (m_ne (q_tk (k' := 36) hI ha rfl (by decide)) (q_tk (f := 20) (k' := 34) hI ha rfl (by decide)) (by decide))
          have nnσ_54 : m_N (m_c X σ_54 a) := m_N.ext mcσ_54 nnσ_51
          have kpσ_54 : ∀ j, 0 ≤ j → j < 3720 → m_c X σ_54 a j = m_c X σ a j := fun j h0 h1 => (mcσ_54 j).trans (kpσ_51 j h0 h1)
          have k3σ_54 : m_c X σ_54 a 3720 = m_c X σ a 3720 ∧ m_c X σ_54 a 3721 = m_c X σ a 3721 := ⟨(mcσ_54 3720).trans k3σ_51.1, (mcσ_54 3721).trans k3σ_51.2⟩
          have k4σ_54 : 1 ≤ m_c X σ_54 a 3724 + 10 * (σ_54.1 a 12).toInt := (by have := mcσ_54 3724; omega)
          have smσ_54 : 0 ≤ (σ_54.1 a 15).toInt ∧ (σ_54.1 a 15).toInt ≤ (σ_54.1 a 16).toInt ∧ (σ_54.1 a 16).toInt ≤ (σ_54.1 a 9).toInt ∧ (σ_54.1 a 9).toInt ≤ 900 ∧ 0 ≤ (σ_54.1 a 14).toInt ∧ (σ_54.1 a 14).toInt ≤ 4 ∧ (σ_54.1 a 14).toInt ≤ 4 * ((σ_54.1 a 16).toInt - (σ_54.1 a 15).toInt) ∧ (σ_54.1 a 14).toInt ≤ 4 * ((σ_54.1 a 9).toInt - (σ_54.1 a 15).toInt) ∧ 0 ≤ (σ_54.1 a 12).toInt ∧ (σ_54.1 a 9).toInt = (σ.1 a 9).toInt ∧ (σ.1 a 15).toInt ≤ (σ_54.1 a 15).toInt ∧ (σ.1 a 12).toInt ≤ (σ_54.1 a 12).toInt := (by first | (rw [mv12_σ_54, mv14_σ_54, mv15_σ_54, mv16_σ_54, mv9_σ_54]; exact smσ_51) | omega)
          have onσ_54 : (σ.1 a 16).toInt ≤ (σ_54.1 a 15).toInt := (by first | (clear hs hz hk h4 k3σ ahpσ_2 dhpσ_2 ehpσ_2 k3σ_2 kc_3 ahpσ_5 chpσ_5 dhpσ_5 ehpσ_5 k3σ_5 kc_6 kc_7 ahpσ_9 chpσ_9 dhpσ_9 ehpσ_9 k3σ_9 ahpσ_11 bhpσ_11 chpσ_11 ahpσ_13 chpσ_13 dhpσ_13 ehpσ_13 k3σ_13 if_14 if_15 iz_16 kc_17 ahpσ_19 chpσ_19 dhpσ_19 ehpσ_19 k3σ_19 iz_20 iz_21 if_22 c_23 c_30 ahpσ_40 bhpσ_40 chpσ_40 ts iz_41 if_42 c_43 kc_49 ahpσ_51 dhpσ_51 ehpσ_51 k3σ_51 k4σ_51 smσ_51 onσ_51 mv9_σ_54 mv12_σ_54 mv14_σ_54 mv15_σ_54 mv16_σ_54 k3σ_54 k4σ_54 smσ_54; omega) | omega)
          clear mv9_σ_54 mv12_σ_54 mv14_σ_54 mv15_σ_54 mv16_σ_54 k4σ_51 smσ_51 onσ_51
          refine lv_aload_n hx hb dX12_readHand_116 rfl (lv_at hl 5 rfl) ?_
          refine gs_X12_35_12 E hI ha dX12_readHand_117 ?_
          refine lv_sipush (v := 3754) hx hb dX12_readHand_120 (by decide) ?_
          refine lv_iload hx hb dX12_readHand_123 (lv_at hl 0 rfl) ?_
          refine lv_iadd hx hb dX12_readHand_125 ?_
          refine lv_topi (fun z_55 ez_55 => ?_)
          replace hF := q_letX hF ez_55
          have iz_55 := q_addI (A := 3754) (B := ((10 * r_4.toInt) + r_18.toInt)) ez_55 (by decide) iz_21 (by first | (clear hs hz hk h4 k3σ ahpσ_2 dhpσ_2 ehpσ_2 k3σ_2 kc_3 ahpσ_5 chpσ_5 dhpσ_5 ehpσ_5 k3σ_5 kc_6 kc_7 ahpσ_9 chpσ_9 dhpσ_9 ehpσ_9 k3σ_9 ahpσ_11 bhpσ_11 chpσ_11 ahpσ_13 chpσ_13 dhpσ_13 ehpσ_13 k3σ_13 if_14 if_15 iz_16 kc_17 ahpσ_19 chpσ_19 dhpσ_19 ehpσ_19 k3σ_19 iz_20 iz_21 if_22 c_23 c_30 ahpσ_40 bhpσ_40 chpσ_40 ts iz_41 if_42 c_43 kc_49 ahpσ_51 dhpσ_51 ehpσ_51 k3σ_51 k3σ_54 k4σ_54 smσ_54 onσ_54; omega) | omega) (by first | (clear hs hz hk h4 k3σ ahpσ_2 dhpσ_2 ehpσ_2 k3σ_2 kc_3 ahpσ_5 chpσ_5 dhpσ_5 ehpσ_5 k3σ_5 kc_6 kc_7 ahpσ_9 chpσ_9 dhpσ_9 ehpσ_9 k3σ_9 ahpσ_11 bhpσ_11 chpσ_11 ahpσ_13 chpσ_13 dhpσ_13 ehpσ_13 k3σ_13 if_14 if_15 iz_16 kc_17 ahpσ_19 chpσ_19 dhpσ_19 ehpσ_19 k3σ_19 iz_20 iz_21 if_22 c_23 c_30 ahpσ_40 bhpσ_40 chpσ_40 ts iz_41 if_42 c_43 kc_49 ahpσ_51 dhpσ_51 ehpσ_51 k3σ_51 k3σ_54 k4σ_54 smσ_54 onσ_54; omega) | omega)
          refine lv_iload_n hx hb dX12_readHand_126 rfl (lv_at hl 3 rfl) ?_
          refine q_iastN E hI (q_tk (k' := 34) hI ha rfl (by decide)) ⟨by decide, rfl⟩ (by first | (clear hs hz hk h4 k3σ ahpσ_2 dhpσ_2 ehpσ_2 k3σ_2 kc_3 ahpσ_5 chpσ_5 dhpσ_5 ehpσ_5 k3σ_5 kc_6 kc_7 ahpσ_9 chpσ_9 dhpσ_9 ehpσ_9 k3σ_9 ahpσ_11 bhpσ_11 chpσ_11 ahpσ_13 chpσ_13 dhpσ_13 ehpσ_13 k3σ_13 if_14 if_15 iz_16 kc_17 ahpσ_19 chpσ_19 dhpσ_19 ehpσ_19 k3σ_19 iz_20 iz_21 if_22 c_23 c_30 ahpσ_40 bhpσ_40 chpσ_40 ts iz_41 if_42 c_43 kc_49 ahpσ_51 dhpσ_51 ehpσ_51 k3σ_51 k3σ_54 k4σ_54 smσ_54 onσ_54 iz_55; omega) | omega) (by rw [q_lnk (v := 4650) hI (q_tk (k' := 34) hI ha rfl (by decide)) rfl (by decide)]; omega) (show 1 < 2 by decide) (q_inU rfl) dX12_readHand_127 (fun H locs σ_56 hσ_56 hI => ?_)
          replace hF := q_letX hF hσ_56
          have fr_σ_56 := fr_σ_54.si hσ_56 (q_tk (k' := 34) hI ha rfl (by decide)) rfl
          have mv9_σ_56 : (σ_56.1 a 9).toInt = (σ_54.1 a 9).toInt := congrArg Int32.toInt (q_rdn hσ_56 (Or.inl (m_ne ha (q_tk (k' := 34) hI ha rfl (by decide)) (by decide))))
          have mv12_σ_56 : (σ_56.1 a 12).toInt = (σ_54.1 a 12).toInt := congrArg Int32.toInt (q_rdn hσ_56 (Or.inl (m_ne ha (q_tk (k' := 34) hI ha rfl (by decide)) (by decide))))
          have mv14_σ_56 : (σ_56.1 a 14).toInt = (σ_54.1 a 14).toInt := congrArg Int32.toInt (q_rdn hσ_56 (Or.inl (m_ne ha (q_tk (k' := 34) hI ha rfl (by decide)) (by decide))))
          have mv15_σ_56 : (σ_56.1 a 15).toInt = (σ_54.1 a 15).toInt := congrArg Int32.toInt (q_rdn hσ_56 (Or.inl (m_ne ha (q_tk (k' := 34) hI ha rfl (by decide)) (by decide))))
          have mv16_σ_56 : (σ_56.1 a 16).toInt = (σ_54.1 a 16).toInt := congrArg Int32.toInt (q_rdn hσ_56 (Or.inl (m_ne ha (q_tk (k' := 34) hI ha rfl (by decide)) (by decide))))
          have mcσ_56 := m_wr (v := r_8) (A := (3754 + ((10 * r_4.toInt) + r_18.toInt))) hσ_56 iz_55 (by first | (clear hs hz hk h4 k3σ ahpσ_2 dhpσ_2 ehpσ_2 k3σ_2 kc_3 ahpσ_5 chpσ_5 dhpσ_5 ehpσ_5 k3σ_5 kc_6 kc_7 ahpσ_9 chpσ_9 dhpσ_9 ehpσ_9 k3σ_9 ahpσ_11 bhpσ_11 chpσ_11 ahpσ_13 chpσ_13 dhpσ_13 ehpσ_13 k3σ_13 if_14 if_15 iz_16 kc_17 ahpσ_19 chpσ_19 dhpσ_19 ehpσ_19 k3σ_19 iz_20 iz_21 if_22 c_23 c_30 ahpσ_40 bhpσ_40 chpσ_40 ts iz_41 if_42 c_43 kc_49 ahpσ_51 dhpσ_51 ehpσ_51 k3σ_51 k3σ_54 k4σ_54 smσ_54 onσ_54 iz_55 mv9_σ_56 mv12_σ_56 mv14_σ_56 mv15_σ_56 mv16_σ_56; omega) | omega)
          have nnσ_56 : m_N (m_c X σ_56 a) := m_N.hand nnσ_54 (by first | (clear hs hz hk h4 k3σ ahpσ_2 dhpσ_2 ehpσ_2 k3σ_2 kc_3 ahpσ_5 chpσ_5 dhpσ_5 ehpσ_5 k3σ_5 kc_6 kc_7 ahpσ_9 chpσ_9 dhpσ_9 ehpσ_9 k3σ_9 ahpσ_11 bhpσ_11 chpσ_11 ahpσ_13 chpσ_13 dhpσ_13 ehpσ_13 k3σ_13 if_14 if_15 iz_16 kc_17 ahpσ_19 chpσ_19 dhpσ_19 ehpσ_19 k3σ_19 iz_20 iz_21 if_22 c_23 c_30 ahpσ_40 bhpσ_40 chpσ_40 ts iz_41 if_42 c_43 kc_49 ahpσ_51 dhpσ_51 ehpσ_51 k3σ_51 k3σ_54 k4σ_54 smσ_54 onσ_54 iz_55 mv9_σ_56 mv12_σ_56 mv14_σ_56 mv15_σ_56 mv16_σ_56; omega) | omega) (by first | (clear hs hz hk h4 k3σ ahpσ_2 dhpσ_2 ehpσ_2 k3σ_2 kc_3 ahpσ_5 chpσ_5 dhpσ_5 ehpσ_5 k3σ_5 kc_6 kc_7 ahpσ_9 chpσ_9 dhpσ_9 ehpσ_9 k3σ_9 ahpσ_11 bhpσ_11 chpσ_11 ahpσ_13 chpσ_13 dhpσ_13 ehpσ_13 k3σ_13 if_14 if_15 iz_16 kc_17 ahpσ_19 chpσ_19 dhpσ_19 ehpσ_19 k3σ_19 iz_20 iz_21 if_22 c_23 c_30 ahpσ_40 bhpσ_40 chpσ_40 ts iz_41 if_42 c_43 kc_49 ahpσ_51 dhpσ_51 ehpσ_51 k3σ_51 k3σ_54 k4σ_54 smσ_54 onσ_54 iz_55 mv9_σ_56 mv12_σ_56 mv14_σ_56 mv15_σ_56 mv16_σ_56; omega) | omega) (by first | (clear hs hz hk h4 k3σ ahpσ_2 dhpσ_2 ehpσ_2 k3σ_2 kc_3 ahpσ_5 chpσ_5 dhpσ_5 ehpσ_5 k3σ_5 kc_6 kc_7 ahpσ_9 chpσ_9 dhpσ_9 ehpσ_9 k3σ_9 ahpσ_11 bhpσ_11 chpσ_11 ahpσ_13 chpσ_13 dhpσ_13 ehpσ_13 k3σ_13 if_14 if_15 iz_16 kc_17 ahpσ_19 chpσ_19 dhpσ_19 ehpσ_19 k3σ_19 iz_20 iz_21 if_22 c_23 c_30 ahpσ_40 bhpσ_40 chpσ_40 ts iz_41 if_42 c_43 kc_49 ahpσ_51 dhpσ_51 ehpσ_51 k3σ_51 k3σ_54 k4σ_54 smσ_54 onσ_54 iz_55 mv9_σ_56 mv12_σ_56 mv14_σ_56 mv15_σ_56 mv16_σ_56; omega) | omega) mcσ_56 (by first | (clear hs hz hk h4 k3σ ahpσ_2 dhpσ_2 ehpσ_2 k3σ_2 kc_3 ahpσ_5 chpσ_5 dhpσ_5 ehpσ_5 k3σ_5 kc_6 kc_7 ahpσ_9 chpσ_9 dhpσ_9 ehpσ_9 k3σ_9 ahpσ_11 bhpσ_11 chpσ_11 ahpσ_13 chpσ_13 dhpσ_13 ehpσ_13 k3σ_13 if_14 if_15 iz_16 kc_17 ahpσ_19 chpσ_19 dhpσ_19 ehpσ_19 k3σ_19 iz_20 iz_21 if_22 c_23 c_30 ahpσ_40 bhpσ_40 chpσ_40 ts iz_41 if_42 c_43 kc_49 ahpσ_51 dhpσ_51 ehpσ_51 k3σ_51 k3σ_54 k4σ_54 smσ_54 onσ_54 iz_55 mv9_σ_56 mv12_σ_56 mv14_σ_56 mv15_σ_56 mv16_σ_56; omega) | omega) (by rw [funext mcσ_54]; omega)
          have kpσ_56 : ∀ j, 0 ≤ j → j < 3720 → m_c X σ_56 a j = m_c X σ a j := fun j h0 h1 => by rw [mcσ_56 j h0, if_neg (by first | (clear hs hz hk h4 k3σ ahpσ_2 dhpσ_2 ehpσ_2 k3σ_2 kc_3 ahpσ_5 chpσ_5 dhpσ_5 ehpσ_5 k3σ_5 kc_6 kc_7 ahpσ_9 chpσ_9 dhpσ_9 ehpσ_9 k3σ_9 ahpσ_11 bhpσ_11 chpσ_11 ahpσ_13 chpσ_13 dhpσ_13 ehpσ_13 k3σ_13 if_14 if_15 iz_16 kc_17 ahpσ_19 chpσ_19 dhpσ_19 ehpσ_19 k3σ_19 iz_20 iz_21 if_22 c_23 c_30 ahpσ_40 bhpσ_40 chpσ_40 ts iz_41 if_42 c_43 kc_49 ahpσ_51 dhpσ_51 ehpσ_51 k3σ_51 k3σ_54 k4σ_54 smσ_54 onσ_54 iz_55 mv9_σ_56 mv12_σ_56 mv14_σ_56 mv15_σ_56 mv16_σ_56; omega) | omega)]; exact kpσ_54 j h0 h1
          have k3σ_56 : m_c X σ_56 a 3720 = m_c X σ a 3720 ∧ m_c X σ_56 a 3721 = m_c X σ a 3721 := ⟨by rw [mcσ_56 3720 (by decide), if_neg (by first | (clear hs hz hk h4 k3σ ahpσ_2 dhpσ_2 ehpσ_2 k3σ_2 kc_3 ahpσ_5 chpσ_5 dhpσ_5 ehpσ_5 k3σ_5 kc_6 kc_7 ahpσ_9 chpσ_9 dhpσ_9 ehpσ_9 k3σ_9 ahpσ_11 bhpσ_11 chpσ_11 ahpσ_13 chpσ_13 dhpσ_13 ehpσ_13 k3σ_13 if_14 if_15 iz_16 kc_17 ahpσ_19 chpσ_19 dhpσ_19 ehpσ_19 k3σ_19 iz_20 iz_21 if_22 c_23 c_30 ahpσ_40 bhpσ_40 chpσ_40 ts iz_41 if_42 c_43 kc_49 ahpσ_51 dhpσ_51 ehpσ_51 k3σ_51 k3σ_54 k4σ_54 smσ_54 onσ_54 iz_55 mv9_σ_56 mv12_σ_56 mv14_σ_56 mv15_σ_56 mv16_σ_56; omega) | omega)]; exact k3σ_54.1, by rw [mcσ_56 3721 (by decide), if_neg (by first | (clear hs hz hk h4 k3σ ahpσ_2 dhpσ_2 ehpσ_2 k3σ_2 kc_3 ahpσ_5 chpσ_5 dhpσ_5 ehpσ_5 k3σ_5 kc_6 kc_7 ahpσ_9 chpσ_9 dhpσ_9 ehpσ_9 k3σ_9 ahpσ_11 bhpσ_11 chpσ_11 ahpσ_13 chpσ_13 dhpσ_13 ehpσ_13 k3σ_13 if_14 if_15 iz_16 kc_17 ahpσ_19 chpσ_19 dhpσ_19 ehpσ_19 k3σ_19 iz_20 iz_21 if_22 c_23 c_30 ahpσ_40 bhpσ_40 chpσ_40 ts iz_41 if_42 c_43 kc_49 ahpσ_51 dhpσ_51 ehpσ_51 k3σ_51 k3σ_54 k4σ_54 smσ_54 onσ_54 iz_55 mv9_σ_56 mv12_σ_56 mv14_σ_56 mv15_σ_56 mv16_σ_56; omega) | omega)]; exact k3σ_54.2⟩
          have k4σ_56 : 1 ≤ m_c X σ_56 a 3724 + 10 * (σ_56.1 a 12).toInt := (by have := mcσ_56 3724 (by decide); rw [if_neg (by first | (clear hs hz hk h4 k3σ ahpσ_2 dhpσ_2 ehpσ_2 k3σ_2 kc_3 ahpσ_5 chpσ_5 dhpσ_5 ehpσ_5 k3σ_5 kc_6 kc_7 ahpσ_9 chpσ_9 dhpσ_9 ehpσ_9 k3σ_9 ahpσ_11 bhpσ_11 chpσ_11 ahpσ_13 chpσ_13 dhpσ_13 ehpσ_13 k3σ_13 if_14 if_15 iz_16 kc_17 ahpσ_19 chpσ_19 dhpσ_19 ehpσ_19 k3σ_19 iz_20 iz_21 if_22 c_23 c_30 ahpσ_40 bhpσ_40 chpσ_40 ts iz_41 if_42 c_43 kc_49 ahpσ_51 dhpσ_51 ehpσ_51 k3σ_51 k3σ_54 k4σ_54 smσ_54 onσ_54 iz_55 mv9_σ_56 mv12_σ_56 mv14_σ_56 mv15_σ_56 mv16_σ_56 k3σ_56; omega) | omega)] at this; omega)
          have smσ_56 : 0 ≤ (σ_56.1 a 15).toInt ∧ (σ_56.1 a 15).toInt ≤ (σ_56.1 a 16).toInt ∧ (σ_56.1 a 16).toInt ≤ (σ_56.1 a 9).toInt ∧ (σ_56.1 a 9).toInt ≤ 900 ∧ 0 ≤ (σ_56.1 a 14).toInt ∧ (σ_56.1 a 14).toInt ≤ 4 ∧ (σ_56.1 a 14).toInt ≤ 4 * ((σ_56.1 a 16).toInt - (σ_56.1 a 15).toInt) ∧ (σ_56.1 a 14).toInt ≤ 4 * ((σ_56.1 a 9).toInt - (σ_56.1 a 15).toInt) ∧ 0 ≤ (σ_56.1 a 12).toInt ∧ (σ_56.1 a 9).toInt = (σ.1 a 9).toInt ∧ (σ.1 a 15).toInt ≤ (σ_56.1 a 15).toInt ∧ (σ.1 a 12).toInt ≤ (σ_56.1 a 12).toInt := (by first | (rw [mv12_σ_56, mv14_σ_56, mv15_σ_56, mv16_σ_56, mv9_σ_56]; exact smσ_54) | omega)
          have onσ_56 : (σ.1 a 16).toInt ≤ (σ_56.1 a 15).toInt := (by first | (clear hs hz hk h4 k3σ ahpσ_2 dhpσ_2 ehpσ_2 k3σ_2 kc_3 ahpσ_5 chpσ_5 dhpσ_5 ehpσ_5 k3σ_5 kc_6 kc_7 ahpσ_9 chpσ_9 dhpσ_9 ehpσ_9 k3σ_9 ahpσ_11 bhpσ_11 chpσ_11 ahpσ_13 chpσ_13 dhpσ_13 ehpσ_13 k3σ_13 if_14 if_15 iz_16 kc_17 ahpσ_19 chpσ_19 dhpσ_19 ehpσ_19 k3σ_19 iz_20 iz_21 if_22 c_23 c_30 ahpσ_40 bhpσ_40 chpσ_40 ts iz_41 if_42 c_43 kc_49 ahpσ_51 dhpσ_51 ehpσ_51 k3σ_51 k3σ_54 k4σ_54 smσ_54 onσ_54 iz_55 mv9_σ_56 mv12_σ_56 mv14_σ_56 mv15_σ_56 mv16_σ_56 k3σ_56 k4σ_56 smσ_56; omega) | omega)
          clear mv9_σ_56 mv12_σ_56 mv14_σ_56 mv15_σ_56 mv16_σ_56 k4σ_54 smσ_54 onσ_54
          exact q_retv E hr hlk hI ⟨nnσ_56, kpσ_56, (by first | exact smσ_56 | omega), (by first | exact smσ_56 | omega), k3σ_56, k4σ_56, (hF.trans hout), fr_σ_56⟩ dX12_readHand_128
        · skip
          replace hF := q_ifp hF c_53
          exact q_retv E hr hlk hI ⟨nnσ_51, kpσ_51, (by first | exact smσ_51 | omega), (by first | exact smσ_51 | omega), k3σ_51, k4σ_51, (hF.trans hout), fr_σ_51⟩ dX12_readHand_107
